theorem zfr2.lies {σ σ' : zx_M} {a la b lb lo ln : Nat} (h : zfr2 σ σ' a la b lb) (h1 : lo ≤ a ∧ a + la ≤ lo + ln) (h2 : lo ≤ b ∧ b + lb ≤ lo + ln) : zfr σ σ' lo ln := fun q hq => h q (by omega) (by omega)
theorem zC.ut {g : zx_G} {σ σ' : zx_M} {b t e s k p x y lv len nx n0 n m c : Nat} {wr od : Int32} {W : Nat → Int32} {R0 R Q N S K : Nat → Nat → Int32} {Sg : Nat → Int32} {L : List Int32} {len' nx' : Nat} {wr' : Int32} {W' : Nat → Int32} (h : zC g σ b t e s k p x y lv len nx n0 n m c wr od W R0 R Q N S K Sg L) (hf : zfr σ σ' t 2) (hO : zt g σ' t len' nx' wr' lv W') : zC g σ' b t e s k p x y lv len' nx' n0 n m c wr' od W' R0 R Q N S K Sg L ∧ zfr σ σ' b 56 := by
  obtain ⟨hlay, h1, h2, h3, h4, h5, h6, h7, h8, h9⟩ := h
  obtain ⟨ht, he, hs9, hk9, hp9, hx, hy, hl, hxy, hxl, hyl⟩ := hlay.f
  exact ⟨⟨hlay, h1.frn hf 0 rfl (by omega), hO, h3.frn hf 11 rfl (by omega), h4.frn hf 11 rfl (by omega), h5.frn hf 11 rfl (by omega), h6.frn hf 6 rfl (by omega), h7.frn hf 2 rfl (by omega), h8.frn hf 4 rfl (by omega), h9.frn hf 1 rfl (by omega)⟩, hf.wide (by omega) (by omega)⟩
theorem zC.un {g : zx_G} {σ σ' : zx_M} {b t e s k p x y lv len nx n0 n m c : Nat} {wr od : Int32} {W : Nat → Int32} {R0 R Q N S K : Nat → Nat → Int32} {Sg : Nat → Int32} {L : List Int32} {N' : Nat → Nat → Int32} (h : zC g σ b t e s k p x y lv len nx n0 n m c wr od W R0 R Q N S K Sg L) (hf : zfr σ σ' e 7) (hN : zn g σ' e N') : zC g σ' b t e s k p x y lv len nx n0 n m c wr od W R0 R Q N' S K Sg L ∧ zfr σ σ' b 56 := by
  obtain ⟨hlay, h1, h2, h3, h4, h5, h6, h7, h8, h9⟩ := h
  obtain ⟨ht, he, hs9, hk9, hp9, hx, hy, hl, hxy, hxl, hyl⟩ := hlay.f
  exact ⟨⟨hlay, h1.frn hf 0 rfl (by omega), h2.frn hf 1 rfl (by omega), h3.frn hf 11 rfl (by omega), h4.frn hf 11 rfl (by omega), h5.frn hf 11 rfl (by omega), hN, h7.frn hf 2 rfl (by omega), h8.frn hf 4 rfl (by omega), h9.frn hf 1 rfl (by omega)⟩, hf.wide (by omega) (by omega)⟩
theorem zC.us {g : zx_G} {σ σ' : zx_M} {b t e s k p x y lv len nx n0 n m c : Nat} {wr od : Int32} {W : Nat → Int32} {R0 R Q N S K : Nat → Nat → Int32} {Sg : Nat → Int32} {L : List Int32} {S' : Nat → Nat → Int32} (h : zC g σ b t e s k p x y lv len nx n0 n m c wr od W R0 R Q N S K Sg L) (hf : zfr σ σ' s 3) (hS : zs g σ' s S') : zC g σ' b t e s k p x y lv len nx n0 n m c wr od W R0 R Q N S' K Sg L ∧ zfr σ σ' b 56 := by
  obtain ⟨hlay, h1, h2, h3, h4, h5, h6, h7, h8, h9⟩ := h
  obtain ⟨ht, he, hs9, hk9, hp9, hx, hy, hl, hxy, hxl, hyl⟩ := hlay.f
  exact ⟨⟨hlay, h1.frn hf 0 rfl (by omega), h2.frn hf 1 rfl (by omega), h3.frn hf 11 rfl (by omega), h4.frn hf 11 rfl (by omega), h5.frn hf 11 rfl (by omega), h6.frn hf 6 rfl (by omega), hS, h8.frn hf 4 rfl (by omega), h9.frn hf 1 rfl (by omega)⟩, hf.wide (by omega) (by omega)⟩
theorem zC.up {g : zx_G} {σ σ' : zx_M} {b t e s k p x y lv len nx n0 n m c : Nat} {wr od : Int32} {W : Nat → Int32} {R0 R Q N S K : Nat → Nat → Int32} {Sg : Nat → Int32} {L : List Int32} {Sg' : Nat → Int32} {L' : List Int32} (h : zC g σ b t e s k p x y lv len nx n0 n m c wr od W R0 R Q N S K Sg L) (hf : zfr σ σ' p 2) (hP : zpo g σ' p Sg' L') : zC g σ' b t e s k p x y lv len nx n0 n m c wr od W R0 R Q N S K Sg' L' ∧ zfr σ σ' b 56 := by
  obtain ⟨hlay, h1, h2, h3, h4, h5, h6, h7, h8, h9⟩ := h
  obtain ⟨ht, he, hs9, hk9, hp9, hx, hy, hl, hxy, hxl, hyl⟩ := hlay.f
  exact ⟨⟨hlay, h1.frn hf 0 rfl (by omega), h2.frn hf 1 rfl (by omega), h3.frn hf 11 rfl (by omega), h4.frn hf 11 rfl (by omega), h5.frn hf 11 rfl (by omega), h6.frn hf 6 rfl (by omega), h7.frn hf 2 rfl (by omega), h8.frn hf 4 rfl (by omega), hP⟩, hf.wide (by omega) (by omega)⟩
theorem zC.um {g : zx_G} {σ σ' : zx_M} {b t e s k p x y lv len nx n0 n m c : Nat} {wr od : Int32} {W : Nat → Int32} {R0 R Q N S K : Nat → Nat → Int32} {Sg : Nat → Int32} {L : List Int32} {R' N' : Nat → Nat → Int32} (h : zC g σ b t e s k p x y lv len nx n0 n m c wr od W R0 R Q N S K Sg L) (hf : zfr2 σ σ' x 12 e 7) (hR : zl g σ' x n R') (hN : zn g σ' e N') : zC g σ' b t e s k p x y lv len nx n0 n m c wr od W R0 R' Q N' S K Sg L ∧ zfr σ σ' b 56 := by
  obtain ⟨hlay, h1, h2, h3, h4, h5, h6, h7, h8, h9⟩ := h
  obtain ⟨ht, he, hs9, hk9, hp9, hx, hy, hl, hxy, hxl, hyl⟩ := hlay.f
  exact ⟨⟨hlay, h1.fr2 hf 0 rfl (by omega), h2.fr2 hf 1 rfl (by omega), h3.fr2 hf 11 rfl (by omega), hR, h5.fr2 hf 11 rfl (by omega), hN, h7.fr2 hf 2 rfl (by omega), h8.fr2 hf 4 rfl (by omega), h9.fr2 hf 1 rfl (by omega)⟩, hf.lies (by omega) (by omega)⟩
theorem zC.uk {g : zx_G} {σ σ' : zx_M} {b t e s k p x y lv len nx n0 n m c : Nat} {wr od : Int32} {W : Nat → Int32} {R0 R Q N S K : Nat → Nat → Int32} {Sg : Nat → Int32} {L : List Int32} {R' K' : Nat → Nat → Int32} (h : zC g σ b t e s k p x y lv len nx n0 n m c wr od W R0 R Q N S K Sg L) (hf : zfr2 σ σ' x 12 k 5) (hR : zl g σ' x n R') (hK : zka g σ' k c od K') : zC g σ' b t e s k p x y lv len nx n0 n m c wr od W R0 R' Q N S K' Sg L ∧ zfr σ σ' b 56 := by
  obtain ⟨hlay, h1, h2, h3, h4, h5, h6, h7, h8, h9⟩ := h
  obtain ⟨ht, he, hs9, hk9, hp9, hx, hy, hl, hxy, hxl, hyl⟩ := hlay.f
  exact ⟨⟨hlay, h1.fr2 hf 0 rfl (by omega), h2.fr2 hf 1 rfl (by omega), h3.fr2 hf 11 rfl (by omega), hR, h5.fr2 hf 11 rfl (by omega), h6.fr2 hf 6 rfl (by omega), h7.fr2 hf 2 rfl (by omega), hK, h9.fr2 hf 1 rfl (by omega)⟩, hf.lies (by omega) (by omega)⟩
/-- what is kept between two rounds of the law -/
def zIV (g : zx_G) (σ : zx_M) (b : Nat) : Prop := ∃ (t : Nat) (e : Nat) (s : Nat) (k : Nat) (p : Nat) (x : Nat) (y : Nat) (lv : Nat) (len : Nat) (nx : Nat) (n0 : Nat) (n : Nat) (m : Nat) (c : Nat) (wr : Int32) (od : Int32) (W : Nat → Int32) (R0 : Nat → Nat → Int32) (R : Nat → Nat → Int32) (Q : Nat → Nat → Int32) (N : Nat → Nat → Int32) (S : Nat → Nat → Int32) (K : Nat → Nat → Int32) (Sg : Nat → Int32) (L : List Int32) (th : Int32) (ps : Nat) (ot : Nat) (pr : Nat) (fr : Int32) (M : Nat → Nat → Int32) (pa : Nat → Option Nat) (dp : Nat → Nat) (fo : Int64), zC g σ b t e s k p x y lv len nx n0 n m c wr od W R0 R Q N S K Sg L ∧ zmo g σ (b + 56) th len wr ps n ot c fr pr M ∧ zol g σ (b + 78) fo ∧ zAt len W (M 0) ∧ zCt n R M pa dp ∧ zDt N M ∧ zEt n c m od Q K fr M ∧ zFt L pr Sg (M 20)
/-- what is known of the start, in the law -/
def zSL (g : zx_G) (scr Ls : Nat) (xs : Nat → Int32) : State → Code → Prop := fun s _ => zxX g s ∧ va_X scr Ls xs s s.heap ∧ scr < s.heap.size ∧ scr < g.2.2.1 ∧ g.2.2.1 = s.heap.size
abbrev zLV (scr b i : Nat) : List (Nat × Value) := [(4, .int (nI i)), (3, .ref (b + 78)), (2, .ref (b + 56)), (1, .ref b), (0, .ref scr)]
abbrev zL (g : zx_G) (scr Ls : Nat) (xs : Nat → Int32) (QQ : List Frame → Array Value → State → State → Prop) (pc : Nat) (lv : List (Nat × Value)) (st : List Value) (σ : zx_M) (sz kc ks : Nat) : Prop := zG g "FindingAidLaw" cb_W_law 7 ret false room_1 (zSL g scr Ls xs) QQ pc lv st σ sz kc ks
theorem zg_sld {g : zx_G} {own : String} {cc : ByteArray} {nL : Nat} {ret : Option FieldType} {ini : Bool} {rm : Room} {QQ : List Frame → Array Value → State → State → Prop} {pc : Nat} {lv : List (Nat × Value)} {rest : List Value} {σ : zx_M} {sz kc ks scr Ls j : Nat} {xs : Nat → Int32} (hd : decode cc pc = .ok (.iaload, 1)) (hj : j < Ls) (hL : Ls < 2 ^ 31) (k : zG g own cc nL ret ini rm (zSL g scr Ls xs) QQ (pc + 1) lv (.int (xs j) :: rest) σ sz kc ks) : zG g own cc nL ret ini rm (zSL g scr Ls xs) QQ pc lv (.int (nI j) :: .ref scr :: rest) σ sz kc ks := by
  intro p e s m args below meth c hA hSC H locs ls hW hS hl
  refine va_sld hA.1 hA.2.1 hSC.2.1 hSC.2.2.1 (Nat.not_le.mpr hSC.2.2.2.1) hS (vp_in_nI hj hL) hd ?_
  rw [nI_clamp (by omega)]
  exact k p e s m args below meth c hA hSC H locs ls hW hS hl
theorem zg_slen {g : zx_G} {own : String} {cc : ByteArray} {nL : Nat} {ret : Option FieldType} {ini : Bool} {rm : Room} {QQ : List Frame → Array Value → State → State → Prop} {pc : Nat} {lv : List (Nat × Value)} {rest : List Value} {σ : zx_M} {sz kc ks scr Ls : Nat} {xs : Nat → Int32} (hd : decode cc pc = .ok (.arraylength, 1)) (k : zG g own cc nL ret ini rm (zSL g scr Ls xs) QQ (pc + 1) lv (.int (nI Ls) :: rest) σ sz kc ks) : zG g own cc nL ret ini rm (zSL g scr Ls xs) QQ pc lv (.ref scr :: rest) σ sz kc ks := by
  intro p e s m args below meth c hA hSC H locs ls hW hS hl
  exact va_slen hA.1 hA.2.1 hSC.2.1 hSC.2.2.1 (Nat.not_le.mpr hSC.2.2.2.1) hS hd (k p e s m args below meth c hA hSC H locs ls hW hS hl)
theorem zcmp0 (x : Int64) : lg_cmp x x = 0 := by
  unfold lg_cmp
  rw [if_neg (fun h9 : x > x => Int64.lt_irrefl h9), if_pos rfl]
theorem zw_cw_read : Cond.codeWith cy_W_read cb_W_read 3 (some .int) [(0, 8, 11, 13)] ∈ zc_T := zc_in 524 (by decide +kernel) (by decide +kernel)
theorem zw_cw_merge : Cond.codeWith cy_W_merge cb_W_merge 3 (some .int) [(0, 8, 11, 13)] ∈ zc_T := zc_in 687 (by decide +kernel) (by decide +kernel)
theorem zEt_lt {n c m : Nat} {od fr : Int32} {Q K M : Nat → Nat → Int32} (h : zEt n c m od Q K fr M) {j : Nat} (hj : j < c) : od = 0 → (K 1 j).toNatClampNeg < m := by
  intro h0
  rcases h.2.2.2.2 with h1 | ⟨h1, -⟩ | ⟨-, -, h1⟩
  · omega
  · rw [h1] at h0; exact absurd h0 (by decide)
  · exact (h1 j hj).2.1
