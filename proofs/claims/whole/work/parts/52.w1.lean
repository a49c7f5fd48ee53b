theorem zlay.f {b t e s k p x y lv : Nat} (h : zlay b t e s k p x y lv) : t = b + 1 ∧ e = b + 15 ∧ s = b + 22 ∧ k = b + 25 ∧ p = b + 30 ∧ (b + 3 ≤ x ∧ x + 12 ≤ b + 56 ∧ (x + 12 ≤ b + 15 ∨ b + 32 ≤ x)) ∧ (b + 3 ≤ y ∧ y + 12 ≤ b + 56 ∧ (y + 12 ≤ b + 15 ∨ b + 32 ≤ y)) ∧ (b + 3 ≤ lv ∧ lv + 12 ≤ b + 56 ∧ (lv + 12 ≤ b + 15 ∨ b + 32 ≤ lv)) ∧ (x + 12 ≤ y ∨ y + 12 ≤ x) ∧ (x + 12 ≤ lv ∨ lv + 12 ≤ x) ∧ (y + 12 ≤ lv ∨ lv + 12 ≤ y) := by
  obtain ⟨h1, h2, h3, h4, h5, h6, h7, h8, h9, h10, h11⟩ := h
  refine ⟨h1, h2, h3, h4, h5, ?_, ?_, ?_, ?_, ?_, ?_⟩
  · rcases h6 with h | h | h <;> omega
  · rcases h7 with h | h | h <;> omega
  · rcases h8 with h | h | h <;> omega
  · rcases h6 with h | h | h <;> rcases h7 with h' | h' | h' <;> omega
  · rcases h6 with h | h | h <;> rcases h8 with h' | h' | h' <;> omega
  · rcases h7 with h | h | h <;> rcases h8 with h' | h' | h' <;> omega
theorem zlay.r1 {b t e s k p x y lv : Nat} (h : zlay b t e s k p x y lv) : zlay b t e s k p lv y x := by
  obtain ⟨h1, h2, h3, h4, h5, h6, h7, h8, h9, h10, h11⟩ := h
  exact ⟨h1, h2, h3, h4, h5, h8, h7, h6, fun h => h11 h.symm, fun h => h10 h.symm, fun h => h9 h.symm⟩
theorem zlay.r2 {b t e s k p x y lv : Nat} (h : zlay b t e s k p x y lv) : zlay b t e s k p x lv y := by
  obtain ⟨h1, h2, h3, h4, h5, h6, h7, h8, h9, h10, h11⟩ := h
  exact ⟨h1, h2, h3, h4, h5, h6, h8, h7, h10, h9, fun h => h11 h.symm⟩
/-- the class's object with all its parts -/
def zC (g : zx_G) (σ : zx_M) (b t e s k p x y lv len nx n0 n m c : Nat) (wr od : Int32) (W : Nat → Int32) (R0 R Q N S K : Nat → Nat → Int32) (Sg : Nat → Int32) (L : List Int32) : Prop :=
  zlay b t e s k p x y lv ∧ zfa g σ b t e s k p x y ∧ zt g σ t len nx wr lv W ∧ zl g σ lv n0 R0 ∧ zl g σ x n R ∧ zl g σ y m Q ∧ zn g σ e N ∧ zs g σ s S ∧ zka g σ k c od K ∧ zpo g σ p Sg L
theorem zC.fr {g : zx_G} {σ σ' : zx_M} {b t e s k p x y lv len nx n0 n m c : Nat} {wr od : Int32} {W : Nat → Int32} {R0 R Q N S K : Nat → Nat → Int32} {Sg : Nat → Int32} {L : List Int32} (h : zC g σ b t e s k p x y lv len nx n0 n m c wr od W R0 R Q N S K Sg L) {lo ln : Nat} (hf : zfr σ σ' lo ln) (hd : b + 56 ≤ lo ∨ lo + ln ≤ b) : zC g σ' b t e s k p x y lv len nx n0 n m c wr od W R0 R Q N S K Sg L := by
  obtain ⟨hlay, h1, h2, h3, h4, h5, h6, h7, h8, h9⟩ := h
  obtain ⟨ht, he, hs9, hk9, hp9, ⟨hx1, hx2, -⟩, ⟨hy1, hy2, -⟩, ⟨hl1, hl2, -⟩, -, -, -⟩ := hlay.f
  refine ⟨hlay, h1.frn hf 0 rfl (by omega), h2.frn hf 1 rfl (by omega), h3.frn hf 11 rfl (by omega), h4.frn hf 11 rfl (by omega), h5.frn hf 11 rfl (by omega), h6.frn hf 6 rfl (by omega), h7.frn hf 2 rfl (by omega), h8.frn hf 4 rfl (by omega), h9.frn hf 1 rfl (by omega)⟩
/-- the law's cell for a long -/
def zol (g : zx_G) (σ : zx_M) (o : Nat) (v : Int64) : Prop := ∃ f : Nat → Int64, σ o = some (.inl (g.2.2.2.1 2, 1, .inr (.inl f))) ∧ f 0 = v
theorem zol.fr {g : zx_G} {σ σ' : zx_M} {o : Nat} {v : Int64} (h : zol g σ o v) {lo ln : Nat} (hf : zfr σ σ' lo ln) (hd : o < lo ∨ lo + ln ≤ o) : zol g σ' o v := by
  obtain ⟨f, h1, h2⟩ := h
  exact ⟨f, (hf o hd).trans h1, h2⟩
theorem zw_l13 : Cond.classLink "FindingAidLaw" 13 zISE ∈ zc_T := zc_in 525 (by decide +kernel) (by decide +kernel)
abbrev zr_W_read : Room := { frames := 7, cells := 1, slots := 6, locals := 152 }
set_option maxRecDepth 100000 in
set_option maxHeartbeats 4000000 in
theorem kc_W_read_ok {g : zx_G} {σ : zx_M} {sz : Nat} {b t e s k p x y lv len nx n0 n m c nx1 m1 o : Nat} {wr wr1 od : Int32} {W : Nat → Int32} {R0 R Q N S K R1 : Nat → Nat → Int32} {Sg : Nat → Int32} {L : List Int32} {fo : Int64} (hC : zC g σ b t e s k p x y lv len nx n0 n m c wr od W R0 R Q N S K Sg L) (hlen : len ≤ 3000) (ho : zol g σ o fo) (hob : b + 56 ≤ o) (hpar : zt_lines (za W len) len 100 0 0 (-1) R0 = (true, nx1, wr1, R1, m1)) : zMW g cy_W_read cb_W_read 3 (some .int) [(0, 8, 11, 13)] zr_W_read 1 6 [.ref b, .ref o] σ sz (zPi (fun v σ' sz' => v = nI 0 ∧ sz' = sz ∧ m1 ≤ 100 ∧ zfr2 σ σ' b 56 o 1 ∧ zC g σ' b t e s k p lv y x 0 nx1 n m1 m c wr1 (nI 1) W R R1 Q (zn_fgt N) S K Sg L ∧ zol g σ' o (nI m1).toInt64)) := by
  obtain ⟨hlay, hB, hO, hV, h, hY, hN, hS, hK, hP⟩ := hC
  refine zMW_of (lv := [(0, .ref b), (1, .ref o)]) (own := "FindingAidLaw") (ini := false) (by decide) rfl (by decide) (Nat.le_of_ble_eq_true rfl) rfl ?_
  refine zg_aload_n 1 cd_W_read_0 rfl rfl ?_
  refine zg_iconst (v := nI 0) cd_W_read_1 (by decide) ?_
  refine zg_aload_n 0 cd_W_read_2 rfl rfl ?_
  refine zg_callVi (rm' := zr_F_read) (b := b) (As := []) (rest := [.int (nI 0), .ref o]) (kc_F_read_ok hlay hB hO hlen hV h hY hN hS hK hP hpar) ⟨rfl, rfl⟩ zy_F_read_ok zm_526 zm_527 zm_528 (ci := 6) rfl rfl (by decide) (by decide) cd_W_read_3 hB.1 rfl rfl (Nat.le_of_ble_eq_true rfl) (fun v9 σ9 sz9 hq9 => ?_)
  obtain ⟨hv9, hs9, hF9, hm9, hB, hO, hV, h, hY, hN, hS, hK, hP⟩ := hq9
  rw [hv9]
  obtain ⟨fo9, ho9, -⟩ := ho.fr hF9 (by omega)
  refine zg_of_ze ?_
  refine ze_i2l (v := (nI m1).toInt64) cd_W_read_6 rfl ?_
  refine ze_last (j := 0) cd_W_read_7 ho9 rfl (by decide) (by decide) ?_
  refine ze_goto (tgt := 14) cd_W_read_8 (by decide) ?_
  refine ze_iconst (v := nI 0) cd_W_read_14 (by decide) ?_
  have hup : zfr σ9 (zx_up σ9 o (.inl (g.2.2.2.1 2, 1, .inr (.inl (vp_updL fo9 0 (nI m1).toInt64))))) o 1 := zfr.up zfr.rf (Nat.le_refl _) (Nat.lt_succ_self _)
  refine ze_iret cd_W_read_15 rfl (by decide) (by decide) ⟨_, rfl, rfl, hs9, hm9, fun q q1 q2 => ?_, zC.fr ⟨hlay.r1, hB, hO, h, hV, hY, hN, hS, hK, hP⟩ hup (by omega), ?_⟩
  · rw [hup q (by omega)]; exact hF9 q (by omega)
  · exact ⟨_, zx_up_self, by simp [vp_updL]⟩
set_option maxRecDepth 100000 in
set_option maxHeartbeats 4000000 in
theorem kc_W_read_thr {g : zx_G} {σ : zx_M} {sz : Nat} {b t e s k p x y lv len nx n0 n m c nx1 m1 o : Nat} {wr wr1 od : Int32} {W : Nat → Int32} {R0 R Q N S K R1 : Nat → Nat → Int32} {Sg : Nat → Int32} {L : List Int32} {fo : Int64} (hfl : g.1.flags = pinnedFlags ++ [noTraceFlag]) (hC : zC g σ b t e s k p x y lv len nx n0 n m c wr od W R0 R Q N S K Sg L) (hlen : len ≤ 3000) (ho : zol g σ o fo) (hob : b + 56 ≤ o) (hpar : zt_lines (za W len) len 100 0 0 (-1) R0 = (false, nx1, wr1, R1, m1)) : zMW g cy_W_read cb_W_read 3 (some .int) [(0, 8, 11, 13)] zr_W_read 1 6 [.ref b, .ref o] σ sz (zPi (fun v σ' sz' => v = nI 1 ∧ sz' = sz + 1 ∧ zfr2 σ σ' t 2 lv 12 ∧ ∃ n', n' ≤ 100 ∧ zC g σ' b t e s k p x y lv 0 nx1 n' n m c wr1 od W R1 R Q N S K Sg L ∧ zol g σ' o fo)) := by
  obtain ⟨hlay, hB, hO, hV, h, hY, hN, hS, hK, hP⟩ := hC
  have hlay0 := hlay
  obtain ⟨ht, he, hs8, hk9, hp9, hx9, hy9, hl9, hxy, hxl, hyl⟩ := hlay.f
  refine zMW_of (lv := [(0, .ref b), (1, .ref o)]) (own := "FindingAidLaw") (ini := false) (by decide) rfl (by decide) (Nat.le_of_ble_eq_true rfl) rfl ?_
  refine zg_aload_n 1 cd_W_read_0 rfl rfl ?_
  refine zg_iconst (v := nI 0) cd_W_read_1 (by decide) ?_
  refine zg_aload_n 0 cd_W_read_2 rfl rfl ?_
  refine zg_callVT (rm' := zr_F_read) (b := b) (As := []) (rest := [.int (nI 0), .ref o]) (kc_F_read_thr hfl hB hO hlen hV (by omega) hpar) zy_F_read_ok zm_526 zm_527 zm_528 (ci := 6) rfl rfl (by decide) (by decide) cd_W_read_3 hB.1 rfl rfl (Nat.le_of_ble_eq_true rfl) (fun s c h9 => h9) (by decide) zw_l13 (fun x9 σ9 sz9 hq9 => ?_)
  obtain ⟨hs9, hF9, hO, n9, hn9, hV⟩ := hq9
  refine zg_of_ze ?_
  refine ze_astore_n (lv' := [(2, .ref x9), (0, .ref b), (1, .ref o)]) cd_W_read_11 rfl (by decide) rfl ?_
  refine ze_iconst (v := nI 1) cd_W_read_12 (by decide) ?_
  exact ze_iret cd_W_read_13 rfl (by decide) (by decide) ⟨_, rfl, rfl, hs9, hF9, n9, hn9, ⟨hlay0, hB.fr2 hF9 0 rfl (by omega), hO, hV, h.fr2 hF9 11 rfl (by omega), hY.fr2 hF9 11 rfl (by omega), hN.fr2 hF9 6 rfl (by omega), hS.fr2 hF9 2 rfl (by omega), hK.fr2 hF9 4 rfl (by omega), hP.fr2 hF9 1 rfl (by omega)⟩, ho.imp (fun f h9 => ⟨(hF9 o (by omega) (by omega)).trans h9.1, h9.2⟩)⟩
abbrev zr_W_merge : Room := { frames := 7, cells := 1, slots := 6, locals := 152 }
set_option maxRecDepth 100000 in
set_option maxHeartbeats 4000000 in
theorem kc_W_merge_ok {g : zx_G} {σ : zx_M} {sz : Nat} {b t e s k p x y lv len nx n0 n m c nx1 m1 o : Nat} {wr wr1 od : Int32} {W : Nat → Int32} {R0 R Q N S K R1 : Nat → Nat → Int32} {Sg : Nat → Int32} {L : List Int32} {fo : Int64} (hC : zC g σ b t e s k p x y lv len nx n0 n m c wr od W R0 R Q N S K Sg L) (hlen : len ≤ 3000) (ho : zol g σ o fo) (hob : b + 56 ≤ o) (hpar : zt_lines (za W len) len 100 0 0 (-1) R0 = (true, nx1, wr1, R1, m1)) (hT : zl_T n R) (hn : n ≤ 100) : zMW g cy_W_merge cb_W_merge 3 (some .int) [(0, 8, 11, 13)] zr_W_merge 1 6 [.ref b, .ref o] σ sz (zPi (fun v σ' sz' => v = nI 0 ∧ sz' = sz ∧ m1 ≤ 100 ∧ zfr2 σ σ' b 56 o 1 ∧ zC g σ' b t e s k p x lv y 0 nx1 m n m1 (zk_gat n R m1 R1 K).1 wr1 (nI 0) W Q R R1 N S (zk_gat n R m1 R1 K).2 Sg L ∧ zol g σ' o (nI (zk_gat n R m1 R1 K).1).toInt64)) := by
  obtain ⟨hlay, hB, hO, hV, h, hY, hN, hS, hK, hP⟩ := hC
  refine zMW_of (lv := [(0, .ref b), (1, .ref o)]) (own := "FindingAidLaw") (ini := false) (by decide) rfl (by decide) (Nat.le_of_ble_eq_true rfl) rfl ?_
  refine zg_aload_n 1 cd_W_merge_0 rfl rfl ?_
  refine zg_iconst (v := nI 0) cd_W_merge_1 (by decide) ?_
  refine zg_aload_n 0 cd_W_merge_2 rfl rfl ?_
  refine zg_callVi (rm' := zr_F_merge) (b := b) (As := []) (rest := [.int (nI 0), .ref o]) (kc_F_merge_ok hlay hB hO hlen hV h hY hN hS hK hP hpar hT hn) ⟨rfl, rfl⟩ zy_F_merge_ok zm_688 zm_689 zm_690 (ci := 6) rfl rfl (by decide) (by decide) cd_W_merge_3 hB.1 rfl rfl (Nat.le_of_ble_eq_true rfl) (fun v9 σ9 sz9 hq9 => ?_)
  obtain ⟨hv9, hs9, hF9, hm9, hB, hO, hV, h, hY, hN, hS, hK, hP⟩ := hq9
  rw [hv9]
  obtain ⟨fo9, ho9, -⟩ := ho.fr hF9 (by omega)
  refine zg_of_ze ?_
  refine ze_i2l (v := (nI (zk_gat n R m1 R1 K).1).toInt64) cd_W_merge_6 rfl ?_
  refine ze_last (j := 0) cd_W_merge_7 ho9 rfl (by decide) (by decide) ?_
  refine ze_goto (tgt := 14) cd_W_merge_8 (by decide) ?_
  refine ze_iconst (v := nI 0) cd_W_merge_14 (by decide) ?_
  have hup : zfr σ9 (zx_up σ9 o (.inl (g.2.2.2.1 2, 1, .inr (.inl (vp_updL fo9 0 (nI (zk_gat n R m1 R1 K).1).toInt64))))) o 1 := zfr.up zfr.rf (Nat.le_refl _) (Nat.lt_succ_self _)
  refine ze_iret cd_W_merge_15 rfl (by decide) (by decide) ⟨_, rfl, rfl, hs9, hm9, fun q q1 q2 => ?_, zC.fr ⟨hlay.r2, hB, hO, hY, h, hV, hN, hS, hK, hP⟩ hup (by omega), ?_⟩
  · rw [hup q (by omega)]; exact hF9 q (by omega)
  · exact ⟨_, zx_up_self, by simp [vp_updL]⟩
set_option maxRecDepth 100000 in
set_option maxHeartbeats 4000000 in
theorem kc_W_merge_thr {g : zx_G} {σ : zx_M} {sz : Nat} {b t e s k p x y lv len nx n0 n m c nx1 m1 o : Nat} {wr wr1 od : Int32} {W : Nat → Int32} {R0 R Q N S K R1 : Nat → Nat → Int32} {Sg : Nat → Int32} {L : List Int32} {fo : Int64} (hfl : g.1.flags = pinnedFlags ++ [noTraceFlag]) (hC : zC g σ b t e s k p x y lv len nx n0 n m c wr od W R0 R Q N S K Sg L) (hlen : len ≤ 3000) (ho : zol g σ o fo) (hob : b + 56 ≤ o) (hpar : zt_lines (za W len) len 100 0 0 (-1) R0 = (false, nx1, wr1, R1, m1)) : zMW g cy_W_merge cb_W_merge 3 (some .int) [(0, 8, 11, 13)] zr_W_merge 1 6 [.ref b, .ref o] σ sz (zPi (fun v σ' sz' => v = nI 1 ∧ sz' = sz + 1 ∧ zfr2 σ σ' t 2 lv 12 ∧ ∃ n', n' ≤ 100 ∧ zC g σ' b t e s k p x y lv 0 nx1 n' n m c wr1 od W R1 R Q N S K Sg L ∧ zol g σ' o fo)) := by
  obtain ⟨hlay, hB, hO, hV, h, hY, hN, hS, hK, hP⟩ := hC
  have hlay0 := hlay
  obtain ⟨ht, he, hs8, hk9, hp9, hx9, hy9, hl9, hxy, hxl, hyl⟩ := hlay.f
  refine zMW_of (lv := [(0, .ref b), (1, .ref o)]) (own := "FindingAidLaw") (ini := false) (by decide) rfl (by decide) (Nat.le_of_ble_eq_true rfl) rfl ?_
  refine zg_aload_n 1 cd_W_merge_0 rfl rfl ?_
  refine zg_iconst (v := nI 0) cd_W_merge_1 (by decide) ?_
  refine zg_aload_n 0 cd_W_merge_2 rfl rfl ?_
  refine zg_callVT (rm' := zr_F_merge) (b := b) (As := []) (rest := [.int (nI 0), .ref o]) (kc_F_merge_thr hfl hB hO hlen hV (by omega) hpar) zy_F_merge_ok zm_688 zm_689 zm_690 (ci := 6) rfl rfl (by decide) (by decide) cd_W_merge_3 hB.1 rfl rfl (Nat.le_of_ble_eq_true rfl) (fun s c h9 => h9) (by decide) zw_l13 (fun x9 σ9 sz9 hq9 => ?_)
  obtain ⟨hs9, hF9, hO, n9, hn9, hV⟩ := hq9
  refine zg_of_ze ?_
  refine ze_astore_n (lv' := [(2, .ref x9), (0, .ref b), (1, .ref o)]) cd_W_merge_11 rfl (by decide) rfl ?_
  refine ze_iconst (v := nI 1) cd_W_merge_12 (by decide) ?_
  exact ze_iret cd_W_merge_13 rfl (by decide) (by decide) ⟨_, rfl, rfl, hs9, hF9, n9, hn9, ⟨hlay0, hB.fr2 hF9 0 rfl (by omega), hO, hV, h.fr2 hF9 11 rfl (by omega), hY.fr2 hF9 11 rfl (by omega), hN.fr2 hF9 6 rfl (by omega), hS.fr2 hF9 2 rfl (by omega), hK.fr2 hF9 4 rfl (by omega), hP.fr2 hF9 1 rfl (by omega)⟩, ho.imp (fun f h9 => ⟨(hF9 o (by omega) (by omega)).trans h9.1, h9.2⟩)⟩
