theorem zw_max1 : Cond.static Lib.Math.max.name ∈ zc_T := zm_422
theorem zw_max2 : Cond.initialized "java/lang/Math" ∈ zc_T := zm_62
theorem zw_max3 : Cond.code Lib.Math.max.name Lib.Math.max.code 2 (some .int) ∈ zc_T := zc_in 423 (by decide +kernel) (by decide +kernel)
theorem zw_min1 : Cond.static Lib.Math.min.name ∈ zc_T := zm_547
theorem zw_min3 : Cond.code Lib.Math.min.name Lib.Math.min.code 2 (some .int) ∈ zc_T := zc_in 548 (by decide +kernel) (by decide +kernel)
/-! calls by what they answer -/
section ZC
variable {g : zx_G} {own : String} {cc : ByteArray} {nL : Nat} {ret : Option FieldType} {ini : Bool} {rm : Room} {mc ms : Nat} {Post : Option Value → zx_M → Nat → Prop} {pc : Nat} {lv : List (Nat × Value)} {rest : List Value} {σ : zx_M} {sz kc ks : Nat}
variable {y : MethodName} {bytes : ByteArray} {maxL index n : Nat} {r : Option FieldType} {rm' : Room} {b : Nat} {As : List Value} {ci : Nat} {q : vw_C} {fs : List Value} {st0 : List Value} {host : String}
/-- the answer is X, and nothing has changed -/
def zPp (X : Int32) (σ : zx_M) (sz : Nat) : Option Value → zx_M → Nat → Prop := zPi (fun v σ' sz' => v = X ∧ σ' = σ ∧ sz' = sz)
theorem zPp_mk {X v : Int32} {σ : zx_M} {sz : Nat} (h : v = X) : zPp X σ sz (some (.int v)) σ sz := ⟨v, rfl, h, rfl, rfl⟩
theorem ze_callVp {X : Int32} (hM : zM g y bytes maxL r rm' 0 0 (.ref b :: As) σ sz (zPp X σ sz)) (hz : rm'.cells = 0 ∧ rm'.slots = 0) (hy : zx_y y bytes maxL r n) (hlink : Cond.methodLink own index y ∈ zc_T) (hinst : Cond.instanceMethod y ∈ zc_T) (hsel : Cond.selects y.cls y y ∈ zc_T) (hcl : zc_cl[ci]? = some q) (hq : q.1 = y.cls)
    (hR : rm'.frames + 1 ≤ rm.frames ∧ 8 + (maxL + 11) + rm'.locals ≤ rm.locals) (hf : kc ≤ rm.cells ∧ ks ≤ rm.slots) (hd : decode cc pc = .ok (.invokevirtual index, 3)) (he : σ b = some (.inr (ci, fs))) (hst : st0 = As.reverse ++ .ref b :: rest) (hn : As.length = n) (hrest : (rest.map fun v => v.category).sum ≤ 8)
    (k : zE g own cc nL ret ini rm mc ms Post (pc + 3) lv (.int X :: rest) σ sz kc ks) : zE g own cc nL ret ini rm mc ms Post pc lv st0 σ sz kc ks := by
  refine ze_callV (rm' := rm') (by rw [hz.1, hz.2]; exact hM) hy hlink hinst hsel hcl hq hR (by rw [hz.1, hz.2]; exact hf) hd he hst hn hrest ?_
  rw [hz.1, hz.2]
  intro r σ' sz' h
  obtain ⟨v, rfl, rfl, rfl, rfl⟩ := h
  exact k
theorem ze_callVi {P : Int32 → zx_M → Nat → Prop} {mc' ms' : Nat} (hM : zM g y bytes maxL r rm' mc' ms' (.ref b :: As) σ sz (zPi P)) (hz : rm'.cells = mc' ∧ rm'.slots = ms') (hy : zx_y y bytes maxL r n) (hlink : Cond.methodLink own index y ∈ zc_T) (hinst : Cond.instanceMethod y ∈ zc_T) (hsel : Cond.selects y.cls y y ∈ zc_T) (hcl : zc_cl[ci]? = some q) (hq : q.1 = y.cls)
    (hR : rm'.frames + 1 ≤ rm.frames ∧ 8 + (maxL + 11) + rm'.locals ≤ rm.locals) (hf : kc + mc' ≤ rm.cells ∧ ks + ms' ≤ rm.slots) (hd : decode cc pc = .ok (.invokevirtual index, 3)) (he : σ b = some (.inr (ci, fs))) (hst : st0 = As.reverse ++ .ref b :: rest) (hn : As.length = n) (hrest : (rest.map fun v => v.category).sum ≤ 8)
    (k : ∀ v σ' sz', P v σ' sz' → zE g own cc nL ret ini rm mc ms Post (pc + 3) lv (.int v :: rest) σ' sz' (kc + mc') (ks + ms')) : zE g own cc nL ret ini rm mc ms Post pc lv st0 σ sz kc ks := by
  obtain ⟨rfl, rfl⟩ := hz
  refine ze_callV (rm' := rm') hM hy hlink hinst hsel hcl hq hR hf hd he hst hn hrest ?_
  intro r σ' sz' h
  obtain ⟨v, rfl, h⟩ := h
  exact k v σ' sz' h
theorem ze_callVv {P : zx_M → Nat → Prop} {mc' ms' : Nat} (hM : zM g y bytes maxL r rm' mc' ms' (.ref b :: As) σ sz (zPv P)) (hz : rm'.cells = mc' ∧ rm'.slots = ms') (hy : zx_y y bytes maxL r n) (hlink : Cond.methodLink own index y ∈ zc_T) (hinst : Cond.instanceMethod y ∈ zc_T) (hsel : Cond.selects y.cls y y ∈ zc_T) (hcl : zc_cl[ci]? = some q) (hq : q.1 = y.cls)
    (hR : rm'.frames + 1 ≤ rm.frames ∧ 8 + (maxL + 11) + rm'.locals ≤ rm.locals) (hf : kc + mc' ≤ rm.cells ∧ ks + ms' ≤ rm.slots) (hd : decode cc pc = .ok (.invokevirtual index, 3)) (he : σ b = some (.inr (ci, fs))) (hst : st0 = As.reverse ++ .ref b :: rest) (hn : As.length = n) (hrest : (rest.map fun v => v.category).sum ≤ 8)
    (k : ∀ σ' sz', P σ' sz' → zE g own cc nL ret ini rm mc ms Post (pc + 3) lv rest σ' sz' (kc + mc') (ks + ms')) : zE g own cc nL ret ini rm mc ms Post pc lv st0 σ sz kc ks := by
  obtain ⟨rfl, rfl⟩ := hz
  refine ze_callV (rm' := rm') hM hy hlink hinst hsel hcl hq hR hf hd he hst hn hrest ?_
  intro r σ' sz' h
  obtain ⟨rfl, h⟩ := h
  exact k σ' sz' h
theorem ze_callVr {P : Nat → zx_M → Nat → Prop} {mc' ms' : Nat} (hM : zM g y bytes maxL r rm' mc' ms' (.ref b :: As) σ sz (zPr P)) (hz : rm'.cells = mc' ∧ rm'.slots = ms') (hy : zx_y y bytes maxL r n) (hlink : Cond.methodLink own index y ∈ zc_T) (hinst : Cond.instanceMethod y ∈ zc_T) (hsel : Cond.selects y.cls y y ∈ zc_T) (hcl : zc_cl[ci]? = some q) (hq : q.1 = y.cls)
    (hR : rm'.frames + 1 ≤ rm.frames ∧ 8 + (maxL + 11) + rm'.locals ≤ rm.locals) (hf : kc + mc' ≤ rm.cells ∧ ks + ms' ≤ rm.slots) (hd : decode cc pc = .ok (.invokevirtual index, 3)) (he : σ b = some (.inr (ci, fs))) (hst : st0 = As.reverse ++ .ref b :: rest) (hn : As.length = n) (hrest : (rest.map fun v => v.category).sum ≤ 8)
    (k : ∀ v σ' sz', P v σ' sz' → zE g own cc nL ret ini rm mc ms Post (pc + 3) lv (.ref v :: rest) σ' sz' (kc + mc') (ks + ms')) : zE g own cc nL ret ini rm mc ms Post pc lv st0 σ sz kc ks := by
  obtain ⟨rfl, rfl⟩ := hz
  refine ze_callV (rm' := rm') hM hy hlink hinst hsel hcl hq hR hf hd he hst hn hrest ?_
  intro r σ' sz' h
  obtain ⟨v, rfl, h⟩ := h
  exact k v σ' sz' h
theorem ze_callSp {X : Int32} (hM : zM g y bytes maxL r rm' 0 0 As σ sz (zPp X σ sz)) (hz : rm'.cells = 0 ∧ rm'.slots = 0) (hy : zx_y y bytes maxL r n) (hlink : Cond.methodLink own index y ∈ zc_T) (hstat : Cond.static y ∈ zc_T)
    (hR : rm'.frames + 1 ≤ rm.frames ∧ 8 + (maxL + 11) + rm'.locals ≤ rm.locals) (hf : kc ≤ rm.cells ∧ ks ≤ rm.slots) (hd : decode cc pc = .ok (.invokestatic index, 3)) (hst : st0 = As.reverse ++ rest) (hn : As.length = n) (hrest : (rest.map fun v => v.category).sum ≤ 8)
    (k : zE g own cc nL ret ini rm mc ms Post (pc + 3) lv (.int X :: rest) σ sz kc ks) : zE g own cc nL ret ini rm mc ms Post pc lv st0 σ sz kc ks := by
  refine ze_callS (rm' := rm') (by rw [hz.1, hz.2]; exact hM) hy hlink hstat hR (by rw [hz.1, hz.2]; exact hf) hd hst hn hrest ?_
  rw [hz.1, hz.2]
  intro r σ' sz' h
  obtain ⟨v, rfl, rfl, rfl, rfl⟩ := h
  exact k
theorem ze_callSNp {X : Int32} (hM : zM g y bytes maxL r rm' 0 0 As σ sz (zPp X σ sz)) (hz : rm'.cells = 0 ∧ rm'.slots = 0) (hy : zx_y y bytes maxL r n) (hlink : (own, index, y, host) ∈ zc_NM) (hstat : Cond.static y ∈ zc_T)
    (hR : rm'.frames + 1 ≤ rm.frames ∧ 8 + (maxL + 11) + rm'.locals ≤ rm.locals) (hf : kc ≤ rm.cells ∧ ks ≤ rm.slots) (hd : decode cc pc = .ok (.invokestatic index, 3)) (hst : st0 = As.reverse ++ rest) (hn : As.length = n) (hrest : (rest.map fun v => v.category).sum ≤ 8)
    (k : zE g own cc nL ret ini rm mc ms Post (pc + 3) lv (.int X :: rest) σ sz kc ks) : zE g own cc nL ret ini rm mc ms Post pc lv st0 σ sz kc ks := by
  refine ze_callSN (rm' := rm') (by rw [hz.1, hz.2]; exact hM) hy hlink hstat hR (by rw [hz.1, hz.2]; exact hf) hd hst hn hrest ?_
  rw [hz.1, hz.2]
  intro r σ' sz' h
  obtain ⟨v, rfl, rfl, rfl, rfl⟩ := h
  exact k
theorem ze_callSv {P : zx_M → Nat → Prop} {mc' ms' : Nat} (hM : zM g y bytes maxL r rm' mc' ms' As σ sz (zPv P)) (hz : rm'.cells = mc' ∧ rm'.slots = ms') (hy : zx_y y bytes maxL r n) (hlink : Cond.methodLink own index y ∈ zc_T) (hstat : Cond.static y ∈ zc_T)
    (hR : rm'.frames + 1 ≤ rm.frames ∧ 8 + (maxL + 11) + rm'.locals ≤ rm.locals) (hf : kc + mc' ≤ rm.cells ∧ ks + ms' ≤ rm.slots) (hd : decode cc pc = .ok (.invokestatic index, 3)) (hst : st0 = As.reverse ++ rest) (hn : As.length = n) (hrest : (rest.map fun v => v.category).sum ≤ 8)
    (k : ∀ σ' sz', P σ' sz' → zE g own cc nL ret ini rm mc ms Post (pc + 3) lv rest σ' sz' (kc + mc') (ks + ms')) : zE g own cc nL ret ini rm mc ms Post pc lv st0 σ sz kc ks := by
  obtain ⟨rfl, rfl⟩ := hz
  refine ze_callS (rm' := rm') hM hy hlink hstat hR hf hd hst hn hrest ?_
  intro r σ' sz' h
  obtain ⟨rfl, h⟩ := h
  exact k σ' sz' h
theorem ze_mmax {x y : Int32} (hlink : Cond.methodLink own index Lib.Math.max.name ∈ zc_T) (hd : decode cc pc = .ok (.invokestatic index, 3)) (h1 : 1 ≤ rm.frames) (h2 : (rest.map fun v => v.category).sum + 13 ≤ rm.locals) (h3 : kc ≤ rm.cells ∧ ks ≤ rm.slots) (k : zE g own cc nL ret ini rm mc ms Post (pc + 3) lv (.int (if x < y then y else x) :: rest) σ sz kc ks) : zE g own cc nL ret ini rm mc ms Post pc lv (.int y :: .int x :: rest) σ sz kc ks := by
  intro p e s m args below meth c hA H locs ls hW hS hl
  have hts := hA.2.2.2.2.2.1
  exact va_mmax hA.1 hA.2.1 (by rw [hA.2.2.2.1]; exact hl.1.symm) hA.2.2.2.2.1 (hts _ hlink) (hts _ zw_max1) (hts _ zw_max2) (hts _ zw_max3) h1 h2 h3.1 h3.2 hd (k p e s m args below meth c hA H locs ls hW hS hl)
theorem ze_mmin {x y : Int32} (hlink : Cond.methodLink own index Lib.Math.min.name ∈ zc_T) (hd : decode cc pc = .ok (.invokestatic index, 3)) (h1 : 1 ≤ rm.frames) (h2 : (rest.map fun v => v.category).sum + 13 ≤ rm.locals) (h3 : kc ≤ rm.cells ∧ ks ≤ rm.slots) (k : zE g own cc nL ret ini rm mc ms Post (pc + 3) lv (.int (if y < x then y else x) :: rest) σ sz kc ks) : zE g own cc nL ret ini rm mc ms Post pc lv (.int y :: .int x :: rest) σ sz kc ks := by
  intro p e s m args below meth c hA H locs ls hW hS hl
  have hts := hA.2.2.2.2.2.1
  exact va_mmin hA.1 hA.2.1 (by rw [hA.2.2.2.1]; exact hl.1.symm) hA.2.2.2.2.1 (hts _ hlink) (hts _ zw_min1) (hts _ zw_max2) (hts _ zw_min3) h1 h2 h3.1 h3.2 hd (k p e s m args below meth c hA H locs ls hW hS hl)
end ZC
theorem zb_f {b : Bool} (h : zb b = 0) : b = false := by cases b <;> simp_all [zb]
theorem zb_t {b : Bool} (h : ¬ zb b = 0) : b = true := by cases b <;> simp_all [zb]
theorem zi_ltz {n : Nat} {x : Int32} (h : x < 0) : zi n x = none := zi_lo (fun h2 => by rw [Int32.lt_iff_toInt_lt] at h; rw [Int32.le_iff_toInt_le] at h2; omega)
theorem zi_ge {n : Nat} {x : Int32} (h : nI n ≤ x) : zi n x = none := zi_hi (fun h2 => by rw [Int32.lt_iff_toInt_lt] at h2; rw [Int32.le_iff_toInt_le] at h; omega)
theorem zi_ok {n : Nat} {x : Int32} (h0 : ¬ x < 0) (h1 : ¬ nI n ≤ x) : zi n x = some x.toNatClampNeg := zi_of (by rw [Int32.lt_iff_toInt_lt] at h0; rw [Int32.le_iff_toInt_le]; omega) (by rw [Int32.le_iff_toInt_le] at h1; rw [Int32.lt_iff_toInt_lt]; omega)
/-- the place before a place -/
def zp : Nat → Int32
  | 0 => -1
  | k + 1 => nI k
theorem zp_sub (k : Nat) : nI k - 1 = zp k := by
  cases k with
  | zero => decide
  | succ k => exact nI_pred k
theorem zp_add (k : Nat) : nI k + (-1) = zp k := by
  cases k with
  | zero => decide
  | succ k => exact pk_m1 k
theorem zob.upn {g : zx_G} {σ : zx_M} {a ci b : Nat} {e : va_E} {fs : List Value} {ks : List (Nat × Nat)} {R : Nat → Nat → Int32} (h : zob g σ a ci fs ks R) (m : Nat) (hm : ks.length = m) (hd : b < a ∨ a + m < b) : zob g (zx_up σ b e) a ci fs ks R := h.up (by rw [hm]; exact hd)
theorem zob.frn {g : zx_G} {σ σ' : zx_M} {a ci : Nat} {fs : List Value} {ks : List (Nat × Nat)} {R : Nat → Nat → Int32} (h : zob g σ a ci fs ks R) {lo len : Nat} (hf : zfr σ σ' lo len) (m : Nat) (hm : ks.length = m) (hd : a + m < lo ∨ lo + len ≤ a) : zob g σ' a ci fs ks R := h.fr hf (by rw [hm]; exact hd)
/-! the classes' objects -/
abbrev zkL : List (Nat × Nat) := [(0, 100), (0, 100), (0, 100), (0, 100), (0, 100), (0, 100), (0, 100), (0, 100), (0, 100), (0, 100), (0, 1600)]
abbrev zl (g : zx_G) (σ : zx_M) (a n : Nat) (R : Nat → Nat → Int32) : Prop := zob g σ a 1 [.int (nI n), .ref (a + 1), .ref (a + 2), .ref (a + 3), .ref (a + 4), .ref (a + 5), .ref (a + 6), .ref (a + 7), .ref (a + 8), .ref (a + 9), .ref (a + 10), .ref (a + 11)] zkL R
