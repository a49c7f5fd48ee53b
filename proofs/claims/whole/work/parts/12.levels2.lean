theorem zn_1 : nI 1 = 1 := by decide
theorem zn_2 : nI 2 = 2 := by decide
theorem zn_3 : nI 3 = 3 := by decide
theorem zn_4 : nI 4 = 4 := by decide
theorem zn_8 : nI 8 = 8 := by decide
abbrev zr_L_latestOfDepth : Room := { frames := 0, cells := 0, slots := 0, locals := 0 }
set_option maxRecDepth 100000 in
set_option maxHeartbeats 4000000 in
theorem kc_L_latestOfDepth {g : zx_G} {σ : zx_M} {sz : Nat} {a n : Nat} {R : Nat → Nat → Int32} {k0 : Nat} {wd : Int32} (h : zl g σ a n R) (hk0 : k0 ≤ 100) : zM g cy_L_latestOfDepth cb_L_latestOfDepth 4 (Option.some Jvm.ClassFile.FieldType.int) zr_L_latestOfDepth 0 0 [.ref a, .int (zp k0), .int wd] σ sz (zPp (zl_lod (R 3) wd k0) σ sz) := by
  have loop : ∀ (kk : Nat), kk ≤ 100 → zl_lod (R 3) wd kk = zl_lod (R 3) wd k0 → zE g "FindingAid$Levels" cb_L_latestOfDepth 4 (Option.some Jvm.ClassFile.FieldType.int) false zr_L_latestOfDepth 0 0 (zPp (zl_lod (R 3) wd k0) σ sz) 2 [(3, .int (zp kk)), (0, .ref a), (1, .int (zp k0)), (2, .int wd)] [] σ sz 0 0 := by
    intro kk
    induction kk with
    | zero =>
      intro hk hE
      refine ze_iload_n 0 cd_L_latestOfDepth_2 rfl rfl ?_
      refine ze_if_lt (tgt := 24) cd_L_latestOfDepth_3 (by decide) (fun c2 => ?_) (fun c2 => ?_)
      · skip
        refine ze_iconst (v := (-1 : Int32)) cd_L_latestOfDepth_24 (by decide) ?_
        refine ze_iret cd_L_latestOfDepth_25 rfl (by decide) (by decide) (zPp_mk ?_)
        rw [← hE]; simp [zl_lod, zp, c2]
      · skip
        exact absurd (by decide) c2
    | succ kk ih =>
      intro hk hE
      refine ze_iload_n 0 cd_L_latestOfDepth_2 rfl rfl ?_
      refine ze_if_lt (tgt := 24) cd_L_latestOfDepth_3 (by decide) (fun c2 => ?_) (fun c2 => ?_)
      · skip
        have c2 := c2; rw [← nI_0] at c2
        have c2 : kk < 0 := (nI_ltI (by omega) (by omega)).mp c2
        exfalso; omega
      · skip
        have c2 := c2; rw [← nI_0] at c2
        have c2 : ¬ kk < 0 := fun h9 => c2 ((nI_ltI (by omega) (by omega)).mpr h9)
        refine ze_aload_n 1 cd_L_latestOfDepth_6 rfl rfl ?_
        refine ze_get zin_L (v := .ref (a + 4)) (ci := 1) rfl 4 (by decide) zm_106 rfl cd_L_latestOfDepth_7 h.1 rfl ?_
        refine ze_iload_n 0 cd_L_latestOfDepth_10 rfl rfl ?_
        refine ze_iald (j := kk) cd_L_latestOfDepth_11 (h.2 3 _ rfl) rfl (by omega) (by decide) ?_
        refine ze_iload_n 3 cd_L_latestOfDepth_12 rfl rfl ?_
        refine ze_icmp_ne (tgt := 18) cd_L_latestOfDepth_13 (by decide) (fun c3 => ?_) (fun c3 => ?_)
        · skip
          refine ze_iinc (v := zp kk) (lv' := [(3, .int (zp kk)), (0, .ref a), (1, .int (zp k0)), (2, .int wd)]) 0 cd_L_latestOfDepth_18 rfl (zp_add kk) (by decide) rfl ?_
          refine ze_goto (tgt := 2) cd_L_latestOfDepth_21 (by decide) ?_
          exact ih (by omega) (by rw [← hE]; simp [zl_lod, c2, c3])
        · skip
          refine ze_iload_n 0 cd_L_latestOfDepth_16 rfl rfl ?_
          refine ze_iret cd_L_latestOfDepth_17 rfl (by decide) (by decide) (zPp_mk ?_)
          rw [← hE]; simp [zl_lod, zp, c2, c3]
  refine zM_of (lv := [(0, .ref a), (1, .int (zp k0)), (2, .int wd)]) (ini := false) (by decide) rfl (by decide) (Nat.le_of_ble_eq_true rfl) rfl ?_
  refine ze_iload_n 1 cd_L_latestOfDepth_0 rfl rfl ?_
  refine ze_istore_n (lv' := [(3, .int (zp k0)), (0, .ref a), (1, .int (zp k0)), (2, .int wd)]) cd_L_latestOfDepth_1 rfl (by decide) rfl ?_
  exact loop k0 hk0 rfl
abbrev zr_L_repeatsNumber : Room := { frames := 0, cells := 0, slots := 0, locals := 0 }
set_option maxRecDepth 100000 in
set_option maxHeartbeats 4000000 in
theorem kc_L_repeatsNumber {g : zx_G} {σ : zx_M} {sz : Nat} {a n : Nat} {R : Nat → Nat → Int32} {j : Nat} (h : zl g σ a n R) (hj : j < 100) : zM g cy_L_repeatsNumber cb_L_repeatsNumber 3 (Option.some Jvm.ClassFile.FieldType.boolean) zr_L_repeatsNumber 0 0 [.ref a, .int (nI j)] σ sz (zPp (zb (zl_rep R j)) σ sz) := by
  have loop : ∀ (kk : Nat) (lo : Nat), lo + kk = j → zany (fun x => decide (R 2 x = R 2 j) && decide (R 1 x = R 1 j)) lo kk = zl_rep R j → zE g "FindingAid$Levels" cb_L_repeatsNumber 3 (Option.some Jvm.ClassFile.FieldType.boolean) false zr_L_repeatsNumber 0 0 (zPp (zb (zl_rep R j)) σ sz) 2 [(2, .int (nI lo)), (0, .ref a), (1, .int (nI j))] [] σ sz 0 0 := by
    intro kk
    induction kk with
    | zero =>
      intro lo hk hE
      refine ze_iload_n 0 cd_L_repeatsNumber_2 rfl rfl ?_
      refine ze_iload_n 2 cd_L_repeatsNumber_3 rfl rfl ?_
      refine ze_icmp_ge (tgt := 45) cd_L_repeatsNumber_4 (by decide) (fun c2 => ?_) (fun c2 => ?_)
      · skip
        have c2 : j ≤ lo := (nI_leI (by omega) (by omega)).mp c2
        refine ze_iconst (v := nI 0) cd_L_repeatsNumber_45 (by decide) ?_
        refine ze_zret cd_L_repeatsNumber_46 rfl (by decide) (by decide) (by decide) (zPp_mk ?_)
        rw [← hE]; simp [zany, zb, nI_0, zn_1, c2]
      · skip
        have c2 : ¬ j ≤ lo := fun h9 => c2 ((nI_leI (by omega) (by omega)).mpr h9)
        exfalso; omega
    | succ kk ih =>
      intro lo hk hE
      refine ze_iload_n 0 cd_L_repeatsNumber_2 rfl rfl ?_
      refine ze_iload_n 2 cd_L_repeatsNumber_3 rfl rfl ?_
      refine ze_icmp_ge (tgt := 45) cd_L_repeatsNumber_4 (by decide) (fun c4 => ?_) (fun c4 => ?_)
      · skip
        have c4 : j ≤ lo := (nI_leI (by omega) (by omega)).mp c4
        exfalso; omega
      · skip
        have c4 : ¬ j ≤ lo := fun h9 => c4 ((nI_leI (by omega) (by omega)).mpr h9)
        refine ze_aload_n 1 cd_L_repeatsNumber_7 rfl rfl ?_
        refine ze_get zin_L (v := .ref (a + 3)) (ci := 1) rfl 3 (by decide) zm_102 rfl cd_L_repeatsNumber_8 h.1 rfl ?_
        refine ze_iload_n 0 cd_L_repeatsNumber_11 rfl rfl ?_
        refine ze_iald (j := lo) cd_L_repeatsNumber_12 (h.2 2 _ rfl) rfl (by omega) (by decide) ?_
        refine ze_aload_n 1 cd_L_repeatsNumber_13 rfl rfl ?_
        refine ze_get zin_L (v := .ref (a + 3)) (ci := 1) rfl 3 (by decide) zm_102 rfl cd_L_repeatsNumber_14 h.1 rfl ?_
        refine ze_iload_n 2 cd_L_repeatsNumber_17 rfl rfl ?_
        refine ze_iald (j := j) cd_L_repeatsNumber_18 (h.2 2 _ rfl) rfl (by omega) (by decide) ?_
        refine ze_icmp_ne (tgt := 39) cd_L_repeatsNumber_19 (by decide) (fun c5 => ?_) (fun c5 => ?_)
        · skip
          refine ze_iinc (v := nI (lo + 1)) (lv' := [(2, .int (nI (lo + 1))), (0, .ref a), (1, .int (nI j))]) 0 cd_L_repeatsNumber_39 rfl (nI_add _ 1) (by decide) rfl ?_
          refine ze_goto (tgt := 2) cd_L_repeatsNumber_42 (by decide) ?_
          exact ih (lo + 1) (by omega) (by rw [← hE]; simp [zany, c4, c5])
        · skip
          refine ze_aload_n 1 cd_L_repeatsNumber_22 rfl rfl ?_
          refine ze_get zin_L (v := .ref (a + 2)) (ci := 1) rfl 2 (by decide) zm_98 rfl cd_L_repeatsNumber_23 h.1 rfl ?_
          refine ze_iload_n 0 cd_L_repeatsNumber_26 rfl rfl ?_
          refine ze_iald (j := lo) cd_L_repeatsNumber_27 (h.2 1 _ rfl) rfl (by omega) (by decide) ?_
          refine ze_aload_n 1 cd_L_repeatsNumber_28 rfl rfl ?_
          refine ze_get zin_L (v := .ref (a + 2)) (ci := 1) rfl 2 (by decide) zm_98 rfl cd_L_repeatsNumber_29 h.1 rfl ?_
          refine ze_iload_n 2 cd_L_repeatsNumber_32 rfl rfl ?_
          refine ze_iald (j := j) cd_L_repeatsNumber_33 (h.2 1 _ rfl) rfl (by omega) (by decide) ?_
          refine ze_icmp_ne (tgt := 39) cd_L_repeatsNumber_34 (by decide) (fun c6 => ?_) (fun c6 => ?_)
          · skip
            refine ze_iinc (v := nI (lo + 1)) (lv' := [(2, .int (nI (lo + 1))), (0, .ref a), (1, .int (nI j))]) 0 cd_L_repeatsNumber_39 rfl (nI_add _ 1) (by decide) rfl ?_
            refine ze_goto (tgt := 2) cd_L_repeatsNumber_42 (by decide) ?_
            exact ih (lo + 1) (by omega) (by rw [← hE]; simp [zany, c4, c5, c6])
          · skip
            refine ze_iconst (v := nI 1) cd_L_repeatsNumber_37 (by decide) ?_
            refine ze_zret cd_L_repeatsNumber_38 rfl (by decide) (by decide) (by decide) (zPp_mk ?_)
            rw [← hE]; simp [zany, zb, nI_0, zn_1, c4, c5, c6]
  refine zM_of (lv := [(0, .ref a), (1, .int (nI j))]) (ini := false) (by decide) rfl (by decide) (Nat.le_of_ble_eq_true rfl) rfl ?_
  refine ze_iconst (v := nI 0) cd_L_repeatsNumber_0 (by decide) ?_
  refine ze_istore_n (lv' := [(2, .int (nI 0)), (0, .ref a), (1, .int (nI j))]) cd_L_repeatsNumber_1 rfl (by decide) rfl ?_
  exact loop j 0 (by omega) rfl
abbrev zr_L_isWithin : Room := { frames := 1, cells := 0, slots := 0, locals := 21 }
set_option maxRecDepth 100000 in
set_option maxHeartbeats 4000000 in
theorem kc_L_isWithin {g : zx_G} {σ : zx_M} {sz : Nat} {a n : Nat} {R : Nat → Nat → Int32} {i top : Int32} (h : zl g σ a n R) (hn : n ≤ 100) : zM g cy_L_isWithin cb_L_isWithin 5 (Option.some Jvm.ClassFile.FieldType.boolean) zr_L_isWithin 0 0 [.ref a, .int i, .int top] σ sz (zPp (zb (zl_wi n (R 2) top 9 i)) σ sz) := by
  generalize hX0 : zl_wi n (R 2) top 9 i = X0
  have loop : ∀ (kk : Nat) (sp : Nat) (x : Int32), sp + kk = 9 → zl_wi n (R 2) top kk x = X0 → zE g "FindingAid$Levels" cb_L_isWithin 5 (Option.some Jvm.ClassFile.FieldType.boolean) false zr_L_isWithin 0 0 (zPp (zb (X0)) σ sz) 5 [(4, .int (nI sp)), (3, .int x), (0, .ref a), (1, .int i), (2, .int top)] [] σ sz 0 0 := by
    intro kk
    induction kk with
    | zero =>
      intro sp x hk hE
      refine ze_iload 0 cd_L_isWithin_5 rfl ?_
      refine ze_bipush (v := nI 8) cd_L_isWithin_7 (by decide) ?_
      refine ze_icmp_gt (tgt := 40) cd_L_isWithin_9 (by decide) (fun c2 => ?_) (fun c2 => ?_)
      · skip
        have c2 : 8 < sp := (nI_ltI (by omega) (by omega)).mp c2
        refine ze_iconst (v := nI 0) cd_L_isWithin_40 (by decide) ?_
        refine ze_zret cd_L_isWithin_41 rfl (by decide) (by decide) (by decide) (zPp_mk ?_)
        rw [← hE]; first | (simp [zl_wi, zb, nI_0, zn_1, c2]; done) | (simp only [zl_wi]; simp [zb, nI_0, zn_1, c2])
      · skip
        have c2 : ¬ 8 < sp := fun h9 => c2 ((nI_ltI (by omega) (by omega)).mpr h9)
        exfalso; omega
    | succ kk ih =>
      intro sp x hk hE
      refine ze_iload 0 cd_L_isWithin_5 rfl ?_
      refine ze_bipush (v := nI 8) cd_L_isWithin_7 (by decide) ?_
      refine ze_icmp_gt (tgt := 40) cd_L_isWithin_9 (by decide) (fun c4 => ?_) (fun c4 => ?_)
      · skip
        have c4 : 8 < sp := (nI_ltI (by omega) (by omega)).mp c4
        exfalso; omega
      · skip
        have c4 : ¬ 8 < sp := fun h9 => c4 ((nI_ltI (by omega) (by omega)).mpr h9)
        refine ze_aload_n 2 cd_L_isWithin_12 rfl rfl ?_
        refine ze_iload_n 1 cd_L_isWithin_13 rfl rfl ?_
        refine ze_callVp (rm' := zr_L_has) (b := a) (As := [.int x]) (rest := []) (kc_L_has h) ⟨rfl, rfl⟩ zy_L_has_ok zm_416 zm_311 zm_312 (ci := 1) rfl rfl (by decide) (by decide) cd_L_isWithin_14 h.1 rfl rfl (Nat.le_of_ble_eq_true rfl) ?_
        refine ze_if_eq (tgt := 40) cd_L_isWithin_17 (by decide) (fun c5 => ?_) (fun c5 => ?_)
        · skip
          have c5 : ((zi n x).isSome) = false := zb_f c5
          have c5 : zi n x = none := by simpa using c5
          refine ze_iconst (v := nI 0) cd_L_isWithin_40 (by decide) ?_
          refine ze_zret cd_L_isWithin_41 rfl (by decide) (by decide) (by decide) (zPp_mk ?_)
          rw [← hE]; first | (simp [zl_wi, zb, nI_0, zn_1, c4, c5]; done) | (simp only [zl_wi]; simp [zb, nI_0, zn_1, c4, c5])
        · skip
          have c5 : ((zi n x).isSome) = true := zb_t c5
          obtain ⟨q, hq⟩ := Option.isSome_iff_exists.mp c5
          obtain ⟨hqn, rfl⟩ := zi_some (by omega) hq
          refine ze_iload_n 1 cd_L_isWithin_20 rfl rfl ?_
          refine ze_iload_n 4 cd_L_isWithin_21 rfl rfl ?_
          refine ze_icmp_ne (tgt := 27) cd_L_isWithin_22 (by decide) (fun c6 => ?_) (fun c6 => ?_)
          · skip
            refine ze_aload_n 2 cd_L_isWithin_27 rfl rfl ?_
            refine ze_get zin_L (v := .ref (a + 3)) (ci := 1) rfl 3 (by decide) zm_102 rfl cd_L_isWithin_28 h.1 rfl ?_
            refine ze_iload_n 1 cd_L_isWithin_31 rfl rfl ?_
            refine ze_iald (j := q) cd_L_isWithin_32 (h.2 2 _ rfl) rfl (by omega) (by decide) ?_
            refine ze_istore_n (lv' := [(3, .int (R 2 q)), (4, .int (nI sp)), (0, .ref a), (1, .int i), (2, .int top)]) cd_L_isWithin_33 rfl (by decide) rfl ?_
            refine ze_iinc (v := nI (sp + 1)) (lv' := [(4, .int (nI (sp + 1))), (3, .int (R 2 q)), (0, .ref a), (1, .int i), (2, .int top)]) 1 cd_L_isWithin_34 rfl (nI_add _ 1) (by decide) rfl ?_
            refine ze_goto (tgt := 5) cd_L_isWithin_37 (by decide) ?_
            exact ih (sp + 1) _ (by omega) (by rw [← hE]; simp [zl_wi, c4, hq, c6])
          · skip
            refine ze_iconst (v := nI 1) cd_L_isWithin_25 (by decide) ?_
            refine ze_zret cd_L_isWithin_26 rfl (by decide) (by decide) (by decide) (zPp_mk ?_)
            rw [← hE]; first | (simp [zl_wi, zb, nI_0, zn_1, c4, hq, c6]; done) | (simp only [zl_wi, hq]; simp [zb, nI_0, zn_1, c4, hq, c6])
  refine zM_of (lv := [(0, .ref a), (1, .int i), (2, .int top)]) (ini := false) (by decide) rfl (by decide) (Nat.le_of_ble_eq_true rfl) rfl ?_
  refine ze_iload_n 1 cd_L_isWithin_0 rfl rfl ?_
  refine ze_istore_n (lv' := [(3, .int i), (0, .ref a), (1, .int i), (2, .int top)]) cd_L_isWithin_1 rfl (by decide) rfl ?_
  refine ze_iconst (v := nI 0) cd_L_isWithin_2 (by decide) ?_
  refine ze_istore (lv' := [(4, .int (nI 0)), (3, .int i), (0, .ref a), (1, .int i), (2, .int top)]) cd_L_isWithin_3 (by decide) rfl ?_
  exact loop 9 0 i (by omega) hX0
abbrev zr_L_deepestWithin : Room := { frames := 2, cells := 0, slots := 0, locals := 45 }
set_option maxRecDepth 100000 in
set_option maxHeartbeats 4000000 in
theorem kc_L_deepestWithin {g : zx_G} {σ : zx_M} {sz : Nat} {a n : Nat} {R : Nat → Nat → Int32} {top : Int32} (h : zl g σ a n R) (hn : n ≤ 100) : zM g cy_L_deepestWithin cb_L_deepestWithin 4 (Option.some Jvm.ClassFile.FieldType.int) zr_L_deepestWithin 0 0 [.ref a, .int top] σ sz (zPp (zl_dw n R top) σ sz) := by
  generalize hX0 : zl_dw n R top = X0
  have loop : ∀ (kk : Nat) (lo : Nat) (s : Int32), lo + kk = n → zfold (fun s x => if zl_wi n (R 2) top 9 (nI x) then (if s < R 3 x then R 3 x else s) else s) s lo kk = X0 → zE g "FindingAid$Levels" cb_L_deepestWithin 4 (Option.some Jvm.ClassFile.FieldType.int) false zr_L_deepestWithin 0 0 (zPp X0 σ sz) 4 [(3, .int (nI lo)), (2, .int s), (0, .ref a), (1, .int top)] [] σ sz 0 0 := by
    intro kk
    induction kk with
    | zero =>
      intro lo s hk hE
      refine ze_iload_n 0 cd_L_deepestWithin_4 rfl rfl ?_
      refine ze_aload_n 2 cd_L_deepestWithin_5 rfl rfl ?_
      refine ze_get zin_L (v := .int (nI n)) (ci := 1) rfl 0 (by decide) zm_88 rfl cd_L_deepestWithin_6 h.1 rfl ?_
      refine ze_icmp_ge (tgt := 38) cd_L_deepestWithin_9 (by decide) (fun c2 => ?_) (fun c2 => ?_)
      · skip
        have c2 : n ≤ lo := (nI_leI (by omega) (by omega)).mp c2
        refine ze_iload_n 1 cd_L_deepestWithin_38 rfl rfl ?_
        refine ze_iret cd_L_deepestWithin_39 rfl (by decide) (by decide) (zPp_mk ?_)
        rw [← hE]; rfl
      · skip
        have c2 : ¬ n ≤ lo := fun h9 => c2 ((nI_leI (by omega) (by omega)).mpr h9)
        exfalso; omega
    | succ kk ih =>
      intro lo s hk hE
      refine ze_iload_n 0 cd_L_deepestWithin_4 rfl rfl ?_
      refine ze_aload_n 2 cd_L_deepestWithin_5 rfl rfl ?_
      refine ze_get zin_L (v := .int (nI n)) (ci := 1) rfl 0 (by decide) zm_88 rfl cd_L_deepestWithin_6 h.1 rfl ?_
      refine ze_icmp_ge (tgt := 38) cd_L_deepestWithin_9 (by decide) (fun c4 => ?_) (fun c4 => ?_)
      · skip
        have c4 : n ≤ lo := (nI_leI (by omega) (by omega)).mp c4
        exfalso; omega
      · skip
        have c4 : ¬ n ≤ lo := fun h9 => c4 ((nI_leI (by omega) (by omega)).mpr h9)
        refine ze_aload_n 2 cd_L_deepestWithin_12 rfl rfl ?_
        refine ze_iload_n 0 cd_L_deepestWithin_13 rfl rfl ?_
        refine ze_iload_n 3 cd_L_deepestWithin_14 rfl rfl ?_
        refine ze_callVp (rm' := zr_L_isWithin) (b := a) (As := [.int (nI lo), .int top]) (rest := []) (kc_L_isWithin h (by omega)) ⟨rfl, rfl⟩ zy_L_isWithin_ok zm_412 zm_413 zm_414 (ci := 1) rfl rfl (by decide) (by decide) cd_L_deepestWithin_15 h.1 rfl rfl (Nat.le_of_ble_eq_true rfl) ?_
        refine ze_if_eq (tgt := 32) cd_L_deepestWithin_18 (by decide) (fun c5 => ?_) (fun c5 => ?_)
        · skip
          have c5 : (zl_wi n (R 2) top 9 (nI lo)) = false := zb_f c5
          refine ze_iinc (v := nI (lo + 1)) (lv' := [(3, .int (nI (lo + 1))), (2, .int s), (0, .ref a), (1, .int top)]) 0 cd_L_deepestWithin_32 rfl (nI_add _ 1) (by decide) rfl ?_
          refine ze_goto (tgt := 4) cd_L_deepestWithin_35 (by decide) ?_
          exact ih (lo + 1) _ (by omega) (by rw [← hE]; simp only [zfold, c4, c5]; rfl)
        · skip
          have c5 : (zl_wi n (R 2) top 9 (nI lo)) = true := zb_t c5
          refine ze_iload_n 1 cd_L_deepestWithin_21 rfl rfl ?_
          refine ze_aload_n 2 cd_L_deepestWithin_22 rfl rfl ?_
          refine ze_get zin_L (v := .ref (a + 4)) (ci := 1) rfl 4 (by decide) zm_106 rfl cd_L_deepestWithin_23 h.1 rfl ?_
          refine ze_iload_n 0 cd_L_deepestWithin_26 rfl rfl ?_
          refine ze_iald (j := lo) cd_L_deepestWithin_27 (h.2 3 _ rfl) rfl (by omega) (by decide) ?_
          refine ze_mmax zm_421 cd_L_deepestWithin_28 (by decide) (Nat.le_of_ble_eq_true rfl) (by decide) ?_
          refine ze_istore_n (lv' := [(2, .int (if s < (R 3 lo) then (R 3 lo) else s)), (3, .int (nI lo)), (0, .ref a), (1, .int top)]) cd_L_deepestWithin_31 rfl (by decide) rfl ?_
          refine ze_iinc (v := nI (lo + 1)) (lv' := [(3, .int (nI (lo + 1))), (2, .int (if s < (R 3 lo) then (R 3 lo) else s)), (0, .ref a), (1, .int top)]) 1 cd_L_deepestWithin_32 rfl (nI_add _ 1) (by decide) rfl ?_
          refine ze_goto (tgt := 4) cd_L_deepestWithin_35 (by decide) ?_
          exact ih (lo + 1) _ (by omega) (by rw [← hE]; simp only [zfold, c4, c5]; rfl)
  refine zM_of (lv := [(0, .ref a), (1, .int top)]) (ini := false) (by decide) rfl (by decide) (Nat.le_of_ble_eq_true rfl) rfl ?_
  refine ze_iconst (v := nI 0) cd_L_deepestWithin_0 (by decide) ?_
  refine ze_istore_n (lv' := [(2, .int (nI 0)), (0, .ref a), (1, .int top)]) cd_L_deepestWithin_1 rfl (by decide) rfl ?_
  refine ze_iconst (v := nI 0) cd_L_deepestWithin_2 (by decide) ?_
  refine ze_istore_n (lv' := [(3, .int (nI 0)), (2, .int (nI 0)), (0, .ref a), (1, .int top)]) cd_L_deepestWithin_3 rfl (by decide) rfl ?_
  exact loop n 0 0 (by omega) hX0
abbrev zr_L_mayHang : Room := { frames := 3, cells := 0, slots := 0, locals := 68 }
set_option maxRecDepth 100000 in
set_option maxHeartbeats 4000000 in
theorem kc_L_mayHang {g : zx_G} {σ : zx_M} {sz : Nat} {a n : Nat} {R : Nat → Nat → Int32} {i u : Nat} (h : zl g σ a n R) (hn : n ≤ 100) (hi : i < 100) (hu : u < 100) : zM g cy_L_mayHang cb_L_mayHang 3 (Option.some Jvm.ClassFile.FieldType.boolean) zr_L_mayHang 0 0 [.ref a, .int (nI i), .int (nI u)] σ sz (zPp (zb (zl_may n R i u)) σ sz) := by
  refine zM_of (lv := [(0, .ref a), (1, .int (nI i)), (2, .int (nI u))]) (ini := false) (by decide) rfl (by decide) (Nat.le_of_ble_eq_true rfl) rfl ?_
  refine ze_aload_n 0 cd_L_mayHang_0 rfl rfl ?_
  refine ze_iload_n 2 cd_L_mayHang_1 rfl rfl ?_
  refine ze_iload_n 1 cd_L_mayHang_2 rfl rfl ?_
  refine ze_callVp (rm' := zr_L_isWithin) (b := a) (As := [.int (nI u), .int (nI i)]) (rest := []) (kc_L_isWithin h (by omega)) ⟨rfl, rfl⟩ zy_L_isWithin_ok zm_412 zm_413 zm_414 (ci := 1) rfl rfl (by decide) (by decide) cd_L_mayHang_3 h.1 rfl rfl (Nat.le_of_ble_eq_true rfl) ?_
  refine ze_if_ne (tgt := 34) cd_L_mayHang_6 (by decide) (fun c1 => ?_) (fun c1 => ?_)
  · skip
    have c1 : (zl_wi n (R 2) (nI i) 9 (nI u)) = true := zb_t c1
    refine ze_iconst (v := nI 0) cd_L_mayHang_34 (by decide) ?_
    refine ze_zret cd_L_mayHang_35 rfl (by decide) (by decide) (by decide) (zPp_mk ?_)
    first | (simp [zl_may, zb, nI_0, zn_1, c1]; done) | (simp [zl_may, zb, nI_0, zn_1, zn_3, ← zn_3, ← zn_8, c1]; done)
  · skip
    have c1 : (zl_wi n (R 2) (nI i) 9 (nI u)) = false := zb_f c1
    refine ze_aload_n 0 cd_L_mayHang_9 rfl rfl ?_
    refine ze_get zin_L (v := .ref (a + 1)) (ci := 1) rfl 1 (by decide) zm_94 rfl cd_L_mayHang_10 h.1 rfl ?_
    refine ze_iload_n 2 cd_L_mayHang_13 rfl rfl ?_
    refine ze_iald (j := u) cd_L_mayHang_14 (h.2 0 _ rfl) rfl (by omega) (by decide) ?_
    refine ze_aload_n 0 cd_L_mayHang_15 rfl rfl ?_
    refine ze_get zin_L (v := .ref (a + 1)) (ci := 1) rfl 1 (by decide) zm_94 rfl cd_L_mayHang_16 h.1 rfl ?_
    refine ze_iload_n 1 cd_L_mayHang_19 rfl rfl ?_
    refine ze_iald (j := i) cd_L_mayHang_20 (h.2 0 _ rfl) rfl (by omega) (by decide) ?_
    refine ze_icmp_gt (tgt := 34) cd_L_mayHang_21 (by decide) (fun c2 => ?_) (fun c2 => ?_)
    · skip
      refine ze_iconst (v := nI 0) cd_L_mayHang_34 (by decide) ?_
      refine ze_zret cd_L_mayHang_35 rfl (by decide) (by decide) (by decide) (zPp_mk ?_)
      first | (simp [zl_may, zb, nI_0, zn_1, c1, c2]; done) | (simp [zl_may, zb, nI_0, zn_1, zn_3, ← zn_3, ← zn_8, c1, c2]; done)
    · skip
      refine ze_aload_n 0 cd_L_mayHang_24 rfl rfl ?_
      refine ze_get zin_L (v := .ref (a + 1)) (ci := 1) rfl 1 (by decide) zm_94 rfl cd_L_mayHang_25 h.1 rfl ?_
      refine ze_iload_n 2 cd_L_mayHang_28 rfl rfl ?_
      refine ze_iald (j := u) cd_L_mayHang_29 (h.2 0 _ rfl) rfl (by omega) (by decide) ?_
      refine ze_iconst (v := nI 3) cd_L_mayHang_30 (by decide) ?_
      refine ze_icmp_ne (tgt := 36) cd_L_mayHang_31 (by decide) (fun c3 => ?_) (fun c3 => ?_)
      · skip
        refine ze_aload_n 0 cd_L_mayHang_36 rfl rfl ?_
        refine ze_iload_n 1 cd_L_mayHang_37 rfl rfl ?_
        refine ze_callVp (rm' := zr_L_deepestWithin) (b := a) (As := [.int (nI i)]) (rest := []) (kc_L_deepestWithin h (by omega)) ⟨rfl, rfl⟩ zy_L_deepestWithin_ok zm_417 zm_419 zm_1 (ci := 1) rfl rfl (by decide) (by decide) cd_L_mayHang_38 h.1 rfl rfl (Nat.le_of_ble_eq_true rfl) ?_
        refine ze_aload_n 0 cd_L_mayHang_41 rfl rfl ?_
        refine ze_iload_n 1 cd_L_mayHang_42 rfl rfl ?_
        refine ze_iload_n 2 cd_L_mayHang_43 rfl rfl ?_
        refine ze_callVp (rm' := zr_L_deeperUnder) (b := a) (As := [.int (nI i), .int (nI u)]) (rest := [.int (zl_dw n R (nI i))]) (kc_L_deeperUnder h (by omega) (by omega)) ⟨rfl, rfl⟩ zy_L_deeperUnder_ok zm_424 zm_426 zm_2 (ci := 1) rfl rfl (by decide) (by decide) cd_L_mayHang_44 h.1 rfl rfl (Nat.le_of_ble_eq_true rfl) ?_
        refine ze_iadd cd_L_mayHang_47 ?_
        refine ze_bipush (v := nI 8) cd_L_mayHang_48 (by decide) ?_
        refine ze_icmp_gt (tgt := 57) cd_L_mayHang_50 (by decide) (fun c4 => ?_) (fun c4 => ?_)
        · skip
          refine ze_iconst (v := nI 0) cd_L_mayHang_57 (by decide) ?_
          refine ze_zret cd_L_mayHang_58 rfl (by decide) (by decide) (by decide) (zPp_mk ?_)
          first | (simp [zl_may, zb, nI_0, zn_1, c1, c2, c3, c4]; done) | (simp [zl_may, zb, nI_0, zn_1, zn_3, ← zn_3, ← zn_8, c1, c2, c3, c4]; done)
        · skip
          refine ze_iconst (v := nI 1) cd_L_mayHang_53 (by decide) ?_
          refine ze_goto (tgt := 58) cd_L_mayHang_54 (by decide) ?_
          refine ze_zret cd_L_mayHang_58 rfl (by decide) (by decide) (by decide) (zPp_mk ?_)
          first | (simp [zl_may, zb, nI_0, zn_1, c1, c2, c3, c4]; done) | (simp [zl_may, zb, nI_0, zn_1, zn_3, ← zn_3, ← zn_8, c1, c2, c3, c4]; done)
      · skip
        refine ze_iconst (v := nI 0) cd_L_mayHang_34 (by decide) ?_
        refine ze_zret cd_L_mayHang_35 rfl (by decide) (by decide) (by decide) (zPp_mk ?_)
        first | (simp [zl_may, zb, nI_0, zn_1, c1, c2, c3]; done) | (simp [zl_may, zb, nI_0, zn_1, zn_3, ← zn_3, ← zn_8, c1, c2, c3]; done)
