abbrev zr_F_isRestrictionKind : Room := { frames := 0, cells := 0, slots := 0, locals := 0 }
set_option maxRecDepth 100000 in
set_option maxHeartbeats 4000000 in
theorem kc_F_isRestrictionKind {g : zx_G} {σ : zx_M} {sz : Nat} {kd : Int32}  : zM g cy_F_isRestrictionKind cb_F_isRestrictionKind 1 (Option.some Jvm.ClassFile.FieldType.boolean) zr_F_isRestrictionKind 0 0 [.int kd] σ sz (zPp (zb (zi 4 kd).isSome) σ sz) := by
  refine zM_of (lv := [(0, .int kd)]) (ini := false) (by decide) rfl (by decide) (Nat.le_of_ble_eq_true rfl) rfl ?_
  refine ze_iload_n 0 cd_F_isRestrictionKind_0 rfl rfl ?_
  refine ze_if_lt (tgt := 13) cd_F_isRestrictionKind_1 (by decide) (fun c1 => ?_) (fun c1 => ?_)
  · skip
    refine ze_iconst (v := nI 0) cd_F_isRestrictionKind_13 (by decide) ?_
    refine ze_zret cd_F_isRestrictionKind_14 rfl (by decide) (by decide) (by decide) (zPp_mk ?_)
    first | (rw [zi_ltz c1]; rfl) | (rw [zi_hi (n := 4) c2]; rfl) | (rw [zi_ok2 (n := 4) c1 c2]; rfl)
  · skip
    refine ze_iload_n 0 cd_F_isRestrictionKind_4 rfl rfl ?_
    refine ze_iconst (v := nI 4) cd_F_isRestrictionKind_5 (by decide) ?_
    refine ze_icmp_ge (tgt := 13) cd_F_isRestrictionKind_6 (by decide) (fun c2 => ?_) (fun c2 => ?_)
    · skip
      have c2 : ¬ kd < (nI 4) := Int32.not_lt.mpr c2
      refine ze_iconst (v := nI 0) cd_F_isRestrictionKind_13 (by decide) ?_
      refine ze_zret cd_F_isRestrictionKind_14 rfl (by decide) (by decide) (by decide) (zPp_mk ?_)
      first | (rw [zi_ltz c1]; rfl) | (rw [zi_hi (n := 4) c2]; rfl) | (rw [zi_ok2 (n := 4) c1 c2]; rfl)
    · skip
      have c2 : kd < (nI 4) := Int32.not_le.mp c2
      refine ze_iconst (v := nI 1) cd_F_isRestrictionKind_9 (by decide) ?_
      refine ze_goto (tgt := 14) cd_F_isRestrictionKind_10 (by decide) ?_
      refine ze_zret cd_F_isRestrictionKind_14 rfl (by decide) (by decide) (by decide) (zPp_mk ?_)
      first | (rw [zi_ltz c1]; rfl) | (rw [zi_hi (n := 4) c2]; rfl) | (rw [zi_ok2 (n := 4) c1 c2]; rfl)
def zf_res (n : Nat) (N : Nat → Nat → Int32) (i kd r : Int32) : Int32 × (Nat → Nat → Int32) := match zi n i with
  | none => (-1, N)
  | some j => match zi 4 kd with
    | none => (-2, N)
    | some q => if r < 0 then (-2, N) else if nI 99 < r then (-2, N) else (1, va_up N 0 (upd (N 0) (j * 4 + q) r))
abbrev zr_F_restrict : Room := { frames := 1, cells := 0, slots := 0, locals := 23 }
set_option maxRecDepth 100000 in
set_option maxHeartbeats 4000000 in
theorem kc_F_restrict {g : zx_G} {σ : zx_M} {sz : Nat} {b t e s k p x y : Nat} {n : Nat} {R : Nat → Nat → Int32} {N : Nat → Nat → Int32} {i kd r : Int32} (hB : zfa g σ b t e s k p x y) (h : zl g σ x n R) (hn : n ≤ 100) (hN : zn g σ e N) (hxe : x + 12 ≤ e ∨ e + 7 ≤ x) (hbe : b < e ∨ e + 7 ≤ b) : zM g cy_F_restrict cb_F_restrict 4 (Option.some Jvm.ClassFile.FieldType.int) zr_F_restrict 0 0 [.ref b, .int i, .int kd, .int r] σ sz (zPi (fun v σ' sz' => sz' = sz ∧ zfr σ σ' e 7 ∧ ∃ N', zf_res n N i kd r = (v, N') ∧ zn g σ' e N')) := by
  have hF : zfr σ σ e 7 := zfr.rf
  refine zM_of (lv := [(0, .ref b), (1, .int i), (2, .int kd), (3, .int r)]) (ini := false) (by decide) rfl (by decide) (Nat.le_of_ble_eq_true rfl) rfl ?_
  refine ze_aload_n 0 cd_F_restrict_0 rfl rfl ?_
  refine ze_get zin_F (v := .ref x) (ci := 6) rfl 5 (by decide) zm_277 rfl cd_F_restrict_1 hB.1 rfl ?_
  refine ze_iload_n 1 cd_F_restrict_4 rfl rfl ?_
  refine ze_callVp (rm' := zr_L_has) (b := x) (As := [.int i]) (rest := []) (kc_L_has h) ⟨rfl, rfl⟩ zy_L_has_ok zm_310 zm_311 zm_312 (ci := 1) rfl rfl (by decide) (by decide) cd_F_restrict_5 h.1 rfl rfl (Nat.le_of_ble_eq_true rfl) ?_
  refine ze_if_ne (tgt := 13) cd_F_restrict_8 (by decide) (fun c1 => ?_) (fun c1 => ?_)
  · skip
    have c1 : ((zi n i).isSome) = true := zb_t c1
    obtain ⟨j, hj⟩ := Option.isSome_iff_exists.mp c1
    obtain ⟨hjn, rfl⟩ := zi_some (by omega) hj
    refine ze_iload_n 2 cd_F_restrict_13 rfl rfl ?_
    refine ze_callSp (rm' := zr_F_isRestrictionKind) (As := [.int kd]) (rest := []) kc_F_isRestrictionKind ⟨rfl, rfl⟩ zy_F_isRestrictionKind_ok zm_373 zm_374 (by decide) (by decide) cd_F_restrict_14 rfl rfl (Nat.le_of_ble_eq_true rfl) ?_
    refine ze_if_eq (tgt := 30) cd_F_restrict_17 (by decide) (fun c2 => ?_) (fun c2 => ?_)
    · skip
      have c2 : ((zi 4 kd).isSome) = false := zb_f c2
      have c2 : zi 4 kd = none := by simpa using c2
      refine ze_bipush (v := (-2 : Int32)) cd_F_restrict_30 (by decide) ?_
      refine ze_iret cd_F_restrict_32 rfl (by decide) (by decide) ⟨_, rfl, rfl, hF, N, ?_, hN⟩
      first | (simp only [zf_res, hj, c2]; done) | (simp only [zf_res, hj, c2, if_true, if_false, zn_1]; done) | (simp [zf_res, hj, c2, zn_1]; done)
    · skip
      have c2 : ((zi 4 kd).isSome) = true := zb_t c2
      obtain ⟨q, hq⟩ := Option.isSome_iff_exists.mp c2
      obtain ⟨hqn, rfl⟩ := zi_some (by omega) hq
      refine ze_iload_n 3 cd_F_restrict_20 rfl rfl ?_
      refine ze_if_lt (tgt := 30) cd_F_restrict_21 (by decide) (fun c3 => ?_) (fun c3 => ?_)
      · skip
        refine ze_bipush (v := (-2 : Int32)) cd_F_restrict_30 (by decide) ?_
        refine ze_iret cd_F_restrict_32 rfl (by decide) (by decide) ⟨_, rfl, rfl, hF, N, ?_, hN⟩
        first | (simp only [zf_res, hj, hq, c3]; done) | (simp only [zf_res, hj, hq, c3, if_true, if_false, zn_1]; done) | (simp [zf_res, hj, hq, c3, zn_1]; done)
      · skip
        refine ze_iload_n 3 cd_F_restrict_24 rfl rfl ?_
        refine ze_bipush (v := nI 99) cd_F_restrict_25 (by decide) ?_
        refine ze_icmp_le (tgt := 33) cd_F_restrict_27 (by decide) (fun c4 => ?_) (fun c4 => ?_)
        · skip
          have c4 : ¬ (nI 99) < r := Int32.not_lt.mpr c4
          refine ze_aload_n 0 cd_F_restrict_33 rfl rfl ?_
          refine ze_get zin_F (v := .ref e) (ci := 6) rfl 1 (by decide) zm_273 rfl cd_F_restrict_34 hB.1 rfl ?_
          refine ze_iload_n 1 cd_F_restrict_37 rfl rfl ?_
          refine ze_iload_n 2 cd_F_restrict_38 rfl rfl ?_
          refine ze_iload_n 3 cd_F_restrict_39 rfl rfl ?_
          refine ze_callVv (rm' := zr_N_setReason) (b := e) (As := [.int (nI j), .int (nI q), .int r]) (rest := []) (kc_N_setReason hN (by omega) (by omega)) ⟨rfl, rfl⟩ zy_N_setReason_ok zm_376 zm_377 zm_378 (ci := 2) rfl rfl (by decide) (by decide) cd_F_restrict_40 hN.1 rfl rfl (Nat.le_of_ble_eq_true rfl) (fun σ9 sz9 hq9 => ?_)
          obtain ⟨rfl, hF9, h9⟩ := hq9
          have hB := hB.frn hF9 0 rfl (by omega)
          have h := h.frn hF9 11 rfl (by omega)
          have hN := h9
          have hF := hF.trans (hF9.wide (by omega) (by omega))
          refine ze_iconst (v := nI 1) cd_F_restrict_43 (by decide) ?_
          refine ze_iret cd_F_restrict_44 rfl (by decide) (by decide) ⟨_, rfl, rfl, hF, va_up N 0 (upd (N 0) (j * 4 + q) r), ?_, hN⟩
          first | (simp only [zf_res, hj, hq, c3, c4]; done) | (simp only [zf_res, hj, hq, c3, c4, if_true, if_false, zn_1]; done) | (simp [zf_res, hj, hq, c3, c4, zn_1]; done)
        · skip
          have c4 : (nI 99) < r := Int32.not_le.mp c4
          refine ze_bipush (v := (-2 : Int32)) cd_F_restrict_30 (by decide) ?_
          refine ze_iret cd_F_restrict_32 rfl (by decide) (by decide) ⟨_, rfl, rfl, hF, N, ?_, hN⟩
          first | (simp only [zf_res, hj, hq, c3, c4]; done) | (simp only [zf_res, hj, hq, c3, c4, if_true, if_false, zn_1]; done) | (simp [zf_res, hj, hq, c3, c4, zn_1]; done)
  · skip
    have c1 : ((zi n i).isSome) = false := zb_f c1
    have c1 : zi n i = none := by simpa using c1
    refine ze_iconst (v := (-1 : Int32)) cd_F_restrict_11 (by decide) ?_
    refine ze_iret cd_F_restrict_12 rfl (by decide) (by decide) ⟨_, rfl, rfl, hF, N, ?_, hN⟩
    first | (simp only [zf_res, c1]; done) | (simp only [zf_res, c1, if_true, if_false, zn_1]; done) | (simp [zf_res, c1, zn_1]; done)
abbrev zr_F_restricted : Room := { frames := 1, cells := 0, slots := 0, locals := 22 }
set_option maxRecDepth 100000 in
set_option maxHeartbeats 4000000 in
theorem kc_F_restricted {g : zx_G} {σ : zx_M} {sz : Nat} {b t e s k p x y : Nat} {n : Nat} {R : Nat → Nat → Int32} {N : Nat → Nat → Int32} {i kd : Int32} (hB : zfa g σ b t e s k p x y) (h : zl g σ x n R) (hn : n ≤ 100) (hN : zn g σ e N) : zM g cy_F_restricted cb_F_restricted 6 (Option.some Jvm.ClassFile.FieldType.int) zr_F_restricted 0 0 [.ref b, .int i, .int kd] σ sz (zPp (zf_rstd n R N i kd) σ sz) := by
  generalize hX0 : zf_rstd n R N i kd = X0
  have loop : ∀ (i9 q : Nat), q < 4 → zf_rst n (R 2) (fun j => N 0 (j * 4 + q)) 9 (nI i9) = X0 → ∀ (kk sp : Nat) (z : Int32), sp + kk = 9 → zf_rst n (R 2) (fun j => N 0 (j * 4 + q)) kk z = X0 → zE g "FindingAid" cb_F_restricted 6 (Option.some Jvm.ClassFile.FieldType.int) false zr_F_restricted 0 0 (zPp X0 σ sz) 28 [(4, .int (nI sp)), (3, .int z), (0, .ref b), (1, .int (nI i9)), (2, .int (nI q))] [] σ sz 0 0 := by
    intro i9 q hq4 hX0 kk
    clear hX0
    induction kk with
    | zero =>
      intro sp z hk hE
      refine ze_iload 0 cd_F_restricted_28 rfl ?_
      refine ze_bipush (v := nI 8) cd_F_restricted_30 (by decide) ?_
      refine ze_icmp_gt (tgt := 81) cd_F_restricted_32 (by decide) (fun c2 => ?_) (fun c2 => ?_)
      · skip
        have c2 : 8 < sp := (nI_ltI (by omega) (by omega)).mp c2
        refine ze_iconst (v := nI 0) cd_F_restricted_81 (by decide) ?_
        refine ze_iret cd_F_restricted_82 rfl (by decide) (by decide) (zPp_mk ?_)
        first | (rw [← hE]; simp [zf_rst, nI_0, c2]; done) | (rw [← hX0]; simp only [zf_rstd, c2]; done)
      · skip
        have c2 : ¬ 8 < sp := fun h9 => c2 ((nI_ltI (by omega) (by omega)).mpr h9)
        exfalso; omega
    | succ kk ih =>
      intro sp z hk hE
      refine ze_iload 0 cd_F_restricted_28 rfl ?_
      refine ze_bipush (v := nI 8) cd_F_restricted_30 (by decide) ?_
      refine ze_icmp_gt (tgt := 81) cd_F_restricted_32 (by decide) (fun c4 => ?_) (fun c4 => ?_)
      · skip
        have c4 : 8 < sp := (nI_ltI (by omega) (by omega)).mp c4
        exfalso; omega
      · skip
        have c4 : ¬ 8 < sp := fun h9 => c4 ((nI_ltI (by omega) (by omega)).mpr h9)
        refine ze_aload_n 2 cd_F_restricted_35 rfl rfl ?_
        refine ze_get zin_F (v := .ref x) (ci := 6) rfl 5 (by decide) zm_277 rfl cd_F_restricted_36 hB.1 rfl ?_
        refine ze_iload_n 1 cd_F_restricted_39 rfl rfl ?_
        refine ze_callVp (rm' := zr_L_has) (b := x) (As := [.int z]) (rest := []) (kc_L_has h) ⟨rfl, rfl⟩ zy_L_has_ok zm_310 zm_311 zm_312 (ci := 1) rfl rfl (by decide) (by decide) cd_F_restricted_40 h.1 rfl rfl (Nat.le_of_ble_eq_true rfl) ?_
        refine ze_if_eq (tgt := 81) cd_F_restricted_43 (by decide) (fun c5 => ?_) (fun c5 => ?_)
        · skip
          have c5 : ((zi n z).isSome) = false := zb_f c5
          have c5 : zi n z = none := by simpa using c5
          refine ze_iconst (v := nI 0) cd_F_restricted_81 (by decide) ?_
          refine ze_iret cd_F_restricted_82 rfl (by decide) (by decide) (zPp_mk ?_)
          first | (rw [← hE]; simp [zf_rst, nI_0, c4, c5]; done) | (rw [← hX0]; simp only [zf_rstd, c4, c5]; done)
        · skip
          have c5 : ((zi n z).isSome) = true := zb_t c5
          obtain ⟨q9, hq9⟩ := Option.isSome_iff_exists.mp c5
          obtain ⟨hq9n, rfl⟩ := zi_some (by omega) hq9
          refine ze_aload_n 2 cd_F_restricted_46 rfl rfl ?_
          refine ze_get zin_F (v := .ref e) (ci := 6) rfl 1 (by decide) zm_273 rfl cd_F_restricted_47 hB.1 rfl ?_
          refine ze_iload_n 1 cd_F_restricted_50 rfl rfl ?_
          refine ze_iload_n 4 cd_F_restricted_51 rfl rfl ?_
          refine ze_callVp (rm' := zr_N_reasonOf) (b := e) (As := [.int (nI q9), .int (nI q)]) (rest := []) (kc_N_reasonOf hN (by omega) (by omega)) ⟨rfl, rfl⟩ zy_N_reasonOf_ok zm_384 zm_385 zm_386 (ci := 2) rfl rfl (by decide) (by decide) cd_F_restricted_52 hN.1 rfl rfl (Nat.le_of_ble_eq_true rfl) ?_
          refine ze_istore (lv' := [(5, .int (N 0 (q9 * 4 + q))), (4, .int (nI sp)), (3, .int (nI q9)), (0, .ref b), (1, .int (nI i9)), (2, .int (nI q))]) cd_F_restricted_55 (by decide) rfl ?_
          refine ze_iload 0 cd_F_restricted_57 rfl ?_
          refine ze_if_eq (tgt := 65) cd_F_restricted_59 (by decide) (fun c6 => ?_) (fun c6 => ?_)
          · skip
            refine ze_aload_n 3 cd_F_restricted_65 rfl rfl ?_
            refine ze_get zin_F (v := .ref x) (ci := 6) rfl 5 (by decide) zm_277 rfl cd_F_restricted_66 hB.1 rfl ?_
            refine ze_get zin_L (v := .ref (x + 3)) (ci := 1) rfl 3 (by decide) zm_104 rfl cd_F_restricted_69 h.1 rfl ?_
            refine ze_iload_n 2 cd_F_restricted_72 rfl rfl ?_
            refine ze_iald (j := q9) cd_F_restricted_73 (h.2 2 _ rfl) rfl (by omega) (by decide) ?_
            refine ze_istore_n (lv' := [(3, .int (R 2 q9)), (5, .int (N 0 (q9 * 4 + q))), (4, .int (nI sp)), (0, .ref b), (1, .int (nI i9)), (2, .int (nI q))]) cd_F_restricted_74 rfl (by decide) rfl ?_
            refine ze_iinc (v := nI (sp + 1)) (lv' := [(4, .int (nI (sp + 1))), (3, .int (R 2 q9)), (5, .int (N 0 (q9 * 4 + q))), (0, .ref b), (1, .int (nI i9)), (2, .int (nI q))]) 2 cd_F_restricted_75 rfl (nI_add _ 1) (by decide) rfl ?_
            refine ze_goto (tgt := 28) cd_F_restricted_78 (by decide) ?_
            exact ze_sub [0, 1, 3, 4, 5] rfl (ih (sp + 1) _ (by omega) (by rw [← hE]; simp [zf_rst, hq9, c6]))
          · skip
            refine ze_iload 0 cd_F_restricted_62 rfl ?_
            refine ze_iret cd_F_restricted_64 rfl (by decide) (by decide) (zPp_mk ?_)
            first | (rw [← hE]; simp [zf_rst, nI_0, c4, hq9, c6]; done) | (rw [← hX0]; simp only [zf_rstd, c4, hq9, c6]; done)
  refine zM_of (lv := [(0, .ref b), (1, .int i), (2, .int kd)]) (ini := false) (by decide) rfl (by decide) (Nat.le_of_ble_eq_true rfl) rfl ?_
  refine ze_aload_n 0 cd_F_restricted_0 rfl rfl ?_
  refine ze_get zin_F (v := .ref x) (ci := 6) rfl 5 (by decide) zm_277 rfl cd_F_restricted_1 hB.1 rfl ?_
  refine ze_iload_n 1 cd_F_restricted_4 rfl rfl ?_
  refine ze_callVp (rm' := zr_L_has) (b := x) (As := [.int i]) (rest := []) (kc_L_has h) ⟨rfl, rfl⟩ zy_L_has_ok zm_310 zm_311 zm_312 (ci := 1) rfl rfl (by decide) (by decide) cd_F_restricted_5 h.1 rfl rfl (Nat.le_of_ble_eq_true rfl) ?_
  refine ze_if_ne (tgt := 13) cd_F_restricted_8 (by decide) (fun c7 => ?_) (fun c7 => ?_)
  · skip
    have c7 : ((zi n i).isSome) = true := zb_t c7
    obtain ⟨i9, hi9⟩ := Option.isSome_iff_exists.mp c7
    obtain ⟨hi9n, rfl⟩ := zi_some (by omega) hi9
    refine ze_iload_n 2 cd_F_restricted_13 rfl rfl ?_
    refine ze_callSp (rm' := zr_F_isRestrictionKind) (As := [.int kd]) (rest := []) kc_F_isRestrictionKind ⟨rfl, rfl⟩ zy_F_isRestrictionKind_ok zm_373 zm_374 (by decide) (by decide) cd_F_restricted_14 rfl rfl (Nat.le_of_ble_eq_true rfl) ?_
    refine ze_if_ne (tgt := 23) cd_F_restricted_17 (by decide) (fun c8 => ?_) (fun c8 => ?_)
    · skip
      have c8 : ((zi 4 kd).isSome) = true := zb_t c8
      obtain ⟨q, hq⟩ := Option.isSome_iff_exists.mp c8
      obtain ⟨hqn, rfl⟩ := zi_some (by omega) hq
      refine ze_iload_n 1 cd_F_restricted_23 rfl rfl ?_
      refine ze_istore_n (lv' := [(3, .int (nI i9)), (0, .ref b), (1, .int (nI i9)), (2, .int (nI q))]) cd_F_restricted_24 rfl (by decide) rfl ?_
      refine ze_iconst (v := nI 0) cd_F_restricted_25 (by decide) ?_
      refine ze_istore (lv' := [(4, .int (nI 0)), (3, .int (nI i9)), (0, .ref b), (1, .int (nI i9)), (2, .int (nI q))]) cd_F_restricted_26 (by decide) rfl ?_
      exact ze_sub [0, 1, 2, 3, 4] rfl (loop i9 q (by omega) (by rw [← hX0]; simp only [zf_rstd, hi9, hq]) 9 0 (nI i9) (by omega) (by rw [← hX0]; simp only [zf_rstd, hi9, hq]))
    · skip
      have c8 : ((zi 4 kd).isSome) = false := zb_f c8
      have c8 : zi 4 kd = none := by simpa using c8
      refine ze_bipush (v := (-2 : Int32)) cd_F_restricted_20 (by decide) ?_
      refine ze_iret cd_F_restricted_22 rfl (by decide) (by decide) (zPp_mk ?_)
      first | (rw [← hE]; simp [zf_rst, nI_0, hi9, c8]; done) | (rw [← hX0]; simp only [zf_rstd, hi9, c8]; done)
  · skip
    have c7 : ((zi n i).isSome) = false := zb_f c7
    have c7 : zi n i = none := by simpa using c7
    refine ze_iconst (v := (-1 : Int32)) cd_F_restricted_11 (by decide) ?_
    refine ze_iret cd_F_restricted_12 rfl (by decide) (by decide) (zPp_mk ?_)
    first | (rw [← hE]; simp [zf_rst, nI_0, c7]; done) | (rw [← hX0]; simp only [zf_rstd, c7]; done)
def zf_nam (n : Nat) (N : Nat → Nat → Int32) (i hd : Int32) : Int32 × (Nat → Nat → Int32) := match zi n i with
  | none => (-1, N)
  | some j => if hd < nI 1 then (-2, N) else if nI 999 < hd then (-2, N) else if zn_hd N j (zn_c N j) hd then (-3, N) else if zn_c N j < 4 then (nI (zn_c N j + 1), zn_ah N j (zn_c N j) hd) else (-4, N)
abbrev zr_F_name : Room := { frames := 1, cells := 0, slots := 0, locals := 23 }
set_option maxRecDepth 100000 in
set_option maxHeartbeats 4000000 in
theorem kc_F_name {g : zx_G} {σ : zx_M} {sz : Nat} {b t e s k p x y : Nat} {n : Nat} {R : Nat → Nat → Int32} {N : Nat → Nat → Int32} {i hd : Int32} (hB : zfa g σ b t e s k p x y) (h : zl g σ x n R) (hn : n ≤ 100) (hN : zn g σ e N) (hxe : x + 12 ≤ e ∨ e + 7 ≤ x) (hbe : b < e ∨ e + 7 ≤ b) (hc : zn_ok N) : zM g cy_F_name cb_F_name 3 (Option.some Jvm.ClassFile.FieldType.int) zr_F_name 0 0 [.ref b, .int i, .int hd] σ sz (zPi (fun v σ' sz' => sz' = sz ∧ zfr σ σ' e 7 ∧ ∃ N', zf_nam n N i hd = (v, N') ∧ zn g σ' e N')) := by
  have hF : zfr σ σ e 7 := zfr.rf
  refine zM_of (lv := [(0, .ref b), (1, .int i), (2, .int hd)]) (ini := false) (by decide) rfl (by decide) (Nat.le_of_ble_eq_true rfl) rfl ?_
  refine ze_aload_n 0 cd_F_name_0 rfl rfl ?_
  refine ze_get zin_F (v := .ref x) (ci := 6) rfl 5 (by decide) zm_277 rfl cd_F_name_1 hB.1 rfl ?_
  refine ze_iload_n 1 cd_F_name_4 rfl rfl ?_
  refine ze_callVp (rm' := zr_L_has) (b := x) (As := [.int i]) (rest := []) (kc_L_has h) ⟨rfl, rfl⟩ zy_L_has_ok zm_310 zm_311 zm_312 (ci := 1) rfl rfl (by decide) (by decide) cd_F_name_5 h.1 rfl rfl (Nat.le_of_ble_eq_true rfl) ?_
  refine ze_if_ne (tgt := 13) cd_F_name_8 (by decide) (fun c1 => ?_) (fun c1 => ?_)
  · skip
    have c1 : ((zi n i).isSome) = true := zb_t c1
    obtain ⟨j, hj⟩ := Option.isSome_iff_exists.mp c1
    obtain ⟨hjn, rfl⟩ := zi_some (by omega) hj
    have hc4 := (hc j (by omega)).1.2
    refine ze_iload_n 2 cd_F_name_13 rfl rfl ?_
    refine ze_iconst (v := nI 1) cd_F_name_14 (by decide) ?_
    refine ze_icmp_lt (tgt := 25) cd_F_name_15 (by decide) (fun c2 => ?_) (fun c2 => ?_)
    · skip
      refine ze_bipush (v := (-2 : Int32)) cd_F_name_25 (by decide) ?_
      refine ze_iret cd_F_name_27 rfl (by decide) (by decide) ⟨_, rfl, rfl, hF, N, ?_, hN⟩
      first | (simp only [zf_nam, hj, c2]; done) | (simp only [zf_nam, hj, c2, if_true, if_false]; done) | (simp [zf_nam, hj, c2]; done)
    · skip
      refine ze_iload_n 2 cd_F_name_18 rfl rfl ?_
      refine ze_sipush (v := nI 999) cd_F_name_19 (by decide) ?_
      refine ze_icmp_le (tgt := 28) cd_F_name_22 (by decide) (fun c3 => ?_) (fun c3 => ?_)
      · skip
        have c3 : ¬ (nI 999) < hd := Int32.not_lt.mpr c3
        refine ze_aload_n 0 cd_F_name_28 rfl rfl ?_
        refine ze_get zin_F (v := .ref e) (ci := 6) rfl 1 (by decide) zm_273 rfl cd_F_name_29 hB.1 rfl ?_
        refine ze_iload_n 1 cd_F_name_32 rfl rfl ?_
        refine ze_iload_n 2 cd_F_name_33 rfl rfl ?_
        refine ze_callVp (rm' := zr_N_hasHeading) (b := e) (As := [.int (nI j), .int hd]) (rest := []) (kc_N_hasHeading hN (by omega) (hc j (by omega)).1.1 (hc j (by omega)).1.2) ⟨rfl, rfl⟩ zy_N_hasHeading_ok zm_392 zm_393 zm_394 (ci := 2) rfl rfl (by decide) (by decide) cd_F_name_34 hN.1 rfl rfl (Nat.le_of_ble_eq_true rfl) ?_
        refine ze_if_eq (tgt := 43) cd_F_name_37 (by decide) (fun c4 => ?_) (fun c4 => ?_)
        · skip
          have c4 : (zn_hd N j (zn_c N j) hd) = false := zb_f c4
          refine ze_aload_n 0 cd_F_name_43 rfl rfl ?_
          refine ze_get zin_F (v := .ref e) (ci := 6) rfl 1 (by decide) zm_273 rfl cd_F_name_44 hB.1 rfl ?_
          refine ze_get zin_N (v := .ref (e + 4)) (ci := 2) rfl 3 (by decide) zm_191 rfl cd_F_name_47 hN.1 rfl ?_
          refine ze_iload_n 1 cd_F_name_50 rfl rfl ?_
          refine ze_iald (j := j) cd_F_name_51 (hN.2 3 _ rfl) rfl (by omega) (by decide) ?_
          refine ze_top (hc j (by omega)).1.1 ?_
          refine ze_iconst (v := nI 4) cd_F_name_52 (by decide) ?_
          refine ze_icmp_lt (tgt := 59) cd_F_name_53 (by decide) (fun c5 => ?_) (fun c5 => ?_)
          · skip
            have c5 : (zn_c N j) < 4 := (nI_ltI (by omega) (by omega)).mp c5
            refine ze_aload_n 0 cd_F_name_59 rfl rfl ?_
            refine ze_get zin_F (v := .ref e) (ci := 6) rfl 1 (by decide) zm_273 rfl cd_F_name_60 hB.1 rfl ?_
            refine ze_iload_n 1 cd_F_name_63 rfl rfl ?_
            refine ze_iload_n 2 cd_F_name_64 rfl rfl ?_
            refine ze_callVv (rm' := zr_N_addHeading) (b := e) (As := [.int (nI j), .int hd]) (rest := []) (kc_N_addHeading hN (by omega) (hc j (by omega)).1.1 (hc j (by omega)).1.2) ⟨rfl, rfl⟩ zy_N_addHeading_ok zm_396 zm_397 zm_398 (ci := 2) rfl rfl (by decide) (by decide) cd_F_name_65 hN.1 rfl rfl (Nat.le_of_ble_eq_true rfl) (fun σ9 sz9 hq9 => ?_)
            obtain ⟨rfl, hF9, h9⟩ := hq9
            have hB := hB.frn hF9 0 rfl (by omega)
            have h := h.frn hF9 11 rfl (by omega)
            have hN := h9
            have hF := hF.trans (hF9.wide (by omega) (by omega))
            refine ze_aload_n 0 cd_F_name_68 rfl rfl ?_
            refine ze_get zin_F (v := .ref e) (ci := 6) rfl 1 (by decide) zm_273 rfl cd_F_name_69 hB.1 rfl ?_
            refine ze_get zin_N (v := .ref (e + 4)) (ci := 2) rfl 3 (by decide) zm_191 rfl cd_F_name_72 hN.1 rfl ?_
            refine ze_iload_n 1 cd_F_name_75 rfl rfl ?_
            refine ze_iald (j := j) cd_F_name_76 (hN.2 3 _ rfl) rfl (by omega) (by decide) ?_
            refine ze_top (by rw [zn_ah, if_pos (by omega), va_up_self, pk_us]) ?_
            refine ze_iret cd_F_name_77 rfl (by decide) (by decide) ⟨_, rfl, rfl, hF, zn_ah N j (zn_c N j) hd, ?_, hN⟩
            first | (simp only [zf_nam, hj, c2, c3, c4, c5]; done) | (simp only [zf_nam, hj, c2, c3, c4, c5, if_true, if_false]; done) | (simp [zf_nam, hj, c2, c3, c4, c5]; done)
          · skip
            have c5 : ¬ (zn_c N j) < 4 := fun h9 => c5 ((nI_ltI (by omega) (by omega)).mpr h9)
            refine ze_bipush (v := (-4 : Int32)) cd_F_name_56 (by decide) ?_
            refine ze_iret cd_F_name_58 rfl (by decide) (by decide) ⟨_, rfl, rfl, hF, N, ?_, hN⟩
            first | (simp only [zf_nam, hj, c2, c3, c4, c5]; done) | (simp only [zf_nam, hj, c2, c3, c4, c5, if_true, if_false]; done) | (simp [zf_nam, hj, c2, c3, c4, c5]; done)
        · skip
          have c4 : (zn_hd N j (zn_c N j) hd) = true := zb_t c4
          refine ze_bipush (v := (-3 : Int32)) cd_F_name_40 (by decide) ?_
          refine ze_iret cd_F_name_42 rfl (by decide) (by decide) ⟨_, rfl, rfl, hF, N, ?_, hN⟩
          first | (simp only [zf_nam, hj, c2, c3, c4]; done) | (simp only [zf_nam, hj, c2, c3, c4, if_true, if_false]; done) | (simp [zf_nam, hj, c2, c3, c4]; done)
      · skip
        have c3 : (nI 999) < hd := Int32.not_le.mp c3
        refine ze_bipush (v := (-2 : Int32)) cd_F_name_25 (by decide) ?_
        refine ze_iret cd_F_name_27 rfl (by decide) (by decide) ⟨_, rfl, rfl, hF, N, ?_, hN⟩
        first | (simp only [zf_nam, hj, c2, c3]; done) | (simp only [zf_nam, hj, c2, c3, if_true, if_false]; done) | (simp [zf_nam, hj, c2, c3]; done)
  · skip
    have c1 : ((zi n i).isSome) = false := zb_f c1
    have c1 : zi n i = none := by simpa using c1
    refine ze_iconst (v := (-1 : Int32)) cd_F_name_11 (by decide) ?_
    refine ze_iret cd_F_name_12 rfl (by decide) (by decide) ⟨_, rfl, rfl, hF, N, ?_, hN⟩
    first | (simp only [zf_nam, c1]; done) | (simp only [zf_nam, c1, if_true, if_false]; done) | (simp [zf_nam, c1]; done)
def zf_was (n : Nat) (N : Nat → Nat → Int32) (i k : Int32) : Int32 := match zi n i with
  | none => -1
  | some j => match zi (zn_m N j) k with
    | none => -1
    | some q => N 2 (j * 5 + q)
abbrev zr_F_was : Room := { frames := 1, cells := 0, slots := 0, locals := 22 }
set_option maxRecDepth 100000 in
set_option maxHeartbeats 4000000 in
theorem kc_F_was {g : zx_G} {σ : zx_M} {sz : Nat} {b t e s k p x y : Nat} {n : Nat} {R : Nat → Nat → Int32} {N : Nat → Nat → Int32} {i k9 : Int32} (hB : zfa g σ b t e s k p x y) (h : zl g σ x n R) (hn : n ≤ 100) (hN : zn g σ e N) (hc : zn_ok N) : zM g cy_F_was cb_F_was 3 (Option.some Jvm.ClassFile.FieldType.int) zr_F_was 0 0 [.ref b, .int i, .int k9] σ sz (zPp (zf_was n N i k9) σ sz) := by
  refine zM_of (lv := [(0, .ref b), (1, .int i), (2, .int k9)]) (ini := false) (by decide) rfl (by decide) (Nat.le_of_ble_eq_true rfl) rfl ?_
  refine ze_aload_n 0 cd_F_was_0 rfl rfl ?_
  refine ze_get zin_F (v := .ref x) (ci := 6) rfl 5 (by decide) zm_277 rfl cd_F_was_1 hB.1 rfl ?_
  refine ze_iload_n 1 cd_F_was_4 rfl rfl ?_
  refine ze_callVp (rm' := zr_L_has) (b := x) (As := [.int i]) (rest := []) (kc_L_has h) ⟨rfl, rfl⟩ zy_L_has_ok zm_310 zm_311 zm_312 (ci := 1) rfl rfl (by decide) (by decide) cd_F_was_5 h.1 rfl rfl (Nat.le_of_ble_eq_true rfl) ?_
  refine ze_if_eq (tgt := 28) cd_F_was_8 (by decide) (fun c1 => ?_) (fun c1 => ?_)
  · skip
    have c1 : ((zi n i).isSome) = false := zb_f c1
    have c1 : zi n i = none := by simpa using c1
    refine ze_iconst (v := (-1 : Int32)) cd_F_was_28 (by decide) ?_
    refine ze_iret cd_F_was_29 rfl (by decide) (by decide) (zPp_mk ?_)
    first | (simp only [zf_was, c1]; done) | (simp only [zf_was, zi_ltz c2]; done) | (simp only [zf_was, zi_hi c3]; done) | (simp only [zf_was]; done)
  · skip
    have c1 : ((zi n i).isSome) = true := zb_t c1
    obtain ⟨j, hj⟩ := Option.isSome_iff_exists.mp c1
    obtain ⟨hjn, rfl⟩ := zi_some (by omega) hj
    obtain ⟨hm, hm5⟩ := (hc j (by omega)).2
    refine ze_iload_n 2 cd_F_was_11 rfl rfl ?_
    refine ze_if_lt (tgt := 28) cd_F_was_12 (by decide) (fun c2 => ?_) (fun c2 => ?_)
    · skip
      refine ze_iconst (v := (-1 : Int32)) cd_F_was_28 (by decide) ?_
      refine ze_iret cd_F_was_29 rfl (by decide) (by decide) (zPp_mk ?_)
      first | (simp only [zf_was, hj, c2]; done) | (simp only [zf_was, hj, zi_ltz c2]; done) | (simp only [zf_was, hj, zi_hi c3]; done) | (simp only [zf_was, hj]; done)
    · skip
      refine ze_iload_n 2 cd_F_was_15 rfl rfl ?_
      refine ze_aload_n 0 cd_F_was_16 rfl rfl ?_
      refine ze_get zin_F (v := .ref e) (ci := 6) rfl 1 (by decide) zm_273 rfl cd_F_was_17 hB.1 rfl ?_
      refine ze_get zin_N (v := .ref (e + 5)) (ci := 2) rfl 4 (by decide) zm_193 rfl cd_F_was_20 hN.1 rfl ?_
      refine ze_iload_n 1 cd_F_was_23 rfl rfl ?_
      refine ze_iald (j := j) cd_F_was_24 (hN.2 4 _ rfl) rfl (by omega) (by decide) ?_
      refine ze_top hm ?_
      refine ze_icmp_lt (tgt := 30) cd_F_was_25 (by decide) (fun c3 => ?_) (fun c3 => ?_)
      · skip
        obtain ⟨q, hq, rfl⟩ : ∃ q, zi (zn_m N j) k9 = some q ∧ k9 = nI q := ⟨_, zi_ok2 c2 c3, (zi_some (by omega) (zi_ok2 c2 c3)).2⟩
        have hqn := (zi_some (by omega) hq).1
        refine ze_aload_n 0 cd_F_was_30 rfl rfl ?_
        refine ze_get zin_F (v := .ref e) (ci := 6) rfl 1 (by decide) zm_273 rfl cd_F_was_31 hB.1 rfl ?_
        refine ze_iload_n 1 cd_F_was_34 rfl rfl ?_
        refine ze_iload_n 2 cd_F_was_35 rfl rfl ?_
        refine ze_callVp (rm' := zr_N_underBefore) (b := e) (As := [.int (nI j), .int (nI q)]) (rest := []) (kc_N_underBefore hN (by omega) (by omega)) ⟨rfl, rfl⟩ zy_N_underBefore_ok zm_440 zm_441 zm_442 (ci := 2) rfl rfl (by decide) (by decide) cd_F_was_36 hN.1 rfl rfl (Nat.le_of_ble_eq_true rfl) ?_
        refine ze_iret cd_F_was_39 rfl (by decide) (by decide) (zPp_mk ?_)
        first | (simp only [zf_was, hj, hq]; done) | (simp only [zf_was, hj, hq, zi_ltz c2]; done) | (simp only [zf_was, hj, hq, zi_hi c3]; done) | (simp only [zf_was, hj, hq]; done)
      · skip
        refine ze_iconst (v := (-1 : Int32)) cd_F_was_28 (by decide) ?_
        refine ze_iret cd_F_was_29 rfl (by decide) (by decide) (zPp_mk ?_)
        first | (simp only [zf_was, hj, c2, c3]; done) | (simp only [zf_was, hj, zi_ltz c2]; done) | (simp only [zf_was, hj, zi_hi c3]; done) | (simp only [zf_was, hj]; done)
def zf_mov (n : Nat) (R N : Nat → Nat → Int32) (i u : Int32) : Int32 × (Nat → Nat → Int32) × (Nat → Nat → Int32) := match zi n i with
  | none => (-1, R, N)
  | some j => match zi n u with
    | none => (-1, R, N)
    | some v => if j = 0 then (-3, R, N) else if zl_may n R j v then (1, zl_hang n R j v, zn_am N j (zn_m N j) (R 2 j)) else (-3, R, N)
abbrev zr_F_move : Room := { frames := 4, cells := 0, slots := 0, locals := 90 }
set_option maxRecDepth 100000 in
set_option maxHeartbeats 4000000 in
theorem kc_F_move {g : zx_G} {σ : zx_M} {sz : Nat} {b t e s k p x y : Nat} {n : Nat} {R : Nat → Nat → Int32} {N : Nat → Nat → Int32} {i u : Int32} (hB : zfa g σ b t e s k p x y) (h : zl g σ x n R) (hn : n ≤ 100) (hN : zn g σ e N) (hxe : x + 12 ≤ e ∨ e + 7 ≤ x) (hbe : b < e ∨ e + 7 ≤ b) (hc : zn_ok N) (hbx : b < x ∨ x + 12 ≤ b) : zM g cy_F_move cb_F_move 3 (Option.some Jvm.ClassFile.FieldType.int) zr_F_move 0 0 [.ref b, .int i, .int u] σ sz (zPi (fun v σ' sz' => sz' = sz ∧ zfr2 σ σ' x 12 e 7 ∧ ∃ R' N', zf_mov n R N i u = (v, R', N') ∧ zl g σ' x n R' ∧ zn g σ' e N')) := by
  have hF : zfr2 σ σ x 12 e 7 := zfr2.rf
  refine zM_of (lv := [(0, .ref b), (1, .int i), (2, .int u)]) (ini := false) (by decide) rfl (by decide) (Nat.le_of_ble_eq_true rfl) rfl ?_
  refine ze_aload_n 0 cd_F_move_0 rfl rfl ?_
  refine ze_get zin_F (v := .ref x) (ci := 6) rfl 5 (by decide) zm_277 rfl cd_F_move_1 hB.1 rfl ?_
  refine ze_iload_n 1 cd_F_move_4 rfl rfl ?_
  refine ze_callVp (rm' := zr_L_has) (b := x) (As := [.int i]) (rest := []) (kc_L_has h) ⟨rfl, rfl⟩ zy_L_has_ok zm_310 zm_311 zm_312 (ci := 1) rfl rfl (by decide) (by decide) cd_F_move_5 h.1 rfl rfl (Nat.le_of_ble_eq_true rfl) ?_
  refine ze_if_eq (tgt := 22) cd_F_move_8 (by decide) (fun c1 => ?_) (fun c1 => ?_)
  · skip
    have c1 : ((zi n i).isSome) = false := zb_f c1
    have c1 : zi n i = none := by simpa using c1
    refine ze_iconst (v := (-1 : Int32)) cd_F_move_22 (by decide) ?_
    refine ze_iret cd_F_move_23 rfl (by decide) (by decide) ⟨_, rfl, rfl, hF, R, N, ?_, h, hN⟩
    first | (simp only [zf_mov, c1]; done) | (simp only [zf_mov, c1, if_true, if_false, zn_1]; done) | (simp only [zf_mov]; simp [zn_1, c1]; done) | (simp [zf_mov, c1, zn_1]; done)
  · skip
    have c1 : ((zi n i).isSome) = true := zb_t c1
    obtain ⟨i9, hi9⟩ := Option.isSome_iff_exists.mp c1
    obtain ⟨hi9n, rfl⟩ := zi_some (by omega) hi9
    refine ze_aload_n 0 cd_F_move_11 rfl rfl ?_
    refine ze_get zin_F (v := .ref x) (ci := 6) rfl 5 (by decide) zm_277 rfl cd_F_move_12 hB.1 rfl ?_
    refine ze_iload_n 2 cd_F_move_15 rfl rfl ?_
    refine ze_callVp (rm' := zr_L_has) (b := x) (As := [.int u]) (rest := []) (kc_L_has h) ⟨rfl, rfl⟩ zy_L_has_ok zm_310 zm_311 zm_312 (ci := 1) rfl rfl (by decide) (by decide) cd_F_move_16 h.1 rfl rfl (Nat.le_of_ble_eq_true rfl) ?_
    refine ze_if_ne (tgt := 24) cd_F_move_19 (by decide) (fun c2 => ?_) (fun c2 => ?_)
    · skip
      have c2 : ((zi n u).isSome) = true := zb_t c2
      obtain ⟨u9, hu9⟩ := Option.isSome_iff_exists.mp c2
      obtain ⟨hu9n, rfl⟩ := zi_some (by omega) hu9
      refine ze_iload_n 1 cd_F_move_24 rfl rfl ?_
      refine ze_if_eq (tgt := 40) cd_F_move_25 (by decide) (fun c3 => ?_) (fun c3 => ?_)
      · skip
        have c3 := c3; rw [← nI_0] at c3
        have c3 : i9 = 0 := (nI_eq (by omega) (by omega)).mp c3
        refine ze_bipush (v := (-3 : Int32)) cd_F_move_40 (by decide) ?_
        refine ze_iret cd_F_move_42 rfl (by decide) (by decide) ⟨_, rfl, rfl, hF, R, N, ?_, h, hN⟩
        first | (simp only [zf_mov, hi9, hu9, c3]; done) | (simp only [zf_mov, hi9, hu9, c3, if_true, if_false, zn_1]; done) | (simp only [zf_mov, hi9, hu9]; simp [zn_1, hi9, hu9, c3]; done) | (simp [zf_mov, hi9, hu9, c3, zn_1]; done)
      · skip
        have c3 := c3; rw [← nI_0] at c3
        have c3 : ¬ i9 = 0 := fun h9 => c3 (by rw [h9])
        refine ze_aload_n 0 cd_F_move_28 rfl rfl ?_
        refine ze_get zin_F (v := .ref x) (ci := 6) rfl 5 (by decide) zm_277 rfl cd_F_move_29 hB.1 rfl ?_
        refine ze_iload_n 1 cd_F_move_32 rfl rfl ?_
        refine ze_iload_n 2 cd_F_move_33 rfl rfl ?_
        refine ze_callVp (rm' := zr_L_mayHang) (b := x) (As := [.int (nI i9), .int (nI u9)]) (rest := []) (kc_L_mayHang h (by omega) (by omega) (by omega)) ⟨rfl, rfl⟩ zy_L_mayHang_ok zm_408 zm_409 zm_410 (ci := 1) rfl rfl (by decide) (by decide) cd_F_move_34 h.1 rfl rfl (Nat.le_of_ble_eq_true rfl) ?_
        refine ze_if_ne (tgt := 43) cd_F_move_37 (by decide) (fun c4 => ?_) (fun c4 => ?_)
        · skip
          have c4 : (zl_may n R i9 u9) = true := zb_t c4
          refine ze_aload_n 0 cd_F_move_43 rfl rfl ?_
          refine ze_get zin_F (v := .ref e) (ci := 6) rfl 1 (by decide) zm_273 rfl cd_F_move_44 hB.1 rfl ?_
          refine ze_iload_n 1 cd_F_move_47 rfl rfl ?_
          refine ze_aload_n 0 cd_F_move_48 rfl rfl ?_
          refine ze_get zin_F (v := .ref x) (ci := 6) rfl 5 (by decide) zm_277 rfl cd_F_move_49 hB.1 rfl ?_
          refine ze_get zin_L (v := .ref (x + 3)) (ci := 1) rfl 3 (by decide) zm_104 rfl cd_F_move_52 h.1 rfl ?_
          refine ze_iload_n 1 cd_F_move_55 rfl rfl ?_
          refine ze_iald (j := i9) cd_F_move_56 (h.2 2 _ rfl) rfl (by omega) (by decide) ?_
          refine ze_callVv (rm' := zr_N_addMove) (b := e) (As := [.int (nI i9), .int (R 2 i9)]) (rest := []) (kc_N_addMove hN (by omega) (hc i9 (by omega)).2.1 (hc i9 (by omega)).2.2) ⟨rfl, rfl⟩ zy_N_addMove_ok zm_428 zm_429 zm_430 (ci := 2) rfl rfl (by decide) (by decide) cd_F_move_57 hN.1 rfl rfl (Nat.le_of_ble_eq_true rfl) (fun σ9 sz9 hq9 => ?_)
          obtain ⟨rfl, hF9, h9⟩ := hq9
          have hB := hB.frn hF9 0 rfl (by omega)
          have h := h.frn hF9 11 rfl (by omega)
          have hN := h9
          have hF := hF.tr1 hF9 (by omega)
          refine ze_aload_n 0 cd_F_move_60 rfl rfl ?_
          refine ze_get zin_F (v := .ref x) (ci := 6) rfl 5 (by decide) zm_277 rfl cd_F_move_61 hB.1 rfl ?_
          refine ze_iload_n 1 cd_F_move_64 rfl rfl ?_
          refine ze_iload_n 2 cd_F_move_65 rfl rfl ?_
          refine ze_callVv (rm' := zr_L_hang) (b := x) (As := [.int (nI i9), .int (nI u9)]) (rest := []) (kc_L_hang h (by omega) (by omega) (by omega)) ⟨rfl, rfl⟩ zy_L_hang_ok zm_432 zm_433 zm_434 (ci := 1) rfl rfl (by decide) (by decide) cd_F_move_66 h.1 rfl rfl (Nat.le_of_ble_eq_true rfl) (fun σ9 sz9 hq9 => ?_)
          obtain ⟨rfl, hF9, h9⟩ := hq9
          have hB := hB.frn hF9 0 rfl (by omega)
          have hN := hN.frn hF9 6 rfl (by omega)
          have h := h9
          have hF := hF.tr1 hF9 (by omega)
          refine ze_iconst (v := nI 1) cd_F_move_69 (by decide) ?_
          refine ze_iret cd_F_move_70 rfl (by decide) (by decide) ⟨_, rfl, rfl, hF, zl_hang n R i9 u9, zn_am N i9 (zn_m N i9) (R 2 i9), ?_, h, hN⟩
          first | (simp only [zf_mov, hi9, hu9, c3, c4]; done) | (simp only [zf_mov, hi9, hu9, c3, c4, if_true, if_false, zn_1]; done) | (simp only [zf_mov, hi9, hu9]; simp [zn_1, hi9, hu9, c3, c4]; done) | (simp [zf_mov, hi9, hu9, c3, c4, zn_1]; done)
        · skip
          have c4 : (zl_may n R i9 u9) = false := zb_f c4
          refine ze_bipush (v := (-3 : Int32)) cd_F_move_40 (by decide) ?_
          refine ze_iret cd_F_move_42 rfl (by decide) (by decide) ⟨_, rfl, rfl, hF, R, N, ?_, h, hN⟩
          first | (simp only [zf_mov, hi9, hu9, c3, c4]; done) | (simp only [zf_mov, hi9, hu9, c3, c4, if_true, if_false, zn_1]; done) | (simp only [zf_mov, hi9, hu9]; simp [zn_1, hi9, hu9, c3, c4]; done) | (simp [zf_mov, hi9, hu9, c3, c4, zn_1]; done)
    · skip
      have c2 : ((zi n u).isSome) = false := zb_f c2
      have c2 : zi n u = none := by simpa using c2
      refine ze_iconst (v := (-1 : Int32)) cd_F_move_22 (by decide) ?_
      refine ze_iret cd_F_move_23 rfl (by decide) (by decide) ⟨_, rfl, rfl, hF, R, N, ?_, h, hN⟩
      first | (simp only [zf_mov, hi9, c2]; done) | (simp only [zf_mov, hi9, c2, if_true, if_false, zn_1]; done) | (simp only [zf_mov, hi9]; simp [zn_1, hi9, c2]; done) | (simp [zf_mov, hi9, c2, zn_1]; done)
abbrev zr_F_isShown : Room := { frames := 1, cells := 0, slots := 0, locals := 21 }
set_option maxRecDepth 100000 in
set_option maxHeartbeats 4000000 in
theorem kc_F_isShown {g : zx_G} {σ : zx_M} {sz : Nat} {b t e s k p x y : Nat} {n : Nat} {R : Nat → Nat → Int32} {N : Nat → Nat → Int32} {i : Int32} (hB : zfa g σ b t e s k p x y) (h : zl g σ x n R) (hn : n ≤ 100) (hN : zn g σ e N) : zM g cy_F_isShown cb_F_isShown 4 (Option.some Jvm.ClassFile.FieldType.boolean) zr_F_isShown 0 0 [.ref b, .int i] σ sz (zPp (zb (zf_shn n (R 2) (N 5) 9 i)) σ sz) := by
  generalize hX0 : zf_shn n (R 2) (N 5) 9 i = X0
  have loop : ∀ (kk : Nat) (sp : Nat) (z : Int32), sp + kk = 9 → zf_shn n (R 2) (N 5) kk z = X0 → zE g "FindingAid" cb_F_isShown 4 (Option.some Jvm.ClassFile.FieldType.boolean) false zr_F_isShown 0 0 (zPp (zb (X0)) σ sz) 4 [(3, .int (nI sp)), (2, .int z), (0, .ref b), (1, .int i)] [] σ sz 0 0 := by
    intro kk
    induction kk with
    | zero =>
      intro sp z hk hE
      refine ze_iload_n 0 cd_F_isShown_4 rfl rfl ?_
      refine ze_bipush (v := nI 8) cd_F_isShown_5 (by decide) ?_
      refine ze_icmp_gt (tgt := 51) cd_F_isShown_7 (by decide) (fun c2 => ?_) (fun c2 => ?_)
      · skip
        have c2 : 8 < sp := (nI_ltI (by omega) (by omega)).mp c2
        refine ze_iconst (v := nI 1) cd_F_isShown_51 (by decide) ?_
        refine ze_zret cd_F_isShown_52 rfl (by decide) (by decide) (by decide) (zPp_mk ?_)
        rw [← hE]; simp [zf_shn, zb, nI_0, zn_1, c2]
      · skip
        have c2 : ¬ 8 < sp := fun h9 => c2 ((nI_ltI (by omega) (by omega)).mpr h9)
        exfalso; omega
    | succ kk ih =>
      intro sp z hk hE
      refine ze_iload_n 0 cd_F_isShown_4 rfl rfl ?_
      refine ze_bipush (v := nI 8) cd_F_isShown_5 (by decide) ?_
      refine ze_icmp_gt (tgt := 51) cd_F_isShown_7 (by decide) (fun c4 => ?_) (fun c4 => ?_)
      · skip
        have c4 : 8 < sp := (nI_ltI (by omega) (by omega)).mp c4
        exfalso; omega
      · skip
        have c4 : ¬ 8 < sp := fun h9 => c4 ((nI_ltI (by omega) (by omega)).mpr h9)
        refine ze_aload_n 2 cd_F_isShown_10 rfl rfl ?_
        refine ze_get zin_F (v := .ref x) (ci := 6) rfl 5 (by decide) zm_277 rfl cd_F_isShown_11 hB.1 rfl ?_
        refine ze_iload_n 1 cd_F_isShown_14 rfl rfl ?_
        refine ze_callVp (rm' := zr_L_has) (b := x) (As := [.int z]) (rest := []) (kc_L_has h) ⟨rfl, rfl⟩ zy_L_has_ok zm_310 zm_311 zm_312 (ci := 1) rfl rfl (by decide) (by decide) cd_F_isShown_15 h.1 rfl rfl (Nat.le_of_ble_eq_true rfl) ?_
        refine ze_if_eq (tgt := 51) cd_F_isShown_18 (by decide) (fun c5 => ?_) (fun c5 => ?_)
        · skip
          have c5 : ((zi n z).isSome) = false := zb_f c5
          have c5 : zi n z = none := by simpa using c5
          refine ze_iconst (v := nI 1) cd_F_isShown_51 (by decide) ?_
          refine ze_zret cd_F_isShown_52 rfl (by decide) (by decide) (by decide) (zPp_mk ?_)
          rw [← hE]; simp [zf_shn, zb, nI_0, zn_1, c4, c5]
        · skip
          have c5 : ((zi n z).isSome) = true := zb_t c5
          obtain ⟨q9, hq9⟩ := Option.isSome_iff_exists.mp c5
          obtain ⟨hq9n, rfl⟩ := zi_some (by omega) hq9
          refine ze_aload_n 2 cd_F_isShown_21 rfl rfl ?_
          refine ze_get zin_F (v := .ref e) (ci := 6) rfl 1 (by decide) zm_273 rfl cd_F_isShown_22 hB.1 rfl ?_
          refine ze_get zin_N (v := .ref (e + 6)) (ci := 2) rfl 5 (by decide) zm_196 rfl cd_F_isShown_25 hN.1 rfl ?_
          refine ze_iload_n 1 cd_F_isShown_28 rfl rfl ?_
          refine ze_zald (j := q9) cd_F_isShown_29 (hN.2 5 _ rfl) rfl (by omega) (by decide) ?_
          refine ze_if_eq (tgt := 35) cd_F_isShown_30 (by decide) (fun c6 => ?_) (fun c6 => ?_)
          · skip
            refine ze_aload_n 2 cd_F_isShown_35 rfl rfl ?_
            refine ze_get zin_F (v := .ref x) (ci := 6) rfl 5 (by decide) zm_277 rfl cd_F_isShown_36 hB.1 rfl ?_
            refine ze_get zin_L (v := .ref (x + 3)) (ci := 1) rfl 3 (by decide) zm_104 rfl cd_F_isShown_39 h.1 rfl ?_
            refine ze_iload_n 1 cd_F_isShown_42 rfl rfl ?_
            refine ze_iald (j := q9) cd_F_isShown_43 (h.2 2 _ rfl) rfl (by omega) (by decide) ?_
            refine ze_istore_n (lv' := [(2, .int (R 2 q9)), (3, .int (nI sp)), (0, .ref b), (1, .int i)]) cd_F_isShown_44 rfl (by decide) rfl ?_
            refine ze_iinc (v := nI (sp + 1)) (lv' := [(3, .int (nI (sp + 1))), (2, .int (R 2 q9)), (0, .ref b), (1, .int i)]) 1 cd_F_isShown_45 rfl (nI_add _ 1) (by decide) rfl ?_
            refine ze_goto (tgt := 4) cd_F_isShown_48 (by decide) ?_
            exact ze_sub [0, 1, 2, 3] rfl (ih (sp + 1) _ (by omega) (by rw [← hE]; simp [zf_shn, hq9, c6]))
          · skip
            refine ze_iconst (v := nI 0) cd_F_isShown_33 (by decide) ?_
            refine ze_zret cd_F_isShown_34 rfl (by decide) (by decide) (by decide) (zPp_mk ?_)
            rw [← hE]; simp [zf_shn, zb, nI_0, zn_1, c4, hq9, c6]
  refine zM_of (lv := [(0, .ref b), (1, .int i)]) (ini := false) (by decide) rfl (by decide) (Nat.le_of_ble_eq_true rfl) rfl ?_
  refine ze_iload_n 1 cd_F_isShown_0 rfl rfl ?_
  refine ze_istore_n (lv' := [(2, .int i), (0, .ref b), (1, .int i)]) cd_F_isShown_1 rfl (by decide) rfl ?_
  refine ze_iconst (v := nI 0) cd_F_isShown_2 (by decide) ?_
  refine ze_istore_n (lv' := [(3, .int (nI 0)), (2, .int i), (0, .ref b), (1, .int i)]) cd_F_isShown_3 rfl (by decide) rfl ?_
  exact loop 9 0 i (by omega) hX0
def zf_pub (n : Nat) (R N : Nat → Nat → Int32) (i on : Int32) : Int32 × (Nat → Nat → Int32) := match zi n i with
  | none => (-1, N)
  | some j => (zb (zf_shn n (R 2) (upd (N 5) j (if on = 0 then nI 1 else nI 0)) 9 i), va_up N 5 (upd (N 5) j (if on = 0 then nI 1 else nI 0)))
abbrev zr_F_published : Room := { frames := 2, cells := 0, slots := 0, locals := 44 }
set_option maxRecDepth 100000 in
set_option maxHeartbeats 4000000 in
theorem kc_F_published {g : zx_G} {σ : zx_M} {sz : Nat} {b t e s k p x y : Nat} {n : Nat} {R : Nat → Nat → Int32} {N : Nat → Nat → Int32} {i on : Int32} (hB : zfa g σ b t e s k p x y) (h : zl g σ x n R) (hn : n ≤ 100) (hN : zn g σ e N) (hxe : x + 12 ≤ e ∨ e + 7 ≤ x) (hbe : b < e ∨ e + 7 ≤ b) : zM g cy_F_published cb_F_published 3 (Option.some Jvm.ClassFile.FieldType.int) zr_F_published 0 0 [.ref b, .int i, .int on] σ sz (zPi (fun v σ' sz' => sz' = sz ∧ zfr σ σ' e 7 ∧ ∃ N', zf_pub n R N i on = (v, N') ∧ zn g σ' e N')) := by
  have hF : zfr σ σ e 7 := zfr.rf
  refine zM_of (lv := [(0, .ref b), (1, .int i), (2, .int on)]) (ini := false) (by decide) rfl (by decide) (Nat.le_of_ble_eq_true rfl) rfl ?_
  refine ze_aload_n 0 cd_F_published_0 rfl rfl ?_
  refine ze_get zin_F (v := .ref x) (ci := 6) rfl 5 (by decide) zm_277 rfl cd_F_published_1 hB.1 rfl ?_
  refine ze_iload_n 1 cd_F_published_4 rfl rfl ?_
  refine ze_callVp (rm' := zr_L_has) (b := x) (As := [.int i]) (rest := []) (kc_L_has h) ⟨rfl, rfl⟩ zy_L_has_ok zm_310 zm_311 zm_312 (ci := 1) rfl rfl (by decide) (by decide) cd_F_published_5 h.1 rfl rfl (Nat.le_of_ble_eq_true rfl) ?_
  refine ze_if_ne (tgt := 13) cd_F_published_8 (by decide) (fun c1 => ?_) (fun c1 => ?_)
  · skip
    have c1 : ((zi n i).isSome) = true := zb_t c1
    obtain ⟨j, hj⟩ := Option.isSome_iff_exists.mp c1
    obtain ⟨hjn, rfl⟩ := zi_some (by omega) hj
    refine ze_aload_n 0 cd_F_published_13 rfl rfl ?_
    refine ze_get zin_F (v := .ref e) (ci := 6) rfl 1 (by decide) zm_273 rfl cd_F_published_14 hB.1 rfl ?_
    refine ze_get zin_N (v := .ref (e + 6)) (ci := 2) rfl 5 (by decide) zm_196 rfl cd_F_published_17 hN.1 rfl ?_
    refine ze_iload_n 1 cd_F_published_20 rfl rfl ?_
    refine ze_iload_n 2 cd_F_published_21 rfl rfl ?_
    refine ze_if_ne (tgt := 29) cd_F_published_22 (by decide) (fun c2 => ?_) (fun c2 => ?_)
    · skip
      refine ze_iconst (v := nI 0) cd_F_published_29 (by decide) ?_
      refine ze_zast (j := j) cd_F_published_30 (hN.2 5 _ rfl) rfl (by omega) (by decide) (by decide) ?_
      have hN := hN.ar 5 1 100 rfl (b := e + 6) (f := upd (N 5) j (nI 0)) (by omega)
      have hB := hB.upn (b := e + 6) (e := .inl (g.2.2.2.1 1, 100, .inl (upd (N 5) j (nI 0)))) 0 rfl (by omega)
      have h := h.upn (b := e + 6) (e := .inl (g.2.2.2.1 1, 100, .inl (upd (N 5) j (nI 0)))) 11 rfl (by omega)
      have hF := hF.up (a := e + 6) (e := .inl (g.2.2.2.1 1, 100, .inl (upd (N 5) j (nI 0)))) (by omega) (by omega)
      refine ze_aload_n 0 cd_F_published_31 rfl rfl ?_
      refine ze_iload_n 1 cd_F_published_32 rfl rfl ?_
      refine ze_callVp (rm' := zr_F_isShown) (b := b) (As := [.int (nI j)]) (rest := []) (kc_F_isShown hB h hn hN) ⟨rfl, rfl⟩ zy_F_isShown_ok zm_448 zm_450 zm_3 (ci := 6) rfl rfl (by decide) (by decide) cd_F_published_33 hB.1 rfl rfl (Nat.le_of_ble_eq_true rfl) ?_
      refine ze_if_eq (tgt := 43) cd_F_published_36 (by decide) (fun c3 => ?_) (fun c3 => ?_)
      · skip
        have c3 : (zf_shn n (R 2) (upd (N 5) j (nI 0)) 9 (nI j)) = false := zb_f c3
        refine ze_iconst (v := nI 0) cd_F_published_43 (by decide) ?_
        refine ze_iret cd_F_published_44 rfl (by decide) (by decide) ⟨_, rfl, rfl, hF, va_up N 5 (upd (N 5) j (nI 0)), ?_, hN⟩
        first | (simp only [zf_pub, hj, c2, c3]; done) | (simp only [zf_pub, hj]; rw [if_pos c2]; simp only [c3]; simp [zb, zn_1, nI_0]; done) | (simp only [zf_pub, hj]; rw [if_neg c2]; simp only [c3]; simp [zb, zn_1, nI_0]; done)
      · skip
        have c3 : (zf_shn n (R 2) (upd (N 5) j (nI 0)) 9 (nI j)) = true := zb_t c3
        refine ze_iconst (v := nI 1) cd_F_published_39 (by decide) ?_
        refine ze_goto (tgt := 44) cd_F_published_40 (by decide) ?_
        refine ze_iret cd_F_published_44 rfl (by decide) (by decide) ⟨_, rfl, rfl, hF, va_up N 5 (upd (N 5) j (nI 0)), ?_, hN⟩
        first | (simp only [zf_pub, hj, c2, c3]; done) | (simp only [zf_pub, hj]; rw [if_pos c2]; simp only [c3]; simp [zb, zn_1, nI_0]; done) | (simp only [zf_pub, hj]; rw [if_neg c2]; simp only [c3]; simp [zb, zn_1, nI_0]; done)
    · skip
      refine ze_iconst (v := nI 1) cd_F_published_25 (by decide) ?_
      refine ze_goto (tgt := 30) cd_F_published_26 (by decide) ?_
      refine ze_zast (j := j) cd_F_published_30 (hN.2 5 _ rfl) rfl (by omega) (by decide) (by decide) ?_
      have hN := hN.ar 5 1 100 rfl (b := e + 6) (f := upd (N 5) j (nI 1)) (by omega)
      have hB := hB.upn (b := e + 6) (e := .inl (g.2.2.2.1 1, 100, .inl (upd (N 5) j (nI 1)))) 0 rfl (by omega)
      have h := h.upn (b := e + 6) (e := .inl (g.2.2.2.1 1, 100, .inl (upd (N 5) j (nI 1)))) 11 rfl (by omega)
      have hF := hF.up (a := e + 6) (e := .inl (g.2.2.2.1 1, 100, .inl (upd (N 5) j (nI 1)))) (by omega) (by omega)
      refine ze_aload_n 0 cd_F_published_31 rfl rfl ?_
      refine ze_iload_n 1 cd_F_published_32 rfl rfl ?_
      refine ze_callVp (rm' := zr_F_isShown) (b := b) (As := [.int (nI j)]) (rest := []) (kc_F_isShown hB h hn hN) ⟨rfl, rfl⟩ zy_F_isShown_ok zm_448 zm_450 zm_3 (ci := 6) rfl rfl (by decide) (by decide) cd_F_published_33 hB.1 rfl rfl (Nat.le_of_ble_eq_true rfl) ?_
      refine ze_if_eq (tgt := 43) cd_F_published_36 (by decide) (fun c4 => ?_) (fun c4 => ?_)
      · skip
        have c4 : (zf_shn n (R 2) (upd (N 5) j (nI 1)) 9 (nI j)) = false := zb_f c4
        refine ze_iconst (v := nI 0) cd_F_published_43 (by decide) ?_
        refine ze_iret cd_F_published_44 rfl (by decide) (by decide) ⟨_, rfl, rfl, hF, va_up N 5 (upd (N 5) j (nI 1)), ?_, hN⟩
        first | (simp only [zf_pub, hj, c2, c4]; done) | (simp only [zf_pub, hj]; rw [if_pos c2]; simp only [c4]; simp [zb, zn_1, nI_0]; done) | (simp only [zf_pub, hj]; rw [if_neg c2]; simp only [c4]; simp [zb, zn_1, nI_0]; done)
      · skip
        have c4 : (zf_shn n (R 2) (upd (N 5) j (nI 1)) 9 (nI j)) = true := zb_t c4
        refine ze_iconst (v := nI 1) cd_F_published_39 (by decide) ?_
        refine ze_goto (tgt := 44) cd_F_published_40 (by decide) ?_
        refine ze_iret cd_F_published_44 rfl (by decide) (by decide) ⟨_, rfl, rfl, hF, va_up N 5 (upd (N 5) j (nI 1)), ?_, hN⟩
        first | (simp only [zf_pub, hj, c2, c4]; done) | (simp only [zf_pub, hj]; rw [if_pos c2]; simp only [c4]; simp [zb, zn_1, nI_0]; done) | (simp only [zf_pub, hj]; rw [if_neg c2]; simp only [c4]; simp [zb, zn_1, nI_0]; done)
  · skip
    have c1 : ((zi n i).isSome) = false := zb_f c1
    have c1 : zi n i = none := by simpa using c1
    refine ze_iconst (v := (-1 : Int32)) cd_F_published_11 (by decide) ?_
    refine ze_iret cd_F_published_12 rfl (by decide) (by decide) ⟨_, rfl, rfl, hF, N, ?_, hN⟩
    first | (simp only [zf_pub, c1]; done) | (simp only [zf_pub]; rw [if_pos c2]; simp only [c1]; simp [zb, zn_1, nI_0]; done) | (simp only [zf_pub]; rw [if_neg c2]; simp only [c1]; simp [zb, zn_1, nI_0]; done)
def zf_ask (c : Nat) (K : Nat → Nat → Int32) (i what : Int32) : Int32 := match zi c i with
  | none => -1
  | some j => match zi 2 what with
    | none => -1
    | some w => if w = 0 then K 0 j else K 2 j
theorem zi2_out {x : Int32} (h : zi 2 x = none) : ¬ x.toInt = 0 ∧ ¬ x.toInt = 1 := by
  have := zi_none_out (by decide) h
  omega
abbrev zr_F_ask : Room := { frames := 1, cells := 0, slots := 0, locals := 21 }
set_option maxRecDepth 100000 in
set_option maxHeartbeats 4000000 in
theorem kc_F_ask {g : zx_G} {σ : zx_M} {sz : Nat} {b t e s k p x y : Nat} {c : Nat} {od : Int32} {K : Nat → Nat → Int32} {i what : Int32} (hB : zfa g σ b t e s k p x y) (hK : zka g σ k c od K) (hc : c ≤ 100) : zM g cy_F_ask cb_F_ask 3 (Option.some Jvm.ClassFile.FieldType.int) zr_F_ask 0 0 [.ref b, .int i, .int what] σ sz (zPp (zf_ask c K i what) σ sz) := by
  refine zM_of (lv := [(0, .ref b), (1, .int i), (2, .int what)]) (ini := false) (by decide) rfl (by decide) (Nat.le_of_ble_eq_true rfl) rfl ?_
  refine ze_aload_n 0 cd_F_ask_0 rfl rfl ?_
  refine ze_get zin_F (v := .ref k) (ci := 6) rfl 3 (by decide) zm_275 rfl cd_F_ask_1 hB.1 rfl ?_
  refine ze_iload_n 1 cd_F_ask_4 rfl rfl ?_
  refine ze_callVp (rm' := zr_K_has) (b := k) (As := [.int i]) (rest := []) (kc_K_has hK) ⟨rfl, rfl⟩ zy_K_has_ok zm_456 zm_457 zm_458 (ci := 0) rfl rfl (by decide) (by decide) cd_F_ask_5 hK.1 rfl rfl (Nat.le_of_ble_eq_true rfl) ?_
  refine ze_if_ne (tgt := 13) cd_F_ask_8 (by decide) (fun c1 => ?_) (fun c1 => ?_)
  · skip
    have c1 : ((zi c i).isSome) = true := zb_t c1
    obtain ⟨j, hj⟩ := Option.isSome_iff_exists.mp c1
    obtain ⟨hjn, rfl⟩ := zi_some (by omega) hj
    refine ze_iload_n 2 cd_F_ask_13 rfl rfl ?_
    cases hw : zi 2 what with
    | none =>
      refine ze_lookup (off := 46) (tgt := 60) cd_F_ask_14 (by decide) (by have := zi2_out hw; simp [Op.lookupswitch.offset, this.1, this.2, eq_comm]) (by decide) ?_
      refine ze_iconst (v := (-1 : Int32)) cd_F_ask_60 (by decide) ?_
      refine ze_iret cd_F_ask_61 rfl (by decide) (by decide) (zPp_mk ?_)
      first | (simp only [zf_ask, hj, hw]; done) | (simp [zf_ask, hj, hw]; done)
    | some w9 =>
      obtain ⟨hw9, rfl⟩ := zi_some (by decide) hw
      rcases (show w9 = 0 ∨ w9 = 1 by omega) with rfl | rfl
      · refine ze_lookup (off := 26) (tgt := 40) cd_F_ask_14 (by decide) (by decide) (by decide) ?_
        refine ze_aload_n 0 cd_F_ask_40 rfl rfl ?_
        refine ze_get zin_F (v := .ref k) (ci := 6) rfl 3 (by decide) zm_275 rfl cd_F_ask_41 hB.1 rfl ?_
        refine ze_get zin_K (v := .ref (k + 1)) (ci := 0) rfl 2 (by decide) zm_235 rfl cd_F_ask_44 hK.1 rfl ?_
        refine ze_iload_n 1 cd_F_ask_47 rfl rfl ?_
        refine ze_iald (j := j) cd_F_ask_48 (hK.2 0 _ rfl) rfl (by omega) (by decide) ?_
        refine ze_iret cd_F_ask_49 rfl (by decide) (by decide) (zPp_mk ?_)
        first | (simp only [zf_ask, hj, hw]; done) | (simp [zf_ask, hj, hw]; done)
      · refine ze_lookup (off := 36) (tgt := 50) cd_F_ask_14 (by decide) (by decide) (by decide) ?_
        refine ze_aload_n 0 cd_F_ask_50 rfl rfl ?_
        refine ze_get zin_F (v := .ref k) (ci := 6) rfl 3 (by decide) zm_275 rfl cd_F_ask_51 hB.1 rfl ?_
        refine ze_get zin_K (v := .ref (k + 3)) (ci := 0) rfl 4 (by decide) zm_239 rfl cd_F_ask_54 hK.1 rfl ?_
        refine ze_iload_n 1 cd_F_ask_57 rfl rfl ?_
        refine ze_iald (j := j) cd_F_ask_58 (hK.2 2 _ rfl) rfl (by omega) (by decide) ?_
        refine ze_iret cd_F_ask_59 rfl (by decide) (by decide) (zPp_mk ?_)
        first | (simp only [zf_ask, hj, hw]; done) | (simp [zf_ask, hj, hw]; done)
  · skip
    have c1 : ((zi c i).isSome) = false := zb_f c1
    have c1 : zi c i = none := by simpa using c1
    refine ze_iconst (v := (-1 : Int32)) cd_F_ask_11 (by decide) ?_
    refine ze_iret cd_F_ask_12 rfl (by decide) (by decide) (zPp_mk ?_)
    first | (simp only [zf_ask, c1]; done) | (simp [zf_ask, c1]; done)
def zf_tak (c m : Nat) (od : Int32) (R Q K : Nat → Nat → Int32) (i : Int32) : Int32 × (Nat → Nat → Int32) × (Nat → Nat → Int32) := match zi c i with
  | none => (-1, R, K)
  | some j => if od = 0 then (if K 3 j = 0 then (1, zl_cpy R (K 0 j).toNatClampNeg Q (K 1 j).toNatClampNeg (zl_t Q (K 1 j).toNatClampNeg), va_up K 3 (upd (K 3) j (nI 1))) else (0, R, K)) else (0, R, K)
abbrev zr_F_take : Room := { frames := 2, cells := 0, slots := 0, locals := 46 }
set_option maxRecDepth 100000 in
set_option maxHeartbeats 4000000 in
theorem kc_F_take {g : zx_G} {σ : zx_M} {sz : Nat} {b t e s k p x y : Nat} {n : Nat} {R : Nat → Nat → Int32} {m c : Nat} {od : Int32} {Q K : Nat → Nat → Int32} {i : Int32} (hB : zfa g σ b t e s k p x y) (h : zl g σ x n R) (hn : n ≤ 100) (h2 : zl g σ y m Q) (hK : zka g σ k c od K) (hm : m ≤ 100) (hc : c ≤ 100) (hTQ : zl_T m Q) (hkr : ∀ j, j < c → K 0 j = nI (K 0 j).toNatClampNeg ∧ (K 0 j).toNatClampNeg < 100 ∧ K 1 j = nI (K 1 j).toNatClampNeg ∧ (od = 0 → (K 1 j).toNatClampNeg < m)) (hxy : x + 12 ≤ y ∨ y + 12 ≤ x) (hxk : x + 12 ≤ k ∨ k + 5 ≤ x) (hyk : y + 12 ≤ k ∨ k + 5 ≤ y) (hbx : b < x ∨ x + 12 ≤ b) (hbk : b < k ∨ k + 5 ≤ b) : zM g cy_F_take cb_F_take 2 (Option.some Jvm.ClassFile.FieldType.int) zr_F_take 0 0 [.ref b, .int i] σ sz (zPi (fun v σ' sz' => sz' = sz ∧ zfr2 σ σ' x 12 k 5 ∧ ∃ R' K', zf_tak c m od R Q K i = (v, R', K') ∧ zl g σ' x n R' ∧ zka g σ' k c od K')) := by
  have hF : zfr2 σ σ x 12 k 5 := zfr2.rf
  refine zM_of (lv := [(0, .ref b), (1, .int i)]) (ini := false) (by decide) rfl (by decide) (Nat.le_of_ble_eq_true rfl) rfl ?_
  refine ze_aload_n 0 cd_F_take_0 rfl rfl ?_
  refine ze_get zin_F (v := .ref k) (ci := 6) rfl 3 (by decide) zm_275 rfl cd_F_take_1 hB.1 rfl ?_
  refine ze_iload_n 1 cd_F_take_4 rfl rfl ?_
  refine ze_callVp (rm' := zr_K_has) (b := k) (As := [.int i]) (rest := []) (kc_K_has hK) ⟨rfl, rfl⟩ zy_K_has_ok zm_456 zm_457 zm_458 (ci := 0) rfl rfl (by decide) (by decide) cd_F_take_5 hK.1 rfl rfl (Nat.le_of_ble_eq_true rfl) ?_
  refine ze_if_ne (tgt := 13) cd_F_take_8 (by decide) (fun c1 => ?_) (fun c1 => ?_)
  · skip
    have c1 : ((zi c i).isSome) = true := zb_t c1
    obtain ⟨j, hj⟩ := Option.isSome_iff_exists.mp c1
    obtain ⟨hjn, rfl⟩ := zi_some (by omega) hj
    obtain ⟨hk0, hk0n, hk1, hk1n⟩ := hkr j hjn
    refine ze_aload_n 0 cd_F_take_13 rfl rfl ?_
    refine ze_get zin_F (v := .ref k) (ci := 6) rfl 3 (by decide) zm_275 rfl cd_F_take_14 hB.1 rfl ?_
    refine ze_get zin_K (v := .int od) (ci := 0) rfl 1 (by decide) zm_233 rfl cd_F_take_17 hK.1 rfl ?_
    refine ze_if_ne (tgt := 35) cd_F_take_20 (by decide) (fun c2 => ?_) (fun c2 => ?_)
    · skip
      refine ze_iconst (v := nI 0) cd_F_take_35 (by decide) ?_
      refine ze_iret cd_F_take_36 rfl (by decide) (by decide) ⟨_, rfl, rfl, hF, R, K, ?_, h, hK⟩
      first | (simp only [zf_tak, hj, c2]; done) | (simp only [zf_tak, hj, c2, if_true, if_false, zn_1, nI_0]; done) | (simp [zf_tak, zn_1, nI_0, hj, c2]; done)
    · skip
      refine ze_aload_n 0 cd_F_take_23 rfl rfl ?_
      refine ze_get zin_F (v := .ref k) (ci := 6) rfl 3 (by decide) zm_275 rfl cd_F_take_24 hB.1 rfl ?_
      refine ze_get zin_K (v := .ref (k + 4)) (ci := 0) rfl 5 (by decide) zm_241 rfl cd_F_take_27 hK.1 rfl ?_
      refine ze_iload_n 1 cd_F_take_30 rfl rfl ?_
      refine ze_zald (j := j) cd_F_take_31 (hK.2 3 _ rfl) rfl (by omega) (by decide) ?_
      refine ze_if_eq (tgt := 37) cd_F_take_32 (by decide) (fun c3 => ?_) (fun c3 => ?_)
      · skip
        have hk1m := hk1n c2
        obtain ⟨ht, ht2⟩ := hTQ _ hk1m
        refine ze_aload_n 0 cd_F_take_37 rfl rfl ?_
        refine ze_get zin_F (v := .ref x) (ci := 6) rfl 5 (by decide) zm_277 rfl cd_F_take_38 hB.1 rfl ?_
        refine ze_aload_n 0 cd_F_take_41 rfl rfl ?_
        refine ze_get zin_F (v := .ref k) (ci := 6) rfl 3 (by decide) zm_275 rfl cd_F_take_42 hB.1 rfl ?_
        refine ze_get zin_K (v := .ref (k + 1)) (ci := 0) rfl 2 (by decide) zm_235 rfl cd_F_take_45 hK.1 rfl ?_
        refine ze_iload_n 1 cd_F_take_48 rfl rfl ?_
        refine ze_iald (j := j) cd_F_take_49 (hK.2 0 _ rfl) rfl (by omega) (by decide) ?_
        refine ze_top hk0 ?_
        refine ze_aload_n 0 cd_F_take_50 rfl rfl ?_
        refine ze_get zin_F (v := .ref y) (ci := 6) rfl 6 (by decide) zm_278 rfl cd_F_take_51 hB.1 rfl ?_
        refine ze_aload_n 0 cd_F_take_54 rfl rfl ?_
        refine ze_get zin_F (v := .ref k) (ci := 6) rfl 3 (by decide) zm_275 rfl cd_F_take_55 hB.1 rfl ?_
        refine ze_get zin_K (v := .ref (k + 2)) (ci := 0) rfl 3 (by decide) zm_237 rfl cd_F_take_58 hK.1 rfl ?_
        refine ze_iload_n 1 cd_F_take_61 rfl rfl ?_
        refine ze_iald (j := j) cd_F_take_62 (hK.2 1 _ rfl) rfl (by omega) (by decide) ?_
        refine ze_top hk1 ?_
        refine ze_callVv (rm' := zr_L_copyParts) (b := x) (As := [.int (nI ((K 0 j).toNatClampNeg)), .ref y, .int (nI ((K 1 j).toNatClampNeg))]) (rest := []) (kc_L_copyParts h h2 (by omega) (by omega) (by omega) ht ht2) ⟨rfl, rfl⟩ zy_L_copyParts_ok zm_464 zm_465 zm_466 (ci := 1) rfl rfl (by decide) (by decide) cd_F_take_63 h.1 rfl rfl (Nat.le_of_ble_eq_true rfl) (fun σ9 sz9 hq9 => ?_)
        obtain ⟨rfl, hF9, h9⟩ := hq9
        have hB := hB.frn hF9 0 rfl (by omega)
        have h2 := h2.frn hF9 11 rfl (by omega)
        have hK := hK.frn hF9 4 rfl (by omega)
        have h := h9
        have hF := hF.tr1 hF9 (by omega)
        refine ze_aload_n 0 cd_F_take_66 rfl rfl ?_
        refine ze_get zin_F (v := .ref k) (ci := 6) rfl 3 (by decide) zm_275 rfl cd_F_take_67 hB.1 rfl ?_
        refine ze_get zin_K (v := .ref (k + 4)) (ci := 0) rfl 5 (by decide) zm_241 rfl cd_F_take_70 hK.1 rfl ?_
        refine ze_iload_n 1 cd_F_take_73 rfl rfl ?_
        refine ze_iconst (v := nI 1) cd_F_take_74 (by decide) ?_
        refine ze_zast (j := j) cd_F_take_75 (hK.2 3 _ rfl) rfl (by omega) (by decide) (by decide) ?_
        have hK := hK.ar 3 1 100 rfl (b := k + 4) (f := upd (K 3) j (nI 1)) (by omega)
        have hB := hB.upn (b := k + 4) (e := .inl (g.2.2.2.1 1, 100, .inl (upd (K 3) j (nI 1)))) 0 rfl (by omega)
        have h := h.upn (b := k + 4) (e := .inl (g.2.2.2.1 1, 100, .inl (upd (K 3) j (nI 1)))) 11 rfl (by omega)
        have h2 := h2.upn (b := k + 4) (e := .inl (g.2.2.2.1 1, 100, .inl (upd (K 3) j (nI 1)))) 11 rfl (by omega)
        have hF := hF.up (a := k + 4) (e := .inl (g.2.2.2.1 1, 100, .inl (upd (K 3) j (nI 1)))) (by omega)
        refine ze_iconst (v := nI 1) cd_F_take_76 (by decide) ?_
        refine ze_iret cd_F_take_77 rfl (by decide) (by decide) ⟨_, rfl, rfl, hF, zl_cpy R ((K 0 j).toNatClampNeg) Q ((K 1 j).toNatClampNeg) (zl_t Q ((K 1 j).toNatClampNeg)), va_up K 3 (upd (K 3) j (nI 1)), ?_, h, hK⟩
        first | (simp only [zf_tak, hj, c2, c3]; done) | (simp only [zf_tak, hj, c2, c3, if_true, if_false, zn_1, nI_0]; done) | (simp [zf_tak, zn_1, nI_0, hj, c2, c3]; done)
      · skip
        refine ze_iconst (v := nI 0) cd_F_take_35 (by decide) ?_
        refine ze_iret cd_F_take_36 rfl (by decide) (by decide) ⟨_, rfl, rfl, hF, R, K, ?_, h, hK⟩
        first | (simp only [zf_tak, hj, c2, c3]; done) | (simp only [zf_tak, hj, c2, c3, if_true, if_false, zn_1, nI_0]; done) | (simp [zf_tak, zn_1, nI_0, hj, c2, c3]; done)
  · skip
    have c1 : ((zi c i).isSome) = false := zb_f c1
    have c1 : zi c i = none := by simpa using c1
    refine ze_iconst (v := (-1 : Int32)) cd_F_take_11 (by decide) ?_
    refine ze_iret cd_F_take_12 rfl (by decide) (by decide) ⟨_, rfl, rfl, hF, R, K, ?_, h, hK⟩
    first | (simp only [zf_tak, c1]; done) | (simp only [zf_tak, c1, if_true, if_false, zn_1, nI_0]; done) | (simp [zf_tak, zn_1, nI_0, c1]; done)
abbrev zr_F_print : Room := { frames := 15, cells := 0, slots := 0, locals := 406 }
set_option maxRecDepth 100000 in
set_option maxHeartbeats 4000000 in
theorem kc_F_print {g : zx_G} {σ : zx_M} {sz : Nat} {b t e s k p x y : Nat} {n : Nat} {R : Nat → Nat → Int32} {N : Nat → Nat → Int32} {S : Nat → Int32} {L : List Int32} (hB : zfa g σ b t e s k p x y) (h : zl g σ x n R) (hn : n ≤ 100) (hN : zn g σ e N) (hP : zpo g σ p S L) (hxp : x + 12 ≤ p ∨ p + 2 ≤ x) (hep : e + 7 ≤ p ∨ p + 2 ≤ e) (hbp : b < p ∨ p + 2 ≤ b) (hT : zl_T n R) (hD : zl_D n R) : zM g cy_F_print cb_F_print 1 (Option.some Jvm.ClassFile.FieldType.int) zr_F_print 0 0 [.ref b] σ sz (zPi (fun v σ' sz' => sz' = sz ∧ zfr σ σ' p 2 ∧ v = nI (zputs [] (zp_from n R (N 5) 9 (nI 0))).length ∧ ∃ S', zpo g σ' p S' (zputs [] (zp_from n R (N 5) 9 (nI 0))) ∧ zpl S' (zputs [] (zp_from n R (N 5) 9 (nI 0))))) := by
  have hF : zfr σ σ p 2 := zfr.rf
  refine zM_of (lv := [(0, .ref b)]) (ini := false) (by decide) rfl (by decide) (Nat.le_of_ble_eq_true rfl) rfl ?_
  refine ze_aload_n 0 cd_F_print_0 rfl rfl ?_
  refine ze_get zin_F (v := .ref p) (ci := 6) rfl 4 (by decide) zm_276 rfl cd_F_print_1 hB.1 rfl ?_
  refine ze_aload_n 0 cd_F_print_4 rfl rfl ?_
  refine ze_get zin_F (v := .ref x) (ci := 6) rfl 5 (by decide) zm_277 rfl cd_F_print_5 hB.1 rfl ?_
  refine ze_aload_n 0 cd_F_print_8 rfl rfl ?_
  refine ze_get zin_F (v := .ref e) (ci := 6) rfl 1 (by decide) zm_273 rfl cd_F_print_9 hB.1 rfl ?_
  refine ze_callVv (rm' := zr_P_write) (b := p) (As := [.ref x, .ref e]) (rest := []) (kc_P_write hP h hN (by omega) (by omega) hn hT hD) ⟨rfl, rfl⟩ zy_P_write_ok zm_477 zm_478 zm_479 (ci := 3) rfl rfl (by decide) (by decide) cd_F_print_12 hP.1 rfl rfl (Nat.le_of_ble_eq_true rfl) (fun σ9 sz9 hq9 => ?_)
  obtain ⟨rfl, hF9, S9, hP9, hL9⟩ := hq9
  have hB := hB.frn hF9 0 rfl (by omega)
  have h := h.frn hF9 11 rfl (by omega)
  have hN := hN.frn hF9 6 rfl (by omega)
  have hP := hP9
  have hL := hL9
  have hF := hF.trans (hF9.wide (by omega) (by omega))
  refine ze_aload_n 0 cd_F_print_15 rfl rfl ?_
  refine ze_get zin_F (v := .ref p) (ci := 6) rfl 4 (by decide) zm_276 rfl cd_F_print_16 hB.1 rfl ?_
  refine ze_get zin_P (v := .int (nI ((zputs ([] : List Int32) (zp_from n R (N 5) 9 (nI 0))).length))) (ci := 3) rfl 1 (by decide) zm_264 rfl cd_F_print_19 hP.1 rfl ?_
  refine ze_iret cd_F_print_22 rfl (by decide) (by decide) ⟨_, rfl, rfl, hF, rfl, S9, hP, hL⟩
def zf_at (L : List Int32) (i : Int32) : Int32 := match zi L.length i with
  | none => -1
  | some j => L.getD j 0
abbrev zr_F_at : Room := { frames := 0, cells := 0, slots := 0, locals := 0 }
set_option maxRecDepth 100000 in
set_option maxHeartbeats 4000000 in
theorem kc_F_at {g : zx_G} {σ : zx_M} {sz : Nat} {b t e s k p x y : Nat} {S : Nat → Int32} {L : List Int32} {i : Int32} (hB : zfa g σ b t e s k p x y) (hP : zpo g σ p S L) (hL : zpl S L) : zM g cy_F_at cb_F_at 2 (Option.some Jvm.ClassFile.FieldType.int) zr_F_at 0 0 [.ref b, .int i] σ sz (zPp (zf_at L i) σ sz) := by
  refine zM_of (lv := [(0, .ref b), (1, .int i)]) (ini := false) (by decide) rfl (by decide) (Nat.le_of_ble_eq_true rfl) rfl ?_
  refine ze_iload_n 1 cd_F_at_0 rfl rfl ?_
  refine ze_if_lt (tgt := 15) cd_F_at_1 (by decide) (fun c1 => ?_) (fun c1 => ?_)
  · skip
    refine ze_iconst (v := (-1 : Int32)) cd_F_at_15 (by decide) ?_
    refine ze_iret cd_F_at_16 rfl (by decide) (by decide) (zPp_mk ?_)
    first | (simp only [zf_at, zi_ltz c1]; done) | (simp only [zf_at, zi_hi c2]; done) | (simp only [zf_at]; exact hL.1 _ hqn)
  · skip
    refine ze_iload_n 1 cd_F_at_4 rfl rfl ?_
    refine ze_aload_n 0 cd_F_at_5 rfl rfl ?_
    refine ze_get zin_F (v := .ref p) (ci := 6) rfl 4 (by decide) zm_276 rfl cd_F_at_6 hB.1 rfl ?_
    refine ze_get zin_P (v := .int (nI L.length)) (ci := 3) rfl 1 (by decide) zm_264 rfl cd_F_at_9 hP.1 rfl ?_
    refine ze_icmp_lt (tgt := 17) cd_F_at_12 (by decide) (fun c2 => ?_) (fun c2 => ?_)
    · skip
      have hl5 := hL.2
      obtain ⟨q, hq, rfl⟩ : ∃ q, zi L.length i = some q ∧ i = nI q := ⟨_, zi_ok2 c1 c2, (zi_some (by omega) (zi_ok2 c1 c2)).2⟩
      have hqn := (zi_some (by omega) hq).1
      refine ze_aload_n 0 cd_F_at_17 rfl rfl ?_
      refine ze_get zin_F (v := .ref p) (ci := 6) rfl 4 (by decide) zm_276 rfl cd_F_at_18 hB.1 rfl ?_
      refine ze_get zin_P (v := .ref (p + 1)) (ci := 3) rfl 0 (by decide) zm_262 rfl cd_F_at_21 hP.1 rfl ?_
      refine ze_iload_n 1 cd_F_at_24 rfl rfl ?_
      refine ze_iald (j := q) cd_F_at_25 (hP.2 0 _ rfl) rfl (by omega) (by decide) ?_
      refine ze_iret cd_F_at_26 rfl (by decide) (by decide) (zPp_mk ?_)
      first | (simp only [zf_at, zi_ltz c1]; done) | (simp only [zf_at, zi_hi c2]; done) | (simp only [zf_at, hq]; exact hL.1 _ hqn)
    · skip
      refine ze_iconst (v := (-1 : Int32)) cd_F_at_15 (by decide) ?_
      refine ze_iret cd_F_at_16 rfl (by decide) (by decide) (zPp_mk ?_)
      first | (simp only [zf_at, zi_ltz c1]; done) | (simp only [zf_at, zi_hi c2]; done) | (simp only [zf_at]; exact hL.1 _ hqn)
