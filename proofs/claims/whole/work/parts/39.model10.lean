def zm_res (lv : Nat) (M : Nat → Nat → Int32) (i kd r : Int32) : Int32 × (Nat → Nat → Int32) := match zi lv i with
  | none => (-1, M)
  | some j => match zi 4 kd with
    | none => (-2, M)
    | some q => if zm_in r (nI 0) (nI 99) then (nI 1, va_up M 11 (upd (M 11) (4 * j + q) r)) else (-2, M)
abbrev zr_M_restrict : Room := { frames := 2, cells := 0, slots := 0, locals := 43 }
set_option maxRecDepth 100000 in
set_option maxHeartbeats 4000000 in
theorem kc_M_restrict {g : zx_G} {σ : zx_M} {sz : Nat} {a size ps lv ot ak pr : Nat} {th wr fr : Int32} {M : Nat → Nat → Int32} {i kd r : Int32} (hM : zmo g σ a th size wr ps lv ot ak fr pr M) (hlv : lv ≤ 100) : zM g cy_M_restrict cb_M_restrict 4 (Option.some Jvm.ClassFile.FieldType.int) zr_M_restrict 0 0 [.ref a, .int i, .int kd, .int r] σ sz (zPi (fun v σ' sz' => sz' = sz ∧ zfr σ σ' a 22 ∧ ∃ M', zm_res lv M i kd r = (v, M') ∧ zmo g σ' a (nI 0) size wr ps lv ot ak fr pr M')) := by
  have hF : zfr σ σ a 22 := zfr.rf
  refine zM_of (lv := [(0, .ref a), (1, .int i), (2, .int kd), (3, .int r)]) (ini := false) (by decide) rfl (by decide) (Nat.le_of_ble_eq_true rfl) rfl ?_
  refine ze_aload_n 0 cd_M_restrict_0 rfl rfl ?_
  refine ze_iconst (v := nI 0) cd_M_restrict_1 (by decide) ?_
  refine ze_put zin_M zy_M zt_M zn_M (ci := 7) rfl 0 (by decide) zm_722 rfl (Or.inl rfl) cd_M_restrict_2 hM.1 rfl rfl (Nat.le_of_ble_eq_true rfl) (fs' := [.int (nI 0), .int (nI size), .ref (a + 1), .int wr, .int (nI ps), .int (nI lv), .int (nI ot), .ref (a + 2), .ref (a + 3), .ref (a + 4), .ref (a + 5), .ref (a + 6), .ref (a + 7), .ref (a + 8), .ref (a + 9), .ref (a + 10), .ref (a + 11), .ref (a + 12), .ref (a + 13), .ref (a + 14), .ref (a + 15), .ref (a + 16), .ref (a + 17), .int (nI ak), .ref (a + 18), .ref (a + 19), .ref (a + 20), .int fr, .int (nI pr), .ref (a + 21)]) rfl ?_
  have hM := hM.put (fs' := [.int (nI 0), .int (nI size), .ref (a + 1), .int wr, .int (nI ps), .int (nI lv), .int (nI ot), .ref (a + 2), .ref (a + 3), .ref (a + 4), .ref (a + 5), .ref (a + 6), .ref (a + 7), .ref (a + 8), .ref (a + 9), .ref (a + 10), .ref (a + 11), .ref (a + 12), .ref (a + 13), .ref (a + 14), .ref (a + 15), .ref (a + 16), .ref (a + 17), .int (nI ak), .ref (a + 18), .ref (a + 19), .ref (a + 20), .int fr, .int (nI pr), .ref (a + 21)])
  have hF := hF.up (a := a) (e := .inr (7, [.int (nI 0), .int (nI size), .ref (a + 1), .int wr, .int (nI ps), .int (nI lv), .int (nI ot), .ref (a + 2), .ref (a + 3), .ref (a + 4), .ref (a + 5), .ref (a + 6), .ref (a + 7), .ref (a + 8), .ref (a + 9), .ref (a + 10), .ref (a + 11), .ref (a + 12), .ref (a + 13), .ref (a + 14), .ref (a + 15), .ref (a + 16), .ref (a + 17), .int (nI ak), .ref (a + 18), .ref (a + 19), .ref (a + 20), .int fr, .int (nI pr), .ref (a + 21)])) (by omega) (by omega)
  refine ze_aload_n 0 cd_M_restrict_5 rfl rfl ?_
  refine ze_iload_n 1 cd_M_restrict_6 rfl rfl ?_
  refine ze_callVp (rm' := zr_M_isLevel) (b := a) (As := [.int i]) (rest := []) (kc_M_isLevel hM (by omega)) ⟨rfl, rfl⟩ zy_M_isLevel_ok zm_891 zm_893 zm_41 (ci := 7) rfl rfl (by decide) (by decide) cd_M_restrict_7 hM.1 rfl rfl (Nat.le_of_ble_eq_true rfl) ?_
  refine ze_if_ne (tgt := 15) cd_M_restrict_10 (by decide) (fun c1 => ?_) (fun c1 => ?_)
  · skip
    have c1 : ((zi lv i).isSome) = true := zb_t c1
    obtain ⟨j, hj⟩ := Option.isSome_iff_exists.mp c1
    obtain ⟨hjn, rfl⟩ := zi_some (by omega) hj
    refine ze_iload_n 2 cd_M_restrict_15 rfl rfl ?_
    refine ze_iconst (v := nI 0) cd_M_restrict_16 (by decide) ?_
    refine ze_iconst (v := nI 3) cd_M_restrict_17 (by decide) ?_
    refine ze_callSp (rm' := zr_M_in) (As := [.int kd, .int (nI 0), .int (nI 3)]) (rest := []) kc_M_in ⟨rfl, rfl⟩ zy_M_in_ok zm_856 zm_857 (by decide) (by decide) cd_M_restrict_18 rfl rfl (Nat.le_of_ble_eq_true rfl) ?_
    refine ze_top (y := zb (zi 4 kd).isSome) (by rw [zm_in_c (by omega)]) ?_
    refine ze_if_eq (tgt := 34) cd_M_restrict_21 (by decide) (fun c2 => ?_) (fun c2 => ?_)
    · skip
      have c2 : ((zi 4 kd).isSome) = false := zb_f c2
      have c2 : zi 4 kd = none := by simpa using c2
      refine ze_bipush (v := (-2 : Int32)) cd_M_restrict_34 (by decide) ?_
      refine ze_iret cd_M_restrict_36 rfl (by decide) (by decide) ⟨_, rfl, rfl, hF, M, ?_, hM⟩
      first | (simp only [zm_res, hj, c2]; done) | (simp only [zm_res, hj, c2, if_true]; done) | (simp [zm_res, hj, c2]; done)
    · skip
      have c2 : ((zi 4 kd).isSome) = true := zb_t c2
      obtain ⟨q, hq⟩ := Option.isSome_iff_exists.mp c2
      obtain ⟨hqn, rfl⟩ := zi_some (by omega) hq
      refine ze_iload_n 3 cd_M_restrict_24 rfl rfl ?_
      refine ze_iconst (v := nI 0) cd_M_restrict_25 (by decide) ?_
      refine ze_bipush (v := nI 99) cd_M_restrict_26 (by decide) ?_
      refine ze_callSp (rm' := zr_M_in) (As := [.int r, .int (nI 0), .int (nI 99)]) (rest := []) kc_M_in ⟨rfl, rfl⟩ zy_M_in_ok zm_856 zm_857 (by decide) (by decide) cd_M_restrict_28 rfl rfl (Nat.le_of_ble_eq_true rfl) ?_
      refine ze_if_ne (tgt := 37) cd_M_restrict_31 (by decide) (fun c3 => ?_) (fun c3 => ?_)
      · skip
        have c3 : (zm_in r (nI 0) (nI 99)) = true := zb_t c3
        refine ze_aload_n 0 cd_M_restrict_37 rfl rfl ?_
        refine ze_get zin_M (v := .ref (a + 12)) (ci := 7) rfl 17 (by decide) zm_739 rfl cd_M_restrict_38 hM.1 rfl ?_
        refine ze_iconst (v := nI 4) cd_M_restrict_41 (by decide) ?_
        refine ze_iload_n 1 cd_M_restrict_42 rfl rfl ?_
        refine ze_imul cd_M_restrict_43 ?_
        refine ze_top (y := nI (4 * j)) (pk_mul _ _) ?_
        refine ze_iload_n 2 cd_M_restrict_44 rfl rfl ?_
        refine ze_iadd cd_M_restrict_45 ?_
        refine ze_top (y := nI ((4 * j) + q)) (nI_add _ _) ?_
        refine ze_iload_n 3 cd_M_restrict_46 rfl rfl ?_
        refine ze_iast (j := (4 * j) + q) cd_M_restrict_47 (hM.2 11 _ rfl) rfl (by omega) (by decide) ?_
        have hM := hM.ar 11 0 400 rfl (b := a + 12) (f := upd (M 11) ((4 * j) + q) r) (by omega)
        have hF := hF.up (a := a + 12) (e := .inl (g.2.2.2.1 0, 400, .inl (upd (M 11) ((4 * j) + q) r))) (by omega) (by omega)
        refine ze_iconst (v := nI 1) cd_M_restrict_48 (by decide) ?_
        refine ze_iret cd_M_restrict_49 rfl (by decide) (by decide) ⟨_, rfl, rfl, hF, va_up M 11 (upd (M 11) ((4 * j) + q) r), ?_, hM⟩
        first | (simp only [zm_res, hj, hq, c3]; done) | (simp only [zm_res, hj, hq, c3, if_true]; done) | (simp [zm_res, hj, hq, c3]; done)
      · skip
        have c3 : (zm_in r (nI 0) (nI 99)) = false := zb_f c3
        refine ze_bipush (v := (-2 : Int32)) cd_M_restrict_34 (by decide) ?_
        refine ze_iret cd_M_restrict_36 rfl (by decide) (by decide) ⟨_, rfl, rfl, hF, M, ?_, hM⟩
        first | (simp only [zm_res, hj, hq, c3]; done) | (simp only [zm_res, hj, hq, c3, if_true]; done) | (simp [zm_res, hj, hq, c3]; done)
  · skip
    have c1 : ((zi lv i).isSome) = false := zb_f c1
    have c1 : zi lv i = none := by simpa using c1
    refine ze_iconst (v := (-1 : Int32)) cd_M_restrict_13 (by decide) ?_
    refine ze_iret cd_M_restrict_14 rfl (by decide) (by decide) ⟨_, rfl, rfl, hF, M, ?_, hM⟩
    first | (simp only [zm_res, c1]; done) | (simp only [zm_res, c1, if_true]; done) | (simp [zm_res, c1]; done)
abbrev zr_M_restricted : Room := { frames := 2, cells := 0, slots := 0, locals := 43 }
set_option maxRecDepth 100000 in
set_option maxHeartbeats 4000000 in
theorem kc_M_restricted {g : zx_G} {σ : zx_M} {sz : Nat} {a size ps lv ot ak pr : Nat} {th wr fr : Int32} {M : Nat → Nat → Int32} {pa : Nat → Option Nat} {dp : Nat → Nat} {i kd : Int32} (hM : zmo g σ a th size wr ps lv ot ak fr pr M) (hfo : zfor (M 3) pa dp (fun j => j < lv)) (hlv : lv ≤ 100) : zM g cy_M_restricted cb_M_restricted 4 (Option.some Jvm.ClassFile.FieldType.int) zr_M_restricted 0 0 [.ref a, .int i, .int kd] σ sz (zPi (fun v σ' sz' => v = zf_rstd lv (zmR M dp) (zmN M) i kd ∧ sz' = sz ∧ zfr σ σ' a 22 ∧ zmo g σ' a (nI 0) size wr ps lv ot ak fr pr M)) := by
  generalize hX0 : zf_rstd lv (zmR M dp) (zmN M) i kd = X0
  have hF : zfr σ σ a 22 := zfr.rf
  have loop : ∀ (i9 q : Nat), q < 4 → zf_rst lv (M 3) (fun j => M 11 (j * 4 + q)) 9 (nI i9) = X0 → ∀ (kk : Nat) (o : Option Nat) (σ1 : zx_M), (∀ p, o = some p → p < lv ∧ dp p < kk) → zf_rst lv (M 3) (fun j => M 11 (j * 4 + q)) kk (zo o) = X0 → zmo g σ1 a (nI 0) size wr ps lv ot ak fr pr M → zfr σ σ1 a 22 → zE g "FindingAidModel" cb_M_restricted 4 (Option.some Jvm.ClassFile.FieldType.int) false zr_M_restricted 0 0 (zPi (fun v σ' sz' => v = X0 ∧ sz' = sz ∧ zfr σ σ' a 22 ∧ zmo g σ' a (nI 0) size wr ps lv ot ak fr pr M)) 29 [(3, .int (zo o)), (0, .ref a), (1, .int (nI i9)), (2, .int (nI q))] [] σ1 sz 0 0 := by
    intro i9 q hq hXq kk
    induction kk with
    | zero =>
      intro o σ1 ho hE hM hF
      cases o with
      | none =>
        refine ze_iload_n 0 cd_M_restricted_29 rfl rfl ?_
        refine ze_if_lt (tgt := 56) cd_M_restricted_30 (by decide) (fun _ => ?_) (fun c9 => absurd (by decide) c9)
        refine ze_iload_n 0 cd_M_restricted_56 rfl rfl ?_
        refine ze_if_ge (tgt := 64) cd_M_restricted_57 (by decide) (fun c9 => absurd c9 (by decide)) (fun _ => ?_)
        refine ze_iconst (v := nI 0) cd_M_restricted_60 (by decide) ?_
        refine ze_goto (tgt := 74) cd_M_restricted_61 (by decide) ?_
        refine ze_iret cd_M_restricted_74 rfl (by decide) (by decide) ⟨_, rfl, ?_, rfl, hF, hM⟩
        first | (rw [← hE]; simp [zf_rst, zo, hzz, hc4]; done) | (rw [← hE]; simp [zf_rst, zo, zi_neg, nI_0]; done) | (rw [← hX0]; simp only [zf_rstd]; done)
      | some z =>
        obtain ⟨hDz, hkz⟩ := ho z rfl
        exfalso; omega
    | succ kk ih =>
      intro o σ1 ho hE hM hF
      cases o with
      | none =>
        refine ze_iload_n 0 cd_M_restricted_29 rfl rfl ?_
        refine ze_if_lt (tgt := 56) cd_M_restricted_30 (by decide) (fun _ => ?_) (fun c9 => absurd (by decide) c9)
        refine ze_iload_n 0 cd_M_restricted_56 rfl rfl ?_
        refine ze_if_ge (tgt := 64) cd_M_restricted_57 (by decide) (fun c9 => absurd c9 (by decide)) (fun _ => ?_)
        refine ze_iconst (v := nI 0) cd_M_restricted_60 (by decide) ?_
        refine ze_goto (tgt := 74) cd_M_restricted_61 (by decide) ?_
        refine ze_iret cd_M_restricted_74 rfl (by decide) (by decide) ⟨_, rfl, ?_, rfl, hF, hM⟩
        first | (rw [← hE]; simp [zf_rst, zo, hzz, hc4]; done) | (rw [← hE]; simp [zf_rst, zo, zi_neg, nI_0]; done) | (rw [← hX0]; simp only [zf_rstd]; done)
      | some z =>
        obtain ⟨hDz, hkz⟩ := ho z rfl
        obtain ⟨hz3, hz8, hzu, hzp, hzn⟩ := hfo z hDz
        have hzz : zi lv (nI z) = some z := zi_nI hDz (by omega)
        have hc4 : z * 4 + q = 4 * z + q := by omega
        show zE g "FindingAidModel" cb_M_restricted 4 (Option.some Jvm.ClassFile.FieldType.int) false zr_M_restricted 0 0 (zPi (fun v σ' sz' => v = X0 ∧ sz' = sz ∧ zfr σ σ' a 22 ∧ zmo g σ' a (nI 0) size wr ps lv ot ak fr pr M)) 29 [(3, .int (nI z)), (0, .ref a), (1, .int (nI i9)), (2, .int (nI q))] [] σ1 sz 0 0
        refine ze_iload_n 0 cd_M_restricted_29 rfl rfl ?_
        refine ze_if_lt (tgt := 56) cd_M_restricted_30 (by decide) (fun c9 => absurd c9 (nI_pos (by omega))) (fun _ => ?_)
        refine ze_aload_n 1 cd_M_restricted_33 rfl rfl ?_
        refine ze_get zin_M (v := .ref (a + 12)) (ci := 7) rfl 17 (by decide) zm_739 rfl cd_M_restricted_34 hM.1 rfl ?_
        refine ze_iconst (v := nI 4) cd_M_restricted_37 (by decide) ?_
        refine ze_iload_n 0 cd_M_restricted_38 rfl rfl ?_
        refine ze_imul cd_M_restricted_39 ?_
        refine ze_top (y := nI (4 * z)) (pk_mul _ _) ?_
        refine ze_iload_n 3 cd_M_restricted_40 rfl rfl ?_
        refine ze_iadd cd_M_restricted_41 ?_
        refine ze_top (y := nI ((4 * z) + q)) (nI_add _ _) ?_
        refine ze_iald (j := (4 * z) + q) cd_M_restricted_42 (hM.2 11 _ rfl) rfl (by omega) (by decide) ?_
        refine ze_if_ne (tgt := 56) cd_M_restricted_43 (by decide) (fun c1 => ?_) (fun c1 => ?_)
        · skip
          refine ze_iload_n 0 cd_M_restricted_56 rfl rfl ?_
          refine ze_if_ge (tgt := 64) cd_M_restricted_57 (by decide) (fun _ => ?_) (fun c9 => absurd (nI_pos' (by omega)) c9)
          refine ze_aload_n 1 cd_M_restricted_64 rfl rfl ?_
          refine ze_get zin_M (v := .ref (a + 12)) (ci := 7) rfl 17 (by decide) zm_739 rfl cd_M_restricted_65 hM.1 rfl ?_
          refine ze_iconst (v := nI 4) cd_M_restricted_68 (by decide) ?_
          refine ze_iload_n 0 cd_M_restricted_69 rfl rfl ?_
          refine ze_imul cd_M_restricted_70 ?_
          refine ze_top (y := nI (4 * z)) (pk_mul _ _) ?_
          refine ze_iload_n 3 cd_M_restricted_71 rfl rfl ?_
          refine ze_iadd cd_M_restricted_72 ?_
          refine ze_top (y := nI ((4 * z) + q)) (nI_add _ _) ?_
          refine ze_iald (j := (4 * z) + q) cd_M_restricted_73 (hM.2 11 _ rfl) rfl (by omega) (by decide) ?_
          refine ze_iret cd_M_restricted_74 rfl (by decide) (by decide) ⟨_, rfl, ?_, rfl, hF, hM⟩
          first | (rw [← hE]; simp [zf_rst, zo, hzz, hc4, c1]; done) | (rw [← hE]; simp [zf_rst, zo, zi_neg, nI_0]; done) | (rw [← hX0]; simp only [zf_rstd, c1]; done)
        · skip
          refine ze_aload_n 1 cd_M_restricted_46 rfl rfl ?_
          refine ze_get zin_M (v := .ref (a + 4)) (ci := 7) rfl 9 (by decide) zm_731 rfl cd_M_restricted_47 hM.1 rfl ?_
          refine ze_iload_n 0 cd_M_restricted_50 rfl rfl ?_
          refine ze_iald (j := z) cd_M_restricted_51 (hM.2 3 _ rfl) rfl (by omega) (by decide) ?_
          refine ze_top hzu ?_
          refine ze_istore_n (lv' := [(3, .int (zo (pa z))), (0, .ref a), (1, .int (nI i9)), (2, .int (nI q))]) cd_M_restricted_52 rfl (by decide) rfl ?_
          refine ze_goto (tgt := 29) cd_M_restricted_53 (by decide) ?_
          exact ze_sub [0, 1, 2, 3] rfl (ih (pa z) _ (fun p hp => by have := hzp p hp; exact ⟨this.1, by omega⟩) (by rw [← hE, ← hzu]; simp [zf_rst, zo, hzz, hc4, c1]) hM hF)
  refine zM_of (lv := [(0, .ref a), (1, .int i), (2, .int kd)]) (ini := false) (by decide) rfl (by decide) (Nat.le_of_ble_eq_true rfl) rfl ?_
  refine ze_aload_n 0 cd_M_restricted_0 rfl rfl ?_
  refine ze_iconst (v := nI 0) cd_M_restricted_1 (by decide) ?_
  refine ze_put zin_M zy_M zt_M zn_M (ci := 7) rfl 0 (by decide) zm_722 rfl (Or.inl rfl) cd_M_restricted_2 hM.1 rfl rfl (Nat.le_of_ble_eq_true rfl) (fs' := [.int (nI 0), .int (nI size), .ref (a + 1), .int wr, .int (nI ps), .int (nI lv), .int (nI ot), .ref (a + 2), .ref (a + 3), .ref (a + 4), .ref (a + 5), .ref (a + 6), .ref (a + 7), .ref (a + 8), .ref (a + 9), .ref (a + 10), .ref (a + 11), .ref (a + 12), .ref (a + 13), .ref (a + 14), .ref (a + 15), .ref (a + 16), .ref (a + 17), .int (nI ak), .ref (a + 18), .ref (a + 19), .ref (a + 20), .int fr, .int (nI pr), .ref (a + 21)]) rfl ?_
  have hM := hM.put (fs' := [.int (nI 0), .int (nI size), .ref (a + 1), .int wr, .int (nI ps), .int (nI lv), .int (nI ot), .ref (a + 2), .ref (a + 3), .ref (a + 4), .ref (a + 5), .ref (a + 6), .ref (a + 7), .ref (a + 8), .ref (a + 9), .ref (a + 10), .ref (a + 11), .ref (a + 12), .ref (a + 13), .ref (a + 14), .ref (a + 15), .ref (a + 16), .ref (a + 17), .int (nI ak), .ref (a + 18), .ref (a + 19), .ref (a + 20), .int fr, .int (nI pr), .ref (a + 21)])
  have hF := hF.up (a := a) (e := .inr (7, [.int (nI 0), .int (nI size), .ref (a + 1), .int wr, .int (nI ps), .int (nI lv), .int (nI ot), .ref (a + 2), .ref (a + 3), .ref (a + 4), .ref (a + 5), .ref (a + 6), .ref (a + 7), .ref (a + 8), .ref (a + 9), .ref (a + 10), .ref (a + 11), .ref (a + 12), .ref (a + 13), .ref (a + 14), .ref (a + 15), .ref (a + 16), .ref (a + 17), .int (nI ak), .ref (a + 18), .ref (a + 19), .ref (a + 20), .int fr, .int (nI pr), .ref (a + 21)])) (by omega) (by omega)
  refine ze_aload_n 0 cd_M_restricted_5 rfl rfl ?_
  refine ze_iload_n 1 cd_M_restricted_6 rfl rfl ?_
  refine ze_callVp (rm' := zr_M_isLevel) (b := a) (As := [.int i]) (rest := []) (kc_M_isLevel hM (by omega)) ⟨rfl, rfl⟩ zy_M_isLevel_ok zm_891 zm_893 zm_41 (ci := 7) rfl rfl (by decide) (by decide) cd_M_restricted_7 hM.1 rfl rfl (Nat.le_of_ble_eq_true rfl) ?_
  refine ze_if_ne (tgt := 15) cd_M_restricted_10 (by decide) (fun c2 => ?_) (fun c2 => ?_)
  · skip
    have c2 : ((zi lv i).isSome) = true := zb_t c2
    obtain ⟨j, hj⟩ := Option.isSome_iff_exists.mp c2
    obtain ⟨hjn, rfl⟩ := zi_some (by omega) hj
    refine ze_iload_n 2 cd_M_restricted_15 rfl rfl ?_
    refine ze_iconst (v := nI 0) cd_M_restricted_16 (by decide) ?_
    refine ze_iconst (v := nI 3) cd_M_restricted_17 (by decide) ?_
    refine ze_callSp (rm' := zr_M_in) (As := [.int kd, .int (nI 0), .int (nI 3)]) (rest := []) kc_M_in ⟨rfl, rfl⟩ zy_M_in_ok zm_856 zm_857 (by decide) (by decide) cd_M_restricted_18 rfl rfl (Nat.le_of_ble_eq_true rfl) ?_
    refine ze_top (y := zb (zi 4 kd).isSome) (by rw [zm_in_c (by omega)]) ?_
    refine ze_if_ne (tgt := 27) cd_M_restricted_21 (by decide) (fun c3 => ?_) (fun c3 => ?_)
    · skip
      have c3 : ((zi 4 kd).isSome) = true := zb_t c3
      obtain ⟨q, hq⟩ := Option.isSome_iff_exists.mp c3
      obtain ⟨hqn, rfl⟩ := zi_some (by omega) hq
      refine ze_iload_n 1 cd_M_restricted_27 rfl rfl ?_
      refine ze_istore_n (lv' := [(3, .int (nI j)), (0, .ref a), (1, .int (nI j)), (2, .int (nI q))]) cd_M_restricted_28 rfl (by decide) rfl ?_
      exact ze_sub [0, 1, 2, 3] rfl (loop j q (by omega) (by rw [← hX0]; simp only [zf_rstd, hj, hq]; rfl) 9 (some j) _ (fun p hp => by cases hp; exact ⟨hjn, by have := (hfo j hjn).2.1; omega⟩) (by rw [← hX0]; simp only [zf_rstd, hj, hq]; rfl) hM hF)
    · skip
      have c3 : ((zi 4 kd).isSome) = false := zb_f c3
      have c3 : zi 4 kd = none := by simpa using c3
      refine ze_bipush (v := (-2 : Int32)) cd_M_restricted_24 (by decide) ?_
      refine ze_iret cd_M_restricted_26 rfl (by decide) (by decide) ⟨_, rfl, ?_, rfl, hF, hM⟩
      first | (rw [← hE]; simp [zf_rst, zo, hzz, hc4, hj, c3]; done) | (rw [← hE]; simp [zf_rst, zo, zi_neg, nI_0]; done) | (rw [← hX0]; simp only [zf_rstd, hj, c3]; done)
  · skip
    have c2 : ((zi lv i).isSome) = false := zb_f c2
    have c2 : zi lv i = none := by simpa using c2
    refine ze_iconst (v := (-1 : Int32)) cd_M_restricted_13 (by decide) ?_
    refine ze_iret cd_M_restricted_14 rfl (by decide) (by decide) ⟨_, rfl, ?_, rfl, hF, hM⟩
    first | (rw [← hE]; simp [zf_rst, zo, hzz, hc4, c2]; done) | (rw [← hE]; simp [zf_rst, zo, zi_neg, nI_0]; done) | (rw [← hX0]; simp only [zf_rstd, c2]; done)
abbrev zr_M_hasName : Room := { frames := 0, cells := 0, slots := 0, locals := 0 }
set_option maxRecDepth 100000 in
set_option maxHeartbeats 4000000 in
theorem kc_M_hasName {g : zx_G} {σ : zx_M} {sz : Nat} {a size ps lv ot ak pr : Nat} {th wr fr : Int32} {M : Nat → Nat → Int32} {i c : Nat} {hd : Int32} (hM : zmo g σ a th size wr ps lv ot ak fr pr M) (hi : i < 100) (hc : M 13 i = nI c) (hc4 : c ≤ 4) : zM g cy_M_hasName cb_M_hasName 5 (Option.some Jvm.ClassFile.FieldType.boolean) zr_M_hasName 0 0 [.ref a, .int (nI i), .int hd] σ sz (zPp (zb (zn_hd (zmN M) i c hd)) σ sz) := by
  generalize hX0 : zn_hd (zmN M) i c hd = X0
  have loop : ∀ (kk lo : Nat) (b : Bool), lo + kk = c → (b || zany (fun k => decide (M 12 (i * 4 + k) = hd)) lo kk) = X0 → zE g "FindingAidModel" cb_M_hasName 5 (Option.some Jvm.ClassFile.FieldType.boolean) false zr_M_hasName 0 0 (zPp (zb (X0)) σ sz) 5 [(4, .int (nI lo)), (3, .int (zb b)), (0, .ref a), (1, .int (nI i)), (2, .int hd)] [] σ sz 0 0 := by
    intro kk
    induction kk with
    | zero =>
      intro lo b hk hE
      have hc4 : i * 4 + lo = 4 * i + lo := by omega
      refine ze_iload 0 cd_M_hasName_5 rfl ?_
      refine ze_aload_n 2 cd_M_hasName_7 rfl rfl ?_
      refine ze_get zin_M (v := .ref (a + 14)) (ci := 7) rfl 19 (by decide) zm_741 rfl cd_M_hasName_8 hM.1 rfl ?_
      refine ze_iload_n 3 cd_M_hasName_11 rfl rfl ?_
      refine ze_iald (j := i) cd_M_hasName_12 (hM.2 13 _ rfl) rfl (by omega) (by decide) ?_
      refine ze_top hc ?_
      refine ze_icmp_ge (tgt := 47) cd_M_hasName_13 (by decide) (fun c2 => ?_) (fun c2 => ?_)
      · skip
        have c2 : c ≤ lo := (nI_leI (by omega) (by omega)).mp c2
        refine ze_iload_n 1 cd_M_hasName_47 rfl rfl ?_
        refine ze_zret cd_M_hasName_48 rfl (zb_or _) (by decide) (by decide) (zPp_mk ?_)
        rw [← hE]; simp [zany]
      · skip
        have c2 : ¬ c ≤ lo := fun h9 => c2 ((nI_leI (by omega) (by omega)).mpr h9)
        exfalso; omega
    | succ kk ih =>
      intro lo b hk hE
      have hc4 : i * 4 + lo = 4 * i + lo := by omega
      refine ze_iload 0 cd_M_hasName_5 rfl ?_
      refine ze_aload_n 2 cd_M_hasName_7 rfl rfl ?_
      refine ze_get zin_M (v := .ref (a + 14)) (ci := 7) rfl 19 (by decide) zm_741 rfl cd_M_hasName_8 hM.1 rfl ?_
      refine ze_iload_n 3 cd_M_hasName_11 rfl rfl ?_
      refine ze_iald (j := i) cd_M_hasName_12 (hM.2 13 _ rfl) rfl (by omega) (by decide) ?_
      refine ze_top hc ?_
      refine ze_icmp_ge (tgt := 47) cd_M_hasName_13 (by decide) (fun c4 => ?_) (fun c4 => ?_)
      · skip
        have c4 : c ≤ lo := (nI_leI (by omega) (by omega)).mp c4
        exfalso; omega
      · skip
        have c4 : ¬ c ≤ lo := fun h9 => c4 ((nI_leI (by omega) (by omega)).mpr h9)
        refine ze_iload_n 1 cd_M_hasName_16 rfl rfl ?_
        refine ze_if_ne (tgt := 35) cd_M_hasName_17 (by decide) (fun c5 => ?_) (fun c5 => ?_)
        · skip
          have c5 : b = true := zb_t c5
          refine ze_iconst (v := nI 1) cd_M_hasName_35 (by decide) ?_
          refine ze_goto (tgt := 40) cd_M_hasName_36 (by decide) ?_
          refine ze_istore_n (lv' := [(3, .int (nI 1)), (4, .int (nI lo)), (0, .ref a), (1, .int (nI i)), (2, .int hd)]) cd_M_hasName_40 rfl (by decide) rfl ?_
          refine ze_iinc (v := nI (lo + 1)) (lv' := [(4, .int (nI (lo + 1))), (3, .int (nI 1)), (0, .ref a), (1, .int (nI i)), (2, .int hd)]) 1 cd_M_hasName_41 rfl (nI_add _ 1) (by decide) rfl ?_
          refine ze_goto (tgt := 5) cd_M_hasName_44 (by decide) ?_
          exact ze_sub [0, 1, 2, 3, 4] rfl (ih (lo + 1) true (by omega) (by rw [← hE]; simp [zany, hc4, c5]))
        · skip
          have c5 : b = false := zb_f c5
          refine ze_aload_n 2 cd_M_hasName_20 rfl rfl ?_
          refine ze_get zin_M (v := .ref (a + 13)) (ci := 7) rfl 18 (by decide) zm_740 rfl cd_M_hasName_21 hM.1 rfl ?_
          refine ze_iconst (v := nI 4) cd_M_hasName_24 (by decide) ?_
          refine ze_iload_n 3 cd_M_hasName_25 rfl rfl ?_
          refine ze_imul cd_M_hasName_26 ?_
          refine ze_top (y := nI (4 * i)) (pk_mul _ _) ?_
          refine ze_iload 0 cd_M_hasName_27 rfl ?_
          refine ze_iadd cd_M_hasName_29 ?_
          refine ze_top (y := nI ((4 * i) + lo)) (nI_add _ _) ?_
          refine ze_iald (j := (4 * i) + lo) cd_M_hasName_30 (hM.2 12 _ rfl) rfl (by omega) (by decide) ?_
          refine ze_iload_n 4 cd_M_hasName_31 rfl rfl ?_
          refine ze_icmp_ne (tgt := 39) cd_M_hasName_32 (by decide) (fun c6 => ?_) (fun c6 => ?_)
          · skip
            refine ze_iconst (v := nI 0) cd_M_hasName_39 (by decide) ?_
            refine ze_istore_n (lv' := [(3, .int (nI 0)), (4, .int (nI lo)), (0, .ref a), (1, .int (nI i)), (2, .int hd)]) cd_M_hasName_40 rfl (by decide) rfl ?_
            refine ze_iinc (v := nI (lo + 1)) (lv' := [(4, .int (nI (lo + 1))), (3, .int (nI 0)), (0, .ref a), (1, .int (nI i)), (2, .int hd)]) 1 cd_M_hasName_41 rfl (nI_add _ 1) (by decide) rfl ?_
            refine ze_goto (tgt := 5) cd_M_hasName_44 (by decide) ?_
            exact ze_sub [0, 1, 2, 3, 4] rfl (ih (lo + 1) false (by omega) (by rw [← hE]; simp [zany, hc4, c5, c6]))
          · skip
            refine ze_iconst (v := nI 1) cd_M_hasName_35 (by decide) ?_
            refine ze_goto (tgt := 40) cd_M_hasName_36 (by decide) ?_
            refine ze_istore_n (lv' := [(3, .int (nI 1)), (4, .int (nI lo)), (0, .ref a), (1, .int (nI i)), (2, .int hd)]) cd_M_hasName_40 rfl (by decide) rfl ?_
            refine ze_iinc (v := nI (lo + 1)) (lv' := [(4, .int (nI (lo + 1))), (3, .int (nI 1)), (0, .ref a), (1, .int (nI i)), (2, .int hd)]) 1 cd_M_hasName_41 rfl (nI_add _ 1) (by decide) rfl ?_
            refine ze_goto (tgt := 5) cd_M_hasName_44 (by decide) ?_
            exact ze_sub [0, 1, 2, 3, 4] rfl (ih (lo + 1) true (by omega) (by rw [← hE]; simp [zany, hc4, c5, c6]))
  refine zM_of (lv := [(0, .ref a), (1, .int (nI i)), (2, .int hd)]) (ini := false) (by decide) rfl (by decide) (Nat.le_of_ble_eq_true rfl) rfl ?_
  refine ze_iconst (v := nI 0) cd_M_hasName_0 (by decide) ?_
  refine ze_istore_n (lv' := [(3, .int (nI 0)), (0, .ref a), (1, .int (nI i)), (2, .int hd)]) cd_M_hasName_1 rfl (by decide) rfl ?_
  refine ze_iconst (v := nI 0) cd_M_hasName_2 (by decide) ?_
  refine ze_istore (lv' := [(4, .int (nI 0)), (3, .int (nI 0)), (0, .ref a), (1, .int (nI i)), (2, .int hd)]) cd_M_hasName_3 (by decide) rfl ?_
  exact ze_sub [0, 1, 2, 3, 4] rfl (loop c 0 false (by omega) (by rw [← hX0]; simp [zn_hd, zmN]))
def zm_nam (lv : Nat) (M : Nat → Nat → Int32) (i hd : Int32) : Int32 × (Nat → Nat → Int32) := match zi lv i with
  | none => (-1, M)
  | some j => if zm_in hd (nI 1) (nI 999) then (if zn_hd (zmN M) j (zn_c (zmN M) j) hd then (-3, M) else if zn_c (zmN M) j = 4 then (-4, M) else (nI (zn_c (zmN M) j + 1), va_up (va_up M 12 (upd (M 12) (4 * j + zn_c (zmN M) j) hd)) 13 (upd (M 13) j (nI (zn_c (zmN M) j + 1))))) else (-2, M)
abbrev zr_M_name : Room := { frames := 2, cells := 0, slots := 0, locals := 43 }
set_option maxRecDepth 100000 in
set_option maxHeartbeats 4000000 in
theorem kc_M_name {g : zx_G} {σ : zx_M} {sz : Nat} {a size ps lv ot ak pr : Nat} {th wr fr : Int32} {M : Nat → Nat → Int32} {i hd : Int32} (hM : zmo g σ a th size wr ps lv ot ak fr pr M) (hlv : lv ≤ 100) (hno : zn_ok (zmN M)) : zM g cy_M_name cb_M_name 3 (Option.some Jvm.ClassFile.FieldType.int) zr_M_name 0 0 [.ref a, .int i, .int hd] σ sz (zPi (fun v σ' sz' => sz' = sz ∧ zfr σ σ' a 22 ∧ ∃ M', zm_nam lv M i hd = (v, M') ∧ zmo g σ' a (nI 0) size wr ps lv ot ak fr pr M')) := by
  have hF : zfr σ σ a 22 := zfr.rf
  refine zM_of (lv := [(0, .ref a), (1, .int i), (2, .int hd)]) (ini := false) (by decide) rfl (by decide) (Nat.le_of_ble_eq_true rfl) rfl ?_
  refine ze_aload_n 0 cd_M_name_0 rfl rfl ?_
  refine ze_iconst (v := nI 0) cd_M_name_1 (by decide) ?_
  refine ze_put zin_M zy_M zt_M zn_M (ci := 7) rfl 0 (by decide) zm_722 rfl (Or.inl rfl) cd_M_name_2 hM.1 rfl rfl (Nat.le_of_ble_eq_true rfl) (fs' := [.int (nI 0), .int (nI size), .ref (a + 1), .int wr, .int (nI ps), .int (nI lv), .int (nI ot), .ref (a + 2), .ref (a + 3), .ref (a + 4), .ref (a + 5), .ref (a + 6), .ref (a + 7), .ref (a + 8), .ref (a + 9), .ref (a + 10), .ref (a + 11), .ref (a + 12), .ref (a + 13), .ref (a + 14), .ref (a + 15), .ref (a + 16), .ref (a + 17), .int (nI ak), .ref (a + 18), .ref (a + 19), .ref (a + 20), .int fr, .int (nI pr), .ref (a + 21)]) rfl ?_
  have hM := hM.put (fs' := [.int (nI 0), .int (nI size), .ref (a + 1), .int wr, .int (nI ps), .int (nI lv), .int (nI ot), .ref (a + 2), .ref (a + 3), .ref (a + 4), .ref (a + 5), .ref (a + 6), .ref (a + 7), .ref (a + 8), .ref (a + 9), .ref (a + 10), .ref (a + 11), .ref (a + 12), .ref (a + 13), .ref (a + 14), .ref (a + 15), .ref (a + 16), .ref (a + 17), .int (nI ak), .ref (a + 18), .ref (a + 19), .ref (a + 20), .int fr, .int (nI pr), .ref (a + 21)])
  have hF := hF.up (a := a) (e := .inr (7, [.int (nI 0), .int (nI size), .ref (a + 1), .int wr, .int (nI ps), .int (nI lv), .int (nI ot), .ref (a + 2), .ref (a + 3), .ref (a + 4), .ref (a + 5), .ref (a + 6), .ref (a + 7), .ref (a + 8), .ref (a + 9), .ref (a + 10), .ref (a + 11), .ref (a + 12), .ref (a + 13), .ref (a + 14), .ref (a + 15), .ref (a + 16), .ref (a + 17), .int (nI ak), .ref (a + 18), .ref (a + 19), .ref (a + 20), .int fr, .int (nI pr), .ref (a + 21)])) (by omega) (by omega)
  refine ze_aload_n 0 cd_M_name_5 rfl rfl ?_
  refine ze_iload_n 1 cd_M_name_6 rfl rfl ?_
  refine ze_callVp (rm' := zr_M_isLevel) (b := a) (As := [.int i]) (rest := []) (kc_M_isLevel hM (by omega)) ⟨rfl, rfl⟩ zy_M_isLevel_ok zm_891 zm_893 zm_41 (ci := 7) rfl rfl (by decide) (by decide) cd_M_name_7 hM.1 rfl rfl (Nat.le_of_ble_eq_true rfl) ?_
  refine ze_if_ne (tgt := 15) cd_M_name_10 (by decide) (fun c1 => ?_) (fun c1 => ?_)
  · skip
    have c1 : ((zi lv i).isSome) = true := zb_t c1
    obtain ⟨j, hj⟩ := Option.isSome_iff_exists.mp c1
    obtain ⟨hjn, rfl⟩ := zi_some (by omega) hj
    have hcj : M 13 j = nI (zn_c (zmN M) j) := (hno j (by omega)).1.1
    have hc4 := (hno j (by omega)).1.2
    refine ze_iload_n 2 cd_M_name_15 rfl rfl ?_
    refine ze_iconst (v := nI 1) cd_M_name_16 (by decide) ?_
    refine ze_sipush (v := nI 999) cd_M_name_17 (by decide) ?_
    refine ze_callSp (rm' := zr_M_in) (As := [.int hd, .int (nI 1), .int (nI 999)]) (rest := []) kc_M_in ⟨rfl, rfl⟩ zy_M_in_ok zm_856 zm_857 (by decide) (by decide) cd_M_name_20 rfl rfl (Nat.le_of_ble_eq_true rfl) ?_
    refine ze_if_ne (tgt := 29) cd_M_name_23 (by decide) (fun c2 => ?_) (fun c2 => ?_)
    · skip
      have c2 : (zm_in hd (nI 1) (nI 999)) = true := zb_t c2
      refine ze_aload_n 0 cd_M_name_29 rfl rfl ?_
      refine ze_iload_n 1 cd_M_name_30 rfl rfl ?_
      refine ze_iload_n 2 cd_M_name_31 rfl rfl ?_
      refine ze_callVp (rm' := zr_M_hasName) (b := a) (As := [.int (nI j), .int hd]) (rest := []) (kc_M_hasName (i := j) (c := zn_c (zmN M) j) (hd := hd) hM (by omega) (hno j (by omega)).1.1 (hno j (by omega)).1.2) ⟨rfl, rfl⟩ zy_M_hasName_ok zm_935 zm_937 zm_44 (ci := 7) rfl rfl (by decide) (by decide) cd_M_name_32 hM.1 rfl rfl (Nat.le_of_ble_eq_true rfl) ?_
      refine ze_if_eq (tgt := 41) cd_M_name_35 (by decide) (fun c3 => ?_) (fun c3 => ?_)
      · skip
        have c3 : (zn_hd (zmN M) j (zn_c (zmN M) j) hd) = false := zb_f c3
        refine ze_aload_n 0 cd_M_name_41 rfl rfl ?_
        refine ze_get zin_M (v := .ref (a + 14)) (ci := 7) rfl 19 (by decide) zm_741 rfl cd_M_name_42 hM.1 rfl ?_
        refine ze_iload_n 1 cd_M_name_45 rfl rfl ?_
        refine ze_iald (j := j) cd_M_name_46 (hM.2 13 _ rfl) rfl (by omega) (by decide) ?_
        refine ze_top hcj ?_
        refine ze_iconst (v := nI 4) cd_M_name_47 (by decide) ?_
        refine ze_icmp_ne (tgt := 54) cd_M_name_48 (by decide) (fun c4 => ?_) (fun c4 => ?_)
        · skip
          have c4 : ¬ (zn_c (zmN M) j) = 4 := fun h9 => c4 (by rw [h9])
          refine ze_aload_n 0 cd_M_name_54 rfl rfl ?_
          refine ze_get zin_M (v := .ref (a + 13)) (ci := 7) rfl 18 (by decide) zm_740 rfl cd_M_name_55 hM.1 rfl ?_
          refine ze_iconst (v := nI 4) cd_M_name_58 (by decide) ?_
          refine ze_iload_n 1 cd_M_name_59 rfl rfl ?_
          refine ze_imul cd_M_name_60 ?_
          refine ze_top (y := nI (4 * j)) (pk_mul _ _) ?_
          refine ze_aload_n 0 cd_M_name_61 rfl rfl ?_
          refine ze_get zin_M (v := .ref (a + 14)) (ci := 7) rfl 19 (by decide) zm_741 rfl cd_M_name_62 hM.1 rfl ?_
          refine ze_iload_n 1 cd_M_name_65 rfl rfl ?_
          refine ze_iald (j := j) cd_M_name_66 (hM.2 13 _ rfl) rfl (by omega) (by decide) ?_
          refine ze_top hcj ?_
          refine ze_iadd cd_M_name_67 ?_
          refine ze_top (y := nI ((4 * j) + (zn_c (zmN M) j))) (nI_add _ _) ?_
          refine ze_iload_n 2 cd_M_name_68 rfl rfl ?_
          refine ze_iast (j := (4 * j) + (zn_c (zmN M) j)) cd_M_name_69 (hM.2 12 _ rfl) rfl (by omega) (by decide) ?_
          have hM := hM.ar 12 0 400 rfl (b := a + 13) (f := upd (M 12) ((4 * j) + (zn_c (zmN M) j)) hd) (by omega)
          have hF := hF.up (a := a + 13) (e := .inl (g.2.2.2.1 0, 400, .inl (upd (M 12) ((4 * j) + (zn_c (zmN M) j)) hd))) (by omega) (by omega)
          refine ze_aload_n 0 cd_M_name_70 rfl rfl ?_
          refine ze_get zin_M (v := .ref (a + 14)) (ci := 7) rfl 19 (by decide) zm_741 rfl cd_M_name_71 hM.1 rfl ?_
          refine ze_iload_n 1 cd_M_name_74 rfl rfl ?_
          refine ze_dup2 cd_M_name_75 rfl rfl ?_
          refine ze_iald (j := j) (f := M 13) cd_M_name_76 (hM.2 13 _ rfl) rfl (by omega) (by decide) ?_
          refine ze_top hcj ?_
          refine ze_iconst (v := nI 1) cd_M_name_77 (by decide) ?_
          refine ze_iadd cd_M_name_78 ?_
          refine ze_top (y := nI ((zn_c (zmN M) j) + 1)) (nI_add _ _) ?_
          refine ze_iast (j := j) (f := M 13) cd_M_name_79 (hM.2 13 _ rfl) rfl (by omega) (by decide) ?_
          have hM := hM.ar 13 0 100 rfl (b := a + 14) (f := upd (M 13) j (nI ((zn_c (zmN M) j) + 1))) (by omega)
          have hF := hF.up (a := a + 14) (e := .inl (g.2.2.2.1 0, 100, .inl (upd (M 13) j (nI ((zn_c (zmN M) j) + 1))))) (by omega) (by omega)
          refine ze_aload_n 0 cd_M_name_80 rfl rfl ?_
          refine ze_get zin_M (v := .ref (a + 14)) (ci := 7) rfl 19 (by decide) zm_741 rfl cd_M_name_81 hM.1 rfl ?_
          refine ze_iload_n 1 cd_M_name_84 rfl rfl ?_
          refine ze_iald (j := j) (f := upd (M 13) j (nI ((zn_c (zmN M) j) + 1))) cd_M_name_85 (hM.2 13 _ rfl) rfl (by omega) (by decide) ?_
          refine ze_top (y := nI ((zn_c (zmN M) j) + 1)) pk_us ?_
          refine ze_iret cd_M_name_86 rfl (by decide) (by decide) ⟨_, rfl, rfl, hF, va_up (va_up M 12 (upd (M 12) ((4 * j) + (zn_c (zmN M) j)) hd)) 13 (upd (M 13) j (nI ((zn_c (zmN M) j) + 1))), ?_, hM⟩
          first | (simp only [zm_nam, hj, c2, c3, c4]; done) | (simp [zm_nam, hj, c2, c3, c4]; done) | (simp only [zm_nam, hj, c2, c3, if_true, Bool.false_eq_true, if_false]; rw [if_pos c4])
        · skip
          have c4 : (zn_c (zmN M) j) = 4 := (nI_eq (by omega) (by omega)).mp c4
          refine ze_bipush (v := (-4 : Int32)) cd_M_name_51 (by decide) ?_
          refine ze_iret cd_M_name_53 rfl (by decide) (by decide) ⟨_, rfl, rfl, hF, M, ?_, hM⟩
          first | (simp only [zm_nam, hj, c2, c3, c4]; done) | (simp [zm_nam, hj, c2, c3, c4]; done) | (simp only [zm_nam, hj, c2, c3, if_true, Bool.false_eq_true, if_false]; rw [if_pos c4])
      · skip
        have c3 : (zn_hd (zmN M) j (zn_c (zmN M) j) hd) = true := zb_t c3
        refine ze_bipush (v := (-3 : Int32)) cd_M_name_38 (by decide) ?_
        refine ze_iret cd_M_name_40 rfl (by decide) (by decide) ⟨_, rfl, rfl, hF, M, ?_, hM⟩
        first | (simp only [zm_nam, hj, c2, c3]; done) | (simp [zm_nam, hj, c2, c3]; done) | (simp only [zm_nam, hj, c2, c3, if_true, Bool.false_eq_true, if_false]; rw [if_pos c4])
    · skip
      have c2 : (zm_in hd (nI 1) (nI 999)) = false := zb_f c2
      refine ze_bipush (v := (-2 : Int32)) cd_M_name_26 (by decide) ?_
      refine ze_iret cd_M_name_28 rfl (by decide) (by decide) ⟨_, rfl, rfl, hF, M, ?_, hM⟩
      first | (simp only [zm_nam, hj, c2]; done) | (simp [zm_nam, hj, c2]; done) | (simp only [zm_nam, hj, c2, c3, if_true, Bool.false_eq_true, if_false]; rw [if_pos c4])
  · skip
    have c1 : ((zi lv i).isSome) = false := zb_f c1
    have c1 : zi lv i = none := by simpa using c1
    refine ze_iconst (v := (-1 : Int32)) cd_M_name_13 (by decide) ?_
    refine ze_iret cd_M_name_14 rfl (by decide) (by decide) ⟨_, rfl, rfl, hF, M, ?_, hM⟩
    first | (simp only [zm_nam, c1]; done) | (simp [zm_nam, c1]; done) | (simp only [zm_nam, hj, c2, c3, if_true, Bool.false_eq_true, if_false]; rw [if_pos c4])
abbrev zr_M_named : Room := { frames := 1, cells := 0, slots := 0, locals := 24 }
set_option maxRecDepth 100000 in
set_option maxHeartbeats 4000000 in
theorem kc_M_named {g : zx_G} {σ : zx_M} {sz : Nat} {a size ps lv ot ak pr : Nat} {th wr fr : Int32} {M : Nat → Nat → Int32} {hd i : Int32} (hM : zmo g σ a th size wr ps lv ot ak fr pr M) (hlv : lv ≤ 100) (hno : zn_ok (zmN M)) : zM g cy_M_named cb_M_named 5 (Option.some Jvm.ClassFile.FieldType.int) zr_M_named 0 0 [.ref a, .int hd, .int i] σ sz (zPi (fun v σ' sz' => v = zf_pick (fun x => zn_hd (zmN M) x (zn_c (zmN M) x) hd) i lv 0 0 ∧ sz' = sz ∧ zfr σ σ' a 22 ∧ zmo g σ' a (nI 0) size wr ps lv ot ak fr pr M)) := by
  generalize hX0 : zf_pick (fun x => zn_hd (zmN M) x (zn_c (zmN M) x) hd) i lv 0 0 = X0
  have hF : zfr σ σ a 22 := zfr.rf
  have loop : ∀ (kk lo f : Nat) (σ1 : zx_M), lo + kk = lv → f ≤ lo → zf_pick (fun x => zn_hd (zmN M) x (zn_c (zmN M) x) hd) i kk lo f = X0 → zmo g σ1 a (nI 0) size wr ps lv ot ak fr pr M → zfr σ σ1 a 22 → zE g "FindingAidModel" cb_M_named 5 (Option.some Jvm.ClassFile.FieldType.int) false zr_M_named 0 0 (zPi (fun v σ' sz' => v = X0 ∧ sz' = sz ∧ zfr σ σ' a 22 ∧ zmo g σ' a (nI 0) size wr ps lv ot ak fr pr M)) 10 [(4, .int (nI lo)), (3, .int (nI f)), (0, .ref a), (1, .int hd), (2, .int i)] [] σ1 sz 0 0 := by
    intro kk
    induction kk with
    | zero =>
      intro lo f σ1 hk hf hE hM hF
      refine ze_iload 0 cd_M_named_10 rfl ?_
      refine ze_aload_n 2 cd_M_named_12 rfl rfl ?_
      refine ze_get zin_M (v := .int (nI lv)) (ci := 7) rfl 5 (by decide) zm_727 rfl cd_M_named_13 hM.1 rfl ?_
      refine ze_icmp_ge (tgt := 49) cd_M_named_16 (by decide) (fun c2 => ?_) (fun c2 => ?_)
      · skip
        have c2 : lv ≤ lo := (nI_leI (by omega) (by omega)).mp c2
        refine ze_iconst (v := (-1 : Int32)) cd_M_named_49 (by decide) ?_
        refine ze_iret cd_M_named_50 rfl (by decide) (by decide) ⟨_, rfl, ?_, rfl, hF, hM⟩
        rw [← hE]; first | (simp [zf_pick, c2]; done) | rfl
      · skip
        have c2 : ¬ lv ≤ lo := fun h9 => c2 ((nI_leI (by omega) (by omega)).mpr h9)
        exfalso; omega
    | succ kk ih =>
      intro lo f σ1 hk hf hE hM hF
      refine ze_iload 0 cd_M_named_10 rfl ?_
      refine ze_aload_n 2 cd_M_named_12 rfl rfl ?_
      refine ze_get zin_M (v := .int (nI lv)) (ci := 7) rfl 5 (by decide) zm_727 rfl cd_M_named_13 hM.1 rfl ?_
      refine ze_icmp_ge (tgt := 49) cd_M_named_16 (by decide) (fun c4 => ?_) (fun c4 => ?_)
      · skip
        have c4 : lv ≤ lo := (nI_leI (by omega) (by omega)).mp c4
        exfalso; omega
      · skip
        have c4 : ¬ lv ≤ lo := fun h9 => c4 ((nI_leI (by omega) (by omega)).mpr h9)
        refine ze_aload_n 2 cd_M_named_19 rfl rfl ?_
        refine ze_iload 0 cd_M_named_20 rfl ?_
        refine ze_iload_n 3 cd_M_named_22 rfl rfl ?_
        refine ze_callVp (rm' := zr_M_hasName) (b := a) (As := [.int (nI lo), .int hd]) (rest := []) (kc_M_hasName (i := lo) (c := zn_c (zmN M) lo) (hd := hd) hM (by omega) (hno lo (by omega)).1.1 (hno lo (by omega)).1.2) ⟨rfl, rfl⟩ zy_M_hasName_ok zm_935 zm_937 zm_44 (ci := 7) rfl rfl (by decide) (by decide) cd_M_named_23 hM.1 rfl rfl (Nat.le_of_ble_eq_true rfl) ?_
        refine ze_if_ne (tgt := 32) cd_M_named_26 (by decide) (fun c5 => ?_) (fun c5 => ?_)
        · skip
          have c5 : (zn_hd (zmN M) lo (zn_c (zmN M) lo) hd) = true := zb_t c5
          refine ze_iload_n 1 cd_M_named_32 rfl rfl ?_
          refine ze_iload_n 4 cd_M_named_33 rfl rfl ?_
          refine ze_icmp_ne (tgt := 40) cd_M_named_34 (by decide) (fun c6 => ?_) (fun c6 => ?_)
          · skip
            refine ze_iinc (v := nI (f + 1)) (lv' := [(3, .int (nI (f + 1))), (4, .int (nI lo)), (0, .ref a), (1, .int hd), (2, .int i)]) 1 cd_M_named_40 rfl (nI_add _ 1) (by decide) rfl ?_
            refine ze_iinc (v := nI (lo + 1)) (lv' := [(4, .int (nI (lo + 1))), (3, .int (nI (f + 1))), (0, .ref a), (1, .int hd), (2, .int i)]) 1 cd_M_named_43 rfl (nI_add _ 1) (by decide) rfl ?_
            refine ze_goto (tgt := 10) cd_M_named_46 (by decide) ?_
            exact ze_sub [0, 1, 2, 3, 4] rfl (ih (lo + 1) _ _ (by omega) (by omega) (by rw [← hE]; simp [zf_pick, c5, c6]) hM hF)
          · skip
            refine ze_iload 0 cd_M_named_37 rfl ?_
            refine ze_iret cd_M_named_39 rfl (by decide) (by decide) ⟨_, rfl, ?_, rfl, hF, hM⟩
            rw [← hE]; first | (simp [zf_pick, c4, c5, c6]; done) | rfl
        · skip
          have c5 : (zn_hd (zmN M) lo (zn_c (zmN M) lo) hd) = false := zb_f c5
          refine ze_goto (tgt := 43) cd_M_named_29 (by decide) ?_
          refine ze_iinc (v := nI (lo + 1)) (lv' := [(4, .int (nI (lo + 1))), (3, .int (nI f)), (0, .ref a), (1, .int hd), (2, .int i)]) 0 cd_M_named_43 rfl (nI_add _ 1) (by decide) rfl ?_
          refine ze_goto (tgt := 10) cd_M_named_46 (by decide) ?_
          exact ze_sub [0, 1, 2, 3, 4] rfl (ih (lo + 1) _ _ (by omega) (by omega) (by rw [← hE]; simp [zf_pick, c5]) hM hF)
  refine zM_of (lv := [(0, .ref a), (1, .int hd), (2, .int i)]) (ini := false) (by decide) rfl (by decide) (Nat.le_of_ble_eq_true rfl) rfl ?_
  refine ze_aload_n 0 cd_M_named_0 rfl rfl ?_
  refine ze_iconst (v := nI 0) cd_M_named_1 (by decide) ?_
  refine ze_put zin_M zy_M zt_M zn_M (ci := 7) rfl 0 (by decide) zm_722 rfl (Or.inl rfl) cd_M_named_2 hM.1 rfl rfl (Nat.le_of_ble_eq_true rfl) (fs' := [.int (nI 0), .int (nI size), .ref (a + 1), .int wr, .int (nI ps), .int (nI lv), .int (nI ot), .ref (a + 2), .ref (a + 3), .ref (a + 4), .ref (a + 5), .ref (a + 6), .ref (a + 7), .ref (a + 8), .ref (a + 9), .ref (a + 10), .ref (a + 11), .ref (a + 12), .ref (a + 13), .ref (a + 14), .ref (a + 15), .ref (a + 16), .ref (a + 17), .int (nI ak), .ref (a + 18), .ref (a + 19), .ref (a + 20), .int fr, .int (nI pr), .ref (a + 21)]) rfl ?_
  have hM := hM.put (fs' := [.int (nI 0), .int (nI size), .ref (a + 1), .int wr, .int (nI ps), .int (nI lv), .int (nI ot), .ref (a + 2), .ref (a + 3), .ref (a + 4), .ref (a + 5), .ref (a + 6), .ref (a + 7), .ref (a + 8), .ref (a + 9), .ref (a + 10), .ref (a + 11), .ref (a + 12), .ref (a + 13), .ref (a + 14), .ref (a + 15), .ref (a + 16), .ref (a + 17), .int (nI ak), .ref (a + 18), .ref (a + 19), .ref (a + 20), .int fr, .int (nI pr), .ref (a + 21)])
  have hF := hF.up (a := a) (e := .inr (7, [.int (nI 0), .int (nI size), .ref (a + 1), .int wr, .int (nI ps), .int (nI lv), .int (nI ot), .ref (a + 2), .ref (a + 3), .ref (a + 4), .ref (a + 5), .ref (a + 6), .ref (a + 7), .ref (a + 8), .ref (a + 9), .ref (a + 10), .ref (a + 11), .ref (a + 12), .ref (a + 13), .ref (a + 14), .ref (a + 15), .ref (a + 16), .ref (a + 17), .int (nI ak), .ref (a + 18), .ref (a + 19), .ref (a + 20), .int fr, .int (nI pr), .ref (a + 21)])) (by omega) (by omega)
  refine ze_iconst (v := nI 0) cd_M_named_5 (by decide) ?_
  refine ze_istore_n (lv' := [(3, .int (nI 0)), (0, .ref a), (1, .int hd), (2, .int i)]) cd_M_named_6 rfl (by decide) rfl ?_
  refine ze_iconst (v := nI 0) cd_M_named_7 (by decide) ?_
  refine ze_istore (lv' := [(4, .int (nI 0)), (3, .int (nI 0)), (0, .ref a), (1, .int hd), (2, .int i)]) cd_M_named_8 (by decide) rfl ?_
  exact ze_sub [0, 1, 2, 3, 4] rfl (loop lv 0 0 _ (by omega) (by omega) hX0 hM hF)
abbrev zr_M_was : Room := { frames := 2, cells := 0, slots := 0, locals := 43 }
set_option maxRecDepth 100000 in
set_option maxHeartbeats 4000000 in
theorem kc_M_was {g : zx_G} {σ : zx_M} {sz : Nat} {a size ps lv ot ak pr : Nat} {th wr fr : Int32} {M : Nat → Nat → Int32} {i k9 : Int32} (hM : zmo g σ a th size wr ps lv ot ak fr pr M) (hlv : lv ≤ 100) (hno : zn_ok (zmN M)) : zM g cy_M_was cb_M_was 3 (Option.some Jvm.ClassFile.FieldType.int) zr_M_was 0 0 [.ref a, .int i, .int k9] σ sz (zPi (fun v σ' sz' => v = zf_was lv (zmN M) i k9 ∧ sz' = sz ∧ zfr σ σ' a 22 ∧ zmo g σ' a (nI 0) size wr ps lv ot ak fr pr M)) := by
  have hF : zfr σ σ a 22 := zfr.rf
  refine zM_of (lv := [(0, .ref a), (1, .int i), (2, .int k9)]) (ini := false) (by decide) rfl (by decide) (Nat.le_of_ble_eq_true rfl) rfl ?_
  refine ze_aload_n 0 cd_M_was_0 rfl rfl ?_
  refine ze_iconst (v := nI 0) cd_M_was_1 (by decide) ?_
  refine ze_put zin_M zy_M zt_M zn_M (ci := 7) rfl 0 (by decide) zm_722 rfl (Or.inl rfl) cd_M_was_2 hM.1 rfl rfl (Nat.le_of_ble_eq_true rfl) (fs' := [.int (nI 0), .int (nI size), .ref (a + 1), .int wr, .int (nI ps), .int (nI lv), .int (nI ot), .ref (a + 2), .ref (a + 3), .ref (a + 4), .ref (a + 5), .ref (a + 6), .ref (a + 7), .ref (a + 8), .ref (a + 9), .ref (a + 10), .ref (a + 11), .ref (a + 12), .ref (a + 13), .ref (a + 14), .ref (a + 15), .ref (a + 16), .ref (a + 17), .int (nI ak), .ref (a + 18), .ref (a + 19), .ref (a + 20), .int fr, .int (nI pr), .ref (a + 21)]) rfl ?_
  have hM := hM.put (fs' := [.int (nI 0), .int (nI size), .ref (a + 1), .int wr, .int (nI ps), .int (nI lv), .int (nI ot), .ref (a + 2), .ref (a + 3), .ref (a + 4), .ref (a + 5), .ref (a + 6), .ref (a + 7), .ref (a + 8), .ref (a + 9), .ref (a + 10), .ref (a + 11), .ref (a + 12), .ref (a + 13), .ref (a + 14), .ref (a + 15), .ref (a + 16), .ref (a + 17), .int (nI ak), .ref (a + 18), .ref (a + 19), .ref (a + 20), .int fr, .int (nI pr), .ref (a + 21)])
  have hF := hF.up (a := a) (e := .inr (7, [.int (nI 0), .int (nI size), .ref (a + 1), .int wr, .int (nI ps), .int (nI lv), .int (nI ot), .ref (a + 2), .ref (a + 3), .ref (a + 4), .ref (a + 5), .ref (a + 6), .ref (a + 7), .ref (a + 8), .ref (a + 9), .ref (a + 10), .ref (a + 11), .ref (a + 12), .ref (a + 13), .ref (a + 14), .ref (a + 15), .ref (a + 16), .ref (a + 17), .int (nI ak), .ref (a + 18), .ref (a + 19), .ref (a + 20), .int fr, .int (nI pr), .ref (a + 21)])) (by omega) (by omega)
  refine ze_aload_n 0 cd_M_was_5 rfl rfl ?_
  refine ze_iload_n 1 cd_M_was_6 rfl rfl ?_
  refine ze_callVp (rm' := zr_M_isLevel) (b := a) (As := [.int i]) (rest := []) (kc_M_isLevel hM (by omega)) ⟨rfl, rfl⟩ zy_M_isLevel_ok zm_891 zm_893 zm_41 (ci := 7) rfl rfl (by decide) (by decide) cd_M_was_7 hM.1 rfl rfl (Nat.le_of_ble_eq_true rfl) ?_
  refine ze_if_eq (tgt := 42) cd_M_was_10 (by decide) (fun c1 => ?_) (fun c1 => ?_)
  · skip
    have c1 : ((zi lv i).isSome) = false := zb_f c1
    have c1 : zi lv i = none := by simpa using c1
    refine ze_iconst (v := (-1 : Int32)) cd_M_was_42 (by decide) ?_
    refine ze_iret cd_M_was_43 rfl (by decide) (by decide) ⟨_, rfl, ?_, rfl, hF, hM⟩
    first | (simp only [zf_was, c1]; done) | (simp only [zf_was, c1]; rw [Nat.mul_comm]; rfl) | (simp only [zf_was]; done)
  · skip
    have c1 : ((zi lv i).isSome) = true := zb_t c1
    obtain ⟨j, hj⟩ := Option.isSome_iff_exists.mp c1
    obtain ⟨hjn, rfl⟩ := zi_some (by omega) hj
    have hmj : M 15 j = nI (zn_m (zmN M) j) := (hno j (by omega)).2.1
    have hm5 := (hno j (by omega)).2.2
    refine ze_iload_n 2 cd_M_was_13 rfl rfl ?_
    refine ze_iconst (v := nI 0) cd_M_was_14 (by decide) ?_
    refine ze_aload_n 0 cd_M_was_15 rfl rfl ?_
    refine ze_get zin_M (v := .ref (a + 16)) (ci := 7) rfl 21 (by decide) zm_743 rfl cd_M_was_16 hM.1 rfl ?_
    refine ze_iload_n 1 cd_M_was_19 rfl rfl ?_
    refine ze_iald (j := j) cd_M_was_20 (hM.2 15 _ rfl) rfl (by omega) (by decide) ?_
    refine ze_top hmj ?_
    refine ze_iconst (v := nI 1) cd_M_was_21 (by decide) ?_
    refine ze_isub cd_M_was_22 ?_
    refine ze_callSp (rm' := zr_M_in) (As := [.int k9, .int (nI 0), .int ((nI (zn_m (zmN M) j)) - (nI 1))]) (rest := []) kc_M_in ⟨rfl, rfl⟩ zy_M_in_ok zm_856 zm_857 (by decide) (by decide) cd_M_was_23 rfl rfl (Nat.le_of_ble_eq_true rfl) ?_
    refine ze_top (y := zb (zi (zn_m (zmN M) j) k9).isSome) (by rw [zm_in_lv (by omega)]) ?_
    refine ze_if_eq (tgt := 42) cd_M_was_26 (by decide) (fun c2 => ?_) (fun c2 => ?_)
    · skip
      have c2 : ((zi (zn_m (zmN M) j) k9).isSome) = false := zb_f c2
      have c2 : zi (zn_m (zmN M) j) k9 = none := by simpa using c2
      refine ze_iconst (v := (-1 : Int32)) cd_M_was_42 (by decide) ?_
      refine ze_iret cd_M_was_43 rfl (by decide) (by decide) ⟨_, rfl, ?_, rfl, hF, hM⟩
      first | (simp only [zf_was, hj, c2]; done) | (simp only [zf_was, hj, c2]; rw [Nat.mul_comm]; rfl) | (simp only [zf_was, hj]; done)
    · skip
      have c2 : ((zi (zn_m (zmN M) j) k9).isSome) = true := zb_t c2
      obtain ⟨q, hq⟩ := Option.isSome_iff_exists.mp c2
      obtain ⟨hqn, rfl⟩ := zi_some (by omega) hq
      refine ze_aload_n 0 cd_M_was_29 rfl rfl ?_
      refine ze_get zin_M (v := .ref (a + 15)) (ci := 7) rfl 20 (by decide) zm_742 rfl cd_M_was_30 hM.1 rfl ?_
      refine ze_iconst (v := nI 5) cd_M_was_33 (by decide) ?_
      refine ze_iload_n 1 cd_M_was_34 rfl rfl ?_
      refine ze_imul cd_M_was_35 ?_
      refine ze_top (y := nI (5 * j)) (pk_mul _ _) ?_
      refine ze_iload_n 2 cd_M_was_36 rfl rfl ?_
      refine ze_iadd cd_M_was_37 ?_
      refine ze_top (y := nI ((5 * j) + q)) (nI_add _ _) ?_
      refine ze_iald (j := (5 * j) + q) cd_M_was_38 (hM.2 14 _ rfl) rfl (by omega) (by decide) ?_
      refine ze_goto (tgt := 43) cd_M_was_39 (by decide) ?_
      refine ze_iret cd_M_was_43 rfl (by decide) (by decide) ⟨_, rfl, ?_, rfl, hF, hM⟩
      first | (simp only [zf_was, hj, hq]; done) | (simp only [zf_was, hj, hq]; rw [Nat.mul_comm]; rfl) | (simp only [zf_was, hj, hq]; done)
def zm_dm (lv : Nat) (M : Nat → Nat → Int32) (dp : Nat → Nat) (i : Nat) (more : Int32) : Bool := zany (fun k => zl_wi lv (M 3) (nI i) 9 (nI k) && decide (nI 8 < nI (dp k) + more)) 0 lv
def zm_mv (M : Nat → Nat → Int32) (j v c : Nat) : Nat → Nat → Int32 := if c < 5 then va_up (va_up (va_up M 14 (upd (M 14) (5 * j + c) (M 3 j))) 15 (upd (M 15) j (nI (c + 1)))) 3 (upd (M 3) j (nI v)) else va_up (va_up M 15 (upd (M 15) j (nI (c + 0)))) 3 (upd (M 3) j (nI v))
def zm_mov (lv : Nat) (M : Nat → Nat → Int32) (dp : Nat → Nat) (i u : Int32) : Int32 × (Nat → Nat → Int32) := match zi lv i with
  | none => (-1, M)
  | some j => match zi lv u with
    | none => (-1, M)
    | some v => if j = 0 then (-3, M) else if zl_wi lv (M 3) (nI j) 9 (nI v) then (-3, M) else if M 1 j < M 1 v then (-3, M) else if M 1 v = nI 3 then (-3, M) else if zm_dm lv M dp j (nI (dp v + 1) - nI (dp j)) then (-3, M) else (nI 1, zm_mv M j v (zn_m (zmN M) j))
abbrev zr_M_move : Room := { frames := 2, cells := 0, slots := 0, locals := 43 }
set_option maxRecDepth 100000 in
set_option maxHeartbeats 4000000 in
theorem kc_M_move {g : zx_G} {σ : zx_M} {sz : Nat} {a size ps lv ot ak pr : Nat} {th wr fr : Int32} {M : Nat → Nat → Int32} {pa : Nat → Option Nat} {dp : Nat → Nat} {i u : Int32} (hM : zmo g σ a th size wr ps lv ot ak fr pr M) (hfo : zfor (M 3) pa dp (fun j => j < lv)) (hlv : lv ≤ 100) (hno : zn_ok (zmN M)) : zM g cy_M_move cb_M_move 6 (Option.some Jvm.ClassFile.FieldType.int) zr_M_move 0 0 [.ref a, .int i, .int u] σ sz (zPi (fun v σ' sz' => sz' = sz ∧ zfr σ σ' a 22 ∧ ∃ M', zm_mov lv M dp i u = (v, M') ∧ zmo g σ' a (nI 0) size wr ps lv ot ak fr pr M')) := by
  generalize hX0 : zm_mov lv M dp i u = X0
  have hF : zfr σ σ a 22 := zfr.rf
  have fin : ∀ (j v : Nat) (b : Bool) (σ1 : zx_M), j < lv → v < lv → (if b then (-3, M) else (nI 1, zm_mv M j v (zn_m (zmN M) j))) = X0 → zmo g σ1 a (nI 0) size wr ps lv ot ak fr pr M → zfr σ σ1 a 22 → zE g "FindingAidModel" cb_M_move 6 (Option.some Jvm.ClassFile.FieldType.int) false zr_M_move 0 0 (zPi (fun v σ' sz' => sz' = sz ∧ zfr σ σ' a 22 ∧ ∃ M', X0 = (v, M') ∧ zmo g σ' a (nI 0) size wr ps lv ot ak fr pr M')) 134 [(5, .int (nI lv)), (4, .int (zb b)), (3, .int (nI (dp v + 1) - nI (dp j))), (0, .ref a), (1, .int (nI j)), (2, .int (nI v))] [] σ1 sz 0 0 := by
    intro j v b σ1 hjn hvn hE hM hF
    have hmj : M 15 j = nI (zn_m (zmN M) j) := (hno j (by omega)).2.1
    have hm5 := (hno j (by omega)).2.2
    refine ze_iload 1 cd_M_move_134 rfl ?_
    refine ze_if_eq (tgt := 142) cd_M_move_136 (by decide) (fun c1 => ?_) (fun c1 => ?_)
    · skip
      have c1 : b = false := zb_f c1
      refine ze_aload_n 3 cd_M_move_142 rfl rfl ?_
      refine ze_get zin_M (v := .ref (a + 16)) (ci := 7) rfl 21 (by decide) zm_743 rfl cd_M_move_143 hM.1 rfl ?_
      refine ze_iload_n 4 cd_M_move_146 rfl rfl ?_
      refine ze_iald (j := j) cd_M_move_147 (hM.2 15 _ rfl) rfl (by omega) (by decide) ?_
      refine ze_top hmj ?_
      refine ze_iconst (v := nI 5) cd_M_move_148 (by decide) ?_
      refine ze_icmp_ge (tgt := 173) cd_M_move_149 (by decide) (fun c2 => ?_) (fun c2 => ?_)
      · skip
        have c2 : 5 ≤ (zn_m (zmN M) j) := (nI_leI (by omega) (by omega)).mp c2
        refine ze_aload_n 3 cd_M_move_173 rfl rfl ?_
        refine ze_get zin_M (v := .ref (a + 16)) (ci := 7) rfl 21 (by decide) zm_743 rfl cd_M_move_174 hM.1 rfl ?_
        refine ze_iload_n 4 cd_M_move_177 rfl rfl ?_
        refine ze_dup2 cd_M_move_178 rfl rfl ?_
        refine ze_iald (j := j) cd_M_move_179 (hM.2 15 _ rfl) rfl (by omega) (by decide) ?_
        refine ze_top hmj ?_
        refine ze_aload_n 3 cd_M_move_180 rfl rfl ?_
        refine ze_get zin_M (v := .ref (a + 16)) (ci := 7) rfl 21 (by decide) zm_743 rfl cd_M_move_181 hM.1 rfl ?_
        refine ze_iload_n 4 cd_M_move_184 rfl rfl ?_
        refine ze_iald (j := j) cd_M_move_185 (hM.2 15 _ rfl) rfl (by omega) (by decide) ?_
        refine ze_top hmj ?_
        refine ze_iconst (v := nI 5) cd_M_move_186 (by decide) ?_
        refine ze_icmp_ge (tgt := 194) cd_M_move_187 (by decide) (fun c3 => ?_) (fun c3 => ?_)
        · skip
          have c3 : 5 ≤ (zn_m (zmN M) j) := (nI_leI (by omega) (by omega)).mp c3
          refine ze_iconst (v := nI 0) cd_M_move_194 (by decide) ?_
          refine ze_iadd cd_M_move_195 ?_
          refine ze_top (y := nI ((zn_m (zmN M) j) + 0)) (nI_add _ _) ?_
          refine ze_iast (j := j) cd_M_move_196 (hM.2 15 _ rfl) rfl (by omega) (by decide) ?_
          have hM := hM.ar 15 0 100 rfl (b := a + 16) (f := upd (M 15) j (nI ((zn_m (zmN M) j) + 0))) (by omega)
          have hF := hF.up (a := a + 16) (e := .inl (g.2.2.2.1 0, 100, .inl (upd (M 15) j (nI ((zn_m (zmN M) j) + 0))))) (by omega) (by omega)
          refine ze_aload_n 3 cd_M_move_197 rfl rfl ?_
          refine ze_get zin_M (v := .ref (a + 4)) (ci := 7) rfl 9 (by decide) zm_731 rfl cd_M_move_198 hM.1 rfl ?_
          refine ze_iload_n 4 cd_M_move_201 rfl rfl ?_
          refine ze_iload_n 5 cd_M_move_202 rfl rfl ?_
          refine ze_iast (j := j) (f := M 3) cd_M_move_203 (hM.2 3 _ rfl) rfl (by omega) (by decide) ?_
          have hM := hM.ar 3 0 300 rfl (b := a + 4) (f := upd (M 3) j (nI v)) (by omega)
          have hF := hF.up (a := a + 4) (e := .inl (g.2.2.2.1 0, 300, .inl (upd (M 3) j (nI v)))) (by omega) (by omega)
          refine ze_iconst (v := nI 1) cd_M_move_204 (by decide) ?_
          refine ze_iret cd_M_move_205 rfl (by decide) (by decide) ⟨_, rfl, rfl, hF, va_up (va_up M 15 (upd (M 15) j (nI ((zn_m (zmN M) j) + 0)))) 3 (upd (M 3) j (nI v)), ?_, hM⟩
          first | (exfalso; omega) | (rw [← hE, c1]; rfl) | (rw [← hE, c1, if_neg (by decide), zm_mv, if_pos (by omega)]; done) | (rw [← hE, c1, if_neg (by decide), zm_mv, if_neg (by omega)]; done)
        · skip
          have c3 : ¬ 5 ≤ (zn_m (zmN M) j) := fun h9 => c3 ((nI_leI (by omega) (by omega)).mpr h9)
          refine ze_iconst (v := nI 1) cd_M_move_190 (by decide) ?_
          refine ze_goto (tgt := 195) cd_M_move_191 (by decide) ?_
          refine ze_iadd cd_M_move_195 ?_
          refine ze_top (y := nI ((zn_m (zmN M) j) + 1)) (nI_add _ _) ?_
          refine ze_iast (j := j) cd_M_move_196 (hM.2 15 _ rfl) rfl (by omega) (by decide) ?_
          have hM := hM.ar 15 0 100 rfl (b := a + 16) (f := upd (M 15) j (nI ((zn_m (zmN M) j) + 1))) (by omega)
          have hF := hF.up (a := a + 16) (e := .inl (g.2.2.2.1 0, 100, .inl (upd (M 15) j (nI ((zn_m (zmN M) j) + 1))))) (by omega) (by omega)
          refine ze_aload_n 3 cd_M_move_197 rfl rfl ?_
          refine ze_get zin_M (v := .ref (a + 4)) (ci := 7) rfl 9 (by decide) zm_731 rfl cd_M_move_198 hM.1 rfl ?_
          refine ze_iload_n 4 cd_M_move_201 rfl rfl ?_
          refine ze_iload_n 5 cd_M_move_202 rfl rfl ?_
          refine ze_iast (j := j) (f := M 3) cd_M_move_203 (hM.2 3 _ rfl) rfl (by omega) (by decide) ?_
          have hM := hM.ar 3 0 300 rfl (b := a + 4) (f := upd (M 3) j (nI v)) (by omega)
          have hF := hF.up (a := a + 4) (e := .inl (g.2.2.2.1 0, 300, .inl (upd (M 3) j (nI v)))) (by omega) (by omega)
          refine ze_iconst (v := nI 1) cd_M_move_204 (by decide) ?_
          refine ze_iret cd_M_move_205 rfl (by decide) (by decide) ⟨_, rfl, rfl, hF, va_up (va_up M 15 (upd (M 15) j (nI ((zn_m (zmN M) j) + 1)))) 3 (upd (M 3) j (nI v)), ?_, hM⟩
          first | (exfalso; omega) | (rw [← hE, c1]; rfl) | (rw [← hE, c1, if_neg (by decide), zm_mv, if_pos (by omega)]; done) | (rw [← hE, c1, if_neg (by decide), zm_mv, if_neg (by omega)]; done)
      · skip
        have c2 : ¬ 5 ≤ (zn_m (zmN M) j) := fun h9 => c2 ((nI_leI (by omega) (by omega)).mpr h9)
        refine ze_aload_n 3 cd_M_move_152 rfl rfl ?_
        refine ze_get zin_M (v := .ref (a + 15)) (ci := 7) rfl 20 (by decide) zm_742 rfl cd_M_move_153 hM.1 rfl ?_
        refine ze_iconst (v := nI 5) cd_M_move_156 (by decide) ?_
        refine ze_iload_n 4 cd_M_move_157 rfl rfl ?_
        refine ze_imul cd_M_move_158 ?_
        refine ze_top (y := nI (5 * j)) (pk_mul _ _) ?_
        refine ze_aload_n 3 cd_M_move_159 rfl rfl ?_
        refine ze_get zin_M (v := .ref (a + 16)) (ci := 7) rfl 21 (by decide) zm_743 rfl cd_M_move_160 hM.1 rfl ?_
        refine ze_iload_n 4 cd_M_move_163 rfl rfl ?_
        refine ze_iald (j := j) cd_M_move_164 (hM.2 15 _ rfl) rfl (by omega) (by decide) ?_
        refine ze_top hmj ?_
        refine ze_iadd cd_M_move_165 ?_
        refine ze_top (y := nI ((5 * j) + (zn_m (zmN M) j))) (nI_add _ _) ?_
        refine ze_aload_n 3 cd_M_move_166 rfl rfl ?_
        refine ze_get zin_M (v := .ref (a + 4)) (ci := 7) rfl 9 (by decide) zm_731 rfl cd_M_move_167 hM.1 rfl ?_
        refine ze_iload_n 4 cd_M_move_170 rfl rfl ?_
        refine ze_iald (j := j) cd_M_move_171 (hM.2 3 _ rfl) rfl (by omega) (by decide) ?_
        refine ze_iast (j := (5 * j) + (zn_m (zmN M) j)) cd_M_move_172 (hM.2 14 _ rfl) rfl (by omega) (by decide) ?_
        have hM := hM.ar 14 0 500 rfl (b := a + 15) (f := upd (M 14) ((5 * j) + (zn_m (zmN M) j)) (M 3 j)) (by omega)
        have hF := hF.up (a := a + 15) (e := .inl (g.2.2.2.1 0, 500, .inl (upd (M 14) ((5 * j) + (zn_m (zmN M) j)) (M 3 j)))) (by omega) (by omega)
        refine ze_aload_n 3 cd_M_move_173 rfl rfl ?_
        refine ze_get zin_M (v := .ref (a + 16)) (ci := 7) rfl 21 (by decide) zm_743 rfl cd_M_move_174 hM.1 rfl ?_
        refine ze_iload_n 4 cd_M_move_177 rfl rfl ?_
        refine ze_dup2 cd_M_move_178 rfl rfl ?_
        refine ze_iald (j := j) (f := M 15) cd_M_move_179 (hM.2 15 _ rfl) rfl (by omega) (by decide) ?_
        refine ze_top hmj ?_
        refine ze_aload_n 3 cd_M_move_180 rfl rfl ?_
        refine ze_get zin_M (v := .ref (a + 16)) (ci := 7) rfl 21 (by decide) zm_743 rfl cd_M_move_181 hM.1 rfl ?_
        refine ze_iload_n 4 cd_M_move_184 rfl rfl ?_
        refine ze_iald (j := j) (f := M 15) cd_M_move_185 (hM.2 15 _ rfl) rfl (by omega) (by decide) ?_
        refine ze_top hmj ?_
        refine ze_iconst (v := nI 5) cd_M_move_186 (by decide) ?_
        refine ze_icmp_ge (tgt := 194) cd_M_move_187 (by decide) (fun c4 => ?_) (fun c4 => ?_)
        · skip
          have c4 : 5 ≤ (zn_m (zmN M) j) := (nI_leI (by omega) (by omega)).mp c4
          refine ze_iconst (v := nI 0) cd_M_move_194 (by decide) ?_
          refine ze_iadd cd_M_move_195 ?_
          refine ze_top (y := nI ((zn_m (zmN M) j) + 0)) (nI_add _ _) ?_
          refine ze_iast (j := j) (f := M 15) cd_M_move_196 (hM.2 15 _ rfl) rfl (by omega) (by decide) ?_
          have hM := hM.ar 15 0 100 rfl (b := a + 16) (f := upd (M 15) j (nI ((zn_m (zmN M) j) + 0))) (by omega)
          have hF := hF.up (a := a + 16) (e := .inl (g.2.2.2.1 0, 100, .inl (upd (M 15) j (nI ((zn_m (zmN M) j) + 0))))) (by omega) (by omega)
          refine ze_aload_n 3 cd_M_move_197 rfl rfl ?_
          refine ze_get zin_M (v := .ref (a + 4)) (ci := 7) rfl 9 (by decide) zm_731 rfl cd_M_move_198 hM.1 rfl ?_
          refine ze_iload_n 4 cd_M_move_201 rfl rfl ?_
          refine ze_iload_n 5 cd_M_move_202 rfl rfl ?_
          refine ze_iast (j := j) (f := M 3) cd_M_move_203 (hM.2 3 _ rfl) rfl (by omega) (by decide) ?_
          have hM := hM.ar 3 0 300 rfl (b := a + 4) (f := upd (M 3) j (nI v)) (by omega)
          have hF := hF.up (a := a + 4) (e := .inl (g.2.2.2.1 0, 300, .inl (upd (M 3) j (nI v)))) (by omega) (by omega)
          refine ze_iconst (v := nI 1) cd_M_move_204 (by decide) ?_
          refine ze_iret cd_M_move_205 rfl (by decide) (by decide) ⟨_, rfl, rfl, hF, va_up (va_up (va_up M 14 (upd (M 14) ((5 * j) + (zn_m (zmN M) j)) (M 3 j))) 15 (upd (M 15) j (nI ((zn_m (zmN M) j) + 0)))) 3 (upd (M 3) j (nI v)), ?_, hM⟩
          first | (exfalso; omega) | (rw [← hE, c1]; rfl) | (rw [← hE, c1, if_neg (by decide), zm_mv, if_pos (by omega)]; done) | (rw [← hE, c1, if_neg (by decide), zm_mv, if_neg (by omega)]; done)
        · skip
          have c4 : ¬ 5 ≤ (zn_m (zmN M) j) := fun h9 => c4 ((nI_leI (by omega) (by omega)).mpr h9)
          refine ze_iconst (v := nI 1) cd_M_move_190 (by decide) ?_
          refine ze_goto (tgt := 195) cd_M_move_191 (by decide) ?_
          refine ze_iadd cd_M_move_195 ?_
          refine ze_top (y := nI ((zn_m (zmN M) j) + 1)) (nI_add _ _) ?_
          refine ze_iast (j := j) (f := M 15) cd_M_move_196 (hM.2 15 _ rfl) rfl (by omega) (by decide) ?_
          have hM := hM.ar 15 0 100 rfl (b := a + 16) (f := upd (M 15) j (nI ((zn_m (zmN M) j) + 1))) (by omega)
          have hF := hF.up (a := a + 16) (e := .inl (g.2.2.2.1 0, 100, .inl (upd (M 15) j (nI ((zn_m (zmN M) j) + 1))))) (by omega) (by omega)
          refine ze_aload_n 3 cd_M_move_197 rfl rfl ?_
          refine ze_get zin_M (v := .ref (a + 4)) (ci := 7) rfl 9 (by decide) zm_731 rfl cd_M_move_198 hM.1 rfl ?_
          refine ze_iload_n 4 cd_M_move_201 rfl rfl ?_
          refine ze_iload_n 5 cd_M_move_202 rfl rfl ?_
          refine ze_iast (j := j) (f := M 3) cd_M_move_203 (hM.2 3 _ rfl) rfl (by omega) (by decide) ?_
          have hM := hM.ar 3 0 300 rfl (b := a + 4) (f := upd (M 3) j (nI v)) (by omega)
          have hF := hF.up (a := a + 4) (e := .inl (g.2.2.2.1 0, 300, .inl (upd (M 3) j (nI v)))) (by omega) (by omega)
          refine ze_iconst (v := nI 1) cd_M_move_204 (by decide) ?_
          refine ze_iret cd_M_move_205 rfl (by decide) (by decide) ⟨_, rfl, rfl, hF, va_up (va_up (va_up M 14 (upd (M 14) ((5 * j) + (zn_m (zmN M) j)) (M 3 j))) 15 (upd (M 15) j (nI ((zn_m (zmN M) j) + 1)))) 3 (upd (M 3) j (nI v)), ?_, hM⟩
          first | (exfalso; omega) | (rw [← hE, c1]; rfl) | (rw [← hE, c1, if_neg (by decide), zm_mv, if_pos (by omega)]; done) | (rw [← hE, c1, if_neg (by decide), zm_mv, if_neg (by omega)]; done)
    · skip
      have c1 : b = true := zb_t c1
      refine ze_bipush (v := (-3 : Int32)) cd_M_move_139 (by decide) ?_
      refine ze_iret cd_M_move_141 rfl (by decide) (by decide) ⟨_, rfl, rfl, hF, M, ?_, hM⟩
      first | (exfalso; omega) | (rw [← hE, c1]; rfl) | (rw [← hE, c1, if_neg (by decide), zm_mv, if_pos (by omega)]; done) | (rw [← hE, c1, if_neg (by decide), zm_mv, if_neg (by omega)]; done)
  have loop : ∀ (j v : Nat) (σ1 : zx_M), j < lv → v < lv → zmo g σ1 a (nI 0) size wr ps lv ot ak fr pr M → zfr σ σ1 a 22 → (if zm_dm lv M dp j (nI (dp v + 1) - nI (dp j)) then (-3, M) else (nI 1, zm_mv M j v (zn_m (zmN M) j))) = X0 → ∀ (kk lo : Nat) (b : Bool), lo + kk = lv → (b || zany (fun k => zl_wi lv (M 3) (nI j) 9 (nI k) && decide (nI 8 < nI (dp k) + (nI (dp v + 1) - nI (dp j)))) lo kk) = zm_dm lv M dp j (nI (dp v + 1) - nI (dp j)) → zE g "FindingAidModel" cb_M_move 6 (Option.some Jvm.ClassFile.FieldType.int) false zr_M_move 0 0 (zPi (fun v σ' sz' => sz' = sz ∧ zfr σ σ' a 22 ∧ ∃ M', X0 = (v, M') ∧ zmo g σ' a (nI 0) size wr ps lv ot ak fr pr M')) 84 [(5, .int (nI lo)), (4, .int (zb b)), (3, .int (nI (dp v + 1) - nI (dp j))), (0, .ref a), (1, .int (nI j)), (2, .int (nI v))] [] σ1 sz 0 0 := by
    intro j v σ1 hjn hvn hM hF hXX kk
    induction kk with
    | zero =>
      intro lo b hk hE
      refine ze_iload 0 cd_M_move_84 rfl ?_
      refine ze_aload_n 3 cd_M_move_86 rfl rfl ?_
      refine ze_get zin_M (v := .int (nI lv)) (ci := 7) rfl 5 (by decide) zm_727 rfl cd_M_move_87 hM.1 rfl ?_
      refine ze_icmp_ge (tgt := 134) cd_M_move_90 (by decide) (fun c6 => ?_) (fun c6 => ?_)
      · skip
        have c6 : lv ≤ lo := (nI_leI (by omega) (by omega)).mp c6
        obtain rfl : lo = lv := by omega
        exact ze_sub [0, 1, 2, 3, 4, 5] rfl (fin j v b _ hjn hvn (by rw [← hXX, ← hE]; simp [zany]) hM hF)
      · skip
        have c6 : ¬ lv ≤ lo := fun h9 => c6 ((nI_leI (by omega) (by omega)).mpr h9)
        exfalso; omega
    | succ kk ih =>
      intro lo b hk hE
      refine ze_iload 0 cd_M_move_84 rfl ?_
      refine ze_aload_n 3 cd_M_move_86 rfl rfl ?_
      refine ze_get zin_M (v := .int (nI lv)) (ci := 7) rfl 5 (by decide) zm_727 rfl cd_M_move_87 hM.1 rfl ?_
      refine ze_icmp_ge (tgt := 134) cd_M_move_90 (by decide) (fun c8 => ?_) (fun c8 => ?_)
      · skip
        have c8 : lv ≤ lo := (nI_leI (by omega) (by omega)).mp c8
        exfalso; omega
      · skip
        have c8 : ¬ lv ≤ lo := fun h9 => c8 ((nI_leI (by omega) (by omega)).mpr h9)
        refine ze_iload 1 cd_M_move_93 rfl ?_
        refine ze_if_ne (tgt := 121) cd_M_move_95 (by decide) (fun c9 => ?_) (fun c9 => ?_)
        · skip
          have c9 : b = true := zb_t c9
          refine ze_iconst (v := nI 1) cd_M_move_121 (by decide) ?_
          refine ze_goto (tgt := 126) cd_M_move_122 (by decide) ?_
          refine ze_istore (lv' := [(4, .int (nI 1)), (5, .int (nI lo)), (3, .int (nI (dp v + 1) - nI (dp j))), (0, .ref a), (1, .int (nI j)), (2, .int (nI v))]) cd_M_move_126 (by decide) rfl ?_
          refine ze_iinc (v := nI (lo + 1)) (lv' := [(5, .int (nI (lo + 1))), (4, .int (nI 1)), (3, .int (nI (dp v + 1) - nI (dp j))), (0, .ref a), (1, .int (nI j)), (2, .int (nI v))]) 1 cd_M_move_128 rfl (nI_add _ 1) (by decide) rfl ?_
          refine ze_goto (tgt := 84) cd_M_move_131 (by decide) ?_
          exact ze_sub [0, 1, 2, 3, 4, 5] rfl (ih (lo + 1) true (by omega) (by rw [← hE]; first | (simp [zany, c9]; done) | (simp only [zany, c9]; simp [Int32.not_lt, c9]; done)))
        · skip
          have c9 : b = false := zb_f c9
          refine ze_aload_n 3 cd_M_move_98 rfl rfl ?_
          refine ze_iload 0 cd_M_move_99 rfl ?_
          refine ze_iload_n 4 cd_M_move_101 rfl rfl ?_
          refine ze_callVp (rm' := zr_M_lies) (b := a) (As := [.int (nI lo), .int (nI j)]) (rest := []) (kc_M_lies (pa := pa) (dp := dp) (i := lo) (tp := j) hM hfo hlv (by omega) (by omega)) ⟨rfl, rfl⟩ zy_M_lies_ok zm_947 zm_949 zm_45 (ci := 7) rfl rfl (by decide) (by decide) cd_M_move_102 hM.1 rfl rfl (Nat.le_of_ble_eq_true rfl) ?_
          refine ze_if_eq (tgt := 125) cd_M_move_105 (by decide) (fun c10 => ?_) (fun c10 => ?_)
          · skip
            have c10 : (zl_wi lv (M 3) (nI j) 9 (nI lo)) = false := zb_f c10
            refine ze_iconst (v := nI 0) cd_M_move_125 (by decide) ?_
            refine ze_istore (lv' := [(4, .int (nI 0)), (5, .int (nI lo)), (3, .int (nI (dp v + 1) - nI (dp j))), (0, .ref a), (1, .int (nI j)), (2, .int (nI v))]) cd_M_move_126 (by decide) rfl ?_
            refine ze_iinc (v := nI (lo + 1)) (lv' := [(5, .int (nI (lo + 1))), (4, .int (nI 0)), (3, .int (nI (dp v + 1) - nI (dp j))), (0, .ref a), (1, .int (nI j)), (2, .int (nI v))]) 1 cd_M_move_128 rfl (nI_add _ 1) (by decide) rfl ?_
            refine ze_goto (tgt := 84) cd_M_move_131 (by decide) ?_
            exact ze_sub [0, 1, 2, 3, 4, 5] rfl (ih (lo + 1) false (by omega) (by rw [← hE]; first | (simp [zany, c9, c10]; done) | (simp only [zany, c9, c10]; simp [Int32.not_lt, c9, c10]; done)))
          · skip
            have c10 : (zl_wi lv (M 3) (nI j) 9 (nI lo)) = true := zb_t c10
            refine ze_aload_n 3 cd_M_move_108 rfl rfl ?_
            refine ze_iload 0 cd_M_move_109 rfl ?_
            refine ze_callVp (rm' := zr_M_depth) (b := a) (As := [.int (nI lo)]) (rest := []) (kc_M_depth (i := lo) hM hfo (by omega)) ⟨rfl, rfl⟩ zy_M_depth_ok zm_837 zm_839 zm_31 (ci := 7) rfl rfl (by decide) (by decide) cd_M_move_111 hM.1 rfl rfl (Nat.le_of_ble_eq_true rfl) ?_
            refine ze_iload_n 2 cd_M_move_114 rfl rfl ?_
            refine ze_iadd cd_M_move_115 ?_
            refine ze_bipush (v := nI 8) cd_M_move_116 (by decide) ?_
            refine ze_icmp_le (tgt := 125) cd_M_move_118 (by decide) (fun c11 => ?_) (fun c11 => ?_)
            · skip
              have c11 : ¬ (nI 8) < ((nI (dp lo)) + (nI (dp v + 1) - nI (dp j))) := Int32.not_lt.mpr c11
              refine ze_iconst (v := nI 0) cd_M_move_125 (by decide) ?_
              refine ze_istore (lv' := [(4, .int (nI 0)), (5, .int (nI lo)), (3, .int (nI (dp v + 1) - nI (dp j))), (0, .ref a), (1, .int (nI j)), (2, .int (nI v))]) cd_M_move_126 (by decide) rfl ?_
              refine ze_iinc (v := nI (lo + 1)) (lv' := [(5, .int (nI (lo + 1))), (4, .int (nI 0)), (3, .int (nI (dp v + 1) - nI (dp j))), (0, .ref a), (1, .int (nI j)), (2, .int (nI v))]) 1 cd_M_move_128 rfl (nI_add _ 1) (by decide) rfl ?_
              refine ze_goto (tgt := 84) cd_M_move_131 (by decide) ?_
              exact ze_sub [0, 1, 2, 3, 4, 5] rfl (ih (lo + 1) false (by omega) (by rw [← hE]; first | (simp [zany, c9, c10, c11]; done) | (simp only [zany, c9, c10, c11]; simp [Int32.not_lt, c9, c10, c11]; done)))
            · skip
              have c11 : (nI 8) < ((nI (dp lo)) + (nI (dp v + 1) - nI (dp j))) := Int32.not_le.mp c11
              refine ze_iconst (v := nI 1) cd_M_move_121 (by decide) ?_
              refine ze_goto (tgt := 126) cd_M_move_122 (by decide) ?_
              refine ze_istore (lv' := [(4, .int (nI 1)), (5, .int (nI lo)), (3, .int (nI (dp v + 1) - nI (dp j))), (0, .ref a), (1, .int (nI j)), (2, .int (nI v))]) cd_M_move_126 (by decide) rfl ?_
              refine ze_iinc (v := nI (lo + 1)) (lv' := [(5, .int (nI (lo + 1))), (4, .int (nI 1)), (3, .int (nI (dp v + 1) - nI (dp j))), (0, .ref a), (1, .int (nI j)), (2, .int (nI v))]) 1 cd_M_move_128 rfl (nI_add _ 1) (by decide) rfl ?_
              refine ze_goto (tgt := 84) cd_M_move_131 (by decide) ?_
              exact ze_sub [0, 1, 2, 3, 4, 5] rfl (ih (lo + 1) true (by omega) (by rw [← hE]; first | (simp [zany, c9, c10, c11]; done) | (simp only [zany, c9, c10, c11]; simp [Int32.not_lt, c9, c10, c11]; done)))
  refine zM_of (lv := [(0, .ref a), (1, .int i), (2, .int u)]) (ini := false) (by decide) rfl (by decide) (Nat.le_of_ble_eq_true rfl) rfl ?_
  refine ze_aload_n 0 cd_M_move_0 rfl rfl ?_
  refine ze_iconst (v := nI 0) cd_M_move_1 (by decide) ?_
  refine ze_put zin_M zy_M zt_M zn_M (ci := 7) rfl 0 (by decide) zm_722 rfl (Or.inl rfl) cd_M_move_2 hM.1 rfl rfl (Nat.le_of_ble_eq_true rfl) (fs' := [.int (nI 0), .int (nI size), .ref (a + 1), .int wr, .int (nI ps), .int (nI lv), .int (nI ot), .ref (a + 2), .ref (a + 3), .ref (a + 4), .ref (a + 5), .ref (a + 6), .ref (a + 7), .ref (a + 8), .ref (a + 9), .ref (a + 10), .ref (a + 11), .ref (a + 12), .ref (a + 13), .ref (a + 14), .ref (a + 15), .ref (a + 16), .ref (a + 17), .int (nI ak), .ref (a + 18), .ref (a + 19), .ref (a + 20), .int fr, .int (nI pr), .ref (a + 21)]) rfl ?_
  have hM := hM.put (fs' := [.int (nI 0), .int (nI size), .ref (a + 1), .int wr, .int (nI ps), .int (nI lv), .int (nI ot), .ref (a + 2), .ref (a + 3), .ref (a + 4), .ref (a + 5), .ref (a + 6), .ref (a + 7), .ref (a + 8), .ref (a + 9), .ref (a + 10), .ref (a + 11), .ref (a + 12), .ref (a + 13), .ref (a + 14), .ref (a + 15), .ref (a + 16), .ref (a + 17), .int (nI ak), .ref (a + 18), .ref (a + 19), .ref (a + 20), .int fr, .int (nI pr), .ref (a + 21)])
  have hF := hF.up (a := a) (e := .inr (7, [.int (nI 0), .int (nI size), .ref (a + 1), .int wr, .int (nI ps), .int (nI lv), .int (nI ot), .ref (a + 2), .ref (a + 3), .ref (a + 4), .ref (a + 5), .ref (a + 6), .ref (a + 7), .ref (a + 8), .ref (a + 9), .ref (a + 10), .ref (a + 11), .ref (a + 12), .ref (a + 13), .ref (a + 14), .ref (a + 15), .ref (a + 16), .ref (a + 17), .int (nI ak), .ref (a + 18), .ref (a + 19), .ref (a + 20), .int fr, .int (nI pr), .ref (a + 21)])) (by omega) (by omega)
  refine ze_aload_n 0 cd_M_move_5 rfl rfl ?_
  refine ze_iload_n 1 cd_M_move_6 rfl rfl ?_
  refine ze_callVp (rm' := zr_M_isLevel) (b := a) (As := [.int i]) (rest := []) (kc_M_isLevel hM (by omega)) ⟨rfl, rfl⟩ zy_M_isLevel_ok zm_891 zm_893 zm_41 (ci := 7) rfl rfl (by decide) (by decide) cd_M_move_7 hM.1 rfl rfl (Nat.le_of_ble_eq_true rfl) ?_
  refine ze_if_eq (tgt := 21) cd_M_move_10 (by decide) (fun c12 => ?_) (fun c12 => ?_)
  · skip
    have c12 : ((zi lv i).isSome) = false := zb_f c12
    have c12 : zi lv i = none := by simpa using c12
    refine ze_iconst (v := (-1 : Int32)) cd_M_move_21 (by decide) ?_
    refine ze_iret cd_M_move_22 rfl (by decide) (by decide) ⟨_, rfl, rfl, hF, M, ?_, hM⟩
    first | (rw [← hX0]; simp only [zm_mov, c12]; done) | (rw [← hX0]; simp only [zm_mov, hj, hv]; rw [if_pos c12]; done) | (rw [← hX0]; simp [zm_mov, c12]; done)
  · skip
    have c12 : ((zi lv i).isSome) = true := zb_t c12
    obtain ⟨j, hj⟩ := Option.isSome_iff_exists.mp c12
    obtain ⟨hjn, rfl⟩ := zi_some (by omega) hj
    refine ze_aload_n 0 cd_M_move_13 rfl rfl ?_
    refine ze_iload_n 2 cd_M_move_14 rfl rfl ?_
    refine ze_callVp (rm' := zr_M_isLevel) (b := a) (As := [.int u]) (rest := []) (kc_M_isLevel hM (by omega)) ⟨rfl, rfl⟩ zy_M_isLevel_ok zm_891 zm_893 zm_41 (ci := 7) rfl rfl (by decide) (by decide) cd_M_move_15 hM.1 rfl rfl (Nat.le_of_ble_eq_true rfl) ?_
    refine ze_if_ne (tgt := 23) cd_M_move_18 (by decide) (fun c13 => ?_) (fun c13 => ?_)
    · skip
      have c13 : ((zi lv u).isSome) = true := zb_t c13
      obtain ⟨v, hv⟩ := Option.isSome_iff_exists.mp c13
      obtain ⟨hvn, rfl⟩ := zi_some (by omega) hv
      refine ze_iload_n 1 cd_M_move_23 rfl rfl ?_
      refine ze_if_eq (tgt := 61) cd_M_move_24 (by decide) (fun c14 => ?_) (fun c14 => ?_)
      · skip
        have c14 := c14; rw [← nI_0] at c14
        have c14 : j = 0 := (nI_eq (by omega) (by omega)).mp c14
        refine ze_bipush (v := (-3 : Int32)) cd_M_move_61 (by decide) ?_
        refine ze_iret cd_M_move_63 rfl (by decide) (by decide) ⟨_, rfl, rfl, hF, M, ?_, hM⟩
        first | (rw [← hX0]; simp only [zm_mov, hj, hv, c14]; done) | (rw [← hX0]; simp only [zm_mov, hj, hv]; rw [if_pos c14]; done) | (rw [← hX0]; simp [zm_mov, hj, hv, c14]; done)
      · skip
        have c14 := c14; rw [← nI_0] at c14
        have c14 : ¬ j = 0 := fun h9 => c14 (by rw [h9])
        refine ze_aload_n 0 cd_M_move_27 rfl rfl ?_
        refine ze_iload_n 2 cd_M_move_28 rfl rfl ?_
        refine ze_iload_n 1 cd_M_move_29 rfl rfl ?_
        refine ze_callVp (rm' := zr_M_lies) (b := a) (As := [.int (nI v), .int (nI j)]) (rest := []) (kc_M_lies (pa := pa) (dp := dp) (i := v) (tp := j) hM hfo hlv (by omega) (by omega)) ⟨rfl, rfl⟩ zy_M_lies_ok zm_947 zm_949 zm_45 (ci := 7) rfl rfl (by decide) (by decide) cd_M_move_30 hM.1 rfl rfl (Nat.le_of_ble_eq_true rfl) ?_
        refine ze_if_ne (tgt := 61) cd_M_move_33 (by decide) (fun c15 => ?_) (fun c15 => ?_)
        · skip
          have c15 : (zl_wi lv (M 3) (nI j) 9 (nI v)) = true := zb_t c15
          refine ze_bipush (v := (-3 : Int32)) cd_M_move_61 (by decide) ?_
          refine ze_iret cd_M_move_63 rfl (by decide) (by decide) ⟨_, rfl, rfl, hF, M, ?_, hM⟩
          first | (rw [← hX0]; simp only [zm_mov, hj, hv, c14, c15]; done) | (rw [← hX0]; simp only [zm_mov, hj, hv]; rw [if_pos c15]; done) | (rw [← hX0]; simp [zm_mov, hj, hv, c14, c15]; done)
        · skip
          have c15 : (zl_wi lv (M 3) (nI j) 9 (nI v)) = false := zb_f c15
          refine ze_aload_n 0 cd_M_move_36 rfl rfl ?_
          refine ze_get zin_M (v := .ref (a + 2)) (ci := 7) rfl 7 (by decide) zm_729 rfl cd_M_move_37 hM.1 rfl ?_
          refine ze_iload_n 2 cd_M_move_40 rfl rfl ?_
          refine ze_iald (j := v) cd_M_move_41 (hM.2 1 _ rfl) rfl (by omega) (by decide) ?_
          refine ze_aload_n 0 cd_M_move_42 rfl rfl ?_
          refine ze_get zin_M (v := .ref (a + 2)) (ci := 7) rfl 7 (by decide) zm_729 rfl cd_M_move_43 hM.1 rfl ?_
          refine ze_iload_n 1 cd_M_move_46 rfl rfl ?_
          refine ze_iald (j := j) cd_M_move_47 (hM.2 1 _ rfl) rfl (by omega) (by decide) ?_
          refine ze_icmp_gt (tgt := 61) cd_M_move_48 (by decide) (fun c16 => ?_) (fun c16 => ?_)
          · skip
            refine ze_bipush (v := (-3 : Int32)) cd_M_move_61 (by decide) ?_
            refine ze_iret cd_M_move_63 rfl (by decide) (by decide) ⟨_, rfl, rfl, hF, M, ?_, hM⟩
            first | (rw [← hX0]; simp only [zm_mov, hj, hv, c14, c15, c16]; done) | (rw [← hX0]; simp only [zm_mov, hj, hv]; rw [if_pos c16]; done) | (rw [← hX0]; simp [zm_mov, hj, hv, c14, c15, c16]; done)
          · skip
            refine ze_aload_n 0 cd_M_move_51 rfl rfl ?_
            refine ze_get zin_M (v := .ref (a + 2)) (ci := 7) rfl 7 (by decide) zm_729 rfl cd_M_move_52 hM.1 rfl ?_
            refine ze_iload_n 2 cd_M_move_55 rfl rfl ?_
            refine ze_iald (j := v) cd_M_move_56 (hM.2 1 _ rfl) rfl (by omega) (by decide) ?_
            refine ze_iconst (v := nI 3) cd_M_move_57 (by decide) ?_
            refine ze_icmp_ne (tgt := 64) cd_M_move_58 (by decide) (fun c17 => ?_) (fun c17 => ?_)
            · skip
              refine ze_aload_n 0 cd_M_move_64 rfl rfl ?_
              refine ze_iload_n 2 cd_M_move_65 rfl rfl ?_
              refine ze_callVp (rm' := zr_M_depth) (b := a) (As := [.int (nI v)]) (rest := []) (kc_M_depth (i := v) hM hfo (by omega)) ⟨rfl, rfl⟩ zy_M_depth_ok zm_837 zm_839 zm_31 (ci := 7) rfl rfl (by decide) (by decide) cd_M_move_66 hM.1 rfl rfl (Nat.le_of_ble_eq_true rfl) ?_
              refine ze_iconst (v := nI 1) cd_M_move_69 (by decide) ?_
              refine ze_iadd cd_M_move_70 ?_
              refine ze_top (y := nI ((dp v) + 1)) (nI_add _ _) ?_
              refine ze_aload_n 0 cd_M_move_71 rfl rfl ?_
              refine ze_iload_n 1 cd_M_move_72 rfl rfl ?_
              refine ze_callVp (rm' := zr_M_depth) (b := a) (As := [.int (nI j)]) (rest := [.int (nI ((dp v) + 1))]) (kc_M_depth (i := j) hM hfo (by omega)) ⟨rfl, rfl⟩ zy_M_depth_ok zm_837 zm_839 zm_31 (ci := 7) rfl rfl (by decide) (by decide) cd_M_move_73 hM.1 rfl rfl (Nat.le_of_ble_eq_true rfl) ?_
              refine ze_isub cd_M_move_76 ?_
              refine ze_istore_n (lv' := [(3, .int ((nI ((dp v) + 1)) - (nI (dp j)))), (0, .ref a), (1, .int (nI j)), (2, .int (nI v))]) cd_M_move_77 rfl (by decide) rfl ?_
              refine ze_iconst (v := nI 0) cd_M_move_78 (by decide) ?_
              refine ze_istore (lv' := [(4, .int (nI 0)), (3, .int ((nI ((dp v) + 1)) - (nI (dp j)))), (0, .ref a), (1, .int (nI j)), (2, .int (nI v))]) cd_M_move_79 (by decide) rfl ?_
              refine ze_iconst (v := nI 0) cd_M_move_81 (by decide) ?_
              refine ze_istore (lv' := [(5, .int (nI 0)), (4, .int (nI 0)), (3, .int ((nI ((dp v) + 1)) - (nI (dp j)))), (0, .ref a), (1, .int (nI j)), (2, .int (nI v))]) cd_M_move_82 (by decide) rfl ?_
              exact ze_sub [0, 1, 2, 3, 4, 5] rfl (loop j v _ hjn hvn hM hF (by rw [← hX0]; simp [zm_mov, hj, hv, c14, c15, c16, c17]) lv 0 false (by omega) (by simp [zm_dm]))
            · skip
              refine ze_bipush (v := (-3 : Int32)) cd_M_move_61 (by decide) ?_
              refine ze_iret cd_M_move_63 rfl (by decide) (by decide) ⟨_, rfl, rfl, hF, M, ?_, hM⟩
              first | (rw [← hX0]; simp only [zm_mov, hj, hv, c14, c15, c16, c17]; done) | (rw [← hX0]; simp only [zm_mov, hj, hv]; rw [if_pos c17]; done) | (rw [← hX0]; simp [zm_mov, hj, hv, c14, c15, c16, c17]; done)
    · skip
      have c13 : ((zi lv u).isSome) = false := zb_f c13
      have c13 : zi lv u = none := by simpa using c13
      refine ze_iconst (v := (-1 : Int32)) cd_M_move_21 (by decide) ?_
      refine ze_iret cd_M_move_22 rfl (by decide) (by decide) ⟨_, rfl, rfl, hF, M, ?_, hM⟩
      first | (rw [← hX0]; simp only [zm_mov, hj, c13]; done) | (rw [← hX0]; simp only [zm_mov, hj, hv]; rw [if_pos c13]; done) | (rw [← hX0]; simp [zm_mov, hj, c13]; done)
abbrev zr_M_isShown : Room := { frames := 0, cells := 0, slots := 0, locals := 0 }
set_option maxRecDepth 100000 in
set_option maxHeartbeats 4000000 in
theorem kc_M_isShown {g : zx_G} {σ : zx_M} {sz : Nat} {a size ps lv ot ak pr : Nat} {th wr fr : Int32} {M : Nat → Nat → Int32} {pa : Nat → Option Nat} {dp : Nat → Nat} {i : Nat} (hM : zmo g σ a th size wr ps lv ot ak fr pr M) (hfo : zfor (M 3) pa dp (fun j => j < lv)) (hlv : lv ≤ 100) (hi : i < lv) : zM g cy_M_isShown cb_M_isShown 4 (Option.some Jvm.ClassFile.FieldType.boolean) zr_M_isShown 0 0 [.ref a, .int (nI i)] σ sz (zPp (zb (zf_shn lv (M 3) (M 16) 9 (nI i))) σ sz) := by
  generalize hX0 : zf_shn lv (M 3) (M 16) 9 (nI i) = X0
  have loop : ∀ (kk : Nat) (o : Option Nat) (b : Bool), (∀ p, o = some p → p < lv ∧ dp p < kk) → (b && zf_shn lv (M 3) (M 16) kk (zo o)) = X0 → zE g "FindingAidModel" cb_M_isShown 4 (Option.some Jvm.ClassFile.FieldType.boolean) false zr_M_isShown 0 0 (zPp (zb (X0)) σ sz) 4 [(3, .int (zo o)), (2, .int (zb b)), (0, .ref a), (1, .int (nI i))] [] σ sz 0 0 := by
    intro kk
    induction kk with
    | zero =>
      intro o b ho hE
      cases o with
      | none =>
        refine ze_iload_n 0 cd_M_isShown_4 rfl rfl ?_
        refine ze_if_lt (tgt := 37) cd_M_isShown_5 (by decide) (fun _ => ?_) (fun c9 => absurd (by decide) c9)
        refine ze_iload_n 1 cd_M_isShown_37 rfl rfl ?_
        refine ze_zret cd_M_isShown_38 rfl (zb_or _) (by decide) (by decide) (zPp_mk ?_)
        rw [← hE]; simp [zf_shn, zo, zi_neg]
      | some q =>
        obtain ⟨hDq, hkq⟩ := ho q rfl
        exfalso; omega
    | succ kk ih =>
      intro o b ho hE
      cases o with
      | none =>
        refine ze_iload_n 0 cd_M_isShown_4 rfl rfl ?_
        refine ze_if_lt (tgt := 37) cd_M_isShown_5 (by decide) (fun _ => ?_) (fun c9 => absurd (by decide) c9)
        refine ze_iload_n 1 cd_M_isShown_37 rfl rfl ?_
        refine ze_zret cd_M_isShown_38 rfl (zb_or _) (by decide) (by decide) (zPp_mk ?_)
        rw [← hE]; simp [zf_shn, zo, zi_neg]
      | some q =>
        obtain ⟨hDq, hkq⟩ := ho q rfl
        obtain ⟨hq3, hq8, hqu, hqp, hqn⟩ := hfo q hDq
        have hzq : zi lv (nI q) = some q := zi_nI hDq (by omega)
        show zE g "FindingAidModel" cb_M_isShown 4 (Option.some Jvm.ClassFile.FieldType.boolean) false zr_M_isShown 0 0 (zPp (zb (X0)) σ sz) 4 [(3, .int (nI q)), (2, .int (zb b)), (0, .ref a), (1, .int (nI i))] [] σ sz 0 0
        refine ze_iload_n 0 cd_M_isShown_4 rfl rfl ?_
        refine ze_if_lt (tgt := 37) cd_M_isShown_5 (by decide) (fun c9 => absurd c9 (nI_pos (by omega))) (fun _ => ?_)
        refine ze_iload_n 1 cd_M_isShown_8 rfl rfl ?_
        refine ze_if_eq (tgt := 25) cd_M_isShown_9 (by decide) (fun c1 => ?_) (fun c1 => ?_)
        · skip
          have c1 : b = false := zb_f c1
          refine ze_iconst (v := nI 0) cd_M_isShown_25 (by decide) ?_
          refine ze_istore_n (lv' := [(2, .int (nI 0)), (3, .int (nI q)), (0, .ref a), (1, .int (nI i))]) cd_M_isShown_26 rfl (by decide) rfl ?_
          refine ze_aload_n 2 cd_M_isShown_27 rfl rfl ?_
          refine ze_get zin_M (v := .ref (a + 4)) (ci := 7) rfl 9 (by decide) zm_731 rfl cd_M_isShown_28 hM.1 rfl ?_
          refine ze_iload_n 1 cd_M_isShown_31 rfl rfl ?_
          refine ze_iald (j := q) cd_M_isShown_32 (hM.2 3 _ rfl) rfl (by omega) (by decide) ?_
          refine ze_top hqu ?_
          refine ze_istore_n (lv' := [(3, .int (zo (pa q))), (2, .int (nI 0)), (0, .ref a), (1, .int (nI i))]) cd_M_isShown_33 rfl (by decide) rfl ?_
          refine ze_goto (tgt := 4) cd_M_isShown_34 (by decide) ?_
          exact ze_sub [0, 1, 2, 3] rfl (ih (pa q) false (fun p hp => by have := hqp p hp; exact ⟨this.1, by omega⟩) (by rw [← hE, ← hqu]; simp [zf_shn, zo, hzq, c1]))
        · skip
          have c1 : b = true := zb_t c1
          refine ze_aload_n 2 cd_M_isShown_12 rfl rfl ?_
          refine ze_get zin_M (v := .ref (a + 17)) (ci := 7) rfl 22 (by decide) zm_744 rfl cd_M_isShown_13 hM.1 rfl ?_
          refine ze_iload_n 0 cd_M_isShown_16 rfl rfl ?_
          refine ze_zald (j := q) cd_M_isShown_17 (hM.2 16 _ rfl) rfl (by omega) (by decide) ?_
          refine ze_if_ne (tgt := 25) cd_M_isShown_18 (by decide) (fun c2 => ?_) (fun c2 => ?_)
          · skip
            refine ze_iconst (v := nI 0) cd_M_isShown_25 (by decide) ?_
            refine ze_istore_n (lv' := [(2, .int (nI 0)), (3, .int (nI q)), (0, .ref a), (1, .int (nI i))]) cd_M_isShown_26 rfl (by decide) rfl ?_
            refine ze_aload_n 2 cd_M_isShown_27 rfl rfl ?_
            refine ze_get zin_M (v := .ref (a + 4)) (ci := 7) rfl 9 (by decide) zm_731 rfl cd_M_isShown_28 hM.1 rfl ?_
            refine ze_iload_n 1 cd_M_isShown_31 rfl rfl ?_
            refine ze_iald (j := q) cd_M_isShown_32 (hM.2 3 _ rfl) rfl (by omega) (by decide) ?_
            refine ze_top hqu ?_
            refine ze_istore_n (lv' := [(3, .int (zo (pa q))), (2, .int (nI 0)), (0, .ref a), (1, .int (nI i))]) cd_M_isShown_33 rfl (by decide) rfl ?_
            refine ze_goto (tgt := 4) cd_M_isShown_34 (by decide) ?_
            exact ze_sub [0, 1, 2, 3] rfl (ih (pa q) false (fun p hp => by have := hqp p hp; exact ⟨this.1, by omega⟩) (by rw [← hE, ← hqu]; simp [zf_shn, zo, hzq, c1, c2]))
          · skip
            refine ze_iconst (v := nI 1) cd_M_isShown_21 (by decide) ?_
            refine ze_goto (tgt := 26) cd_M_isShown_22 (by decide) ?_
            refine ze_istore_n (lv' := [(2, .int (nI 1)), (3, .int (nI q)), (0, .ref a), (1, .int (nI i))]) cd_M_isShown_26 rfl (by decide) rfl ?_
            refine ze_aload_n 2 cd_M_isShown_27 rfl rfl ?_
            refine ze_get zin_M (v := .ref (a + 4)) (ci := 7) rfl 9 (by decide) zm_731 rfl cd_M_isShown_28 hM.1 rfl ?_
            refine ze_iload_n 1 cd_M_isShown_31 rfl rfl ?_
            refine ze_iald (j := q) cd_M_isShown_32 (hM.2 3 _ rfl) rfl (by omega) (by decide) ?_
            refine ze_top hqu ?_
            refine ze_istore_n (lv' := [(3, .int (zo (pa q))), (2, .int (nI 1)), (0, .ref a), (1, .int (nI i))]) cd_M_isShown_33 rfl (by decide) rfl ?_
            refine ze_goto (tgt := 4) cd_M_isShown_34 (by decide) ?_
            exact ze_sub [0, 1, 2, 3] rfl (ih (pa q) true (fun p hp => by have := hqp p hp; exact ⟨this.1, by omega⟩) (by rw [← hE, ← hqu]; simp [zf_shn, zo, hzq, c1, c2]))
  refine zM_of (lv := [(0, .ref a), (1, .int (nI i))]) (ini := false) (by decide) rfl (by decide) (Nat.le_of_ble_eq_true rfl) rfl ?_
  refine ze_iconst (v := nI 1) cd_M_isShown_0 (by decide) ?_
  refine ze_istore_n (lv' := [(2, .int (nI 1)), (0, .ref a), (1, .int (nI i))]) cd_M_isShown_1 rfl (by decide) rfl ?_
  refine ze_iload_n 2 cd_M_isShown_2 rfl rfl ?_
  refine ze_istore_n (lv' := [(3, .int (nI i)), (2, .int (nI 1)), (0, .ref a), (1, .int (nI i))]) cd_M_isShown_3 rfl (by decide) rfl ?_
  exact ze_sub [0, 1, 2, 3] rfl (loop 9 (some i) true (fun p hp => by cases hp; exact ⟨hi, by have := (hfo i hi).2.1; omega⟩) (by rw [← hX0]; simp [zo]))
def zm_pub (lv : Nat) (M : Nat → Nat → Int32) (i on : Int32) : Int32 × (Nat → Nat → Int32) := match zi lv i with
  | none => (-1, M)
  | some j => (zb (zf_shn lv (M 3) (upd (M 16) j (if on = 0 then nI 1 else nI 0)) 9 (nI j)), va_up M 16 (upd (M 16) j (if on = 0 then nI 1 else nI 0)))
abbrev zr_M_published : Room := { frames := 2, cells := 0, slots := 0, locals := 43 }
set_option maxRecDepth 100000 in
set_option maxHeartbeats 4000000 in
theorem kc_M_published {g : zx_G} {σ : zx_M} {sz : Nat} {a size ps lv ot ak pr : Nat} {th wr fr : Int32} {M : Nat → Nat → Int32} {pa : Nat → Option Nat} {dp : Nat → Nat} {i on : Int32} (hM : zmo g σ a th size wr ps lv ot ak fr pr M) (hfo : zfor (M 3) pa dp (fun j => j < lv)) (hlv : lv ≤ 100) : zM g cy_M_published cb_M_published 3 (Option.some Jvm.ClassFile.FieldType.int) zr_M_published 0 0 [.ref a, .int i, .int on] σ sz (zPi (fun v σ' sz' => sz' = sz ∧ zfr σ σ' a 22 ∧ ∃ M', zm_pub lv M i on = (v, M') ∧ zmo g σ' a (nI 0) size wr ps lv ot ak fr pr M')) := by
  have hF : zfr σ σ a 22 := zfr.rf
  refine zM_of (lv := [(0, .ref a), (1, .int i), (2, .int on)]) (ini := false) (by decide) rfl (by decide) (Nat.le_of_ble_eq_true rfl) rfl ?_
  refine ze_aload_n 0 cd_M_published_0 rfl rfl ?_
  refine ze_iconst (v := nI 0) cd_M_published_1 (by decide) ?_
  refine ze_put zin_M zy_M zt_M zn_M (ci := 7) rfl 0 (by decide) zm_722 rfl (Or.inl rfl) cd_M_published_2 hM.1 rfl rfl (Nat.le_of_ble_eq_true rfl) (fs' := [.int (nI 0), .int (nI size), .ref (a + 1), .int wr, .int (nI ps), .int (nI lv), .int (nI ot), .ref (a + 2), .ref (a + 3), .ref (a + 4), .ref (a + 5), .ref (a + 6), .ref (a + 7), .ref (a + 8), .ref (a + 9), .ref (a + 10), .ref (a + 11), .ref (a + 12), .ref (a + 13), .ref (a + 14), .ref (a + 15), .ref (a + 16), .ref (a + 17), .int (nI ak), .ref (a + 18), .ref (a + 19), .ref (a + 20), .int fr, .int (nI pr), .ref (a + 21)]) rfl ?_
  have hM := hM.put (fs' := [.int (nI 0), .int (nI size), .ref (a + 1), .int wr, .int (nI ps), .int (nI lv), .int (nI ot), .ref (a + 2), .ref (a + 3), .ref (a + 4), .ref (a + 5), .ref (a + 6), .ref (a + 7), .ref (a + 8), .ref (a + 9), .ref (a + 10), .ref (a + 11), .ref (a + 12), .ref (a + 13), .ref (a + 14), .ref (a + 15), .ref (a + 16), .ref (a + 17), .int (nI ak), .ref (a + 18), .ref (a + 19), .ref (a + 20), .int fr, .int (nI pr), .ref (a + 21)])
  have hF := hF.up (a := a) (e := .inr (7, [.int (nI 0), .int (nI size), .ref (a + 1), .int wr, .int (nI ps), .int (nI lv), .int (nI ot), .ref (a + 2), .ref (a + 3), .ref (a + 4), .ref (a + 5), .ref (a + 6), .ref (a + 7), .ref (a + 8), .ref (a + 9), .ref (a + 10), .ref (a + 11), .ref (a + 12), .ref (a + 13), .ref (a + 14), .ref (a + 15), .ref (a + 16), .ref (a + 17), .int (nI ak), .ref (a + 18), .ref (a + 19), .ref (a + 20), .int fr, .int (nI pr), .ref (a + 21)])) (by omega) (by omega)
  refine ze_aload_n 0 cd_M_published_5 rfl rfl ?_
  refine ze_iload_n 1 cd_M_published_6 rfl rfl ?_
  refine ze_callVp (rm' := zr_M_isLevel) (b := a) (As := [.int i]) (rest := []) (kc_M_isLevel hM (by omega)) ⟨rfl, rfl⟩ zy_M_isLevel_ok zm_891 zm_893 zm_41 (ci := 7) rfl rfl (by decide) (by decide) cd_M_published_7 hM.1 rfl rfl (Nat.le_of_ble_eq_true rfl) ?_
  refine ze_if_ne (tgt := 15) cd_M_published_10 (by decide) (fun c1 => ?_) (fun c1 => ?_)
  · skip
    have c1 : ((zi lv i).isSome) = true := zb_t c1
    obtain ⟨j, hj⟩ := Option.isSome_iff_exists.mp c1
    obtain ⟨hjn, rfl⟩ := zi_some (by omega) hj
    refine ze_aload_n 0 cd_M_published_15 rfl rfl ?_
    refine ze_get zin_M (v := .ref (a + 17)) (ci := 7) rfl 22 (by decide) zm_744 rfl cd_M_published_16 hM.1 rfl ?_
    refine ze_iload_n 1 cd_M_published_19 rfl rfl ?_
    refine ze_iload_n 2 cd_M_published_20 rfl rfl ?_
    refine ze_if_ne (tgt := 28) cd_M_published_21 (by decide) (fun c2 => ?_) (fun c2 => ?_)
    · skip
      refine ze_iconst (v := nI 0) cd_M_published_28 (by decide) ?_
      refine ze_zast (j := j) cd_M_published_29 (hM.2 16 _ rfl) rfl (by omega) (by decide) (by decide) ?_
      have hM := hM.ar 16 1 100 rfl (b := a + 17) (f := upd (M 16) j (nI 0)) (by omega)
      have hF := hF.up (a := a + 17) (e := .inl (g.2.2.2.1 1, 100, .inl (upd (M 16) j (nI 0)))) (by omega) (by omega)
      refine ze_aload_n 0 cd_M_published_30 rfl rfl ?_
      refine ze_iload_n 1 cd_M_published_31 rfl rfl ?_
      refine ze_callVp (rm' := zr_M_isShown) (b := a) (As := [.int (nI j)]) (rest := []) (kc_M_isShown (pa := pa) (dp := dp) (i := j) hM hfo hlv (by omega)) ⟨rfl, rfl⟩ zy_M_isShown_ok zm_959 zm_961 zm_46 (ci := 7) rfl rfl (by decide) (by decide) cd_M_published_32 hM.1 rfl rfl (Nat.le_of_ble_eq_true rfl) ?_
      refine ze_if_eq (tgt := 42) cd_M_published_35 (by decide) (fun c3 => ?_) (fun c3 => ?_)
      · skip
        have c3 : (zf_shn lv (M 3) (upd (M 16) j (nI 0)) 9 (nI j)) = false := zb_f c3
        refine ze_iconst (v := nI 0) cd_M_published_42 (by decide) ?_
        refine ze_iret cd_M_published_43 rfl (by decide) (by decide) ⟨_, rfl, rfl, hF, va_up M 16 (upd (M 16) j (nI 0)), ?_, hM⟩
        first | (simp only [zm_pub, hj, c2, c3]; done) | (simp only [zm_pub, hj, c2, c3, if_true, if_false]; rfl)
      · skip
        have c3 : (zf_shn lv (M 3) (upd (M 16) j (nI 0)) 9 (nI j)) = true := zb_t c3
        refine ze_iconst (v := nI 1) cd_M_published_38 (by decide) ?_
        refine ze_goto (tgt := 43) cd_M_published_39 (by decide) ?_
        refine ze_iret cd_M_published_43 rfl (by decide) (by decide) ⟨_, rfl, rfl, hF, va_up M 16 (upd (M 16) j (nI 0)), ?_, hM⟩
        first | (simp only [zm_pub, hj, c2, c3]; done) | (simp only [zm_pub, hj, c2, c3, if_true, if_false]; rfl)
    · skip
      refine ze_iconst (v := nI 1) cd_M_published_24 (by decide) ?_
      refine ze_goto (tgt := 29) cd_M_published_25 (by decide) ?_
      refine ze_zast (j := j) cd_M_published_29 (hM.2 16 _ rfl) rfl (by omega) (by decide) (by decide) ?_
      have hM := hM.ar 16 1 100 rfl (b := a + 17) (f := upd (M 16) j (nI 1)) (by omega)
      have hF := hF.up (a := a + 17) (e := .inl (g.2.2.2.1 1, 100, .inl (upd (M 16) j (nI 1)))) (by omega) (by omega)
      refine ze_aload_n 0 cd_M_published_30 rfl rfl ?_
      refine ze_iload_n 1 cd_M_published_31 rfl rfl ?_
      refine ze_callVp (rm' := zr_M_isShown) (b := a) (As := [.int (nI j)]) (rest := []) (kc_M_isShown (pa := pa) (dp := dp) (i := j) hM hfo hlv (by omega)) ⟨rfl, rfl⟩ zy_M_isShown_ok zm_959 zm_961 zm_46 (ci := 7) rfl rfl (by decide) (by decide) cd_M_published_32 hM.1 rfl rfl (Nat.le_of_ble_eq_true rfl) ?_
      refine ze_if_eq (tgt := 42) cd_M_published_35 (by decide) (fun c4 => ?_) (fun c4 => ?_)
      · skip
        have c4 : (zf_shn lv (M 3) (upd (M 16) j (nI 1)) 9 (nI j)) = false := zb_f c4
        refine ze_iconst (v := nI 0) cd_M_published_42 (by decide) ?_
        refine ze_iret cd_M_published_43 rfl (by decide) (by decide) ⟨_, rfl, rfl, hF, va_up M 16 (upd (M 16) j (nI 1)), ?_, hM⟩
        first | (simp only [zm_pub, hj, c2, c4]; done) | (simp only [zm_pub, hj, c2, c4, if_true, if_false]; rfl)
      · skip
        have c4 : (zf_shn lv (M 3) (upd (M 16) j (nI 1)) 9 (nI j)) = true := zb_t c4
        refine ze_iconst (v := nI 1) cd_M_published_38 (by decide) ?_
        refine ze_goto (tgt := 43) cd_M_published_39 (by decide) ?_
        refine ze_iret cd_M_published_43 rfl (by decide) (by decide) ⟨_, rfl, rfl, hF, va_up M 16 (upd (M 16) j (nI 1)), ?_, hM⟩
        first | (simp only [zm_pub, hj, c2, c4]; done) | (simp only [zm_pub, hj, c2, c4, if_true, if_false]; rfl)
  · skip
    have c1 : ((zi lv i).isSome) = false := zb_f c1
    have c1 : zi lv i = none := by simpa using c1
    refine ze_iconst (v := (-1 : Int32)) cd_M_published_13 (by decide) ?_
    refine ze_iret cd_M_published_14 rfl (by decide) (by decide) ⟨_, rfl, rfl, hF, M, ?_, hM⟩
    first | (simp only [zm_pub, c1]; done) | (simp only [zm_pub, c1, if_true, if_false]; rfl)
