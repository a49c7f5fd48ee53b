theorem zm_in_c {n : Nat} {i : Int32} (hn : n ≤ 900) : zm_in i (nI 0) (nI n) = (zi (n + 1) i).isSome := by
  rw [← zm_in_lv (by omega), show nI (n + 1) - nI 1 = nI n from pk_sub (by omega)]
theorem zq_nn {x : Int32} {n : Nat} (h : x = nI n) (hn : n < 2 ^ 31) : ¬ x < 0 := fun h9 => absurd h9 (by rw [h]; exact nI_pos hn)
abbrev zr_M_letter : Room := { frames := 2, cells := 0, slots := 0, locals := 43 }
set_option maxRecDepth 100000 in
set_option maxHeartbeats 4000000 in
theorem kc_M_letter {g : zx_G} {σ : zx_M} {sz : Nat} {a size ps lv ot ak pr : Nat} {th wr fr : Int32} {M : Nat → Nat → Int32} {pa : Nat → Option Nat} {dp : Nat → Nat} {i k9 : Int32} (hM : zmo g σ a th size wr ps lv ot ak fr pr M) (hfo : zfor (M 3) pa dp (fun j => j < lv)) (hlv : lv ≤ 100) (hT : zl_T lv (zmR M dp)) : zM g cy_M_letter cb_M_letter 3 (Option.some Jvm.ClassFile.FieldType.int) zr_M_letter 0 0 [.ref a, .int i, .int k9] σ sz (zPi (fun v σ' sz' => v = zf_letter lv (zmR M dp) i k9 ∧ sz' = sz ∧ zfr σ σ' a 22 ∧ zmo g σ' a (nI 0) size wr ps lv ot ak fr pr M)) := by
  have hF : zfr σ σ a 22 := zfr.rf
  refine zM_of (lv := [(0, .ref a), (1, .int i), (2, .int k9)]) (ini := false) (by decide) rfl (by decide) (Nat.le_of_ble_eq_true rfl) rfl ?_
  refine ze_aload_n 0 cd_M_letter_0 rfl rfl ?_
  refine ze_iconst (v := nI 0) cd_M_letter_1 (by decide) ?_
  refine ze_put zin_M zy_M zt_M zn_M (ci := 7) rfl 0 (by decide) zm_722 rfl (Or.inl rfl) cd_M_letter_2 hM.1 rfl rfl (Nat.le_of_ble_eq_true rfl) (fs' := [.int (nI 0), .int (nI size), .ref (a + 1), .int wr, .int (nI ps), .int (nI lv), .int (nI ot), .ref (a + 2), .ref (a + 3), .ref (a + 4), .ref (a + 5), .ref (a + 6), .ref (a + 7), .ref (a + 8), .ref (a + 9), .ref (a + 10), .ref (a + 11), .ref (a + 12), .ref (a + 13), .ref (a + 14), .ref (a + 15), .ref (a + 16), .ref (a + 17), .int (nI ak), .ref (a + 18), .ref (a + 19), .ref (a + 20), .int fr, .int (nI pr), .ref (a + 21)]) rfl ?_
  have hM := hM.put (fs' := [.int (nI 0), .int (nI size), .ref (a + 1), .int wr, .int (nI ps), .int (nI lv), .int (nI ot), .ref (a + 2), .ref (a + 3), .ref (a + 4), .ref (a + 5), .ref (a + 6), .ref (a + 7), .ref (a + 8), .ref (a + 9), .ref (a + 10), .ref (a + 11), .ref (a + 12), .ref (a + 13), .ref (a + 14), .ref (a + 15), .ref (a + 16), .ref (a + 17), .int (nI ak), .ref (a + 18), .ref (a + 19), .ref (a + 20), .int fr, .int (nI pr), .ref (a + 21)])
  have hF := hF.up (a := a) (e := .inr (7, [.int (nI 0), .int (nI size), .ref (a + 1), .int wr, .int (nI ps), .int (nI lv), .int (nI ot), .ref (a + 2), .ref (a + 3), .ref (a + 4), .ref (a + 5), .ref (a + 6), .ref (a + 7), .ref (a + 8), .ref (a + 9), .ref (a + 10), .ref (a + 11), .ref (a + 12), .ref (a + 13), .ref (a + 14), .ref (a + 15), .ref (a + 16), .ref (a + 17), .int (nI ak), .ref (a + 18), .ref (a + 19), .ref (a + 20), .int fr, .int (nI pr), .ref (a + 21)])) (by omega) (by omega)
  refine ze_aload_n 0 cd_M_letter_5 rfl rfl ?_
  refine ze_iload_n 1 cd_M_letter_6 rfl rfl ?_
  refine ze_callVp (rm' := zr_M_isLevel) (b := a) (As := [.int i]) (rest := []) (kc_M_isLevel hM (by omega)) ⟨rfl, rfl⟩ zy_M_isLevel_ok zm_891 zm_893 zm_41 (ci := 7) rfl rfl (by decide) (by decide) cd_M_letter_7 hM.1 rfl rfl (Nat.le_of_ble_eq_true rfl) ?_
  refine ze_if_eq (tgt := 43) cd_M_letter_10 (by decide) (fun c1 => ?_) (fun c1 => ?_)
  · skip
    have c1 : ((zi lv i).isSome) = false := zb_f c1
    have c1 : zi lv i = none := by simpa using c1
    refine ze_iconst (v := (-1 : Int32)) cd_M_letter_43 (by decide) ?_
    refine ze_iret cd_M_letter_44 rfl (by decide) (by decide) ⟨_, rfl, ?_, rfl, hF, hM⟩
    first | (simp only [zf_letter, c1]; done) | (simp only [zf_letter, c1]; rw [Nat.mul_comm]; rfl) | (simp only [zf_letter]; done)
  · skip
    have c1 : ((zi lv i).isSome) = true := zb_t c1
    obtain ⟨j, hj⟩ := Option.isSome_iff_exists.mp c1
    obtain ⟨hjn, rfl⟩ := zi_some (by omega) hj
    obtain ⟨ht, ht2⟩ := hT j hjn
    refine ze_iload_n 2 cd_M_letter_13 rfl rfl ?_
    refine ze_iconst (v := nI 0) cd_M_letter_14 (by decide) ?_
    refine ze_aload_n 0 cd_M_letter_15 rfl rfl ?_
    refine ze_get zin_M (v := .ref (a + 10)) (ci := 7) rfl 15 (by decide) zm_737 rfl cd_M_letter_16 hM.1 rfl ?_
    refine ze_iload_n 1 cd_M_letter_19 rfl rfl ?_
    refine ze_iald (j := j) cd_M_letter_20 (hM.2 9 _ rfl) rfl (by omega) (by decide) ?_
    refine ze_top (show M 9 j = nI (zl_t (zmR M dp) j) from ht) ?_
    refine ze_iconst (v := nI 1) cd_M_letter_21 (by decide) ?_
    refine ze_isub cd_M_letter_22 ?_
    refine ze_callSp (rm' := zr_M_in) (As := [.int k9, .int (nI 0), .int ((nI (zl_t (zmR M dp) j)) - (nI 1))]) (rest := []) kc_M_in ⟨rfl, rfl⟩ zy_M_in_ok zm_856 zm_857 (by decide) (by decide) cd_M_letter_23 rfl rfl (Nat.le_of_ble_eq_true rfl) ?_
    refine ze_top (y := zb (zi (zl_t (zmR M dp) j) k9).isSome) (by rw [zm_in_lv (by omega)]) ?_
    refine ze_if_eq (tgt := 43) cd_M_letter_26 (by decide) (fun c2 => ?_) (fun c2 => ?_)
    · skip
      have c2 : ((zi (zl_t (zmR M dp) j) k9).isSome) = false := zb_f c2
      have c2 : zi (zl_t (zmR M dp) j) k9 = none := by simpa using c2
      refine ze_iconst (v := (-1 : Int32)) cd_M_letter_43 (by decide) ?_
      refine ze_iret cd_M_letter_44 rfl (by decide) (by decide) ⟨_, rfl, ?_, rfl, hF, hM⟩
      first | (simp only [zf_letter, hj, c2]; done) | (simp only [zf_letter, hj, c2]; rw [Nat.mul_comm]; rfl) | (simp only [zf_letter, hj]; done)
    · skip
      have c2 : ((zi (zl_t (zmR M dp) j) k9).isSome) = true := zb_t c2
      obtain ⟨q, hq⟩ := Option.isSome_iff_exists.mp c2
      obtain ⟨hqn, rfl⟩ := zi_some (by omega) hq
      refine ze_aload_n 0 cd_M_letter_29 rfl rfl ?_
      refine ze_get zin_M (v := .ref (a + 11)) (ci := 7) rfl 16 (by decide) zm_738 rfl cd_M_letter_30 hM.1 rfl ?_
      refine ze_bipush (v := nI 16) cd_M_letter_33 (by decide) ?_
      refine ze_iload_n 1 cd_M_letter_35 rfl rfl ?_
      refine ze_imul cd_M_letter_36 ?_
      refine ze_top (y := nI (16 * j)) (pk_mul _ _) ?_
      refine ze_iload_n 2 cd_M_letter_37 rfl rfl ?_
      refine ze_iadd cd_M_letter_38 ?_
      refine ze_top (y := nI ((16 * j) + q)) (nI_add _ _) ?_
      refine ze_bald (j := (16 * j) + q) cd_M_letter_39 (hM.2 10 _ rfl) rfl (by omega) (by decide) ?_
      refine ze_goto (tgt := 44) cd_M_letter_40 (by decide) ?_
      refine ze_iret cd_M_letter_44 rfl (by decide) (by decide) ⟨_, rfl, ?_, rfl, hF, hM⟩
      first | (simp only [zf_letter, hj, hq]; done) | (simp only [zf_letter, hj, hq]; rw [Nat.mul_comm]; rfl) | (simp only [zf_letter, hj, hq]; done)
def zm_sg (d : Int32) : Int32 := if d < 0 then -1 else if 0 < d then nI 1 else nI 0
def zm_dd (M : Nat → Nat → Int32) (x y : Nat) : Int32 := if M 4 x = M 4 y then (if M 5 x = M 5 y then M 6 x - M 6 y else M 5 x - M 5 y) else M 4 x - M 4 y
def zm_dt (M : Nat → Nat → Int32) (x y : Nat) : Int32 := if M 4 x < 0 then (if M 4 y < 0 then nI 0 else nI 1) else if M 4 y < 0 then -1 else zm_sg (zm_dd M x y)
def zm_cmp (lv : Nat) (M : Nat → Nat → Int32) (i j : Int32) : Int32 := match zi lv i with
  | none => -2
  | some x => match zi lv j with
    | none => -2
    | some y => zm_dt M x y
abbrev zr_M_compare : Room := { frames := 2, cells := 0, slots := 0, locals := 43 }
set_option maxRecDepth 100000 in
set_option maxHeartbeats 4000000 in
theorem kc_M_compare {g : zx_G} {σ : zx_M} {sz : Nat} {a size ps lv ot ak pr : Nat} {th wr fr : Int32} {M : Nat → Nat → Int32} {i j : Int32} (hM : zmo g σ a th size wr ps lv ot ak fr pr M) (hlv : lv ≤ 100) : zM g cy_M_compare cb_M_compare 4 (Option.some Jvm.ClassFile.FieldType.int) zr_M_compare 0 0 [.ref a, .int i, .int j] σ sz (zPi (fun v σ' sz' => v = zm_cmp lv M i j ∧ sz' = sz ∧ zfr σ σ' a 22 ∧ zmo g σ' a (nI 0) size wr ps lv ot ak fr pr M)) := by
  have hF : zfr σ σ a 22 := zfr.rf
  refine zM_of (lv := [(0, .ref a), (1, .int i), (2, .int j)]) (ini := false) (by decide) rfl (by decide) (Nat.le_of_ble_eq_true rfl) rfl ?_
  refine ze_aload_n 0 cd_M_compare_0 rfl rfl ?_
  refine ze_iconst (v := nI 0) cd_M_compare_1 (by decide) ?_
  refine ze_put zin_M zy_M zt_M zn_M (ci := 7) rfl 0 (by decide) zm_722 rfl (Or.inl rfl) cd_M_compare_2 hM.1 rfl rfl (Nat.le_of_ble_eq_true rfl) (fs' := [.int (nI 0), .int (nI size), .ref (a + 1), .int wr, .int (nI ps), .int (nI lv), .int (nI ot), .ref (a + 2), .ref (a + 3), .ref (a + 4), .ref (a + 5), .ref (a + 6), .ref (a + 7), .ref (a + 8), .ref (a + 9), .ref (a + 10), .ref (a + 11), .ref (a + 12), .ref (a + 13), .ref (a + 14), .ref (a + 15), .ref (a + 16), .ref (a + 17), .int (nI ak), .ref (a + 18), .ref (a + 19), .ref (a + 20), .int fr, .int (nI pr), .ref (a + 21)]) rfl ?_
  have hM := hM.put (fs' := [.int (nI 0), .int (nI size), .ref (a + 1), .int wr, .int (nI ps), .int (nI lv), .int (nI ot), .ref (a + 2), .ref (a + 3), .ref (a + 4), .ref (a + 5), .ref (a + 6), .ref (a + 7), .ref (a + 8), .ref (a + 9), .ref (a + 10), .ref (a + 11), .ref (a + 12), .ref (a + 13), .ref (a + 14), .ref (a + 15), .ref (a + 16), .ref (a + 17), .int (nI ak), .ref (a + 18), .ref (a + 19), .ref (a + 20), .int fr, .int (nI pr), .ref (a + 21)])
  have hF := hF.up (a := a) (e := .inr (7, [.int (nI 0), .int (nI size), .ref (a + 1), .int wr, .int (nI ps), .int (nI lv), .int (nI ot), .ref (a + 2), .ref (a + 3), .ref (a + 4), .ref (a + 5), .ref (a + 6), .ref (a + 7), .ref (a + 8), .ref (a + 9), .ref (a + 10), .ref (a + 11), .ref (a + 12), .ref (a + 13), .ref (a + 14), .ref (a + 15), .ref (a + 16), .ref (a + 17), .int (nI ak), .ref (a + 18), .ref (a + 19), .ref (a + 20), .int fr, .int (nI pr), .ref (a + 21)])) (by omega) (by omega)
  refine ze_aload_n 0 cd_M_compare_5 rfl rfl ?_
  refine ze_iload_n 1 cd_M_compare_6 rfl rfl ?_
  refine ze_callVp (rm' := zr_M_isLevel) (b := a) (As := [.int i]) (rest := []) (kc_M_isLevel hM (by omega)) ⟨rfl, rfl⟩ zy_M_isLevel_ok zm_891 zm_893 zm_41 (ci := 7) rfl rfl (by decide) (by decide) cd_M_compare_7 hM.1 rfl rfl (Nat.le_of_ble_eq_true rfl) ?_
  refine ze_if_eq (tgt := 21) cd_M_compare_10 (by decide) (fun c1 => ?_) (fun c1 => ?_)
  · skip
    have c1 : ((zi lv i).isSome) = false := zb_f c1
    have c1 : zi lv i = none := by simpa using c1
    refine ze_bipush (v := (-2 : Int32)) cd_M_compare_21 (by decide) ?_
    refine ze_iret cd_M_compare_23 rfl (by decide) (by decide) ⟨_, rfl, ?_, rfl, hF, hM⟩
    first | contradiction | (simp only [zm_cmp]; done) | (simp only [zm_cmp, zm_dt, zm_sg, zm_dd, c1, if_true, if_false]; done) | (simp only [zm_cmp, zm_dt, zm_sg, zm_dd, c1, if_true, if_false, ite_not]; done) | (simp [zm_cmp, zm_dt, zm_sg, zm_dd, c1]; done)
  · skip
    have c1 : ((zi lv i).isSome) = true := zb_t c1
    obtain ⟨x, hx⟩ := Option.isSome_iff_exists.mp c1
    obtain ⟨hxn, rfl⟩ := zi_some (by omega) hx
    refine ze_aload_n 0 cd_M_compare_13 rfl rfl ?_
    refine ze_iload_n 2 cd_M_compare_14 rfl rfl ?_
    refine ze_callVp (rm' := zr_M_isLevel) (b := a) (As := [.int j]) (rest := []) (kc_M_isLevel hM (by omega)) ⟨rfl, rfl⟩ zy_M_isLevel_ok zm_891 zm_893 zm_41 (ci := 7) rfl rfl (by decide) (by decide) cd_M_compare_15 hM.1 rfl rfl (Nat.le_of_ble_eq_true rfl) ?_
    refine ze_if_ne (tgt := 24) cd_M_compare_18 (by decide) (fun c2 => ?_) (fun c2 => ?_)
    · skip
      have c2 : ((zi lv j).isSome) = true := zb_t c2
      obtain ⟨y, hy⟩ := Option.isSome_iff_exists.mp c2
      obtain ⟨hyn, rfl⟩ := zi_some (by omega) hy
      refine ze_aload_n 0 cd_M_compare_24 rfl rfl ?_
      refine ze_get zin_M (v := .ref (a + 5)) (ci := 7) rfl 10 (by decide) zm_732 rfl cd_M_compare_25 hM.1 rfl ?_
      refine ze_iload_n 1 cd_M_compare_28 rfl rfl ?_
      refine ze_iald (j := x) cd_M_compare_29 (hM.2 4 _ rfl) rfl (by omega) (by decide) ?_
      refine ze_if_lt (tgt := 42) cd_M_compare_30 (by decide) (fun c3 => ?_) (fun c3 => ?_)
      · skip
        refine ze_aload_n 0 cd_M_compare_42 rfl rfl ?_
        refine ze_get zin_M (v := .ref (a + 5)) (ci := 7) rfl 10 (by decide) zm_732 rfl cd_M_compare_43 hM.1 rfl ?_
        refine ze_iload_n 1 cd_M_compare_46 rfl rfl ?_
        refine ze_iald (j := x) cd_M_compare_47 (hM.2 4 _ rfl) rfl (by omega) (by decide) ?_
        refine ze_if_lt (tgt := 55) cd_M_compare_48 (by decide) (fun c4 => ?_) (fun c4 => ?_)
        · skip
          refine ze_aload_n 0 cd_M_compare_55 rfl rfl ?_
          refine ze_get zin_M (v := .ref (a + 5)) (ci := 7) rfl 10 (by decide) zm_732 rfl cd_M_compare_56 hM.1 rfl ?_
          refine ze_iload_n 2 cd_M_compare_59 rfl rfl ?_
          refine ze_iald (j := y) cd_M_compare_60 (hM.2 4 _ rfl) rfl (by omega) (by decide) ?_
          refine ze_if_lt (tgt := 68) cd_M_compare_61 (by decide) (fun c5 => ?_) (fun c5 => ?_)
          · skip
            refine ze_iconst (v := nI 0) cd_M_compare_68 (by decide) ?_
            refine ze_iret cd_M_compare_69 rfl (by decide) (by decide) ⟨_, rfl, ?_, rfl, hF, hM⟩
            first | contradiction | (simp only [zm_cmp, hx, hy]; done) | (simp only [zm_cmp, zm_dt, zm_sg, zm_dd, hx, hy, c3, c4, c5, if_true, if_false]; done) | (simp only [zm_cmp, zm_dt, zm_sg, zm_dd, hx, hy, c3, c4, c5, if_true, if_false, ite_not]; done) | (simp [zm_cmp, zm_dt, zm_sg, zm_dd, hx, hy, c3, c4, c5]; done)
          · skip
            refine ze_iconst (v := nI 1) cd_M_compare_64 (by decide) ?_
            refine ze_goto (tgt := 69) cd_M_compare_65 (by decide) ?_
            refine ze_iret cd_M_compare_69 rfl (by decide) (by decide) ⟨_, rfl, ?_, rfl, hF, hM⟩
            first | contradiction | (simp only [zm_cmp, hx, hy]; done) | (simp only [zm_cmp, zm_dt, zm_sg, zm_dd, hx, hy, c3, c4, c5, if_true, if_false]; done) | (simp only [zm_cmp, zm_dt, zm_sg, zm_dd, hx, hy, c3, c4, c5, if_true, if_false, ite_not]; done) | (simp [zm_cmp, zm_dt, zm_sg, zm_dd, hx, hy, c3, c4, c5]; done)
        · skip
          refine ze_iconst (v := (-1 : Int32)) cd_M_compare_51 (by decide) ?_
          refine ze_goto (tgt := 69) cd_M_compare_52 (by decide) ?_
          refine ze_iret cd_M_compare_69 rfl (by decide) (by decide) ⟨_, rfl, ?_, rfl, hF, hM⟩
          first | contradiction | (simp only [zm_cmp, hx, hy]; done) | (simp only [zm_cmp, zm_dt, zm_sg, zm_dd, hx, hy, c3, c4, if_true, if_false]; done) | (simp only [zm_cmp, zm_dt, zm_sg, zm_dd, hx, hy, c3, c4, if_true, if_false, ite_not]; done) | (simp [zm_cmp, zm_dt, zm_sg, zm_dd, hx, hy, c3, c4]; done)
      · skip
        refine ze_aload_n 0 cd_M_compare_33 rfl rfl ?_
        refine ze_get zin_M (v := .ref (a + 5)) (ci := 7) rfl 10 (by decide) zm_732 rfl cd_M_compare_34 hM.1 rfl ?_
        refine ze_iload_n 2 cd_M_compare_37 rfl rfl ?_
        refine ze_iald (j := y) cd_M_compare_38 (hM.2 4 _ rfl) rfl (by omega) (by decide) ?_
        refine ze_if_ge (tgt := 70) cd_M_compare_39 (by decide) (fun c6 => ?_) (fun c6 => ?_)
        · skip
          have c6 : ¬ (M 4 y) < 0 := Int32.not_lt.mpr c6
          refine ze_aload_n 0 cd_M_compare_70 rfl rfl ?_
          refine ze_get zin_M (v := .ref (a + 5)) (ci := 7) rfl 10 (by decide) zm_732 rfl cd_M_compare_71 hM.1 rfl ?_
          refine ze_iload_n 1 cd_M_compare_74 rfl rfl ?_
          refine ze_iald (j := x) cd_M_compare_75 (hM.2 4 _ rfl) rfl (by omega) (by decide) ?_
          refine ze_aload_n 0 cd_M_compare_76 rfl rfl ?_
          refine ze_get zin_M (v := .ref (a + 5)) (ci := 7) rfl 10 (by decide) zm_732 rfl cd_M_compare_77 hM.1 rfl ?_
          refine ze_iload_n 2 cd_M_compare_80 rfl rfl ?_
          refine ze_iald (j := y) cd_M_compare_81 (hM.2 4 _ rfl) rfl (by omega) (by decide) ?_
          refine ze_icmp_eq (tgt := 101) cd_M_compare_82 (by decide) (fun c7 => ?_) (fun c7 => ?_)
          · skip
            refine ze_aload_n 0 cd_M_compare_101 rfl rfl ?_
            refine ze_get zin_M (v := .ref (a + 6)) (ci := 7) rfl 11 (by decide) zm_733 rfl cd_M_compare_102 hM.1 rfl ?_
            refine ze_iload_n 1 cd_M_compare_105 rfl rfl ?_
            refine ze_iald (j := x) cd_M_compare_106 (hM.2 5 _ rfl) rfl (by omega) (by decide) ?_
            refine ze_aload_n 0 cd_M_compare_107 rfl rfl ?_
            refine ze_get zin_M (v := .ref (a + 6)) (ci := 7) rfl 11 (by decide) zm_733 rfl cd_M_compare_108 hM.1 rfl ?_
            refine ze_iload_n 2 cd_M_compare_111 rfl rfl ?_
            refine ze_iald (j := y) cd_M_compare_112 (hM.2 5 _ rfl) rfl (by omega) (by decide) ?_
            refine ze_icmp_eq (tgt := 132) cd_M_compare_113 (by decide) (fun c8 => ?_) (fun c8 => ?_)
            · skip
              refine ze_aload_n 0 cd_M_compare_132 rfl rfl ?_
              refine ze_get zin_M (v := .ref (a + 7)) (ci := 7) rfl 12 (by decide) zm_734 rfl cd_M_compare_133 hM.1 rfl ?_
              refine ze_iload_n 1 cd_M_compare_136 rfl rfl ?_
              refine ze_iald (j := x) cd_M_compare_137 (hM.2 6 _ rfl) rfl (by omega) (by decide) ?_
              refine ze_aload_n 0 cd_M_compare_138 rfl rfl ?_
              refine ze_get zin_M (v := .ref (a + 7)) (ci := 7) rfl 12 (by decide) zm_734 rfl cd_M_compare_139 hM.1 rfl ?_
              refine ze_iload_n 2 cd_M_compare_142 rfl rfl ?_
              refine ze_iald (j := y) cd_M_compare_143 (hM.2 6 _ rfl) rfl (by omega) (by decide) ?_
              refine ze_isub cd_M_compare_144 ?_
              refine ze_istore_n (lv' := [(3, .int ((M 6 x) - (M 6 y))), (0, .ref a), (1, .int (nI x)), (2, .int (nI y))]) cd_M_compare_145 rfl (by decide) rfl ?_
              refine ze_iload_n 0 cd_M_compare_146 rfl rfl ?_
              refine ze_if_ge (tgt := 154) cd_M_compare_147 (by decide) (fun c9 => ?_) (fun c9 => ?_)
              · skip
                have c9 : ¬ ((M 6 x) - (M 6 y)) < 0 := Int32.not_lt.mpr c9
                refine ze_iload_n 0 cd_M_compare_154 rfl rfl ?_
                refine ze_if_le (tgt := 162) cd_M_compare_155 (by decide) (fun c10 => ?_) (fun c10 => ?_)
                · skip
                  have c10 : ¬ 0 < ((M 6 x) - (M 6 y)) := Int32.not_lt.mpr c10
                  refine ze_iconst (v := nI 0) cd_M_compare_162 (by decide) ?_
                  refine ze_iret cd_M_compare_163 rfl (by decide) (by decide) ⟨_, rfl, ?_, rfl, hF, hM⟩
                  first | contradiction | (simp only [zm_cmp, hx, hy]; done) | (simp only [zm_cmp, zm_dt, zm_sg, zm_dd, hx, hy, c3, c6, c7, c8, c9, c10, if_true, if_false]; done) | (simp only [zm_cmp, zm_dt, zm_sg, zm_dd, hx, hy, c3, c6, c7, c8, c9, c10, if_true, if_false, ite_not]; done) | (simp [zm_cmp, zm_dt, zm_sg, zm_dd, hx, hy, c3, c6, c7, c8, c9, c10]; done)
                · skip
                  have c10 : 0 < ((M 6 x) - (M 6 y)) := Int32.not_le.mp c10
                  refine ze_iconst (v := nI 1) cd_M_compare_158 (by decide) ?_
                  refine ze_goto (tgt := 163) cd_M_compare_159 (by decide) ?_
                  refine ze_iret cd_M_compare_163 rfl (by decide) (by decide) ⟨_, rfl, ?_, rfl, hF, hM⟩
                  first | contradiction | (simp only [zm_cmp, hx, hy]; done) | (simp only [zm_cmp, zm_dt, zm_sg, zm_dd, hx, hy, c3, c6, c7, c8, c9, c10, if_true, if_false]; done) | (simp only [zm_cmp, zm_dt, zm_sg, zm_dd, hx, hy, c3, c6, c7, c8, c9, c10, if_true, if_false, ite_not]; done) | (simp [zm_cmp, zm_dt, zm_sg, zm_dd, hx, hy, c3, c6, c7, c8, c9, c10]; done)
              · skip
                have c9 : ((M 6 x) - (M 6 y)) < 0 := Int32.not_le.mp c9
                refine ze_iconst (v := (-1 : Int32)) cd_M_compare_150 (by decide) ?_
                refine ze_goto (tgt := 163) cd_M_compare_151 (by decide) ?_
                refine ze_iret cd_M_compare_163 rfl (by decide) (by decide) ⟨_, rfl, ?_, rfl, hF, hM⟩
                first | contradiction | (simp only [zm_cmp, hx, hy]; done) | (simp only [zm_cmp, zm_dt, zm_sg, zm_dd, hx, hy, c3, c6, c7, c8, c9, if_true, if_false]; done) | (simp only [zm_cmp, zm_dt, zm_sg, zm_dd, hx, hy, c3, c6, c7, c8, c9, if_true, if_false, ite_not]; done) | (simp [zm_cmp, zm_dt, zm_sg, zm_dd, hx, hy, c3, c6, c7, c8, c9]; done)
            · skip
              refine ze_aload_n 0 cd_M_compare_116 rfl rfl ?_
              refine ze_get zin_M (v := .ref (a + 6)) (ci := 7) rfl 11 (by decide) zm_733 rfl cd_M_compare_117 hM.1 rfl ?_
              refine ze_iload_n 1 cd_M_compare_120 rfl rfl ?_
              refine ze_iald (j := x) cd_M_compare_121 (hM.2 5 _ rfl) rfl (by omega) (by decide) ?_
              refine ze_aload_n 0 cd_M_compare_122 rfl rfl ?_
              refine ze_get zin_M (v := .ref (a + 6)) (ci := 7) rfl 11 (by decide) zm_733 rfl cd_M_compare_123 hM.1 rfl ?_
              refine ze_iload_n 2 cd_M_compare_126 rfl rfl ?_
              refine ze_iald (j := y) cd_M_compare_127 (hM.2 5 _ rfl) rfl (by omega) (by decide) ?_
              refine ze_isub cd_M_compare_128 ?_
              refine ze_goto (tgt := 145) cd_M_compare_129 (by decide) ?_
              refine ze_istore_n (lv' := [(3, .int ((M 5 x) - (M 5 y))), (0, .ref a), (1, .int (nI x)), (2, .int (nI y))]) cd_M_compare_145 rfl (by decide) rfl ?_
              refine ze_iload_n 0 cd_M_compare_146 rfl rfl ?_
              refine ze_if_ge (tgt := 154) cd_M_compare_147 (by decide) (fun c11 => ?_) (fun c11 => ?_)
              · skip
                have c11 : ¬ ((M 5 x) - (M 5 y)) < 0 := Int32.not_lt.mpr c11
                refine ze_iload_n 0 cd_M_compare_154 rfl rfl ?_
                refine ze_if_le (tgt := 162) cd_M_compare_155 (by decide) (fun c12 => ?_) (fun c12 => ?_)
                · skip
                  have c12 : ¬ 0 < ((M 5 x) - (M 5 y)) := Int32.not_lt.mpr c12
                  refine ze_iconst (v := nI 0) cd_M_compare_162 (by decide) ?_
                  refine ze_iret cd_M_compare_163 rfl (by decide) (by decide) ⟨_, rfl, ?_, rfl, hF, hM⟩
                  first | contradiction | (simp only [zm_cmp, hx, hy]; done) | (simp only [zm_cmp, zm_dt, zm_sg, zm_dd, hx, hy, c3, c6, c7, c8, c11, c12, if_true, if_false]; done) | (simp only [zm_cmp, zm_dt, zm_sg, zm_dd, hx, hy, c3, c6, c7, c8, c11, c12, if_true, if_false, ite_not]; done) | (simp [zm_cmp, zm_dt, zm_sg, zm_dd, hx, hy, c3, c6, c7, c8, c11, c12]; done)
                · skip
                  have c12 : 0 < ((M 5 x) - (M 5 y)) := Int32.not_le.mp c12
                  refine ze_iconst (v := nI 1) cd_M_compare_158 (by decide) ?_
                  refine ze_goto (tgt := 163) cd_M_compare_159 (by decide) ?_
                  refine ze_iret cd_M_compare_163 rfl (by decide) (by decide) ⟨_, rfl, ?_, rfl, hF, hM⟩
                  first | contradiction | (simp only [zm_cmp, hx, hy]; done) | (simp only [zm_cmp, zm_dt, zm_sg, zm_dd, hx, hy, c3, c6, c7, c8, c11, c12, if_true, if_false]; done) | (simp only [zm_cmp, zm_dt, zm_sg, zm_dd, hx, hy, c3, c6, c7, c8, c11, c12, if_true, if_false, ite_not]; done) | (simp [zm_cmp, zm_dt, zm_sg, zm_dd, hx, hy, c3, c6, c7, c8, c11, c12]; done)
              · skip
                have c11 : ((M 5 x) - (M 5 y)) < 0 := Int32.not_le.mp c11
                refine ze_iconst (v := (-1 : Int32)) cd_M_compare_150 (by decide) ?_
                refine ze_goto (tgt := 163) cd_M_compare_151 (by decide) ?_
                refine ze_iret cd_M_compare_163 rfl (by decide) (by decide) ⟨_, rfl, ?_, rfl, hF, hM⟩
                first | contradiction | (simp only [zm_cmp, hx, hy]; done) | (simp only [zm_cmp, zm_dt, zm_sg, zm_dd, hx, hy, c3, c6, c7, c8, c11, if_true, if_false]; done) | (simp only [zm_cmp, zm_dt, zm_sg, zm_dd, hx, hy, c3, c6, c7, c8, c11, if_true, if_false, ite_not]; done) | (simp [zm_cmp, zm_dt, zm_sg, zm_dd, hx, hy, c3, c6, c7, c8, c11]; done)
          · skip
            refine ze_aload_n 0 cd_M_compare_85 rfl rfl ?_
            refine ze_get zin_M (v := .ref (a + 5)) (ci := 7) rfl 10 (by decide) zm_732 rfl cd_M_compare_86 hM.1 rfl ?_
            refine ze_iload_n 1 cd_M_compare_89 rfl rfl ?_
            refine ze_iald (j := x) cd_M_compare_90 (hM.2 4 _ rfl) rfl (by omega) (by decide) ?_
            refine ze_aload_n 0 cd_M_compare_91 rfl rfl ?_
            refine ze_get zin_M (v := .ref (a + 5)) (ci := 7) rfl 10 (by decide) zm_732 rfl cd_M_compare_92 hM.1 rfl ?_
            refine ze_iload_n 2 cd_M_compare_95 rfl rfl ?_
            refine ze_iald (j := y) cd_M_compare_96 (hM.2 4 _ rfl) rfl (by omega) (by decide) ?_
            refine ze_isub cd_M_compare_97 ?_
            refine ze_goto (tgt := 145) cd_M_compare_98 (by decide) ?_
            refine ze_istore_n (lv' := [(3, .int ((M 4 x) - (M 4 y))), (0, .ref a), (1, .int (nI x)), (2, .int (nI y))]) cd_M_compare_145 rfl (by decide) rfl ?_
            refine ze_iload_n 0 cd_M_compare_146 rfl rfl ?_
            refine ze_if_ge (tgt := 154) cd_M_compare_147 (by decide) (fun c13 => ?_) (fun c13 => ?_)
            · skip
              have c13 : ¬ ((M 4 x) - (M 4 y)) < 0 := Int32.not_lt.mpr c13
              refine ze_iload_n 0 cd_M_compare_154 rfl rfl ?_
              refine ze_if_le (tgt := 162) cd_M_compare_155 (by decide) (fun c14 => ?_) (fun c14 => ?_)
              · skip
                have c14 : ¬ 0 < ((M 4 x) - (M 4 y)) := Int32.not_lt.mpr c14
                refine ze_iconst (v := nI 0) cd_M_compare_162 (by decide) ?_
                refine ze_iret cd_M_compare_163 rfl (by decide) (by decide) ⟨_, rfl, ?_, rfl, hF, hM⟩
                first | contradiction | (simp only [zm_cmp, hx, hy]; done) | (simp only [zm_cmp, zm_dt, zm_sg, zm_dd, hx, hy, c3, c6, c7, c13, c14, if_true, if_false]; done) | (simp only [zm_cmp, zm_dt, zm_sg, zm_dd, hx, hy, c3, c6, c7, c13, c14, if_true, if_false, ite_not]; done) | (simp [zm_cmp, zm_dt, zm_sg, zm_dd, hx, hy, c3, c6, c7, c13, c14]; done)
              · skip
                have c14 : 0 < ((M 4 x) - (M 4 y)) := Int32.not_le.mp c14
                refine ze_iconst (v := nI 1) cd_M_compare_158 (by decide) ?_
                refine ze_goto (tgt := 163) cd_M_compare_159 (by decide) ?_
                refine ze_iret cd_M_compare_163 rfl (by decide) (by decide) ⟨_, rfl, ?_, rfl, hF, hM⟩
                first | contradiction | (simp only [zm_cmp, hx, hy]; done) | (simp only [zm_cmp, zm_dt, zm_sg, zm_dd, hx, hy, c3, c6, c7, c13, c14, if_true, if_false]; done) | (simp only [zm_cmp, zm_dt, zm_sg, zm_dd, hx, hy, c3, c6, c7, c13, c14, if_true, if_false, ite_not]; done) | (simp [zm_cmp, zm_dt, zm_sg, zm_dd, hx, hy, c3, c6, c7, c13, c14]; done)
            · skip
              have c13 : ((M 4 x) - (M 4 y)) < 0 := Int32.not_le.mp c13
              refine ze_iconst (v := (-1 : Int32)) cd_M_compare_150 (by decide) ?_
              refine ze_goto (tgt := 163) cd_M_compare_151 (by decide) ?_
              refine ze_iret cd_M_compare_163 rfl (by decide) (by decide) ⟨_, rfl, ?_, rfl, hF, hM⟩
              first | contradiction | (simp only [zm_cmp, hx, hy]; done) | (simp only [zm_cmp, zm_dt, zm_sg, zm_dd, hx, hy, c3, c6, c7, c13, if_true, if_false]; done) | (simp only [zm_cmp, zm_dt, zm_sg, zm_dd, hx, hy, c3, c6, c7, c13, if_true, if_false, ite_not]; done) | (simp [zm_cmp, zm_dt, zm_sg, zm_dd, hx, hy, c3, c6, c7, c13]; done)
        · skip
          have c6 : (M 4 y) < 0 := Int32.not_le.mp c6
          refine ze_aload_n 0 cd_M_compare_42 rfl rfl ?_
          refine ze_get zin_M (v := .ref (a + 5)) (ci := 7) rfl 10 (by decide) zm_732 rfl cd_M_compare_43 hM.1 rfl ?_
          refine ze_iload_n 1 cd_M_compare_46 rfl rfl ?_
          refine ze_iald (j := x) cd_M_compare_47 (hM.2 4 _ rfl) rfl (by omega) (by decide) ?_
          refine ze_if_lt (tgt := 55) cd_M_compare_48 (by decide) (fun c15 => ?_) (fun c15 => ?_)
          · skip
            refine ze_aload_n 0 cd_M_compare_55 rfl rfl ?_
            refine ze_get zin_M (v := .ref (a + 5)) (ci := 7) rfl 10 (by decide) zm_732 rfl cd_M_compare_56 hM.1 rfl ?_
            refine ze_iload_n 2 cd_M_compare_59 rfl rfl ?_
            refine ze_iald (j := y) cd_M_compare_60 (hM.2 4 _ rfl) rfl (by omega) (by decide) ?_
            refine ze_if_lt (tgt := 68) cd_M_compare_61 (by decide) (fun c16 => ?_) (fun c16 => ?_)
            · skip
              refine ze_iconst (v := nI 0) cd_M_compare_68 (by decide) ?_
              refine ze_iret cd_M_compare_69 rfl (by decide) (by decide) ⟨_, rfl, ?_, rfl, hF, hM⟩
              first | contradiction | (simp only [zm_cmp, hx, hy]; done) | (simp only [zm_cmp, zm_dt, zm_sg, zm_dd, hx, hy, c3, c6, c15, c16, if_true, if_false]; done) | (simp only [zm_cmp, zm_dt, zm_sg, zm_dd, hx, hy, c3, c6, c15, c16, if_true, if_false, ite_not]; done) | (simp [zm_cmp, zm_dt, zm_sg, zm_dd, hx, hy, c3, c6, c15, c16]; done)
            · skip
              refine ze_iconst (v := nI 1) cd_M_compare_64 (by decide) ?_
              refine ze_goto (tgt := 69) cd_M_compare_65 (by decide) ?_
              refine ze_iret cd_M_compare_69 rfl (by decide) (by decide) ⟨_, rfl, ?_, rfl, hF, hM⟩
              first | contradiction | (simp only [zm_cmp, hx, hy]; done) | (simp only [zm_cmp, zm_dt, zm_sg, zm_dd, hx, hy, c3, c6, c15, c16, if_true, if_false]; done) | (simp only [zm_cmp, zm_dt, zm_sg, zm_dd, hx, hy, c3, c6, c15, c16, if_true, if_false, ite_not]; done) | (simp [zm_cmp, zm_dt, zm_sg, zm_dd, hx, hy, c3, c6, c15, c16]; done)
          · skip
            refine ze_iconst (v := (-1 : Int32)) cd_M_compare_51 (by decide) ?_
            refine ze_goto (tgt := 69) cd_M_compare_52 (by decide) ?_
            refine ze_iret cd_M_compare_69 rfl (by decide) (by decide) ⟨_, rfl, ?_, rfl, hF, hM⟩
            first | contradiction | (simp only [zm_cmp, hx, hy]; done) | (simp only [zm_cmp, zm_dt, zm_sg, zm_dd, hx, hy, c3, c6, c15, if_true, if_false]; done) | (simp only [zm_cmp, zm_dt, zm_sg, zm_dd, hx, hy, c3, c6, c15, if_true, if_false, ite_not]; done) | (simp [zm_cmp, zm_dt, zm_sg, zm_dd, hx, hy, c3, c6, c15]; done)
    · skip
      have c2 : ((zi lv j).isSome) = false := zb_f c2
      have c2 : zi lv j = none := by simpa using c2
      refine ze_bipush (v := (-2 : Int32)) cd_M_compare_21 (by decide) ?_
      refine ze_iret cd_M_compare_23 rfl (by decide) (by decide) ⟨_, rfl, ?_, rfl, hF, hM⟩
      first | contradiction | (simp only [zm_cmp, hx]; done) | (simp only [zm_cmp, zm_dt, zm_sg, zm_dd, hx, c2, if_true, if_false]; done) | (simp only [zm_cmp, zm_dt, zm_sg, zm_dd, hx, c2, if_true, if_false, ite_not]; done) | (simp [zm_cmp, zm_dt, zm_sg, zm_dd, hx, c2]; done)
abbrev zr_M_lies : Room := { frames := 0, cells := 0, slots := 0, locals := 0 }
set_option maxRecDepth 100000 in
set_option maxHeartbeats 4000000 in
theorem kc_M_lies {g : zx_G} {σ : zx_M} {sz : Nat} {a size ps lv ot ak pr : Nat} {th wr fr : Int32} {M : Nat → Nat → Int32} {pa : Nat → Option Nat} {dp : Nat → Nat} {i tp : Nat} (hM : zmo g σ a th size wr ps lv ot ak fr pr M) (hfo : zfor (M 3) pa dp (fun j => j < lv)) (hlv : lv ≤ 100) (hi : i < lv) (htp : tp < 300) : zM g cy_M_lies cb_M_lies 4 (Option.some Jvm.ClassFile.FieldType.boolean) zr_M_lies 0 0 [.ref a, .int (nI i), .int (nI tp)] σ sz (zPp (zb (zl_wi lv (M 3) (nI tp) 9 (nI i))) σ sz) := by
  generalize hX0 : zl_wi lv (M 3) (nI tp) 9 (nI i) = X0
  have loop : ∀ (kk : Nat) (o : Option Nat), (∀ p, o = some p → p < lv ∧ dp p < kk) → zl_wi lv (M 3) (nI tp) kk (zo o) = X0 → zE g "FindingAidModel" cb_M_lies 4 (Option.some Jvm.ClassFile.FieldType.boolean) false zr_M_lies 0 0 (zPp (zb (X0)) σ sz) 2 [(3, .int (zo o)), (0, .ref a), (1, .int (nI i)), (2, .int (nI tp))] [] σ sz 0 0 := by
    intro kk
    induction kk with
    | zero =>
      intro o ho hE
      cases o with
      | none =>
        refine ze_iload_n 0 cd_M_lies_2 rfl rfl ?_
        refine ze_if_lt (tgt := 21) cd_M_lies_3 (by decide) (fun _ => ?_) (fun c9 => absurd (by decide) c9)
        refine ze_iload_n 0 cd_M_lies_21 rfl rfl ?_
        refine ze_iload_n 3 cd_M_lies_22 rfl rfl ?_
        refine ze_icmp_ne (tgt := 30) cd_M_lies_23 (by decide) (fun _ => ?_) (fun c9 => absurd c9.symm (zn_ne (by omega)))
        refine ze_iconst (v := nI 0) cd_M_lies_30 (by decide) ?_
        refine ze_zret cd_M_lies_31 rfl (by decide) (by decide) (by decide) (zPp_mk ?_)
        rw [← hE]; first | (simp [zl_wi, zo, hzq, zb, zn_1, ← c1]; done) | (simp [zl_wi, zo, zi_neg, zb, nI_0]; done)
      | some q =>
        obtain ⟨hDq, hkq⟩ := ho q rfl
        exfalso; omega
    | succ kk ih =>
      intro o ho hE
      cases o with
      | none =>
        refine ze_iload_n 0 cd_M_lies_2 rfl rfl ?_
        refine ze_if_lt (tgt := 21) cd_M_lies_3 (by decide) (fun _ => ?_) (fun c9 => absurd (by decide) c9)
        refine ze_iload_n 0 cd_M_lies_21 rfl rfl ?_
        refine ze_iload_n 3 cd_M_lies_22 rfl rfl ?_
        refine ze_icmp_ne (tgt := 30) cd_M_lies_23 (by decide) (fun _ => ?_) (fun c9 => absurd c9.symm (zn_ne (by omega)))
        refine ze_iconst (v := nI 0) cd_M_lies_30 (by decide) ?_
        refine ze_zret cd_M_lies_31 rfl (by decide) (by decide) (by decide) (zPp_mk ?_)
        rw [← hE]; first | (simp [zl_wi, zo, hzq, zb, zn_1, ← c1]; done) | (simp [zl_wi, zo, zi_neg, zb, nI_0]; done)
      | some q =>
        obtain ⟨hDq, hkq⟩ := ho q rfl
        obtain ⟨hq3, hq8, hqu, hqp, hqn⟩ := hfo q hDq
        have hzq : zi lv (nI q) = some q := zi_nI hDq (by omega)
        show zE g "FindingAidModel" cb_M_lies 4 (Option.some Jvm.ClassFile.FieldType.boolean) false zr_M_lies 0 0 (zPp (zb (X0)) σ sz) 2 [(3, .int (nI q)), (0, .ref a), (1, .int (nI i)), (2, .int (nI tp))] [] σ sz 0 0
        refine ze_iload_n 0 cd_M_lies_2 rfl rfl ?_
        refine ze_if_lt (tgt := 21) cd_M_lies_3 (by decide) (fun c9 => absurd c9 (nI_pos (by omega))) (fun _ => ?_)
        refine ze_iload_n 0 cd_M_lies_6 rfl rfl ?_
        refine ze_iload_n 3 cd_M_lies_7 rfl rfl ?_
        refine ze_icmp_eq (tgt := 21) cd_M_lies_8 (by decide) (fun c1 => ?_) (fun c1 => ?_)
        · skip
          have c1 : q = tp := (nI_eq (by omega) (by omega)).mp c1
          refine ze_iload_n 0 cd_M_lies_21 rfl rfl ?_
          refine ze_iload_n 3 cd_M_lies_22 rfl rfl ?_
          refine ze_icmp_ne (tgt := 30) cd_M_lies_23 (by decide) (fun c3 => ?_) (fun c3 => ?_)
          · skip
            have c3 : ¬ q = tp := fun h9 => c3 (by rw [h9])
            exfalso; omega
          · skip
            have c3 : q = tp := (nI_eq (by omega) (by omega)).mp c3
            refine ze_iconst (v := nI 1) cd_M_lies_26 (by decide) ?_
            refine ze_goto (tgt := 31) cd_M_lies_27 (by decide) ?_
            refine ze_zret cd_M_lies_31 rfl (by decide) (by decide) (by decide) (zPp_mk ?_)
            rw [← hE]; first | (simp [zl_wi, zo, hzq, zb, zn_1, ← c1]; done) | (simp [zl_wi, zo, zi_neg, zb, nI_0]; done)
        · skip
          have c1 : ¬ q = tp := fun h9 => c1 (by rw [h9])
          refine ze_aload_n 1 cd_M_lies_11 rfl rfl ?_
          refine ze_get zin_M (v := .ref (a + 4)) (ci := 7) rfl 9 (by decide) zm_731 rfl cd_M_lies_12 hM.1 rfl ?_
          refine ze_iload_n 0 cd_M_lies_15 rfl rfl ?_
          refine ze_iald (j := q) cd_M_lies_16 (hM.2 3 _ rfl) rfl (by omega) (by decide) ?_
          refine ze_top hqu ?_
          refine ze_istore_n (lv' := [(3, .int (zo (pa q))), (0, .ref a), (1, .int (nI i)), (2, .int (nI tp))]) cd_M_lies_17 rfl (by decide) rfl ?_
          refine ze_goto (tgt := 2) cd_M_lies_18 (by decide) ?_
          exact ze_sub [0, 1, 2, 3] rfl (ih (pa q) (fun p hp => by have := hqp p hp; exact ⟨this.1, by omega⟩) (by rw [← hE, ← hqu]; have hne : ¬ nI q = nI tp := (fun h9 => c1 ((nI_eq (by omega) (by omega)).mp h9)); simp [zl_wi, zo, hzq, hne]))
  refine zM_of (lv := [(0, .ref a), (1, .int (nI i)), (2, .int (nI tp))]) (ini := false) (by decide) rfl (by decide) (Nat.le_of_ble_eq_true rfl) rfl ?_
  refine ze_iload_n 1 cd_M_lies_0 rfl rfl ?_
  refine ze_istore_n (lv' := [(3, .int (nI i)), (0, .ref a), (1, .int (nI i)), (2, .int (nI tp))]) cd_M_lies_1 rfl (by decide) rfl ?_
  exact ze_sub [0, 1, 2, 3] rfl (loop 9 (some i) (fun p hp => by cases hp; exact ⟨hi, by have := (hfo i hi).2.1; omega⟩) hX0)
