def zm_ask (ak : Nat) (M : Nat → Nat → Int32) (i what : Int32) : Int32 := match zi ak i with
  | none => -1
  | some j => match zi 2 what with
    | none => -1
    | some q => if q = 0 then M 17 j else M 18 j
def zm_at (pr : Nat) (M : Nat → Nat → Int32) (i : Int32) : Int32 := match zi pr i with
  | none => -1
  | some j => M 20 j
def zm_tak (ak : Nat) (fr : Int32) (M : Nat → Nat → Int32) (i : Int32) : Int32 × (Nat → Nat → Int32) := match zi ak i with
  | none => (-1, M)
  | some j => if M 19 j = 0 then (if fr = 0 then (nI 0, M) else (nI 1, zm_cp0 (va_up M 19 (upd (M 19) j (nI 1))) (M 17 j).toNatClampNeg (200 + j))) else (nI 0, M)
theorem zm_in_lv2 {n : Nat} {i : Int32} (hn : n ≤ 6000) : zm_in i (nI 0) (nI n - nI 1) = (zi n i).isSome := by
  unfold zm_in
  cases n with
  | zero => have h := zm_in_lv (n := 0) (i := i) (by decide); unfold zm_in at h; exact h
  | succ n =>
    have h1 : nI (n + 1) - nI 1 = nI n := pk_sub (by omega)
    rw [h1]
    by_cases h3 : i < nI 0
    · rw [if_pos h3, zi_ltz (by rw [← nI_0]; exact h3)]; rfl
    · rw [if_neg h3]
      by_cases h5 : nI n < i
      · rw [if_pos h5, zi_hi (fun h6 => by rw [Int32.lt_iff_toInt_lt, nI_toInt (by omega)] at h5 h6; omega)]; rfl
      · rw [if_neg h5, zi_ok2 (by rw [← nI_0]; exact h3) (by rw [Int32.lt_iff_toInt_lt, nI_toInt (by omega)] at h5 ⊢; omega)]; rfl
abbrev zr_M_ask : Room := { frames := 1, cells := 0, slots := 0, locals := 22 }
set_option maxRecDepth 100000 in
set_option maxHeartbeats 4000000 in
theorem kc_M_ask {g : zx_G} {σ : zx_M} {sz : Nat} {a size ps lv ot ak pr : Nat} {th wr fr : Int32} {M : Nat → Nat → Int32} {i u : Int32} (hM : zmo g σ a th size wr ps lv ot ak fr pr M) (hak : ak ≤ 100) : zM g cy_M_ask cb_M_ask 3 (Option.some Jvm.ClassFile.FieldType.int) zr_M_ask 0 0 [.ref a, .int i, .int u] σ sz (zPi (fun v σ' sz' => v = zm_ask ak M i u ∧ sz' = sz ∧ zfr σ σ' a 22 ∧ zmo g σ' a (nI 0) size wr ps lv ot ak fr pr M)) := by
  have hF : zfr σ σ a 22 := zfr.rf
  refine zM_of (lv := [(0, .ref a), (1, .int i), (2, .int u)]) (ini := false) (by decide) rfl (by decide) (Nat.le_of_ble_eq_true rfl) rfl ?_
  refine ze_aload_n 0 cd_M_ask_0 rfl rfl ?_
  refine ze_iconst (v := nI 0) cd_M_ask_1 (by decide) ?_
  refine ze_put zin_M zy_M zt_M zn_M (ci := 7) rfl 0 (by decide) zm_722 rfl (Or.inl rfl) cd_M_ask_2 hM.1 rfl rfl (Nat.le_of_ble_eq_true rfl) (fs' := [.int (nI 0), .int (nI size), .ref (a + 1), .int wr, .int (nI ps), .int (nI lv), .int (nI ot), .ref (a + 2), .ref (a + 3), .ref (a + 4), .ref (a + 5), .ref (a + 6), .ref (a + 7), .ref (a + 8), .ref (a + 9), .ref (a + 10), .ref (a + 11), .ref (a + 12), .ref (a + 13), .ref (a + 14), .ref (a + 15), .ref (a + 16), .ref (a + 17), .int (nI ak), .ref (a + 18), .ref (a + 19), .ref (a + 20), .int fr, .int (nI pr), .ref (a + 21)]) rfl ?_
  have hM := hM.put (fs' := [.int (nI 0), .int (nI size), .ref (a + 1), .int wr, .int (nI ps), .int (nI lv), .int (nI ot), .ref (a + 2), .ref (a + 3), .ref (a + 4), .ref (a + 5), .ref (a + 6), .ref (a + 7), .ref (a + 8), .ref (a + 9), .ref (a + 10), .ref (a + 11), .ref (a + 12), .ref (a + 13), .ref (a + 14), .ref (a + 15), .ref (a + 16), .ref (a + 17), .int (nI ak), .ref (a + 18), .ref (a + 19), .ref (a + 20), .int fr, .int (nI pr), .ref (a + 21)])
  have hF := hF.up (a := a) (e := .inr (7, [.int (nI 0), .int (nI size), .ref (a + 1), .int wr, .int (nI ps), .int (nI lv), .int (nI ot), .ref (a + 2), .ref (a + 3), .ref (a + 4), .ref (a + 5), .ref (a + 6), .ref (a + 7), .ref (a + 8), .ref (a + 9), .ref (a + 10), .ref (a + 11), .ref (a + 12), .ref (a + 13), .ref (a + 14), .ref (a + 15), .ref (a + 16), .ref (a + 17), .int (nI ak), .ref (a + 18), .ref (a + 19), .ref (a + 20), .int fr, .int (nI pr), .ref (a + 21)])) (by omega) (by omega)
  refine ze_iload_n 1 cd_M_ask_5 rfl rfl ?_
  refine ze_iconst (v := nI 0) cd_M_ask_6 (by decide) ?_
  refine ze_aload_n 0 cd_M_ask_7 rfl rfl ?_
  refine ze_get zin_M (v := .int (nI ak)) (ci := 7) rfl 23 (by decide) zm_745 rfl cd_M_ask_8 hM.1 rfl ?_
  refine ze_iconst (v := nI 1) cd_M_ask_11 (by decide) ?_
  refine ze_isub cd_M_ask_12 ?_
  refine ze_callSp (rm' := zr_M_in) (As := [.int i, .int (nI 0), .int ((nI ak) - (nI 1))]) (rest := []) kc_M_in ⟨rfl, rfl⟩ zy_M_in_ok zm_856 zm_857 (by decide) (by decide) cd_M_ask_13 rfl rfl (Nat.le_of_ble_eq_true rfl) ?_
  refine ze_top (y := zb (zi ak i).isSome) (by rw [zm_in_lv2 (by omega)]) ?_
  refine ze_if_eq (tgt := 28) cd_M_ask_16 (by decide) (fun c1 => ?_) (fun c1 => ?_)
  · skip
    have c1 : ((zi ak i).isSome) = false := zb_f c1
    have c1 : zi ak i = none := by simpa using c1
    refine ze_iconst (v := (-1 : Int32)) cd_M_ask_28 (by decide) ?_
    refine ze_goto (tgt := 51) cd_M_ask_29 (by decide) ?_
    refine ze_iret cd_M_ask_51 rfl (by decide) (by decide) ⟨_, rfl, ?_, rfl, hF, hM⟩
    first | (simp only [zm_ask, c1]; done) | (simp only [zm_ask]; rw [if_pos c3]; done) | (simp only [zm_ask]; rw [if_neg c3]; done) | (simp only [zm_ask]; done)
  · skip
    have c1 : ((zi ak i).isSome) = true := zb_t c1
    obtain ⟨j, hj⟩ := Option.isSome_iff_exists.mp c1
    obtain ⟨hjn, rfl⟩ := zi_some (by omega) hj
    refine ze_iload_n 2 cd_M_ask_19 rfl rfl ?_
    refine ze_iconst (v := nI 0) cd_M_ask_20 (by decide) ?_
    refine ze_iconst (v := nI 1) cd_M_ask_21 (by decide) ?_
    refine ze_callSp (rm' := zr_M_in) (As := [.int u, .int (nI 0), .int (nI 1)]) (rest := []) kc_M_in ⟨rfl, rfl⟩ zy_M_in_ok zm_856 zm_857 (by decide) (by decide) cd_M_ask_22 rfl rfl (Nat.le_of_ble_eq_true rfl) ?_
    refine ze_top (y := zb (zi 2 u).isSome) (by rw [zm_in_c (by omega)]) ?_
    refine ze_if_ne (tgt := 32) cd_M_ask_25 (by decide) (fun c2 => ?_) (fun c2 => ?_)
    · skip
      have c2 : ((zi 2 u).isSome) = true := zb_t c2
      obtain ⟨q, hq⟩ := Option.isSome_iff_exists.mp c2
      obtain ⟨hqn, rfl⟩ := zi_some (by omega) hq
      refine ze_iload_n 2 cd_M_ask_32 rfl rfl ?_
      refine ze_if_ne (tgt := 45) cd_M_ask_33 (by decide) (fun c3 => ?_) (fun c3 => ?_)
      · skip
        have c3 := c3; rw [← nI_0] at c3
        have c3 : ¬ q = 0 := fun h9 => c3 (by rw [h9])
        refine ze_aload_n 0 cd_M_ask_45 rfl rfl ?_
        refine ze_get zin_M (v := .ref (a + 19)) (ci := 7) rfl 25 (by decide) zm_747 rfl cd_M_ask_46 hM.1 rfl ?_
        refine ze_iload_n 1 cd_M_ask_49 rfl rfl ?_
        refine ze_iald (j := j) cd_M_ask_50 (hM.2 18 _ rfl) rfl (by omega) (by decide) ?_
        refine ze_iret cd_M_ask_51 rfl (by decide) (by decide) ⟨_, rfl, ?_, rfl, hF, hM⟩
        first | (simp only [zm_ask, hj, hq, c3]; done) | (simp only [zm_ask, hj, hq]; rw [if_pos c3]; done) | (simp only [zm_ask, hj, hq]; rw [if_neg c3]; done) | (simp only [zm_ask, hj, hq]; done)
      · skip
        have c3 := c3; rw [← nI_0] at c3
        have c3 : q = 0 := (nI_eq (by omega) (by omega)).mp c3
        refine ze_aload_n 0 cd_M_ask_36 rfl rfl ?_
        refine ze_get zin_M (v := .ref (a + 18)) (ci := 7) rfl 24 (by decide) zm_746 rfl cd_M_ask_37 hM.1 rfl ?_
        refine ze_iload_n 1 cd_M_ask_40 rfl rfl ?_
        refine ze_iald (j := j) cd_M_ask_41 (hM.2 17 _ rfl) rfl (by omega) (by decide) ?_
        refine ze_goto (tgt := 51) cd_M_ask_42 (by decide) ?_
        refine ze_iret cd_M_ask_51 rfl (by decide) (by decide) ⟨_, rfl, ?_, rfl, hF, hM⟩
        first | (simp only [zm_ask, hj, hq, c3]; done) | (simp only [zm_ask, hj, hq]; rw [if_pos c3]; done) | (simp only [zm_ask, hj, hq]; rw [if_neg c3]; done) | (simp only [zm_ask, hj, hq]; done)
    · skip
      have c2 : ((zi 2 u).isSome) = false := zb_f c2
      have c2 : zi 2 u = none := by simpa using c2
      refine ze_iconst (v := (-1 : Int32)) cd_M_ask_28 (by decide) ?_
      refine ze_goto (tgt := 51) cd_M_ask_29 (by decide) ?_
      refine ze_iret cd_M_ask_51 rfl (by decide) (by decide) ⟨_, rfl, ?_, rfl, hF, hM⟩
      first | (simp only [zm_ask, hj, c2]; done) | (simp only [zm_ask, hj]; rw [if_pos c3]; done) | (simp only [zm_ask, hj]; rw [if_neg c3]; done) | (simp only [zm_ask, hj]; done)
abbrev zr_M_at : Room := { frames := 1, cells := 0, slots := 0, locals := 22 }
set_option maxRecDepth 100000 in
set_option maxHeartbeats 4000000 in
theorem kc_M_at {g : zx_G} {σ : zx_M} {sz : Nat} {a size ps lv ot ak pr : Nat} {th wr fr : Int32} {M : Nat → Nat → Int32} {i : Int32} (hM : zmo g σ a th size wr ps lv ot ak fr pr M) (hpr : pr ≤ 6000) : zM g cy_M_at cb_M_at 2 (Option.some Jvm.ClassFile.FieldType.int) zr_M_at 0 0 [.ref a, .int i] σ sz (zPi (fun v σ' sz' => v = zm_at pr M i ∧ sz' = sz ∧ zfr σ σ' a 22 ∧ zmo g σ' a (nI 0) size wr ps lv ot ak fr pr M)) := by
  have hF : zfr σ σ a 22 := zfr.rf
  refine zM_of (lv := [(0, .ref a), (1, .int i)]) (ini := false) (by decide) rfl (by decide) (Nat.le_of_ble_eq_true rfl) rfl ?_
  refine ze_aload_n 0 cd_M_at_0 rfl rfl ?_
  refine ze_iconst (v := nI 0) cd_M_at_1 (by decide) ?_
  refine ze_put zin_M zy_M zt_M zn_M (ci := 7) rfl 0 (by decide) zm_722 rfl (Or.inl rfl) cd_M_at_2 hM.1 rfl rfl (Nat.le_of_ble_eq_true rfl) (fs' := [.int (nI 0), .int (nI size), .ref (a + 1), .int wr, .int (nI ps), .int (nI lv), .int (nI ot), .ref (a + 2), .ref (a + 3), .ref (a + 4), .ref (a + 5), .ref (a + 6), .ref (a + 7), .ref (a + 8), .ref (a + 9), .ref (a + 10), .ref (a + 11), .ref (a + 12), .ref (a + 13), .ref (a + 14), .ref (a + 15), .ref (a + 16), .ref (a + 17), .int (nI ak), .ref (a + 18), .ref (a + 19), .ref (a + 20), .int fr, .int (nI pr), .ref (a + 21)]) rfl ?_
  have hM := hM.put (fs' := [.int (nI 0), .int (nI size), .ref (a + 1), .int wr, .int (nI ps), .int (nI lv), .int (nI ot), .ref (a + 2), .ref (a + 3), .ref (a + 4), .ref (a + 5), .ref (a + 6), .ref (a + 7), .ref (a + 8), .ref (a + 9), .ref (a + 10), .ref (a + 11), .ref (a + 12), .ref (a + 13), .ref (a + 14), .ref (a + 15), .ref (a + 16), .ref (a + 17), .int (nI ak), .ref (a + 18), .ref (a + 19), .ref (a + 20), .int fr, .int (nI pr), .ref (a + 21)])
  have hF := hF.up (a := a) (e := .inr (7, [.int (nI 0), .int (nI size), .ref (a + 1), .int wr, .int (nI ps), .int (nI lv), .int (nI ot), .ref (a + 2), .ref (a + 3), .ref (a + 4), .ref (a + 5), .ref (a + 6), .ref (a + 7), .ref (a + 8), .ref (a + 9), .ref (a + 10), .ref (a + 11), .ref (a + 12), .ref (a + 13), .ref (a + 14), .ref (a + 15), .ref (a + 16), .ref (a + 17), .int (nI ak), .ref (a + 18), .ref (a + 19), .ref (a + 20), .int fr, .int (nI pr), .ref (a + 21)])) (by omega) (by omega)
  refine ze_iload_n 1 cd_M_at_5 rfl rfl ?_
  refine ze_iconst (v := nI 0) cd_M_at_6 (by decide) ?_
  refine ze_aload_n 0 cd_M_at_7 rfl rfl ?_
  refine ze_get zin_M (v := .int (nI pr)) (ci := 7) rfl 28 (by decide) zm_750 rfl cd_M_at_8 hM.1 rfl ?_
  refine ze_iconst (v := nI 1) cd_M_at_11 (by decide) ?_
  refine ze_isub cd_M_at_12 ?_
  refine ze_callSp (rm' := zr_M_in) (As := [.int i, .int (nI 0), .int ((nI pr) - (nI 1))]) (rest := []) kc_M_in ⟨rfl, rfl⟩ zy_M_in_ok zm_856 zm_857 (by decide) (by decide) cd_M_at_13 rfl rfl (Nat.le_of_ble_eq_true rfl) ?_
  refine ze_top (y := zb (zi pr i).isSome) (by rw [zm_in_lv2 (by omega)]) ?_
  refine ze_if_eq (tgt := 28) cd_M_at_16 (by decide) (fun c1 => ?_) (fun c1 => ?_)
  · skip
    have c1 : ((zi pr i).isSome) = false := zb_f c1
    have c1 : zi pr i = none := by simpa using c1
    refine ze_iconst (v := (-1 : Int32)) cd_M_at_28 (by decide) ?_
    refine ze_iret cd_M_at_29 rfl (by decide) (by decide) ⟨_, rfl, ?_, rfl, hF, hM⟩
    first | (simp only [zm_at, c1]; done)
  · skip
    have c1 : ((zi pr i).isSome) = true := zb_t c1
    obtain ⟨j, hj⟩ := Option.isSome_iff_exists.mp c1
    obtain ⟨hjn, rfl⟩ := zi_some (by omega) hj
    refine ze_aload_n 0 cd_M_at_19 rfl rfl ?_
    refine ze_get zin_M (v := .ref (a + 21)) (ci := 7) rfl 29 (by decide) zm_751 rfl cd_M_at_20 hM.1 rfl ?_
    refine ze_iload_n 1 cd_M_at_23 rfl rfl ?_
    refine ze_bald (j := j) cd_M_at_24 (hM.2 20 _ rfl) rfl (by omega) (by decide) ?_
    refine ze_goto (tgt := 29) cd_M_at_25 (by decide) ?_
    refine ze_iret cd_M_at_29 rfl (by decide) (by decide) ⟨_, rfl, ?_, rfl, hF, hM⟩
    first | (simp only [zm_at, hj]; done)
abbrev zr_M_take : Room := { frames := 1, cells := 0, slots := 0, locals := 24 }
set_option maxRecDepth 100000 in
set_option maxHeartbeats 4000000 in
theorem kc_M_take {g : zx_G} {σ : zx_M} {sz : Nat} {a size ps lv ot ak pr : Nat} {th wr fr : Int32} {M : Nat → Nat → Int32} {i : Int32} (hM : zmo g σ a th size wr ps lv ot ak fr pr M) (hak : ak ≤ 100) (hA : ¬ fr = 0 → ∀ j, j < ak → M 17 j = nI (M 17 j).toNatClampNeg ∧ (M 17 j).toNatClampNeg < 100) : zM g cy_M_take cb_M_take 2 (Option.some Jvm.ClassFile.FieldType.int) zr_M_take 0 0 [.ref a, .int i] σ sz (zPi (fun v σ' sz' => sz' = sz ∧ zfr σ σ' a 22 ∧ ∃ M', zm_tak ak fr M i = (v, M') ∧ zmo g σ' a (nI 0) size wr ps lv ot ak fr pr M')) := by
  have hF : zfr σ σ a 22 := zfr.rf
  refine zM_of (lv := [(0, .ref a), (1, .int i)]) (ini := false) (by decide) rfl (by decide) (Nat.le_of_ble_eq_true rfl) rfl ?_
  refine ze_aload_n 0 cd_M_take_0 rfl rfl ?_
  refine ze_iconst (v := nI 0) cd_M_take_1 (by decide) ?_
  refine ze_put zin_M zy_M zt_M zn_M (ci := 7) rfl 0 (by decide) zm_722 rfl (Or.inl rfl) cd_M_take_2 hM.1 rfl rfl (Nat.le_of_ble_eq_true rfl) (fs' := [.int (nI 0), .int (nI size), .ref (a + 1), .int wr, .int (nI ps), .int (nI lv), .int (nI ot), .ref (a + 2), .ref (a + 3), .ref (a + 4), .ref (a + 5), .ref (a + 6), .ref (a + 7), .ref (a + 8), .ref (a + 9), .ref (a + 10), .ref (a + 11), .ref (a + 12), .ref (a + 13), .ref (a + 14), .ref (a + 15), .ref (a + 16), .ref (a + 17), .int (nI ak), .ref (a + 18), .ref (a + 19), .ref (a + 20), .int fr, .int (nI pr), .ref (a + 21)]) rfl ?_
  have hM := hM.put (fs' := [.int (nI 0), .int (nI size), .ref (a + 1), .int wr, .int (nI ps), .int (nI lv), .int (nI ot), .ref (a + 2), .ref (a + 3), .ref (a + 4), .ref (a + 5), .ref (a + 6), .ref (a + 7), .ref (a + 8), .ref (a + 9), .ref (a + 10), .ref (a + 11), .ref (a + 12), .ref (a + 13), .ref (a + 14), .ref (a + 15), .ref (a + 16), .ref (a + 17), .int (nI ak), .ref (a + 18), .ref (a + 19), .ref (a + 20), .int fr, .int (nI pr), .ref (a + 21)])
  have hF := hF.up (a := a) (e := .inr (7, [.int (nI 0), .int (nI size), .ref (a + 1), .int wr, .int (nI ps), .int (nI lv), .int (nI ot), .ref (a + 2), .ref (a + 3), .ref (a + 4), .ref (a + 5), .ref (a + 6), .ref (a + 7), .ref (a + 8), .ref (a + 9), .ref (a + 10), .ref (a + 11), .ref (a + 12), .ref (a + 13), .ref (a + 14), .ref (a + 15), .ref (a + 16), .ref (a + 17), .int (nI ak), .ref (a + 18), .ref (a + 19), .ref (a + 20), .int fr, .int (nI pr), .ref (a + 21)])) (by omega) (by omega)
  refine ze_iload_n 1 cd_M_take_5 rfl rfl ?_
  refine ze_iconst (v := nI 0) cd_M_take_6 (by decide) ?_
  refine ze_aload_n 0 cd_M_take_7 rfl rfl ?_
  refine ze_get zin_M (v := .int (nI ak)) (ci := 7) rfl 23 (by decide) zm_745 rfl cd_M_take_8 hM.1 rfl ?_
  refine ze_iconst (v := nI 1) cd_M_take_11 (by decide) ?_
  refine ze_isub cd_M_take_12 ?_
  refine ze_callSp (rm' := zr_M_in) (As := [.int i, .int (nI 0), .int ((nI ak) - (nI 1))]) (rest := []) kc_M_in ⟨rfl, rfl⟩ zy_M_in_ok zm_856 zm_857 (by decide) (by decide) cd_M_take_13 rfl rfl (Nat.le_of_ble_eq_true rfl) ?_
  refine ze_top (y := zb (zi ak i).isSome) (by rw [zm_in_lv2 (by omega)]) ?_
  refine ze_if_ne (tgt := 21) cd_M_take_16 (by decide) (fun c1 => ?_) (fun c1 => ?_)
  · skip
    have c1 : ((zi ak i).isSome) = true := zb_t c1
    obtain ⟨j, hj⟩ := Option.isSome_iff_exists.mp c1
    obtain ⟨hjn, rfl⟩ := zi_some (by omega) hj
    refine ze_aload_n 0 cd_M_take_21 rfl rfl ?_
    refine ze_get zin_M (v := .ref (a + 20)) (ci := 7) rfl 26 (by decide) zm_748 rfl cd_M_take_22 hM.1 rfl ?_
    refine ze_iload_n 1 cd_M_take_25 rfl rfl ?_
    refine ze_zald (j := j) cd_M_take_26 (hM.2 19 _ rfl) rfl (by omega) (by decide) ?_
    refine ze_if_ne (tgt := 37) cd_M_take_27 (by decide) (fun c2 => ?_) (fun c2 => ?_)
    · skip
      refine ze_iconst (v := nI 0) cd_M_take_37 (by decide) ?_
      refine ze_iret cd_M_take_38 rfl (by decide) (by decide) ⟨_, rfl, rfl, hF, M, ?_, hM⟩
      first | (simp only [zm_tak, hj, c2]; done) | (simp only [zm_tak, hj, c2, if_true, if_false]; done) | (simp [zm_tak, hj, c2]; done)
    · skip
      refine ze_aload_n 0 cd_M_take_30 rfl rfl ?_
      refine ze_get zin_M (v := .int fr) (ci := 7) rfl 27 (by decide) zm_749 rfl cd_M_take_31 hM.1 rfl ?_
      refine ze_if_ne (tgt := 39) cd_M_take_34 (by decide) (fun c3 => ?_) (fun c3 => ?_)
      · skip
        obtain ⟨h17, h17b⟩ := hA (by first | exact c3 | assumption) j hjn
        refine ze_aload_n 0 cd_M_take_39 rfl rfl ?_
        refine ze_get zin_M (v := .ref (a + 20)) (ci := 7) rfl 26 (by decide) zm_748 rfl cd_M_take_40 hM.1 rfl ?_
        refine ze_iload_n 1 cd_M_take_43 rfl rfl ?_
        refine ze_iconst (v := nI 1) cd_M_take_44 (by decide) ?_
        refine ze_zast (j := j) cd_M_take_45 (hM.2 19 _ rfl) rfl (by omega) (by decide) (by decide) ?_
        have hM := hM.ar 19 1 100 rfl (b := a + 20) (f := upd (M 19) j (nI 1)) (by omega)
        have hF := hF.up (a := a + 20) (e := .inl (g.2.2.2.1 1, 100, .inl (upd (M 19) j (nI 1)))) (by omega) (by omega)
        refine ze_aload_n 0 cd_M_take_46 rfl rfl ?_
        refine ze_aload_n 0 cd_M_take_47 rfl rfl ?_
        refine ze_get zin_M (v := .ref (a + 18)) (ci := 7) rfl 24 (by decide) zm_746 rfl cd_M_take_48 hM.1 rfl ?_
        refine ze_iload_n 1 cd_M_take_51 rfl rfl ?_
        refine ze_iald (j := j) (f := M 17) cd_M_take_52 (hM.2 17 _ rfl) rfl (by omega) (by decide) ?_
        refine ze_top h17 ?_
        refine ze_sipush (v := nI 200) cd_M_take_53 (by decide) ?_
        refine ze_iload_n 1 cd_M_take_56 rfl rfl ?_
        refine ze_iadd cd_M_take_57 ?_
        refine ze_top (y := nI (200 + j)) (nI_add _ _) ?_
        refine ze_iconst (v := nI 0) cd_M_take_58 (by decide) ?_
        refine ze_callVv (rm' := zr_M_copy) (b := a) (As := [.int (nI ((M 17 j).toNatClampNeg)), .int (nI (200 + j)), .int (nI 0)]) (rest := []) (kc_M_copy_0 (to := (M 17 j).toNatClampNeg) (f := 200 + j) hM (by omega) (by omega)) ⟨rfl, rfl⟩ zy_M_copy_ok zm_879 zm_881 zm_40 (ci := 7) rfl rfl (by decide) (by decide) cd_M_take_59 hM.1 rfl rfl (Nat.le_of_ble_eq_true rfl) (fun σ9 sz9 hq9 => ?_)
        obtain ⟨rfl, hF9, hM⟩ := hq9
        have hF := hF.trans hF9
        refine ze_iconst (v := nI 1) cd_M_take_62 (by decide) ?_
        refine ze_iret cd_M_take_63 rfl (by decide) (by decide) ⟨_, rfl, rfl, hF, zm_cp0 (va_up M 19 (upd (M 19) j (nI 1))) ((M 17 j).toNatClampNeg) (200 + j), ?_, hM⟩
        first | (simp only [zm_tak, hj, c2, c3]; done) | (simp only [zm_tak, hj, c2, c3, if_true, if_false]; done) | (simp [zm_tak, hj, c2, c3]; done)
      · skip
        refine ze_iconst (v := nI 0) cd_M_take_37 (by decide) ?_
        refine ze_iret cd_M_take_38 rfl (by decide) (by decide) ⟨_, rfl, rfl, hF, M, ?_, hM⟩
        first | (simp only [zm_tak, hj, c2, c3]; done) | (simp only [zm_tak, hj, c2, c3, if_true, if_false]; done) | (simp [zm_tak, hj, c2, c3]; done)
  · skip
    have c1 : ((zi ak i).isSome) = false := zb_f c1
    have c1 : zi ak i = none := by simpa using c1
    refine ze_iconst (v := (-1 : Int32)) cd_M_take_19 (by decide) ?_
    refine ze_iret cd_M_take_20 rfl (by decide) (by decide) ⟨_, rfl, rfl, hF, M, ?_, hM⟩
    first | (simp only [zm_tak, c1]; done) | (simp only [zm_tak, c1, if_true, if_false]; done) | (simp [zm_tak, c1]; done)
def zm_mgM (s : Nat × (Nat → Nat → Int32)) (x b : Nat) : Nat → Nat → Int32 :=
  va_up (va_up (zm_cp0 (va_up s.2 17 (upd (s.2 17) s.1 (nI x))) (200 + s.1) b) 18 (upd (zm_cp0 (va_up s.2 17 (upd (s.2 17) s.1 (nI x))) (200 + s.1) b 18) s.1 (nI (zm_dif (zm_cp0 (va_up s.2 17 (upd (s.2 17) s.1 (nI x))) (200 + s.1) b) x b (zl_t s.2 x))))) 19 (upd (zm_cp0 (va_up s.2 17 (upd (s.2 17) s.1 (nI x))) (200 + s.1) b 19) s.1 (nI 0))
def zm_mg1 (lv : Nat) (pa : Nat → Option Nat) (s : Nat × (Nat → Nat → Int32)) (k : Nat) : Nat × (Nat → Nat → Int32) := match zfindo (fun x => zpth pa (s.2 2) 9 (some x) (some (100 + k))) 0 lv with
  | none => s
  | some x => if zm_dif s.2 x (100 + k) (zl_t s.2 x) = 0 then s else (s.1 + 1, zm_mgM s x (100 + k))
def zm_mg (lv : Nat) (pa : Nat → Option Nat) (M : Nat → Nat → Int32) (ot : Nat) : Nat × (Nat → Nat → Int32) := zfold (zm_mg1 lv pa) (0, M) 0 ot
theorem zm_dif_le (M : Nat → Nat → Int32) (x y t : Nat) : zm_dif M x y t ≤ 7 := by
  unfold zm_dif
  split <;> split <;> split <;> omega
theorem zm_cp0_row {M : Nat → Nat → Int32} {x y r : Nat} (hr : r < 4 ∨ 10 < r) : zm_cp0 M x y r = M r := by
  unfold zm_cp0 zm_c6
  rw [va_up_ne _ _ (by omega), va_up_ne _ _ (by omega), va_up_ne _ _ (by omega), va_up_ne _ _ (by omega), va_up_ne _ _ (by omega), va_up_ne _ _ (by omega), va_up_ne _ _ (by omega)]
theorem zm_cp0_9 {M : Nat → Nat → Int32} {x y j : Nat} (hj : j ≠ x) : zm_cp0 M x y 9 j = M 9 j := by
  unfold zm_cp0 zm_c6
  rw [va_up_ne _ _ (by decide), va_up_self, pk_un hj]
theorem zm_both {un un' : Nat → Int32} {pa pa' : Nat → Option Nat} {dp dp' : Nat → Nat} {n m : Nat} (hn : n ≤ 100) (hp : ∀ j, j < n → pa' j = pa j ∧ dp' j = dp j) (hu : ∀ j, j < n → un' j = un j) (h1 : zfor un pa dp (fun j => j < n)) (h2 : zfor un' pa' dp' (fun j => 100 ≤ j ∧ j < 100 + m)) : zfor un' pa' dp' (fun j => j < n ∨ (100 ≤ j ∧ j < 100 + m)) := by
  intro j hj
  rcases hj with hj | hj
  · obtain ⟨a1, a2, a3, a4, a5⟩ := h1 j hj
    obtain ⟨e1, e2⟩ := hp j hj
    refine ⟨a1, by rw [e2]; exact a2, by rw [hu j hj, e1]; exact a3, fun p hpp => ?_, by rw [e1, e2]; exact a5⟩
    rw [e1] at hpp
    obtain ⟨b1, b2⟩ := a4 p hpp
    exact ⟨Or.inl b1, by rw [e2, (hp p b1).2]; exact b2⟩
  · obtain ⟨a1, a2, a3, a4, a5⟩ := h2 j hj
    exact ⟨a1, a2, a3, fun p hpp => ⟨Or.inr (a4 p hpp).1, (a4 p hpp).2⟩, a5⟩
abbrev zr_M_merge : Room := { frames := 6, cells := 0, slots := 0, locals := 132 }
set_option maxRecDepth 100000 in
set_option maxHeartbeats 4000000 in
theorem kc_M_merge {g : zx_G} {σ : zx_M} {sz : Nat} {a size ps lv ot ak pr : Nat} {th wr fr : Int32} {M : Nat → Nat → Int32} {T : Nat → Int32} {pa : Nat → Option Nat} {dp : Nat → Nat} (hM : zmo g σ a th size wr ps lv ot ak fr pr M) (hT0 : M 0 = T) (hsz : size ≤ 3000) (hfo : zfor (M 3) pa dp (fun j => j < lv)) (hlv : lv ≤ 100) (hTT : ∀ j, j < lv → M 9 j = nI (zl_t M j) ∧ zl_t M j ≤ 16) : zM g cy_M_merge cb_M_merge 3 (Option.some Jvm.ClassFile.FieldType.int) zr_M_merge 0 0 [.ref a] σ sz (zPi (fun v σ' sz' => sz' = sz ∧ zfr σ σ' a 22 ∧ ∃ ok ps' ot' M' pa' dp', zm_lines (zmd T size) size 102 0 pa dp 0 M = (ok, ps', ot', M', pa', dp') ∧ ps' ≤ 7000 ∧ ot' ≤ 100 ∧ M' 0 = T ∧ zfor (M' 3) pa' dp' (fun j => 100 ≤ j ∧ j < 100 + ot') ∧ (ok = true → v = nI (zm_mg lv pa' M' ot').1 ∧ zmo g σ' a (nI 0) 0 (-1) ps' lv ot' (zm_mg lv pa' M' ot').1 (nI 1) pr (zm_mg lv pa' M' ot').2) ∧ (ok = false → v = nI 0 ∧ zmo g σ' a (nI 1) 0 (nI ps') ps' lv ot' ak fr pr M'))) := by
  have hF : zfr σ σ a 22 := zfr.rf
  have inn : ∀ (psq otq : Nat) (paq : Nat → Option Nat) (dpq : Nat → Nat), otq ≤ 100 → ∀ (c k : Nat) (Mx : Nat → Nat → Int32) (σ1 : zx_M), k < otq → zfor (Mx 3) paq dpq (fun j => j < lv ∨ (100 ≤ j ∧ j < 100 + otq)) → zmo g σ1 a (nI 0) 0 (-1) psq lv otq c fr pr Mx → (zfindo (fun x => zpth paq (Mx 2) 9 (some x) (some (100 + k))) 0 lv = none → zE g "FindingAidModel" cb_M_merge 3 (Option.some Jvm.ClassFile.FieldType.int) false zr_M_merge 0 0 (zPi (fun v σ' sz' => sz' = sz ∧ zfr σ σ' a 22 ∧ ∃ ok ps' ot' M' pa' dp', zm_lines (zmd T size) size 102 0 pa dp 0 M = (ok, ps', ot', M', pa', dp') ∧ ps' ≤ 7000 ∧ ot' ≤ 100 ∧ M' 0 = T ∧ zfor (M' 3) pa' dp' (fun j => 100 ≤ j ∧ j < 100 + ot') ∧ (ok = true → v = nI (zm_mg lv pa' M' ot').1 ∧ zmo g σ' a (nI 0) 0 (-1) ps' lv ot' (zm_mg lv pa' M' ot').1 (nI 1) pr (zm_mg lv pa' M' ot').2) ∧ (ok = false → v = nI 0 ∧ zmo g σ' a (nI 1) 0 (nI ps') ps' lv ot' ak fr pr M'))) 69 [(2, .int (nI lv)), (1, .int (nI (100 + k))), (0, .ref a)] [] σ1 sz 0 0) → (∀ x, x < lv → zfindo (fun x => zpth paq (Mx 2) 9 (some x) (some (100 + k))) 0 lv = some x → zE g "FindingAidModel" cb_M_merge 3 (Option.some Jvm.ClassFile.FieldType.int) false zr_M_merge 0 0 (zPi (fun v σ' sz' => sz' = sz ∧ zfr σ σ' a 22 ∧ ∃ ok ps' ot' M' pa' dp', zm_lines (zmd T size) size 102 0 pa dp 0 M = (ok, ps', ot', M', pa', dp') ∧ ps' ≤ 7000 ∧ ot' ≤ 100 ∧ M' 0 = T ∧ zfor (M' 3) pa' dp' (fun j => 100 ≤ j ∧ j < 100 + ot') ∧ (ok = true → v = nI (zm_mg lv pa' M' ot').1 ∧ zmo g σ' a (nI 0) 0 (-1) ps' lv ot' (zm_mg lv pa' M' ot').1 (nI 1) pr (zm_mg lv pa' M' ot').2) ∧ (ok = false → v = nI 0 ∧ zmo g σ' a (nI 1) 0 (nI ps') ps' lv ot' ak fr pr M'))) 69 [(2, .int (nI x)), (1, .int (nI (100 + k))), (0, .ref a)] [] σ1 sz 0 0) → ∀ (kk lo : Nat), lo + kk = lv → zfindo (fun x => zpth paq (Mx 2) 9 (some x) (some (100 + k))) lo kk = zfindo (fun x => zpth paq (Mx 2) 9 (some x) (some (100 + k))) 0 lv → zE g "FindingAidModel" cb_M_merge 3 (Option.some Jvm.ClassFile.FieldType.int) false zr_M_merge 0 0 (zPi (fun v σ' sz' => sz' = sz ∧ zfr σ σ' a 22 ∧ ∃ ok ps' ot' M' pa' dp', zm_lines (zmd T size) size 102 0 pa dp 0 M = (ok, ps', ot', M', pa', dp') ∧ ps' ≤ 7000 ∧ ot' ≤ 100 ∧ M' 0 = T ∧ zfor (M' 3) pa' dp' (fun j => 100 ≤ j ∧ j < 100 + ot') ∧ (ok = true → v = nI (zm_mg lv pa' M' ot').1 ∧ zmo g σ' a (nI 0) 0 (-1) ps' lv ot' (zm_mg lv pa' M' ot').1 (nI 1) pr (zm_mg lv pa' M' ot').2) ∧ (ok = false → v = nI 0 ∧ zmo g σ' a (nI 1) 0 (nI ps') ps' lv ot' ak fr pr M'))) 46 [(2, .int (nI lo)), (1, .int (nI (100 + k))), (0, .ref a)] [] σ1 sz 0 0 := by
    intro psq otq paq dpq hotq c k Mx σ1 hkot hfo2 hM hN hS kk
    induction kk with
    | zero =>
      intro lo hk hE
      refine ze_iload_n 0 cd_M_merge_46 rfl rfl ?_
      refine ze_aload_n 2 cd_M_merge_47 rfl rfl ?_
      refine ze_get zin_M (v := .int (nI lv)) (ci := 7) rfl 5 (by decide) zm_727 rfl cd_M_merge_48 hM.1 rfl ?_
      refine ze_icmp_ge (tgt := 69) cd_M_merge_51 (by decide) (fun c2 => ?_) (fun c2 => ?_)
      · skip
        have c2 : lv ≤ lo := (nI_leI (by omega) (by omega)).mp c2
        obtain rfl : lo = lv := by omega
        exact ze_sub [0, 1, 2] rfl (hN (by rw [← hE]; rfl))
      · skip
        have c2 : ¬ lv ≤ lo := fun h9 => c2 ((nI_leI (by omega) (by omega)).mpr h9)
        exfalso; omega
    | succ kk ih =>
      intro lo hk hE
      refine ze_iload_n 0 cd_M_merge_46 rfl rfl ?_
      refine ze_aload_n 2 cd_M_merge_47 rfl rfl ?_
      refine ze_get zin_M (v := .int (nI lv)) (ci := 7) rfl 5 (by decide) zm_727 rfl cd_M_merge_48 hM.1 rfl ?_
      refine ze_icmp_ge (tgt := 69) cd_M_merge_51 (by decide) (fun c4 => ?_) (fun c4 => ?_)
      · skip
        have c4 : lv ≤ lo := (nI_leI (by omega) (by omega)).mp c4
        exfalso; omega
      · skip
        have c4 : ¬ lv ≤ lo := fun h9 => c4 ((nI_leI (by omega) (by omega)).mpr h9)
        refine ze_aload_n 2 cd_M_merge_54 rfl rfl ?_
        refine ze_iload_n 0 cd_M_merge_55 rfl rfl ?_
        refine ze_iload_n 1 cd_M_merge_56 rfl rfl ?_
        refine ze_callVp (rm' := zr_M_samePath) (b := a) (As := [.int (nI lo), .int (nI (100 + k))]) (rest := []) (kc_M_samePath (pa := paq) (dp := dpq) (D := fun j => j < lv ∨ (100 ≤ j ∧ j < 100 + otq)) (x := lo) (y := 100 + k) hM hfo2 (by omega) (by omega)) ⟨rfl, rfl⟩ zy_M_samePath_ok zm_967 zm_969 zm_47 (ci := 7) rfl rfl (by decide) (by decide) cd_M_merge_57 hM.1 rfl rfl (Nat.le_of_ble_eq_true rfl) ?_
        refine ze_if_ne (tgt := 69) cd_M_merge_60 (by decide) (fun c5 => ?_) (fun c5 => ?_)
        · skip
          have c5 : (zpth paq (Mx 2) 9 (some lo) (some (100 + k))) = true := zb_t c5
          exact ze_sub [0, 1, 2] rfl (hS lo (by omega) (by rw [← hE]; simp [zfindo, c5]))
        · skip
          have c5 : (zpth paq (Mx 2) 9 (some lo) (some (100 + k))) = false := zb_f c5
          refine ze_iinc (v := nI (lo + 1)) (lv' := [(2, .int (nI (lo + 1))), (1, .int (nI (100 + k))), (0, .ref a)]) 0 cd_M_merge_63 rfl (nI_add _ 1) (by decide) rfl ?_
          refine ze_goto (tgt := 46) cd_M_merge_66 (by decide) ?_
          exact ze_sub [0, 1, 2] rfl (ih (lo + 1) (by omega) (by rw [← hE]; simp [zfindo, c5]))
  have loop : ∀ (psq otq : Nat) (Mq : Nat → Nat → Int32) (paq : Nat → Option Nat) (dpq : Nat → Nat), zm_lines (zmd T size) size 102 0 pa dp 0 M = (true, psq, otq, Mq, paq, dpq) → psq ≤ 7000 → otq ≤ 100 → Mq 0 = T → zfor (Mq 3) paq dpq (fun j => 100 ≤ j ∧ j < 100 + otq) → (∀ j, j < lv → paq j = pa j ∧ dpq j = dp j) → (∀ j, j < lv → Mq 9 j = nI (zl_t M j) ∧ zl_t M j ≤ 16) → zfor (Mq 3) paq dpq (fun j => j < lv ∨ (100 ≤ j ∧ j < 100 + otq)) → ∀ (kk k c : Nat) (Mx : Nat → Nat → Int32) (σ1 : zx_M), k + kk = otq → c ≤ k → Mx 3 = Mq 3 → (∀ j, j < 200 → Mx 9 j = Mq 9 j) → zfold (zm_mg1 lv paq) (c, Mx) k kk = zm_mg lv paq Mq otq → zmo g σ1 a (nI 0) 0 (-1) psq lv otq c fr pr Mx → zfr σ σ1 a 22 → zE g "FindingAidModel" cb_M_merge 3 (Option.some Jvm.ClassFile.FieldType.int) false zr_M_merge 0 0 (zPi (fun v σ' sz' => sz' = sz ∧ zfr σ σ' a 22 ∧ ∃ ok ps' ot' M' pa' dp', zm_lines (zmd T size) size 102 0 pa dp 0 M = (ok, ps', ot', M', pa', dp') ∧ ps' ≤ 7000 ∧ ot' ≤ 100 ∧ M' 0 = T ∧ zfor (M' 3) pa' dp' (fun j => 100 ≤ j ∧ j < 100 + ot') ∧ (ok = true → v = nI (zm_mg lv pa' M' ot').1 ∧ zmo g σ' a (nI 0) 0 (-1) ps' lv ot' (zm_mg lv pa' M' ot').1 (nI 1) pr (zm_mg lv pa' M' ot').2) ∧ (ok = false → v = nI 0 ∧ zmo g σ' a (nI 1) 0 (nI ps') ps' lv ot' ak fr pr M'))) 33 [(1, .int (nI (100 + k))), (0, .ref a)] [] σ1 sz 0 0 := by
    intro psq otq Mq paq dpq hXq hbq hotq hT0 hfoq hpq hTq hfo3
    clear hM hF
    intro kk
    induction kk with
    | zero =>
      intro k c Mx σ1 hk hck h3q h9q hE hM hF
      refine ze_iload_n 0 cd_M_merge_33 rfl rfl ?_
      refine ze_bipush (v := nI 100) cd_M_merge_34 (by decide) ?_
      refine ze_aload_n 1 cd_M_merge_36 rfl rfl ?_
      refine ze_get zin_M (v := .int (nI otq)) (ci := 7) rfl 6 (by decide) zm_728 rfl cd_M_merge_37 hM.1 rfl ?_
      refine ze_iadd cd_M_merge_40 ?_
      refine ze_top (y := nI (100 + otq)) (nI_add _ _) ?_
      refine ze_icmp_ge (tgt := 154) cd_M_merge_41 (by decide) (fun c7 => ?_) (fun c7 => ?_)
      · skip
        have c7 : (100 + otq) ≤ (100 + k) := (nI_leI (by omega) (by omega)).mp c7
        refine ze_aload_n 1 cd_M_merge_154 rfl rfl ?_
        refine ze_iconst (v := nI 1) cd_M_merge_155 (by decide) ?_
        refine ze_put zin_M zy_M zt_M zn_M (ci := 7) rfl 27 (by decide) zm_749 rfl (Or.inl rfl) cd_M_merge_156 hM.1 (by decide) rfl (Nat.le_of_ble_eq_true rfl) (fs' := [.int (nI 0), .int (nI 0), .ref (a + 1), .int ((-1 : Int32)), .int (nI psq), .int (nI lv), .int (nI otq), .ref (a + 2), .ref (a + 3), .ref (a + 4), .ref (a + 5), .ref (a + 6), .ref (a + 7), .ref (a + 8), .ref (a + 9), .ref (a + 10), .ref (a + 11), .ref (a + 12), .ref (a + 13), .ref (a + 14), .ref (a + 15), .ref (a + 16), .ref (a + 17), .int (nI c), .ref (a + 18), .ref (a + 19), .ref (a + 20), .int (nI 1), .int (nI pr), .ref (a + 21)]) rfl ?_
        have hM := hM.put (fs' := [.int (nI 0), .int (nI 0), .ref (a + 1), .int ((-1 : Int32)), .int (nI psq), .int (nI lv), .int (nI otq), .ref (a + 2), .ref (a + 3), .ref (a + 4), .ref (a + 5), .ref (a + 6), .ref (a + 7), .ref (a + 8), .ref (a + 9), .ref (a + 10), .ref (a + 11), .ref (a + 12), .ref (a + 13), .ref (a + 14), .ref (a + 15), .ref (a + 16), .ref (a + 17), .int (nI c), .ref (a + 18), .ref (a + 19), .ref (a + 20), .int (nI 1), .int (nI pr), .ref (a + 21)])
        have hF := hF.up (a := a) (e := .inr (7, [.int (nI 0), .int (nI 0), .ref (a + 1), .int ((-1 : Int32)), .int (nI psq), .int (nI lv), .int (nI otq), .ref (a + 2), .ref (a + 3), .ref (a + 4), .ref (a + 5), .ref (a + 6), .ref (a + 7), .ref (a + 8), .ref (a + 9), .ref (a + 10), .ref (a + 11), .ref (a + 12), .ref (a + 13), .ref (a + 14), .ref (a + 15), .ref (a + 16), .ref (a + 17), .int (nI c), .ref (a + 18), .ref (a + 19), .ref (a + 20), .int (nI 1), .int (nI pr), .ref (a + 21)])) (by omega) (by omega)
        refine ze_aload_n 1 cd_M_merge_159 rfl rfl ?_
        refine ze_get zin_M (v := .int (nI c)) (ci := 7) rfl 23 (by decide) zm_745 rfl cd_M_merge_160 hM.1 rfl ?_
        exact ze_iret cd_M_merge_163 rfl (by decide) (by decide) ⟨_, rfl, rfl, hF, true, psq, otq, Mq, paq, dpq, hXq, hbq, hotq, hT0, hfoq, (fun _ => ⟨by rw [← hE]; rfl, by rw [← hE]; exact hM⟩), (fun h9 => absurd h9 (by decide))⟩
      · skip
        have c7 : ¬ (100 + otq) ≤ (100 + k) := fun h9 => c7 ((nI_leI (by omega) (by omega)).mpr h9)
        exfalso; omega
    | succ kk ih =>
      intro k c Mx σ1 hk hck h3q h9q hE hM hF
      refine ze_iload_n 0 cd_M_merge_33 rfl rfl ?_
      refine ze_bipush (v := nI 100) cd_M_merge_34 (by decide) ?_
      refine ze_aload_n 1 cd_M_merge_36 rfl rfl ?_
      refine ze_get zin_M (v := .int (nI otq)) (ci := 7) rfl 6 (by decide) zm_728 rfl cd_M_merge_37 hM.1 rfl ?_
      refine ze_iadd cd_M_merge_40 ?_
      refine ze_top (y := nI (100 + otq)) (nI_add _ _) ?_
      refine ze_icmp_ge (tgt := 154) cd_M_merge_41 (by decide) (fun c9 => ?_) (fun c9 => ?_)
      · skip
        have c9 : (100 + otq) ≤ (100 + k) := (nI_leI (by omega) (by omega)).mp c9
        exfalso; omega
      · skip
        have c9 : ¬ (100 + otq) ≤ (100 + k) := fun h9 => c9 ((nI_leI (by omega) (by omega)).mpr h9)
        refine ze_iconst (v := nI 0) cd_M_merge_44 (by decide) ?_
        refine ze_istore_n (lv' := [(2, .int (nI 0)), (1, .int (nI (100 + k))), (0, .ref a)]) cd_M_merge_45 rfl (by decide) rfl ?_
        have hfo2 : zfor (Mx 3) paq dpq (fun j => j < lv ∨ (100 ≤ j ∧ j < 100 + otq)) := by rw [h3q]; exact hfo3
        refine ze_sub [0, 1, 2] rfl (inn psq otq paq dpq hotq c k Mx _ (by omega) hfo2 hM (fun hfi => ?_) (fun x hx hfi => ?_) lv 0 (by omega) rfl)
        · skip
          refine ze_iload_n 0 cd_M_merge_69 rfl rfl ?_
          refine ze_aload_n 2 cd_M_merge_70 rfl rfl ?_
          refine ze_get zin_M (v := .int (nI lv)) (ci := 7) rfl 5 (by decide) zm_727 rfl cd_M_merge_71 hM.1 rfl ?_
          refine ze_icmp_eq (tgt := 148) cd_M_merge_74 (by decide) (fun c11 => ?_) (fun c11 => ?_)
          · skip
            have c11 : lv = lv := (nI_eq (by omega) (by omega)).mp c11
            refine ze_iinc (v := nI (100 + k + 1)) (lv' := [(1, .int (nI (100 + k + 1))), (2, .int (nI lv)), (0, .ref a)]) 1 cd_M_merge_148 rfl (nI_add _ 1) (by decide) rfl ?_
            refine ze_goto (tgt := 33) cd_M_merge_151 (by decide) ?_
            exact ze_sub [0, 2] rfl (ih (k + 1) c Mx _ (by omega) (by omega) h3q h9q (by rw [← hE]; simp [zfold, zm_mg1, hfi, c11]) hM hF)
          · skip
            have c11 : ¬ lv = lv := fun h9 => c11 (by rw [h9])
            exfalso; omega
        · skip
          have ht9 : Mx 9 x = nI (zl_t Mx x) ∧ zl_t Mx x ≤ 16 := by have h9 := hTq x hx; have h8 := h9q x (by omega); have h7 : zl_t Mx x = zl_t M x := by { unfold zl_t; rw [h8, h9.1]; unfold zl_t; rw [nI_clamp (by have := h9.2; unfold zl_t at this; omega)] }; rw [h7, h8]; exact h9
          have ht2 := ht9.2
          have hd7 := zm_dif_le Mx x (100 + k) (zl_t Mx x)
          refine ze_iload_n 0 cd_M_merge_69 rfl rfl ?_
          refine ze_aload_n 2 cd_M_merge_70 rfl rfl ?_
          refine ze_get zin_M (v := .int (nI lv)) (ci := 7) rfl 5 (by decide) zm_727 rfl cd_M_merge_71 hM.1 rfl ?_
          refine ze_icmp_eq (tgt := 148) cd_M_merge_74 (by decide) (fun c13 => ?_) (fun c13 => ?_)
          · skip
            have c13 : x = lv := (nI_eq (by omega) (by omega)).mp c13
            exfalso; omega
          · skip
            have c13 : ¬ x = lv := fun h9 => c13 (by rw [h9])
            refine ze_aload_n 2 cd_M_merge_77 rfl rfl ?_
            refine ze_iload_n 0 cd_M_merge_78 rfl rfl ?_
            refine ze_iload_n 1 cd_M_merge_79 rfl rfl ?_
            refine ze_callVp (rm' := zr_M_differs) (b := a) (As := [.int (nI x), .int (nI (100 + k))]) (rest := []) (kc_M_differs (x := x) (y := 100 + k) (t := zl_t Mx x) hM (by omega) (by omega) ht9.1 ht2) ⟨rfl, rfl⟩ zy_M_differs_ok zm_971 zm_973 zm_48 (ci := 7) rfl rfl (by decide) (by decide) cd_M_merge_80 hM.1 rfl rfl (Nat.le_of_ble_eq_true rfl) ?_
            refine ze_if_ne (tgt := 89) cd_M_merge_83 (by decide) (fun c14 => ?_) (fun c14 => ?_)
            · skip
              have c14 := c14; rw [← nI_0] at c14
              have c14 : ¬ (zm_dif (Mx) x (100 + k) (zl_t Mx x)) = 0 := fun h9 => c14 (by rw [h9])
              refine ze_aload_n 2 cd_M_merge_89 rfl rfl ?_
              refine ze_get zin_M (v := .ref (a + 18)) (ci := 7) rfl 24 (by decide) zm_746 rfl cd_M_merge_90 hM.1 rfl ?_
              refine ze_aload_n 2 cd_M_merge_93 rfl rfl ?_
              refine ze_get zin_M (v := .int (nI c)) (ci := 7) rfl 23 (by decide) zm_745 rfl cd_M_merge_94 hM.1 rfl ?_
              refine ze_iload_n 0 cd_M_merge_97 rfl rfl ?_
              refine ze_iast (j := c) cd_M_merge_98 (hM.2 17 _ rfl) rfl (by omega) (by decide) ?_
              have hM := hM.ar 17 0 100 rfl (b := a + 18) (f := upd (Mx 17) c (nI x)) (by omega)
              have hF := hF.up (a := a + 18) (e := .inl (g.2.2.2.1 0, 100, .inl (upd (Mx 17) c (nI x)))) (by omega) (by omega)
              refine ze_aload_n 2 cd_M_merge_99 rfl rfl ?_
              refine ze_sipush (v := nI 200) cd_M_merge_100 (by decide) ?_
              refine ze_aload_n 2 cd_M_merge_103 rfl rfl ?_
              refine ze_get zin_M (v := .int (nI c)) (ci := 7) rfl 23 (by decide) zm_745 rfl cd_M_merge_104 hM.1 rfl ?_
              refine ze_iadd cd_M_merge_107 ?_
              refine ze_top (y := nI (200 + c)) (nI_add _ _) ?_
              refine ze_iload_n 1 cd_M_merge_108 rfl rfl ?_
              refine ze_iconst (v := nI 0) cd_M_merge_109 (by decide) ?_
              refine ze_callVv (rm' := zr_M_copy) (b := a) (As := [.int (nI (200 + c)), .int (nI (100 + k)), .int (nI 0)]) (rest := []) (kc_M_copy_0 (to := 200 + c) (f := 100 + k) hM (by omega) (by omega)) ⟨rfl, rfl⟩ zy_M_copy_ok zm_879 zm_881 zm_40 (ci := 7) rfl rfl (by decide) (by decide) cd_M_merge_110 hM.1 rfl rfl (Nat.le_of_ble_eq_true rfl) (fun σ9 sz9 hq9 => ?_)
              obtain ⟨rfl, hF9, hM⟩ := hq9
              have hF := hF.trans hF9
              refine ze_aload_n 2 cd_M_merge_113 rfl rfl ?_
              refine ze_get zin_M (v := .ref (a + 19)) (ci := 7) rfl 25 (by decide) zm_747 rfl cd_M_merge_114 hM.1 rfl ?_
              refine ze_aload_n 2 cd_M_merge_117 rfl rfl ?_
              refine ze_get zin_M (v := .int (nI c)) (ci := 7) rfl 23 (by decide) zm_745 rfl cd_M_merge_118 hM.1 rfl ?_
              refine ze_aload_n 2 cd_M_merge_121 rfl rfl ?_
              refine ze_iload_n 0 cd_M_merge_122 rfl rfl ?_
              refine ze_iload_n 1 cd_M_merge_123 rfl rfl ?_
              refine ze_callVp (rm' := zr_M_differs) (b := a) (As := [.int (nI x), .int (nI (100 + k))]) (rest := [.int (nI c), .ref (a + 19)]) (kc_M_differs (x := x) (y := 100 + k) (t := zl_t Mx x) hM (by omega) (by omega) (by rw [zm_cp0_9 (by omega), va_up_ne _ _ (by decide)]; exact ht9.1) ht2) ⟨rfl, rfl⟩ zy_M_differs_ok zm_971 zm_973 zm_48 (ci := 7) rfl rfl (by decide) (by decide) cd_M_merge_124 hM.1 rfl rfl (Nat.le_of_ble_eq_true rfl) ?_
              refine ze_iast (j := c) cd_M_merge_127 (hM.2 18 _ rfl) rfl (by omega) (by decide) ?_
              have hM := hM.ar 18 0 100 rfl (b := a + 19) (f := upd ((zm_cp0 (va_up Mx 17 (upd (Mx 17) c (nI x))) (200 + c) (100 + k)) 18) c (nI (zm_dif (zm_cp0 (va_up Mx 17 (upd (Mx 17) c (nI x))) (200 + c) (100 + k)) x (100 + k) (zl_t Mx x)))) (by omega)
              have hF := hF.up (a := a + 19) (e := .inl (g.2.2.2.1 0, 100, .inl (upd ((zm_cp0 (va_up Mx 17 (upd (Mx 17) c (nI x))) (200 + c) (100 + k)) 18) c (nI (zm_dif (zm_cp0 (va_up Mx 17 (upd (Mx 17) c (nI x))) (200 + c) (100 + k)) x (100 + k) (zl_t Mx x)))))) (by omega) (by omega)
              refine ze_aload_n 2 cd_M_merge_128 rfl rfl ?_
              refine ze_get zin_M (v := .ref (a + 20)) (ci := 7) rfl 26 (by decide) zm_748 rfl cd_M_merge_129 hM.1 rfl ?_
              refine ze_aload_n 2 cd_M_merge_132 rfl rfl ?_
              refine ze_get zin_M (v := .int (nI c)) (ci := 7) rfl 23 (by decide) zm_745 rfl cd_M_merge_133 hM.1 rfl ?_
              refine ze_iconst (v := nI 0) cd_M_merge_136 (by decide) ?_
              refine ze_zast (j := c) (f := (zm_cp0 (va_up Mx 17 (upd (Mx 17) c (nI x))) (200 + c) (100 + k)) 19) cd_M_merge_137 (hM.2 19 _ rfl) rfl (by omega) (by decide) (by decide) ?_
              have hM := hM.ar 19 1 100 rfl (b := a + 20) (f := upd ((zm_cp0 (va_up Mx 17 (upd (Mx 17) c (nI x))) (200 + c) (100 + k)) 19) c (nI 0)) (by omega)
              have hF := hF.up (a := a + 20) (e := .inl (g.2.2.2.1 1, 100, .inl (upd ((zm_cp0 (va_up Mx 17 (upd (Mx 17) c (nI x))) (200 + c) (100 + k)) 19) c (nI 0)))) (by omega) (by omega)
              refine ze_aload_n 2 cd_M_merge_138 rfl rfl ?_
              refine ze_dup cd_M_merge_139 rfl ?_
              refine ze_get zin_M (v := .int (nI c)) (ci := 7) rfl 23 (by decide) zm_745 rfl cd_M_merge_140 hM.1 rfl ?_
              refine ze_iconst (v := nI 1) cd_M_merge_143 (by decide) ?_
              refine ze_iadd cd_M_merge_144 ?_
              refine ze_top (y := nI (c + 1)) (nI_add _ _) ?_
              refine ze_put zin_M zy_M zt_M zn_M (ci := 7) rfl 23 (by decide) zm_745 rfl (Or.inl rfl) cd_M_merge_145 hM.1 rfl rfl (Nat.le_of_ble_eq_true rfl) (fs' := [.int (nI 0), .int (nI 0), .ref (a + 1), .int ((-1 : Int32)), .int (nI psq), .int (nI lv), .int (nI otq), .ref (a + 2), .ref (a + 3), .ref (a + 4), .ref (a + 5), .ref (a + 6), .ref (a + 7), .ref (a + 8), .ref (a + 9), .ref (a + 10), .ref (a + 11), .ref (a + 12), .ref (a + 13), .ref (a + 14), .ref (a + 15), .ref (a + 16), .ref (a + 17), .int (nI (c + 1)), .ref (a + 18), .ref (a + 19), .ref (a + 20), .int fr, .int (nI pr), .ref (a + 21)]) rfl ?_
              have hM := hM.put (fs' := [.int (nI 0), .int (nI 0), .ref (a + 1), .int ((-1 : Int32)), .int (nI psq), .int (nI lv), .int (nI otq), .ref (a + 2), .ref (a + 3), .ref (a + 4), .ref (a + 5), .ref (a + 6), .ref (a + 7), .ref (a + 8), .ref (a + 9), .ref (a + 10), .ref (a + 11), .ref (a + 12), .ref (a + 13), .ref (a + 14), .ref (a + 15), .ref (a + 16), .ref (a + 17), .int (nI (c + 1)), .ref (a + 18), .ref (a + 19), .ref (a + 20), .int fr, .int (nI pr), .ref (a + 21)])
              have hF := hF.up (a := a) (e := .inr (7, [.int (nI 0), .int (nI 0), .ref (a + 1), .int ((-1 : Int32)), .int (nI psq), .int (nI lv), .int (nI otq), .ref (a + 2), .ref (a + 3), .ref (a + 4), .ref (a + 5), .ref (a + 6), .ref (a + 7), .ref (a + 8), .ref (a + 9), .ref (a + 10), .ref (a + 11), .ref (a + 12), .ref (a + 13), .ref (a + 14), .ref (a + 15), .ref (a + 16), .ref (a + 17), .int (nI (c + 1)), .ref (a + 18), .ref (a + 19), .ref (a + 20), .int fr, .int (nI pr), .ref (a + 21)])) (by omega) (by omega)
              refine ze_iinc (v := nI (100 + k + 1)) (lv' := [(1, .int (nI (100 + k + 1))), (2, .int (nI x)), (0, .ref a)]) 1 cd_M_merge_148 rfl (nI_add _ 1) (by decide) rfl ?_
              refine ze_goto (tgt := 33) cd_M_merge_151 (by decide) ?_
              exact ze_sub [0, 2] rfl (ih (k + 1) (c + 1) _ _ (by omega) (by omega) (by rw [va_up_ne _ _ (by decide), va_up_ne _ _ (by decide), zm_cp0_row (by decide), va_up_ne _ _ (by decide)]; exact h3q) (fun j hj => by rw [va_up_ne _ _ (by decide), va_up_ne _ _ (by decide), zm_cp0_9 (by omega), va_up_ne _ _ (by decide)]; exact h9q j hj) (by rw [← hE]; simp [zfold, zm_mg1, zm_mgM, hfi, c13, c14]) hM hF)
            · skip
              have c14 := c14; rw [← nI_0] at c14
              have c14 : (zm_dif (Mx) x (100 + k) (zl_t Mx x)) = 0 := (nI_eq (by omega) (by omega)).mp c14
              refine ze_goto (tgt := 148) cd_M_merge_86 (by decide) ?_
              refine ze_iinc (v := nI (100 + k + 1)) (lv' := [(1, .int (nI (100 + k + 1))), (2, .int (nI x)), (0, .ref a)]) 1 cd_M_merge_148 rfl (nI_add _ 1) (by decide) rfl ?_
              refine ze_goto (tgt := 33) cd_M_merge_151 (by decide) ?_
              exact ze_sub [0, 2] rfl (ih (k + 1) c Mx _ (by omega) (by omega) h3q h9q (by rw [← hE]; simp [zfold, zm_mg1, hfi, c13, c14]) hM hF)
  refine zM_of (lv := [(0, .ref a)]) (ini := false) (by decide) rfl (by decide) (Nat.le_of_ble_eq_true rfl) rfl ?_
  refine ze_aload_n 0 cd_M_merge_0 rfl rfl ?_
  refine ze_aload_n 0 cd_M_merge_1 rfl rfl ?_
  refine ze_callVi (rm' := zr_M_reads) (b := a) (As := []) (rest := [.ref a]) (kc_M_reads (T := T) (pa := pa) (dp := dp) hM hT0 hsz) ⟨rfl, rfl⟩ zy_M_reads_ok zm_825 zm_827 zm_28 (ci := 7) rfl rfl (by decide) (by decide) cd_M_merge_2 hM.1 rfl rfl (Nat.le_of_ble_eq_true rfl) (fun v9 σ9 sz9 hq9 => ?_)
  obtain ⟨rfl, hF9, ok15, ps15, ot15, M15, pa15, dp15, hX15, rfl, hb15, hot15, hT0, hfo15, hM⟩ := hq9
  have hF := hF.trans hF9
  refine ze_if_eq (tgt := 12) cd_M_merge_5 (by decide) (fun c16 => ?_) (fun c16 => ?_)
  · skip
    have c16 : ok15 = false := zb_f c16
    subst c16
    refine ze_iconst (v := nI 1) cd_M_merge_12 (by decide) ?_
    refine ze_put zin_M zy_M zt_M zn_M (ci := 7) rfl 0 (by decide) zm_722 rfl (Or.inl rfl) cd_M_merge_13 hM.1 rfl rfl (Nat.le_of_ble_eq_true rfl) (fs' := [.int (nI 1), .int (nI 0), .ref (a + 1), .int (nI ps15), .int (nI ps15), .int (nI lv), .int (nI ot15), .ref (a + 2), .ref (a + 3), .ref (a + 4), .ref (a + 5), .ref (a + 6), .ref (a + 7), .ref (a + 8), .ref (a + 9), .ref (a + 10), .ref (a + 11), .ref (a + 12), .ref (a + 13), .ref (a + 14), .ref (a + 15), .ref (a + 16), .ref (a + 17), .int (nI ak), .ref (a + 18), .ref (a + 19), .ref (a + 20), .int fr, .int (nI pr), .ref (a + 21)]) rfl ?_
    have hM := hM.put (fs' := [.int (nI 1), .int (nI 0), .ref (a + 1), .int (nI ps15), .int (nI ps15), .int (nI lv), .int (nI ot15), .ref (a + 2), .ref (a + 3), .ref (a + 4), .ref (a + 5), .ref (a + 6), .ref (a + 7), .ref (a + 8), .ref (a + 9), .ref (a + 10), .ref (a + 11), .ref (a + 12), .ref (a + 13), .ref (a + 14), .ref (a + 15), .ref (a + 16), .ref (a + 17), .int (nI ak), .ref (a + 18), .ref (a + 19), .ref (a + 20), .int fr, .int (nI pr), .ref (a + 21)])
    have hF := hF.up (a := a) (e := .inr (7, [.int (nI 1), .int (nI 0), .ref (a + 1), .int (nI ps15), .int (nI ps15), .int (nI lv), .int (nI ot15), .ref (a + 2), .ref (a + 3), .ref (a + 4), .ref (a + 5), .ref (a + 6), .ref (a + 7), .ref (a + 8), .ref (a + 9), .ref (a + 10), .ref (a + 11), .ref (a + 12), .ref (a + 13), .ref (a + 14), .ref (a + 15), .ref (a + 16), .ref (a + 17), .int (nI ak), .ref (a + 18), .ref (a + 19), .ref (a + 20), .int fr, .int (nI pr), .ref (a + 21)])) (by omega) (by omega)
    refine ze_aload_n 0 cd_M_merge_16 rfl rfl ?_
    refine ze_get zin_M (v := .int (nI 1)) (ci := 7) rfl 0 (by decide) zm_722 rfl cd_M_merge_17 hM.1 rfl ?_
    refine ze_if_le (tgt := 25) cd_M_merge_20 (by decide) (fun c9 => absurd c9 (by decide)) (fun _ => ?_)
    refine ze_iconst (v := nI 0) cd_M_merge_23 (by decide) ?_
    exact ze_iret cd_M_merge_24 rfl (by decide) (by decide) ⟨_, rfl, rfl, hF, false, ps15, ot15, M15, pa15, dp15, hX15, hb15, hot15, hT0, hfo15, (fun h9 => absurd h9 (by decide)), (fun _ => ⟨rfl, hM⟩)⟩
  · skip
    have c16 : ok15 = true := zb_t c16
    subst c16
    refine ze_iconst (v := nI 0) cd_M_merge_8 (by decide) ?_
    refine ze_goto (tgt := 13) cd_M_merge_9 (by decide) ?_
    refine ze_put zin_M zy_M zt_M zn_M (ci := 7) rfl 0 (by decide) zm_722 rfl (Or.inl rfl) cd_M_merge_13 hM.1 rfl rfl (Nat.le_of_ble_eq_true rfl) (fs' := [.int (nI 0), .int (nI 0), .ref (a + 1), .int ((-1 : Int32)), .int (nI ps15), .int (nI lv), .int (nI ot15), .ref (a + 2), .ref (a + 3), .ref (a + 4), .ref (a + 5), .ref (a + 6), .ref (a + 7), .ref (a + 8), .ref (a + 9), .ref (a + 10), .ref (a + 11), .ref (a + 12), .ref (a + 13), .ref (a + 14), .ref (a + 15), .ref (a + 16), .ref (a + 17), .int (nI ak), .ref (a + 18), .ref (a + 19), .ref (a + 20), .int fr, .int (nI pr), .ref (a + 21)]) rfl ?_
    have hM := hM.put (fs' := [.int (nI 0), .int (nI 0), .ref (a + 1), .int ((-1 : Int32)), .int (nI ps15), .int (nI lv), .int (nI ot15), .ref (a + 2), .ref (a + 3), .ref (a + 4), .ref (a + 5), .ref (a + 6), .ref (a + 7), .ref (a + 8), .ref (a + 9), .ref (a + 10), .ref (a + 11), .ref (a + 12), .ref (a + 13), .ref (a + 14), .ref (a + 15), .ref (a + 16), .ref (a + 17), .int (nI ak), .ref (a + 18), .ref (a + 19), .ref (a + 20), .int fr, .int (nI pr), .ref (a + 21)])
    have hF := hF.up (a := a) (e := .inr (7, [.int (nI 0), .int (nI 0), .ref (a + 1), .int ((-1 : Int32)), .int (nI ps15), .int (nI lv), .int (nI ot15), .ref (a + 2), .ref (a + 3), .ref (a + 4), .ref (a + 5), .ref (a + 6), .ref (a + 7), .ref (a + 8), .ref (a + 9), .ref (a + 10), .ref (a + 11), .ref (a + 12), .ref (a + 13), .ref (a + 14), .ref (a + 15), .ref (a + 16), .ref (a + 17), .int (nI ak), .ref (a + 18), .ref (a + 19), .ref (a + 20), .int fr, .int (nI pr), .ref (a + 21)])) (by omega) (by omega)
    refine ze_aload_n 0 cd_M_merge_16 rfl rfl ?_
    refine ze_get zin_M (v := .int (nI 0)) (ci := 7) rfl 0 (by decide) zm_722 rfl cd_M_merge_17 hM.1 rfl ?_
    refine ze_if_le (tgt := 25) cd_M_merge_20 (by decide) (fun _ => ?_) (fun c9 => absurd c9 (by decide))
    refine ze_aload_n 0 cd_M_merge_25 rfl rfl ?_
    refine ze_iconst (v := nI 0) cd_M_merge_26 (by decide) ?_
    refine ze_put zin_M zy_M zt_M zn_M (ci := 7) rfl 23 (by decide) zm_745 rfl (Or.inl rfl) cd_M_merge_27 hM.1 rfl rfl (Nat.le_of_ble_eq_true rfl) (fs' := [.int (nI 0), .int (nI 0), .ref (a + 1), .int ((-1 : Int32)), .int (nI ps15), .int (nI lv), .int (nI ot15), .ref (a + 2), .ref (a + 3), .ref (a + 4), .ref (a + 5), .ref (a + 6), .ref (a + 7), .ref (a + 8), .ref (a + 9), .ref (a + 10), .ref (a + 11), .ref (a + 12), .ref (a + 13), .ref (a + 14), .ref (a + 15), .ref (a + 16), .ref (a + 17), .int (nI 0), .ref (a + 18), .ref (a + 19), .ref (a + 20), .int fr, .int (nI pr), .ref (a + 21)]) rfl ?_
    have hM := hM.put (fs' := [.int (nI 0), .int (nI 0), .ref (a + 1), .int ((-1 : Int32)), .int (nI ps15), .int (nI lv), .int (nI ot15), .ref (a + 2), .ref (a + 3), .ref (a + 4), .ref (a + 5), .ref (a + 6), .ref (a + 7), .ref (a + 8), .ref (a + 9), .ref (a + 10), .ref (a + 11), .ref (a + 12), .ref (a + 13), .ref (a + 14), .ref (a + 15), .ref (a + 16), .ref (a + 17), .int (nI 0), .ref (a + 18), .ref (a + 19), .ref (a + 20), .int fr, .int (nI pr), .ref (a + 21)])
    have hF := hF.up (a := a) (e := .inr (7, [.int (nI 0), .int (nI 0), .ref (a + 1), .int ((-1 : Int32)), .int (nI ps15), .int (nI lv), .int (nI ot15), .ref (a + 2), .ref (a + 3), .ref (a + 4), .ref (a + 5), .ref (a + 6), .ref (a + 7), .ref (a + 8), .ref (a + 9), .ref (a + 10), .ref (a + 11), .ref (a + 12), .ref (a + 13), .ref (a + 14), .ref (a + 15), .ref (a + 16), .ref (a + 17), .int (nI 0), .ref (a + 18), .ref (a + 19), .ref (a + 20), .int fr, .int (nI pr), .ref (a + 21)])) (by omega) (by omega)
    refine ze_bipush (v := nI 100) cd_M_merge_30 (by decide) ?_
    refine ze_istore_n (lv' := [(1, .int (nI 100)), (0, .ref a)]) cd_M_merge_32 rfl (by decide) rfl ?_
    obtain ⟨hkp, hkm, -⟩ := zm_lines_keep _ _ _ _ _ _ (by omega) hX15
    have hfo3 : zfor (M15 3) pa15 dp15 (fun j => j < lv ∨ (100 ≤ j ∧ j < 100 + ot15)) := zm_both (n := lv) hlv (fun j hj => hkp j (by omega)) (fun j hj => hkm 3 j (by decide) (by omega)) hfo hfo15
    exact ze_sub [0, 1] rfl (loop _ _ _ _ _ hX15 hb15 hot15 hT0 hfo15 (fun j hj => hkp j (by omega)) (fun j hj => by rw [hkm 9 j (by decide) (by omega)]; exact hTT j hj) hfo3 _ 0 0 _ _ (by omega) (by omega) rfl (fun _ _ => rfl) rfl hM hF)
