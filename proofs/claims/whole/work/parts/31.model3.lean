abbrev zr_M_year : Room := { frames := 2, cells := 0, slots := 0, locals := 42 }
set_option maxRecDepth 100000 in
set_option maxHeartbeats 4000000 in
theorem kc_M_year_4 {g : zx_G} {σ : zx_M} {sz : Nat} {a size ps lv ot ak pr : Nat} {th wr fr : Int32} {M : Nat → Nat → Int32} {T : Nat → Int32} {i : Nat} {least : Int32} (hM : zmo g σ a th size wr ps lv ot ak fr pr M) (hT0 : M 0 = T) (hsz : size ≤ 3000) (hps : ps ≤ 15000) (hi : i < 300) : zM g cy_M_year cb_M_year 7 (Option.some Jvm.ClassFile.FieldType.boolean) zr_M_year 0 0 [.ref a, .ref (a + 5), .int (nI i), .int least] σ sz (zPi (fun v σ' sz' => sz' = sz ∧ zfr σ σ' a 22 ∧ ∃ ok ps' M', zm_yr1 (zm_yl (zmd T size) 4 ps (nI 0)) 4 i ps least M = (ok, ps', M') ∧ v = zb ok ∧ ps' ≤ ps + 4 ∧ M' 0 = T ∧ (True) ∧ zmo g σ' a th size wr ps' lv ot ak fr pr M')) := by
  generalize hX0 : zm_yl (zmd T size) 4 ps (nI 0) = X0
  have hF : zfr σ σ a 22 := zfr.rf
  have loop : ∀ (kk n ps1 : Nat) (v : Int32) (σ1 : zx_M), n + kk = 4 → ps1 ≤ ps + n → zm_yl (zmd T size) kk ps1 v = X0 → zmo g σ1 a th size wr ps1 lv ot ak fr pr M → zfr σ σ1 a 22 → zE g "FindingAidModel" cb_M_year 7 (Option.some Jvm.ClassFile.FieldType.boolean) false zr_M_year 0 0 (zPi (fun v σ' sz' => sz' = sz ∧ zfr σ σ' a 22 ∧ ∃ ok ps' M', zm_yr1 (X0) 4 i ps least M = (ok, ps', M') ∧ v = zb ok ∧ ps' ≤ ps + 4 ∧ M' 0 = T ∧ (True) ∧ zmo g σ' a th size wr ps' lv ot ak fr pr M')) 12 [(6, .int (nI n)), (5, .int v), (4, .int (nI ps)), (0, .ref a), (1, .ref (a + 5)), (2, .int (nI i)), (3, .int least)] [] σ1 sz 0 0 := by
    intro kk
    induction kk with
    | zero =>
      intro n ps1 v σ1 hk hpb hE hM hF
      refine ze_iload 0 cd_M_year_12 rfl ?_
      refine ze_iconst (v := nI 4) cd_M_year_14 (by decide) ?_
      refine ze_icmp_ge (tgt := 58) cd_M_year_15 (by decide) (fun c2 => ?_) (fun c2 => ?_)
      · skip
        have c2 : 4 ≤ n := (nI_leI (by omega) (by omega)).mp c2
        refine ze_aload_n 4 cd_M_year_58 rfl rfl ?_
        refine ze_iload_n 5 cd_M_year_59 rfl rfl ?_
        refine ze_iload 1 cd_M_year_60 rfl ?_
        refine ze_iast (j := i) cd_M_year_62 (hM.2 4 _ rfl) rfl (by omega) (by decide) ?_
        have hM := hM.ar 4 0 300 rfl (b := a + 5) (f := upd (M 4) i v) (by omega)
        have hF := hF.up (a := a + 5) (e := .inl (g.2.2.2.1 0, 300, .inl (upd (M 4) i v))) (by omega) (by omega)
        refine ze_iload 1 cd_M_year_63 rfl ?_
        refine ze_iload_n 6 cd_M_year_65 rfl rfl ?_
        refine ze_sipush (v := nI 2999) cd_M_year_66 (by decide) ?_
        refine ze_callSp (rm' := zr_M_in) (As := [.int v, .int least, .int (nI 2999)]) (rest := []) kc_M_in ⟨rfl, rfl⟩ zy_M_in_ok zm_856 zm_857 (by decide) (by decide) cd_M_year_69 rfl rfl (Nat.le_of_ble_eq_true rfl) ?_
        refine ze_if_eq (tgt := 77) cd_M_year_72 (by decide) (fun c3 => ?_) (fun c3 => ?_)
        · skip
          have c3 : (zm_in v least (nI 2999)) = false := zb_f c3
          refine ze_aload_n 3 cd_M_year_77 rfl rfl ?_
          refine ze_iload 2 cd_M_year_78 rfl ?_
          refine ze_put zin_M zy_M zt_M zn_M (ci := 7) rfl 4 (by decide) zm_726 rfl (Or.inl rfl) cd_M_year_80 hM.1 rfl rfl (Nat.le_of_ble_eq_true rfl) (fs' := [.int th, .int (nI size), .ref (a + 1), .int wr, .int (nI ps), .int (nI lv), .int (nI ot), .ref (a + 2), .ref (a + 3), .ref (a + 4), .ref (a + 5), .ref (a + 6), .ref (a + 7), .ref (a + 8), .ref (a + 9), .ref (a + 10), .ref (a + 11), .ref (a + 12), .ref (a + 13), .ref (a + 14), .ref (a + 15), .ref (a + 16), .ref (a + 17), .int (nI ak), .ref (a + 18), .ref (a + 19), .ref (a + 20), .int fr, .int (nI pr), .ref (a + 21)]) rfl ?_
          have hM := hM.put (fs' := [.int th, .int (nI size), .ref (a + 1), .int wr, .int (nI ps), .int (nI lv), .int (nI ot), .ref (a + 2), .ref (a + 3), .ref (a + 4), .ref (a + 5), .ref (a + 6), .ref (a + 7), .ref (a + 8), .ref (a + 9), .ref (a + 10), .ref (a + 11), .ref (a + 12), .ref (a + 13), .ref (a + 14), .ref (a + 15), .ref (a + 16), .ref (a + 17), .int (nI ak), .ref (a + 18), .ref (a + 19), .ref (a + 20), .int fr, .int (nI pr), .ref (a + 21)])
          have hF := hF.up (a := a) (e := .inr (7, [.int th, .int (nI size), .ref (a + 1), .int wr, .int (nI ps), .int (nI lv), .int (nI ot), .ref (a + 2), .ref (a + 3), .ref (a + 4), .ref (a + 5), .ref (a + 6), .ref (a + 7), .ref (a + 8), .ref (a + 9), .ref (a + 10), .ref (a + 11), .ref (a + 12), .ref (a + 13), .ref (a + 14), .ref (a + 15), .ref (a + 16), .ref (a + 17), .int (nI ak), .ref (a + 18), .ref (a + 19), .ref (a + 20), .int fr, .int (nI pr), .ref (a + 21)])) (by omega) (by omega)
          refine ze_iconst (v := nI 0) cd_M_year_83 (by decide) ?_
          refine ze_zret cd_M_year_84 rfl (by decide) (by decide) (by decide) ⟨_, rfl, rfl, hF, false, ps, va_up M 4 (upd (M 4) i v), ?_, (by decide), by omega, hT0, trivial, hM⟩
          rw [← hE]; simp [zm_yl, zm_yr1, c2, c3]
        · skip
          have c3 : (zm_in v least (nI 2999)) = true := zb_t c3
          refine ze_iconst (v := nI 1) cd_M_year_75 (by decide) ?_
          refine ze_zret cd_M_year_76 rfl (by decide) (by decide) (by decide) ⟨_, rfl, rfl, hF, true, ps1, va_up M 4 (upd (M 4) i v), ?_, (by decide), by omega, hT0, trivial, hM⟩
          rw [← hE]; simp [zm_yl, zm_yr1, c2, c3]
      · skip
        have c2 : ¬ 4 ≤ n := fun h9 => c2 ((nI_leI (by omega) (by omega)).mpr h9)
        exfalso; omega
    | succ kk ih =>
      intro n ps1 v σ1 hk hpb hE hM hF
      refine ze_iload 0 cd_M_year_12 rfl ?_
      refine ze_iconst (v := nI 4) cd_M_year_14 (by decide) ?_
      refine ze_icmp_ge (tgt := 58) cd_M_year_15 (by decide) (fun c5 => ?_) (fun c5 => ?_)
      · skip
        have c5 : 4 ≤ n := (nI_leI (by omega) (by omega)).mp c5
        exfalso; omega
      · skip
        have c5 : ¬ 4 ≤ n := fun h9 => c5 ((nI_leI (by omega) (by omega)).mpr h9)
        refine ze_aload_n 3 cd_M_year_18 rfl rfl ?_
        refine ze_callVp (rm' := zr_M_isDigit) (b := a) (As := []) (rest := []) (kc_M_isDigit (T := T) hM hT0 hsz (by omega)) ⟨rfl, rfl⟩ zy_M_isDigit_ok zm_852 zm_854 zm_34 (ci := 7) rfl rfl (by decide) (by decide) cd_M_year_19 hM.1 rfl rfl (Nat.le_of_ble_eq_true rfl) ?_
        refine ze_if_ne (tgt := 27) cd_M_year_22 (by decide) (fun c6 => ?_) (fun c6 => ?_)
        · skip
          have c6 : (zt_d (zmd T size ps1)) = true := zb_t c6
          refine ze_bipush (v := nI 10) cd_M_year_27 (by decide) ?_
          refine ze_iload 1 cd_M_year_29 rfl ?_
          refine ze_imul cd_M_year_31 ?_
          refine ze_aload_n 3 cd_M_year_32 rfl rfl ?_
          refine ze_callVp (rm' := zr_M_look) (b := a) (As := []) (rest := [.int ((nI 10) * v)]) (kc_M_look2 (T := T) hM hT0 hsz (by omega)) ⟨rfl, rfl⟩ zy_M_look_ok zm_841 zm_843 zm_32 (ci := 7) rfl rfl (by decide) (by decide) cd_M_year_33 hM.1 rfl rfl (Nat.le_of_ble_eq_true rfl) ?_
          refine ze_iadd cd_M_year_36 ?_
          refine ze_bipush (v := nI 48) cd_M_year_37 (by decide) ?_
          refine ze_isub cd_M_year_39 ?_
          refine ze_istore (lv' := [(5, .int ((((nI 10) * v) + (zmd T size ps1)) - (nI 48))), (6, .int (nI n)), (4, .int (nI ps)), (0, .ref a), (1, .ref (a + 5)), (2, .int (nI i)), (3, .int least)]) cd_M_year_40 (by decide) rfl ?_
          refine ze_aload_n 3 cd_M_year_42 rfl rfl ?_
          refine ze_dup cd_M_year_43 rfl ?_
          refine ze_get zin_M (v := .int (nI ps1)) (ci := 7) rfl 4 (by decide) zm_726 rfl cd_M_year_44 hM.1 rfl ?_
          refine ze_iconst (v := nI 1) cd_M_year_47 (by decide) ?_
          refine ze_iadd cd_M_year_48 ?_
          refine ze_top (y := nI (ps1 + 1)) (nI_add _ _) ?_
          refine ze_put zin_M zy_M zt_M zn_M (ci := 7) rfl 4 (by decide) zm_726 rfl (Or.inl rfl) cd_M_year_49 hM.1 rfl rfl (Nat.le_of_ble_eq_true rfl) (fs' := [.int th, .int (nI size), .ref (a + 1), .int wr, .int (nI (ps1 + 1)), .int (nI lv), .int (nI ot), .ref (a + 2), .ref (a + 3), .ref (a + 4), .ref (a + 5), .ref (a + 6), .ref (a + 7), .ref (a + 8), .ref (a + 9), .ref (a + 10), .ref (a + 11), .ref (a + 12), .ref (a + 13), .ref (a + 14), .ref (a + 15), .ref (a + 16), .ref (a + 17), .int (nI ak), .ref (a + 18), .ref (a + 19), .ref (a + 20), .int fr, .int (nI pr), .ref (a + 21)]) rfl ?_
          have hM := hM.put (fs' := [.int th, .int (nI size), .ref (a + 1), .int wr, .int (nI (ps1 + 1)), .int (nI lv), .int (nI ot), .ref (a + 2), .ref (a + 3), .ref (a + 4), .ref (a + 5), .ref (a + 6), .ref (a + 7), .ref (a + 8), .ref (a + 9), .ref (a + 10), .ref (a + 11), .ref (a + 12), .ref (a + 13), .ref (a + 14), .ref (a + 15), .ref (a + 16), .ref (a + 17), .int (nI ak), .ref (a + 18), .ref (a + 19), .ref (a + 20), .int fr, .int (nI pr), .ref (a + 21)])
          have hF := hF.up (a := a) (e := .inr (7, [.int th, .int (nI size), .ref (a + 1), .int wr, .int (nI (ps1 + 1)), .int (nI lv), .int (nI ot), .ref (a + 2), .ref (a + 3), .ref (a + 4), .ref (a + 5), .ref (a + 6), .ref (a + 7), .ref (a + 8), .ref (a + 9), .ref (a + 10), .ref (a + 11), .ref (a + 12), .ref (a + 13), .ref (a + 14), .ref (a + 15), .ref (a + 16), .ref (a + 17), .int (nI ak), .ref (a + 18), .ref (a + 19), .ref (a + 20), .int fr, .int (nI pr), .ref (a + 21)])) (by omega) (by omega)
          refine ze_iinc (v := nI (n + 1)) (lv' := [(6, .int (nI (n + 1))), (5, .int ((((nI 10) * v) + (zmd T size ps1)) - (nI 48))), (4, .int (nI ps)), (0, .ref a), (1, .ref (a + 5)), (2, .int (nI i)), (3, .int least)]) 1 cd_M_year_52 rfl (nI_add _ 1) (by decide) rfl ?_
          refine ze_goto (tgt := 12) cd_M_year_55 (by decide) ?_
          exact ze_sub [0, 1, 2, 3, 4, 5, 6] rfl (ih (n + 1) _ _ _ (by omega) (by omega) (by rw [← hE]; simp [zm_yl, c6]) hM hF)
        · skip
          have c6 : (zt_d (zmd T size ps1)) = false := zb_f c6
          refine ze_iconst (v := nI 0) cd_M_year_25 (by decide) ?_
          refine ze_zret cd_M_year_26 rfl (by decide) (by decide) (by decide) ⟨_, rfl, rfl, hF, false, ps1, M, ?_, (by decide), by omega, hT0, trivial, hM⟩
          rw [← hE]; simp [zm_yl, zm_yr1, c5, c6]
  refine zM_of (lv := [(0, .ref a), (1, .ref (a + 5)), (2, .int (nI i)), (3, .int least)]) (ini := false) (by decide) rfl (by decide) (Nat.le_of_ble_eq_true rfl) rfl ?_
  refine ze_aload_n 0 cd_M_year_0 rfl rfl ?_
  refine ze_get zin_M (v := .int (nI ps)) (ci := 7) rfl 4 (by decide) zm_726 rfl cd_M_year_1 hM.1 rfl ?_
  refine ze_istore (lv' := [(4, .int (nI ps)), (0, .ref a), (1, .ref (a + 5)), (2, .int (nI i)), (3, .int least)]) cd_M_year_4 (by decide) rfl ?_
  refine ze_iconst (v := nI 0) cd_M_year_6 (by decide) ?_
  refine ze_istore (lv' := [(5, .int (nI 0)), (4, .int (nI ps)), (0, .ref a), (1, .ref (a + 5)), (2, .int (nI i)), (3, .int least)]) cd_M_year_7 (by decide) rfl ?_
  refine ze_iconst (v := nI 0) cd_M_year_9 (by decide) ?_
  refine ze_istore (lv' := [(6, .int (nI 0)), (5, .int (nI 0)), (4, .int (nI ps)), (0, .ref a), (1, .ref (a + 5)), (2, .int (nI i)), (3, .int least)]) cd_M_year_10 (by decide) rfl ?_
  exact ze_sub [0, 1, 2, 3, 4, 5, 6] rfl (loop 4 0 ps _ _ (by omega) (by omega) hX0 hM hF)
set_option maxRecDepth 100000 in
set_option maxHeartbeats 4000000 in
theorem kc_M_year_5 {g : zx_G} {σ : zx_M} {sz : Nat} {a size ps lv ot ak pr : Nat} {th wr fr : Int32} {M : Nat → Nat → Int32} {T : Nat → Int32} {i : Nat} {least : Int32} (hM : zmo g σ a th size wr ps lv ot ak fr pr M) (hT0 : M 0 = T) (hsz : size ≤ 3000) (hps : ps ≤ 15000) (hi : i < 300) : zM g cy_M_year cb_M_year 7 (Option.some Jvm.ClassFile.FieldType.boolean) zr_M_year 0 0 [.ref a, .ref (a + 6), .int (nI i), .int least] σ sz (zPi (fun v σ' sz' => sz' = sz ∧ zfr σ σ' a 22 ∧ ∃ ok ps' M', zm_yr1 (zm_yl (zmd T size) 4 ps (nI 0)) 5 i ps least M = (ok, ps', M') ∧ v = zb ok ∧ ps' ≤ ps + 4 ∧ M' 0 = T ∧ (True) ∧ zmo g σ' a th size wr ps' lv ot ak fr pr M')) := by
  generalize hX0 : zm_yl (zmd T size) 4 ps (nI 0) = X0
  have hF : zfr σ σ a 22 := zfr.rf
  have loop : ∀ (kk n ps1 : Nat) (v : Int32) (σ1 : zx_M), n + kk = 4 → ps1 ≤ ps + n → zm_yl (zmd T size) kk ps1 v = X0 → zmo g σ1 a th size wr ps1 lv ot ak fr pr M → zfr σ σ1 a 22 → zE g "FindingAidModel" cb_M_year 7 (Option.some Jvm.ClassFile.FieldType.boolean) false zr_M_year 0 0 (zPi (fun v σ' sz' => sz' = sz ∧ zfr σ σ' a 22 ∧ ∃ ok ps' M', zm_yr1 (X0) 5 i ps least M = (ok, ps', M') ∧ v = zb ok ∧ ps' ≤ ps + 4 ∧ M' 0 = T ∧ (True) ∧ zmo g σ' a th size wr ps' lv ot ak fr pr M')) 12 [(6, .int (nI n)), (5, .int v), (4, .int (nI ps)), (0, .ref a), (1, .ref (a + 6)), (2, .int (nI i)), (3, .int least)] [] σ1 sz 0 0 := by
    intro kk
    induction kk with
    | zero =>
      intro n ps1 v σ1 hk hpb hE hM hF
      refine ze_iload 0 cd_M_year_12 rfl ?_
      refine ze_iconst (v := nI 4) cd_M_year_14 (by decide) ?_
      refine ze_icmp_ge (tgt := 58) cd_M_year_15 (by decide) (fun c2 => ?_) (fun c2 => ?_)
      · skip
        have c2 : 4 ≤ n := (nI_leI (by omega) (by omega)).mp c2
        refine ze_aload_n 4 cd_M_year_58 rfl rfl ?_
        refine ze_iload_n 5 cd_M_year_59 rfl rfl ?_
        refine ze_iload 1 cd_M_year_60 rfl ?_
        refine ze_iast (j := i) cd_M_year_62 (hM.2 5 _ rfl) rfl (by omega) (by decide) ?_
        have hM := hM.ar 5 0 300 rfl (b := a + 6) (f := upd (M 5) i v) (by omega)
        have hF := hF.up (a := a + 6) (e := .inl (g.2.2.2.1 0, 300, .inl (upd (M 5) i v))) (by omega) (by omega)
        refine ze_iload 1 cd_M_year_63 rfl ?_
        refine ze_iload_n 6 cd_M_year_65 rfl rfl ?_
        refine ze_sipush (v := nI 2999) cd_M_year_66 (by decide) ?_
        refine ze_callSp (rm' := zr_M_in) (As := [.int v, .int least, .int (nI 2999)]) (rest := []) kc_M_in ⟨rfl, rfl⟩ zy_M_in_ok zm_856 zm_857 (by decide) (by decide) cd_M_year_69 rfl rfl (Nat.le_of_ble_eq_true rfl) ?_
        refine ze_if_eq (tgt := 77) cd_M_year_72 (by decide) (fun c3 => ?_) (fun c3 => ?_)
        · skip
          have c3 : (zm_in v least (nI 2999)) = false := zb_f c3
          refine ze_aload_n 3 cd_M_year_77 rfl rfl ?_
          refine ze_iload 2 cd_M_year_78 rfl ?_
          refine ze_put zin_M zy_M zt_M zn_M (ci := 7) rfl 4 (by decide) zm_726 rfl (Or.inl rfl) cd_M_year_80 hM.1 rfl rfl (Nat.le_of_ble_eq_true rfl) (fs' := [.int th, .int (nI size), .ref (a + 1), .int wr, .int (nI ps), .int (nI lv), .int (nI ot), .ref (a + 2), .ref (a + 3), .ref (a + 4), .ref (a + 5), .ref (a + 6), .ref (a + 7), .ref (a + 8), .ref (a + 9), .ref (a + 10), .ref (a + 11), .ref (a + 12), .ref (a + 13), .ref (a + 14), .ref (a + 15), .ref (a + 16), .ref (a + 17), .int (nI ak), .ref (a + 18), .ref (a + 19), .ref (a + 20), .int fr, .int (nI pr), .ref (a + 21)]) rfl ?_
          have hM := hM.put (fs' := [.int th, .int (nI size), .ref (a + 1), .int wr, .int (nI ps), .int (nI lv), .int (nI ot), .ref (a + 2), .ref (a + 3), .ref (a + 4), .ref (a + 5), .ref (a + 6), .ref (a + 7), .ref (a + 8), .ref (a + 9), .ref (a + 10), .ref (a + 11), .ref (a + 12), .ref (a + 13), .ref (a + 14), .ref (a + 15), .ref (a + 16), .ref (a + 17), .int (nI ak), .ref (a + 18), .ref (a + 19), .ref (a + 20), .int fr, .int (nI pr), .ref (a + 21)])
          have hF := hF.up (a := a) (e := .inr (7, [.int th, .int (nI size), .ref (a + 1), .int wr, .int (nI ps), .int (nI lv), .int (nI ot), .ref (a + 2), .ref (a + 3), .ref (a + 4), .ref (a + 5), .ref (a + 6), .ref (a + 7), .ref (a + 8), .ref (a + 9), .ref (a + 10), .ref (a + 11), .ref (a + 12), .ref (a + 13), .ref (a + 14), .ref (a + 15), .ref (a + 16), .ref (a + 17), .int (nI ak), .ref (a + 18), .ref (a + 19), .ref (a + 20), .int fr, .int (nI pr), .ref (a + 21)])) (by omega) (by omega)
          refine ze_iconst (v := nI 0) cd_M_year_83 (by decide) ?_
          refine ze_zret cd_M_year_84 rfl (by decide) (by decide) (by decide) ⟨_, rfl, rfl, hF, false, ps, va_up M 5 (upd (M 5) i v), ?_, (by decide), by omega, hT0, trivial, hM⟩
          rw [← hE]; simp [zm_yl, zm_yr1, c2, c3]
        · skip
          have c3 : (zm_in v least (nI 2999)) = true := zb_t c3
          refine ze_iconst (v := nI 1) cd_M_year_75 (by decide) ?_
          refine ze_zret cd_M_year_76 rfl (by decide) (by decide) (by decide) ⟨_, rfl, rfl, hF, true, ps1, va_up M 5 (upd (M 5) i v), ?_, (by decide), by omega, hT0, trivial, hM⟩
          rw [← hE]; simp [zm_yl, zm_yr1, c2, c3]
      · skip
        have c2 : ¬ 4 ≤ n := fun h9 => c2 ((nI_leI (by omega) (by omega)).mpr h9)
        exfalso; omega
    | succ kk ih =>
      intro n ps1 v σ1 hk hpb hE hM hF
      refine ze_iload 0 cd_M_year_12 rfl ?_
      refine ze_iconst (v := nI 4) cd_M_year_14 (by decide) ?_
      refine ze_icmp_ge (tgt := 58) cd_M_year_15 (by decide) (fun c5 => ?_) (fun c5 => ?_)
      · skip
        have c5 : 4 ≤ n := (nI_leI (by omega) (by omega)).mp c5
        exfalso; omega
      · skip
        have c5 : ¬ 4 ≤ n := fun h9 => c5 ((nI_leI (by omega) (by omega)).mpr h9)
        refine ze_aload_n 3 cd_M_year_18 rfl rfl ?_
        refine ze_callVp (rm' := zr_M_isDigit) (b := a) (As := []) (rest := []) (kc_M_isDigit (T := T) hM hT0 hsz (by omega)) ⟨rfl, rfl⟩ zy_M_isDigit_ok zm_852 zm_854 zm_34 (ci := 7) rfl rfl (by decide) (by decide) cd_M_year_19 hM.1 rfl rfl (Nat.le_of_ble_eq_true rfl) ?_
        refine ze_if_ne (tgt := 27) cd_M_year_22 (by decide) (fun c6 => ?_) (fun c6 => ?_)
        · skip
          have c6 : (zt_d (zmd T size ps1)) = true := zb_t c6
          refine ze_bipush (v := nI 10) cd_M_year_27 (by decide) ?_
          refine ze_iload 1 cd_M_year_29 rfl ?_
          refine ze_imul cd_M_year_31 ?_
          refine ze_aload_n 3 cd_M_year_32 rfl rfl ?_
          refine ze_callVp (rm' := zr_M_look) (b := a) (As := []) (rest := [.int ((nI 10) * v)]) (kc_M_look2 (T := T) hM hT0 hsz (by omega)) ⟨rfl, rfl⟩ zy_M_look_ok zm_841 zm_843 zm_32 (ci := 7) rfl rfl (by decide) (by decide) cd_M_year_33 hM.1 rfl rfl (Nat.le_of_ble_eq_true rfl) ?_
          refine ze_iadd cd_M_year_36 ?_
          refine ze_bipush (v := nI 48) cd_M_year_37 (by decide) ?_
          refine ze_isub cd_M_year_39 ?_
          refine ze_istore (lv' := [(5, .int ((((nI 10) * v) + (zmd T size ps1)) - (nI 48))), (6, .int (nI n)), (4, .int (nI ps)), (0, .ref a), (1, .ref (a + 6)), (2, .int (nI i)), (3, .int least)]) cd_M_year_40 (by decide) rfl ?_
          refine ze_aload_n 3 cd_M_year_42 rfl rfl ?_
          refine ze_dup cd_M_year_43 rfl ?_
          refine ze_get zin_M (v := .int (nI ps1)) (ci := 7) rfl 4 (by decide) zm_726 rfl cd_M_year_44 hM.1 rfl ?_
          refine ze_iconst (v := nI 1) cd_M_year_47 (by decide) ?_
          refine ze_iadd cd_M_year_48 ?_
          refine ze_top (y := nI (ps1 + 1)) (nI_add _ _) ?_
          refine ze_put zin_M zy_M zt_M zn_M (ci := 7) rfl 4 (by decide) zm_726 rfl (Or.inl rfl) cd_M_year_49 hM.1 rfl rfl (Nat.le_of_ble_eq_true rfl) (fs' := [.int th, .int (nI size), .ref (a + 1), .int wr, .int (nI (ps1 + 1)), .int (nI lv), .int (nI ot), .ref (a + 2), .ref (a + 3), .ref (a + 4), .ref (a + 5), .ref (a + 6), .ref (a + 7), .ref (a + 8), .ref (a + 9), .ref (a + 10), .ref (a + 11), .ref (a + 12), .ref (a + 13), .ref (a + 14), .ref (a + 15), .ref (a + 16), .ref (a + 17), .int (nI ak), .ref (a + 18), .ref (a + 19), .ref (a + 20), .int fr, .int (nI pr), .ref (a + 21)]) rfl ?_
          have hM := hM.put (fs' := [.int th, .int (nI size), .ref (a + 1), .int wr, .int (nI (ps1 + 1)), .int (nI lv), .int (nI ot), .ref (a + 2), .ref (a + 3), .ref (a + 4), .ref (a + 5), .ref (a + 6), .ref (a + 7), .ref (a + 8), .ref (a + 9), .ref (a + 10), .ref (a + 11), .ref (a + 12), .ref (a + 13), .ref (a + 14), .ref (a + 15), .ref (a + 16), .ref (a + 17), .int (nI ak), .ref (a + 18), .ref (a + 19), .ref (a + 20), .int fr, .int (nI pr), .ref (a + 21)])
          have hF := hF.up (a := a) (e := .inr (7, [.int th, .int (nI size), .ref (a + 1), .int wr, .int (nI (ps1 + 1)), .int (nI lv), .int (nI ot), .ref (a + 2), .ref (a + 3), .ref (a + 4), .ref (a + 5), .ref (a + 6), .ref (a + 7), .ref (a + 8), .ref (a + 9), .ref (a + 10), .ref (a + 11), .ref (a + 12), .ref (a + 13), .ref (a + 14), .ref (a + 15), .ref (a + 16), .ref (a + 17), .int (nI ak), .ref (a + 18), .ref (a + 19), .ref (a + 20), .int fr, .int (nI pr), .ref (a + 21)])) (by omega) (by omega)
          refine ze_iinc (v := nI (n + 1)) (lv' := [(6, .int (nI (n + 1))), (5, .int ((((nI 10) * v) + (zmd T size ps1)) - (nI 48))), (4, .int (nI ps)), (0, .ref a), (1, .ref (a + 6)), (2, .int (nI i)), (3, .int least)]) 1 cd_M_year_52 rfl (nI_add _ 1) (by decide) rfl ?_
          refine ze_goto (tgt := 12) cd_M_year_55 (by decide) ?_
          exact ze_sub [0, 1, 2, 3, 4, 5, 6] rfl (ih (n + 1) _ _ _ (by omega) (by omega) (by rw [← hE]; simp [zm_yl, c6]) hM hF)
        · skip
          have c6 : (zt_d (zmd T size ps1)) = false := zb_f c6
          refine ze_iconst (v := nI 0) cd_M_year_25 (by decide) ?_
          refine ze_zret cd_M_year_26 rfl (by decide) (by decide) (by decide) ⟨_, rfl, rfl, hF, false, ps1, M, ?_, (by decide), by omega, hT0, trivial, hM⟩
          rw [← hE]; simp [zm_yl, zm_yr1, c5, c6]
  refine zM_of (lv := [(0, .ref a), (1, .ref (a + 6)), (2, .int (nI i)), (3, .int least)]) (ini := false) (by decide) rfl (by decide) (Nat.le_of_ble_eq_true rfl) rfl ?_
  refine ze_aload_n 0 cd_M_year_0 rfl rfl ?_
  refine ze_get zin_M (v := .int (nI ps)) (ci := 7) rfl 4 (by decide) zm_726 rfl cd_M_year_1 hM.1 rfl ?_
  refine ze_istore (lv' := [(4, .int (nI ps)), (0, .ref a), (1, .ref (a + 6)), (2, .int (nI i)), (3, .int least)]) cd_M_year_4 (by decide) rfl ?_
  refine ze_iconst (v := nI 0) cd_M_year_6 (by decide) ?_
  refine ze_istore (lv' := [(5, .int (nI 0)), (4, .int (nI ps)), (0, .ref a), (1, .ref (a + 6)), (2, .int (nI i)), (3, .int least)]) cd_M_year_7 (by decide) rfl ?_
  refine ze_iconst (v := nI 0) cd_M_year_9 (by decide) ?_
  refine ze_istore (lv' := [(6, .int (nI 0)), (5, .int (nI 0)), (4, .int (nI ps)), (0, .ref a), (1, .ref (a + 6)), (2, .int (nI i)), (3, .int least)]) cd_M_year_10 (by decide) rfl ?_
  exact ze_sub [0, 1, 2, 3, 4, 5, 6] rfl (loop 4 0 ps _ _ (by omega) (by omega) hX0 hM hF)
abbrev zr_M_kindOf : Room := { frames := 0, cells := 0, slots := 0, locals := 0 }
set_option maxRecDepth 100000 in
set_option maxHeartbeats 4000000 in
theorem kc_M_kindOf {g : zx_G} {σ : zx_M} {sz : Nat} {x : Int32}  : zM g cy_M_kindOf cb_M_kindOf 1 (Option.some Jvm.ClassFile.FieldType.int) zr_M_kindOf 0 0 [.int x] σ sz (zPp (zo (zt_ix zc_k1 4 x)) σ sz) := by
  refine zM_of (lv := [(0, .int x)]) (ini := false) (by decide) rfl (by decide) (Nat.le_of_ble_eq_true rfl) rfl ?_
  refine ze_iload_n 0 cd_M_kindOf_0 rfl rfl ?_
  refine ze_bipush (v := nI 102) cd_M_kindOf_1 (by decide) ?_
  refine ze_icmp_ne (tgt := 10) cd_M_kindOf_3 (by decide) (fun c1 => ?_) (fun c1 => ?_)
  · skip
    refine ze_iload_n 0 cd_M_kindOf_10 rfl rfl ?_
    refine ze_bipush (v := nI 115) cd_M_kindOf_11 (by decide) ?_
    refine ze_icmp_ne (tgt := 20) cd_M_kindOf_13 (by decide) (fun c2 => ?_) (fun c2 => ?_)
    · skip
      refine ze_iload_n 0 cd_M_kindOf_20 rfl rfl ?_
      refine ze_bipush (v := nI 117) cd_M_kindOf_21 (by decide) ?_
      refine ze_icmp_ne (tgt := 30) cd_M_kindOf_23 (by decide) (fun c3 => ?_) (fun c3 => ?_)
      · skip
        refine ze_iload_n 0 cd_M_kindOf_30 rfl rfl ?_
        refine ze_bipush (v := nI 105) cd_M_kindOf_31 (by decide) ?_
        refine ze_icmp_ne (tgt := 40) cd_M_kindOf_33 (by decide) (fun c4 => ?_) (fun c4 => ?_)
        · skip
          refine ze_iconst (v := (-1 : Int32)) cd_M_kindOf_40 (by decide) ?_
          refine ze_iret cd_M_kindOf_41 rfl (by decide) (by decide) (zPp_mk ?_)
          simp_all [zt_ix, zfindo, zc_k1, zo, nI, eq_comm]
        · skip
          refine ze_iconst (v := nI 3) cd_M_kindOf_36 (by decide) ?_
          refine ze_goto (tgt := 41) cd_M_kindOf_37 (by decide) ?_
          refine ze_iret cd_M_kindOf_41 rfl (by decide) (by decide) (zPp_mk ?_)
          simp_all [zt_ix, zfindo, zc_k1, zo, nI, eq_comm]
      · skip
        refine ze_iconst (v := nI 2) cd_M_kindOf_26 (by decide) ?_
        refine ze_goto (tgt := 41) cd_M_kindOf_27 (by decide) ?_
        refine ze_iret cd_M_kindOf_41 rfl (by decide) (by decide) (zPp_mk ?_)
        simp_all [zt_ix, zfindo, zc_k1, zo, nI, eq_comm]
    · skip
      refine ze_iconst (v := nI 1) cd_M_kindOf_16 (by decide) ?_
      refine ze_goto (tgt := 41) cd_M_kindOf_17 (by decide) ?_
      refine ze_iret cd_M_kindOf_41 rfl (by decide) (by decide) (zPp_mk ?_)
      simp_all [zt_ix, zfindo, zc_k1, zo, nI, eq_comm]
  · skip
    refine ze_iconst (v := nI 0) cd_M_kindOf_6 (by decide) ?_
    refine ze_goto (tgt := 41) cd_M_kindOf_7 (by decide) ?_
    refine ze_iret cd_M_kindOf_41 rfl (by decide) (by decide) (zPp_mk ?_)
    simp_all [zt_ix, zfindo, zc_k1, zo, nI, eq_comm]
/-- a forest: whom each is under, and how deep -/
def zfor (un : Nat → Int32) (pa : Nat → Option Nat) (dp : Nat → Nat) (D : Nat → Prop) : Prop := ∀ j, D j → j < 300 ∧ dp j ≤ 8 ∧ un j = zo (pa j) ∧ (∀ p, pa j = some p → D p ∧ dp p + 1 = dp j) ∧ (pa j = none → dp j = 0)
abbrev zr_M_depth : Room := { frames := 0, cells := 0, slots := 0, locals := 0 }
set_option maxRecDepth 100000 in
set_option maxHeartbeats 4000000 in
theorem kc_M_depth {g : zx_G} {σ : zx_M} {sz : Nat} {a size ps lv ot ak pr : Nat} {th wr fr : Int32} {M : Nat → Nat → Int32} {pa : Nat → Option Nat} {dp : Nat → Nat} {D : Nat → Prop} {i : Nat} (hM : zmo g σ a th size wr ps lv ot ak fr pr M) (hfo : zfor (M 3) pa dp D) (hDi : D i) : zM g cy_M_depth cb_M_depth 4 (Option.some Jvm.ClassFile.FieldType.int) zr_M_depth 0 0 [.ref a, .int (nI i)] σ sz (zPp (nI (dp i)) σ sz) := by
  have loop : ∀ (kk n : Nat) (o : Option Nat), (o = none → n = dp i) → (∀ p, o = some p → D p ∧ n + dp p + 1 = dp i ∧ dp p < kk) → zE g "FindingAidModel" cb_M_depth 4 (Option.some Jvm.ClassFile.FieldType.int) false zr_M_depth 0 0 (zPp (nI (dp i)) σ sz) 9 [(3, .int (zo o)), (2, .int (nI n)), (0, .ref a), (1, .int (nI i))] [] σ sz 0 0 := by
    intro kk
    induction kk with
    | zero =>
      intro n o hn ho
      cases o with
      | none =>
        have hn := hn rfl
        refine ze_iload_n 0 cd_M_depth_9 rfl rfl ?_
        refine ze_if_lt (tgt := 26) cd_M_depth_10 (by decide) (fun _ => ?_) (fun c9 => absurd (by decide) c9)
        refine ze_iload_n 1 cd_M_depth_26 rfl rfl ?_
        refine ze_iret cd_M_depth_27 rfl (by decide) (by decide) (zPp_mk ?_)
        rw [hn]
      | some q =>
        obtain ⟨hDq, hnq, hkq⟩ := ho q rfl
        exfalso; omega
    | succ kk ih =>
      intro n o hn ho
      cases o with
      | none =>
        have hn := hn rfl
        refine ze_iload_n 0 cd_M_depth_9 rfl rfl ?_
        refine ze_if_lt (tgt := 26) cd_M_depth_10 (by decide) (fun _ => ?_) (fun c9 => absurd (by decide) c9)
        refine ze_iload_n 1 cd_M_depth_26 rfl rfl ?_
        refine ze_iret cd_M_depth_27 rfl (by decide) (by decide) (zPp_mk ?_)
        rw [hn]
      | some q =>
        obtain ⟨hDq, hnq, hkq⟩ := ho q rfl
        obtain ⟨hq3, hq8, hqu, hqp, hqn⟩ := hfo q hDq
        refine ze_iload_n 0 cd_M_depth_9 rfl rfl ?_
        refine ze_if_lt (tgt := 26) cd_M_depth_10 (by decide) (fun c9 => absurd c9 (nI_pos (by omega))) (fun _ => ?_)
        refine ze_iinc (v := nI (n + 1)) (lv' := [(2, .int (nI (n + 1))), (3, .int (nI q)), (0, .ref a), (1, .int (nI i))]) 1 cd_M_depth_13 rfl (nI_add _ 1) (by decide) rfl ?_
        refine ze_aload_n 2 cd_M_depth_16 rfl rfl ?_
        refine ze_get zin_M (v := .ref (a + 4)) (ci := 7) rfl 9 (by decide) zm_731 rfl cd_M_depth_17 hM.1 rfl ?_
        refine ze_iload_n 1 cd_M_depth_20 rfl rfl ?_
        refine ze_iald (j := q) cd_M_depth_21 (hM.2 3 _ rfl) rfl (by omega) (by decide) ?_
        refine ze_top hqu ?_
        refine ze_istore_n (lv' := [(3, .int (zo (pa q))), (2, .int (nI (n + 1))), (0, .ref a), (1, .int (nI i))]) cd_M_depth_22 rfl (by decide) rfl ?_
        refine ze_goto (tgt := 9) cd_M_depth_23 (by decide) ?_
        exact ze_sub [0, 1, 2, 3] rfl (ih (n + 1) (pa q) (fun h9 => by have := hqn h9; omega) (fun p hp => by have := hqp p hp; exact ⟨this.1, by omega, by omega⟩))
  obtain ⟨hi3, hi8, hiu, hip, hin⟩ := hfo i hDi
  refine zM_of (lv := [(0, .ref a), (1, .int (nI i))]) (ini := false) (by decide) rfl (by decide) (Nat.le_of_ble_eq_true rfl) rfl ?_
  refine ze_iconst (v := nI 0) cd_M_depth_0 (by decide) ?_
  refine ze_istore_n (lv' := [(2, .int (nI 0)), (0, .ref a), (1, .int (nI i))]) cd_M_depth_1 rfl (by decide) rfl ?_
  refine ze_aload_n 1 cd_M_depth_2 rfl rfl ?_
  refine ze_get zin_M (v := .ref (a + 4)) (ci := 7) rfl 9 (by decide) zm_731 rfl cd_M_depth_3 hM.1 rfl ?_
  refine ze_iload_n 2 cd_M_depth_6 rfl rfl ?_
  refine ze_iald (j := i) cd_M_depth_7 (hM.2 3 _ rfl) rfl (by omega) (by decide) ?_
  refine ze_top hiu ?_
  refine ze_istore_n (lv' := [(3, .int (zo (pa i))), (2, .int (nI 0)), (0, .ref a), (1, .int (nI i))]) cd_M_depth_8 rfl (by decide) rfl ?_
  exact ze_sub [0, 1, 2, 3] rfl (loop 9 0 (pa i) (fun h9 => by have := hin h9; omega) (fun p hp => by have := hip p hp; exact ⟨this.1, by omega, by omega⟩))
