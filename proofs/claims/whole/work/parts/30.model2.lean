def zmd (T : Nat → Int32) (size : Nat) : Nat → Int32 := za (fun j => T j &&& nI 255) size
theorem kc_M_look2 {g : zx_G} {σ : zx_M} {sz : Nat} {a size ps lv ot ak pr : Nat} {th wr fr : Int32} {M : Nat → Nat → Int32} {T : Nat → Int32} (hM : zmo g σ a th size wr ps lv ot ak fr pr M) (hT0 : M 0 = T) (hsz : size ≤ 3000) (hps : ps ≤ 20000) : zM g cy_M_look cb_M_look 1 (some .int) zr_M_look 0 0 [.ref a] σ sz (zPp (zmd T size ps) σ sz) := by
  have h := kc_M_look (sz := sz) hM hsz hps
  have h2 : zmc M size ps = zmd T size ps := by unfold zmc zmd zmt; rw [hT0]
  rw [h2] at h
  exact h
abbrev zr_M_isDigit : Room := { frames := 1, cells := 0, slots := 0, locals := 22 }
set_option maxRecDepth 100000 in
set_option maxHeartbeats 4000000 in
theorem kc_M_isDigit {g : zx_G} {σ : zx_M} {sz : Nat} {a size ps lv ot ak pr : Nat} {th wr fr : Int32} {M : Nat → Nat → Int32} {T : Nat → Int32} (hM : zmo g σ a th size wr ps lv ot ak fr pr M) (hT0 : M 0 = T) (hsz : size ≤ 3000) (hps : ps ≤ 18000) : zM g cy_M_isDigit cb_M_isDigit 1 (Option.some Jvm.ClassFile.FieldType.boolean) zr_M_isDigit 0 0 [.ref a] σ sz (zPp (zb (zt_d (zmd T size ps))) σ sz) := by
  refine zM_of (lv := [(0, .ref a)]) (ini := false) (by decide) rfl (by decide) (Nat.le_of_ble_eq_true rfl) rfl ?_
  refine ze_aload_n 0 cd_M_isDigit_0 rfl rfl ?_
  refine ze_callVp (rm' := zr_M_look) (b := a) (As := []) (rest := []) (kc_M_look2 (T := T) hM hT0 hsz (by omega)) ⟨rfl, rfl⟩ zy_M_look_ok zm_841 zm_843 zm_32 (ci := 7) rfl rfl (by decide) (by decide) cd_M_isDigit_1 hM.1 rfl rfl (Nat.le_of_ble_eq_true rfl) ?_
  refine ze_bipush (v := nI 48) cd_M_isDigit_4 (by decide) ?_
  refine ze_bipush (v := nI 57) cd_M_isDigit_6 (by decide) ?_
  refine ze_callSp (rm' := zr_M_in) (As := [.int (zmd T size ps), .int (nI 48), .int (nI 57)]) (rest := []) kc_M_in ⟨rfl, rfl⟩ zy_M_in_ok zm_856 zm_857 (by decide) (by decide) cd_M_isDigit_8 rfl rfl (Nat.le_of_ble_eq_true rfl) ?_
  refine ze_zret cd_M_isDigit_11 rfl (zb_or _) (by decide) (by decide) (zPp_mk ?_)
  rfl
abbrev zqs : Type := Bool × Nat × (Nat → Nat → Int32)
def zm_eat (c : Nat → Int32) (x : Int32) (ps : Nat) (M : Nat → Nat → Int32) : zqs := if c ps = x then (true, ps + 1, M) else (false, ps, M)
def zm_nl (c : Nat → Int32) : Nat → Nat → Nat → Int32 → Bool × Nat × Int32
  | 0, _, ps, v => (false, ps, v)
  | kk + 1, n, ps, v => if zt_d (c ps) then (if n = 4 then (false, ps, v) else zm_nl c kk (n + 1) (ps + 1) (nI 10 * v + c ps - nI 48)) else (true, ps, v)
def zm_num1 (q : Bool × Nat × Int32) (r i : Nat) (M : Nat → Nat → Int32) : zqs := if q.1 then (true, q.2.1, va_up M r (upd (M r) i q.2.2)) else (false, q.2.1, M)
def zm_num (c : Nat → Int32) (r i ps : Nat) (M : Nat → Nat → Int32) : zqs := if zt_d (c ps) then (if c ps = nI 48 then (false, ps, M) else zm_num1 (zm_nl c 5 0 ps (nI 0)) r i M) else (false, ps, M)
def zm_yl (c : Nat → Int32) : Nat → Nat → Int32 → Bool × Nat × Int32
  | 0, ps, v => (true, ps, v)
  | kk + 1, ps, v => if zt_d (c ps) then zm_yl c kk (ps + 1) (nI 10 * v + c ps - nI 48) else (false, ps, v)
def zm_yr1 (q : Bool × Nat × Int32) (r i ps : Nat) (least : Int32) (M : Nat → Nat → Int32) : zqs := if q.1 then (if zm_in q.2.2 least (nI 2999) then (true, q.2.1, va_up M r (upd (M r) i q.2.2)) else (false, ps, va_up M r (upd (M r) i q.2.2))) else (false, q.2.1, M)
def zm_yr (c : Nat → Int32) (r i ps : Nat) (least : Int32) (M : Nat → Nat → Int32) : zqs := zm_yr1 (zm_yl c 4 ps (nI 0)) r i ps least M
abbrev zr_M_eat : Room := { frames := 1, cells := 0, slots := 0, locals := 20 }
set_option maxRecDepth 100000 in
set_option maxHeartbeats 4000000 in
theorem kc_M_eat {g : zx_G} {σ : zx_M} {sz : Nat} {a size ps lv ot ak pr : Nat} {th wr fr : Int32} {M : Nat → Nat → Int32} {T : Nat → Int32} {x : Int32} (hM : zmo g σ a th size wr ps lv ot ak fr pr M) (hT0 : M 0 = T) (hsz : size ≤ 3000) (hps : ps ≤ 16000) : zM g cy_M_eat cb_M_eat 2 (Option.some Jvm.ClassFile.FieldType.boolean) zr_M_eat 0 0 [.ref a, .int x] σ sz (zPi (fun v σ' sz' => sz' = sz ∧ zfr σ σ' a 22 ∧ ∃ ok ps' M', zm_eat (zmd T size) x ps M = (ok, ps', M') ∧ v = zb ok ∧ ps' ≤ ps + 1 ∧ M' 0 = T ∧ (M = M') ∧ zmo g σ' a th size wr ps' lv ot ak fr pr M')) := by
  have hF : zfr σ σ a 22 := zfr.rf
  refine zM_of (lv := [(0, .ref a), (1, .int x)]) (ini := false) (by decide) rfl (by decide) (Nat.le_of_ble_eq_true rfl) rfl ?_
  refine ze_aload_n 0 cd_M_eat_0 rfl rfl ?_
  refine ze_callVp (rm' := zr_M_look) (b := a) (As := []) (rest := []) (kc_M_look2 (T := T) hM hT0 hsz (by omega)) ⟨rfl, rfl⟩ zy_M_look_ok zm_841 zm_843 zm_32 (ci := 7) rfl rfl (by decide) (by decide) cd_M_eat_1 hM.1 rfl rfl (Nat.le_of_ble_eq_true rfl) ?_
  refine ze_iload_n 1 cd_M_eat_4 rfl rfl ?_
  refine ze_icmp_eq (tgt := 10) cd_M_eat_5 (by decide) (fun c1 => ?_) (fun c1 => ?_)
  · skip
    refine ze_aload_n 0 cd_M_eat_10 rfl rfl ?_
    refine ze_dup cd_M_eat_11 rfl ?_
    refine ze_get zin_M (v := .int (nI ps)) (ci := 7) rfl 4 (by decide) zm_726 rfl cd_M_eat_12 hM.1 rfl ?_
    refine ze_iconst (v := nI 1) cd_M_eat_15 (by decide) ?_
    refine ze_iadd cd_M_eat_16 ?_
    refine ze_top (y := nI (ps + 1)) (nI_add _ _) ?_
    refine ze_put zin_M zy_M zt_M zn_M (ci := 7) rfl 4 (by decide) zm_726 rfl (Or.inl rfl) cd_M_eat_17 hM.1 rfl rfl (Nat.le_of_ble_eq_true rfl) (fs' := [.int th, .int (nI size), .ref (a + 1), .int wr, .int (nI (ps + 1)), .int (nI lv), .int (nI ot), .ref (a + 2), .ref (a + 3), .ref (a + 4), .ref (a + 5), .ref (a + 6), .ref (a + 7), .ref (a + 8), .ref (a + 9), .ref (a + 10), .ref (a + 11), .ref (a + 12), .ref (a + 13), .ref (a + 14), .ref (a + 15), .ref (a + 16), .ref (a + 17), .int (nI ak), .ref (a + 18), .ref (a + 19), .ref (a + 20), .int fr, .int (nI pr), .ref (a + 21)]) rfl ?_
    have hM := hM.put (fs' := [.int th, .int (nI size), .ref (a + 1), .int wr, .int (nI (ps + 1)), .int (nI lv), .int (nI ot), .ref (a + 2), .ref (a + 3), .ref (a + 4), .ref (a + 5), .ref (a + 6), .ref (a + 7), .ref (a + 8), .ref (a + 9), .ref (a + 10), .ref (a + 11), .ref (a + 12), .ref (a + 13), .ref (a + 14), .ref (a + 15), .ref (a + 16), .ref (a + 17), .int (nI ak), .ref (a + 18), .ref (a + 19), .ref (a + 20), .int fr, .int (nI pr), .ref (a + 21)])
    have hF := hF.up (a := a) (e := .inr (7, [.int th, .int (nI size), .ref (a + 1), .int wr, .int (nI (ps + 1)), .int (nI lv), .int (nI ot), .ref (a + 2), .ref (a + 3), .ref (a + 4), .ref (a + 5), .ref (a + 6), .ref (a + 7), .ref (a + 8), .ref (a + 9), .ref (a + 10), .ref (a + 11), .ref (a + 12), .ref (a + 13), .ref (a + 14), .ref (a + 15), .ref (a + 16), .ref (a + 17), .int (nI ak), .ref (a + 18), .ref (a + 19), .ref (a + 20), .int fr, .int (nI pr), .ref (a + 21)])) (by omega) (by omega)
    refine ze_iconst (v := nI 1) cd_M_eat_20 (by decide) ?_
    refine ze_zret cd_M_eat_21 rfl (by decide) (by decide) (by decide) ⟨_, rfl, rfl, hF, true, ps + 1, M, ?_, (by decide), by omega, hT0, rfl, hM⟩
    simp [zm_eat, c1]
  · skip
    refine ze_iconst (v := nI 0) cd_M_eat_8 (by decide) ?_
    refine ze_zret cd_M_eat_9 rfl (by decide) (by decide) (by decide) ⟨_, rfl, rfl, hF, false, ps, M, ?_, (by decide), by omega, hT0, rfl, hM⟩
    simp [zm_eat, c1]
abbrev zr_M_number : Room := { frames := 2, cells := 0, slots := 0, locals := 42 }
set_option maxRecDepth 100000 in
set_option maxHeartbeats 4000000 in
theorem kc_M_number_2 {g : zx_G} {σ : zx_M} {sz : Nat} {a size ps lv ot ak pr : Nat} {th wr fr : Int32} {M : Nat → Nat → Int32} {T : Nat → Int32} {i : Nat} (hM : zmo g σ a th size wr ps lv ot ak fr pr M) (hT0 : M 0 = T) (hsz : size ≤ 3000) (hps : ps ≤ 15000) (hi : i < 300) : zM g cy_M_number cb_M_number 5 (Option.some Jvm.ClassFile.FieldType.boolean) zr_M_number 0 0 [.ref a, .ref (a + 3), .int (nI i)] σ sz (zPi (fun v σ' sz' => sz' = sz ∧ zfr σ σ' a 22 ∧ ∃ ok ps' M', zm_num (zmd T size) 2 i ps M = (ok, ps', M') ∧ v = zb ok ∧ ps' ≤ ps + 5 ∧ M' 0 = T ∧ (True) ∧ zmo g σ' a th size wr ps' lv ot ak fr pr M')) := by
  have hF : zfr σ σ a 22 := zfr.rf
  have loop : zt_d (zmd T size ps) = true → ¬ zmd T size ps = nI 48 → ∀ (kk n ps1 : Nat) (v : Int32) (σ1 : zx_M), n + kk = 5 → n ≤ 4 → ps1 ≤ ps + n → zm_nl (zmd T size) kk n ps1 v = zm_nl (zmd T size) 5 0 ps (nI 0) → zmo g σ1 a th size wr ps1 lv ot ak fr pr M → zfr σ σ1 a 22 → zE g "FindingAidModel" cb_M_number 5 (Option.some Jvm.ClassFile.FieldType.boolean) false zr_M_number 0 0 (zPi (fun v σ' sz' => sz' = sz ∧ zfr σ σ' a 22 ∧ ∃ ok ps' M', zm_num (zmd T size) 2 i ps M = (ok, ps', M') ∧ v = zb ok ∧ ps' ≤ ps + 5 ∧ M' 0 = T ∧ (True) ∧ zmo g σ' a th size wr ps' lv ot ak fr pr M')) 23 [(4, .int (nI n)), (3, .int v), (0, .ref a), (1, .ref (a + 3)), (2, .int (nI i))] [] σ1 sz 0 0 := by
    intro hd1 hd2 kk
    induction kk with
    | zero => intro n ps1 v σ1 hk hn4 hpb hE hM hF; exfalso; omega
    | succ kk ih =>
      intro n ps1 v σ1 hk hn4 hpb hE hM hF
      refine ze_aload_n 2 cd_M_number_23 rfl rfl ?_
      refine ze_callVp (rm' := zr_M_isDigit) (b := a) (As := []) (rest := []) (kc_M_isDigit (T := T) hM hT0 hsz (by omega)) ⟨rfl, rfl⟩ zy_M_isDigit_ok zm_852 zm_854 zm_34 (ci := 7) rfl rfl (by decide) (by decide) cd_M_number_24 hM.1 rfl rfl (Nat.le_of_ble_eq_true rfl) ?_
      refine ze_if_eq (tgt := 67) cd_M_number_27 (by decide) (fun c1 => ?_) (fun c1 => ?_)
      · skip
        have c1 : (zt_d (zmd T size ps1)) = false := zb_f c1
        refine ze_aload_n 3 cd_M_number_67 rfl rfl ?_
        refine ze_iload_n 4 cd_M_number_68 rfl rfl ?_
        refine ze_iload_n 1 cd_M_number_69 rfl rfl ?_
        refine ze_iast (j := i) cd_M_number_70 (hM.2 2 _ rfl) rfl (by omega) (by decide) ?_
        have hM := hM.ar 2 0 300 rfl (b := a + 3) (f := upd (M 2) i v) (by omega)
        have hF := hF.up (a := a + 3) (e := .inl (g.2.2.2.1 0, 300, .inl (upd (M 2) i v))) (by omega) (by omega)
        refine ze_iconst (v := nI 1) cd_M_number_71 (by decide) ?_
        refine ze_zret cd_M_number_72 rfl (by decide) (by decide) (by decide) ⟨_, rfl, rfl, hF, true, ps1, va_up M 2 (upd (M 2) i v), ?_, (by decide), by omega, hT0, trivial, hM⟩
        first | (simp only [zm_num, hd1, if_true, if_neg hd2]; rw [← hE]; simp [zm_nl, zm_num1, c1]; done) | (simp [zm_num, c1]; done)
      · skip
        have c1 : (zt_d (zmd T size ps1)) = true := zb_t c1
        refine ze_iload 0 cd_M_number_30 rfl ?_
        refine ze_iconst (v := nI 4) cd_M_number_32 (by decide) ?_
        refine ze_icmp_ne (tgt := 38) cd_M_number_33 (by decide) (fun c2 => ?_) (fun c2 => ?_)
        · skip
          have c2 : ¬ n = 4 := fun h9 => c2 (by rw [h9])
          refine ze_bipush (v := nI 10) cd_M_number_38 (by decide) ?_
          refine ze_iload_n 1 cd_M_number_40 rfl rfl ?_
          refine ze_imul cd_M_number_41 ?_
          refine ze_aload_n 2 cd_M_number_42 rfl rfl ?_
          refine ze_callVp (rm' := zr_M_look) (b := a) (As := []) (rest := [.int ((nI 10) * v)]) (kc_M_look2 (T := T) hM hT0 hsz (by omega)) ⟨rfl, rfl⟩ zy_M_look_ok zm_841 zm_843 zm_32 (ci := 7) rfl rfl (by decide) (by decide) cd_M_number_43 hM.1 rfl rfl (Nat.le_of_ble_eq_true rfl) ?_
          refine ze_iadd cd_M_number_46 ?_
          refine ze_bipush (v := nI 48) cd_M_number_47 (by decide) ?_
          refine ze_isub cd_M_number_49 ?_
          refine ze_istore_n (lv' := [(3, .int ((((nI 10) * v) + (zmd T size ps1)) - (nI 48))), (4, .int (nI n)), (0, .ref a), (1, .ref (a + 3)), (2, .int (nI i))]) cd_M_number_50 rfl (by decide) rfl ?_
          refine ze_iinc (v := nI (n + 1)) (lv' := [(4, .int (nI (n + 1))), (3, .int ((((nI 10) * v) + (zmd T size ps1)) - (nI 48))), (0, .ref a), (1, .ref (a + 3)), (2, .int (nI i))]) 1 cd_M_number_51 rfl (nI_add _ 1) (by decide) rfl ?_
          refine ze_aload_n 2 cd_M_number_54 rfl rfl ?_
          refine ze_dup cd_M_number_55 rfl ?_
          refine ze_get zin_M (v := .int (nI ps1)) (ci := 7) rfl 4 (by decide) zm_726 rfl cd_M_number_56 hM.1 rfl ?_
          refine ze_iconst (v := nI 1) cd_M_number_59 (by decide) ?_
          refine ze_iadd cd_M_number_60 ?_
          refine ze_top (y := nI (ps1 + 1)) (nI_add _ _) ?_
          refine ze_put zin_M zy_M zt_M zn_M (ci := 7) rfl 4 (by decide) zm_726 rfl (Or.inl rfl) cd_M_number_61 hM.1 rfl rfl (Nat.le_of_ble_eq_true rfl) (fs' := [.int th, .int (nI size), .ref (a + 1), .int wr, .int (nI (ps1 + 1)), .int (nI lv), .int (nI ot), .ref (a + 2), .ref (a + 3), .ref (a + 4), .ref (a + 5), .ref (a + 6), .ref (a + 7), .ref (a + 8), .ref (a + 9), .ref (a + 10), .ref (a + 11), .ref (a + 12), .ref (a + 13), .ref (a + 14), .ref (a + 15), .ref (a + 16), .ref (a + 17), .int (nI ak), .ref (a + 18), .ref (a + 19), .ref (a + 20), .int fr, .int (nI pr), .ref (a + 21)]) rfl ?_
          have hM := hM.put (fs' := [.int th, .int (nI size), .ref (a + 1), .int wr, .int (nI (ps1 + 1)), .int (nI lv), .int (nI ot), .ref (a + 2), .ref (a + 3), .ref (a + 4), .ref (a + 5), .ref (a + 6), .ref (a + 7), .ref (a + 8), .ref (a + 9), .ref (a + 10), .ref (a + 11), .ref (a + 12), .ref (a + 13), .ref (a + 14), .ref (a + 15), .ref (a + 16), .ref (a + 17), .int (nI ak), .ref (a + 18), .ref (a + 19), .ref (a + 20), .int fr, .int (nI pr), .ref (a + 21)])
          have hF := hF.up (a := a) (e := .inr (7, [.int th, .int (nI size), .ref (a + 1), .int wr, .int (nI (ps1 + 1)), .int (nI lv), .int (nI ot), .ref (a + 2), .ref (a + 3), .ref (a + 4), .ref (a + 5), .ref (a + 6), .ref (a + 7), .ref (a + 8), .ref (a + 9), .ref (a + 10), .ref (a + 11), .ref (a + 12), .ref (a + 13), .ref (a + 14), .ref (a + 15), .ref (a + 16), .ref (a + 17), .int (nI ak), .ref (a + 18), .ref (a + 19), .ref (a + 20), .int fr, .int (nI pr), .ref (a + 21)])) (by omega) (by omega)
          refine ze_goto (tgt := 23) cd_M_number_64 (by decide) ?_
          exact ze_sub [0, 1, 2, 3, 4] rfl (ih (n + 1) _ _ _ (by omega) (by omega) (by omega) (by rw [← hE]; simp [zm_nl, c1, c2]) hM hF)
        · skip
          have c2 : n = 4 := (nI_eq (by omega) (by omega)).mp c2
          refine ze_iconst (v := nI 0) cd_M_number_36 (by decide) ?_
          refine ze_zret cd_M_number_37 rfl (by decide) (by decide) (by decide) ⟨_, rfl, rfl, hF, false, ps1, M, ?_, (by decide), by omega, hT0, trivial, hM⟩
          first | (simp only [zm_num, hd1, if_true, if_neg hd2]; rw [← hE]; simp [zm_nl, zm_num1, c1, c2]; done) | (simp [zm_num, c1, c2]; done)
  refine zM_of (lv := [(0, .ref a), (1, .ref (a + 3)), (2, .int (nI i))]) (ini := false) (by decide) rfl (by decide) (Nat.le_of_ble_eq_true rfl) rfl ?_
  refine ze_aload_n 0 cd_M_number_0 rfl rfl ?_
  refine ze_callVp (rm' := zr_M_isDigit) (b := a) (As := []) (rest := []) (kc_M_isDigit (T := T) hM hT0 hsz (by omega)) ⟨rfl, rfl⟩ zy_M_isDigit_ok zm_852 zm_854 zm_34 (ci := 7) rfl rfl (by decide) (by decide) cd_M_number_1 hM.1 rfl rfl (Nat.le_of_ble_eq_true rfl) ?_
  refine ze_if_eq (tgt := 16) cd_M_number_4 (by decide) (fun c3 => ?_) (fun c3 => ?_)
  · skip
    have c3 : (zt_d (zmd T size ps)) = false := zb_f c3
    refine ze_iconst (v := nI 0) cd_M_number_16 (by decide) ?_
    refine ze_zret cd_M_number_17 rfl (by decide) (by decide) (by decide) ⟨_, rfl, rfl, hF, false, ps, M, ?_, (by decide), by omega, hT0, trivial, hM⟩
    first | (simp only [zm_num, hd1, if_true, if_neg hd2]; rw [← hE]; simp [zm_nl, zm_num1, c3]; done) | (simp [zm_num, c3]; done)
  · skip
    have c3 : (zt_d (zmd T size ps)) = true := zb_t c3
    refine ze_aload_n 0 cd_M_number_7 rfl rfl ?_
    refine ze_callVp (rm' := zr_M_look) (b := a) (As := []) (rest := []) (kc_M_look2 (T := T) hM hT0 hsz (by omega)) ⟨rfl, rfl⟩ zy_M_look_ok zm_841 zm_843 zm_32 (ci := 7) rfl rfl (by decide) (by decide) cd_M_number_8 hM.1 rfl rfl (Nat.le_of_ble_eq_true rfl) ?_
    refine ze_bipush (v := nI 48) cd_M_number_11 (by decide) ?_
    refine ze_icmp_ne (tgt := 18) cd_M_number_13 (by decide) (fun c4 => ?_) (fun c4 => ?_)
    · skip
      refine ze_iconst (v := nI 0) cd_M_number_18 (by decide) ?_
      refine ze_istore_n (lv' := [(3, .int (nI 0)), (0, .ref a), (1, .ref (a + 3)), (2, .int (nI i))]) cd_M_number_19 rfl (by decide) rfl ?_
      refine ze_iconst (v := nI 0) cd_M_number_20 (by decide) ?_
      refine ze_istore (lv' := [(4, .int (nI 0)), (3, .int (nI 0)), (0, .ref a), (1, .ref (a + 3)), (2, .int (nI i))]) cd_M_number_21 (by decide) rfl ?_
      exact ze_sub [0, 1, 2, 3, 4] rfl (loop c3 c4 5 0 ps _ _ (by omega) (by omega) (by omega) rfl hM hF)
    · skip
      refine ze_iconst (v := nI 0) cd_M_number_16 (by decide) ?_
      refine ze_zret cd_M_number_17 rfl (by decide) (by decide) (by decide) ⟨_, rfl, rfl, hF, false, ps, M, ?_, (by decide), by omega, hT0, trivial, hM⟩
      first | (simp only [zm_num, hd1, if_true, if_neg hd2]; rw [← hE]; simp [zm_nl, zm_num1, c3, c4]; done) | (simp [zm_num, c3, c4]; done)
set_option maxRecDepth 100000 in
set_option maxHeartbeats 4000000 in
theorem kc_M_number_7 {g : zx_G} {σ : zx_M} {sz : Nat} {a size ps lv ot ak pr : Nat} {th wr fr : Int32} {M : Nat → Nat → Int32} {T : Nat → Int32} {i : Nat} (hM : zmo g σ a th size wr ps lv ot ak fr pr M) (hT0 : M 0 = T) (hsz : size ≤ 3000) (hps : ps ≤ 15000) (hi : i < 300) : zM g cy_M_number cb_M_number 5 (Option.some Jvm.ClassFile.FieldType.boolean) zr_M_number 0 0 [.ref a, .ref (a + 8), .int (nI i)] σ sz (zPi (fun v σ' sz' => sz' = sz ∧ zfr σ σ' a 22 ∧ ∃ ok ps' M', zm_num (zmd T size) 7 i ps M = (ok, ps', M') ∧ v = zb ok ∧ ps' ≤ ps + 5 ∧ M' 0 = T ∧ (True) ∧ zmo g σ' a th size wr ps' lv ot ak fr pr M')) := by
  have hF : zfr σ σ a 22 := zfr.rf
  have loop : zt_d (zmd T size ps) = true → ¬ zmd T size ps = nI 48 → ∀ (kk n ps1 : Nat) (v : Int32) (σ1 : zx_M), n + kk = 5 → n ≤ 4 → ps1 ≤ ps + n → zm_nl (zmd T size) kk n ps1 v = zm_nl (zmd T size) 5 0 ps (nI 0) → zmo g σ1 a th size wr ps1 lv ot ak fr pr M → zfr σ σ1 a 22 → zE g "FindingAidModel" cb_M_number 5 (Option.some Jvm.ClassFile.FieldType.boolean) false zr_M_number 0 0 (zPi (fun v σ' sz' => sz' = sz ∧ zfr σ σ' a 22 ∧ ∃ ok ps' M', zm_num (zmd T size) 7 i ps M = (ok, ps', M') ∧ v = zb ok ∧ ps' ≤ ps + 5 ∧ M' 0 = T ∧ (True) ∧ zmo g σ' a th size wr ps' lv ot ak fr pr M')) 23 [(4, .int (nI n)), (3, .int v), (0, .ref a), (1, .ref (a + 8)), (2, .int (nI i))] [] σ1 sz 0 0 := by
    intro hd1 hd2 kk
    induction kk with
    | zero => intro n ps1 v σ1 hk hn4 hpb hE hM hF; exfalso; omega
    | succ kk ih =>
      intro n ps1 v σ1 hk hn4 hpb hE hM hF
      refine ze_aload_n 2 cd_M_number_23 rfl rfl ?_
      refine ze_callVp (rm' := zr_M_isDigit) (b := a) (As := []) (rest := []) (kc_M_isDigit (T := T) hM hT0 hsz (by omega)) ⟨rfl, rfl⟩ zy_M_isDigit_ok zm_852 zm_854 zm_34 (ci := 7) rfl rfl (by decide) (by decide) cd_M_number_24 hM.1 rfl rfl (Nat.le_of_ble_eq_true rfl) ?_
      refine ze_if_eq (tgt := 67) cd_M_number_27 (by decide) (fun c1 => ?_) (fun c1 => ?_)
      · skip
        have c1 : (zt_d (zmd T size ps1)) = false := zb_f c1
        refine ze_aload_n 3 cd_M_number_67 rfl rfl ?_
        refine ze_iload_n 4 cd_M_number_68 rfl rfl ?_
        refine ze_iload_n 1 cd_M_number_69 rfl rfl ?_
        refine ze_iast (j := i) cd_M_number_70 (hM.2 7 _ rfl) rfl (by omega) (by decide) ?_
        have hM := hM.ar 7 0 300 rfl (b := a + 8) (f := upd (M 7) i v) (by omega)
        have hF := hF.up (a := a + 8) (e := .inl (g.2.2.2.1 0, 300, .inl (upd (M 7) i v))) (by omega) (by omega)
        refine ze_iconst (v := nI 1) cd_M_number_71 (by decide) ?_
        refine ze_zret cd_M_number_72 rfl (by decide) (by decide) (by decide) ⟨_, rfl, rfl, hF, true, ps1, va_up M 7 (upd (M 7) i v), ?_, (by decide), by omega, hT0, trivial, hM⟩
        first | (simp only [zm_num, hd1, if_true, if_neg hd2]; rw [← hE]; simp [zm_nl, zm_num1, c1]; done) | (simp [zm_num, c1]; done)
      · skip
        have c1 : (zt_d (zmd T size ps1)) = true := zb_t c1
        refine ze_iload 0 cd_M_number_30 rfl ?_
        refine ze_iconst (v := nI 4) cd_M_number_32 (by decide) ?_
        refine ze_icmp_ne (tgt := 38) cd_M_number_33 (by decide) (fun c2 => ?_) (fun c2 => ?_)
        · skip
          have c2 : ¬ n = 4 := fun h9 => c2 (by rw [h9])
          refine ze_bipush (v := nI 10) cd_M_number_38 (by decide) ?_
          refine ze_iload_n 1 cd_M_number_40 rfl rfl ?_
          refine ze_imul cd_M_number_41 ?_
          refine ze_aload_n 2 cd_M_number_42 rfl rfl ?_
          refine ze_callVp (rm' := zr_M_look) (b := a) (As := []) (rest := [.int ((nI 10) * v)]) (kc_M_look2 (T := T) hM hT0 hsz (by omega)) ⟨rfl, rfl⟩ zy_M_look_ok zm_841 zm_843 zm_32 (ci := 7) rfl rfl (by decide) (by decide) cd_M_number_43 hM.1 rfl rfl (Nat.le_of_ble_eq_true rfl) ?_
          refine ze_iadd cd_M_number_46 ?_
          refine ze_bipush (v := nI 48) cd_M_number_47 (by decide) ?_
          refine ze_isub cd_M_number_49 ?_
          refine ze_istore_n (lv' := [(3, .int ((((nI 10) * v) + (zmd T size ps1)) - (nI 48))), (4, .int (nI n)), (0, .ref a), (1, .ref (a + 8)), (2, .int (nI i))]) cd_M_number_50 rfl (by decide) rfl ?_
          refine ze_iinc (v := nI (n + 1)) (lv' := [(4, .int (nI (n + 1))), (3, .int ((((nI 10) * v) + (zmd T size ps1)) - (nI 48))), (0, .ref a), (1, .ref (a + 8)), (2, .int (nI i))]) 1 cd_M_number_51 rfl (nI_add _ 1) (by decide) rfl ?_
          refine ze_aload_n 2 cd_M_number_54 rfl rfl ?_
          refine ze_dup cd_M_number_55 rfl ?_
          refine ze_get zin_M (v := .int (nI ps1)) (ci := 7) rfl 4 (by decide) zm_726 rfl cd_M_number_56 hM.1 rfl ?_
          refine ze_iconst (v := nI 1) cd_M_number_59 (by decide) ?_
          refine ze_iadd cd_M_number_60 ?_
          refine ze_top (y := nI (ps1 + 1)) (nI_add _ _) ?_
          refine ze_put zin_M zy_M zt_M zn_M (ci := 7) rfl 4 (by decide) zm_726 rfl (Or.inl rfl) cd_M_number_61 hM.1 rfl rfl (Nat.le_of_ble_eq_true rfl) (fs' := [.int th, .int (nI size), .ref (a + 1), .int wr, .int (nI (ps1 + 1)), .int (nI lv), .int (nI ot), .ref (a + 2), .ref (a + 3), .ref (a + 4), .ref (a + 5), .ref (a + 6), .ref (a + 7), .ref (a + 8), .ref (a + 9), .ref (a + 10), .ref (a + 11), .ref (a + 12), .ref (a + 13), .ref (a + 14), .ref (a + 15), .ref (a + 16), .ref (a + 17), .int (nI ak), .ref (a + 18), .ref (a + 19), .ref (a + 20), .int fr, .int (nI pr), .ref (a + 21)]) rfl ?_
          have hM := hM.put (fs' := [.int th, .int (nI size), .ref (a + 1), .int wr, .int (nI (ps1 + 1)), .int (nI lv), .int (nI ot), .ref (a + 2), .ref (a + 3), .ref (a + 4), .ref (a + 5), .ref (a + 6), .ref (a + 7), .ref (a + 8), .ref (a + 9), .ref (a + 10), .ref (a + 11), .ref (a + 12), .ref (a + 13), .ref (a + 14), .ref (a + 15), .ref (a + 16), .ref (a + 17), .int (nI ak), .ref (a + 18), .ref (a + 19), .ref (a + 20), .int fr, .int (nI pr), .ref (a + 21)])
          have hF := hF.up (a := a) (e := .inr (7, [.int th, .int (nI size), .ref (a + 1), .int wr, .int (nI (ps1 + 1)), .int (nI lv), .int (nI ot), .ref (a + 2), .ref (a + 3), .ref (a + 4), .ref (a + 5), .ref (a + 6), .ref (a + 7), .ref (a + 8), .ref (a + 9), .ref (a + 10), .ref (a + 11), .ref (a + 12), .ref (a + 13), .ref (a + 14), .ref (a + 15), .ref (a + 16), .ref (a + 17), .int (nI ak), .ref (a + 18), .ref (a + 19), .ref (a + 20), .int fr, .int (nI pr), .ref (a + 21)])) (by omega) (by omega)
          refine ze_goto (tgt := 23) cd_M_number_64 (by decide) ?_
          exact ze_sub [0, 1, 2, 3, 4] rfl (ih (n + 1) _ _ _ (by omega) (by omega) (by omega) (by rw [← hE]; simp [zm_nl, c1, c2]) hM hF)
        · skip
          have c2 : n = 4 := (nI_eq (by omega) (by omega)).mp c2
          refine ze_iconst (v := nI 0) cd_M_number_36 (by decide) ?_
          refine ze_zret cd_M_number_37 rfl (by decide) (by decide) (by decide) ⟨_, rfl, rfl, hF, false, ps1, M, ?_, (by decide), by omega, hT0, trivial, hM⟩
          first | (simp only [zm_num, hd1, if_true, if_neg hd2]; rw [← hE]; simp [zm_nl, zm_num1, c1, c2]; done) | (simp [zm_num, c1, c2]; done)
  refine zM_of (lv := [(0, .ref a), (1, .ref (a + 8)), (2, .int (nI i))]) (ini := false) (by decide) rfl (by decide) (Nat.le_of_ble_eq_true rfl) rfl ?_
  refine ze_aload_n 0 cd_M_number_0 rfl rfl ?_
  refine ze_callVp (rm' := zr_M_isDigit) (b := a) (As := []) (rest := []) (kc_M_isDigit (T := T) hM hT0 hsz (by omega)) ⟨rfl, rfl⟩ zy_M_isDigit_ok zm_852 zm_854 zm_34 (ci := 7) rfl rfl (by decide) (by decide) cd_M_number_1 hM.1 rfl rfl (Nat.le_of_ble_eq_true rfl) ?_
  refine ze_if_eq (tgt := 16) cd_M_number_4 (by decide) (fun c3 => ?_) (fun c3 => ?_)
  · skip
    have c3 : (zt_d (zmd T size ps)) = false := zb_f c3
    refine ze_iconst (v := nI 0) cd_M_number_16 (by decide) ?_
    refine ze_zret cd_M_number_17 rfl (by decide) (by decide) (by decide) ⟨_, rfl, rfl, hF, false, ps, M, ?_, (by decide), by omega, hT0, trivial, hM⟩
    first | (simp only [zm_num, hd1, if_true, if_neg hd2]; rw [← hE]; simp [zm_nl, zm_num1, c3]; done) | (simp [zm_num, c3]; done)
  · skip
    have c3 : (zt_d (zmd T size ps)) = true := zb_t c3
    refine ze_aload_n 0 cd_M_number_7 rfl rfl ?_
    refine ze_callVp (rm' := zr_M_look) (b := a) (As := []) (rest := []) (kc_M_look2 (T := T) hM hT0 hsz (by omega)) ⟨rfl, rfl⟩ zy_M_look_ok zm_841 zm_843 zm_32 (ci := 7) rfl rfl (by decide) (by decide) cd_M_number_8 hM.1 rfl rfl (Nat.le_of_ble_eq_true rfl) ?_
    refine ze_bipush (v := nI 48) cd_M_number_11 (by decide) ?_
    refine ze_icmp_ne (tgt := 18) cd_M_number_13 (by decide) (fun c4 => ?_) (fun c4 => ?_)
    · skip
      refine ze_iconst (v := nI 0) cd_M_number_18 (by decide) ?_
      refine ze_istore_n (lv' := [(3, .int (nI 0)), (0, .ref a), (1, .ref (a + 8)), (2, .int (nI i))]) cd_M_number_19 rfl (by decide) rfl ?_
      refine ze_iconst (v := nI 0) cd_M_number_20 (by decide) ?_
      refine ze_istore (lv' := [(4, .int (nI 0)), (3, .int (nI 0)), (0, .ref a), (1, .ref (a + 8)), (2, .int (nI i))]) cd_M_number_21 (by decide) rfl ?_
      exact ze_sub [0, 1, 2, 3, 4] rfl (loop c3 c4 5 0 ps _ _ (by omega) (by omega) (by omega) rfl hM hF)
    · skip
      refine ze_iconst (v := nI 0) cd_M_number_16 (by decide) ?_
      refine ze_zret cd_M_number_17 rfl (by decide) (by decide) (by decide) ⟨_, rfl, rfl, hF, false, ps, M, ?_, (by decide), by omega, hT0, trivial, hM⟩
      first | (simp only [zm_num, hd1, if_true, if_neg hd2]; rw [← hE]; simp [zm_nl, zm_num1, c3, c4]; done) | (simp [zm_num, c3, c4]; done)
