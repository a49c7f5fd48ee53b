abbrev zms : Type := Bool × Nat × Nat × (Nat → Nat → Int32) × (Nat → Option Nat) × (Nat → Nat)
def zm_lines (c : Nat → Int32) (size : Nat) : Nat → Nat → (Nat → Option Nat) → (Nat → Nat) → Nat → (Nat → Nat → Int32) → zms
  | 0, k, pa, dp, ps, M => (false, ps, k, M, pa, dp)
  | f + 1, k, pa, dp, ps, M => if ps < size ∨ k = 0 then (match zm_line c (100 + k) pa dp ps M with
    | (false, ps1, M1) => (false, ps1, k, M1, pa, dp)
    | (true, ps1, M1) => zm_lines c size f (k + 1) (va_up pa (100 + k) (zm_o c (100 + k) pa dp ps)) (va_up dp (100 + k) (zm_n c (100 + k) dp ps)) ps1 M1) else (true, ps, k, M, pa, dp)
/-- what a line that is wrong leaves: whom the earlier ones are under stays -/
theorem zm_pf_bad {c : Nat → Int32} {i ps : Nat} {o : Option Nat} {M : Nat → Nat → Int32} {ok : Bool} {ps' : Nat} {M' : Nat → Nat → Int32} (h : zm_pf c i ps o M = (ok, ps', M')) : ∀ j, j ≠ i → M' 3 j = M 3 j := by
  intro j hj
  cases ok with
  | true => rw [(zm_pf_M h).1]; exact pk_un hj
  | false =>
    unfold zm_pf at h
    split at h
    · cases h; rfl
    · split at h
      · cases h
      · split at h
        · cases h; rfl
        · split at h
          · cases h; rfl
          · cases h
theorem zm_bad_for {c : Nat → Int32} {i : Nat} {pa : Nat → Option Nat} {dp : Nat → Nat} {ps : Nat} {M : Nat → Nat → Int32} {ok : Bool} {ps' : Nat} {M' : Nat → Nat → Int32} (hfo : zfor (M 3) pa dp (fun j => 100 ≤ j ∧ j < i)) (hi1 : 100 ≤ i) (hi : i ≤ 200) (h : zm_line c i pa dp ps M = (ok, ps', M')) : zfor (M' 3) pa dp (fun j => 100 ≤ j ∧ j < i) := by
  have key : ∀ j, j ≠ i → M' 3 j = M 3 j := by
    intro j hj
    unfold zm_line at h
    split at h
    · cases h; rfl
    · unfold zm_line1 at h
      have hp : ∀ {ok1 : Bool} {ps1 : Nat} {M1 : Nat → Nat → Int32}, zm_place c i pa dp ps (zm_M0 i M) = (ok1, ps1, M1) → M1 3 j = M 3 j := by
        intro ok1 ps1 M1 h1
        unfold zm_place at h1
        split at h1
        · cases h1; rfl
        · split at h1
          · exact zm_pf_bad h1 j hj
          · split at h1
            · cases h1; rfl
            · exact zm_pf_bad h1 j hj
      split at h
      · rename_i h1; cases h; exact hp h1
      · rename_i h1
        split at h
        · rename_i h2; cases h; rw [zm_num_M h2 3 (by omega)]; exact hp h1
        · rename_i h2
          split at h
          · rename_i h3; cases h; rw [zm_eat_M h3, zm_num_M h2 3 (by omega)]; exact hp h1
          · rename_i h3
            split at h
            · rename_i h4; cases h; rw [zm_title_M h4 3 (by omega) (by omega), zm_eat_M h3, zm_num_M h2 3 (by omega)]; exact hp h1
            · rename_i h4; rw [zm_lm2_M h 3 (by omega), zm_title_M h4 3 (by omega) (by omega), zm_eat_M h3, zm_num_M h2 3 (by omega)]; exact hp h1
  intro j hj
  rw [key j (by omega)]
  exact hfo j hj
abbrev zr_M_reads : Room := { frames := 5, cells := 0, slots := 0, locals := 111 }
set_option maxRecDepth 100000 in
set_option maxHeartbeats 4000000 in
theorem kc_M_reads {g : zx_G} {σ : zx_M} {sz : Nat} {a size ps lv ot ak pr : Nat} {th wr fr : Int32} {M : Nat → Nat → Int32} {T : Nat → Int32} {pa : Nat → Option Nat} {dp : Nat → Nat} (hM : zmo g σ a th size wr ps lv ot ak fr pr M) (hT0 : M 0 = T) (hsz : size ≤ 3000) : zM g cy_M_reads cb_M_reads 2 (Option.some Jvm.ClassFile.FieldType.boolean) zr_M_reads 0 0 [.ref a] σ sz (zPi (fun v σ' sz' => sz' = sz ∧ zfr σ σ' a 22 ∧ ∃ ok ps' ot' M' pa' dp', zm_lines (zmd T size) size 102 0 pa dp 0 M = (ok, ps', ot', M', pa', dp') ∧ v = zb ok ∧ ps' ≤ 7000 ∧ ot' ≤ 100 ∧ M' 0 = T ∧ zfor (M' 3) pa' dp' (fun j => 100 ≤ j ∧ j < 100 + ot') ∧ zmo g σ' a th 0 (if ok then -1 else nI ps') ps' lv ot' ak fr pr M')) := by
  generalize hX0 : zm_lines (zmd T size) size 102 0 pa dp 0 M = X0
  have hF : zfr σ σ a 22 := zfr.rf
  have loop : ∀ (f k ps : Nat) (pa : Nat → Option Nat) (dp : Nat → Nat) (M : Nat → Nat → Int32) (σ1 : zx_M), k + f = 102 → k ≤ 100 → ps ≤ 60 * k → M 0 = T → zfor (M 3) pa dp (fun j => 100 ≤ j ∧ j < 100 + k) → zm_lines (zmd T size) size f k pa dp ps M = X0 → zmo g σ1 a th size wr ps lv k ak fr pr M → zfr σ σ1 a 22 → zE g "FindingAidModel" cb_M_reads 2 (Option.some Jvm.ClassFile.FieldType.boolean) false zr_M_reads 0 0 (zPi (fun v σ' sz' => sz' = sz ∧ zfr σ σ' a 22 ∧ ∃ ok ps' ot' M' pa' dp', X0 = (ok, ps', ot', M', pa', dp') ∧ v = zb ok ∧ ps' ≤ 7000 ∧ ot' ≤ 100 ∧ M' 0 = T ∧ zfor (M' 3) pa' dp' (fun j => 100 ≤ j ∧ j < 100 + ot') ∧ zmo g σ' a th 0 (if ok then -1 else nI ps') ps' lv ot' ak fr pr M')) 12 [(1, .int (nI 1)), (0, .ref a)] [] σ1 sz 0 0 := by
    intro f
    induction f with
    | zero => intro k ps pa dp M σ1 hk hk2; exfalso; omega
    | succ f ih =>
      intro k ps pa dp M σ1 hk hk2 hpb hT0 hfo hE hM hF
      refine ze_iload_n 0 cd_M_reads_12 rfl rfl ?_
      refine ze_if_eq (tgt := 67) cd_M_reads_13 (by decide) (fun c9 => absurd c9 (by decide)) (fun _ => ?_)
      refine ze_aload_n 1 cd_M_reads_16 rfl rfl ?_
      refine ze_get zin_M (v := .int (nI ps)) (ci := 7) rfl 4 (by decide) zm_726 rfl cd_M_reads_17 hM.1 rfl ?_
      refine ze_aload_n 1 cd_M_reads_20 rfl rfl ?_
      refine ze_get zin_M (v := .int (nI size)) (ci := 7) rfl 1 (by decide) zm_723 rfl cd_M_reads_21 hM.1 rfl ?_
      refine ze_icmp_lt (tgt := 34) cd_M_reads_24 (by decide) (fun c2 => ?_) (fun c2 => ?_)
      · skip
        have c2 : ps < size := (nI_ltI (by omega) (by omega)).mp c2
        refine ze_aload_n 1 cd_M_reads_34 rfl rfl ?_
        refine ze_bipush (v := nI 100) cd_M_reads_35 (by decide) ?_
        refine ze_aload_n 1 cd_M_reads_37 rfl rfl ?_
        refine ze_get zin_M (v := .int (nI k)) (ci := 7) rfl 6 (by decide) zm_728 rfl cd_M_reads_38 hM.1 rfl ?_
        refine ze_iadd cd_M_reads_41 ?_
        refine ze_top (y := nI (100 + k)) (nI_add _ _) ?_
        refine ze_callVi (rm' := zr_M_line) (b := a) (As := [.int (nI (100 + k))]) (rest := []) (kc_M_line (T := T) (pa := pa) (dp := dp) (i := 100 + k) hM hT0 hsz (by omega) hfo (by omega) (by omega)) ⟨rfl, rfl⟩ zy_M_line_ok zm_829 zm_831 zm_29 (ci := 7) rfl rfl (by decide) (by decide) cd_M_reads_42 hM.1 rfl rfl (Nat.le_of_ble_eq_true rfl) (fun v9 σ9 sz9 hq9 => ?_)
        obtain ⟨rfl, hF9, ok3, ps3, M3, hX3, rfl, hb3, hT0, hE3, hM⟩ := hq9
        have hF := hF.trans hF9
        refine ze_istore_n (lv' := [(1, .int (zb ok3)), (0, .ref a)]) cd_M_reads_45 rfl (by decide) rfl ?_
        refine ze_aload_n 1 cd_M_reads_46 rfl rfl ?_
        refine ze_dup cd_M_reads_47 rfl ?_
        refine ze_get zin_M (v := .int (nI k)) (ci := 7) rfl 6 (by decide) zm_728 rfl cd_M_reads_48 hM.1 rfl ?_
        refine ze_iload_n 0 cd_M_reads_51 rfl rfl ?_
        refine ze_if_eq (tgt := 59) cd_M_reads_52 (by decide) (fun c4 => ?_) (fun c4 => ?_)
        · skip
          have c4 : ok3 = false := zb_f c4
          subst c4
          have hfo9 := zm_bad_for hfo (by omega) (by omega) hX3
          refine ze_iconst (v := nI 0) cd_M_reads_59 (by decide) ?_
          refine ze_iadd cd_M_reads_60 ?_
          refine ze_top (y := nI (k + 0)) (nI_add _ _) ?_
          refine ze_put zin_M zy_M zt_M zn_M (ci := 7) rfl 6 (by decide) zm_728 rfl (Or.inl rfl) cd_M_reads_61 hM.1 rfl rfl (Nat.le_of_ble_eq_true rfl) (fs' := [.int th, .int (nI size), .ref (a + 1), .int wr, .int (nI ps3), .int (nI lv), .int (nI (k + 0)), .ref (a + 2), .ref (a + 3), .ref (a + 4), .ref (a + 5), .ref (a + 6), .ref (a + 7), .ref (a + 8), .ref (a + 9), .ref (a + 10), .ref (a + 11), .ref (a + 12), .ref (a + 13), .ref (a + 14), .ref (a + 15), .ref (a + 16), .ref (a + 17), .int (nI ak), .ref (a + 18), .ref (a + 19), .ref (a + 20), .int fr, .int (nI pr), .ref (a + 21)]) rfl ?_
          have hM := hM.put (fs' := [.int th, .int (nI size), .ref (a + 1), .int wr, .int (nI ps3), .int (nI lv), .int (nI (k + 0)), .ref (a + 2), .ref (a + 3), .ref (a + 4), .ref (a + 5), .ref (a + 6), .ref (a + 7), .ref (a + 8), .ref (a + 9), .ref (a + 10), .ref (a + 11), .ref (a + 12), .ref (a + 13), .ref (a + 14), .ref (a + 15), .ref (a + 16), .ref (a + 17), .int (nI ak), .ref (a + 18), .ref (a + 19), .ref (a + 20), .int fr, .int (nI pr), .ref (a + 21)])
          have hF := hF.up (a := a) (e := .inr (7, [.int th, .int (nI size), .ref (a + 1), .int wr, .int (nI ps3), .int (nI lv), .int (nI (k + 0)), .ref (a + 2), .ref (a + 3), .ref (a + 4), .ref (a + 5), .ref (a + 6), .ref (a + 7), .ref (a + 8), .ref (a + 9), .ref (a + 10), .ref (a + 11), .ref (a + 12), .ref (a + 13), .ref (a + 14), .ref (a + 15), .ref (a + 16), .ref (a + 17), .int (nI ak), .ref (a + 18), .ref (a + 19), .ref (a + 20), .int fr, .int (nI pr), .ref (a + 21)])) (by omega) (by omega)
          refine ze_goto (tgt := 12) cd_M_reads_64 (by decide) ?_
          refine ze_iload_n 0 cd_M_reads_12 rfl rfl ?_
          refine ze_if_eq (tgt := 67) cd_M_reads_13 (by decide) (fun _ => ?_) (fun c9 => absurd c9 (by decide))
          refine ze_aload_n 1 cd_M_reads_67 rfl rfl ?_
          refine ze_iload_n 0 cd_M_reads_68 rfl rfl ?_
          refine ze_if_eq (tgt := 76) cd_M_reads_69 (by decide) (fun _ => ?_) (fun c9 => absurd c9 (by decide))
          refine ze_aload_n 1 cd_M_reads_76 rfl rfl ?_
          refine ze_get zin_M (v := .int (nI ps3)) (ci := 7) rfl 4 (by decide) zm_726 rfl cd_M_reads_77 hM.1 rfl ?_
          refine ze_put zin_M zy_M zt_M zn_M (ci := 7) rfl 3 (by decide) zm_725 rfl (Or.inl rfl) cd_M_reads_80 hM.1 rfl rfl (Nat.le_of_ble_eq_true rfl) (fs' := [.int th, .int (nI size), .ref (a + 1), .int (nI ps3), .int (nI ps3), .int (nI lv), .int (nI (k + 0)), .ref (a + 2), .ref (a + 3), .ref (a + 4), .ref (a + 5), .ref (a + 6), .ref (a + 7), .ref (a + 8), .ref (a + 9), .ref (a + 10), .ref (a + 11), .ref (a + 12), .ref (a + 13), .ref (a + 14), .ref (a + 15), .ref (a + 16), .ref (a + 17), .int (nI ak), .ref (a + 18), .ref (a + 19), .ref (a + 20), .int fr, .int (nI pr), .ref (a + 21)]) rfl ?_
          have hM := hM.put (fs' := [.int th, .int (nI size), .ref (a + 1), .int (nI ps3), .int (nI ps3), .int (nI lv), .int (nI (k + 0)), .ref (a + 2), .ref (a + 3), .ref (a + 4), .ref (a + 5), .ref (a + 6), .ref (a + 7), .ref (a + 8), .ref (a + 9), .ref (a + 10), .ref (a + 11), .ref (a + 12), .ref (a + 13), .ref (a + 14), .ref (a + 15), .ref (a + 16), .ref (a + 17), .int (nI ak), .ref (a + 18), .ref (a + 19), .ref (a + 20), .int fr, .int (nI pr), .ref (a + 21)])
          have hF := hF.up (a := a) (e := .inr (7, [.int th, .int (nI size), .ref (a + 1), .int (nI ps3), .int (nI ps3), .int (nI lv), .int (nI (k + 0)), .ref (a + 2), .ref (a + 3), .ref (a + 4), .ref (a + 5), .ref (a + 6), .ref (a + 7), .ref (a + 8), .ref (a + 9), .ref (a + 10), .ref (a + 11), .ref (a + 12), .ref (a + 13), .ref (a + 14), .ref (a + 15), .ref (a + 16), .ref (a + 17), .int (nI ak), .ref (a + 18), .ref (a + 19), .ref (a + 20), .int fr, .int (nI pr), .ref (a + 21)])) (by omega) (by omega)
          refine ze_aload_n 1 cd_M_reads_83 rfl rfl ?_
          refine ze_iconst (v := nI 0) cd_M_reads_84 (by decide) ?_
          refine ze_put zin_M zy_M zt_M zn_M (ci := 7) rfl 1 (by decide) zm_723 rfl (Or.inl rfl) cd_M_reads_85 hM.1 rfl rfl (Nat.le_of_ble_eq_true rfl) (fs' := [.int th, .int (nI 0), .ref (a + 1), .int (nI ps3), .int (nI ps3), .int (nI lv), .int (nI (k + 0)), .ref (a + 2), .ref (a + 3), .ref (a + 4), .ref (a + 5), .ref (a + 6), .ref (a + 7), .ref (a + 8), .ref (a + 9), .ref (a + 10), .ref (a + 11), .ref (a + 12), .ref (a + 13), .ref (a + 14), .ref (a + 15), .ref (a + 16), .ref (a + 17), .int (nI ak), .ref (a + 18), .ref (a + 19), .ref (a + 20), .int fr, .int (nI pr), .ref (a + 21)]) rfl ?_
          have hM := hM.put (fs' := [.int th, .int (nI 0), .ref (a + 1), .int (nI ps3), .int (nI ps3), .int (nI lv), .int (nI (k + 0)), .ref (a + 2), .ref (a + 3), .ref (a + 4), .ref (a + 5), .ref (a + 6), .ref (a + 7), .ref (a + 8), .ref (a + 9), .ref (a + 10), .ref (a + 11), .ref (a + 12), .ref (a + 13), .ref (a + 14), .ref (a + 15), .ref (a + 16), .ref (a + 17), .int (nI ak), .ref (a + 18), .ref (a + 19), .ref (a + 20), .int fr, .int (nI pr), .ref (a + 21)])
          have hF := hF.up (a := a) (e := .inr (7, [.int th, .int (nI 0), .ref (a + 1), .int (nI ps3), .int (nI ps3), .int (nI lv), .int (nI (k + 0)), .ref (a + 2), .ref (a + 3), .ref (a + 4), .ref (a + 5), .ref (a + 6), .ref (a + 7), .ref (a + 8), .ref (a + 9), .ref (a + 10), .ref (a + 11), .ref (a + 12), .ref (a + 13), .ref (a + 14), .ref (a + 15), .ref (a + 16), .ref (a + 17), .int (nI ak), .ref (a + 18), .ref (a + 19), .ref (a + 20), .int fr, .int (nI pr), .ref (a + 21)])) (by omega) (by omega)
          refine ze_iload_n 0 cd_M_reads_88 rfl rfl ?_
          refine ze_zret cd_M_reads_89 rfl (by decide) (by decide) (by decide) ⟨_, rfl, rfl, hF, false, ps3, k + 0, M3, pa, dp, ?_, (by decide), by omega, by omega, hT0, hfo9, hM⟩
          rw [← hE]; unfold zm_lines; first | (rw [if_neg (by omega)]; done) | (rw [if_pos (by omega)]; simp only [hX3]; done) | (rw [if_pos (by omega)]; simp only [hX3]; rfl)
        · skip
          have c4 : ok3 = true := zb_t c4
          subst c4
          refine ze_iconst (v := nI 1) cd_M_reads_55 (by decide) ?_
          refine ze_goto (tgt := 60) cd_M_reads_56 (by decide) ?_
          refine ze_iadd cd_M_reads_60 ?_
          refine ze_top (y := nI (k + 1)) (nI_add _ _) ?_
          refine ze_put zin_M zy_M zt_M zn_M (ci := 7) rfl 6 (by decide) zm_728 rfl (Or.inl rfl) cd_M_reads_61 hM.1 rfl rfl (Nat.le_of_ble_eq_true rfl) (fs' := [.int th, .int (nI size), .ref (a + 1), .int wr, .int (nI ps3), .int (nI lv), .int (nI (k + 1)), .ref (a + 2), .ref (a + 3), .ref (a + 4), .ref (a + 5), .ref (a + 6), .ref (a + 7), .ref (a + 8), .ref (a + 9), .ref (a + 10), .ref (a + 11), .ref (a + 12), .ref (a + 13), .ref (a + 14), .ref (a + 15), .ref (a + 16), .ref (a + 17), .int (nI ak), .ref (a + 18), .ref (a + 19), .ref (a + 20), .int fr, .int (nI pr), .ref (a + 21)]) rfl ?_
          have hM := hM.put (fs' := [.int th, .int (nI size), .ref (a + 1), .int wr, .int (nI ps3), .int (nI lv), .int (nI (k + 1)), .ref (a + 2), .ref (a + 3), .ref (a + 4), .ref (a + 5), .ref (a + 6), .ref (a + 7), .ref (a + 8), .ref (a + 9), .ref (a + 10), .ref (a + 11), .ref (a + 12), .ref (a + 13), .ref (a + 14), .ref (a + 15), .ref (a + 16), .ref (a + 17), .int (nI ak), .ref (a + 18), .ref (a + 19), .ref (a + 20), .int fr, .int (nI pr), .ref (a + 21)])
          have hF := hF.up (a := a) (e := .inr (7, [.int th, .int (nI size), .ref (a + 1), .int wr, .int (nI ps3), .int (nI lv), .int (nI (k + 1)), .ref (a + 2), .ref (a + 3), .ref (a + 4), .ref (a + 5), .ref (a + 6), .ref (a + 7), .ref (a + 8), .ref (a + 9), .ref (a + 10), .ref (a + 11), .ref (a + 12), .ref (a + 13), .ref (a + 14), .ref (a + 15), .ref (a + 16), .ref (a + 17), .int (nI ak), .ref (a + 18), .ref (a + 19), .ref (a + 20), .int fr, .int (nI pr), .ref (a + 21)])) (by omega) (by omega)
          refine ze_goto (tgt := 12) cd_M_reads_64 (by decide) ?_
          have hln := zm_line_M hfo (by omega) hX3 (by omega)
          exact ze_sub [0, 1] rfl (ih (k + 1) _ _ _ _ _ (by omega) (by omega) (by omega) hT0 (by have h9 := zm_line_for hfo (by omega) (by omega) hX3; exact h9) (by rw [← hE]; (conv => rhs; unfold zm_lines); rw [if_pos (by omega)]; simp only [hX3]) hM hF)
      · skip
        have c2 : ¬ ps < size := fun h9 => c2 ((nI_ltI (by omega) (by omega)).mpr h9)
        refine ze_aload_n 1 cd_M_reads_27 rfl rfl ?_
        refine ze_get zin_M (v := .int (nI k)) (ci := 7) rfl 6 (by decide) zm_728 rfl cd_M_reads_28 hM.1 rfl ?_
        refine ze_if_ne (tgt := 67) cd_M_reads_31 (by decide) (fun c7 => ?_) (fun c7 => ?_)
        · skip
          have c7 := c7; rw [← nI_0] at c7
          have c7 : ¬ k = 0 := fun h9 => c7 (by rw [h9])
          refine ze_aload_n 1 cd_M_reads_67 rfl rfl ?_
          refine ze_iload_n 0 cd_M_reads_68 rfl rfl ?_
          refine ze_if_eq (tgt := 76) cd_M_reads_69 (by decide) (fun c9 => absurd c9 (by decide)) (fun _ => ?_)
          refine ze_iconst (v := (-1 : Int32)) cd_M_reads_72 (by decide) ?_
          refine ze_goto (tgt := 80) cd_M_reads_73 (by decide) ?_
          refine ze_put zin_M zy_M zt_M zn_M (ci := 7) rfl 3 (by decide) zm_725 rfl (Or.inl rfl) cd_M_reads_80 hM.1 rfl rfl (Nat.le_of_ble_eq_true rfl) (fs' := [.int th, .int (nI size), .ref (a + 1), .int ((-1 : Int32)), .int (nI ps), .int (nI lv), .int (nI k), .ref (a + 2), .ref (a + 3), .ref (a + 4), .ref (a + 5), .ref (a + 6), .ref (a + 7), .ref (a + 8), .ref (a + 9), .ref (a + 10), .ref (a + 11), .ref (a + 12), .ref (a + 13), .ref (a + 14), .ref (a + 15), .ref (a + 16), .ref (a + 17), .int (nI ak), .ref (a + 18), .ref (a + 19), .ref (a + 20), .int fr, .int (nI pr), .ref (a + 21)]) rfl ?_
          have hM := hM.put (fs' := [.int th, .int (nI size), .ref (a + 1), .int ((-1 : Int32)), .int (nI ps), .int (nI lv), .int (nI k), .ref (a + 2), .ref (a + 3), .ref (a + 4), .ref (a + 5), .ref (a + 6), .ref (a + 7), .ref (a + 8), .ref (a + 9), .ref (a + 10), .ref (a + 11), .ref (a + 12), .ref (a + 13), .ref (a + 14), .ref (a + 15), .ref (a + 16), .ref (a + 17), .int (nI ak), .ref (a + 18), .ref (a + 19), .ref (a + 20), .int fr, .int (nI pr), .ref (a + 21)])
          have hF := hF.up (a := a) (e := .inr (7, [.int th, .int (nI size), .ref (a + 1), .int ((-1 : Int32)), .int (nI ps), .int (nI lv), .int (nI k), .ref (a + 2), .ref (a + 3), .ref (a + 4), .ref (a + 5), .ref (a + 6), .ref (a + 7), .ref (a + 8), .ref (a + 9), .ref (a + 10), .ref (a + 11), .ref (a + 12), .ref (a + 13), .ref (a + 14), .ref (a + 15), .ref (a + 16), .ref (a + 17), .int (nI ak), .ref (a + 18), .ref (a + 19), .ref (a + 20), .int fr, .int (nI pr), .ref (a + 21)])) (by omega) (by omega)
          refine ze_aload_n 1 cd_M_reads_83 rfl rfl ?_
          refine ze_iconst (v := nI 0) cd_M_reads_84 (by decide) ?_
          refine ze_put zin_M zy_M zt_M zn_M (ci := 7) rfl 1 (by decide) zm_723 rfl (Or.inl rfl) cd_M_reads_85 hM.1 rfl rfl (Nat.le_of_ble_eq_true rfl) (fs' := [.int th, .int (nI 0), .ref (a + 1), .int ((-1 : Int32)), .int (nI ps), .int (nI lv), .int (nI k), .ref (a + 2), .ref (a + 3), .ref (a + 4), .ref (a + 5), .ref (a + 6), .ref (a + 7), .ref (a + 8), .ref (a + 9), .ref (a + 10), .ref (a + 11), .ref (a + 12), .ref (a + 13), .ref (a + 14), .ref (a + 15), .ref (a + 16), .ref (a + 17), .int (nI ak), .ref (a + 18), .ref (a + 19), .ref (a + 20), .int fr, .int (nI pr), .ref (a + 21)]) rfl ?_
          have hM := hM.put (fs' := [.int th, .int (nI 0), .ref (a + 1), .int ((-1 : Int32)), .int (nI ps), .int (nI lv), .int (nI k), .ref (a + 2), .ref (a + 3), .ref (a + 4), .ref (a + 5), .ref (a + 6), .ref (a + 7), .ref (a + 8), .ref (a + 9), .ref (a + 10), .ref (a + 11), .ref (a + 12), .ref (a + 13), .ref (a + 14), .ref (a + 15), .ref (a + 16), .ref (a + 17), .int (nI ak), .ref (a + 18), .ref (a + 19), .ref (a + 20), .int fr, .int (nI pr), .ref (a + 21)])
          have hF := hF.up (a := a) (e := .inr (7, [.int th, .int (nI 0), .ref (a + 1), .int ((-1 : Int32)), .int (nI ps), .int (nI lv), .int (nI k), .ref (a + 2), .ref (a + 3), .ref (a + 4), .ref (a + 5), .ref (a + 6), .ref (a + 7), .ref (a + 8), .ref (a + 9), .ref (a + 10), .ref (a + 11), .ref (a + 12), .ref (a + 13), .ref (a + 14), .ref (a + 15), .ref (a + 16), .ref (a + 17), .int (nI ak), .ref (a + 18), .ref (a + 19), .ref (a + 20), .int fr, .int (nI pr), .ref (a + 21)])) (by omega) (by omega)
          refine ze_iload_n 0 cd_M_reads_88 rfl rfl ?_
          refine ze_zret cd_M_reads_89 rfl (by decide) (by decide) (by decide) ⟨_, rfl, rfl, hF, true, ps, k, M, pa, dp, ?_, (by decide), by omega, by omega, hT0, hfo, hM⟩
          rw [← hE]; unfold zm_lines; first | (rw [if_neg (by omega)]; done) | (rw [if_pos (by omega)]; simp only [zm_lines]; done) | (rw [if_pos (by omega)]; simp only [zm_lines]; rfl)
        · skip
          have c7 := c7; rw [← nI_0] at c7
          have c7 : k = 0 := (nI_eq (by omega) (by omega)).mp c7
          refine ze_aload_n 1 cd_M_reads_34 rfl rfl ?_
          refine ze_bipush (v := nI 100) cd_M_reads_35 (by decide) ?_
          refine ze_aload_n 1 cd_M_reads_37 rfl rfl ?_
          refine ze_get zin_M (v := .int (nI k)) (ci := 7) rfl 6 (by decide) zm_728 rfl cd_M_reads_38 hM.1 rfl ?_
          refine ze_iadd cd_M_reads_41 ?_
          refine ze_top (y := nI (100 + k)) (nI_add _ _) ?_
          refine ze_callVi (rm' := zr_M_line) (b := a) (As := [.int (nI (100 + k))]) (rest := []) (kc_M_line (T := T) (pa := pa) (dp := dp) (i := 100 + k) hM hT0 hsz (by omega) hfo (by omega) (by omega)) ⟨rfl, rfl⟩ zy_M_line_ok zm_829 zm_831 zm_29 (ci := 7) rfl rfl (by decide) (by decide) cd_M_reads_42 hM.1 rfl rfl (Nat.le_of_ble_eq_true rfl) (fun v9 σ9 sz9 hq9 => ?_)
          obtain ⟨rfl, hF9, ok9, ps9, M9, hX9, rfl, hb9, hT0, hE9, hM⟩ := hq9
          have hF := hF.trans hF9
          refine ze_istore_n (lv' := [(1, .int (zb ok9)), (0, .ref a)]) cd_M_reads_45 rfl (by decide) rfl ?_
          refine ze_aload_n 1 cd_M_reads_46 rfl rfl ?_
          refine ze_dup cd_M_reads_47 rfl ?_
          refine ze_get zin_M (v := .int (nI k)) (ci := 7) rfl 6 (by decide) zm_728 rfl cd_M_reads_48 hM.1 rfl ?_
          refine ze_iload_n 0 cd_M_reads_51 rfl rfl ?_
          refine ze_if_eq (tgt := 59) cd_M_reads_52 (by decide) (fun c10 => ?_) (fun c10 => ?_)
          · skip
            have c10 : ok9 = false := zb_f c10
            subst c10
            have hfo9 := zm_bad_for hfo (by omega) (by omega) hX9
            refine ze_iconst (v := nI 0) cd_M_reads_59 (by decide) ?_
            refine ze_iadd cd_M_reads_60 ?_
            refine ze_top (y := nI (k + 0)) (nI_add _ _) ?_
            refine ze_put zin_M zy_M zt_M zn_M (ci := 7) rfl 6 (by decide) zm_728 rfl (Or.inl rfl) cd_M_reads_61 hM.1 rfl rfl (Nat.le_of_ble_eq_true rfl) (fs' := [.int th, .int (nI size), .ref (a + 1), .int wr, .int (nI ps9), .int (nI lv), .int (nI (k + 0)), .ref (a + 2), .ref (a + 3), .ref (a + 4), .ref (a + 5), .ref (a + 6), .ref (a + 7), .ref (a + 8), .ref (a + 9), .ref (a + 10), .ref (a + 11), .ref (a + 12), .ref (a + 13), .ref (a + 14), .ref (a + 15), .ref (a + 16), .ref (a + 17), .int (nI ak), .ref (a + 18), .ref (a + 19), .ref (a + 20), .int fr, .int (nI pr), .ref (a + 21)]) rfl ?_
            have hM := hM.put (fs' := [.int th, .int (nI size), .ref (a + 1), .int wr, .int (nI ps9), .int (nI lv), .int (nI (k + 0)), .ref (a + 2), .ref (a + 3), .ref (a + 4), .ref (a + 5), .ref (a + 6), .ref (a + 7), .ref (a + 8), .ref (a + 9), .ref (a + 10), .ref (a + 11), .ref (a + 12), .ref (a + 13), .ref (a + 14), .ref (a + 15), .ref (a + 16), .ref (a + 17), .int (nI ak), .ref (a + 18), .ref (a + 19), .ref (a + 20), .int fr, .int (nI pr), .ref (a + 21)])
            have hF := hF.up (a := a) (e := .inr (7, [.int th, .int (nI size), .ref (a + 1), .int wr, .int (nI ps9), .int (nI lv), .int (nI (k + 0)), .ref (a + 2), .ref (a + 3), .ref (a + 4), .ref (a + 5), .ref (a + 6), .ref (a + 7), .ref (a + 8), .ref (a + 9), .ref (a + 10), .ref (a + 11), .ref (a + 12), .ref (a + 13), .ref (a + 14), .ref (a + 15), .ref (a + 16), .ref (a + 17), .int (nI ak), .ref (a + 18), .ref (a + 19), .ref (a + 20), .int fr, .int (nI pr), .ref (a + 21)])) (by omega) (by omega)
            refine ze_goto (tgt := 12) cd_M_reads_64 (by decide) ?_
            refine ze_iload_n 0 cd_M_reads_12 rfl rfl ?_
            refine ze_if_eq (tgt := 67) cd_M_reads_13 (by decide) (fun _ => ?_) (fun c9 => absurd c9 (by decide))
            refine ze_aload_n 1 cd_M_reads_67 rfl rfl ?_
            refine ze_iload_n 0 cd_M_reads_68 rfl rfl ?_
            refine ze_if_eq (tgt := 76) cd_M_reads_69 (by decide) (fun _ => ?_) (fun c9 => absurd c9 (by decide))
            refine ze_aload_n 1 cd_M_reads_76 rfl rfl ?_
            refine ze_get zin_M (v := .int (nI ps9)) (ci := 7) rfl 4 (by decide) zm_726 rfl cd_M_reads_77 hM.1 rfl ?_
            refine ze_put zin_M zy_M zt_M zn_M (ci := 7) rfl 3 (by decide) zm_725 rfl (Or.inl rfl) cd_M_reads_80 hM.1 rfl rfl (Nat.le_of_ble_eq_true rfl) (fs' := [.int th, .int (nI size), .ref (a + 1), .int (nI ps9), .int (nI ps9), .int (nI lv), .int (nI (k + 0)), .ref (a + 2), .ref (a + 3), .ref (a + 4), .ref (a + 5), .ref (a + 6), .ref (a + 7), .ref (a + 8), .ref (a + 9), .ref (a + 10), .ref (a + 11), .ref (a + 12), .ref (a + 13), .ref (a + 14), .ref (a + 15), .ref (a + 16), .ref (a + 17), .int (nI ak), .ref (a + 18), .ref (a + 19), .ref (a + 20), .int fr, .int (nI pr), .ref (a + 21)]) rfl ?_
            have hM := hM.put (fs' := [.int th, .int (nI size), .ref (a + 1), .int (nI ps9), .int (nI ps9), .int (nI lv), .int (nI (k + 0)), .ref (a + 2), .ref (a + 3), .ref (a + 4), .ref (a + 5), .ref (a + 6), .ref (a + 7), .ref (a + 8), .ref (a + 9), .ref (a + 10), .ref (a + 11), .ref (a + 12), .ref (a + 13), .ref (a + 14), .ref (a + 15), .ref (a + 16), .ref (a + 17), .int (nI ak), .ref (a + 18), .ref (a + 19), .ref (a + 20), .int fr, .int (nI pr), .ref (a + 21)])
            have hF := hF.up (a := a) (e := .inr (7, [.int th, .int (nI size), .ref (a + 1), .int (nI ps9), .int (nI ps9), .int (nI lv), .int (nI (k + 0)), .ref (a + 2), .ref (a + 3), .ref (a + 4), .ref (a + 5), .ref (a + 6), .ref (a + 7), .ref (a + 8), .ref (a + 9), .ref (a + 10), .ref (a + 11), .ref (a + 12), .ref (a + 13), .ref (a + 14), .ref (a + 15), .ref (a + 16), .ref (a + 17), .int (nI ak), .ref (a + 18), .ref (a + 19), .ref (a + 20), .int fr, .int (nI pr), .ref (a + 21)])) (by omega) (by omega)
            refine ze_aload_n 1 cd_M_reads_83 rfl rfl ?_
            refine ze_iconst (v := nI 0) cd_M_reads_84 (by decide) ?_
            refine ze_put zin_M zy_M zt_M zn_M (ci := 7) rfl 1 (by decide) zm_723 rfl (Or.inl rfl) cd_M_reads_85 hM.1 rfl rfl (Nat.le_of_ble_eq_true rfl) (fs' := [.int th, .int (nI 0), .ref (a + 1), .int (nI ps9), .int (nI ps9), .int (nI lv), .int (nI (k + 0)), .ref (a + 2), .ref (a + 3), .ref (a + 4), .ref (a + 5), .ref (a + 6), .ref (a + 7), .ref (a + 8), .ref (a + 9), .ref (a + 10), .ref (a + 11), .ref (a + 12), .ref (a + 13), .ref (a + 14), .ref (a + 15), .ref (a + 16), .ref (a + 17), .int (nI ak), .ref (a + 18), .ref (a + 19), .ref (a + 20), .int fr, .int (nI pr), .ref (a + 21)]) rfl ?_
            have hM := hM.put (fs' := [.int th, .int (nI 0), .ref (a + 1), .int (nI ps9), .int (nI ps9), .int (nI lv), .int (nI (k + 0)), .ref (a + 2), .ref (a + 3), .ref (a + 4), .ref (a + 5), .ref (a + 6), .ref (a + 7), .ref (a + 8), .ref (a + 9), .ref (a + 10), .ref (a + 11), .ref (a + 12), .ref (a + 13), .ref (a + 14), .ref (a + 15), .ref (a + 16), .ref (a + 17), .int (nI ak), .ref (a + 18), .ref (a + 19), .ref (a + 20), .int fr, .int (nI pr), .ref (a + 21)])
            have hF := hF.up (a := a) (e := .inr (7, [.int th, .int (nI 0), .ref (a + 1), .int (nI ps9), .int (nI ps9), .int (nI lv), .int (nI (k + 0)), .ref (a + 2), .ref (a + 3), .ref (a + 4), .ref (a + 5), .ref (a + 6), .ref (a + 7), .ref (a + 8), .ref (a + 9), .ref (a + 10), .ref (a + 11), .ref (a + 12), .ref (a + 13), .ref (a + 14), .ref (a + 15), .ref (a + 16), .ref (a + 17), .int (nI ak), .ref (a + 18), .ref (a + 19), .ref (a + 20), .int fr, .int (nI pr), .ref (a + 21)])) (by omega) (by omega)
            refine ze_iload_n 0 cd_M_reads_88 rfl rfl ?_
            refine ze_zret cd_M_reads_89 rfl (by decide) (by decide) (by decide) ⟨_, rfl, rfl, hF, false, ps9, k + 0, M9, pa, dp, ?_, (by decide), by omega, by omega, hT0, hfo9, hM⟩
            rw [← hE]; unfold zm_lines; first | (rw [if_neg (by omega)]; done) | (rw [if_pos (by omega)]; simp only [hX9]; done) | (rw [if_pos (by omega)]; simp only [hX9]; rfl)
          · skip
            have c10 : ok9 = true := zb_t c10
            subst c10
            refine ze_iconst (v := nI 1) cd_M_reads_55 (by decide) ?_
            refine ze_goto (tgt := 60) cd_M_reads_56 (by decide) ?_
            refine ze_iadd cd_M_reads_60 ?_
            refine ze_top (y := nI (k + 1)) (nI_add _ _) ?_
            refine ze_put zin_M zy_M zt_M zn_M (ci := 7) rfl 6 (by decide) zm_728 rfl (Or.inl rfl) cd_M_reads_61 hM.1 rfl rfl (Nat.le_of_ble_eq_true rfl) (fs' := [.int th, .int (nI size), .ref (a + 1), .int wr, .int (nI ps9), .int (nI lv), .int (nI (k + 1)), .ref (a + 2), .ref (a + 3), .ref (a + 4), .ref (a + 5), .ref (a + 6), .ref (a + 7), .ref (a + 8), .ref (a + 9), .ref (a + 10), .ref (a + 11), .ref (a + 12), .ref (a + 13), .ref (a + 14), .ref (a + 15), .ref (a + 16), .ref (a + 17), .int (nI ak), .ref (a + 18), .ref (a + 19), .ref (a + 20), .int fr, .int (nI pr), .ref (a + 21)]) rfl ?_
            have hM := hM.put (fs' := [.int th, .int (nI size), .ref (a + 1), .int wr, .int (nI ps9), .int (nI lv), .int (nI (k + 1)), .ref (a + 2), .ref (a + 3), .ref (a + 4), .ref (a + 5), .ref (a + 6), .ref (a + 7), .ref (a + 8), .ref (a + 9), .ref (a + 10), .ref (a + 11), .ref (a + 12), .ref (a + 13), .ref (a + 14), .ref (a + 15), .ref (a + 16), .ref (a + 17), .int (nI ak), .ref (a + 18), .ref (a + 19), .ref (a + 20), .int fr, .int (nI pr), .ref (a + 21)])
            have hF := hF.up (a := a) (e := .inr (7, [.int th, .int (nI size), .ref (a + 1), .int wr, .int (nI ps9), .int (nI lv), .int (nI (k + 1)), .ref (a + 2), .ref (a + 3), .ref (a + 4), .ref (a + 5), .ref (a + 6), .ref (a + 7), .ref (a + 8), .ref (a + 9), .ref (a + 10), .ref (a + 11), .ref (a + 12), .ref (a + 13), .ref (a + 14), .ref (a + 15), .ref (a + 16), .ref (a + 17), .int (nI ak), .ref (a + 18), .ref (a + 19), .ref (a + 20), .int fr, .int (nI pr), .ref (a + 21)])) (by omega) (by omega)
            refine ze_goto (tgt := 12) cd_M_reads_64 (by decide) ?_
            have hln := zm_line_M hfo (by omega) hX9 (by omega)
            exact ze_sub [0, 1] rfl (ih (k + 1) _ _ _ _ _ (by omega) (by omega) (by omega) hT0 (by have h9 := zm_line_for hfo (by omega) (by omega) hX9; exact h9) (by rw [← hE]; (conv => rhs; unfold zm_lines); rw [if_pos (by omega)]; simp only [hX9]) hM hF)
  refine zM_of (lv := [(0, .ref a)]) (ini := false) (by decide) rfl (by decide) (Nat.le_of_ble_eq_true rfl) rfl ?_
  refine ze_aload_n 0 cd_M_reads_0 rfl rfl ?_
  refine ze_iconst (v := nI 0) cd_M_reads_1 (by decide) ?_
  refine ze_put zin_M zy_M zt_M zn_M (ci := 7) rfl 6 (by decide) zm_728 rfl (Or.inl rfl) cd_M_reads_2 hM.1 rfl rfl (Nat.le_of_ble_eq_true rfl) (fs' := [.int th, .int (nI size), .ref (a + 1), .int wr, .int (nI ps), .int (nI lv), .int (nI 0), .ref (a + 2), .ref (a + 3), .ref (a + 4), .ref (a + 5), .ref (a + 6), .ref (a + 7), .ref (a + 8), .ref (a + 9), .ref (a + 10), .ref (a + 11), .ref (a + 12), .ref (a + 13), .ref (a + 14), .ref (a + 15), .ref (a + 16), .ref (a + 17), .int (nI ak), .ref (a + 18), .ref (a + 19), .ref (a + 20), .int fr, .int (nI pr), .ref (a + 21)]) rfl ?_
  have hM := hM.put (fs' := [.int th, .int (nI size), .ref (a + 1), .int wr, .int (nI ps), .int (nI lv), .int (nI 0), .ref (a + 2), .ref (a + 3), .ref (a + 4), .ref (a + 5), .ref (a + 6), .ref (a + 7), .ref (a + 8), .ref (a + 9), .ref (a + 10), .ref (a + 11), .ref (a + 12), .ref (a + 13), .ref (a + 14), .ref (a + 15), .ref (a + 16), .ref (a + 17), .int (nI ak), .ref (a + 18), .ref (a + 19), .ref (a + 20), .int fr, .int (nI pr), .ref (a + 21)])
  have hF := hF.up (a := a) (e := .inr (7, [.int th, .int (nI size), .ref (a + 1), .int wr, .int (nI ps), .int (nI lv), .int (nI 0), .ref (a + 2), .ref (a + 3), .ref (a + 4), .ref (a + 5), .ref (a + 6), .ref (a + 7), .ref (a + 8), .ref (a + 9), .ref (a + 10), .ref (a + 11), .ref (a + 12), .ref (a + 13), .ref (a + 14), .ref (a + 15), .ref (a + 16), .ref (a + 17), .int (nI ak), .ref (a + 18), .ref (a + 19), .ref (a + 20), .int fr, .int (nI pr), .ref (a + 21)])) (by omega) (by omega)
  refine ze_aload_n 0 cd_M_reads_5 rfl rfl ?_
  refine ze_iconst (v := nI 0) cd_M_reads_6 (by decide) ?_
  refine ze_put zin_M zy_M zt_M zn_M (ci := 7) rfl 4 (by decide) zm_726 rfl (Or.inl rfl) cd_M_reads_7 hM.1 rfl rfl (Nat.le_of_ble_eq_true rfl) (fs' := [.int th, .int (nI size), .ref (a + 1), .int wr, .int (nI 0), .int (nI lv), .int (nI 0), .ref (a + 2), .ref (a + 3), .ref (a + 4), .ref (a + 5), .ref (a + 6), .ref (a + 7), .ref (a + 8), .ref (a + 9), .ref (a + 10), .ref (a + 11), .ref (a + 12), .ref (a + 13), .ref (a + 14), .ref (a + 15), .ref (a + 16), .ref (a + 17), .int (nI ak), .ref (a + 18), .ref (a + 19), .ref (a + 20), .int fr, .int (nI pr), .ref (a + 21)]) rfl ?_
  have hM := hM.put (fs' := [.int th, .int (nI size), .ref (a + 1), .int wr, .int (nI 0), .int (nI lv), .int (nI 0), .ref (a + 2), .ref (a + 3), .ref (a + 4), .ref (a + 5), .ref (a + 6), .ref (a + 7), .ref (a + 8), .ref (a + 9), .ref (a + 10), .ref (a + 11), .ref (a + 12), .ref (a + 13), .ref (a + 14), .ref (a + 15), .ref (a + 16), .ref (a + 17), .int (nI ak), .ref (a + 18), .ref (a + 19), .ref (a + 20), .int fr, .int (nI pr), .ref (a + 21)])
  have hF := hF.up (a := a) (e := .inr (7, [.int th, .int (nI size), .ref (a + 1), .int wr, .int (nI 0), .int (nI lv), .int (nI 0), .ref (a + 2), .ref (a + 3), .ref (a + 4), .ref (a + 5), .ref (a + 6), .ref (a + 7), .ref (a + 8), .ref (a + 9), .ref (a + 10), .ref (a + 11), .ref (a + 12), .ref (a + 13), .ref (a + 14), .ref (a + 15), .ref (a + 16), .ref (a + 17), .int (nI ak), .ref (a + 18), .ref (a + 19), .ref (a + 20), .int fr, .int (nI pr), .ref (a + 21)])) (by omega) (by omega)
  refine ze_iconst (v := nI 1) cd_M_reads_10 (by decide) ?_
  refine ze_istore_n (lv' := [(1, .int (nI 1)), (0, .ref a)]) cd_M_reads_11 rfl (by decide) rfl ?_
  exact ze_sub [0, 1] rfl (loop 102 0 0 pa dp M _ (by omega) (by omega) (by omega) hT0 (fun j hj => by omega) hX0 hM hF)
def zm_c6 (M : Nat → Nat → Int32) (to fr : Nat) : Nat → Nat → Int32 := va_up (va_up (va_up (va_up (va_up (va_up M 4 (upd (M 4) to (M 4 fr))) 5 (upd (M 5) to (M 5 fr))) 6 (upd (M 6) to (M 6 fr))) 7 (upd (M 7) to (M 7 fr))) 8 (upd (M 8) to (M 8 fr))) 9 (upd (M 9) to (M 9 fr))
def zm_ct (to fr : Nat) : Nat → Nat → (Nat → Int32) → (Nat → Int32)
  | 0, _, F => F
  | kk + 1, k, F => zm_ct to fr kk (k + 1) (upd F (16 * to + k) (vp_nar .byte (F (16 * fr + k))))
def zm_cp0 (M : Nat → Nat → Int32) (to fr : Nat) : Nat → Nat → Int32 := va_up (zm_c6 M to fr) 10 (zm_ct to fr 16 0 (M 10))
def zm_cp1 (M : Nat → Nat → Int32) (to fr : Nat) : Nat → Nat → Int32 := va_up (va_up (va_up (zm_cp0 M to fr) 1 (upd (M 1) to (M 1 fr))) 2 (upd (M 2) to (M 2 fr))) 3 (upd (M 3) to (if M 3 fr < 0 then -1 else M 3 fr - nI 100))
abbrev zr_M_copy : Room := { frames := 0, cells := 0, slots := 0, locals := 0 }
set_option maxRecDepth 100000 in
set_option maxHeartbeats 4000000 in
theorem kc_M_copy_1 {g : zx_G} {σ : zx_M} {sz : Nat} {a size ps lv ot ak pr : Nat} {th wr fr : Int32} {M : Nat → Nat → Int32} {to f : Nat} (hM : zmo g σ a th size wr ps lv ot ak fr pr M) (hto : to < 300) (hfr : f < 300) : zM g cy_M_copy cb_M_copy 5 (Option.none : Option Jvm.ClassFile.FieldType) zr_M_copy 0 0 [.ref a, .int (nI to), .int (nI f), .int (nI 1)] σ sz (zPv (fun σ' sz' => sz' = sz ∧ zfr σ σ' a 22 ∧ zmo g σ' a th size wr ps lv ot ak fr pr (zm_cp1 M to f))) := by
  have hF : zfr σ σ a 22 := zfr.rf
  have loop : ∀ (kk n : Nat) (F : Nat → Int32) (σ1 : zx_M), n + kk = 16 → zm_ct to f kk n F = zm_ct to f 16 0 (M 10) → zmo g σ1 a th size wr ps lv ot ak fr pr (va_up (zm_c6 M to f) 10 F) → zfr σ σ1 a 22 → zE g "FindingAidModel" cb_M_copy 5 (Option.none : Option Jvm.ClassFile.FieldType) false zr_M_copy 0 0 (zPv (fun σ' sz' => sz' = sz ∧ zfr σ σ' a 22 ∧ zmo g σ' a th size wr ps lv ot ak fr pr (zm_cp1 M to f))) 75 [(4, .int (nI n)), (0, .ref a), (1, .int (nI to)), (2, .int (nI f)), (3, .int (nI 1))] [] σ1 sz 0 0 := by
    intro kk
    induction kk with
    | zero =>
      intro n F σ1 hk hE hM hF
      refine ze_iload 0 cd_M_copy_75 rfl ?_
      refine ze_bipush (v := nI 16) cd_M_copy_77 (by decide) ?_
      refine ze_icmp_ge (tgt := 112) cd_M_copy_79 (by decide) (fun c2 => ?_) (fun c2 => ?_)
      · skip
        have c2 : 16 ≤ n := (nI_leI (by omega) (by omega)).mp c2
        refine ze_iload_n 4 cd_M_copy_112 rfl rfl ?_
        refine ze_if_ne (tgt := 117) cd_M_copy_113 (by decide) (fun _ => ?_) (fun c9 => absurd c9 (by decide))
        refine ze_aload_n 1 cd_M_copy_117 rfl rfl ?_
        refine ze_get zin_M (v := .ref (a + 2)) (ci := 7) rfl 7 (by decide) zm_729 rfl cd_M_copy_118 hM.1 rfl ?_
        refine ze_iload_n 2 cd_M_copy_121 rfl rfl ?_
        refine ze_aload_n 1 cd_M_copy_122 rfl rfl ?_
        refine ze_get zin_M (v := .ref (a + 2)) (ci := 7) rfl 7 (by decide) zm_729 rfl cd_M_copy_123 hM.1 rfl ?_
        refine ze_iload_n 3 cd_M_copy_126 rfl rfl ?_
        refine ze_iald (j := f) (f := M 1) cd_M_copy_127 (hM.2 1 _ rfl) rfl (by omega) (by decide) ?_
        refine ze_iast (j := to) (f := M 1) cd_M_copy_128 (hM.2 1 _ rfl) rfl (by omega) (by decide) ?_
        have hM := hM.ar 1 0 300 rfl (b := a + 2) (f := upd (M 1) to (M 1 f)) (by omega)
        have hF := hF.up (a := a + 2) (e := .inl (g.2.2.2.1 0, 300, .inl (upd (M 1) to (M 1 f)))) (by omega) (by omega)
        refine ze_aload_n 1 cd_M_copy_129 rfl rfl ?_
        refine ze_get zin_M (v := .ref (a + 3)) (ci := 7) rfl 8 (by decide) zm_730 rfl cd_M_copy_130 hM.1 rfl ?_
        refine ze_iload_n 2 cd_M_copy_133 rfl rfl ?_
        refine ze_aload_n 1 cd_M_copy_134 rfl rfl ?_
        refine ze_get zin_M (v := .ref (a + 3)) (ci := 7) rfl 8 (by decide) zm_730 rfl cd_M_copy_135 hM.1 rfl ?_
        refine ze_iload_n 3 cd_M_copy_138 rfl rfl ?_
        refine ze_iald (j := f) (f := M 2) cd_M_copy_139 (hM.2 2 _ rfl) rfl (by omega) (by decide) ?_
        refine ze_iast (j := to) (f := M 2) cd_M_copy_140 (hM.2 2 _ rfl) rfl (by omega) (by decide) ?_
        have hM := hM.ar 2 0 300 rfl (b := a + 3) (f := upd (M 2) to (M 2 f)) (by omega)
        have hF := hF.up (a := a + 3) (e := .inl (g.2.2.2.1 0, 300, .inl (upd (M 2) to (M 2 f)))) (by omega) (by omega)
        refine ze_aload_n 1 cd_M_copy_141 rfl rfl ?_
        refine ze_get zin_M (v := .ref (a + 4)) (ci := 7) rfl 9 (by decide) zm_731 rfl cd_M_copy_142 hM.1 rfl ?_
        refine ze_iload_n 2 cd_M_copy_145 rfl rfl ?_
        refine ze_aload_n 1 cd_M_copy_146 rfl rfl ?_
        refine ze_get zin_M (v := .ref (a + 4)) (ci := 7) rfl 9 (by decide) zm_731 rfl cd_M_copy_147 hM.1 rfl ?_
        refine ze_iload_n 3 cd_M_copy_150 rfl rfl ?_
        refine ze_iald (j := f) (f := M 3) cd_M_copy_151 (hM.2 3 _ rfl) rfl (by omega) (by decide) ?_
        refine ze_if_ge (tgt := 159) cd_M_copy_152 (by decide) (fun c4 => ?_) (fun c4 => ?_)
        · skip
          have c4 : ¬ (M 3 f) < 0 := Int32.not_lt.mpr c4
          refine ze_aload_n 1 cd_M_copy_159 rfl rfl ?_
          refine ze_get zin_M (v := .ref (a + 4)) (ci := 7) rfl 9 (by decide) zm_731 rfl cd_M_copy_160 hM.1 rfl ?_
          refine ze_iload_n 3 cd_M_copy_163 rfl rfl ?_
          refine ze_iald (j := f) (f := M 3) cd_M_copy_164 (hM.2 3 _ rfl) rfl (by omega) (by decide) ?_
          refine ze_bipush (v := nI 100) cd_M_copy_165 (by decide) ?_
          refine ze_isub cd_M_copy_167 ?_
          refine ze_iast (j := to) (f := M 3) cd_M_copy_168 (hM.2 3 _ rfl) rfl (by omega) (by decide) ?_
          have hM := hM.ar 3 0 300 rfl (b := a + 4) (f := upd (M 3) to ((M 3 f) - (nI 100))) (by omega)
          have hF := hF.up (a := a + 4) (e := .inl (g.2.2.2.1 0, 300, .inl (upd (M 3) to ((M 3 f) - (nI 100))))) (by omega) (by omega)
          refine ze_vret cd_M_copy_169 rfl (by decide) (by decide) ⟨rfl, rfl, hF, ?_⟩
          first | exact hM | (unfold zm_cp0; rw [← hE]; exact hM) | (unfold zm_cp1 zm_cp0; rw [← hE, if_pos (by first | exact c9 | assumption)]; exact hM) | (unfold zm_cp1 zm_cp0; rw [← hE, if_neg (by first | exact c9 | assumption)]; exact hM)
        · skip
          have c4 : (M 3 f) < 0 := Int32.not_le.mp c4
          refine ze_iconst (v := (-1 : Int32)) cd_M_copy_155 (by decide) ?_
          refine ze_goto (tgt := 168) cd_M_copy_156 (by decide) ?_
          refine ze_iast (j := to) (f := M 3) cd_M_copy_168 (hM.2 3 _ rfl) rfl (by omega) (by decide) ?_
          have hM := hM.ar 3 0 300 rfl (b := a + 4) (f := upd (M 3) to ((-1 : Int32))) (by omega)
          have hF := hF.up (a := a + 4) (e := .inl (g.2.2.2.1 0, 300, .inl (upd (M 3) to ((-1 : Int32))))) (by omega) (by omega)
          refine ze_vret cd_M_copy_169 rfl (by decide) (by decide) ⟨rfl, rfl, hF, ?_⟩
          first | exact hM | (unfold zm_cp0; rw [← hE]; exact hM) | (unfold zm_cp1 zm_cp0; rw [← hE, if_pos (by first | exact c9 | assumption)]; exact hM) | (unfold zm_cp1 zm_cp0; rw [← hE, if_neg (by first | exact c9 | assumption)]; exact hM)
      · skip
        have c2 : ¬ 16 ≤ n := fun h9 => c2 ((nI_leI (by omega) (by omega)).mpr h9)
        exfalso; omega
    | succ kk ih =>
      intro n F σ1 hk hE hM hF
      refine ze_iload 0 cd_M_copy_75 rfl ?_
      refine ze_bipush (v := nI 16) cd_M_copy_77 (by decide) ?_
      refine ze_icmp_ge (tgt := 112) cd_M_copy_79 (by decide) (fun c6 => ?_) (fun c6 => ?_)
      · skip
        have c6 : 16 ≤ n := (nI_leI (by omega) (by omega)).mp c6
        exfalso; omega
      · skip
        have c6 : ¬ 16 ≤ n := fun h9 => c6 ((nI_leI (by omega) (by omega)).mpr h9)
        refine ze_aload_n 1 cd_M_copy_82 rfl rfl ?_
        refine ze_get zin_M (v := .ref (a + 11)) (ci := 7) rfl 16 (by decide) zm_738 rfl cd_M_copy_83 hM.1 rfl ?_
        refine ze_bipush (v := nI 16) cd_M_copy_86 (by decide) ?_
        refine ze_iload_n 2 cd_M_copy_88 rfl rfl ?_
        refine ze_imul cd_M_copy_89 ?_
        refine ze_top (y := nI (16 * to)) (pk_mul _ _) ?_
        refine ze_iload 0 cd_M_copy_90 rfl ?_
        refine ze_iadd cd_M_copy_92 ?_
        refine ze_top (y := nI ((16 * to) + n)) (nI_add _ _) ?_
        refine ze_aload_n 1 cd_M_copy_93 rfl rfl ?_
        refine ze_get zin_M (v := .ref (a + 11)) (ci := 7) rfl 16 (by decide) zm_738 rfl cd_M_copy_94 hM.1 rfl ?_
        refine ze_bipush (v := nI 16) cd_M_copy_97 (by decide) ?_
        refine ze_iload_n 3 cd_M_copy_99 rfl rfl ?_
        refine ze_imul cd_M_copy_100 ?_
        refine ze_top (y := nI (16 * f)) (pk_mul _ _) ?_
        refine ze_iload 0 cd_M_copy_101 rfl ?_
        refine ze_iadd cd_M_copy_103 ?_
        refine ze_top (y := nI ((16 * f) + n)) (nI_add _ _) ?_
        refine ze_bald (j := (16 * f) + n) (f := F) cd_M_copy_104 (hM.2 10 _ rfl) rfl (by omega) (by decide) ?_
        refine ze_bast (j := (16 * to) + n) (f := F) cd_M_copy_105 (hM.2 10 _ rfl) rfl (by omega) (by decide) ?_
        have hM := hM.ar 10 4 4800 rfl (b := a + 11) (f := upd F ((16 * to) + n) (vp_nar .byte (F ((16 * f) + n)))) (by omega)
        rw [bx_uu] at hM
        have hF := hF.up (a := a + 11) (e := .inl (g.2.2.2.1 4, 4800, .inl (upd F ((16 * to) + n) (vp_nar .byte (F ((16 * f) + n)))))) (by omega) (by omega)
        refine ze_iinc (v := nI (n + 1)) (lv' := [(4, .int (nI (n + 1))), (0, .ref a), (1, .int (nI to)), (2, .int (nI f)), (3, .int (nI 1))]) 0 cd_M_copy_106 rfl (nI_add _ 1) (by decide) rfl ?_
        refine ze_goto (tgt := 75) cd_M_copy_109 (by decide) ?_
        exact ze_sub [0, 1, 2, 3, 4] rfl (ih (n + 1) _ _ (by omega) (by rw [← hE]; rfl) hM hF)
  refine zM_of (lv := [(0, .ref a), (1, .int (nI to)), (2, .int (nI f)), (3, .int (nI 1))]) (ini := false) (by decide) rfl (by decide) (Nat.le_of_ble_eq_true rfl) rfl ?_
  refine ze_aload_n 0 cd_M_copy_0 rfl rfl ?_
  refine ze_get zin_M (v := .ref (a + 5)) (ci := 7) rfl 10 (by decide) zm_732 rfl cd_M_copy_1 hM.1 rfl ?_
  refine ze_iload_n 1 cd_M_copy_4 rfl rfl ?_
  refine ze_aload_n 0 cd_M_copy_5 rfl rfl ?_
  refine ze_get zin_M (v := .ref (a + 5)) (ci := 7) rfl 10 (by decide) zm_732 rfl cd_M_copy_6 hM.1 rfl ?_
  refine ze_iload_n 2 cd_M_copy_9 rfl rfl ?_
  refine ze_iald (j := f) cd_M_copy_10 (hM.2 4 _ rfl) rfl (by omega) (by decide) ?_
  refine ze_iast (j := to) cd_M_copy_11 (hM.2 4 _ rfl) rfl (by omega) (by decide) ?_
  have hM := hM.ar 4 0 300 rfl (b := a + 5) (f := upd (M 4) to (M 4 f)) (by omega)
  have hF := hF.up (a := a + 5) (e := .inl (g.2.2.2.1 0, 300, .inl (upd (M 4) to (M 4 f)))) (by omega) (by omega)
  refine ze_aload_n 0 cd_M_copy_12 rfl rfl ?_
  refine ze_get zin_M (v := .ref (a + 6)) (ci := 7) rfl 11 (by decide) zm_733 rfl cd_M_copy_13 hM.1 rfl ?_
  refine ze_iload_n 1 cd_M_copy_16 rfl rfl ?_
  refine ze_aload_n 0 cd_M_copy_17 rfl rfl ?_
  refine ze_get zin_M (v := .ref (a + 6)) (ci := 7) rfl 11 (by decide) zm_733 rfl cd_M_copy_18 hM.1 rfl ?_
  refine ze_iload_n 2 cd_M_copy_21 rfl rfl ?_
  refine ze_iald (j := f) (f := M 5) cd_M_copy_22 (hM.2 5 _ rfl) rfl (by omega) (by decide) ?_
  refine ze_iast (j := to) (f := M 5) cd_M_copy_23 (hM.2 5 _ rfl) rfl (by omega) (by decide) ?_
  have hM := hM.ar 5 0 300 rfl (b := a + 6) (f := upd (M 5) to (M 5 f)) (by omega)
  have hF := hF.up (a := a + 6) (e := .inl (g.2.2.2.1 0, 300, .inl (upd (M 5) to (M 5 f)))) (by omega) (by omega)
  refine ze_aload_n 0 cd_M_copy_24 rfl rfl ?_
  refine ze_get zin_M (v := .ref (a + 7)) (ci := 7) rfl 12 (by decide) zm_734 rfl cd_M_copy_25 hM.1 rfl ?_
  refine ze_iload_n 1 cd_M_copy_28 rfl rfl ?_
  refine ze_aload_n 0 cd_M_copy_29 rfl rfl ?_
  refine ze_get zin_M (v := .ref (a + 7)) (ci := 7) rfl 12 (by decide) zm_734 rfl cd_M_copy_30 hM.1 rfl ?_
  refine ze_iload_n 2 cd_M_copy_33 rfl rfl ?_
  refine ze_iald (j := f) (f := M 6) cd_M_copy_34 (hM.2 6 _ rfl) rfl (by omega) (by decide) ?_
  refine ze_iast (j := to) (f := M 6) cd_M_copy_35 (hM.2 6 _ rfl) rfl (by omega) (by decide) ?_
  have hM := hM.ar 6 0 300 rfl (b := a + 7) (f := upd (M 6) to (M 6 f)) (by omega)
  have hF := hF.up (a := a + 7) (e := .inl (g.2.2.2.1 0, 300, .inl (upd (M 6) to (M 6 f)))) (by omega) (by omega)
  refine ze_aload_n 0 cd_M_copy_36 rfl rfl ?_
  refine ze_get zin_M (v := .ref (a + 8)) (ci := 7) rfl 13 (by decide) zm_735 rfl cd_M_copy_37 hM.1 rfl ?_
  refine ze_iload_n 1 cd_M_copy_40 rfl rfl ?_
  refine ze_aload_n 0 cd_M_copy_41 rfl rfl ?_
  refine ze_get zin_M (v := .ref (a + 8)) (ci := 7) rfl 13 (by decide) zm_735 rfl cd_M_copy_42 hM.1 rfl ?_
  refine ze_iload_n 2 cd_M_copy_45 rfl rfl ?_
  refine ze_iald (j := f) (f := M 7) cd_M_copy_46 (hM.2 7 _ rfl) rfl (by omega) (by decide) ?_
  refine ze_iast (j := to) (f := M 7) cd_M_copy_47 (hM.2 7 _ rfl) rfl (by omega) (by decide) ?_
  have hM := hM.ar 7 0 300 rfl (b := a + 8) (f := upd (M 7) to (M 7 f)) (by omega)
  have hF := hF.up (a := a + 8) (e := .inl (g.2.2.2.1 0, 300, .inl (upd (M 7) to (M 7 f)))) (by omega) (by omega)
  refine ze_aload_n 0 cd_M_copy_48 rfl rfl ?_
  refine ze_get zin_M (v := .ref (a + 9)) (ci := 7) rfl 14 (by decide) zm_736 rfl cd_M_copy_49 hM.1 rfl ?_
  refine ze_iload_n 1 cd_M_copy_52 rfl rfl ?_
  refine ze_aload_n 0 cd_M_copy_53 rfl rfl ?_
  refine ze_get zin_M (v := .ref (a + 9)) (ci := 7) rfl 14 (by decide) zm_736 rfl cd_M_copy_54 hM.1 rfl ?_
  refine ze_iload_n 2 cd_M_copy_57 rfl rfl ?_
  refine ze_iald (j := f) (f := M 8) cd_M_copy_58 (hM.2 8 _ rfl) rfl (by omega) (by decide) ?_
  refine ze_iast (j := to) (f := M 8) cd_M_copy_59 (hM.2 8 _ rfl) rfl (by omega) (by decide) ?_
  have hM := hM.ar 8 0 300 rfl (b := a + 9) (f := upd (M 8) to (M 8 f)) (by omega)
  have hF := hF.up (a := a + 9) (e := .inl (g.2.2.2.1 0, 300, .inl (upd (M 8) to (M 8 f)))) (by omega) (by omega)
  refine ze_aload_n 0 cd_M_copy_60 rfl rfl ?_
  refine ze_get zin_M (v := .ref (a + 10)) (ci := 7) rfl 15 (by decide) zm_737 rfl cd_M_copy_61 hM.1 rfl ?_
  refine ze_iload_n 1 cd_M_copy_64 rfl rfl ?_
  refine ze_aload_n 0 cd_M_copy_65 rfl rfl ?_
  refine ze_get zin_M (v := .ref (a + 10)) (ci := 7) rfl 15 (by decide) zm_737 rfl cd_M_copy_66 hM.1 rfl ?_
  refine ze_iload_n 2 cd_M_copy_69 rfl rfl ?_
  refine ze_iald (j := f) (f := M 9) cd_M_copy_70 (hM.2 9 _ rfl) rfl (by omega) (by decide) ?_
  refine ze_iast (j := to) (f := M 9) cd_M_copy_71 (hM.2 9 _ rfl) rfl (by omega) (by decide) ?_
  have hM := hM.ar 9 0 300 rfl (b := a + 10) (f := upd (M 9) to (M 9 f)) (by omega)
  have hF := hF.up (a := a + 10) (e := .inl (g.2.2.2.1 0, 300, .inl (upd (M 9) to (M 9 f)))) (by omega) (by omega)
  refine ze_iconst (v := nI 0) cd_M_copy_72 (by decide) ?_
  refine ze_istore (lv' := [(4, .int (nI 0)), (0, .ref a), (1, .int (nI to)), (2, .int (nI f)), (3, .int (nI 1))]) cd_M_copy_73 (by decide) rfl ?_
  exact ze_sub [0, 1, 2, 3, 4] rfl (loop 16 0 (M 10) _ (by omega) rfl (by rw [show va_up (zm_c6 M to f) 10 (M 10) = zm_c6 M to f from va_up_id (zm_c6 M to f) 10]; exact hM) hF)
set_option maxRecDepth 100000 in
set_option maxHeartbeats 4000000 in
theorem kc_M_copy_0 {g : zx_G} {σ : zx_M} {sz : Nat} {a size ps lv ot ak pr : Nat} {th wr fr : Int32} {M : Nat → Nat → Int32} {to f : Nat} (hM : zmo g σ a th size wr ps lv ot ak fr pr M) (hto : to < 300) (hfr : f < 300) : zM g cy_M_copy cb_M_copy 5 (Option.none : Option Jvm.ClassFile.FieldType) zr_M_copy 0 0 [.ref a, .int (nI to), .int (nI f), .int (nI 0)] σ sz (zPv (fun σ' sz' => sz' = sz ∧ zfr σ σ' a 22 ∧ zmo g σ' a th size wr ps lv ot ak fr pr (zm_cp0 M to f))) := by
  have hF : zfr σ σ a 22 := zfr.rf
  have loop : ∀ (kk n : Nat) (F : Nat → Int32) (σ1 : zx_M), n + kk = 16 → zm_ct to f kk n F = zm_ct to f 16 0 (M 10) → zmo g σ1 a th size wr ps lv ot ak fr pr (va_up (zm_c6 M to f) 10 F) → zfr σ σ1 a 22 → zE g "FindingAidModel" cb_M_copy 5 (Option.none : Option Jvm.ClassFile.FieldType) false zr_M_copy 0 0 (zPv (fun σ' sz' => sz' = sz ∧ zfr σ σ' a 22 ∧ zmo g σ' a th size wr ps lv ot ak fr pr (zm_cp0 M to f))) 75 [(4, .int (nI n)), (0, .ref a), (1, .int (nI to)), (2, .int (nI f)), (3, .int (nI 0))] [] σ1 sz 0 0 := by
    intro kk
    induction kk with
    | zero =>
      intro n F σ1 hk hE hM hF
      refine ze_iload 0 cd_M_copy_75 rfl ?_
      refine ze_bipush (v := nI 16) cd_M_copy_77 (by decide) ?_
      refine ze_icmp_ge (tgt := 112) cd_M_copy_79 (by decide) (fun c2 => ?_) (fun c2 => ?_)
      · skip
        have c2 : 16 ≤ n := (nI_leI (by omega) (by omega)).mp c2
        refine ze_iload_n 4 cd_M_copy_112 rfl rfl ?_
        refine ze_if_ne (tgt := 117) cd_M_copy_113 (by decide) (fun c9 => absurd c9 (by decide)) (fun _ => ?_)
        refine ze_vret cd_M_copy_116 rfl (by decide) (by decide) ⟨rfl, rfl, hF, ?_⟩
        first | exact hM | (unfold zm_cp0; rw [← hE]; exact hM) | (unfold zm_cp1 zm_cp0; rw [← hE, if_pos (by first | exact c9 | assumption)]; exact hM) | (unfold zm_cp1 zm_cp0; rw [← hE, if_neg (by first | exact c9 | assumption)]; exact hM)
      · skip
        have c2 : ¬ 16 ≤ n := fun h9 => c2 ((nI_leI (by omega) (by omega)).mpr h9)
        exfalso; omega
    | succ kk ih =>
      intro n F σ1 hk hE hM hF
      refine ze_iload 0 cd_M_copy_75 rfl ?_
      refine ze_bipush (v := nI 16) cd_M_copy_77 (by decide) ?_
      refine ze_icmp_ge (tgt := 112) cd_M_copy_79 (by decide) (fun c5 => ?_) (fun c5 => ?_)
      · skip
        have c5 : 16 ≤ n := (nI_leI (by omega) (by omega)).mp c5
        exfalso; omega
      · skip
        have c5 : ¬ 16 ≤ n := fun h9 => c5 ((nI_leI (by omega) (by omega)).mpr h9)
        refine ze_aload_n 1 cd_M_copy_82 rfl rfl ?_
        refine ze_get zin_M (v := .ref (a + 11)) (ci := 7) rfl 16 (by decide) zm_738 rfl cd_M_copy_83 hM.1 rfl ?_
        refine ze_bipush (v := nI 16) cd_M_copy_86 (by decide) ?_
        refine ze_iload_n 2 cd_M_copy_88 rfl rfl ?_
        refine ze_imul cd_M_copy_89 ?_
        refine ze_top (y := nI (16 * to)) (pk_mul _ _) ?_
        refine ze_iload 0 cd_M_copy_90 rfl ?_
        refine ze_iadd cd_M_copy_92 ?_
        refine ze_top (y := nI ((16 * to) + n)) (nI_add _ _) ?_
        refine ze_aload_n 1 cd_M_copy_93 rfl rfl ?_
        refine ze_get zin_M (v := .ref (a + 11)) (ci := 7) rfl 16 (by decide) zm_738 rfl cd_M_copy_94 hM.1 rfl ?_
        refine ze_bipush (v := nI 16) cd_M_copy_97 (by decide) ?_
        refine ze_iload_n 3 cd_M_copy_99 rfl rfl ?_
        refine ze_imul cd_M_copy_100 ?_
        refine ze_top (y := nI (16 * f)) (pk_mul _ _) ?_
        refine ze_iload 0 cd_M_copy_101 rfl ?_
        refine ze_iadd cd_M_copy_103 ?_
        refine ze_top (y := nI ((16 * f) + n)) (nI_add _ _) ?_
        refine ze_bald (j := (16 * f) + n) (f := F) cd_M_copy_104 (hM.2 10 _ rfl) rfl (by omega) (by decide) ?_
        refine ze_bast (j := (16 * to) + n) (f := F) cd_M_copy_105 (hM.2 10 _ rfl) rfl (by omega) (by decide) ?_
        have hM := hM.ar 10 4 4800 rfl (b := a + 11) (f := upd F ((16 * to) + n) (vp_nar .byte (F ((16 * f) + n)))) (by omega)
        rw [bx_uu] at hM
        have hF := hF.up (a := a + 11) (e := .inl (g.2.2.2.1 4, 4800, .inl (upd F ((16 * to) + n) (vp_nar .byte (F ((16 * f) + n)))))) (by omega) (by omega)
        refine ze_iinc (v := nI (n + 1)) (lv' := [(4, .int (nI (n + 1))), (0, .ref a), (1, .int (nI to)), (2, .int (nI f)), (3, .int (nI 0))]) 0 cd_M_copy_106 rfl (nI_add _ 1) (by decide) rfl ?_
        refine ze_goto (tgt := 75) cd_M_copy_109 (by decide) ?_
        exact ze_sub [0, 1, 2, 3, 4] rfl (ih (n + 1) _ _ (by omega) (by rw [← hE]; rfl) hM hF)
  refine zM_of (lv := [(0, .ref a), (1, .int (nI to)), (2, .int (nI f)), (3, .int (nI 0))]) (ini := false) (by decide) rfl (by decide) (Nat.le_of_ble_eq_true rfl) rfl ?_
  refine ze_aload_n 0 cd_M_copy_0 rfl rfl ?_
  refine ze_get zin_M (v := .ref (a + 5)) (ci := 7) rfl 10 (by decide) zm_732 rfl cd_M_copy_1 hM.1 rfl ?_
  refine ze_iload_n 1 cd_M_copy_4 rfl rfl ?_
  refine ze_aload_n 0 cd_M_copy_5 rfl rfl ?_
  refine ze_get zin_M (v := .ref (a + 5)) (ci := 7) rfl 10 (by decide) zm_732 rfl cd_M_copy_6 hM.1 rfl ?_
  refine ze_iload_n 2 cd_M_copy_9 rfl rfl ?_
  refine ze_iald (j := f) cd_M_copy_10 (hM.2 4 _ rfl) rfl (by omega) (by decide) ?_
  refine ze_iast (j := to) cd_M_copy_11 (hM.2 4 _ rfl) rfl (by omega) (by decide) ?_
  have hM := hM.ar 4 0 300 rfl (b := a + 5) (f := upd (M 4) to (M 4 f)) (by omega)
  have hF := hF.up (a := a + 5) (e := .inl (g.2.2.2.1 0, 300, .inl (upd (M 4) to (M 4 f)))) (by omega) (by omega)
  refine ze_aload_n 0 cd_M_copy_12 rfl rfl ?_
  refine ze_get zin_M (v := .ref (a + 6)) (ci := 7) rfl 11 (by decide) zm_733 rfl cd_M_copy_13 hM.1 rfl ?_
  refine ze_iload_n 1 cd_M_copy_16 rfl rfl ?_
  refine ze_aload_n 0 cd_M_copy_17 rfl rfl ?_
  refine ze_get zin_M (v := .ref (a + 6)) (ci := 7) rfl 11 (by decide) zm_733 rfl cd_M_copy_18 hM.1 rfl ?_
  refine ze_iload_n 2 cd_M_copy_21 rfl rfl ?_
  refine ze_iald (j := f) (f := M 5) cd_M_copy_22 (hM.2 5 _ rfl) rfl (by omega) (by decide) ?_
  refine ze_iast (j := to) (f := M 5) cd_M_copy_23 (hM.2 5 _ rfl) rfl (by omega) (by decide) ?_
  have hM := hM.ar 5 0 300 rfl (b := a + 6) (f := upd (M 5) to (M 5 f)) (by omega)
  have hF := hF.up (a := a + 6) (e := .inl (g.2.2.2.1 0, 300, .inl (upd (M 5) to (M 5 f)))) (by omega) (by omega)
  refine ze_aload_n 0 cd_M_copy_24 rfl rfl ?_
  refine ze_get zin_M (v := .ref (a + 7)) (ci := 7) rfl 12 (by decide) zm_734 rfl cd_M_copy_25 hM.1 rfl ?_
  refine ze_iload_n 1 cd_M_copy_28 rfl rfl ?_
  refine ze_aload_n 0 cd_M_copy_29 rfl rfl ?_
  refine ze_get zin_M (v := .ref (a + 7)) (ci := 7) rfl 12 (by decide) zm_734 rfl cd_M_copy_30 hM.1 rfl ?_
  refine ze_iload_n 2 cd_M_copy_33 rfl rfl ?_
  refine ze_iald (j := f) (f := M 6) cd_M_copy_34 (hM.2 6 _ rfl) rfl (by omega) (by decide) ?_
  refine ze_iast (j := to) (f := M 6) cd_M_copy_35 (hM.2 6 _ rfl) rfl (by omega) (by decide) ?_
  have hM := hM.ar 6 0 300 rfl (b := a + 7) (f := upd (M 6) to (M 6 f)) (by omega)
  have hF := hF.up (a := a + 7) (e := .inl (g.2.2.2.1 0, 300, .inl (upd (M 6) to (M 6 f)))) (by omega) (by omega)
  refine ze_aload_n 0 cd_M_copy_36 rfl rfl ?_
  refine ze_get zin_M (v := .ref (a + 8)) (ci := 7) rfl 13 (by decide) zm_735 rfl cd_M_copy_37 hM.1 rfl ?_
  refine ze_iload_n 1 cd_M_copy_40 rfl rfl ?_
  refine ze_aload_n 0 cd_M_copy_41 rfl rfl ?_
  refine ze_get zin_M (v := .ref (a + 8)) (ci := 7) rfl 13 (by decide) zm_735 rfl cd_M_copy_42 hM.1 rfl ?_
  refine ze_iload_n 2 cd_M_copy_45 rfl rfl ?_
  refine ze_iald (j := f) (f := M 7) cd_M_copy_46 (hM.2 7 _ rfl) rfl (by omega) (by decide) ?_
  refine ze_iast (j := to) (f := M 7) cd_M_copy_47 (hM.2 7 _ rfl) rfl (by omega) (by decide) ?_
  have hM := hM.ar 7 0 300 rfl (b := a + 8) (f := upd (M 7) to (M 7 f)) (by omega)
  have hF := hF.up (a := a + 8) (e := .inl (g.2.2.2.1 0, 300, .inl (upd (M 7) to (M 7 f)))) (by omega) (by omega)
  refine ze_aload_n 0 cd_M_copy_48 rfl rfl ?_
  refine ze_get zin_M (v := .ref (a + 9)) (ci := 7) rfl 14 (by decide) zm_736 rfl cd_M_copy_49 hM.1 rfl ?_
  refine ze_iload_n 1 cd_M_copy_52 rfl rfl ?_
  refine ze_aload_n 0 cd_M_copy_53 rfl rfl ?_
  refine ze_get zin_M (v := .ref (a + 9)) (ci := 7) rfl 14 (by decide) zm_736 rfl cd_M_copy_54 hM.1 rfl ?_
  refine ze_iload_n 2 cd_M_copy_57 rfl rfl ?_
  refine ze_iald (j := f) (f := M 8) cd_M_copy_58 (hM.2 8 _ rfl) rfl (by omega) (by decide) ?_
  refine ze_iast (j := to) (f := M 8) cd_M_copy_59 (hM.2 8 _ rfl) rfl (by omega) (by decide) ?_
  have hM := hM.ar 8 0 300 rfl (b := a + 9) (f := upd (M 8) to (M 8 f)) (by omega)
  have hF := hF.up (a := a + 9) (e := .inl (g.2.2.2.1 0, 300, .inl (upd (M 8) to (M 8 f)))) (by omega) (by omega)
  refine ze_aload_n 0 cd_M_copy_60 rfl rfl ?_
  refine ze_get zin_M (v := .ref (a + 10)) (ci := 7) rfl 15 (by decide) zm_737 rfl cd_M_copy_61 hM.1 rfl ?_
  refine ze_iload_n 1 cd_M_copy_64 rfl rfl ?_
  refine ze_aload_n 0 cd_M_copy_65 rfl rfl ?_
  refine ze_get zin_M (v := .ref (a + 10)) (ci := 7) rfl 15 (by decide) zm_737 rfl cd_M_copy_66 hM.1 rfl ?_
  refine ze_iload_n 2 cd_M_copy_69 rfl rfl ?_
  refine ze_iald (j := f) (f := M 9) cd_M_copy_70 (hM.2 9 _ rfl) rfl (by omega) (by decide) ?_
  refine ze_iast (j := to) (f := M 9) cd_M_copy_71 (hM.2 9 _ rfl) rfl (by omega) (by decide) ?_
  have hM := hM.ar 9 0 300 rfl (b := a + 10) (f := upd (M 9) to (M 9 f)) (by omega)
  have hF := hF.up (a := a + 10) (e := .inl (g.2.2.2.1 0, 300, .inl (upd (M 9) to (M 9 f)))) (by omega) (by omega)
  refine ze_iconst (v := nI 0) cd_M_copy_72 (by decide) ?_
  refine ze_istore (lv' := [(4, .int (nI 0)), (0, .ref a), (1, .int (nI to)), (2, .int (nI f)), (3, .int (nI 0))]) cd_M_copy_73 (by decide) rfl ?_
  exact ze_sub [0, 1, 2, 3, 4] rfl (loop 16 0 (M 10) _ (by omega) rfl (by rw [show va_up (zm_c6 M to f) 10 (M 10) = zm_c6 M to f from va_up_id (zm_c6 M to f) 10]; exact hM) hF)
