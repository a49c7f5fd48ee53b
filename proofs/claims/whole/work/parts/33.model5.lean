def zm_M0 (i : Nat) (M : Nat → Nat → Int32) : Nat → Nat → Int32 := va_up (va_up (va_up (va_up (va_up M 4 (upd (M 4) i (-1))) 5 (upd (M 5) i (-1))) 6 (upd (M 6) i (nI 0))) 7 (upd (M 7) i (-1))) 8 (upd (M 8) i (-1))
def zm_end (c : Nat → Int32) (ps : Nat) (M : Nat → Nat → Int32) : zqs := zm_eat c (nI 10) ps M
def zm_le (c : Nat → Int32) (i ps : Nat) (M : Nat → Nat → Int32) : zqs := match zm_eat c (nI 101) ps M with
  | (false, ps1, M1) => (false, ps1, M1)
  | (true, ps1, M1) => match zm_ext c i ps1 M1 with
    | (false, ps2, M2) => (false, ps2, M2)
    | (true, ps2, M2) => zm_end c ps2 M2
def zm_lm2 (c : Nat → Int32) (i ps : Nat) (M : Nat → Nat → Int32) : zqs := match zm_eat c (nI 32) ps M with
  | (false, ps5, M5) => zm_end c ps5 M5
  | (true, ps5, M5) => if c ps5 = nI 100 then (match zm_dated c i (ps5 + 1) M5 with
    | (false, ps6, M6) => (false, ps6, M6)
    | (true, ps6, M6) => match zm_eat c (nI 32) ps6 M6 with
      | (false, ps7, M7) => zm_end c ps7 M7
      | (true, ps7, M7) => zm_le c i ps7 M7) else zm_le c i ps5 M5
def zm_line1 (c : Nat → Int32) (i : Nat) (pa : Nat → Option Nat) (dp : Nat → Nat) (ps : Nat) (M : Nat → Nat → Int32) : zqs := match zm_place c i pa dp ps M with
  | (false, ps1, M1) => (false, ps1, M1)
  | (true, ps1, M1) => match zm_num c 2 i ps1 M1 with
    | (false, ps2, M2) => (false, ps2, M2)
    | (true, ps2, M2) => match zm_eat c (nI 32) ps2 M2 with
      | (false, ps3, M3) => (false, ps3, M3)
      | (true, ps3, M3) => match zm_title c i ps3 M3 with
        | (false, ps4, M4) => (false, ps4, M4)
        | (true, ps4, M4) => zm_lm2 c i ps4 M4
def zm_line (c : Nat → Int32) (i : Nat) (pa : Nat → Option Nat) (dp : Nat → Nat) (ps : Nat) (M : Nat → Nat → Int32) : zqs := if i = 200 then (false, ps, M) else zm_line1 c i pa dp ps (zm_M0 i M)
abbrev zr_M_line : Room := { frames := 4, cells := 0, slots := 0, locals := 89 }
set_option maxRecDepth 100000 in
set_option maxHeartbeats 4000000 in
theorem kc_M_line {g : zx_G} {σ : zx_M} {sz : Nat} {a size ps lv ot ak pr : Nat} {th wr fr : Int32} {M : Nat → Nat → Int32} {T : Nat → Int32} {pa : Nat → Option Nat} {dp : Nat → Nat} {i : Nat} (hM : zmo g σ a th size wr ps lv ot ak fr pr M) (hT0 : M 0 = T) (hsz : size ≤ 3000) (hps : ps ≤ 13000) (hfo : zfor (M 3) pa dp (fun j => 100 ≤ j ∧ j < i)) (hi1 : 100 ≤ i) (hi : i ≤ 200) : zM g cy_M_line cb_M_line 3 (Option.some Jvm.ClassFile.FieldType.boolean) zr_M_line 0 0 [.ref a, .int (nI i)] σ sz (zPi (fun v σ' sz' => sz' = sz ∧ zfr σ σ' a 22 ∧ ∃ ok ps' M', zm_line (zmd T size) i pa dp ps M = (ok, ps', M') ∧ v = zb ok ∧ ps' ≤ ps + 60 ∧ M' 0 = T ∧ (True) ∧ zmo g σ' a th size wr ps' lv ot ak fr pr M')) := by
  have hF : zfr σ σ a 22 := zfr.rf
  refine zM_of (lv := [(0, .ref a), (1, .int (nI i))]) (ini := false) (by decide) rfl (by decide) (Nat.le_of_ble_eq_true rfl) rfl ?_
  refine ze_iload_n 1 cd_M_line_0 rfl rfl ?_
  refine ze_sipush (v := nI 200) cd_M_line_1 (by decide) ?_
  refine ze_icmp_ne (tgt := 9) cd_M_line_4 (by decide) (fun c1 => ?_) (fun c1 => ?_)
  · skip
    have c1 : ¬ i = 200 := fun h9 => c1 (by rw [h9])
    refine ze_aload_n 0 cd_M_line_9 rfl rfl ?_
    refine ze_get zin_M (v := .ref (a + 5)) (ci := 7) rfl 10 (by decide) zm_732 rfl cd_M_line_10 hM.1 rfl ?_
    refine ze_iload_n 1 cd_M_line_13 rfl rfl ?_
    refine ze_iconst (v := (-1 : Int32)) cd_M_line_14 (by decide) ?_
    refine ze_iast (j := i) cd_M_line_15 (hM.2 4 _ rfl) rfl (by omega) (by decide) ?_
    have hM := hM.ar 4 0 300 rfl (b := a + 5) (f := upd (M 4) i ((-1 : Int32))) (by omega)
    have hF := hF.up (a := a + 5) (e := .inl (g.2.2.2.1 0, 300, .inl (upd (M 4) i ((-1 : Int32))))) (by omega) (by omega)
    refine ze_aload_n 0 cd_M_line_16 rfl rfl ?_
    refine ze_get zin_M (v := .ref (a + 6)) (ci := 7) rfl 11 (by decide) zm_733 rfl cd_M_line_17 hM.1 rfl ?_
    refine ze_iload_n 1 cd_M_line_20 rfl rfl ?_
    refine ze_iconst (v := (-1 : Int32)) cd_M_line_21 (by decide) ?_
    refine ze_iast (j := i) (f := M 5) cd_M_line_22 (hM.2 5 _ rfl) rfl (by omega) (by decide) ?_
    have hM := hM.ar 5 0 300 rfl (b := a + 6) (f := upd (M 5) i ((-1 : Int32))) (by omega)
    have hF := hF.up (a := a + 6) (e := .inl (g.2.2.2.1 0, 300, .inl (upd (M 5) i ((-1 : Int32))))) (by omega) (by omega)
    refine ze_aload_n 0 cd_M_line_23 rfl rfl ?_
    refine ze_get zin_M (v := .ref (a + 7)) (ci := 7) rfl 12 (by decide) zm_734 rfl cd_M_line_24 hM.1 rfl ?_
    refine ze_iload_n 1 cd_M_line_27 rfl rfl ?_
    refine ze_iconst (v := nI 0) cd_M_line_28 (by decide) ?_
    refine ze_iast (j := i) (f := M 6) cd_M_line_29 (hM.2 6 _ rfl) rfl (by omega) (by decide) ?_
    have hM := hM.ar 6 0 300 rfl (b := a + 7) (f := upd (M 6) i (nI 0)) (by omega)
    have hF := hF.up (a := a + 7) (e := .inl (g.2.2.2.1 0, 300, .inl (upd (M 6) i (nI 0)))) (by omega) (by omega)
    refine ze_aload_n 0 cd_M_line_30 rfl rfl ?_
    refine ze_get zin_M (v := .ref (a + 8)) (ci := 7) rfl 13 (by decide) zm_735 rfl cd_M_line_31 hM.1 rfl ?_
    refine ze_iload_n 1 cd_M_line_34 rfl rfl ?_
    refine ze_iconst (v := (-1 : Int32)) cd_M_line_35 (by decide) ?_
    refine ze_iast (j := i) (f := M 7) cd_M_line_36 (hM.2 7 _ rfl) rfl (by omega) (by decide) ?_
    have hM := hM.ar 7 0 300 rfl (b := a + 8) (f := upd (M 7) i ((-1 : Int32))) (by omega)
    have hF := hF.up (a := a + 8) (e := .inl (g.2.2.2.1 0, 300, .inl (upd (M 7) i ((-1 : Int32))))) (by omega) (by omega)
    refine ze_aload_n 0 cd_M_line_37 rfl rfl ?_
    refine ze_get zin_M (v := .ref (a + 9)) (ci := 7) rfl 14 (by decide) zm_736 rfl cd_M_line_38 hM.1 rfl ?_
    refine ze_iload_n 1 cd_M_line_41 rfl rfl ?_
    refine ze_iconst (v := (-1 : Int32)) cd_M_line_42 (by decide) ?_
    refine ze_iast (j := i) (f := M 8) cd_M_line_43 (hM.2 8 _ rfl) rfl (by omega) (by decide) ?_
    have hM := hM.ar 8 0 300 rfl (b := a + 9) (f := upd (M 8) i ((-1 : Int32))) (by omega)
    have hF := hF.up (a := a + 9) (e := .inl (g.2.2.2.1 0, 300, .inl (upd (M 8) i ((-1 : Int32))))) (by omega) (by omega)
    refine ze_aload_n 0 cd_M_line_44 rfl rfl ?_
    refine ze_iload_n 1 cd_M_line_45 rfl rfl ?_
    refine ze_callVi (rm' := zr_M_place_I) (b := a) (As := [.int (nI i)]) (rest := []) (kc_M_place_I (T := T) (pa := pa) (dp := dp) (i := i) hM hT0 hsz (by omega) hfo (by omega) (by omega)) ⟨rfl, rfl⟩ zy_M_place_I_ok zm_833 zm_835 zm_30 (ci := 7) rfl rfl (by decide) (by decide) cd_M_line_46 hM.1 rfl rfl (Nat.le_of_ble_eq_true rfl) (fun v9 σ9 sz9 hq9 => ?_)
    obtain ⟨rfl, hF9, ok2, ps2, M2, hX2, rfl, hb2, hT0, hE2, hM⟩ := hq9
    have hF := hF.trans hF9
    refine ze_if_eq (tgt := 81) cd_M_line_49 (by decide) (fun c3 => ?_) (fun c3 => ?_)
    · skip
      have c3 : ok2 = false := zb_f c3
      subst c3
      refine ze_iconst (v := nI 0) cd_M_line_81 (by decide) ?_
      refine ze_zret cd_M_line_82 rfl (by decide) (by decide) (by decide) ⟨_, rfl, rfl, hF, false, ps2, M2, ?_, (by decide), by omega, hT0, trivial, hM⟩
      unfold zm_line; first | (rw [if_pos (by omega)]; done) | (rw [if_neg (by omega)]; unfold zm_M0; simp only [zm_line1, zm_lm2, zm_le, zm_end, c1, hX2]; done) | (rw [if_neg (by omega)]; unfold zm_M0; simp only [zm_line1, zm_lm2, zm_le, zm_end, hX2]; simp [c1, hX2]; done)
    · skip
      have c3 : ok2 = true := zb_t c3
      subst c3
      refine ze_aload_n 0 cd_M_line_52 rfl rfl ?_
      refine ze_aload_n 0 cd_M_line_53 rfl rfl ?_
      refine ze_get zin_M (v := .ref (a + 3)) (ci := 7) rfl 8 (by decide) zm_730 rfl cd_M_line_54 hM.1 rfl ?_
      refine ze_iload_n 1 cd_M_line_57 rfl rfl ?_
      refine ze_callVi (rm' := zr_M_number) (b := a) (As := [.ref (a + 3), .int (nI i)]) (rest := []) (kc_M_number_2 (T := T) (i := i) hM hT0 hsz (by omega) (by omega)) ⟨rfl, rfl⟩ zy_M_number_ok zm_848 zm_850 zm_33 (ci := 7) rfl rfl (by decide) (by decide) cd_M_line_58 hM.1 rfl rfl (Nat.le_of_ble_eq_true rfl) (fun v9 σ9 sz9 hq9 => ?_)
      obtain ⟨rfl, hF9, ok4, ps4, M4, hX4, rfl, hb4, hT0, hE4, hM⟩ := hq9
      have hF := hF.trans hF9
      refine ze_if_eq (tgt := 81) cd_M_line_61 (by decide) (fun c5 => ?_) (fun c5 => ?_)
      · skip
        have c5 : ok4 = false := zb_f c5
        subst c5
        refine ze_iconst (v := nI 0) cd_M_line_81 (by decide) ?_
        refine ze_zret cd_M_line_82 rfl (by decide) (by decide) (by decide) ⟨_, rfl, rfl, hF, false, ps4, M4, ?_, (by decide), by omega, hT0, trivial, hM⟩
        unfold zm_line; first | (rw [if_pos (by omega)]; done) | (rw [if_neg (by omega)]; unfold zm_M0; simp only [zm_line1, zm_lm2, zm_le, zm_end, c1, hX2, hX4]; done) | (rw [if_neg (by omega)]; unfold zm_M0; simp only [zm_line1, zm_lm2, zm_le, zm_end, hX2, hX4]; simp [c1, hX2, hX4]; done)
      · skip
        have c5 : ok4 = true := zb_t c5
        subst c5
        refine ze_aload_n 0 cd_M_line_64 rfl rfl ?_
        refine ze_bipush (v := nI 32) cd_M_line_65 (by decide) ?_
        refine ze_callVi (rm' := zr_M_eat) (b := a) (As := [.int (nI 32)]) (rest := []) (kc_M_eat (T := T) (x := nI 32) hM hT0 hsz (by omega)) ⟨rfl, rfl⟩ zy_M_eat_ok zm_859 zm_861 zm_35 (ci := 7) rfl rfl (by decide) (by decide) cd_M_line_67 hM.1 rfl rfl (Nat.le_of_ble_eq_true rfl) (fun v9 σ9 sz9 hq9 => ?_)
        obtain ⟨rfl, hF9, ok6, ps6, M9, hX6, rfl, hb6, -, rfl, hM⟩ := hq9
        have hF := hF.trans hF9
        refine ze_if_eq (tgt := 81) cd_M_line_70 (by decide) (fun c7 => ?_) (fun c7 => ?_)
        · skip
          have c7 : ok6 = false := zb_f c7
          subst c7
          refine ze_iconst (v := nI 0) cd_M_line_81 (by decide) ?_
          refine ze_zret cd_M_line_82 rfl (by decide) (by decide) (by decide) ⟨_, rfl, rfl, hF, false, ps6, M4, ?_, (by decide), by omega, hT0, trivial, hM⟩
          unfold zm_line; first | (rw [if_pos (by omega)]; done) | (rw [if_neg (by omega)]; unfold zm_M0; simp only [zm_line1, zm_lm2, zm_le, zm_end, c1, hX2, hX4, hX6]; done) | (rw [if_neg (by omega)]; unfold zm_M0; simp only [zm_line1, zm_lm2, zm_le, zm_end, hX2, hX4, hX6]; simp [c1, hX2, hX4, hX6]; done)
        · skip
          have c7 : ok6 = true := zb_t c7
          subst c7
          refine ze_aload_n 0 cd_M_line_73 rfl rfl ?_
          refine ze_iload_n 1 cd_M_line_74 rfl rfl ?_
          refine ze_callVi (rm' := zr_M_titled) (b := a) (As := [.int (nI i)]) (rest := []) (kc_M_titled (T := T) (i := i) hM hT0 hsz (by omega) (by omega)) ⟨rfl, rfl⟩ zy_M_titled_ok zm_863 zm_865 zm_36 (ci := 7) rfl rfl (by decide) (by decide) cd_M_line_75 hM.1 rfl rfl (Nat.le_of_ble_eq_true rfl) (fun v9 σ9 sz9 hq9 => ?_)
          obtain ⟨rfl, hF9, ok8, ps8, M8, hX8, rfl, hb8, hT0, hE8, hM⟩ := hq9
          have hF := hF.trans hF9
          refine ze_if_ne (tgt := 83) cd_M_line_78 (by decide) (fun c9 => ?_) (fun c9 => ?_)
          · skip
            have c9 : ok8 = true := zb_t c9
            subst c9
            refine ze_aload_n 0 cd_M_line_83 rfl rfl ?_
            refine ze_bipush (v := nI 32) cd_M_line_84 (by decide) ?_
            refine ze_callVi (rm' := zr_M_eat) (b := a) (As := [.int (nI 32)]) (rest := []) (kc_M_eat (T := T) (x := nI 32) hM hT0 hsz (by omega)) ⟨rfl, rfl⟩ zy_M_eat_ok zm_859 zm_861 zm_35 (ci := 7) rfl rfl (by decide) (by decide) cd_M_line_86 hM.1 rfl rfl (Nat.le_of_ble_eq_true rfl) (fun v9 σ9 sz9 hq9 => ?_)
            obtain ⟨rfl, hF9, ok10, ps10, M9, hX10, rfl, hb10, -, rfl, hM⟩ := hq9
            have hF := hF.trans hF9
            refine ze_istore_n (lv' := [(2, .int (zb ok10)), (0, .ref a), (1, .int (nI i))]) cd_M_line_89 rfl (by decide) rfl ?_
            refine ze_iload_n 0 cd_M_line_90 rfl rfl ?_
            refine ze_if_eq (tgt := 130) cd_M_line_91 (by decide) (fun c11 => ?_) (fun c11 => ?_)
            · skip
              have c11 : ok10 = false := zb_f c11
              subst c11
              refine ze_iload_n 0 cd_M_line_130 rfl rfl ?_
              refine ze_if_eq (tgt := 153) cd_M_line_131 (by decide) (fun _ => ?_) (fun c9 => absurd (by decide) c9)
              refine ze_aload_n 1 cd_M_line_153 rfl rfl ?_
              refine ze_bipush (v := nI 10) cd_M_line_154 (by decide) ?_
              refine ze_callVi (rm' := zr_M_eat) (b := a) (As := [.int (nI 10)]) (rest := []) (kc_M_eat (T := T) (x := nI 10) hM hT0 hsz (by omega)) ⟨rfl, rfl⟩ zy_M_eat_ok zm_859 zm_861 zm_35 (ci := 7) rfl rfl (by decide) (by decide) cd_M_line_156 hM.1 rfl rfl (Nat.le_of_ble_eq_true rfl) (fun v9 σ9 sz9 hq9 => ?_)
              obtain ⟨rfl, hF9, ok13, ps13, M9, hX13, rfl, hb13, -, rfl, hM⟩ := hq9
              have hF := hF.trans hF9
              refine ze_zret cd_M_line_159 rfl (zb_or _) (by decide) (by decide) ⟨_, rfl, rfl, hF, ok13, ps13, M8, ?_, rfl, by omega, hT0, trivial, hM⟩
              unfold zm_line; first | (rw [if_pos (by omega)]; done) | (rw [if_neg (by omega)]; unfold zm_M0; simp only [zm_line1, zm_lm2, zm_le, zm_end, c1, hX2, hX4, hX6, hX8, hX10, hX13]; done) | (rw [if_neg (by omega)]; unfold zm_M0; simp only [zm_line1, zm_lm2, zm_le, zm_end, hX2, hX4, hX6, hX8, hX10, hX13]; simp [c1, hX2, hX4, hX6, hX8, hX10, hX13]; done)
            · skip
              have c11 : ok10 = true := zb_t c11
              subst c11
              refine ze_aload_n 1 cd_M_line_94 rfl rfl ?_
              refine ze_callVp (rm' := zr_M_look) (b := a) (As := []) (rest := []) (kc_M_look2 (T := T) hM hT0 hsz (by omega)) ⟨rfl, rfl⟩ zy_M_look_ok zm_841 zm_843 zm_32 (ci := 7) rfl rfl (by decide) (by decide) cd_M_line_95 hM.1 rfl rfl (Nat.le_of_ble_eq_true rfl) ?_
              refine ze_bipush (v := nI 100) cd_M_line_98 (by decide) ?_
              refine ze_icmp_ne (tgt := 130) cd_M_line_100 (by decide) (fun c14 => ?_) (fun c14 => ?_)
              · skip
                refine ze_iload_n 0 cd_M_line_130 rfl rfl ?_
                refine ze_if_eq (tgt := 153) cd_M_line_131 (by decide) (fun c9 => absurd c9 (by decide)) (fun _ => ?_)
                refine ze_aload_n 1 cd_M_line_134 rfl rfl ?_
                refine ze_bipush (v := nI 101) cd_M_line_135 (by decide) ?_
                refine ze_callVi (rm' := zr_M_eat) (b := a) (As := [.int (nI 101)]) (rest := []) (kc_M_eat (T := T) (x := nI 101) hM hT0 hsz (by omega)) ⟨rfl, rfl⟩ zy_M_eat_ok zm_859 zm_861 zm_35 (ci := 7) rfl rfl (by decide) (by decide) cd_M_line_137 hM.1 rfl rfl (Nat.le_of_ble_eq_true rfl) (fun v9 σ9 sz9 hq9 => ?_)
                obtain ⟨rfl, hF9, ok16, ps16, M9, hX16, rfl, hb16, -, rfl, hM⟩ := hq9
                have hF := hF.trans hF9
                refine ze_if_eq (tgt := 151) cd_M_line_140 (by decide) (fun c17 => ?_) (fun c17 => ?_)
                · skip
                  have c17 : ok16 = false := zb_f c17
                  subst c17
                  refine ze_iconst (v := nI 0) cd_M_line_151 (by decide) ?_
                  refine ze_zret cd_M_line_152 rfl (by decide) (by decide) (by decide) ⟨_, rfl, rfl, hF, false, ps16, M8, ?_, (by decide), by omega, hT0, trivial, hM⟩
                  unfold zm_line; first | (rw [if_pos (by omega)]; done) | (rw [if_neg (by omega)]; unfold zm_M0; simp only [zm_line1, zm_lm2, zm_le, zm_end, c1, hX2, hX4, hX6, hX8, hX10, c14, hX16]; done) | (rw [if_neg (by omega)]; unfold zm_M0; simp only [zm_line1, zm_lm2, zm_le, zm_end, hX2, hX4, hX6, hX8, hX10, hX16]; simp [c1, hX2, hX4, hX6, hX8, hX10, c14, hX16]; done)
                · skip
                  have c17 : ok16 = true := zb_t c17
                  subst c17
                  refine ze_aload_n 1 cd_M_line_143 rfl rfl ?_
                  refine ze_iload_n 2 cd_M_line_144 rfl rfl ?_
                  refine ze_callVi (rm' := zr_M_extended) (b := a) (As := [.int (nI i)]) (rest := []) (kc_M_extended (T := T) (i := i) hM hT0 hsz (by omega) (by omega)) ⟨rfl, rfl⟩ zy_M_extended_ok zm_875 zm_877 zm_39 (ci := 7) rfl rfl (by decide) (by decide) cd_M_line_145 hM.1 rfl rfl (Nat.le_of_ble_eq_true rfl) (fun v9 σ9 sz9 hq9 => ?_)
                  obtain ⟨rfl, hF9, ok18, ps18, M18, hX18, rfl, hb18, hT0, hE18, hM⟩ := hq9
                  have hF := hF.trans hF9
                  refine ze_if_ne (tgt := 153) cd_M_line_148 (by decide) (fun c19 => ?_) (fun c19 => ?_)
                  · skip
                    have c19 : ok18 = true := zb_t c19
                    subst c19
                    refine ze_aload_n 1 cd_M_line_153 rfl rfl ?_
                    refine ze_bipush (v := nI 10) cd_M_line_154 (by decide) ?_
                    refine ze_callVi (rm' := zr_M_eat) (b := a) (As := [.int (nI 10)]) (rest := []) (kc_M_eat (T := T) (x := nI 10) hM hT0 hsz (by omega)) ⟨rfl, rfl⟩ zy_M_eat_ok zm_859 zm_861 zm_35 (ci := 7) rfl rfl (by decide) (by decide) cd_M_line_156 hM.1 rfl rfl (Nat.le_of_ble_eq_true rfl) (fun v9 σ9 sz9 hq9 => ?_)
                    obtain ⟨rfl, hF9, ok20, ps20, M9, hX20, rfl, hb20, -, rfl, hM⟩ := hq9
                    have hF := hF.trans hF9
                    refine ze_zret cd_M_line_159 rfl (zb_or _) (by decide) (by decide) ⟨_, rfl, rfl, hF, ok20, ps20, M18, ?_, rfl, by omega, hT0, trivial, hM⟩
                    unfold zm_line; first | (rw [if_pos (by omega)]; done) | (rw [if_neg (by omega)]; unfold zm_M0; simp only [zm_line1, zm_lm2, zm_le, zm_end, c1, hX2, hX4, hX6, hX8, hX10, c14, hX16, hX18, hX20]; done) | (rw [if_neg (by omega)]; unfold zm_M0; simp only [zm_line1, zm_lm2, zm_le, zm_end, hX2, hX4, hX6, hX8, hX10, hX16, hX18, hX20]; simp [c1, hX2, hX4, hX6, hX8, hX10, c14, hX16, hX18, hX20]; done)
                  · skip
                    have c19 : ok18 = false := zb_f c19
                    subst c19
                    refine ze_iconst (v := nI 0) cd_M_line_151 (by decide) ?_
                    refine ze_zret cd_M_line_152 rfl (by decide) (by decide) (by decide) ⟨_, rfl, rfl, hF, false, ps18, M18, ?_, (by decide), by omega, hT0, trivial, hM⟩
                    unfold zm_line; first | (rw [if_pos (by omega)]; done) | (rw [if_neg (by omega)]; unfold zm_M0; simp only [zm_line1, zm_lm2, zm_le, zm_end, c1, hX2, hX4, hX6, hX8, hX10, c14, hX16, hX18]; done) | (rw [if_neg (by omega)]; unfold zm_M0; simp only [zm_line1, zm_lm2, zm_le, zm_end, hX2, hX4, hX6, hX8, hX10, hX16, hX18]; simp [c1, hX2, hX4, hX6, hX8, hX10, c14, hX16, hX18]; done)
              · skip
                refine ze_aload_n 1 cd_M_line_103 rfl rfl ?_
                refine ze_dup cd_M_line_104 rfl ?_
                refine ze_get zin_M (v := .int (nI ps10)) (ci := 7) rfl 4 (by decide) zm_726 rfl cd_M_line_105 hM.1 rfl ?_
                refine ze_iconst (v := nI 1) cd_M_line_108 (by decide) ?_
                refine ze_iadd cd_M_line_109 ?_
                refine ze_top (y := nI (ps10 + 1)) (nI_add _ _) ?_
                refine ze_put zin_M zy_M zt_M zn_M (ci := 7) rfl 4 (by decide) zm_726 rfl (Or.inl rfl) cd_M_line_110 hM.1 rfl rfl (Nat.le_of_ble_eq_true rfl) (fs' := [.int th, .int (nI size), .ref (a + 1), .int wr, .int (nI (ps10 + 1)), .int (nI lv), .int (nI ot), .ref (a + 2), .ref (a + 3), .ref (a + 4), .ref (a + 5), .ref (a + 6), .ref (a + 7), .ref (a + 8), .ref (a + 9), .ref (a + 10), .ref (a + 11), .ref (a + 12), .ref (a + 13), .ref (a + 14), .ref (a + 15), .ref (a + 16), .ref (a + 17), .int (nI ak), .ref (a + 18), .ref (a + 19), .ref (a + 20), .int fr, .int (nI pr), .ref (a + 21)]) rfl ?_
                have hM := hM.put (fs' := [.int th, .int (nI size), .ref (a + 1), .int wr, .int (nI (ps10 + 1)), .int (nI lv), .int (nI ot), .ref (a + 2), .ref (a + 3), .ref (a + 4), .ref (a + 5), .ref (a + 6), .ref (a + 7), .ref (a + 8), .ref (a + 9), .ref (a + 10), .ref (a + 11), .ref (a + 12), .ref (a + 13), .ref (a + 14), .ref (a + 15), .ref (a + 16), .ref (a + 17), .int (nI ak), .ref (a + 18), .ref (a + 19), .ref (a + 20), .int fr, .int (nI pr), .ref (a + 21)])
                have hF := hF.up (a := a) (e := .inr (7, [.int th, .int (nI size), .ref (a + 1), .int wr, .int (nI (ps10 + 1)), .int (nI lv), .int (nI ot), .ref (a + 2), .ref (a + 3), .ref (a + 4), .ref (a + 5), .ref (a + 6), .ref (a + 7), .ref (a + 8), .ref (a + 9), .ref (a + 10), .ref (a + 11), .ref (a + 12), .ref (a + 13), .ref (a + 14), .ref (a + 15), .ref (a + 16), .ref (a + 17), .int (nI ak), .ref (a + 18), .ref (a + 19), .ref (a + 20), .int fr, .int (nI pr), .ref (a + 21)])) (by omega) (by omega)
                refine ze_aload_n 1 cd_M_line_113 rfl rfl ?_
                refine ze_iload_n 2 cd_M_line_114 rfl rfl ?_
                refine ze_callVi (rm' := zr_M_dated) (b := a) (As := [.int (nI i)]) (rest := []) (kc_M_dated (T := T) (i := i) hM hT0 hsz (by omega) (by omega)) ⟨rfl, rfl⟩ zy_M_dated_ok zm_867 zm_869 zm_37 (ci := 7) rfl rfl (by decide) (by decide) cd_M_line_115 hM.1 rfl rfl (Nat.le_of_ble_eq_true rfl) (fun v9 σ9 sz9 hq9 => ?_)
                obtain ⟨rfl, hF9, ok21, ps21, M21, hX21, rfl, hb21, hT0, hE21, hM⟩ := hq9
                have hF := hF.trans hF9
                refine ze_if_ne (tgt := 123) cd_M_line_118 (by decide) (fun c22 => ?_) (fun c22 => ?_)
                · skip
                  have c22 : ok21 = true := zb_t c22
                  subst c22
                  refine ze_aload_n 1 cd_M_line_123 rfl rfl ?_
                  refine ze_bipush (v := nI 32) cd_M_line_124 (by decide) ?_
                  refine ze_callVi (rm' := zr_M_eat) (b := a) (As := [.int (nI 32)]) (rest := []) (kc_M_eat (T := T) (x := nI 32) hM hT0 hsz (by omega)) ⟨rfl, rfl⟩ zy_M_eat_ok zm_859 zm_861 zm_35 (ci := 7) rfl rfl (by decide) (by decide) cd_M_line_126 hM.1 rfl rfl (Nat.le_of_ble_eq_true rfl) (fun v9 σ9 sz9 hq9 => ?_)
                  obtain ⟨rfl, hF9, ok23, ps23, M9, hX23, rfl, hb23, -, rfl, hM⟩ := hq9
                  have hF := hF.trans hF9
                  refine ze_istore_n (lv' := [(2, .int (zb ok23)), (0, .ref a), (1, .int (nI i))]) cd_M_line_129 rfl (by decide) rfl ?_
                  refine ze_iload_n 0 cd_M_line_130 rfl rfl ?_
                  refine ze_if_eq (tgt := 153) cd_M_line_131 (by decide) (fun c24 => ?_) (fun c24 => ?_)
                  · skip
                    have c24 : ok23 = false := zb_f c24
                    subst c24
                    refine ze_aload_n 1 cd_M_line_153 rfl rfl ?_
                    refine ze_bipush (v := nI 10) cd_M_line_154 (by decide) ?_
                    refine ze_callVi (rm' := zr_M_eat) (b := a) (As := [.int (nI 10)]) (rest := []) (kc_M_eat (T := T) (x := nI 10) hM hT0 hsz (by omega)) ⟨rfl, rfl⟩ zy_M_eat_ok zm_859 zm_861 zm_35 (ci := 7) rfl rfl (by decide) (by decide) cd_M_line_156 hM.1 rfl rfl (Nat.le_of_ble_eq_true rfl) (fun v9 σ9 sz9 hq9 => ?_)
                    obtain ⟨rfl, hF9, ok25, ps25, M9, hX25, rfl, hb25, -, rfl, hM⟩ := hq9
                    have hF := hF.trans hF9
                    refine ze_zret cd_M_line_159 rfl (zb_or _) (by decide) (by decide) ⟨_, rfl, rfl, hF, ok25, ps25, M21, ?_, rfl, by omega, hT0, trivial, hM⟩
                    unfold zm_line; first | (rw [if_pos (by omega)]; done) | (rw [if_neg (by omega)]; unfold zm_M0; simp only [zm_line1, zm_lm2, zm_le, zm_end, c1, hX2, hX4, hX6, hX8, hX10, c14, hX21, hX23, hX25]; done) | (rw [if_neg (by omega)]; unfold zm_M0; simp only [zm_line1, zm_lm2, zm_le, zm_end, hX2, hX4, hX6, hX8, hX10, hX21, hX23, hX25]; simp [c1, hX2, hX4, hX6, hX8, hX10, c14, hX21, hX23, hX25]; done)
                  · skip
                    have c24 : ok23 = true := zb_t c24
                    subst c24
                    refine ze_aload_n 1 cd_M_line_134 rfl rfl ?_
                    refine ze_bipush (v := nI 101) cd_M_line_135 (by decide) ?_
                    refine ze_callVi (rm' := zr_M_eat) (b := a) (As := [.int (nI 101)]) (rest := []) (kc_M_eat (T := T) (x := nI 101) hM hT0 hsz (by omega)) ⟨rfl, rfl⟩ zy_M_eat_ok zm_859 zm_861 zm_35 (ci := 7) rfl rfl (by decide) (by decide) cd_M_line_137 hM.1 rfl rfl (Nat.le_of_ble_eq_true rfl) (fun v9 σ9 sz9 hq9 => ?_)
                    obtain ⟨rfl, hF9, ok26, ps26, M9, hX26, rfl, hb26, -, rfl, hM⟩ := hq9
                    have hF := hF.trans hF9
                    refine ze_if_eq (tgt := 151) cd_M_line_140 (by decide) (fun c27 => ?_) (fun c27 => ?_)
                    · skip
                      have c27 : ok26 = false := zb_f c27
                      subst c27
                      refine ze_iconst (v := nI 0) cd_M_line_151 (by decide) ?_
                      refine ze_zret cd_M_line_152 rfl (by decide) (by decide) (by decide) ⟨_, rfl, rfl, hF, false, ps26, M21, ?_, (by decide), by omega, hT0, trivial, hM⟩
                      unfold zm_line; first | (rw [if_pos (by omega)]; done) | (rw [if_neg (by omega)]; unfold zm_M0; simp only [zm_line1, zm_lm2, zm_le, zm_end, c1, hX2, hX4, hX6, hX8, hX10, c14, hX21, hX23, hX26]; done) | (rw [if_neg (by omega)]; unfold zm_M0; simp only [zm_line1, zm_lm2, zm_le, zm_end, hX2, hX4, hX6, hX8, hX10, hX21, hX23, hX26]; simp [c1, hX2, hX4, hX6, hX8, hX10, c14, hX21, hX23, hX26]; done)
                    · skip
                      have c27 : ok26 = true := zb_t c27
                      subst c27
                      refine ze_aload_n 1 cd_M_line_143 rfl rfl ?_
                      refine ze_iload_n 2 cd_M_line_144 rfl rfl ?_
                      refine ze_callVi (rm' := zr_M_extended) (b := a) (As := [.int (nI i)]) (rest := []) (kc_M_extended (T := T) (i := i) hM hT0 hsz (by omega) (by omega)) ⟨rfl, rfl⟩ zy_M_extended_ok zm_875 zm_877 zm_39 (ci := 7) rfl rfl (by decide) (by decide) cd_M_line_145 hM.1 rfl rfl (Nat.le_of_ble_eq_true rfl) (fun v9 σ9 sz9 hq9 => ?_)
                      obtain ⟨rfl, hF9, ok28, ps28, M28, hX28, rfl, hb28, hT0, hE28, hM⟩ := hq9
                      have hF := hF.trans hF9
                      refine ze_if_ne (tgt := 153) cd_M_line_148 (by decide) (fun c29 => ?_) (fun c29 => ?_)
                      · skip
                        have c29 : ok28 = true := zb_t c29
                        subst c29
                        refine ze_aload_n 1 cd_M_line_153 rfl rfl ?_
                        refine ze_bipush (v := nI 10) cd_M_line_154 (by decide) ?_
                        refine ze_callVi (rm' := zr_M_eat) (b := a) (As := [.int (nI 10)]) (rest := []) (kc_M_eat (T := T) (x := nI 10) hM hT0 hsz (by omega)) ⟨rfl, rfl⟩ zy_M_eat_ok zm_859 zm_861 zm_35 (ci := 7) rfl rfl (by decide) (by decide) cd_M_line_156 hM.1 rfl rfl (Nat.le_of_ble_eq_true rfl) (fun v9 σ9 sz9 hq9 => ?_)
                        obtain ⟨rfl, hF9, ok30, ps30, M9, hX30, rfl, hb30, -, rfl, hM⟩ := hq9
                        have hF := hF.trans hF9
                        refine ze_zret cd_M_line_159 rfl (zb_or _) (by decide) (by decide) ⟨_, rfl, rfl, hF, ok30, ps30, M28, ?_, rfl, by omega, hT0, trivial, hM⟩
                        unfold zm_line; first | (rw [if_pos (by omega)]; done) | (rw [if_neg (by omega)]; unfold zm_M0; simp only [zm_line1, zm_lm2, zm_le, zm_end, c1, hX2, hX4, hX6, hX8, hX10, c14, hX21, hX23, hX26, hX28, hX30]; done) | (rw [if_neg (by omega)]; unfold zm_M0; simp only [zm_line1, zm_lm2, zm_le, zm_end, hX2, hX4, hX6, hX8, hX10, hX21, hX23, hX26, hX28, hX30]; simp [c1, hX2, hX4, hX6, hX8, hX10, c14, hX21, hX23, hX26, hX28, hX30]; done)
                      · skip
                        have c29 : ok28 = false := zb_f c29
                        subst c29
                        refine ze_iconst (v := nI 0) cd_M_line_151 (by decide) ?_
                        refine ze_zret cd_M_line_152 rfl (by decide) (by decide) (by decide) ⟨_, rfl, rfl, hF, false, ps28, M28, ?_, (by decide), by omega, hT0, trivial, hM⟩
                        unfold zm_line; first | (rw [if_pos (by omega)]; done) | (rw [if_neg (by omega)]; unfold zm_M0; simp only [zm_line1, zm_lm2, zm_le, zm_end, c1, hX2, hX4, hX6, hX8, hX10, c14, hX21, hX23, hX26, hX28]; done) | (rw [if_neg (by omega)]; unfold zm_M0; simp only [zm_line1, zm_lm2, zm_le, zm_end, hX2, hX4, hX6, hX8, hX10, hX21, hX23, hX26, hX28]; simp [c1, hX2, hX4, hX6, hX8, hX10, c14, hX21, hX23, hX26, hX28]; done)
                · skip
                  have c22 : ok21 = false := zb_f c22
                  subst c22
                  refine ze_iconst (v := nI 0) cd_M_line_121 (by decide) ?_
                  refine ze_zret cd_M_line_122 rfl (by decide) (by decide) (by decide) ⟨_, rfl, rfl, hF, false, ps21, M21, ?_, (by decide), by omega, hT0, trivial, hM⟩
                  unfold zm_line; first | (rw [if_pos (by omega)]; done) | (rw [if_neg (by omega)]; unfold zm_M0; simp only [zm_line1, zm_lm2, zm_le, zm_end, c1, hX2, hX4, hX6, hX8, hX10, c14, hX21]; done) | (rw [if_neg (by omega)]; unfold zm_M0; simp only [zm_line1, zm_lm2, zm_le, zm_end, hX2, hX4, hX6, hX8, hX10, hX21]; simp [c1, hX2, hX4, hX6, hX8, hX10, c14, hX21]; done)
          · skip
            have c9 : ok8 = false := zb_f c9
            subst c9
            refine ze_iconst (v := nI 0) cd_M_line_81 (by decide) ?_
            refine ze_zret cd_M_line_82 rfl (by decide) (by decide) (by decide) ⟨_, rfl, rfl, hF, false, ps8, M8, ?_, (by decide), by omega, hT0, trivial, hM⟩
            unfold zm_line; first | (rw [if_pos (by omega)]; done) | (rw [if_neg (by omega)]; unfold zm_M0; simp only [zm_line1, zm_lm2, zm_le, zm_end, c1, hX2, hX4, hX6, hX8]; done) | (rw [if_neg (by omega)]; unfold zm_M0; simp only [zm_line1, zm_lm2, zm_le, zm_end, hX2, hX4, hX6, hX8]; simp [c1, hX2, hX4, hX6, hX8]; done)
  · skip
    have c1 : i = 200 := (nI_eq (by omega) (by omega)).mp c1
    refine ze_iconst (v := nI 0) cd_M_line_7 (by decide) ?_
    refine ze_zret cd_M_line_8 rfl (by decide) (by decide) (by decide) ⟨_, rfl, rfl, hF, false, ps, M, ?_, (by decide), by omega, hT0, trivial, hM⟩
    unfold zm_line; first | (rw [if_pos (by omega)]; done) | (rw [if_neg (by omega)]; unfold zm_M0; simp only [zm_line1, zm_lm2, zm_le, zm_end, c1]; done) | (rw [if_neg (by omega)]; unfold zm_M0; simp only [zm_line1, zm_lm2, zm_le, zm_end]; simp [c1]; done)
