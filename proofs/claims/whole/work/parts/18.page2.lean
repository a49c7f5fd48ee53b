def zp_date (R : Nat → Nat → Int32) (i : Nat) : List Int32 := nI 32 :: nI 100 :: (zp_num (R 4 i) ++ ((if R 5 i = R 4 i then [] else nI 45 :: zp_num (R 5 i)) ++ (if R 6 i = nI 1 then [nI 63] else [])))
def zp_tt (R : Nat → Nat → Int32) (i : Nat) : Nat → Nat → List Int32
  | _, 0 => []
  | lo, k + 1 => R 10 (i * 16 + lo) :: zp_tt R i (lo + 1) k
def zp_tail (R : Nat → Nat → Int32) (i : Nat) : List Int32 := (if R 4 i = -1 then [] else zp_date R i) ++ ((if R 8 i = -1 then [] else nI 32 :: nI 101 :: (zp_num (R 7 i) ++ zp_one zc_k2 3 (R 8 i))) ++ [nI 10])
def zp_line (R : Nat → Nat → Int32) (i dp t : Nat) : List Int32 := List.replicate dp (nI 43) ++ (zp_one zc_k1 4 (R 0 i) ++ (zp_num (R 1 i) ++ (nI 32 :: (zp_tt R i 0 t ++ zp_tail R i))))
abbrev zr_P_writeDate : Room := { frames := 2, cells := 0, slots := 0, locals := 43 }
set_option maxRecDepth 100000 in
set_option maxHeartbeats 4000000 in
theorem kc_P_writeDate {g : zx_G} {σ : zx_M} {sz : Nat} {p : Nat} {S : Nat → Int32} {L : List Int32} {a n : Nat} {R : Nat → Nat → Int32} {i : Nat} (hP : zpo g σ p S L) (hL : zpl S L) (h : zl g σ a n R) (hap : a + 12 ≤ p ∨ p + 2 ≤ a) (hi : i < 100) : zM g cy_P_writeDate cb_P_writeDate 3 (Option.none : Option Jvm.ClassFile.FieldType) zr_P_writeDate 0 0 [.ref p, .ref a, .int (nI i)] σ sz (zPv (fun σ' sz' => sz' = sz ∧ zfr σ σ' p 2 ∧ ∃ S', zpo g σ' p S' (zputs L (zp_date R i)) ∧ zpl S' (zputs L (zp_date R i)))) := by
  have hF : zfr σ σ p 2 := zfr.rf
  refine zM_of (lv := [(0, .ref p), (1, .ref a), (2, .int (nI i))]) (ini := false) (by decide) rfl (by decide) (Nat.le_of_ble_eq_true rfl) rfl ?_
  refine ze_aload_n 0 cd_P_writeDate_0 rfl rfl ?_
  refine ze_bipush (v := nI 32) cd_P_writeDate_1 (by decide) ?_
  refine ze_callVv (rm' := zr_P_put) (b := p) (As := [.int (nI 32)]) (rest := []) (kc_P_put hP hL) ⟨rfl, rfl⟩ zy_P_put_ok zm_489 zm_491 zm_5 (ci := 3) rfl rfl (by decide) (by decide) cd_P_writeDate_3 hP.1 rfl rfl (Nat.le_of_ble_eq_true rfl) (fun σ9 sz9 hq9 => ?_)
  obtain ⟨rfl, hF9, S9, hP9, hL9⟩ := hq9
  have h := h.frn hF9 11 rfl (by omega)
  have hP := hP9
  have hL := hL9
  have hF := hF.trans (hF9.wide (by omega) (by omega))
  refine ze_aload_n 0 cd_P_writeDate_6 rfl rfl ?_
  refine ze_bipush (v := nI 100) cd_P_writeDate_7 (by decide) ?_
  refine ze_callVv (rm' := zr_P_put) (b := p) (As := [.int (nI 100)]) (rest := []) (kc_P_put hP hL) ⟨rfl, rfl⟩ zy_P_put_ok zm_489 zm_491 zm_5 (ci := 3) rfl rfl (by decide) (by decide) cd_P_writeDate_9 hP.1 rfl rfl (Nat.le_of_ble_eq_true rfl) (fun σ9 sz9 hq9 => ?_)
  obtain ⟨rfl, hF9, S9, hP9, hL9⟩ := hq9
  have h := h.frn hF9 11 rfl (by omega)
  have hP := hP9
  have hL := hL9
  have hF := hF.trans (hF9.wide (by omega) (by omega))
  refine ze_aload_n 0 cd_P_writeDate_12 rfl rfl ?_
  refine ze_aload_n 1 cd_P_writeDate_13 rfl rfl ?_
  refine ze_get zin_L (v := .ref (a + 5)) (ci := 1) rfl 5 (by decide) zm_112 rfl cd_P_writeDate_14 h.1 rfl ?_
  refine ze_iload_n 2 cd_P_writeDate_17 rfl rfl ?_
  refine ze_iald (j := i) cd_P_writeDate_18 (h.2 4 _ rfl) rfl (by omega) (by decide) ?_
  refine ze_callVv (rm' := zr_P_putNumber) (b := p) (As := [.int (R 4 i)]) (rest := []) (kc_P_putNumber (v := R 4 i) hP hL) ⟨rfl, rfl⟩ zy_P_putNumber_ok zm_499 zm_501 zm_7 (ci := 3) rfl rfl (by decide) (by decide) cd_P_writeDate_19 hP.1 rfl rfl (Nat.le_of_ble_eq_true rfl) (fun σ9 sz9 hq9 => ?_)
  obtain ⟨rfl, hF9, S9, hP9, hL9⟩ := hq9
  have h := h.frn hF9 11 rfl (by omega)
  have hP := hP9
  have hL := hL9
  have hF := hF.trans (hF9.wide (by omega) (by omega))
  refine ze_aload_n 1 cd_P_writeDate_22 rfl rfl ?_
  refine ze_get zin_L (v := .ref (a + 6)) (ci := 1) rfl 6 (by decide) zm_116 rfl cd_P_writeDate_23 h.1 rfl ?_
  refine ze_iload_n 2 cd_P_writeDate_26 rfl rfl ?_
  refine ze_iald (j := i) cd_P_writeDate_27 (h.2 5 _ rfl) rfl (by omega) (by decide) ?_
  refine ze_aload_n 1 cd_P_writeDate_28 rfl rfl ?_
  refine ze_get zin_L (v := .ref (a + 5)) (ci := 1) rfl 5 (by decide) zm_112 rfl cd_P_writeDate_29 h.1 rfl ?_
  refine ze_iload_n 2 cd_P_writeDate_32 rfl rfl ?_
  refine ze_iald (j := i) cd_P_writeDate_33 (h.2 4 _ rfl) rfl (by omega) (by decide) ?_
  refine ze_icmp_eq (tgt := 53) cd_P_writeDate_34 (by decide) (fun c1 => ?_) (fun c1 => ?_)
  · skip
    refine ze_aload_n 1 cd_P_writeDate_53 rfl rfl ?_
    refine ze_get zin_L (v := .ref (a + 7)) (ci := 1) rfl 7 (by decide) zm_120 rfl cd_P_writeDate_54 h.1 rfl ?_
    refine ze_iload_n 2 cd_P_writeDate_57 rfl rfl ?_
    refine ze_iald (j := i) cd_P_writeDate_58 (h.2 6 _ rfl) rfl (by omega) (by decide) ?_
    refine ze_iconst (v := nI 1) cd_P_writeDate_59 (by decide) ?_
    refine ze_icmp_ne (tgt := 69) cd_P_writeDate_60 (by decide) (fun c2 => ?_) (fun c2 => ?_)
    · skip
      refine ze_vret cd_P_writeDate_69 rfl (by decide) (by decide) ⟨rfl, rfl, hF, ?_⟩
      have hE : zputs L (zp_date R i) = (zputs (zput (zput L (nI 32)) (nI 100)) (zp_num (R 4 i))) := by (simp only [zp_date, zputs_app, zputs_cons, zputs_nil, zputs_one, c1, c2, if_true, if_false]; try rfl)
      exact ⟨_, by rw [hE]; exact hP, by rw [hE]; exact hL⟩
    · skip
      refine ze_aload_n 0 cd_P_writeDate_63 rfl rfl ?_
      refine ze_bipush (v := nI 63) cd_P_writeDate_64 (by decide) ?_
      refine ze_callVv (rm' := zr_P_put) (b := p) (As := [.int (nI 63)]) (rest := []) (kc_P_put hP hL) ⟨rfl, rfl⟩ zy_P_put_ok zm_489 zm_491 zm_5 (ci := 3) rfl rfl (by decide) (by decide) cd_P_writeDate_66 hP.1 rfl rfl (Nat.le_of_ble_eq_true rfl) (fun σ9 sz9 hq9 => ?_)
      obtain ⟨rfl, hF9, S9, hP9, hL9⟩ := hq9
      have h := h.frn hF9 11 rfl (by omega)
      have hP := hP9
      have hL := hL9
      have hF := hF.trans (hF9.wide (by omega) (by omega))
      refine ze_vret cd_P_writeDate_69 rfl (by decide) (by decide) ⟨rfl, rfl, hF, ?_⟩
      have hE : zputs L (zp_date R i) = (zput (zputs (zput (zput L (nI 32)) (nI 100)) (zp_num (R 4 i))) (nI 63)) := by (simp only [zp_date, zputs_app, zputs_cons, zputs_nil, zputs_one, c1, c2, if_true, if_false]; try rfl)
      exact ⟨_, by rw [hE]; exact hP, by rw [hE]; exact hL⟩
  · skip
    refine ze_aload_n 0 cd_P_writeDate_37 rfl rfl ?_
    refine ze_bipush (v := nI 45) cd_P_writeDate_38 (by decide) ?_
    refine ze_callVv (rm' := zr_P_put) (b := p) (As := [.int (nI 45)]) (rest := []) (kc_P_put hP hL) ⟨rfl, rfl⟩ zy_P_put_ok zm_489 zm_491 zm_5 (ci := 3) rfl rfl (by decide) (by decide) cd_P_writeDate_40 hP.1 rfl rfl (Nat.le_of_ble_eq_true rfl) (fun σ9 sz9 hq9 => ?_)
    obtain ⟨rfl, hF9, S9, hP9, hL9⟩ := hq9
    have h := h.frn hF9 11 rfl (by omega)
    have hP := hP9
    have hL := hL9
    have hF := hF.trans (hF9.wide (by omega) (by omega))
    refine ze_aload_n 0 cd_P_writeDate_43 rfl rfl ?_
    refine ze_aload_n 1 cd_P_writeDate_44 rfl rfl ?_
    refine ze_get zin_L (v := .ref (a + 6)) (ci := 1) rfl 6 (by decide) zm_116 rfl cd_P_writeDate_45 h.1 rfl ?_
    refine ze_iload_n 2 cd_P_writeDate_48 rfl rfl ?_
    refine ze_iald (j := i) cd_P_writeDate_49 (h.2 5 _ rfl) rfl (by omega) (by decide) ?_
    refine ze_callVv (rm' := zr_P_putNumber) (b := p) (As := [.int (R 5 i)]) (rest := []) (kc_P_putNumber (v := R 5 i) hP hL) ⟨rfl, rfl⟩ zy_P_putNumber_ok zm_499 zm_501 zm_7 (ci := 3) rfl rfl (by decide) (by decide) cd_P_writeDate_50 hP.1 rfl rfl (Nat.le_of_ble_eq_true rfl) (fun σ9 sz9 hq9 => ?_)
    obtain ⟨rfl, hF9, S9, hP9, hL9⟩ := hq9
    have h := h.frn hF9 11 rfl (by omega)
    have hP := hP9
    have hL := hL9
    have hF := hF.trans (hF9.wide (by omega) (by omega))
    refine ze_aload_n 1 cd_P_writeDate_53 rfl rfl ?_
    refine ze_get zin_L (v := .ref (a + 7)) (ci := 1) rfl 7 (by decide) zm_120 rfl cd_P_writeDate_54 h.1 rfl ?_
    refine ze_iload_n 2 cd_P_writeDate_57 rfl rfl ?_
    refine ze_iald (j := i) cd_P_writeDate_58 (h.2 6 _ rfl) rfl (by omega) (by decide) ?_
    refine ze_iconst (v := nI 1) cd_P_writeDate_59 (by decide) ?_
    refine ze_icmp_ne (tgt := 69) cd_P_writeDate_60 (by decide) (fun c3 => ?_) (fun c3 => ?_)
    · skip
      refine ze_vret cd_P_writeDate_69 rfl (by decide) (by decide) ⟨rfl, rfl, hF, ?_⟩
      have hE : zputs L (zp_date R i) = (zputs (zput (zputs (zput (zput L (nI 32)) (nI 100)) (zp_num (R 4 i))) (nI 45)) (zp_num (R 5 i))) := by (simp only [zp_date, zputs_app, zputs_cons, zputs_nil, zputs_one, c1, c3, if_true, if_false]; try rfl)
      exact ⟨_, by rw [hE]; exact hP, by rw [hE]; exact hL⟩
    · skip
      refine ze_aload_n 0 cd_P_writeDate_63 rfl rfl ?_
      refine ze_bipush (v := nI 63) cd_P_writeDate_64 (by decide) ?_
      refine ze_callVv (rm' := zr_P_put) (b := p) (As := [.int (nI 63)]) (rest := []) (kc_P_put hP hL) ⟨rfl, rfl⟩ zy_P_put_ok zm_489 zm_491 zm_5 (ci := 3) rfl rfl (by decide) (by decide) cd_P_writeDate_66 hP.1 rfl rfl (Nat.le_of_ble_eq_true rfl) (fun σ9 sz9 hq9 => ?_)
      obtain ⟨rfl, hF9, S9, hP9, hL9⟩ := hq9
      have h := h.frn hF9 11 rfl (by omega)
      have hP := hP9
      have hL := hL9
      have hF := hF.trans (hF9.wide (by omega) (by omega))
      refine ze_vret cd_P_writeDate_69 rfl (by decide) (by decide) ⟨rfl, rfl, hF, ?_⟩
      have hE : zputs L (zp_date R i) = (zput (zputs (zput (zputs (zput (zput L (nI 32)) (nI 100)) (zp_num (R 4 i))) (nI 45)) (zp_num (R 5 i))) (nI 63)) := by (simp only [zp_date, zputs_app, zputs_cons, zputs_nil, zputs_one, c1, c3, if_true, if_false]; try rfl)
      exact ⟨_, by rw [hE]; exact hP, by rw [hE]; exact hL⟩
abbrev zr_P_writeLine : Room := { frames := 3, cells := 0, slots := 0, locals := 65 }
set_option maxRecDepth 100000 in
set_option maxHeartbeats 4000000 in
theorem kc_P_writeLine {g : zx_G} {σ : zx_M} {sz : Nat} {p : Nat} {S : Nat → Int32} {L : List Int32} {a n : Nat} {R : Nat → Nat → Int32} {i : Nat} {dp t : Nat} (hP : zpo g σ p S L) (hL : zpl S L) (h : zl g σ a n R) (hap : a + 12 ≤ p ∨ p + 2 ≤ a) (hi : i < 100) (hdp : R 3 i = nI dp) (hdp8 : dp ≤ 8) (ht : R 9 i = nI t) (ht2 : t ≤ 16) : zM g cy_P_writeLine cb_P_writeLine 4 (Option.none : Option Jvm.ClassFile.FieldType) zr_P_writeLine 0 0 [.ref p, .ref a, .int (nI i)] σ sz (zPv (fun σ' sz' => sz' = sz ∧ zfr σ σ' p 2 ∧ ∃ S', zpo g σ' p S' (zputs L (zp_line R i dp t)) ∧ zpl S' (zputs L (zp_line R i dp t)))) := by
  generalize hX0 : zputs L (zp_line R i dp t) = X0
  have hF : zfr σ σ p 2 := zfr.rf
  have loop2 : ∀ (kk lo : Nat) (S1 : Nat → Int32) (L1 : List Int32) (σ1 : zx_M), lo + kk = t → zputs L1 (zp_tt R i lo kk ++ zp_tail R i) = X0 → zpo g σ1 p S1 L1 → zpl S1 L1 → zl g σ1 a n R → zfr σ σ1 p 2 → zE g "FindingAid$Page" cb_P_writeLine 4 (Option.none : Option Jvm.ClassFile.FieldType) false zr_P_writeLine 0 0 (zPv (fun σ' sz' => sz' = sz ∧ zfr σ σ' p 2 ∧ ∃ S', zpo g σ' p S' X0 ∧ zpl S' X0)) 55 [(3, .int (nI lo)), (0, .ref p), (1, .ref a), (2, .int (nI i))] [] σ1 sz 0 0 := by
    intro kk
    induction kk with
    | zero =>
      intro lo S1 L1 σ1 hk hE hP hL h hF
      refine ze_iload_n 0 cd_P_writeLine_55 rfl rfl ?_
      refine ze_aload_n 2 cd_P_writeLine_56 rfl rfl ?_
      refine ze_get zin_L (v := .ref (a + 10)) (ci := 1) rfl 10 (by decide) zm_134 rfl cd_P_writeLine_57 h.1 rfl ?_
      refine ze_iload_n 3 cd_P_writeLine_60 rfl rfl ?_
      refine ze_iald (j := i) cd_P_writeLine_61 (h.2 9 _ rfl) rfl (by omega) (by decide) ?_
      refine ze_top ht ?_
      refine ze_icmp_ge (tgt := 81) cd_P_writeLine_62 (by decide) (fun c2 => ?_) (fun c2 => ?_)
      · skip
        have c2 : t ≤ lo := (nI_leI (by omega) (by omega)).mp c2
        refine ze_aload_n 2 cd_P_writeLine_81 rfl rfl ?_
        refine ze_get zin_L (v := .ref (a + 5)) (ci := 1) rfl 5 (by decide) zm_112 rfl cd_P_writeLine_82 h.1 rfl ?_
        refine ze_iload_n 3 cd_P_writeLine_85 rfl rfl ?_
        refine ze_iald (j := i) cd_P_writeLine_86 (h.2 4 _ rfl) rfl (by omega) (by decide) ?_
        refine ze_iconst (v := (-1 : Int32)) cd_P_writeLine_87 (by decide) ?_
        refine ze_icmp_eq (tgt := 97) cd_P_writeLine_88 (by decide) (fun c3 => ?_) (fun c3 => ?_)
        · skip
          refine ze_aload_n 2 cd_P_writeLine_97 rfl rfl ?_
          refine ze_get zin_L (v := .ref (a + 9)) (ci := 1) rfl 9 (by decide) zm_130 rfl cd_P_writeLine_98 h.1 rfl ?_
          refine ze_iload_n 3 cd_P_writeLine_101 rfl rfl ?_
          refine ze_iald (j := i) cd_P_writeLine_102 (h.2 8 _ rfl) rfl (by omega) (by decide) ?_
          refine ze_iconst (v := (-1 : Int32)) cd_P_writeLine_103 (by decide) ?_
          refine ze_icmp_eq (tgt := 142) cd_P_writeLine_104 (by decide) (fun c4 => ?_) (fun c4 => ?_)
          · skip
            refine ze_aload_n 1 cd_P_writeLine_142 rfl rfl ?_
            refine ze_bipush (v := nI 10) cd_P_writeLine_143 (by decide) ?_
            refine ze_callVv (rm' := zr_P_put) (b := p) (As := [.int (nI 10)]) (rest := []) (kc_P_put hP hL) ⟨rfl, rfl⟩ zy_P_put_ok zm_489 zm_491 zm_5 (ci := 3) rfl rfl (by decide) (by decide) cd_P_writeLine_145 hP.1 rfl rfl (Nat.le_of_ble_eq_true rfl) (fun σ9 sz9 hq9 => ?_)
            obtain ⟨rfl, hF9, S9, hP9, hL9⟩ := hq9
            have h := h.frn hF9 11 rfl (by omega)
            have hP := hP9
            have hL := hL9
            have hF := hF.trans (hF9.wide (by omega) (by omega))
            refine ze_vret cd_P_writeLine_148 rfl (by decide) (by decide) ⟨rfl, rfl, hF, ?_⟩
            have hX : X0 = (zput L1 (nI 10)) := by (rw [← hE]; simp only [zp_tt, zp_tail, zputs_app, zputs_cons, zputs_nil, zputs_one, List.nil_append, c2, c3, c4, if_true, if_false]; try rfl)
            exact ⟨_, by rw [hX]; exact hP, by rw [hX]; exact hL⟩
          · skip
            refine ze_aload_n 1 cd_P_writeLine_107 rfl rfl ?_
            refine ze_bipush (v := nI 32) cd_P_writeLine_108 (by decide) ?_
            refine ze_callVv (rm' := zr_P_put) (b := p) (As := [.int (nI 32)]) (rest := []) (kc_P_put hP hL) ⟨rfl, rfl⟩ zy_P_put_ok zm_489 zm_491 zm_5 (ci := 3) rfl rfl (by decide) (by decide) cd_P_writeLine_110 hP.1 rfl rfl (Nat.le_of_ble_eq_true rfl) (fun σ9 sz9 hq9 => ?_)
            obtain ⟨rfl, hF9, S9, hP9, hL9⟩ := hq9
            have h := h.frn hF9 11 rfl (by omega)
            have hP := hP9
            have hL := hL9
            have hF := hF.trans (hF9.wide (by omega) (by omega))
            refine ze_aload_n 1 cd_P_writeLine_113 rfl rfl ?_
            refine ze_bipush (v := nI 101) cd_P_writeLine_114 (by decide) ?_
            refine ze_callVv (rm' := zr_P_put) (b := p) (As := [.int (nI 101)]) (rest := []) (kc_P_put hP hL) ⟨rfl, rfl⟩ zy_P_put_ok zm_489 zm_491 zm_5 (ci := 3) rfl rfl (by decide) (by decide) cd_P_writeLine_116 hP.1 rfl rfl (Nat.le_of_ble_eq_true rfl) (fun σ9 sz9 hq9 => ?_)
            obtain ⟨rfl, hF9, S9, hP9, hL9⟩ := hq9
            have h := h.frn hF9 11 rfl (by omega)
            have hP := hP9
            have hL := hL9
            have hF := hF.trans (hF9.wide (by omega) (by omega))
            refine ze_aload_n 1 cd_P_writeLine_119 rfl rfl ?_
            refine ze_aload_n 2 cd_P_writeLine_120 rfl rfl ?_
            refine ze_get zin_L (v := .ref (a + 8)) (ci := 1) rfl 8 (by decide) zm_125 rfl cd_P_writeLine_121 h.1 rfl ?_
            refine ze_iload_n 3 cd_P_writeLine_124 rfl rfl ?_
            refine ze_iald (j := i) cd_P_writeLine_125 (h.2 7 _ rfl) rfl (by omega) (by decide) ?_
            refine ze_callVv (rm' := zr_P_putNumber) (b := p) (As := [.int (R 7 i)]) (rest := []) (kc_P_putNumber (v := R 7 i) hP hL) ⟨rfl, rfl⟩ zy_P_putNumber_ok zm_499 zm_501 zm_7 (ci := 3) rfl rfl (by decide) (by decide) cd_P_writeLine_126 hP.1 rfl rfl (Nat.le_of_ble_eq_true rfl) (fun σ9 sz9 hq9 => ?_)
            obtain ⟨rfl, hF9, S9, hP9, hL9⟩ := hq9
            have h := h.frn hF9 11 rfl (by omega)
            have hP := hP9
            have hL := hL9
            have hF := hF.trans (hF9.wide (by omega) (by omega))
            refine ze_aload_n 1 cd_P_writeLine_129 rfl rfl ?_
            refine ze_gets 1 rfl (host := "FindingAid") (by decide) rfl cd_P_writeLine_130 ?_
            refine ze_aload_n 2 cd_P_writeLine_133 rfl rfl ?_
            refine ze_get zin_L (v := .ref (a + 9)) (ci := 1) rfl 9 (by decide) zm_130 rfl cd_P_writeLine_134 h.1 rfl ?_
            refine ze_iload_n 3 cd_P_writeLine_137 rfl rfl ?_
            refine ze_iald (j := i) cd_P_writeLine_138 (h.2 8 _ rfl) rfl (by omega) (by decide) ?_
            refine ze_callVv (rm' := zr_P_putOneOf) (b := p) (As := [.ref (g.2.2.2.2 1), .int (R 8 i)]) (rest := []) (kc_P_putOneOf (q := 1) (k := R 8 i) hP hL rfl (by decide)) ⟨rfl, rfl⟩ zy_P_putOneOf_ok zm_495 zm_497 zm_6 (ci := 3) rfl rfl (by decide) (by decide) cd_P_writeLine_139 hP.1 rfl rfl (Nat.le_of_ble_eq_true rfl) (fun σ9 sz9 hq9 => ?_)
            obtain ⟨rfl, hF9, S9, hP9, hL9⟩ := hq9
            have h := h.frn hF9 11 rfl (by omega)
            have hP := hP9
            have hL := hL9
            have hF := hF.trans (hF9.wide (by omega) (by omega))
            refine ze_aload_n 1 cd_P_writeLine_142 rfl rfl ?_
            refine ze_bipush (v := nI 10) cd_P_writeLine_143 (by decide) ?_
            refine ze_callVv (rm' := zr_P_put) (b := p) (As := [.int (nI 10)]) (rest := []) (kc_P_put hP hL) ⟨rfl, rfl⟩ zy_P_put_ok zm_489 zm_491 zm_5 (ci := 3) rfl rfl (by decide) (by decide) cd_P_writeLine_145 hP.1 rfl rfl (Nat.le_of_ble_eq_true rfl) (fun σ9 sz9 hq9 => ?_)
            obtain ⟨rfl, hF9, S9, hP9, hL9⟩ := hq9
            have h := h.frn hF9 11 rfl (by omega)
            have hP := hP9
            have hL := hL9
            have hF := hF.trans (hF9.wide (by omega) (by omega))
            refine ze_vret cd_P_writeLine_148 rfl (by decide) (by decide) ⟨rfl, rfl, hF, ?_⟩
            have hX : X0 = (zput (zputs (zputs (zput (zput L1 (nI 32)) (nI 101)) (zp_num (R 7 i))) (zp_one zc_k2 3 (R 8 i))) (nI 10)) := by (rw [← hE]; simp only [zp_tt, zp_tail, zputs_app, zputs_cons, zputs_nil, zputs_one, List.nil_append, c2, c3, c4, if_true, if_false]; try rfl)
            exact ⟨_, by rw [hX]; exact hP, by rw [hX]; exact hL⟩
        · skip
          refine ze_aload_n 1 cd_P_writeLine_91 rfl rfl ?_
          refine ze_aload_n 2 cd_P_writeLine_92 rfl rfl ?_
          refine ze_iload_n 3 cd_P_writeLine_93 rfl rfl ?_
          refine ze_callVv (rm' := zr_P_writeDate) (b := p) (As := [.ref a, .int (nI i)]) (rest := []) (kc_P_writeDate hP hL h (by omega) (by omega)) ⟨rfl, rfl⟩ zy_P_writeDate_ok zm_504 zm_506 zm_8 (ci := 3) rfl rfl (by decide) (by decide) cd_P_writeLine_94 hP.1 rfl rfl (Nat.le_of_ble_eq_true rfl) (fun σ9 sz9 hq9 => ?_)
          obtain ⟨rfl, hF9, S9, hP9, hL9⟩ := hq9
          have h := h.frn hF9 11 rfl (by omega)
          have hP := hP9
          have hL := hL9
          have hF := hF.trans (hF9.wide (by omega) (by omega))
          refine ze_aload_n 2 cd_P_writeLine_97 rfl rfl ?_
          refine ze_get zin_L (v := .ref (a + 9)) (ci := 1) rfl 9 (by decide) zm_130 rfl cd_P_writeLine_98 h.1 rfl ?_
          refine ze_iload_n 3 cd_P_writeLine_101 rfl rfl ?_
          refine ze_iald (j := i) cd_P_writeLine_102 (h.2 8 _ rfl) rfl (by omega) (by decide) ?_
          refine ze_iconst (v := (-1 : Int32)) cd_P_writeLine_103 (by decide) ?_
          refine ze_icmp_eq (tgt := 142) cd_P_writeLine_104 (by decide) (fun c5 => ?_) (fun c5 => ?_)
          · skip
            refine ze_aload_n 1 cd_P_writeLine_142 rfl rfl ?_
            refine ze_bipush (v := nI 10) cd_P_writeLine_143 (by decide) ?_
            refine ze_callVv (rm' := zr_P_put) (b := p) (As := [.int (nI 10)]) (rest := []) (kc_P_put hP hL) ⟨rfl, rfl⟩ zy_P_put_ok zm_489 zm_491 zm_5 (ci := 3) rfl rfl (by decide) (by decide) cd_P_writeLine_145 hP.1 rfl rfl (Nat.le_of_ble_eq_true rfl) (fun σ9 sz9 hq9 => ?_)
            obtain ⟨rfl, hF9, S9, hP9, hL9⟩ := hq9
            have h := h.frn hF9 11 rfl (by omega)
            have hP := hP9
            have hL := hL9
            have hF := hF.trans (hF9.wide (by omega) (by omega))
            refine ze_vret cd_P_writeLine_148 rfl (by decide) (by decide) ⟨rfl, rfl, hF, ?_⟩
            have hX : X0 = (zput (zputs L1 (zp_date R i)) (nI 10)) := by (rw [← hE]; simp only [zp_tt, zp_tail, zputs_app, zputs_cons, zputs_nil, zputs_one, List.nil_append, c2, c3, c5, if_true, if_false]; try rfl)
            exact ⟨_, by rw [hX]; exact hP, by rw [hX]; exact hL⟩
          · skip
            refine ze_aload_n 1 cd_P_writeLine_107 rfl rfl ?_
            refine ze_bipush (v := nI 32) cd_P_writeLine_108 (by decide) ?_
            refine ze_callVv (rm' := zr_P_put) (b := p) (As := [.int (nI 32)]) (rest := []) (kc_P_put hP hL) ⟨rfl, rfl⟩ zy_P_put_ok zm_489 zm_491 zm_5 (ci := 3) rfl rfl (by decide) (by decide) cd_P_writeLine_110 hP.1 rfl rfl (Nat.le_of_ble_eq_true rfl) (fun σ9 sz9 hq9 => ?_)
            obtain ⟨rfl, hF9, S9, hP9, hL9⟩ := hq9
            have h := h.frn hF9 11 rfl (by omega)
            have hP := hP9
            have hL := hL9
            have hF := hF.trans (hF9.wide (by omega) (by omega))
            refine ze_aload_n 1 cd_P_writeLine_113 rfl rfl ?_
            refine ze_bipush (v := nI 101) cd_P_writeLine_114 (by decide) ?_
            refine ze_callVv (rm' := zr_P_put) (b := p) (As := [.int (nI 101)]) (rest := []) (kc_P_put hP hL) ⟨rfl, rfl⟩ zy_P_put_ok zm_489 zm_491 zm_5 (ci := 3) rfl rfl (by decide) (by decide) cd_P_writeLine_116 hP.1 rfl rfl (Nat.le_of_ble_eq_true rfl) (fun σ9 sz9 hq9 => ?_)
            obtain ⟨rfl, hF9, S9, hP9, hL9⟩ := hq9
            have h := h.frn hF9 11 rfl (by omega)
            have hP := hP9
            have hL := hL9
            have hF := hF.trans (hF9.wide (by omega) (by omega))
            refine ze_aload_n 1 cd_P_writeLine_119 rfl rfl ?_
            refine ze_aload_n 2 cd_P_writeLine_120 rfl rfl ?_
            refine ze_get zin_L (v := .ref (a + 8)) (ci := 1) rfl 8 (by decide) zm_125 rfl cd_P_writeLine_121 h.1 rfl ?_
            refine ze_iload_n 3 cd_P_writeLine_124 rfl rfl ?_
            refine ze_iald (j := i) cd_P_writeLine_125 (h.2 7 _ rfl) rfl (by omega) (by decide) ?_
            refine ze_callVv (rm' := zr_P_putNumber) (b := p) (As := [.int (R 7 i)]) (rest := []) (kc_P_putNumber (v := R 7 i) hP hL) ⟨rfl, rfl⟩ zy_P_putNumber_ok zm_499 zm_501 zm_7 (ci := 3) rfl rfl (by decide) (by decide) cd_P_writeLine_126 hP.1 rfl rfl (Nat.le_of_ble_eq_true rfl) (fun σ9 sz9 hq9 => ?_)
            obtain ⟨rfl, hF9, S9, hP9, hL9⟩ := hq9
            have h := h.frn hF9 11 rfl (by omega)
            have hP := hP9
            have hL := hL9
            have hF := hF.trans (hF9.wide (by omega) (by omega))
            refine ze_aload_n 1 cd_P_writeLine_129 rfl rfl ?_
            refine ze_gets 1 rfl (host := "FindingAid") (by decide) rfl cd_P_writeLine_130 ?_
            refine ze_aload_n 2 cd_P_writeLine_133 rfl rfl ?_
            refine ze_get zin_L (v := .ref (a + 9)) (ci := 1) rfl 9 (by decide) zm_130 rfl cd_P_writeLine_134 h.1 rfl ?_
            refine ze_iload_n 3 cd_P_writeLine_137 rfl rfl ?_
            refine ze_iald (j := i) cd_P_writeLine_138 (h.2 8 _ rfl) rfl (by omega) (by decide) ?_
            refine ze_callVv (rm' := zr_P_putOneOf) (b := p) (As := [.ref (g.2.2.2.2 1), .int (R 8 i)]) (rest := []) (kc_P_putOneOf (q := 1) (k := R 8 i) hP hL rfl (by decide)) ⟨rfl, rfl⟩ zy_P_putOneOf_ok zm_495 zm_497 zm_6 (ci := 3) rfl rfl (by decide) (by decide) cd_P_writeLine_139 hP.1 rfl rfl (Nat.le_of_ble_eq_true rfl) (fun σ9 sz9 hq9 => ?_)
            obtain ⟨rfl, hF9, S9, hP9, hL9⟩ := hq9
            have h := h.frn hF9 11 rfl (by omega)
            have hP := hP9
            have hL := hL9
            have hF := hF.trans (hF9.wide (by omega) (by omega))
            refine ze_aload_n 1 cd_P_writeLine_142 rfl rfl ?_
            refine ze_bipush (v := nI 10) cd_P_writeLine_143 (by decide) ?_
            refine ze_callVv (rm' := zr_P_put) (b := p) (As := [.int (nI 10)]) (rest := []) (kc_P_put hP hL) ⟨rfl, rfl⟩ zy_P_put_ok zm_489 zm_491 zm_5 (ci := 3) rfl rfl (by decide) (by decide) cd_P_writeLine_145 hP.1 rfl rfl (Nat.le_of_ble_eq_true rfl) (fun σ9 sz9 hq9 => ?_)
            obtain ⟨rfl, hF9, S9, hP9, hL9⟩ := hq9
            have h := h.frn hF9 11 rfl (by omega)
            have hP := hP9
            have hL := hL9
            have hF := hF.trans (hF9.wide (by omega) (by omega))
            refine ze_vret cd_P_writeLine_148 rfl (by decide) (by decide) ⟨rfl, rfl, hF, ?_⟩
            have hX : X0 = (zput (zputs (zputs (zput (zput (zputs L1 (zp_date R i)) (nI 32)) (nI 101)) (zp_num (R 7 i))) (zp_one zc_k2 3 (R 8 i))) (nI 10)) := by (rw [← hE]; simp only [zp_tt, zp_tail, zputs_app, zputs_cons, zputs_nil, zputs_one, List.nil_append, c2, c3, c5, if_true, if_false]; try rfl)
            exact ⟨_, by rw [hX]; exact hP, by rw [hX]; exact hL⟩
      · skip
        have c2 : ¬ t ≤ lo := fun h9 => c2 ((nI_leI (by omega) (by omega)).mpr h9)
        exfalso; omega
    | succ kk ih =>
      intro lo S1 L1 σ1 hk hE hP hL h hF
      refine ze_iload_n 0 cd_P_writeLine_55 rfl rfl ?_
      refine ze_aload_n 2 cd_P_writeLine_56 rfl rfl ?_
      refine ze_get zin_L (v := .ref (a + 10)) (ci := 1) rfl 10 (by decide) zm_134 rfl cd_P_writeLine_57 h.1 rfl ?_
      refine ze_iload_n 3 cd_P_writeLine_60 rfl rfl ?_
      refine ze_iald (j := i) cd_P_writeLine_61 (h.2 9 _ rfl) rfl (by omega) (by decide) ?_
      refine ze_top ht ?_
      refine ze_icmp_ge (tgt := 81) cd_P_writeLine_62 (by decide) (fun c7 => ?_) (fun c7 => ?_)
      · skip
        have c7 : t ≤ lo := (nI_leI (by omega) (by omega)).mp c7
        exfalso; omega
      · skip
        have c7 : ¬ t ≤ lo := fun h9 => c7 ((nI_leI (by omega) (by omega)).mpr h9)
        refine ze_aload_n 1 cd_P_writeLine_65 rfl rfl ?_
        refine ze_aload_n 2 cd_P_writeLine_66 rfl rfl ?_
        refine ze_iload_n 3 cd_P_writeLine_67 rfl rfl ?_
        refine ze_iload_n 0 cd_P_writeLine_68 rfl rfl ?_
        refine ze_callVp (rm' := zr_L_titleSign) (b := a) (As := [.int (nI i), .int (nI lo)]) (rest := [.ref p]) (kc_L_titleSign h (by omega) (by omega)) ⟨rfl, rfl⟩ zy_L_titleSign_ok zm_503 zm_319 zm_320 (ci := 1) rfl rfl (by decide) (by decide) cd_P_writeLine_69 h.1 rfl rfl (Nat.le_of_ble_eq_true rfl) ?_
        refine ze_callVv (rm' := zr_P_put) (b := p) (As := [.int (R 10 (i * 16 + lo))]) (rest := []) (kc_P_put hP hL) ⟨rfl, rfl⟩ zy_P_put_ok zm_489 zm_491 zm_5 (ci := 3) rfl rfl (by decide) (by decide) cd_P_writeLine_72 hP.1 rfl rfl (Nat.le_of_ble_eq_true rfl) (fun σ9 sz9 hq9 => ?_)
        obtain ⟨rfl, hF9, S9, hP9, hL9⟩ := hq9
        have h := h.frn hF9 11 rfl (by omega)
        have hP := hP9
        have hL := hL9
        have hF := hF.trans (hF9.wide (by omega) (by omega))
        refine ze_iinc (v := nI (lo + 1)) (lv' := [(3, .int (nI (lo + 1))), (0, .ref p), (1, .ref a), (2, .int (nI i))]) 0 cd_P_writeLine_75 rfl (nI_add _ 1) (by decide) rfl ?_
        refine ze_goto (tgt := 55) cd_P_writeLine_78 (by decide) ?_
        exact ih (lo + 1) _ _ _ (by omega) (by rw [← hE]; rfl) hP hL h hF
  have loop1 : ∀ (kk lo : Nat) (S1 : Nat → Int32) (L1 : List Int32) (σ1 : zx_M), lo + kk = dp → zputs L1 (List.replicate kk (nI 43) ++ (zp_one zc_k1 4 (R 0 i) ++ (zp_num (R 1 i) ++ (nI 32 :: (zp_tt R i 0 t ++ zp_tail R i))))) = X0 → zpo g σ1 p S1 L1 → zpl S1 L1 → zl g σ1 a n R → zfr σ σ1 p 2 → zE g "FindingAid$Page" cb_P_writeLine 4 (Option.none : Option Jvm.ClassFile.FieldType) false zr_P_writeLine 0 0 (zPv (fun σ' sz' => sz' = sz ∧ zfr σ σ' p 2 ∧ ∃ S', zpo g σ' p S' X0 ∧ zpl S' X0)) 2 [(3, .int (nI lo)), (0, .ref p), (1, .ref a), (2, .int (nI i))] [] σ1 sz 0 0 := by
    intro kk
    induction kk with
    | zero =>
      intro lo S1 L1 σ1 hk hE hP hL h hF
      refine ze_iload_n 0 cd_P_writeLine_2 rfl rfl ?_
      refine ze_aload_n 2 cd_P_writeLine_3 rfl rfl ?_
      refine ze_get zin_L (v := .ref (a + 4)) (ci := 1) rfl 4 (by decide) zm_108 rfl cd_P_writeLine_4 h.1 rfl ?_
      refine ze_iload_n 3 cd_P_writeLine_7 rfl rfl ?_
      refine ze_iald (j := i) cd_P_writeLine_8 (h.2 3 _ rfl) rfl (by omega) (by decide) ?_
      refine ze_top hdp ?_
      refine ze_icmp_ge (tgt := 24) cd_P_writeLine_9 (by decide) (fun c9 => ?_) (fun c9 => ?_)
      · skip
        have c9 : dp ≤ lo := (nI_leI (by omega) (by omega)).mp c9
        refine ze_aload_n 1 cd_P_writeLine_24 rfl rfl ?_
        refine ze_gets 0 rfl (host := "FindingAid") (by decide) rfl cd_P_writeLine_25 ?_
        refine ze_aload_n 2 cd_P_writeLine_28 rfl rfl ?_
        refine ze_get zin_L (v := .ref (a + 1)) (ci := 1) rfl 1 (by decide) zm_95 rfl cd_P_writeLine_29 h.1 rfl ?_
        refine ze_iload_n 3 cd_P_writeLine_32 rfl rfl ?_
        refine ze_iald (j := i) cd_P_writeLine_33 (h.2 0 _ rfl) rfl (by omega) (by decide) ?_
        refine ze_callVv (rm' := zr_P_putOneOf) (b := p) (As := [.ref (g.2.2.2.2 0), .int (R 0 i)]) (rest := []) (kc_P_putOneOf (q := 0) (k := R 0 i) hP hL rfl (by decide)) ⟨rfl, rfl⟩ zy_P_putOneOf_ok zm_495 zm_497 zm_6 (ci := 3) rfl rfl (by decide) (by decide) cd_P_writeLine_34 hP.1 rfl rfl (Nat.le_of_ble_eq_true rfl) (fun σ9 sz9 hq9 => ?_)
        obtain ⟨rfl, hF9, S9, hP9, hL9⟩ := hq9
        have h := h.frn hF9 11 rfl (by omega)
        have hP := hP9
        have hL := hL9
        have hF := hF.trans (hF9.wide (by omega) (by omega))
        refine ze_aload_n 1 cd_P_writeLine_37 rfl rfl ?_
        refine ze_aload_n 2 cd_P_writeLine_38 rfl rfl ?_
        refine ze_get zin_L (v := .ref (a + 2)) (ci := 1) rfl 2 (by decide) zm_99 rfl cd_P_writeLine_39 h.1 rfl ?_
        refine ze_iload_n 3 cd_P_writeLine_42 rfl rfl ?_
        refine ze_iald (j := i) cd_P_writeLine_43 (h.2 1 _ rfl) rfl (by omega) (by decide) ?_
        refine ze_callVv (rm' := zr_P_putNumber) (b := p) (As := [.int (R 1 i)]) (rest := []) (kc_P_putNumber (v := R 1 i) hP hL) ⟨rfl, rfl⟩ zy_P_putNumber_ok zm_499 zm_501 zm_7 (ci := 3) rfl rfl (by decide) (by decide) cd_P_writeLine_44 hP.1 rfl rfl (Nat.le_of_ble_eq_true rfl) (fun σ9 sz9 hq9 => ?_)
        obtain ⟨rfl, hF9, S9, hP9, hL9⟩ := hq9
        have h := h.frn hF9 11 rfl (by omega)
        have hP := hP9
        have hL := hL9
        have hF := hF.trans (hF9.wide (by omega) (by omega))
        refine ze_aload_n 1 cd_P_writeLine_47 rfl rfl ?_
        refine ze_bipush (v := nI 32) cd_P_writeLine_48 (by decide) ?_
        refine ze_callVv (rm' := zr_P_put) (b := p) (As := [.int (nI 32)]) (rest := []) (kc_P_put hP hL) ⟨rfl, rfl⟩ zy_P_put_ok zm_489 zm_491 zm_5 (ci := 3) rfl rfl (by decide) (by decide) cd_P_writeLine_50 hP.1 rfl rfl (Nat.le_of_ble_eq_true rfl) (fun σ9 sz9 hq9 => ?_)
        obtain ⟨rfl, hF9, S9, hP9, hL9⟩ := hq9
        have h := h.frn hF9 11 rfl (by omega)
        have hP := hP9
        have hL := hL9
        have hF := hF.trans (hF9.wide (by omega) (by omega))
        refine ze_iconst (v := nI 0) cd_P_writeLine_53 (by decide) ?_
        refine ze_istore_n (lv' := [(3, .int (nI 0)), (0, .ref p), (1, .ref a), (2, .int (nI i))]) cd_P_writeLine_54 rfl (by decide) rfl ?_
        exact loop2 t 0 _ _ _ (by omega) (by rw [← hE]; simp only [List.replicate, List.nil_append, zputs_app, zputs_cons, zputs_nil, zputs_one]; try rfl) hP hL h hF
      · skip
        have c9 : ¬ dp ≤ lo := fun h9 => c9 ((nI_leI (by omega) (by omega)).mpr h9)
        exfalso; omega
    | succ kk ih =>
      intro lo S1 L1 σ1 hk hE hP hL h hF
      refine ze_iload_n 0 cd_P_writeLine_2 rfl rfl ?_
      refine ze_aload_n 2 cd_P_writeLine_3 rfl rfl ?_
      refine ze_get zin_L (v := .ref (a + 4)) (ci := 1) rfl 4 (by decide) zm_108 rfl cd_P_writeLine_4 h.1 rfl ?_
      refine ze_iload_n 3 cd_P_writeLine_7 rfl rfl ?_
      refine ze_iald (j := i) cd_P_writeLine_8 (h.2 3 _ rfl) rfl (by omega) (by decide) ?_
      refine ze_top hdp ?_
      refine ze_icmp_ge (tgt := 24) cd_P_writeLine_9 (by decide) (fun c11 => ?_) (fun c11 => ?_)
      · skip
        have c11 : dp ≤ lo := (nI_leI (by omega) (by omega)).mp c11
        exfalso; omega
      · skip
        have c11 : ¬ dp ≤ lo := fun h9 => c11 ((nI_leI (by omega) (by omega)).mpr h9)
        refine ze_aload_n 1 cd_P_writeLine_12 rfl rfl ?_
        refine ze_bipush (v := nI 43) cd_P_writeLine_13 (by decide) ?_
        refine ze_callVv (rm' := zr_P_put) (b := p) (As := [.int (nI 43)]) (rest := []) (kc_P_put hP hL) ⟨rfl, rfl⟩ zy_P_put_ok zm_489 zm_491 zm_5 (ci := 3) rfl rfl (by decide) (by decide) cd_P_writeLine_15 hP.1 rfl rfl (Nat.le_of_ble_eq_true rfl) (fun σ9 sz9 hq9 => ?_)
        obtain ⟨rfl, hF9, S9, hP9, hL9⟩ := hq9
        have h := h.frn hF9 11 rfl (by omega)
        have hP := hP9
        have hL := hL9
        have hF := hF.trans (hF9.wide (by omega) (by omega))
        refine ze_iinc (v := nI (lo + 1)) (lv' := [(3, .int (nI (lo + 1))), (0, .ref p), (1, .ref a), (2, .int (nI i))]) 0 cd_P_writeLine_18 rfl (nI_add _ 1) (by decide) rfl ?_
        refine ze_goto (tgt := 2) cd_P_writeLine_21 (by decide) ?_
        exact ih (lo + 1) _ _ _ (by omega) (by rw [← hE]; rfl) hP hL h hF
  refine zM_of (lv := [(0, .ref p), (1, .ref a), (2, .int (nI i))]) (ini := false) (by decide) rfl (by decide) (Nat.le_of_ble_eq_true rfl) rfl ?_
  refine ze_iconst (v := nI 0) cd_P_writeLine_0 (by decide) ?_
  refine ze_istore_n (lv' := [(3, .int (nI 0)), (0, .ref p), (1, .ref a), (2, .int (nI i))]) cd_P_writeLine_1 rfl (by decide) rfl ?_
  exact loop1 dp 0 _ _ _ (by omega) hX0 hP hL h hF
