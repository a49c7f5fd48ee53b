theorem zob.ar {g : zx_G} {σ : zx_M} {a ci : Nat} {fs : List Value} {ks : List (Nat × Nat)} {R : Nat → Nat → Int32} (h : zob g σ a ci fs ks R) (k kd ln : Nat) (hk : ks[k]? = some (kd, ln)) {f : Nat → Int32} {b : Nat} (hb : b = a + 1 + k) : zob g (zx_up σ b (.inl (g.2.2.2.1 kd, ln, .inl f))) a ci fs ks (va_up R k f) := h.arr k hk hb
abbrev zr_L_addTitleSign : Room := { frames := 0, cells := 0, slots := 0, locals := 0 }
set_option maxRecDepth 100000 in
set_option maxHeartbeats 4000000 in
theorem kc_L_addTitleSign {g : zx_G} {σ : zx_M} {sz : Nat} {a n : Nat} {R : Nat → Nat → Int32} {j t : Nat} {ch : Int32} (h : zl g σ a n R) (hj : j < 100) (ht : R 9 j = nI t) (ht2 : t ≤ 16) : zM g cy_L_addTitleSign cb_L_addTitleSign 3 (Option.none : Option Jvm.ClassFile.FieldType) zr_L_addTitleSign 0 0 [.ref a, .int (nI j), .int ch] σ sz (zPv (fun σ' sz' => sz' = sz ∧ zfr σ σ' a 12 ∧ zl g σ' a n (zl_ats R j t ch))) := by
  have hF : zfr σ σ a 12 := zfr.rf
  refine zM_of (lv := [(0, .ref a), (1, .int (nI j)), (2, .int ch)]) (ini := false) (by decide) rfl (by decide) (Nat.le_of_ble_eq_true rfl) rfl ?_
  refine ze_aload_n 0 cd_L_addTitleSign_0 rfl rfl ?_
  refine ze_get zin_L (v := .ref (a + 10)) (ci := 1) rfl 10 (by decide) zm_133 rfl cd_L_addTitleSign_1 h.1 rfl ?_
  refine ze_iload_n 1 cd_L_addTitleSign_4 rfl rfl ?_
  refine ze_iald (j := j) cd_L_addTitleSign_5 (h.2 9 _ rfl) rfl (by omega) (by decide) ?_
  refine ze_top ht ?_
  refine ze_bipush (v := nI 16) cd_L_addTitleSign_6 (by decide) ?_
  refine ze_icmp_ge (tgt := 38) cd_L_addTitleSign_8 (by decide) (fun c1 => ?_) (fun c1 => ?_)
  · skip
    have c1 : 16 ≤ t := (nI_leI (by omega) (by omega)).mp c1
    refine ze_vret cd_L_addTitleSign_38 rfl (by decide) (by decide) ⟨rfl, rfl, hF, ?_⟩
    first | (rw [zl_ats, if_neg (by omega)]; exact h) | (rw [zl_ats, if_pos (by omega)]; exact h)
  · skip
    have c1 : ¬ 16 ≤ t := fun h9 => c1 ((nI_leI (by omega) (by omega)).mpr h9)
    refine ze_aload_n 0 cd_L_addTitleSign_11 rfl rfl ?_
    refine ze_get zin_L (v := .ref (a + 11)) (ci := 1) rfl 11 (by decide) zm_137 rfl cd_L_addTitleSign_12 h.1 rfl ?_
    refine ze_iload_n 1 cd_L_addTitleSign_15 rfl rfl ?_
    refine ze_bipush (v := nI 16) cd_L_addTitleSign_16 (by decide) ?_
    refine ze_imul cd_L_addTitleSign_18 ?_
    refine ze_top (pk_mul _ _) ?_
    refine ze_aload_n 0 cd_L_addTitleSign_19 rfl rfl ?_
    refine ze_get zin_L (v := .ref (a + 10)) (ci := 1) rfl 10 (by decide) zm_133 rfl cd_L_addTitleSign_20 h.1 rfl ?_
    refine ze_iload_n 1 cd_L_addTitleSign_23 rfl rfl ?_
    refine ze_iald (j := j) cd_L_addTitleSign_24 (h.2 9 _ rfl) rfl (by omega) (by decide) ?_
    refine ze_top ht ?_
    refine ze_iadd cd_L_addTitleSign_25 ?_
    refine ze_top (nI_add _ _) ?_
    refine ze_iload_n 2 cd_L_addTitleSign_26 rfl rfl ?_
    refine ze_iast (j := (j * 16) + t) cd_L_addTitleSign_27 (h.2 10 _ rfl) rfl (by omega) (by decide) ?_
    have h := h.ar 10 0 1600 rfl (b := a + 11) (f := upd (R 10) ((j * 16) + t) ch) (by omega)
    have hF := hF.up (a := a + 11) (e := .inl (g.2.2.2.1 0, 1600, .inl (upd (R 10) ((j * 16) + t) ch))) (by omega) (by omega)
    refine ze_aload_n 0 cd_L_addTitleSign_28 rfl rfl ?_
    refine ze_get zin_L (v := .ref (a + 10)) (ci := 1) rfl 10 (by decide) zm_133 rfl cd_L_addTitleSign_29 h.1 rfl ?_
    refine ze_iload_n 1 cd_L_addTitleSign_32 rfl rfl ?_
    refine ze_dup2 cd_L_addTitleSign_33 rfl rfl ?_
    refine ze_iald (j := j) (f := R 9) cd_L_addTitleSign_34 (h.2 9 _ rfl) rfl (by omega) (by decide) ?_
    refine ze_top ht ?_
    refine ze_iconst (v := nI 1) cd_L_addTitleSign_35 (by decide) ?_
    refine ze_iadd cd_L_addTitleSign_36 ?_
    refine ze_top (nI_add _ _) ?_
    refine ze_iast (j := j) (f := R 9) cd_L_addTitleSign_37 (h.2 9 _ rfl) rfl (by omega) (by decide) ?_
    have h := h.ar 9 0 100 rfl (b := a + 10) (f := upd (R 9) j (nI (t + 1))) (by omega)
    have hF := hF.up (a := a + 10) (e := .inl (g.2.2.2.1 0, 100, .inl (upd (R 9) j (nI (t + 1))))) (by omega) (by omega)
    refine ze_vret cd_L_addTitleSign_38 rfl (by decide) (by decide) ⟨rfl, rfl, hF, ?_⟩
    first | (rw [zl_ats, if_neg (by omega)]; exact h) | (rw [zl_ats, if_pos (by omega)]; exact h)
abbrev zr_L_addBare : Room := { frames := 1, cells := 0, slots := 0, locals := 23 }
set_option maxRecDepth 100000 in
set_option maxHeartbeats 4000000 in
theorem kc_L_addBare {g : zx_G} {σ : zx_M} {sz : Nat} {a i : Nat} {R : Nat → Nat → Int32} {d : Int32} (h : zl g σ a i R) (hi : i < 100) : zM g cy_L_addBare cb_L_addBare 3 (Option.none : Option Jvm.ClassFile.FieldType) zr_L_addBare 0 0 [.ref a, .int d] σ sz (zPv (fun σ' sz' => sz' = sz ∧ zfr σ σ' a 12 ∧ zl g σ' a (i + 1) (zl_bare R i d))) := by
  have hF : zfr σ σ a 12 := zfr.rf
  refine zM_of (lv := [(0, .ref a), (1, .int d)]) (ini := false) (by decide) rfl (by decide) (Nat.le_of_ble_eq_true rfl) rfl ?_
  refine ze_aload_n 0 cd_L_addBare_0 rfl rfl ?_
  refine ze_get zin_L (v := .int (nI i)) (ci := 1) rfl 0 (by decide) zm_88 rfl cd_L_addBare_1 h.1 rfl ?_
  refine ze_bipush (v := nI 100) cd_L_addBare_4 (by decide) ?_
  refine ze_icmp_lt (tgt := 10) cd_L_addBare_6 (by decide) (fun c2 => ?_) (fun c2 => ?_)
  · skip
    have c2 : i < 100 := (nI_ltI (by omega) (by omega)).mp c2
    refine ze_aload_n 0 cd_L_addBare_10 rfl rfl ?_
    refine ze_get zin_L (v := .int (nI i)) (ci := 1) rfl 0 (by decide) zm_88 rfl cd_L_addBare_11 h.1 rfl ?_
    refine ze_istore_n (lv' := [(2, .int (nI i)), (0, .ref a), (1, .int d)]) cd_L_addBare_14 rfl (by decide) rfl ?_
    refine ze_aload_n 1 cd_L_addBare_15 rfl rfl ?_
    refine ze_dup cd_L_addBare_16 rfl ?_
    refine ze_get zin_L (v := .int (nI i)) (ci := 1) rfl 0 (by decide) zm_88 rfl cd_L_addBare_17 h.1 rfl ?_
    refine ze_iconst (v := nI 1) cd_L_addBare_20 (by decide) ?_
    refine ze_iadd cd_L_addBare_21 ?_
    refine ze_top (nI_add _ _) ?_
    refine ze_put zin_L zy_L zt_L zn_L (ci := 1) rfl 0 (by decide) zm_88 rfl (Or.inl rfl) cd_L_addBare_22 h.1 rfl rfl (Nat.le_of_ble_eq_true rfl) (fs' := [.int (nI (i + 1)), .ref (a + 1), .ref (a + 2), .ref (a + 3), .ref (a + 4), .ref (a + 5), .ref (a + 6), .ref (a + 7), .ref (a + 8), .ref (a + 9), .ref (a + 10), .ref (a + 11)]) rfl ?_
    have h := h.put (fs' := [.int (nI (i + 1)), .ref (a + 1), .ref (a + 2), .ref (a + 3), .ref (a + 4), .ref (a + 5), .ref (a + 6), .ref (a + 7), .ref (a + 8), .ref (a + 9), .ref (a + 10), .ref (a + 11)])
    have hF := hF.up (a := a) (e := .inr (1, [.int (nI (i + 1)), .ref (a + 1), .ref (a + 2), .ref (a + 3), .ref (a + 4), .ref (a + 5), .ref (a + 6), .ref (a + 7), .ref (a + 8), .ref (a + 9), .ref (a + 10), .ref (a + 11)])) (by omega) (by omega)
    refine ze_aload_n 1 cd_L_addBare_25 rfl rfl ?_
    refine ze_get zin_L (v := .ref (a + 4)) (ci := 1) rfl 4 (by decide) zm_106 rfl cd_L_addBare_26 h.1 rfl ?_
    refine ze_iload_n 0 cd_L_addBare_29 rfl rfl ?_
    refine ze_iload_n 2 cd_L_addBare_30 rfl rfl ?_
    refine ze_iast (j := i) cd_L_addBare_31 (h.2 3 _ rfl) rfl (by omega) (by decide) ?_
    have h := h.ar 3 0 100 rfl (b := a + 4) (f := upd (R 3) i d) (by omega)
    have hF := hF.up (a := a + 4) (e := .inl (g.2.2.2.1 0, 100, .inl (upd (R 3) i d))) (by omega) (by omega)
    refine ze_aload_n 1 cd_L_addBare_32 rfl rfl ?_
    refine ze_get zin_L (v := .ref (a + 3)) (ci := 1) rfl 3 (by decide) zm_102 rfl cd_L_addBare_33 h.1 rfl ?_
    refine ze_iload_n 0 cd_L_addBare_36 rfl rfl ?_
    refine ze_aload_n 1 cd_L_addBare_37 rfl rfl ?_
    refine ze_iload_n 0 cd_L_addBare_38 rfl rfl ?_
    refine ze_iconst (v := nI 1) cd_L_addBare_39 (by decide) ?_
    refine ze_isub cd_L_addBare_40 ?_
    refine ze_top (zp_sub i) ?_
    refine ze_iload_n 2 cd_L_addBare_41 rfl rfl ?_
    refine ze_iconst (v := nI 1) cd_L_addBare_42 (by decide) ?_
    refine ze_isub cd_L_addBare_43 ?_
    refine ze_callVp (rm' := zr_L_latestOfDepth) (b := a) (As := [.int (zp i), .int (d - (nI 1))]) (rest := [.int (nI i), .ref (a + 3)]) (kc_L_latestOfDepth h (by omega)) ⟨rfl, rfl⟩ zy_L_latestOfDepth_ok zm_561 zm_563 zm_15 (ci := 1) rfl rfl (by decide) (by decide) cd_L_addBare_44 h.1 rfl rfl (Nat.le_of_ble_eq_true rfl) ?_
    refine ze_iast (j := i) (f := R 2) cd_L_addBare_47 (h.2 2 _ rfl) rfl (by omega) (by decide) ?_
    have h := h.ar 2 0 100 rfl (b := a + 3) (f := upd (R 2) i (zl_lod (upd (R 3) i d) (d - (nI 1)) i)) (by omega)
    have hF := hF.up (a := a + 3) (e := .inl (g.2.2.2.1 0, 100, .inl (upd (R 2) i (zl_lod (upd (R 3) i d) (d - (nI 1)) i)))) (by omega) (by omega)
    refine ze_aload_n 1 cd_L_addBare_48 rfl rfl ?_
    refine ze_get zin_L (v := .ref (a + 10)) (ci := 1) rfl 10 (by decide) zm_133 rfl cd_L_addBare_49 h.1 rfl ?_
    refine ze_iload_n 0 cd_L_addBare_52 rfl rfl ?_
    refine ze_iconst (v := nI 0) cd_L_addBare_53 (by decide) ?_
    refine ze_iast (j := i) (f := R 9) cd_L_addBare_54 (h.2 9 _ rfl) rfl (by omega) (by decide) ?_
    have h := h.ar 9 0 100 rfl (b := a + 10) (f := upd (R 9) i (nI 0)) (by omega)
    have hF := hF.up (a := a + 10) (e := .inl (g.2.2.2.1 0, 100, .inl (upd (R 9) i (nI 0)))) (by omega) (by omega)
    refine ze_aload_n 1 cd_L_addBare_55 rfl rfl ?_
    refine ze_get zin_L (v := .ref (a + 5)) (ci := 1) rfl 5 (by decide) zm_111 rfl cd_L_addBare_56 h.1 rfl ?_
    refine ze_iload_n 0 cd_L_addBare_59 rfl rfl ?_
    refine ze_iconst (v := (-1 : Int32)) cd_L_addBare_60 (by decide) ?_
    refine ze_iast (j := i) (f := R 4) cd_L_addBare_61 (h.2 4 _ rfl) rfl (by omega) (by decide) ?_
    have h := h.ar 4 0 100 rfl (b := a + 5) (f := upd (R 4) i ((-1 : Int32))) (by omega)
    have hF := hF.up (a := a + 5) (e := .inl (g.2.2.2.1 0, 100, .inl (upd (R 4) i ((-1 : Int32))))) (by omega) (by omega)
    refine ze_aload_n 1 cd_L_addBare_62 rfl rfl ?_
    refine ze_get zin_L (v := .ref (a + 6)) (ci := 1) rfl 6 (by decide) zm_115 rfl cd_L_addBare_63 h.1 rfl ?_
    refine ze_iload_n 0 cd_L_addBare_66 rfl rfl ?_
    refine ze_iconst (v := (-1 : Int32)) cd_L_addBare_67 (by decide) ?_
    refine ze_iast (j := i) (f := R 5) cd_L_addBare_68 (h.2 5 _ rfl) rfl (by omega) (by decide) ?_
    have h := h.ar 5 0 100 rfl (b := a + 6) (f := upd (R 5) i ((-1 : Int32))) (by omega)
    have hF := hF.up (a := a + 6) (e := .inl (g.2.2.2.1 0, 100, .inl (upd (R 5) i ((-1 : Int32))))) (by omega) (by omega)
    refine ze_aload_n 1 cd_L_addBare_69 rfl rfl ?_
    refine ze_get zin_L (v := .ref (a + 7)) (ci := 1) rfl 7 (by decide) zm_119 rfl cd_L_addBare_70 h.1 rfl ?_
    refine ze_iload_n 0 cd_L_addBare_73 rfl rfl ?_
    refine ze_iconst (v := nI 0) cd_L_addBare_74 (by decide) ?_
    refine ze_iast (j := i) (f := R 6) cd_L_addBare_75 (h.2 6 _ rfl) rfl (by omega) (by decide) ?_
    have h := h.ar 6 0 100 rfl (b := a + 7) (f := upd (R 6) i (nI 0)) (by omega)
    have hF := hF.up (a := a + 7) (e := .inl (g.2.2.2.1 0, 100, .inl (upd (R 6) i (nI 0)))) (by omega) (by omega)
    refine ze_aload_n 1 cd_L_addBare_76 rfl rfl ?_
    refine ze_get zin_L (v := .ref (a + 8)) (ci := 1) rfl 8 (by decide) zm_123 rfl cd_L_addBare_77 h.1 rfl ?_
    refine ze_iload_n 0 cd_L_addBare_80 rfl rfl ?_
    refine ze_iconst (v := (-1 : Int32)) cd_L_addBare_81 (by decide) ?_
    refine ze_iast (j := i) (f := R 7) cd_L_addBare_82 (h.2 7 _ rfl) rfl (by omega) (by decide) ?_
    have h := h.ar 7 0 100 rfl (b := a + 8) (f := upd (R 7) i ((-1 : Int32))) (by omega)
    have hF := hF.up (a := a + 8) (e := .inl (g.2.2.2.1 0, 100, .inl (upd (R 7) i ((-1 : Int32))))) (by omega) (by omega)
    refine ze_aload_n 1 cd_L_addBare_83 rfl rfl ?_
    refine ze_get zin_L (v := .ref (a + 9)) (ci := 1) rfl 9 (by decide) zm_128 rfl cd_L_addBare_84 h.1 rfl ?_
    refine ze_iload_n 0 cd_L_addBare_87 rfl rfl ?_
    refine ze_iconst (v := (-1 : Int32)) cd_L_addBare_88 (by decide) ?_
    refine ze_iast (j := i) (f := R 8) cd_L_addBare_89 (h.2 8 _ rfl) rfl (by omega) (by decide) ?_
    have h := h.ar 8 0 100 rfl (b := a + 9) (f := upd (R 8) i ((-1 : Int32))) (by omega)
    have hF := hF.up (a := a + 9) (e := .inl (g.2.2.2.1 0, 100, .inl (upd (R 8) i ((-1 : Int32))))) (by omega) (by omega)
    refine ze_vret cd_L_addBare_90 rfl (by decide) (by decide) ⟨rfl, rfl, hF, ?_⟩
    exact h
  · skip
    have c2 : ¬ i < 100 := fun h9 => c2 ((nI_ltI (by omega) (by omega)).mpr h9)
    exfalso; omega
abbrev zr_L_hang : Room := { frames := 2, cells := 0, slots := 0, locals := 45 }
set_option maxRecDepth 100000 in
set_option maxHeartbeats 4000000 in
theorem kc_L_hang {g : zx_G} {σ : zx_M} {sz : Nat} {a n : Nat} {R : Nat → Nat → Int32} {i u : Nat} (h : zl g σ a n R) (hn : n ≤ 100) (hi : i < 100) (hu : u < 100) : zM g cy_L_hang cb_L_hang 5 (Option.none : Option Jvm.ClassFile.FieldType) zr_L_hang 0 0 [.ref a, .int (nI i), .int (nI u)] σ sz (zPv (fun σ' sz' => sz' = sz ∧ zfr σ σ' a 12 ∧ zl g σ' a n (zl_hang n R i u))) := by
  have hF : zfr σ σ a 12 := zfr.rf
  have loop : ∀ (kk : Nat) (lo : Nat) (D : Nat → Int32) (σ1 : zx_M), lo + kk = n → zfold (fun D x => if zl_wi n (R 2) (nI i) 9 (nI x) then upd D x (D x + (R 3 u + 1 - R 3 i)) else D) D lo kk = zl_hangD n R i u → zl g σ1 a n (va_up R 3 D) → zfr σ σ1 a 12 → zE g "FindingAid$Levels" cb_L_hang 5 (Option.none : Option Jvm.ClassFile.FieldType) false zr_L_hang 0 0 (zPv (fun σ' sz' => sz' = sz ∧ zfr σ σ' a 12 ∧ zl g σ' a n (zl_hang n R i u))) 10 [(4, .int (nI lo)), (3, .int (R 3 u + 1 - R 3 i)), (0, .ref a), (1, .int (nI i)), (2, .int (nI u))] [] σ1 sz 0 0 := by
    intro kk
    induction kk with
    | zero =>
      intro lo D σ1 hk hE h hF
      refine ze_iload 0 cd_L_hang_10 rfl ?_
      refine ze_aload_n 2 cd_L_hang_12 rfl rfl ?_
      refine ze_get zin_L (v := .int (nI n)) (ci := 1) rfl 0 (by decide) zm_88 rfl cd_L_hang_13 h.1 rfl ?_
      refine ze_icmp_ge (tgt := 46) cd_L_hang_16 (by decide) (fun c2 => ?_) (fun c2 => ?_)
      · skip
        have c2 : n ≤ lo := (nI_leI (by omega) (by omega)).mp c2
        refine ze_aload_n 2 cd_L_hang_46 rfl rfl ?_
        refine ze_get zin_L (v := .ref (a + 3)) (ci := 1) rfl 3 (by decide) zm_102 rfl cd_L_hang_47 h.1 rfl ?_
        refine ze_iload_n 3 cd_L_hang_50 rfl rfl ?_
        refine ze_iload_n 4 cd_L_hang_51 rfl rfl ?_
        refine ze_iast (j := i) (f := R 2) cd_L_hang_52 (h.2 2 _ rfl) rfl (by omega) (by decide) ?_
        have h := h.ar 2 0 100 rfl (b := a + 3) (f := upd (R 2) i (nI u)) (by omega)
        have hF := hF.up (a := a + 3) (e := .inl (g.2.2.2.1 0, 100, .inl (upd (R 2) i (nI u)))) (by omega) (by omega)
        refine ze_vret cd_L_hang_53 rfl (by decide) (by decide) ⟨rfl, rfl, hF, ?_⟩
        rw [zl_hang, ← hE]; exact h
      · skip
        have c2 : ¬ n ≤ lo := fun h9 => c2 ((nI_leI (by omega) (by omega)).mpr h9)
        exfalso; omega
    | succ kk ih =>
      intro lo D σ1 hk hE h hF
      refine ze_iload 0 cd_L_hang_10 rfl ?_
      refine ze_aload_n 2 cd_L_hang_12 rfl rfl ?_
      refine ze_get zin_L (v := .int (nI n)) (ci := 1) rfl 0 (by decide) zm_88 rfl cd_L_hang_13 h.1 rfl ?_
      refine ze_icmp_ge (tgt := 46) cd_L_hang_16 (by decide) (fun c4 => ?_) (fun c4 => ?_)
      · skip
        have c4 : n ≤ lo := (nI_leI (by omega) (by omega)).mp c4
        exfalso; omega
      · skip
        have c4 : ¬ n ≤ lo := fun h9 => c4 ((nI_leI (by omega) (by omega)).mpr h9)
        refine ze_aload_n 2 cd_L_hang_19 rfl rfl ?_
        refine ze_iload 0 cd_L_hang_20 rfl ?_
        refine ze_iload_n 3 cd_L_hang_22 rfl rfl ?_
        refine ze_callVp (rm' := zr_L_isWithin) (b := a) (As := [.int (nI lo), .int (nI i)]) (rest := []) (kc_L_isWithin h (by omega)) ⟨rfl, rfl⟩ zy_L_isWithin_ok zm_412 zm_413 zm_414 (ci := 1) rfl rfl (by decide) (by decide) cd_L_hang_23 h.1 rfl rfl (Nat.le_of_ble_eq_true rfl) ?_
        refine ze_if_eq (tgt := 40) cd_L_hang_26 (by decide) (fun c5 => ?_) (fun c5 => ?_)
        · skip
          have c5 : (zl_wi n (R 2) (nI i) 9 (nI lo)) = false := zb_f c5
          refine ze_iinc (v := nI (lo + 1)) (lv' := [(4, .int (nI (lo + 1))), (3, .int (R 3 u + 1 - R 3 i)), (0, .ref a), (1, .int (nI i)), (2, .int (nI u))]) 0 cd_L_hang_40 rfl (nI_add _ 1) (by decide) rfl ?_
          refine ze_goto (tgt := 10) cd_L_hang_43 (by decide) ?_
          exact ih (lo + 1) _ _ (by omega) (by rw [← hE]; simp only [zfold, c4, c5]; rfl) h hF
        · skip
          have c5 : (zl_wi n (R 2) (nI i) 9 (nI lo)) = true := zb_t c5
          refine ze_aload_n 2 cd_L_hang_29 rfl rfl ?_
          refine ze_get zin_L (v := .ref (a + 4)) (ci := 1) rfl 4 (by decide) zm_106 rfl cd_L_hang_30 h.1 rfl ?_
          refine ze_iload 0 cd_L_hang_33 rfl ?_
          refine ze_dup2 cd_L_hang_35 rfl rfl ?_
          refine ze_iald (j := lo) (f := D) cd_L_hang_36 (h.2 3 _ rfl) rfl (by omega) (by decide) ?_
          refine ze_iload_n 1 cd_L_hang_37 rfl rfl ?_
          refine ze_iadd cd_L_hang_38 ?_
          refine ze_iast (j := lo) (f := D) cd_L_hang_39 (h.2 3 _ rfl) rfl (by omega) (by decide) ?_
          have h := h.ar 3 0 100 rfl (b := a + 4) (f := upd D lo ((D lo) + (R 3 u + 1 - R 3 i))) (by omega)
          rw [bx_uu] at h
          have hF := hF.up (a := a + 4) (e := .inl (g.2.2.2.1 0, 100, .inl (upd D lo ((D lo) + (R 3 u + 1 - R 3 i))))) (by omega) (by omega)
          refine ze_iinc (v := nI (lo + 1)) (lv' := [(4, .int (nI (lo + 1))), (3, .int (R 3 u + 1 - R 3 i)), (0, .ref a), (1, .int (nI i)), (2, .int (nI u))]) 0 cd_L_hang_40 rfl (nI_add _ 1) (by decide) rfl ?_
          refine ze_goto (tgt := 10) cd_L_hang_43 (by decide) ?_
          exact ih (lo + 1) _ _ (by omega) (by rw [← hE]; simp only [zfold, c4, c5]; rfl) h hF
  refine zM_of (lv := [(0, .ref a), (1, .int (nI i)), (2, .int (nI u))]) (ini := false) (by decide) rfl (by decide) (Nat.le_of_ble_eq_true rfl) rfl ?_
  refine ze_aload_n 0 cd_L_hang_0 rfl rfl ?_
  refine ze_iload_n 1 cd_L_hang_1 rfl rfl ?_
  refine ze_iload_n 2 cd_L_hang_2 rfl rfl ?_
  refine ze_callVp (rm' := zr_L_deeperUnder) (b := a) (As := [.int (nI i), .int (nI u)]) (rest := []) (kc_L_deeperUnder h (by omega) (by omega)) ⟨rfl, rfl⟩ zy_L_deeperUnder_ok zm_424 zm_426 zm_2 (ci := 1) rfl rfl (by decide) (by decide) cd_L_hang_3 h.1 rfl rfl (Nat.le_of_ble_eq_true rfl) ?_
  refine ze_istore_n (lv' := [(3, .int (R 3 u + 1 - R 3 i)), (0, .ref a), (1, .int (nI i)), (2, .int (nI u))]) cd_L_hang_6 rfl (by decide) rfl ?_
  refine ze_iconst (v := nI 0) cd_L_hang_7 (by decide) ?_
  refine ze_istore (lv' := [(4, .int (nI 0)), (3, .int (R 3 u + 1 - R 3 i)), (0, .ref a), (1, .int (nI i)), (2, .int (nI u))]) cd_L_hang_8 (by decide) rfl ?_
  exact loop n 0 (R 3) σ (by omega) rfl (by rw [va_up_id]; exact h) hF
def zl_cp (R : Nat → Nat → Int32) (i : Nat) (Q : Nat → Nat → Int32) (j : Nat) : Nat → Nat → Nat → Int32
  | 0 => va_up R 9 (upd (R 9) i (nI 0))
  | k + 1 => zl_ats (zl_cp R i Q j k) i k (Q 10 (j * 16 + k))
theorem zl_cp_len {R : Nat → Nat → Int32} {i : Nat} {Q : Nat → Nat → Int32} {j k : Nat} (hk : k ≤ 16) : zl_cp R i Q j k 9 i = nI k := by
  cases k with
  | zero => simp [zl_cp, va_up, upd]
  | succ k => rw [zl_cp, zl_ats, if_pos (by omega), va_up_self, pk_us]
def zl_cpy (R : Nat → Nat → Int32) (i : Nat) (Q : Nat → Nat → Int32) (j t : Nat) : Nat → Nat → Int32 := va_up (va_up (va_up (va_up (va_up (zl_cp R i Q j t) 4 (upd (zl_cp R i Q j t 4) i (Q 4 j))) 5 (upd (zl_cp R i Q j t 5) i (Q 5 j))) 6 (upd (zl_cp R i Q j t 6) i (Q 6 j))) 7 (upd (zl_cp R i Q j t 7) i (Q 7 j))) 8 (upd (zl_cp R i Q j t 8) i (Q 8 j))
abbrev zr_L_copyParts : Room := { frames := 1, cells := 0, slots := 0, locals := 22 }
set_option maxRecDepth 100000 in
set_option maxHeartbeats 4000000 in
theorem kc_L_copyParts {g : zx_G} {σ : zx_M} {sz : Nat} {a n : Nat} {R : Nat → Nat → Int32} {b m : Nat} {Q : Nat → Nat → Int32} {i j t : Nat} (h : zl g σ a n R) (h2 : zl g σ b m Q) (hab : a + 12 ≤ b ∨ b + 12 ≤ a) (hi : i < 100) (hj : j < 100) (ht : Q 9 j = nI t) (ht2 : t ≤ 16) : zM g cy_L_copyParts cb_L_copyParts 5 (Option.none : Option Jvm.ClassFile.FieldType) zr_L_copyParts 0 0 [.ref a, .int (nI i), .ref b, .int (nI j)] σ sz (zPv (fun σ' sz' => sz' = sz ∧ zfr σ σ' a 12 ∧ zl g σ' a n (zl_cpy R i Q j t))) := by
  have hF : zfr σ σ a 12 := zfr.rf
  have loop : ∀ (kk : Nat) (lo : Nat) (σ1 : zx_M), lo + kk = t → zl g σ1 a n (zl_cp R i Q j lo) → zl g σ1 b m Q → zfr σ σ1 a 12 → zE g "FindingAid$Levels" cb_L_copyParts 5 (Option.none : Option Jvm.ClassFile.FieldType) false zr_L_copyParts 0 0 (zPv (fun σ' sz' => sz' = sz ∧ zfr σ σ' a 12 ∧ zl g σ' a n (zl_cpy R i Q j t))) 10 [(4, .int (nI lo)), (0, .ref a), (1, .int (nI i)), (2, .ref b), (3, .int (nI j))] [] σ1 sz 0 0 := by
    intro kk
    induction kk with
    | zero =>
      intro lo σ1 hk h h2 hF
      refine ze_iload 0 cd_L_copyParts_10 rfl ?_
      refine ze_aload_n 3 cd_L_copyParts_12 rfl rfl ?_
      refine ze_get zin_L (v := .ref (b + 10)) (ci := 1) rfl 10 (by decide) zm_133 rfl cd_L_copyParts_13 h2.1 rfl ?_
      refine ze_iload_n 4 cd_L_copyParts_16 rfl rfl ?_
      refine ze_iald (j := j) cd_L_copyParts_17 (h2.2 9 _ rfl) rfl (by omega) (by decide) ?_
      refine ze_top ht ?_
      refine ze_icmp_ge (tgt := 39) cd_L_copyParts_18 (by decide) (fun c2 => ?_) (fun c2 => ?_)
      · skip
        have c2 : t ≤ lo := (nI_leI (by omega) (by omega)).mp c2
        refine ze_aload_n 1 cd_L_copyParts_39 rfl rfl ?_
        refine ze_get zin_L (v := .ref (a + 5)) (ci := 1) rfl 5 (by decide) zm_111 rfl cd_L_copyParts_40 h.1 rfl ?_
        refine ze_iload_n 2 cd_L_copyParts_43 rfl rfl ?_
        refine ze_aload_n 3 cd_L_copyParts_44 rfl rfl ?_
        refine ze_get zin_L (v := .ref (b + 5)) (ci := 1) rfl 5 (by decide) zm_111 rfl cd_L_copyParts_45 h2.1 rfl ?_
        refine ze_iload_n 4 cd_L_copyParts_48 rfl rfl ?_
        refine ze_iald (j := j) cd_L_copyParts_49 (h2.2 4 _ rfl) rfl (by omega) (by decide) ?_
        refine ze_iast (j := i) cd_L_copyParts_50 (h.2 4 _ rfl) rfl (by omega) (by decide) ?_
        have h := h.ar 4 0 100 rfl (b := a + 5) (f := upd ((zl_cp R i Q j lo) 4) i (Q 4 j)) (by omega)
        have h2 := h2.upn (b := a + 5) (e := .inl (g.2.2.2.1 0, 100, .inl (upd ((zl_cp R i Q j lo) 4) i (Q 4 j)))) 11 rfl (by omega)
        have hF := hF.up (a := a + 5) (e := .inl (g.2.2.2.1 0, 100, .inl (upd ((zl_cp R i Q j lo) 4) i (Q 4 j)))) (by omega) (by omega)
        refine ze_aload_n 1 cd_L_copyParts_51 rfl rfl ?_
        refine ze_get zin_L (v := .ref (a + 6)) (ci := 1) rfl 6 (by decide) zm_115 rfl cd_L_copyParts_52 h.1 rfl ?_
        refine ze_iload_n 2 cd_L_copyParts_55 rfl rfl ?_
        refine ze_aload_n 3 cd_L_copyParts_56 rfl rfl ?_
        refine ze_get zin_L (v := .ref (b + 6)) (ci := 1) rfl 6 (by decide) zm_115 rfl cd_L_copyParts_57 h2.1 rfl ?_
        refine ze_iload_n 4 cd_L_copyParts_60 rfl rfl ?_
        refine ze_iald (j := j) cd_L_copyParts_61 (h2.2 5 _ rfl) rfl (by omega) (by decide) ?_
        refine ze_iast (j := i) (f := (zl_cp R i Q j lo) 5) cd_L_copyParts_62 (h.2 5 _ rfl) rfl (by omega) (by decide) ?_
        have h := h.ar 5 0 100 rfl (b := a + 6) (f := upd ((zl_cp R i Q j lo) 5) i (Q 5 j)) (by omega)
        have h2 := h2.upn (b := a + 6) (e := .inl (g.2.2.2.1 0, 100, .inl (upd ((zl_cp R i Q j lo) 5) i (Q 5 j)))) 11 rfl (by omega)
        have hF := hF.up (a := a + 6) (e := .inl (g.2.2.2.1 0, 100, .inl (upd ((zl_cp R i Q j lo) 5) i (Q 5 j)))) (by omega) (by omega)
        refine ze_aload_n 1 cd_L_copyParts_63 rfl rfl ?_
        refine ze_get zin_L (v := .ref (a + 7)) (ci := 1) rfl 7 (by decide) zm_119 rfl cd_L_copyParts_64 h.1 rfl ?_
        refine ze_iload_n 2 cd_L_copyParts_67 rfl rfl ?_
        refine ze_aload_n 3 cd_L_copyParts_68 rfl rfl ?_
        refine ze_get zin_L (v := .ref (b + 7)) (ci := 1) rfl 7 (by decide) zm_119 rfl cd_L_copyParts_69 h2.1 rfl ?_
        refine ze_iload_n 4 cd_L_copyParts_72 rfl rfl ?_
        refine ze_iald (j := j) cd_L_copyParts_73 (h2.2 6 _ rfl) rfl (by omega) (by decide) ?_
        refine ze_iast (j := i) (f := (zl_cp R i Q j lo) 6) cd_L_copyParts_74 (h.2 6 _ rfl) rfl (by omega) (by decide) ?_
        have h := h.ar 6 0 100 rfl (b := a + 7) (f := upd ((zl_cp R i Q j lo) 6) i (Q 6 j)) (by omega)
        have h2 := h2.upn (b := a + 7) (e := .inl (g.2.2.2.1 0, 100, .inl (upd ((zl_cp R i Q j lo) 6) i (Q 6 j)))) 11 rfl (by omega)
        have hF := hF.up (a := a + 7) (e := .inl (g.2.2.2.1 0, 100, .inl (upd ((zl_cp R i Q j lo) 6) i (Q 6 j)))) (by omega) (by omega)
        refine ze_aload_n 1 cd_L_copyParts_75 rfl rfl ?_
        refine ze_get zin_L (v := .ref (a + 8)) (ci := 1) rfl 8 (by decide) zm_123 rfl cd_L_copyParts_76 h.1 rfl ?_
        refine ze_iload_n 2 cd_L_copyParts_79 rfl rfl ?_
        refine ze_aload_n 3 cd_L_copyParts_80 rfl rfl ?_
        refine ze_get zin_L (v := .ref (b + 8)) (ci := 1) rfl 8 (by decide) zm_123 rfl cd_L_copyParts_81 h2.1 rfl ?_
        refine ze_iload_n 4 cd_L_copyParts_84 rfl rfl ?_
        refine ze_iald (j := j) cd_L_copyParts_85 (h2.2 7 _ rfl) rfl (by omega) (by decide) ?_
        refine ze_iast (j := i) (f := (zl_cp R i Q j lo) 7) cd_L_copyParts_86 (h.2 7 _ rfl) rfl (by omega) (by decide) ?_
        have h := h.ar 7 0 100 rfl (b := a + 8) (f := upd ((zl_cp R i Q j lo) 7) i (Q 7 j)) (by omega)
        have h2 := h2.upn (b := a + 8) (e := .inl (g.2.2.2.1 0, 100, .inl (upd ((zl_cp R i Q j lo) 7) i (Q 7 j)))) 11 rfl (by omega)
        have hF := hF.up (a := a + 8) (e := .inl (g.2.2.2.1 0, 100, .inl (upd ((zl_cp R i Q j lo) 7) i (Q 7 j)))) (by omega) (by omega)
        refine ze_aload_n 1 cd_L_copyParts_87 rfl rfl ?_
        refine ze_get zin_L (v := .ref (a + 9)) (ci := 1) rfl 9 (by decide) zm_128 rfl cd_L_copyParts_88 h.1 rfl ?_
        refine ze_iload_n 2 cd_L_copyParts_91 rfl rfl ?_
        refine ze_aload_n 3 cd_L_copyParts_92 rfl rfl ?_
        refine ze_get zin_L (v := .ref (b + 9)) (ci := 1) rfl 9 (by decide) zm_128 rfl cd_L_copyParts_93 h2.1 rfl ?_
        refine ze_iload_n 4 cd_L_copyParts_96 rfl rfl ?_
        refine ze_iald (j := j) cd_L_copyParts_97 (h2.2 8 _ rfl) rfl (by omega) (by decide) ?_
        refine ze_iast (j := i) (f := (zl_cp R i Q j lo) 8) cd_L_copyParts_98 (h.2 8 _ rfl) rfl (by omega) (by decide) ?_
        have h := h.ar 8 0 100 rfl (b := a + 9) (f := upd ((zl_cp R i Q j lo) 8) i (Q 8 j)) (by omega)
        have h2 := h2.upn (b := a + 9) (e := .inl (g.2.2.2.1 0, 100, .inl (upd ((zl_cp R i Q j lo) 8) i (Q 8 j)))) 11 rfl (by omega)
        have hF := hF.up (a := a + 9) (e := .inl (g.2.2.2.1 0, 100, .inl (upd ((zl_cp R i Q j lo) 8) i (Q 8 j)))) (by omega) (by omega)
        refine ze_vret cd_L_copyParts_99 rfl (by decide) (by decide) ⟨rfl, rfl, hF, ?_⟩
        obtain rfl : lo = t := (by omega); exact h
      · skip
        have c2 : ¬ t ≤ lo := fun h9 => c2 ((nI_leI (by omega) (by omega)).mpr h9)
        exfalso; omega
    | succ kk ih =>
      intro lo σ1 hk h h2 hF
      refine ze_iload 0 cd_L_copyParts_10 rfl ?_
      refine ze_aload_n 3 cd_L_copyParts_12 rfl rfl ?_
      refine ze_get zin_L (v := .ref (b + 10)) (ci := 1) rfl 10 (by decide) zm_133 rfl cd_L_copyParts_13 h2.1 rfl ?_
      refine ze_iload_n 4 cd_L_copyParts_16 rfl rfl ?_
      refine ze_iald (j := j) cd_L_copyParts_17 (h2.2 9 _ rfl) rfl (by omega) (by decide) ?_
      refine ze_top ht ?_
      refine ze_icmp_ge (tgt := 39) cd_L_copyParts_18 (by decide) (fun c4 => ?_) (fun c4 => ?_)
      · skip
        have c4 : t ≤ lo := (nI_leI (by omega) (by omega)).mp c4
        exfalso; omega
      · skip
        have c4 : ¬ t ≤ lo := fun h9 => c4 ((nI_leI (by omega) (by omega)).mpr h9)
        refine ze_aload_n 1 cd_L_copyParts_21 rfl rfl ?_
        refine ze_iload_n 2 cd_L_copyParts_22 rfl rfl ?_
        refine ze_aload_n 3 cd_L_copyParts_23 rfl rfl ?_
        refine ze_iload_n 4 cd_L_copyParts_24 rfl rfl ?_
        refine ze_iload 0 cd_L_copyParts_25 rfl ?_
        refine ze_callVp (rm' := zr_L_titleSign) (b := b) (As := [.int (nI j), .int (nI lo)]) (rest := [.int (nI i), .ref a]) (kc_L_titleSign h2 (by omega) (by omega)) ⟨rfl, rfl⟩ zy_L_titleSign_ok zm_468 zm_319 zm_320 (ci := 1) rfl rfl (by decide) (by decide) cd_L_copyParts_27 h2.1 rfl rfl (Nat.le_of_ble_eq_true rfl) ?_
        refine ze_callVv (rm' := zr_L_addTitleSign) (b := a) (As := [.int (nI i), .int (Q 10 (j * 16 + lo))]) (rest := []) (kc_L_addTitleSign h (by omega) (zl_cp_len (by omega)) (by omega)) ⟨rfl, rfl⟩ zy_L_addTitleSign_ok zm_469 zm_470 zm_471 (ci := 1) rfl rfl (by decide) (by decide) cd_L_copyParts_30 h.1 rfl rfl (Nat.le_of_ble_eq_true rfl) (fun σ9 sz9 hq9 => ?_)
        obtain ⟨rfl, hF9, h9⟩ := hq9
        have h2 := h2.frn hF9 11 rfl (by omega)
        have h := h9
        have hF := hF.trans (hF9.wide (by omega) (by omega))
        refine ze_iinc (v := nI (lo + 1)) (lv' := [(4, .int (nI (lo + 1))), (0, .ref a), (1, .int (nI i)), (2, .ref b), (3, .int (nI j))]) 0 cd_L_copyParts_33 rfl (nI_add _ 1) (by decide) rfl ?_
        refine ze_goto (tgt := 10) cd_L_copyParts_36 (by decide) ?_
        exact ih (lo + 1) _ (by omega) h h2 hF
  refine zM_of (lv := [(0, .ref a), (1, .int (nI i)), (2, .ref b), (3, .int (nI j))]) (ini := false) (by decide) rfl (by decide) (Nat.le_of_ble_eq_true rfl) rfl ?_
  refine ze_aload_n 0 cd_L_copyParts_0 rfl rfl ?_
  refine ze_get zin_L (v := .ref (a + 10)) (ci := 1) rfl 10 (by decide) zm_133 rfl cd_L_copyParts_1 h.1 rfl ?_
  refine ze_iload_n 1 cd_L_copyParts_4 rfl rfl ?_
  refine ze_iconst (v := nI 0) cd_L_copyParts_5 (by decide) ?_
  refine ze_iast (j := i) cd_L_copyParts_6 (h.2 9 _ rfl) rfl (by omega) (by decide) ?_
  have h := h.ar 9 0 100 rfl (b := a + 10) (f := upd (R 9) i (nI 0)) (by omega)
  have h2 := h2.upn (b := a + 10) (e := .inl (g.2.2.2.1 0, 100, .inl (upd (R 9) i (nI 0)))) 11 rfl (by omega)
  have hF := hF.up (a := a + 10) (e := .inl (g.2.2.2.1 0, 100, .inl (upd (R 9) i (nI 0)))) (by omega) (by omega)
  refine ze_iconst (v := nI 0) cd_L_copyParts_7 (by decide) ?_
  refine ze_istore (lv' := [(4, .int (nI 0)), (0, .ref a), (1, .int (nI i)), (2, .ref b), (3, .int (nI j))]) cd_L_copyParts_8 (by decide) rfl ?_
  exact loop t 0 _ (by omega) h h2 hF
