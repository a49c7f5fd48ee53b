/-! CONSTRUCTORS -/
theorem zob.grow {g : zx_G} {σ : zx_M} {a ci : Nat} {fs : List Value} {ks : List (Nat × Nat)} (h : zob g σ a ci fs ks (fun _ _ => 0)) (kd ln k : Nat) (hk : ks.length = k) {b : Nat} (hb : b = a + 1 + k) : zob g (zx_up σ b (.inl (g.2.2.2.1 kd, ln, .inl (fun _ => 0)))) a ci fs (ks ++ [(kd, ln)]) (fun _ _ => 0) := by
  subst hk; subst hb
  refine ⟨by rw [zx_up_ne (by omega)]; exact h.1, fun j r hj => ?_⟩
  by_cases hl : j < ks.length
  · rw [List.getElem?_append_left hl] at hj
    rw [zx_up_ne (by omega)]
    exact h.2 j r hj
  · rw [List.getElem?_append_right (by omega)] at hj
    have hz : j - ks.length < 1 := (List.getElem?_eq_some_iff.mp hj).1
    have hj2 : j = ks.length := by omega
    subst hj2
    rw [Nat.sub_self] at hj
    cases hj
    exact zx_up_self
theorem zob.bare {g : zx_G} {σ : zx_M} {a ci : Nat} {fs : List Value} (h : σ a = some (.inr (ci, fs))) : zob g σ a ci fs [] (fun _ _ => 0) := ⟨h, fun k q hk => by simp at hk⟩
abbrev zr_L_init : Room := { frames := 1, cells := 11, slots := 2600, locals := 24 }
set_option maxRecDepth 100000 in
set_option maxHeartbeats 4000000 in
theorem kc_L_init {g : zx_G} {σ : zx_M} {a : Nat} (h : zob g σ a 1 [.int 0, .null, .null, .null, .null, .null, .null, .null, .null, .null, .null, .null] [] (fun _ _ => 0)) : zM g cy_L_init cb_L_init 1 (Option.none : Option Jvm.ClassFile.FieldType) zr_L_init 11 2600 [.ref a] σ (a + 1) (zPv (fun σ' sz' => sz' = a + 12 ∧ zfr σ σ' a 12 ∧ zl g σ' a 0 (fun _ _ => 0))) := by
  have hF : zfr σ σ a 12 := zfr.rf
  refine zM_of (lv := [(0, .ref a)]) (ini := true) (by decide) rfl (by decide) (Nat.le_of_ble_eq_true rfl) rfl ?_
  refine ze_aload_n 0 cd_L_init_0 rfl rfl ?_
  refine ze_objInit zm_87 zm_74 zm_75 cd_L_init_1 (by decide) (Nat.le_of_ble_eq_true rfl) ?_
  refine ze_aload_n 0 cd_L_init_4 rfl rfl ?_
  refine ze_iconst (v := nI 0) cd_L_init_5 (by decide) ?_
  refine ze_put zin_L zy_L zt_L zn_L (ci := 1) rfl 0 (by decide) zm_88 rfl (Or.inl rfl) cd_L_init_6 h.1 rfl rfl (Nat.le_of_ble_eq_true rfl) (fs' := [.int (nI 0), .null, .null, .null, .null, .null, .null, .null, .null, .null, .null, .null]) rfl ?_
  have h := h.put (fs' := [.int (nI 0), .null, .null, .null, .null, .null, .null, .null, .null, .null, .null, .null])
  have hF := hF.up (a := a) (e := .inr (1, [.int (nI 0), .null, .null, .null, .null, .null, .null, .null, .null, .null, .null, .null])) (by omega) (by omega)
  refine ze_aload_n 0 cd_L_init_9 rfl rfl ?_
  refine ze_bipush (v := nI 100) cd_L_init_10 (by decide) ?_
  refine ze_newa (N := 100) (x := .inl (fun _ => 0)) 0 rfl rfl (fun _ h9 => h9) zm_163 (fun _ => rfl) rfl (by decide) (by decide) (by decide) (by decide) cd_L_init_12 (fun _ => ?_)
  have h := h.grow 0 100 0 rfl (b := a + 1) (by omega)
  have hF := hF.up (a := a + 1) (e := .inl (g.2.2.2.1 0, 100, .inl (fun _ => 0))) (by omega) (by omega)
  refine ze_put zin_L zy_L zt_L zn_L (ci := 1) rfl 1 (by decide) zm_94 rfl (Or.inr ⟨rfl, rfl, rfl⟩) cd_L_init_14 h.1 rfl rfl (Nat.le_of_ble_eq_true rfl) (fs' := [.int (nI 0), .ref (a + 1), .null, .null, .null, .null, .null, .null, .null, .null, .null, .null]) rfl ?_
  have h := h.put (fs' := [.int (nI 0), .ref (a + 1), .null, .null, .null, .null, .null, .null, .null, .null, .null, .null])
  have hF := hF.up (a := a) (e := .inr (1, [.int (nI 0), .ref (a + 1), .null, .null, .null, .null, .null, .null, .null, .null, .null, .null])) (by omega) (by omega)
  refine ze_aload_n 0 cd_L_init_17 rfl rfl ?_
  refine ze_bipush (v := nI 100) cd_L_init_18 (by decide) ?_
  refine ze_newa (N := 100) (x := .inl (fun _ => 0)) 0 rfl rfl (fun _ h9 => h9) zm_163 (fun _ => rfl) rfl (by decide) (by decide) (by decide) (by decide) cd_L_init_20 (fun _ => ?_)
  have h := h.grow 0 100 1 rfl (b := a + 2) (by omega)
  have hF := hF.up (a := a + 2) (e := .inl (g.2.2.2.1 0, 100, .inl (fun _ => 0))) (by omega) (by omega)
  refine ze_put zin_L zy_L zt_L zn_L (ci := 1) rfl 2 (by decide) zm_98 rfl (Or.inr ⟨rfl, rfl, rfl⟩) cd_L_init_22 h.1 rfl rfl (Nat.le_of_ble_eq_true rfl) (fs' := [.int (nI 0), .ref (a + 1), .ref (a + 2), .null, .null, .null, .null, .null, .null, .null, .null, .null]) rfl ?_
  have h := h.put (fs' := [.int (nI 0), .ref (a + 1), .ref (a + 2), .null, .null, .null, .null, .null, .null, .null, .null, .null])
  have hF := hF.up (a := a) (e := .inr (1, [.int (nI 0), .ref (a + 1), .ref (a + 2), .null, .null, .null, .null, .null, .null, .null, .null, .null])) (by omega) (by omega)
  refine ze_aload_n 0 cd_L_init_25 rfl rfl ?_
  refine ze_bipush (v := nI 100) cd_L_init_26 (by decide) ?_
  refine ze_newa (N := 100) (x := .inl (fun _ => 0)) 0 rfl rfl (fun _ h9 => h9) zm_163 (fun _ => rfl) rfl (by decide) (by decide) (by decide) (by decide) cd_L_init_28 (fun _ => ?_)
  have h := h.grow 0 100 2 rfl (b := a + 3) (by omega)
  have hF := hF.up (a := a + 3) (e := .inl (g.2.2.2.1 0, 100, .inl (fun _ => 0))) (by omega) (by omega)
  refine ze_put zin_L zy_L zt_L zn_L (ci := 1) rfl 3 (by decide) zm_102 rfl (Or.inr ⟨rfl, rfl, rfl⟩) cd_L_init_30 h.1 rfl rfl (Nat.le_of_ble_eq_true rfl) (fs' := [.int (nI 0), .ref (a + 1), .ref (a + 2), .ref (a + 3), .null, .null, .null, .null, .null, .null, .null, .null]) rfl ?_
  have h := h.put (fs' := [.int (nI 0), .ref (a + 1), .ref (a + 2), .ref (a + 3), .null, .null, .null, .null, .null, .null, .null, .null])
  have hF := hF.up (a := a) (e := .inr (1, [.int (nI 0), .ref (a + 1), .ref (a + 2), .ref (a + 3), .null, .null, .null, .null, .null, .null, .null, .null])) (by omega) (by omega)
  refine ze_aload_n 0 cd_L_init_33 rfl rfl ?_
  refine ze_bipush (v := nI 100) cd_L_init_34 (by decide) ?_
  refine ze_newa (N := 100) (x := .inl (fun _ => 0)) 0 rfl rfl (fun _ h9 => h9) zm_163 (fun _ => rfl) rfl (by decide) (by decide) (by decide) (by decide) cd_L_init_36 (fun _ => ?_)
  have h := h.grow 0 100 3 rfl (b := a + 4) (by omega)
  have hF := hF.up (a := a + 4) (e := .inl (g.2.2.2.1 0, 100, .inl (fun _ => 0))) (by omega) (by omega)
  refine ze_put zin_L zy_L zt_L zn_L (ci := 1) rfl 4 (by decide) zm_106 rfl (Or.inr ⟨rfl, rfl, rfl⟩) cd_L_init_38 h.1 rfl rfl (Nat.le_of_ble_eq_true rfl) (fs' := [.int (nI 0), .ref (a + 1), .ref (a + 2), .ref (a + 3), .ref (a + 4), .null, .null, .null, .null, .null, .null, .null]) rfl ?_
  have h := h.put (fs' := [.int (nI 0), .ref (a + 1), .ref (a + 2), .ref (a + 3), .ref (a + 4), .null, .null, .null, .null, .null, .null, .null])
  have hF := hF.up (a := a) (e := .inr (1, [.int (nI 0), .ref (a + 1), .ref (a + 2), .ref (a + 3), .ref (a + 4), .null, .null, .null, .null, .null, .null, .null])) (by omega) (by omega)
  refine ze_aload_n 0 cd_L_init_41 rfl rfl ?_
  refine ze_bipush (v := nI 100) cd_L_init_42 (by decide) ?_
  refine ze_newa (N := 100) (x := .inl (fun _ => 0)) 0 rfl rfl (fun _ h9 => h9) zm_163 (fun _ => rfl) rfl (by decide) (by decide) (by decide) (by decide) cd_L_init_44 (fun _ => ?_)
  have h := h.grow 0 100 4 rfl (b := a + 5) (by omega)
  have hF := hF.up (a := a + 5) (e := .inl (g.2.2.2.1 0, 100, .inl (fun _ => 0))) (by omega) (by omega)
  refine ze_put zin_L zy_L zt_L zn_L (ci := 1) rfl 5 (by decide) zm_111 rfl (Or.inr ⟨rfl, rfl, rfl⟩) cd_L_init_46 h.1 rfl rfl (Nat.le_of_ble_eq_true rfl) (fs' := [.int (nI 0), .ref (a + 1), .ref (a + 2), .ref (a + 3), .ref (a + 4), .ref (a + 5), .null, .null, .null, .null, .null, .null]) rfl ?_
  have h := h.put (fs' := [.int (nI 0), .ref (a + 1), .ref (a + 2), .ref (a + 3), .ref (a + 4), .ref (a + 5), .null, .null, .null, .null, .null, .null])
  have hF := hF.up (a := a) (e := .inr (1, [.int (nI 0), .ref (a + 1), .ref (a + 2), .ref (a + 3), .ref (a + 4), .ref (a + 5), .null, .null, .null, .null, .null, .null])) (by omega) (by omega)
  refine ze_aload_n 0 cd_L_init_49 rfl rfl ?_
  refine ze_bipush (v := nI 100) cd_L_init_50 (by decide) ?_
  refine ze_newa (N := 100) (x := .inl (fun _ => 0)) 0 rfl rfl (fun _ h9 => h9) zm_163 (fun _ => rfl) rfl (by decide) (by decide) (by decide) (by decide) cd_L_init_52 (fun _ => ?_)
  have h := h.grow 0 100 5 rfl (b := a + 6) (by omega)
  have hF := hF.up (a := a + 6) (e := .inl (g.2.2.2.1 0, 100, .inl (fun _ => 0))) (by omega) (by omega)
  refine ze_put zin_L zy_L zt_L zn_L (ci := 1) rfl 6 (by decide) zm_115 rfl (Or.inr ⟨rfl, rfl, rfl⟩) cd_L_init_54 h.1 rfl rfl (Nat.le_of_ble_eq_true rfl) (fs' := [.int (nI 0), .ref (a + 1), .ref (a + 2), .ref (a + 3), .ref (a + 4), .ref (a + 5), .ref (a + 6), .null, .null, .null, .null, .null]) rfl ?_
  have h := h.put (fs' := [.int (nI 0), .ref (a + 1), .ref (a + 2), .ref (a + 3), .ref (a + 4), .ref (a + 5), .ref (a + 6), .null, .null, .null, .null, .null])
  have hF := hF.up (a := a) (e := .inr (1, [.int (nI 0), .ref (a + 1), .ref (a + 2), .ref (a + 3), .ref (a + 4), .ref (a + 5), .ref (a + 6), .null, .null, .null, .null, .null])) (by omega) (by omega)
  refine ze_aload_n 0 cd_L_init_57 rfl rfl ?_
  refine ze_bipush (v := nI 100) cd_L_init_58 (by decide) ?_
  refine ze_newa (N := 100) (x := .inl (fun _ => 0)) 0 rfl rfl (fun _ h9 => h9) zm_163 (fun _ => rfl) rfl (by decide) (by decide) (by decide) (by decide) cd_L_init_60 (fun _ => ?_)
  have h := h.grow 0 100 6 rfl (b := a + 7) (by omega)
  have hF := hF.up (a := a + 7) (e := .inl (g.2.2.2.1 0, 100, .inl (fun _ => 0))) (by omega) (by omega)
  refine ze_put zin_L zy_L zt_L zn_L (ci := 1) rfl 7 (by decide) zm_119 rfl (Or.inr ⟨rfl, rfl, rfl⟩) cd_L_init_62 h.1 rfl rfl (Nat.le_of_ble_eq_true rfl) (fs' := [.int (nI 0), .ref (a + 1), .ref (a + 2), .ref (a + 3), .ref (a + 4), .ref (a + 5), .ref (a + 6), .ref (a + 7), .null, .null, .null, .null]) rfl ?_
  have h := h.put (fs' := [.int (nI 0), .ref (a + 1), .ref (a + 2), .ref (a + 3), .ref (a + 4), .ref (a + 5), .ref (a + 6), .ref (a + 7), .null, .null, .null, .null])
  have hF := hF.up (a := a) (e := .inr (1, [.int (nI 0), .ref (a + 1), .ref (a + 2), .ref (a + 3), .ref (a + 4), .ref (a + 5), .ref (a + 6), .ref (a + 7), .null, .null, .null, .null])) (by omega) (by omega)
  refine ze_aload_n 0 cd_L_init_65 rfl rfl ?_
  refine ze_bipush (v := nI 100) cd_L_init_66 (by decide) ?_
  refine ze_newa (N := 100) (x := .inl (fun _ => 0)) 0 rfl rfl (fun _ h9 => h9) zm_163 (fun _ => rfl) rfl (by decide) (by decide) (by decide) (by decide) cd_L_init_68 (fun _ => ?_)
  have h := h.grow 0 100 7 rfl (b := a + 8) (by omega)
  have hF := hF.up (a := a + 8) (e := .inl (g.2.2.2.1 0, 100, .inl (fun _ => 0))) (by omega) (by omega)
  refine ze_put zin_L zy_L zt_L zn_L (ci := 1) rfl 8 (by decide) zm_123 rfl (Or.inr ⟨rfl, rfl, rfl⟩) cd_L_init_70 h.1 rfl rfl (Nat.le_of_ble_eq_true rfl) (fs' := [.int (nI 0), .ref (a + 1), .ref (a + 2), .ref (a + 3), .ref (a + 4), .ref (a + 5), .ref (a + 6), .ref (a + 7), .ref (a + 8), .null, .null, .null]) rfl ?_
  have h := h.put (fs' := [.int (nI 0), .ref (a + 1), .ref (a + 2), .ref (a + 3), .ref (a + 4), .ref (a + 5), .ref (a + 6), .ref (a + 7), .ref (a + 8), .null, .null, .null])
  have hF := hF.up (a := a) (e := .inr (1, [.int (nI 0), .ref (a + 1), .ref (a + 2), .ref (a + 3), .ref (a + 4), .ref (a + 5), .ref (a + 6), .ref (a + 7), .ref (a + 8), .null, .null, .null])) (by omega) (by omega)
  refine ze_aload_n 0 cd_L_init_73 rfl rfl ?_
  refine ze_bipush (v := nI 100) cd_L_init_74 (by decide) ?_
  refine ze_newa (N := 100) (x := .inl (fun _ => 0)) 0 rfl rfl (fun _ h9 => h9) zm_163 (fun _ => rfl) rfl (by decide) (by decide) (by decide) (by decide) cd_L_init_76 (fun _ => ?_)
  have h := h.grow 0 100 8 rfl (b := a + 9) (by omega)
  have hF := hF.up (a := a + 9) (e := .inl (g.2.2.2.1 0, 100, .inl (fun _ => 0))) (by omega) (by omega)
  refine ze_put zin_L zy_L zt_L zn_L (ci := 1) rfl 9 (by decide) zm_128 rfl (Or.inr ⟨rfl, rfl, rfl⟩) cd_L_init_78 h.1 rfl rfl (Nat.le_of_ble_eq_true rfl) (fs' := [.int (nI 0), .ref (a + 1), .ref (a + 2), .ref (a + 3), .ref (a + 4), .ref (a + 5), .ref (a + 6), .ref (a + 7), .ref (a + 8), .ref (a + 9), .null, .null]) rfl ?_
  have h := h.put (fs' := [.int (nI 0), .ref (a + 1), .ref (a + 2), .ref (a + 3), .ref (a + 4), .ref (a + 5), .ref (a + 6), .ref (a + 7), .ref (a + 8), .ref (a + 9), .null, .null])
  have hF := hF.up (a := a) (e := .inr (1, [.int (nI 0), .ref (a + 1), .ref (a + 2), .ref (a + 3), .ref (a + 4), .ref (a + 5), .ref (a + 6), .ref (a + 7), .ref (a + 8), .ref (a + 9), .null, .null])) (by omega) (by omega)
  refine ze_aload_n 0 cd_L_init_81 rfl rfl ?_
  refine ze_bipush (v := nI 100) cd_L_init_82 (by decide) ?_
  refine ze_newa (N := 100) (x := .inl (fun _ => 0)) 0 rfl rfl (fun _ h9 => h9) zm_163 (fun _ => rfl) rfl (by decide) (by decide) (by decide) (by decide) cd_L_init_84 (fun _ => ?_)
  have h := h.grow 0 100 9 rfl (b := a + 10) (by omega)
  have hF := hF.up (a := a + 10) (e := .inl (g.2.2.2.1 0, 100, .inl (fun _ => 0))) (by omega) (by omega)
  refine ze_put zin_L zy_L zt_L zn_L (ci := 1) rfl 10 (by decide) zm_133 rfl (Or.inr ⟨rfl, rfl, rfl⟩) cd_L_init_86 h.1 rfl rfl (Nat.le_of_ble_eq_true rfl) (fs' := [.int (nI 0), .ref (a + 1), .ref (a + 2), .ref (a + 3), .ref (a + 4), .ref (a + 5), .ref (a + 6), .ref (a + 7), .ref (a + 8), .ref (a + 9), .ref (a + 10), .null]) rfl ?_
  have h := h.put (fs' := [.int (nI 0), .ref (a + 1), .ref (a + 2), .ref (a + 3), .ref (a + 4), .ref (a + 5), .ref (a + 6), .ref (a + 7), .ref (a + 8), .ref (a + 9), .ref (a + 10), .null])
  have hF := hF.up (a := a) (e := .inr (1, [.int (nI 0), .ref (a + 1), .ref (a + 2), .ref (a + 3), .ref (a + 4), .ref (a + 5), .ref (a + 6), .ref (a + 7), .ref (a + 8), .ref (a + 9), .ref (a + 10), .null])) (by omega) (by omega)
  refine ze_aload_n 0 cd_L_init_89 rfl rfl ?_
  refine ze_sipush (v := nI 1600) cd_L_init_90 (by decide) ?_
  refine ze_newa (N := 1600) (x := .inl (fun _ => 0)) 0 rfl rfl (fun _ h9 => h9) zm_163 (fun _ => rfl) rfl (by decide) (by decide) (by decide) (by decide) cd_L_init_93 (fun _ => ?_)
  have h := h.grow 0 1600 10 rfl (b := a + 11) (by omega)
  have hF := hF.up (a := a + 11) (e := .inl (g.2.2.2.1 0, 1600, .inl (fun _ => 0))) (by omega) (by omega)
  refine ze_put zin_L zy_L zt_L zn_L (ci := 1) rfl 11 (by decide) zm_137 rfl (Or.inr ⟨rfl, rfl, rfl⟩) cd_L_init_95 h.1 rfl rfl (Nat.le_of_ble_eq_true rfl) (fs' := [.int (nI 0), .ref (a + 1), .ref (a + 2), .ref (a + 3), .ref (a + 4), .ref (a + 5), .ref (a + 6), .ref (a + 7), .ref (a + 8), .ref (a + 9), .ref (a + 10), .ref (a + 11)]) rfl ?_
  have h := h.put (fs' := [.int (nI 0), .ref (a + 1), .ref (a + 2), .ref (a + 3), .ref (a + 4), .ref (a + 5), .ref (a + 6), .ref (a + 7), .ref (a + 8), .ref (a + 9), .ref (a + 10), .ref (a + 11)])
  have hF := hF.up (a := a) (e := .inr (1, [.int (nI 0), .ref (a + 1), .ref (a + 2), .ref (a + 3), .ref (a + 4), .ref (a + 5), .ref (a + 6), .ref (a + 7), .ref (a + 8), .ref (a + 9), .ref (a + 10), .ref (a + 11)])) (by omega) (by omega)
  exact ze_vret cd_L_init_98 rfl (by decide) (by decide) ⟨rfl, rfl, hF, h⟩
abbrev zr_N_init : Room := { frames := 1, cells := 6, slots := 1600, locals := 24 }
set_option maxRecDepth 100000 in
set_option maxHeartbeats 4000000 in
theorem kc_N_init {g : zx_G} {σ : zx_M} {a : Nat} (h : zob g σ a 2 [.null, .null, .null, .null, .null, .null] [] (fun _ _ => 0)) : zM g cy_N_init cb_N_init 1 (Option.none : Option Jvm.ClassFile.FieldType) zr_N_init 6 1600 [.ref a] σ (a + 1) (zPv (fun σ' sz' => sz' = a + 7 ∧ zfr σ σ' a 7 ∧ zn g σ' a (fun _ _ => 0))) := by
  have hF : zfr σ σ a 7 := zfr.rf
  refine zM_of (lv := [(0, .ref a)]) (ini := true) (by decide) rfl (by decide) (Nat.le_of_ble_eq_true rfl) rfl ?_
  refine ze_aload_n 0 cd_N_init_0 rfl rfl ?_
  refine ze_objInit zm_186 zm_74 zm_75 cd_N_init_1 (by decide) (Nat.le_of_ble_eq_true rfl) ?_
  refine ze_aload_n 0 cd_N_init_4 rfl rfl ?_
  refine ze_sipush (v := nI 400) cd_N_init_5 (by decide) ?_
  refine ze_newa (N := 400) (x := .inl (fun _ => 0)) 0 rfl rfl (fun _ h9 => h9) zm_163 (fun _ => rfl) rfl (by decide) (by decide) (by decide) (by decide) cd_N_init_8 (fun _ => ?_)
  have h := h.grow 0 400 0 rfl (b := a + 1) (by omega)
  have hF := hF.up (a := a + 1) (e := .inl (g.2.2.2.1 0, 400, .inl (fun _ => 0))) (by omega) (by omega)
  refine ze_put zin_N zy_N zt_N zn_N (ci := 2) rfl 0 (by decide) zm_187 rfl (Or.inr ⟨rfl, rfl, rfl⟩) cd_N_init_10 h.1 rfl rfl (Nat.le_of_ble_eq_true rfl) (fs' := [.ref (a + 1), .null, .null, .null, .null, .null]) rfl ?_
  have h := h.put (fs' := [.ref (a + 1), .null, .null, .null, .null, .null])
  have hF := hF.up (a := a) (e := .inr (2, [.ref (a + 1), .null, .null, .null, .null, .null])) (by omega) (by omega)
  refine ze_aload_n 0 cd_N_init_13 rfl rfl ?_
  refine ze_sipush (v := nI 400) cd_N_init_14 (by decide) ?_
  refine ze_newa (N := 400) (x := .inl (fun _ => 0)) 0 rfl rfl (fun _ h9 => h9) zm_163 (fun _ => rfl) rfl (by decide) (by decide) (by decide) (by decide) cd_N_init_17 (fun _ => ?_)
  have h := h.grow 0 400 1 rfl (b := a + 2) (by omega)
  have hF := hF.up (a := a + 2) (e := .inl (g.2.2.2.1 0, 400, .inl (fun _ => 0))) (by omega) (by omega)
  refine ze_put zin_N zy_N zt_N zn_N (ci := 2) rfl 1 (by decide) zm_188 rfl (Or.inr ⟨rfl, rfl, rfl⟩) cd_N_init_19 h.1 rfl rfl (Nat.le_of_ble_eq_true rfl) (fs' := [.ref (a + 1), .ref (a + 2), .null, .null, .null, .null]) rfl ?_
  have h := h.put (fs' := [.ref (a + 1), .ref (a + 2), .null, .null, .null, .null])
  have hF := hF.up (a := a) (e := .inr (2, [.ref (a + 1), .ref (a + 2), .null, .null, .null, .null])) (by omega) (by omega)
  refine ze_aload_n 0 cd_N_init_22 rfl rfl ?_
  refine ze_sipush (v := nI 500) cd_N_init_23 (by decide) ?_
  refine ze_newa (N := 500) (x := .inl (fun _ => 0)) 0 rfl rfl (fun _ h9 => h9) zm_163 (fun _ => rfl) rfl (by decide) (by decide) (by decide) (by decide) cd_N_init_26 (fun _ => ?_)
  have h := h.grow 0 500 2 rfl (b := a + 3) (by omega)
  have hF := hF.up (a := a + 3) (e := .inl (g.2.2.2.1 0, 500, .inl (fun _ => 0))) (by omega) (by omega)
  refine ze_put zin_N zy_N zt_N zn_N (ci := 2) rfl 2 (by decide) zm_189 rfl (Or.inr ⟨rfl, rfl, rfl⟩) cd_N_init_28 h.1 rfl rfl (Nat.le_of_ble_eq_true rfl) (fs' := [.ref (a + 1), .ref (a + 2), .ref (a + 3), .null, .null, .null]) rfl ?_
  have h := h.put (fs' := [.ref (a + 1), .ref (a + 2), .ref (a + 3), .null, .null, .null])
  have hF := hF.up (a := a) (e := .inr (2, [.ref (a + 1), .ref (a + 2), .ref (a + 3), .null, .null, .null])) (by omega) (by omega)
  refine ze_aload_n 0 cd_N_init_31 rfl rfl ?_
  refine ze_bipush (v := nI 100) cd_N_init_32 (by decide) ?_
  refine ze_newa (N := 100) (x := .inl (fun _ => 0)) 0 rfl rfl (fun _ h9 => h9) zm_163 (fun _ => rfl) rfl (by decide) (by decide) (by decide) (by decide) cd_N_init_34 (fun _ => ?_)
  have h := h.grow 0 100 3 rfl (b := a + 4) (by omega)
  have hF := hF.up (a := a + 4) (e := .inl (g.2.2.2.1 0, 100, .inl (fun _ => 0))) (by omega) (by omega)
  refine ze_put zin_N zy_N zt_N zn_N (ci := 2) rfl 3 (by decide) zm_190 rfl (Or.inr ⟨rfl, rfl, rfl⟩) cd_N_init_36 h.1 rfl rfl (Nat.le_of_ble_eq_true rfl) (fs' := [.ref (a + 1), .ref (a + 2), .ref (a + 3), .ref (a + 4), .null, .null]) rfl ?_
  have h := h.put (fs' := [.ref (a + 1), .ref (a + 2), .ref (a + 3), .ref (a + 4), .null, .null])
  have hF := hF.up (a := a) (e := .inr (2, [.ref (a + 1), .ref (a + 2), .ref (a + 3), .ref (a + 4), .null, .null])) (by omega) (by omega)
  refine ze_aload_n 0 cd_N_init_39 rfl rfl ?_
  refine ze_bipush (v := nI 100) cd_N_init_40 (by decide) ?_
  refine ze_newa (N := 100) (x := .inl (fun _ => 0)) 0 rfl rfl (fun _ h9 => h9) zm_163 (fun _ => rfl) rfl (by decide) (by decide) (by decide) (by decide) cd_N_init_42 (fun _ => ?_)
  have h := h.grow 0 100 4 rfl (b := a + 5) (by omega)
  have hF := hF.up (a := a + 5) (e := .inl (g.2.2.2.1 0, 100, .inl (fun _ => 0))) (by omega) (by omega)
  refine ze_put zin_N zy_N zt_N zn_N (ci := 2) rfl 4 (by decide) zm_192 rfl (Or.inr ⟨rfl, rfl, rfl⟩) cd_N_init_44 h.1 rfl rfl (Nat.le_of_ble_eq_true rfl) (fs' := [.ref (a + 1), .ref (a + 2), .ref (a + 3), .ref (a + 4), .ref (a + 5), .null]) rfl ?_
  have h := h.put (fs' := [.ref (a + 1), .ref (a + 2), .ref (a + 3), .ref (a + 4), .ref (a + 5), .null])
  have hF := hF.up (a := a) (e := .inr (2, [.ref (a + 1), .ref (a + 2), .ref (a + 3), .ref (a + 4), .ref (a + 5), .null])) (by omega) (by omega)
  refine ze_aload_n 0 cd_N_init_47 rfl rfl ?_
  refine ze_bipush (v := nI 100) cd_N_init_48 (by decide) ?_
  refine ze_newa (N := 100) (x := .inl (fun _ => 0)) 1 rfl rfl (fun _ h9 => h9) zm_210 (fun _ => rfl) rfl (by decide) (by decide) (by decide) (by decide) cd_N_init_50 (fun _ => ?_)
  have h := h.grow 1 100 5 rfl (b := a + 6) (by omega)
  have hF := hF.up (a := a + 6) (e := .inl (g.2.2.2.1 1, 100, .inl (fun _ => 0))) (by omega) (by omega)
  refine ze_put zin_N zy_N zt_N zn_N (ci := 2) rfl 5 (by decide) zm_194 rfl (Or.inr ⟨rfl, rfl, rfl⟩) cd_N_init_52 h.1 rfl rfl (Nat.le_of_ble_eq_true rfl) (fs' := [.ref (a + 1), .ref (a + 2), .ref (a + 3), .ref (a + 4), .ref (a + 5), .ref (a + 6)]) rfl ?_
  have h := h.put (fs' := [.ref (a + 1), .ref (a + 2), .ref (a + 3), .ref (a + 4), .ref (a + 5), .ref (a + 6)])
  have hF := hF.up (a := a) (e := .inr (2, [.ref (a + 1), .ref (a + 2), .ref (a + 3), .ref (a + 4), .ref (a + 5), .ref (a + 6)])) (by omega) (by omega)
  exact ze_vret cd_N_init_55 rfl (by decide) (by decide) ⟨rfl, rfl, hF, h⟩
abbrev zr_S_init : Room := { frames := 1, cells := 2, slots := 600, locals := 24 }
set_option maxRecDepth 100000 in
set_option maxHeartbeats 4000000 in
theorem kc_S_init {g : zx_G} {σ : zx_M} {a : Nat} (h : zob g σ a 4 [.null, .null] [] (fun _ _ => 0)) : zM g cy_S_init cb_S_init 1 (Option.none : Option Jvm.ClassFile.FieldType) zr_S_init 2 600 [.ref a] σ (a + 1) (zPv (fun σ' sz' => sz' = a + 3 ∧ zfr σ σ' a 3 ∧ zs g σ' a (fun _ _ => 0))) := by
  have hF : zfr σ σ a 3 := zfr.rf
  refine zM_of (lv := [(0, .ref a)]) (ini := true) (by decide) rfl (by decide) (Nat.le_of_ble_eq_true rfl) rfl ?_
  refine ze_aload_n 0 cd_S_init_0 rfl rfl ?_
  refine ze_objInit zm_216 zm_74 zm_75 cd_S_init_1 (by decide) (Nat.le_of_ble_eq_true rfl) ?_
  refine ze_aload_n 0 cd_S_init_4 rfl rfl ?_
  refine ze_sipush (v := nI 300) cd_S_init_5 (by decide) ?_
  refine ze_newa (N := 300) (x := .inl (fun _ => 0)) 0 rfl rfl (fun _ h9 => h9) zm_163 (fun _ => rfl) rfl (by decide) (by decide) (by decide) (by decide) cd_S_init_8 (fun _ => ?_)
  have h := h.grow 0 300 0 rfl (b := a + 1) (by omega)
  have hF := hF.up (a := a + 1) (e := .inl (g.2.2.2.1 0, 300, .inl (fun _ => 0))) (by omega) (by omega)
  refine ze_put zin_S zy_S zt_S zn_S (ci := 4) rfl 0 (by decide) zm_217 rfl (Or.inr ⟨rfl, rfl, rfl⟩) cd_S_init_10 h.1 rfl rfl (Nat.le_of_ble_eq_true rfl) (fs' := [.ref (a + 1), .null]) rfl ?_
  have h := h.put (fs' := [.ref (a + 1), .null])
  have hF := hF.up (a := a) (e := .inr (4, [.ref (a + 1), .null])) (by omega) (by omega)
  refine ze_aload_n 0 cd_S_init_13 rfl rfl ?_
  refine ze_sipush (v := nI 300) cd_S_init_14 (by decide) ?_
  refine ze_newa (N := 300) (x := .inl (fun _ => 0)) 0 rfl rfl (fun _ h9 => h9) zm_163 (fun _ => rfl) rfl (by decide) (by decide) (by decide) (by decide) cd_S_init_17 (fun _ => ?_)
  have h := h.grow 0 300 1 rfl (b := a + 2) (by omega)
  have hF := hF.up (a := a + 2) (e := .inl (g.2.2.2.1 0, 300, .inl (fun _ => 0))) (by omega) (by omega)
  refine ze_put zin_S zy_S zt_S zn_S (ci := 4) rfl 1 (by decide) zm_218 rfl (Or.inr ⟨rfl, rfl, rfl⟩) cd_S_init_19 h.1 rfl rfl (Nat.le_of_ble_eq_true rfl) (fs' := [.ref (a + 1), .ref (a + 2)]) rfl ?_
  have h := h.put (fs' := [.ref (a + 1), .ref (a + 2)])
  have hF := hF.up (a := a) (e := .inr (4, [.ref (a + 1), .ref (a + 2)])) (by omega) (by omega)
  exact ze_vret cd_S_init_22 rfl (by decide) (by decide) ⟨rfl, rfl, hF, h⟩
abbrev zr_K_init : Room := { frames := 1, cells := 4, slots := 400, locals := 24 }
set_option maxRecDepth 100000 in
set_option maxHeartbeats 4000000 in
theorem kc_K_init {g : zx_G} {σ : zx_M} {a : Nat} (h : zob g σ a 0 [.int 0, .int 0, .null, .null, .null, .null] [] (fun _ _ => 0)) : zM g cy_K_init cb_K_init 1 (Option.none : Option Jvm.ClassFile.FieldType) zr_K_init 4 400 [.ref a] σ (a + 1) (zPv (fun σ' sz' => sz' = a + 5 ∧ zfr σ σ' a 5 ∧ zka g σ' a 0 (nI 0) (fun _ _ => 0))) := by
  have hF : zfr σ σ a 5 := zfr.rf
  refine zM_of (lv := [(0, .ref a)]) (ini := true) (by decide) rfl (by decide) (Nat.le_of_ble_eq_true rfl) rfl ?_
  refine ze_aload_n 0 cd_K_init_0 rfl rfl ?_
  refine ze_objInit zm_229 zm_74 zm_75 cd_K_init_1 (by decide) (Nat.le_of_ble_eq_true rfl) ?_
  refine ze_aload_n 0 cd_K_init_4 rfl rfl ?_
  refine ze_iconst (v := nI 0) cd_K_init_5 (by decide) ?_
  refine ze_put zin_K zy_K zt_K zn_K (ci := 0) rfl 0 (by decide) zm_230 rfl (Or.inl rfl) cd_K_init_6 h.1 rfl rfl (Nat.le_of_ble_eq_true rfl) (fs' := [.int (nI 0), .int 0, .null, .null, .null, .null]) rfl ?_
  have h := h.put (fs' := [.int (nI 0), .int 0, .null, .null, .null, .null])
  have hF := hF.up (a := a) (e := .inr (0, [.int (nI 0), .int 0, .null, .null, .null, .null])) (by omega) (by omega)
  refine ze_aload_n 0 cd_K_init_9 rfl rfl ?_
  refine ze_iconst (v := nI 0) cd_K_init_10 (by decide) ?_
  refine ze_put zin_K zy_K zt_K zn_K (ci := 0) rfl 1 (by decide) zm_232 rfl (Or.inl rfl) cd_K_init_11 h.1 (by decide) rfl (Nat.le_of_ble_eq_true rfl) (fs' := [.int (nI 0), .int (nI 0), .null, .null, .null, .null]) rfl ?_
  have h := h.put (fs' := [.int (nI 0), .int (nI 0), .null, .null, .null, .null])
  have hF := hF.up (a := a) (e := .inr (0, [.int (nI 0), .int (nI 0), .null, .null, .null, .null])) (by omega) (by omega)
  refine ze_aload_n 0 cd_K_init_14 rfl rfl ?_
  refine ze_bipush (v := nI 100) cd_K_init_15 (by decide) ?_
  refine ze_newa (N := 100) (x := .inl (fun _ => 0)) 0 rfl rfl (fun _ h9 => h9) zm_163 (fun _ => rfl) rfl (by decide) (by decide) (by decide) (by decide) cd_K_init_17 (fun _ => ?_)
  have h := h.grow 0 100 0 rfl (b := a + 1) (by omega)
  have hF := hF.up (a := a + 1) (e := .inl (g.2.2.2.1 0, 100, .inl (fun _ => 0))) (by omega) (by omega)
  refine ze_put zin_K zy_K zt_K zn_K (ci := 0) rfl 2 (by decide) zm_234 rfl (Or.inr ⟨rfl, rfl, rfl⟩) cd_K_init_19 h.1 rfl rfl (Nat.le_of_ble_eq_true rfl) (fs' := [.int (nI 0), .int (nI 0), .ref (a + 1), .null, .null, .null]) rfl ?_
  have h := h.put (fs' := [.int (nI 0), .int (nI 0), .ref (a + 1), .null, .null, .null])
  have hF := hF.up (a := a) (e := .inr (0, [.int (nI 0), .int (nI 0), .ref (a + 1), .null, .null, .null])) (by omega) (by omega)
  refine ze_aload_n 0 cd_K_init_22 rfl rfl ?_
  refine ze_bipush (v := nI 100) cd_K_init_23 (by decide) ?_
  refine ze_newa (N := 100) (x := .inl (fun _ => 0)) 0 rfl rfl (fun _ h9 => h9) zm_163 (fun _ => rfl) rfl (by decide) (by decide) (by decide) (by decide) cd_K_init_25 (fun _ => ?_)
  have h := h.grow 0 100 1 rfl (b := a + 2) (by omega)
  have hF := hF.up (a := a + 2) (e := .inl (g.2.2.2.1 0, 100, .inl (fun _ => 0))) (by omega) (by omega)
  refine ze_put zin_K zy_K zt_K zn_K (ci := 0) rfl 3 (by decide) zm_236 rfl (Or.inr ⟨rfl, rfl, rfl⟩) cd_K_init_27 h.1 rfl rfl (Nat.le_of_ble_eq_true rfl) (fs' := [.int (nI 0), .int (nI 0), .ref (a + 1), .ref (a + 2), .null, .null]) rfl ?_
  have h := h.put (fs' := [.int (nI 0), .int (nI 0), .ref (a + 1), .ref (a + 2), .null, .null])
  have hF := hF.up (a := a) (e := .inr (0, [.int (nI 0), .int (nI 0), .ref (a + 1), .ref (a + 2), .null, .null])) (by omega) (by omega)
  refine ze_aload_n 0 cd_K_init_30 rfl rfl ?_
  refine ze_bipush (v := nI 100) cd_K_init_31 (by decide) ?_
  refine ze_newa (N := 100) (x := .inl (fun _ => 0)) 0 rfl rfl (fun _ h9 => h9) zm_163 (fun _ => rfl) rfl (by decide) (by decide) (by decide) (by decide) cd_K_init_33 (fun _ => ?_)
  have h := h.grow 0 100 2 rfl (b := a + 3) (by omega)
  have hF := hF.up (a := a + 3) (e := .inl (g.2.2.2.1 0, 100, .inl (fun _ => 0))) (by omega) (by omega)
  refine ze_put zin_K zy_K zt_K zn_K (ci := 0) rfl 4 (by decide) zm_238 rfl (Or.inr ⟨rfl, rfl, rfl⟩) cd_K_init_35 h.1 rfl rfl (Nat.le_of_ble_eq_true rfl) (fs' := [.int (nI 0), .int (nI 0), .ref (a + 1), .ref (a + 2), .ref (a + 3), .null]) rfl ?_
  have h := h.put (fs' := [.int (nI 0), .int (nI 0), .ref (a + 1), .ref (a + 2), .ref (a + 3), .null])
  have hF := hF.up (a := a) (e := .inr (0, [.int (nI 0), .int (nI 0), .ref (a + 1), .ref (a + 2), .ref (a + 3), .null])) (by omega) (by omega)
  refine ze_aload_n 0 cd_K_init_38 rfl rfl ?_
  refine ze_bipush (v := nI 100) cd_K_init_39 (by decide) ?_
  refine ze_newa (N := 100) (x := .inl (fun _ => 0)) 1 rfl rfl (fun _ h9 => h9) zm_210 (fun _ => rfl) rfl (by decide) (by decide) (by decide) (by decide) cd_K_init_41 (fun _ => ?_)
  have h := h.grow 1 100 3 rfl (b := a + 4) (by omega)
  have hF := hF.up (a := a + 4) (e := .inl (g.2.2.2.1 1, 100, .inl (fun _ => 0))) (by omega) (by omega)
  refine ze_put zin_K zy_K zt_K zn_K (ci := 0) rfl 5 (by decide) zm_240 rfl (Or.inr ⟨rfl, rfl, rfl⟩) cd_K_init_43 h.1 rfl rfl (Nat.le_of_ble_eq_true rfl) (fs' := [.int (nI 0), .int (nI 0), .ref (a + 1), .ref (a + 2), .ref (a + 3), .ref (a + 4)]) rfl ?_
  have h := h.put (fs' := [.int (nI 0), .int (nI 0), .ref (a + 1), .ref (a + 2), .ref (a + 3), .ref (a + 4)])
  have hF := hF.up (a := a) (e := .inr (0, [.int (nI 0), .int (nI 0), .ref (a + 1), .ref (a + 2), .ref (a + 3), .ref (a + 4)])) (by omega) (by omega)
  exact ze_vret cd_K_init_46 rfl (by decide) (by decide) ⟨rfl, rfl, hF, h⟩
abbrev zr_P_init : Room := { frames := 1, cells := 1, slots := 5000, locals := 24 }
set_option maxRecDepth 100000 in
set_option maxHeartbeats 4000000 in
theorem kc_P_init {g : zx_G} {σ : zx_M} {a : Nat} (h : zob g σ a 3 [.null, .int 0] [] (fun _ _ => 0)) : zM g cy_P_init cb_P_init 1 (Option.none : Option Jvm.ClassFile.FieldType) zr_P_init 1 5000 [.ref a] σ (a + 1) (zPv (fun σ' sz' => sz' = a + 2 ∧ zfr σ σ' a 2 ∧ zob g σ' a 3 [.ref (a + 1), .int (nI 0)] [(0, 5000)] (fun _ _ => 0))) := by
  have hF : zfr σ σ a 2 := zfr.rf
  refine zM_of (lv := [(0, .ref a)]) (ini := true) (by decide) rfl (by decide) (Nat.le_of_ble_eq_true rfl) rfl ?_
  refine ze_aload_n 0 cd_P_init_0 rfl rfl ?_
  refine ze_objInit zm_260 zm_74 zm_75 cd_P_init_1 (by decide) (Nat.le_of_ble_eq_true rfl) ?_
  refine ze_aload_n 0 cd_P_init_4 rfl rfl ?_
  refine ze_sipush (v := nI 5000) cd_P_init_5 (by decide) ?_
  refine ze_newa (N := 5000) (x := .inl (fun _ => 0)) 0 rfl rfl (fun _ h9 => h9) zm_163 (fun _ => rfl) rfl (by decide) (by decide) (by decide) (by decide) cd_P_init_8 (fun _ => ?_)
  have h := h.grow 0 5000 0 rfl (b := a + 1) (by omega)
  have hF := hF.up (a := a + 1) (e := .inl (g.2.2.2.1 0, 5000, .inl (fun _ => 0))) (by omega) (by omega)
  refine ze_put zin_P zy_P zt_P zn_P (ci := 3) rfl 0 (by decide) zm_261 rfl (Or.inr ⟨rfl, rfl, rfl⟩) cd_P_init_10 h.1 rfl rfl (Nat.le_of_ble_eq_true rfl) (fs' := [.ref (a + 1), .int 0]) rfl ?_
  have h := h.put (fs' := [.ref (a + 1), .int 0])
  have hF := hF.up (a := a) (e := .inr (3, [.ref (a + 1), .int 0])) (by omega) (by omega)
  refine ze_aload_n 0 cd_P_init_13 rfl rfl ?_
  refine ze_iconst (v := nI 0) cd_P_init_14 (by decide) ?_
  refine ze_put zin_P zy_P zt_P zn_P (ci := 3) rfl 1 (by decide) zm_263 rfl (Or.inl rfl) cd_P_init_15 h.1 rfl rfl (Nat.le_of_ble_eq_true rfl) (fs' := [.ref (a + 1), .int (nI 0)]) rfl ?_
  have h := h.put (fs' := [.ref (a + 1), .int (nI 0)])
  have hF := hF.up (a := a) (e := .inr (3, [.ref (a + 1), .int (nI 0)])) (by omega) (by omega)
  exact ze_vret cd_P_init_18 rfl (by decide) (by decide) ⟨rfl, rfl, hF, h⟩
