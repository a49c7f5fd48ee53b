/-! THE REFERENCE -/
def zby (x : Int32) : Int32 := x.toInt8.toInt32
theorem zby_n {x : Int32} : vp_nar .byte (zby x) = zby x := pk_vb x
abbrev zkM : List (Nat × Nat) := [(4, 3000), (0, 300), (0, 300), (0, 300), (0, 300), (0, 300), (0, 300), (0, 300), (0, 300), (0, 300), (4, 4800), (0, 400), (0, 400), (0, 100), (0, 500), (0, 100), (1, 100), (0, 100), (0, 100), (1, 100), (4, 6000)]
abbrev zmo (g : zx_G) (σ : zx_M) (a : Nat) (th : Int32) (size : Nat) (wr : Int32) (ps lv ot ak : Nat) (fr : Int32) (pr : Nat) (M : Nat → Nat → Int32) : Prop := zob g σ a 7 [.int th, .int (nI size), .ref (a + 1), .int wr, .int (nI ps), .int (nI lv), .int (nI ot), .ref (a + 2), .ref (a + 3), .ref (a + 4), .ref (a + 5), .ref (a + 6), .ref (a + 7), .ref (a + 8), .ref (a + 9), .ref (a + 10), .ref (a + 11), .ref (a + 12), .ref (a + 13), .ref (a + 14), .ref (a + 15), .ref (a + 16), .ref (a + 17), .int (nI ak), .ref (a + 18), .ref (a + 19), .ref (a + 20), .int fr, .int (nI pr), .ref (a + 21)] zkM M
abbrev zr_M_init : Room := { frames := 1, cells := 21, slots := 18400, locals := 24 }
set_option maxRecDepth 100000 in
set_option maxHeartbeats 8000000 in
theorem kc_M_init {g : zx_G} {σ : zx_M} {a : Nat} (h : zob g σ a 7 [.int 0, .int 0, .null, .int 0, .int 0, .int 0, .int 0, .null, .null, .null, .null, .null, .null, .null, .null, .null, .null, .null, .null, .null, .null, .null, .null, .int 0, .null, .null, .null, .int 0, .int 0, .null] [] (fun _ _ => 0)) : zM g cy_M_init cb_M_init 1 (Option.none : Option Jvm.ClassFile.FieldType) zr_M_init 21 18400 [.ref a] σ (a + 1) (zPv (fun σ' sz' => sz' = a + 22 ∧ zfr σ σ' a 22 ∧ zmo g σ' a 0 0 (-1) 0 0 0 0 0 0 (fun _ _ => 0))) := by
  have hF : zfr σ σ a 22 := zfr.rf
  refine zM_of (lv := [(0, .ref a)]) (ini := true) (by decide) rfl (by decide) (Nat.le_of_ble_eq_true rfl) rfl ?_
  refine ze_aload_n 0 cd_M_init_0 rfl rfl ?_
  refine ze_objInit zm_721 zm_74 zm_75 cd_M_init_1 (by decide) (Nat.le_of_ble_eq_true rfl) ?_
  refine ze_aload_n 0 cd_M_init_4 rfl rfl ?_
  refine ze_sipush (v := nI 3000) cd_M_init_5 (by decide) ?_
  refine ze_newa (N := 3000) (x := .inl (fun _ => 0)) 4 rfl rfl (fun _ h9 => h9) zm_675 (fun _ => rfl) rfl (by decide) (by decide) (by decide) (by decide) cd_M_init_8 (fun _ => ?_)
  have h := h.grow 4 3000 0 rfl (b := a + 1) (by omega)
  have hF := hF.up (a := a + 1) (e := .inl (g.2.2.2.1 4, 3000, .inl (fun _ => 0))) (by omega) (by omega)
  refine ze_put zin_M zy_M zt_M zn_M (ci := 7) rfl 2 (by decide) zm_724 rfl (Or.inr ⟨rfl, rfl, rfl⟩) cd_M_init_10 h.1 rfl rfl (Nat.le_of_ble_eq_true rfl) (fs' := [.int 0, .int 0, .ref (a + 1), .int 0, .int 0, .int 0, .int 0, .null, .null, .null, .null, .null, .null, .null, .null, .null, .null, .null, .null, .null, .null, .null, .null, .int 0, .null, .null, .null, .int 0, .int 0, .null]) rfl ?_
  have h := h.put (fs' := [.int 0, .int 0, .ref (a + 1), .int 0, .int 0, .int 0, .int 0, .null, .null, .null, .null, .null, .null, .null, .null, .null, .null, .null, .null, .null, .null, .null, .null, .int 0, .null, .null, .null, .int 0, .int 0, .null])
  have hF := hF.up (a := a) (e := .inr (7, [.int 0, .int 0, .ref (a + 1), .int 0, .int 0, .int 0, .int 0, .null, .null, .null, .null, .null, .null, .null, .null, .null, .null, .null, .null, .null, .null, .null, .null, .int 0, .null, .null, .null, .int 0, .int 0, .null])) (by omega) (by omega)
  refine ze_aload_n 0 cd_M_init_13 rfl rfl ?_
  refine ze_iconst (v := (-1 : Int32)) cd_M_init_14 (by decide) ?_
  refine ze_put zin_M zy_M zt_M zn_M (ci := 7) rfl 3 (by decide) zm_725 rfl (Or.inl rfl) cd_M_init_15 h.1 rfl rfl (Nat.le_of_ble_eq_true rfl) (fs' := [.int 0, .int 0, .ref (a + 1), .int ((-1 : Int32)), .int 0, .int 0, .int 0, .null, .null, .null, .null, .null, .null, .null, .null, .null, .null, .null, .null, .null, .null, .null, .null, .int 0, .null, .null, .null, .int 0, .int 0, .null]) rfl ?_
  have h := h.put (fs' := [.int 0, .int 0, .ref (a + 1), .int ((-1 : Int32)), .int 0, .int 0, .int 0, .null, .null, .null, .null, .null, .null, .null, .null, .null, .null, .null, .null, .null, .null, .null, .null, .int 0, .null, .null, .null, .int 0, .int 0, .null])
  have hF := hF.up (a := a) (e := .inr (7, [.int 0, .int 0, .ref (a + 1), .int ((-1 : Int32)), .int 0, .int 0, .int 0, .null, .null, .null, .null, .null, .null, .null, .null, .null, .null, .null, .null, .null, .null, .null, .null, .int 0, .null, .null, .null, .int 0, .int 0, .null])) (by omega) (by omega)
  refine ze_aload_n 0 cd_M_init_18 rfl rfl ?_
  refine ze_sipush (v := nI 300) cd_M_init_19 (by decide) ?_
  refine ze_newa (N := 300) (x := .inl (fun _ => 0)) 0 rfl rfl (fun _ h9 => h9) zm_163 (fun _ => rfl) rfl (by decide) (by decide) (by decide) (by decide) cd_M_init_22 (fun _ => ?_)
  have h := h.grow 0 300 1 rfl (b := a + 2) (by omega)
  have hF := hF.up (a := a + 2) (e := .inl (g.2.2.2.1 0, 300, .inl (fun _ => 0))) (by omega) (by omega)
  refine ze_put zin_M zy_M zt_M zn_M (ci := 7) rfl 7 (by decide) zm_729 rfl (Or.inr ⟨rfl, rfl, rfl⟩) cd_M_init_24 h.1 rfl rfl (Nat.le_of_ble_eq_true rfl) (fs' := [.int 0, .int 0, .ref (a + 1), .int ((-1 : Int32)), .int 0, .int 0, .int 0, .ref (a + 2), .null, .null, .null, .null, .null, .null, .null, .null, .null, .null, .null, .null, .null, .null, .null, .int 0, .null, .null, .null, .int 0, .int 0, .null]) rfl ?_
  have h := h.put (fs' := [.int 0, .int 0, .ref (a + 1), .int ((-1 : Int32)), .int 0, .int 0, .int 0, .ref (a + 2), .null, .null, .null, .null, .null, .null, .null, .null, .null, .null, .null, .null, .null, .null, .null, .int 0, .null, .null, .null, .int 0, .int 0, .null])
  have hF := hF.up (a := a) (e := .inr (7, [.int 0, .int 0, .ref (a + 1), .int ((-1 : Int32)), .int 0, .int 0, .int 0, .ref (a + 2), .null, .null, .null, .null, .null, .null, .null, .null, .null, .null, .null, .null, .null, .null, .null, .int 0, .null, .null, .null, .int 0, .int 0, .null])) (by omega) (by omega)
  refine ze_aload_n 0 cd_M_init_27 rfl rfl ?_
  refine ze_sipush (v := nI 300) cd_M_init_28 (by decide) ?_
  refine ze_newa (N := 300) (x := .inl (fun _ => 0)) 0 rfl rfl (fun _ h9 => h9) zm_163 (fun _ => rfl) rfl (by decide) (by decide) (by decide) (by decide) cd_M_init_31 (fun _ => ?_)
  have h := h.grow 0 300 2 rfl (b := a + 3) (by omega)
  have hF := hF.up (a := a + 3) (e := .inl (g.2.2.2.1 0, 300, .inl (fun _ => 0))) (by omega) (by omega)
  refine ze_put zin_M zy_M zt_M zn_M (ci := 7) rfl 8 (by decide) zm_730 rfl (Or.inr ⟨rfl, rfl, rfl⟩) cd_M_init_33 h.1 rfl rfl (Nat.le_of_ble_eq_true rfl) (fs' := [.int 0, .int 0, .ref (a + 1), .int ((-1 : Int32)), .int 0, .int 0, .int 0, .ref (a + 2), .ref (a + 3), .null, .null, .null, .null, .null, .null, .null, .null, .null, .null, .null, .null, .null, .null, .int 0, .null, .null, .null, .int 0, .int 0, .null]) rfl ?_
  have h := h.put (fs' := [.int 0, .int 0, .ref (a + 1), .int ((-1 : Int32)), .int 0, .int 0, .int 0, .ref (a + 2), .ref (a + 3), .null, .null, .null, .null, .null, .null, .null, .null, .null, .null, .null, .null, .null, .null, .int 0, .null, .null, .null, .int 0, .int 0, .null])
  have hF := hF.up (a := a) (e := .inr (7, [.int 0, .int 0, .ref (a + 1), .int ((-1 : Int32)), .int 0, .int 0, .int 0, .ref (a + 2), .ref (a + 3), .null, .null, .null, .null, .null, .null, .null, .null, .null, .null, .null, .null, .null, .null, .int 0, .null, .null, .null, .int 0, .int 0, .null])) (by omega) (by omega)
  refine ze_aload_n 0 cd_M_init_36 rfl rfl ?_
  refine ze_sipush (v := nI 300) cd_M_init_37 (by decide) ?_
  refine ze_newa (N := 300) (x := .inl (fun _ => 0)) 0 rfl rfl (fun _ h9 => h9) zm_163 (fun _ => rfl) rfl (by decide) (by decide) (by decide) (by decide) cd_M_init_40 (fun _ => ?_)
  have h := h.grow 0 300 3 rfl (b := a + 4) (by omega)
  have hF := hF.up (a := a + 4) (e := .inl (g.2.2.2.1 0, 300, .inl (fun _ => 0))) (by omega) (by omega)
  refine ze_put zin_M zy_M zt_M zn_M (ci := 7) rfl 9 (by decide) zm_731 rfl (Or.inr ⟨rfl, rfl, rfl⟩) cd_M_init_42 h.1 rfl rfl (Nat.le_of_ble_eq_true rfl) (fs' := [.int 0, .int 0, .ref (a + 1), .int ((-1 : Int32)), .int 0, .int 0, .int 0, .ref (a + 2), .ref (a + 3), .ref (a + 4), .null, .null, .null, .null, .null, .null, .null, .null, .null, .null, .null, .null, .null, .int 0, .null, .null, .null, .int 0, .int 0, .null]) rfl ?_
  have h := h.put (fs' := [.int 0, .int 0, .ref (a + 1), .int ((-1 : Int32)), .int 0, .int 0, .int 0, .ref (a + 2), .ref (a + 3), .ref (a + 4), .null, .null, .null, .null, .null, .null, .null, .null, .null, .null, .null, .null, .null, .int 0, .null, .null, .null, .int 0, .int 0, .null])
  have hF := hF.up (a := a) (e := .inr (7, [.int 0, .int 0, .ref (a + 1), .int ((-1 : Int32)), .int 0, .int 0, .int 0, .ref (a + 2), .ref (a + 3), .ref (a + 4), .null, .null, .null, .null, .null, .null, .null, .null, .null, .null, .null, .null, .null, .int 0, .null, .null, .null, .int 0, .int 0, .null])) (by omega) (by omega)
  refine ze_aload_n 0 cd_M_init_45 rfl rfl ?_
  refine ze_sipush (v := nI 300) cd_M_init_46 (by decide) ?_
  refine ze_newa (N := 300) (x := .inl (fun _ => 0)) 0 rfl rfl (fun _ h9 => h9) zm_163 (fun _ => rfl) rfl (by decide) (by decide) (by decide) (by decide) cd_M_init_49 (fun _ => ?_)
  have h := h.grow 0 300 4 rfl (b := a + 5) (by omega)
  have hF := hF.up (a := a + 5) (e := .inl (g.2.2.2.1 0, 300, .inl (fun _ => 0))) (by omega) (by omega)
  refine ze_put zin_M zy_M zt_M zn_M (ci := 7) rfl 10 (by decide) zm_732 rfl (Or.inr ⟨rfl, rfl, rfl⟩) cd_M_init_51 h.1 rfl rfl (Nat.le_of_ble_eq_true rfl) (fs' := [.int 0, .int 0, .ref (a + 1), .int ((-1 : Int32)), .int 0, .int 0, .int 0, .ref (a + 2), .ref (a + 3), .ref (a + 4), .ref (a + 5), .null, .null, .null, .null, .null, .null, .null, .null, .null, .null, .null, .null, .int 0, .null, .null, .null, .int 0, .int 0, .null]) rfl ?_
  have h := h.put (fs' := [.int 0, .int 0, .ref (a + 1), .int ((-1 : Int32)), .int 0, .int 0, .int 0, .ref (a + 2), .ref (a + 3), .ref (a + 4), .ref (a + 5), .null, .null, .null, .null, .null, .null, .null, .null, .null, .null, .null, .null, .int 0, .null, .null, .null, .int 0, .int 0, .null])
  have hF := hF.up (a := a) (e := .inr (7, [.int 0, .int 0, .ref (a + 1), .int ((-1 : Int32)), .int 0, .int 0, .int 0, .ref (a + 2), .ref (a + 3), .ref (a + 4), .ref (a + 5), .null, .null, .null, .null, .null, .null, .null, .null, .null, .null, .null, .null, .int 0, .null, .null, .null, .int 0, .int 0, .null])) (by omega) (by omega)
  refine ze_aload_n 0 cd_M_init_54 rfl rfl ?_
  refine ze_sipush (v := nI 300) cd_M_init_55 (by decide) ?_
  refine ze_newa (N := 300) (x := .inl (fun _ => 0)) 0 rfl rfl (fun _ h9 => h9) zm_163 (fun _ => rfl) rfl (by decide) (by decide) (by decide) (by decide) cd_M_init_58 (fun _ => ?_)
  have h := h.grow 0 300 5 rfl (b := a + 6) (by omega)
  have hF := hF.up (a := a + 6) (e := .inl (g.2.2.2.1 0, 300, .inl (fun _ => 0))) (by omega) (by omega)
  refine ze_put zin_M zy_M zt_M zn_M (ci := 7) rfl 11 (by decide) zm_733 rfl (Or.inr ⟨rfl, rfl, rfl⟩) cd_M_init_60 h.1 rfl rfl (Nat.le_of_ble_eq_true rfl) (fs' := [.int 0, .int 0, .ref (a + 1), .int ((-1 : Int32)), .int 0, .int 0, .int 0, .ref (a + 2), .ref (a + 3), .ref (a + 4), .ref (a + 5), .ref (a + 6), .null, .null, .null, .null, .null, .null, .null, .null, .null, .null, .null, .int 0, .null, .null, .null, .int 0, .int 0, .null]) rfl ?_
  have h := h.put (fs' := [.int 0, .int 0, .ref (a + 1), .int ((-1 : Int32)), .int 0, .int 0, .int 0, .ref (a + 2), .ref (a + 3), .ref (a + 4), .ref (a + 5), .ref (a + 6), .null, .null, .null, .null, .null, .null, .null, .null, .null, .null, .null, .int 0, .null, .null, .null, .int 0, .int 0, .null])
  have hF := hF.up (a := a) (e := .inr (7, [.int 0, .int 0, .ref (a + 1), .int ((-1 : Int32)), .int 0, .int 0, .int 0, .ref (a + 2), .ref (a + 3), .ref (a + 4), .ref (a + 5), .ref (a + 6), .null, .null, .null, .null, .null, .null, .null, .null, .null, .null, .null, .int 0, .null, .null, .null, .int 0, .int 0, .null])) (by omega) (by omega)
  refine ze_aload_n 0 cd_M_init_63 rfl rfl ?_
  refine ze_sipush (v := nI 300) cd_M_init_64 (by decide) ?_
  refine ze_newa (N := 300) (x := .inl (fun _ => 0)) 0 rfl rfl (fun _ h9 => h9) zm_163 (fun _ => rfl) rfl (by decide) (by decide) (by decide) (by decide) cd_M_init_67 (fun _ => ?_)
  have h := h.grow 0 300 6 rfl (b := a + 7) (by omega)
  have hF := hF.up (a := a + 7) (e := .inl (g.2.2.2.1 0, 300, .inl (fun _ => 0))) (by omega) (by omega)
  refine ze_put zin_M zy_M zt_M zn_M (ci := 7) rfl 12 (by decide) zm_734 rfl (Or.inr ⟨rfl, rfl, rfl⟩) cd_M_init_69 h.1 rfl rfl (Nat.le_of_ble_eq_true rfl) (fs' := [.int 0, .int 0, .ref (a + 1), .int ((-1 : Int32)), .int 0, .int 0, .int 0, .ref (a + 2), .ref (a + 3), .ref (a + 4), .ref (a + 5), .ref (a + 6), .ref (a + 7), .null, .null, .null, .null, .null, .null, .null, .null, .null, .null, .int 0, .null, .null, .null, .int 0, .int 0, .null]) rfl ?_
  have h := h.put (fs' := [.int 0, .int 0, .ref (a + 1), .int ((-1 : Int32)), .int 0, .int 0, .int 0, .ref (a + 2), .ref (a + 3), .ref (a + 4), .ref (a + 5), .ref (a + 6), .ref (a + 7), .null, .null, .null, .null, .null, .null, .null, .null, .null, .null, .int 0, .null, .null, .null, .int 0, .int 0, .null])
  have hF := hF.up (a := a) (e := .inr (7, [.int 0, .int 0, .ref (a + 1), .int ((-1 : Int32)), .int 0, .int 0, .int 0, .ref (a + 2), .ref (a + 3), .ref (a + 4), .ref (a + 5), .ref (a + 6), .ref (a + 7), .null, .null, .null, .null, .null, .null, .null, .null, .null, .null, .int 0, .null, .null, .null, .int 0, .int 0, .null])) (by omega) (by omega)
  refine ze_aload_n 0 cd_M_init_72 rfl rfl ?_
  refine ze_sipush (v := nI 300) cd_M_init_73 (by decide) ?_
  refine ze_newa (N := 300) (x := .inl (fun _ => 0)) 0 rfl rfl (fun _ h9 => h9) zm_163 (fun _ => rfl) rfl (by decide) (by decide) (by decide) (by decide) cd_M_init_76 (fun _ => ?_)
  have h := h.grow 0 300 7 rfl (b := a + 8) (by omega)
  have hF := hF.up (a := a + 8) (e := .inl (g.2.2.2.1 0, 300, .inl (fun _ => 0))) (by omega) (by omega)
  refine ze_put zin_M zy_M zt_M zn_M (ci := 7) rfl 13 (by decide) zm_735 rfl (Or.inr ⟨rfl, rfl, rfl⟩) cd_M_init_78 h.1 rfl rfl (Nat.le_of_ble_eq_true rfl) (fs' := [.int 0, .int 0, .ref (a + 1), .int ((-1 : Int32)), .int 0, .int 0, .int 0, .ref (a + 2), .ref (a + 3), .ref (a + 4), .ref (a + 5), .ref (a + 6), .ref (a + 7), .ref (a + 8), .null, .null, .null, .null, .null, .null, .null, .null, .null, .int 0, .null, .null, .null, .int 0, .int 0, .null]) rfl ?_
  have h := h.put (fs' := [.int 0, .int 0, .ref (a + 1), .int ((-1 : Int32)), .int 0, .int 0, .int 0, .ref (a + 2), .ref (a + 3), .ref (a + 4), .ref (a + 5), .ref (a + 6), .ref (a + 7), .ref (a + 8), .null, .null, .null, .null, .null, .null, .null, .null, .null, .int 0, .null, .null, .null, .int 0, .int 0, .null])
  have hF := hF.up (a := a) (e := .inr (7, [.int 0, .int 0, .ref (a + 1), .int ((-1 : Int32)), .int 0, .int 0, .int 0, .ref (a + 2), .ref (a + 3), .ref (a + 4), .ref (a + 5), .ref (a + 6), .ref (a + 7), .ref (a + 8), .null, .null, .null, .null, .null, .null, .null, .null, .null, .int 0, .null, .null, .null, .int 0, .int 0, .null])) (by omega) (by omega)
  refine ze_aload_n 0 cd_M_init_81 rfl rfl ?_
  refine ze_sipush (v := nI 300) cd_M_init_82 (by decide) ?_
  refine ze_newa (N := 300) (x := .inl (fun _ => 0)) 0 rfl rfl (fun _ h9 => h9) zm_163 (fun _ => rfl) rfl (by decide) (by decide) (by decide) (by decide) cd_M_init_85 (fun _ => ?_)
  have h := h.grow 0 300 8 rfl (b := a + 9) (by omega)
  have hF := hF.up (a := a + 9) (e := .inl (g.2.2.2.1 0, 300, .inl (fun _ => 0))) (by omega) (by omega)
  refine ze_put zin_M zy_M zt_M zn_M (ci := 7) rfl 14 (by decide) zm_736 rfl (Or.inr ⟨rfl, rfl, rfl⟩) cd_M_init_87 h.1 rfl rfl (Nat.le_of_ble_eq_true rfl) (fs' := [.int 0, .int 0, .ref (a + 1), .int ((-1 : Int32)), .int 0, .int 0, .int 0, .ref (a + 2), .ref (a + 3), .ref (a + 4), .ref (a + 5), .ref (a + 6), .ref (a + 7), .ref (a + 8), .ref (a + 9), .null, .null, .null, .null, .null, .null, .null, .null, .int 0, .null, .null, .null, .int 0, .int 0, .null]) rfl ?_
  have h := h.put (fs' := [.int 0, .int 0, .ref (a + 1), .int ((-1 : Int32)), .int 0, .int 0, .int 0, .ref (a + 2), .ref (a + 3), .ref (a + 4), .ref (a + 5), .ref (a + 6), .ref (a + 7), .ref (a + 8), .ref (a + 9), .null, .null, .null, .null, .null, .null, .null, .null, .int 0, .null, .null, .null, .int 0, .int 0, .null])
  have hF := hF.up (a := a) (e := .inr (7, [.int 0, .int 0, .ref (a + 1), .int ((-1 : Int32)), .int 0, .int 0, .int 0, .ref (a + 2), .ref (a + 3), .ref (a + 4), .ref (a + 5), .ref (a + 6), .ref (a + 7), .ref (a + 8), .ref (a + 9), .null, .null, .null, .null, .null, .null, .null, .null, .int 0, .null, .null, .null, .int 0, .int 0, .null])) (by omega) (by omega)
  refine ze_aload_n 0 cd_M_init_90 rfl rfl ?_
  refine ze_sipush (v := nI 300) cd_M_init_91 (by decide) ?_
  refine ze_newa (N := 300) (x := .inl (fun _ => 0)) 0 rfl rfl (fun _ h9 => h9) zm_163 (fun _ => rfl) rfl (by decide) (by decide) (by decide) (by decide) cd_M_init_94 (fun _ => ?_)
  have h := h.grow 0 300 9 rfl (b := a + 10) (by omega)
  have hF := hF.up (a := a + 10) (e := .inl (g.2.2.2.1 0, 300, .inl (fun _ => 0))) (by omega) (by omega)
  refine ze_put zin_M zy_M zt_M zn_M (ci := 7) rfl 15 (by decide) zm_737 rfl (Or.inr ⟨rfl, rfl, rfl⟩) cd_M_init_96 h.1 rfl rfl (Nat.le_of_ble_eq_true rfl) (fs' := [.int 0, .int 0, .ref (a + 1), .int ((-1 : Int32)), .int 0, .int 0, .int 0, .ref (a + 2), .ref (a + 3), .ref (a + 4), .ref (a + 5), .ref (a + 6), .ref (a + 7), .ref (a + 8), .ref (a + 9), .ref (a + 10), .null, .null, .null, .null, .null, .null, .null, .int 0, .null, .null, .null, .int 0, .int 0, .null]) rfl ?_
  have h := h.put (fs' := [.int 0, .int 0, .ref (a + 1), .int ((-1 : Int32)), .int 0, .int 0, .int 0, .ref (a + 2), .ref (a + 3), .ref (a + 4), .ref (a + 5), .ref (a + 6), .ref (a + 7), .ref (a + 8), .ref (a + 9), .ref (a + 10), .null, .null, .null, .null, .null, .null, .null, .int 0, .null, .null, .null, .int 0, .int 0, .null])
  have hF := hF.up (a := a) (e := .inr (7, [.int 0, .int 0, .ref (a + 1), .int ((-1 : Int32)), .int 0, .int 0, .int 0, .ref (a + 2), .ref (a + 3), .ref (a + 4), .ref (a + 5), .ref (a + 6), .ref (a + 7), .ref (a + 8), .ref (a + 9), .ref (a + 10), .null, .null, .null, .null, .null, .null, .null, .int 0, .null, .null, .null, .int 0, .int 0, .null])) (by omega) (by omega)
  refine ze_aload_n 0 cd_M_init_99 rfl rfl ?_
  refine ze_sipush (v := nI 4800) cd_M_init_100 (by decide) ?_
  refine ze_newa (N := 4800) (x := .inl (fun _ => 0)) 4 rfl rfl (fun _ h9 => h9) zm_675 (fun _ => rfl) rfl (by decide) (by decide) (by decide) (by decide) cd_M_init_103 (fun _ => ?_)
  have h := h.grow 4 4800 10 rfl (b := a + 11) (by omega)
  have hF := hF.up (a := a + 11) (e := .inl (g.2.2.2.1 4, 4800, .inl (fun _ => 0))) (by omega) (by omega)
  refine ze_put zin_M zy_M zt_M zn_M (ci := 7) rfl 16 (by decide) zm_738 rfl (Or.inr ⟨rfl, rfl, rfl⟩) cd_M_init_105 h.1 rfl rfl (Nat.le_of_ble_eq_true rfl) (fs' := [.int 0, .int 0, .ref (a + 1), .int ((-1 : Int32)), .int 0, .int 0, .int 0, .ref (a + 2), .ref (a + 3), .ref (a + 4), .ref (a + 5), .ref (a + 6), .ref (a + 7), .ref (a + 8), .ref (a + 9), .ref (a + 10), .ref (a + 11), .null, .null, .null, .null, .null, .null, .int 0, .null, .null, .null, .int 0, .int 0, .null]) rfl ?_
  have h := h.put (fs' := [.int 0, .int 0, .ref (a + 1), .int ((-1 : Int32)), .int 0, .int 0, .int 0, .ref (a + 2), .ref (a + 3), .ref (a + 4), .ref (a + 5), .ref (a + 6), .ref (a + 7), .ref (a + 8), .ref (a + 9), .ref (a + 10), .ref (a + 11), .null, .null, .null, .null, .null, .null, .int 0, .null, .null, .null, .int 0, .int 0, .null])
  have hF := hF.up (a := a) (e := .inr (7, [.int 0, .int 0, .ref (a + 1), .int ((-1 : Int32)), .int 0, .int 0, .int 0, .ref (a + 2), .ref (a + 3), .ref (a + 4), .ref (a + 5), .ref (a + 6), .ref (a + 7), .ref (a + 8), .ref (a + 9), .ref (a + 10), .ref (a + 11), .null, .null, .null, .null, .null, .null, .int 0, .null, .null, .null, .int 0, .int 0, .null])) (by omega) (by omega)
  refine ze_aload_n 0 cd_M_init_108 rfl rfl ?_
  refine ze_sipush (v := nI 400) cd_M_init_109 (by decide) ?_
  refine ze_newa (N := 400) (x := .inl (fun _ => 0)) 0 rfl rfl (fun _ h9 => h9) zm_163 (fun _ => rfl) rfl (by decide) (by decide) (by decide) (by decide) cd_M_init_112 (fun _ => ?_)
  have h := h.grow 0 400 11 rfl (b := a + 12) (by omega)
  have hF := hF.up (a := a + 12) (e := .inl (g.2.2.2.1 0, 400, .inl (fun _ => 0))) (by omega) (by omega)
  refine ze_put zin_M zy_M zt_M zn_M (ci := 7) rfl 17 (by decide) zm_739 rfl (Or.inr ⟨rfl, rfl, rfl⟩) cd_M_init_114 h.1 rfl rfl (Nat.le_of_ble_eq_true rfl) (fs' := [.int 0, .int 0, .ref (a + 1), .int ((-1 : Int32)), .int 0, .int 0, .int 0, .ref (a + 2), .ref (a + 3), .ref (a + 4), .ref (a + 5), .ref (a + 6), .ref (a + 7), .ref (a + 8), .ref (a + 9), .ref (a + 10), .ref (a + 11), .ref (a + 12), .null, .null, .null, .null, .null, .int 0, .null, .null, .null, .int 0, .int 0, .null]) rfl ?_
  have h := h.put (fs' := [.int 0, .int 0, .ref (a + 1), .int ((-1 : Int32)), .int 0, .int 0, .int 0, .ref (a + 2), .ref (a + 3), .ref (a + 4), .ref (a + 5), .ref (a + 6), .ref (a + 7), .ref (a + 8), .ref (a + 9), .ref (a + 10), .ref (a + 11), .ref (a + 12), .null, .null, .null, .null, .null, .int 0, .null, .null, .null, .int 0, .int 0, .null])
  have hF := hF.up (a := a) (e := .inr (7, [.int 0, .int 0, .ref (a + 1), .int ((-1 : Int32)), .int 0, .int 0, .int 0, .ref (a + 2), .ref (a + 3), .ref (a + 4), .ref (a + 5), .ref (a + 6), .ref (a + 7), .ref (a + 8), .ref (a + 9), .ref (a + 10), .ref (a + 11), .ref (a + 12), .null, .null, .null, .null, .null, .int 0, .null, .null, .null, .int 0, .int 0, .null])) (by omega) (by omega)
  refine ze_aload_n 0 cd_M_init_117 rfl rfl ?_
  refine ze_sipush (v := nI 400) cd_M_init_118 (by decide) ?_
  refine ze_newa (N := 400) (x := .inl (fun _ => 0)) 0 rfl rfl (fun _ h9 => h9) zm_163 (fun _ => rfl) rfl (by decide) (by decide) (by decide) (by decide) cd_M_init_121 (fun _ => ?_)
  have h := h.grow 0 400 12 rfl (b := a + 13) (by omega)
  have hF := hF.up (a := a + 13) (e := .inl (g.2.2.2.1 0, 400, .inl (fun _ => 0))) (by omega) (by omega)
  refine ze_put zin_M zy_M zt_M zn_M (ci := 7) rfl 18 (by decide) zm_740 rfl (Or.inr ⟨rfl, rfl, rfl⟩) cd_M_init_123 h.1 rfl rfl (Nat.le_of_ble_eq_true rfl) (fs' := [.int 0, .int 0, .ref (a + 1), .int ((-1 : Int32)), .int 0, .int 0, .int 0, .ref (a + 2), .ref (a + 3), .ref (a + 4), .ref (a + 5), .ref (a + 6), .ref (a + 7), .ref (a + 8), .ref (a + 9), .ref (a + 10), .ref (a + 11), .ref (a + 12), .ref (a + 13), .null, .null, .null, .null, .int 0, .null, .null, .null, .int 0, .int 0, .null]) rfl ?_
  have h := h.put (fs' := [.int 0, .int 0, .ref (a + 1), .int ((-1 : Int32)), .int 0, .int 0, .int 0, .ref (a + 2), .ref (a + 3), .ref (a + 4), .ref (a + 5), .ref (a + 6), .ref (a + 7), .ref (a + 8), .ref (a + 9), .ref (a + 10), .ref (a + 11), .ref (a + 12), .ref (a + 13), .null, .null, .null, .null, .int 0, .null, .null, .null, .int 0, .int 0, .null])
  have hF := hF.up (a := a) (e := .inr (7, [.int 0, .int 0, .ref (a + 1), .int ((-1 : Int32)), .int 0, .int 0, .int 0, .ref (a + 2), .ref (a + 3), .ref (a + 4), .ref (a + 5), .ref (a + 6), .ref (a + 7), .ref (a + 8), .ref (a + 9), .ref (a + 10), .ref (a + 11), .ref (a + 12), .ref (a + 13), .null, .null, .null, .null, .int 0, .null, .null, .null, .int 0, .int 0, .null])) (by omega) (by omega)
  refine ze_aload_n 0 cd_M_init_126 rfl rfl ?_
  refine ze_bipush (v := nI 100) cd_M_init_127 (by decide) ?_
  refine ze_newa (N := 100) (x := .inl (fun _ => 0)) 0 rfl rfl (fun _ h9 => h9) zm_163 (fun _ => rfl) rfl (by decide) (by decide) (by decide) (by decide) cd_M_init_129 (fun _ => ?_)
  have h := h.grow 0 100 13 rfl (b := a + 14) (by omega)
  have hF := hF.up (a := a + 14) (e := .inl (g.2.2.2.1 0, 100, .inl (fun _ => 0))) (by omega) (by omega)
  refine ze_put zin_M zy_M zt_M zn_M (ci := 7) rfl 19 (by decide) zm_741 rfl (Or.inr ⟨rfl, rfl, rfl⟩) cd_M_init_131 h.1 rfl rfl (Nat.le_of_ble_eq_true rfl) (fs' := [.int 0, .int 0, .ref (a + 1), .int ((-1 : Int32)), .int 0, .int 0, .int 0, .ref (a + 2), .ref (a + 3), .ref (a + 4), .ref (a + 5), .ref (a + 6), .ref (a + 7), .ref (a + 8), .ref (a + 9), .ref (a + 10), .ref (a + 11), .ref (a + 12), .ref (a + 13), .ref (a + 14), .null, .null, .null, .int 0, .null, .null, .null, .int 0, .int 0, .null]) rfl ?_
  have h := h.put (fs' := [.int 0, .int 0, .ref (a + 1), .int ((-1 : Int32)), .int 0, .int 0, .int 0, .ref (a + 2), .ref (a + 3), .ref (a + 4), .ref (a + 5), .ref (a + 6), .ref (a + 7), .ref (a + 8), .ref (a + 9), .ref (a + 10), .ref (a + 11), .ref (a + 12), .ref (a + 13), .ref (a + 14), .null, .null, .null, .int 0, .null, .null, .null, .int 0, .int 0, .null])
  have hF := hF.up (a := a) (e := .inr (7, [.int 0, .int 0, .ref (a + 1), .int ((-1 : Int32)), .int 0, .int 0, .int 0, .ref (a + 2), .ref (a + 3), .ref (a + 4), .ref (a + 5), .ref (a + 6), .ref (a + 7), .ref (a + 8), .ref (a + 9), .ref (a + 10), .ref (a + 11), .ref (a + 12), .ref (a + 13), .ref (a + 14), .null, .null, .null, .int 0, .null, .null, .null, .int 0, .int 0, .null])) (by omega) (by omega)
  refine ze_aload_n 0 cd_M_init_134 rfl rfl ?_
  refine ze_sipush (v := nI 500) cd_M_init_135 (by decide) ?_
  refine ze_newa (N := 500) (x := .inl (fun _ => 0)) 0 rfl rfl (fun _ h9 => h9) zm_163 (fun _ => rfl) rfl (by decide) (by decide) (by decide) (by decide) cd_M_init_138 (fun _ => ?_)
  have h := h.grow 0 500 14 rfl (b := a + 15) (by omega)
  have hF := hF.up (a := a + 15) (e := .inl (g.2.2.2.1 0, 500, .inl (fun _ => 0))) (by omega) (by omega)
  refine ze_put zin_M zy_M zt_M zn_M (ci := 7) rfl 20 (by decide) zm_742 rfl (Or.inr ⟨rfl, rfl, rfl⟩) cd_M_init_140 h.1 rfl rfl (Nat.le_of_ble_eq_true rfl) (fs' := [.int 0, .int 0, .ref (a + 1), .int ((-1 : Int32)), .int 0, .int 0, .int 0, .ref (a + 2), .ref (a + 3), .ref (a + 4), .ref (a + 5), .ref (a + 6), .ref (a + 7), .ref (a + 8), .ref (a + 9), .ref (a + 10), .ref (a + 11), .ref (a + 12), .ref (a + 13), .ref (a + 14), .ref (a + 15), .null, .null, .int 0, .null, .null, .null, .int 0, .int 0, .null]) rfl ?_
  have h := h.put (fs' := [.int 0, .int 0, .ref (a + 1), .int ((-1 : Int32)), .int 0, .int 0, .int 0, .ref (a + 2), .ref (a + 3), .ref (a + 4), .ref (a + 5), .ref (a + 6), .ref (a + 7), .ref (a + 8), .ref (a + 9), .ref (a + 10), .ref (a + 11), .ref (a + 12), .ref (a + 13), .ref (a + 14), .ref (a + 15), .null, .null, .int 0, .null, .null, .null, .int 0, .int 0, .null])
  have hF := hF.up (a := a) (e := .inr (7, [.int 0, .int 0, .ref (a + 1), .int ((-1 : Int32)), .int 0, .int 0, .int 0, .ref (a + 2), .ref (a + 3), .ref (a + 4), .ref (a + 5), .ref (a + 6), .ref (a + 7), .ref (a + 8), .ref (a + 9), .ref (a + 10), .ref (a + 11), .ref (a + 12), .ref (a + 13), .ref (a + 14), .ref (a + 15), .null, .null, .int 0, .null, .null, .null, .int 0, .int 0, .null])) (by omega) (by omega)
  refine ze_aload_n 0 cd_M_init_143 rfl rfl ?_
  refine ze_bipush (v := nI 100) cd_M_init_144 (by decide) ?_
  refine ze_newa (N := 100) (x := .inl (fun _ => 0)) 0 rfl rfl (fun _ h9 => h9) zm_163 (fun _ => rfl) rfl (by decide) (by decide) (by decide) (by decide) cd_M_init_146 (fun _ => ?_)
  have h := h.grow 0 100 15 rfl (b := a + 16) (by omega)
  have hF := hF.up (a := a + 16) (e := .inl (g.2.2.2.1 0, 100, .inl (fun _ => 0))) (by omega) (by omega)
  refine ze_put zin_M zy_M zt_M zn_M (ci := 7) rfl 21 (by decide) zm_743 rfl (Or.inr ⟨rfl, rfl, rfl⟩) cd_M_init_148 h.1 rfl rfl (Nat.le_of_ble_eq_true rfl) (fs' := [.int 0, .int 0, .ref (a + 1), .int ((-1 : Int32)), .int 0, .int 0, .int 0, .ref (a + 2), .ref (a + 3), .ref (a + 4), .ref (a + 5), .ref (a + 6), .ref (a + 7), .ref (a + 8), .ref (a + 9), .ref (a + 10), .ref (a + 11), .ref (a + 12), .ref (a + 13), .ref (a + 14), .ref (a + 15), .ref (a + 16), .null, .int 0, .null, .null, .null, .int 0, .int 0, .null]) rfl ?_
  have h := h.put (fs' := [.int 0, .int 0, .ref (a + 1), .int ((-1 : Int32)), .int 0, .int 0, .int 0, .ref (a + 2), .ref (a + 3), .ref (a + 4), .ref (a + 5), .ref (a + 6), .ref (a + 7), .ref (a + 8), .ref (a + 9), .ref (a + 10), .ref (a + 11), .ref (a + 12), .ref (a + 13), .ref (a + 14), .ref (a + 15), .ref (a + 16), .null, .int 0, .null, .null, .null, .int 0, .int 0, .null])
  have hF := hF.up (a := a) (e := .inr (7, [.int 0, .int 0, .ref (a + 1), .int ((-1 : Int32)), .int 0, .int 0, .int 0, .ref (a + 2), .ref (a + 3), .ref (a + 4), .ref (a + 5), .ref (a + 6), .ref (a + 7), .ref (a + 8), .ref (a + 9), .ref (a + 10), .ref (a + 11), .ref (a + 12), .ref (a + 13), .ref (a + 14), .ref (a + 15), .ref (a + 16), .null, .int 0, .null, .null, .null, .int 0, .int 0, .null])) (by omega) (by omega)
  refine ze_aload_n 0 cd_M_init_151 rfl rfl ?_
  refine ze_bipush (v := nI 100) cd_M_init_152 (by decide) ?_
  refine ze_newa (N := 100) (x := .inl (fun _ => 0)) 1 rfl rfl (fun _ h9 => h9) zm_210 (fun _ => rfl) rfl (by decide) (by decide) (by decide) (by decide) cd_M_init_154 (fun _ => ?_)
  have h := h.grow 1 100 16 rfl (b := a + 17) (by omega)
  have hF := hF.up (a := a + 17) (e := .inl (g.2.2.2.1 1, 100, .inl (fun _ => 0))) (by omega) (by omega)
  refine ze_put zin_M zy_M zt_M zn_M (ci := 7) rfl 22 (by decide) zm_744 rfl (Or.inr ⟨rfl, rfl, rfl⟩) cd_M_init_156 h.1 rfl rfl (Nat.le_of_ble_eq_true rfl) (fs' := [.int 0, .int 0, .ref (a + 1), .int ((-1 : Int32)), .int 0, .int 0, .int 0, .ref (a + 2), .ref (a + 3), .ref (a + 4), .ref (a + 5), .ref (a + 6), .ref (a + 7), .ref (a + 8), .ref (a + 9), .ref (a + 10), .ref (a + 11), .ref (a + 12), .ref (a + 13), .ref (a + 14), .ref (a + 15), .ref (a + 16), .ref (a + 17), .int 0, .null, .null, .null, .int 0, .int 0, .null]) rfl ?_
  have h := h.put (fs' := [.int 0, .int 0, .ref (a + 1), .int ((-1 : Int32)), .int 0, .int 0, .int 0, .ref (a + 2), .ref (a + 3), .ref (a + 4), .ref (a + 5), .ref (a + 6), .ref (a + 7), .ref (a + 8), .ref (a + 9), .ref (a + 10), .ref (a + 11), .ref (a + 12), .ref (a + 13), .ref (a + 14), .ref (a + 15), .ref (a + 16), .ref (a + 17), .int 0, .null, .null, .null, .int 0, .int 0, .null])
  have hF := hF.up (a := a) (e := .inr (7, [.int 0, .int 0, .ref (a + 1), .int ((-1 : Int32)), .int 0, .int 0, .int 0, .ref (a + 2), .ref (a + 3), .ref (a + 4), .ref (a + 5), .ref (a + 6), .ref (a + 7), .ref (a + 8), .ref (a + 9), .ref (a + 10), .ref (a + 11), .ref (a + 12), .ref (a + 13), .ref (a + 14), .ref (a + 15), .ref (a + 16), .ref (a + 17), .int 0, .null, .null, .null, .int 0, .int 0, .null])) (by omega) (by omega)
  refine ze_aload_n 0 cd_M_init_159 rfl rfl ?_
  refine ze_bipush (v := nI 100) cd_M_init_160 (by decide) ?_
  refine ze_newa (N := 100) (x := .inl (fun _ => 0)) 0 rfl rfl (fun _ h9 => h9) zm_163 (fun _ => rfl) rfl (by decide) (by decide) (by decide) (by decide) cd_M_init_162 (fun _ => ?_)
  have h := h.grow 0 100 17 rfl (b := a + 18) (by omega)
  have hF := hF.up (a := a + 18) (e := .inl (g.2.2.2.1 0, 100, .inl (fun _ => 0))) (by omega) (by omega)
  refine ze_put zin_M zy_M zt_M zn_M (ci := 7) rfl 24 (by decide) zm_746 rfl (Or.inr ⟨rfl, rfl, rfl⟩) cd_M_init_164 h.1 rfl rfl (Nat.le_of_ble_eq_true rfl) (fs' := [.int 0, .int 0, .ref (a + 1), .int ((-1 : Int32)), .int 0, .int 0, .int 0, .ref (a + 2), .ref (a + 3), .ref (a + 4), .ref (a + 5), .ref (a + 6), .ref (a + 7), .ref (a + 8), .ref (a + 9), .ref (a + 10), .ref (a + 11), .ref (a + 12), .ref (a + 13), .ref (a + 14), .ref (a + 15), .ref (a + 16), .ref (a + 17), .int 0, .ref (a + 18), .null, .null, .int 0, .int 0, .null]) rfl ?_
  have h := h.put (fs' := [.int 0, .int 0, .ref (a + 1), .int ((-1 : Int32)), .int 0, .int 0, .int 0, .ref (a + 2), .ref (a + 3), .ref (a + 4), .ref (a + 5), .ref (a + 6), .ref (a + 7), .ref (a + 8), .ref (a + 9), .ref (a + 10), .ref (a + 11), .ref (a + 12), .ref (a + 13), .ref (a + 14), .ref (a + 15), .ref (a + 16), .ref (a + 17), .int 0, .ref (a + 18), .null, .null, .int 0, .int 0, .null])
  have hF := hF.up (a := a) (e := .inr (7, [.int 0, .int 0, .ref (a + 1), .int ((-1 : Int32)), .int 0, .int 0, .int 0, .ref (a + 2), .ref (a + 3), .ref (a + 4), .ref (a + 5), .ref (a + 6), .ref (a + 7), .ref (a + 8), .ref (a + 9), .ref (a + 10), .ref (a + 11), .ref (a + 12), .ref (a + 13), .ref (a + 14), .ref (a + 15), .ref (a + 16), .ref (a + 17), .int 0, .ref (a + 18), .null, .null, .int 0, .int 0, .null])) (by omega) (by omega)
  refine ze_aload_n 0 cd_M_init_167 rfl rfl ?_
  refine ze_bipush (v := nI 100) cd_M_init_168 (by decide) ?_
  refine ze_newa (N := 100) (x := .inl (fun _ => 0)) 0 rfl rfl (fun _ h9 => h9) zm_163 (fun _ => rfl) rfl (by decide) (by decide) (by decide) (by decide) cd_M_init_170 (fun _ => ?_)
  have h := h.grow 0 100 18 rfl (b := a + 19) (by omega)
  have hF := hF.up (a := a + 19) (e := .inl (g.2.2.2.1 0, 100, .inl (fun _ => 0))) (by omega) (by omega)
  refine ze_put zin_M zy_M zt_M zn_M (ci := 7) rfl 25 (by decide) zm_747 rfl (Or.inr ⟨rfl, rfl, rfl⟩) cd_M_init_172 h.1 rfl rfl (Nat.le_of_ble_eq_true rfl) (fs' := [.int 0, .int 0, .ref (a + 1), .int ((-1 : Int32)), .int 0, .int 0, .int 0, .ref (a + 2), .ref (a + 3), .ref (a + 4), .ref (a + 5), .ref (a + 6), .ref (a + 7), .ref (a + 8), .ref (a + 9), .ref (a + 10), .ref (a + 11), .ref (a + 12), .ref (a + 13), .ref (a + 14), .ref (a + 15), .ref (a + 16), .ref (a + 17), .int 0, .ref (a + 18), .ref (a + 19), .null, .int 0, .int 0, .null]) rfl ?_
  have h := h.put (fs' := [.int 0, .int 0, .ref (a + 1), .int ((-1 : Int32)), .int 0, .int 0, .int 0, .ref (a + 2), .ref (a + 3), .ref (a + 4), .ref (a + 5), .ref (a + 6), .ref (a + 7), .ref (a + 8), .ref (a + 9), .ref (a + 10), .ref (a + 11), .ref (a + 12), .ref (a + 13), .ref (a + 14), .ref (a + 15), .ref (a + 16), .ref (a + 17), .int 0, .ref (a + 18), .ref (a + 19), .null, .int 0, .int 0, .null])
  have hF := hF.up (a := a) (e := .inr (7, [.int 0, .int 0, .ref (a + 1), .int ((-1 : Int32)), .int 0, .int 0, .int 0, .ref (a + 2), .ref (a + 3), .ref (a + 4), .ref (a + 5), .ref (a + 6), .ref (a + 7), .ref (a + 8), .ref (a + 9), .ref (a + 10), .ref (a + 11), .ref (a + 12), .ref (a + 13), .ref (a + 14), .ref (a + 15), .ref (a + 16), .ref (a + 17), .int 0, .ref (a + 18), .ref (a + 19), .null, .int 0, .int 0, .null])) (by omega) (by omega)
  refine ze_aload_n 0 cd_M_init_175 rfl rfl ?_
  refine ze_bipush (v := nI 100) cd_M_init_176 (by decide) ?_
  refine ze_newa (N := 100) (x := .inl (fun _ => 0)) 1 rfl rfl (fun _ h9 => h9) zm_210 (fun _ => rfl) rfl (by decide) (by decide) (by decide) (by decide) cd_M_init_178 (fun _ => ?_)
  have h := h.grow 1 100 19 rfl (b := a + 20) (by omega)
  have hF := hF.up (a := a + 20) (e := .inl (g.2.2.2.1 1, 100, .inl (fun _ => 0))) (by omega) (by omega)
  refine ze_put zin_M zy_M zt_M zn_M (ci := 7) rfl 26 (by decide) zm_748 rfl (Or.inr ⟨rfl, rfl, rfl⟩) cd_M_init_180 h.1 rfl rfl (Nat.le_of_ble_eq_true rfl) (fs' := [.int 0, .int 0, .ref (a + 1), .int ((-1 : Int32)), .int 0, .int 0, .int 0, .ref (a + 2), .ref (a + 3), .ref (a + 4), .ref (a + 5), .ref (a + 6), .ref (a + 7), .ref (a + 8), .ref (a + 9), .ref (a + 10), .ref (a + 11), .ref (a + 12), .ref (a + 13), .ref (a + 14), .ref (a + 15), .ref (a + 16), .ref (a + 17), .int 0, .ref (a + 18), .ref (a + 19), .ref (a + 20), .int 0, .int 0, .null]) rfl ?_
  have h := h.put (fs' := [.int 0, .int 0, .ref (a + 1), .int ((-1 : Int32)), .int 0, .int 0, .int 0, .ref (a + 2), .ref (a + 3), .ref (a + 4), .ref (a + 5), .ref (a + 6), .ref (a + 7), .ref (a + 8), .ref (a + 9), .ref (a + 10), .ref (a + 11), .ref (a + 12), .ref (a + 13), .ref (a + 14), .ref (a + 15), .ref (a + 16), .ref (a + 17), .int 0, .ref (a + 18), .ref (a + 19), .ref (a + 20), .int 0, .int 0, .null])
  have hF := hF.up (a := a) (e := .inr (7, [.int 0, .int 0, .ref (a + 1), .int ((-1 : Int32)), .int 0, .int 0, .int 0, .ref (a + 2), .ref (a + 3), .ref (a + 4), .ref (a + 5), .ref (a + 6), .ref (a + 7), .ref (a + 8), .ref (a + 9), .ref (a + 10), .ref (a + 11), .ref (a + 12), .ref (a + 13), .ref (a + 14), .ref (a + 15), .ref (a + 16), .ref (a + 17), .int 0, .ref (a + 18), .ref (a + 19), .ref (a + 20), .int 0, .int 0, .null])) (by omega) (by omega)
  refine ze_aload_n 0 cd_M_init_183 rfl rfl ?_
  refine ze_sipush (v := nI 6000) cd_M_init_184 (by decide) ?_
  refine ze_newa (N := 6000) (x := .inl (fun _ => 0)) 4 rfl rfl (fun _ h9 => h9) zm_675 (fun _ => rfl) rfl (by decide) (by decide) (by decide) (by decide) cd_M_init_187 (fun _ => ?_)
  have h := h.grow 4 6000 20 rfl (b := a + 21) (by omega)
  have hF := hF.up (a := a + 21) (e := .inl (g.2.2.2.1 4, 6000, .inl (fun _ => 0))) (by omega) (by omega)
  refine ze_put zin_M zy_M zt_M zn_M (ci := 7) rfl 29 (by decide) zm_751 rfl (Or.inr ⟨rfl, rfl, rfl⟩) cd_M_init_189 h.1 rfl rfl (Nat.le_of_ble_eq_true rfl) (fs' := [.int 0, .int 0, .ref (a + 1), .int ((-1 : Int32)), .int 0, .int 0, .int 0, .ref (a + 2), .ref (a + 3), .ref (a + 4), .ref (a + 5), .ref (a + 6), .ref (a + 7), .ref (a + 8), .ref (a + 9), .ref (a + 10), .ref (a + 11), .ref (a + 12), .ref (a + 13), .ref (a + 14), .ref (a + 15), .ref (a + 16), .ref (a + 17), .int 0, .ref (a + 18), .ref (a + 19), .ref (a + 20), .int 0, .int 0, .ref (a + 21)]) rfl ?_
  have h := h.put (fs' := [.int 0, .int 0, .ref (a + 1), .int ((-1 : Int32)), .int 0, .int 0, .int 0, .ref (a + 2), .ref (a + 3), .ref (a + 4), .ref (a + 5), .ref (a + 6), .ref (a + 7), .ref (a + 8), .ref (a + 9), .ref (a + 10), .ref (a + 11), .ref (a + 12), .ref (a + 13), .ref (a + 14), .ref (a + 15), .ref (a + 16), .ref (a + 17), .int 0, .ref (a + 18), .ref (a + 19), .ref (a + 20), .int 0, .int 0, .ref (a + 21)])
  have hF := hF.up (a := a) (e := .inr (7, [.int 0, .int 0, .ref (a + 1), .int ((-1 : Int32)), .int 0, .int 0, .int 0, .ref (a + 2), .ref (a + 3), .ref (a + 4), .ref (a + 5), .ref (a + 6), .ref (a + 7), .ref (a + 8), .ref (a + 9), .ref (a + 10), .ref (a + 11), .ref (a + 12), .ref (a + 13), .ref (a + 14), .ref (a + 15), .ref (a + 16), .ref (a + 17), .int 0, .ref (a + 18), .ref (a + 19), .ref (a + 20), .int 0, .int 0, .ref (a + 21)])) (by omega) (by omega)
  exact ze_vret cd_M_init_192 rfl (by decide) (by decide) ⟨rfl, rfl, hF, h⟩
def zm_in (v lo hi : Int32) : Bool := if v < lo then false else if hi < v then false else true
theorem zm_in_lv {n : Nat} {i : Int32} (hn : n ≤ 1000) : zm_in i (nI 0) (nI n - nI 1) = (zi n i).isSome := by
  unfold zm_in
  cases n with
  | zero =>
    have h1 : nI 0 - nI 1 = -1 := by decide
    rw [h1]
    have h2 : zi 0 i = none := by
      cases h : zi 0 i with
      | none => rfl
      | some j => exact absurd (zi_some (by decide) h).1 (Nat.not_lt_zero j)
    rw [h2]
    by_cases h3 : i < nI 0
    · rw [if_pos h3]; rfl
    · rw [if_neg h3, if_pos (by rw [nI_0] at h3; rw [Int32.lt_iff_toInt_lt] at h3 ⊢; have h4 : (-1 : Int32).toInt = -1 := (by decide); rw [Int32.toInt_zero] at h3; omega)]; rfl
  | succ n =>
    have h1 : nI (n + 1) - nI 1 = nI n := pk_sub (by omega)
    rw [h1]
    by_cases h3 : i < nI 0
    · rw [if_pos h3, zi_ltz (by rw [← nI_0]; exact h3)]; rfl
    · rw [if_neg h3]
      by_cases h5 : nI n < i
      · rw [if_pos h5, zi_hi (fun h6 => by rw [Int32.lt_iff_toInt_lt, nI_toInt (by omega)] at h5 h6; omega)]; rfl
      · rw [if_neg h5, zi_ok2 (by rw [← nI_0]; exact h3) (by rw [Int32.lt_iff_toInt_lt, nI_toInt (by omega)] at h5 ⊢; omega)]; rfl
abbrev zr_M_in : Room := { frames := 0, cells := 0, slots := 0, locals := 0 }
set_option maxRecDepth 100000 in
set_option maxHeartbeats 4000000 in
theorem kc_M_in {g : zx_G} {σ : zx_M} {sz : Nat} {v lo hi : Int32}  : zM g cy_M_in cb_M_in 3 (Option.some Jvm.ClassFile.FieldType.boolean) zr_M_in 0 0 [.int v, .int lo, .int hi] σ sz (zPp (zb (zm_in v lo hi)) σ sz) := by
  refine zM_of (lv := [(0, .int v), (1, .int lo), (2, .int hi)]) (ini := false) (by decide) rfl (by decide) (Nat.le_of_ble_eq_true rfl) rfl ?_
  refine ze_iload_n 0 cd_M_in_0 rfl rfl ?_
  refine ze_iload_n 1 cd_M_in_1 rfl rfl ?_
  refine ze_icmp_lt (tgt := 14) cd_M_in_2 (by decide) (fun c1 => ?_) (fun c1 => ?_)
  · skip
    refine ze_iconst (v := nI 0) cd_M_in_14 (by decide) ?_
    refine ze_zret cd_M_in_15 rfl (by decide) (by decide) (by decide) (zPp_mk ?_)
    simp [zm_in, zb, nI_0, zn_1, c1]
  · skip
    refine ze_iload_n 0 cd_M_in_5 rfl rfl ?_
    refine ze_iload_n 2 cd_M_in_6 rfl rfl ?_
    refine ze_icmp_gt (tgt := 14) cd_M_in_7 (by decide) (fun c2 => ?_) (fun c2 => ?_)
    · skip
      refine ze_iconst (v := nI 0) cd_M_in_14 (by decide) ?_
      refine ze_zret cd_M_in_15 rfl (by decide) (by decide) (by decide) (zPp_mk ?_)
      simp [zm_in, zb, nI_0, zn_1, c1, c2]
    · skip
      refine ze_iconst (v := nI 1) cd_M_in_10 (by decide) ?_
      refine ze_goto (tgt := 15) cd_M_in_11 (by decide) ?_
      refine ze_zret cd_M_in_15 rfl (by decide) (by decide) (by decide) (zPp_mk ?_)
      simp [zm_in, zb, nI_0, zn_1, c1, c2]
abbrev zr_M_thrown : Room := { frames := 0, cells := 0, slots := 0, locals := 0 }
set_option maxRecDepth 100000 in
set_option maxHeartbeats 4000000 in
theorem kc_M_thrown {g : zx_G} {σ : zx_M} {sz : Nat} {a size ps lv ot ak pr : Nat} {th wr fr : Int32} {M : Nat → Nat → Int32} (hM : zmo g σ a th size wr ps lv ot ak fr pr M) : zM g cy_M_thrown cb_M_thrown 1 (Option.some Jvm.ClassFile.FieldType.int) zr_M_thrown 0 0 [.ref a] σ sz (zPp th σ sz) := by
  refine zM_of (lv := [(0, .ref a)]) (ini := false) (by decide) rfl (by decide) (Nat.le_of_ble_eq_true rfl) rfl ?_
  refine ze_aload_n 0 cd_M_thrown_0 rfl rfl ?_
  refine ze_get zin_M (v := .int th) (ci := 7) rfl 0 (by decide) zm_722 rfl cd_M_thrown_1 hM.1 rfl ?_
  refine ze_iret cd_M_thrown_4 rfl (by decide) (by decide) (zPp_mk ?_)
  rfl
abbrev zr_M_isLevel : Room := { frames := 1, cells := 0, slots := 0, locals := 22 }
set_option maxRecDepth 100000 in
set_option maxHeartbeats 4000000 in
theorem kc_M_isLevel {g : zx_G} {σ : zx_M} {sz : Nat} {a size ps lv ot ak pr : Nat} {th wr fr : Int32} {M : Nat → Nat → Int32} {i : Int32} (hM : zmo g σ a th size wr ps lv ot ak fr pr M) (hlv : lv ≤ 1000) : zM g cy_M_isLevel cb_M_isLevel 2 (Option.some Jvm.ClassFile.FieldType.boolean) zr_M_isLevel 0 0 [.ref a, .int i] σ sz (zPp (zb (zi lv i).isSome) σ sz) := by
  refine zM_of (lv := [(0, .ref a), (1, .int i)]) (ini := false) (by decide) rfl (by decide) (Nat.le_of_ble_eq_true rfl) rfl ?_
  refine ze_iload_n 1 cd_M_isLevel_0 rfl rfl ?_
  refine ze_iconst (v := nI 0) cd_M_isLevel_1 (by decide) ?_
  refine ze_aload_n 0 cd_M_isLevel_2 rfl rfl ?_
  refine ze_get zin_M (v := .int (nI lv)) (ci := 7) rfl 5 (by decide) zm_727 rfl cd_M_isLevel_3 hM.1 rfl ?_
  refine ze_iconst (v := nI 1) cd_M_isLevel_6 (by decide) ?_
  refine ze_isub cd_M_isLevel_7 ?_
  refine ze_callSp (rm' := zr_M_in) (As := [.int i, .int (nI 0), .int ((nI lv) - (nI 1))]) (rest := []) kc_M_in ⟨rfl, rfl⟩ zy_M_in_ok zm_856 zm_857 (by decide) (by decide) cd_M_isLevel_8 rfl rfl (Nat.le_of_ble_eq_true rfl) ?_
  refine ze_zret cd_M_isLevel_11 rfl (zb_or _) (by decide) (by decide) (zPp_mk ?_)
  rw [zm_in_lv hlv]
theorem nI_255 : nI 255 = 255 := by decide
abbrev zr_M_sign : Room := { frames := 0, cells := 0, slots := 0, locals := 0 }
set_option maxRecDepth 100000 in
set_option maxHeartbeats 4000000 in
theorem kc_M_sign {g : zx_G} {σ : zx_M} {sz : Nat} {a size ps lv ot ak pr : Nat} {th wr fr : Int32} {M : Nat → Nat → Int32} {ch : Int32} (hM : zmo g σ a th size wr ps lv ot ak fr pr M) (hsz : size ≤ 3000) : zM g cy_M_sign cb_M_sign 2 (Option.none : Option Jvm.ClassFile.FieldType) zr_M_sign 0 0 [.ref a, .int ch] σ sz (zPv (fun σ' sz' => sz' = sz ∧ zfr σ σ' a 22 ∧ zmo g σ' a (nI 0) (if size < 3000 then size + 1 else size) wr ps lv ot ak fr pr (if size < 3000 then va_up M 0 (upd (M 0) size (zby ch)) else M))) := by
  have hF : zfr σ σ a 22 := zfr.rf
  refine zM_of (lv := [(0, .ref a), (1, .int ch)]) (ini := false) (by decide) rfl (by decide) (Nat.le_of_ble_eq_true rfl) rfl ?_
  refine ze_aload_n 0 cd_M_sign_0 rfl rfl ?_
  refine ze_iconst (v := nI 0) cd_M_sign_1 (by decide) ?_
  refine ze_put zin_M zy_M zt_M zn_M (ci := 7) rfl 0 (by decide) zm_722 rfl (Or.inl rfl) cd_M_sign_2 hM.1 rfl rfl (Nat.le_of_ble_eq_true rfl) (fs' := [.int (nI 0), .int (nI size), .ref (a + 1), .int wr, .int (nI ps), .int (nI lv), .int (nI ot), .ref (a + 2), .ref (a + 3), .ref (a + 4), .ref (a + 5), .ref (a + 6), .ref (a + 7), .ref (a + 8), .ref (a + 9), .ref (a + 10), .ref (a + 11), .ref (a + 12), .ref (a + 13), .ref (a + 14), .ref (a + 15), .ref (a + 16), .ref (a + 17), .int (nI ak), .ref (a + 18), .ref (a + 19), .ref (a + 20), .int fr, .int (nI pr), .ref (a + 21)]) rfl ?_
  have hM := hM.put (fs' := [.int (nI 0), .int (nI size), .ref (a + 1), .int wr, .int (nI ps), .int (nI lv), .int (nI ot), .ref (a + 2), .ref (a + 3), .ref (a + 4), .ref (a + 5), .ref (a + 6), .ref (a + 7), .ref (a + 8), .ref (a + 9), .ref (a + 10), .ref (a + 11), .ref (a + 12), .ref (a + 13), .ref (a + 14), .ref (a + 15), .ref (a + 16), .ref (a + 17), .int (nI ak), .ref (a + 18), .ref (a + 19), .ref (a + 20), .int fr, .int (nI pr), .ref (a + 21)])
  have hF := hF.up (a := a) (e := .inr (7, [.int (nI 0), .int (nI size), .ref (a + 1), .int wr, .int (nI ps), .int (nI lv), .int (nI ot), .ref (a + 2), .ref (a + 3), .ref (a + 4), .ref (a + 5), .ref (a + 6), .ref (a + 7), .ref (a + 8), .ref (a + 9), .ref (a + 10), .ref (a + 11), .ref (a + 12), .ref (a + 13), .ref (a + 14), .ref (a + 15), .ref (a + 16), .ref (a + 17), .int (nI ak), .ref (a + 18), .ref (a + 19), .ref (a + 20), .int fr, .int (nI pr), .ref (a + 21)])) (by omega) (by omega)
  refine ze_aload_n 0 cd_M_sign_5 rfl rfl ?_
  refine ze_get zin_M (v := .int (nI size)) (ci := 7) rfl 1 (by decide) zm_723 rfl cd_M_sign_6 hM.1 rfl ?_
  refine ze_sipush (v := nI 3000) cd_M_sign_9 (by decide) ?_
  refine ze_icmp_ne (tgt := 16) cd_M_sign_12 (by decide) (fun c1 => ?_) (fun c1 => ?_)
  · skip
    have c1 : ¬ size = 3000 := fun h9 => c1 (by rw [h9])
    refine ze_aload_n 0 cd_M_sign_16 rfl rfl ?_
    refine ze_get zin_M (v := .ref (a + 1)) (ci := 7) rfl 2 (by decide) zm_724 rfl cd_M_sign_17 hM.1 rfl ?_
    refine ze_aload_n 0 cd_M_sign_20 rfl rfl ?_
    refine ze_get zin_M (v := .int (nI size)) (ci := 7) rfl 1 (by decide) zm_723 rfl cd_M_sign_21 hM.1 rfl ?_
    refine ze_iload_n 1 cd_M_sign_24 rfl rfl ?_
    refine ze_i2b (v := zby ch) cd_M_sign_25 rfl ?_
    refine ze_bast (j := size) cd_M_sign_26 (hM.2 0 _ rfl) rfl (by omega) (by decide) ?_
    refine ze_eq rfl rfl rfl (by rw [zby_n]) rfl ?_
    have hM := hM.ar 0 4 3000 rfl (b := a + 1) (f := upd (M 0) size (zby ch)) (by omega)
    have hF := hF.up (a := a + 1) (e := .inl (g.2.2.2.1 4, 3000, .inl (upd (M 0) size (zby ch)))) (by omega) (by omega)
    refine ze_aload_n 0 cd_M_sign_27 rfl rfl ?_
    refine ze_dup cd_M_sign_28 rfl ?_
    refine ze_get zin_M (v := .int (nI size)) (ci := 7) rfl 1 (by decide) zm_723 rfl cd_M_sign_29 hM.1 rfl ?_
    refine ze_iconst (v := nI 1) cd_M_sign_32 (by decide) ?_
    refine ze_iadd cd_M_sign_33 ?_
    refine ze_top (y := nI (size + 1)) (nI_add _ _) ?_
    refine ze_put zin_M zy_M zt_M zn_M (ci := 7) rfl 1 (by decide) zm_723 rfl (Or.inl rfl) cd_M_sign_34 hM.1 rfl rfl (Nat.le_of_ble_eq_true rfl) (fs' := [.int (nI 0), .int (nI (size + 1)), .ref (a + 1), .int wr, .int (nI ps), .int (nI lv), .int (nI ot), .ref (a + 2), .ref (a + 3), .ref (a + 4), .ref (a + 5), .ref (a + 6), .ref (a + 7), .ref (a + 8), .ref (a + 9), .ref (a + 10), .ref (a + 11), .ref (a + 12), .ref (a + 13), .ref (a + 14), .ref (a + 15), .ref (a + 16), .ref (a + 17), .int (nI ak), .ref (a + 18), .ref (a + 19), .ref (a + 20), .int fr, .int (nI pr), .ref (a + 21)]) rfl ?_
    have hM := hM.put (fs' := [.int (nI 0), .int (nI (size + 1)), .ref (a + 1), .int wr, .int (nI ps), .int (nI lv), .int (nI ot), .ref (a + 2), .ref (a + 3), .ref (a + 4), .ref (a + 5), .ref (a + 6), .ref (a + 7), .ref (a + 8), .ref (a + 9), .ref (a + 10), .ref (a + 11), .ref (a + 12), .ref (a + 13), .ref (a + 14), .ref (a + 15), .ref (a + 16), .ref (a + 17), .int (nI ak), .ref (a + 18), .ref (a + 19), .ref (a + 20), .int fr, .int (nI pr), .ref (a + 21)])
    have hF := hF.up (a := a) (e := .inr (7, [.int (nI 0), .int (nI (size + 1)), .ref (a + 1), .int wr, .int (nI ps), .int (nI lv), .int (nI ot), .ref (a + 2), .ref (a + 3), .ref (a + 4), .ref (a + 5), .ref (a + 6), .ref (a + 7), .ref (a + 8), .ref (a + 9), .ref (a + 10), .ref (a + 11), .ref (a + 12), .ref (a + 13), .ref (a + 14), .ref (a + 15), .ref (a + 16), .ref (a + 17), .int (nI ak), .ref (a + 18), .ref (a + 19), .ref (a + 20), .int fr, .int (nI pr), .ref (a + 21)])) (by omega) (by omega)
    refine ze_vret cd_M_sign_37 rfl (by decide) (by decide) ⟨rfl, rfl, hF, ?_⟩
    first | (rw [if_neg (by omega), if_neg (by omega)]; exact hM) | (rw [if_pos (by omega), if_pos (by omega)]; exact hM)
  · skip
    have c1 : size = 3000 := (nI_eq (by omega) (by omega)).mp c1
    refine ze_vret cd_M_sign_15 rfl (by decide) (by decide) ⟨rfl, rfl, hF, ?_⟩
    first | (rw [if_neg (by omega), if_neg (by omega)]; exact hM) | (rw [if_pos (by omega), if_pos (by omega)]; exact hM)
def zmt (M : Nat → Nat → Int32) : Nat → Int32 := fun j => M 0 j &&& nI 255
abbrev zmc (M : Nat → Nat → Int32) (size : Nat) : Nat → Int32 := za (zmt M) size
abbrev zr_M_look : Room := { frames := 0, cells := 0, slots := 0, locals := 0 }
set_option maxRecDepth 100000 in
set_option maxHeartbeats 4000000 in
theorem kc_M_look {g : zx_G} {σ : zx_M} {sz : Nat} {a size ps lv ot ak pr : Nat} {th wr fr : Int32} {M : Nat → Nat → Int32} (hM : zmo g σ a th size wr ps lv ot ak fr pr M) (hsz : size ≤ 3000) (hps : ps ≤ 20000) : zM g cy_M_look cb_M_look 1 (Option.some Jvm.ClassFile.FieldType.int) zr_M_look 0 0 [.ref a] σ sz (zPp (zmc M size ps) σ sz) := by
  refine zM_of (lv := [(0, .ref a)]) (ini := false) (by decide) rfl (by decide) (Nat.le_of_ble_eq_true rfl) rfl ?_
  refine ze_aload_n 0 cd_M_look_0 rfl rfl ?_
  refine ze_get zin_M (v := .int (nI ps)) (ci := 7) rfl 4 (by decide) zm_726 rfl cd_M_look_1 hM.1 rfl ?_
  refine ze_aload_n 0 cd_M_look_4 rfl rfl ?_
  refine ze_get zin_M (v := .int (nI size)) (ci := 7) rfl 1 (by decide) zm_723 rfl cd_M_look_5 hM.1 rfl ?_
  refine ze_icmp_ge (tgt := 27) cd_M_look_8 (by decide) (fun c1 => ?_) (fun c1 => ?_)
  · skip
    have c1 : size ≤ ps := (nI_leI (by omega) (by omega)).mp c1
    refine ze_iconst (v := (-1 : Int32)) cd_M_look_27 (by decide) ?_
    refine ze_iret cd_M_look_28 rfl (by decide) (by decide) (zPp_mk ?_)
    first | (rw [zmc, za, if_pos (by omega)]; rfl) | (rw [zmc, za, if_neg (by omega)])
  · skip
    have c1 : ¬ size ≤ ps := fun h9 => c1 ((nI_leI (by omega) (by omega)).mpr h9)
    refine ze_aload_n 0 cd_M_look_11 rfl rfl ?_
    refine ze_get zin_M (v := .ref (a + 1)) (ci := 7) rfl 2 (by decide) zm_724 rfl cd_M_look_12 hM.1 rfl ?_
    refine ze_aload_n 0 cd_M_look_15 rfl rfl ?_
    refine ze_get zin_M (v := .int (nI ps)) (ci := 7) rfl 4 (by decide) zm_726 rfl cd_M_look_16 hM.1 rfl ?_
    refine ze_bald (j := ps) cd_M_look_19 (hM.2 0 _ rfl) rfl (by omega) (by decide) ?_
    refine ze_sipush (v := nI 255) cd_M_look_20 (by decide) ?_
    refine ze_iand cd_M_look_23 ?_
    refine ze_goto (tgt := 28) cd_M_look_24 (by decide) ?_
    refine ze_iret cd_M_look_28 rfl (by decide) (by decide) (zPp_mk ?_)
    first | (rw [zmc, za, if_pos (by omega)]; rfl) | (rw [zmc, za, if_neg (by omega)])
