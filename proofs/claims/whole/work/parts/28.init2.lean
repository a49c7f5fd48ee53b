theorem ze_callINv {g : zx_G} {own : String} {cc : ByteArray} {nL : Nat} {ret : Option FieldType} {ini : Bool} {rm : Room} {mc ms : Nat} {Post : Option Value → zx_M → Nat → Prop} {pc : Nat} {lv : List (Nat × Value)} {rest : List Value} {σ : zx_M} {sz kc ks : Nat} {y : MethodName} {bytes : ByteArray} {maxL index n : Nat} {rm' : Room} {b : Nat} {As : List Value} {st0 : List Value} {host : String} {P : zx_M → Nat → Prop} {mc' ms' : Nat} (hM : zM g y bytes maxL none rm' mc' ms' (.ref b :: As) σ sz (zPv P)) (hz : rm'.cells = mc' ∧ rm'.slots = ms') (hy : zx_y y bytes maxL none n) (hname : y.name = "<init>") (hlink : (own, index, y, host) ∈ zc_NM) (hinst : Cond.instanceMethod y ∈ zc_T)
    (hR : rm'.frames + 1 ≤ rm.frames ∧ 8 + (maxL + 11) + rm'.locals ≤ rm.locals) (hf : kc + mc' ≤ rm.cells ∧ ks + ms' ≤ rm.slots) (hd : decode cc pc = .ok (.invokespecial index, 3)) (hst : st0 = As.reverse ++ .ref b :: rest) (hn : As.length = n) (hrest : (rest.map fun v => v.category).sum ≤ 8)
    (k : ∀ σ' sz', P σ' sz' → zE g own cc nL ret ini rm mc ms Post (pc + 3) lv rest σ' sz' (kc + mc') (ks + ms')) : zE g own cc nL ret ini rm mc ms Post pc lv st0 σ sz kc ks := by
  obtain ⟨rfl, rfl⟩ := hz
  refine ze_callIN (rm' := rm') hM hy hname hlink hinst hR hf hd hst hn hrest ?_
  intro r σ' sz' h
  obtain ⟨rfl, h⟩ := h
  exact k σ' sz' h
theorem ze_callIv {g : zx_G} {own : String} {cc : ByteArray} {nL : Nat} {ret : Option FieldType} {ini : Bool} {rm : Room} {mc ms : Nat} {Post : Option Value → zx_M → Nat → Prop} {pc : Nat} {lv : List (Nat × Value)} {rest : List Value} {σ : zx_M} {sz kc ks : Nat} {y : MethodName} {bytes : ByteArray} {maxL index n : Nat} {rm' : Room} {b : Nat} {As : List Value} {st0 : List Value} {host : String} {P : zx_M → Nat → Prop} {mc' ms' : Nat} (hM : zM g y bytes maxL none rm' mc' ms' (.ref b :: As) σ sz (zPv P)) (hz : rm'.cells = mc' ∧ rm'.slots = ms') (hy : zx_y y bytes maxL none n) (hname : y.name = "<init>") (hlink : Cond.methodLink own index y ∈ zc_T) (hinst : Cond.instanceMethod y ∈ zc_T)
    (hR : rm'.frames + 1 ≤ rm.frames ∧ 8 + (maxL + 11) + rm'.locals ≤ rm.locals) (hf : kc + mc' ≤ rm.cells ∧ ks + ms' ≤ rm.slots) (hd : decode cc pc = .ok (.invokespecial index, 3)) (hst : st0 = As.reverse ++ .ref b :: rest) (hn : As.length = n) (hrest : (rest.map fun v => v.category).sum ≤ 8)
    (k : ∀ σ' sz', P σ' sz' → zE g own cc nL ret ini rm mc ms Post (pc + 3) lv rest σ' sz' (kc + mc') (ks + ms')) : zE g own cc nL ret ini rm mc ms Post pc lv st0 σ sz kc ks := by
  obtain ⟨rfl, rfl⟩ := hz
  refine ze_callI (rm' := rm') hM hy hname hlink hinst hR hf hd hst hn hrest ?_
  intro r σ' sz' h
  obtain ⟨rfl, h⟩ := h
  exact k σ' sz' h
theorem ze_newo {g : zx_G} {own : String} {cc : ByteArray} {nL : Nat} {ret : Option FieldType} {ini : Bool} {rm : Room} {mc ms : Nat} {Post : Option Value → zx_M → Nat → Prop} {pc : Nat} {lv : List (Nat × Value)} {rest : List Value} {σ : zx_M} {sz kc ks : Nat} {C : String} {T : u_T} {N ci index : Nat} (hin : ∀ w ∈ u_ws C T N, w ∈ zc_T) (ty0 : Nat → FieldType) (hty : ∀ k, k < N → parseFieldDescriptor (T k).2.2.1 = some (ty0 k)) (hc : zc_cl[ci]? = some (C, T, N)) {fs : List Value} (hfs : ∀ j, j < N → defaultValue (ty0 j) = vp_V fs j) (hcl : Cond.classLink own index C ∈ zc_T) (hinst : Cond.instantiable C N ∈ zc_T) (hini : Cond.initialized C ∈ zc_T) (h1 : kc + 1 ≤ rm.cells) (h2 : ks + N ≤ rm.slots) (hd : decode cc pc = .ok (.new index, 3)) (k : g.2.2.1 ≤ sz → ∀ σ' : zx_M, zob g σ' sz ci fs [] (fun _ _ => 0) → zfr σ σ' sz 1 → zE g own cc nL ret ini rm mc ms Post (pc + 3) lv (.ref sz :: rest) σ' (sz + 1) (kc + 1) (ks + N)) : zE g own cc nL ret ini rm mc ms Post pc lv rest σ sz kc ks :=
  ze_new hin ty0 hty hc hfs hcl hinst hini h1 h2 hd (fun hB => k hB _ (zob.bare zx_up_self) (zfr.up zfr.rf (Nat.le_refl _) (Nat.lt_succ_self _)))
abbrev zr_T_init : Room := { frames := 2, cells := 13, slots := 5612, locals := 44 }
set_option maxRecDepth 100000 in
set_option maxHeartbeats 4000000 in
theorem kc_T_init {g : zx_G} {σ : zx_M} {a : Nat} (h : zob g σ a 5 [.null, .int 0, .int 0, .int 0, .null] [] (fun _ _ => 0)) : zM g cy_T_init cb_T_init 1 (Option.none : Option Jvm.ClassFile.FieldType) zr_T_init 13 5612 [.ref a] σ (a + 1) (zPv (fun σ' sz' => sz' = a + 14 ∧ zfr σ σ' a 14 ∧ zt g σ' a 0 0 (-1) (a + 2) (fun _ => 0) ∧ zl g σ' (a + 2) 0 (fun _ _ => 0))) := by
  have hF : zfr σ σ a 14 := zfr.rf
  refine zM_of (lv := [(0, .ref a)]) (ini := true) (by decide) rfl (by decide) (Nat.le_of_ble_eq_true rfl) rfl ?_
  refine ze_aload_n 0 cd_T_init_0 rfl rfl ?_
  refine ze_objInit zm_81 zm_74 zm_75 cd_T_init_1 (by decide) (Nat.le_of_ble_eq_true rfl) ?_
  refine ze_aload_n 0 cd_T_init_4 rfl rfl ?_
  refine ze_sipush (v := nI 3000) cd_T_init_5 (by decide) ?_
  refine ze_newa (N := 3000) (x := .inl (fun _ => 0)) 0 rfl rfl (fun _ h9 => h9) zm_163 (fun _ => rfl) rfl (by decide) (by decide) (by decide) (by decide) cd_T_init_8 (fun _ => ?_)
  have h := h.grow 0 3000 0 rfl (b := a + 1) (by omega)
  have hF := hF.up (a := a + 1) (e := .inl (g.2.2.2.1 0, 3000, .inl (fun _ => 0))) (by omega) (by omega)
  refine ze_put zin_T zy_T zt_T zn_T (ci := 5) rfl 0 (by decide) zm_164 rfl (Or.inr ⟨rfl, rfl, rfl⟩) cd_T_init_10 h.1 rfl rfl (Nat.le_of_ble_eq_true rfl) (fs' := [.ref (a + 1), .int 0, .int 0, .int 0, .null]) rfl ?_
  have h := h.put (fs' := [.ref (a + 1), .int 0, .int 0, .int 0, .null])
  have hF := hF.up (a := a) (e := .inr (5, [.ref (a + 1), .int 0, .int 0, .int 0, .null])) (by omega) (by omega)
  refine ze_aload_n 0 cd_T_init_13 rfl rfl ?_
  refine ze_iconst (v := nI 0) cd_T_init_14 (by decide) ?_
  refine ze_put zin_T zy_T zt_T zn_T (ci := 5) rfl 1 (by decide) zm_165 rfl (Or.inl rfl) cd_T_init_15 h.1 rfl rfl (Nat.le_of_ble_eq_true rfl) (fs' := [.ref (a + 1), .int (nI 0), .int 0, .int 0, .null]) rfl ?_
  have h := h.put (fs' := [.ref (a + 1), .int (nI 0), .int 0, .int 0, .null])
  have hF := hF.up (a := a) (e := .inr (5, [.ref (a + 1), .int (nI 0), .int 0, .int 0, .null])) (by omega) (by omega)
  refine ze_aload_n 0 cd_T_init_18 rfl rfl ?_
  refine ze_iconst (v := nI 0) cd_T_init_19 (by decide) ?_
  refine ze_put zin_T zy_T zt_T zn_T (ci := 5) rfl 2 (by decide) zm_166 rfl (Or.inl rfl) cd_T_init_20 h.1 rfl rfl (Nat.le_of_ble_eq_true rfl) (fs' := [.ref (a + 1), .int (nI 0), .int (nI 0), .int 0, .null]) rfl ?_
  have h := h.put (fs' := [.ref (a + 1), .int (nI 0), .int (nI 0), .int 0, .null])
  have hF := hF.up (a := a) (e := .inr (5, [.ref (a + 1), .int (nI 0), .int (nI 0), .int 0, .null])) (by omega) (by omega)
  refine ze_aload_n 0 cd_T_init_23 rfl rfl ?_
  refine ze_iconst (v := (-1 : Int32)) cd_T_init_24 (by decide) ?_
  refine ze_put zin_T zy_T zt_T zn_T (ci := 5) rfl 3 (by decide) zm_167 rfl (Or.inl rfl) cd_T_init_25 h.1 rfl rfl (Nat.le_of_ble_eq_true rfl) (fs' := [.ref (a + 1), .int (nI 0), .int (nI 0), .int ((-1 : Int32)), .null]) rfl ?_
  have h := h.put (fs' := [.ref (a + 1), .int (nI 0), .int (nI 0), .int ((-1 : Int32)), .null])
  have hF := hF.up (a := a) (e := .inr (5, [.ref (a + 1), .int (nI 0), .int (nI 0), .int ((-1 : Int32)), .null])) (by omega) (by omega)
  refine ze_aload_n 0 cd_T_init_28 rfl rfl ?_
  refine ze_newo zin_L zy_L zt_L (ci := 1) rfl (fs := [.int 0, .null, .null, .null, .null, .null, .null, .null, .null, .null, .null, .null]) (by decide) zm_82 zm_83 zm_56 (by decide) (by decide) cd_T_init_29 (fun hB8 σ8 hn1 hF8 => ?_)
  have h := h.frn hF8 1 rfl (by omega)
  have hF := hF.trans (hF8.wide (by omega) (by omega))
  refine ze_dup cd_T_init_32 rfl ?_
  refine ze_callINv (rm' := zr_L_init) (b := a + 2) (As := []) (rest := [.ref (a + 2), .ref a]) (kc_L_init hn1) ⟨rfl, rfl⟩ zy_L_init_ok rfl (host := "FindingAid") (by decide) zm_85 (by decide) (by decide) cd_T_init_33 rfl rfl (Nat.le_of_ble_eq_true rfl) (fun σ9 sz9 hq9 => ?_)
  obtain ⟨rfl, hF9, h9⟩ := hq9
  have h := h.frn hF9 1 rfl (by omega)
  have hF := hF.trans (hF9.wide (by omega) (by omega))
  have hn1 := h9
  refine ze_put zin_T zy_T zt_T zn_T (ci := 5) rfl 4 (by decide) zm_169 rfl (Or.inl rfl) cd_T_init_36 h.1 rfl rfl (Nat.le_of_ble_eq_true rfl) (fs' := [.ref (a + 1), .int (nI 0), .int (nI 0), .int ((-1 : Int32)), .ref (a + 2)]) rfl ?_
  have h := h.put (fs' := [.ref (a + 1), .int (nI 0), .int (nI 0), .int ((-1 : Int32)), .ref (a + 2)])
  have hn1 := hn1.upn (b := a) (e := .inr (5, [.ref (a + 1), .int (nI 0), .int (nI 0), .int ((-1 : Int32)), .ref (a + 2)])) 11 rfl (by omega)
  have hF := hF.up (a := a) (e := .inr (5, [.ref (a + 1), .int (nI 0), .int (nI 0), .int ((-1 : Int32)), .ref (a + 2)])) (by omega) (by omega)
  exact ze_vret cd_T_init_39 rfl (by decide) (by decide) ⟨rfl, rfl, hF, h, hn1⟩
abbrev zr_F_init : Room := { frames := 3, cells := 55, slots := 18457, locals := 64 }
set_option maxRecDepth 100000 in
set_option maxHeartbeats 4000000 in
theorem kc_F_init {g : zx_G} {σ : zx_M} {a : Nat} (h : zob g σ a 6 [.null, .null, .null, .null, .null, .null, .null] [] (fun _ _ => 0)) : zM g cy_F_init cb_F_init 1 (Option.none : Option Jvm.ClassFile.FieldType) zr_F_init 55 18457 [.ref a] σ (a + 1) (zPv (fun σ' sz' => sz' = a + 56 ∧ zfr σ σ' a 56 ∧ zfa g σ' a (a + 1) (a + 15) (a + 22) (a + 25) (a + 30) (a + 32) (a + 44) ∧ zt g σ' (a + 1) 0 0 (-1) (a + 3) (fun _ => 0) ∧ zl g σ' (a + 3) 0 (fun _ _ => 0) ∧ zn g σ' (a + 15) (fun _ _ => 0) ∧ zs g σ' (a + 22) (fun _ _ => 0) ∧ zka g σ' (a + 25) 0 (nI 0) (fun _ _ => 0) ∧ zob g σ' (a + 30) 3 [.ref (a + 31), .int (nI 0)] [(0, 5000)] (fun _ _ => 0) ∧ zl g σ' (a + 32) 0 (fun _ _ => 0) ∧ zl g σ' (a + 44) 0 (fun _ _ => 0))) := by
  have hF : zfr σ σ a 56 := zfr.rf
  refine zM_of (lv := [(0, .ref a)]) (ini := true) (by decide) rfl (by decide) (Nat.le_of_ble_eq_true rfl) rfl ?_
  refine ze_aload_n 0 cd_F_init_0 rfl rfl ?_
  refine ze_objInit zm_73 zm_74 zm_75 cd_F_init_1 (by decide) (Nat.le_of_ble_eq_true rfl) ?_
  refine ze_aload_n 0 cd_F_init_4 rfl rfl ?_
  refine ze_newo zin_T zy_T zt_T (ci := 5) rfl (fs := [.null, .int 0, .int 0, .int 0, .null]) (by decide) zm_76 zm_77 zm_55 (by decide) (by decide) cd_F_init_5 (fun hB8 σ8 hn1 hF8 => ?_)
  have h := h.frn hF8 0 rfl (by omega)
  have hF := hF.trans (hF8.wide (by omega) (by omega))
  refine ze_dup cd_F_init_8 rfl ?_
  refine ze_callINv (rm' := zr_T_init) (b := a + 1) (As := []) (rest := [.ref (a + 1), .ref a]) (kc_T_init hn1) ⟨rfl, rfl⟩ zy_T_init_ok rfl (host := "FindingAid") (by decide) zm_79 (by decide) (by decide) cd_F_init_9 rfl rfl (Nat.le_of_ble_eq_true rfl) (fun σ9 sz9 hq9 => ?_)
  obtain ⟨rfl, hF9, h9, h8⟩ := hq9
  have h := h.frn hF9 0 rfl (by omega)
  have hF := hF.trans (hF9.wide (by omega) (by omega))
  have hn1 := h9
  have hl2 := h8
  refine ze_put zin_F zy_F zt_F zn_F (ci := 6) rfl 0 (by decide) zm_272 rfl (Or.inr ⟨rfl, rfl, rfl⟩) cd_F_init_12 h.1 rfl rfl (Nat.le_of_ble_eq_true rfl) (fs' := [.ref (a + 1), .null, .null, .null, .null, .null, .null]) rfl ?_
  have h := h.put (fs' := [.ref (a + 1), .null, .null, .null, .null, .null, .null])
  have hn1 := hn1.upn (b := a) (e := .inr (6, [.ref (a + 1), .null, .null, .null, .null, .null, .null])) 1 rfl (by omega)
  have hl2 := hl2.upn (b := a) (e := .inr (6, [.ref (a + 1), .null, .null, .null, .null, .null, .null])) 11 rfl (by omega)
  have hF := hF.up (a := a) (e := .inr (6, [.ref (a + 1), .null, .null, .null, .null, .null, .null])) (by omega) (by omega)
  refine ze_aload_n 0 cd_F_init_15 rfl rfl ?_
  refine ze_newo zin_N zy_N zt_N (ci := 2) rfl (fs := [.null, .null, .null, .null, .null, .null]) (by decide) zm_181 zm_182 zm_57 (by decide) (by decide) cd_F_init_16 (fun hB8 σ8 hn3 hF8 => ?_)
  have h := h.frn hF8 0 rfl (by omega)
  have hn1 := hn1.frn hF8 1 rfl (by omega)
  have hl2 := hl2.frn hF8 11 rfl (by omega)
  have hF := hF.trans (hF8.wide (by omega) (by omega))
  refine ze_dup cd_F_init_19 rfl ?_
  refine ze_callINv (rm' := zr_N_init) (b := a + 15) (As := []) (rest := [.ref (a + 15), .ref a]) (kc_N_init hn3) ⟨rfl, rfl⟩ zy_N_init_ok rfl (host := "FindingAid") (by decide) zm_184 (by decide) (by decide) cd_F_init_20 rfl rfl (Nat.le_of_ble_eq_true rfl) (fun σ9 sz9 hq9 => ?_)
  obtain ⟨rfl, hF9, h9⟩ := hq9
  have h := h.frn hF9 0 rfl (by omega)
  have hn1 := hn1.frn hF9 1 rfl (by omega)
  have hl2 := hl2.frn hF9 11 rfl (by omega)
  have hF := hF.trans (hF9.wide (by omega) (by omega))
  have hn3 := h9
  refine ze_put zin_F zy_F zt_F zn_F (ci := 6) rfl 1 (by decide) zm_273 rfl (Or.inr ⟨rfl, rfl, rfl⟩) cd_F_init_23 h.1 rfl rfl (Nat.le_of_ble_eq_true rfl) (fs' := [.ref (a + 1), .ref (a + 15), .null, .null, .null, .null, .null]) rfl ?_
  have h := h.put (fs' := [.ref (a + 1), .ref (a + 15), .null, .null, .null, .null, .null])
  have hn1 := hn1.upn (b := a) (e := .inr (6, [.ref (a + 1), .ref (a + 15), .null, .null, .null, .null, .null])) 1 rfl (by omega)
  have hl2 := hl2.upn (b := a) (e := .inr (6, [.ref (a + 1), .ref (a + 15), .null, .null, .null, .null, .null])) 11 rfl (by omega)
  have hn3 := hn3.upn (b := a) (e := .inr (6, [.ref (a + 1), .ref (a + 15), .null, .null, .null, .null, .null])) 6 rfl (by omega)
  have hF := hF.up (a := a) (e := .inr (6, [.ref (a + 1), .ref (a + 15), .null, .null, .null, .null, .null])) (by omega) (by omega)
  refine ze_aload_n 0 cd_F_init_26 rfl rfl ?_
  refine ze_newo zin_S zy_S zt_S (ci := 4) rfl (fs := [.null, .null]) (by decide) zm_211 zm_212 zm_58 (by decide) (by decide) cd_F_init_27 (fun hB8 σ8 hn4 hF8 => ?_)
  have h := h.frn hF8 0 rfl (by omega)
  have hn1 := hn1.frn hF8 1 rfl (by omega)
  have hl2 := hl2.frn hF8 11 rfl (by omega)
  have hn3 := hn3.frn hF8 6 rfl (by omega)
  have hF := hF.trans (hF8.wide (by omega) (by omega))
  refine ze_dup cd_F_init_30 rfl ?_
  refine ze_callINv (rm' := zr_S_init) (b := a + 22) (As := []) (rest := [.ref (a + 22), .ref a]) (kc_S_init hn4) ⟨rfl, rfl⟩ zy_S_init_ok rfl (host := "FindingAid") (by decide) zm_214 (by decide) (by decide) cd_F_init_31 rfl rfl (Nat.le_of_ble_eq_true rfl) (fun σ9 sz9 hq9 => ?_)
  obtain ⟨rfl, hF9, h9⟩ := hq9
  have h := h.frn hF9 0 rfl (by omega)
  have hn1 := hn1.frn hF9 1 rfl (by omega)
  have hl2 := hl2.frn hF9 11 rfl (by omega)
  have hn3 := hn3.frn hF9 6 rfl (by omega)
  have hF := hF.trans (hF9.wide (by omega) (by omega))
  have hn4 := h9
  refine ze_put zin_F zy_F zt_F zn_F (ci := 6) rfl 2 (by decide) zm_274 rfl (Or.inr ⟨rfl, rfl, rfl⟩) cd_F_init_34 h.1 rfl rfl (Nat.le_of_ble_eq_true rfl) (fs' := [.ref (a + 1), .ref (a + 15), .ref (a + 22), .null, .null, .null, .null]) rfl ?_
  have h := h.put (fs' := [.ref (a + 1), .ref (a + 15), .ref (a + 22), .null, .null, .null, .null])
  have hn1 := hn1.upn (b := a) (e := .inr (6, [.ref (a + 1), .ref (a + 15), .ref (a + 22), .null, .null, .null, .null])) 1 rfl (by omega)
  have hl2 := hl2.upn (b := a) (e := .inr (6, [.ref (a + 1), .ref (a + 15), .ref (a + 22), .null, .null, .null, .null])) 11 rfl (by omega)
  have hn3 := hn3.upn (b := a) (e := .inr (6, [.ref (a + 1), .ref (a + 15), .ref (a + 22), .null, .null, .null, .null])) 6 rfl (by omega)
  have hn4 := hn4.upn (b := a) (e := .inr (6, [.ref (a + 1), .ref (a + 15), .ref (a + 22), .null, .null, .null, .null])) 2 rfl (by omega)
  have hF := hF.up (a := a) (e := .inr (6, [.ref (a + 1), .ref (a + 15), .ref (a + 22), .null, .null, .null, .null])) (by omega) (by omega)
  refine ze_aload_n 0 cd_F_init_37 rfl rfl ?_
  refine ze_newo zin_K zy_K zt_K (ci := 0) rfl (fs := [.int 0, .int 0, .null, .null, .null, .null]) (by decide) zm_224 zm_225 zm_59 (by decide) (by decide) cd_F_init_38 (fun hB8 σ8 hn5 hF8 => ?_)
  have h := h.frn hF8 0 rfl (by omega)
  have hn1 := hn1.frn hF8 1 rfl (by omega)
  have hl2 := hl2.frn hF8 11 rfl (by omega)
  have hn3 := hn3.frn hF8 6 rfl (by omega)
  have hn4 := hn4.frn hF8 2 rfl (by omega)
  have hF := hF.trans (hF8.wide (by omega) (by omega))
  refine ze_dup cd_F_init_41 rfl ?_
  refine ze_callINv (rm' := zr_K_init) (b := a + 25) (As := []) (rest := [.ref (a + 25), .ref a]) (kc_K_init hn5) ⟨rfl, rfl⟩ zy_K_init_ok rfl (host := "FindingAid") (by decide) zm_227 (by decide) (by decide) cd_F_init_42 rfl rfl (Nat.le_of_ble_eq_true rfl) (fun σ9 sz9 hq9 => ?_)
  obtain ⟨rfl, hF9, h9⟩ := hq9
  have h := h.frn hF9 0 rfl (by omega)
  have hn1 := hn1.frn hF9 1 rfl (by omega)
  have hl2 := hl2.frn hF9 11 rfl (by omega)
  have hn3 := hn3.frn hF9 6 rfl (by omega)
  have hn4 := hn4.frn hF9 2 rfl (by omega)
  have hF := hF.trans (hF9.wide (by omega) (by omega))
  have hn5 := h9
  refine ze_put zin_F zy_F zt_F zn_F (ci := 6) rfl 3 (by decide) zm_275 rfl (Or.inr ⟨rfl, rfl, rfl⟩) cd_F_init_45 h.1 rfl rfl (Nat.le_of_ble_eq_true rfl) (fs' := [.ref (a + 1), .ref (a + 15), .ref (a + 22), .ref (a + 25), .null, .null, .null]) rfl ?_
  have h := h.put (fs' := [.ref (a + 1), .ref (a + 15), .ref (a + 22), .ref (a + 25), .null, .null, .null])
  have hn1 := hn1.upn (b := a) (e := .inr (6, [.ref (a + 1), .ref (a + 15), .ref (a + 22), .ref (a + 25), .null, .null, .null])) 1 rfl (by omega)
  have hl2 := hl2.upn (b := a) (e := .inr (6, [.ref (a + 1), .ref (a + 15), .ref (a + 22), .ref (a + 25), .null, .null, .null])) 11 rfl (by omega)
  have hn3 := hn3.upn (b := a) (e := .inr (6, [.ref (a + 1), .ref (a + 15), .ref (a + 22), .ref (a + 25), .null, .null, .null])) 6 rfl (by omega)
  have hn4 := hn4.upn (b := a) (e := .inr (6, [.ref (a + 1), .ref (a + 15), .ref (a + 22), .ref (a + 25), .null, .null, .null])) 2 rfl (by omega)
  have hn5 := hn5.upn (b := a) (e := .inr (6, [.ref (a + 1), .ref (a + 15), .ref (a + 22), .ref (a + 25), .null, .null, .null])) 4 rfl (by omega)
  have hF := hF.up (a := a) (e := .inr (6, [.ref (a + 1), .ref (a + 15), .ref (a + 22), .ref (a + 25), .null, .null, .null])) (by omega) (by omega)
  refine ze_aload_n 0 cd_F_init_48 rfl rfl ?_
  refine ze_newo zin_P zy_P zt_P (ci := 3) rfl (fs := [.null, .int 0]) (by decide) zm_255 zm_256 zm_60 (by decide) (by decide) cd_F_init_49 (fun hB8 σ8 hn6 hF8 => ?_)
  have h := h.frn hF8 0 rfl (by omega)
  have hn1 := hn1.frn hF8 1 rfl (by omega)
  have hl2 := hl2.frn hF8 11 rfl (by omega)
  have hn3 := hn3.frn hF8 6 rfl (by omega)
  have hn4 := hn4.frn hF8 2 rfl (by omega)
  have hn5 := hn5.frn hF8 4 rfl (by omega)
  have hF := hF.trans (hF8.wide (by omega) (by omega))
  refine ze_dup cd_F_init_52 rfl ?_
  refine ze_callINv (rm' := zr_P_init) (b := a + 30) (As := []) (rest := [.ref (a + 30), .ref a]) (kc_P_init hn6) ⟨rfl, rfl⟩ zy_P_init_ok rfl (host := "FindingAid") (by decide) zm_258 (by decide) (by decide) cd_F_init_53 rfl rfl (Nat.le_of_ble_eq_true rfl) (fun σ9 sz9 hq9 => ?_)
  obtain ⟨rfl, hF9, h9⟩ := hq9
  have h := h.frn hF9 0 rfl (by omega)
  have hn1 := hn1.frn hF9 1 rfl (by omega)
  have hl2 := hl2.frn hF9 11 rfl (by omega)
  have hn3 := hn3.frn hF9 6 rfl (by omega)
  have hn4 := hn4.frn hF9 2 rfl (by omega)
  have hn5 := hn5.frn hF9 4 rfl (by omega)
  have hF := hF.trans (hF9.wide (by omega) (by omega))
  have hn6 := h9
  refine ze_put zin_F zy_F zt_F zn_F (ci := 6) rfl 4 (by decide) zm_276 rfl (Or.inr ⟨rfl, rfl, rfl⟩) cd_F_init_56 h.1 rfl rfl (Nat.le_of_ble_eq_true rfl) (fs' := [.ref (a + 1), .ref (a + 15), .ref (a + 22), .ref (a + 25), .ref (a + 30), .null, .null]) rfl ?_
  have h := h.put (fs' := [.ref (a + 1), .ref (a + 15), .ref (a + 22), .ref (a + 25), .ref (a + 30), .null, .null])
  have hn1 := hn1.upn (b := a) (e := .inr (6, [.ref (a + 1), .ref (a + 15), .ref (a + 22), .ref (a + 25), .ref (a + 30), .null, .null])) 1 rfl (by omega)
  have hl2 := hl2.upn (b := a) (e := .inr (6, [.ref (a + 1), .ref (a + 15), .ref (a + 22), .ref (a + 25), .ref (a + 30), .null, .null])) 11 rfl (by omega)
  have hn3 := hn3.upn (b := a) (e := .inr (6, [.ref (a + 1), .ref (a + 15), .ref (a + 22), .ref (a + 25), .ref (a + 30), .null, .null])) 6 rfl (by omega)
  have hn4 := hn4.upn (b := a) (e := .inr (6, [.ref (a + 1), .ref (a + 15), .ref (a + 22), .ref (a + 25), .ref (a + 30), .null, .null])) 2 rfl (by omega)
  have hn5 := hn5.upn (b := a) (e := .inr (6, [.ref (a + 1), .ref (a + 15), .ref (a + 22), .ref (a + 25), .ref (a + 30), .null, .null])) 4 rfl (by omega)
  have hn6 := hn6.upn (b := a) (e := .inr (6, [.ref (a + 1), .ref (a + 15), .ref (a + 22), .ref (a + 25), .ref (a + 30), .null, .null])) 1 rfl (by omega)
  have hF := hF.up (a := a) (e := .inr (6, [.ref (a + 1), .ref (a + 15), .ref (a + 22), .ref (a + 25), .ref (a + 30), .null, .null])) (by omega) (by omega)
  refine ze_aload_n 0 cd_F_init_59 rfl rfl ?_
  refine ze_newo zin_L zy_L zt_L (ci := 1) rfl (fs := [.int 0, .null, .null, .null, .null, .null, .null, .null, .null, .null, .null, .null]) (by decide) zm_270 zm_83 zm_56 (by decide) (by decide) cd_F_init_60 (fun hB8 σ8 hn7 hF8 => ?_)
  have h := h.frn hF8 0 rfl (by omega)
  have hn1 := hn1.frn hF8 1 rfl (by omega)
  have hl2 := hl2.frn hF8 11 rfl (by omega)
  have hn3 := hn3.frn hF8 6 rfl (by omega)
  have hn4 := hn4.frn hF8 2 rfl (by omega)
  have hn5 := hn5.frn hF8 4 rfl (by omega)
  have hn6 := hn6.frn hF8 1 rfl (by omega)
  have hF := hF.trans (hF8.wide (by omega) (by omega))
  refine ze_dup cd_F_init_63 rfl ?_
  refine ze_callINv (rm' := zr_L_init) (b := a + 32) (As := []) (rest := [.ref (a + 32), .ref a]) (kc_L_init hn7) ⟨rfl, rfl⟩ zy_L_init_ok rfl (host := "FindingAid") (by decide) zm_85 (by decide) (by decide) cd_F_init_64 rfl rfl (Nat.le_of_ble_eq_true rfl) (fun σ9 sz9 hq9 => ?_)
  obtain ⟨rfl, hF9, h9⟩ := hq9
  have h := h.frn hF9 0 rfl (by omega)
  have hn1 := hn1.frn hF9 1 rfl (by omega)
  have hl2 := hl2.frn hF9 11 rfl (by omega)
  have hn3 := hn3.frn hF9 6 rfl (by omega)
  have hn4 := hn4.frn hF9 2 rfl (by omega)
  have hn5 := hn5.frn hF9 4 rfl (by omega)
  have hn6 := hn6.frn hF9 1 rfl (by omega)
  have hF := hF.trans (hF9.wide (by omega) (by omega))
  have hn7 := h9
  refine ze_put zin_F zy_F zt_F zn_F (ci := 6) rfl 5 (by decide) zm_277 rfl (Or.inl rfl) cd_F_init_67 h.1 rfl rfl (Nat.le_of_ble_eq_true rfl) (fs' := [.ref (a + 1), .ref (a + 15), .ref (a + 22), .ref (a + 25), .ref (a + 30), .ref (a + 32), .null]) rfl ?_
  have h := h.put (fs' := [.ref (a + 1), .ref (a + 15), .ref (a + 22), .ref (a + 25), .ref (a + 30), .ref (a + 32), .null])
  have hn1 := hn1.upn (b := a) (e := .inr (6, [.ref (a + 1), .ref (a + 15), .ref (a + 22), .ref (a + 25), .ref (a + 30), .ref (a + 32), .null])) 1 rfl (by omega)
  have hl2 := hl2.upn (b := a) (e := .inr (6, [.ref (a + 1), .ref (a + 15), .ref (a + 22), .ref (a + 25), .ref (a + 30), .ref (a + 32), .null])) 11 rfl (by omega)
  have hn3 := hn3.upn (b := a) (e := .inr (6, [.ref (a + 1), .ref (a + 15), .ref (a + 22), .ref (a + 25), .ref (a + 30), .ref (a + 32), .null])) 6 rfl (by omega)
  have hn4 := hn4.upn (b := a) (e := .inr (6, [.ref (a + 1), .ref (a + 15), .ref (a + 22), .ref (a + 25), .ref (a + 30), .ref (a + 32), .null])) 2 rfl (by omega)
  have hn5 := hn5.upn (b := a) (e := .inr (6, [.ref (a + 1), .ref (a + 15), .ref (a + 22), .ref (a + 25), .ref (a + 30), .ref (a + 32), .null])) 4 rfl (by omega)
  have hn6 := hn6.upn (b := a) (e := .inr (6, [.ref (a + 1), .ref (a + 15), .ref (a + 22), .ref (a + 25), .ref (a + 30), .ref (a + 32), .null])) 1 rfl (by omega)
  have hn7 := hn7.upn (b := a) (e := .inr (6, [.ref (a + 1), .ref (a + 15), .ref (a + 22), .ref (a + 25), .ref (a + 30), .ref (a + 32), .null])) 11 rfl (by omega)
  have hF := hF.up (a := a) (e := .inr (6, [.ref (a + 1), .ref (a + 15), .ref (a + 22), .ref (a + 25), .ref (a + 30), .ref (a + 32), .null])) (by omega) (by omega)
  refine ze_aload_n 0 cd_F_init_70 rfl rfl ?_
  refine ze_newo zin_L zy_L zt_L (ci := 1) rfl (fs := [.int 0, .null, .null, .null, .null, .null, .null, .null, .null, .null, .null, .null]) (by decide) zm_270 zm_83 zm_56 (by decide) (by decide) cd_F_init_71 (fun hB8 σ8 hn8 hF8 => ?_)
  have h := h.frn hF8 0 rfl (by omega)
  have hn1 := hn1.frn hF8 1 rfl (by omega)
  have hl2 := hl2.frn hF8 11 rfl (by omega)
  have hn3 := hn3.frn hF8 6 rfl (by omega)
  have hn4 := hn4.frn hF8 2 rfl (by omega)
  have hn5 := hn5.frn hF8 4 rfl (by omega)
  have hn6 := hn6.frn hF8 1 rfl (by omega)
  have hn7 := hn7.frn hF8 11 rfl (by omega)
  have hF := hF.trans (hF8.wide (by omega) (by omega))
  refine ze_dup cd_F_init_74 rfl ?_
  refine ze_callINv (rm' := zr_L_init) (b := a + 44) (As := []) (rest := [.ref (a + 44), .ref a]) (kc_L_init hn8) ⟨rfl, rfl⟩ zy_L_init_ok rfl (host := "FindingAid") (by decide) zm_85 (by decide) (by decide) cd_F_init_75 rfl rfl (Nat.le_of_ble_eq_true rfl) (fun σ9 sz9 hq9 => ?_)
  obtain ⟨rfl, hF9, h9⟩ := hq9
  have h := h.frn hF9 0 rfl (by omega)
  have hn1 := hn1.frn hF9 1 rfl (by omega)
  have hl2 := hl2.frn hF9 11 rfl (by omega)
  have hn3 := hn3.frn hF9 6 rfl (by omega)
  have hn4 := hn4.frn hF9 2 rfl (by omega)
  have hn5 := hn5.frn hF9 4 rfl (by omega)
  have hn6 := hn6.frn hF9 1 rfl (by omega)
  have hn7 := hn7.frn hF9 11 rfl (by omega)
  have hF := hF.trans (hF9.wide (by omega) (by omega))
  have hn8 := h9
  refine ze_put zin_F zy_F zt_F zn_F (ci := 6) rfl 6 (by decide) zm_278 rfl (Or.inl rfl) cd_F_init_78 h.1 rfl rfl (Nat.le_of_ble_eq_true rfl) (fs' := [.ref (a + 1), .ref (a + 15), .ref (a + 22), .ref (a + 25), .ref (a + 30), .ref (a + 32), .ref (a + 44)]) rfl ?_
  have h := h.put (fs' := [.ref (a + 1), .ref (a + 15), .ref (a + 22), .ref (a + 25), .ref (a + 30), .ref (a + 32), .ref (a + 44)])
  have hn1 := hn1.upn (b := a) (e := .inr (6, [.ref (a + 1), .ref (a + 15), .ref (a + 22), .ref (a + 25), .ref (a + 30), .ref (a + 32), .ref (a + 44)])) 1 rfl (by omega)
  have hl2 := hl2.upn (b := a) (e := .inr (6, [.ref (a + 1), .ref (a + 15), .ref (a + 22), .ref (a + 25), .ref (a + 30), .ref (a + 32), .ref (a + 44)])) 11 rfl (by omega)
  have hn3 := hn3.upn (b := a) (e := .inr (6, [.ref (a + 1), .ref (a + 15), .ref (a + 22), .ref (a + 25), .ref (a + 30), .ref (a + 32), .ref (a + 44)])) 6 rfl (by omega)
  have hn4 := hn4.upn (b := a) (e := .inr (6, [.ref (a + 1), .ref (a + 15), .ref (a + 22), .ref (a + 25), .ref (a + 30), .ref (a + 32), .ref (a + 44)])) 2 rfl (by omega)
  have hn5 := hn5.upn (b := a) (e := .inr (6, [.ref (a + 1), .ref (a + 15), .ref (a + 22), .ref (a + 25), .ref (a + 30), .ref (a + 32), .ref (a + 44)])) 4 rfl (by omega)
  have hn6 := hn6.upn (b := a) (e := .inr (6, [.ref (a + 1), .ref (a + 15), .ref (a + 22), .ref (a + 25), .ref (a + 30), .ref (a + 32), .ref (a + 44)])) 1 rfl (by omega)
  have hn7 := hn7.upn (b := a) (e := .inr (6, [.ref (a + 1), .ref (a + 15), .ref (a + 22), .ref (a + 25), .ref (a + 30), .ref (a + 32), .ref (a + 44)])) 11 rfl (by omega)
  have hn8 := hn8.upn (b := a) (e := .inr (6, [.ref (a + 1), .ref (a + 15), .ref (a + 22), .ref (a + 25), .ref (a + 30), .ref (a + 32), .ref (a + 44)])) 11 rfl (by omega)
  have hF := hF.up (a := a) (e := .inr (6, [.ref (a + 1), .ref (a + 15), .ref (a + 22), .ref (a + 25), .ref (a + 30), .ref (a + 32), .ref (a + 44)])) (by omega) (by omega)
  exact ze_vret cd_F_init_81 rfl (by decide) (by decide) ⟨rfl, rfl, hF, h, hn1, hl2, hn3, hn4, hn5, hn6, hn7, hn8⟩
