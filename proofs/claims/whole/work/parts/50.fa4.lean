theorem zfr2.wid {σ σ' : zx_M} {a la c lc lo len : Nat} (h : zfr2 σ σ' a la c lc) (h1 : lo ≤ a ∧ a + la ≤ lo + len) (h2 : lo ≤ c ∧ c + lc ≤ lo + len) : zfr σ σ' lo len := fun q hq => h q (by omega) (by omega)
/-- where the class's parts lie -/
def zlay (b t e s k p x y lv : Nat) : Prop := t = b + 1 ∧ e = b + 15 ∧ s = b + 22 ∧ k = b + 25 ∧ p = b + 30 ∧ (x = b + 3 ∨ x = b + 32 ∨ x = b + 44) ∧ (y = b + 3 ∨ y = b + 32 ∨ y = b + 44) ∧ (lv = b + 3 ∨ lv = b + 32 ∨ lv = b + 44) ∧ x ≠ y ∧ x ≠ lv ∧ y ≠ lv
abbrev zr_F_read : Room := { frames := 6, cells := 1, slots := 6, locals := 132 }
set_option maxRecDepth 100000 in
set_option maxHeartbeats 4000000 in
theorem kc_F_read_ok {g : zx_G} {σ : zx_M} {sz : Nat} {b t e s k p x y lv len nx n0 n m c nx1 m1 : Nat} {wr wr1 od : Int32} {W : Nat → Int32} {R0 R Q N S K R1 : Nat → Nat → Int32} {Sg : Nat → Int32} {L : List Int32} (hlay : zlay b t e s k p x y lv) (hB : zfa g σ b t e s k p x y) (hO : zt g σ t len nx wr lv W) (hlen : len ≤ 3000) (hV : zl g σ lv n0 R0) (h : zl g σ x n R) (hY : zl g σ y m Q) (hN : zn g σ e N) (hS : zs g σ s S) (hK : zka g σ k c od K) (hP : zpo g σ p Sg L) (hpar : zt_lines (za W len) len 100 0 0 (-1) R0 = (true, nx1, wr1, R1, m1)) : zM g cy_F_read cb_F_read 1 (Option.some Jvm.ClassFile.FieldType.int) zr_F_read 1 6 [.ref b] σ sz (zPi (fun v σ' sz' => v = nI m1 ∧ sz' = sz ∧ zfr σ σ' b 56 ∧ m1 ≤ 100 ∧ zfa g σ' b t e s k p lv y ∧ zt g σ' t 0 nx1 wr1 x W ∧ zl g σ' lv m1 R1 ∧ zl g σ' x n R ∧ zl g σ' y m Q ∧ zn g σ' e (zn_fgt N) ∧ zs g σ' s S ∧ zka g σ' k c (nI 1) K ∧ zpo g σ' p Sg L)) := by
  obtain ⟨ht, he, hs9, hk9, hp9, hx9, hy9, hl9, hxy, hxl, hyl⟩ := hlay
  have hF : zfr σ σ b 56 := zfr.rf
  refine zM_of (lv := [(0, .ref b)]) (ini := false) (by decide) rfl (by decide) (Nat.le_of_ble_eq_true rfl) rfl ?_
  refine ze_aload_n 0 cd_F_read_0 rfl rfl ?_
  refine ze_get zin_F (v := .ref t) (ci := 6) rfl 0 (by decide) zm_272 rfl cd_F_read_1 hB.1 rfl ?_
  refine ze_callVi (rm' := zr_T_readText) (b := t) (As := []) (rest := []) (kc_T_readText hO hlen hV (by omega)) ⟨rfl, rfl⟩ zy_T_readText_ok zm_530 zm_531 zm_532 (ci := 5) rfl rfl (by decide) (by decide) cd_F_read_4 hO.1 rfl rfl (Nat.le_of_ble_eq_true rfl) (fun v9 σ9 sz9 hq9 => ?_)
  obtain ⟨rfl, hF9, ok9, nx9, wr9, R9, m9, n9, hX9, rfl, hb9, hok9, hn9, hO9, hV9⟩ := hq9
  have h9 := hpar.symm.trans hX9
  cases h9
  have hn1 := hok9 rfl
  rw [hn1] at hV9 hn9
  have hB := hB.fr2 hF9 0 rfl (by omega)
  have h := h.fr2 hF9 11 rfl (by omega)
  have hY := hY.fr2 hF9 11 rfl (by omega)
  have hN := hN.fr2 hF9 6 rfl (by omega)
  have hS := hS.fr2 hF9 2 rfl (by omega)
  have hK := hK.fr2 hF9 4 rfl (by omega)
  have hP := hP.fr2 hF9 1 rfl (by omega)
  have hF := hF.trans (hF9.wid (by omega) (by omega))
  have hO := hO9
  have hV := hV9
  clear hO9 hV9
  refine ze_top (y := nI 1) (by decide) ?_
  refine ze_if_ne (tgt := 20) cd_F_read_7 (by decide) (fun _ => ?_) (fun c9 => absurd c9 (by decide))
  refine ze_aload_n 0 cd_F_read_20 rfl rfl ?_
  refine ze_aload_n 0 cd_F_read_21 rfl rfl ?_
  refine ze_get zin_F (v := .ref t) (ci := 6) rfl 0 (by decide) zm_272 rfl cd_F_read_22 hB.1 rfl ?_
  refine ze_aload_n 0 cd_F_read_25 rfl rfl ?_
  refine ze_get zin_F (v := .ref x) (ci := 6) rfl 5 (by decide) zm_277 rfl cd_F_read_26 hB.1 rfl ?_
  refine ze_callVr (rm' := zr_T_exchange) (b := t) (As := [.ref x]) (rest := [.ref b]) (kc_T_exchange (us := x) hO) ⟨rfl, rfl⟩ zy_T_exchange_ok zm_676 zm_677 zm_678 (ci := 5) rfl rfl (by decide) (by decide) cd_F_read_29 hO.1 rfl rfl (Nat.le_of_ble_eq_true rfl) (fun v9 σ9 sz9 hq9 => ?_)
  obtain ⟨hv9, rfl, hF9, hO9⟩ := hq9
  rw [hv9]
  clear hv9
  have hB := hB.frn hF9 0 rfl (by omega)
  have hV := hV.frn hF9 11 rfl (by omega)
  have h := h.frn hF9 11 rfl (by omega)
  have hY := hY.frn hF9 11 rfl (by omega)
  have hN := hN.frn hF9 6 rfl (by omega)
  have hS := hS.frn hF9 2 rfl (by omega)
  have hK := hK.frn hF9 4 rfl (by omega)
  have hP := hP.frn hF9 1 rfl (by omega)
  have hF := hF.trans (hF9.wide (by omega) (by omega))
  have hO := hO9
  clear hO9
  refine ze_put zin_F zy_F zt_F zn_F (ci := 6) rfl 5 (by decide) zm_277 rfl (Or.inl rfl) cd_F_read_32 hB.1 rfl rfl (Nat.le_of_ble_eq_true rfl) (fs' := [.ref t, .ref e, .ref s, .ref k, .ref p, .ref lv, .ref y]) rfl ?_
  have hB := hB.put (fs' := [.ref t, .ref e, .ref s, .ref k, .ref p, .ref lv, .ref y])
  have hO := hO.upn (b := b) (e := .inr (6, [.ref t, .ref e, .ref s, .ref k, .ref p, .ref lv, .ref y])) 1 rfl (by omega)
  have hV := hV.upn (b := b) (e := .inr (6, [.ref t, .ref e, .ref s, .ref k, .ref p, .ref lv, .ref y])) 11 rfl (by omega)
  have h := h.upn (b := b) (e := .inr (6, [.ref t, .ref e, .ref s, .ref k, .ref p, .ref lv, .ref y])) 11 rfl (by omega)
  have hY := hY.upn (b := b) (e := .inr (6, [.ref t, .ref e, .ref s, .ref k, .ref p, .ref lv, .ref y])) 11 rfl (by omega)
  have hN := hN.upn (b := b) (e := .inr (6, [.ref t, .ref e, .ref s, .ref k, .ref p, .ref lv, .ref y])) 6 rfl (by omega)
  have hS := hS.upn (b := b) (e := .inr (6, [.ref t, .ref e, .ref s, .ref k, .ref p, .ref lv, .ref y])) 2 rfl (by omega)
  have hK := hK.upn (b := b) (e := .inr (6, [.ref t, .ref e, .ref s, .ref k, .ref p, .ref lv, .ref y])) 4 rfl (by omega)
  have hP := hP.upn (b := b) (e := .inr (6, [.ref t, .ref e, .ref s, .ref k, .ref p, .ref lv, .ref y])) 1 rfl (by omega)
  have hF := hF.up (a := b) (e := .inr (6, [.ref t, .ref e, .ref s, .ref k, .ref p, .ref lv, .ref y])) (by omega) (by omega)
  refine ze_aload_n 0 cd_F_read_35 rfl rfl ?_
  refine ze_get zin_F (v := .ref e) (ci := 6) rfl 1 (by decide) zm_273 rfl cd_F_read_36 hB.1 rfl ?_
  refine ze_callVv (rm' := zr_N_forget) (b := e) (As := []) (rest := []) (kc_N_forget hN) ⟨rfl, rfl⟩ zy_N_forget_ok zm_680 zm_681 zm_682 (ci := 2) rfl rfl (by decide) (by decide) cd_F_read_39 hN.1 rfl rfl (Nat.le_of_ble_eq_true rfl) (fun σ9 sz9 hq9 => ?_)
  obtain ⟨rfl, hF9, hN9⟩ := hq9
  have hB := hB.frn hF9 0 rfl (by omega)
  have hO := hO.frn hF9 1 rfl (by omega)
  have hV := hV.frn hF9 11 rfl (by omega)
  have h := h.frn hF9 11 rfl (by omega)
  have hY := hY.frn hF9 11 rfl (by omega)
  have hS := hS.frn hF9 2 rfl (by omega)
  have hK := hK.frn hF9 4 rfl (by omega)
  have hP := hP.frn hF9 1 rfl (by omega)
  have hF := hF.trans (hF9.wide (by omega) (by omega))
  have hN := hN9
  clear hN9
  refine ze_aload_n 0 cd_F_read_42 rfl rfl ?_
  refine ze_get zin_F (v := .ref k) (ci := 6) rfl 3 (by decide) zm_275 rfl cd_F_read_43 hB.1 rfl ?_
  refine ze_iconst (v := nI 1) cd_F_read_46 (by decide) ?_
  refine ze_put zin_K zy_K zt_K zn_K (ci := 0) rfl 1 (by decide) zm_233 rfl (Or.inl rfl) cd_F_read_47 hK.1 (by decide) rfl (Nat.le_of_ble_eq_true rfl) (fs' := [.int (nI c), .int (nI 1), .ref (k + 1), .ref (k + 2), .ref (k + 3), .ref (k + 4)]) rfl ?_
  have hK := hK.put (fs' := [.int (nI c), .int (nI 1), .ref (k + 1), .ref (k + 2), .ref (k + 3), .ref (k + 4)])
  have hB := hB.upn (b := k) (e := .inr (0, [.int (nI c), .int (nI 1), .ref (k + 1), .ref (k + 2), .ref (k + 3), .ref (k + 4)])) 0 rfl (by omega)
  have hO := hO.upn (b := k) (e := .inr (0, [.int (nI c), .int (nI 1), .ref (k + 1), .ref (k + 2), .ref (k + 3), .ref (k + 4)])) 1 rfl (by omega)
  have hV := hV.upn (b := k) (e := .inr (0, [.int (nI c), .int (nI 1), .ref (k + 1), .ref (k + 2), .ref (k + 3), .ref (k + 4)])) 11 rfl (by omega)
  have h := h.upn (b := k) (e := .inr (0, [.int (nI c), .int (nI 1), .ref (k + 1), .ref (k + 2), .ref (k + 3), .ref (k + 4)])) 11 rfl (by omega)
  have hY := hY.upn (b := k) (e := .inr (0, [.int (nI c), .int (nI 1), .ref (k + 1), .ref (k + 2), .ref (k + 3), .ref (k + 4)])) 11 rfl (by omega)
  have hN := hN.upn (b := k) (e := .inr (0, [.int (nI c), .int (nI 1), .ref (k + 1), .ref (k + 2), .ref (k + 3), .ref (k + 4)])) 6 rfl (by omega)
  have hS := hS.upn (b := k) (e := .inr (0, [.int (nI c), .int (nI 1), .ref (k + 1), .ref (k + 2), .ref (k + 3), .ref (k + 4)])) 2 rfl (by omega)
  have hP := hP.upn (b := k) (e := .inr (0, [.int (nI c), .int (nI 1), .ref (k + 1), .ref (k + 2), .ref (k + 3), .ref (k + 4)])) 1 rfl (by omega)
  have hF := hF.up (a := k) (e := .inr (0, [.int (nI c), .int (nI 1), .ref (k + 1), .ref (k + 2), .ref (k + 3), .ref (k + 4)])) (by omega) (by omega)
  refine ze_aload_n 0 cd_F_read_50 rfl rfl ?_
  refine ze_get zin_F (v := .ref lv) (ci := 6) rfl 5 (by decide) zm_277 rfl cd_F_read_51 hB.1 rfl ?_
  refine ze_get zin_L (v := .int (nI m1)) (ci := 1) rfl 0 (by decide) zm_92 rfl cd_F_read_54 hV.1 rfl ?_
  exact ze_iret cd_F_read_57 rfl (by decide) (by decide) ⟨_, rfl, rfl, rfl, hF, by omega, hB, hO, hV, h, hY, hN, hS, hK, hP⟩
abbrev zr_F_merge : Room := { frames := 6, cells := 1, slots := 6, locals := 132 }
set_option maxRecDepth 100000 in
set_option maxHeartbeats 4000000 in
theorem kc_F_merge_ok {g : zx_G} {σ : zx_M} {sz : Nat} {b t e s k p x y lv len nx n0 n m c nx1 m1 : Nat} {wr wr1 od : Int32} {W : Nat → Int32} {R0 R Q N S K R1 : Nat → Nat → Int32} {Sg : Nat → Int32} {L : List Int32} (hlay : zlay b t e s k p x y lv) (hB : zfa g σ b t e s k p x y) (hO : zt g σ t len nx wr lv W) (hlen : len ≤ 3000) (hV : zl g σ lv n0 R0) (h : zl g σ x n R) (hY : zl g σ y m Q) (hN : zn g σ e N) (hS : zs g σ s S) (hK : zka g σ k c od K) (hP : zpo g σ p Sg L) (hpar : zt_lines (za W len) len 100 0 0 (-1) R0 = (true, nx1, wr1, R1, m1)) (hT : zl_T n R) (hn : n ≤ 100) : zM g cy_F_merge cb_F_merge 1 (Option.some Jvm.ClassFile.FieldType.int) zr_F_merge 1 6 [.ref b] σ sz (zPi (fun v σ' sz' => v = nI (zk_gat n R m1 R1 K).1 ∧ sz' = sz ∧ zfr σ σ' b 56 ∧ m1 ≤ 100 ∧ zfa g σ' b t e s k p x lv ∧ zt g σ' t 0 nx1 wr1 y W ∧ zl g σ' lv m1 R1 ∧ zl g σ' x n R ∧ zl g σ' y m Q ∧ zn g σ' e N ∧ zs g σ' s S ∧ zka g σ' k (zk_gat n R m1 R1 K).1 (nI 0) (zk_gat n R m1 R1 K).2 ∧ zpo g σ' p Sg L)) := by
  obtain ⟨ht, he, hs9, hk9, hp9, hx9, hy9, hl9, hxy, hxl, hyl⟩ := hlay
  have hF : zfr σ σ b 56 := zfr.rf
  refine zM_of (lv := [(0, .ref b)]) (ini := false) (by decide) rfl (by decide) (Nat.le_of_ble_eq_true rfl) rfl ?_
  refine ze_aload_n 0 cd_F_merge_0 rfl rfl ?_
  refine ze_get zin_F (v := .ref t) (ci := 6) rfl 0 (by decide) zm_272 rfl cd_F_merge_1 hB.1 rfl ?_
  refine ze_callVi (rm' := zr_T_readText) (b := t) (As := []) (rest := []) (kc_T_readText hO hlen hV (by omega)) ⟨rfl, rfl⟩ zy_T_readText_ok zm_530 zm_531 zm_532 (ci := 5) rfl rfl (by decide) (by decide) cd_F_merge_4 hO.1 rfl rfl (Nat.le_of_ble_eq_true rfl) (fun v9 σ9 sz9 hq9 => ?_)
  obtain ⟨rfl, hF9, ok9, nx9, wr9, R9, m9, n9, hX9, rfl, hb9, hok9, hn9, hO9, hV9⟩ := hq9
  have h9 := hpar.symm.trans hX9
  cases h9
  have hn1 := hok9 rfl
  rw [hn1] at hV9 hn9
  have hB := hB.fr2 hF9 0 rfl (by omega)
  have h := h.fr2 hF9 11 rfl (by omega)
  have hY := hY.fr2 hF9 11 rfl (by omega)
  have hN := hN.fr2 hF9 6 rfl (by omega)
  have hS := hS.fr2 hF9 2 rfl (by omega)
  have hK := hK.fr2 hF9 4 rfl (by omega)
  have hP := hP.fr2 hF9 1 rfl (by omega)
  have hF := hF.trans (hF9.wid (by omega) (by omega))
  have hO := hO9
  have hV := hV9
  clear hO9 hV9
  refine ze_top (y := nI 1) (by decide) ?_
  refine ze_if_ne (tgt := 20) cd_F_merge_7 (by decide) (fun _ => ?_) (fun c9 => absurd c9 (by decide))
  refine ze_aload_n 0 cd_F_merge_20 rfl rfl ?_
  refine ze_aload_n 0 cd_F_merge_21 rfl rfl ?_
  refine ze_get zin_F (v := .ref t) (ci := 6) rfl 0 (by decide) zm_272 rfl cd_F_merge_22 hB.1 rfl ?_
  refine ze_aload_n 0 cd_F_merge_25 rfl rfl ?_
  refine ze_get zin_F (v := .ref y) (ci := 6) rfl 6 (by decide) zm_278 rfl cd_F_merge_26 hB.1 rfl ?_
  refine ze_callVr (rm' := zr_T_exchange) (b := t) (As := [.ref y]) (rest := [.ref b]) (kc_T_exchange (us := y) hO) ⟨rfl, rfl⟩ zy_T_exchange_ok zm_676 zm_677 zm_678 (ci := 5) rfl rfl (by decide) (by decide) cd_F_merge_29 hO.1 rfl rfl (Nat.le_of_ble_eq_true rfl) (fun v9 σ9 sz9 hq9 => ?_)
  obtain ⟨hv9, rfl, hF9, hO9⟩ := hq9
  rw [hv9]
  clear hv9
  have hB := hB.frn hF9 0 rfl (by omega)
  have hV := hV.frn hF9 11 rfl (by omega)
  have h := h.frn hF9 11 rfl (by omega)
  have hY := hY.frn hF9 11 rfl (by omega)
  have hN := hN.frn hF9 6 rfl (by omega)
  have hS := hS.frn hF9 2 rfl (by omega)
  have hK := hK.frn hF9 4 rfl (by omega)
  have hP := hP.frn hF9 1 rfl (by omega)
  have hF := hF.trans (hF9.wide (by omega) (by omega))
  have hO := hO9
  clear hO9
  refine ze_put zin_F zy_F zt_F zn_F (ci := 6) rfl 6 (by decide) zm_278 rfl (Or.inl rfl) cd_F_merge_32 hB.1 rfl rfl (Nat.le_of_ble_eq_true rfl) (fs' := [.ref t, .ref e, .ref s, .ref k, .ref p, .ref x, .ref lv]) rfl ?_
  have hB := hB.put (fs' := [.ref t, .ref e, .ref s, .ref k, .ref p, .ref x, .ref lv])
  have hO := hO.upn (b := b) (e := .inr (6, [.ref t, .ref e, .ref s, .ref k, .ref p, .ref x, .ref lv])) 1 rfl (by omega)
  have hV := hV.upn (b := b) (e := .inr (6, [.ref t, .ref e, .ref s, .ref k, .ref p, .ref x, .ref lv])) 11 rfl (by omega)
  have h := h.upn (b := b) (e := .inr (6, [.ref t, .ref e, .ref s, .ref k, .ref p, .ref x, .ref lv])) 11 rfl (by omega)
  have hY := hY.upn (b := b) (e := .inr (6, [.ref t, .ref e, .ref s, .ref k, .ref p, .ref x, .ref lv])) 11 rfl (by omega)
  have hN := hN.upn (b := b) (e := .inr (6, [.ref t, .ref e, .ref s, .ref k, .ref p, .ref x, .ref lv])) 6 rfl (by omega)
  have hS := hS.upn (b := b) (e := .inr (6, [.ref t, .ref e, .ref s, .ref k, .ref p, .ref x, .ref lv])) 2 rfl (by omega)
  have hK := hK.upn (b := b) (e := .inr (6, [.ref t, .ref e, .ref s, .ref k, .ref p, .ref x, .ref lv])) 4 rfl (by omega)
  have hP := hP.upn (b := b) (e := .inr (6, [.ref t, .ref e, .ref s, .ref k, .ref p, .ref x, .ref lv])) 1 rfl (by omega)
  have hF := hF.up (a := b) (e := .inr (6, [.ref t, .ref e, .ref s, .ref k, .ref p, .ref x, .ref lv])) (by omega) (by omega)
  refine ze_aload_n 0 cd_F_merge_35 rfl rfl ?_
  refine ze_get zin_F (v := .ref k) (ci := 6) rfl 3 (by decide) zm_275 rfl cd_F_merge_36 hB.1 rfl ?_
  refine ze_aload_n 0 cd_F_merge_39 rfl rfl ?_
  refine ze_get zin_F (v := .ref x) (ci := 6) rfl 5 (by decide) zm_277 rfl cd_F_merge_40 hB.1 rfl ?_
  refine ze_aload_n 0 cd_F_merge_43 rfl rfl ?_
  refine ze_get zin_F (v := .ref lv) (ci := 6) rfl 6 (by decide) zm_278 rfl cd_F_merge_44 hB.1 rfl ?_
  refine ze_callVv (rm' := zr_K_gather) (b := k) (As := [.ref x, .ref lv]) (rest := []) (kc_K_gather h hV hK hT (by omega) (by omega) hn (by omega)) ⟨rfl, rfl⟩ zy_K_gather_ok zm_692 zm_693 zm_694 (ci := 0) rfl rfl (by decide) (by decide) cd_F_merge_47 hK.1 rfl rfl (Nat.le_of_ble_eq_true rfl) (fun σ9 sz9 hq9 => ?_)
  obtain ⟨rfl, hF9, hK9⟩ := hq9
  have hB := hB.frn hF9 0 rfl (by omega)
  have hO := hO.frn hF9 1 rfl (by omega)
  have hV := hV.frn hF9 11 rfl (by omega)
  have h := h.frn hF9 11 rfl (by omega)
  have hY := hY.frn hF9 11 rfl (by omega)
  have hN := hN.frn hF9 6 rfl (by omega)
  have hS := hS.frn hF9 2 rfl (by omega)
  have hP := hP.frn hF9 1 rfl (by omega)
  have hF := hF.trans (hF9.wide (by omega) (by omega))
  have hK := hK9
  clear hK9
  refine ze_aload_n 0 cd_F_merge_50 rfl rfl ?_
  refine ze_get zin_F (v := .ref k) (ci := 6) rfl 3 (by decide) zm_275 rfl cd_F_merge_51 hB.1 rfl ?_
  refine ze_get zin_K (v := .int (nI ((zk_gat n R m1 R1 K).1))) (ci := 0) rfl 0 (by decide) zm_231 rfl cd_F_merge_54 hK.1 rfl ?_
  exact ze_iret cd_F_merge_57 rfl (by decide) (by decide) ⟨_, rfl, rfl, rfl, hF, by omega, hB, hO, hV, h, hY, hN, hS, hK, hP⟩
set_option maxHeartbeats 4000000 in
theorem kc_F_read_thr {g : zx_G} {σ : zx_M} {sz : Nat} {b t e s k p x y lv len nx n0 nx1 m1 : Nat} {wr wr1 : Int32} {W : Nat → Int32} {R0 R1 : Nat → Nat → Int32} (hfl : g.1.flags = pinnedFlags ++ [noTraceFlag]) (hB : zfa g σ b t e s k p x y) (hO : zt g σ t len nx wr lv W) (hlen : len ≤ 3000) (hV : zl g σ lv n0 R0) (htl : t + 2 ≤ lv ∨ lv + 12 ≤ t) (hpar : zt_lines (za W len) len 100 0 0 (-1) R0 = (false, nx1, wr1, R1, m1)) : zMT g cy_F_read cb_F_read 1 (Option.some Jvm.ClassFile.FieldType.int) zr_F_read 1 6 [.ref b] σ sz (fun σ' sz' => sz' = sz + 1 ∧ zfr2 σ σ' t 2 lv 12 ∧ zt g σ' t 0 nx1 wr1 lv W ∧ ∃ n', n' ≤ 100 ∧ zl g σ' lv n' R1) := by
  refine zMT_of (lv := [(0, .ref b)]) (own := "FindingAid") (ini := false) (by decide) rfl (by decide) (Nat.le_of_ble_eq_true rfl) rfl ?_
  refine zg_aload_n 0 cd_F_read_0 rfl rfl ?_
  refine zg_get zin_F (v := .ref t) (ci := 6) rfl 0 (by decide) zm_272 rfl cd_F_read_1 hB.1 rfl ?_
  refine zg_callVi (rm' := zr_T_readText) (b := t) (As := []) (rest := []) (kc_T_readText hO hlen hV htl) ⟨rfl, rfl⟩ zy_T_readText_ok zm_530 zm_531 zm_532 (ci := 5) rfl rfl (by decide) (by decide) cd_F_read_4 hO.1 rfl rfl (Nat.le_of_ble_eq_true rfl) (fun v9 σ9 sz9 hq9 => ?_)
  obtain ⟨hs9, hF9, ok9, nx9, wr9, R9, m9, n9, hX9, rfl, hb9, hok9, hn9, hO9, hV9⟩ := hq9
  have h9 := hpar.symm.trans hX9
  cases h9
  refine zg_if_ne (tgt := 20) cd_F_read_7 (by decide) (fun c9 => absurd rfl c9) (fun _ => ?_)
  exact zg_throw hfl cd_F_read_10 cd_F_read_13 cd_F_read_14 cd_F_read_16 cd_F_read_19 (by decide) (by decide) (by decide) (by decide) (by decide) (by decide) ⟨by rw [hs9], hF9, hO9, n9, hn9, hV9⟩
set_option maxHeartbeats 4000000 in
theorem kc_F_merge_thr {g : zx_G} {σ : zx_M} {sz : Nat} {b t e s k p x y lv len nx n0 nx1 m1 : Nat} {wr wr1 : Int32} {W : Nat → Int32} {R0 R1 : Nat → Nat → Int32} (hfl : g.1.flags = pinnedFlags ++ [noTraceFlag]) (hB : zfa g σ b t e s k p x y) (hO : zt g σ t len nx wr lv W) (hlen : len ≤ 3000) (hV : zl g σ lv n0 R0) (htl : t + 2 ≤ lv ∨ lv + 12 ≤ t) (hpar : zt_lines (za W len) len 100 0 0 (-1) R0 = (false, nx1, wr1, R1, m1)) : zMT g cy_F_merge cb_F_merge 1 (Option.some Jvm.ClassFile.FieldType.int) zr_F_merge 1 6 [.ref b] σ sz (fun σ' sz' => sz' = sz + 1 ∧ zfr2 σ σ' t 2 lv 12 ∧ zt g σ' t 0 nx1 wr1 lv W ∧ ∃ n', n' ≤ 100 ∧ zl g σ' lv n' R1) := by
  refine zMT_of (lv := [(0, .ref b)]) (own := "FindingAid") (ini := false) (by decide) rfl (by decide) (Nat.le_of_ble_eq_true rfl) rfl ?_
  refine zg_aload_n 0 cd_F_merge_0 rfl rfl ?_
  refine zg_get zin_F (v := .ref t) (ci := 6) rfl 0 (by decide) zm_272 rfl cd_F_merge_1 hB.1 rfl ?_
  refine zg_callVi (rm' := zr_T_readText) (b := t) (As := []) (rest := []) (kc_T_readText hO hlen hV htl) ⟨rfl, rfl⟩ zy_T_readText_ok zm_530 zm_531 zm_532 (ci := 5) rfl rfl (by decide) (by decide) cd_F_merge_4 hO.1 rfl rfl (Nat.le_of_ble_eq_true rfl) (fun v9 σ9 sz9 hq9 => ?_)
  obtain ⟨hs9, hF9, ok9, nx9, wr9, R9, m9, n9, hX9, rfl, hb9, hok9, hn9, hO9, hV9⟩ := hq9
  have h9 := hpar.symm.trans hX9
  cases h9
  refine zg_if_ne (tgt := 20) cd_F_merge_7 (by decide) (fun c9 => absurd rfl c9) (fun _ => ?_)
  exact zg_throw hfl cd_F_merge_10 cd_F_merge_13 cd_F_merge_14 cd_F_merge_16 cd_F_merge_19 (by decide) (by decide) (by decide) (by decide) (by decide) (by decide) ⟨by rw [hs9], hF9, hO9, n9, hn9, hV9⟩
