abbrev zr_F_sign : Room := { frames := 1, cells := 0, slots := 0, locals := 21 }
set_option maxRecDepth 100000 in
set_option maxHeartbeats 4000000 in
theorem kc_F_sign {g : zx_G} {σ : zx_M} {sz : Nat} {b t e s k p x y : Nat} {len nx lv : Nat} {wr : Int32} {W : Nat → Int32} {ch : Int32} (hB : zfa g σ b t e s k p x y) (hO : zt g σ t len nx wr lv W) (hlen : len ≤ 3000) : zM g cy_F_sign cb_F_sign 2 (Option.none : Option Jvm.ClassFile.FieldType) zr_F_sign 0 0 [.ref b, .int ch] σ sz (zPv (fun σ' sz' => sz' = sz ∧ zfr σ σ' t 2 ∧ zt g σ' t (if len < 3000 then len + 1 else len) nx wr lv (if len < 3000 then upd W len (ch &&& nI 255) else W))) := by
  have hF : zfr σ σ t 2 := zfr.rf
  refine zM_of (lv := [(0, .ref b), (1, .int ch)]) (ini := false) (by decide) rfl (by decide) (Nat.le_of_ble_eq_true rfl) rfl ?_
  refine ze_aload_n 0 cd_F_sign_0 rfl rfl ?_
  refine ze_get zin_F (v := .ref t) (ci := 6) rfl 0 (by decide) zm_272 rfl cd_F_sign_1 hB.1 rfl ?_
  refine ze_iload_n 1 cd_F_sign_4 rfl rfl ?_
  refine ze_sipush (v := nI 255) cd_F_sign_5 (by decide) ?_
  refine ze_iand cd_F_sign_8 ?_
  refine ze_callVv (rm' := zr_T_hear) (b := t) (As := [.int (ch &&& (nI 255))]) (rest := []) (kc_T_hear (ch := ch &&& (nI 255)) hO hlen) ⟨rfl, rfl⟩ zy_T_hear_ok zm_298 zm_299 zm_300 (ci := 5) rfl rfl (by decide) (by decide) cd_F_sign_9 hO.1 rfl rfl (Nat.le_of_ble_eq_true rfl) (fun σ9 sz9 hq9 => ?_)
  obtain ⟨rfl, hF9, h9⟩ := hq9
  have hO := h9
  have hF := hF.trans hF9
  refine ze_vret cd_F_sign_12 rfl (by decide) (by decide) ⟨rfl, rfl, hF, ?_⟩
  exact hO
def zf_ext (n : Nat) (R S : Nat → Nat → Int32) (i u : Int32) : Int32 × (Nat → Nat → Int32) := match zi n i with
  | none => (-1, S)
  | some j => match zi 3 u with
    | none => (-2, S)
    | some q => (zs_w n R S 0 (q * 100 + j), zs_w n R S)
abbrev zr_F_extent : Room := { frames := 3, cells := 0, slots := 0, locals := 69 }
set_option maxRecDepth 100000 in
set_option maxHeartbeats 4000000 in
theorem kc_F_extent {g : zx_G} {σ : zx_M} {sz : Nat} {b t e s k p x y : Nat} {n : Nat} {R : Nat → Nat → Int32} {S : Nat → Nat → Int32} {i u : Int32} (hB : zfa g σ b t e s k p x y) (h : zl g σ x n R) (hn : n ≤ 100) (hS : zs g σ s S) (hxs : x + 12 ≤ s ∨ s + 3 ≤ x) (hbs : b < s ∨ s + 3 ≤ b) : zM g cy_F_extent cb_F_extent 3 (Option.some Jvm.ClassFile.FieldType.int) zr_F_extent 0 0 [.ref b, .int i, .int u] σ sz (zPi (fun v σ' sz' => sz' = sz ∧ zfr σ σ' s 3 ∧ ∃ S', zf_ext n R S i u = (v, S') ∧ zs g σ' s S')) := by
  have hF : zfr σ σ s 3 := zfr.rf
  refine zM_of (lv := [(0, .ref b), (1, .int i), (2, .int u)]) (ini := false) (by decide) rfl (by decide) (Nat.le_of_ble_eq_true rfl) rfl ?_
  refine ze_aload_n 0 cd_F_extent_0 rfl rfl ?_
  refine ze_get zin_F (v := .ref x) (ci := 6) rfl 5 (by decide) zm_277 rfl cd_F_extent_1 hB.1 rfl ?_
  refine ze_iload_n 1 cd_F_extent_4 rfl rfl ?_
  refine ze_callVp (rm' := zr_L_has) (b := x) (As := [.int i]) (rest := []) (kc_L_has h) ⟨rfl, rfl⟩ zy_L_has_ok zm_310 zm_311 zm_312 (ci := 1) rfl rfl (by decide) (by decide) cd_F_extent_5 h.1 rfl rfl (Nat.le_of_ble_eq_true rfl) ?_
  refine ze_if_ne (tgt := 13) cd_F_extent_8 (by decide) (fun c1 => ?_) (fun c1 => ?_)
  · skip
    have c1 : ((zi n i).isSome) = true := zb_t c1
    obtain ⟨j, hj⟩ := Option.isSome_iff_exists.mp c1
    obtain ⟨hjn, rfl⟩ := zi_some (by omega) hj
    refine ze_iload_n 2 cd_F_extent_13 rfl rfl ?_
    refine ze_if_lt (tgt := 22) cd_F_extent_14 (by decide) (fun c2 => ?_) (fun c2 => ?_)
    · skip
      refine ze_bipush (v := (-2 : Int32)) cd_F_extent_22 (by decide) ?_
      refine ze_iret cd_F_extent_24 rfl (by decide) (by decide) ⟨_, rfl, rfl, hF, S, ?_, hS⟩
      first | (simp only [zf_ext, hj, c2]; done) | (simp only [zf_ext, hj, zi_ltz c2]; done) | (simp only [zf_ext, hj, zi_hi c3]; done) | (simp only [zf_ext, hj]; done)
    · skip
      refine ze_iload_n 2 cd_F_extent_17 rfl rfl ?_
      refine ze_iconst (v := nI 3) cd_F_extent_18 (by decide) ?_
      refine ze_icmp_lt (tgt := 25) cd_F_extent_19 (by decide) (fun c3 => ?_) (fun c3 => ?_)
      · skip
        obtain ⟨q, hq, rfl⟩ : ∃ q, zi 3 u = some q ∧ u = nI q := ⟨_, zi_ok2 c2 c3, (zi_some (by omega) (zi_ok2 c2 c3)).2⟩
        have hqn := (zi_some (by omega) hq).1
        refine ze_aload_n 0 cd_F_extent_25 rfl rfl ?_
        refine ze_get zin_F (v := .ref s) (ci := 6) rfl 2 (by decide) zm_274 rfl cd_F_extent_26 hB.1 rfl ?_
        refine ze_aload_n 0 cd_F_extent_29 rfl rfl ?_
        refine ze_get zin_F (v := .ref x) (ci := 6) rfl 5 (by decide) zm_277 rfl cd_F_extent_30 hB.1 rfl ?_
        refine ze_callVv (rm' := zr_S_weigh) (b := s) (As := [.ref x]) (rest := []) (kc_S_weigh hS h (by omega) (by omega)) ⟨rfl, rfl⟩ zy_S_weigh_ok zm_337 zm_338 zm_339 (ci := 4) rfl rfl (by decide) (by decide) cd_F_extent_33 hS.1 rfl rfl (Nat.le_of_ble_eq_true rfl) (fun σ9 sz9 hq9 => ?_)
        obtain ⟨rfl, hF9, h9⟩ := hq9
        have hB := hB.frn hF9 0 rfl (by omega)
        have h := h.frn hF9 11 rfl (by omega)
        have hS := h9
        have hF := hF.trans (hF9.wide (by omega) (by omega))
        refine ze_aload_n 0 cd_F_extent_36 rfl rfl ?_
        refine ze_get zin_F (v := .ref s) (ci := 6) rfl 2 (by decide) zm_274 rfl cd_F_extent_37 hB.1 rfl ?_
        refine ze_iload_n 1 cd_F_extent_40 rfl rfl ?_
        refine ze_iload_n 2 cd_F_extent_41 rfl rfl ?_
        refine ze_callVp (rm' := zr_S_wholeOf) (b := s) (As := [.int (nI j), .int (nI q)]) (rest := []) (kc_S_wholeOf hS (by omega) (by omega)) ⟨rfl, rfl⟩ zy_S_wholeOf_ok zm_349 zm_350 zm_351 (ci := 4) rfl rfl (by decide) (by decide) cd_F_extent_42 hS.1 rfl rfl (Nat.le_of_ble_eq_true rfl) ?_
        refine ze_iret cd_F_extent_45 rfl (by decide) (by decide) ⟨_, rfl, rfl, hF, zs_w n R S, ?_, hS⟩
        first | (simp only [zf_ext, hj, hq]; done) | (simp only [zf_ext, hj, hq, zi_ltz c2]; done) | (simp only [zf_ext, hj, hq, zi_hi c3]; done) | (simp only [zf_ext, hj, hq]; done)
      · skip
        refine ze_bipush (v := (-2 : Int32)) cd_F_extent_22 (by decide) ?_
        refine ze_iret cd_F_extent_24 rfl (by decide) (by decide) ⟨_, rfl, rfl, hF, S, ?_, hS⟩
        first | (simp only [zf_ext, hj, c2, c3]; done) | (simp only [zf_ext, hj, zi_ltz c2]; done) | (simp only [zf_ext, hj, zi_hi c3]; done) | (simp only [zf_ext, hj]; done)
  · skip
    have c1 : ((zi n i).isSome) = false := zb_f c1
    have c1 : zi n i = none := by simpa using c1
    refine ze_iconst (v := (-1 : Int32)) cd_F_extent_11 (by decide) ?_
    refine ze_iret cd_F_extent_12 rfl (by decide) (by decide) ⟨_, rfl, rfl, hF, S, ?_, hS⟩
    first | (simp only [zf_ext, c1]; done) | (simp only [zf_ext, zi_ltz c2]; done) | (simp only [zf_ext, zi_hi c3]; done) | (simp only [zf_ext]; done)
def zf_dif (n : Nat) (R S : Nat → Nat → Int32) (uo : Nat → Option Nat) (i : Int32) : Int32 := zf_pick (fun x => zs_con (zs_w n R S) R x (uo x)) i n 0 0
abbrev zr_F_differ : Room := { frames := 3, cells := 0, slots := 0, locals := 69 }
set_option maxRecDepth 100000 in
set_option maxHeartbeats 4000000 in
theorem kc_F_differ {g : zx_G} {σ : zx_M} {sz : Nat} {b t e s k p x y : Nat} {n : Nat} {R : Nat → Nat → Int32} {S : Nat → Nat → Int32} {uo : Nat → Option Nat} {i : Int32} (hB : zfa g σ b t e s k p x y) (h : zl g σ x n R) (hn : n ≤ 100) (hS : zs g σ s S) (hU : ∀ j, j < n → R 8 j = zo (uo j) ∧ ∀ u, uo j = some u → u < 3) (hxs : x + 12 ≤ s ∨ s + 3 ≤ x) (hbs : b < s ∨ s + 3 ≤ b) : zM g cy_F_differ cb_F_differ 4 (Option.some Jvm.ClassFile.FieldType.int) zr_F_differ 0 0 [.ref b, .int i] σ sz (zPi (fun v σ' sz' => sz' = sz ∧ zfr σ σ' s 3 ∧ v = zf_dif n R S uo i ∧ zs g σ' s (zs_w n R S))) := by
  have hF : zfr σ σ s 3 := zfr.rf
  have loop : ∀ (kk : Nat) (lo f : Nat) (σ1 : zx_M), lo + kk = n → f ≤ lo → zf_pick (fun x => zs_con (zs_w n R S) R x (uo x)) i kk lo f = zf_dif n R S uo i → zfa g σ1 b t e s k p x y → zl g σ1 x n R → zs g σ1 s (zs_w n R S) → zfr σ σ1 s 3 → zE g "FindingAid" cb_F_differ 4 (Option.some Jvm.ClassFile.FieldType.int) false zr_F_differ 0 0 (zPi (fun v σ' sz' => sz' = sz ∧ zfr σ σ' s 3 ∧ v = zf_dif n R S uo i ∧ zs g σ' s (zs_w n R S))) 15 [(3, .int (nI lo)), (2, .int (nI f)), (0, .ref b), (1, .int i)] [] σ1 sz 0 0 := by
    intro kk
    induction kk with
    | zero =>
      intro lo f σ1 hk hf hE hB h hS hF
      refine ze_iload_n 0 cd_F_differ_15 rfl rfl ?_
      refine ze_aload_n 2 cd_F_differ_16 rfl rfl ?_
      refine ze_get zin_F (v := .ref x) (ci := 6) rfl 5 (by decide) zm_277 rfl cd_F_differ_17 hB.1 rfl ?_
      refine ze_get zin_L (v := .int (nI n)) (ci := 1) rfl 0 (by decide) zm_92 rfl cd_F_differ_20 h.1 rfl ?_
      refine ze_icmp_ge (tgt := 57) cd_F_differ_23 (by decide) (fun c2 => ?_) (fun c2 => ?_)
      · skip
        have c2 : n ≤ lo := (nI_leI (by omega) (by omega)).mp c2
        refine ze_iconst (v := (-1 : Int32)) cd_F_differ_57 (by decide) ?_
        refine ze_iret cd_F_differ_58 rfl (by decide) (by decide) ⟨_, rfl, rfl, hF, ?_, hS⟩
        rw [← hE]; first | (simp [zf_pick, c2]; done) | rfl
      · skip
        have c2 : ¬ n ≤ lo := fun h9 => c2 ((nI_leI (by omega) (by omega)).mpr h9)
        exfalso; omega
    | succ kk ih =>
      intro lo f σ1 hk hf hE hB h hS hF
      refine ze_iload_n 0 cd_F_differ_15 rfl rfl ?_
      refine ze_aload_n 2 cd_F_differ_16 rfl rfl ?_
      refine ze_get zin_F (v := .ref x) (ci := 6) rfl 5 (by decide) zm_277 rfl cd_F_differ_17 hB.1 rfl ?_
      refine ze_get zin_L (v := .int (nI n)) (ci := 1) rfl 0 (by decide) zm_92 rfl cd_F_differ_20 h.1 rfl ?_
      refine ze_icmp_ge (tgt := 57) cd_F_differ_23 (by decide) (fun c4 => ?_) (fun c4 => ?_)
      · skip
        have c4 : n ≤ lo := (nI_leI (by omega) (by omega)).mp c4
        exfalso; omega
      · skip
        have c4 : ¬ n ≤ lo := fun h9 => c4 ((nI_leI (by omega) (by omega)).mpr h9)
        refine ze_aload_n 2 cd_F_differ_26 rfl rfl ?_
        refine ze_get zin_F (v := .ref s) (ci := 6) rfl 2 (by decide) zm_274 rfl cd_F_differ_27 hB.1 rfl ?_
        refine ze_aload_n 2 cd_F_differ_30 rfl rfl ?_
        refine ze_get zin_F (v := .ref x) (ci := 6) rfl 5 (by decide) zm_277 rfl cd_F_differ_31 hB.1 rfl ?_
        refine ze_iload_n 0 cd_F_differ_34 rfl rfl ?_
        refine ze_callVp (rm' := zr_S_contradicts) (b := s) (As := [.ref x, .int (nI lo)]) (rest := []) (kc_S_contradicts hS h (by omega) (hU lo (by omega)).1 (hU lo (by omega)).2) ⟨rfl, rfl⟩ zy_S_contradicts_ok zm_357 zm_358 zm_359 (ci := 4) rfl rfl (by decide) (by decide) cd_F_differ_35 hS.1 rfl rfl (Nat.le_of_ble_eq_true rfl) ?_
        refine ze_if_eq (tgt := 51) cd_F_differ_38 (by decide) (fun c5 => ?_) (fun c5 => ?_)
        · skip
          have c5 : (zs_con (zs_w n R S) R lo (uo lo)) = false := zb_f c5
          refine ze_iinc (v := nI (lo + 1)) (lv' := [(3, .int (nI (lo + 1))), (2, .int (nI f)), (0, .ref b), (1, .int i)]) 0 cd_F_differ_51 rfl (nI_add _ 1) (by decide) rfl ?_
          refine ze_goto (tgt := 15) cd_F_differ_54 (by decide) ?_
          exact ze_sub [0, 1, 2, 3] rfl (ih (lo + 1) _ _ (by omega) (by omega) (by rw [← hE]; simp [zf_pick, c5]) hB h hS hF)
        · skip
          have c5 : (zs_con (zs_w n R S) R lo (uo lo)) = true := zb_t c5
          refine ze_iload_n 1 cd_F_differ_41 rfl rfl ?_
          refine ze_iload_n 3 cd_F_differ_42 rfl rfl ?_
          refine ze_icmp_ne (tgt := 48) cd_F_differ_43 (by decide) (fun c6 => ?_) (fun c6 => ?_)
          · skip
            refine ze_iinc (v := nI (f + 1)) (lv' := [(2, .int (nI (f + 1))), (3, .int (nI lo)), (0, .ref b), (1, .int i)]) 1 cd_F_differ_48 rfl (nI_add _ 1) (by decide) rfl ?_
            refine ze_iinc (v := nI (lo + 1)) (lv' := [(3, .int (nI (lo + 1))), (2, .int (nI (f + 1))), (0, .ref b), (1, .int i)]) 1 cd_F_differ_51 rfl (nI_add _ 1) (by decide) rfl ?_
            refine ze_goto (tgt := 15) cd_F_differ_54 (by decide) ?_
            exact ze_sub [0, 1, 2, 3] rfl (ih (lo + 1) _ _ (by omega) (by omega) (by rw [← hE]; simp [zf_pick, c5, c6]) hB h hS hF)
          · skip
            refine ze_iload_n 0 cd_F_differ_46 rfl rfl ?_
            refine ze_iret cd_F_differ_47 rfl (by decide) (by decide) ⟨_, rfl, rfl, hF, ?_, hS⟩
            rw [← hE]; first | (simp [zf_pick, c4, c5, c6]; done) | rfl
  refine zM_of (lv := [(0, .ref b), (1, .int i)]) (ini := false) (by decide) rfl (by decide) (Nat.le_of_ble_eq_true rfl) rfl ?_
  refine ze_aload_n 0 cd_F_differ_0 rfl rfl ?_
  refine ze_get zin_F (v := .ref s) (ci := 6) rfl 2 (by decide) zm_274 rfl cd_F_differ_1 hB.1 rfl ?_
  refine ze_aload_n 0 cd_F_differ_4 rfl rfl ?_
  refine ze_get zin_F (v := .ref x) (ci := 6) rfl 5 (by decide) zm_277 rfl cd_F_differ_5 hB.1 rfl ?_
  refine ze_callVv (rm' := zr_S_weigh) (b := s) (As := [.ref x]) (rest := []) (kc_S_weigh hS h (by omega) (by omega)) ⟨rfl, rfl⟩ zy_S_weigh_ok zm_337 zm_338 zm_339 (ci := 4) rfl rfl (by decide) (by decide) cd_F_differ_8 hS.1 rfl rfl (Nat.le_of_ble_eq_true rfl) (fun σ9 sz9 hq9 => ?_)
  obtain ⟨rfl, hF9, h9⟩ := hq9
  have hB := hB.frn hF9 0 rfl (by omega)
  have h := h.frn hF9 11 rfl (by omega)
  have hS := h9
  have hF := hF.trans (hF9.wide (by omega) (by omega))
  refine ze_iconst (v := nI 0) cd_F_differ_11 (by decide) ?_
  refine ze_istore_n (lv' := [(2, .int (nI 0)), (0, .ref b), (1, .int i)]) cd_F_differ_12 rfl (by decide) rfl ?_
  refine ze_iconst (v := nI 0) cd_F_differ_13 (by decide) ?_
  refine ze_istore_n (lv' := [(3, .int (nI 0)), (2, .int (nI 0)), (0, .ref b), (1, .int i)]) cd_F_differ_14 rfl (by decide) rfl ?_
  exact loop n 0 0 _ (by omega) (by omega) rfl hB h hS hF
abbrev zr_F_twice : Room := { frames := 1, cells := 0, slots := 0, locals := 22 }
set_option maxRecDepth 100000 in
set_option maxHeartbeats 4000000 in
theorem kc_F_twice {g : zx_G} {σ : zx_M} {sz : Nat} {b t e s k p x y : Nat} {n : Nat} {R : Nat → Nat → Int32} {i : Int32} (hB : zfa g σ b t e s k p x y) (h : zl g σ x n R) (hn : n ≤ 100) : zM g cy_F_twice cb_F_twice 4 (Option.some Jvm.ClassFile.FieldType.int) zr_F_twice 0 0 [.ref b, .int i] σ sz (zPp (zf_pick (fun x => zl_rep R x) i n 0 0) σ sz) := by
  generalize hX0 : zf_pick (fun x => zl_rep R x) i n 0 0 = X0
  have loop : ∀ (kk : Nat) (lo f : Nat), lo + kk = n → f ≤ lo → zf_pick (fun x => zl_rep R x) i kk lo f = X0 → zE g "FindingAid" cb_F_twice 4 (Option.some Jvm.ClassFile.FieldType.int) false zr_F_twice 0 0 (zPp X0 σ sz) 4 [(3, .int (nI lo)), (2, .int (nI f)), (0, .ref b), (1, .int i)] [] σ sz 0 0 := by
    intro kk
    induction kk with
    | zero =>
      intro lo f hk hf hE
      refine ze_iload_n 0 cd_F_twice_4 rfl rfl ?_
      refine ze_aload_n 2 cd_F_twice_5 rfl rfl ?_
      refine ze_get zin_F (v := .ref x) (ci := 6) rfl 5 (by decide) zm_277 rfl cd_F_twice_6 hB.1 rfl ?_
      refine ze_get zin_L (v := .int (nI n)) (ci := 1) rfl 0 (by decide) zm_92 rfl cd_F_twice_9 h.1 rfl ?_
      refine ze_icmp_ge (tgt := 42) cd_F_twice_12 (by decide) (fun c2 => ?_) (fun c2 => ?_)
      · skip
        have c2 : n ≤ lo := (nI_leI (by omega) (by omega)).mp c2
        refine ze_iconst (v := (-1 : Int32)) cd_F_twice_42 (by decide) ?_
        refine ze_iret cd_F_twice_43 rfl (by decide) (by decide) (zPp_mk ?_)
        rw [← hE]; first | (simp [zf_pick, c2]; done) | rfl
      · skip
        have c2 : ¬ n ≤ lo := fun h9 => c2 ((nI_leI (by omega) (by omega)).mpr h9)
        exfalso; omega
    | succ kk ih =>
      intro lo f hk hf hE
      refine ze_iload_n 0 cd_F_twice_4 rfl rfl ?_
      refine ze_aload_n 2 cd_F_twice_5 rfl rfl ?_
      refine ze_get zin_F (v := .ref x) (ci := 6) rfl 5 (by decide) zm_277 rfl cd_F_twice_6 hB.1 rfl ?_
      refine ze_get zin_L (v := .int (nI n)) (ci := 1) rfl 0 (by decide) zm_92 rfl cd_F_twice_9 h.1 rfl ?_
      refine ze_icmp_ge (tgt := 42) cd_F_twice_12 (by decide) (fun c4 => ?_) (fun c4 => ?_)
      · skip
        have c4 : n ≤ lo := (nI_leI (by omega) (by omega)).mp c4
        exfalso; omega
      · skip
        have c4 : ¬ n ≤ lo := fun h9 => c4 ((nI_leI (by omega) (by omega)).mpr h9)
        refine ze_aload_n 2 cd_F_twice_15 rfl rfl ?_
        refine ze_get zin_F (v := .ref x) (ci := 6) rfl 5 (by decide) zm_277 rfl cd_F_twice_16 hB.1 rfl ?_
        refine ze_iload_n 0 cd_F_twice_19 rfl rfl ?_
        refine ze_callVp (rm' := zr_L_repeatsNumber) (b := x) (As := [.int (nI lo)]) (rest := []) (kc_L_repeatsNumber h (by omega)) ⟨rfl, rfl⟩ zy_L_repeatsNumber_ok zm_365 zm_366 zm_367 (ci := 1) rfl rfl (by decide) (by decide) cd_F_twice_20 h.1 rfl rfl (Nat.le_of_ble_eq_true rfl) ?_
        refine ze_if_eq (tgt := 36) cd_F_twice_23 (by decide) (fun c5 => ?_) (fun c5 => ?_)
        · skip
          have c5 : (zl_rep R lo) = false := zb_f c5
          refine ze_iinc (v := nI (lo + 1)) (lv' := [(3, .int (nI (lo + 1))), (2, .int (nI f)), (0, .ref b), (1, .int i)]) 0 cd_F_twice_36 rfl (nI_add _ 1) (by decide) rfl ?_
          refine ze_goto (tgt := 4) cd_F_twice_39 (by decide) ?_
          exact ze_sub [0, 1, 2, 3] rfl (ih (lo + 1) _ (by omega) (by omega) (by rw [← hE]; simp [zf_pick, c5]))
        · skip
          have c5 : (zl_rep R lo) = true := zb_t c5
          refine ze_iload_n 1 cd_F_twice_26 rfl rfl ?_
          refine ze_iload_n 3 cd_F_twice_27 rfl rfl ?_
          refine ze_icmp_ne (tgt := 33) cd_F_twice_28 (by decide) (fun c6 => ?_) (fun c6 => ?_)
          · skip
            refine ze_iinc (v := nI (f + 1)) (lv' := [(2, .int (nI (f + 1))), (3, .int (nI lo)), (0, .ref b), (1, .int i)]) 1 cd_F_twice_33 rfl (nI_add _ 1) (by decide) rfl ?_
            refine ze_iinc (v := nI (lo + 1)) (lv' := [(3, .int (nI (lo + 1))), (2, .int (nI (f + 1))), (0, .ref b), (1, .int i)]) 1 cd_F_twice_36 rfl (nI_add _ 1) (by decide) rfl ?_
            refine ze_goto (tgt := 4) cd_F_twice_39 (by decide) ?_
            exact ze_sub [0, 1, 2, 3] rfl (ih (lo + 1) _ (by omega) (by omega) (by rw [← hE]; simp [zf_pick, c5, c6]))
          · skip
            refine ze_iload_n 0 cd_F_twice_31 rfl rfl ?_
            refine ze_iret cd_F_twice_32 rfl (by decide) (by decide) (zPp_mk ?_)
            rw [← hE]; first | (simp [zf_pick, c4, c5, c6]; done) | rfl
  refine zM_of (lv := [(0, .ref b), (1, .int i)]) (ini := false) (by decide) rfl (by decide) (Nat.le_of_ble_eq_true rfl) rfl ?_
  refine ze_iconst (v := nI 0) cd_F_twice_0 (by decide) ?_
  refine ze_istore_n (lv' := [(2, .int (nI 0)), (0, .ref b), (1, .int i)]) cd_F_twice_1 rfl (by decide) rfl ?_
  refine ze_iconst (v := nI 0) cd_F_twice_2 (by decide) ?_
  refine ze_istore_n (lv' := [(3, .int (nI 0)), (2, .int (nI 0)), (0, .ref b), (1, .int i)]) cd_F_twice_3 rfl (by decide) rfl ?_
  exact loop n 0 0 (by omega) (by omega) hX0
def zn_c (N : Nat → Nat → Int32) (i : Nat) : Nat := (N 3 i).toNatClampNeg
def zn_m (N : Nat → Nat → Int32) (i : Nat) : Nat := (N 4 i).toNatClampNeg
/-- how many headings, how many moves a level has -/
def zn_ok (N : Nat → Nat → Int32) : Prop := ∀ i, i < 100 → (N 3 i = nI (zn_c N i) ∧ zn_c N i ≤ 4) ∧ (N 4 i = nI (zn_m N i) ∧ zn_m N i ≤ 5)
abbrev zr_F_named : Room := { frames := 1, cells := 0, slots := 0, locals := 23 }
set_option maxRecDepth 100000 in
set_option maxHeartbeats 4000000 in
theorem kc_F_named {g : zx_G} {σ : zx_M} {sz : Nat} {b t e s k p x y : Nat} {n : Nat} {R : Nat → Nat → Int32} {N : Nat → Nat → Int32} {hd i : Int32} (hB : zfa g σ b t e s k p x y) (h : zl g σ x n R) (hn : n ≤ 100) (hN : zn g σ e N) (hc : zn_ok N) : zM g cy_F_named cb_F_named 5 (Option.some Jvm.ClassFile.FieldType.int) zr_F_named 0 0 [.ref b, .int hd, .int i] σ sz (zPp (zf_pick (fun x => zn_hd N x (zn_c N x) hd) i n 0 0) σ sz) := by
  generalize hX0 : zf_pick (fun x => zn_hd N x (zn_c N x) hd) i n 0 0 = X0
  have loop : ∀ (kk : Nat) (lo f : Nat), lo + kk = n → f ≤ lo → zf_pick (fun x => zn_hd N x (zn_c N x) hd) i kk lo f = X0 → zE g "FindingAid" cb_F_named 5 (Option.some Jvm.ClassFile.FieldType.int) false zr_F_named 0 0 (zPp X0 σ sz) 5 [(4, .int (nI lo)), (3, .int (nI f)), (0, .ref b), (1, .int hd), (2, .int i)] [] σ sz 0 0 := by
    intro kk
    induction kk with
    | zero =>
      intro lo f hk hf hE
      refine ze_iload 0 cd_F_named_5 rfl ?_
      refine ze_aload_n 2 cd_F_named_7 rfl rfl ?_
      refine ze_get zin_F (v := .ref x) (ci := 6) rfl 5 (by decide) zm_277 rfl cd_F_named_8 hB.1 rfl ?_
      refine ze_get zin_L (v := .int (nI n)) (ci := 1) rfl 0 (by decide) zm_92 rfl cd_F_named_11 h.1 rfl ?_
      refine ze_icmp_ge (tgt := 47) cd_F_named_14 (by decide) (fun c2 => ?_) (fun c2 => ?_)
      · skip
        have c2 : n ≤ lo := (nI_leI (by omega) (by omega)).mp c2
        refine ze_iconst (v := (-1 : Int32)) cd_F_named_47 (by decide) ?_
        refine ze_iret cd_F_named_48 rfl (by decide) (by decide) (zPp_mk ?_)
        rw [← hE]; first | (simp [zf_pick, c2]; done) | rfl
      · skip
        have c2 : ¬ n ≤ lo := fun h9 => c2 ((nI_leI (by omega) (by omega)).mpr h9)
        exfalso; omega
    | succ kk ih =>
      intro lo f hk hf hE
      refine ze_iload 0 cd_F_named_5 rfl ?_
      refine ze_aload_n 2 cd_F_named_7 rfl rfl ?_
      refine ze_get zin_F (v := .ref x) (ci := 6) rfl 5 (by decide) zm_277 rfl cd_F_named_8 hB.1 rfl ?_
      refine ze_get zin_L (v := .int (nI n)) (ci := 1) rfl 0 (by decide) zm_92 rfl cd_F_named_11 h.1 rfl ?_
      refine ze_icmp_ge (tgt := 47) cd_F_named_14 (by decide) (fun c4 => ?_) (fun c4 => ?_)
      · skip
        have c4 : n ≤ lo := (nI_leI (by omega) (by omega)).mp c4
        exfalso; omega
      · skip
        have c4 : ¬ n ≤ lo := fun h9 => c4 ((nI_leI (by omega) (by omega)).mpr h9)
        refine ze_aload_n 2 cd_F_named_17 rfl rfl ?_
        refine ze_get zin_F (v := .ref e) (ci := 6) rfl 1 (by decide) zm_273 rfl cd_F_named_18 hB.1 rfl ?_
        refine ze_iload 0 cd_F_named_21 rfl ?_
        refine ze_iload_n 3 cd_F_named_23 rfl rfl ?_
        refine ze_callVp (rm' := zr_N_hasHeading) (b := e) (As := [.int (nI lo), .int hd]) (rest := []) (kc_N_hasHeading hN (by omega) (hc lo (by omega)).1.1 (hc lo (by omega)).1.2) ⟨rfl, rfl⟩ zy_N_hasHeading_ok zm_392 zm_393 zm_394 (ci := 2) rfl rfl (by decide) (by decide) cd_F_named_24 hN.1 rfl rfl (Nat.le_of_ble_eq_true rfl) ?_
        refine ze_if_eq (tgt := 41) cd_F_named_27 (by decide) (fun c5 => ?_) (fun c5 => ?_)
        · skip
          have c5 : (zn_hd N lo (zn_c N lo) hd) = false := zb_f c5
          refine ze_iinc (v := nI (lo + 1)) (lv' := [(4, .int (nI (lo + 1))), (3, .int (nI f)), (0, .ref b), (1, .int hd), (2, .int i)]) 0 cd_F_named_41 rfl (nI_add _ 1) (by decide) rfl ?_
          refine ze_goto (tgt := 5) cd_F_named_44 (by decide) ?_
          exact ze_sub [0, 1, 2, 3, 4] rfl (ih (lo + 1) _ (by omega) (by omega) (by rw [← hE]; simp [zf_pick, c5]))
        · skip
          have c5 : (zn_hd N lo (zn_c N lo) hd) = true := zb_t c5
          refine ze_iload_n 1 cd_F_named_30 rfl rfl ?_
          refine ze_iload_n 4 cd_F_named_31 rfl rfl ?_
          refine ze_icmp_ne (tgt := 38) cd_F_named_32 (by decide) (fun c6 => ?_) (fun c6 => ?_)
          · skip
            refine ze_iinc (v := nI (f + 1)) (lv' := [(3, .int (nI (f + 1))), (4, .int (nI lo)), (0, .ref b), (1, .int hd), (2, .int i)]) 1 cd_F_named_38 rfl (nI_add _ 1) (by decide) rfl ?_
            refine ze_iinc (v := nI (lo + 1)) (lv' := [(4, .int (nI (lo + 1))), (3, .int (nI (f + 1))), (0, .ref b), (1, .int hd), (2, .int i)]) 1 cd_F_named_41 rfl (nI_add _ 1) (by decide) rfl ?_
            refine ze_goto (tgt := 5) cd_F_named_44 (by decide) ?_
            exact ze_sub [0, 1, 2, 3, 4] rfl (ih (lo + 1) _ (by omega) (by omega) (by rw [← hE]; simp [zf_pick, c5, c6]))
          · skip
            refine ze_iload 0 cd_F_named_35 rfl ?_
            refine ze_iret cd_F_named_37 rfl (by decide) (by decide) (zPp_mk ?_)
            rw [← hE]; first | (simp [zf_pick, c4, c5, c6]; done) | rfl
  refine zM_of (lv := [(0, .ref b), (1, .int hd), (2, .int i)]) (ini := false) (by decide) rfl (by decide) (Nat.le_of_ble_eq_true rfl) rfl ?_
  refine ze_iconst (v := nI 0) cd_F_named_0 (by decide) ?_
  refine ze_istore_n (lv' := [(3, .int (nI 0)), (0, .ref b), (1, .int hd), (2, .int i)]) cd_F_named_1 rfl (by decide) rfl ?_
  refine ze_iconst (v := nI 0) cd_F_named_2 (by decide) ?_
  refine ze_istore (lv' := [(4, .int (nI 0)), (3, .int (nI 0)), (0, .ref b), (1, .int hd), (2, .int i)]) cd_F_named_3 (by decide) rfl ?_
  exact loop n 0 0 (by omega) (by omega) hX0
