def zt_plus (c : Nat → Int32) : Nat → Nat → Nat → Nat × Nat
  | 0, d, nx => (d, nx)
  | kk + 1, d, nx => if c nx = nI 43 then zt_plus c kk (d + 1) (nx + 1) else (d, nx)
def zt_dep1 (i : Nat) (q : Nat × Nat) (wr : Int32) (R : Nat → Nat → Int32) : zts := if i = 0 then (true, q.2, wr, zl_bare R i (nI q.1)) else if q.1 = 0 then (false, q.2, nI q.2, R) else (true, q.2, wr, zl_bare R i (nI q.1))
def zt_mo (i : Nat) (R : Nat → Nat → Int32) : Nat := if i = 0 then 0 else min 8 (zl_d R (i - 1) + 1)
def zt_dep (c : Nat → Int32) (i nx : Nat) (wr : Int32) (R : Nat → Nat → Int32) : zts := zt_dep1 i (zt_plus c (zt_mo i R) 0 nx) wr R
theorem zl_bare_9 {R : Nat → Nat → Int32} {i : Nat} {d : Int32} : zl_bare R i d 9 i = nI 0 := by unfold zl_bare; simp [va_up, upd]
theorem zl_bare_3 {R : Nat → Nat → Int32} {i : Nat} {d : Int32} : zl_bare R i d 3 i = d := by unfold zl_bare; simp [va_up, upd]
/-- what the line before must say of its depth -/
def zt_pre (i : Nat) (R : Nat → Nat → Int32) : Prop := 0 < i → R 3 (i - 1) = nI (zl_d R (i - 1)) ∧ zl_d R (i - 1) ≤ 8
theorem zl_d_of {R : Nat → Nat → Int32} {i d : Nat} (h : R 3 i = nI d) (hd : d ≤ 8) : R 3 i = nI (zl_d R i) ∧ zl_d R i ≤ 8 := by
  have h1 : zl_d R i = d := by unfold zl_d; rw [h]; exact nI_clamp (by omega)
  rw [h1]; exact ⟨h, hd⟩
abbrev zr_T_readDepth : Room := { frames := 2, cells := 0, slots := 0, locals := 45 }
set_option maxRecDepth 100000 in
set_option maxHeartbeats 4000000 in
theorem kc_T_readDepth {g : zx_G} {σ : zx_M} {sz : Nat} {t len nx lv : Nat} {wr : Int32} {W : Nat → Int32} {i : Nat} {R : Nat → Nat → Int32} (hO : zt g σ t len nx wr lv W) (hlen : len ≤ 3000) (hnx : nx ≤ 11000) (h : zl g σ lv i R) (htl : t + 2 ≤ lv ∨ lv + 12 ≤ t) (hi : i < 100) (hpre : zt_pre i R) : zM g cy_T_readDepth cb_T_readDepth 4 (Option.some Jvm.ClassFile.FieldType.boolean) zr_T_readDepth 0 0 [.ref t, .int (nI i)] σ sz (zPi (fun v σ' sz' => sz' = sz ∧ zfr2 σ σ' t 2 lv 12 ∧ ∃ ok nx' wr' R' n', zt_dep (za W len) i nx wr R = (ok, nx', wr', R') ∧ v = zb ok ∧ nx' ≤ nx + 8 ∧ (ok = true → n' = i + 1 ∧ R' 9 i = nI 0 ∧ R' 3 i = nI (zl_d R' i) ∧ zl_d R' i ≤ 8) ∧ n' ≤ 100 ∧ zt g σ' t len nx' wr' lv W ∧ zl g σ' lv n' R')) := by
  have hF : zfr2 σ σ t 2 lv 12 := zfr2.rf
  have loop : ∀ (mo : Nat), mo = zt_mo i R → mo ≤ 8 → ∀ (kk d nx1 : Nat) (σ1 : zx_M), d + kk = mo → nx1 ≤ nx + d → zt_plus (za W len) kk d nx1 = zt_plus (za W len) (zt_mo i R) 0 nx → zt g σ1 t len nx1 wr lv W → zl g σ1 lv i R → zfr2 σ σ1 t 2 lv 12 → zE g "FindingAid$TextReader" cb_T_readDepth 4 (Option.some Jvm.ClassFile.FieldType.boolean) false zr_T_readDepth 0 0 (zPi (fun v σ' sz' => sz' = sz ∧ zfr2 σ σ' t 2 lv 12 ∧ ∃ ok nx' wr' R' n', zt_dep (za W len) i nx wr R = (ok, nx', wr', R') ∧ v = zb ok ∧ nx' ≤ nx + 8 ∧ (ok = true → n' = i + 1 ∧ R' 9 i = nI 0 ∧ R' 3 i = nI (zl_d R' i) ∧ zl_d R' i ≤ 8) ∧ n' ≤ 100 ∧ zt g σ' t len nx' wr' lv W ∧ zl g σ' lv n' R')) 29 [(3, .int (nI d)), (2, .int (nI mo)), (0, .ref t), (1, .int (nI i))] [] σ1 sz 0 0 := by
    intro mo hmo hmo8 kk
    induction kk with
    | zero =>
      intro d nx1 σ1 hk hnb hE hO h hF
      refine ze_iload_n 0 cd_T_readDepth_29 rfl rfl ?_
      refine ze_iload_n 1 cd_T_readDepth_30 rfl rfl ?_
      refine ze_icmp_ge (tgt := 60) cd_T_readDepth_31 (by decide) (fun c2 => ?_) (fun c2 => ?_)
      · skip
        have c2 : mo ≤ d := (nI_leI (by omega) (by omega)).mp c2
        refine ze_iload_n 3 cd_T_readDepth_60 rfl rfl ?_
        refine ze_if_le (tgt := 77) cd_T_readDepth_61 (by decide) (fun c3 => ?_) (fun c3 => ?_)
        · skip
          have c3 := c3; rw [← nI_0] at c3
          have c3 : i ≤ 0 := (nI_leI (by omega) (by omega)).mp c3
          refine ze_aload_n 2 cd_T_readDepth_77 rfl rfl ?_
          refine ze_get zin_T (v := .ref lv) (ci := 5) rfl 4 (by decide) zm_169 rfl cd_T_readDepth_78 hO.1 rfl ?_
          refine ze_iload_n 0 cd_T_readDepth_81 rfl rfl ?_
          refine ze_callVv (rm' := zr_L_addBare) (b := lv) (As := [.int (nI d)]) (rest := []) (kc_L_addBare h (by omega)) ⟨rfl, rfl⟩ zy_L_addBare_ok zm_557 zm_558 zm_559 (ci := 1) rfl rfl (by decide) (by decide) cd_T_readDepth_82 h.1 rfl rfl (Nat.le_of_ble_eq_true rfl) (fun σ9 sz9 hq9 => ?_)
          obtain ⟨rfl, hF9, h9⟩ := hq9
          have hO := hO.frn hF9 1 rfl (by omega)
          have h := h9
          have hF := hF.tr1 hF9 (by omega)
          refine ze_iconst (v := nI 1) cd_T_readDepth_85 (by decide) ?_
          refine ze_zret cd_T_readDepth_86 rfl (by decide) (by decide) (by decide) ⟨_, rfl, rfl, hF, true, nx1, wr, zl_bare R i (nI d), i + 1, ?_, (by decide), by omega, fun _ => ⟨rfl, zl_bare_9, zl_d_of zl_bare_3 (by omega)⟩, by omega, hO, h⟩
          unfold zt_dep; rw [← hE]; first | (show zt_dep1 i (d, nx1) wr R = _) | (rw [show zt_plus (za W len) (kk + 1) d nx1 = (d, nx1) from if_neg c3])
          unfold zt_dep1; first | (rw [if_pos (by omega)]; done) | (rw [if_neg (by omega), if_pos (by show d = 0; omega)]; done) | (rw [if_neg (by omega), if_neg (by show ¬ d = 0; omega)]; done)
        · skip
          have c3 := c3; rw [← nI_0] at c3
          have c3 : ¬ i ≤ 0 := fun h9 => c3 ((nI_leI (by omega) (by omega)).mpr h9)
          refine ze_iload_n 0 cd_T_readDepth_64 rfl rfl ?_
          refine ze_if_ne (tgt := 77) cd_T_readDepth_65 (by decide) (fun c4 => ?_) (fun c4 => ?_)
          · skip
            have c4 := c4; rw [← nI_0] at c4
            have c4 : ¬ d = 0 := fun h9 => c4 (by rw [h9])
            refine ze_aload_n 2 cd_T_readDepth_77 rfl rfl ?_
            refine ze_get zin_T (v := .ref lv) (ci := 5) rfl 4 (by decide) zm_169 rfl cd_T_readDepth_78 hO.1 rfl ?_
            refine ze_iload_n 0 cd_T_readDepth_81 rfl rfl ?_
            refine ze_callVv (rm' := zr_L_addBare) (b := lv) (As := [.int (nI d)]) (rest := []) (kc_L_addBare h (by omega)) ⟨rfl, rfl⟩ zy_L_addBare_ok zm_557 zm_558 zm_559 (ci := 1) rfl rfl (by decide) (by decide) cd_T_readDepth_82 h.1 rfl rfl (Nat.le_of_ble_eq_true rfl) (fun σ9 sz9 hq9 => ?_)
            obtain ⟨rfl, hF9, h9⟩ := hq9
            have hO := hO.frn hF9 1 rfl (by omega)
            have h := h9
            have hF := hF.tr1 hF9 (by omega)
            refine ze_iconst (v := nI 1) cd_T_readDepth_85 (by decide) ?_
            refine ze_zret cd_T_readDepth_86 rfl (by decide) (by decide) (by decide) ⟨_, rfl, rfl, hF, true, nx1, wr, zl_bare R i (nI d), i + 1, ?_, (by decide), by omega, fun _ => ⟨rfl, zl_bare_9, zl_d_of zl_bare_3 (by omega)⟩, by omega, hO, h⟩
            unfold zt_dep; rw [← hE]; first | (show zt_dep1 i (d, nx1) wr R = _) | (rw [show zt_plus (za W len) (kk + 1) d nx1 = (d, nx1) from if_neg c3])
            unfold zt_dep1; first | (rw [if_pos (by omega)]; done) | (rw [if_neg (by omega), if_pos (by show d = 0; omega)]; done) | (rw [if_neg (by omega), if_neg (by show ¬ d = 0; omega)]; done)
          · skip
            have c4 := c4; rw [← nI_0] at c4
            have c4 : d = 0 := (nI_eq (by omega) (by omega)).mp c4
            refine ze_aload_n 2 cd_T_readDepth_68 rfl rfl ?_
            refine ze_aload_n 2 cd_T_readDepth_69 rfl rfl ?_
            refine ze_get zin_T (v := .int (nI nx1)) (ci := 5) rfl 2 (by decide) zm_166 rfl cd_T_readDepth_70 hO.1 rfl ?_
            refine ze_callVi (rm' := zr_T_wrongAt) (b := t) (As := [.int (nI nx1)]) (rest := []) (kc_T_wrongAt hO hlen (by omega)) ⟨rfl, rfl⟩ zy_T_wrongAt_ok zm_553 zm_555 zm_14 (ci := 5) rfl rfl (by decide) (by decide) cd_T_readDepth_73 hO.1 rfl rfl (Nat.le_of_ble_eq_true rfl) (fun v9 σ9 sz9 hq9 => ?_)
            obtain ⟨rfl, hF9, ok9, nx9, wr9, hX9, rfl, -, hO9⟩ := hq9
            obtain ⟨rfl, rfl, rfl⟩ : false = ok9 ∧ nx1 = nx9 ∧ nI nx1 = wr9 := by simpa [zt_wr] using hX9
            have h := h.frn hF9 11 rfl (by omega)
            have hO := hO9
            have hF := hF.tr1 hF9 (by omega)
            refine ze_zret cd_T_readDepth_76 rfl (zb_or _) (by decide) (by decide) ⟨_, rfl, rfl, hF, false, nx1, nI nx1, R, i, ?_, rfl, by omega, (fun h9 => absurd h9 (by decide)), by omega, hO, h⟩
            unfold zt_dep; rw [← hE]; first | (show zt_dep1 i (d, nx1) wr R = _) | (rw [show zt_plus (za W len) (kk + 1) d nx1 = (d, nx1) from if_neg c3])
            unfold zt_dep1; first | (rw [if_pos (by omega)]; done) | (rw [if_neg (by omega), if_pos (by show d = 0; omega)]; done) | (rw [if_neg (by omega), if_neg (by show ¬ d = 0; omega)]; done)
      · skip
        have c2 : ¬ mo ≤ d := fun h9 => c2 ((nI_leI (by omega) (by omega)).mpr h9)
        exfalso; omega
    | succ kk ih =>
      intro d nx1 σ1 hk hnb hE hO h hF
      refine ze_iload_n 0 cd_T_readDepth_29 rfl rfl ?_
      refine ze_iload_n 1 cd_T_readDepth_30 rfl rfl ?_
      refine ze_icmp_ge (tgt := 60) cd_T_readDepth_31 (by decide) (fun c6 => ?_) (fun c6 => ?_)
      · skip
        have c6 : mo ≤ d := (nI_leI (by omega) (by omega)).mp c6
        exfalso; omega
      · skip
        have c6 : ¬ mo ≤ d := fun h9 => c6 ((nI_leI (by omega) (by omega)).mpr h9)
        refine ze_aload_n 2 cd_T_readDepth_34 rfl rfl ?_
        refine ze_iconst (v := nI 0) cd_T_readDepth_35 (by decide) ?_
        refine ze_callVp (rm' := zr_T_ahead) (b := t) (As := [.int (nI 0)]) (rest := []) (kc_T_ahead (W := W) hO hlen (by omega) (by omega)) ⟨rfl, rfl⟩ zy_T_ahead_ok zm_549 zm_551 zm_13 (ci := 5) rfl rfl (by decide) (by decide) cd_T_readDepth_36 hO.1 rfl rfl (Nat.le_of_ble_eq_true rfl) ?_
        refine ze_bipush (v := nI 43) cd_T_readDepth_39 (by decide) ?_
        refine ze_icmp_ne (tgt := 60) cd_T_readDepth_41 (by decide) (fun c7 => ?_) (fun c7 => ?_)
        · skip
          refine ze_iload_n 3 cd_T_readDepth_60 rfl rfl ?_
          refine ze_if_le (tgt := 77) cd_T_readDepth_61 (by decide) (fun c8 => ?_) (fun c8 => ?_)
          · skip
            have c8 := c8; rw [← nI_0] at c8
            have c8 : i ≤ 0 := (nI_leI (by omega) (by omega)).mp c8
            refine ze_aload_n 2 cd_T_readDepth_77 rfl rfl ?_
            refine ze_get zin_T (v := .ref lv) (ci := 5) rfl 4 (by decide) zm_169 rfl cd_T_readDepth_78 hO.1 rfl ?_
            refine ze_iload_n 0 cd_T_readDepth_81 rfl rfl ?_
            refine ze_callVv (rm' := zr_L_addBare) (b := lv) (As := [.int (nI d)]) (rest := []) (kc_L_addBare h (by omega)) ⟨rfl, rfl⟩ zy_L_addBare_ok zm_557 zm_558 zm_559 (ci := 1) rfl rfl (by decide) (by decide) cd_T_readDepth_82 h.1 rfl rfl (Nat.le_of_ble_eq_true rfl) (fun σ9 sz9 hq9 => ?_)
            obtain ⟨rfl, hF9, h9⟩ := hq9
            have hO := hO.frn hF9 1 rfl (by omega)
            have h := h9
            have hF := hF.tr1 hF9 (by omega)
            refine ze_iconst (v := nI 1) cd_T_readDepth_85 (by decide) ?_
            refine ze_zret cd_T_readDepth_86 rfl (by decide) (by decide) (by decide) ⟨_, rfl, rfl, hF, true, nx1, wr, zl_bare R i (nI d), i + 1, ?_, (by decide), by omega, fun _ => ⟨rfl, zl_bare_9, zl_d_of zl_bare_3 (by omega)⟩, by omega, hO, h⟩
            unfold zt_dep; rw [← hE]; first | (show zt_dep1 i (d, nx1) wr R = _) | (rw [show zt_plus (za W len) (kk + 1) d nx1 = (d, nx1) from if_neg c7])
            unfold zt_dep1; first | (rw [if_pos (by omega)]; done) | (rw [if_neg (by omega), if_pos (by show d = 0; omega)]; done) | (rw [if_neg (by omega), if_neg (by show ¬ d = 0; omega)]; done)
          · skip
            have c8 := c8; rw [← nI_0] at c8
            have c8 : ¬ i ≤ 0 := fun h9 => c8 ((nI_leI (by omega) (by omega)).mpr h9)
            refine ze_iload_n 0 cd_T_readDepth_64 rfl rfl ?_
            refine ze_if_ne (tgt := 77) cd_T_readDepth_65 (by decide) (fun c9 => ?_) (fun c9 => ?_)
            · skip
              have c9 := c9; rw [← nI_0] at c9
              have c9 : ¬ d = 0 := fun h9 => c9 (by rw [h9])
              refine ze_aload_n 2 cd_T_readDepth_77 rfl rfl ?_
              refine ze_get zin_T (v := .ref lv) (ci := 5) rfl 4 (by decide) zm_169 rfl cd_T_readDepth_78 hO.1 rfl ?_
              refine ze_iload_n 0 cd_T_readDepth_81 rfl rfl ?_
              refine ze_callVv (rm' := zr_L_addBare) (b := lv) (As := [.int (nI d)]) (rest := []) (kc_L_addBare h (by omega)) ⟨rfl, rfl⟩ zy_L_addBare_ok zm_557 zm_558 zm_559 (ci := 1) rfl rfl (by decide) (by decide) cd_T_readDepth_82 h.1 rfl rfl (Nat.le_of_ble_eq_true rfl) (fun σ9 sz9 hq9 => ?_)
              obtain ⟨rfl, hF9, h9⟩ := hq9
              have hO := hO.frn hF9 1 rfl (by omega)
              have h := h9
              have hF := hF.tr1 hF9 (by omega)
              refine ze_iconst (v := nI 1) cd_T_readDepth_85 (by decide) ?_
              refine ze_zret cd_T_readDepth_86 rfl (by decide) (by decide) (by decide) ⟨_, rfl, rfl, hF, true, nx1, wr, zl_bare R i (nI d), i + 1, ?_, (by decide), by omega, fun _ => ⟨rfl, zl_bare_9, zl_d_of zl_bare_3 (by omega)⟩, by omega, hO, h⟩
              unfold zt_dep; rw [← hE]; first | (show zt_dep1 i (d, nx1) wr R = _) | (rw [show zt_plus (za W len) (kk + 1) d nx1 = (d, nx1) from if_neg c7])
              unfold zt_dep1; first | (rw [if_pos (by omega)]; done) | (rw [if_neg (by omega), if_pos (by show d = 0; omega)]; done) | (rw [if_neg (by omega), if_neg (by show ¬ d = 0; omega)]; done)
            · skip
              have c9 := c9; rw [← nI_0] at c9
              have c9 : d = 0 := (nI_eq (by omega) (by omega)).mp c9
              refine ze_aload_n 2 cd_T_readDepth_68 rfl rfl ?_
              refine ze_aload_n 2 cd_T_readDepth_69 rfl rfl ?_
              refine ze_get zin_T (v := .int (nI nx1)) (ci := 5) rfl 2 (by decide) zm_166 rfl cd_T_readDepth_70 hO.1 rfl ?_
              refine ze_callVi (rm' := zr_T_wrongAt) (b := t) (As := [.int (nI nx1)]) (rest := []) (kc_T_wrongAt hO hlen (by omega)) ⟨rfl, rfl⟩ zy_T_wrongAt_ok zm_553 zm_555 zm_14 (ci := 5) rfl rfl (by decide) (by decide) cd_T_readDepth_73 hO.1 rfl rfl (Nat.le_of_ble_eq_true rfl) (fun v9 σ9 sz9 hq9 => ?_)
              obtain ⟨rfl, hF9, ok9, nx9, wr9, hX9, rfl, -, hO9⟩ := hq9
              obtain ⟨rfl, rfl, rfl⟩ : false = ok9 ∧ nx1 = nx9 ∧ nI nx1 = wr9 := by simpa [zt_wr] using hX9
              have h := h.frn hF9 11 rfl (by omega)
              have hO := hO9
              have hF := hF.tr1 hF9 (by omega)
              refine ze_zret cd_T_readDepth_76 rfl (zb_or _) (by decide) (by decide) ⟨_, rfl, rfl, hF, false, nx1, nI nx1, R, i, ?_, rfl, by omega, (fun h9 => absurd h9 (by decide)), by omega, hO, h⟩
              unfold zt_dep; rw [← hE]; first | (show zt_dep1 i (d, nx1) wr R = _) | (rw [show zt_plus (za W len) (kk + 1) d nx1 = (d, nx1) from if_neg c7])
              unfold zt_dep1; first | (rw [if_pos (by omega)]; done) | (rw [if_neg (by omega), if_pos (by show d = 0; omega)]; done) | (rw [if_neg (by omega), if_neg (by show ¬ d = 0; omega)]; done)
        · skip
          refine ze_iinc (v := nI (d + 1)) (lv' := [(3, .int (nI (d + 1))), (2, .int (nI mo)), (0, .ref t), (1, .int (nI i))]) 0 cd_T_readDepth_44 rfl (nI_add _ 1) (by decide) rfl ?_
          refine ze_aload_n 2 cd_T_readDepth_47 rfl rfl ?_
          refine ze_dup cd_T_readDepth_48 rfl ?_
          refine ze_get zin_T (v := .int (nI nx1)) (ci := 5) rfl 2 (by decide) zm_166 rfl cd_T_readDepth_49 hO.1 rfl ?_
          refine ze_iconst (v := nI 1) cd_T_readDepth_52 (by decide) ?_
          refine ze_iadd cd_T_readDepth_53 ?_
          refine ze_top (y := nI (nx1 + 1)) (nI_add _ _) ?_
          refine ze_put zin_T zy_T zt_T zn_T (ci := 5) rfl 2 (by decide) zm_166 rfl (Or.inl rfl) cd_T_readDepth_54 hO.1 rfl rfl (Nat.le_of_ble_eq_true rfl) (fs' := [.ref (t + 1), .int (nI len), .int (nI (nx1 + 1)), .int wr, .ref lv]) rfl ?_
          have hO := hO.put (fs' := [.ref (t + 1), .int (nI len), .int (nI (nx1 + 1)), .int wr, .ref lv])
          have h := h.upn (b := t) (e := .inr (5, [.ref (t + 1), .int (nI len), .int (nI (nx1 + 1)), .int wr, .ref lv])) 11 rfl (by omega)
          have hF := hF.up (a := t) (e := .inr (5, [.ref (t + 1), .int (nI len), .int (nI (nx1 + 1)), .int wr, .ref lv])) (by omega)
          refine ze_goto (tgt := 29) cd_T_readDepth_57 (by decide) ?_
          exact ze_sub [0, 1, 2, 3] rfl (ih (d + 1) _ _ (by omega) (by omega) (by rw [← hE]; exact (if_pos c7).symm) hO h hF)
  refine zM_of (lv := [(0, .ref t), (1, .int (nI i))]) (ini := false) (by decide) rfl (by decide) (Nat.le_of_ble_eq_true rfl) rfl ?_
  refine ze_iload_n 1 cd_T_readDepth_0 rfl rfl ?_
  refine ze_if_ne (tgt := 8) cd_T_readDepth_1 (by decide) (fun c10 => ?_) (fun c10 => ?_)
  · skip
    have c10 := c10; rw [← nI_0] at c10
    have c10 : ¬ i = 0 := fun h9 => c10 (by rw [h9])
    have hp8 := (hpre (by omega)).2
    refine ze_bipush (v := nI 8) cd_T_readDepth_8 (by decide) ?_
    refine ze_aload_n 0 cd_T_readDepth_10 rfl rfl ?_
    refine ze_get zin_T (v := .ref lv) (ci := 5) rfl 4 (by decide) zm_169 rfl cd_T_readDepth_11 hO.1 rfl ?_
    refine ze_get zin_L (v := .ref (lv + 4)) (ci := 1) rfl 4 (by decide) zm_110 rfl cd_T_readDepth_14 h.1 rfl ?_
    refine ze_iload_n 1 cd_T_readDepth_17 rfl rfl ?_
    refine ze_iconst (v := nI 1) cd_T_readDepth_18 (by decide) ?_
    refine ze_isub cd_T_readDepth_19 ?_
    refine ze_top (y := nI (i - 1)) (pk_sub (by omega)) ?_
    refine ze_iald (j := i - 1) cd_T_readDepth_20 (h.2 3 _ rfl) rfl (by omega) (by decide) ?_
    refine ze_top (hpre (by omega)).1 ?_
    refine ze_iconst (v := nI 1) cd_T_readDepth_21 (by decide) ?_
    refine ze_iadd cd_T_readDepth_22 ?_
    refine ze_top (y := nI ((zl_d R (i - 1)) + 1)) (nI_add _ _) ?_
    refine ze_mmin zm_546 cd_T_readDepth_23 (by decide) (Nat.le_of_ble_eq_true rfl) (by decide) ?_
    refine ze_top (y := nI (min 8 ((zl_d R (i - 1)) + 1))) (zmin_n (by omega) (by omega)) ?_
    refine ze_istore_n (lv' := [(2, .int (nI (min 8 ((zl_d R (i - 1)) + 1)))), (0, .ref t), (1, .int (nI i))]) cd_T_readDepth_26 rfl (by decide) rfl ?_
    refine ze_iconst (v := nI 0) cd_T_readDepth_27 (by decide) ?_
    refine ze_istore_n (lv' := [(3, .int (nI 0)), (2, .int (nI (min 8 ((zl_d R (i - 1)) + 1)))), (0, .ref t), (1, .int (nI i))]) cd_T_readDepth_28 rfl (by decide) rfl ?_
    exact ze_sub [0, 1, 2, 3] rfl (loop (min 8 ((zl_d R (i - 1)) + 1)) (by first | (rw [zt_mo, if_pos (by omega)]) | (rw [zt_mo, if_neg (by omega)])) (by omega) (min 8 ((zl_d R (i - 1)) + 1)) 0 nx _ (by omega) (by omega) (by first | (rw [zt_mo, if_pos (by omega)]) | (rw [zt_mo, if_neg (by omega)])) hO h hF)
  · skip
    have c10 := c10; rw [← nI_0] at c10
    have c10 : i = 0 := (nI_eq (by omega) (by omega)).mp c10
    refine ze_iconst (v := nI 0) cd_T_readDepth_4 (by decide) ?_
    refine ze_goto (tgt := 26) cd_T_readDepth_5 (by decide) ?_
    refine ze_istore_n (lv' := [(2, .int (nI 0)), (0, .ref t), (1, .int (nI i))]) cd_T_readDepth_26 rfl (by decide) rfl ?_
    refine ze_iconst (v := nI 0) cd_T_readDepth_27 (by decide) ?_
    refine ze_istore_n (lv' := [(3, .int (nI 0)), (2, .int (nI 0)), (0, .ref t), (1, .int (nI i))]) cd_T_readDepth_28 rfl (by decide) rfl ?_
    exact ze_sub [0, 1, 2, 3] rfl (loop (0) (by first | (rw [zt_mo, if_pos (by omega)]) | (rw [zt_mo, if_neg (by omega)])) (by omega) (0) 0 nx _ (by omega) (by omega) (by first | (rw [zt_mo, if_pos (by omega)]) | (rw [zt_mo, if_neg (by omega)])) hO h hF)
def zt_line (c : Nat → Int32) (i nx : Nat) (wr : Int32) (R : Nat → Nat → Int32) : zts := match zt_dep c i nx wr R with
  | (false, nx1, wr1, R1) => (false, nx1, wr1, R1)
  | (true, nx1, wr1, R1) => match zt_kind c (i + 1) i nx1 wr1 R1 with
    | (false, nx2, wr2, R2) => (false, nx2, wr2, R2)
    | (true, nx2, wr2, R2) => match zt_num c i nx2 wr2 R2 with
      | (false, nx3, wr3, R3) => (false, nx3, wr3, R3)
      | (true, nx3, wr3, R3) => match zt_title c i nx3 wr3 R3 with
        | (false, nx4, wr4, R4) => (false, nx4, wr4, R4)
        | (true, nx4, wr4, R4) => match zt_date c i nx4 wr4 R4 with
          | (false, nx5, wr5, R5) => (false, nx5, wr5, R5)
          | (true, nx5, wr5, R5) => match zt_ext c i nx5 wr5 R5 with
            | (false, nx6, wr6, R6) => (false, nx6, wr6, R6)
            | (true, nx6, wr6, R6) => match zt_exp c (nI 10) nx6 wr6 with
              | (ok, nx7, wr7) => (ok, nx7, wr7, R6)
abbrev zr_T_readLine : Room := { frames := 3, cells := 0, slots := 0, locals := 69 }
set_option maxRecDepth 100000 in
set_option maxHeartbeats 4000000 in
theorem kc_T_readLine {g : zx_G} {σ : zx_M} {sz : Nat} {t len nx lv : Nat} {wr : Int32} {W : Nat → Int32} {i : Nat} {R : Nat → Nat → Int32} (hO : zt g σ t len nx wr lv W) (hlen : len ≤ 3000) (hnx : nx ≤ 11000) (h : zl g σ lv i R) (htl : t + 2 ≤ lv ∨ lv + 12 ≤ t) (hi : i < 100) (hpre : zt_pre i R) : zM g cy_T_readLine cb_T_readLine 2 (Option.some Jvm.ClassFile.FieldType.boolean) zr_T_readLine 0 0 [.ref t, .int (nI i)] σ sz (zPi (fun v σ' sz' => sz' = sz ∧ zfr2 σ σ' t 2 lv 12 ∧ ∃ ok nx' wr' R' n', zt_line (za W len) i nx wr R = (ok, nx', wr', R') ∧ v = zb ok ∧ nx' ≤ nx + 55 ∧ (ok = true → n' = i + 1 ∧ R' 3 i = nI (zl_d R' i) ∧ zl_d R' i ≤ 8) ∧ n' ≤ 100 ∧ zt g σ' t len nx' wr' lv W ∧ zl g σ' lv n' R')) := by
  have hF : zfr2 σ σ t 2 lv 12 := zfr2.rf
  refine zM_of (lv := [(0, .ref t), (1, .int (nI i))]) (ini := false) (by decide) rfl (by decide) (Nat.le_of_ble_eq_true rfl) rfl ?_
  refine ze_aload_n 0 cd_T_readLine_0 rfl rfl ?_
  refine ze_iload_n 1 cd_T_readLine_1 rfl rfl ?_
  refine ze_callVi (rm' := zr_T_readDepth) (b := t) (As := [.int (nI i)]) (rest := []) (kc_T_readDepth hO hlen (by omega) h htl (by omega) hpre) ⟨rfl, rfl⟩ zy_T_readDepth_ok zm_542 zm_544 zm_12 (ci := 5) rfl rfl (by decide) (by decide) cd_T_readLine_2 hO.1 rfl rfl (Nat.le_of_ble_eq_true rfl) (fun v9 σ9 sz9 hq9 => ?_)
  obtain ⟨rfl, hF9, ok1, nx1, wr1, R1, n1, hX1, rfl, hb1, hE1, hn1, hO9, h9⟩ := hq9
  have hO := hO9
  have h := h9
  have hF := hF.trans hF9
  refine ze_if_eq (tgt := 61) cd_T_readLine_5 (by decide) (fun c2 => ?_) (fun c2 => ?_)
  · skip
    have c2 : ok1 = false := zb_f c2
    subst c2
    refine ze_iconst (v := nI 0) cd_T_readLine_61 (by decide) ?_
    refine ze_zret cd_T_readLine_62 rfl (by decide) (by decide) (by decide) ⟨_, rfl, rfl, hF, false, nx1, wr1, R1, n1, ?_, (by decide), by omega, (fun h9 => absurd h9 (by decide)), by omega, hO, h⟩
    simp only [zt_line, hX1]
  · skip
    have c2 : ok1 = true := zb_t c2
    subst c2
    obtain ⟨rfl, h90, hd3, hd8⟩ := hE1 rfl
    have hd3 := (⟨hd3, hd8⟩ : R1 3 i = nI (zl_d R1 i) ∧ zl_d R1 i ≤ 8)
    refine ze_aload_n 0 cd_T_readLine_8 rfl rfl ?_
    refine ze_iload_n 1 cd_T_readLine_9 rfl rfl ?_
    refine ze_callVi (rm' := zr_T_readKind) (b := t) (As := [.int (nI i)]) (rest := []) (kc_T_readKind (i := i) hO hlen (by omega) h htl (by omega) (by omega)) ⟨rfl, rfl⟩ zy_T_readKind_ok zm_565 zm_567 zm_16 (ci := 5) rfl rfl (by decide) (by decide) cd_T_readLine_10 hO.1 rfl rfl (Nat.le_of_ble_eq_true rfl) (fun v9 σ9 sz9 hq9 => ?_)
    obtain ⟨rfl, hF9, ok3, nx3, wr3, R3, hX3, rfl, hb3, hE3, hO9, h9⟩ := hq9
    have hO := hO9
    have h := h9
    have hF := hF.trans hF9
    refine ze_if_eq (tgt := 61) cd_T_readLine_13 (by decide) (fun c4 => ?_) (fun c4 => ?_)
    · skip
      have c4 : ok3 = false := zb_f c4
      subst c4
      refine ze_iconst (v := nI 0) cd_T_readLine_61 (by decide) ?_
      refine ze_zret cd_T_readLine_62 rfl (by decide) (by decide) (by decide) ⟨_, rfl, rfl, hF, false, nx3, wr3, R3, i + 1, ?_, (by decide), by omega, (fun h9 => absurd h9 (by decide)), by omega, hO, h⟩
      simp only [zt_line, hX1, hX3]
    · skip
      have c4 : ok3 = true := zb_t c4
      subst c4
      have h90 : R3 9 i = nI 0 := by rw [hE3.1]; exact h90
      have hd3 : R3 3 i = nI (zl_d R3 i) ∧ zl_d R3 i ≤ 8 := by (unfold zl_d at hd3 ⊢; rw [hE3.2]; exact hd3)
      refine ze_aload_n 0 cd_T_readLine_16 rfl rfl ?_
      refine ze_iload_n 1 cd_T_readLine_17 rfl rfl ?_
      refine ze_callVi (rm' := zr_T_readNumber) (b := t) (As := [.int (nI i)]) (rest := []) (kc_T_readNumber (i := i) hO hlen (by omega) h htl (by omega)) ⟨rfl, rfl⟩ zy_T_readNumber_ok zm_574 zm_576 zm_17 (ci := 5) rfl rfl (by decide) (by decide) cd_T_readLine_18 hO.1 rfl rfl (Nat.le_of_ble_eq_true rfl) (fun v9 σ9 sz9 hq9 => ?_)
      obtain ⟨rfl, hF9, ok5, nx5, wr5, R5, hX5, rfl, hb5, hE5, hO9, h9⟩ := hq9
      have hO := hO9
      have h := h9
      have hF := hF.trans hF9
      refine ze_if_eq (tgt := 61) cd_T_readLine_21 (by decide) (fun c6 => ?_) (fun c6 => ?_)
      · skip
        have c6 : ok5 = false := zb_f c6
        subst c6
        refine ze_iconst (v := nI 0) cd_T_readLine_61 (by decide) ?_
        refine ze_zret cd_T_readLine_62 rfl (by decide) (by decide) (by decide) ⟨_, rfl, rfl, hF, false, nx5, wr5, R5, i + 1, ?_, (by decide), by omega, (fun h9 => absurd h9 (by decide)), by omega, hO, h⟩
        simp only [zt_line, hX1, hX3, hX5]
      · skip
        have c6 : ok5 = true := zb_t c6
        subst c6
        have h90 : R5 9 i = nI 0 := by rw [hE5.1]; exact h90
        have hd3 : R5 3 i = nI (zl_d R5 i) ∧ zl_d R5 i ≤ 8 := by (unfold zl_d at hd3 ⊢; rw [hE5.2]; exact hd3)
        refine ze_aload_n 0 cd_T_readLine_24 rfl rfl ?_
        refine ze_iload_n 1 cd_T_readLine_25 rfl rfl ?_
        refine ze_callVi (rm' := zr_T_readTitle) (b := t) (As := [.int (nI i)]) (rest := []) (kc_T_readTitle (i := i) hO hlen (by omega) h htl (by omega) h90) ⟨rfl, rfl⟩ zy_T_readTitle_ok zm_585 zm_587 zm_19 (ci := 5) rfl rfl (by decide) (by decide) cd_T_readLine_26 hO.1 rfl rfl (Nat.le_of_ble_eq_true rfl) (fun v9 σ9 sz9 hq9 => ?_)
        obtain ⟨rfl, hF9, ok7, nx7, wr7, R7, hX7, rfl, hb7, hE7, hO9, h9⟩ := hq9
        have hO := hO9
        have h := h9
        have hF := hF.trans hF9
        refine ze_if_eq (tgt := 61) cd_T_readLine_29 (by decide) (fun c8 => ?_) (fun c8 => ?_)
        · skip
          have c8 : ok7 = false := zb_f c8
          subst c8
          refine ze_iconst (v := nI 0) cd_T_readLine_61 (by decide) ?_
          refine ze_zret cd_T_readLine_62 rfl (by decide) (by decide) (by decide) ⟨_, rfl, rfl, hF, false, nx7, wr7, R7, i + 1, ?_, (by decide), by omega, (fun h9 => absurd h9 (by decide)), by omega, hO, h⟩
          simp only [zt_line, hX1, hX3, hX5, hX7]
        · skip
          have c8 : ok7 = true := zb_t c8
          subst c8
          have hd3 : R7 3 i = nI (zl_d R7 i) ∧ zl_d R7 i ≤ 8 := by (unfold zl_d at hd3 ⊢; rw [hE7]; exact hd3)
          refine ze_aload_n 0 cd_T_readLine_32 rfl rfl ?_
          refine ze_iload_n 1 cd_T_readLine_33 rfl rfl ?_
          refine ze_callVi (rm' := zr_T_readDate) (b := t) (As := [.int (nI i)]) (rest := []) (kc_T_readDate (i := i) hO hlen (by omega) h htl (by omega)) ⟨rfl, rfl⟩ zy_T_readDate_ok zm_597 zm_599 zm_21 (ci := 5) rfl rfl (by decide) (by decide) cd_T_readLine_34 hO.1 rfl rfl (Nat.le_of_ble_eq_true rfl) (fun v9 σ9 sz9 hq9 => ?_)
          obtain ⟨rfl, hF9, ok9, nx9, wr9, R9, hX9, rfl, hb9, hE9, hO9, h9⟩ := hq9
          have hO := hO9
          have h := h9
          have hF := hF.trans hF9
          refine ze_if_eq (tgt := 61) cd_T_readLine_37 (by decide) (fun c10 => ?_) (fun c10 => ?_)
          · skip
            have c10 : ok9 = false := zb_f c10
            subst c10
            refine ze_iconst (v := nI 0) cd_T_readLine_61 (by decide) ?_
            refine ze_zret cd_T_readLine_62 rfl (by decide) (by decide) (by decide) ⟨_, rfl, rfl, hF, false, nx9, wr9, R9, i + 1, ?_, (by decide), by omega, (fun h9 => absurd h9 (by decide)), by omega, hO, h⟩
            simp only [zt_line, hX1, hX3, hX5, hX7, hX9]
          · skip
            have c10 : ok9 = true := zb_t c10
            subst c10
            have hd3 : R9 3 i = nI (zl_d R9 i) ∧ zl_d R9 i ≤ 8 := by (unfold zl_d at hd3 ⊢; rw [hE9]; exact hd3)
            refine ze_aload_n 0 cd_T_readLine_40 rfl rfl ?_
            refine ze_iload_n 1 cd_T_readLine_41 rfl rfl ?_
            refine ze_callVi (rm' := zr_T_readExtent) (b := t) (As := [.int (nI i)]) (rest := []) (kc_T_readExtent (i := i) hO hlen (by omega) h htl (by omega)) ⟨rfl, rfl⟩ zy_T_readExtent_ok zm_605 zm_607 zm_23 (ci := 5) rfl rfl (by decide) (by decide) cd_T_readLine_42 hO.1 rfl rfl (Nat.le_of_ble_eq_true rfl) (fun v9 σ9 sz9 hq9 => ?_)
            obtain ⟨rfl, hF9, ok11, nx11, wr11, R11, hX11, rfl, hb11, hE11, hO9, h9⟩ := hq9
            have hO := hO9
            have h := h9
            have hF := hF.trans hF9
            refine ze_if_eq (tgt := 61) cd_T_readLine_45 (by decide) (fun c12 => ?_) (fun c12 => ?_)
            · skip
              have c12 : ok11 = false := zb_f c12
              subst c12
              refine ze_iconst (v := nI 0) cd_T_readLine_61 (by decide) ?_
              refine ze_zret cd_T_readLine_62 rfl (by decide) (by decide) (by decide) ⟨_, rfl, rfl, hF, false, nx11, wr11, R11, i + 1, ?_, (by decide), by omega, (fun h9 => absurd h9 (by decide)), by omega, hO, h⟩
              simp only [zt_line, hX1, hX3, hX5, hX7, hX9, hX11]
            · skip
              have c12 : ok11 = true := zb_t c12
              subst c12
              have hd3 : R11 3 i = nI (zl_d R11 i) ∧ zl_d R11 i ≤ 8 := by (unfold zl_d at hd3 ⊢; rw [hE11]; exact hd3)
              refine ze_aload_n 0 cd_T_readLine_48 rfl rfl ?_
              refine ze_bipush (v := nI 10) cd_T_readLine_49 (by decide) ?_
              refine ze_callVi (rm' := zr_T_expect) (b := t) (As := [.int (nI 10)]) (rest := []) (kc_T_expect (x := nI 10) hO hlen (by omega)) ⟨rfl, rfl⟩ zy_T_expect_ok zm_589 zm_591 zm_20 (ci := 5) rfl rfl (by decide) (by decide) cd_T_readLine_51 hO.1 rfl rfl (Nat.le_of_ble_eq_true rfl) (fun v9 σ9 sz9 hq9 => ?_)
              obtain ⟨rfl, hF9, ok13, nx13, wr13, hX13, rfl, hb13, hO9⟩ := hq9
              have h := h.frn hF9 11 rfl (by omega)
              have hO := hO9
              have hF := hF.tr1 hF9 (by omega)
              refine ze_if_eq (tgt := 61) cd_T_readLine_54 (by decide) (fun c14 => ?_) (fun c14 => ?_)
              · skip
                have c14 : ok13 = false := zb_f c14
                subst c14
                refine ze_iconst (v := nI 0) cd_T_readLine_61 (by decide) ?_
                refine ze_zret cd_T_readLine_62 rfl (by decide) (by decide) (by decide) ⟨_, rfl, rfl, hF, false, nx13, wr13, R11, i + 1, ?_, (by decide), by omega, (fun h9 => absurd h9 (by decide)), by omega, hO, h⟩
                simp only [zt_line, hX1, hX3, hX5, hX7, hX9, hX11, hX13]
              · skip
                have c14 : ok13 = true := zb_t c14
                subst c14
                refine ze_iconst (v := nI 1) cd_T_readLine_57 (by decide) ?_
                refine ze_goto (tgt := 62) cd_T_readLine_58 (by decide) ?_
                refine ze_zret cd_T_readLine_62 rfl (by decide) (by decide) (by decide) ⟨_, rfl, rfl, hF, true, nx13, wr13, R11, i + 1, ?_, (by decide), by omega, fun _ => ⟨rfl, hd3⟩, by omega, hO, h⟩
                simp only [zt_line, hX1, hX3, hX5, hX7, hX9, hX11, hX13]
