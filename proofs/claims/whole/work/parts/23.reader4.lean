abbrev ztl : Type := Bool × Nat × Int32 × (Nat → Nat → Int32) × Nat
def zt_lines (c : Nat → Int32) (len : Nat) : Nat → Nat → Nat → Int32 → (Nat → Nat → Int32) → ztl
  | 0, i, nx, _, R => (false, nx, nI nx, R, i)
  | kk + 1, i, nx, wr, R => match zt_line c i nx wr R with
    | (false, nx1, wr1, R1) => (false, nx1, wr1, R1, i)
    | (true, nx1, wr1, R1) => if nx1 < len then zt_lines c len kk (i + 1) nx1 wr1 R1 else (true, nx1, wr1, R1, i + 1)
abbrev zr_T_readLines : Room := { frames := 4, cells := 0, slots := 0, locals := 90 }
set_option maxRecDepth 100000 in
set_option maxHeartbeats 4000000 in
theorem kc_T_readLines {g : zx_G} {σ : zx_M} {sz : Nat} {t len lv : Nat} {wr : Int32} {W : Nat → Int32} {R : Nat → Nat → Int32} (hO : zt g σ t len 0 wr lv W) (hlen : len ≤ 3000) (h : zl g σ lv 0 R) (htl : t + 2 ≤ lv ∨ lv + 12 ≤ t) : zM g cy_T_readLines cb_T_readLines 2 (Option.some Jvm.ClassFile.FieldType.boolean) zr_T_readLines 0 0 [.ref t] σ sz (zPi (fun v σ' sz' => sz' = sz ∧ zfr2 σ σ' t 2 lv 12 ∧ ∃ ok nx' wr' R' m n', zt_lines (za W len) len 100 0 0 wr R = (ok, nx', wr', R', m) ∧ v = zb ok ∧ nx' ≤ 7000 ∧ (ok = true → n' = m) ∧ n' ≤ 100 ∧ zt g σ' t len nx' wr' lv W ∧ zl g σ' lv n' R')) := by
  generalize hX0 : zt_lines (za W len) len 100 0 0 wr R = X0
  have hF : zfr2 σ σ t 2 lv 12 := zfr2.rf
  have loop : ∀ (kk i nx : Nat) (wr1 : Int32) (R1 : Nat → Nat → Int32) (σ1 : zx_M), i + kk = 100 → nx ≤ 60 * i → zt_pre i R1 → zt_lines (za W len) len kk i nx wr1 R1 = X0 → zt g σ1 t len nx wr1 lv W → zl g σ1 lv i R1 → zfr2 σ σ1 t 2 lv 12 → zE g "FindingAid$TextReader" cb_T_readLines 2 (Option.some Jvm.ClassFile.FieldType.boolean) false zr_T_readLines 0 0 (zPi (fun v σ' sz' => sz' = sz ∧ zfr2 σ σ' t 2 lv 12 ∧ ∃ ok nx' wr' R' m n', X0 = (ok, nx', wr', R', m) ∧ v = zb ok ∧ nx' ≤ 7000 ∧ (ok = true → n' = m) ∧ n' ≤ 100 ∧ zt g σ' t len nx' wr' lv W ∧ zl g σ' lv n' R')) 2 [(1, .int (nI i)), (0, .ref t)] [] σ1 sz 0 0 := by
    intro kk
    induction kk with
    | zero =>
      intro i nx wr1 R1 σ1 hk hnb hpre hE hO h hF
      refine ze_iload_n 0 cd_T_readLines_2 rfl rfl ?_
      refine ze_bipush (v := nI 100) cd_T_readLines_3 (by decide) ?_
      refine ze_icmp_ge (tgt := 37) cd_T_readLines_5 (by decide) (fun c2 => ?_) (fun c2 => ?_)
      · skip
        have c2 : 100 ≤ i := (nI_leI (by omega) (by omega)).mp c2
        refine ze_aload_n 1 cd_T_readLines_37 rfl rfl ?_
        refine ze_aload_n 1 cd_T_readLines_38 rfl rfl ?_
        refine ze_get zin_T (v := .int (nI nx)) (ci := 5) rfl 2 (by decide) zm_166 rfl cd_T_readLines_39 hO.1 rfl ?_
        refine ze_callVi (rm' := zr_T_wrongAt) (b := t) (As := [.int (nI nx)]) (rest := []) (kc_T_wrongAt hO hlen (by omega)) ⟨rfl, rfl⟩ zy_T_wrongAt_ok zm_553 zm_555 zm_14 (ci := 5) rfl rfl (by decide) (by decide) cd_T_readLines_42 hO.1 rfl rfl (Nat.le_of_ble_eq_true rfl) (fun v9 σ9 sz9 hq9 => ?_)
        obtain ⟨rfl, hF9, ok9, nx9, wr9, hX9, rfl, -, hO9⟩ := hq9
        obtain ⟨rfl, rfl, rfl⟩ : false = ok9 ∧ nx = nx9 ∧ nI nx = wr9 := by simpa [zt_wr] using hX9
        have h := h.frn hF9 11 rfl (by omega)
        have hO := hO9
        have hF := hF.tr1 hF9 (by omega)
        refine ze_zret cd_T_readLines_45 rfl (zb_or _) (by decide) (by decide) ⟨_, rfl, rfl, hF, false, nx, nI nx, R1, i, i, ?_, rfl, by omega, (fun h9 => absurd h9 (by decide)), by omega, hO, h⟩
        rw [← hE]; first | rfl | (simp only [zt_lines, zt_lines]; done) | (simp only [zt_lines, zt_lines]; rw [if_neg (by omega)]; done)
      · skip
        have c2 : ¬ 100 ≤ i := fun h9 => c2 ((nI_leI (by omega) (by omega)).mpr h9)
        exfalso; omega
    | succ kk ih =>
      intro i nx wr1 R1 σ1 hk hnb hpre hE hO h hF
      refine ze_iload_n 0 cd_T_readLines_2 rfl rfl ?_
      refine ze_bipush (v := nI 100) cd_T_readLines_3 (by decide) ?_
      refine ze_icmp_ge (tgt := 37) cd_T_readLines_5 (by decide) (fun c4 => ?_) (fun c4 => ?_)
      · skip
        have c4 : 100 ≤ i := (nI_leI (by omega) (by omega)).mp c4
        exfalso; omega
      · skip
        have c4 : ¬ 100 ≤ i := fun h9 => c4 ((nI_leI (by omega) (by omega)).mpr h9)
        refine ze_aload_n 1 cd_T_readLines_8 rfl rfl ?_
        refine ze_iload_n 0 cd_T_readLines_9 rfl rfl ?_
        refine ze_callVi (rm' := zr_T_readLine) (b := t) (As := [.int (nI i)]) (rest := []) (kc_T_readLine (i := i) hO hlen (by omega) h htl (by omega) hpre) ⟨rfl, rfl⟩ zy_T_readLine_ok zm_538 zm_540 zm_11 (ci := 5) rfl rfl (by decide) (by decide) cd_T_readLines_10 hO.1 rfl rfl (Nat.le_of_ble_eq_true rfl) (fun v9 σ9 sz9 hq9 => ?_)
        obtain ⟨rfl, hF9, ok5, nx5, wr5, R5, n5, hX5, rfl, hb5, hE5, hn5, hO9, h9⟩ := hq9
        have hO := hO9
        have h := h9
        have hF := hF.trans hF9
        refine ze_if_ne (tgt := 18) cd_T_readLines_13 (by decide) (fun c6 => ?_) (fun c6 => ?_)
        · skip
          have c6 : ok5 = true := zb_t c6
          subst c6
          obtain ⟨rfl, hd3⟩ := hE5 rfl
          refine ze_aload_n 1 cd_T_readLines_18 rfl rfl ?_
          refine ze_get zin_T (v := .int (nI nx5)) (ci := 5) rfl 2 (by decide) zm_166 rfl cd_T_readLines_19 hO.1 rfl ?_
          refine ze_aload_n 1 cd_T_readLines_22 rfl rfl ?_
          refine ze_get zin_T (v := .int (nI len)) (ci := 5) rfl 1 (by decide) zm_165 rfl cd_T_readLines_23 hO.1 rfl ?_
          refine ze_icmp_lt (tgt := 31) cd_T_readLines_26 (by decide) (fun c7 => ?_) (fun c7 => ?_)
          · skip
            have c7 : nx5 < len := (nI_ltI (by omega) (by omega)).mp c7
            refine ze_iinc (v := nI (i + 1)) (lv' := [(1, .int (nI (i + 1))), (0, .ref t)]) 0 cd_T_readLines_31 rfl (nI_add _ 1) (by decide) rfl ?_
            refine ze_goto (tgt := 2) cd_T_readLines_34 (by decide) ?_
            exact ih (i + 1) _ _ _ _ (by omega) (by omega) (fun _ => hd3) (by rw [← hE]; simp only [zt_lines, hX5]; rw [if_pos (by omega)]) hO h hF
          · skip
            have c7 : ¬ nx5 < len := fun h9 => c7 ((nI_ltI (by omega) (by omega)).mpr h9)
            refine ze_iconst (v := nI 1) cd_T_readLines_29 (by decide) ?_
            refine ze_zret cd_T_readLines_30 rfl (by decide) (by decide) (by decide) ⟨_, rfl, rfl, hF, true, nx5, wr5, R5, i + 1, i + 1, ?_, (by decide), by omega, (fun _ => rfl), by omega, hO, h⟩
            rw [← hE]; first | rfl | (simp only [zt_lines, hX5]; done) | (simp only [zt_lines, hX5]; rw [if_neg (by omega)]; done)
        · skip
          have c6 : ok5 = false := zb_f c6
          subst c6
          refine ze_iconst (v := nI 0) cd_T_readLines_16 (by decide) ?_
          refine ze_zret cd_T_readLines_17 rfl (by decide) (by decide) (by decide) ⟨_, rfl, rfl, hF, false, nx5, wr5, R5, i, n5, ?_, (by decide), by omega, (fun h9 => absurd h9 (by decide)), by omega, hO, h⟩
          rw [← hE]; first | rfl | (simp only [zt_lines, hX5]; done) | (simp only [zt_lines, hX5]; rw [if_neg (by omega)]; done)
  refine zM_of (lv := [(0, .ref t)]) (ini := false) (by decide) rfl (by decide) (Nat.le_of_ble_eq_true rfl) rfl ?_
  refine ze_iconst (v := nI 0) cd_T_readLines_0 (by decide) ?_
  refine ze_istore_n (lv' := [(1, .int (nI 0)), (0, .ref t)]) cd_T_readLines_1 rfl (by decide) rfl ?_
  exact loop 100 0 0 _ _ _ (by omega) (by omega) (fun h9 => absurd h9 (by omega)) hX0 hO h hF
abbrev zr_T_readText : Room := { frames := 5, cells := 0, slots := 0, locals := 111 }
set_option maxRecDepth 100000 in
set_option maxHeartbeats 4000000 in
theorem kc_T_readText {g : zx_G} {σ : zx_M} {sz : Nat} {t len nx lv : Nat} {wr : Int32} {W : Nat → Int32} {n : Nat} {R : Nat → Nat → Int32} (hO : zt g σ t len nx wr lv W) (hlen : len ≤ 3000) (h : zl g σ lv n R) (htl : t + 2 ≤ lv ∨ lv + 12 ≤ t) : zM g cy_T_readText cb_T_readText 2 (Option.some Jvm.ClassFile.FieldType.boolean) zr_T_readText 0 0 [.ref t] σ sz (zPi (fun v σ' sz' => sz' = sz ∧ zfr2 σ σ' t 2 lv 12 ∧ ∃ ok nx' wr' R' m n', zt_lines (za W len) len 100 0 0 (-1) R = (ok, nx', wr', R', m) ∧ v = zb ok ∧ nx' ≤ 7000 ∧ (ok = true → n' = m) ∧ n' ≤ 100 ∧ zt g σ' t 0 nx' wr' lv W ∧ zl g σ' lv n' R')) := by
  have hF : zfr2 σ σ t 2 lv 12 := zfr2.rf
  refine zM_of (lv := [(0, .ref t)]) (ini := false) (by decide) rfl (by decide) (Nat.le_of_ble_eq_true rfl) rfl ?_
  refine ze_aload_n 0 cd_T_readText_0 rfl rfl ?_
  refine ze_iconst (v := nI 0) cd_T_readText_1 (by decide) ?_
  refine ze_put zin_T zy_T zt_T zn_T (ci := 5) rfl 2 (by decide) zm_166 rfl (Or.inl rfl) cd_T_readText_2 hO.1 rfl rfl (Nat.le_of_ble_eq_true rfl) (fs' := [.ref (t + 1), .int (nI len), .int (nI 0), .int wr, .ref lv]) rfl ?_
  have hO := hO.put (fs' := [.ref (t + 1), .int (nI len), .int (nI 0), .int wr, .ref lv])
  have h := h.upn (b := t) (e := .inr (5, [.ref (t + 1), .int (nI len), .int (nI 0), .int wr, .ref lv])) 11 rfl (by omega)
  have hF := hF.up (a := t) (e := .inr (5, [.ref (t + 1), .int (nI len), .int (nI 0), .int wr, .ref lv])) (by omega)
  refine ze_aload_n 0 cd_T_readText_5 rfl rfl ?_
  refine ze_iconst (v := (-1 : Int32)) cd_T_readText_6 (by decide) ?_
  refine ze_put zin_T zy_T zt_T zn_T (ci := 5) rfl 3 (by decide) zm_167 rfl (Or.inl rfl) cd_T_readText_7 hO.1 rfl rfl (Nat.le_of_ble_eq_true rfl) (fs' := [.ref (t + 1), .int (nI len), .int (nI 0), .int ((-1 : Int32)), .ref lv]) rfl ?_
  have hO := hO.put (fs' := [.ref (t + 1), .int (nI len), .int (nI 0), .int ((-1 : Int32)), .ref lv])
  have h := h.upn (b := t) (e := .inr (5, [.ref (t + 1), .int (nI len), .int (nI 0), .int ((-1 : Int32)), .ref lv])) 11 rfl (by omega)
  have hF := hF.up (a := t) (e := .inr (5, [.ref (t + 1), .int (nI len), .int (nI 0), .int ((-1 : Int32)), .ref lv])) (by omega)
  refine ze_aload_n 0 cd_T_readText_10 rfl rfl ?_
  refine ze_get zin_T (v := .ref lv) (ci := 5) rfl 4 (by decide) zm_169 rfl cd_T_readText_11 hO.1 rfl ?_
  refine ze_iconst (v := nI 0) cd_T_readText_14 (by decide) ?_
  refine ze_put zin_L zy_L zt_L zn_L (ci := 1) rfl 0 (by decide) zm_93 rfl (Or.inl rfl) cd_T_readText_15 h.1 rfl rfl (Nat.le_of_ble_eq_true rfl) (fs' := [.int (nI 0), .ref (lv + 1), .ref (lv + 2), .ref (lv + 3), .ref (lv + 4), .ref (lv + 5), .ref (lv + 6), .ref (lv + 7), .ref (lv + 8), .ref (lv + 9), .ref (lv + 10), .ref (lv + 11)]) rfl ?_
  have h := h.put (fs' := [.int (nI 0), .ref (lv + 1), .ref (lv + 2), .ref (lv + 3), .ref (lv + 4), .ref (lv + 5), .ref (lv + 6), .ref (lv + 7), .ref (lv + 8), .ref (lv + 9), .ref (lv + 10), .ref (lv + 11)])
  have hO := hO.upn (b := lv) (e := .inr (1, [.int (nI 0), .ref (lv + 1), .ref (lv + 2), .ref (lv + 3), .ref (lv + 4), .ref (lv + 5), .ref (lv + 6), .ref (lv + 7), .ref (lv + 8), .ref (lv + 9), .ref (lv + 10), .ref (lv + 11)])) 1 rfl (by omega)
  have hF := hF.up (a := lv) (e := .inr (1, [.int (nI 0), .ref (lv + 1), .ref (lv + 2), .ref (lv + 3), .ref (lv + 4), .ref (lv + 5), .ref (lv + 6), .ref (lv + 7), .ref (lv + 8), .ref (lv + 9), .ref (lv + 10), .ref (lv + 11)])) (by omega)
  refine ze_aload_n 0 cd_T_readText_18 rfl rfl ?_
  refine ze_callVi (rm' := zr_T_readLines) (b := t) (As := []) (rest := []) (kc_T_readLines (W := W) hO hlen h htl) ⟨rfl, rfl⟩ zy_T_readLines_ok zm_534 zm_536 zm_10 (ci := 5) rfl rfl (by decide) (by decide) cd_T_readText_19 hO.1 rfl rfl (Nat.le_of_ble_eq_true rfl) (fun v9 σ9 sz9 hq9 => ?_)
  obtain ⟨rfl, hF9, ok1, nx1, wr1, R1, m1, n1, hX1, rfl, hb1, hE1, hn1, hO9, h9⟩ := hq9
  have hO := hO9
  have h := h9
  have hF := hF.trans hF9
  refine ze_istore_n (lv' := [(1, .int (zb ok1)), (0, .ref t)]) cd_T_readText_22 rfl (by decide) rfl ?_
  refine ze_aload_n 1 cd_T_readText_23 rfl rfl ?_
  refine ze_iconst (v := nI 0) cd_T_readText_24 (by decide) ?_
  refine ze_put zin_T zy_T zt_T zn_T (ci := 5) rfl 1 (by decide) zm_165 rfl (Or.inl rfl) cd_T_readText_25 hO.1 rfl rfl (Nat.le_of_ble_eq_true rfl) (fs' := [.ref (t + 1), .int (nI 0), .int (nI nx1), .int wr1, .ref lv]) rfl ?_
  have hO := hO.put (fs' := [.ref (t + 1), .int (nI 0), .int (nI nx1), .int wr1, .ref lv])
  have h := h.upn (b := t) (e := .inr (5, [.ref (t + 1), .int (nI 0), .int (nI nx1), .int wr1, .ref lv])) 11 rfl (by omega)
  have hF := hF.up (a := t) (e := .inr (5, [.ref (t + 1), .int (nI 0), .int (nI nx1), .int wr1, .ref lv])) (by omega)
  refine ze_iload_n 0 cd_T_readText_28 rfl rfl ?_
  exact ze_zret cd_T_readText_29 rfl (zb_or _) (by decide) (by decide) ⟨_, rfl, rfl, hF, ok1, nx1, wr1, R1, m1, n1, hX1, rfl, hb1, hE1, hn1, hO, h⟩
abbrev zr_T_hear : Room := { frames := 0, cells := 0, slots := 0, locals := 0 }
set_option maxRecDepth 100000 in
set_option maxHeartbeats 4000000 in
theorem kc_T_hear {g : zx_G} {σ : zx_M} {sz : Nat} {t len nx lv : Nat} {wr : Int32} {W : Nat → Int32} {ch : Int32} (hO : zt g σ t len nx wr lv W) (hlen : len ≤ 3000) : zM g cy_T_hear cb_T_hear 2 (Option.none : Option Jvm.ClassFile.FieldType) zr_T_hear 0 0 [.ref t, .int ch] σ sz (zPv (fun σ' sz' => sz' = sz ∧ zfr σ σ' t 2 ∧ zt g σ' t (if len < 3000 then len + 1 else len) nx wr lv (if len < 3000 then upd W len ch else W))) := by
  have hF : zfr σ σ t 2 := zfr.rf
  refine zM_of (lv := [(0, .ref t), (1, .int ch)]) (ini := false) (by decide) rfl (by decide) (Nat.le_of_ble_eq_true rfl) rfl ?_
  refine ze_aload_n 0 cd_T_hear_0 rfl rfl ?_
  refine ze_get zin_T (v := .int (nI len)) (ci := 5) rfl 1 (by decide) zm_165 rfl cd_T_hear_1 hO.1 rfl ?_
  refine ze_sipush (v := nI 3000) cd_T_hear_4 (by decide) ?_
  refine ze_icmp_ge (tgt := 30) cd_T_hear_7 (by decide) (fun c1 => ?_) (fun c1 => ?_)
  · skip
    have c1 : 3000 ≤ len := (nI_leI (by omega) (by omega)).mp c1
    refine ze_vret cd_T_hear_30 rfl (by decide) (by decide) ⟨rfl, rfl, hF, ?_⟩
    first | (rw [if_neg (by omega), if_neg (by omega)]; exact hO) | (rw [if_pos (by omega), if_pos (by omega)]; exact hO.rows (fun k hk => by obtain rfl : k = 0 := (by simp at hk; omega); rfl))
  · skip
    have c1 : ¬ 3000 ≤ len := fun h9 => c1 ((nI_leI (by omega) (by omega)).mpr h9)
    refine ze_aload_n 0 cd_T_hear_10 rfl rfl ?_
    refine ze_get zin_T (v := .ref (t + 1)) (ci := 5) rfl 0 (by decide) zm_164 rfl cd_T_hear_11 hO.1 rfl ?_
    refine ze_aload_n 0 cd_T_hear_14 rfl rfl ?_
    refine ze_get zin_T (v := .int (nI len)) (ci := 5) rfl 1 (by decide) zm_165 rfl cd_T_hear_15 hO.1 rfl ?_
    refine ze_iload_n 1 cd_T_hear_18 rfl rfl ?_
    refine ze_iast (j := len) cd_T_hear_19 (hO.2 0 _ rfl) rfl (by omega) (by decide) ?_
    have hO := hO.ar 0 0 3000 rfl (b := t + 1) (f := upd ((fun _ => W) 0) len ch) (by omega)
    have hF := hF.up (a := t + 1) (e := .inl (g.2.2.2.1 0, 3000, .inl (upd ((fun _ => W) 0) len ch))) (by omega) (by omega)
    refine ze_aload_n 0 cd_T_hear_20 rfl rfl ?_
    refine ze_dup cd_T_hear_21 rfl ?_
    refine ze_get zin_T (v := .int (nI len)) (ci := 5) rfl 1 (by decide) zm_165 rfl cd_T_hear_22 hO.1 rfl ?_
    refine ze_iconst (v := nI 1) cd_T_hear_25 (by decide) ?_
    refine ze_iadd cd_T_hear_26 ?_
    refine ze_top (y := nI (len + 1)) (nI_add _ _) ?_
    refine ze_put zin_T zy_T zt_T zn_T (ci := 5) rfl 1 (by decide) zm_165 rfl (Or.inl rfl) cd_T_hear_27 hO.1 rfl rfl (Nat.le_of_ble_eq_true rfl) (fs' := [.ref (t + 1), .int (nI (len + 1)), .int (nI nx), .int wr, .ref lv]) rfl ?_
    have hO := hO.put (fs' := [.ref (t + 1), .int (nI (len + 1)), .int (nI nx), .int wr, .ref lv])
    have hF := hF.up (a := t) (e := .inr (5, [.ref (t + 1), .int (nI (len + 1)), .int (nI nx), .int wr, .ref lv])) (by omega) (by omega)
    refine ze_vret cd_T_hear_30 rfl (by decide) (by decide) ⟨rfl, rfl, hF, ?_⟩
    first | (rw [if_neg (by omega), if_neg (by omega)]; exact hO) | (rw [if_pos (by omega), if_pos (by omega)]; exact hO.rows (fun k hk => by obtain rfl : k = 0 := (by simp at hk; omega); rfl))
abbrev zr_T_exchange : Room := { frames := 0, cells := 0, slots := 0, locals := 0 }
set_option maxRecDepth 100000 in
set_option maxHeartbeats 4000000 in
theorem kc_T_exchange {g : zx_G} {σ : zx_M} {sz : Nat} {t len nx lv : Nat} {wr : Int32} {W : Nat → Int32} {us : Nat} (hO : zt g σ t len nx wr lv W) : zM g cy_T_exchange cb_T_exchange 3 (Option.some (Jvm.ClassFile.FieldType.object "FindingAid$Levels")) zr_T_exchange 0 0 [.ref t, .ref us] σ sz (zPr (fun v σ' sz' => v = lv ∧ sz' = sz ∧ zfr σ σ' t 2 ∧ zt g σ' t len nx wr us W)) := by
  have hF : zfr σ σ t 2 := zfr.rf
  refine zM_of (lv := [(0, .ref t), (1, .ref us)]) (ini := false) (by decide) rfl (by decide) (Nat.le_of_ble_eq_true rfl) rfl ?_
  refine ze_aload_n 0 cd_T_exchange_0 rfl rfl ?_
  refine ze_get zin_T (v := .ref lv) (ci := 5) rfl 4 (by decide) zm_169 rfl cd_T_exchange_1 hO.1 rfl ?_
  refine ze_astore_n (lv' := [(2, .ref lv), (0, .ref t), (1, .ref us)]) cd_T_exchange_4 rfl (by decide) rfl ?_
  refine ze_aload_n 1 cd_T_exchange_5 rfl rfl ?_
  refine ze_aload_n 2 cd_T_exchange_6 rfl rfl ?_
  refine ze_put zin_T zy_T zt_T zn_T (ci := 5) rfl 4 (by decide) zm_169 rfl (Or.inl rfl) cd_T_exchange_7 hO.1 rfl rfl (Nat.le_of_ble_eq_true rfl) (fs' := [.ref (t + 1), .int (nI len), .int (nI nx), .int wr, .ref us]) rfl ?_
  have hO := hO.put (fs' := [.ref (t + 1), .int (nI len), .int (nI nx), .int wr, .ref us])
  have hF := hF.up (a := t) (e := .inr (5, [.ref (t + 1), .int (nI len), .int (nI nx), .int wr, .ref us])) (by omega) (by omega)
  refine ze_aload_n 0 cd_T_exchange_10 rfl rfl ?_
  exact ze_aret cd_T_exchange_11 rfl (Or.inl ⟨_, rfl⟩) (by decide) (by decide) ⟨_, rfl, rfl, rfl, hF, hO⟩
