theorem zmin_n {x y : Nat} (hx : x < 2 ^ 31) (hy : y < 2 ^ 31) : (if nI y < nI x then nI y else nI x) = nI (min x y) := by
  by_cases h : y < x
  · rw [if_pos (nI_lt h hx), Nat.min_eq_right (by omega)]
  · rw [if_neg (nI_nlt (by omega) hy), Nat.min_eq_left (by omega)]
theorem zl_ats_len {R : Nat → Nat → Int32} {j t : Nat} {c : Int32} (h : t < 16) : zl_ats R j t c 9 j = nI (t + 1) := by rw [zl_ats, if_pos h, va_up_self, pk_us]
abbrev zts : Type := Bool × Nat × Int32 × (Nat → Nat → Int32)
def zt_kind (c : Nat → Int32) (n i nx : Nat) (wr : Int32) (R : Nat → Nat → Int32) : zts := match zt_ix zc_k1 4 (c nx) with
  | none => (false, nx, nI nx, R)
  | some k => match zi n (R 2 i) with
    | none => (true, nx + 1, wr, va_up R 0 (upd (R 0) i (nI k)))
    | some p => if R 0 p = nI 3 then (false, nx, nI nx, R) else if nI k < R 0 p then (false, nx, nI nx, R) else (true, nx + 1, wr, va_up R 0 (upd (R 0) i (nI k)))
def zt_num (c : Nat → Int32) (i nx : Nat) (wr : Int32) (R : Nat → Nat → Int32) : zts := match zt_dig1 (zt_dg c 4 0 nx (nI 0)) wr with
  | (v, nx1, wr1) => (if v = -1 then false else true, nx1, wr1, va_up R 1 (upd (R 1) i v))
def zt_tl (c : Nat → Int32) (i : Nat) : Nat → Nat → Nat → (Nat → Nat → Int32) → Nat × Nat × (Nat → Nat → Int32)
  | 0, k, nx, R => (k, nx, R)
  | kk + 1, k, nx, R => if zt_l (c nx) then zt_tl c i kk (k + 1) (nx + 1) (zl_ats R i k (c nx)) else (k, nx, R)
def zt_ti2 (q : Nat × Nat × (Nat → Nat → Int32)) (wr : Int32) : zts := if q.1 = 0 then (false, q.2.1, nI q.2.1, q.2.2) else (true, q.2.1, wr, q.2.2)
def zt_title (c : Nat → Int32) (i nx : Nat) (wr : Int32) (R : Nat → Nat → Int32) : zts := match zt_exp c (nI 32) nx wr with
  | (false, nx1, wr1) => (false, nx1, wr1, R)
  | (true, nx1, wr1) => zt_ti2 (zt_tl c i 16 0 nx1 R) wr1
def zt_dq (c : Nat → Int32) (i nx : Nat) (wr : Int32) (R : Nat → Nat → Int32) (y z : Int32) : zts := if c nx = nI 63 then (true, nx + 1, wr, va_up (va_up (va_up R 4 (upd (R 4) i y)) 5 (upd (R 5) i z)) 6 (upd (R 6) i (nI 1))) else (true, nx, wr, va_up (va_up R 4 (upd (R 4) i y)) 5 (upd (R 5) i z))
def zt_date (c : Nat → Int32) (i nx : Nat) (wr : Int32) (R : Nat → Nat → Int32) : zts := if c nx = nI 32 then (if c (nx + 1) = nI 100 then (match zt_yr1 (zt_yv c (nx + 2) 4 0 (nI 0)) (nI 1000) (nx + 2) wr with
  | (y, nx1, wr1) => if y = -1 then (false, nx1, wr1, R) else if c nx1 = nI 45 then (match zt_yr1 (zt_yv c (nx1 + 1) 4 0 (nI 0)) y (nx1 + 1) wr1 with
    | (z, nx2, wr2) => if z = -1 then (false, nx2, wr2, R) else zt_dq c i nx2 wr2 R y z) else zt_dq c i nx1 wr1 R y y) else (true, nx, wr, R)) else (true, nx, wr, R)
def zt_ext (c : Nat → Int32) (i nx : Nat) (wr : Int32) (R : Nat → Nat → Int32) : zts := if c nx = nI 32 then (match zt_exp c (nI 101) (nx + 1) wr with
  | (false, nx1, wr1) => (false, nx1, wr1, R)
  | (true, nx1, wr1) => match zt_dig1 (zt_dg c 4 0 nx1 (nI 0)) wr1 with
    | (v, nx2, wr2) => if v = -1 then (false, nx2, wr2, va_up R 7 (upd (R 7) i v)) else match zt_ix zc_k2 3 (c nx2) with
      | none => (false, nx2, nI nx2, va_up (va_up R 7 (upd (R 7) i v)) 8 (upd (R 8) i (-1)))
      | some u => (true, nx2 + 1, wr2, va_up (va_up R 7 (upd (R 7) i v)) 8 (upd (R 8) i (nI u)))) else (true, nx, wr, R)
abbrev zr_T_readKind : Room := { frames := 1, cells := 0, slots := 0, locals := 22 }
set_option maxRecDepth 100000 in
set_option maxHeartbeats 4000000 in
theorem kc_T_readKind {g : zx_G} {σ : zx_M} {sz : Nat} {t len nx lv : Nat} {wr : Int32} {W : Nat → Int32} {n i : Nat} {R : Nat → Nat → Int32} (hO : zt g σ t len nx wr lv W) (hlen : len ≤ 3000) (hnx : nx ≤ 12000) (h : zl g σ lv n R) (htl : t + 2 ≤ lv ∨ lv + 12 ≤ t) (hi : i < 100) (hn : n ≤ 100) : zM g cy_T_readKind cb_T_readKind 4 (Option.some Jvm.ClassFile.FieldType.boolean) zr_T_readKind 0 0 [.ref t, .int (nI i)] σ sz (zPi (fun v σ' sz' => sz' = sz ∧ zfr2 σ σ' t 2 lv 12 ∧ ∃ ok nx' wr' R', zt_kind (za W len) n i nx wr R = (ok, nx', wr', R') ∧ v = zb ok ∧ nx' ≤ nx + 1 ∧ (R' 9 = R 9 ∧ R' 3 = R 3) ∧ zt g σ' t len nx' wr' lv W ∧ zl g σ' lv n R')) := by
  have hF : zfr2 σ σ t 2 lv 12 := zfr2.rf
  refine zM_of (lv := [(0, .ref t), (1, .int (nI i))]) (ini := false) (by decide) rfl (by decide) (Nat.le_of_ble_eq_true rfl) rfl ?_
  refine ze_gets 0 rfl (host := "FindingAid") (by decide) rfl cd_T_readKind_0 ?_
  refine ze_aload_n 0 cd_T_readKind_3 rfl rfl ?_
  refine ze_iconst (v := nI 0) cd_T_readKind_4 (by decide) ?_
  refine ze_callVp (rm' := zr_T_ahead) (b := t) (As := [.int (nI 0)]) (rest := [.ref (g.2.2.2.2 0)]) (kc_T_ahead (W := W) hO hlen (by omega) (by omega)) ⟨rfl, rfl⟩ zy_T_ahead_ok zm_549 zm_551 zm_13 (ci := 5) rfl rfl (by decide) (by decide) cd_T_readKind_5 hO.1 rfl rfl (Nat.le_of_ble_eq_true rfl) ?_
  refine ze_callSNp (rm' := zr_F_indexIn) (As := [.ref (g.2.2.2.2 0), .int (za W len nx)]) (rest := []) (kc_F_indexIn (q := 0) rfl (by decide)) ⟨rfl, rfl⟩ zy_F_indexIn_ok (host := "FindingAid") (by decide) zm_571 (by decide) (by decide) cd_T_readKind_8 rfl rfl (Nat.le_of_ble_eq_true rfl) ?_
  cases hix : (zt_ix zc_k1 4 (za W len nx)) with
  | none =>
    refine ze_istore_n (lv' := [(2, .int ((-1 : Int32))), (0, .ref t), (1, .int (nI i))]) cd_T_readKind_11 rfl (by decide) rfl ?_
    refine ze_aload_n 1 cd_T_readKind_12 rfl rfl ?_
    refine ze_get zin_T (v := .ref lv) (ci := 5) rfl 4 (by decide) zm_169 rfl cd_T_readKind_13 hO.1 rfl ?_
    refine ze_get zin_L (v := .ref (lv + 3)) (ci := 1) rfl 3 (by decide) zm_105 rfl cd_T_readKind_16 h.1 rfl ?_
    refine ze_iload_n 2 cd_T_readKind_19 rfl rfl ?_
    refine ze_iald (j := i) cd_T_readKind_20 (h.2 2 _ rfl) rfl (by omega) (by decide) ?_
    refine ze_istore_n (lv' := [(3, .int (R 2 i)), (2, .int ((-1 : Int32))), (0, .ref t), (1, .int (nI i))]) cd_T_readKind_21 rfl (by decide) rfl ?_
    refine ze_iload_n 1 cd_T_readKind_22 rfl rfl ?_
    refine ze_iconst (v := (-1 : Int32)) cd_T_readKind_23 (by decide) ?_
    refine ze_icmp_ne (tgt := 36) cd_T_readKind_24 (by decide) (fun c9 => absurd rfl c9) (fun _ => ?_)
    refine ze_aload_n 2 cd_T_readKind_27 rfl rfl ?_
    refine ze_aload_n 2 cd_T_readKind_28 rfl rfl ?_
    refine ze_get zin_T (v := .int (nI nx)) (ci := 5) rfl 2 (by decide) zm_166 rfl cd_T_readKind_29 hO.1 rfl ?_
    refine ze_callVi (rm' := zr_T_wrongAt) (b := t) (As := [.int (nI nx)]) (rest := []) (kc_T_wrongAt hO hlen (by omega)) ⟨rfl, rfl⟩ zy_T_wrongAt_ok zm_553 zm_555 zm_14 (ci := 5) rfl rfl (by decide) (by decide) cd_T_readKind_32 hO.1 rfl rfl (Nat.le_of_ble_eq_true rfl) (fun v9 σ9 sz9 hq9 => ?_)
    obtain ⟨rfl, hF9, ok9, nx9, wr9, hX9, rfl, -, hO9⟩ := hq9
    obtain ⟨rfl, rfl, rfl⟩ : false = ok9 ∧ nx = nx9 ∧ nI nx = wr9 := by simpa [zt_wr] using hX9
    have h := h.frn hF9 11 rfl (by omega)
    have hO := hO9
    have hF := hF.tr1 hF9 (by omega)
    refine ze_zret cd_T_readKind_35 rfl (zb_or _) (by decide) (by decide) ⟨_, rfl, rfl, hF, false, nx, nI nx, R, ?_, rfl, by omega, ⟨rfl, rfl⟩, hO, h⟩
    first | (simp [zt_kind, hix]; done) | (simp_all [zt_kind]; done) | contradiction
  | some k =>
    have hbk := (zfindo_lt _ _ _ _ hix).1
    refine ze_istore_n (lv' := [(2, .int (nI k)), (0, .ref t), (1, .int (nI i))]) cd_T_readKind_11 rfl (by decide) rfl ?_
    refine ze_aload_n 1 cd_T_readKind_12 rfl rfl ?_
    refine ze_get zin_T (v := .ref lv) (ci := 5) rfl 4 (by decide) zm_169 rfl cd_T_readKind_13 hO.1 rfl ?_
    refine ze_get zin_L (v := .ref (lv + 3)) (ci := 1) rfl 3 (by decide) zm_105 rfl cd_T_readKind_16 h.1 rfl ?_
    refine ze_iload_n 2 cd_T_readKind_19 rfl rfl ?_
    refine ze_iald (j := i) cd_T_readKind_20 (h.2 2 _ rfl) rfl (by omega) (by decide) ?_
    refine ze_istore_n (lv' := [(3, .int (R 2 i)), (2, .int (nI k)), (0, .ref t), (1, .int (nI i))]) cd_T_readKind_21 rfl (by decide) rfl ?_
    refine ze_iload_n 1 cd_T_readKind_22 rfl rfl ?_
    refine ze_iconst (v := (-1 : Int32)) cd_T_readKind_23 (by decide) ?_
    refine ze_icmp_ne (tgt := 36) cd_T_readKind_24 (by decide) (fun _ => ?_) (fun c9 => absurd c9 (zn_ne (by omega)))
    refine ze_aload_n 2 cd_T_readKind_36 rfl rfl ?_
    refine ze_get zin_T (v := .ref lv) (ci := 5) rfl 4 (by decide) zm_169 rfl cd_T_readKind_37 hO.1 rfl ?_
    refine ze_iload_n 0 cd_T_readKind_40 rfl rfl ?_
    refine ze_callVp (rm' := zr_L_has) (b := lv) (As := [.int (R 2 i)]) (rest := []) (kc_L_has h) ⟨rfl, rfl⟩ zy_L_has_ok zm_573 zm_311 zm_312 (ci := 1) rfl rfl (by decide) (by decide) cd_T_readKind_41 h.1 rfl rfl (Nat.le_of_ble_eq_true rfl) ?_
    refine ze_if_eq (tgt := 82) cd_T_readKind_44 (by decide) (fun c1 => ?_) (fun c1 => ?_)
    · skip
      have c1 : ((zi n (R 2 i)).isSome) = false := zb_f c1
      have c1 : zi n (R 2 i) = none := by simpa using c1
      refine ze_aload_n 2 cd_T_readKind_82 rfl rfl ?_
      refine ze_get zin_T (v := .ref lv) (ci := 5) rfl 4 (by decide) zm_169 rfl cd_T_readKind_83 hO.1 rfl ?_
      refine ze_get zin_L (v := .ref (lv + 1)) (ci := 1) rfl 1 (by decide) zm_97 rfl cd_T_readKind_86 h.1 rfl ?_
      refine ze_iload_n 3 cd_T_readKind_89 rfl rfl ?_
      refine ze_iload_n 1 cd_T_readKind_90 rfl rfl ?_
      refine ze_iast (j := i) cd_T_readKind_91 (h.2 0 _ rfl) rfl (by omega) (by decide) ?_
      have h := h.ar 0 0 100 rfl (b := lv + 1) (f := upd (R 0) i (nI k)) (by omega)
      have hO := hO.upn (b := lv + 1) (e := .inl (g.2.2.2.1 0, 100, .inl (upd (R 0) i (nI k)))) 1 rfl (by omega)
      have hF := hF.up (a := lv + 1) (e := .inl (g.2.2.2.1 0, 100, .inl (upd (R 0) i (nI k)))) (by omega)
      refine ze_aload_n 2 cd_T_readKind_92 rfl rfl ?_
      refine ze_dup cd_T_readKind_93 rfl ?_
      refine ze_get zin_T (v := .int (nI nx)) (ci := 5) rfl 2 (by decide) zm_166 rfl cd_T_readKind_94 hO.1 rfl ?_
      refine ze_iconst (v := nI 1) cd_T_readKind_97 (by decide) ?_
      refine ze_iadd cd_T_readKind_98 ?_
      refine ze_top (y := nI (nx + 1)) (nI_add _ _) ?_
      refine ze_put zin_T zy_T zt_T zn_T (ci := 5) rfl 2 (by decide) zm_166 rfl (Or.inl rfl) cd_T_readKind_99 hO.1 rfl rfl (Nat.le_of_ble_eq_true rfl) (fs' := [.ref (t + 1), .int (nI len), .int (nI (nx + 1)), .int wr, .ref lv]) rfl ?_
      have hO := hO.put (fs' := [.ref (t + 1), .int (nI len), .int (nI (nx + 1)), .int wr, .ref lv])
      have h := h.upn (b := t) (e := .inr (5, [.ref (t + 1), .int (nI len), .int (nI (nx + 1)), .int wr, .ref lv])) 11 rfl (by omega)
      have hF := hF.up (a := t) (e := .inr (5, [.ref (t + 1), .int (nI len), .int (nI (nx + 1)), .int wr, .ref lv])) (by omega)
      refine ze_iconst (v := nI 1) cd_T_readKind_102 (by decide) ?_
      refine ze_zret cd_T_readKind_103 rfl (by decide) (by decide) (by decide) ⟨_, rfl, rfl, hF, true, nx + 1, wr, va_up R 0 (upd (R 0) i (nI k)), ?_, (by decide), by omega, ⟨rfl, rfl⟩, hO, h⟩
      first | (simp [zt_kind, hix, c1]; done) | (simp_all [zt_kind]; done) | contradiction
    · skip
      have c1 : ((zi n (R 2 i)).isSome) = true := zb_t c1
      obtain ⟨p, hp⟩ := Option.isSome_iff_exists.mp c1
      obtain ⟨hpn, hp2⟩ := zi_some (by omega) hp
      refine ze_aload_n 2 cd_T_readKind_47 rfl rfl ?_
      refine ze_get zin_T (v := .ref lv) (ci := 5) rfl 4 (by decide) zm_169 rfl cd_T_readKind_48 hO.1 rfl ?_
      refine ze_get zin_L (v := .ref (lv + 1)) (ci := 1) rfl 1 (by decide) zm_97 rfl cd_T_readKind_51 h.1 rfl ?_
      refine ze_iload_n 0 cd_T_readKind_54 rfl rfl ?_
      refine ze_iald (j := p) cd_T_readKind_55 (h.2 0 _ rfl) hp2 (by omega) (by decide) ?_
      refine ze_iconst (v := nI 3) cd_T_readKind_56 (by decide) ?_
      refine ze_icmp_eq (tgt := 73) cd_T_readKind_57 (by decide) (fun c2 => ?_) (fun c2 => ?_)
      · skip
        refine ze_aload_n 2 cd_T_readKind_73 rfl rfl ?_
        refine ze_aload_n 2 cd_T_readKind_74 rfl rfl ?_
        refine ze_get zin_T (v := .int (nI nx)) (ci := 5) rfl 2 (by decide) zm_166 rfl cd_T_readKind_75 hO.1 rfl ?_
        refine ze_callVi (rm' := zr_T_wrongAt) (b := t) (As := [.int (nI nx)]) (rest := []) (kc_T_wrongAt hO hlen (by omega)) ⟨rfl, rfl⟩ zy_T_wrongAt_ok zm_553 zm_555 zm_14 (ci := 5) rfl rfl (by decide) (by decide) cd_T_readKind_78 hO.1 rfl rfl (Nat.le_of_ble_eq_true rfl) (fun v9 σ9 sz9 hq9 => ?_)
        obtain ⟨rfl, hF9, ok9, nx9, wr9, hX9, rfl, -, hO9⟩ := hq9
        obtain ⟨rfl, rfl, rfl⟩ : false = ok9 ∧ nx = nx9 ∧ nI nx = wr9 := by simpa [zt_wr] using hX9
        have h := h.frn hF9 11 rfl (by omega)
        have hO := hO9
        have hF := hF.tr1 hF9 (by omega)
        refine ze_zret cd_T_readKind_81 rfl (zb_or _) (by decide) (by decide) ⟨_, rfl, rfl, hF, false, nx, nI nx, R, ?_, rfl, by omega, ⟨rfl, rfl⟩, hO, h⟩
        first | (simp [zt_kind, hix, hp, c2]; done) | (simp_all [zt_kind]; done) | contradiction
      · skip
        refine ze_iload_n 1 cd_T_readKind_60 rfl rfl ?_
        refine ze_aload_n 2 cd_T_readKind_61 rfl rfl ?_
        refine ze_get zin_T (v := .ref lv) (ci := 5) rfl 4 (by decide) zm_169 rfl cd_T_readKind_62 hO.1 rfl ?_
        refine ze_get zin_L (v := .ref (lv + 1)) (ci := 1) rfl 1 (by decide) zm_97 rfl cd_T_readKind_65 h.1 rfl ?_
        refine ze_iload_n 0 cd_T_readKind_68 rfl rfl ?_
        refine ze_iald (j := p) cd_T_readKind_69 (h.2 0 _ rfl) hp2 (by omega) (by decide) ?_
        refine ze_icmp_ge (tgt := 82) cd_T_readKind_70 (by decide) (fun c3 => ?_) (fun c3 => ?_)
        · skip
          have c3 : ¬ (nI k) < (R 0 p) := Int32.not_lt.mpr c3
          refine ze_aload_n 2 cd_T_readKind_82 rfl rfl ?_
          refine ze_get zin_T (v := .ref lv) (ci := 5) rfl 4 (by decide) zm_169 rfl cd_T_readKind_83 hO.1 rfl ?_
          refine ze_get zin_L (v := .ref (lv + 1)) (ci := 1) rfl 1 (by decide) zm_97 rfl cd_T_readKind_86 h.1 rfl ?_
          refine ze_iload_n 3 cd_T_readKind_89 rfl rfl ?_
          refine ze_iload_n 1 cd_T_readKind_90 rfl rfl ?_
          refine ze_iast (j := i) cd_T_readKind_91 (h.2 0 _ rfl) rfl (by omega) (by decide) ?_
          have h := h.ar 0 0 100 rfl (b := lv + 1) (f := upd (R 0) i (nI k)) (by omega)
          have hO := hO.upn (b := lv + 1) (e := .inl (g.2.2.2.1 0, 100, .inl (upd (R 0) i (nI k)))) 1 rfl (by omega)
          have hF := hF.up (a := lv + 1) (e := .inl (g.2.2.2.1 0, 100, .inl (upd (R 0) i (nI k)))) (by omega)
          refine ze_aload_n 2 cd_T_readKind_92 rfl rfl ?_
          refine ze_dup cd_T_readKind_93 rfl ?_
          refine ze_get zin_T (v := .int (nI nx)) (ci := 5) rfl 2 (by decide) zm_166 rfl cd_T_readKind_94 hO.1 rfl ?_
          refine ze_iconst (v := nI 1) cd_T_readKind_97 (by decide) ?_
          refine ze_iadd cd_T_readKind_98 ?_
          refine ze_top (y := nI (nx + 1)) (nI_add _ _) ?_
          refine ze_put zin_T zy_T zt_T zn_T (ci := 5) rfl 2 (by decide) zm_166 rfl (Or.inl rfl) cd_T_readKind_99 hO.1 rfl rfl (Nat.le_of_ble_eq_true rfl) (fs' := [.ref (t + 1), .int (nI len), .int (nI (nx + 1)), .int wr, .ref lv]) rfl ?_
          have hO := hO.put (fs' := [.ref (t + 1), .int (nI len), .int (nI (nx + 1)), .int wr, .ref lv])
          have h := h.upn (b := t) (e := .inr (5, [.ref (t + 1), .int (nI len), .int (nI (nx + 1)), .int wr, .ref lv])) 11 rfl (by omega)
          have hF := hF.up (a := t) (e := .inr (5, [.ref (t + 1), .int (nI len), .int (nI (nx + 1)), .int wr, .ref lv])) (by omega)
          refine ze_iconst (v := nI 1) cd_T_readKind_102 (by decide) ?_
          refine ze_zret cd_T_readKind_103 rfl (by decide) (by decide) (by decide) ⟨_, rfl, rfl, hF, true, nx + 1, wr, va_up R 0 (upd (R 0) i (nI k)), ?_, (by decide), by omega, ⟨rfl, rfl⟩, hO, h⟩
          first | (simp [zt_kind, hix, hp, c2, c3]; done) | (simp_all [zt_kind]; done) | contradiction
        · skip
          have c3 : (nI k) < (R 0 p) := Int32.not_le.mp c3
          refine ze_aload_n 2 cd_T_readKind_73 rfl rfl ?_
          refine ze_aload_n 2 cd_T_readKind_74 rfl rfl ?_
          refine ze_get zin_T (v := .int (nI nx)) (ci := 5) rfl 2 (by decide) zm_166 rfl cd_T_readKind_75 hO.1 rfl ?_
          refine ze_callVi (rm' := zr_T_wrongAt) (b := t) (As := [.int (nI nx)]) (rest := []) (kc_T_wrongAt hO hlen (by omega)) ⟨rfl, rfl⟩ zy_T_wrongAt_ok zm_553 zm_555 zm_14 (ci := 5) rfl rfl (by decide) (by decide) cd_T_readKind_78 hO.1 rfl rfl (Nat.le_of_ble_eq_true rfl) (fun v9 σ9 sz9 hq9 => ?_)
          obtain ⟨rfl, hF9, ok9, nx9, wr9, hX9, rfl, -, hO9⟩ := hq9
          obtain ⟨rfl, rfl, rfl⟩ : false = ok9 ∧ nx = nx9 ∧ nI nx = wr9 := by simpa [zt_wr] using hX9
          have h := h.frn hF9 11 rfl (by omega)
          have hO := hO9
          have hF := hF.tr1 hF9 (by omega)
          refine ze_zret cd_T_readKind_81 rfl (zb_or _) (by decide) (by decide) ⟨_, rfl, rfl, hF, false, nx, nI nx, R, ?_, rfl, by omega, ⟨rfl, rfl⟩, hO, h⟩
          first | (simp [zt_kind, hix, hp, c2, c3]; done) | (simp_all [zt_kind]; done) | contradiction
abbrev zr_T_readNumber : Room := { frames := 2, cells := 0, slots := 0, locals := 45 }
set_option maxRecDepth 100000 in
set_option maxHeartbeats 4000000 in
theorem kc_T_readNumber {g : zx_G} {σ : zx_M} {sz : Nat} {t len nx lv : Nat} {wr : Int32} {W : Nat → Int32} {n i : Nat} {R : Nat → Nat → Int32} (hO : zt g σ t len nx wr lv W) (hlen : len ≤ 3000) (hnx : nx ≤ 12000) (h : zl g σ lv n R) (htl : t + 2 ≤ lv ∨ lv + 12 ≤ t) (hi : i < 100) : zM g cy_T_readNumber cb_T_readNumber 2 (Option.some Jvm.ClassFile.FieldType.boolean) zr_T_readNumber 0 0 [.ref t, .int (nI i)] σ sz (zPi (fun v σ' sz' => sz' = sz ∧ zfr2 σ σ' t 2 lv 12 ∧ ∃ ok nx' wr' R', zt_num (za W len) i nx wr R = (ok, nx', wr', R') ∧ v = zb ok ∧ nx' ≤ nx + 4 ∧ (R' 9 = R 9 ∧ R' 3 = R 3) ∧ zt g σ' t len nx' wr' lv W ∧ zl g σ' lv n R')) := by
  have hF : zfr2 σ σ t 2 lv 12 := zfr2.rf
  refine zM_of (lv := [(0, .ref t), (1, .int (nI i))]) (ini := false) (by decide) rfl (by decide) (Nat.le_of_ble_eq_true rfl) rfl ?_
  refine ze_aload_n 0 cd_T_readNumber_0 rfl rfl ?_
  refine ze_get zin_T (v := .ref lv) (ci := 5) rfl 4 (by decide) zm_169 rfl cd_T_readNumber_1 hO.1 rfl ?_
  refine ze_get zin_L (v := .ref (lv + 2)) (ci := 1) rfl 2 (by decide) zm_101 rfl cd_T_readNumber_4 h.1 rfl ?_
  refine ze_iload_n 1 cd_T_readNumber_7 rfl rfl ?_
  refine ze_aload_n 0 cd_T_readNumber_8 rfl rfl ?_
  refine ze_callVi (rm' := zr_T_readDigits) (b := t) (As := []) (rest := [.int (nI i), .ref (lv + 2)]) (kc_T_readDigits hO hlen (by omega)) ⟨rfl, rfl⟩ zy_T_readDigits_ok zm_578 zm_580 zm_18 (ci := 5) rfl rfl (by decide) (by decide) cd_T_readNumber_9 hO.1 rfl rfl (Nat.le_of_ble_eq_true rfl) (fun v9 σ9 sz9 hq9 => ?_)
  obtain ⟨rfl, hF9, r1, nx1, wr1, hX1, rfl, hb1, hO9⟩ := hq9
  have h := h.frn hF9 11 rfl (by omega)
  have hO := hO9
  have hF := hF.tr1 hF9 (by omega)
  refine ze_iast (j := i) cd_T_readNumber_12 (h.2 1 _ rfl) rfl (by omega) (by decide) ?_
  have h := h.ar 1 0 100 rfl (b := lv + 2) (f := upd (R 1) i r1) (by omega)
  have hO := hO.upn (b := lv + 2) (e := .inl (g.2.2.2.1 0, 100, .inl (upd (R 1) i r1))) 1 rfl (by omega)
  have hF := hF.up (a := lv + 2) (e := .inl (g.2.2.2.1 0, 100, .inl (upd (R 1) i r1))) (by omega)
  refine ze_aload_n 0 cd_T_readNumber_13 rfl rfl ?_
  refine ze_get zin_T (v := .ref lv) (ci := 5) rfl 4 (by decide) zm_169 rfl cd_T_readNumber_14 hO.1 rfl ?_
  refine ze_get zin_L (v := .ref (lv + 2)) (ci := 1) rfl 2 (by decide) zm_101 rfl cd_T_readNumber_17 h.1 rfl ?_
  refine ze_iload_n 1 cd_T_readNumber_20 rfl rfl ?_
  refine ze_iald (j := i) (f := upd (R 1) i r1) cd_T_readNumber_21 (h.2 1 _ rfl) rfl (by omega) (by decide) ?_
  refine ze_top (y := r1) pk_us ?_
  refine ze_iconst (v := (-1 : Int32)) cd_T_readNumber_22 (by decide) ?_
  refine ze_icmp_eq (tgt := 30) cd_T_readNumber_23 (by decide) (fun c2 => ?_) (fun c2 => ?_)
  · skip
    refine ze_iconst (v := nI 0) cd_T_readNumber_30 (by decide) ?_
    refine ze_zret cd_T_readNumber_31 rfl (by decide) (by decide) (by decide) ⟨_, rfl, rfl, hF, false, nx1, wr1, va_up R 1 (upd (R 1) i r1), ?_, (by decide), by omega, ⟨rfl, rfl⟩, hO, h⟩
    first | (simp [zt_num, hX1, c2]; done) | (simp_all [zt_num]; done) | contradiction
  · skip
    refine ze_iconst (v := nI 1) cd_T_readNumber_26 (by decide) ?_
    refine ze_goto (tgt := 31) cd_T_readNumber_27 (by decide) ?_
    refine ze_zret cd_T_readNumber_31 rfl (by decide) (by decide) (by decide) ⟨_, rfl, rfl, hF, true, nx1, wr1, va_up R 1 (upd (R 1) i r1), ?_, (by decide), by omega, ⟨rfl, rfl⟩, hO, h⟩
    first | (simp [zt_num, hX1, c2]; done) | (simp_all [zt_num]; done) | contradiction
abbrev zr_T_readTitle : Room := { frames := 2, cells := 0, slots := 0, locals := 43 }
set_option maxRecDepth 100000 in
set_option maxHeartbeats 4000000 in
theorem kc_T_readTitle {g : zx_G} {σ : zx_M} {sz : Nat} {t len nx lv : Nat} {wr : Int32} {W : Nat → Int32} {n i : Nat} {R : Nat → Nat → Int32} (hO : zt g σ t len nx wr lv W) (hlen : len ≤ 3000) (hnx : nx ≤ 12000) (h : zl g σ lv n R) (htl : t + 2 ≤ lv ∨ lv + 12 ≤ t) (hi : i < 100) (h90 : R 9 i = nI 0) : zM g cy_T_readTitle cb_T_readTitle 3 (Option.some Jvm.ClassFile.FieldType.boolean) zr_T_readTitle 0 0 [.ref t, .int (nI i)] σ sz (zPi (fun v σ' sz' => sz' = sz ∧ zfr2 σ σ' t 2 lv 12 ∧ ∃ ok nx' wr' R', zt_title (za W len) i nx wr R = (ok, nx', wr', R') ∧ v = zb ok ∧ nx' ≤ nx + 17 ∧ (R' 3 = R 3) ∧ zt g σ' t len nx' wr' lv W ∧ zl g σ' lv n R')) := by
  have hF : zfr2 σ σ t 2 lv 12 := zfr2.rf
  have loop : ∀ (nx0 : Nat) (wr0 : Int32), nx0 ≤ nx + 1 → zt_exp (za W len) (nI 32) nx wr = (true, nx0, wr0) → ∀ (kk lo nx1 : Nat) (R1 : Nat → Nat → Int32) (σ1 : zx_M), lo + kk = 16 → nx1 ≤ nx0 + lo → R1 9 i = nI lo → R1 3 = R 3 → zt_tl (za W len) i kk lo nx1 R1 = zt_tl (za W len) i 16 0 nx0 R → zt g σ1 t len nx1 wr0 lv W → zl g σ1 lv n R1 → zfr2 σ σ1 t 2 lv 12 → zE g "FindingAid$TextReader" cb_T_readTitle 3 (Option.some Jvm.ClassFile.FieldType.boolean) false zr_T_readTitle 0 0 (zPi (fun v σ' sz' => sz' = sz ∧ zfr2 σ σ' t 2 lv 12 ∧ ∃ ok nx' wr' R', zt_title (za W len) i nx wr R = (ok, nx', wr', R') ∧ v = zb ok ∧ nx' ≤ nx + 17 ∧ (R' 3 = R 3) ∧ zt g σ' t len nx' wr' lv W ∧ zl g σ' lv n R')) 13 [(2, .int (nI lo)), (0, .ref t), (1, .int (nI i))] [] σ1 sz 0 0 := by
    intro nx0 wr0 hn0 hx0 kk
    induction kk with
    | zero =>
      intro lo nx1 R1 σ1 hk hnb hlo h3 hE hO h hF
      refine ze_iload_n 0 cd_T_readTitle_13 rfl rfl ?_
      refine ze_bipush (v := nI 16) cd_T_readTitle_14 (by decide) ?_
      refine ze_icmp_ge (tgt := 59) cd_T_readTitle_16 (by decide) (fun c2 => ?_) (fun c2 => ?_)
      · skip
        have c2 : 16 ≤ lo := (nI_leI (by omega) (by omega)).mp c2
        refine ze_aload_n 1 cd_T_readTitle_59 rfl rfl ?_
        refine ze_get zin_T (v := .ref lv) (ci := 5) rfl 4 (by decide) zm_169 rfl cd_T_readTitle_60 hO.1 rfl ?_
        refine ze_get zin_L (v := .ref (lv + 10)) (ci := 1) rfl 10 (by decide) zm_136 rfl cd_T_readTitle_63 h.1 rfl ?_
        refine ze_iload_n 2 cd_T_readTitle_66 rfl rfl ?_
        refine ze_iald (j := i) cd_T_readTitle_67 (h.2 9 _ rfl) rfl (by omega) (by decide) ?_
        refine ze_top hlo ?_
        refine ze_if_gt (tgt := 82) cd_T_readTitle_68 (by decide) (fun c3 => ?_) (fun c3 => ?_)
        · skip
          have c3 := c3; rw [← nI_0] at c3
          have c3 : 0 < lo := (nI_ltI (by omega) (by omega)).mp c3
          refine ze_iconst (v := nI 1) cd_T_readTitle_82 (by decide) ?_
          refine ze_goto (tgt := 87) cd_T_readTitle_83 (by decide) ?_
          refine ze_zret cd_T_readTitle_87 rfl (by decide) (by decide) (by decide) ⟨_, rfl, rfl, hF, true, nx1, wr0, R1, ?_, (by decide), by omega, (by first | rfl | exact h3), hO, h⟩
          first | (simp only [zt_title, hx0]; rw [← hE]; simp only [zt_tl, zt_ti2, c2, c3, Bool.false_eq_true, if_true, if_false] <;> (first | (rw [if_pos (by omega)]; done) | (rw [if_neg (by omega)]; done))) | (simp only [zt_title, hx0]; rw [← hE]; show zt_ti2 (lo, nx1, R1) wr0 = _; unfold zt_ti2; rw [if_neg (by show ¬ lo = 0; omega)]; done) | (simp only [zt_title, hx0]; rw [← hE]; show zt_ti2 (lo, nx1, R1) wr0 = _; unfold zt_ti2; rw [if_pos (by show lo = 0; omega)]; done) | (simp [zt_title, c2, c3]; done) | (simp_all [zt_title]; done)
        · skip
          have c3 := c3; rw [← nI_0] at c3
          have c3 : ¬ 0 < lo := fun h9 => c3 ((nI_ltI (by omega) (by omega)).mpr h9)
          refine ze_aload_n 1 cd_T_readTitle_71 rfl rfl ?_
          refine ze_aload_n 1 cd_T_readTitle_72 rfl rfl ?_
          refine ze_get zin_T (v := .int (nI nx1)) (ci := 5) rfl 2 (by decide) zm_166 rfl cd_T_readTitle_73 hO.1 rfl ?_
          refine ze_callVi (rm' := zr_T_wrongAt) (b := t) (As := [.int (nI nx1)]) (rest := []) (kc_T_wrongAt hO hlen (by omega)) ⟨rfl, rfl⟩ zy_T_wrongAt_ok zm_553 zm_555 zm_14 (ci := 5) rfl rfl (by decide) (by decide) cd_T_readTitle_76 hO.1 rfl rfl (Nat.le_of_ble_eq_true rfl) (fun v9 σ9 sz9 hq9 => ?_)
          obtain ⟨rfl, hF9, ok9, nx9, wr9, hX9, rfl, -, hO9⟩ := hq9
          obtain ⟨rfl, rfl, rfl⟩ : false = ok9 ∧ nx1 = nx9 ∧ nI nx1 = wr9 := by simpa [zt_wr] using hX9
          have h := h.frn hF9 11 rfl (by omega)
          have hO := hO9
          have hF := hF.tr1 hF9 (by omega)
          refine ze_if_eq (tgt := 86) cd_T_readTitle_79 (by decide) (fun c4 => ?_) (fun c4 => ?_)
          · skip
            have c4 : false = false := zb_f c4
            refine ze_iconst (v := nI 0) cd_T_readTitle_86 (by decide) ?_
            refine ze_zret cd_T_readTitle_87 rfl (by decide) (by decide) (by decide) ⟨_, rfl, rfl, hF, false, nx1, nI nx1, R1, ?_, (by decide), by omega, (by first | rfl | exact h3), hO, h⟩
            first | (simp only [zt_title, hx0]; rw [← hE]; simp only [zt_tl, zt_ti2, c2, c3, c4, Bool.false_eq_true, if_true, if_false] <;> (first | (rw [if_pos (by omega)]; done) | (rw [if_neg (by omega)]; done))) | (simp only [zt_title, hx0]; rw [← hE]; show zt_ti2 (lo, nx1, R1) wr0 = _; unfold zt_ti2; rw [if_neg (by show ¬ lo = 0; omega)]; done) | (simp only [zt_title, hx0]; rw [← hE]; show zt_ti2 (lo, nx1, R1) wr0 = _; unfold zt_ti2; rw [if_pos (by show lo = 0; omega)]; done) | (simp [zt_title, c2, c3, c4]; done) | (simp_all [zt_title]; done)
          · skip
            have c4 : false = true := zb_t c4
            refine ze_iconst (v := nI 1) cd_T_readTitle_82 (by decide) ?_
            refine ze_goto (tgt := 87) cd_T_readTitle_83 (by decide) ?_
            refine ze_zret cd_T_readTitle_87 rfl (by decide) (by decide) (by decide) ⟨_, rfl, rfl, hF, true, nx1, nI nx1, R1, ?_, (by decide), by omega, (by first | rfl | exact h3), hO, h⟩
            first | (simp only [zt_title, hx0]; rw [← hE]; simp only [zt_tl, zt_ti2, c2, c3, c4, Bool.false_eq_true, if_true, if_false] <;> (first | (rw [if_pos (by omega)]; done) | (rw [if_neg (by omega)]; done))) | (simp only [zt_title, hx0]; rw [← hE]; show zt_ti2 (lo, nx1, R1) wr0 = _; unfold zt_ti2; rw [if_neg (by show ¬ lo = 0; omega)]; done) | (simp only [zt_title, hx0]; rw [← hE]; show zt_ti2 (lo, nx1, R1) wr0 = _; unfold zt_ti2; rw [if_pos (by show lo = 0; omega)]; done) | (simp [zt_title, c2, c3, c4]; done) | (simp_all [zt_title]; done)
      · skip
        have c2 : ¬ 16 ≤ lo := fun h9 => c2 ((nI_leI (by omega) (by omega)).mpr h9)
        exfalso; omega
    | succ kk ih =>
      intro lo nx1 R1 σ1 hk hnb hlo h3 hE hO h hF
      refine ze_iload_n 0 cd_T_readTitle_13 rfl rfl ?_
      refine ze_bipush (v := nI 16) cd_T_readTitle_14 (by decide) ?_
      refine ze_icmp_ge (tgt := 59) cd_T_readTitle_16 (by decide) (fun c6 => ?_) (fun c6 => ?_)
      · skip
        have c6 : 16 ≤ lo := (nI_leI (by omega) (by omega)).mp c6
        exfalso; omega
      · skip
        have c6 : ¬ 16 ≤ lo := fun h9 => c6 ((nI_leI (by omega) (by omega)).mpr h9)
        refine ze_aload_n 1 cd_T_readTitle_19 rfl rfl ?_
        refine ze_iconst (v := nI 0) cd_T_readTitle_20 (by decide) ?_
        refine ze_callVp (rm' := zr_T_ahead) (b := t) (As := [.int (nI 0)]) (rest := []) (kc_T_ahead (W := W) hO hlen (by omega) (by omega)) ⟨rfl, rfl⟩ zy_T_ahead_ok zm_549 zm_551 zm_13 (ci := 5) rfl rfl (by decide) (by decide) cd_T_readTitle_21 hO.1 rfl rfl (Nat.le_of_ble_eq_true rfl) ?_
        refine ze_callSp (rm' := zr_T_isLetter) (As := [.int (za W len nx1)]) (rest := []) kc_T_isLetter ⟨rfl, rfl⟩ zy_T_isLetter_ok zm_593 zm_594 (by decide) (by decide) cd_T_readTitle_24 rfl rfl (Nat.le_of_ble_eq_true rfl) ?_
        refine ze_if_eq (tgt := 59) cd_T_readTitle_27 (by decide) (fun c7 => ?_) (fun c7 => ?_)
        · skip
          have c7 : (zt_l (za W len nx1)) = false := zb_f c7
          refine ze_aload_n 1 cd_T_readTitle_59 rfl rfl ?_
          refine ze_get zin_T (v := .ref lv) (ci := 5) rfl 4 (by decide) zm_169 rfl cd_T_readTitle_60 hO.1 rfl ?_
          refine ze_get zin_L (v := .ref (lv + 10)) (ci := 1) rfl 10 (by decide) zm_136 rfl cd_T_readTitle_63 h.1 rfl ?_
          refine ze_iload_n 2 cd_T_readTitle_66 rfl rfl ?_
          refine ze_iald (j := i) cd_T_readTitle_67 (h.2 9 _ rfl) rfl (by omega) (by decide) ?_
          refine ze_top hlo ?_
          refine ze_if_gt (tgt := 82) cd_T_readTitle_68 (by decide) (fun c8 => ?_) (fun c8 => ?_)
          · skip
            have c8 := c8; rw [← nI_0] at c8
            have c8 : 0 < lo := (nI_ltI (by omega) (by omega)).mp c8
            refine ze_iconst (v := nI 1) cd_T_readTitle_82 (by decide) ?_
            refine ze_goto (tgt := 87) cd_T_readTitle_83 (by decide) ?_
            refine ze_zret cd_T_readTitle_87 rfl (by decide) (by decide) (by decide) ⟨_, rfl, rfl, hF, true, nx1, wr0, R1, ?_, (by decide), by omega, (by first | rfl | exact h3), hO, h⟩
            first | (simp only [zt_title, hx0]; rw [← hE]; simp only [zt_tl, zt_ti2, c6, c7, c8, Bool.false_eq_true, if_true, if_false] <;> (first | (rw [if_pos (by omega)]; done) | (rw [if_neg (by omega)]; done))) | (simp only [zt_title, hx0]; rw [← hE]; show zt_ti2 (lo, nx1, R1) wr0 = _; unfold zt_ti2; rw [if_neg (by show ¬ lo = 0; omega)]; done) | (simp only [zt_title, hx0]; rw [← hE]; show zt_ti2 (lo, nx1, R1) wr0 = _; unfold zt_ti2; rw [if_pos (by show lo = 0; omega)]; done) | (simp [zt_title, c6, c7, c8]; done) | (simp_all [zt_title]; done)
          · skip
            have c8 := c8; rw [← nI_0] at c8
            have c8 : ¬ 0 < lo := fun h9 => c8 ((nI_ltI (by omega) (by omega)).mpr h9)
            refine ze_aload_n 1 cd_T_readTitle_71 rfl rfl ?_
            refine ze_aload_n 1 cd_T_readTitle_72 rfl rfl ?_
            refine ze_get zin_T (v := .int (nI nx1)) (ci := 5) rfl 2 (by decide) zm_166 rfl cd_T_readTitle_73 hO.1 rfl ?_
            refine ze_callVi (rm' := zr_T_wrongAt) (b := t) (As := [.int (nI nx1)]) (rest := []) (kc_T_wrongAt hO hlen (by omega)) ⟨rfl, rfl⟩ zy_T_wrongAt_ok zm_553 zm_555 zm_14 (ci := 5) rfl rfl (by decide) (by decide) cd_T_readTitle_76 hO.1 rfl rfl (Nat.le_of_ble_eq_true rfl) (fun v9 σ9 sz9 hq9 => ?_)
            obtain ⟨rfl, hF9, ok9, nx9, wr9, hX9, rfl, -, hO9⟩ := hq9
            obtain ⟨rfl, rfl, rfl⟩ : false = ok9 ∧ nx1 = nx9 ∧ nI nx1 = wr9 := by simpa [zt_wr] using hX9
            have h := h.frn hF9 11 rfl (by omega)
            have hO := hO9
            have hF := hF.tr1 hF9 (by omega)
            refine ze_if_eq (tgt := 86) cd_T_readTitle_79 (by decide) (fun c9 => ?_) (fun c9 => ?_)
            · skip
              have c9 : false = false := zb_f c9
              refine ze_iconst (v := nI 0) cd_T_readTitle_86 (by decide) ?_
              refine ze_zret cd_T_readTitle_87 rfl (by decide) (by decide) (by decide) ⟨_, rfl, rfl, hF, false, nx1, nI nx1, R1, ?_, (by decide), by omega, (by first | rfl | exact h3), hO, h⟩
              first | (simp only [zt_title, hx0]; rw [← hE]; simp only [zt_tl, zt_ti2, c6, c7, c8, c9, Bool.false_eq_true, if_true, if_false] <;> (first | (rw [if_pos (by omega)]; done) | (rw [if_neg (by omega)]; done))) | (simp only [zt_title, hx0]; rw [← hE]; show zt_ti2 (lo, nx1, R1) wr0 = _; unfold zt_ti2; rw [if_neg (by show ¬ lo = 0; omega)]; done) | (simp only [zt_title, hx0]; rw [← hE]; show zt_ti2 (lo, nx1, R1) wr0 = _; unfold zt_ti2; rw [if_pos (by show lo = 0; omega)]; done) | (simp [zt_title, c6, c7, c8, c9]; done) | (simp_all [zt_title]; done)
            · skip
              have c9 : false = true := zb_t c9
              refine ze_iconst (v := nI 1) cd_T_readTitle_82 (by decide) ?_
              refine ze_goto (tgt := 87) cd_T_readTitle_83 (by decide) ?_
              refine ze_zret cd_T_readTitle_87 rfl (by decide) (by decide) (by decide) ⟨_, rfl, rfl, hF, true, nx1, nI nx1, R1, ?_, (by decide), by omega, (by first | rfl | exact h3), hO, h⟩
              first | (simp only [zt_title, hx0]; rw [← hE]; simp only [zt_tl, zt_ti2, c6, c7, c8, c9, Bool.false_eq_true, if_true, if_false] <;> (first | (rw [if_pos (by omega)]; done) | (rw [if_neg (by omega)]; done))) | (simp only [zt_title, hx0]; rw [← hE]; show zt_ti2 (lo, nx1, R1) wr0 = _; unfold zt_ti2; rw [if_neg (by show ¬ lo = 0; omega)]; done) | (simp only [zt_title, hx0]; rw [← hE]; show zt_ti2 (lo, nx1, R1) wr0 = _; unfold zt_ti2; rw [if_pos (by show lo = 0; omega)]; done) | (simp [zt_title, c6, c7, c8, c9]; done) | (simp_all [zt_title]; done)
        · skip
          have c7 : (zt_l (za W len nx1)) = true := zb_t c7
          refine ze_aload_n 1 cd_T_readTitle_30 rfl rfl ?_
          refine ze_get zin_T (v := .ref lv) (ci := 5) rfl 4 (by decide) zm_169 rfl cd_T_readTitle_31 hO.1 rfl ?_
          refine ze_iload_n 2 cd_T_readTitle_34 rfl rfl ?_
          refine ze_aload_n 1 cd_T_readTitle_35 rfl rfl ?_
          refine ze_iconst (v := nI 0) cd_T_readTitle_36 (by decide) ?_
          refine ze_callVp (rm' := zr_T_ahead) (b := t) (As := [.int (nI 0)]) (rest := [.int (nI i), .ref lv]) (kc_T_ahead (W := W) hO hlen (by omega) (by omega)) ⟨rfl, rfl⟩ zy_T_ahead_ok zm_549 zm_551 zm_13 (ci := 5) rfl rfl (by decide) (by decide) cd_T_readTitle_37 hO.1 rfl rfl (Nat.le_of_ble_eq_true rfl) ?_
          refine ze_callVv (rm' := zr_L_addTitleSign) (b := lv) (As := [.int (nI i), .int (za W len nx1)]) (rest := []) (kc_L_addTitleSign h (by omega) hlo (by omega)) ⟨rfl, rfl⟩ zy_L_addTitleSign_ok zm_596 zm_470 zm_471 (ci := 1) rfl rfl (by decide) (by decide) cd_T_readTitle_40 h.1 rfl rfl (Nat.le_of_ble_eq_true rfl) (fun σ9 sz9 hq9 => ?_)
          obtain ⟨rfl, hF9, h9⟩ := hq9
          have hO := hO.frn hF9 1 rfl (by omega)
          have h := h9
          have hF := hF.tr1 hF9 (by omega)
          refine ze_aload_n 1 cd_T_readTitle_43 rfl rfl ?_
          refine ze_dup cd_T_readTitle_44 rfl ?_
          refine ze_get zin_T (v := .int (nI nx1)) (ci := 5) rfl 2 (by decide) zm_166 rfl cd_T_readTitle_45 hO.1 rfl ?_
          refine ze_iconst (v := nI 1) cd_T_readTitle_48 (by decide) ?_
          refine ze_iadd cd_T_readTitle_49 ?_
          refine ze_top (y := nI (nx1 + 1)) (nI_add _ _) ?_
          refine ze_put zin_T zy_T zt_T zn_T (ci := 5) rfl 2 (by decide) zm_166 rfl (Or.inl rfl) cd_T_readTitle_50 hO.1 rfl rfl (Nat.le_of_ble_eq_true rfl) (fs' := [.ref (t + 1), .int (nI len), .int (nI (nx1 + 1)), .int wr0, .ref lv]) rfl ?_
          have hO := hO.put (fs' := [.ref (t + 1), .int (nI len), .int (nI (nx1 + 1)), .int wr0, .ref lv])
          have h := h.upn (b := t) (e := .inr (5, [.ref (t + 1), .int (nI len), .int (nI (nx1 + 1)), .int wr0, .ref lv])) 11 rfl (by omega)
          have hF := hF.up (a := t) (e := .inr (5, [.ref (t + 1), .int (nI len), .int (nI (nx1 + 1)), .int wr0, .ref lv])) (by omega)
          refine ze_iinc (v := nI (lo + 1)) (lv' := [(2, .int (nI (lo + 1))), (0, .ref t), (1, .int (nI i))]) 0 cd_T_readTitle_53 rfl (nI_add _ 1) (by decide) rfl ?_
          refine ze_goto (tgt := 13) cd_T_readTitle_56 (by decide) ?_
          exact ih (lo + 1) _ _ _ (by omega) (by omega) (zl_ats_len (by omega)) (by rw [← h3, zl_ats, if_pos (by omega)]; rfl) (by rw [← hE]; simp [zt_tl, c7]) hO h hF
  refine zM_of (lv := [(0, .ref t), (1, .int (nI i))]) (ini := false) (by decide) rfl (by decide) (Nat.le_of_ble_eq_true rfl) rfl ?_
  refine ze_aload_n 0 cd_T_readTitle_0 rfl rfl ?_
  refine ze_bipush (v := nI 32) cd_T_readTitle_1 (by decide) ?_
  refine ze_callVi (rm' := zr_T_expect) (b := t) (As := [.int (nI 32)]) (rest := []) (kc_T_expect (x := nI 32) hO hlen (by omega)) ⟨rfl, rfl⟩ zy_T_expect_ok zm_589 zm_591 zm_20 (ci := 5) rfl rfl (by decide) (by decide) cd_T_readTitle_3 hO.1 rfl rfl (Nat.le_of_ble_eq_true rfl) (fun v9 σ9 sz9 hq9 => ?_)
  obtain ⟨rfl, hF9, ok10, nx10, wr10, hX10, rfl, hb10, hO9⟩ := hq9
  have h := h.frn hF9 11 rfl (by omega)
  have hO := hO9
  have hF := hF.tr1 hF9 (by omega)
  refine ze_if_ne (tgt := 11) cd_T_readTitle_6 (by decide) (fun c11 => ?_) (fun c11 => ?_)
  · skip
    have c11 : ok10 = true := zb_t c11
    refine ze_iconst (v := nI 0) cd_T_readTitle_11 (by decide) ?_
    refine ze_istore_n (lv' := [(2, .int (nI 0)), (0, .ref t), (1, .int (nI i))]) cd_T_readTitle_12 rfl (by decide) rfl ?_
    exact loop _ _ (by omega) (by simp_all) 16 0 _ R _ (by omega) (by omega) h90 rfl rfl hO h hF
  · skip
    have c11 : ok10 = false := zb_f c11
    refine ze_iconst (v := nI 0) cd_T_readTitle_9 (by decide) ?_
    refine ze_zret cd_T_readTitle_10 rfl (by decide) (by decide) (by decide) ⟨_, rfl, rfl, hF, false, nx10, wr10, R, ?_, (by decide), by omega, (by first | rfl | exact h3), hO, h⟩
    first | (simp only [zt_title, hx0]; rw [← hE]; simp only [zt_tl, zt_ti2, hX10, c11, Bool.false_eq_true, if_true, if_false] <;> (first | (rw [if_pos (by omega)]; done) | (rw [if_neg (by omega)]; done))) | (simp only [zt_title, hx0]; rw [← hE]; show zt_ti2 (lo, nx1, R1) wr0 = _; unfold zt_ti2; rw [if_neg (by show ¬ lo = 0; omega)]; done) | (simp only [zt_title, hx0]; rw [← hE]; show zt_ti2 (lo, nx1, R1) wr0 = _; unfold zt_ti2; rw [if_pos (by show lo = 0; omega)]; done) | (simp [zt_title, hX10, c11]; done) | (simp_all [zt_title]; done)
abbrev zr_T_readDate : Room := { frames := 2, cells := 0, slots := 0, locals := 46 }
set_option maxRecDepth 100000 in
set_option maxHeartbeats 4000000 in
theorem kc_T_readDate {g : zx_G} {σ : zx_M} {sz : Nat} {t len nx lv : Nat} {wr : Int32} {W : Nat → Int32} {n i : Nat} {R : Nat → Nat → Int32} (hO : zt g σ t len nx wr lv W) (hlen : len ≤ 3000) (hnx : nx ≤ 12000) (h : zl g σ lv n R) (htl : t + 2 ≤ lv ∨ lv + 12 ≤ t) (hi : i < 100) : zM g cy_T_readDate cb_T_readDate 4 (Option.some Jvm.ClassFile.FieldType.boolean) zr_T_readDate 0 0 [.ref t, .int (nI i)] σ sz (zPi (fun v σ' sz' => sz' = sz ∧ zfr2 σ σ' t 2 lv 12 ∧ ∃ ok nx' wr' R', zt_date (za W len) i nx wr R = (ok, nx', wr', R') ∧ v = zb ok ∧ nx' ≤ nx + 12 ∧ (R' 3 = R 3) ∧ zt g σ' t len nx' wr' lv W ∧ zl g σ' lv n R')) := by
  have hF : zfr2 σ σ t 2 lv 12 := zfr2.rf
  refine zM_of (lv := [(0, .ref t), (1, .int (nI i))]) (ini := false) (by decide) rfl (by decide) (Nat.le_of_ble_eq_true rfl) rfl ?_
  refine ze_aload_n 0 cd_T_readDate_0 rfl rfl ?_
  refine ze_iconst (v := nI 0) cd_T_readDate_1 (by decide) ?_
  refine ze_callVp (rm' := zr_T_ahead) (b := t) (As := [.int (nI 0)]) (rest := []) (kc_T_ahead (W := W) hO hlen (by omega) (by omega)) ⟨rfl, rfl⟩ zy_T_ahead_ok zm_549 zm_551 zm_13 (ci := 5) rfl rfl (by decide) (by decide) cd_T_readDate_2 hO.1 rfl rfl (Nat.le_of_ble_eq_true rfl) ?_
  refine ze_bipush (v := nI 32) cd_T_readDate_5 (by decide) ?_
  refine ze_icmp_ne (tgt := 20) cd_T_readDate_7 (by decide) (fun c1 => ?_) (fun c1 => ?_)
  · skip
    refine ze_iconst (v := nI 1) cd_T_readDate_20 (by decide) ?_
    refine ze_zret cd_T_readDate_21 rfl (by decide) (by decide) (by decide) ⟨_, rfl, rfl, hF, true, nx, wr, R, ?_, (by decide), by omega, rfl, hO, h⟩
    first | contradiction | (simp [zt_date, zt_dq, c1]; done) | (simp_all [zt_date, zt_dq]; done)
  · skip
    refine ze_aload_n 0 cd_T_readDate_10 rfl rfl ?_
    refine ze_iconst (v := nI 1) cd_T_readDate_11 (by decide) ?_
    refine ze_callVp (rm' := zr_T_ahead) (b := t) (As := [.int (nI 1)]) (rest := []) (kc_T_ahead (W := W) hO hlen (by omega) (by omega)) ⟨rfl, rfl⟩ zy_T_ahead_ok zm_549 zm_551 zm_13 (ci := 5) rfl rfl (by decide) (by decide) cd_T_readDate_12 hO.1 rfl rfl (Nat.le_of_ble_eq_true rfl) ?_
    refine ze_bipush (v := nI 100) cd_T_readDate_15 (by decide) ?_
    refine ze_icmp_eq (tgt := 22) cd_T_readDate_17 (by decide) (fun c2 => ?_) (fun c2 => ?_)
    · skip
      refine ze_aload_n 0 cd_T_readDate_22 rfl rfl ?_
      refine ze_dup cd_T_readDate_23 rfl ?_
      refine ze_get zin_T (v := .int (nI nx)) (ci := 5) rfl 2 (by decide) zm_166 rfl cd_T_readDate_24 hO.1 rfl ?_
      refine ze_iconst (v := nI 2) cd_T_readDate_27 (by decide) ?_
      refine ze_iadd cd_T_readDate_28 ?_
      refine ze_top (y := nI (nx + 2)) (nI_add _ _) ?_
      refine ze_put zin_T zy_T zt_T zn_T (ci := 5) rfl 2 (by decide) zm_166 rfl (Or.inl rfl) cd_T_readDate_29 hO.1 rfl rfl (Nat.le_of_ble_eq_true rfl) (fs' := [.ref (t + 1), .int (nI len), .int (nI (nx + 2)), .int wr, .ref lv]) rfl ?_
      have hO := hO.put (fs' := [.ref (t + 1), .int (nI len), .int (nI (nx + 2)), .int wr, .ref lv])
      have h := h.upn (b := t) (e := .inr (5, [.ref (t + 1), .int (nI len), .int (nI (nx + 2)), .int wr, .ref lv])) 11 rfl (by omega)
      have hF := hF.up (a := t) (e := .inr (5, [.ref (t + 1), .int (nI len), .int (nI (nx + 2)), .int wr, .ref lv])) (by omega)
      refine ze_aload_n 0 cd_T_readDate_32 rfl rfl ?_
      refine ze_sipush (v := nI 1000) cd_T_readDate_33 (by decide) ?_
      refine ze_callVi (rm' := zr_T_readYear) (b := t) (As := [.int (nI 1000)]) (rest := []) (kc_T_readYear (least := nI 1000) hO hlen (by omega)) ⟨rfl, rfl⟩ zy_T_readYear_ok zm_601 zm_603 zm_22 (ci := 5) rfl rfl (by decide) (by decide) cd_T_readDate_36 hO.1 rfl rfl (Nat.le_of_ble_eq_true rfl) (fun v9 σ9 sz9 hq9 => ?_)
      obtain ⟨rfl, hF9, r3, nx3, wr3, hX3, rfl, hb3, hO9⟩ := hq9
      have h := h.frn hF9 11 rfl (by omega)
      have hO := hO9
      have hF := hF.tr1 hF9 (by omega)
      refine ze_istore_n (lv' := [(2, .int r3), (0, .ref t), (1, .int (nI i))]) cd_T_readDate_39 rfl (by decide) rfl ?_
      refine ze_iload_n 0 cd_T_readDate_40 rfl rfl ?_
      refine ze_istore_n (lv' := [(3, .int r3), (2, .int r3), (0, .ref t), (1, .int (nI i))]) cd_T_readDate_41 rfl (by decide) rfl ?_
      refine ze_iload_n 1 cd_T_readDate_42 rfl rfl ?_
      refine ze_iconst (v := (-1 : Int32)) cd_T_readDate_43 (by decide) ?_
      refine ze_icmp_eq (tgt := 73) cd_T_readDate_44 (by decide) (fun c4 => ?_) (fun c4 => ?_)
      · skip
        refine ze_iload_n 0 cd_T_readDate_73 rfl rfl ?_
        refine ze_iconst (v := (-1 : Int32)) cd_T_readDate_74 (by decide) ?_
        refine ze_icmp_ne (tgt := 80) cd_T_readDate_75 (by decide) (fun c5 => ?_) (fun c5 => ?_)
        · skip
          refine ze_aload_n 2 cd_T_readDate_80 rfl rfl ?_
          refine ze_get zin_T (v := .ref lv) (ci := 5) rfl 4 (by decide) zm_169 rfl cd_T_readDate_81 hO.1 rfl ?_
          refine ze_get zin_L (v := .ref (lv + 5)) (ci := 1) rfl 5 (by decide) zm_114 rfl cd_T_readDate_84 h.1 rfl ?_
          refine ze_iload_n 3 cd_T_readDate_87 rfl rfl ?_
          refine ze_iload_n 1 cd_T_readDate_88 rfl rfl ?_
          refine ze_iast (j := i) cd_T_readDate_89 (h.2 4 _ rfl) rfl (by omega) (by decide) ?_
          have h := h.ar 4 0 100 rfl (b := lv + 5) (f := upd (R 4) i r3) (by omega)
          have hO := hO.upn (b := lv + 5) (e := .inl (g.2.2.2.1 0, 100, .inl (upd (R 4) i r3))) 1 rfl (by omega)
          have hF := hF.up (a := lv + 5) (e := .inl (g.2.2.2.1 0, 100, .inl (upd (R 4) i r3))) (by omega)
          refine ze_aload_n 2 cd_T_readDate_90 rfl rfl ?_
          refine ze_get zin_T (v := .ref lv) (ci := 5) rfl 4 (by decide) zm_169 rfl cd_T_readDate_91 hO.1 rfl ?_
          refine ze_get zin_L (v := .ref (lv + 6)) (ci := 1) rfl 6 (by decide) zm_118 rfl cd_T_readDate_94 h.1 rfl ?_
          refine ze_iload_n 3 cd_T_readDate_97 rfl rfl ?_
          refine ze_iload_n 0 cd_T_readDate_98 rfl rfl ?_
          refine ze_iast (j := i) (f := R 5) cd_T_readDate_99 (h.2 5 _ rfl) rfl (by omega) (by decide) ?_
          have h := h.ar 5 0 100 rfl (b := lv + 6) (f := upd (R 5) i r3) (by omega)
          have hO := hO.upn (b := lv + 6) (e := .inl (g.2.2.2.1 0, 100, .inl (upd (R 5) i r3))) 1 rfl (by omega)
          have hF := hF.up (a := lv + 6) (e := .inl (g.2.2.2.1 0, 100, .inl (upd (R 5) i r3))) (by omega)
          refine ze_aload_n 2 cd_T_readDate_100 rfl rfl ?_
          refine ze_iconst (v := nI 0) cd_T_readDate_101 (by decide) ?_
          refine ze_callVp (rm' := zr_T_ahead) (b := t) (As := [.int (nI 0)]) (rest := []) (kc_T_ahead (W := W) hO hlen (by omega) (by omega)) ⟨rfl, rfl⟩ zy_T_ahead_ok zm_549 zm_551 zm_13 (ci := 5) rfl rfl (by decide) (by decide) cd_T_readDate_102 hO.1 rfl rfl (Nat.le_of_ble_eq_true rfl) ?_
          refine ze_bipush (v := nI 63) cd_T_readDate_105 (by decide) ?_
          refine ze_icmp_ne (tgt := 130) cd_T_readDate_107 (by decide) (fun c6 => ?_) (fun c6 => ?_)
          · skip
            refine ze_iconst (v := nI 1) cd_T_readDate_130 (by decide) ?_
            refine ze_zret cd_T_readDate_131 rfl (by decide) (by decide) (by decide) ⟨_, rfl, rfl, hF, true, nx3, wr3, va_up (va_up R 4 (upd (R 4) i r3)) 5 (upd (R 5) i r3), ?_, (by decide), by omega, rfl, hO, h⟩
            first | contradiction | (simp [zt_date, zt_dq, c1, c2, hX3, c4, c5, c6]; done) | (simp_all [zt_date, zt_dq]; done)
          · skip
            refine ze_aload_n 2 cd_T_readDate_110 rfl rfl ?_
            refine ze_get zin_T (v := .ref lv) (ci := 5) rfl 4 (by decide) zm_169 rfl cd_T_readDate_111 hO.1 rfl ?_
            refine ze_get zin_L (v := .ref (lv + 7)) (ci := 1) rfl 7 (by decide) zm_122 rfl cd_T_readDate_114 h.1 rfl ?_
            refine ze_iload_n 3 cd_T_readDate_117 rfl rfl ?_
            refine ze_iconst (v := nI 1) cd_T_readDate_118 (by decide) ?_
            refine ze_iast (j := i) (f := R 6) cd_T_readDate_119 (h.2 6 _ rfl) rfl (by omega) (by decide) ?_
            have h := h.ar 6 0 100 rfl (b := lv + 7) (f := upd (R 6) i (nI 1)) (by omega)
            have hO := hO.upn (b := lv + 7) (e := .inl (g.2.2.2.1 0, 100, .inl (upd (R 6) i (nI 1)))) 1 rfl (by omega)
            have hF := hF.up (a := lv + 7) (e := .inl (g.2.2.2.1 0, 100, .inl (upd (R 6) i (nI 1)))) (by omega)
            refine ze_aload_n 2 cd_T_readDate_120 rfl rfl ?_
            refine ze_dup cd_T_readDate_121 rfl ?_
            refine ze_get zin_T (v := .int (nI nx3)) (ci := 5) rfl 2 (by decide) zm_166 rfl cd_T_readDate_122 hO.1 rfl ?_
            refine ze_iconst (v := nI 1) cd_T_readDate_125 (by decide) ?_
            refine ze_iadd cd_T_readDate_126 ?_
            refine ze_top (y := nI (nx3 + 1)) (nI_add _ _) ?_
            refine ze_put zin_T zy_T zt_T zn_T (ci := 5) rfl 2 (by decide) zm_166 rfl (Or.inl rfl) cd_T_readDate_127 hO.1 rfl rfl (Nat.le_of_ble_eq_true rfl) (fs' := [.ref (t + 1), .int (nI len), .int (nI (nx3 + 1)), .int wr3, .ref lv]) rfl ?_
            have hO := hO.put (fs' := [.ref (t + 1), .int (nI len), .int (nI (nx3 + 1)), .int wr3, .ref lv])
            have h := h.upn (b := t) (e := .inr (5, [.ref (t + 1), .int (nI len), .int (nI (nx3 + 1)), .int wr3, .ref lv])) 11 rfl (by omega)
            have hF := hF.up (a := t) (e := .inr (5, [.ref (t + 1), .int (nI len), .int (nI (nx3 + 1)), .int wr3, .ref lv])) (by omega)
            refine ze_iconst (v := nI 1) cd_T_readDate_130 (by decide) ?_
            refine ze_zret cd_T_readDate_131 rfl (by decide) (by decide) (by decide) ⟨_, rfl, rfl, hF, true, nx3 + 1, wr3, va_up (va_up (va_up R 4 (upd (R 4) i r3)) 5 (upd (R 5) i r3)) 6 (upd (R 6) i (nI 1)), ?_, (by decide), by omega, rfl, hO, h⟩
            first | contradiction | (simp [zt_date, zt_dq, c1, c2, hX3, c4, c5, c6]; done) | (simp_all [zt_date, zt_dq]; done)
        · skip
          refine ze_iconst (v := nI 0) cd_T_readDate_78 (by decide) ?_
          refine ze_zret cd_T_readDate_79 rfl (by decide) (by decide) (by decide) ⟨_, rfl, rfl, hF, false, nx3, wr3, R, ?_, (by decide), by omega, rfl, hO, h⟩
          first | contradiction | (simp [zt_date, zt_dq, c1, c2, hX3, c4, c5]; done) | (simp_all [zt_date, zt_dq]; done)
      · skip
        refine ze_aload_n 2 cd_T_readDate_47 rfl rfl ?_
        refine ze_iconst (v := nI 0) cd_T_readDate_48 (by decide) ?_
        refine ze_callVp (rm' := zr_T_ahead) (b := t) (As := [.int (nI 0)]) (rest := []) (kc_T_ahead (W := W) hO hlen (by omega) (by omega)) ⟨rfl, rfl⟩ zy_T_ahead_ok zm_549 zm_551 zm_13 (ci := 5) rfl rfl (by decide) (by decide) cd_T_readDate_49 hO.1 rfl rfl (Nat.le_of_ble_eq_true rfl) ?_
        refine ze_bipush (v := nI 45) cd_T_readDate_52 (by decide) ?_
        refine ze_icmp_ne (tgt := 73) cd_T_readDate_54 (by decide) (fun c7 => ?_) (fun c7 => ?_)
        · skip
          refine ze_iload_n 0 cd_T_readDate_73 rfl rfl ?_
          refine ze_iconst (v := (-1 : Int32)) cd_T_readDate_74 (by decide) ?_
          refine ze_icmp_ne (tgt := 80) cd_T_readDate_75 (by decide) (fun c8 => ?_) (fun c8 => ?_)
          · skip
            refine ze_aload_n 2 cd_T_readDate_80 rfl rfl ?_
            refine ze_get zin_T (v := .ref lv) (ci := 5) rfl 4 (by decide) zm_169 rfl cd_T_readDate_81 hO.1 rfl ?_
            refine ze_get zin_L (v := .ref (lv + 5)) (ci := 1) rfl 5 (by decide) zm_114 rfl cd_T_readDate_84 h.1 rfl ?_
            refine ze_iload_n 3 cd_T_readDate_87 rfl rfl ?_
            refine ze_iload_n 1 cd_T_readDate_88 rfl rfl ?_
            refine ze_iast (j := i) cd_T_readDate_89 (h.2 4 _ rfl) rfl (by omega) (by decide) ?_
            have h := h.ar 4 0 100 rfl (b := lv + 5) (f := upd (R 4) i r3) (by omega)
            have hO := hO.upn (b := lv + 5) (e := .inl (g.2.2.2.1 0, 100, .inl (upd (R 4) i r3))) 1 rfl (by omega)
            have hF := hF.up (a := lv + 5) (e := .inl (g.2.2.2.1 0, 100, .inl (upd (R 4) i r3))) (by omega)
            refine ze_aload_n 2 cd_T_readDate_90 rfl rfl ?_
            refine ze_get zin_T (v := .ref lv) (ci := 5) rfl 4 (by decide) zm_169 rfl cd_T_readDate_91 hO.1 rfl ?_
            refine ze_get zin_L (v := .ref (lv + 6)) (ci := 1) rfl 6 (by decide) zm_118 rfl cd_T_readDate_94 h.1 rfl ?_
            refine ze_iload_n 3 cd_T_readDate_97 rfl rfl ?_
            refine ze_iload_n 0 cd_T_readDate_98 rfl rfl ?_
            refine ze_iast (j := i) (f := R 5) cd_T_readDate_99 (h.2 5 _ rfl) rfl (by omega) (by decide) ?_
            have h := h.ar 5 0 100 rfl (b := lv + 6) (f := upd (R 5) i r3) (by omega)
            have hO := hO.upn (b := lv + 6) (e := .inl (g.2.2.2.1 0, 100, .inl (upd (R 5) i r3))) 1 rfl (by omega)
            have hF := hF.up (a := lv + 6) (e := .inl (g.2.2.2.1 0, 100, .inl (upd (R 5) i r3))) (by omega)
            refine ze_aload_n 2 cd_T_readDate_100 rfl rfl ?_
            refine ze_iconst (v := nI 0) cd_T_readDate_101 (by decide) ?_
            refine ze_callVp (rm' := zr_T_ahead) (b := t) (As := [.int (nI 0)]) (rest := []) (kc_T_ahead (W := W) hO hlen (by omega) (by omega)) ⟨rfl, rfl⟩ zy_T_ahead_ok zm_549 zm_551 zm_13 (ci := 5) rfl rfl (by decide) (by decide) cd_T_readDate_102 hO.1 rfl rfl (Nat.le_of_ble_eq_true rfl) ?_
            refine ze_bipush (v := nI 63) cd_T_readDate_105 (by decide) ?_
            refine ze_icmp_ne (tgt := 130) cd_T_readDate_107 (by decide) (fun c9 => ?_) (fun c9 => ?_)
            · skip
              refine ze_iconst (v := nI 1) cd_T_readDate_130 (by decide) ?_
              refine ze_zret cd_T_readDate_131 rfl (by decide) (by decide) (by decide) ⟨_, rfl, rfl, hF, true, nx3, wr3, va_up (va_up R 4 (upd (R 4) i r3)) 5 (upd (R 5) i r3), ?_, (by decide), by omega, rfl, hO, h⟩
              first | contradiction | (simp [zt_date, zt_dq, c1, c2, hX3, c4, c7, c8, c9]; done) | (simp_all [zt_date, zt_dq]; done)
            · skip
              refine ze_aload_n 2 cd_T_readDate_110 rfl rfl ?_
              refine ze_get zin_T (v := .ref lv) (ci := 5) rfl 4 (by decide) zm_169 rfl cd_T_readDate_111 hO.1 rfl ?_
              refine ze_get zin_L (v := .ref (lv + 7)) (ci := 1) rfl 7 (by decide) zm_122 rfl cd_T_readDate_114 h.1 rfl ?_
              refine ze_iload_n 3 cd_T_readDate_117 rfl rfl ?_
              refine ze_iconst (v := nI 1) cd_T_readDate_118 (by decide) ?_
              refine ze_iast (j := i) (f := R 6) cd_T_readDate_119 (h.2 6 _ rfl) rfl (by omega) (by decide) ?_
              have h := h.ar 6 0 100 rfl (b := lv + 7) (f := upd (R 6) i (nI 1)) (by omega)
              have hO := hO.upn (b := lv + 7) (e := .inl (g.2.2.2.1 0, 100, .inl (upd (R 6) i (nI 1)))) 1 rfl (by omega)
              have hF := hF.up (a := lv + 7) (e := .inl (g.2.2.2.1 0, 100, .inl (upd (R 6) i (nI 1)))) (by omega)
              refine ze_aload_n 2 cd_T_readDate_120 rfl rfl ?_
              refine ze_dup cd_T_readDate_121 rfl ?_
              refine ze_get zin_T (v := .int (nI nx3)) (ci := 5) rfl 2 (by decide) zm_166 rfl cd_T_readDate_122 hO.1 rfl ?_
              refine ze_iconst (v := nI 1) cd_T_readDate_125 (by decide) ?_
              refine ze_iadd cd_T_readDate_126 ?_
              refine ze_top (y := nI (nx3 + 1)) (nI_add _ _) ?_
              refine ze_put zin_T zy_T zt_T zn_T (ci := 5) rfl 2 (by decide) zm_166 rfl (Or.inl rfl) cd_T_readDate_127 hO.1 rfl rfl (Nat.le_of_ble_eq_true rfl) (fs' := [.ref (t + 1), .int (nI len), .int (nI (nx3 + 1)), .int wr3, .ref lv]) rfl ?_
              have hO := hO.put (fs' := [.ref (t + 1), .int (nI len), .int (nI (nx3 + 1)), .int wr3, .ref lv])
              have h := h.upn (b := t) (e := .inr (5, [.ref (t + 1), .int (nI len), .int (nI (nx3 + 1)), .int wr3, .ref lv])) 11 rfl (by omega)
              have hF := hF.up (a := t) (e := .inr (5, [.ref (t + 1), .int (nI len), .int (nI (nx3 + 1)), .int wr3, .ref lv])) (by omega)
              refine ze_iconst (v := nI 1) cd_T_readDate_130 (by decide) ?_
              refine ze_zret cd_T_readDate_131 rfl (by decide) (by decide) (by decide) ⟨_, rfl, rfl, hF, true, nx3 + 1, wr3, va_up (va_up (va_up R 4 (upd (R 4) i r3)) 5 (upd (R 5) i r3)) 6 (upd (R 6) i (nI 1)), ?_, (by decide), by omega, rfl, hO, h⟩
              first | contradiction | (simp [zt_date, zt_dq, c1, c2, hX3, c4, c7, c8, c9]; done) | (simp_all [zt_date, zt_dq]; done)
          · skip
            refine ze_iconst (v := nI 0) cd_T_readDate_78 (by decide) ?_
            refine ze_zret cd_T_readDate_79 rfl (by decide) (by decide) (by decide) ⟨_, rfl, rfl, hF, false, nx3, wr3, R, ?_, (by decide), by omega, rfl, hO, h⟩
            first | contradiction | (simp [zt_date, zt_dq, c1, c2, hX3, c4, c7, c8]; done) | (simp_all [zt_date, zt_dq]; done)
        · skip
          refine ze_aload_n 2 cd_T_readDate_57 rfl rfl ?_
          refine ze_dup cd_T_readDate_58 rfl ?_
          refine ze_get zin_T (v := .int (nI nx3)) (ci := 5) rfl 2 (by decide) zm_166 rfl cd_T_readDate_59 hO.1 rfl ?_
          refine ze_iconst (v := nI 1) cd_T_readDate_62 (by decide) ?_
          refine ze_iadd cd_T_readDate_63 ?_
          refine ze_top (y := nI (nx3 + 1)) (nI_add _ _) ?_
          refine ze_put zin_T zy_T zt_T zn_T (ci := 5) rfl 2 (by decide) zm_166 rfl (Or.inl rfl) cd_T_readDate_64 hO.1 rfl rfl (Nat.le_of_ble_eq_true rfl) (fs' := [.ref (t + 1), .int (nI len), .int (nI (nx3 + 1)), .int wr3, .ref lv]) rfl ?_
          have hO := hO.put (fs' := [.ref (t + 1), .int (nI len), .int (nI (nx3 + 1)), .int wr3, .ref lv])
          have h := h.upn (b := t) (e := .inr (5, [.ref (t + 1), .int (nI len), .int (nI (nx3 + 1)), .int wr3, .ref lv])) 11 rfl (by omega)
          have hF := hF.up (a := t) (e := .inr (5, [.ref (t + 1), .int (nI len), .int (nI (nx3 + 1)), .int wr3, .ref lv])) (by omega)
          refine ze_aload_n 2 cd_T_readDate_67 rfl rfl ?_
          refine ze_iload_n 1 cd_T_readDate_68 rfl rfl ?_
          refine ze_callVi (rm' := zr_T_readYear) (b := t) (As := [.int r3]) (rest := []) (kc_T_readYear (least := r3) hO hlen (by omega)) ⟨rfl, rfl⟩ zy_T_readYear_ok zm_601 zm_603 zm_22 (ci := 5) rfl rfl (by decide) (by decide) cd_T_readDate_69 hO.1 rfl rfl (Nat.le_of_ble_eq_true rfl) (fun v9 σ9 sz9 hq9 => ?_)
          obtain ⟨rfl, hF9, r10, nx10, wr10, hX10, rfl, hb10, hO9⟩ := hq9
          have h := h.frn hF9 11 rfl (by omega)
          have hO := hO9
          have hF := hF.tr1 hF9 (by omega)
          refine ze_istore_n (lv' := [(3, .int r10), (2, .int r3), (0, .ref t), (1, .int (nI i))]) cd_T_readDate_72 rfl (by decide) rfl ?_
          refine ze_iload_n 0 cd_T_readDate_73 rfl rfl ?_
          refine ze_iconst (v := (-1 : Int32)) cd_T_readDate_74 (by decide) ?_
          refine ze_icmp_ne (tgt := 80) cd_T_readDate_75 (by decide) (fun c11 => ?_) (fun c11 => ?_)
          · skip
            refine ze_aload_n 2 cd_T_readDate_80 rfl rfl ?_
            refine ze_get zin_T (v := .ref lv) (ci := 5) rfl 4 (by decide) zm_169 rfl cd_T_readDate_81 hO.1 rfl ?_
            refine ze_get zin_L (v := .ref (lv + 5)) (ci := 1) rfl 5 (by decide) zm_114 rfl cd_T_readDate_84 h.1 rfl ?_
            refine ze_iload_n 3 cd_T_readDate_87 rfl rfl ?_
            refine ze_iload_n 1 cd_T_readDate_88 rfl rfl ?_
            refine ze_iast (j := i) cd_T_readDate_89 (h.2 4 _ rfl) rfl (by omega) (by decide) ?_
            have h := h.ar 4 0 100 rfl (b := lv + 5) (f := upd (R 4) i r3) (by omega)
            have hO := hO.upn (b := lv + 5) (e := .inl (g.2.2.2.1 0, 100, .inl (upd (R 4) i r3))) 1 rfl (by omega)
            have hF := hF.up (a := lv + 5) (e := .inl (g.2.2.2.1 0, 100, .inl (upd (R 4) i r3))) (by omega)
            refine ze_aload_n 2 cd_T_readDate_90 rfl rfl ?_
            refine ze_get zin_T (v := .ref lv) (ci := 5) rfl 4 (by decide) zm_169 rfl cd_T_readDate_91 hO.1 rfl ?_
            refine ze_get zin_L (v := .ref (lv + 6)) (ci := 1) rfl 6 (by decide) zm_118 rfl cd_T_readDate_94 h.1 rfl ?_
            refine ze_iload_n 3 cd_T_readDate_97 rfl rfl ?_
            refine ze_iload_n 0 cd_T_readDate_98 rfl rfl ?_
            refine ze_iast (j := i) (f := R 5) cd_T_readDate_99 (h.2 5 _ rfl) rfl (by omega) (by decide) ?_
            have h := h.ar 5 0 100 rfl (b := lv + 6) (f := upd (R 5) i r10) (by omega)
            have hO := hO.upn (b := lv + 6) (e := .inl (g.2.2.2.1 0, 100, .inl (upd (R 5) i r10))) 1 rfl (by omega)
            have hF := hF.up (a := lv + 6) (e := .inl (g.2.2.2.1 0, 100, .inl (upd (R 5) i r10))) (by omega)
            refine ze_aload_n 2 cd_T_readDate_100 rfl rfl ?_
            refine ze_iconst (v := nI 0) cd_T_readDate_101 (by decide) ?_
            refine ze_callVp (rm' := zr_T_ahead) (b := t) (As := [.int (nI 0)]) (rest := []) (kc_T_ahead (W := W) hO hlen (by omega) (by omega)) ⟨rfl, rfl⟩ zy_T_ahead_ok zm_549 zm_551 zm_13 (ci := 5) rfl rfl (by decide) (by decide) cd_T_readDate_102 hO.1 rfl rfl (Nat.le_of_ble_eq_true rfl) ?_
            refine ze_bipush (v := nI 63) cd_T_readDate_105 (by decide) ?_
            refine ze_icmp_ne (tgt := 130) cd_T_readDate_107 (by decide) (fun c12 => ?_) (fun c12 => ?_)
            · skip
              refine ze_iconst (v := nI 1) cd_T_readDate_130 (by decide) ?_
              refine ze_zret cd_T_readDate_131 rfl (by decide) (by decide) (by decide) ⟨_, rfl, rfl, hF, true, nx10, wr10, va_up (va_up R 4 (upd (R 4) i r3)) 5 (upd (R 5) i r10), ?_, (by decide), by omega, rfl, hO, h⟩
              first | contradiction | (simp [zt_date, zt_dq, c1, c2, hX3, c4, c7, hX10, c11, c12]; done) | (simp_all [zt_date, zt_dq]; done)
            · skip
              refine ze_aload_n 2 cd_T_readDate_110 rfl rfl ?_
              refine ze_get zin_T (v := .ref lv) (ci := 5) rfl 4 (by decide) zm_169 rfl cd_T_readDate_111 hO.1 rfl ?_
              refine ze_get zin_L (v := .ref (lv + 7)) (ci := 1) rfl 7 (by decide) zm_122 rfl cd_T_readDate_114 h.1 rfl ?_
              refine ze_iload_n 3 cd_T_readDate_117 rfl rfl ?_
              refine ze_iconst (v := nI 1) cd_T_readDate_118 (by decide) ?_
              refine ze_iast (j := i) (f := R 6) cd_T_readDate_119 (h.2 6 _ rfl) rfl (by omega) (by decide) ?_
              have h := h.ar 6 0 100 rfl (b := lv + 7) (f := upd (R 6) i (nI 1)) (by omega)
              have hO := hO.upn (b := lv + 7) (e := .inl (g.2.2.2.1 0, 100, .inl (upd (R 6) i (nI 1)))) 1 rfl (by omega)
              have hF := hF.up (a := lv + 7) (e := .inl (g.2.2.2.1 0, 100, .inl (upd (R 6) i (nI 1)))) (by omega)
              refine ze_aload_n 2 cd_T_readDate_120 rfl rfl ?_
              refine ze_dup cd_T_readDate_121 rfl ?_
              refine ze_get zin_T (v := .int (nI nx10)) (ci := 5) rfl 2 (by decide) zm_166 rfl cd_T_readDate_122 hO.1 rfl ?_
              refine ze_iconst (v := nI 1) cd_T_readDate_125 (by decide) ?_
              refine ze_iadd cd_T_readDate_126 ?_
              refine ze_top (y := nI (nx10 + 1)) (nI_add _ _) ?_
              refine ze_put zin_T zy_T zt_T zn_T (ci := 5) rfl 2 (by decide) zm_166 rfl (Or.inl rfl) cd_T_readDate_127 hO.1 rfl rfl (Nat.le_of_ble_eq_true rfl) (fs' := [.ref (t + 1), .int (nI len), .int (nI (nx10 + 1)), .int wr10, .ref lv]) rfl ?_
              have hO := hO.put (fs' := [.ref (t + 1), .int (nI len), .int (nI (nx10 + 1)), .int wr10, .ref lv])
              have h := h.upn (b := t) (e := .inr (5, [.ref (t + 1), .int (nI len), .int (nI (nx10 + 1)), .int wr10, .ref lv])) 11 rfl (by omega)
              have hF := hF.up (a := t) (e := .inr (5, [.ref (t + 1), .int (nI len), .int (nI (nx10 + 1)), .int wr10, .ref lv])) (by omega)
              refine ze_iconst (v := nI 1) cd_T_readDate_130 (by decide) ?_
              refine ze_zret cd_T_readDate_131 rfl (by decide) (by decide) (by decide) ⟨_, rfl, rfl, hF, true, nx10 + 1, wr10, va_up (va_up (va_up R 4 (upd (R 4) i r3)) 5 (upd (R 5) i r10)) 6 (upd (R 6) i (nI 1)), ?_, (by decide), by omega, rfl, hO, h⟩
              first | contradiction | (simp [zt_date, zt_dq, c1, c2, hX3, c4, c7, hX10, c11, c12]; done) | (simp_all [zt_date, zt_dq]; done)
          · skip
            refine ze_iconst (v := nI 0) cd_T_readDate_78 (by decide) ?_
            refine ze_zret cd_T_readDate_79 rfl (by decide) (by decide) (by decide) ⟨_, rfl, rfl, hF, false, nx10, wr10, R, ?_, (by decide), by omega, rfl, hO, h⟩
            first | contradiction | (simp [zt_date, zt_dq, c1, c2, hX3, c4, c7, hX10, c11]; done) | (simp_all [zt_date, zt_dq]; done)
    · skip
      refine ze_iconst (v := nI 1) cd_T_readDate_20 (by decide) ?_
      refine ze_zret cd_T_readDate_21 rfl (by decide) (by decide) (by decide) ⟨_, rfl, rfl, hF, true, nx, wr, R, ?_, (by decide), by omega, rfl, hO, h⟩
      first | contradiction | (simp [zt_date, zt_dq, c1, c2]; done) | (simp_all [zt_date, zt_dq]; done)
abbrev zr_T_readExtent : Room := { frames := 2, cells := 0, slots := 0, locals := 45 }
set_option maxRecDepth 100000 in
set_option maxHeartbeats 4000000 in
theorem kc_T_readExtent {g : zx_G} {σ : zx_M} {sz : Nat} {t len nx lv : Nat} {wr : Int32} {W : Nat → Int32} {n i : Nat} {R : Nat → Nat → Int32} (hO : zt g σ t len nx wr lv W) (hlen : len ≤ 3000) (hnx : nx ≤ 12000) (h : zl g σ lv n R) (htl : t + 2 ≤ lv ∨ lv + 12 ≤ t) (hi : i < 100) : zM g cy_T_readExtent cb_T_readExtent 2 (Option.some Jvm.ClassFile.FieldType.boolean) zr_T_readExtent 0 0 [.ref t, .int (nI i)] σ sz (zPi (fun v σ' sz' => sz' = sz ∧ zfr2 σ σ' t 2 lv 12 ∧ ∃ ok nx' wr' R', zt_ext (za W len) i nx wr R = (ok, nx', wr', R') ∧ v = zb ok ∧ nx' ≤ nx + 8 ∧ (R' 3 = R 3) ∧ zt g σ' t len nx' wr' lv W ∧ zl g σ' lv n R')) := by
  have hF : zfr2 σ σ t 2 lv 12 := zfr2.rf
  refine zM_of (lv := [(0, .ref t), (1, .int (nI i))]) (ini := false) (by decide) rfl (by decide) (Nat.le_of_ble_eq_true rfl) rfl ?_
  refine ze_aload_n 0 cd_T_readExtent_0 rfl rfl ?_
  refine ze_iconst (v := nI 0) cd_T_readExtent_1 (by decide) ?_
  refine ze_callVp (rm' := zr_T_ahead) (b := t) (As := [.int (nI 0)]) (rest := []) (kc_T_ahead (W := W) hO hlen (by omega) (by omega)) ⟨rfl, rfl⟩ zy_T_ahead_ok zm_549 zm_551 zm_13 (ci := 5) rfl rfl (by decide) (by decide) cd_T_readExtent_2 hO.1 rfl rfl (Nat.le_of_ble_eq_true rfl) ?_
  refine ze_bipush (v := nI 32) cd_T_readExtent_5 (by decide) ?_
  refine ze_icmp_eq (tgt := 12) cd_T_readExtent_7 (by decide) (fun c1 => ?_) (fun c1 => ?_)
  · skip
    refine ze_aload_n 0 cd_T_readExtent_12 rfl rfl ?_
    refine ze_dup cd_T_readExtent_13 rfl ?_
    refine ze_get zin_T (v := .int (nI nx)) (ci := 5) rfl 2 (by decide) zm_166 rfl cd_T_readExtent_14 hO.1 rfl ?_
    refine ze_iconst (v := nI 1) cd_T_readExtent_17 (by decide) ?_
    refine ze_iadd cd_T_readExtent_18 ?_
    refine ze_top (y := nI (nx + 1)) (nI_add _ _) ?_
    refine ze_put zin_T zy_T zt_T zn_T (ci := 5) rfl 2 (by decide) zm_166 rfl (Or.inl rfl) cd_T_readExtent_19 hO.1 rfl rfl (Nat.le_of_ble_eq_true rfl) (fs' := [.ref (t + 1), .int (nI len), .int (nI (nx + 1)), .int wr, .ref lv]) rfl ?_
    have hO := hO.put (fs' := [.ref (t + 1), .int (nI len), .int (nI (nx + 1)), .int wr, .ref lv])
    have h := h.upn (b := t) (e := .inr (5, [.ref (t + 1), .int (nI len), .int (nI (nx + 1)), .int wr, .ref lv])) 11 rfl (by omega)
    have hF := hF.up (a := t) (e := .inr (5, [.ref (t + 1), .int (nI len), .int (nI (nx + 1)), .int wr, .ref lv])) (by omega)
    refine ze_aload_n 0 cd_T_readExtent_22 rfl rfl ?_
    refine ze_bipush (v := nI 101) cd_T_readExtent_23 (by decide) ?_
    refine ze_callVi (rm' := zr_T_expect) (b := t) (As := [.int (nI 101)]) (rest := []) (kc_T_expect (x := nI 101) hO hlen (by omega)) ⟨rfl, rfl⟩ zy_T_expect_ok zm_589 zm_591 zm_20 (ci := 5) rfl rfl (by decide) (by decide) cd_T_readExtent_25 hO.1 rfl rfl (Nat.le_of_ble_eq_true rfl) (fun v9 σ9 sz9 hq9 => ?_)
    obtain ⟨rfl, hF9, ok2, nx2, wr2, hX2, rfl, hb2, hO9⟩ := hq9
    have h := h.frn hF9 11 rfl (by omega)
    have hO := hO9
    have hF := hF.tr1 hF9 (by omega)
    refine ze_if_ne (tgt := 33) cd_T_readExtent_28 (by decide) (fun c3 => ?_) (fun c3 => ?_)
    · skip
      have c3 : ok2 = true := zb_t c3
      refine ze_aload_n 0 cd_T_readExtent_33 rfl rfl ?_
      refine ze_get zin_T (v := .ref lv) (ci := 5) rfl 4 (by decide) zm_169 rfl cd_T_readExtent_34 hO.1 rfl ?_
      refine ze_get zin_L (v := .ref (lv + 8)) (ci := 1) rfl 8 (by decide) zm_127 rfl cd_T_readExtent_37 h.1 rfl ?_
      refine ze_iload_n 1 cd_T_readExtent_40 rfl rfl ?_
      refine ze_aload_n 0 cd_T_readExtent_41 rfl rfl ?_
      refine ze_callVi (rm' := zr_T_readDigits) (b := t) (As := []) (rest := [.int (nI i), .ref (lv + 8)]) (kc_T_readDigits hO hlen (by omega)) ⟨rfl, rfl⟩ zy_T_readDigits_ok zm_578 zm_580 zm_18 (ci := 5) rfl rfl (by decide) (by decide) cd_T_readExtent_42 hO.1 rfl rfl (Nat.le_of_ble_eq_true rfl) (fun v9 σ9 sz9 hq9 => ?_)
      obtain ⟨rfl, hF9, r4, nx4, wr4, hX4, rfl, hb4, hO9⟩ := hq9
      have h := h.frn hF9 11 rfl (by omega)
      have hO := hO9
      have hF := hF.tr1 hF9 (by omega)
      refine ze_iast (j := i) cd_T_readExtent_45 (h.2 7 _ rfl) rfl (by omega) (by decide) ?_
      have h := h.ar 7 0 100 rfl (b := lv + 8) (f := upd (R 7) i r4) (by omega)
      have hO := hO.upn (b := lv + 8) (e := .inl (g.2.2.2.1 0, 100, .inl (upd (R 7) i r4))) 1 rfl (by omega)
      have hF := hF.up (a := lv + 8) (e := .inl (g.2.2.2.1 0, 100, .inl (upd (R 7) i r4))) (by omega)
      refine ze_aload_n 0 cd_T_readExtent_46 rfl rfl ?_
      refine ze_get zin_T (v := .ref lv) (ci := 5) rfl 4 (by decide) zm_169 rfl cd_T_readExtent_47 hO.1 rfl ?_
      refine ze_get zin_L (v := .ref (lv + 8)) (ci := 1) rfl 8 (by decide) zm_127 rfl cd_T_readExtent_50 h.1 rfl ?_
      refine ze_iload_n 1 cd_T_readExtent_53 rfl rfl ?_
      refine ze_iald (j := i) (f := upd (R 7) i r4) cd_T_readExtent_54 (h.2 7 _ rfl) rfl (by omega) (by decide) ?_
      refine ze_top (y := r4) pk_us ?_
      refine ze_iconst (v := (-1 : Int32)) cd_T_readExtent_55 (by decide) ?_
      refine ze_icmp_ne (tgt := 61) cd_T_readExtent_56 (by decide) (fun c5 => ?_) (fun c5 => ?_)
      · skip
        refine ze_aload_n 0 cd_T_readExtent_61 rfl rfl ?_
        refine ze_get zin_T (v := .ref lv) (ci := 5) rfl 4 (by decide) zm_169 rfl cd_T_readExtent_62 hO.1 rfl ?_
        refine ze_get zin_L (v := .ref (lv + 9)) (ci := 1) rfl 9 (by decide) zm_132 rfl cd_T_readExtent_65 h.1 rfl ?_
        refine ze_iload_n 1 cd_T_readExtent_68 rfl rfl ?_
        refine ze_gets 1 rfl (host := "FindingAid") (by decide) rfl cd_T_readExtent_69 ?_
        refine ze_aload_n 0 cd_T_readExtent_72 rfl rfl ?_
        refine ze_iconst (v := nI 0) cd_T_readExtent_73 (by decide) ?_
        refine ze_callVp (rm' := zr_T_ahead) (b := t) (As := [.int (nI 0)]) (rest := [.ref (g.2.2.2.2 1), .int (nI i), .ref (lv + 9)]) (kc_T_ahead (W := W) hO hlen (by omega) (by omega)) ⟨rfl, rfl⟩ zy_T_ahead_ok zm_549 zm_551 zm_13 (ci := 5) rfl rfl (by decide) (by decide) cd_T_readExtent_74 hO.1 rfl rfl (Nat.le_of_ble_eq_true rfl) ?_
        refine ze_callSNp (rm' := zr_F_indexIn) (As := [.ref (g.2.2.2.2 1), .int (za W len nx4)]) (rest := [.int (nI i), .ref (lv + 9)]) (kc_F_indexIn (q := 1) rfl (by decide)) ⟨rfl, rfl⟩ zy_F_indexIn_ok (host := "FindingAid") (by decide) zm_571 (by decide) (by decide) cd_T_readExtent_77 rfl rfl (Nat.le_of_ble_eq_true rfl) ?_
        cases hix : (zt_ix zc_k2 3 (za W len nx4)) with
        | none =>
          refine ze_iast (j := i) (f := R 8) cd_T_readExtent_80 (h.2 8 _ rfl) rfl (by omega) (by decide) ?_
          have h := h.ar 8 0 100 rfl (b := lv + 9) (f := upd (R 8) i ((-1 : Int32))) (by omega)
          have hO := hO.upn (b := lv + 9) (e := .inl (g.2.2.2.1 0, 100, .inl (upd (R 8) i ((-1 : Int32))))) 1 rfl (by omega)
          have hF := hF.up (a := lv + 9) (e := .inl (g.2.2.2.1 0, 100, .inl (upd (R 8) i ((-1 : Int32))))) (by omega)
          refine ze_aload_n 0 cd_T_readExtent_81 rfl rfl ?_
          refine ze_get zin_T (v := .ref lv) (ci := 5) rfl 4 (by decide) zm_169 rfl cd_T_readExtent_82 hO.1 rfl ?_
          refine ze_get zin_L (v := .ref (lv + 9)) (ci := 1) rfl 9 (by decide) zm_132 rfl cd_T_readExtent_85 h.1 rfl ?_
          refine ze_iload_n 1 cd_T_readExtent_88 rfl rfl ?_
          refine ze_iald (j := i) (f := upd (R 8) i ((-1 : Int32))) cd_T_readExtent_89 (h.2 8 _ rfl) rfl (by omega) (by decide) ?_
          refine ze_top (y := (-1 : Int32)) pk_us ?_
          refine ze_iconst (v := (-1 : Int32)) cd_T_readExtent_90 (by decide) ?_
          refine ze_icmp_ne (tgt := 103) cd_T_readExtent_91 (by decide) (fun c9 => absurd rfl c9) (fun _ => ?_)
          refine ze_aload_n 0 cd_T_readExtent_94 rfl rfl ?_
          refine ze_aload_n 0 cd_T_readExtent_95 rfl rfl ?_
          refine ze_get zin_T (v := .int (nI nx4)) (ci := 5) rfl 2 (by decide) zm_166 rfl cd_T_readExtent_96 hO.1 rfl ?_
          refine ze_callVi (rm' := zr_T_wrongAt) (b := t) (As := [.int (nI nx4)]) (rest := []) (kc_T_wrongAt hO hlen (by omega)) ⟨rfl, rfl⟩ zy_T_wrongAt_ok zm_553 zm_555 zm_14 (ci := 5) rfl rfl (by decide) (by decide) cd_T_readExtent_99 hO.1 rfl rfl (Nat.le_of_ble_eq_true rfl) (fun v9 σ9 sz9 hq9 => ?_)
          obtain ⟨rfl, hF9, ok9, nx9, wr9, hX9, rfl, -, hO9⟩ := hq9
          obtain ⟨rfl, rfl, rfl⟩ : false = ok9 ∧ nx4 = nx9 ∧ nI nx4 = wr9 := by simpa [zt_wr] using hX9
          have h := h.frn hF9 11 rfl (by omega)
          have hO := hO9
          have hF := hF.tr1 hF9 (by omega)
          refine ze_zret cd_T_readExtent_102 rfl (zb_or _) (by decide) (by decide) ⟨_, rfl, rfl, hF, false, nx4, nI nx4, va_up (va_up R 7 (upd (R 7) i r4)) 8 (upd (R 8) i ((-1 : Int32))), ?_, rfl, by omega, rfl, hO, h⟩
          first | contradiction | (simp [zt_ext, c1, hX2, c3, hX4, c5, hix]; done) | (simp_all [zt_ext]; done)
        | some u =>
          have hbu := (zfindo_lt _ _ _ _ hix).1
          refine ze_iast (j := i) (f := R 8) cd_T_readExtent_80 (h.2 8 _ rfl) rfl (by omega) (by decide) ?_
          have h := h.ar 8 0 100 rfl (b := lv + 9) (f := upd (R 8) i (nI u)) (by omega)
          have hO := hO.upn (b := lv + 9) (e := .inl (g.2.2.2.1 0, 100, .inl (upd (R 8) i (nI u)))) 1 rfl (by omega)
          have hF := hF.up (a := lv + 9) (e := .inl (g.2.2.2.1 0, 100, .inl (upd (R 8) i (nI u)))) (by omega)
          refine ze_aload_n 0 cd_T_readExtent_81 rfl rfl ?_
          refine ze_get zin_T (v := .ref lv) (ci := 5) rfl 4 (by decide) zm_169 rfl cd_T_readExtent_82 hO.1 rfl ?_
          refine ze_get zin_L (v := .ref (lv + 9)) (ci := 1) rfl 9 (by decide) zm_132 rfl cd_T_readExtent_85 h.1 rfl ?_
          refine ze_iload_n 1 cd_T_readExtent_88 rfl rfl ?_
          refine ze_iald (j := i) (f := upd (R 8) i (nI u)) cd_T_readExtent_89 (h.2 8 _ rfl) rfl (by omega) (by decide) ?_
          refine ze_top (y := nI u) pk_us ?_
          refine ze_iconst (v := (-1 : Int32)) cd_T_readExtent_90 (by decide) ?_
          refine ze_icmp_ne (tgt := 103) cd_T_readExtent_91 (by decide) (fun _ => ?_) (fun c9 => absurd c9 (zn_ne (by omega)))
          refine ze_aload_n 0 cd_T_readExtent_103 rfl rfl ?_
          refine ze_dup cd_T_readExtent_104 rfl ?_
          refine ze_get zin_T (v := .int (nI nx4)) (ci := 5) rfl 2 (by decide) zm_166 rfl cd_T_readExtent_105 hO.1 rfl ?_
          refine ze_iconst (v := nI 1) cd_T_readExtent_108 (by decide) ?_
          refine ze_iadd cd_T_readExtent_109 ?_
          refine ze_top (y := nI (nx4 + 1)) (nI_add _ _) ?_
          refine ze_put zin_T zy_T zt_T zn_T (ci := 5) rfl 2 (by decide) zm_166 rfl (Or.inl rfl) cd_T_readExtent_110 hO.1 rfl rfl (Nat.le_of_ble_eq_true rfl) (fs' := [.ref (t + 1), .int (nI len), .int (nI (nx4 + 1)), .int wr4, .ref lv]) rfl ?_
          have hO := hO.put (fs' := [.ref (t + 1), .int (nI len), .int (nI (nx4 + 1)), .int wr4, .ref lv])
          have h := h.upn (b := t) (e := .inr (5, [.ref (t + 1), .int (nI len), .int (nI (nx4 + 1)), .int wr4, .ref lv])) 11 rfl (by omega)
          have hF := hF.up (a := t) (e := .inr (5, [.ref (t + 1), .int (nI len), .int (nI (nx4 + 1)), .int wr4, .ref lv])) (by omega)
          refine ze_iconst (v := nI 1) cd_T_readExtent_113 (by decide) ?_
          refine ze_zret cd_T_readExtent_114 rfl (by decide) (by decide) (by decide) ⟨_, rfl, rfl, hF, true, nx4 + 1, wr4, va_up (va_up R 7 (upd (R 7) i r4)) 8 (upd (R 8) i (nI u)), ?_, (by decide), by omega, rfl, hO, h⟩
          first | contradiction | (simp [zt_ext, c1, hX2, c3, hX4, c5, hix]; done) | (simp_all [zt_ext]; done)
      · skip
        refine ze_iconst (v := nI 0) cd_T_readExtent_59 (by decide) ?_
        refine ze_zret cd_T_readExtent_60 rfl (by decide) (by decide) (by decide) ⟨_, rfl, rfl, hF, false, nx4, wr4, va_up R 7 (upd (R 7) i r4), ?_, (by decide), by omega, rfl, hO, h⟩
        first | contradiction | (simp [zt_ext, c1, hX2, c3, hX4, c5]; done) | (simp_all [zt_ext]; done)
    · skip
      have c3 : ok2 = false := zb_f c3
      refine ze_iconst (v := nI 0) cd_T_readExtent_31 (by decide) ?_
      refine ze_zret cd_T_readExtent_32 rfl (by decide) (by decide) (by decide) ⟨_, rfl, rfl, hF, false, nx2, wr2, R, ?_, (by decide), by omega, rfl, hO, h⟩
      first | contradiction | (simp [zt_ext, c1, hX2, c3]; done) | (simp_all [zt_ext]; done)
  · skip
    refine ze_iconst (v := nI 1) cd_T_readExtent_10 (by decide) ?_
    refine ze_zret cd_T_readExtent_11 rfl (by decide) (by decide) (by decide) ⟨_, rfl, rfl, hF, true, nx, wr, R, ?_, (by decide), by omega, rfl, hO, h⟩
    first | contradiction | (simp [zt_ext, c1]; done) | (simp_all [zt_ext]; done)
