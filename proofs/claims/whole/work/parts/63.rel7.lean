/-! PURE: tokens are read alike -/
section ZT
variable {c : Nat → Int32}
theorem zt_d_of {x : Int32} (h : zt_d x = true) : ∃ d, d ≤ 9 ∧ x = nI (48 + d) := by
  unfold zt_d at h
  split at h
  · cases h
  · rename_i h1
    split at h
    · cases h
    · rename_i h2
      have h0 : ¬ x < 0 := fun h9 => h1 (by
        have a1 : (0 : Int32) < nI 48 := by decide
        exact Int32.lt_trans h9 a1)
      obtain ⟨j, hj, rfl⟩ := nI_of h0
      have a2 : ¬ j < 48 := fun h9 => h1 (nI_lt h9 (by omega))
      have a3 : ¬ 57 < j := fun h9 => h2 (nI_lt h9 (by omega))
      exact ⟨j - 48, by omega, by congr 1; omega⟩
theorem zt_l_of {x : Int32} (h : zt_l x = true) : ∃ d, 97 ≤ d ∧ d ≤ 122 ∧ x = nI d := by
  unfold zt_l at h
  split at h
  · cases h
  · rename_i h1
    split at h
    · cases h
    · rename_i h2
      have h0 : ¬ x < 0 := fun h9 => h1 (by
        have a1 : (0 : Int32) < nI 97 := by decide
        exact Int32.lt_trans h9 a1)
      obtain ⟨j, hj, rfl⟩ := nI_of h0
      have a2 : ¬ j < 97 := fun h9 => h1 (nI_lt h9 (by omega))
      have a3 : ¬ 122 < j := fun h9 => h2 (nI_lt h9 (by omega))
      exact ⟨j, by omega, by omega, rfl⟩
theorem zt_step (v : Nat) {x : Int32} {d : Nat} (h : x = nI (48 + d)) : nI v * nI 10 + (x - nI 48) = nI (v * 10 + d) ∧ nI 10 * nI v + x - nI 48 = nI (v * 10 + d) := by
  subst h
  rw [pk_sub (by omega), pk_mul, nI_add, pk_mul, nI_add, pk_sub (by omega)]
  exact ⟨by congr 1; omega, by congr 1; omega⟩
/-- the digits behind the first -/
theorem zdg_nl : ∀ (kk k p v : Nat), k + kk = 4 → 0 < k → ∃ p' w, zt_dg c kk k p (nI v) = (p', nI w) ∧ zm_nl c (kk + 1) k p (nI v) = (if zt_d (c p') then false else true, p', nI w) ∧ v ≤ w ∧ w + 1 ≤ (v + 1) * 10 ^ kk ∧ p ≤ p' := by
  intro kk
  induction kk with
  | zero =>
    intro k p v hk h0
    refine ⟨p, v, rfl, ?_, Nat.le_refl _, by simp, Nat.le_refl _⟩
    unfold zm_nl
    by_cases h : zt_d (c p) = true
    · rw [if_pos h, if_pos (by omega), if_pos h]
    · rw [if_neg h, if_neg h]
  | succ kk ih =>
    intro k p v hk h0
    by_cases h : zt_d (c p) = true
    · obtain ⟨d, hd, hx⟩ := zt_d_of h
      obtain ⟨s1, s2⟩ := zt_step v hx
      obtain ⟨p', w, a1, a2, a3, a4, a5⟩ := ih (k + 1) (p + 1) (v * 10 + d) (by omega) (by omega)
      refine ⟨p', w, ?_, ?_, by omega, ?_, by omega⟩
      · unfold zt_dg; rw [if_pos h, if_neg (by omega), s1]; exact a1
      · unfold zm_nl; rw [if_pos h, if_neg (by omega), s2]; exact a2
      · have : (v * 10 + d + 1) * 10 ^ kk ≤ ((v + 1) * 10) * 10 ^ kk := Nat.mul_le_mul_right _ (by omega)
        rw [Nat.pow_succ]
        calc w + 1 ≤ _ := a4
          _ ≤ _ := this
          _ = _ := by ac_rfl
    · refine ⟨p, v, ?_, ?_, Nat.le_refl _, ?_, Nat.le_refl _⟩
      · unfold zt_dg; rw [if_neg h]
      · unfold zm_nl; rw [if_neg h, if_neg h]
      · have : 1 ≤ 10 ^ (kk + 1) := Nat.one_le_pow _ _ (by omega)
        exact Nat.le_mul_of_pos_right _ this
/-- a number -/
theorem zt_number (p : Nat) : ∃ p' v, zt_dg c 4 0 p (nI 0) = (p', nI v) ∧ v ≤ 9999 ∧ ∀ (r i : Nat) (M : Nat → Nat → Int32), zm_num c r i p M = if v = 0 then (false, p', M) else if zt_d (c p') then (false, p', M) else (true, p', va_up M r (upd (M r) i (nI v))) := by
  by_cases h : zt_d (c p) = true
  · obtain ⟨d, hd, hx⟩ := zt_d_of h
    by_cases h0 : d = 0
    · subst h0
      refine ⟨p, 0, ?_, by omega, fun r i M => ?_⟩
      · unfold zt_dg; rw [if_pos h, if_pos rfl, hx, pk_sub (by omega), if_pos (by decide)]
      · unfold zm_num; rw [if_pos h, if_pos hx, if_pos rfl]
    · obtain ⟨s1, s2⟩ := zt_step 0 hx
      obtain ⟨p', w, a1, a2, a3, a4, a5⟩ := zdg_nl (c := c) 3 1 (p + 1) (0 * 10 + d) (by omega) (by omega)
      refine ⟨p', w, ?_, ?_, fun r i M => ?_⟩
      · unfold zt_dg
        have hne : ¬ c p - nI 48 = 0 := by
          rw [hx, pk_sub (by omega)]
          exact nI_ne0 (by omega) (by omega)
        rw [if_pos h, if_pos rfl, if_neg hne, s1]; exact a1
      · have : (0 * 10 + d + 1) * 10 ^ 3 ≤ 10000 := by omega
        omega
      · unfold zm_num
        have hne : ¬ c p = nI 48 := by
          rw [hx, nI_eq (by omega) (by omega)]; omega
        rw [if_pos h, if_neg hne]
        have : zm_nl c 5 0 p (nI 0) = zm_nl c 4 1 (p + 1) (nI (0 * 10 + d)) := by
          show (if zt_d (c p) then _ else _) = _
          rw [if_pos h, if_neg (by omega), s2]
        rw [this, a2]
        unfold zm_num1
        rw [if_neg (show ¬ w = 0 by omega)]
        by_cases h5 : zt_d (c p') = true
        · rw [if_pos h5, if_pos h5]; rfl
        · rw [if_neg h5, if_neg h5]; rfl
  · refine ⟨p, 0, ?_, by omega, fun r i M => ?_⟩
    · unfold zt_dg; rw [if_neg h]
    · unfold zm_num; rw [if_neg h, if_pos rfl]
/-- a year -/
theorem zyv_yl (p : Nat) : ∀ (kk k v : Nat), ∃ o w, zt_yv c p kk k (nI v) = (o, nI w) ∧ w + 1 ≤ (v + 1) * 10 ^ kk ∧ (match o with | none => zm_yl c kk (p + k) (nI v) = (true, p + k + kk, nI w) | some q => ∃ x, zm_yl c kk (p + k) (nI v) = (false, p + q, x)) := by
  intro kk
  induction kk with
  | zero => intro k v; exact ⟨none, v, rfl, by simp, rfl⟩
  | succ kk ih =>
    intro k v
    by_cases h : zt_d (c (p + k)) = true
    · obtain ⟨d, hd, hx⟩ := zt_d_of h
      obtain ⟨s1, s2⟩ := zt_step v hx
      obtain ⟨o, w, a1, a2, a3⟩ := ih (k + 1) (v * 10 + d)
      refine ⟨o, w, ?_, ?_, ?_⟩
      · unfold zt_yv; rw [if_pos h, s1]; exact a1
      · have : (v * 10 + d + 1) * 10 ^ kk ≤ ((v + 1) * 10) * 10 ^ kk := Nat.mul_le_mul_right _ (by omega)
        rw [Nat.pow_succ]
        calc w + 1 ≤ _ := a2
          _ ≤ _ := this
          _ = _ := by ac_rfl
      · have e : zm_yl c (kk + 1) (p + k) (nI v) = zm_yl c kk (p + (k + 1)) (nI (v * 10 + d)) := by
          show (if zt_d (c (p + k)) then _ else _) = _
          rw [if_pos h, s2]; rfl
        rw [e]
        cases o with
        | none => simp only at a3 ⊢; rw [a3]; congr 2; omega
        | some q => exact a3
    · refine ⟨some k, v, ?_, ?_, ?_⟩
      · unfold zt_yv; rw [if_neg h]
      · have : 1 ≤ 10 ^ (kk + 1) := Nat.one_le_pow _ _ (by omega)
        exact Nat.le_mul_of_pos_right _ this
      · refine ⟨nI v, ?_⟩
        show (if zt_d (c (p + k)) then _ else _) = _
        rw [if_neg h]
theorem zt_year (p least : Nat) (hl : least ≤ 2999) (h0 : 1 ≤ least) (wr : Int32) : (∃ w, least ≤ w ∧ w ≤ 2999 ∧ zt_yr1 (zt_yv c p 4 0 (nI 0)) (nI least) p wr = (nI w, p + 4, wr) ∧ ∀ (r i : Nat) (M : Nat → Nat → Int32), zm_yr1 (zm_yl c 4 p (nI 0)) r i p (nI least) M = (true, p + 4, va_up M r (upd (M r) i (nI w)))) ∨ ∃ q n1, zt_yr1 (zt_yv c p 4 0 (nI 0)) (nI least) p wr = (-1, n1, nI q) ∧ ∀ (r i : Nat) (M : Nat → Nat → Int32), ∃ M', zm_yr1 (zm_yl c 4 p (nI 0)) r i p (nI least) M = (false, q, M') := by
  obtain ⟨o, w, a1, a2, a3⟩ := zyv_yl (c := c) p 4 0 0
  rw [a1]
  cases o with
  | some q =>
    obtain ⟨x, hx⟩ := a3
    right
    rw [Nat.add_zero] at hx
    refine ⟨p + q, p, rfl, fun r i M => ⟨M, ?_⟩⟩
    rw [hx]; rfl
  | none =>
    simp only at a3
    rw [Nat.add_zero] at a3
    rw [a3]
    have hw : w ≤ 9999 := by omega
    unfold zt_yr1 zm_yr1 zm_in
    simp only
    by_cases e1 : w < least
    · have q1 := nI_lt e1 (show least < 2 ^ 31 by omega)
      right
      exact ⟨p, p, by simp [q1], fun r i M => ⟨va_up M r (upd (M r) i (nI w)), by simp [q1]⟩⟩
    · have q1 : ¬ nI w < nI least := nI_nlt (by omega) (by omega)
      by_cases e2 : 2999 < w
      · have q2 := nI_lt e2 (show w < 2 ^ 31 by omega)
        right
        exact ⟨p, p, by simp [q1, q2], fun r i M => ⟨va_up M r (upd (M r) i (nI w)), by simp [q1, q2]⟩⟩
      · have q2 : ¬ nI 2999 < nI w := nI_nlt (by omega) (by omega)
        left
        exact ⟨w, by omega, by omega, by simp [q1, q2], fun r i M => by simp [q1, q2]⟩
/-- plus signs -/
theorem zplus_pl {lm : Nat} : ∀ (k d p : Nat), d + k = lm → ∃ d' p', zt_plus c k d p = (d', p') ∧ d ≤ d' ∧ d' ≤ lm ∧ zm_pl c lm (k + 1) d p = (if c p' = nI 43 then false else true, d', p') ∧ (c p' = nI 43 → d' = lm) := by
  intro k
  induction k with
  | zero =>
    intro d p h
    refine ⟨d, p, rfl, Nat.le_refl _, by omega, ?_, fun _ => by omega⟩
    unfold zm_pl
    by_cases e : c p = nI 43
    · rw [if_pos e, if_pos (by omega), if_pos e]
    · rw [if_neg e, if_neg e]
  | succ k ih =>
    intro d p h
    by_cases e : c p = nI 43
    · obtain ⟨d', p', a1, a2, a3, a4, a5⟩ := ih (d + 1) (p + 1) (by omega)
      refine ⟨d', p', ?_, by omega, a3, ?_, a5⟩
      · unfold zt_plus; rw [if_pos e]; exact a1
      · unfold zm_pl; rw [if_pos e, if_neg (by omega)]; exact a4
    · refine ⟨d, p, ?_, Nat.le_refl _, by omega, ?_, fun h => absurd h e⟩
      · unfold zt_plus; rw [if_neg e]
      · unfold zm_pl; rw [if_neg e, if_neg e]
/-- a title -/
theorem ztl_tl {i : Nat} : ∀ (kk k p : Nat) (R : Nat → Nat → Int32) (F : Nat → Int32), k + kk = 16 → ∃ t p' R' F', zt_tl c i kk k p R = (t, p', R') ∧ zm_tl c (100 + i) (kk + 1) k p F = (if zt_l (c p') then false else true, t, p', F') ∧ k ≤ t ∧ t ≤ 16 ∧ p' + k = p + t ∧ (∀ r, r ≠ 9 → r ≠ 10 → R' r = R r) ∧ (∀ q, q ≠ i → R' 9 q = R 9 q) ∧ (k < t → R' 9 i = nI t) ∧ (k = t → R' 9 i = R 9 i) ∧ (∀ q, (q < i * 16 + k ∨ i * 16 + 16 ≤ q) → R' 10 q = R 10 q) ∧ (∀ q, (q < 16 * (100 + i) + k ∨ 16 * (100 + i) + 16 ≤ q) → F' q = F q) ∧ ∀ q, k ≤ q → q < t → ∃ x, 97 ≤ x ∧ x ≤ 122 ∧ R' 10 (i * 16 + q) = nI x ∧ F' (16 * (100 + i) + q) = nI x := by
  intro kk
  induction kk with
  | zero =>
    intro k p R F hk
    refine ⟨k, p, R, F, rfl, ?_, Nat.le_refl _, by omega, rfl, fun _ _ _ => rfl, fun _ _ => rfl, fun h => by omega, fun _ => rfl, fun _ _ => rfl, fun _ _ => rfl, fun q h1 h2 => by omega⟩
    unfold zm_tl
    by_cases e : zt_l (c p) = true
    · rw [if_pos e, if_pos (by omega), if_pos e]
    · rw [if_neg e, if_neg e]
  | succ kk ih =>
    intro k p R F hk
    by_cases e : zt_l (c p) = true
    · obtain ⟨x, x1, x2, x3⟩ := zt_l_of e
      obtain ⟨t, p', R', F', b1, b2, b3, b4, b5, b6, b7, b8, b9, b10, b11, b12⟩ := ih (k + 1) (p + 1) (zl_ats R i k (c p)) (upd F (16 * (100 + i) + k) (zby (c p))) (by omega)
      have hz : zl_ats R i k (c p) = va_up (va_up R 10 (upd (R 10) (i * 16 + k) (c p))) 9 (upd (R 9) i (nI (k + 1))) := by unfold zl_ats; rw [if_pos (by omega)]
      have hR10 : zl_ats R i k (c p) 10 = upd (R 10) (i * 16 + k) (c p) := by rw [hz, va_up_ne _ _ (by decide), va_up_self]
      have hR9 : zl_ats R i k (c p) 9 = upd (R 9) i (nI (k + 1)) := by rw [hz, va_up_self]
      refine ⟨t, p', R', F', ?_, ?_, by omega, b4, by omega, fun r r1 r2 => ?_, fun q hq => ?_, fun _ => ?_, fun h => by omega, fun q hq => ?_, fun q hq => ?_, fun q q1 q2 => ?_⟩
      · unfold zt_tl; rw [if_pos e]; exact b1
      · unfold zm_tl; rw [if_pos e, if_neg (by omega)]; exact b2
      · rw [b6 r r1 r2, hz, va_up_ne _ _ r1, va_up_ne _ _ r2]
      · rw [b7 q hq, hR9, pk_un hq]
      · by_cases e2 : k + 1 < t
        · exact b8 e2
        · have : k + 1 = t := by omega
          rw [b9 this, hR9, pk_us, this]
      · rw [b10 q (by omega), hR10, pk_un (by omega)]
      · rw [b11 q (by omega), pk_un (by omega)]
      · by_cases e2 : q = k
        · subst e2
          refine ⟨x, x1, x2, ?_, ?_⟩
          · rw [b10 _ (by omega), hR10, pk_us, x3]
          · rw [b11 _ (by omega), pk_us, x3, zby_s x (by omega)]
        · exact b12 q (by omega) q2
    · refine ⟨k, p, R, F, ?_, ?_, Nat.le_refl _, by omega, rfl, fun _ _ _ => rfl, fun _ _ => rfl, fun h => by omega, fun _ => rfl, fun _ _ => rfl, fun _ _ => rfl, fun q h1 h2 => by omega⟩
      · unfold zt_tl; rw [if_neg e]
      · unfold zm_tl; rw [if_neg e, if_neg e]
end ZT
