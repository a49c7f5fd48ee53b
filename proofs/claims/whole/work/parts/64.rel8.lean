/-! PURE: date and extent of a line are read alike -/
section ZL8
variable {c : Nat → Int32}
theorem zne1 {y : Nat} (hy : y < 2 ^ 31) : ¬ nI y = -1 := fun h9 => by
  have hm1 : (-1 : Int32) < 0 := by decide
  have := nI_pos hy
  rw [h9] at this
  exact this hm1
theorem zix2 (x : Int32) : zt_ix zc_k2 3 x = if x = nI 98 then some 0 else if x = nI 109 then some 1 else if x = nI 112 then some 2 else none := by
  have e0 : zc_k2 0 = nI 98 := by decide
  have e1 : zc_k2 1 = nI 109 := by decide
  have e2 : zc_k2 2 = nI 112 := by decide
  show (if decide (zc_k2 0 = x) = true then some 0 else if decide (zc_k2 1 = x) = true then some 1 else if decide (zc_k2 2 = x) = true then some 2 else none) = _
  simp only [decide_eq_true_eq, e0, e1, e2, eq_comm (b := x)]
/-- extent and end, the class -/
def zt_xe (c : Nat → Int32) (i nx : Nat) (wr : Int32) (R : Nat → Nat → Int32) : zts := match zt_ext c i nx wr R with
  | (false, nx6, wr6, R6) => (false, nx6, wr6, R6)
  | (true, nx6, wr6, R6) => match zt_exp c (nI 10) nx6 wr6 with
    | (ok, nx7, wr7) => (ok, nx7, wr7, R6)
/-- extent and end, the reference -/
def zm_xe (c : Nat → Int32) (i ps : Nat) (M : Nat → Nat → Int32) : zqs := if c ps = nI 32 then zm_le c i (ps + 1) M else zm_end c ps M
def zfail (a : zts) (b : zqs) : Prop := ∃ p n1 R1 M1, a = (false, n1, nI p, R1) ∧ b = (false, p, M1)
theorem zxe (i nx : Nat) (wr : Int32) (R M : Nat → Nat → Int32) : zfail (zt_xe c i nx wr R) (zm_xe c (100 + i) nx M) ∨ ∃ p R' M', zt_xe c i nx wr R = (true, p, wr, R') ∧ zm_xe c (100 + i) nx M = (true, p, M') ∧ zu1 i R R' ∧ (∀ r, r ≠ 7 → r ≠ 8 → R' r = R r ∧ M' r = M r) ∧ ((R' 7 = R 7 ∧ R' 8 = R 8 ∧ M' 7 = M 7 ∧ M' 8 = M 8) ∨ ∃ v u, 1 ≤ v ∧ v ≤ 9999 ∧ u < 3 ∧ R' 7 i = nI v ∧ R' 8 i = nI u ∧ M' 7 (100 + i) = nI v ∧ M' 8 (100 + i) = nI u) := by
  unfold zt_xe zm_xe zt_ext
  by_cases e : c nx = nI 32
  · rw [if_pos e, if_pos e]
    unfold zm_le zm_eat zt_exp
    by_cases e1 : c (nx + 1) = nI 101
    · rw [if_pos e1, if_pos e1]
      simp only
      obtain ⟨p', v, a1, a2, a3⟩ := zt_number (c := c) (nx + 1 + 1)
      rw [a1]
      unfold zm_ext
      rw [a3 7 (100 + i) M]
      unfold zt_dig1
      simp only
      by_cases e2 : v = 0
      · subst e2
        left
        rw [if_pos nI_0, if_pos rfl]
        simp only [if_true]
        exact ⟨p', p', _, _, rfl, rfl⟩
      · have hv : ¬ nI v = 0 := nI_ne0 (by omega) (by omega)
        rw [if_neg hv, if_neg e2]
        simp only
        rw [if_neg (zne1 (show v < 2 ^ 31 by omega)), zix2]
        by_cases e3 : zt_d (c p') = true
        · obtain ⟨d, d1, d2⟩ := zt_d_of e3
          have n1 : ¬ c p' = nI 98 := by rw [d2, nI_eq (by omega) (by omega)]; omega
          have n2 : ¬ c p' = nI 109 := by rw [d2, nI_eq (by omega) (by omega)]; omega
          have n3 : ¬ c p' = nI 112 := by rw [d2, nI_eq (by omega) (by omega)]; omega
          left
          rw [if_pos e3, if_neg n1, if_neg n2, if_neg n3]
          exact ⟨p', p', _, _, rfl, rfl⟩
        · rw [if_neg e3]
          simp only
          have key : ∀ u, u < 3 → zfail (match (if c (p' + 1) = nI 10 then (true, p' + 1 + 1, wr) else (false, p' + 1, nI (p' + 1)) : Bool × Nat × Int32) with
              | (ok, nx7, wr7) => (ok, nx7, wr7, va_up (va_up R 7 (upd (R 7) i (nI v))) 8 (upd (R 8) i (nI u)))) (zm_end c (p' + 1) (va_up (va_up M 7 (upd (M 7) (100 + i) (nI v))) 8 (upd (va_up M 7 (upd (M 7) (100 + i) (nI v)) 8) (100 + i) (nI u)))) ∨ ∃ p R' M', (match (if c (p' + 1) = nI 10 then (true, p' + 1 + 1, wr) else (false, p' + 1, nI (p' + 1)) : Bool × Nat × Int32) with
              | (ok, nx7, wr7) => (ok, nx7, wr7, va_up (va_up R 7 (upd (R 7) i (nI v))) 8 (upd (R 8) i (nI u)))) = (true, p, wr, R') ∧ zm_end c (p' + 1) (va_up (va_up M 7 (upd (M 7) (100 + i) (nI v))) 8 (upd (va_up M 7 (upd (M 7) (100 + i) (nI v)) 8) (100 + i) (nI u))) = (true, p, M') ∧ zu1 i R R' ∧ (∀ r, r ≠ 7 → r ≠ 8 → R' r = R r ∧ M' r = M r) ∧ ((R' 7 = R 7 ∧ R' 8 = R 8 ∧ M' 7 = M 7 ∧ M' 8 = M 8) ∨ ∃ v u, 1 ≤ v ∧ v ≤ 9999 ∧ u < 3 ∧ R' 7 i = nI v ∧ R' 8 i = nI u ∧ M' 7 (100 + i) = nI v ∧ M' 8 (100 + i) = nI u) := by
            intro u hu
            unfold zm_end zm_eat
            by_cases e9 : c (p' + 1) = nI 10
            · right
              rw [if_pos e9, if_pos e9]
              refine ⟨_, _, _, rfl, rfl, ?_, fun r h7 h8 => ⟨by rw [va_up_ne _ _ h8, va_up_ne _ _ h7], by rw [va_up_ne _ _ h8, va_up_ne _ _ h7]⟩, Or.inr ⟨v, u, by omega, a2, hu, ?_, ?_, ?_, ?_⟩⟩
              · exact (zu1.rf.up (k := 7) (by decide) (nI v)).up' (k := 8) (by decide) (fun j hj => by rw [pk_un hj, va_up_ne _ _ (by decide)])
              · rw [va_up_ne _ _ (by decide), va_up_self, pk_us]
              · rw [va_up_self, pk_us]
              · rw [va_up_ne _ _ (by decide), va_up_self, pk_us]
              · rw [va_up_self, pk_us]
            · left
              rw [if_neg e9, if_neg e9]
              exact ⟨p' + 1, p' + 1, _, _, rfl, rfl⟩
          by_cases u0 : c p' = nI 98
          · rw [if_pos u0, if_pos u0]; exact key 0 (by omega)
          · rw [if_neg u0, if_neg u0]
            by_cases u1 : c p' = nI 109
            · rw [if_pos u1, if_pos u1]; exact key 1 (by omega)
            · rw [if_neg u1, if_neg u1]
              by_cases u2 : c p' = nI 112
              · rw [if_pos u2, if_pos u2]; exact key 2 (by omega)
              · rw [if_neg u2, if_neg u2]
                left
                exact ⟨p', p', _, _, rfl, rfl⟩
    · rw [if_neg e1, if_neg e1]
      left
      exact ⟨nx + 1, nx + 1, _, _, rfl, rfl⟩
  · rw [if_neg e, if_neg e]
    simp only
    unfold zm_end zm_eat zt_exp
    by_cases e9 : c nx = nI 10
    · right
      rw [if_pos e9, if_pos e9]
      exact ⟨_, _, _, rfl, rfl, zu1.rf, fun _ _ _ => ⟨rfl, rfl⟩, Or.inl ⟨rfl, rfl, rfl, rfl⟩⟩
    · left
      rw [if_neg e9, if_neg e9]
      exact ⟨nx, nx, _, _, rfl, rfl⟩
/-- a date -/
theorem zdq (i nx : Nat) (wr : Int32) (R M : Nat → Nat → Int32) (h6 : R 6 i = nI 0) {y z : Nat} (hM4 : M 4 (100 + i) = nI y) (hM5 : M 5 (100 + i) = nI z) : ∃ p R' M' d, zt_dq c i nx wr R (nI y) (nI z) = (true, p, wr, R') ∧ zm_dq c (100 + i) nx M = (true, p, M') ∧ zu1 i R R' ∧ (∀ r, r ≠ 4 → r ≠ 5 → r ≠ 6 → R' r = R r ∧ M' r = M r) ∧ d < 2 ∧ R' 4 i = nI y ∧ R' 5 i = nI z ∧ R' 6 i = nI d ∧ M' 4 (100 + i) = nI y ∧ M' 5 (100 + i) = nI z ∧ M' 6 (100 + i) = nI d := by
  unfold zt_dq zm_dq zm_eat
  have hu : zu1 i R (va_up (va_up R 4 (upd (R 4) i (nI y))) 5 (upd (R 5) i (nI z))) := (zu1.rf.up (k := 4) (by decide) (nI y)).up' (k := 5) (by decide) (fun j hj => by rw [pk_un hj, va_up_ne _ _ (by decide)])
  by_cases e : c nx = nI 63
  · rw [if_pos e, if_pos e]
    refine ⟨_, _, _, 1, rfl, rfl, hu.up' (k := 6) (by decide) (fun j hj => by rw [pk_un hj, va_up_ne _ _ (by decide), va_up_ne _ _ (by decide)]), fun r h4 h5 h6 => ⟨by rw [va_up_ne _ _ h6, va_up_ne _ _ h5, va_up_ne _ _ h4], by rw [va_up_ne _ _ h6]⟩, by omega, ?_, ?_, ?_, ?_, ?_, ?_⟩
    · rw [va_up_ne _ _ (by decide), va_up_ne _ _ (by decide), va_up_self, pk_us]
    · rw [va_up_ne _ _ (by decide), va_up_self, pk_us]
    · rw [va_up_self, pk_us]
    · rw [va_up_ne _ _ (by decide)]; exact hM4
    · rw [va_up_ne _ _ (by decide)]; exact hM5
    · rw [va_up_self, pk_us]
  · rw [if_neg e, if_neg e]
    refine ⟨_, _, _, 0, rfl, rfl, hu, fun r h4 h5 h6 => ⟨by rw [va_up_ne _ _ h5, va_up_ne _ _ h4], by rw [va_up_ne _ _ h6]⟩, by omega, ?_, ?_, ?_, ?_, ?_, ?_⟩
    · rw [va_up_ne _ _ (by decide), va_up_self, pk_us]
    · rw [va_up_self, pk_us]
    · rw [va_up_ne _ _ (by decide), va_up_ne _ _ (by decide)]; exact h6
    · rw [va_up_ne _ _ (by decide)]; exact hM4
    · rw [va_up_ne _ _ (by decide)]; exact hM5
    · rw [va_up_self, pk_us]
theorem zdate (i nx : Nat) (wr : Int32) (R M : Nat → Nat → Int32) (h6 : R 6 i = nI 0) (e1 : c nx = nI 32) (e2 : c (nx + 1) = nI 100) : zfail (zt_date c i nx wr R) (zm_dated c (100 + i) (nx + 2) M) ∨ ∃ p R' M' y z d, zt_date c i nx wr R = (true, p, wr, R') ∧ zm_dated c (100 + i) (nx + 2) M = (true, p, M') ∧ zu1 i R R' ∧ (∀ r, r ≠ 4 → r ≠ 5 → r ≠ 6 → R' r = R r ∧ M' r = M r) ∧ 1000 ≤ y ∧ y ≤ z ∧ z ≤ 2999 ∧ d < 2 ∧ R' 4 i = nI y ∧ R' 5 i = nI z ∧ R' 6 i = nI d ∧ M' 4 (100 + i) = nI y ∧ M' 5 (100 + i) = nI z ∧ M' 6 (100 + i) = nI d := by
  unfold zt_date zm_dated
  rw [if_pos e1, if_pos e2]
  rcases zt_year (c := c) (nx + 2) 1000 (by omega) (by omega) wr with ⟨y, y1, y2, y3, y4⟩ | ⟨q, n1, y3, y4⟩
  · rw [y3, y4 4 (100 + i) M]
    simp only
    rw [if_neg (zne1 (show y < 2 ^ 31 by omega))]
    have hM4 : va_up M 4 (upd (M 4) (100 + i) (nI y)) 4 (100 + i) = nI y := by rw [va_up_self, pk_us]
    rw [hM4]
    unfold zm_eat
    by_cases e3 : c (nx + 2 + 4) = nI 45
    · rw [if_pos e3, if_pos e3]
      simp only
      rcases zt_year (c := c) (nx + 2 + 4 + 1) y (by omega) (by omega) wr with ⟨z, z1, z2, z3, z4⟩ | ⟨q, n1, z3, z4⟩
      · rw [z3, z4 5 (100 + i)]
        simp only
        rw [if_neg (zne1 (show z < 2 ^ 31 by omega))]
        obtain ⟨p, R', M', d, a1, a2, a3, a4, a5, a6, a7, a8, a9, a10, a11⟩ := zdq (c := c) i (nx + 2 + 4 + 1 + 4) wr R (va_up (va_up (va_up M 4 (upd (M 4) (100 + i) (nI y))) 5 (upd (va_up M 4 (upd (M 4) (100 + i) (nI y)) 5) (100 + i) (nI y))) 5 (upd (va_up (va_up M 4 (upd (M 4) (100 + i) (nI y))) 5 (upd (va_up M 4 (upd (M 4) (100 + i) (nI y)) 5) (100 + i) (nI y)) 5) (100 + i) (nI z))) h6 (y := y) (z := z) (by rw [va_up_ne _ _ (by decide), va_up_ne _ _ (by decide)]; exact hM4) (by rw [va_up_self, pk_us])
        right
        refine ⟨p, R', M', y, z, d, a1, a2, a3, fun r h4 h5 h6 => ⟨(a4 r h4 h5 h6).1, (a4 r h4 h5 h6).2.trans ?_⟩, y1, z1, z2, a5, a6, a7, a8, a9, a10, a11⟩
        rw [va_up_ne _ _ h5, va_up_ne _ _ h5, va_up_ne _ _ h4]
      · obtain ⟨M', hM'⟩ := z4 5 (100 + i) (va_up (va_up M 4 (upd (M 4) (100 + i) (nI y))) 5 (upd (va_up M 4 (upd (M 4) (100 + i) (nI y)) 5) (100 + i) (nI y)))
        rw [z3, hM']
        left
        simp only [if_true]
        exact ⟨q, n1, _, _, rfl, rfl⟩
    · rw [if_neg e3, if_neg e3]
      simp only
      obtain ⟨p, R', M', d, a1, a2, a3, a4, a5, a6, a7, a8, a9, a10, a11⟩ := zdq (c := c) i (nx + 2 + 4) wr R (va_up (va_up M 4 (upd (M 4) (100 + i) (nI y))) 5 (upd (va_up M 4 (upd (M 4) (100 + i) (nI y)) 5) (100 + i) (nI y))) h6 (y := y) (z := y) (by rw [va_up_ne _ _ (by decide)]; exact hM4) (by rw [va_up_self, pk_us])
      right
      refine ⟨p, R', M', y, y, d, a1, a2, a3, fun r h4 h5 h6 => ⟨(a4 r h4 h5 h6).1, (a4 r h4 h5 h6).2.trans ?_⟩, y1, Nat.le_refl _, y2, a5, a6, a7, a8, a9, a10, a11⟩
      rw [va_up_ne _ _ h5, va_up_ne _ _ h4]
  · obtain ⟨M', hM'⟩ := y4 4 (100 + i) M
    rw [y3, hM']
    left
    simp only [if_true]
    exact ⟨q, n1, _, _, rfl, rfl⟩
/-- date, extent and end, the class -/
def zt_rest (c : Nat → Int32) (i nx : Nat) (wr : Int32) (R : Nat → Nat → Int32) : zts := match zt_date c i nx wr R with
  | (false, nx5, wr5, R5) => (false, nx5, wr5, R5)
  | (true, nx5, wr5, R5) => zt_xe c i nx5 wr5 R5
theorem zrest (i nx : Nat) (wr : Int32) (R M : Nat → Nat → Int32) (h4 : R 4 i = -1) (h5 : R 5 i = -1) (h6 : R 6 i = nI 0) (h7 : R 7 i = -1) (h8 : R 8 i = -1) (m4 : M 4 (100 + i) = -1) (m5 : M 5 (100 + i) = -1) (m6 : M 6 (100 + i) = nI 0) (m7 : M 7 (100 + i) = -1) (m8 : M 8 (100 + i) = -1) : zfail (zt_rest c i nx wr R) (zm_lm2 c (100 + i) nx M) ∨ ∃ p R' M', zt_rest c i nx wr R = (true, p, wr, R') ∧ zm_lm2 c (100 + i) nx M = (true, p, M') ∧ zu1 i R R' ∧ (∀ r, (r < 4 ∨ 8 < r) → R' r = R r ∧ M' r = M r) ∧ (∀ r, 4 ≤ r → r ≤ 8 → R' r i = M' r (100 + i)) ∧ ((R' 4 i = -1 ∧ R' 5 i = -1 ∧ R' 6 i = nI 0) ∨ ∃ y z d, 1000 ≤ y ∧ y ≤ z ∧ z ≤ 2999 ∧ d < 2 ∧ R' 4 i = nI y ∧ R' 5 i = nI z ∧ R' 6 i = nI d) ∧ ((R' 7 i = -1 ∧ R' 8 i = -1) ∨ ∃ v u, 1 ≤ v ∧ v ≤ 9999 ∧ u < 3 ∧ R' 7 i = nI v ∧ R' 8 i = nI u) := by
  -- extent and end, from rows with a date read or not
  have fin : ∀ (nx : Nat) (R1 M1 : Nat → Nat → Int32), zu1 i R R1 → (∀ r, r ≠ 4 → r ≠ 5 → r ≠ 6 → R1 r = R r ∧ M1 r = M r) → (∀ r, 4 ≤ r → r ≤ 6 → R1 r i = M1 r (100 + i)) → ((R1 4 i = -1 ∧ R1 5 i = -1 ∧ R1 6 i = nI 0) ∨ ∃ y z d, 1000 ≤ y ∧ y ≤ z ∧ z ≤ 2999 ∧ d < 2 ∧ R1 4 i = nI y ∧ R1 5 i = nI z ∧ R1 6 i = nI d) → zfail (zt_xe c i nx wr R1) (zm_xe c (100 + i) nx M1) ∨ ∃ p R' M', zt_xe c i nx wr R1 = (true, p, wr, R') ∧ zm_xe c (100 + i) nx M1 = (true, p, M') ∧ zu1 i R R' ∧ (∀ r, (r < 4 ∨ 8 < r) → R' r = R r ∧ M' r = M r) ∧ (∀ r, 4 ≤ r → r ≤ 8 → R' r i = M' r (100 + i)) ∧ ((R' 4 i = -1 ∧ R' 5 i = -1 ∧ R' 6 i = nI 0) ∨ ∃ y z d, 1000 ≤ y ∧ y ≤ z ∧ z ≤ 2999 ∧ d < 2 ∧ R' 4 i = nI y ∧ R' 5 i = nI z ∧ R' 6 i = nI d) ∧ ((R' 7 i = -1 ∧ R' 8 i = -1) ∨ ∃ v u, 1 ≤ v ∧ v ≤ 9999 ∧ u < 3 ∧ R' 7 i = nI v ∧ R' 8 i = nI u) := by
    intro nx R1 M1 b1 b2 b3 b4
    rcases zxe (c := c) i nx wr R1 M1 with h | ⟨p, R', M', a1, a2, a3, a4, a5⟩
    · exact Or.inl h
    · right
      refine ⟨p, R', M', a1, a2, b1.tr a3, fun r hr => ⟨(a4 r (by omega) (by omega)).1.trans (b2 r (by omega) (by omega) (by omega)).1, (a4 r (by omega) (by omega)).2.trans (b2 r (by omega) (by omega) (by omega)).2⟩, fun r r1 r2 => ?_, ?_, ?_⟩
      · by_cases e : r ≤ 6
        · rw [(a4 r (by omega) (by omega)).1, (a4 r (by omega) (by omega)).2]; exact b3 r r1 e
        · have hr : r = 7 ∨ r = 8 := by omega
          rcases a5 with ⟨x1, x2, x3, x4⟩ | ⟨v, u, -, -, -, x1, x2, x3, x4⟩
          · rcases hr with rfl | rfl
            · rw [x1, x3, (b2 7 (by decide) (by decide) (by decide)).1, (b2 7 (by decide) (by decide) (by decide)).2, h7, m7]
            · rw [x2, x4, (b2 8 (by decide) (by decide) (by decide)).1, (b2 8 (by decide) (by decide) (by decide)).2, h8, m8]
          · rcases hr with rfl | rfl
            · rw [x1, x3]
            · rw [x2, x4]
      · rw [(a4 4 (by decide) (by decide)).1, (a4 5 (by decide) (by decide)).1, (a4 6 (by decide) (by decide)).1]; exact b4
      · rcases a5 with ⟨x1, x2, x3, x4⟩ | ⟨v, u, v1, v2, v3, x1, x2, x3, x4⟩
        · left; rw [x1, x2, (b2 7 (by decide) (by decide) (by decide)).1, (b2 8 (by decide) (by decide) (by decide)).1]; exact ⟨h7, h8⟩
        · exact Or.inr ⟨v, u, v1, v2, v3, x1, x2⟩
  have stay : zfail (zt_xe c i nx wr R) (zm_xe c (100 + i) nx M) ∨ _ := fin nx R M zu1.rf (fun _ _ _ _ => ⟨rfl, rfl⟩) (fun r r1 r2 => by
    have hr : r = 4 ∨ r = 5 ∨ r = 6 := by omega
    rcases hr with rfl | rfl | rfl
    · rw [h4, m4]
    · rw [h5, m5]
    · rw [h6, m6]) (Or.inl ⟨h4, h5, h6⟩)
  by_cases e1 : c nx = nI 32
  · by_cases e2 : c (nx + 1) = nI 100
    · have hm : zm_lm2 c (100 + i) nx M = match zm_dated c (100 + i) (nx + 2) M with
          | (false, ps6, M6) => (false, ps6, M6)
          | (true, ps6, M6) => zm_xe c (100 + i) ps6 M6 := by
        unfold zm_lm2 zm_eat
        rw [if_pos e1]
        simp only
        rw [if_pos e2]
        rcases zm_dated c (100 + i) (nx + 2) M with ⟨ok, ps6, M6⟩
        cases ok
        · rfl
        · simp only
          unfold zm_xe
          by_cases e3 : c ps6 = nI 32
          · rw [if_pos e3, if_pos e3]
          · rw [if_neg e3, if_neg e3]
      rw [hm]
      unfold zt_rest
      rcases zdate (c := c) i nx wr R M h6 e1 e2 with ⟨p, n1, R1, M1, x1, x2⟩ | ⟨p, R', M', y, z, d, a1, a2, a3, a4, a5, a6, a7, a8, b1, b2, b3, b4, b5, b6⟩
      · left
        rw [x1, x2]
        exact ⟨p, n1, R1, M1, rfl, rfl⟩
      · rw [a1, a2]
        exact fin p R' M' a3 a4 (fun r r1 r2 => by
          have hr : r = 4 ∨ r = 5 ∨ r = 6 := by omega
          rcases hr with rfl | rfl | rfl
          · rw [b1, b4]
          · rw [b2, b5]
          · rw [b3, b6]) (Or.inr ⟨y, z, d, a5, a6, a7, a8, b1, b2, b3⟩)
    · have hm : zm_lm2 c (100 + i) nx M = zm_xe c (100 + i) nx M := by
        unfold zm_lm2 zm_eat zm_xe
        rw [if_pos e1, if_pos e1]
        simp only
        rw [if_neg e2]
      have ht : zt_rest c i nx wr R = zt_xe c i nx wr R := by
        unfold zt_rest zt_date
        rw [if_pos e1, if_neg e2]
      rw [hm, ht]; exact stay
  · have hm : zm_lm2 c (100 + i) nx M = zm_xe c (100 + i) nx M := by
      unfold zm_lm2 zm_eat zm_xe
      rw [if_neg e1, if_neg e1]
    have ht : zt_rest c i nx wr R = zt_xe c i nx wr R := by
      unfold zt_rest zt_date
      rw [if_neg e1]
    rw [hm, ht]; exact stay
theorem zrest_l (i nx : Nat) (wr : Int32) (R : Nat → Nat → Int32) (h : zt_l (c nx) = true) : zt_rest c i nx wr R = (false, nx, nI nx, R) := by
  obtain ⟨d, d1, d2, d3⟩ := zt_l_of h
  have n1 : ¬ c nx = nI 32 := by rw [d3, nI_eq (by omega) (by omega)]; omega
  have n2 : ¬ c nx = nI 10 := by rw [d3, nI_eq (by omega) (by omega)]; omega
  unfold zt_rest zt_date
  rw [if_neg n1]
  simp only
  unfold zt_xe zt_ext
  rw [if_neg n1]
  simp only
  unfold zt_exp
  rw [if_neg n2]
end ZL8
