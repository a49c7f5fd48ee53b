/-! PURE: merge answers alike -/
section ZL11
variable {n m : Nat} {R Q M : Nat → Nat → Int32} {pa : Nat → Option Nat} {dp : Nat → Nat}
theorem zCt.gh {pa' : Nat → Option Nat} {dp' : Nat → Nat} (h : zCt n R M pa dp) (hg : ∀ j, j < 100 → pa' j = pa j ∧ dp' j = dp j) : zCt n R M pa' dp' := by
  obtain ⟨a1, a2, a3, a4, a5, a6, a7⟩ := h
  refine ⟨a1, fun j hj => ?_, fun h => by rw [(hg 0 (by omega)).2]; exact a3 h, fun j hj hp => a4 j hj (by rw [← (hg j (by omega)).1]; exact hp), fun w j hw hj => ?_, a6, a7⟩
  · obtain ⟨b1, b2, b3, b4, b5⟩ := a2 j hj
    obtain ⟨g1, g2⟩ := hg j (by omega)
    refine ⟨b1, by rw [g2]; exact b2, by rw [g1]; exact b3, fun p hp => ?_, fun hp => by rw [g2]; exact b5 (by rw [← g1]; exact hp)⟩
    obtain ⟨c1, c2⟩ := b4 p (by rw [← g1]; exact hp)
    exact ⟨c1, by rw [g2, (hg p (by omega)).2]; exact c2⟩
  · rw [a5 w j hw hj]
    match w, hw with
    | 0, _ => rfl
    | 1, _ => rfl
    | 2, _ => rfl
    | 3, _ => show nI (dp j) = nI (dp' j); rw [(hg j (by omega)).2]
    | w + 4, _ => rfl
theorem zall_congr {p q : Nat → Bool} : ∀ (k lo : Nat), (∀ j, lo ≤ j → j < lo + k → p j = q j) → zall p lo k = zall q lo k := by
  intro k
  induction k with
  | zero => intro lo _; rfl
  | succ k ih =>
    intro lo hh
    unfold zall
    rw [hh lo (by omega) (by omega), ih (lo + 1) (fun j h1 h2 => hh j (by omega) (by omega))]
theorem zfindo_congr {p q : Nat → Bool} : ∀ (k lo : Nat), (∀ j, lo ≤ j → j < lo + k → p j = q j) → zfindo p lo k = zfindo q lo k := by
  intro k
  induction k with
  | zero => intro lo _; rfl
  | succ k ih =>
    intro lo hh
    unfold zfindo
    rw [hh lo (by omega) (by omega), ih (lo + 1) (fun j h1 h2 => hh j (by omega) (by omega))]
theorem zpath_sim {nu : Nat → Int32} (hn : n ≤ 100) (hm : m ≤ 100) (h1 : ∀ p, p < n → R 1 p = nu p ∧ R 2 p = zo (pa p) ∧ ∀ q, pa p = some q → q < n) (h2 : ∀ q, q < m → Q 1 q = nu (100 + q) ∧ ∃ o : Option Nat, pa (100 + q) = o.map (fun q => 100 + q) ∧ Q 2 q = zo o ∧ ∀ x, o = some x → x < m) : ∀ (f : Nat) (o1 o2 : Option Nat), (∀ p, o1 = some p → p < n) → (∀ q, o2 = some q → q < m) → zl_path n R m Q f (zo o1) (zo o2) = zpth pa nu f o1 (o2.map (fun q => 100 + q)) := by
  intro f
  induction f with
  | zero =>
    intro o1 o2 a1 a2
    unfold zl_path zpth
    rw [zi_zo hn a1, zi_zo hm a2]
    cases o2 <;> rfl
  | succ f ih =>
    intro o1 o2 a1 a2
    unfold zl_path
    rw [zi_zo hn a1, zi_zo hm a2]
    cases o1 with
    | none =>
      cases o2 with
      | none => rfl
      | some q => rfl
    | some p =>
      cases o2 with
      | none => rfl
      | some q =>
        obtain ⟨b1, b2, b3⟩ := h1 p (a1 p rfl)
        obtain ⟨c1, o, c2, c3, c4⟩ := h2 q (a2 q rfl)
        simp only [Option.map_some]
        unfold zpth
        rw [b1, c1, b2, c3, ih (pa p) o b3 c4, c2]
/-- what a merge has found so far -/
def zmI (n m : Nat) (Q M : Nat → Nat → Int32) (j : Nat) (s s' : Nat × (Nat → Nat → Int32)) : Prop := s.1 = s'.1 ∧ s.1 ≤ j ∧ (∀ r, (r < 4 ∨ (10 < r ∧ r < 17) ∨ 19 < r) → s'.2 r = M r) ∧ (∀ r x, 4 ≤ r → r ≤ 9 → x < 200 → s'.2 r x = M r x) ∧ (∀ x, x < 3200 → s'.2 10 x = M 10 x) ∧ ∀ x, x < s.1 → s.2 0 x = s'.2 17 x ∧ s.2 2 x = s'.2 18 x ∧ s.2 3 x = s'.2 19 x ∧ ∃ y b, y < n ∧ b < m ∧ s.2 0 x = nI y ∧ s.2 1 x = nI b ∧ zsame Q b s'.2 (200 + x)
theorem zdif_congr {M' : Nat → Nat → Int32} {x y t : Nat} (ht : t ≤ 16) (h1 : ∀ r, 4 ≤ r → r ≤ 9 → M' r x = M r x ∧ M' r y = M r y) (h2 : ∀ k, k < 16 → M' 10 (16 * x + k) = M 10 (16 * x + k) ∧ M' 10 (16 * y + k) = M 10 (16 * y + k)) : zm_dif M' x y t = zm_dif M x y t := by
  unfold zm_dif zm_tq
  rw [(h1 9 (by decide) (by decide)).1, (h1 9 (by decide) (by decide)).2, (h1 4 (by decide) (by decide)).1, (h1 4 (by decide) (by decide)).2, (h1 5 (by decide) (by decide)).1, (h1 5 (by decide) (by decide)).2, (h1 6 (by decide) (by decide)).1, (h1 6 (by decide) (by decide)).2, (h1 7 (by decide) (by decide)).1, (h1 7 (by decide) (by decide)).2, (h1 8 (by decide) (by decide)).1, (h1 8 (by decide) (by decide)).2]
  rw [zall_congr (p := fun k => decide (M' 10 (16 * x + k) = M' 10 (16 * y + k))) (q := fun k => decide (M 10 (16 * x + k) = M 10 (16 * y + k))) t 0 (fun k _ hk => by rw [(h2 k (by omega)).1, (h2 k (by omega)).2])]
theorem zdif_sim (hC : zCt n R M pa dp) (hP : zPs m Q M pa dp) {x j : Nat} (hx : x < n) (hj : j < m) : zl_dif R x Q j (zl_t R x) = zm_dif M x (100 + j) (zl_t M x) := by
  obtain ⟨c1, c2, c3, c4, c5, c6, c7⟩ := hC
  obtain ⟨p1, p2, p3, p4, p5⟩ := hP
  have hr : ∀ w, 4 ≤ w → w ≤ 9 → R w x = M w x := fun w w1 w2 => by
    obtain ⟨k, rfl⟩ : ∃ k, w = k + 4 := ⟨w - 4, by omega⟩
    exact c5 (k + 4) x (by omega) hx
  obtain ⟨g1, g2, g3, g4, g5, g6⟩ := p3 j hj
  have ht : zl_t M x = zl_t R x := by unfold zl_t; rw [hr 9 (by decide) (by decide)]
  unfold zl_dif zm_dif
  rw [ht, hr 4 (by decide) (by decide), hr 5 (by decide) (by decide), hr 6 (by decide) (by decide), hr 7 (by decide) (by decide), hr 8 (by decide) (by decide), g4.1 4 (by decide) (by decide), g4.1 5 (by decide) (by decide), g4.1 6 (by decide) (by decide), g4.1 7 (by decide) (by decide), g4.1 8 (by decide) (by decide)]
  have : zl_tit R x Q j (zl_t R x) = zm_tq M x (100 + j) (zl_t R x) := by
    unfold zl_tit zm_tq
    rw [hr 9 (by decide) (by decide), g4.1 9 (by decide) (by decide)]
    by_cases e : M 9 x = M 9 (100 + j)
    · rw [if_pos e, if_pos e]
      have e2 : zl_t R x = zl_t Q j := by unfold zl_t; rw [hr 9 (by decide) (by decide), g4.1 9 (by decide) (by decide), e]
      refine zall_congr _ 0 (fun k _ hk => ?_)
      rw [c6 x hx k (by omega), g4.2 k (by omega), Nat.mul_comm x 16, Nat.mul_comm (100 + j) 16]
    · rw [if_neg e, if_neg e]
  rw [this]
theorem zmerge_step (hC : zCt n R M pa dp) (hP : zPs m Q M pa dp) {j : Nat} (hj : j < m) {s s' : Nat × (Nat → Nat → Int32)} (h : zmI n m Q M j s s') : zmI n m Q M (j + 1) (zk_g1 n R m Q s j) (zm_mg1 n pa s' j) := by
  obtain ⟨c1, c2, c3, c4, c5, c6, c7⟩ := id hC
  obtain ⟨p1, p2, p3, p4, p5⟩ := id hP
  obtain ⟨i1, i2, i3, i4, i5, i6⟩ := h
  have hfind : zl_fo n R m Q (nI j) = zfindo (fun x => zpth pa (s'.2 2) 9 (some x) (some (100 + j))) 0 n := by
    unfold zl_fo
    refine zfindo_congr n 0 (fun x _ hx => ?_)
    have := zpath_sim (n := n) (m := m) (R := R) (Q := Q) (pa := pa) (nu := s'.2 2) c1 p1 (fun p hp => ⟨by rw [i3 2 (by omega)]; exact c5 1 p (by decide) hp, by rw [hC.up p hp]; exact (c2 p hp).2.2.1, fun q hq => ((c2 p hp).2.2.2.1 q hq).1⟩) (fun q hq => ⟨by rw [i3 2 (by omega)]; exact (p3 q hq).2.1, by
        obtain ⟨o, o1, o2, o3, o4⟩ := p4 q hq
        exact ⟨o, o1, o2, fun x hx => by have := (o4 x hx).1; omega⟩⟩) 9 (some x) (some j) (fun p hp => by cases hp; omega) (fun q hq => by cases hq; exact hj)
    exact this
  unfold zk_g1 zm_mg1
  rw [hfind]
  cases hf : zfindo (fun x => zpth pa (s'.2 2) 9 (some x) (some (100 + j))) 0 n with
  | none => exact ⟨i1, Nat.le_succ_of_le i2, i3, i4, i5, i6⟩
  | some x =>
    have hx : x < n := by have := (zfindo_lt _ n 0 x hf).1; omega
    simp only
    obtain ⟨t1, t2, t3, t4⟩ := (c7 x hx).2.t
    have et : zl_t s'.2 x = zl_t M x := by unfold zl_t; rw [i4 9 x (by decide) (by decide) (by omega)]
    have et2 : zl_t M x = zl_t R x := by
      have : R 9 x = M 9 x := c5 9 x (by decide) hx
      unfold zl_t; rw [this]
    have hd : zm_dif s'.2 x (100 + j) (zl_t s'.2 x) = zl_dif R x Q j (zl_t R x) := by
      rw [zdif_sim hC hP hx hj, et]
      exact zdif_congr (by omega) (fun r r1 r2 => ⟨i4 r x r1 r2 (by omega), i4 r (100 + j) r1 r2 (by omega)⟩) (fun k hk => ⟨i5 _ (by omega), i5 _ (by omega)⟩)
    rw [hd]
    by_cases e0 : zl_dif R x Q j (zl_t R x) = 0
    · rw [if_pos e0, if_pos e0]; exact ⟨i1, Nat.le_succ_of_le i2, i3, i4, i5, i6⟩
    · rw [if_neg e0, if_neg e0]
      -- the reference's rows
      have hcp : ∀ r, (r < 4 ∨ 10 < r) → zm_cp0 (va_up s'.2 17 (upd (s'.2 17) s'.1 (nI x))) (200 + s'.1) (100 + j) r = va_up s'.2 17 (upd (s'.2 17) s'.1 (nI x)) r := fun r hr => zm_cp0_row hr
      have hmid : ∀ r, 4 ≤ r → r ≤ 9 → zm_cp0 (va_up s'.2 17 (upd (s'.2 17) s'.1 (nI x))) (200 + s'.1) (100 + j) r = upd (s'.2 r) (200 + s'.1) (s'.2 r (100 + j)) := fun r r1 r2 => by
        rw [zm_cp0_mid r1 r2, va_up_ne _ _ (by omega)]
      have h10 : ∀ q, zm_cp0 (va_up s'.2 17 (upd (s'.2 17) s'.1 (nI x))) (200 + s'.1) (100 + j) 10 q = if 16 * (200 + s'.1) ≤ q ∧ q < 16 * (200 + s'.1) + 16 then zby (s'.2 10 (16 * (100 + j) + (q - 16 * (200 + s'.1)))) else s'.2 10 q := fun q => by
        rw [zm_cp0_10 (by omega), va_up_ne _ _ (by decide)]
      have hd2 : zm_dif (zm_cp0 (va_up s'.2 17 (upd (s'.2 17) s'.1 (nI x))) (200 + s'.1) (100 + j)) x (100 + j) (zl_t s'.2 x) = zl_dif R x Q j (zl_t R x) := by
        rw [← hd]
        refine zdif_congr (by omega) (fun r r1 r2 => ?_) (fun k hk => ?_)
        · rw [hmid r r1 r2, pk_un (by omega), pk_un (by omega)]; exact ⟨rfl, rfl⟩
        · rw [h10, if_neg (by omega), h10, if_neg (by omega)]; exact ⟨rfl, rfl⟩
      generalize hD : zl_dif R x Q j (zl_t R x) = dd at *
      have hmg : ∀ r, r ≠ 18 → r ≠ 19 → zm_mgM s' x (100 + j) r = zm_cp0 (va_up s'.2 17 (upd (s'.2 17) s'.1 (nI x))) (200 + s'.1) (100 + j) r := fun r r1 r2 => by
        unfold zm_mgM; rw [va_up_ne _ _ r2, va_up_ne _ _ r1]
      have m17 : zm_mgM s' x (100 + j) 17 = upd (s'.2 17) s'.1 (nI x) := by rw [hmg 17 (by decide) (by decide), hcp 17 (by omega), va_up_self]
      have m18 : zm_mgM s' x (100 + j) 18 = upd (s'.2 18) s'.1 (nI dd) := by
        unfold zm_mgM
        rw [va_up_ne _ _ (by decide), va_up_self, hd2, hcp 18 (by omega), va_up_ne _ _ (by decide)]
      have m19 : zm_mgM s' x (100 + j) 19 = upd (s'.2 19) s'.1 (nI 0) := by
        unfold zm_mgM
        rw [va_up_self, hcp 19 (by omega), va_up_ne _ _ (by decide)]
      obtain ⟨g1, g2, g3, g4, g5, g6⟩ := p3 j hj
      obtain ⟨u1, u2, u3, u4⟩ := g6.t
      refine ⟨?_, ?_, fun r hr => ?_, fun r y r1 r2 hy => ?_, fun y hy => ?_, fun y hy => ?_⟩
      · show s.1 + 1 = s'.1 + 1; rw [i1]
      · show s.1 + 1 ≤ j + 1; omega
      · show zm_mgM s' x (100 + j) r = M r
        rw [hmg r (by omega) (by omega), hcp r (by omega), va_up_ne _ _ (by omega)]; exact i3 r hr
      · show zm_mgM s' x (100 + j) r y = M r y
        rw [hmg r (by omega) (by omega), hmid r r1 r2, pk_un (by omega)]; exact i4 r y r1 r2 hy
      · show zm_mgM s' x (100 + j) 10 y = M 10 y
        rw [hmg 10 (by decide) (by decide), h10, if_neg (by omega)]; exact i5 y hy
      · change y < s.1 + 1 at hy
        have k0 : (zk_add s x j dd).2 0 = upd (s.2 0) s.1 (nI x) := by unfold zk_add; simp [va_up]
        have k1 : (zk_add s x j dd).2 1 = upd (s.2 1) s.1 (nI j) := by unfold zk_add; simp [va_up]
        have k2 : (zk_add s x j dd).2 2 = upd (s.2 2) s.1 (nI dd) := by unfold zk_add; simp [va_up]
        have k3 : (zk_add s x j dd).2 3 = upd (s.2 3) s.1 (nI 0) := by unfold zk_add; simp [va_up]
        show (zk_add s x j dd).2 0 y = zm_mgM s' x (100 + j) 17 y ∧ (zk_add s x j dd).2 2 y = zm_mgM s' x (100 + j) 18 y ∧ (zk_add s x j dd).2 3 y = zm_mgM s' x (100 + j) 19 y ∧ ∃ z b, z < n ∧ b < m ∧ (zk_add s x j dd).2 0 y = nI z ∧ (zk_add s x j dd).2 1 y = nI b ∧ zsame Q b (zm_mgM s' x (100 + j)) (200 + y)
        rw [k0, k1, k2, k3, m17, m18, m19]
        by_cases e : y = s.1
        · subst e
          rw [← i1, pk_us, pk_us, pk_us, pk_us, pk_us, pk_us, pk_us]
          refine ⟨rfl, rfl, rfl, x, j, hx, hj, rfl, rfl, fun w w1 w2 => ?_, fun k hk => ?_⟩
          · rw [hmg w (by omega) (by omega), hmid w w1 w2, ← i1, pk_us, i4 w (100 + j) w1 w2 (by omega)]; exact g4.1 w w1 w2
          · obtain ⟨cc, cc1, cc2, cc3⟩ := u4 k hk
            have e9 := g4.2 k hk
            rw [hmg 10 (by decide) (by decide), h10, ← i1, if_pos (by omega), show 16 * (100 + j) + ((200 + s.1) * 16 + k - 16 * (200 + s.1)) = (100 + j) * 16 + k by omega, i5 _ (by omega), ← e9, cc3, zby_s cc (by omega)]
        · obtain ⟨v1, v2, v3, z, b, v4, v5, v6, v7, v8, v9⟩ := i6 y (by omega)
          rw [← i1, pk_un e, pk_un e, pk_un e, pk_un e, pk_un e, pk_un e, pk_un e]
          refine ⟨v1, v2, v3, z, b, v4, v5, v6, v7, fun w w1 w2 => ?_, fun k hk => ?_⟩
          · rw [hmg w (by omega) (by omega), hmid w w1 w2, pk_un (by omega)]; exact v8 w w1 w2
          · have := (p3 b v5).2.2.2.2.2.t.2.1
            rw [hmg 10 (by decide) (by decide), h10, if_neg (by omega)]; exact v9 k hk
theorem zrel_merge {K : Nat → Nat → Int32} (hC : zCt n R M pa dp) (hP : zPs m Q M pa dp) : (zk_gat n R m Q K).1 = (zm_mg n pa M m).1 ∧ zEt n (zk_gat n R m Q K).1 m (nI 0) Q (zk_gat n R m Q K).2 (nI 1) (zm_mg n pa M m).2 ∧ (∀ r, (r < 4 ∨ (10 < r ∧ r < 17) ∨ 19 < r) → (zm_mg n pa M m).2 r = M r) ∧ (∀ r x, 4 ≤ r → r ≤ 9 → x < 200 → (zm_mg n pa M m).2 r x = M r x) ∧ ∀ x, x < 3200 → (zm_mg n pa M m).2 10 x = M 10 x := by
  have key : ∀ (k j : Nat) (s s' : Nat × (Nat → Nat → Int32)), j + k = m → zmI n m Q M j s s' → zmI n m Q M m (zfold (zk_g1 n R m Q) s j k) (zfold (zm_mg1 n pa) s' j k) := by
    intro k
    induction k with
    | zero => intro j s s' hj h; have : j = m := by omega
              subst this; exact h
    | succ k ih => intro j s s' hj h; exact ih (j + 1) _ _ (by omega) (zmerge_step hC hP (by omega) h)
  have h := key m 0 (0, K) (0, M) (by omega) ⟨rfl, Nat.le_refl _, fun _ _ => rfl, fun _ _ _ _ _ => rfl, fun _ _ => rfl, fun x hx => absurd hx (Nat.not_lt_zero _)⟩
  obtain ⟨i1, i2, i3, i4, i5, i6⟩ := h
  obtain ⟨p1, p2, p3, p4, p5⟩ := hP
  have hn := hC.1
  refine ⟨i1, ⟨Nat.le_trans i2 p1, p1, fun j hj => ⟨(p3 j hj).2.2.2.2.2.t.1, (p3 j hj).2.2.2.2.2.t.2.1⟩, fun x hx => ?_, Or.inr (Or.inr ⟨rfl, rfl, fun x hx => ?_⟩)⟩, i3, i4, i5⟩
  · obtain ⟨v1, v2, v3, y, b, v4, v5, v6, v7, v8⟩ := i6 x hx
    have e0 : zkc (zk_gat n R m Q K).2 0 x = y := by unfold zkc; rw [show (zk_gat n R m Q K).2 0 x = nI y from v6, nI_clamp (by omega)]
    have e1 : zkc (zk_gat n R m Q K).2 1 x = b := by unfold zkc; rw [show (zk_gat n R m Q K).2 1 x = nI b from v7, nI_clamp (by omega)]
    rw [e0, e1]
    exact ⟨v1, v2, v3, v6, by omega, v7⟩
  · obtain ⟨v1, v2, v3, y, b, v4, v5, v6, v7, v8⟩ := i6 x hx
    have e0 : zkc (zk_gat n R m Q K).2 0 x = y := by unfold zkc; rw [show (zk_gat n R m Q K).2 0 x = nI y from v6, nI_clamp (by omega)]
    have e1 : zkc (zk_gat n R m Q K).2 1 x = b := by unfold zkc; rw [show (zk_gat n R m Q K).2 1 x = nI b from v7, nI_clamp (by omega)]
    rw [e0, e1]
    exact ⟨v4, v5, (p3 b v5).2.2.2.2.2, v8⟩
end ZL11
