/-! PURE: each call answers alike, and keeps the relation -/
section ZR
variable {n : Nat} {R M : Nat → Nat → Int32} {pa : Nat → Option Nat} {dp : Nat → Nat} {N : Nat → Nat → Int32}
theorem zCt.t {j : Nat} (h : zCt n R M pa dp) (hj : j < n) : zl_t (zmR M dp) j = zl_t R j := by
  unfold zl_t; rw [h.2.2.2.2.1 9 j (by decide) hj]
theorem zCt.T (h : zCt n R M pa dp) : zl_T n R := fun i hi => ⟨(h.2.2.2.2.2.2 i hi).2.t.1, (h.2.2.2.2.2.2 i hi).2.t.2.1⟩
theorem zCt.TM (h : zCt n R M pa dp) : zl_T n (zmR M dp) := fun i hi => by
  rw [h.t hi, ← h.2.2.2.2.1 9 i (by decide) hi]
  exact h.T i hi
theorem zCt.D (h : zCt n R M pa dp) : zl_D n R := fun i hi => by
  have h3 : R 3 i = nI (dp i) := h.2.2.2.2.1 3 i (by decide) hi
  have h8 := (h.2.1 i hi).2.1
  exact zl_d_of h3 h8
theorem zCt.up (h : zCt n R M pa dp) : ∀ j, j < n → R 2 j = M 3 j := fun j hj => h.2.2.2.2.1 2 j (by decide) hj
theorem zrel_level (h : zCt n R M pa dp) (i w : Int32) : zf_level n R i w = zf_level n (zmR M dp) i w := by
  unfold zf_level
  cases h1 : zi n i with
  | none => rfl
  | some j =>
    simp only
    cases h2 : zi 10 w with
    | none => rfl
    | some q => exact h.2.2.2.2.1 q j (zi_some (by omega) h2).1 (zi_some (by have := h.1; omega) h1).1
theorem zrel_letter (h : zCt n R M pa dp) (i w : Int32) : zf_letter n R i w = zf_letter n (zmR M dp) i w := by
  unfold zf_letter
  cases h1 : zi n i with
  | none => rfl
  | some j =>
    have hj := (zi_some (by have := h.1; omega) h1).1
    simp only [h.t hj]
    cases h2 : zi (zl_t R j) w with
    | none => rfl
    | some q => exact h.2.2.2.2.2.1 j hj q (zi_some (by have := (h.T j hj).2; omega) h2).1
theorem zcmp1 {a b : Nat} (ha : a < 2 ^ 30) (hb : b < 2 ^ 30) : zm_sg (nI a - nI b) = zl_ord (nI a) (nI b) := by
  unfold zm_sg zl_ord
  by_cases h1 : a = b
  · subst h1
    rw [if_pos rfl, pk_sub (Nat.le_refl _), Nat.sub_self, nI_0]
    decide
  · by_cases h2 : a < b
    · rw [if_pos (pk_sneg hb h2), if_neg (fun h => h1 ((nI_eq (by omega) (by omega)).mp h)), if_pos (nI_lt h2 (by omega))]
    · rw [pk_sub (by omega), if_neg (nI_pos (by omega)), if_neg (fun h => h1 ((nI_eq (by omega) (by omega)).mp h)), if_neg (nI_nlt (by omega) (by omega)), ← nI_0, if_pos (nI_lt (by omega) (by omega))]
      rfl
theorem zrel_compare (h : zCt n R M pa dp) (i w : Int32) : zf_cmp n R i w = zm_cmp n M i w := by
  unfold zf_cmp zm_cmp
  cases h1 : zi n i with
  | none => rfl
  | some j =>
    have hj := (zi_some (by have := h.1; omega) h1).1
    simp only
    cases h2 : zi n w with
    | none => rfl
    | some q =>
      have hq := (zi_some (by have := h.1; omega) h2).1
      have hm1 : ((-1 : Int32) < 0) := by decide
      simp only
      unfold zl_dates zm_dt zm_dd
      have r4 := fun j hj => h.2.2.2.2.1 4 j (by decide) hj
      have r5 := fun j hj => h.2.2.2.2.1 5 j (by decide) hj
      have r6 := fun j hj => h.2.2.2.2.1 6 j (by decide) hj
      simp only [zmR] at r4 r5 r6
      rw [← r4 j hj, ← r4 q hq, ← r5 j hj, ← r5 q hq, ← r6 j hj, ← r6 q hq]
      have hne : ∀ y, y < 2 ^ 31 → ¬ nI y = -1 := fun y hy h9 => by
        have := nI_pos hy
        rw [h9] at this
        exact this hm1
      rcases (h.2.2.2.2.2.2 j hj).2.1 with ⟨a1, a2, a3⟩ | ⟨y, z, d, b1, b2, b3, b4, b5, b6, b7⟩
      · rcases (h.2.2.2.2.2.2 q hq).2.1 with ⟨e1, e2, e3⟩ | ⟨y', z', d', c1, c2, c3, c4, c5, c6, c7⟩
        · rw [a1, e1]; simp [hm1]; decide
        · rw [a1, c5, if_pos rfl, if_pos hm1, if_neg (hne _ (by omega)), if_neg (nI_pos (by omega))]; decide
      · rcases (h.2.2.2.2.2.2 q hq).2.1 with ⟨e1, e2, e3⟩ | ⟨y', z', d', c1, c2, c3, c4, c5, c6, c7⟩
        · rw [b5, e1, if_neg (hne _ (by omega)), if_neg (nI_pos (by omega)), if_pos rfl, if_pos hm1]; decide
        · rw [b5, c5, b6, c6, b7, c7, if_neg (hne _ (by omega)), if_neg (nI_pos (by omega)), if_neg (hne _ (by omega)), if_neg (nI_pos (by omega))]
          split
          · split
            · exact (zcmp1 (by omega) (by omega)).symm
            · exact (zcmp1 (by omega) (by omega)).symm
          · exact (zcmp1 (by omega) (by omega)).symm
theorem zsT_congr {fm fm' ut ut' : Nat → Int32} {x : Int32} {tp : Nat} {self : Bool} {fu : Nat → Int32} (hfo : zfor fu pa dp (fun j => j < n)) (htp : tp < n) (h1 : ∀ j, j < n → fm j = fm' j) (h2 : ∀ j, j < n → ut j = ut' j) : zsT n fm pa ut x tp self = zsT n fm' pa ut' x tp self := by
  have hck : ∀ f o, (∀ p, o = some p → p < n) → zck pa ut x tp f o = zck pa ut' x tp f o := by
    intro f
    induction f with
    | zero => intro o _; cases o <;> rfl
    | succ f ih =>
      intro o ho
      cases o with
      | none => rfl
      | some p =>
        unfold zck
        rw [h2 p (ho p rfl), ih (pa p) (fun q hq => ((hfo p (ho p rfl)).2.2.2.1 q hq).1)]
  refine zsm_congr n (fun k hk => ?_)
  have : zm_cnt pa ut x tp self k = zm_cnt pa ut' x tp self k := by
    unfold zm_cnt
    rw [h2 k hk, h2 tp htp, hck 9 (pa k) (fun p hp => ((hfo k hk).2.2.2.1 p hp).1)]
  rw [this, h1 k hk]
theorem zCt.fo (h : zCt n R M pa dp) : zfor (R 2) pa dp (fun j => j < n) := fun j hj => by
  obtain ⟨b1, b2, b3, b4⟩ := h.2.1 j hj
  exact ⟨b1, b2, by rw [h.up j hj]; exact b3, b4⟩
theorem zrel_extent (h : zCt n R M pa dp) (S : Nat → Nat → Int32) (i u : Int32) : (zf_ext n R S i u).1 = zm_exn n M pa i u := by
  unfold zf_ext zm_exn
  cases h1 : zi n i with
  | none => rfl
  | some j =>
    have hj := (zi_some (by have := h.1; omega) h1).1
    simp only
    cases h2 : zi 3 u with
    | none => rfl
    | some q =>
      obtain ⟨hq, rfl⟩ := zi_some (by omega) h2
      simp only
      rw [zs_w_0 h.1 h.fo (fun j hj => h.2.2.2.2.1 3 j (by decide) hj) hq hj, zm_sum_eq]
      exact zsT_congr h.2.1 hj (fun j hj => h.2.2.2.2.1 7 j (by decide) hj) (fun j hj => h.2.2.2.2.1 8 j (by decide) hj)
theorem zf_pick_congr {p q : Nat → Bool} {i : Int32} : ∀ (k x f : Nat), (∀ j, x ≤ j → j < x + k → p j = q j) → zf_pick p i k x f = zf_pick q i k x f := by
  intro k
  induction k with
  | zero => intro x f _; rfl
  | succ k ih =>
    intro x f hh
    unfold zf_pick
    rw [hh x (by omega) (by omega), ih (x + 1) (f + 1) (fun j h1 h2 => hh j (by omega) (by omega)), ih (x + 1) f (fun j h1 h2 => hh j (by omega) (by omega))]
def zuo (R : Nat → Nat → Int32) (j : Nat) : Option Nat := zi 3 (R 8 j)
theorem zCt.uo (h : zCt n R M pa dp) : ∀ j, j < n → R 8 j = zo (zuo R j) ∧ ∀ u, zuo R j = some u → u < 3 := fun j hj => by
  obtain ⟨o, h1, h2⟩ := (h.2.2.2.2.2.2 j hj).2.u
  have : zuo R j = o := by
    unfold zuo; rw [h1]
    cases o with
    | none => exact zi_neg
    | some u => exact zi_nI (h2 u rfl) (by omega)
  rw [this]; exact ⟨h1, h2⟩
theorem zrel_differ (h : zCt n R M pa dp) (S : Nat → Nat → Int32) (i : Int32) : zf_dif n R S (zuo R) i = zf_pick (zm_dfc n M pa) i n 0 0 := by
  unfold zf_dif
  refine zf_pick_congr n 0 0 (fun j _ hj => ?_)
  have hj : j < n := by omega
  have r7 : R 7 j = M 7 j := h.2.2.2.2.1 7 j (by decide) hj
  have r8 : R 8 j = M 8 j := h.2.2.2.2.1 8 j (by decide) hj
  obtain ⟨u1, u2⟩ := h.uo j hj
  unfold zm_dfc
  rw [← r8, ← r7]
  cases hu : zuo R j with
  | none =>
    rw [hu] at u1
    rw [u1]
    show false = _
    rw [if_pos (by decide)]
  | some u =>
    rw [hu] at u1
    have hu3 := u2 u hu
    rw [u1]
    show zs_con (zs_w n R S) R j (some u) = if nI u < 0 then _ else _
    rw [if_neg (nI_pos (by omega))]
    show (if zs_w n R S 1 (u * 100 + j) = 0 then false else if zs_w n R S 1 (u * 100 + j) = R 7 j then false else true) = if zm_sum n M pa j (nI u) false = 0 then false else if zm_sum n M pa j (nI u) false = R 7 j then false else true
    rw [zs_w_1 h.1 h.fo (fun j hj => h.2.2.2.2.1 3 j (by decide) hj) hu3 hj, zm_sum_eq, zsT_congr h.2.1 hj (fun j hj => h.2.2.2.2.1 7 j (by decide) hj) (fun j hj => h.2.2.2.2.1 8 j (by decide) hj)]
    rfl
theorem zany_congr {p q : Nat → Bool} : ∀ (k lo : Nat), (∀ j, lo ≤ j → j < lo + k → p j = q j) → zany p lo k = zany q lo k := by
  intro k
  induction k with
  | zero => intro lo _; rfl
  | succ k ih =>
    intro lo hh
    unfold zany
    rw [hh lo (by omega) (by omega), ih (lo + 1) (fun j h1 h2 => hh j (by omega) (by omega))]
theorem zrel_twice (h : zCt n R M pa dp) (i : Int32) : zf_pick (fun x => zl_rep R x) i n 0 0 = zf_pick (fun x => zl_rep (zmR M dp) x) i n 0 0 := by
  refine zf_pick_congr n 0 0 (fun j _ hj => ?_)
  have hj : j < n := by omega
  unfold zl_rep
  refine zany_congr j 0 (fun q _ hq => ?_)
  rw [h.2.2.2.2.1 2 j (by decide) hj, h.2.2.2.2.1 1 j (by decide) hj, h.2.2.2.2.1 2 q (by decide) (by omega), h.2.2.2.2.1 1 q (by decide) (by omega)]
theorem zrel_restrict {N' : Nat → Nat → Int32} {M' : Nat → Nat → Int32} {i kd r v v' : Int32} (h : zDt N M) (h1 : zf_res n N i kd r = (v, N')) (h2 : zm_res n M i kd r = (v', M')) : v = v' ∧ zDt N' M' ∧ ∀ k, k ≠ 11 → M' k = M k := by
  unfold zf_res at h1
  unfold zm_res at h2
  cases e1 : zi n i with
  | none => rw [e1] at h1 h2; cases h1; cases h2; exact ⟨rfl, h, fun _ _ => rfl⟩
  | some j =>
    rw [e1] at h1 h2
    simp only at h1 h2
    cases e2 : zi 4 kd with
    | none => rw [e2] at h1 h2; cases h1; cases h2; exact ⟨rfl, h, fun _ _ => rfl⟩
    | some q =>
      rw [e2] at h1 h2
      simp only at h1 h2
      unfold zm_in at h2
      rw [nI_0] at h2
      by_cases e3 : r < 0
      · rw [if_pos e3] at h1 h2; simp at h1 h2; obtain ⟨rfl, rfl⟩ := h1; obtain ⟨rfl, rfl⟩ := h2; exact ⟨rfl, h, fun _ _ => rfl⟩
      · rw [if_neg e3] at h1 h2
        by_cases e4 : nI 99 < r
        · rw [if_pos e4] at h1 h2; simp at h1 h2; obtain ⟨rfl, rfl⟩ := h1; obtain ⟨rfl, rfl⟩ := h2; exact ⟨rfl, h, fun _ _ => rfl⟩
        · rw [if_neg e4] at h1 h2; simp at h1 h2; obtain ⟨rfl, rfl⟩ := h1; obtain ⟨rfl, rfl⟩ := h2
          refine ⟨by decide, ⟨fun k hk => ?_, fun i hi => ?_⟩, fun k hk => va_up_ne _ _ hk⟩
          · match k, hk with
            | 0, _ => show va_up N 0 _ 0 = va_up M 11 _ 11; rw [va_up_self, va_up_self, h.1 0 (by decide), Nat.mul_comm]; rfl
            | 1, _ => exact h.1 1 (by decide)
            | 2, _ => exact h.1 2 (by decide)
            | 3, _ => exact h.1 3 (by decide)
            | 4, _ => exact h.1 4 (by decide)
            | 5, _ => exact h.1 5 (by decide)
          · exact h.2 i hi
end ZR
