/-! PURE: the reference's lines keep the forest -/
theorem zm_eat_M {c : Nat → Int32} {x : Int32} {ps : Nat} {M : Nat → Nat → Int32} {ok : Bool} {ps' : Nat} {M' : Nat → Nat → Int32} (h : zm_eat c x ps M = (ok, ps', M')) : M' = M := by
  unfold zm_eat at h
  split at h <;> (cases h; rfl)
theorem zm_num_M {c : Nat → Int32} {r i ps : Nat} {M : Nat → Nat → Int32} {ok : Bool} {ps' : Nat} {M' : Nat → Nat → Int32} (h : zm_num c r i ps M = (ok, ps', M')) : ∀ k, k ≠ r → M' k = M k := by
  intro k hk
  unfold zm_num zm_num1 at h
  split at h
  · split at h
    · cases h; rfl
    · split at h
      · cases h; exact va_up_ne _ _ hk
      · cases h; rfl
  · cases h; rfl
theorem zm_title_M {c : Nat → Int32} {i ps : Nat} {M : Nat → Nat → Int32} {ok : Bool} {ps' : Nat} {M' : Nat → Nat → Int32} (h : zm_title c i ps M = (ok, ps', M')) : ∀ k, k ≠ 9 → k ≠ 10 → M' k = M k := by
  intro k hk hk2
  unfold zm_title at h
  split at h
  · cases h; exact va_up_ne _ _ hk2
  · cases h; rw [va_up_ne _ _ hk, va_up_ne _ _ hk2]
theorem zm_yr1_M {q : Bool × Nat × Int32} {r i ps : Nat} {least : Int32} {M : Nat → Nat → Int32} {ok : Bool} {ps' : Nat} {M' : Nat → Nat → Int32} (h : zm_yr1 q r i ps least M = (ok, ps', M')) : ∀ k, k ≠ r → M' k = M k := by
  intro k hk
  unfold zm_yr1 at h
  split at h
  · split at h
    · cases h; exact va_up_ne _ _ hk
    · cases h; exact va_up_ne _ _ hk
  · cases h; rfl
theorem zm_dq_M {c : Nat → Int32} {i ps : Nat} {M : Nat → Nat → Int32} {ok : Bool} {ps' : Nat} {M' : Nat → Nat → Int32} (h : zm_dq c i ps M = (ok, ps', M')) : ∀ k, k ≠ 6 → M' k = M k := by
  intro k hk
  unfold zm_dq at h
  split at h
  · rename_i h1; cases h; rw [va_up_ne _ _ hk, zm_eat_M h1]
  · rename_i h1; cases h; rw [va_up_ne _ _ hk, zm_eat_M h1]
theorem zm_dated_M {c : Nat → Int32} {i ps : Nat} {M : Nat → Nat → Int32} {ok : Bool} {ps' : Nat} {M' : Nat → Nat → Int32} (h : zm_dated c i ps M = (ok, ps', M')) : ∀ k, k ≠ 4 → k ≠ 5 → k ≠ 6 → M' k = M k := by
  intro k h4 h5 h6
  unfold zm_dated at h
  split at h
  · rename_i h1; cases h; exact zm_yr1_M h1 k h4
  · rename_i h1
    split at h
    · rename_i h2; rw [zm_dq_M h k h6, zm_eat_M h2, va_up_ne _ _ h5, zm_yr1_M h1 k h4]
    · rename_i h2
      split at h
      · rename_i h3; cases h; rw [zm_yr1_M h3 k h5, zm_eat_M h2, va_up_ne _ _ h5, zm_yr1_M h1 k h4]
      · rename_i h3; rw [zm_dq_M h k h6, zm_yr1_M h3 k h5, zm_eat_M h2, va_up_ne _ _ h5, zm_yr1_M h1 k h4]
theorem zm_ext_M {c : Nat → Int32} {i ps : Nat} {M : Nat → Nat → Int32} {ok : Bool} {ps' : Nat} {M' : Nat → Nat → Int32} (h : zm_ext c i ps M = (ok, ps', M')) : ∀ k, k ≠ 7 → k ≠ 8 → M' k = M k := by
  intro k h7 h8
  unfold zm_ext at h
  split at h
  · rename_i h1; cases h; exact zm_num_M h1 k h7
  · rename_i h1
    split at h
    · cases h; rw [va_up_ne _ _ h8, zm_num_M h1 k h7]
    · split at h
      · cases h; rw [va_up_ne _ _ h8, zm_num_M h1 k h7]
      · split at h
        · cases h; rw [va_up_ne _ _ h8, zm_num_M h1 k h7]
        · cases h; rw [va_up_ne _ _ h8, zm_num_M h1 k h7]
theorem zm_le_M {c : Nat → Int32} {i ps : Nat} {M : Nat → Nat → Int32} {ok : Bool} {ps' : Nat} {M' : Nat → Nat → Int32} (h : zm_le c i ps M = (ok, ps', M')) : ∀ k, k ≠ 7 → k ≠ 8 → M' k = M k := by
  intro k h7 h8
  unfold zm_le zm_end at h
  split at h
  · rename_i h1; cases h; rw [zm_eat_M h1]
  · rename_i h1
    split at h
    · rename_i h2; cases h; rw [zm_ext_M h2 k h7 h8, zm_eat_M h1]
    · rename_i h2; rw [zm_eat_M h, zm_ext_M h2 k h7 h8, zm_eat_M h1]
theorem zm_lm2_M {c : Nat → Int32} {i ps : Nat} {M : Nat → Nat → Int32} {ok : Bool} {ps' : Nat} {M' : Nat → Nat → Int32} (h : zm_lm2 c i ps M = (ok, ps', M')) : ∀ k, (k < 4 ∨ 8 < k) → M' k = M k := by
  intro k hk
  unfold zm_lm2 zm_end at h
  split at h
  · rename_i h1; rw [zm_eat_M h, zm_eat_M h1]
  · rename_i h1
    split at h
    · split at h
      · rename_i h2; cases h; rw [zm_dated_M h2 k (by omega) (by omega) (by omega), zm_eat_M h1]
      · rename_i h2
        split at h
        · rename_i h3; rw [zm_eat_M h, zm_eat_M h3, zm_dated_M h2 k (by omega) (by omega) (by omega), zm_eat_M h1]
        · rename_i h3; rw [zm_le_M h k (by omega) (by omega), zm_eat_M h3, zm_dated_M h2 k (by omega) (by omega) (by omega), zm_eat_M h1]
    · rw [zm_le_M h k (by omega) (by omega), zm_eat_M h1]
def zm_n (c : Nat → Int32) (i : Nat) (dp : Nat → Nat) (ps : Nat) : Nat := (zm_pl c (zm_lm i dp) (zm_lm i dp + 1) 0 ps).2.1
def zm_o (c : Nat → Int32) (i : Nat) (pa : Nat → Option Nat) (dp : Nat → Nat) (ps : Nat) : Option Nat := if i = 100 then none else some (zclimb pa dp (zm_n c i dp ps) 9 (i - 1))
theorem zm_pl_n {c : Nat → Int32} {lm : Nat} : ∀ (kk n ps : Nat) {r : Nat × Nat}, n + kk = lm + 1 → n ≤ lm → zm_pl c lm kk n ps = (true, r) → r.1 ≤ lm := by
  intro kk
  induction kk with
  | zero => intro n ps r hk hn h; unfold zm_pl at h; cases h
  | succ kk ih =>
    intro n ps r hk hn h
    unfold zm_pl at h
    split at h
    · split at h
      · cases h
      · exact ih (n + 1) (ps + 1) (by omega) (by omega) h
    · cases h; exact hn
theorem zm_pf_M {c : Nat → Int32} {i ps : Nat} {o : Option Nat} {M : Nat → Nat → Int32} {ps' : Nat} {M' : Nat → Nat → Int32} (h : zm_pf c i ps o M = (true, ps', M')) : M' 3 = upd (M 3) i (zo o) ∧ ∀ k, k ≠ 1 → k ≠ 3 → M' k = M k := by
  unfold zm_pf at h
  split at h
  · cases h
  · split at h
    · cases h; exact ⟨rfl, fun k h1 h3 => by rw [va_up_ne _ _ h3, va_up_ne _ _ h1]⟩
    · split at h
      · cases h
      · split at h
        · cases h
        · cases h; exact ⟨rfl, fun k h1 h3 => by rw [va_up_ne _ _ h3, va_up_ne _ _ h1]⟩
theorem zclimb_ok {un : Nat → Int32} {pa : Nat → Option Nat} {dp : Nat → Nat} {D : Nat → Prop} (hfo : zfor un pa dp D) {n : Nat} (hn : 0 < n) : ∀ (k q : Nat), D q → dp q < k → n ≤ dp q + 1 → D (zclimb pa dp n k q) ∧ dp (zclimb pa dp n k q) + 1 = n := by
  intro k
  induction k with
  | zero => intro q _ h; exact absurd h (Nat.not_lt_zero _)
  | succ k ih =>
    intro q hD hk hn2
    obtain ⟨_, _, _, hp, h0⟩ := hfo q hD
    unfold zclimb
    split
    · exact ⟨hD, by omega⟩
    · split
      · rename_i h1; have := h0 h1; omega
      · rename_i p h1; obtain ⟨h2, h3⟩ := hp p h1; exact ih p h2 (by omega) (by omega)
theorem zm_place_for {c : Nat → Int32} {i : Nat} {pa : Nat → Option Nat} {dp : Nat → Nat} {ps : Nat} {M : Nat → Nat → Int32} {ps' : Nat} {M' : Nat → Nat → Int32} (hfo : zfor (M 3) pa dp (fun j => 100 ≤ j ∧ j < i)) (hi1 : 100 ≤ i) (hi : i < 200) (h : zm_place c i pa dp ps M = (true, ps', M')) :
    M' 3 = upd (M 3) i (zo (zm_o c i pa dp ps)) ∧ (∀ k, k ≠ 1 → k ≠ 3 → M' k = M k) ∧ zm_n c i dp ps ≤ 8 ∧ (∀ p, zm_o c i pa dp ps = some p → (100 ≤ p ∧ p < i) ∧ dp p + 1 = zm_n c i dp ps) ∧ (zm_o c i pa dp ps = none → zm_n c i dp ps = 0) := by
  unfold zm_place at h
  have hlm : zm_lm i dp ≤ 8 := by unfold zm_lm; split <;> omega
  unfold zm_o zm_n
  split at h
  · cases h
  · rename_i n ps1 h1
    have hn := zm_pl_n (zm_lm i dp + 1) 0 ps (by omega) (by omega) h1
    rw [h1]
    simp only at hn ⊢
    by_cases h100 : i = 100
    · rw [if_pos h100] at h ⊢
      obtain ⟨h2, h3⟩ := zm_pf_M h
      refine ⟨h2, h3, by omega, (fun p hp => by cases hp), fun _ => ?_⟩
      have : zm_lm i dp = 0 := by unfold zm_lm; rw [if_pos h100]
      omega
    · rw [if_neg h100] at h ⊢
      by_cases hn0 : n = 0
      · rw [if_pos hn0] at h; cases h
      · rw [if_neg hn0] at h
        obtain ⟨h2, h3⟩ := zm_pf_M h
        have hl2 : zm_lm i dp ≤ dp (i - 1) + 1 := by unfold zm_lm; rw [if_neg h100]; omega
        have h8 := (hfo (i - 1) (by omega)).2.1
        obtain ⟨h4, h5⟩ := zclimb_ok hfo (n := n) (by omega) 9 (i - 1) (by omega) (by omega) (by omega)
        exact ⟨h2, h3, by omega, (fun p hp => by cases hp; exact ⟨h4, h5⟩), fun hp => by cases hp⟩
theorem zm_line_M {c : Nat → Int32} {i : Nat} {pa : Nat → Option Nat} {dp : Nat → Nat} {ps : Nat} {M : Nat → Nat → Int32} {ps' : Nat} {M' : Nat → Nat → Int32} (hfo : zfor (M 3) pa dp (fun j => 100 ≤ j ∧ j < i)) (hi1 : 100 ≤ i) (h : zm_line c i pa dp ps M = (true, ps', M')) (hi : i ≤ 200) :
    i < 200 ∧ M' 3 = upd (M 3) i (zo (zm_o c i pa dp ps)) ∧ (∀ k, 10 < k → M' k = M k) ∧ zm_n c i dp ps ≤ 8 ∧ (∀ p, zm_o c i pa dp ps = some p → (100 ≤ p ∧ p < i) ∧ dp p + 1 = zm_n c i dp ps) ∧ (zm_o c i pa dp ps = none → zm_n c i dp ps = 0) := by
  unfold zm_line at h
  split at h
  · cases h
  · have hi2 : i < 200 := by omega
    refine ⟨hi2, ?_⟩
    unfold zm_line1 at h
    split at h
    · cases h
    · rename_i h1
      split at h
      · cases h
      · rename_i h2
        split at h
        · cases h
        · rename_i h3
          split at h
          · cases h
          · rename_i h4
            have hfo0 : zfor (zm_M0 i M 3) pa dp (fun j => 100 ≤ j ∧ j < i) := hfo
            obtain ⟨g1, g2, g3⟩ := zm_place_for hfo0 hi1 hi2 h1
            refine ⟨?_, ?_, g3⟩
            · rw [zm_lm2_M h 3 (by omega), zm_title_M h4 3 (by omega) (by omega), zm_eat_M h3, zm_num_M h2 3 (by omega), g1]; rfl
            · intro k hk
              rw [zm_lm2_M h k (by omega), zm_title_M h4 k (by omega) (by omega), zm_eat_M h3, zm_num_M h2 k (by omega), g2 k (by omega) (by omega)]
              unfold zm_M0
              rw [va_up_ne _ _ (by omega), va_up_ne _ _ (by omega), va_up_ne _ _ (by omega), va_up_ne _ _ (by omega), va_up_ne _ _ (by omega)]
theorem zm_line_for {c : Nat → Int32} {i : Nat} {pa : Nat → Option Nat} {dp : Nat → Nat} {ps : Nat} {M : Nat → Nat → Int32} {ps' : Nat} {M' : Nat → Nat → Int32} (hfo : zfor (M 3) pa dp (fun j => 100 ≤ j ∧ j < i)) (hi1 : 100 ≤ i) (hi : i ≤ 200) (h : zm_line c i pa dp ps M = (true, ps', M')) :
    zfor (M' 3) (va_up pa i (zm_o c i pa dp ps)) (va_up dp i (zm_n c i dp ps)) (fun j => 100 ≤ j ∧ j < i + 1) := by
  obtain ⟨hi2, h1, -, h3, h4, h5⟩ := zm_line_M hfo hi1 h hi
  intro j hj
  by_cases hji : j = i
  · subst hji
    rw [h1, pk_us, va_up_self, va_up_self]
    refine ⟨by omega, h3, rfl, fun p hp => ?_, h5⟩
    obtain ⟨g1, g2⟩ := h4 p hp
    exact ⟨by omega, by rw [va_up_ne _ _ (by omega)]; exact g2⟩
  · rw [h1, pk_un hji, va_up_ne _ _ hji, va_up_ne _ _ hji]
    obtain ⟨a1, a2, a3, a4, a5⟩ := hfo j (by omega)
    refine ⟨a1, a2, a3, fun p hp => ?_, a5⟩
    obtain ⟨g1, g2⟩ := a4 p hp
    exact ⟨by omega, by rw [va_up_ne _ _ (by omega)]; exact g2⟩
