/-! PURE: the class's sums are the tree sums -/
theorem zi_zo {n : Nat} {o : Option Nat} (hn : n ≤ 100) (h : ∀ p, o = some p → p < n) : zi n (zo o) = o := by
  cases o with
  | none => exact zi_neg
  | some p => exact zi_nI (h p rfl) (by omega)
section ZD
variable {n : Nat} {R : Nat → Nat → Int32} {pa : Nat → Option Nat} {dp : Nat → Nat}
theorem zs_1_0 {i u v j : Nat} {s : Nat → Nat → Int32} (hi : i < 100) (hj : j < 100) : zs_1 n R i s u 0 (v * 100 + j) = if v = u ∧ j = i then zs_v R i s u else s 0 (v * 100 + j) := by
  have key : zs_1 n R i s u 0 = upd (s 0) (u * 100 + i) (zs_v R i s u) := by
    unfold zs_1
    cases zi n (R 2 i) with
    | none => show zs_s1 R i s u 0 = _; unfold zs_s1; rw [va_up_self]
    | some p => show va_up (zs_s1 R i s u) 1 _ 0 = _; rw [va_up_ne _ _ (by decide)]; unfold zs_s1; rw [va_up_self]
  rw [key]
  by_cases h : v = u ∧ j = i
  · rw [if_pos h, h.1, h.2, pk_us]
  · rw [if_neg h, pk_un (by omega)]
theorem zs_1_1 {i u v j : Nat} {s : Nat → Nat → Int32} (hn : n ≤ 100) (hj : j < 100) : zs_1 n R i s u 1 (v * 100 + j) = if v = u ∧ zi n (R 2 i) = some j then s 1 (v * 100 + j) + zs_v R i s u else s 1 (v * 100 + j) := by
  unfold zs_1
  cases hp : zi n (R 2 i) with
  | none => simp only [reduceCtorEq, and_false, if_false]; unfold zs_s1; rw [va_up_ne _ _ (by decide)]
  | some p =>
    simp only
    rw [va_up_self]
    have hp9 := (zi_some (by omega) hp).1
    by_cases h : v = u ∧ p = j
    · rw [if_pos ⟨h.1, by rw [h.2]⟩, h.1, h.2, pk_us]
    · rw [if_neg (fun h9 => h ⟨h9.1, by have := h9.2; cases this; rfl⟩), pk_un (by omega)]
theorem zs_v_1 {i u v : Nat} {s : Nat → Nat → Int32} (hn : n ≤ 100) (hi : i < 100) (h : v ≠ u) : zs_v R i (zs_1 n R i s u) v = zs_v R i s v := by
  unfold zs_v
  rw [zs_1_1 hn hi, if_neg (c := v = u ∧ _) (fun h9 => h h9.1)]
theorem zs_one_0 {i u j : Nat} {s : Nat → Nat → Int32} (hn : n ≤ 100) (hi : i < 100) (hj : j < 100) (hu : u < 3) : zs_one n R s i 0 (u * 100 + j) = if j = i then zs_v R i s u else s 0 (u * 100 + j) := by
  show zs_1 n R i (zs_1 n R i (zs_1 n R i s 0) 1) 2 0 (u * 100 + j) = _
  rw [zs_1_0 hi hj, zs_1_0 hi hj, zs_1_0 hi hj, zs_v_1 hn hi (by decide), zs_v_1 hn hi (by decide), zs_v_1 hn hi (by decide)]
  have h3 : u = 0 ∨ u = 1 ∨ u = 2 := by omega
  by_cases h : j = i
  · rcases h3 with rfl | rfl | rfl <;> simp [h]
  · rcases h3 with rfl | rfl | rfl <;> simp [h]
theorem zs_one_1 {i u j : Nat} {s : Nat → Nat → Int32} (hn : n ≤ 100) (hi : i < 100) (hj : j < 100) (hu : u < 3) : zs_one n R s i 1 (u * 100 + j) = if zi n (R 2 i) = some j then s 1 (u * 100 + j) + zs_v R i s u else s 1 (u * 100 + j) := by
  show zs_1 n R i (zs_1 n R i (zs_1 n R i s 0) 1) 2 1 (u * 100 + j) = _
  rw [zs_1_1 hn hj, zs_1_1 hn hj, zs_1_1 hn hj, zs_v_1 hn hi (by decide), zs_v_1 hn hi (by decide), zs_v_1 hn hi (by decide)]
  have h3 : u = 0 ∨ u = 1 ∨ u = 2 := by omega
  by_cases h : zi n (R 2 i) = some j
  · rcases h3 with rfl | rfl | rfl <;> simp [h]
  · rcases h3 with rfl | rfl | rfl <;> simp [h]
/-- what has been weighed -/
def zJ (n : Nat) (R : Nat → Nat → Int32) (pa : Nat → Option Nat) (D : Nat → Bool) (s : Nat → Nat → Int32) : Prop := ∀ u j, u < 3 → j < n → (D j = true → s 0 (u * 100 + j) = zsT n (R 7) pa (R 8) (nI u) j true) ∧ s 1 (u * 100 + j) = zsm (fun c => if D c = true ∧ pa c = some j then zsT n (R 7) pa (R 8) (nI u) c true else 0) n
theorem zJ_one (hn : n ≤ 100) (hfo : zfor (R 2) pa dp (fun j => j < n)) {D : Nat → Bool} {s : Nat → Nat → Int32} (h : zJ n R pa D s) {i : Nat} (hi : i < n) (h0 : D i = false) (hk : ∀ c, c < n → pa c = some i → D c = true) {D' : Nat → Bool} (hD : ∀ c, c < n → D' c = (D c || decide (c = i))) : zJ n R pa D' (zs_one n R s i) := by
  intro u j hu hj
  have hv : zs_v R i s u = zsT n (R 7) pa (R 8) (nI u) i true := by
    unfold zs_v
    by_cases e : R 8 i = nI u
    · rw [if_pos e, zsT_own hi e]
    · rw [if_neg e, zsT_oth e, zsT_kids hn hfo hi, (h u i hu hi).2]
      refine zsm_congr n (fun c hc => ?_)
      by_cases e2 : pa c = some i
      · rw [if_pos ⟨hk c hc e2, e2⟩, if_pos e2]
      · rw [if_neg (fun h9 => e2 h9.2), if_neg e2]
  have hz : zi n (R 2 i) = pa i := by
    rw [(hfo i hi).2.2.1]
    exact zi_zo hn (fun p hp => ((hfo i hi).2.2.2.1 p hp).1)
  refine ⟨fun hd => ?_, ?_⟩
  · rw [zs_one_0 hn (by omega) (by omega) hu, hv]
    by_cases e : j = i
    · rw [if_pos e, e]
    · rw [if_neg e]
      rw [hD j hj] at hd
      simp [e] at hd
      exact (h u j hu hj).1 hd
  · rw [zs_one_1 hn (by omega) (by omega) hu, hv, hz, (h u j hu hj).2]
    have h2 : zsm (fun c => if D' c = true ∧ pa c = some j then zsT n (R 7) pa (R 8) (nI u) c true else 0) n = zsm (fun c => (if D c = true ∧ pa c = some j then zsT n (R 7) pa (R 8) (nI u) c true else 0) + (if c = i ∧ pa i = some j then zsT n (R 7) pa (R 8) (nI u) i true else 0)) n := by
      refine zsm_congr n (fun c hc => ?_)
      rw [hD c hc]
      by_cases e : c = i
      · subst e
        simp [h0]
      · simp [e]
    rw [h2, zsm_add, zsm_one (f := fun c => if c = i ∧ pa i = some j then zsT n (R 7) pa (R 8) (nI u) i true else 0) (c := i) n hi (fun k _ hne => by simp [hne])]
    by_cases e : pa i = some j
    · simp [e]
    · simp [e]
theorem zJ_in (hn : n ≤ 100) (hfo : zfor (R 2) pa dp (fun j => j < n)) (h3 : ∀ j, j < n → R 3 j = nI (dp j)) {k : Nat} (hk : k < 9) : ∀ (m x : Nat) (s : Nat → Nat → Int32), x + m = n → zJ n R pa (fun c => decide (k + 1 ≤ dp c) || (decide (dp c = k) && decide (c < x))) s → zJ n R pa (fun c => decide (k ≤ dp c)) (zfold (fun s i => if R 3 i = nI k then zs_one n R s i else s) s x m) := by
  intro m
  induction m with
  | zero =>
    intro x s hx h u j hu hj
    obtain ⟨a1, a2⟩ := h u j hu hj
    have hD : ∀ c, c < n → (decide (k + 1 ≤ dp c) || (decide (dp c = k) && decide (c < x))) = decide (k ≤ dp c) := by
      intro c hc
      rw [Bool.eq_iff_iff]; simp; omega
    refine ⟨fun hd => a1 ((hD j hj).trans hd), a2.trans (zsm_congr n (fun c hc => ?_))⟩
    simp only [hD c hc]
  | succ m ih =>
    intro x s hx h
    show zJ n R pa _ (zfold _ (if R 3 x = nI k then zs_one n R s x else s) (x + 1) m)
    have hd8 := (hfo x (by omega)).2.1
    by_cases e : dp x = k
    · rw [if_pos (by rw [h3 x (by omega), e])]
      refine ih (x + 1) _ (by omega) (zJ_one hn hfo h (i := x) (by omega) (by simp [e]) (fun c hc hp => ?_) (fun c hc => ?_))
      · have := ((hfo c hc).2.2.2.1 x hp).2
        simp; omega
      · rw [Bool.eq_iff_iff]; simp
        by_cases e3 : c = x
        · subst e3; omega
        · omega
    · rw [if_neg (by rw [h3 x (by omega), nI_eq (by omega) (by omega)]; exact e)]
      refine ih (x + 1) _ (by omega) (fun u j hu hj => ?_)
      obtain ⟨a1, a2⟩ := h u j hu hj
      have hD : ∀ c, c < n → (decide (k + 1 ≤ dp c) || (decide (dp c = k) && decide (c < x))) = (decide (k + 1 ≤ dp c) || (decide (dp c = k) && decide (c < x + 1))) := by
        intro c hc
        rw [Bool.eq_iff_iff]; simp
        by_cases e3 : c = x
        · subst e3; omega
        · omega
      refine ⟨fun hd => a1 (by simp only [hD j hj]; exact hd), a2.trans (zsm_congr n (fun c hc => ?_))⟩
      simp only [hD c hc]
theorem zJ_out (hn : n ≤ 100) (hfo : zfor (R 2) pa dp (fun j => j < n)) (h3 : ∀ j, j < n → R 3 j = nI (dp j)) : ∀ (k : Nat) (s : Nat → Nat → Int32), k ≤ 9 → zJ n R pa (fun c => decide (k ≤ dp c)) s → zJ n R pa (fun _ => true) (zs_out n R k s) := by
  intro k
  induction k with
  | zero => intro s _ h; show zJ n R pa _ s; simpa using h
  | succ k ih =>
    intro s hk h
    refine ih _ (by omega) (zJ_in hn hfo h3 (by omega) n 0 s (by omega) ?_)
    simpa using h
theorem zs_w_J (hn : n ≤ 100) (hfo : zfor (R 2) pa dp (fun j => j < n)) (h3 : ∀ j, j < n → R 3 j = nI (dp j)) (S : Nat → Nat → Int32) : zJ n R pa (fun _ => true) (zs_w n R S) := by
  refine zJ_out hn hfo h3 9 _ (by omega) (fun u j hu hj => ⟨fun hd => ?_, ?_⟩)
  · have := (hfo j hj).2.1
    simp at hd; omega
  · rw [va_up_self, zsm_congr n (h := fun _ => 0), zsm_zero]
    · unfold zfil; rw [if_pos (by omega), nI_0]
    · intro c hc
      have := (hfo c hc).2.1
      exact if_neg (fun h9 => by have := h9.1; simp at this; omega)
theorem zs_w_0 (hn : n ≤ 100) (hfo : zfor (R 2) pa dp (fun j => j < n)) (h3 : ∀ j, j < n → R 3 j = nI (dp j)) {S : Nat → Nat → Int32} {u j : Nat} (hu : u < 3) (hj : j < n) : zs_w n R S 0 (u * 100 + j) = zsT n (R 7) pa (R 8) (nI u) j true := (zs_w_J hn hfo h3 S u j hu hj).1 rfl
theorem zs_w_1 (hn : n ≤ 100) (hfo : zfor (R 2) pa dp (fun j => j < n)) (h3 : ∀ j, j < n → R 3 j = nI (dp j)) {S : Nat → Nat → Int32} {u j : Nat} (hu : u < 3) (hj : j < n) : zs_w n R S 1 (u * 100 + j) = zsT n (R 7) pa (R 8) (nI u) j false := by
  rw [(zs_w_J hn hfo h3 S u j hu hj).2, zsT_kids hn hfo hj]
  exact zsm_congr n (fun c hc => by simp)
end ZD
