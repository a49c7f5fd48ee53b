/-! PURE: chains in the forest -/
section ZF
variable {un : Nat → Int32} {pa : Nat → Option Nat} {dp : Nat → Nat} {n : Nat}
theorem zwi_fuel (hn : n ≤ 100) (hfo : zfor un pa dp (fun j => j < n)) {top : Int32} : ∀ (k k' x : Nat), x < n → dp x < k → dp x < k' → zl_wi n un top k (nI x) = zl_wi n un top k' (nI x) := by
  intro k
  induction k with
  | zero => intro k' x _ h; exact absurd h (Nat.not_lt_zero _)
  | succ k ih =>
    intro k' x hx h1 h2
    cases k' with
    | zero => exact absurd h2 (Nat.not_lt_zero _)
    | succ k' =>
      obtain ⟨a1, a2, a3, a4, a5⟩ := hfo x hx
      unfold zl_wi
      rw [zi_nI hx (by omega)]
      simp only
      by_cases ht : nI x = top
      · rw [if_pos ht, if_pos ht]
      · rw [if_neg ht, if_neg ht, a3]
        cases hp : pa x with
        | none =>
          show zl_wi n un top k (-1) = zl_wi n un top k' (-1)
          have hz : ∀ f, zl_wi n un top f (-1) = false := fun f => by cases f with | zero => rfl | succ f => unfold zl_wi; rw [zi_neg]
          rw [hz, hz]
        | some p =>
          obtain ⟨b1, b2⟩ := a4 p hp
          exact ih k' p b1 (by omega) (by omega)
theorem zwi_step (hn : n ≤ 100) (hfo : zfor un pa dp (fun j => j < n)) {i x : Nat} (hx : x < n) (hi : i < n) : zl_wi n un (nI i) 9 (nI x) = if x = i then true else match pa x with
    | none => false
    | some p => zl_wi n un (nI i) 9 (nI p) := by
  obtain ⟨a1, a2, a3, a4, a5⟩ := hfo x hx
  conv => lhs; unfold zl_wi
  rw [zi_nI hx (by omega)]
  simp only
  by_cases h : x = i
  · rw [if_pos h, if_pos (by rw [h])]
  · rw [if_neg h, if_neg (fun h9 => h ((nI_eq (by omega) (by omega)).mp h9)), a3]
    cases hp : pa x with
    | none => show zl_wi n un (nI i) 8 (-1) = false; unfold zl_wi; rw [zi_neg]
    | some p =>
      obtain ⟨b1, b2⟩ := a4 p hp
      exact zwi_fuel hn hfo 8 9 p b1 (by omega) (by omega)
/-- x lies in i's part of the tree -/
def zwi (un : Nat → Int32) (n i x : Nat) : Bool := zl_wi n un (nI i) 9 (nI x)
theorem zwi_self (hn : n ≤ 100) (hfo : zfor un pa dp (fun j => j < n)) {i : Nat} (hi : i < n) : zwi un n i i = true := by
  unfold zwi; rw [zwi_step hn hfo hi hi, if_pos rfl]
theorem zwi_up (hn : n ≤ 100) (hfo : zfor un pa dp (fun j => j < n)) {i x p : Nat} (hx : x < n) (hi : i < n) (hne : x ≠ i) (hp : pa x = some p) : zwi un n i x = zwi un n i p := by
  unfold zwi; rw [zwi_step hn hfo hx hi, if_neg hne, hp]
theorem zwi_no (hn : n ≤ 100) (hfo : zfor un pa dp (fun j => j < n)) {i x : Nat} (hx : x < n) (hi : i < n) (hne : x ≠ i) (hp : pa x = none) : zwi un n i x = false := by
  unfold zwi; rw [zwi_step hn hfo hx hi, if_neg hne, hp]
/-- induction along a chain -/
theorem zfor_ind (hfo : zfor un pa dp (fun j => j < n)) {P : Nat → Prop} (h : ∀ x, x < n → (∀ p, pa x = some p → P p) → P x) : ∀ x, x < n → P x := by
  have key : ∀ d x, x < n → dp x < d → P x := by
    intro d
    induction d with
    | zero => intro x _ hd; exact absurd hd (Nat.not_lt_zero _)
    | succ d ih =>
      intro x hx hd
      refine h x hx (fun p hp => ?_)
      obtain ⟨b1, b2⟩ := (hfo x hx).2.2.2.1 p hp
      exact ih p b1 (by omega)
  intro x hx
  exact key (dp x + 1) x hx (by omega)
theorem zwi_dp (hn : n ≤ 100) (hfo : zfor un pa dp (fun j => j < n)) {i : Nat} (hi : i < n) : ∀ x, x < n → zwi un n i x = true → dp i ≤ dp x ∧ (dp i = dp x → i = x) := by
  refine zfor_ind hfo (fun x hx ih hw => ?_)
  by_cases hne : x = i
  · subst hne; exact ⟨Nat.le_refl _, fun _ => rfl⟩
  · cases hp : pa x with
    | none => rw [zwi_no hn hfo hx hi hne hp] at hw; cases hw
    | some p =>
      rw [zwi_up hn hfo hx hi hne hp] at hw
      obtain ⟨b1, b2⟩ := (hfo x hx).2.2.2.1 p hp
      obtain ⟨c1, c2⟩ := ih p hp hw
      exact ⟨by omega, fun h => by omega⟩
theorem zwi_uniq (hn : n ≤ 100) (hfo : zfor un pa dp (fun j => j < n)) {c d : Nat} (hc : c < n) (hd : d < n) (hcd : dp c = dp d) : ∀ x, x < n → zwi un n c x = true → zwi un n d x = true → c = d := by
  refine zfor_ind hfo (fun x hx ih h1 h2 => ?_)
  by_cases e1 : x = c
  · subst e1
    exact ((zwi_dp hn hfo hd x hx h2).2 hcd.symm).symm
  · by_cases e2 : x = d
    · subst e2; exact (zwi_dp hn hfo hc x hx h1).2 hcd
    · cases hp : pa x with
      | none => rw [zwi_no hn hfo hx hc e1 hp] at h1; cases h1
      | some p =>
        rw [zwi_up hn hfo hx hc e1 hp] at h1
        rw [zwi_up hn hfo hx hd e2 hp] at h2
        exact ih p hp h1 h2
/-- what lies in a child's part lies in the parent's -/
theorem zwi_child (hn : n ≤ 100) (hfo : zfor un pa dp (fun j => j < n)) {c i : Nat} (hc : c < n) (hi : i < n) (hp : pa c = some i) : ∀ x, x < n → zwi un n c x = true → zwi un n i x = true ∧ x ≠ i := by
  refine zfor_ind hfo (fun x hx ih h1 => ?_)
  have hdc := ((hfo c hc).2.2.2.1 i hp).2
  by_cases e1 : x = c
  · subst e1
    have hne : x ≠ i := fun h => by rw [h] at hdc; omega
    exact ⟨by rw [zwi_up hn hfo hx hi hne hp]; exact zwi_self hn hfo hi, hne⟩
  · cases hq : pa x with
    | none => rw [zwi_no hn hfo hx hc e1 hq] at h1; cases h1
    | some p =>
      have h1' := h1
      rw [zwi_up hn hfo hx hc e1 hq] at h1
      obtain ⟨g1, g2⟩ := ih p hq h1
      have hne : x ≠ i := fun h => by
        have := (zwi_dp hn hfo hc x hx h1').1
        rw [h] at this; omega
      exact ⟨by rw [zwi_up hn hfo hx hi hne hq]; exact g1, hne⟩
/-! sums -/
def zsm (f : Nat → Int32) : Nat → Int32
  | 0 => 0
  | k + 1 => zsm f k + f k
theorem zsm_congr {f h : Nat → Int32} : ∀ m, (∀ k, k < m → f k = h k) → zsm f m = zsm h m := by
  intro m
  induction m with
  | zero => intro _; rfl
  | succ m ih => intro hh; unfold zsm; rw [ih (fun k hk => hh k (by omega)), hh m (by omega)]
theorem zsm_zero : ∀ m, zsm (fun _ => 0) m = 0 := by
  intro m
  induction m with
  | zero => rfl
  | succ m ih => unfold zsm; rw [ih]; rfl
theorem zsm_add (f h : Nat → Int32) : ∀ m, zsm (fun k => f k + h k) m = zsm f m + zsm h m := by
  intro m
  induction m with
  | zero => rfl
  | succ m ih => unfold zsm; rw [ih]; ac_rfl
theorem zsm_swap (F : Nat → Nat → Int32) (m : Nat) : ∀ k, zsm (fun a => zsm (fun b => F a b) m) k = zsm (fun b => zsm (fun a => F a b) k) m := by
  intro k
  induction k with
  | zero => show (0 : Int32) = _; exact (zsm_zero m).symm
  | succ k ih =>
    show zsm (fun a => zsm (fun b => F a b) m) k + zsm (fun b => F k b) m = _
    rw [ih, ← zsm_add]
    rfl
theorem zsm_one {f : Nat → Int32} {c : Nat} : ∀ m, c < m → (∀ k, k < m → k ≠ c → f k = 0) → zsm f m = f c := by
  intro m
  induction m with
  | zero => intro h; exact absurd h (Nat.not_lt_zero _)
  | succ m ih =>
    intro hc h
    unfold zsm
    by_cases hcm : c = m
    · subst hcm
      rw [zsm_congr c (h := fun _ => 0) (fun k hk => h k (by omega) (by omega)), zsm_zero, Int32.zero_add]
    · rw [ih (by omega) (fun k hk hne => h k (by omega) hne), h m (by omega) (fun h => hcm h.symm), Int32.add_zero]
theorem zfold_zsm {f : Nat → Int32} : ∀ (k lo : Nat) (s : Int32), zfold (fun s x => s + f x) s lo k = s + zsm (fun x => f (lo + x)) k := by
  intro k
  induction k with
  | zero => intro lo s; show s = s + 0; rw [Int32.add_zero]
  | succ k ih =>
    intro lo s
    show zfold _ (s + f lo) (lo + 1) k = _
    rw [ih]
    have h2 : ∀ m, f lo + zsm (fun x => f (lo + 1 + x)) m = zsm (fun x => f (lo + x)) (m + 1) := by
      intro m
      induction m with
      | zero => show f lo + 0 = 0 + f (lo + 0); rw [Int32.add_zero, Int32.zero_add]; rfl
      | succ m ihm =>
        show f lo + (zsm (fun x => f (lo + 1 + x)) m + f (lo + 1 + m)) = zsm (fun x => f (lo + x)) (m + 1) + f (lo + (m + 1))
        rw [← ihm, show lo + 1 + m = lo + (m + 1) by omega]; ac_rfl
    rw [Int32.add_assoc, h2]
end ZF
