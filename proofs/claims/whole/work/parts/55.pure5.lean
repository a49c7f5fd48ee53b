/-! PURE: the extents, summed up and weighed -/
section ZS
variable {fu ut fm : Nat → Int32} {pa : Nat → Option Nat} {dp : Nat → Nat} {n : Nat} {x : Int32}
theorem zck_fuel (hfo : zfor fu pa dp (fun j => j < n)) {tp : Nat} : ∀ (k k' : Nat) (o : Option Nat), (∀ p, o = some p → p < n ∧ dp p < k ∧ dp p < k') → zck pa ut x tp k o = zck pa ut x tp k' o := by
  intro k
  induction k with
  | zero =>
    intro k' o h
    cases o with
    | none => cases k' with | zero => rfl | succ k' => rfl
    | some p => exact absurd (h p rfl).2.1 (Nat.not_lt_zero _)
  | succ k ih =>
    intro k' o h
    cases o with
    | none => cases k' with | zero => rfl | succ k' => rfl
    | some p =>
      obtain ⟨h1, h2, h3⟩ := h p rfl
      cases k' with
      | zero => exact absurd h3 (Nat.not_lt_zero _)
      | succ k' =>
        unfold zck
        rw [ih k' (pa p) (fun q hq => by obtain ⟨b1, b2⟩ := (hfo p h1).2.2.2.1 q hq; exact ⟨b1, by omega, by omega⟩)]
theorem zck_step (hfo : zfor fu pa dp (fun j => j < n)) {tp q : Nat} (hq : q < n) : zck pa ut x tp 9 (some q) = if q = tp then true else if ut q = x then false else zck pa ut x tp 9 (pa q) := by
  conv => lhs; unfold zck
  rw [zck_fuel hfo 8 9 (pa q) (fun p hp => by obtain ⟨a1, a2, a3, a4, a5⟩ := hfo q hq; obtain ⟨b1, b2⟩ := a4 p hp; exact ⟨b1, by omega, by omega⟩)]
theorem zck_wi (hn : n ≤ 100) (hfo : zfor fu pa dp (fun j => j < n)) {c : Nat} (hc : c < n) : ∀ q, q < n → zck pa ut x c 9 (some q) = true → zwi fu n c q = true := by
  refine zfor_ind hfo (fun q hq ih h => ?_)
  rw [zck_step hfo hq] at h
  by_cases e : q = c
  · subst e; exact zwi_self hn hfo hc
  · rw [if_neg e] at h
    by_cases e2 : ut q = x
    · rw [if_pos e2] at h; cases h
    · rw [if_neg e2] at h
      cases hp : pa q with
      | none => rw [hp] at h; cases h
      | some p => rw [hp] at h; rw [zwi_up hn hfo hq hc e hp]; exact ih p hp h
theorem zck_kid (hfo : zfor fu pa dp (fun j => j < n)) {i : Nat} (hi : i < n) : ∀ q, q < n → q ≠ i → ((¬ ut q = x ∧ zck pa ut x i 9 (pa q) = true) ↔ ∃ c, c < n ∧ pa c = some i ∧ ¬ ut c = x ∧ zck pa ut x c 9 (some q) = true) := by
  refine zfor_ind hfo (fun q hq ih hqi => ?_)
  cases hp : pa q with
  | none =>
    constructor
    · intro h; cases h.2
    · rintro ⟨c, h1, h2, h3, h4⟩
      rw [zck_step hfo hq] at h4
      by_cases e : q = c
      · subst e; rw [hp] at h2; cases h2
      · rw [if_neg e, hp] at h4
        split at h4
        · cases h4
        · cases h4
  | some p =>
    obtain ⟨b1, b2⟩ := (hfo q hq).2.2.2.1 p hp
    by_cases epi : p = i
    · subst epi
      constructor
      · intro h; exact ⟨q, hq, hp, h.1, by rw [zck_step hfo hq, if_pos rfl]⟩
      · rintro ⟨c, h1, h2, h3, h4⟩
        rw [zck_step hfo hi, if_pos rfl]
        refine ⟨fun h => ?_, rfl⟩
        rw [zck_step hfo hq] at h4
        by_cases e : q = c
        · subst e; exact h3 h
        · rw [if_neg e, if_pos h] at h4; cases h4
    · rw [zck_step hfo b1, if_neg epi]
      constructor
      · rintro ⟨h1, h2⟩
        by_cases e2 : ut p = x
        · rw [if_pos e2] at h2; cases h2
        · rw [if_neg e2] at h2
          obtain ⟨c, c1, c2, c3, c4⟩ := (ih p hp epi).mp ⟨e2, h2⟩
          have e : q ≠ c := fun h => by rw [h, c2] at hp; cases hp; exact epi rfl
          exact ⟨c, c1, c2, c3, by rw [zck_step hfo hq, if_neg e, if_neg h1, hp]; exact c4⟩
      · rintro ⟨c, c1, c2, c3, c4⟩
        have e : q ≠ c := fun h => by rw [h, c2] at hp; cases hp; exact epi rfl
        rw [zck_step hfo hq, if_neg e] at c4
        by_cases e1 : ut q = x
        · rw [if_pos e1] at c4; cases c4
        · rw [if_neg e1, hp] at c4
          obtain ⟨d1, d2⟩ := (ih p hp epi).mpr ⟨c, c1, c2, c3, c4⟩
          exact ⟨e1, by rw [if_neg d1]; exact d2⟩
/-- counted under i: counted in one child's part -/
theorem zcnt_kid (hfo : zfor fu pa dp (fun j => j < n)) {i k : Nat} (hi : i < n) (hk : k < n) : zm_cnt pa ut x i false k = true ↔ ∃ c, c < n ∧ pa c = some i ∧ zm_cnt pa ut x c true k = true := by
  unfold zm_cnt
  by_cases e0 : ut k = x
  · rw [if_pos e0]
    simp only [if_pos e0, Bool.not_false, Bool.true_or, Bool.and_true, Bool.not_true, Bool.false_or]
    by_cases eki : k = i
    · subst eki
      rw [if_pos rfl]
      constructor
      · intro h; cases h
      · rintro ⟨c, c1, c2, c3⟩
        have hdc := ((hfo c c1).2.2.2.1 k c2).2
        have e : k ≠ c := fun h => by rw [h] at hdc; omega
        rw [if_neg e, Bool.and_eq_true] at c3
        cases hp : pa k with
        | none => rw [hp] at c3; cases c3.1
        | some p =>
          rw [hp] at c3
          exfalso
          obtain ⟨b1, b2⟩ := (hfo k hk).2.2.2.1 p hp
          -- c lies above k's parent, but is deeper
          have key : ∀ q, q < n → zck pa ut x c 9 (some q) = true → dp c ≤ dp q := by
            refine zfor_ind hfo (fun q hq ih h => ?_)
            rw [zck_step hfo hq] at h
            by_cases e3 : q = c
            · rw [e3]; exact Nat.le_refl _
            · rw [if_neg e3] at h
              split at h
              · cases h
              · cases hpq : pa q with
                | none => rw [hpq] at h; cases h
                | some p2 => rw [hpq] at h; have := ih p2 hpq h; have := ((hfo q hq).2.2.2.1 p2 hpq).2; omega
          have := key p b1 c3.1
          omega
    · rw [if_neg eki]
      cases hp : pa k with
      | none =>
        constructor
        · intro h; cases h
        · rintro ⟨c, c1, c2, c3⟩
          by_cases e : k = c
          · subst e; rw [hp] at c2; cases c2
          · rw [if_neg e, Bool.and_eq_true] at c3; cases c3.1
      | some p =>
        obtain ⟨b1, b2⟩ := (hfo k hk).2.2.2.1 p hp
        by_cases epi : p = i
        · subst epi
          constructor
          · intro _; exact ⟨k, hk, hp, by rw [if_pos rfl]⟩
          · intro _; rw [zck_step hfo b1, if_pos rfl]
        · rw [zck_step hfo b1, if_neg epi]
          have hk2 := zck_kid (ut := ut) (x := x) hfo hi p b1 epi
          constructor
          · intro h
            by_cases e2 : ut p = x
            · rw [if_pos e2] at h; cases h
            · rw [if_neg e2] at h
              obtain ⟨c, c1, c2, c3, c4⟩ := hk2.mp ⟨e2, h⟩
              have e : k ≠ c := fun h => by rw [h, c2] at hp; cases hp; exact epi rfl
              exact ⟨c, c1, c2, by rw [if_neg e, Bool.and_eq_true]; exact ⟨c4, by simp [c3]⟩⟩
          · rintro ⟨c, c1, c2, c3⟩
            have e : k ≠ c := fun h => by rw [h, c2] at hp; cases hp; exact epi rfl
            rw [if_neg e, Bool.and_eq_true] at c3
            obtain ⟨d1, d2⟩ := hk2.mpr ⟨c, c1, c2, by simpa using c3.2, c3.1⟩
            rw [if_neg d1]; exact d2
  · simp only [if_neg e0]
    constructor
    · intro h; cases h
    · rintro ⟨c, c1, c2, c3⟩; exact c3
theorem zcnt_wi (hn : n ≤ 100) (hfo : zfor fu pa dp (fun j => j < n)) {c k : Nat} (hc : c < n) (hk : k < n) (h : zm_cnt pa ut x c true k = true) : zwi fu n c k = true := by
  unfold zm_cnt at h
  split at h
  · split at h
    · rename_i e; subst e; exact zwi_self hn hfo hc
    · rename_i e
      rw [Bool.and_eq_true] at h
      cases hp : pa k with
      | none => rw [hp] at h; cases h.1
      | some p =>
        rw [hp] at h
        rw [zwi_up hn hfo hk hc e hp]
        exact zck_wi hn hfo hc p ((hfo k hk).2.2.2.1 p hp).1 h.1
  · cases h
def zsT (n : Nat) (fm : Nat → Int32) (pa : Nat → Option Nat) (ut : Nat → Int32) (x : Int32) (tp : Nat) (self : Bool) : Int32 := zsm (fun k => if zm_cnt pa ut x tp self k = true then fm k else 0) n
theorem zsT_kids (hn : n ≤ 100) (hfo : zfor fu pa dp (fun j => j < n)) {i : Nat} (hi : i < n) : zsT n fm pa ut x i false = zsm (fun c => if pa c = some i then zsT n fm pa ut x c true else 0) n := by
  have h1 : zsm (fun c => if pa c = some i then zsT n fm pa ut x c true else 0) n = zsm (fun c => zsm (fun k => if pa c = some i ∧ zm_cnt pa ut x c true k = true then fm k else 0) n) n := by
    refine zsm_congr n (fun c hc => ?_)
    by_cases h : pa c = some i
    · rw [if_pos h]
      exact zsm_congr n (fun k _ => by simp [h])
    · rw [if_neg h]
      rw [zsm_congr n (h := fun _ => 0) (fun k _ => by simp [h]), zsm_zero]
  rw [h1, zsm_swap]
  refine zsm_congr n (fun k hk => ?_)
  by_cases hc : zm_cnt pa ut x i false k = true
  · rw [if_pos hc]
    obtain ⟨c, c1, c2, c3⟩ := (zcnt_kid hfo hi hk).mp hc
    rw [zsm_one (c := c) n c1 (fun d hd hne => ?_)]
    · rw [if_pos ⟨c2, c3⟩]
    · refine if_neg (fun h => hne ?_)
      have e1 := ((hfo c c1).2.2.2.1 i c2).2
      have e2 := ((hfo d hd).2.2.2.1 i h.1).2
      exact zwi_uniq hn hfo hd c1 (by omega) k hk (zcnt_wi hn hfo hd hk h.2) (zcnt_wi hn hfo c1 hk c3)
  · rw [if_neg hc, zsm_congr n (h := fun _ => 0) (fun d hd => if_neg (fun h => hc ((zcnt_kid hfo hi hk).mpr ⟨d, hd, h.1, h.2⟩))), zsm_zero]
theorem zsT_own {i : Nat} (hi : i < n) (h : ut i = x) : zsT n fm pa ut x i true = fm i := by
  unfold zsT
  rw [zsm_one (c := i) n hi (fun k hk hne => ?_)]
  · rw [if_pos (by unfold zm_cnt; rw [if_pos h, if_pos rfl])]
  · refine if_neg (fun h2 => ?_)
    unfold zm_cnt at h2
    by_cases e1 : ut k = x
    · rw [if_pos e1, if_neg hne] at h2
      simp [h] at h2
    · rw [if_neg e1] at h2; cases h2
theorem zsT_oth {i : Nat} (h : ¬ ut i = x) : zsT n fm pa ut x i true = zsT n fm pa ut x i false := by
  unfold zsT
  refine zsm_congr n (fun k hk => ?_)
  have : zm_cnt pa ut x i true k = zm_cnt pa ut x i false k := by
    unfold zm_cnt
    by_cases e : ut k = x
    · rw [if_pos e, if_pos e]
      by_cases e2 : k = i
      · subst e2; exact absurd e h
      · rw [if_neg e2, if_neg e2]; simp [h]
    · rw [if_neg e, if_neg e]
  rw [this]
theorem zm_sum_eq {M : Nat → Nat → Int32} {tp : Nat} {self : Bool} : zm_sum n M pa tp x self = zsT n (M 7) pa (M 8) x tp self := by
  unfold zm_sum zsT
  have h : zm_sf M pa x tp self = fun s k => s + (if zm_cnt pa (M 8) x tp self k = true then M 7 k else 0) := by
    funext s k
    unfold zm_sf
    split
    · rfl
    · rw [nI_0]
  rw [h, zfold_zsm, nI_0, Int32.zero_add]
  exact zsm_congr n (fun k _ => by rw [Nat.zero_add])
end ZS
