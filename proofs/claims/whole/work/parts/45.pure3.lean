/-! PURE: the next one under a level -/
theorem zbeh_tr {R : Nat → Nat → Int32} {x y z : Nat} (h : zl_beh R x y = true) (h2 : zl_beh R y z = true) : zl_beh R x z = true := by
  rw [zl_beh_d, decide_eq_true_eq] at *
  omega
theorem zbeh_tot {R : Nat → Nat → Int32} {x y : Nat} (h : ¬ zl_beh R x y = true) (hn : x ≠ y) : zl_beh R y x = true := by
  rw [zl_beh_d, decide_eq_true_eq] at *
  omega
theorem zbeh_as {R : Nat → Nat → Int32} {x y : Nat} (h : zl_beh R x y = true) (h2 : zl_beh R y x = true) : False := by
  rw [zl_beh_d, decide_eq_true_eq] at *
  omega
theorem zbeh_ir {R : Nat → Nat → Int32} {x : Nat} (h : zl_beh R x x = true) : False := zbeh_as h h
def zmin1 (R : Nat → Nat → Int32) (Q : Nat → Bool) (s : Option Nat) (x : Nat) : Option Nat := if Q x then (if zl_lb R x s then some x else s) else s
def zinv (R : Nat → Nat → Int32) (Q : Nat → Bool) (m : Nat) : Option Nat → Prop
  | none => ∀ x, x < m → Q x = false
  | some b => b < m ∧ Q b = true ∧ ∀ x, x < m → Q x = true → x ≠ b → zl_beh R x b = true
theorem zmin1_inv {R : Nat → Nat → Int32} {Q : Nat → Bool} {s : Option Nat} {m : Nat} (h : zinv R Q m s) : zinv R Q (m + 1) (zmin1 R Q s m) := by
  unfold zmin1
  by_cases hQ : Q m = true
  · rw [if_pos hQ]
    cases s with
    | none =>
      show zinv R Q (m + 1) (some m)
      refine ⟨by omega, hQ, fun x hx hq hne => ?_⟩
      have := h x (by omega)
      rw [this] at hq
      cases hq
    | some b =>
      obtain ⟨h1, h2, h3⟩ := h
      show zinv R Q (m + 1) (if zl_beh R b m = true then some m else some b)
      split
      · rename_i hb
        refine ⟨by omega, hQ, fun x hx hq hne => ?_⟩
        by_cases hxb : x = b
        · subst hxb; exact hb
        · exact zbeh_tr (h3 x (by omega) hq hxb) hb
      · rename_i hb
        refine ⟨by omega, h2, fun x hx hq hne => ?_⟩
        by_cases hxm : x = m
        · subst hxm; exact zbeh_tot hb (by omega)
        · exact h3 x (by omega) hq hne
  · rw [if_neg hQ]
    have hQ2 : Q m = false := by cases h9 : Q m with | true => exact absurd h9 hQ | false => rfl
    cases s with
    | none =>
      intro x hx
      by_cases hxm : x = m
      · subst hxm; exact hQ2
      · exact h x (by omega)
    | some b =>
      obtain ⟨h1, h2, h3⟩ := h
      refine ⟨by omega, h2, fun x hx hq hne => ?_⟩
      by_cases hxm : x = m
      · subst hxm; exact absurd hq hQ
      · exact h3 x (by omega) hq hne
theorem zmin_inv {R : Nat → Nat → Int32} {Q : Nat → Bool} : ∀ (k lo : Nat) (s : Option Nat), zinv R Q lo s → zinv R Q (lo + k) (zfold (zmin1 R Q) s lo k) := by
  intro k
  induction k with
  | zero => intro lo s h; exact h
  | succ k ih =>
    intro lo s h
    have := ih (lo + 1) _ (zmin1_inv h)
    rw [show lo + (k + 1) = lo + 1 + k by omega]
    exact this
theorem zmin_spec (R : Nat → Nat → Int32) (Q : Nat → Bool) (n : Nat) : zinv R Q n (zfold (zmin1 R Q) none 0 n) := by
  have := zmin_inv (R := R) (Q := Q) n 0 none (fun x hx => absurd hx (Nat.not_lt_zero x))
  rw [Nat.zero_add] at this
  exact this
theorem zinv_uniq {R : Nat → Nat → Int32} {Q : Nat → Bool} {n : Nat} {s s' : Option Nat} (h : zinv R Q n s) (h' : zinv R Q n s') : s = s' := by
  cases s with
  | none =>
    cases s' with
    | none => rfl
    | some b => obtain ⟨h1, h2, -⟩ := h'; rw [h b h1] at h2; cases h2
  | some b =>
    cases s' with
    | none => obtain ⟨h1, h2, -⟩ := h; rw [h' b h1] at h2; cases h2
    | some b' =>
      by_cases hb : b = b'
      · rw [hb]
      · exact (zbeh_as (h.2.2 b' h'.1 h'.2.1 (Ne.symm hb)) (h'.2.2 b h.1 h.2.1 hb)).elim
def zqa (R : Nat → Nat → Int32) (top : Int32) (last : Option Nat) (x : Nat) : Bool := decide (R 2 x = top) && zl_la R x last
def zqv (R : Nat → Nat → Int32) (hid : Nat → Int32) (top : Int32) (last : Option Nat) (x : Nat) : Bool := decide (hid x = 0) && zqa R top last x
theorem zl_nxt_inv (n : Nat) (R : Nat → Nat → Int32) (top : Int32) (last : Option Nat) : zinv R (zqa R top last) n (zl_nxt n R top last) := by
  have h : zl_nxt1 R top last = zmin1 R (zqa R top last) := by
    funext s x
    unfold zl_nxt1 zmin1 zqa
    by_cases h1 : R 2 x = top
    · simp [h1]
    · simp [h1]
  unfold zl_nxt
  rw [h]
  exact zmin_spec R _ n
theorem zm_nxt_inv (n : Nat) (R : Nat → Nat → Int32) (hid : Nat → Int32) (top : Int32) (last : Option Nat) : zinv R (zqv R hid top last) n (zm_nxt n R hid top last) := by
  have h : zm_nxt1 R hid top last = zmin1 R (zqv R hid top last) := by
    funext s x
    unfold zm_nxt1 zl_nxt1 zmin1 zqv zqa
    by_cases h0 : hid x = 0
    · by_cases h1 : R 2 x = top
      · simp [h0, h1]
      · simp [h0, h1]
    · simp [h0]
  unfold zm_nxt
  rw [h]
  exact zmin_spec R _ n
def zcnt (p : Nat → Bool) : Nat → Nat
  | 0 => 0
  | k + 1 => zcnt p k + (if p k then 1 else 0)
theorem zcnt_mono {p q : Nat → Bool} : ∀ n, (∀ x, x < n → p x = true → q x = true) → zcnt p n ≤ zcnt q n := by
  intro n
  induction n with
  | zero => intro _; exact Nat.le_refl _
  | succ n ih =>
    intro h
    have h1 := ih (fun x hx => h x (by omega))
    have h2 := h n (by omega)
    unfold zcnt
    by_cases hp : p n = true
    · rw [if_pos hp, if_pos (h2 hp)]; omega
    · rw [if_neg hp]; omega
theorem zcnt_lt {p q : Nat → Bool} {c : Nat} : ∀ n, (∀ x, x < n → p x = true → q x = true) → c < n → q c = true → p c = false → zcnt p n < zcnt q n := by
  intro n
  induction n with
  | zero => intro _ h; exact absurd h (Nat.not_lt_zero _)
  | succ n ih =>
    intro h hc hq hp
    unfold zcnt
    by_cases hcn : c = n
    · subst hcn
      have h1 := zcnt_mono c (fun x hx => h x (by omega))
      rw [hp, hq]
      simp
      omega
    · have h1 := ih (fun x hx => h x (by omega)) (by omega) hq hp
      have h2 := h n (by omega)
      by_cases hp2 : p n = true
      · rw [if_pos hp2, if_pos (h2 hp2)]; omega
      · rw [if_neg hp2]; omega
theorem zcnt_pos {q : Nat → Bool} {c n : Nat} (hc : c < n) (hq : q c = true) : 0 < zcnt q n := by
  have := zcnt_lt (p := fun _ => false) (q := q) (c := c) n (fun x _ h => by cases h) hc hq rfl
  omega
theorem zqa_sub {R : Nat → Nat → Int32} {top : Int32} {last : Option Nat} {d x : Nat} (hd : zqa R top last d = true) (hx : zqa R top (some d) x = true) : zqa R top last x = true := by
  unfold zqa at *
  rw [Bool.and_eq_true] at *
  refine ⟨hx.1, ?_⟩
  cases last with
  | none => rfl
  | some l => exact zbeh_tr hx.2 hd.2
/-- the ones that are seen, among all under a level -/
theorem zp_kids_V {F : Nat → List Int32} {n : Nat} {R : Nat → Nat → Int32} {hid : Nat → Int32} {top : Int32} (hF : ∀ c, c < n → ¬ hid c = 0 → F c = []) : ∀ (k : Nat) (last : Option Nat), zcnt (zqa R top last) n ≤ k →
    (zm_nxt n R hid top last = none → zp_kids F n R top k (zl_nxt n R top last) = []) ∧
    (∀ c, zm_nxt n R hid top last = some c → ∃ k', k' < k ∧ zcnt (zqa R top (some c)) n ≤ k' ∧ zp_kids F n R top k (zl_nxt n R top last) = F c ++ zp_kids F n R top k' (zl_nxt n R top (some c))) := by
  intro k
  induction k with
  | zero =>
    intro last hk
    have h1 := zl_nxt_inv n R top last
    cases ho : zl_nxt n R top last with
    | some d => rw [ho] at h1; have := zcnt_pos h1.1 h1.2.1; omega
    | none =>
      rw [ho] at h1
      refine ⟨fun _ => rfl, fun c hc => ?_⟩
      have h2 := zm_nxt_inv n R hid top last
      rw [hc] at h2
      have h3 := h2.2.1
      unfold zqv at h3
      rw [h1 c h2.1] at h3
      simp at h3
  | succ k ih =>
    intro last hk
    have h1 := zl_nxt_inv n R top last
    have h2 := zm_nxt_inv n R hid top last
    cases ho : zl_nxt n R top last with
    | none =>
      rw [ho] at h1
      refine ⟨fun _ => rfl, fun c hc => ?_⟩
      rw [hc] at h2
      have h3 := h2.2.1
      unfold zqv at h3
      rw [h1 c h2.1] at h3
      simp at h3
    | some d =>
      rw [ho] at h1
      obtain ⟨hd1, hd2, hd3⟩ := h1
      have hc1 : zcnt (zqa R top (some d)) n < zcnt (zqa R top last) n := zcnt_lt (c := d) n (fun x _ hx => zqa_sub hd2 hx) hd1 hd2 (by
        cases h9 : zqa R top (some d) d with
        | false => rfl
        | true => unfold zqa at h9; rw [Bool.and_eq_true] at h9; exact (zbeh_ir h9.2).elim)
      have hstep : zp_kids F n R top (k + 1) (some d) = F d ++ zp_kids F n R top k (zl_nxt n R top (some d)) := rfl
      by_cases hv : hid d = 0
      · have hm : zm_nxt n R hid top last = some d := by
          refine zinv_uniq h2 ⟨hd1, by unfold zqv; rw [hd2]; simp [hv], fun x hx hq hne => ?_⟩
          unfold zqv at hq
          rw [Bool.and_eq_true] at hq
          exact hd3 x hx hq.2 hne
        refine ⟨fun h9 => (by rw [hm] at h9; cases h9), fun c hc => ?_⟩
        rw [hm] at hc
        cases hc
        exact ⟨k, by omega, by omega, hstep⟩
      · have hm : zm_nxt n R hid top last = zm_nxt n R hid top (some d) := by
          refine zinv_uniq h2 ?_
          have h3 := zm_nxt_inv n R hid top (some d)
          have hQ : ∀ x, x < n → zqv R hid top last x = zqv R hid top (some d) x := by
            intro x hx
            cases h9 : zqv R hid top (some d) x with
            | true =>
              unfold zqv at h9 ⊢
              rw [Bool.and_eq_true] at h9
              rw [h9.1, zqa_sub hd2 h9.2]; rfl
            | false =>
              cases h8 : zqv R hid top last x with
              | false => rfl
              | true =>
                unfold zqv at h8 h9
                rw [Bool.and_eq_true] at h8
                have hxd : x ≠ d := fun h7 => by rw [h7] at h8; simp [hv] at h8
                have hb := hd3 x hx h8.2 hxd
                rw [h8.1] at h9
                unfold zqa at h8 h9
                rw [Bool.and_eq_true] at h8
                rw [h8.2.1] at h9
                have : zl_la R x (some d) = true := hb
                rw [this] at h9
                cases h9
          cases h7 : zm_nxt n R hid top (some d) with
          | none => rw [h7] at h3; exact fun x hx => by rw [hQ x hx]; exact h3 x hx
          | some c =>
            rw [h7] at h3
            exact ⟨h3.1, by rw [hQ c h3.1]; exact h3.2.1, fun x hx hq hne => h3.2.2 x hx (by rw [← hQ x hx]; exact hq) hne⟩
        obtain ⟨g1, g2⟩ := ih (some d) (by omega)
        rw [hm]
        refine ⟨fun h9 => ?_, fun c hc => ?_⟩
        · rw [hstep, hF d hd1 hv, g1 h9]; rfl
        · obtain ⟨k', q1, q2, q3⟩ := g2 c hc
          exact ⟨k', by omega, q2, by rw [hstep, hF d hd1 hv, q3]; rfl⟩
theorem zcnt_le (p : Nat → Bool) : ∀ n, zcnt p n ≤ n := by
  intro n
  induction n with
  | zero => exact Nat.le_refl _
  | succ n ih => unfold zcnt; split <;> omega
