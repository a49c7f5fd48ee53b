/-! PURE: print -/
section ZR6
variable {n : Nat} {R R' M : Nat → Nat → Int32} {pa : Nat → Option Nat} {dp : Nat → Nat} {N : Nat → Nat → Int32}
theorem zfold_congr {α : Type} {f g : α → Nat → α} {I : α → Prop} : ∀ (k lo : Nat) (s : α), I s → (∀ s x, I s → lo ≤ x → x < lo + k → f s x = g s x ∧ I (f s x)) → zfold f s lo k = zfold g s lo k := by
  intro k
  induction k with
  | zero => intro lo s _ _; rfl
  | succ k ih =>
    intro lo s hs hh
    obtain ⟨h1, h2⟩ := hh s lo hs (by omega) (by omega)
    show zfold f (f s lo) (lo + 1) k = zfold g (g s lo) (lo + 1) k
    rw [← h1]
    exact ih (lo + 1) _ h2 (fun s x hs h3 h4 => hh s x hs (by omega) (by omega))
theorem zl_beh_congr (h : ∀ j, j < n → R 1 j = R' 1 j) {x y : Nat} (hx : x < n) (hy : y < n) : zl_beh R x y = zl_beh R' x y := by
  unfold zl_beh; rw [h x hx, h y hy]
theorem zl_nxt_congr (h1 : ∀ j, j < n → R 1 j = R' 1 j) (h2 : ∀ j, j < n → R 2 j = R' 2 j) {top : Int32} {last : Option Nat} (hl : ∀ l, last = some l → l < n) : zl_nxt n R top last = zl_nxt n R' top last := by
  unfold zl_nxt
  refine zfold_congr (I := fun s => ∀ j, s = some j → j < n) n 0 none (fun j hj => by cases hj) (fun s x hs _ hx => ⟨?_, zl_nxt1_lt hs (by omega)⟩)
  have hx : x < n := by omega
  have ha : zl_la R x last = zl_la R' x last := by
    cases last with
    | none => rfl
    | some l => exact zl_beh_congr h1 hx (hl l rfl)
  have hb : zl_lb R x s = zl_lb R' x s := by
    cases s with
    | none => rfl
    | some l => exact zl_beh_congr h1 (hs l rfl) hx
  unfold zl_nxt1
  rw [h2 x hx, ha, hb]
theorem zp_kids_congr {F F' : Nat → List Int32} {top : Int32} (hF : ∀ l, l < n → F l = F' l) (h1 : ∀ j, j < n → R 1 j = R' 1 j) (h2 : ∀ j, j < n → R 2 j = R' 2 j) : ∀ (k : Nat) (o : Option Nat), (∀ l, o = some l → l < n) → zp_kids F n R top k o = zp_kids F' n R' top k o := by
  intro k
  induction k with
  | zero => intro o _; rfl
  | succ k ih =>
    intro o ho
    cases o with
    | none => rfl
    | some l =>
      show F l ++ zp_kids F n R top k (zl_nxt n R top (some l)) = F' l ++ zp_kids F' n R' top k (zl_nxt n R' top (some l))
      rw [hF l (ho l rfl), ih _ (fun q hq => zl_nxt_lt q hq), zl_nxt_congr h1 h2 ho]
theorem zp_tt_congr {i : Nat} : ∀ (k lo : Nat), (∀ q, q < lo + k → R 10 (i * 16 + q) = R' 10 (i * 16 + q)) → zp_tt R i lo k = zp_tt R' i lo k := by
  intro k
  induction k with
  | zero => intro lo _; rfl
  | succ k ih =>
    intro lo h
    show R 10 (i * 16 + lo) :: zp_tt R i (lo + 1) k = R' 10 (i * 16 + lo) :: zp_tt R' i (lo + 1) k
    rw [h lo (by omega), ih (lo + 1) (fun q hq => h q (by omega))]
theorem zp_from_congr {hid : Nat → Int32} (hn : n < 2 ^ 31) (h : ∀ w j, w < 10 → j < n → R w j = R' w j) (ht : ∀ j, j < n → ∀ k, k < zl_t R j → R 10 (j * 16 + k) = R' 10 (j * 16 + k)) : ∀ (f : Nat) (x : Int32), zp_from n R hid f x = zp_from n R' hid f x := by
  intro f
  induction f with
  | zero => intro x; rfl
  | succ f ih =>
    intro x
    unfold zp_from
    cases e : zi n x with
    | none => rfl
    | some j =>
      have hj := (zi_some hn e).1
      simp only
      have h3 : zl_d R j = zl_d R' j := by unfold zl_d; rw [h 3 j (by decide) hj]
      have h9 : zl_t R j = zl_t R' j := by unfold zl_t; rw [h 9 j (by decide) hj]
      have hk : zp_kids (fun l => zp_from n R hid f (nI l)) n R (nI j) n (zl_nxt n R (nI j) none) = zp_kids (fun l => zp_from n R' hid f (nI l)) n R' (nI j) n (zl_nxt n R' (nI j) none) := by
        rw [zp_kids_congr (R := R) (R' := R') (F' := fun l => zp_from n R' hid f (nI l)) (fun l _ => ih (nI l)) (fun j hj => h 1 j (by decide) hj) (fun j hj => h 2 j (by decide) hj) n _ (fun q hq => zl_nxt_lt q hq), zl_nxt_congr (R := R) (R' := R') (fun j hj => h 1 j (by decide) hj) (fun j hj => h 2 j (by decide) hj) (fun l hl => by cases hl)]
      have hL : zp_line R j (zl_d R j) (zl_t R j) = zp_line R' j (zl_d R' j) (zl_t R' j) := by
        unfold zp_line zp_tail zp_date
        rw [← h3, ← h9, zp_tt_congr (R := R) (R' := R') (zl_t R j) 0 (fun q hq => ht j hj q (by omega)), h 0 j (by decide) hj, h 1 j (by decide) hj, h 4 j (by decide) hj, h 5 j (by decide) hj, h 6 j (by decide) hj, h 7 j (by decide) hj, h 8 j (by decide) hj]
      rw [hL, hk]
theorem zcnt_dis {p q r : Nat → Bool} : ∀ n, (∀ x, x < n → p x = true → r x = true) → (∀ x, x < n → q x = true → r x = true) → (∀ x, x < n → p x = true → q x = true → False) → zcnt p n + zcnt q n ≤ zcnt r n := by
  intro n
  induction n with
  | zero => intro _ _ _; exact Nat.le_refl _
  | succ n ih =>
    intro h1 h2 h3
    have h := ih (fun x hx => h1 x (by omega)) (fun x hx => h2 x (by omega)) (fun x hx => h3 x (by omega))
    unfold zcnt
    have a1 := h1 n (by omega)
    have a2 := h2 n (by omega)
    have a3 := h3 n (by omega)
    cases hp : p n <;> cases hq : q n <;> cases hr : r n <;> simp_all <;> omega
/-- the parts of a level's children from one on -/
def zset (R : Nat → Nat → Int32) (n : Nat) (top : Int32) : Option Nat → Nat → Bool
  | none, _ => false
  | some l, y => zany (fun c => (decide (c = l) || zqa R top (some l) c) && zwi (R 2) n c y) 0 n
theorem zqa_top {top : Int32} {last : Option Nat} {x : Nat} (h : zqa R top last x = true) : R 2 x = top := by
  unfold zqa at h; rw [Bool.and_eq_true, decide_eq_true_eq] at h; exact h.1
theorem zpar (hn : n ≤ 100) (hfo : zfor (R 2) pa dp (fun j => j < n)) {c j : Nat} (hc : c < n) (hj : j < n) (h : R 2 c = nI j) : pa c = some j := by
  rw [(hfo c hc).2.2.1] at h
  cases hp : pa c with
  | none =>
    rw [hp] at h
    exact absurd (show (-1 : Int32) < 0 by decide) (by rw [show (-1 : Int32) = nI j from h]; exact nI_pos (by omega))
  | some p =>
    rw [hp] at h
    have := ((hfo c hc).2.2.2.1 p hp).1
    rw [(nI_eq (by omega) (by omega)).mp h]
theorem zp_kids_len {F : Nat → List Int32} (hn : n ≤ 100) (hfo : zfor (R 2) pa dp (fun j => j < n)) {j : Nat} (hj : j < n) (hF : ∀ l, l < n → (F l).length ≤ 50 * zcnt (zwi (R 2) n l) n) : ∀ (k : Nat) (o : Option Nat), (∀ l, o = some l → l < n ∧ R 2 l = nI j) → (zp_kids F n R (nI j) k o).length ≤ 50 * zcnt (zset R n (nI j) o) n := by
  intro k
  induction k with
  | zero => intro o _; exact Nat.zero_le _
  | succ k ih =>
    intro o ho
    cases o with
    | none => exact Nat.zero_le _
    | some l =>
      obtain ⟨hl, hl2⟩ := ho l rfl
      show (F l ++ zp_kids F n R (nI j) k (zl_nxt n R (nI j) (some l))).length ≤ _
      rw [List.length_append]
      have hinv := zl_nxt_inv n R (nI j) (some l)
      have h2 : (zp_kids F n R (nI j) k (zl_nxt n R (nI j) (some l))).length ≤ 50 * zcnt (zset R n (nI j) (zl_nxt n R (nI j) (some l))) n := by
        refine ih _ (fun q hq => ?_)
        rw [hq] at hinv
        exact ⟨hinv.1, zqa_top hinv.2.1⟩
      have h3 : zcnt (zwi (R 2) n l) n + zcnt (zset R n (nI j) (zl_nxt n R (nI j) (some l))) n ≤ zcnt (zset R n (nI j) (some l)) n := by
        have hsub : ∀ c, (∃ s, zl_nxt n R (nI j) (some l) = some s ∧ (c = s ∨ zqa R (nI j) (some s) c = true)) → zqa R (nI j) (some l) c = true := by
          rintro c ⟨s, hs, hc⟩
          rw [hs] at hinv
          rcases hc with rfl | hc
          · exact hinv.2.1
          · exact zqa_sub hinv.2.1 hc
        have hmem : ∀ y, zset R n (nI j) (zl_nxt n R (nI j) (some l)) y = true → ∃ c, c < n ∧ zqa R (nI j) (some l) c = true ∧ zwi (R 2) n c y = true := by
          intro y hy
          cases hs : zl_nxt n R (nI j) (some l) with
          | none => rw [hs] at hy; cases hy
          | some s =>
            rw [hs] at hy
            obtain ⟨c, -, c1, c2⟩ := (zany_iff n 0).mp hy
            rw [Bool.and_eq_true, Bool.or_eq_true, decide_eq_true_eq] at c2
            exact ⟨c, by omega, hsub c ⟨s, hs, c2.1⟩, c2.2⟩
        refine zcnt_dis n (fun y hy h => ?_) (fun y hy h => ?_) (fun y hy h h' => ?_)
        · exact (zany_iff n 0).mpr ⟨l, by omega, by omega, by simp [h]⟩
        · obtain ⟨c, c1, c2, c3⟩ := hmem y h
          exact (zany_iff n 0).mpr ⟨c, by omega, by omega, by simp [c2, c3]⟩
        · obtain ⟨c, c1, c2, c3⟩ := hmem y h'
          have p1 := zpar hn hfo hl hj hl2
          have p2 := zpar hn hfo c1 hj (zqa_top c2)
          have q1 := ((hfo l hl).2.2.2.1 j p1).2
          have q2 := ((hfo c c1).2.2.2.1 j p2).2
          have e := zwi_uniq hn hfo hl c1 (by omega) y hy h c3
          subst e
          unfold zqa at c2
          rw [Bool.and_eq_true] at c2
          exact zbeh_ir c2.2
      have := hF l hl
      omega
theorem zp_from_len {hid : Nat → Int32} (hn : n ≤ 100) (hfo : zfor (R 2) pa dp (fun j => j < n)) (hl : ∀ j, j < n → (zp_line R j (zl_d R j) (zl_t R j)).length ≤ 50) : ∀ (f x : Nat), x < n → (zp_from n R hid f (nI x)).length ≤ 50 * zcnt (zwi (R 2) n x) n := by
  intro f
  induction f with
  | zero => intro x _; exact Nat.zero_le _
  | succ f ih =>
    intro x hx
    unfold zp_from
    rw [zi_nI hx (by omega)]
    simp only
    split
    · rw [List.length_append]
      have hinv := zl_nxt_inv n R (nI x) none
      have h1 := zp_kids_len (F := fun l => zp_from n R hid f (nI l)) hn hfo hx (fun l hl => ih l hl) n (zl_nxt n R (nI x) none) (fun q hq => by
        rw [hq] at hinv
        exact ⟨hinv.1, zqa_top hinv.2.1⟩)
      have h2 : zcnt (zset R n (nI x) (zl_nxt n R (nI x) none)) n < zcnt (zwi (R 2) n x) n := by
        have hmem : ∀ y, zset R n (nI x) (zl_nxt n R (nI x) none) y = true → ∃ c, c < n ∧ R 2 c = nI x ∧ zwi (R 2) n c y = true := by
          intro y hy
          cases hs : zl_nxt n R (nI x) none with
          | none => rw [hs] at hy; cases hy
          | some s =>
            rw [hs] at hy hinv
            obtain ⟨c, -, c1, c2⟩ := (zany_iff n 0).mp hy
            rw [Bool.and_eq_true, Bool.or_eq_true, decide_eq_true_eq] at c2
            refine ⟨c, by omega, ?_, c2.2⟩
            rcases c2.1 with rfl | h
            · exact zqa_top hinv.2.1
            · exact zqa_top h
        refine zcnt_lt (c := x) n (fun y hy h => ?_) hx (zwi_self hn hfo hx) ?_
        · obtain ⟨c, c1, c2, c3⟩ := hmem y h
          exact (zwi_child hn hfo c1 hx (zpar hn hfo c1 hx c2) y hy c3).1
        · cases hs : zset R n (nI x) (zl_nxt n R (nI x) none) x with
          | false => rfl
          | true =>
            obtain ⟨c, c1, c2, c3⟩ := hmem x hs
            exact absurd rfl (zwi_child hn hfo c1 hx (zpar hn hfo c1 hx c2) x hx c3).2
      have h3 := hl x hx
      omega
    · exact Nat.zero_le _
theorem zp_num_l4 (v : Int32) : (zp_num v).length ≤ 4 := by
  unfold zp_num
  simp only [List.length_append]
  have h : ∀ (c : Prop) [Decidable c] (x : Int32), (if c then ([] : List Int32) else [x]).length ≤ 1 := by
    intro c _ x; split <;> simp
  have := h (v < nI 1000) (zp_dig v 1000)
  have := h (v < nI 100) (zp_dig v 100)
  have := h (v < nI 10) (zp_dig v 10)
  have := h (v < nI 1) (zp_dig v 1)
  omega
theorem zp_one_len (f : Nat → Int32) (len : Nat) (k : Int32) : (zp_one f len k).length ≤ 1 := by
  unfold zp_one; split <;> simp
theorem zp_tt_l {i : Nat} : ∀ (k lo : Nat), (zp_tt R i lo k).length = k := by
  intro k
  induction k with
  | zero => intro lo; rfl
  | succ k ih => intro lo; show (zp_tt R i (lo + 1) k).length + 1 = k + 1; rw [ih]
theorem zp_line_len {j d t : Nat} (hd : d ≤ 8) (ht : t ≤ 16) : (zp_line R j d t).length ≤ 50 := by
  unfold zp_line zp_tail
  have h1 : (if R 4 j = -1 then [] else zp_date R j).length ≤ 12 := by
    split
    · decide
    · unfold zp_date
      simp only [List.length_cons, List.length_append]
      have := zp_num_l4 (R 4 j)
      have h5 : (if R 5 j = R 4 j then [] else nI 45 :: zp_num (R 5 j)).length ≤ 5 := by
        split
        · decide
        · have := zp_num_l4 (R 5 j); simp only [List.length_cons]; omega
      have h6 : (if R 6 j = nI 1 then [nI 63] else []).length ≤ 1 := by split <;> decide
      omega
  have h2 : (if R 8 j = -1 then [] else nI 32 :: nI 101 :: (zp_num (R 7 j) ++ zp_one zc_k2 3 (R 8 j))).length ≤ 7 := by
    split
    · decide
    · simp only [List.length_cons, List.length_append]
      have := zp_num_l4 (R 7 j)
      have := zp_one_len zc_k2 3 (R 8 j)
      omega
  have := zp_one_len zc_k1 4 (R 0 j)
  have := zp_num_l4 (R 1 j)
  have h4 : (zp_tt R j 0 t).length = t := zp_tt_l t 0
  simp only [List.length_append, List.length_cons, List.length_replicate, List.length_nil]
  omega
/-- a sign that fits into a byte -/
def zsg (x : Int32) : Prop := ∃ c, c < 128 ∧ x = nI c
theorem zsg.by {x : Int32} (h : zsg x) : zby x = x := by
  obtain ⟨c, hc, rfl⟩ := h
  exact zby_s c hc
theorem zp_dig_ok {a q : Nat} (ha : a < 2 ^ 31) (hq : 0 < q) (hq2 : q < 2 ^ 31) : zsg (zp_dig (nI a) q) := by
  unfold zp_dig
  have h1 : a / q < 2 ^ 31 := Nat.lt_of_le_of_lt (Nat.div_le_self _ _) ha
  rw [pk_div ha hq hq2, pk_rem h1 (by omega) (by omega), nI_add]
  exact ⟨48 + a / q % 10, by omega, rfl⟩
theorem zp_num_ok {v : Int32} {a : Nat} (ha : a < 2 ^ 31) (h : v = nI a) : ∀ x, x ∈ zp_num v → zsg x := by
  subst h
  intro x hx
  unfold zp_num at hx
  simp only [List.mem_append] at hx
  have key : ∀ (c : Prop) [Decidable c] (y : Int32), x ∈ (if c then ([] : List Int32) else [y]) → x = y := by
    intro c _ y h; split at h
    · cases h
    · simpa using h
  rcases hx with h | h | h | h
  · rw [key _ _ h]; exact zp_dig_ok ha (by omega) (by omega)
  · rw [key _ _ h]; exact zp_dig_ok ha (by omega) (by omega)
  · rw [key _ _ h]; exact zp_dig_ok ha (by omega) (by omega)
  · rw [key _ _ h]; exact zp_dig_ok ha (by omega) (by omega)
theorem zp_one_ok {f : Nat → Int32} {len : Nat} {k : Int32} (hl : len < 2 ^ 31) (hf : ∀ j, j < len → zsg (f j)) : ∀ x, x ∈ zp_one f len k → zsg x := by
  intro x hx
  unfold zp_one at hx
  cases e : zi len k with
  | none => rw [e] at hx; cases hx
  | some j => rw [e] at hx; simp at hx; rw [hx]; exact hf j (zi_some hl e).1
theorem zk1_ok : ∀ j, j < 4 → zsg (zc_k1 j) := by
  intro j hj
  match j, hj with
  | 0, _ => exact ⟨102, by decide, by decide⟩
  | 1, _ => exact ⟨115, by decide, by decide⟩
  | 2, _ => exact ⟨117, by decide, by decide⟩
  | 3, _ => exact ⟨105, by decide, by decide⟩
theorem zk2_ok : ∀ j, j < 3 → zsg (zc_k2 j) := by
  intro j hj
  match j, hj with
  | 0, _ => exact ⟨98, by decide, by decide⟩
  | 1, _ => exact ⟨109, by decide, by decide⟩
  | 2, _ => exact ⟨112, by decide, by decide⟩
theorem zp_tt_ok {i : Nat} : ∀ (k lo : Nat), (∀ q, q < lo + k → zsg (R 10 (i * 16 + q))) → ∀ x, x ∈ zp_tt R i lo k → zsg x := by
  intro k
  induction k with
  | zero => intro lo _ x hx; cases hx
  | succ k ih =>
    intro lo h x hx
    change x ∈ R 10 (i * 16 + lo) :: zp_tt R i (lo + 1) k at hx
    rw [List.mem_cons] at hx
    rcases hx with rfl | hx
    · exact h lo (by omega)
    · exact ih (lo + 1) (fun q hq => h q (by omega)) x hx
theorem zp_line_ok {j d : Nat} (hk : zwk R j) (hp : zwp R j) : ∀ x, x ∈ zp_line R j d (zl_t R j) → zsg x := by
  have sg : ∀ c, c < 128 → zsg (nI c) := fun c hc => ⟨c, hc, rfl⟩
  obtain ⟨t1, t2, t3, t4⟩ := hp.t
  obtain ⟨-, v, v1, v2, v3⟩ := hk
  obtain ⟨h4, h7, -⟩ := hp
  intro x hx
  unfold zp_line zp_tail at hx
  simp only [List.mem_append, List.mem_cons, List.mem_replicate, List.not_mem_nil, or_false] at hx
  rcases hx with ⟨-, rfl⟩ | hx | hx | rfl | hx | hx | hx | rfl
  · exact sg 43 (by decide)
  · exact zp_one_ok (by decide) zk1_ok x hx
  · exact zp_num_ok (by omega) v3 x hx
  · exact sg 32 (by decide)
  · exact zp_tt_ok (zl_t R j) 0 (fun q hq => by
      obtain ⟨c, c1, c2, c3⟩ := t4 q (by omega)
      exact ⟨c, by omega, c3⟩) x hx
  · split at hx
    · cases hx
    · rename_i hne
      rcases h4 with ⟨h, -⟩ | ⟨y, z, dd, b1, b2, b3, b4, b5, b6, b7⟩
      · exact absurd h hne
      · unfold zp_date at hx
        simp only [List.mem_append, List.mem_cons] at hx
        rcases hx with rfl | rfl | hx | hx | hx
        · exact sg 32 (by decide)
        · exact sg 100 (by decide)
        · exact zp_num_ok (by omega) b5 x hx
        · split at hx
          · cases hx
          · rw [List.mem_cons] at hx
            rcases hx with rfl | hx
            · exact sg 45 (by decide)
            · exact zp_num_ok (by omega) b6 x hx
        · split at hx
          · simp at hx; rw [hx]; exact sg 63 (by decide)
          · cases hx
  · split at hx
    · cases hx
    · rename_i hne
      rcases h7 with ⟨-, h⟩ | ⟨v', u, b1, b2, b3, b4, b5⟩
      · exact absurd h hne
      · simp only [List.mem_append, List.mem_cons] at hx
        rcases hx with rfl | rfl | hx | hx
        · exact sg 32 (by decide)
        · exact sg 101 (by decide)
        · exact zp_num_ok (by omega) b4 x hx
        · exact zp_one_ok (by decide) zk2_ok x hx
  · exact sg 10 (by decide)
theorem zp_kids_all {F : Nat → List Int32} {P : Int32 → Prop} {top : Int32} (hF : ∀ l, l < n → ∀ x, x ∈ F l → P x) : ∀ (k : Nat) (o : Option Nat), (∀ l, o = some l → l < n) → ∀ x, x ∈ zp_kids F n R top k o → P x := by
  intro k
  induction k with
  | zero => intro o _ x hx; cases hx
  | succ k ih =>
    intro o ho x hx
    cases o with
    | none => cases hx
    | some l =>
      change x ∈ F l ++ zp_kids F n R top k (zl_nxt n R top (some l)) at hx
      rw [List.mem_append] at hx
      rcases hx with hx | hx
      · exact hF l (ho l rfl) x hx
      · exact ih _ (fun q hq => zl_nxt_lt q hq) x hx
theorem zp_from_all {hid : Nat → Int32} {P : Int32 → Prop} (hn : n < 2 ^ 31) (hl : ∀ j, j < n → ∀ x, x ∈ zp_line R j (zl_d R j) (zl_t R j) → P x) : ∀ (f : Nat) (y : Int32), ∀ x, x ∈ zp_from n R hid f y → P x := by
  intro f
  induction f with
  | zero => intro y x hx; cases hx
  | succ f ih =>
    intro y x hx
    unfold zp_from at hx
    cases e : zi n y with
    | none => rw [e] at hx; cases hx
    | some j =>
      have hj := (zi_some hn e).1
      rw [e] at hx
      simp only at hx
      split at hx
      · rw [List.mem_append] at hx
        rcases hx with hx | hx
        · exact hl j hj x hx
        · exact zp_kids_all (fun l _ x hx => ih (nI l) x hx) n _ (fun q hq => zl_nxt_lt q hq) x hx
      · cases hx
theorem zputs_fit : ∀ (X L : List Int32), L.length + X.length ≤ 5000 → zputs L X = L ++ X := by
  intro X
  induction X with
  | nil => intro L _; rw [zputs_nil, List.append_nil]
  | cons c X ih =>
    intro L h
    rw [List.length_cons] at h
    rw [zputs_cons, zput, if_pos (by omega), ih _ (by rw [List.length_append, List.length_singleton]; omega), List.append_assoc]
    rfl
theorem zCt.wr (h : zCt n R M pa dp) : ∀ j, j < n → zwr M j := fun j hj => by
  obtain ⟨hk, hp⟩ := h.2.2.2.2.2.2 j hj
  have r := fun w hw => h.2.2.2.2.1 w j hw hj
  obtain ⟨t1, t2, t3, t4⟩ := hp.t
  have hm1 : (-1 : Int32) < 0 := by decide
  have hne : ∀ y, y < 2 ^ 31 → ¬ nI y = -1 := fun y hy h9 => by
    have := nI_pos hy
    rw [h9] at this
    exact this hm1
  have e0 : R 0 j = M 1 j := r 0 (by decide)
  have e4 : R 4 j = M 4 j := r 4 (by decide)
  have e7 : R 7 j = M 7 j := r 7 (by decide)
  have e8 : R 8 j = M 8 j := r 8 (by decide)
  have e9 : R 9 j = M 9 j := r 9 (by decide)
  have et : zl_t M j = zl_t R j := by unfold zl_t; rw [e9]
  refine ⟨by rw [← e0]; exact hk.1, by rw [et, ← e9]; exact ⟨t1, t2⟩, ?_, ?_, ?_⟩
  · rw [← e4]
    rcases hp.1 with ⟨h4, -⟩ | ⟨y, z, dd, b1, b2, b3, b4, b5, b6, b7⟩
    · rw [h4]; exact ⟨fun _ => rfl, fun _ => hm1⟩
    · rw [b5]; exact ⟨fun h => absurd h (nI_pos (by omega)), fun h => absurd h (hne _ (by omega))⟩
  · rw [← e7, ← e8]
    rcases hp.2.1 with ⟨h7, h8⟩ | ⟨v', u, b1, b2, b3, b4, b5⟩
    · rw [h7, h8]; exact ⟨fun _ => rfl, fun _ => hm1⟩
    · rw [b4, b5]; exact ⟨fun h => absurd h (nI_pos (by omega)), fun h => absurd h (hne _ (by omega))⟩
  · rw [← e7, ← e8]
    intro h
    rcases hp.2.1 with ⟨h7, h8⟩ | ⟨v', u, b1, b2, b3, b4, b5⟩
    · rw [h7] at h; exact absurd hm1 h
    · exact ⟨u, b3, b5⟩
theorem zrel_print (h : zCt n R M pa dp) (hd : zDt N M) : zputs [] (zp_from n R (N 5) 9 (nI 0)) = zp_from n (zmR M dp) (M 16) 9 (nI 0) ∧ (zp_from n (zmR M dp) (M 16) 9 (nI 0)).length ≤ 5000 ∧ ∀ x, x ∈ zp_from n (zmR M dp) (M 16) 9 (nI 0) → zby x = x := by
  have hn := h.1
  have h5 : N 5 = M 16 := hd.1 5 (by decide)
  have hc : zp_from n R (N 5) 9 (nI 0) = zp_from n (zmR M dp) (M 16) 9 (nI 0) := by
    rw [h5]
    exact zp_from_congr (by omega) h.2.2.2.2.1 h.2.2.2.2.2.1 9 (nI 0)
  have hlen : (zp_from n R (N 5) 9 (nI 0)).length ≤ 5000 := by
    by_cases e : 0 < n
    · have h1 := zp_from_len (hid := N 5) hn h.fo (fun j hj => zp_line_len (h.D j hj).2 (h.T j hj).2) 9 0 e
      have h2 := zcnt_le (zwi (R 2) n 0) n
      omega
    · have : zi n (nI 0) = none := by
        have : n = 0 := by omega
        subst this
        exact zi_hi (nI_nlt (Nat.le_refl _) (by decide))
      unfold zp_from
      rw [this]
      exact Nat.zero_le _
  have hall : ∀ x, x ∈ zp_from n R (N 5) 9 (nI 0) → zby x = x := fun x hx => (zp_from_all (P := zsg) (by omega) (fun j hj => zp_line_ok (h.2.2.2.2.2.2 j hj).1 (h.2.2.2.2.2.2 j hj).2) 9 (nI 0) x hx).by
  rw [← hc]
  exact ⟨by rw [zputs_fit _ _ (by rw [List.length_nil]; omega)]; rfl, hlen, hall⟩
end ZR6
