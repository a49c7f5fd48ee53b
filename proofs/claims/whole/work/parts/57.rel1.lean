/-! THE RELATION between the class's rows and the reference's -/
/-- kind and number of a level -/
def zwk (R : Nat → Nat → Int32) (j : Nat) : Prop := (∃ kd, kd < 4 ∧ R 0 j = nI kd) ∧ ∃ v, 1 ≤ v ∧ v ≤ 9999 ∧ R 1 j = nI v
/-- date, extent and title of a level -/
def zwp (R : Nat → Nat → Int32) (j : Nat) : Prop := ((R 4 j = -1 ∧ R 5 j = -1 ∧ R 6 j = nI 0) ∨ ∃ y z d, 1000 ≤ y ∧ y ≤ z ∧ z ≤ 2999 ∧ d < 2 ∧ R 4 j = nI y ∧ R 5 j = nI z ∧ R 6 j = nI d) ∧ ((R 7 j = -1 ∧ R 8 j = -1) ∨ ∃ v u, 1 ≤ v ∧ v ≤ 9999 ∧ u < 3 ∧ R 7 j = nI v ∧ R 8 j = nI u) ∧ ∃ t, 1 ≤ t ∧ t ≤ 16 ∧ R 9 j = nI t ∧ ∀ k, k < t → ∃ c, 97 ≤ c ∧ c ≤ 122 ∧ R 10 (j * 16 + k) = nI c
/-- the parts of a level are those of another -/
def zsame (R : Nat → Nat → Int32) (i : Nat) (M : Nat → Nat → Int32) (j : Nat) : Prop := (∀ w, 4 ≤ w → w ≤ 9 → R w i = M w j) ∧ ∀ k, k < zl_t R i → R 10 (i * 16 + k) = M 10 (j * 16 + k)
theorem zwp.t {R : Nat → Nat → Int32} {j : Nat} (h : zwp R j) : R 9 j = nI (zl_t R j) ∧ zl_t R j ≤ 16 ∧ 1 ≤ zl_t R j ∧ ∀ k, k < zl_t R j → ∃ c, 97 ≤ c ∧ c ≤ 122 ∧ R 10 (j * 16 + k) = nI c := by
  obtain ⟨-, -, t, h1, h2, h3, h4⟩ := h
  have ht : zl_t R j = t := by unfold zl_t; rw [h3, nI_clamp (by omega)]
  rw [ht]
  exact ⟨h3, h2, h1, h4⟩
theorem zwp.same {R M : Nat → Nat → Int32} {i j : Nat} (h : zwp R i) (hs : zsame R i M j) : zwp M j := by
  obtain ⟨t1, t2, t3, t4⟩ := h.t
  obtain ⟨h1, h2, -⟩ := h
  rw [hs.1 4 (by decide) (by decide), hs.1 5 (by decide) (by decide), hs.1 6 (by decide) (by decide)] at h1
  rw [hs.1 7 (by decide) (by decide), hs.1 8 (by decide) (by decide)] at h2
  rw [hs.1 9 (by decide) (by decide)] at t1
  exact ⟨h1, h2, zl_t R i, t3, t2, t1, fun k hk => by rw [← hs.2 k hk]; exact t4 k hk⟩
theorem zwp.u {R : Nat → Nat → Int32} {j : Nat} (h : zwp R j) : ∃ o : Option Nat, R 8 j = zo o ∧ ∀ u, o = some u → u < 3 := by
  obtain ⟨-, h2, -⟩ := h
  rcases h2 with ⟨-, h⟩ | ⟨v, u, -, -, hu, -, h⟩
  · exact ⟨none, h, fun u hu => by cases hu⟩
  · exact ⟨some u, h, fun u' hu' => by cases hu'; exact hu⟩
/-- the tree -/
def zCt (n : Nat) (R M : Nat → Nat → Int32) (pa : Nat → Option Nat) (dp : Nat → Nat) : Prop := n ≤ 100 ∧ zfor (M 3) pa dp (fun j => j < n) ∧ (0 < n → dp 0 = 0) ∧ (∀ j, j < n → pa j = none → j = 0) ∧ (∀ w j, w < 10 → j < n → R w j = zmR M dp w j) ∧ (∀ j, j < n → ∀ k, k < zl_t R j → R 10 (j * 16 + k) = M 10 (j * 16 + k)) ∧ ∀ j, j < n → zwk R j ∧ zwp R j
/-- the notes -/
def zDt (N M : Nat → Nat → Int32) : Prop := (∀ k, k < 6 → N k = zmN M k) ∧ zn_ok N
/-- the text -/
def zAt (len : Nat) (W : Nat → Int32) (T : Nat → Int32) : Prop := len ≤ 3000 ∧ ∀ j, j < len → W j = T j &&& nI 255
def zkc (K : Nat → Nat → Int32) (r j : Nat) : Nat := (K r j).toNatClampNeg
/-- the asks -/
def zEt (n c m : Nat) (od : Int32) (Q K : Nat → Nat → Int32) (fr : Int32) (M : Nat → Nat → Int32) : Prop := c ≤ 100 ∧ m ≤ 100 ∧ zl_T m Q ∧ (∀ j, j < c → K 0 j = M 17 j ∧ K 2 j = M 18 j ∧ K 3 j = M 19 j ∧ K 0 j = nI (zkc K 0 j) ∧ zkc K 0 j < 100 ∧ K 1 j = nI (zkc K 1 j)) ∧ (c = 0 ∨ (od = nI 1 ∧ fr = nI 0) ∨ (od = nI 0 ∧ fr = nI 1 ∧ ∀ j, j < c → zkc K 0 j < n ∧ zkc K 1 j < m ∧ zwp Q (zkc K 1 j) ∧ zsame Q (zkc K 1 j) M (200 + j)))
/-- the page -/
def zFt (L : List Int32) (pr : Nat) (Sg S : Nat → Int32) : Prop := pr = L.length ∧ zq S L ∧ zpl Sg L ∧ ∀ x, x ∈ L → zby x = x
/-- rows that a reading leaves -/
def zag (M M' : Nat → Nat → Int32) : Prop := (∀ r j, r ≠ 10 → r < 10 → (j < 100 ∨ 200 ≤ j) → M' r j = M r j) ∧ (∀ j, (j < 1600 ∨ 3200 ≤ j) → M' 10 j = M 10 j) ∧ ∀ r, 10 < r → M' r = M r
theorem zCt.mv {n : Nat} {R M M' : Nat → Nat → Int32} {pa : Nat → Option Nat} {dp : Nat → Nat} (h : zCt n R M pa dp) (h1 : ∀ r j, 0 < r → r < 10 → j < 100 → M' r j = M r j) (h2 : ∀ j, j < 1600 → M' 10 j = M 10 j) : zCt n R M' pa dp := by
  obtain ⟨a1, a2, a3, a4, a5, a6, a7⟩ := h
  refine ⟨a1, fun j hj => ?_, a3, a4, fun w j hw hj => ?_, fun j hj k hk => ?_, a7⟩
  · obtain ⟨b1, b2, b3, b4⟩ := a2 j hj
    exact ⟨b1, b2, (h1 3 j (by omega) (by omega) (by omega)).trans b3, b4⟩
  · rw [a5 w j hw hj]
    match w, hw with
    | 0, _ => exact (h1 1 j (by omega) (by omega) (by omega)).symm
    | 1, _ => exact (h1 2 j (by omega) (by omega) (by omega)).symm
    | 2, _ => exact (h1 3 j (by omega) (by omega) (by omega)).symm
    | 3, _ => rfl
    | w + 4, hw => exact (h1 (w + 4) j (by omega) (by omega) (by omega)).symm
  · have := (a7 j hj).2.t.2.1
    rw [a6 j hj k hk, h2 _ (by omega)]
theorem zDt.mv {N M M' : Nat → Nat → Int32} (h : zDt N M) (h1 : ∀ r, 10 < r → r < 17 → M' r = M r) : zDt N M' := by
  refine ⟨fun k hk => ?_, h.2⟩
  rw [h.1 k hk]
  match k, hk with
  | 0, _ => exact (h1 11 (by omega) (by omega)).symm
  | 1, _ => exact (h1 12 (by omega) (by omega)).symm
  | 2, _ => exact (h1 14 (by omega) (by omega)).symm
  | 3, _ => exact (h1 13 (by omega) (by omega)).symm
  | 4, _ => exact (h1 15 (by omega) (by omega)).symm
  | 5, _ => exact (h1 16 (by omega) (by omega)).symm
theorem zEt.mv {n c m : Nat} {od fr : Int32} {Q K M M' : Nat → Nat → Int32} (h : zEt n c m od Q K fr M) (h1 : ∀ r, 16 < r → r < 20 → M' r = M r) (h2 : ∀ r j, 3 < r → r < 10 → 200 ≤ j → M' r j = M r j) (h3 : ∀ j, 3200 ≤ j → M' 10 j = M 10 j) : zEt n c m od Q K fr M' := by
  obtain ⟨a1, a2, a3, a4, a5⟩ := h
  refine ⟨a1, a2, a3, fun j hj => ?_, ?_⟩
  · rw [h1 17 (by decide) (by decide), h1 18 (by decide) (by decide), h1 19 (by decide) (by decide)]
    exact a4 j hj
  · rcases a5 with h | h | ⟨b1, b2, b3⟩
    · exact Or.inl h
    · exact Or.inr (Or.inl h)
    · refine Or.inr (Or.inr ⟨b1, b2, fun j hj => ?_⟩)
      obtain ⟨c0, c1, c2, c3, c4⟩ := b3 j hj
      refine ⟨c0, c1, c2, fun w hw hw2 => ?_, fun k hk => ?_⟩
      · rw [h2 w _ (by omega) (by omega) (by omega)]; exact c3 w hw hw2
      · rw [h3 _ (by omega)]; exact c4 k hk
/-- all of it -/
def zREL (len n m c : Nat) (wr od : Int32) (W : Nat → Int32) (R Q N K : Nat → Nat → Int32) (Sg : Nat → Int32) (L : List Int32) (size : Nat) (wrm : Int32) (lv ak : Nat) (fr : Int32) (pr : Nat) (M : Nat → Nat → Int32) (pa : Nat → Option Nat) (dp : Nat → Nat) : Prop :=
  size = len ∧ wrm = wr ∧ lv = n ∧ ak = c ∧ zAt len W (M 0) ∧ zCt n R M pa dp ∧ zDt N M ∧ zEt n c m od Q K fr M ∧ zFt L pr Sg (M 20)
theorem zREL_0 : zREL 0 0 0 0 (-1) (nI 0) (fun _ => 0) (fun _ _ => 0) (fun _ _ => 0) (fun _ _ => 0) (fun _ _ => 0) (fun _ => 0) [] 0 (-1) 0 0 0 0 (fun _ _ => 0) (fun _ => none) (fun _ => 0) := by
  refine ⟨rfl, rfl, rfl, rfl, ⟨by omega, fun j hj => by omega⟩, ⟨by omega, fun j hj => absurd hj (Nat.not_lt_zero _), fun _ => rfl, fun j hj => by omega, fun w j _ hj => by omega, fun j hj => by omega, fun j hj => by omega⟩, ⟨fun k hk => ?_, fun i hi => ?_⟩, ⟨by omega, by omega, fun i hi => by omega, fun i hi => by omega, Or.inl rfl⟩, ⟨rfl, fun j hj => absurd hj (Nat.not_lt_zero _), ⟨fun j hj => absurd hj (Nat.not_lt_zero _), Nat.zero_le _⟩, fun x hx => by cases hx⟩⟩
  · match k, hk with
    | 0, _ => rfl
    | 1, _ => rfl
    | 2, _ => rfl
    | 3, _ => rfl
    | 4, _ => rfl
    | 5, _ => rfl
  · have h0 : (0 : Int32).toNatClampNeg = 0 := by decide
    unfold zn_c zn_m
    rw [h0]
    exact ⟨⟨nI_0.symm, by omega⟩, nI_0.symm, by omega⟩
