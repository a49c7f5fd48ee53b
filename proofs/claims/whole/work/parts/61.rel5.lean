/-! PURE: move -/
section ZR5
variable {n : Nat} {R M : Nat → Nat → Int32} {pa : Nat → Option Nat} {dp : Nat → Nat} {N : Nat → Nat → Int32}
theorem zl_wi_congr {ab ab' : Nat → Int32} {top : Int32} (hn : n < 2 ^ 31) (h1 : ∀ j, j < n → ab j = ab' j) : ∀ (k : Nat) (x : Int32), zl_wi n ab top k x = zl_wi n ab' top k x := by
  intro k
  induction k with
  | zero => intro x; rfl
  | succ k ih =>
    intro x
    unfold zl_wi
    cases e : zi n x with
    | none => rfl
    | some j =>
      have hj := (zi_some hn e).1
      simp only
      rw [h1 j hj, ih]
theorem ztoI {a b c : Nat} (ha : a < 2 ^ 20) (hb : b < 2 ^ 20) (hc : c < 2 ^ 20) : (nI a + (nI b - nI c)).toInt = (a : Int) + (b - c) := by
  rw [Int32.toInt_add, pk_sub_toInt (by omega) (by omega), nI_toInt (by omega)]
  have h1 : (2 : Int) ^ 32 = 4294967296 := by decide
  rw [Int.bmod_eq_of_le] <;> omega
theorem ztoI8 {a b c : Nat} (ha : a < 2 ^ 20) (hb : b < 2 ^ 20) (hc : c < 2 ^ 20) : (nI 8 < nI a + (nI b - nI c)) ↔ 8 + c < a + b := by
  rw [Int32.lt_iff_toInt_lt, ztoI ha hb hc, nI_toInt (by omega)]
  omega
theorem zadds {a b c : Nat} (h : c ≤ a) : nI a + (nI b - nI c) = nI (a - c + b) := by
  rw [Int32.sub_eq_add_neg, ← Int32.add_assoc, nI_add, ← Int32.sub_eq_add_neg, pk_sub (by omega)]
  congr 1; omega
/-- the deepest of a part -/
theorem zdw_nat {p : Nat → Bool} {f : Nat → Int32} (h : ∀ j, j < n → f j = nI (dp j) ∧ dp j ≤ 8) : ∀ (k lo s : Nat), lo + k = n → s ≤ 8 → ∃ d, zfold (fun s x => if p x then (if s < f x then f x else s) else s) (nI s) lo k = nI d ∧ s ≤ d ∧ d ≤ 8 ∧ (∀ x, lo ≤ x → x < n → p x = true → dp x ≤ d) ∧ (d = s ∨ ∃ x, x < n ∧ p x = true ∧ dp x = d) := by
  intro k
  induction k with
  | zero => intro lo s hl hs; exact ⟨s, rfl, Nat.le_refl _, hs, fun x h1 h2 => by omega, Or.inl rfl⟩
  | succ k ih =>
    intro lo s hl hs
    show ∃ d, zfold _ (if p lo = true then (if nI s < f lo then f lo else nI s) else nI s) (lo + 1) k = nI d ∧ _
    obtain ⟨f1, f2⟩ := h lo (by omega)
    by_cases hp : p lo = true
    · rw [if_pos hp, f1]
      by_cases hlt : s < dp lo
      · rw [if_pos (nI_lt hlt (by omega))]
        obtain ⟨d, d1, d2, d3, d4, d5⟩ := ih (lo + 1) (dp lo) (by omega) f2
        refine ⟨d, d1, by omega, d3, fun x h1 h2 h3 => ?_, ?_⟩
        · by_cases e : x = lo
          · rw [e]; exact d2
          · exact d4 x (by omega) h2 h3
        · rcases d5 with d5 | d5
          · exact Or.inr ⟨lo, by omega, hp, d5.symm⟩
          · exact Or.inr d5
      · rw [if_neg (nI_nlt (by omega) (by omega))]
        obtain ⟨d, d1, d2, d3, d4, d5⟩ := ih (lo + 1) s (by omega) hs
        refine ⟨d, d1, d2, d3, fun x h1 h2 h3 => ?_, d5⟩
        by_cases e : x = lo
        · rw [e]; omega
        · exact d4 x (by omega) h2 h3
    · rw [if_neg hp]
      obtain ⟨d, d1, d2, d3, d4, d5⟩ := ih (lo + 1) s (by omega) hs
      refine ⟨d, d1, d2, d3, fun x h1 h2 h3 => ?_, d5⟩
      by_cases e : x = lo
      · rw [e] at h3; exact absurd h3 hp
      · exact d4 x (by omega) h2 h3
theorem zany_iff {p : Nat → Bool} : ∀ (k lo : Nat), zany p lo k = true ↔ ∃ x, lo ≤ x ∧ x < lo + k ∧ p x = true := by
  intro k
  induction k with
  | zero => intro lo; constructor
            · intro h; cases h
            · rintro ⟨x, h1, h2, -⟩; omega
  | succ k ih =>
    intro lo
    unfold zany
    by_cases hp : p lo = true
    · rw [if_pos hp]; exact ⟨fun _ => ⟨lo, by omega, by omega, hp⟩, fun _ => rfl⟩
    · rw [if_neg hp, ih]
      constructor
      · rintro ⟨x, h1, h2, h3⟩; exact ⟨x, by omega, by omega, h3⟩
      · rintro ⟨x, h1, h2, h3⟩
        have : x ≠ lo := fun h => hp (h ▸ h3)
        exact ⟨x, by omega, by omega, h3⟩
theorem zhang_D {p : Nat → Bool} {δ : Int32} : ∀ (k lo : Nat) (D : Nat → Int32) (x : Nat), zfold (fun D x => if p x then upd D x (D x + δ) else D) D lo k x = if lo ≤ x ∧ x < lo + k ∧ p x = true then D x + δ else D x := by
  intro k
  induction k with
  | zero => intro lo D x; rw [if_neg (by omega)]; rfl
  | succ k ih =>
    intro lo D x
    show zfold _ (if p lo = true then upd D lo (D lo + δ) else D) (lo + 1) k x = _
    rw [ih]
    by_cases e : x = lo
    · subst e
      rw [if_neg (by omega)]
      by_cases hp : p x = true
      · rw [if_pos hp, pk_us, if_pos ⟨by omega, by omega, hp⟩]
      · rw [if_neg hp, if_neg (fun h => hp h.2.2)]
    · have h1 : (if p lo = true then upd D lo (D lo + δ) else D) x = D x := by
        split
        · exact pk_un e
        · rfl
      rw [h1]
      by_cases h2 : lo + 1 ≤ x ∧ x < lo + 1 + k ∧ p x = true
      · rw [if_pos h2, if_pos ⟨by omega, by omega, h2.2.2⟩]
      · rw [if_neg h2, if_neg (fun h => h2 ⟨by omega, by omega, h.2.2⟩)]
def zmvd (un : Nat → Int32) (n : Nat) (dp : Nat → Nat) (j w : Nat) : Nat → Nat := fun x => if zwi un n j x = true then dp x - dp j + (dp w + 1) else dp x
def zmvp (pa : Nat → Option Nat) (j w : Nat) : Nat → Option Nat := fun x => if x = j then some w else pa x
theorem zmvd_in {un : Nat → Int32} {j w x : Nat} (h : zwi un n j x = true) : zmvd un n dp j w x = dp x - dp j + (dp w + 1) := if_pos h
theorem zmvd_out {un : Nat → Int32} {j w x : Nat} (h : ¬ zwi un n j x = true) : zmvd un n dp j w x = dp x := if_neg h
theorem zrel_move {R' N' M' : Nat → Nat → Int32} {i u v v' : Int32} (hC : zCt n R M pa dp) (hD : zDt N M) (h1 : zf_mov n R N i u = (v, R', N')) (h2 : zm_mov n M dp i u = (v', M')) : v = v' ∧ (∃ pa' dp', zCt n R' M' pa' dp') ∧ zDt N' M' ∧ ∀ k, k ≠ 3 → k ≠ 14 → k ≠ 15 → M' k = M k := by
  have stay : v = v' → R' = R → N' = N → M' = M → v = v' ∧ (∃ pa' dp', zCt n R' M' pa' dp') ∧ zDt N' M' ∧ ∀ k, k ≠ 3 → k ≠ 14 → k ≠ 15 → M' k = M k := by
    intro a1 a2 a3 a4; subst a2 a3 a4; exact ⟨a1, ⟨pa, dp, hC⟩, hD, fun _ _ _ _ => rfl⟩
  unfold zf_mov at h1
  unfold zm_mov at h2
  have hn := hC.1
  cases e1 : zi n i with
  | none => rw [e1] at h1 h2; cases h1; cases h2; exact stay rfl rfl rfl rfl
  | some j =>
    have hj := (zi_some (by omega) e1).1
    rw [e1] at h1 h2
    simp only at h1 h2
    cases e2 : zi n u with
    | none => rw [e2] at h1 h2; cases h1; cases h2; exact stay rfl rfl rfl rfl
    | some w =>
      have hw := (zi_some (by omega) e2).1
      rw [e2] at h1 h2
      simp only at h1 h2
      by_cases e3 : j = 0
      · rw [if_pos e3] at h1 h2; cases h1; cases h2; exact stay rfl rfl rfl rfl
      · rw [if_neg e3] at h1 h2
        obtain ⟨c1, c2, c3, c4, c5, c6, c7⟩ := id hC
        have hwi : ∀ x, zl_wi n (R 2) (nI j) 9 x = zl_wi n (M 3) (nI j) 9 x := zl_wi_congr (by omega) hC.up 9
        unfold zl_may at h1
        have r0 : ∀ q, q < n → R 0 q = M 1 q := fun q hq => c5 0 q (by decide) hq
        rw [hwi, r0 j hj, r0 w hw] at h1
        by_cases e4 : zl_wi n (M 3) (nI j) 9 (nI w) = true
        · rw [if_pos e4] at h1 h2; simp at h1; cases h2; obtain ⟨rfl, rfl, rfl⟩ := h1; exact stay rfl rfl rfl rfl
        · rw [if_neg e4] at h1 h2
          by_cases e5 : M 1 j < M 1 w
          · rw [if_pos e5] at h1 h2; simp at h1; cases h2; obtain ⟨rfl, rfl, rfl⟩ := h1; exact stay rfl rfl rfl rfl
          · rw [if_neg e5] at h1 h2
            have h33 : nI 3 = 3 := by decide
            rw [h33] at h2
            by_cases e6 : M 1 w = 3
            · rw [if_pos e6] at h1 h2; simp at h1; cases h2; obtain ⟨rfl, rfl, rfl⟩ := h1; exact stay rfl rfl rfl rfl
            · rw [if_neg e6] at h1 h2
              have r3 : ∀ q, q < n → R 3 q = nI (dp q) := fun q hq => c5 3 q (by decide) hq
              have d8 : ∀ q, q < n → dp q ≤ 8 := fun q hq => (c2 q hq).2.1
              have hp : ∀ x, zl_wi n (R 2) (nI j) 9 (nI x) = zwi (M 3) n j x := fun x => hwi (nI x)
              obtain ⟨d, dd1, dd2, dd3, dd4, dd5⟩ := zdw_nat (p := fun x => zl_wi n (R 2) (nI j) 9 (nI x)) (f := R 3) (dp := dp) (fun q hq => ⟨r3 q hq, d8 q hq⟩) n 0 0 (by omega) (by omega)
              have hdw : zl_dw n R (nI j) = nI d := dd1
              have hself := zwi_self hn c2 hj
              have hdeep : (8 < zl_dw n R (nI j) + (R 3 w + 1 - R 3 j)) ↔ zm_dm n M dp j (nI (dp w + 1) - nI (dp j)) = true := by
                have h88 : (8 : Int32) = nI 8 := by decide
                have := d8 w hw
                have := d8 j hj
                rw [hdw, r3 w hw, r3 j hj, nI_1, h88, ztoI8 (by omega) (by omega) (by omega)]
                unfold zm_dm
                rw [zany_iff]
                constructor
                · intro hlt
                  rcases dd5 with e9 | ⟨x, x1, x2, x3⟩
                  · have := dd4 j (by omega) hj (by rw [hp]; exact hself)
                    refine ⟨j, by omega, by omega, ?_⟩
                    rw [Bool.and_eq_true]
                    exact ⟨hself, by rw [decide_eq_true_eq, ztoI8 (by omega) (by omega) (by omega)]; omega⟩
                  · refine ⟨x, by omega, by omega, ?_⟩
                    rw [Bool.and_eq_true]
                    refine ⟨by rw [← hwi]; exact x2, ?_⟩
                    have := d8 x x1
                    rw [decide_eq_true_eq, ztoI8 (by omega) (by omega) (by omega)]; omega
                · rintro ⟨x, -, x1, x2⟩
                  rw [Bool.and_eq_true, decide_eq_true_eq] at x2
                  have := d8 x (by omega)
                  have h9 := (ztoI8 (by omega) (by omega) (by omega)).mp x2.2
                  have := dd4 x (by omega) (by omega) (by rw [hwi]; exact x2.1)
                  omega
              by_cases e7 : zm_dm n M dp j (nI (dp w + 1) - nI (dp j)) = true
              · rw [if_pos e7] at h2; rw [if_pos (hdeep.mpr e7)] at h1; simp at h1; cases h2; obtain ⟨rfl, rfl, rfl⟩ := h1; exact stay rfl rfl rfl rfl
              · rw [if_neg e7] at h2
                have e7' := fun h => e7 (hdeep.mp h)
                rw [if_neg e7', if_pos rfl] at h1
                cases h1; cases h2
                -- the new tree
                have hwn : zwi (M 3) n j w = false := by
                  have : ¬ zwi (M 3) n j w = true := e4
                  simpa using this
                have hM3 : zm_mv M j w (zn_m (zmN M) j) 3 = upd (M 3) j (nI w) := by
                  unfold zm_mv; split <;> rw [va_up_self]
                have hMo : ∀ k, k ≠ 3 → k ≠ 14 → k ≠ 15 → zm_mv M j w (zn_m (zmN M) j) k = M k := by
                  intro k k1 k2 k3
                  unfold zm_mv
                  split
                  · rw [va_up_ne _ _ k1, va_up_ne _ _ k3, va_up_ne _ _ k2]
                  · rw [va_up_ne _ _ k1, va_up_ne _ _ k3]
                have hpa0 : pa 0 = none := by
                  cases hp0 : pa 0 with
                  | none => rfl
                  | some p => have := ((c2 0 (by omega)).2.2.2.1 p hp0).2; have := c3 (by omega); omega
                have hin : ∀ x, x < n → zwi (M 3) n j x = true → dp j ≤ dp x := fun x hx h => (zwi_dp hn c2 hj x hx h).1
                have hdpj : zmvd (M 3) n dp j w j = dp w + 1 := by rw [zmvd_in hself]; omega
                have hdpw : zmvd (M 3) n dp j w w = dp w := zmvd_out (by rw [hwn]; decide)
                refine ⟨by decide, ⟨zmvp pa j w, zmvd (M 3) n dp j w, hn, fun x hx => ?_, fun _ => ?_, fun x hx hx2 => ?_, fun r x hr hx => ?_, fun x hx k hk => ?_, fun x hx => ?_⟩, ?_, hMo⟩
                · obtain ⟨f1, f2, f3, f4, f5⟩ := c2 x hx
                  refine ⟨f1, ?_, ?_, fun p hpp => ?_, fun hpp => ?_⟩
                  · by_cases hx9 : zwi (M 3) n j x = true
                    · rw [zmvd_in hx9]
                      have hq : ¬ (8 + dp j < dp x + (dp w + 1)) := fun hlt => e7 (by
                        unfold zm_dm; rw [zany_iff]
                        refine ⟨x, by omega, by omega, ?_⟩
                        rw [Bool.and_eq_true]
                        have := d8 x hx; have := d8 w hw; have := d8 j hj
                        exact ⟨hx9, by rw [decide_eq_true_eq, ztoI8 (by omega) (by omega) (by omega)]; omega⟩)
                      have := hin x hx hx9
                      omega
                    · rw [zmvd_out hx9]; exact f2
                  · rw [hM3]
                    show _ = zo (if x = j then some w else pa x)
                    by_cases e9 : x = j
                    · rw [if_pos e9, e9, pk_us]; rfl
                    · rw [if_neg e9, pk_un e9]; exact f3
                  · change (if x = j then some w else pa x) = some p at hpp
                    by_cases e9 : x = j
                    · rw [if_pos e9] at hpp; cases hpp; exact ⟨hw, by rw [e9, hdpj, hdpw]⟩
                    · rw [if_neg e9] at hpp
                      obtain ⟨g1, g2⟩ := f4 p hpp
                      refine ⟨g1, ?_⟩
                      have hup := zwi_up hn c2 hx hj e9 hpp
                      by_cases h9 : zwi (M 3) n j p = true
                      · rw [zmvd_in h9, zmvd_in (hup.trans h9)]; have := hin p g1 h9; omega
                      · rw [zmvd_out h9, zmvd_out (by rw [hup]; exact h9)]; exact g2
                  · change (if x = j then some w else pa x) = none at hpp
                    by_cases e9 : x = j
                    · rw [if_pos e9] at hpp; cases hpp
                    · rw [if_neg e9] at hpp
                      rw [zmvd_out (by rw [zwi_no hn c2 hx hj e9 hpp]; decide)]
                      exact f5 hpp
                · rw [zmvd_out (by rw [zwi_no hn c2 (by omega) hj (fun h => e3 h.symm) hpa0]; decide)]
                  exact c3 (by omega)
                · change (if x = j then some w else pa x) = none at hx2
                  by_cases e9 : x = j
                  · rw [if_pos e9] at hx2; cases hx2
                  · rw [if_neg e9] at hx2; exact c4 x hx hx2
                · unfold zl_hang
                  match r, hr with
                  | 0, _ => show va_up (va_up R 3 _) 2 _ 0 x = zm_mv M j w _ 1 x; rw [va_up_ne _ _ (by decide), va_up_ne _ _ (by decide), hMo 1 (by decide) (by decide) (by decide)]; exact c5 0 x (by decide) hx
                  | 1, _ => show va_up (va_up R 3 _) 2 _ 1 x = zm_mv M j w _ 2 x; rw [va_up_ne _ _ (by decide), va_up_ne _ _ (by decide), hMo 2 (by decide) (by decide) (by decide)]; exact c5 1 x (by decide) hx
                  | 2, _ =>
                    show va_up (va_up R 3 _) 2 _ 2 x = zm_mv M j w _ 3 x
                    rw [va_up_self, hM3]
                    by_cases e9 : x = j
                    · rw [e9, pk_us, pk_us]
                    · rw [pk_un e9, pk_un e9]; exact hC.up x hx
                  | 3, _ =>
                    show va_up (va_up R 3 _) 2 _ 3 x = nI (zmvd (M 3) n dp j w x)
                    rw [va_up_ne _ _ (by decide), va_up_self]
                    unfold zl_hangD
                    rw [zhang_D, hp]
                    by_cases e9 : zwi (M 3) n j x = true
                    · rw [if_pos ⟨by omega, by omega, e9⟩, zmvd_in e9, r3 x hx, r3 w hw, r3 j hj, nI_1, zadds (hin x hx e9)]
                    · rw [if_neg (fun h => e9 h.2.2), zmvd_out e9, r3 x hx]
                  | r + 4, hr =>
                    show va_up (va_up R 3 _) 2 _ (r + 4) x = zm_mv M j w _ (r + 4) x
                    rw [va_up_ne _ _ (by omega), va_up_ne _ _ (by omega), hMo (r + 4) (by omega) (by omega) (by omega)]
                    exact c5 (r + 4) x hr hx
                · exact (c6 x hx k hk).trans (by rw [hMo 10 (by decide) (by decide) (by decide)])
                · exact c7 x hx
                · -- the notes
                  obtain ⟨-, o1, o2⟩ := hD.2 j (by omega)
                  have hm := hD.m j
                  refine ⟨fun k hk => ?_, fun q hq => ?_⟩
                  · unfold zn_am zm_mv
                    rw [hm]
                    by_cases e9 : zn_m N j < 5
                    · rw [if_pos e9, if_pos e9]
                      match k, hk with
                      | 0, _ => exact hD.1 0 (by decide)
                      | 1, _ => exact hD.1 1 (by decide)
                      | 2, _ =>
                        show va_up (va_up N 2 _) 4 _ 2 = va_up (va_up (va_up M 14 _) 15 _) 3 _ 14
                        rw [va_up_ne _ _ (by decide), va_up_self, va_up_ne _ _ (by decide), va_up_ne _ _ (by decide), va_up_self, hD.1 2 (by decide), hC.up j hj, Nat.mul_comm]; rfl
                      | 3, _ => exact hD.1 3 (by decide)
                      | 4, _ =>
                        show va_up (va_up N 2 _) 4 _ 4 = va_up (va_up (va_up M 14 _) 15 _) 3 _ 15
                        rw [va_up_self, va_up_ne _ _ (by decide), va_up_self, hD.1 4 (by decide)]; rfl
                      | 5, _ => exact hD.1 5 (by decide)
                    · rw [if_neg e9, if_neg e9]
                      match k, hk with
                      | 0, _ => exact hD.1 0 (by decide)
                      | 1, _ => exact hD.1 1 (by decide)
                      | 2, _ => exact hD.1 2 (by decide)
                      | 3, _ => exact hD.1 3 (by decide)
                      | 4, _ =>
                        show N 4 = va_up (va_up M 15 _) 3 _ 15
                        rw [va_up_ne _ _ (by decide), va_up_self, Nat.add_zero]
                        funext q
                        have h4 : N 4 = M 15 := hD.1 4 (by decide)
                        by_cases eq : q = j
                        · rw [eq, pk_us]; exact o1
                        · rw [pk_un eq, h4]
                      | 5, _ => exact hD.1 5 (by decide)
                  · obtain ⟨p1, p2⟩ := hD.2 q hq
                    unfold zn_am
                    by_cases e9 : zn_m N j < 5
                    · rw [if_pos e9]
                      refine ⟨p1, ?_⟩
                      show va_up (va_up N 2 _) 4 _ 4 q = nI (va_up (va_up N 2 _) 4 _ 4 q).toNatClampNeg ∧ (va_up (va_up N 2 _) 4 _ 4 q).toNatClampNeg ≤ 5
                      rw [va_up_self]
                      by_cases eq : q = j
                      · subst eq; rw [pk_us, nI_clamp (by omega)]; exact ⟨rfl, by omega⟩
                      · rw [pk_un eq]; exact p2
                    · rw [if_neg e9]; exact ⟨p1, p2⟩
end ZR5
