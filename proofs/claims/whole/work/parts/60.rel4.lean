/-! PURE: take -/
theorem zby_s : ∀ c, c < 128 → zby (nI c) = nI c := by decide +kernel
theorem zvn (x : Int32) : vp_nar .byte x = zby x := rfl
theorem zl_cp_r {R Q : Nat → Nat → Int32} {i j : Nat} : ∀ k r, r ≠ 9 → r ≠ 10 → zl_cp R i Q j k r = R r := by
  intro k
  induction k with
  | zero => intro r h9 _; exact va_up_ne _ _ h9
  | succ k ih =>
    intro r h9 h10
    show zl_ats (zl_cp R i Q j k) i k _ r = _
    unfold zl_ats
    split
    · rw [va_up_ne _ _ h9, va_up_ne _ _ h10]; exact ih r h9 h10
    · exact ih r h9 h10
theorem zl_cp_9 {R Q : Nat → Nat → Int32} {i j : Nat} : ∀ k, k ≤ 16 → ∀ q, zl_cp R i Q j k 9 q = if q = i then nI k else R 9 q := by
  intro k
  induction k with
  | zero => intro _ q; show va_up R 9 _ 9 q = _; rw [va_up_self]; rfl
  | succ k ih =>
    intro hk q
    show zl_ats (zl_cp R i Q j k) i k _ 9 q = _
    unfold zl_ats
    rw [if_pos (by omega), va_up_self]
    by_cases e : q = i
    · rw [if_pos e, e, pk_us]
    · rw [if_neg e, pk_un e, ih (by omega) q, if_neg e]
theorem zl_cp_10 {R Q : Nat → Nat → Int32} {i j : Nat} : ∀ k, k ≤ 16 → ∀ q, zl_cp R i Q j k 10 q = if i * 16 ≤ q ∧ q < i * 16 + k then Q 10 (j * 16 + (q - i * 16)) else R 10 q := by
  intro k
  induction k with
  | zero => intro _ q; rw [if_neg (by omega)]; exact congrFun (va_up_ne _ _ (by decide)) q
  | succ k ih =>
    intro hk q
    show zl_ats (zl_cp R i Q j k) i k _ 10 q = _
    unfold zl_ats
    rw [if_pos (by omega), va_up_ne _ _ (by decide), va_up_self]
    by_cases e : q = i * 16 + k
    · rw [if_pos (by omega), e, pk_us]; congr 1; omega
    · rw [pk_un e, ih (by omega) q]
      by_cases e2 : i * 16 ≤ q ∧ q < i * 16 + k
      · rw [if_pos e2, if_pos (by omega)]
      · rw [if_neg e2, if_neg (by omega)]
theorem zl_cpy_lo {R Q : Nat → Nat → Int32} {i j t r : Nat} (h : r < 4) : zl_cpy R i Q j t r = R r := by
  unfold zl_cpy
  rw [va_up_ne _ _ (by omega), va_up_ne _ _ (by omega), va_up_ne _ _ (by omega), va_up_ne _ _ (by omega), va_up_ne _ _ (by omega), zl_cp_r _ _ (by omega) (by omega)]
theorem zl_cpy_mid {R Q : Nat → Nat → Int32} {i j t r : Nat} (h4 : 4 ≤ r) (h8 : r ≤ 8) : zl_cpy R i Q j t r = upd (R r) i (Q r j) := by
  unfold zl_cpy
  have h : r = 4 ∨ r = 5 ∨ r = 6 ∨ r = 7 ∨ r = 8 := by omega
  rcases h with rfl | rfl | rfl | rfl | rfl <;> simp [va_up, zl_cp_r]
theorem zl_cpy_hi {R Q : Nat → Nat → Int32} {i j t r : Nat} (h : 8 < r) : zl_cpy R i Q j t r = zl_cp R i Q j t r := by
  unfold zl_cpy
  rw [va_up_ne _ _ (by omega), va_up_ne _ _ (by omega), va_up_ne _ _ (by omega), va_up_ne _ _ (by omega), va_up_ne _ _ (by omega)]
theorem zm_ct_q {x y : Nat} (hxy : x ≠ y) : ∀ (kk k : Nat) (F : Nat → Int32), k + kk = 16 → ∀ q, zm_ct x y kk k F q = if 16 * x + k ≤ q ∧ q < 16 * x + 16 then zby (F (16 * y + (q - 16 * x))) else F q := by
  intro kk
  induction kk with
  | zero => intro k F hk q; rw [if_neg (by omega)]; rfl
  | succ kk ih =>
    intro k F hk q
    show zm_ct x y kk (k + 1) (upd F (16 * x + k) (vp_nar .byte (F (16 * y + k)))) q = _
    rw [ih (k + 1) _ (by omega) q, zvn]
    by_cases e : q = 16 * x + k
    · rw [if_neg (by omega), if_pos (by omega), e, pk_us]; congr 2; omega
    · by_cases e2 : 16 * x + k + 1 ≤ q ∧ q < 16 * x + 16
      · rw [if_pos (by omega), if_pos (by omega), pk_un (by omega)]
      · rw [if_neg (by omega), if_neg (by omega), pk_un e]
theorem zm_cp0_mid {M : Nat → Nat → Int32} {x y r : Nat} (h4 : 4 ≤ r) (h9 : r ≤ 9) : zm_cp0 M x y r = upd (M r) x (M r y) := by
  unfold zm_cp0 zm_c6
  have h : r = 4 ∨ r = 5 ∨ r = 6 ∨ r = 7 ∨ r = 8 ∨ r = 9 := by omega
  rcases h with rfl | rfl | rfl | rfl | rfl | rfl <;> simp [va_up]
theorem zm_cp0_10 {M : Nat → Nat → Int32} {x y : Nat} (hxy : x ≠ y) (q : Nat) : zm_cp0 M x y 10 q = if 16 * x ≤ q ∧ q < 16 * x + 16 then zby (M 10 (16 * y + (q - 16 * x))) else M 10 q := by
  unfold zm_cp0
  rw [va_up_self, zm_ct_q hxy 16 0 _ (by omega)]
  simp
section ZR4
variable {n : Nat} {R M : Nat → Nat → Int32} {pa : Nat → Option Nat} {dp : Nat → Nat} {N : Nat → Nat → Int32}
theorem zrel_take {c m : Nat} {od fr : Int32} {Q K R' K' M' : Nat → Nat → Int32} {i v v' : Int32} (hC : zCt n R M pa dp) (h : zEt n c m od Q K fr M) (h1 : zf_tak c m od R Q K i = (v, R', K')) (h2 : zm_tak c fr M i = (v', M')) : v = v' ∧ zCt n R' M' pa dp ∧ zEt n c m od Q K' fr M' ∧ ∀ k, (k < 4 ∨ (10 < k ∧ k ≠ 19)) → M' k = M k := by
  unfold zf_tak at h1
  unfold zm_tak at h2
  have stay : v = v' → R' = R → K' = K → M' = M → v = v' ∧ zCt n R' M' pa dp ∧ zEt n c m od Q K' fr M' ∧ ∀ k, (k < 4 ∨ (10 < k ∧ k ≠ 19)) → M' k = M k := by
    intro a1 a2 a3 a4; subst a2 a3 a4; exact ⟨a1, hC, h, fun _ _ => rfl⟩
  have h01 : ¬ nI 1 = (0 : Int32) := by decide
  cases e1 : zi c i with
  | none => rw [e1] at h1 h2; cases h1; cases h2; exact stay rfl rfl rfl rfl
  | some j =>
    have hj := (zi_some (by have := h.1; omega) e1).1
    rw [e1] at h1 h2
    simp only at h1 h2
    obtain ⟨a1, a2, a3, a4, a5⟩ := h
    obtain ⟨b1, b2, b3, b4, b5, b6⟩ := a4 j hj
    rw [← b3, ← b1] at h2
    rcases a5 with h9 | ⟨h9, h9'⟩ | ⟨c1, c2, c3⟩
    · omega
    · rw [h9, if_neg h01] at h1
      rw [h9', if_pos nI_0] at h2
      simp at h1 h2
      obtain ⟨rfl, rfl, rfl⟩ := h1
      obtain ⟨rfl, rfl⟩ := h2
      exact stay nI_0.symm rfl rfl rfl
    · rw [c1, if_pos nI_0] at h1
      by_cases e2 : K 3 j = 0
      · rw [if_pos e2] at h1 h2
        rw [c2, if_neg h01] at h2
        obtain ⟨d1, d2, d3, d4⟩ := c3 j hj
        change (1, zl_cpy R (zkc K 0 j) Q (zkc K 1 j) (zl_t Q (zkc K 1 j)), _) = _ at h1
        change (nI 1, zm_cp0 _ (zkc K 0 j) (200 + j)) = _ at h2
        cases h1; cases h2
        generalize hx : zkc K 0 j = x at *
        generalize hy : zkc K 1 j = y at *
        obtain ⟨t1, t2, t3, t4⟩ := d3.t
        obtain ⟨e1', e2', e3, e4, e5, e6, e7⟩ := hC
        have hxn : x ≠ 200 + j := by omega
        have hM0 : ∀ r, r ≠ 19 → (va_up M 19 (upd (M 19) j (nI 1))) r = M r := fun r hr => va_up_ne _ _ hr
        have r9 : ∀ q, zl_cpy R x Q y (zl_t Q y) 9 q = if q = x then nI (zl_t Q y) else R 9 q := fun q => by rw [zl_cpy_hi (by decide), zl_cp_9 _ t2]
        have r10 : ∀ q, zl_cpy R x Q y (zl_t Q y) 10 q = if x * 16 ≤ q ∧ q < x * 16 + zl_t Q y then Q 10 (y * 16 + (q - x * 16)) else R 10 q := fun q => by rw [zl_cpy_hi (by decide), zl_cp_10 _ t2]
        have rt : ∀ q, zl_t (zl_cpy R x Q y (zl_t Q y)) q = if q = x then zl_t Q y else zl_t R q := fun q => by
          show (zl_cpy R x Q y (zl_t Q y) 9 q).toNatClampNeg = _
          rw [r9]
          by_cases e : q = x
          · rw [if_pos e, if_pos e]; exact nI_clamp (by omega)
          · rw [if_neg e, if_neg e]; rfl
        have m10 : ∀ q, zm_cp0 (va_up M 19 (upd (M 19) j (nI 1))) x (200 + j) 10 q = if 16 * x ≤ q ∧ q < 16 * x + 16 then zby (M 10 (16 * (200 + j) + (q - 16 * x))) else M 10 q := fun q => by
          rw [zm_cp0_10 hxn, hM0 10 (by decide)]
        have same : zsame Q y (zl_cpy R x Q y (zl_t Q y)) x := by
          refine ⟨fun w hw hw2 => ?_, fun k hk => ?_⟩
          · by_cases e9 : w = 9
            · subst e9; rw [r9, if_pos rfl]; exact t1
            · rw [zl_cpy_mid (by omega) (by omega), pk_us]
          · rw [r10, if_pos (by omega)]; congr 1; omega
        refine ⟨rfl, ⟨e1', ?_, e3, e4, fun w q hw hq => ?_, fun q hq k hk => ?_, fun q hq => ?_⟩, ⟨a1, a2, a3, fun q hq => ?_, Or.inr (Or.inr ⟨c1, c2, fun q hq => ?_⟩)⟩, fun k hk => ?_⟩
        · rw [zm_cp0_row (by omega), hM0 3 (by decide)]; exact e2'
        · match w, hw with
          | 0, _ => show _ = zm_cp0 _ x (200 + j) 1 q; rw [zl_cpy_lo (by decide), zm_cp0_row (by omega), hM0 1 (by decide)]; exact e5 0 q (by decide) hq
          | 1, _ => show _ = zm_cp0 _ x (200 + j) 2 q; rw [zl_cpy_lo (by decide), zm_cp0_row (by omega), hM0 2 (by decide)]; exact e5 1 q (by decide) hq
          | 2, _ => show _ = zm_cp0 _ x (200 + j) 3 q; rw [zl_cpy_lo (by decide), zm_cp0_row (by omega), hM0 3 (by decide)]; exact e5 2 q (by decide) hq
          | 3, _ => rw [zl_cpy_lo (by decide)]; exact e5 3 q (by decide) hq
          | w + 4, hw =>
            show _ = zm_cp0 _ x (200 + j) (w + 4) q
            rw [zm_cp0_mid (by omega) (by omega), hM0 _ (by omega)]
            by_cases eq : q = x
            · subst eq; rw [pk_us, ← same.1 (w + 4) (by omega) (by omega)]; exact d4.1 (w + 4) (by omega) (by omega)
            · rw [pk_un eq]
              have : zl_cpy R x Q y (zl_t Q y) (w + 4) q = R (w + 4) q := by
                by_cases e9 : w + 4 = 9
                · rw [e9, r9, if_neg eq]
                · rw [zl_cpy_mid (by omega) (by omega), pk_un eq]
              rw [this]; exact e5 (w + 4) q hw hq
        · rw [rt] at hk
          rw [r10, m10]
          by_cases eq : q = x
          · subst eq
            rw [if_pos rfl] at hk
            rw [if_pos (by omega), if_pos (by omega)]
            have h1 : y * 16 + (q * 16 + k - q * 16) = y * 16 + k := by omega
            have h2 : 16 * (200 + j) + (q * 16 + k - 16 * q) = (200 + j) * 16 + k := by omega
            rw [h1, h2, ← d4.2 k hk]
            obtain ⟨cc, cc1, cc2, cc3⟩ := t4 k hk
            rw [cc3, zby_s cc (by omega)]
          · rw [if_neg eq] at hk
            have := (e7 q hq).2.t.2.1
            rw [if_neg (by omega), if_neg (by omega)]
            exact e6 q hq k hk
        · by_cases eq : q = x
          · subst eq
            refine ⟨?_, d3.same same⟩
            have := (e7 q hq).1
            unfold zwk
            rw [zl_cpy_lo (by decide), zl_cpy_lo (by decide)]; exact this
          · have hs : zsame R q (zl_cpy R x Q y (zl_t Q y)) q := by
              refine ⟨fun w hw hw2 => ?_, fun k hk => ?_⟩
              · by_cases e9 : w = 9
                · rw [e9, r9, if_neg eq]
                · rw [zl_cpy_mid (by omega) (by omega), pk_un eq]
              · have := (e7 q hq).2.t.2.1
                rw [r10, if_neg (by omega)]
            refine ⟨?_, (e7 q hq).2.same hs⟩
            have := (e7 q hq).1
            unfold zwk
            rw [zl_cpy_lo (by decide), zl_cpy_lo (by decide)]; exact this
        · obtain ⟨p1, p2, p3, p4, p5, p6⟩ := a4 q hq
          rw [zm_cp0_row (by omega), zm_cp0_row (by omega), zm_cp0_row (by omega), hM0 17 (by decide), hM0 18 (by decide), va_up_self, va_up_self]
          refine ⟨p1, p2, ?_, p4, p5, p6⟩
          by_cases eq : q = j
          · rw [eq, pk_us, pk_us]
          · rw [pk_un eq, pk_un eq]; exact p3
        · obtain ⟨p0, p1, p2, p3, p4⟩ := c3 q hq
          refine ⟨p0, p1, p2, fun w hw hw2 => ?_, fun k hk => ?_⟩
          · rw [zm_cp0_mid hw hw2, pk_un (by omega), hM0 w (by omega)]; exact p3 w hw hw2
          · have := p2.t.2.1
            change k < zl_t Q (zkc K 1 q) at hk
            rw [m10, if_neg (by omega)]; exact p4 k hk
        · rw [zm_cp0_row (by omega), hM0 k (by omega)]
      · rw [if_neg e2] at h1 h2
        cases h1; cases h2
        exact stay nI_0.symm rfl rfl rfl
end ZR4
