/-! PURE: a line is read alike -/
section ZL9
variable {c : Nat → Int32}
theorem zix1_43 {x : Int32} (h : x = nI 43) : zt_ix zc_k1 4 x = none := by subst h; decide
theorem zix1_lt {x : Int32} {k : Nat} (h : zt_ix zc_k1 4 x = some k) : k < 4 := by
  have := (zfindo_lt _ 4 0 k h).1
  omega
theorem zt_line_eq (i nx : Nat) (wr : Int32) (R : Nat → Nat → Int32) : zt_line c i nx wr R = match zt_dep c i nx wr R with
  | (false, nx1, wr1, R1) => (false, nx1, wr1, R1)
  | (true, nx1, wr1, R1) => match zt_kind c (i + 1) i nx1 wr1 R1 with
    | (false, nx2, wr2, R2) => (false, nx2, wr2, R2)
    | (true, nx2, wr2, R2) => match zt_num c i nx2 wr2 R2 with
      | (false, nx3, wr3, R3) => (false, nx3, wr3, R3)
      | (true, nx3, wr3, R3) => match zt_title c i nx3 wr3 R3 with
        | (false, nx4, wr4, R4) => (false, nx4, wr4, R4)
        | (true, nx4, wr4, R4) => zt_rest c i nx4 wr4 R4 := by
  unfold zt_line
  rcases zt_dep c i nx wr R with ⟨ok, nx1, wr1, R1⟩
  cases ok
  · rfl
  simp only
  rcases zt_kind c (i + 1) i nx1 wr1 R1 with ⟨ok, nx2, wr2, R2⟩
  cases ok
  · rfl
  simp only
  rcases zt_num c i nx2 wr2 R2 with ⟨ok, nx3, wr3, R3⟩
  cases ok
  · rfl
  simp only
  rcases zt_title c i nx3 wr3 R3 with ⟨ok, nx4, wr4, R4⟩
  cases ok
  · rfl
  simp only
  unfold zt_rest
  rcases zt_date c i nx4 wr4 R4 with ⟨ok, nx5, wr5, R5⟩
  cases ok
  · rfl
  simp only
  unfold zt_xe
  rcases zt_ext c i nx5 wr5 R5 with ⟨ok, nx6, wr6, R6⟩
  cases ok
  · rfl
  rfl
/-- what is known between two lines -/
def zPos (i : Nat) (R : Nat → Nat → Int32) (pa : Nat → Option Nat) (dp : Nat → Nat) : Prop := ∀ j, j < i → ∃ o : Option Nat, pa (100 + j) = o.map (fun q => 100 + q) ∧ R 2 j = zo o ∧ (o = none → j = 0) ∧ ∀ q, o = some q → q < j ∧ dp (100 + q) + 1 = dp (100 + j) ∧ ∀ x, q < x → x < j → dp (100 + j) ≤ dp (100 + x)
def zPrs (i : Nat) (R M : Nat → Nat → Int32) (dp : Nat → Nat) : Prop := ∀ j, j < i → R 0 j = M 1 (100 + j) ∧ R 1 j = M 2 (100 + j) ∧ R 3 j = nI (dp (100 + j)) ∧ zsame R j M (100 + j) ∧ zwk R j ∧ zwp R j
def zPs (i : Nat) (R M : Nat → Nat → Int32) (pa : Nat → Option Nat) (dp : Nat → Nat) : Prop := i ≤ 100 ∧ zfor (M 3) pa dp (fun j => 100 ≤ j ∧ j < 100 + i) ∧ zPrs i R M dp ∧ zPos i R pa dp ∧ (0 < i → dp 100 = 0)
theorem zclimb_q {i : Nat} {R : Nat → Nat → Int32} {pa : Nat → Option Nat} {dp : Nat → Nat} (h : zPos i R pa dp) (h0 : 0 < i → dp 100 = 0) {n : Nat} (hn : 1 ≤ n) : ∀ (f j : Nat), j < i → n ≤ dp (100 + j) + 1 → dp (100 + j) + 1 ≤ n + f → ∃ q, zclimb pa dp n f (100 + j) = 100 + q ∧ q ≤ j ∧ dp (100 + q) + 1 = n ∧ ∀ x, q < x → x ≤ j → n ≤ dp (100 + x) := by
  intro f
  induction f with
  | zero => intro j hj h1 h2; exact ⟨j, rfl, Nat.le_refl _, by omega, fun x a b => by omega⟩
  | succ f ih =>
    intro j hj h1 h2
    unfold zclimb
    by_cases e : dp (100 + j) < n
    · rw [if_pos e]; exact ⟨j, rfl, Nat.le_refl _, by omega, fun x a b => by omega⟩
    · rw [if_neg e]
      obtain ⟨o, o1, o2, o3, o4⟩ := h j hj
      cases o with
      | none =>
        have := o3 rfl
        subst this
        have := h0 (by omega)
        rw [Nat.add_zero] at e
        omega
      | some q =>
        obtain ⟨q1, q2, q3⟩ := o4 q rfl
        rw [o1]
        obtain ⟨q', r1, r2, r3, r4⟩ := ih q (by omega) (by omega) (by omega)
        refine ⟨q', r1, by omega, r3, fun x x1 x2 => ?_⟩
        by_cases e1 : x ≤ q
        · exact r4 x x1 e1
        · by_cases e2 : x = j
          · subst e2; omega
          · have := q3 x (by omega) (by omega); omega
theorem zlod_ok {f : Nat → Int32} {w : Int32} {q : Nat} (hq : f q = w) : ∀ i, q < i → (∀ x, q < x → x < i → ¬ f x = w) → zl_lod f w i = nI q := by
  intro i
  induction i with
  | zero => intro h; omega
  | succ i ih =>
    intro h hx
    unfold zl_lod
    by_cases e : q = i
    · subst e; rw [if_pos hq]
    · rw [if_neg (hx i (by omega) (by omega)), ih (by omega) (fun x a b => hx x a (by omega))]
theorem zbare_u {i : Nat} {R : Nat → Nat → Int32} {d : Int32} : zu1 i R (zl_bare R i d) := by
  refine ⟨fun r j hr hj => ?_, fun j hj => ?_⟩
  · unfold zl_bare
    simp only [va_up]
    repeat' split
    all_goals first | rfl | (subst_vars; exact pk_un hj)
  · unfold zl_bare
    rw [va_up_ne _ _ (by decide), va_up_ne _ _ (by decide), va_up_ne _ _ (by decide), va_up_ne _ _ (by decide), va_up_ne _ _ (by decide), va_up_ne _ _ (by decide), va_up_ne _ _ (by decide), va_up_ne _ _ (by decide)]
theorem zline_sim {i nx : Nat} {wr : Int32} {R M : Nat → Nat → Int32} {pa : Nat → Option Nat} {dp : Nat → Nat} (hP : zPs i R M pa dp) (hi : i < 100) : zfail (zt_line c i nx wr R) (zm_line c (100 + i) pa dp nx M) ∨ ∃ p R' M', zt_line c i nx wr R = (true, p, wr, R') ∧ zm_line c (100 + i) pa dp nx M = (true, p, M') ∧ zPs (i + 1) R' M' (va_up pa (100 + i) (zm_o c (100 + i) pa dp nx)) (va_up dp (100 + i) (zm_n c (100 + i) dp nx)) := by
  obtain ⟨p1, p2, p3, p4, p5⟩ := id hP
  have hmo : zt_mo i R = zm_lm (100 + i) dp := by
    unfold zt_mo zm_lm
    by_cases e : i = 0
    · rw [if_pos e, if_pos (by omega)]
    · rw [if_neg e, if_neg (by omega)]
      have h3 := (p3 (i - 1) (by omega)).2.2.1
      have h8 := (p2 (100 + (i - 1)) (by omega)).2.1
      have : zl_d R (i - 1) = dp (100 + (i - 1)) := by unfold zl_d; rw [h3, nI_clamp (by omega)]
      rw [this, show 100 + i - 1 = 100 + (i - 1) by omega]
  obtain ⟨d, p1', a1, a2, a3, a4, a5⟩ := zplus_pl (c := c) (lm := zm_lm (100 + i) dp) (zm_lm (100 + i) dp) 0 nx (by omega)
  have hlm8 : zm_lm (100 + i) dp ≤ 8 := by unfold zm_lm; split <;> omega
  have hlm1 : i ≠ 0 → 1 ≤ zm_lm (100 + i) dp := fun h => by unfold zm_lm; rw [if_neg (by omega)]; omega
  have hzn : zm_n c (100 + i) dp nx = d := by unfold zm_n; rw [a4]
  rw [zt_line_eq]
  have hml : zm_line c (100 + i) pa dp nx M = zm_line1 c (100 + i) pa dp nx (zm_M0 (100 + i) M) := by unfold zm_line; rw [if_neg (by omega)]
  have hM0u : zu1 (100 + i) M (zm_M0 (100 + i) M) := by
    unfold zm_M0
    exact ((((zu1.rf.up (k := 4) (by decide) _).up' (k := 5) (by decide) (fun j hj => by rw [pk_un hj, va_up_ne _ _ (by decide)])).up' (k := 6) (by decide) (fun j hj => by rw [pk_un hj, va_up_ne _ _ (by decide), va_up_ne _ _ (by decide)])).up' (k := 7) (by decide) (fun j hj => by rw [pk_un hj, va_up_ne _ _ (by decide), va_up_ne _ _ (by decide), va_up_ne _ _ (by decide)])).up' (k := 8) (by decide) (fun j hj => by rw [pk_un hj, va_up_ne _ _ (by decide), va_up_ne _ _ (by decide), va_up_ne _ _ (by decide), va_up_ne _ _ (by decide)])
  have hdep : zt_dep c i nx wr R = zt_dep1 i (d, p1') wr R := by unfold zt_dep; rw [hmo, a1]
  rw [hdep]
  by_cases e0 : c p1' = nI 43
  · left
    have hd := a5 e0
    have h1 : zt_dep1 i (d, p1') wr R = (true, p1', wr, zl_bare R i (nI d)) := by
      unfold zt_dep1
      by_cases e : i = 0
      · rw [if_pos e]
      · rw [if_neg e, if_neg (by have := hlm1 e; simp only; omega)]
    rw [h1, hml]
    simp only
    unfold zt_kind zm_line1 zm_place
    rw [zix1_43 e0, a4, if_pos e0]
    exact ⟨p1', p1', _, _, rfl, rfl⟩
  by_cases eB : i ≠ 0 ∧ d = 0
  · left
    obtain ⟨b1, b2⟩ := eB
    have h1 : zt_dep1 i (d, p1') wr R = (false, p1', nI p1', R) := by
      unfold zt_dep1; rw [if_neg b1, if_pos b2]
    rw [h1, hml]
    unfold zm_line1 zm_place
    rw [a4, if_neg e0]
    simp only
    rw [if_neg (by omega), if_pos b2]
    exact ⟨p1', p1', _, _, rfl, rfl⟩
  -- the level above
  obtain ⟨o, ho1, ho2, ho3, ho4⟩ : ∃ o : Option Nat, zm_o c (100 + i) pa dp nx = o.map (fun q => 100 + q) ∧ zl_bare R i (nI d) 2 i = zo o ∧ (o = none → i = 0) ∧ ∀ q, o = some q → q < i ∧ dp (100 + q) + 1 = d ∧ ∀ x, q < x → x < i → d ≤ dp (100 + x) := by
    have hb2 : zl_bare R i (nI d) 2 i = zl_lod (upd (R 3) i (nI d)) (nI d - nI 1) i := by unfold zl_bare; simp [va_up, upd]
    by_cases e : i = 0
    · subst e
      refine ⟨none, by unfold zm_o; rw [if_pos rfl]; rfl, by rw [hb2]; rfl, fun _ => rfl, fun q hq => by cases hq⟩
    · have hd1 : 1 ≤ d := by
        have : ¬ d = 0 := fun h => eB ⟨e, h⟩
        omega
      have hlim : d ≤ dp (100 + (i - 1)) + 1 := by
        have : zm_lm (100 + i) dp ≤ dp (100 + (i - 1)) + 1 := by
          unfold zm_lm; rw [if_neg (by omega), show 100 + i - 1 = 100 + (i - 1) by omega]; omega
        omega
      have h8 := (p2 (100 + (i - 1)) (by omega)).2.1
      obtain ⟨q, q1, q2, q3, q4⟩ := zclimb_q p4 p5 hd1 9 (i - 1) (by omega) hlim (by omega)
      refine ⟨some q, ?_, ?_, (fun h => by cases h), fun q' hq' => ?_⟩
      · unfold zm_o
        rw [if_neg (by omega), hzn, show 100 + i - 1 = 100 + (i - 1) by omega, q1]; rfl
      · rw [hb2]
        refine zlod_ok ?_ i (by omega) (fun x x1 x2 => ?_)
        · rw [pk_un (by omega), (p3 q (by omega)).2.2.1, pk_sub hd1]; congr 1; omega
        · rw [pk_un (by omega), (p3 x (by omega)).2.2.1, pk_sub hd1, nI_eq (by have := (p2 (100 + x) (by omega)).2.1; omega) (by omega)]
          have := q4 x x1 (by omega); omega
      · cases hq'
        exact ⟨by omega, q3, fun x x1 x2 => q4 x x1 (by omega)⟩
  have h1 : zt_dep1 i (d, p1') wr R = (true, p1', wr, zl_bare R i (nI d)) := by
    unfold zt_dep1
    by_cases e : i = 0
    · rw [if_pos e]
    · rw [if_neg e, if_neg (fun h => eB ⟨e, h⟩)]
  have hpl : zm_place c (100 + i) pa dp nx (zm_M0 (100 + i) M) = zm_pf c (100 + i) p1' (o.map (fun q => 100 + q)) (zm_M0 (100 + i) M) := by
    unfold zm_place
    rw [a4, if_neg e0]
    simp only
    rw [← ho1]
    unfold zm_o
    by_cases e : i = 0
    · rw [if_pos (by omega), if_pos (by omega)]
    · rw [if_neg (by omega), if_neg (fun h => eB ⟨e, h⟩), if_neg (by omega), hzn]
  rw [h1]
  simp only
  have hb : zu1 i R (zl_bare R i (nI d)) := zbare_u
  have hb0 : zl_bare R i (nI d) 0 = R 0 := by unfold zl_bare; simp [va_up]
  have hzi : zi (i + 1) (zl_bare R i (nI d) 2 i) = o := by
    rw [ho2]; exact zi_zo (by omega) (fun q hq => by have := (ho4 q hq).1; omega)
  -- the kind
  have hkind : zfail (zt_kind c (i + 1) i p1' wr (zl_bare R i (nI d))) (zm_pf c (100 + i) p1' (o.map (fun q => 100 + q)) (zm_M0 (100 + i) M)) ∨ ∃ k, k < 4 ∧ zt_kind c (i + 1) i p1' wr (zl_bare R i (nI d)) = (true, p1' + 1, wr, va_up (zl_bare R i (nI d)) 0 (upd (zl_bare R i (nI d) 0) i (nI k))) ∧ zm_pf c (100 + i) p1' (o.map (fun q => 100 + q)) (zm_M0 (100 + i) M) = (true, p1' + 1, va_up (va_up (zm_M0 (100 + i) M) 1 (upd (zm_M0 (100 + i) M 1) (100 + i) (nI k))) 3 (upd (zm_M0 (100 + i) M 3) (100 + i) (zo (o.map (fun q => 100 + q))))) := by
    unfold zt_kind zm_pf
    cases hk : zt_ix zc_k1 4 (c p1') with
    | none => left; exact ⟨p1', p1', _, _, rfl, rfl⟩
    | some k =>
      simp only
      rw [hzi]
      cases o with
      | none => right; exact ⟨k, zix1_lt hk, rfl, rfl⟩
      | some q =>
        obtain ⟨q1, q2, q3⟩ := ho4 q rfl
        have e1 : zl_bare R i (nI d) 0 q = zm_M0 (100 + i) M 1 (100 + q) := by
          rw [hb0, hM0u.1 1 (100 + q) (by decide) (by omega)]; exact (p3 q q1).1
        simp only [Option.map_some]
        rw [e1]
        by_cases e2 : zm_M0 (100 + i) M 1 (100 + q) = nI 3
        · rw [if_pos e2, if_pos e2]; left; exact ⟨p1', p1', _, _, rfl, rfl⟩
        · rw [if_neg e2, if_neg e2]
          by_cases e3 : nI k < zm_M0 (100 + i) M 1 (100 + q)
          · rw [if_pos e3, if_pos e3]; left; exact ⟨p1', p1', _, _, rfl, rfl⟩
          · rw [if_neg e3, if_neg e3]; right; exact ⟨k, zix1_lt hk, rfl, rfl⟩
  rw [hml]
  unfold zm_line1
  rw [hpl]
  rcases hkind with ⟨q, n1, R1, M1, x1, x2⟩ | ⟨k, hk4, k1, k2⟩
  · left
    rw [x1, x2]
    exact ⟨q, n1, R1, M1, rfl, rfl⟩
  rw [k1, k2]
  simp only
  -- facts of the rows so far
  have hbv : zl_bare R i (nI d) 4 i = -1 ∧ zl_bare R i (nI d) 5 i = -1 ∧ zl_bare R i (nI d) 6 i = nI 0 ∧ zl_bare R i (nI d) 7 i = -1 ∧ zl_bare R i (nI d) 8 i = -1 := by
    unfold zl_bare; simp [va_up, upd]
  have hmv : zm_M0 (100 + i) M 4 (100 + i) = -1 ∧ zm_M0 (100 + i) M 5 (100 + i) = -1 ∧ zm_M0 (100 + i) M 6 (100 + i) = nI 0 ∧ zm_M0 (100 + i) M 7 (100 + i) = -1 ∧ zm_M0 (100 + i) M 8 (100 + i) = -1 := by
    unfold zm_M0; simp [va_up, upd]
  generalize hR2 : va_up (zl_bare R i (nI d)) 0 (upd (zl_bare R i (nI d) 0) i (nI k)) = R2
  generalize hM2 : va_up (va_up (zm_M0 (100 + i) M) 1 (upd (zm_M0 (100 + i) M 1) (100 + i) (nI k))) 3 (upd (zm_M0 (100 + i) M 3) (100 + i) (zo (o.map (fun q => 100 + q)))) = M2
  have r2u : zu1 i R R2 := by rw [← hR2]; exact hb.up (k := 0) (by decide) (nI k)
  have r2o : ∀ r, r ≠ 0 → R2 r = zl_bare R i (nI d) r := fun r hr => by rw [← hR2, va_up_ne _ _ hr]
  have r20 : R2 0 i = nI k := by rw [← hR2, va_up_self, pk_us]
  have m2o : ∀ r, r ≠ 1 → r ≠ 3 → M2 r = zm_M0 (100 + i) M r := fun r h1 h3 => by rw [← hM2, va_up_ne _ _ h3, va_up_ne _ _ h1]
  have m21 : M2 1 (100 + i) = nI k := by rw [← hM2, va_up_ne _ _ (by decide), va_up_self, pk_us]
  clear hR2
  -- the number
  obtain ⟨p3', v, b1, b2, b3⟩ := zt_number (c := c) (p1' + 1)
  rw [b3 2 (100 + i) M2]
  unfold zt_num zt_dig1
  rw [b1]
  simp only
  by_cases e1 : v = 0
  · subst e1
    left
    rw [if_pos nI_0, if_pos rfl]
    simp only [if_true]
    exact ⟨p3', p3', _, _, rfl, rfl⟩
  rw [if_neg (nI_ne0 (show 0 < v by omega) (by omega)), if_neg e1]
  simp only
  rw [if_neg (zne1 (show v < 2 ^ 31 by omega))]
  simp only
  generalize hR3 : va_up R2 1 (upd (R2 1) i (nI v)) = R3
  have r3u : zu1 i R R3 := by rw [← hR3]; exact r2u.up (k := 1) (by decide) (nI v)
  have r3o : ∀ r, r ≠ 0 → r ≠ 1 → R3 r = zl_bare R i (nI d) r := fun r h0 h1 => by rw [← hR3, va_up_ne _ _ h1]; exact r2o r h0
  have r30 : R3 0 i = nI k := by rw [← hR3, va_up_ne _ _ (by decide)]; exact r20
  have r31 : R3 1 i = nI v := by rw [← hR3, va_up_self, pk_us]
  clear hR3
  unfold zt_title zt_exp
  by_cases e2 : zt_d (c p3') = true
  · left
    obtain ⟨dd, d1, d2⟩ := zt_d_of e2
    rw [if_pos e2, if_neg (show ¬ c p3' = nI 32 by rw [d2, nI_eq (by omega) (by omega)]; omega)]
    exact ⟨p3', p3', _, _, rfl, rfl⟩
  rw [if_neg e2]
  simp only
  unfold zm_eat
  generalize hM3 : va_up M2 2 (upd (M2 2) (100 + i) (nI v)) = M3
  have m3o : ∀ r, r ≠ 1 → r ≠ 2 → r ≠ 3 → M3 r = zm_M0 (100 + i) M r := fun r h1 h2 h3 => by rw [← hM3, va_up_ne _ _ h2]; exact m2o r h1 h3
  have m31 : M3 1 (100 + i) = nI k := by rw [← hM3, va_up_ne _ _ (by decide)]; exact m21
  have m32 : M3 2 (100 + i) = nI v := by rw [← hM3, va_up_self, pk_us]
  by_cases e3 : c p3' = nI 32
  · rw [if_pos e3, if_pos e3]
    simp only
    -- the title
    obtain ⟨t, p4', R4, F4, c1, c2, c3, c4, c5, c6, c7, c8, c9, c10, c11, c12⟩ := ztl_tl (c := c) (i := i) 16 0 (p3' + 1) R3 (M3 10) (by omega)
    rw [c1]
    unfold zt_ti2
    unfold zm_title
    rw [c2]
    simp only
    by_cases e4 : t = 0
    · left
      have hnl : ¬ zt_l (c p4') = true := by
        have h9 : p4' = p3' + 1 := by omega
        subst h9
        intro hl
        have : zt_tl c i 16 0 (p3' + 1) R3 = zt_tl c i 15 1 (p3' + 1 + 1) (zl_ats R3 i 0 (c (p3' + 1))) := by
          show (if zt_l (c (p3' + 1)) then _ else _) = _
          rw [if_pos hl]
        have hmono : ∀ (kk k p : Nat) (R : Nat → Nat → Int32), k ≤ (zt_tl c i kk k p R).1 := by
          intro kk
          induction kk with
          | zero => intro k p R; exact Nat.le_refl _
          | succ kk ih =>
            intro k p R
            unfold zt_tl
            split
            · have := ih (k + 1) (p + 1) (zl_ats R i k (c p)); omega
            · exact Nat.le_refl _
        have h10 := hmono 15 1 (p3' + 1 + 1) (zl_ats R3 i 0 (c (p3' + 1)))
        rw [← this, c1] at h10
        simp only at h10
        omega
      rw [if_pos e4, if_neg hnl]
      simp only
      rw [if_pos e4]
      exact ⟨p4', p4', _, _, rfl, rfl⟩
    rw [if_neg e4]
    simp only
    by_cases e5 : zt_l (c p4') = true
    · left
      rw [if_pos e5, zrest_l i p4' wr R4 e5]
      exact ⟨p4', p4', _, _, rfl, rfl⟩
    rw [if_neg e5]
    simp only
    rw [if_neg e4]
    simp only
    generalize hM4 : va_up (va_up M3 10 F4) 9 (upd (M3 9) (100 + i) (nI t)) = M4
    have m4o : ∀ r, r ≠ 9 → r ≠ 10 → M4 r = M3 r := fun r h9 h10 => by rw [← hM4, va_up_ne _ _ h9, va_up_ne _ _ h10]
    have m49 : M4 9 (100 + i) = nI t := by rw [← hM4, va_up_self, pk_us]
    have m410 : M4 10 = F4 := by rw [← hM4, va_up_ne _ _ (by decide), va_up_self]
    have r4u : zu1 i R R4 := by
      refine r3u.tr ⟨fun r j hr hj => ?_, fun j hj => c10 j (by omega)⟩
      by_cases e9 : r = 9
      · subst e9; exact c7 j hj
      · rw [c6 r e9 hr]
    have r4 : ∀ r, 4 ≤ r → r ≤ 8 → R4 r i = zl_bare R i (nI d) r i := fun r h1 h2 => by rw [c6 r (by omega) (by omega), r3o r (by omega) (by omega)]
    have m4 : ∀ r, 4 ≤ r → r ≤ 8 → M4 r (100 + i) = zm_M0 (100 + i) M r (100 + i) := fun r h1 h2 => by rw [m4o r (by omega) (by omega), m3o r (by omega) (by omega) (by omega)]
    rcases zrest (c := c) i p4' wr R4 M4 ((r4 4 (by decide) (by decide)).trans hbv.1) ((r4 5 (by decide) (by decide)).trans hbv.2.1) ((r4 6 (by decide) (by decide)).trans hbv.2.2.1) ((r4 7 (by decide) (by decide)).trans hbv.2.2.2.1) ((r4 8 (by decide) (by decide)).trans hbv.2.2.2.2) ((m4 4 (by decide) (by decide)).trans hmv.1) ((m4 5 (by decide) (by decide)).trans hmv.2.1) ((m4 6 (by decide) (by decide)).trans hmv.2.2.1) ((m4 7 (by decide) (by decide)).trans hmv.2.2.2.1) ((m4 8 (by decide) (by decide)).trans hmv.2.2.2.2) with h | ⟨p, R', M', f1, f2, f3, f4, f5, f6, f7⟩
    · exact Or.inl h
    · right
      refine ⟨p, R', M', f1, f2, ?_⟩
      have hline : zm_line c (100 + i) pa dp nx M = (true, p, M') := by
        rw [hml]
        unfold zm_line1
        rw [hpl, k2]
        simp only
        rw [hM2, b3 2 (100 + i) M2, if_neg e1, if_neg e2]
        simp only
        unfold zm_eat
        rw [hM3, if_pos e3]
        simp only
        unfold zm_title
        rw [c2, if_neg e5]
        simp only
        rw [if_neg e4, hM4]
        exact f2
      have ru : zu1 i R R' := r4u.tr f3
      have mu := zu1_line hline
      have hfor := zm_line_for p2 (by omega) (by omega) hline
      have R'0 : R' 0 i = nI k := by rw [(f4 0 (by omega)).1, c6 0 (by decide) (by decide), r30]
      have R'1 : R' 1 i = nI v := by rw [(f4 1 (by omega)).1, c6 1 (by decide) (by decide), r31]
      have R'2 : R' 2 i = zo o := by rw [(f4 2 (by omega)).1, c6 2 (by decide) (by decide), r3o 2 (by decide) (by decide), ho2]
      have R'3 : R' 3 i = nI d := by rw [(f4 3 (by omega)).1, c6 3 (by decide) (by decide), r3o 3 (by decide) (by decide), zl_bare_3]
      have R'9 : R' 9 i = nI t := by rw [(f4 9 (by omega)).1, c8 (by omega)]
      have R't : zl_t R' i = t := by unfold zl_t; rw [R'9, nI_clamp (by omega)]
      have M'1 : M' 1 (100 + i) = nI k := by rw [(f4 1 (by omega)).2, m4o 1 (by decide) (by decide), m31]
      have M'2 : M' 2 (100 + i) = nI v := by rw [(f4 2 (by omega)).2, m4o 2 (by decide) (by decide), m32]
      have M'9 : M' 9 (100 + i) = nI t := by rw [(f4 9 (by omega)).2, m49]
      have tl : ∀ q, q < t → ∃ x, 97 ≤ x ∧ x ≤ 122 ∧ R' 10 (i * 16 + q) = nI x ∧ M' 10 ((100 + i) * 16 + q) = nI x := by
        intro q hq
        obtain ⟨x, x1, x2, x3, x4⟩ := c12 q (by omega) hq
        refine ⟨x, x1, x2, ?_, ?_⟩
        · rw [(f4 10 (by omega)).1]; exact x3
        · rw [(f4 10 (by omega)).2, m410, Nat.mul_comm]; exact x4
      rw [hzn, ho1]
      rw [hzn, ho1, show 100 + i + 1 = 100 + (i + 1) by omega] at hfor
      refine ⟨by omega, hfor, fun j hj => ?_, fun j hj => ?_, fun _ => ?_⟩
      · by_cases e : j = i
        · subst e
          rw [va_up_self]
          refine ⟨by rw [R'0, M'1], by rw [R'1, M'2], R'3, ⟨fun w w1 w2 => ?_, fun q hq => ?_⟩, ⟨⟨k, hk4, R'0⟩, v, by omega, b2, R'1⟩, ⟨f6, f7, t, by omega, by omega, R'9, fun q hq => ?_⟩⟩
          · by_cases e9 : w = 9
            · subst e9; rw [R'9, M'9]
            · exact f5 w w1 (by omega)
          · rw [R't] at hq
            obtain ⟨x, -, -, x3, x4⟩ := tl q hq
            rw [x3, x4]
          · obtain ⟨x, x1, x2, x3, -⟩ := tl q hq
            exact ⟨x, x1, x2, x3⟩
        · have hji : j < i := by omega
          obtain ⟨g1, g2, g3, g4, g5, g6⟩ := p3 j hji
          have rr : ∀ r, r ≠ 10 → R' r j = R r j := fun r hr => ru.1 r j hr e
          have mm : ∀ r, r ≠ 10 → M' r (100 + j) = M r (100 + j) := fun r hr => mu.1 r (100 + j) hr (by omega)
          have rt : zl_t R' j = zl_t R j := by unfold zl_t; rw [rr 9 (by decide)]
          obtain ⟨t1, t2, t3, t4⟩ := g6.t
          have hs : zsame R j R' j := ⟨fun w w1 w2 => (rr w (by omega)).symm, fun q hq => (ru.2 _ (by omega)).symm⟩
          rw [rr 0 (by decide), rr 1 (by decide), rr 3 (by decide), mm 1 (by decide), mm 2 (by decide), va_up_ne _ _ (by omega)]
          refine ⟨g1, g2, g3, ⟨fun w w1 w2 => ?_, fun q hq => ?_⟩, ?_, g6.same hs⟩
          · rw [rr w (by omega), mm w (by omega)]; exact g4.1 w w1 w2
          · rw [rt] at hq
            rw [ru.2 _ (by omega), mu.2 _ (by omega)]; exact g4.2 q hq
          · unfold zwk; rw [rr 0 (by decide), rr 1 (by decide)]; exact g5
      · by_cases e : j = i
        · subst e
          refine ⟨o, by rw [va_up_self], R'2, ho3, fun q hq => ?_⟩
          obtain ⟨q1, q2, q3⟩ := ho4 q hq
          rw [va_up_self, va_up_ne _ _ (by omega)]
          exact ⟨q1, q2, fun x x1 x2 => by rw [va_up_ne _ _ (by omega)]; exact q3 x x1 x2⟩
        · have hji : j < i := by omega
          obtain ⟨oj, j1, j2, j3, j4⟩ := p4 j hji
          refine ⟨oj, by rw [va_up_ne _ _ (by omega)]; exact j1, by rw [ru.1 2 j (by decide) e]; exact j2, j3, fun q hq => ?_⟩
          obtain ⟨q1, q2, q3⟩ := j4 q hq
          rw [va_up_ne _ _ (by omega), va_up_ne _ _ (by omega)]
          exact ⟨q1, q2, fun x x1 x2 => by rw [va_up_ne _ _ (by omega)]; exact q3 x x1 x2⟩
      · by_cases e : i = 0
        · subst e
          rw [va_up_self]
          have : zm_lm (100 + 0) dp = 0 := by unfold zm_lm; rw [if_pos (by omega)]
          omega
        · rw [va_up_ne _ _ (by omega)]; exact p5 (by omega)
  · left
    rw [if_neg e3, if_neg e3]
    exact ⟨p3', p3', _, _, rfl, rfl⟩
end ZL9
