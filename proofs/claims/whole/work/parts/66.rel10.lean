/-! PURE: a text is read alike -/
section ZL10
variable {c : Nat → Int32} {len : Nat}
theorem zPs_0 (R M : Nat → Nat → Int32) (pa : Nat → Option Nat) (dp : Nat → Nat) : zPs 0 R M pa dp :=
  ⟨by omega, fun j hj => by omega, fun j hj => by omega, fun j hj => by omega, fun h => by omega⟩
theorem zlines_sim {wr : Int32} : ∀ (kk i nx f : Nat) (R M : Nat → Nat → Int32) (pa : Nat → Option Nat) (dp : Nat → Nat), i + kk = 100 → kk + 2 ≤ f → zPs i R M pa dp → (nx < len ∨ i = 0) → (∃ p n1 R1 m1 ot M1 pa1 dp1, zt_lines c len kk i nx wr R = (false, n1, nI p, R1, m1) ∧ zm_lines c len f i pa dp nx M = (false, p, ot, M1, pa1, dp1)) ∨ ∃ p n R' M' pa' dp', zt_lines c len kk i nx wr R = (true, p, wr, R', n) ∧ zm_lines c len f i pa dp nx M = (true, p, n, M', pa', dp') ∧ 0 < n ∧ zPs n R' M' pa' dp' := by
  intro kk
  induction kk with
  | zero =>
    intro i nx f R M pa dp hi hf hP hnx
    left
    obtain ⟨f, rfl⟩ : ∃ g, f = g + 1 := ⟨f - 1, by omega⟩
    refine ⟨nx, nx, R, i, i, M, pa, dp, rfl, ?_⟩
    unfold zm_lines zm_line
    rw [if_pos hnx, if_pos (by omega)]
  | succ kk ih =>
    intro i nx f R M pa dp hi hf hP hnx
    obtain ⟨f, rfl⟩ : ∃ g, f = g + 1 := ⟨f - 1, by omega⟩
    unfold zt_lines zm_lines
    rw [if_pos hnx]
    rcases zline_sim (c := c) (nx := nx) (wr := wr) hP (by omega) with ⟨p, n1, R1, M1, x1, x2⟩ | ⟨p, R', M', x1, x2, x3⟩
    · left
      rw [x1, x2]
      exact ⟨p, n1, R1, i, i, M1, pa, dp, rfl, rfl⟩
    · rw [x1, x2]
      simp only
      by_cases e : p < len
      · rw [if_pos e]
        exact ih (i + 1) p f R' M' _ _ (by omega) (by omega) x3 (Or.inl e)
      · right
        rw [if_neg e]
        refine ⟨p, i + 1, R', M', _, _, rfl, ?_, by omega, x3⟩
        obtain ⟨f, rfl⟩ : ∃ g, f = g + 1 := ⟨f - 1, by omega⟩
        unfold zm_lines
        rw [if_neg (by omega)]
theorem zparse_sim {W T : Nat → Int32} (hA : zAt len W T) (R M : Nat → Nat → Int32) (pa : Nat → Option Nat) (dp : Nat → Nat) : (∃ p n1 R1 m1 ot M1 pa1 dp1, zt_lines (za W len) len 100 0 0 (-1) R = (false, n1, nI p, R1, m1) ∧ zm_lines (zmd T len) len 102 0 pa dp 0 M = (false, p, ot, M1, pa1, dp1)) ∨ ∃ p n R' M' pa' dp', zt_lines (za W len) len 100 0 0 (-1) R = (true, p, -1, R', n) ∧ zm_lines (zmd T len) len 102 0 pa dp 0 M = (true, p, n, M', pa', dp') ∧ 0 < n ∧ zPs n R' M' pa' dp' := by
  have hc : za W len = zmd T len := by
    funext j
    unfold zmd za
    by_cases e : j < len
    · rw [if_pos e, if_pos e]; exact hA.2 j e
    · rw [if_neg e, if_neg e]
  rw [hc]
  exact zlines_sim 100 0 0 102 R M pa dp (by omega) (by omega) (zPs_0 R M pa dp) (Or.inr rfl)
/-- what the reference copies when it has read -/
def zrdI (M : Nat → Nat → Int32) (k : Nat) (M' : Nat → Nat → Int32) : Prop := (∀ r, (r = 1 ∨ r = 2 ∨ (4 ≤ r ∧ r ≤ 9)) → ∀ j, M' r j = if j < k then M r (100 + j) else M r j) ∧ (∀ j, M' 3 j = if j < k then (if M 3 (100 + j) < 0 then -1 else M 3 (100 + j) - nI 100) else M 3 j) ∧ (∀ j, M' 10 j = if j < 16 * k then zby (M 10 (1600 + j)) else M 10 j) ∧ (∀ j, M' 11 j = if j < 4 * k then nI 0 else M 11 j) ∧ (∀ r, (r = 13 ∨ r = 15 ∨ r = 16) → ∀ j, M' r j = if j < k then nI 0 else M r j) ∧ ∀ r, (r = 0 ∨ r = 12 ∨ r = 14 ∨ 16 < r) → M' r = M r
theorem zrd1 {M M' : Nat → Nat → Int32} {k : Nat} (hk : k < 100) (h : zrdI M k M') : zrdI M (k + 1) (zm_rd1 M' k) := by
  obtain ⟨h1, h2, h3, h4, h5, h6⟩ := h
  have cp1 : ∀ r, r ≠ 1 → r ≠ 2 → r ≠ 3 → zm_cp1 M' k (100 + k) r = zm_cp0 M' k (100 + k) r := fun r a b d => by
    unfold zm_cp1; rw [va_up_ne _ _ d, va_up_ne _ _ b, va_up_ne _ _ a]
  have low : ∀ r, r ≠ 11 → r ≠ 13 → r ≠ 15 → r ≠ 16 → zm_rd1 M' k r = zm_cp1 M' k (100 + k) r := fun r a b d e => by
    unfold zm_rd1; rw [va_up_ne _ _ e, va_up_ne _ _ d, va_up_ne _ _ b, va_up_ne _ _ a]
  refine ⟨fun r hr j => ?_, fun j => ?_, fun j => ?_, fun j => ?_, fun r hr j => ?_, fun r hr => ?_⟩
  · have e1 : zm_rd1 M' k r = upd (M' r) k (M' r (100 + k)) := by
      rw [low r (by omega) (by omega) (by omega) (by omega)]
      rcases hr with rfl | rfl | hr
      · unfold zm_cp1; rw [va_up_ne _ _ (by decide), va_up_ne _ _ (by decide), va_up_self]
      · unfold zm_cp1; rw [va_up_ne _ _ (by decide), va_up_self]
      · rw [cp1 r (by omega) (by omega) (by omega), zm_cp0_mid hr.1 hr.2]
    rw [e1]
    by_cases e : j = k
    · subst e; rw [pk_us, if_pos (by omega), h1 r hr, if_neg (by omega)]
    · rw [pk_un e, h1 r hr]
      by_cases e2 : j < k
      · rw [if_pos e2, if_pos (by omega)]
      · rw [if_neg e2, if_neg (by omega)]
  · have e1 : zm_rd1 M' k 3 = upd (M' 3) k (if M' 3 (100 + k) < 0 then -1 else M' 3 (100 + k) - nI 100) := by
      rw [low 3 (by decide) (by decide) (by decide) (by decide)]
      unfold zm_cp1; rw [va_up_self]
    rw [e1]
    by_cases e : j = k
    · subst e; rw [pk_us, h2 (100 + j), if_neg (show ¬ 100 + j < j by omega), if_pos (show j < j + 1 by omega)]
    · rw [pk_un e, h2]
      by_cases e2 : j < k
      · rw [if_pos e2, if_pos (show j < k + 1 by omega)]
      · rw [if_neg e2, if_neg (show ¬ j < k + 1 by omega)]
  · rw [low 10 (by decide) (by decide) (by decide) (by decide), cp1 10 (by decide) (by decide) (by decide), zm_cp0_10 (by omega), h3, h3]
    by_cases e : 16 * k ≤ j ∧ j < 16 * k + 16
    · rw [if_pos e, if_neg (by omega), if_pos (by omega)]; congr 2; omega
    · rw [if_neg e]
      by_cases e2 : j < 16 * k
      · rw [if_pos e2, if_pos (by omega)]
      · rw [if_neg e2, if_neg (by omega)]
  · have e1 : zm_rd1 M' k 11 = zm_z4 (M' 11) k := by
      unfold zm_rd1; rw [va_up_ne _ _ (by decide), va_up_ne _ _ (by decide), va_up_ne _ _ (by decide), va_up_self, cp1 11 (by decide) (by decide) (by decide), zm_cp0_row (by omega)]
    rw [e1]
    unfold zm_z4
    by_cases e : 4 * k ≤ j ∧ j < 4 * k + 4
    · have e3 : j = 4 * k + 0 ∨ j = 4 * k + 1 ∨ j = 4 * k + 2 ∨ j = 4 * k + 3 := by omega
      rw [if_pos (by omega)]
      rcases e3 with e3 | e3 | e3 | e3 <;> (unfold upd; simp [e3])
    · rw [pk_un (by omega), pk_un (by omega), pk_un (by omega), pk_un (by omega), h4]
      by_cases e2 : j < 4 * k
      · rw [if_pos e2, if_pos (by omega)]
      · rw [if_neg e2, if_neg (by omega)]
  · have e1 : zm_rd1 M' k r = upd (M' r) k (nI 0) := by
      have q : ∀ r, (r = 13 ∨ r = 15 ∨ r = 16) → zm_cp1 M' k (100 + k) r = M' r := fun r hr => by rw [cp1 r (by omega) (by omega) (by omega), zm_cp0_row (by omega)]
      unfold zm_rd1
      rcases hr with rfl | rfl | rfl
      · rw [va_up_ne _ _ (by decide), va_up_ne _ _ (by decide), va_up_self, q 13 (by omega)]
      · rw [va_up_ne _ _ (by decide), va_up_self, q 15 (by omega)]
      · rw [va_up_self, q 16 (by omega)]
    rw [e1]
    by_cases e : j = k
    · subst e; rw [pk_us, if_pos (by omega)]
    · rw [pk_un e, h5 r hr]
      by_cases e2 : j < k
      · rw [if_pos e2, if_pos (by omega)]
      · rw [if_neg e2, if_neg (by omega)]
  · rw [low r (by omega) (by omega) (by omega) (by omega), cp1 r (by omega) (by omega) (by omega), zm_cp0_row (by omega)]
    exact h6 r hr
theorem zrd_all (M : Nat → Nat → Int32) : zrdI M 100 (zm_rd M) := by
  have key : ∀ (m k : Nat) (M' : Nat → Nat → Int32), k + m = 100 → zrdI M k M' → zrdI M 100 (zfold (fun M i => zm_rd1 M i) M' k m) := by
    intro m
    induction m with
    | zero => intro k M' hk h; have : k = 100 := by omega
              subst this; exact h
    | succ m ih => intro k M' hk h; exact ih (k + 1) _ (by omega) (zrd1 (by omega) h)
  exact key 100 0 M (by omega) ⟨fun r _ j => by rw [if_neg (by omega)], fun j => by rw [if_neg (by omega)], fun j => by rw [if_neg (by omega)], fun j => by rw [if_neg (by omega)], fun r _ j => by rw [if_neg (by omega)], fun r _ => rfl⟩
theorem zrel_read1 {Z : Nat → Nat → Int32} {n : Nat} {R' M' N : Nat → Nat → Int32} {M : Nat → Nat → Int32} {pa' : Nat → Option Nat} {dp' : Nat → Nat} (hz : zrdI M' 100 Z) (hP : zPs n R' M' pa' dp') (h0 : 0 < n) (hD : zDt N M) (hN : ∀ r, 10 < r → M' r = M r) : zCt n R' (Z) (fun j => (pa' (100 + j)).map (fun q => q - 100)) (fun j => dp' (100 + j)) ∧ zDt (zn_fgt N) (Z) := by
  obtain ⟨p1, p2, p3, p4, p5⟩ := hP
  obtain ⟨h1, h2, h3, h4, h5, h6⟩ := hz
  have hpa : ∀ j, j < n → ∃ o : Option Nat, (pa' (100 + j)).map (fun q => q - 100) = o ∧ pa' (100 + j) = o.map (fun q => 100 + q) ∧ R' 2 j = zo o ∧ (o = none → j = 0) ∧ ∀ q, o = some q → q < j ∧ dp' (100 + q) + 1 = dp' (100 + j) := by
    intro j hj
    obtain ⟨o, o1, o2, o3, o4⟩ := p4 j hj
    refine ⟨o, ?_, o1, o2, o3, fun q hq => ⟨(o4 q hq).1, (o4 q hq).2.1⟩⟩
    rw [o1]
    cases o with
    | none => rfl
    | some q => simp
  have hrow3 : ∀ j, j < n → Z 3 j = R' 2 j := by
    intro j hj
    obtain ⟨o, -, o1, o2, -, o4⟩ := hpa j hj
    have hM3 := (p2 (100 + j) (by omega)).2.2.1
    rw [h2, if_pos (by omega), hM3, o1, o2]
    cases o with
    | none => exact if_pos (by decide)
    | some q =>
      have hq := (o4 q rfl).1
      show (if nI (100 + q) < 0 then (-1 : Int32) else nI (100 + q) - nI 100) = nI q
      rw [if_neg (nI_pos (by omega)), pk_sub (by omega)]
      congr 1; omega
  refine ⟨⟨p1, fun j hj => ?_, fun _ => p5 h0, fun j hj hj2 => ?_, fun w j hw hj => ?_, fun j hj k hk => ?_, fun j hj => ?_⟩, ⟨fun k hk => ?_, fun i hi => ?_⟩⟩
  · obtain ⟨o, o0, o1, o2, o3, o4⟩ := hpa j hj
    obtain ⟨f1, f2, f3, f4, f5⟩ := p2 (100 + j) (by omega)
    refine ⟨by omega, f2, ?_, fun q hq => ?_, fun hq => ?_⟩
    · rw [hrow3 j hj, o2]; simp only [o0]
    · simp only [o0] at hq
      have := o4 q hq
      exact ⟨by omega, this.2⟩
    · simp only [o0] at hq
      have := o3 hq
      subst this
      exact p5 h0
  · obtain ⟨o, o0, o1, o2, o3, o4⟩ := hpa j hj
    simp only [o0] at hj2
    exact o3 hj2
  · obtain ⟨g1, g2, g3, g4, -, -⟩ := p3 j hj
    match w, hw with
    | 0, _ => show _ = Z 1 j; rw [h1 1 (by omega), if_pos (by omega)]; exact g1
    | 1, _ => show _ = Z 2 j; rw [h1 2 (by omega), if_pos (by omega)]; exact g2
    | 2, _ => exact (hrow3 j hj).symm
    | 3, _ => exact g3
    | w + 4, hw => show _ = Z (w + 4) j; rw [h1 (w + 4) (by omega), if_pos (by omega)]; exact g4.1 (w + 4) (by omega) (by omega)
  · obtain ⟨g1, g2, g3, g4, -, g6⟩ := p3 j hj
    obtain ⟨t1, t2, t3, t4⟩ := g6.t
    obtain ⟨x, x1, x2, x3⟩ := t4 k hk
    have e := g4.2 k hk
    rw [h3, if_pos (by omega), show 1600 + (j * 16 + k) = (100 + j) * 16 + k by omega, ← e, x3, zby_s x (by omega)]
  · exact ⟨(p3 j hj).2.2.2.2.1, (p3 j hj).2.2.2.2.2⟩
  · unfold zn_fgt
    have hd := hD.1
    match k, hk with
    | 0, _ =>
      show va_up (va_up (va_up (va_up N 0 _) 3 _) 4 _) 5 _ 0 = Z 11
      rw [va_up_ne _ _ (by decide), va_up_ne _ _ (by decide), va_up_ne _ _ (by decide), va_up_self]
      funext j
      rw [h4, hN 11 (by decide), hd 0 (by decide)]; rfl
    | 1, _ =>
      show va_up (va_up (va_up (va_up N 0 _) 3 _) 4 _) 5 _ 1 = Z 12
      rw [va_up_ne _ _ (by decide), va_up_ne _ _ (by decide), va_up_ne _ _ (by decide), va_up_ne _ _ (by decide), h6 12 (by omega), hN 12 (by decide)]; exact hd 1 (by decide)
    | 2, _ =>
      show va_up (va_up (va_up (va_up N 0 _) 3 _) 4 _) 5 _ 2 = Z 14
      rw [va_up_ne _ _ (by decide), va_up_ne _ _ (by decide), va_up_ne _ _ (by decide), va_up_ne _ _ (by decide), h6 14 (by omega), hN 14 (by decide)]; exact hd 2 (by decide)
    | 3, _ =>
      show va_up (va_up (va_up (va_up N 0 _) 3 _) 4 _) 5 _ 3 = Z 13
      rw [va_up_ne _ _ (by decide), va_up_ne _ _ (by decide), va_up_self]
      funext j
      rw [h5 13 (by omega), hN 13 (by decide), hd 3 (by decide)]; rfl
    | 4, _ =>
      show va_up (va_up (va_up (va_up N 0 _) 3 _) 4 _) 5 _ 4 = Z 15
      rw [va_up_ne _ _ (by decide), va_up_self]
      funext j
      rw [h5 15 (by omega), hN 15 (by decide), hd 4 (by decide)]; rfl
    | 5, _ =>
      show va_up (va_up (va_up (va_up N 0 _) 3 _) 4 _) 5 _ 5 = Z 16
      rw [va_up_self]
      funext j
      rw [h5 16 (by omega), hN 16 (by decide), hd 5 (by decide)]; rfl
  · have e3 : zn_fgt N 3 i = nI 0 := by
      unfold zn_fgt
      rw [va_up_ne _ _ (by decide), va_up_ne _ _ (by decide), va_up_self]
      unfold zfil; rw [if_pos hi]
    have e4 : zn_fgt N 4 i = nI 0 := by
      unfold zn_fgt
      rw [va_up_ne _ _ (by decide), va_up_self]
      unfold zfil; rw [if_pos hi]
    unfold zn_c zn_m
    rw [e3, e4, nI_clamp (by decide)]
    exact ⟨⟨rfl, by omega⟩, rfl, by omega⟩
theorem zrel_read {n : Nat} {R' M' N : Nat → Nat → Int32} {M : Nat → Nat → Int32} {pa' : Nat → Option Nat} {dp' : Nat → Nat} (hP : zPs n R' M' pa' dp') (h0 : 0 < n) (hD : zDt N M) (hN : ∀ r, 10 < r → M' r = M r) : zCt n R' (zm_rd M') (fun j => (pa' (100 + j)).map (fun q => q - 100)) (fun j => dp' (100 + j)) ∧ zDt (zn_fgt N) (zm_rd M') := zrel_read1 (zrd_all M') hP h0 hD hN
end ZL10
