/-! PURE: what a line of the reference leaves alone -/
def zu1 (i : Nat) (M M' : Nat → Nat → Int32) : Prop := (∀ r j, r ≠ 10 → j ≠ i → M' r j = M r j) ∧ (∀ j, (j < 16 * i ∨ 16 * i + 16 ≤ j) → M' 10 j = M 10 j)
theorem zu1.rf {i : Nat} {M : Nat → Nat → Int32} : zu1 i M M := ⟨fun _ _ _ _ => rfl, fun _ _ => rfl⟩
theorem zu1.tr {i : Nat} {M M' M'' : Nat → Nat → Int32} (h : zu1 i M M') (h2 : zu1 i M' M'') : zu1 i M M'' := ⟨fun r j a b => (h2.1 r j a b).trans (h.1 r j a b), fun j a => (h2.2 j a).trans (h.2 j a)⟩
theorem zu1.up {i : Nat} {M M' : Nat → Nat → Int32} (h : zu1 i M M') {k : Nat} (hk : k ≠ 10) (v : Int32) : zu1 i M (va_up M' k (upd (M' k) i v)) := by
  refine ⟨fun r j a b => ?_, fun j a => ?_⟩
  · by_cases hr : r = k
    · subst hr; rw [va_up_self, pk_un b]; exact h.1 r j a b
    · rw [va_up_ne _ _ hr]; exact h.1 r j a b
  · rw [va_up_ne _ _ (Ne.symm hk)]; exact h.2 j a
theorem zu1.up' {i : Nat} {M M' : Nat → Nat → Int32} (h : zu1 i M M') {k : Nat} (hk : k ≠ 10) {f : Nat → Int32} (hf : ∀ j, j ≠ i → f j = M' k j) : zu1 i M (va_up M' k f) := by
  refine ⟨fun r j a b => ?_, fun j a => ?_⟩
  · by_cases hr : r = k
    · subst hr; rw [va_up_self, hf j b]; exact h.1 r j a b
    · rw [va_up_ne _ _ hr]; exact h.1 r j a b
  · rw [va_up_ne _ _ (Ne.symm hk)]; exact h.2 j a
theorem zu1_eat {c : Nat → Int32} {x : Int32} {ps i : Nat} {M : Nat → Nat → Int32} {ok : Bool} {ps' : Nat} {M' : Nat → Nat → Int32} (h : zm_eat c x ps M = (ok, ps', M')) : zu1 i M M' := by rw [zm_eat_M h]; exact zu1.rf
theorem zu1_num {c : Nat → Int32} {r i ps : Nat} {M : Nat → Nat → Int32} {ok : Bool} {ps' : Nat} {M' : Nat → Nat → Int32} (hr : r ≠ 10) (h : zm_num c r i ps M = (ok, ps', M')) : zu1 i M M' := by
  unfold zm_num zm_num1 at h
  split at h
  · split at h
    · cases h; exact zu1.rf
    · split at h
      · cases h; exact zu1.rf.up hr _
      · cases h; exact zu1.rf
  · cases h; exact zu1.rf
theorem zm_tl_keep {c : Nat → Int32} {i : Nat} : ∀ (kk n ps : Nat) (F : Nat → Int32), n + kk = 17 → ∀ j, (j < 16 * i ∨ 16 * i + 16 ≤ j) → (zm_tl c i kk n ps F).2.2.2 j = F j := by
  intro kk
  induction kk with
  | zero => intro n ps F _ j _; rfl
  | succ kk ih =>
    intro n ps F hk j hj
    unfold zm_tl
    split
    · split
      · rfl
      · rw [ih (n + 1) (ps + 1) _ (by omega) j hj, pk_un (by omega)]
    · rfl
theorem zu1_title {c : Nat → Int32} {i ps : Nat} {M : Nat → Nat → Int32} {ok : Bool} {ps' : Nat} {M' : Nat → Nat → Int32} (h : zm_title c i ps M = (ok, ps', M')) : zu1 i M M' := by
  unfold zm_title at h
  have hk := zm_tl_keep (c := c) (i := i) 17 0 ps (M 10) (by omega)
  split at h
  · rename_i h1; cases h
    rw [h1] at hk
    exact ⟨fun r j a b => by rw [va_up_ne _ _ a], fun j a => by rw [va_up_self]; exact hk j a⟩
  · rename_i h1; cases h
    rw [h1] at hk
    refine ⟨fun r j a b => ?_, fun j a => by rw [va_up_ne _ _ (by decide), va_up_self]; exact hk j a⟩
    by_cases hr : r = 9
    · subst hr; rw [va_up_self, pk_un b]
    · rw [va_up_ne _ _ hr, va_up_ne _ _ a]
theorem zu1_yr {q : Bool × Nat × Int32} {r i ps : Nat} {least : Int32} {M : Nat → Nat → Int32} {ok : Bool} {ps' : Nat} {M' : Nat → Nat → Int32} (hr : r ≠ 10) (h : zm_yr1 q r i ps least M = (ok, ps', M')) : zu1 i M M' := by
  unfold zm_yr1 at h
  split at h
  · split at h <;> (cases h; exact zu1.rf.up hr _)
  · cases h; exact zu1.rf
theorem zu1_dq {c : Nat → Int32} {i ps : Nat} {M : Nat → Nat → Int32} {ok : Bool} {ps' : Nat} {M' : Nat → Nat → Int32} (h : zm_dq c i ps M = (ok, ps', M')) : zu1 i M M' := by
  unfold zm_dq at h
  split at h <;> (rename_i h1; cases h; exact (zu1_eat h1).up (by decide) _)
theorem zu1_dated {c : Nat → Int32} {i ps : Nat} {M : Nat → Nat → Int32} {ok : Bool} {ps' : Nat} {M' : Nat → Nat → Int32} (h : zm_dated c i ps M = (ok, ps', M')) : zu1 i M M' := by
  unfold zm_dated at h
  split at h
  · rename_i h1; cases h; exact zu1_yr (by decide) h1
  · rename_i h1
    split at h
    · rename_i h2; exact (((zu1_yr (by decide) h1).up (by decide) _).tr (zu1_eat h2)).tr (zu1_dq h)
    · rename_i h2
      split at h
      · rename_i h3; cases h; exact (((zu1_yr (by decide) h1).up (by decide) _).tr (zu1_eat h2)).tr (zu1_yr (by decide) h3)
      · rename_i h3; exact ((((zu1_yr (by decide) h1).up (by decide) _).tr (zu1_eat h2)).tr (zu1_yr (by decide) h3)).tr (zu1_dq h)
theorem zu1_ext {c : Nat → Int32} {i ps : Nat} {M : Nat → Nat → Int32} {ok : Bool} {ps' : Nat} {M' : Nat → Nat → Int32} (h : zm_ext c i ps M = (ok, ps', M')) : zu1 i M M' := by
  unfold zm_ext at h
  split at h
  · rename_i h1; cases h; exact zu1_num (by decide) h1
  · rename_i h1
    split at h
    · cases h; exact (zu1_num (by decide) h1).up (by decide) _
    · split at h
      · cases h; exact (zu1_num (by decide) h1).up (by decide) _
      · split at h
        · cases h; exact (zu1_num (by decide) h1).up (by decide) _
        · cases h; exact (zu1_num (by decide) h1).up (by decide) _
theorem zu1_le {c : Nat → Int32} {i ps : Nat} {M : Nat → Nat → Int32} {ok : Bool} {ps' : Nat} {M' : Nat → Nat → Int32} (h : zm_le c i ps M = (ok, ps', M')) : zu1 i M M' := by
  unfold zm_le zm_end at h
  split at h
  · rename_i h1; cases h; exact zu1_eat h1
  · rename_i h1
    split at h
    · rename_i h2; cases h; exact (zu1_eat h1).tr (zu1_ext h2)
    · rename_i h2; exact ((zu1_eat h1).tr (zu1_ext h2)).tr (zu1_eat h)
theorem zu1_lm2 {c : Nat → Int32} {i ps : Nat} {M : Nat → Nat → Int32} {ok : Bool} {ps' : Nat} {M' : Nat → Nat → Int32} (h : zm_lm2 c i ps M = (ok, ps', M')) : zu1 i M M' := by
  unfold zm_lm2 zm_end at h
  split at h
  · rename_i h1; exact (zu1_eat h1).tr (zu1_eat h)
  · rename_i h1
    split at h
    · split at h
      · rename_i h2; cases h; exact (zu1_eat h1).tr (zu1_dated h2)
      · rename_i h2
        split at h
        · rename_i h3; exact (((zu1_eat h1).tr (zu1_dated h2)).tr (zu1_eat h3)).tr (zu1_eat h)
        · rename_i h3; exact (((zu1_eat h1).tr (zu1_dated h2)).tr (zu1_eat h3)).tr (zu1_le h)
    · exact (zu1_eat h1).tr (zu1_le h)
theorem zu1_pf {c : Nat → Int32} {i ps : Nat} {o : Option Nat} {M : Nat → Nat → Int32} {ok : Bool} {ps' : Nat} {M' : Nat → Nat → Int32} (h : zm_pf c i ps o M = (ok, ps', M')) : zu1 i M M' := by
  unfold zm_pf at h
  split at h
  · cases h; exact zu1.rf
  · split at h
    · cases h; exact (zu1.rf.up (k := 1) (by decide) _).up' (k := 3) (by decide) (fun j hj => by rw [pk_un hj, va_up_ne _ _ (by decide)])
    · split at h
      · cases h; exact zu1.rf
      · split at h
        · cases h; exact zu1.rf
        · cases h; exact (zu1.rf.up (k := 1) (by decide) _).up' (k := 3) (by decide) (fun j hj => by rw [pk_un hj, va_up_ne _ _ (by decide)])
theorem zu1_place {c : Nat → Int32} {i : Nat} {pa : Nat → Option Nat} {dp : Nat → Nat} {ps : Nat} {M : Nat → Nat → Int32} {ok : Bool} {ps' : Nat} {M' : Nat → Nat → Int32} (h : zm_place c i pa dp ps M = (ok, ps', M')) : zu1 i M M' := by
  unfold zm_place at h
  split at h
  · cases h; exact zu1.rf
  · split at h
    · exact zu1_pf h
    · split at h
      · cases h; exact zu1.rf
      · exact zu1_pf h
theorem zu1_line {c : Nat → Int32} {i : Nat} {pa : Nat → Option Nat} {dp : Nat → Nat} {ps : Nat} {M : Nat → Nat → Int32} {ok : Bool} {ps' : Nat} {M' : Nat → Nat → Int32} (h : zm_line c i pa dp ps M = (ok, ps', M')) : zu1 i M M' := by
  unfold zm_line at h
  split at h
  · cases h; exact zu1.rf
  · have h0 : zu1 i M (zm_M0 i M) := by
      unfold zm_M0
      exact ((((zu1.rf.up (k := 4) (by decide) _).up' (k := 5) (by decide) (fun j hj => by rw [pk_un hj, va_up_ne _ _ (by decide)])).up' (k := 6) (by decide) (fun j hj => by rw [pk_un hj, va_up_ne _ _ (by decide), va_up_ne _ _ (by decide)])).up' (k := 7) (by decide) (fun j hj => by rw [pk_un hj, va_up_ne _ _ (by decide), va_up_ne _ _ (by decide), va_up_ne _ _ (by decide)])).up' (k := 8) (by decide) (fun j hj => by rw [pk_un hj, va_up_ne _ _ (by decide), va_up_ne _ _ (by decide), va_up_ne _ _ (by decide), va_up_ne _ _ (by decide)])
    unfold zm_line1 at h
    split at h
    · rename_i h1; cases h; exact h0.tr (zu1_place h1)
    · rename_i h1
      split at h
      · rename_i h2; cases h; exact (h0.tr (zu1_place h1)).tr (zu1_num (by decide) h2)
      · rename_i h2
        split at h
        · rename_i h3; cases h; exact ((h0.tr (zu1_place h1)).tr (zu1_num (by decide) h2)).tr (zu1_eat h3)
        · rename_i h3
          split at h
          · rename_i h4; cases h; exact (((h0.tr (zu1_place h1)).tr (zu1_num (by decide) h2)).tr (zu1_eat h3)).tr (zu1_title h4)
          · rename_i h4; exact ((((h0.tr (zu1_place h1)).tr (zu1_num (by decide) h2)).tr (zu1_eat h3)).tr (zu1_title h4)).tr (zu1_lm2 h)
theorem zm_line_hi {c : Nat → Int32} {i : Nat} {pa : Nat → Option Nat} {dp : Nat → Nat} {ps : Nat} {M : Nat → Nat → Int32} {ok : Bool} {ps' : Nat} {M' : Nat → Nat → Int32} (h : zm_line c i pa dp ps M = (ok, ps', M')) : ∀ r, 10 < r → M' r = M r := by
  intro r hr
  have h0 : zm_M0 i M r = M r := by
    unfold zm_M0
    rw [va_up_ne _ _ (by omega), va_up_ne _ _ (by omega), va_up_ne _ _ (by omega), va_up_ne _ _ (by omega), va_up_ne _ _ (by omega)]
  have hp : ∀ {ok1 : Bool} {ps1 : Nat} {M1 : Nat → Nat → Int32}, zm_place c i pa dp ps (zm_M0 i M) = (ok1, ps1, M1) → M1 r = M r := by
    intro ok1 ps1 M1 h1
    have hpf : ∀ {p1 : Nat} {o : Option Nat}, zm_pf c i p1 o (zm_M0 i M) = (ok1, ps1, M1) → M1 r = M r := by
      intro p1 o h2
      unfold zm_pf at h2
      split at h2
      · cases h2; exact h0
      · split at h2
        · cases h2; rw [va_up_ne _ _ (by omega), va_up_ne _ _ (by omega)]; exact h0
        · split at h2
          · cases h2; exact h0
          · split at h2
            · cases h2; exact h0
            · cases h2; rw [va_up_ne _ _ (by omega), va_up_ne _ _ (by omega)]; exact h0
    unfold zm_place at h1
    split at h1
    · cases h1; exact h0
    · split at h1
      · exact hpf h1
      · split at h1
        · cases h1; exact h0
        · exact hpf h1
  unfold zm_line at h
  split at h
  · cases h; rfl
  · unfold zm_line1 at h
    split at h
    · rename_i h1; cases h; exact hp h1
    · rename_i h1
      split at h
      · rename_i h2; cases h; rw [zm_num_M h2 r (by omega)]; exact hp h1
      · rename_i h2
        split at h
        · rename_i h3; cases h; rw [zm_eat_M h3, zm_num_M h2 r (by omega)]; exact hp h1
        · rename_i h3
          split at h
          · rename_i h4; cases h; rw [zm_title_M h4 r (by omega) (by omega), zm_eat_M h3, zm_num_M h2 r (by omega)]; exact hp h1
          · rename_i h4; rw [zm_lm2_M h r (by omega), zm_title_M h4 r (by omega) (by omega), zm_eat_M h3, zm_num_M h2 r (by omega)]; exact hp h1
/-- the lines leave all but the second hundred alone -/
theorem zm_lines_keep {c : Nat → Int32} {size : Nat} : ∀ (f k : Nat) (pa : Nat → Option Nat) (dp : Nat → Nat) (ps : Nat) (M : Nat → Nat → Int32) {ok : Bool} {ps' ot' : Nat} {M' : Nat → Nat → Int32} {pa' : Nat → Option Nat} {dp' : Nat → Nat}, k ≤ 100 → zm_lines c size f k pa dp ps M = (ok, ps', ot', M', pa', dp') → (∀ j, j < 100 → pa' j = pa j ∧ dp' j = dp j) ∧ (∀ r j, r ≠ 10 → (j < 100 ∨ 200 ≤ j) → M' r j = M r j) ∧ (∀ j, (j < 1600 ∨ 3200 ≤ j) → M' 10 j = M 10 j) := by
  intro f
  induction f with
  | zero => intro k pa dp ps M ok ps' ot' M' pa' dp' hk h; unfold zm_lines at h; cases h; exact ⟨fun _ _ => ⟨rfl, rfl⟩, fun _ _ _ _ => rfl, fun _ _ => rfl⟩
  | succ f ih =>
    intro k pa dp ps M ok ps' ot' M' pa' dp' hk h
    unfold zm_lines at h
    split at h
    · by_cases hk2 : k = 100
      · subst hk2
        have h2 : zm_line c (100 + 100) pa dp ps M = (false, ps, M) := by unfold zm_line; rw [if_pos rfl]
        rw [h2] at h
        cases h
        exact ⟨fun _ _ => ⟨rfl, rfl⟩, fun _ _ _ _ => rfl, fun _ _ => rfl⟩
      · split at h
        · rename_i h1; cases h
          have hu := zu1_line h1
          exact ⟨fun _ _ => ⟨rfl, rfl⟩, fun r j hr hj => hu.1 r j hr (by omega), fun j hj => hu.2 j (by omega)⟩
        · rename_i h1
          have hu := zu1_line h1
          obtain ⟨g1, g2, g3⟩ := ih (k + 1) _ _ _ _ (by omega) h
          refine ⟨fun j hj => ?_, fun r j hr hj => ?_, fun j hj => ?_⟩
          · obtain ⟨e1, e2⟩ := g1 j hj
            exact ⟨by rw [e1, va_up_ne _ _ (by omega)], by rw [e2, va_up_ne _ _ (by omega)]⟩
          · rw [g2 r j hr hj]; exact hu.1 r j hr (by omega)
          · rw [g3 j hj]; exact hu.2 j (by omega)
    · cases h; exact ⟨fun _ _ => ⟨rfl, rfl⟩, fun _ _ _ _ => rfl, fun _ _ => rfl⟩
/-- rows behind the tenth stay -/
theorem zm_lines_rows {c : Nat → Int32} {size : Nat} : ∀ (f k : Nat) (pa : Nat → Option Nat) (dp : Nat → Nat) (ps : Nat) (M : Nat → Nat → Int32) {ok : Bool} {ps' ot' : Nat} {M' : Nat → Nat → Int32} {pa' : Nat → Option Nat} {dp' : Nat → Nat}, zm_lines c size f k pa dp ps M = (ok, ps', ot', M', pa', dp') → ∀ r, 10 < r → M' r = M r := by
  intro f
  induction f with
  | zero => intro k pa dp ps M ok ps' ot' M' pa' dp' h; unfold zm_lines at h; cases h; exact fun _ _ => rfl
  | succ f ih =>
    intro k pa dp ps M ok ps' ot' M' pa' dp' h r hr
    unfold zm_lines at h
    split at h
    · split at h
      · rename_i h1; cases h
        exact zm_line_hi h1 r hr
      · rename_i h1
        rw [ih _ _ _ _ _ h r hr]
        exact zm_line_hi h1 r hr
    · cases h; rfl
