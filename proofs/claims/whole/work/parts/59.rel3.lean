/-! PURE: more calls -/
theorem zby_255 (x : Int32) : zby x &&& nI 255 = x &&& nI 255 := by
  have h255 : (nI 255).toBitVec.toNat = 2 ^ 8 - 1 := by decide
  rw [pk_and _ 8 h255, pk_and _ 8 h255]
  congr 1
  have h1 : (zby x).toBitVec = (x.toBitVec.setWidth 8).signExtend 32 := by unfold zby; rw [Int8.toBitVec_toInt32, Int32.toBitVec_toInt8, BitVec.signExtend_eq_setWidth_of_le (v := 8) x.toBitVec (by decide)]
  rw [h1, BitVec.toNat_signExtend]
  split
  · simp
    omega
  · simp
section ZR3
variable {n : Nat} {R M : Nat → Nat → Int32} {pa : Nat → Option Nat} {dp : Nat → Nat} {N : Nat → Nat → Int32}
theorem zf_rst_congr {ab ab' re re' : Nat → Int32} (hn : n < 2 ^ 31) (h1 : ∀ j, j < n → ab j = ab' j) (h2 : ∀ j, j < n → re j = re' j) : ∀ (k : Nat) (x : Int32), zf_rst n ab re k x = zf_rst n ab' re' k x := by
  intro k
  induction k with
  | zero => intro x; rfl
  | succ k ih =>
    intro x
    unfold zf_rst
    cases e : zi n x with
    | none => rfl
    | some j =>
      have hj := (zi_some hn e).1
      simp only
      rw [h1 j hj, h2 j hj, ih]
theorem zf_shn_congr {ab ab' hid : Nat → Int32} (hn : n < 2 ^ 31) (h1 : ∀ j, j < n → ab j = ab' j) : ∀ (k : Nat) (x : Int32), zf_shn n ab hid k x = zf_shn n ab' hid k x := by
  intro k
  induction k with
  | zero => intro x; rfl
  | succ k ih =>
    intro x
    unfold zf_shn
    cases e : zi n x with
    | none => rfl
    | some j =>
      have hj := (zi_some hn e).1
      simp only
      rw [h1 j hj, ih]
theorem zrel_restricted (h : zCt n R M pa dp) (hd : zDt N M) (i kd : Int32) : zf_rstd n R N i kd = zf_rstd n (zmR M dp) (zmN M) i kd := by
  unfold zf_rstd
  cases h1 : zi n i with
  | none => rfl
  | some j =>
    simp only
    cases h2 : zi 4 kd with
    | none => rfl
    | some q =>
      simp only
      rw [hd.1 0 (by decide)]
      exact zf_rst_congr (by have := h.1; omega) (fun j hj => h.2.2.2.2.1 2 j (by decide) hj) (fun j hj => rfl) 9 i
theorem zDt.c (hd : zDt N M) (j : Nat) : zn_c (zmN M) j = zn_c N j := by unfold zn_c; rw [hd.1 3 (by decide)]
theorem zDt.m (hd : zDt N M) (j : Nat) : zn_m (zmN M) j = zn_m N j := by unfold zn_m; rw [hd.1 4 (by decide)]
theorem zDt.ok (hd : zDt N M) : zn_ok (zmN M) := fun i hi => by
  rw [hd.c, hd.m, ← hd.1 3 (by decide), ← hd.1 4 (by decide)]
  exact hd.2 i hi
theorem zDt.hd (hd : zDt N M) (j c : Nat) (x : Int32) : zn_hd (zmN M) j c x = zn_hd N j c x := by unfold zn_hd; rw [hd.1 1 (by decide)]
theorem zrel_named (hd : zDt N M) (x i : Int32) : zf_pick (fun j => zn_hd N j (zn_c N j) x) i n 0 0 = zf_pick (fun j => zn_hd (zmN M) j (zn_c (zmN M) j) x) i n 0 0 :=
  zf_pick_congr n 0 0 (fun j _ _ => by rw [hd.c, hd.hd])
theorem zrel_was (hd : zDt N M) (i k : Int32) : zf_was n N i k = zf_was n (zmN M) i k := by
  unfold zf_was
  simp only [hd.m, hd.1 2 (by decide)]
theorem zrel_name {N' M' : Nat → Nat → Int32} {i x v v' : Int32} (hn : n ≤ 100) (h : zDt N M) (h1 : zf_nam n N i x = (v, N')) (h2 : zm_nam n M i x = (v', M')) : v = v' ∧ zDt N' M' ∧ ∀ k, k ≠ 12 → k ≠ 13 → M' k = M k := by
  unfold zf_nam at h1
  unfold zm_nam at h2
  cases e1 : zi n i with
  | none => rw [e1] at h1 h2; cases h1; cases h2; exact ⟨rfl, h, fun _ _ _ => rfl⟩
  | some j =>
    have hj := (zi_some (by omega) e1).1
    rw [e1] at h1 h2
    simp only at h1 h2
    unfold zm_in at h2
    rw [h.c, h.hd] at h2
    by_cases e3 : x < nI 1
    · rw [if_pos e3] at h1 h2; simp at h1 h2; obtain ⟨rfl, rfl⟩ := h1; obtain ⟨rfl, rfl⟩ := h2; exact ⟨rfl, h, fun _ _ _ => rfl⟩
    · rw [if_neg e3] at h1 h2
      by_cases e4 : nI 999 < x
      · rw [if_pos e4] at h1 h2; simp at h1 h2; obtain ⟨rfl, rfl⟩ := h1; obtain ⟨rfl, rfl⟩ := h2; exact ⟨rfl, h, fun _ _ _ => rfl⟩
      · rw [if_neg e4, if_pos rfl] at h2
        rw [if_neg e4] at h1
        by_cases e5 : zn_hd N j (zn_c N j) x = true
        · rw [if_pos e5] at h1 h2; cases h1; cases h2; exact ⟨rfl, h, fun _ _ _ => rfl⟩
        · rw [if_neg e5] at h1 h2
          obtain ⟨⟨o1, o2⟩, o3⟩ := h.2 j (by omega)
          by_cases e6 : zn_c N j = 4
          · rw [if_pos e6] at h2; rw [if_neg (by omega)] at h1; cases h1; cases h2; exact ⟨rfl, h, fun _ _ _ => rfl⟩
          · rw [if_neg e6] at h2; rw [if_pos (by omega)] at h1; cases h1; cases h2
            have hc : zn_c N j < 4 := by omega
            refine ⟨rfl, ⟨fun k hk => ?_, fun q hq => ?_⟩, fun k hk hk2 => by rw [va_up_ne _ _ hk2, va_up_ne _ _ hk]⟩
            · unfold zn_ah
              rw [if_pos hc]
              match k, hk with
              | 0, _ => exact h.1 0 (by decide)
              | 1, _ =>
                show va_up (va_up N 1 _) 3 _ 1 = va_up (va_up M 12 _) 13 _ 12
                rw [va_up_ne _ _ (by decide), va_up_self, va_up_ne _ _ (by decide), va_up_self, h.1 1 (by decide), Nat.mul_comm]; rfl
              | 2, _ => exact h.1 2 (by decide)
              | 3, _ =>
                show va_up (va_up N 1 _) 3 _ 3 = va_up (va_up M 12 _) 13 _ 13
                rw [va_up_self, va_up_self, h.1 3 (by decide)]; rfl
              | 4, _ => exact h.1 4 (by decide)
              | 5, _ => exact h.1 5 (by decide)
            · obtain ⟨p1, p2⟩ := h.2 q hq
              unfold zn_ah
              rw [if_pos hc]
              refine ⟨?_, p2⟩
              unfold zn_c
              rw [va_up_self]
              by_cases eq : q = j
              · subst eq; rw [pk_us, nI_clamp (by unfold zn_c at hc; omega)]; exact ⟨rfl, by unfold zn_c at hc; omega⟩
              · rw [pk_un eq]; exact p1
theorem zrel_published {N' M' : Nat → Nat → Int32} {i x v v' : Int32} (hC : zCt n R M pa dp) (h : zDt N M) (h1 : zf_pub n R N i x = (v, N')) (h2 : zm_pub n M i x = (v', M')) : v = v' ∧ zDt N' M' ∧ ∀ k, k ≠ 16 → M' k = M k := by
  unfold zf_pub at h1
  unfold zm_pub at h2
  cases e1 : zi n i with
  | none => rw [e1] at h1 h2; cases h1; cases h2; exact ⟨rfl, h, fun _ _ => rfl⟩
  | some j =>
    obtain ⟨hj, rfl⟩ := zi_some (by have := hC.1; omega) e1
    rw [e1] at h1 h2
    cases h1; cases h2
    refine ⟨?_, ⟨fun k hk => ?_, fun q hq => h.2 q hq⟩, fun k hk => va_up_ne _ _ hk⟩
    · rw [h.1 5 (by decide), zf_shn_congr (by have := hC.1; omega) hC.up]; rfl
    · match k, hk with
      | 0, _ => exact h.1 0 (by decide)
      | 1, _ => exact h.1 1 (by decide)
      | 2, _ => exact h.1 2 (by decide)
      | 3, _ => exact h.1 3 (by decide)
      | 4, _ => exact h.1 4 (by decide)
      | 5, _ => show va_up N 5 _ 5 = va_up M 16 _ 16; rw [va_up_self, va_up_self, h.1 5 (by decide)]; rfl
theorem zrel_ask {c m : Nat} {od fr : Int32} {Q K : Nat → Nat → Int32} (h : zEt n c m od Q K fr M) (i x : Int32) : zf_ask c K i x = zm_ask c M i x := by
  unfold zf_ask zm_ask
  cases h1 : zi c i with
  | none => rfl
  | some j =>
    have hj := (zi_some (by have := h.1; omega) h1).1
    simp only
    cases zi 2 x with
    | none => rfl
    | some w => simp only [(h.2.2.2.1 j hj).1, (h.2.2.2.1 j hj).2.1]
theorem zrel_at {L : List Int32} {pr : Nat} {Sg S : Nat → Int32} (hM : M 20 = S) (h : zFt L pr Sg S) (i : Int32) : zf_at L i = zm_at pr M i := by
  obtain ⟨h1, h2, h3, h4⟩ := h
  unfold zf_at zm_at
  rw [h1, hM]
  cases e : zi L.length i with
  | none => rfl
  | some j =>
    have hj := (zi_some (by have := h3.2; omega) e).1
    simp only
    rw [h2 j hj]
    have : L.getD j 0 ∈ L := by
      rw [List.getD_eq_getElem?_getD, List.getElem?_eq_getElem hj]; exact List.getElem_mem hj
    exact (h4 _ this).symm
theorem zrel_sign {len : Nat} {W T : Nat → Int32} {ch : Int32} (h : zAt len W T) : zAt (if len < 3000 then len + 1 else len) (if len < 3000 then upd W len (ch &&& nI 255) else W) (if len < 3000 then upd T len (zby ch) else T) := by
  by_cases e : len < 3000
  · rw [if_pos e, if_pos e, if_pos e]
    refine ⟨by omega, fun j hj => ?_⟩
    by_cases ej : j = len
    · subst ej
      rw [pk_us, pk_us]
      exact (zby_255 ch).symm
    · rw [pk_un ej, pk_un ej]; exact h.2 j (by omega)
  · rw [if_neg e, if_neg e, if_neg e]; exact h
end ZR3
