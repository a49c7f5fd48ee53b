/-! OBJECTS: one with its fields at a, its arrays of ints or booleans at a+1, a+2, .. -/
def zob (g : zx_G) (σ : zx_M) (a ci : Nat) (fs : List Value) (ks : List (Nat × Nat)) (R : Nat → Nat → Int32) : Prop :=
  σ a = some (.inr (ci, fs)) ∧ ∀ (k : Nat) (q : Nat × Nat), ks[k]? = some q → σ (a + 1 + k) = some (.inl (g.2.2.2.1 q.1, q.2, .inl (R k)))
theorem zob.put {g : zx_G} {σ : zx_M} {a ci : Nat} {fs fs' : List Value} {ks : List (Nat × Nat)} {R : Nat → Nat → Int32} (h : zob g σ a ci fs ks R) : zob g (zx_up σ a (.inr (ci, fs'))) a ci fs' ks R :=
  ⟨zx_up_self, fun k q hk => by rw [zx_up_ne (by omega)]; exact h.2 k q hk⟩
theorem zob.arr {g : zx_G} {σ : zx_M} {a ci : Nat} {fs : List Value} {ks : List (Nat × Nat)} {R : Nat → Nat → Int32} (h : zob g σ a ci fs ks R) (k : Nat) {q : Nat × Nat} (hk : ks[k]? = some q) {f : Nat → Int32} {b : Nat} (hb : b = a + 1 + k) : zob g (zx_up σ b (.inl (g.2.2.2.1 q.1, q.2, .inl f))) a ci fs ks (va_up R k f) := by
  subst hb
  refine ⟨by rw [zx_up_ne (by omega)]; exact h.1, fun j r hj => ?_⟩
  by_cases hjk : j = k
  · subst hjk
    cases hk.symm.trans hj
    rw [zx_up_self, va_up_self]
  · rw [zx_up_ne (by omega), va_up_ne _ _ hjk]
    exact h.2 j r hj
/-- nothing changed outside a stretch -/
def zfr (σ σ' : zx_M) (lo len : Nat) : Prop := ∀ q, (q < lo ∨ lo + len ≤ q) → σ' q = σ q
theorem zfr.rf {σ : zx_M} {lo len : Nat} : zfr σ σ lo len := fun _ _ => rfl
theorem zfr.trans {σ σ' σ'' : zx_M} {lo len : Nat} (h : zfr σ σ' lo len) (h2 : zfr σ' σ'' lo len) : zfr σ σ'' lo len := fun q hq => (h2 q hq).trans (h q hq)
theorem zfr.up {σ σ' : zx_M} {lo len a : Nat} {e : va_E} (h : zfr σ σ' lo len) (h1 : lo ≤ a) (h2 : a < lo + len) : zfr σ (zx_up σ' a e) lo len := fun q hq => by rw [zx_up_ne (by omega)]; exact h q hq
theorem zfr.wide {σ σ' : zx_M} {lo len lo' len' : Nat} (h : zfr σ σ' lo len) (h1 : lo' ≤ lo) (h2 : lo + len ≤ lo' + len') : zfr σ σ' lo' len' := fun q hq => h q (by omega)
theorem zob.fr {g : zx_G} {σ σ' : zx_M} {a ci : Nat} {fs : List Value} {ks : List (Nat × Nat)} {R : Nat → Nat → Int32} (h : zob g σ a ci fs ks R) {lo len : Nat} (hf : zfr σ σ' lo len) (hd : a + ks.length < lo ∨ lo + len ≤ a) : zob g σ' a ci fs ks R := by
  refine ⟨(hf a (by omega)).trans h.1, fun k q hk => ?_⟩
  have hl : k < ks.length := (List.getElem?_eq_some_iff.mp hk).1
  exact (hf _ (by omega)).trans (h.2 k q hk)
theorem zob.up {g : zx_G} {σ : zx_M} {a ci b : Nat} {e : va_E} {fs : List Value} {ks : List (Nat × Nat)} {R : Nat → Nat → Int32} (h : zob g σ a ci fs ks R) (hd : b < a ∨ a + ks.length < b) : zob g (zx_up σ b e) a ci fs ks R :=
  h.fr (lo := b) (len := 1) (zfr.up zfr.rf (Nat.le_refl _) (Nat.lt_succ_self _)) (by omega)
theorem zob.rows {g : zx_G} {σ : zx_M} {a ci : Nat} {fs : List Value} {ks : List (Nat × Nat)} {R R' : Nat → Nat → Int32} (h : zob g σ a ci fs ks R) (hR : ∀ k, k < ks.length → R k = R' k) : zob g σ a ci fs ks R' := ⟨h.1, fun k q hk => by rw [← hR k (List.getElem?_eq_some_iff.mp hk).1]; exact h.2 k q hk⟩
/-- an index that is looked at before it is used -/
def zi (n : Nat) (x : Int32) : Option Nat := if 0 ≤ x ∧ x < nI n then some x.toNatClampNeg else none
theorem zi_some {n j : Nat} {x : Int32} (hn : n < 2 ^ 31) (h : zi n x = some j) : j < n ∧ x = nI j := by
  unfold zi at h
  split at h
  · rename_i hx
    have h0 : ¬ x < 0 := by
      rw [Int32.lt_iff_toInt_lt, Int32.toInt_zero]
      have := hx.1
      rw [Int32.le_iff_toInt_le, Int32.toInt_zero] at this
      omega
    obtain ⟨k, hk, rfl⟩ := nI_of h0
    rw [nI_clamp hk] at h
    cases h
    exact ⟨(nI_ltI hk hn).mp hx.2, rfl⟩
  · cases h
theorem zi_nI {n j : Nat} (hj : j < n) (hn : n < 2 ^ 31) : zi n (nI j) = some j := by
  unfold zi
  rw [if_pos ⟨nI_pos' (by omega), nI_lt hj hn⟩, nI_clamp (by omega)]
theorem zi_neg {n : Nat} : zi n (-1) = none := by
  unfold zi
  rw [if_neg (fun h => absurd h.1 (by decide))]
theorem zi_of {n : Nat} {x : Int32} (h0 : 0 ≤ x) (h1 : x < nI n) : zi n x = some x.toNatClampNeg := by unfold zi; rw [if_pos ⟨h0, h1⟩]
theorem zi_lo {n : Nat} {x : Int32} (h0 : ¬ 0 ≤ x) : zi n x = none := by unfold zi; rw [if_neg (fun h => h0 h.1)]
theorem zi_hi {n : Nat} {x : Int32} (h1 : ¬ x < nI n) : zi n x = none := by unfold zi; rw [if_neg (fun h => h1 h.2)]
/-- a truth as an int -/
def zb (b : Bool) : Int32 := if b then 1 else 0
theorem zb_or (b : Bool) : zb b = 0 ∨ zb b = 1 := by cases b <;> simp [zb]
