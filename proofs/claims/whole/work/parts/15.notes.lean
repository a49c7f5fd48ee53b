/-! NOTES, ASKS, SUMS -/
def zfil (f : Nat → Int32) (v : Int32) (n : Nat) : Nat → Int32 := fun j => if j < n then v else f j
theorem zfil_0 (f : Nat → Int32) (v : Int32) : zfil f v 0 = f := by funext j; simp [zfil]
theorem zfil_s (f : Nat → Int32) (v : Int32) (n : Nat) : upd (zfil f v n) n v = zfil f v (n + 1) := by
  funext j
  unfold upd zfil
  by_cases h : j = n
  · subst h; simp
  · by_cases h2 : j < n
    · rw [if_neg h, if_pos h2, if_pos (by omega)]
    · rw [if_neg h, if_neg h2, if_neg (by omega)]
abbrev zkN : List (Nat × Nat) := [(0, 400), (0, 400), (0, 500), (0, 100), (0, 100), (1, 100)]
abbrev zn (g : zx_G) (σ : zx_M) (a : Nat) (N : Nat → Nat → Int32) : Prop := zob g σ a 2 [.ref (a + 1), .ref (a + 2), .ref (a + 3), .ref (a + 4), .ref (a + 5), .ref (a + 6)] zkN N
abbrev zkK : List (Nat × Nat) := [(0, 100), (0, 100), (0, 100), (1, 100)]
abbrev zka (g : zx_G) (σ : zx_M) (a n : Nat) (od : Int32) (K : Nat → Nat → Int32) : Prop := zob g σ a 0 [.int (nI n), .int od, .ref (a + 1), .ref (a + 2), .ref (a + 3), .ref (a + 4)] zkK K
abbrev zkS : List (Nat × Nat) := [(0, 300), (0, 300)]
abbrev zs (g : zx_G) (σ : zx_M) (a : Nat) (S : Nat → Nat → Int32) : Prop := zob g σ a 4 [.ref (a + 1), .ref (a + 2)] zkS S
abbrev zr_JA_fill : Room := { frames := 0, cells := 0, slots := 0, locals := 0 }
set_option maxRecDepth 100000 in
set_option maxHeartbeats 4000000 in
theorem kc_JA_fill {g : zx_G} {σ : zx_M} {sz p n : Nat} {f : Nat → Int32} {v : Int32} (he : σ p = some (.inl (g.2.2.2.1 0, n, .inl f))) (hn : n < 2 ^ 31) : zM g cy_JA_fill cb_JA_fill 4 none zr_JA_fill 0 0 [.ref p, .int v] σ sz (zPv (fun σ' sz' => sz' = sz ∧ σ' = zx_up σ p (.inl (g.2.2.2.1 0, n, .inl (zfil f v n))))) := by
  have loop : ∀ (kk lo : Nat), lo + kk = n → zE g "java/util/Arrays" cb_JA_fill 4 none false zr_JA_fill 0 0 (zPv (fun σ' sz' => sz' = sz ∧ σ' = zx_up σ p (.inl (g.2.2.2.1 0, n, .inl (zfil f v n))))) 5 [(3, .int (nI n)), (2, .int (nI lo)), (0, .ref p), (1, .int v)] [] (zx_up σ p (.inl (g.2.2.2.1 0, n, .inl (zfil f v lo)))) sz 0 0 := by
    intro kk
    induction kk with
    | zero =>
      intro lo hk
      refine ze_iload_n 1 cd_JA_fill_5 rfl rfl ?_
      refine ze_iload_n 0 cd_JA_fill_6 rfl rfl ?_
      refine ze_icmp_ge (tgt := 20) cd_JA_fill_7 (by decide) (fun c => ?_) (fun c => absurd (nI_le (by omega) (by omega)) c)
      refine ze_vret cd_JA_fill_20 rfl (by decide) (by decide) ⟨rfl, rfl, ?_⟩
      obtain rfl : lo = n := (by omega)
      rfl
    | succ kk ih =>
      intro lo hk
      refine ze_iload_n 1 cd_JA_fill_5 rfl rfl ?_
      refine ze_iload_n 0 cd_JA_fill_6 rfl rfl ?_
      refine ze_icmp_ge (tgt := 20) cd_JA_fill_7 (by decide) (fun c => absurd c (nI_ge (by omega) (by omega))) (fun c => ?_)
      refine ze_aload_n 2 cd_JA_fill_10 rfl rfl ?_
      refine ze_iload_n 1 cd_JA_fill_11 rfl rfl ?_
      refine ze_iload_n 3 cd_JA_fill_12 rfl rfl ?_
      refine ze_iast (j := lo) cd_JA_fill_13 zx_up_self rfl (by omega) hn ?_
      refine ze_eq rfl rfl rfl (zx_up_up.trans (by rw [zfil_s])) rfl ?_
      refine ze_iinc (v := nI (lo + 1)) (lv' := [(2, .int (nI (lo + 1))), (3, .int (nI n)), (0, .ref p), (1, .int v)]) 1 cd_JA_fill_14 rfl (nI_add _ 1) (by decide) rfl ?_
      refine ze_goto (tgt := 5) cd_JA_fill_17 (by decide) ?_
      exact ze_sub [1, 0, 2, 3] rfl (ih (lo + 1) (by omega))
  refine zM_of (lv := [(0, .ref p), (1, .int v)]) (ini := false) (by decide) rfl (by decide) (Nat.le_of_ble_eq_true rfl) rfl ?_
  refine ze_iconst (v := nI 0) cd_JA_fill_0 (by decide) ?_
  refine ze_istore_n (lv' := [(2, .int (nI 0)), (0, .ref p), (1, .int v)]) cd_JA_fill_1 rfl (by decide) rfl ?_
  refine ze_aload_n 1 cd_JA_fill_2 rfl rfl ?_
  refine ze_alen 0 rfl cd_JA_fill_3 he ?_
  refine ze_istore_n (lv' := [(3, .int (nI n)), (2, .int (nI 0)), (0, .ref p), (1, .int v)]) cd_JA_fill_4 rfl (by decide) rfl ?_
  refine ze_eq rfl rfl rfl (?_ : σ = zx_up σ p (.inl (g.2.2.2.1 0, n, .inl (zfil f v 0)))) rfl ?_
  · rw [zfil_0, zx_up_id he]
  · exact loop n 0 (by omega)
def zn_fgt (N : Nat → Nat → Int32) : Nat → Nat → Int32 := va_up (va_up (va_up (va_up N 0 (zfil (N 0) (nI 0) 400)) 3 (zfil (N 3) (nI 0) 100)) 4 (zfil (N 4) (nI 0) 100)) 5 (zfil (N 5) (nI 0) 100)
def zn_hd (N : Nat → Nat → Int32) (i c : Nat) (hd : Int32) : Bool := zany (fun k => decide (N 1 (i * 4 + k) = hd)) 0 c
def zn_ah (N : Nat → Nat → Int32) (i c : Nat) (hd : Int32) : Nat → Nat → Int32 := if c < 4 then va_up (va_up N 1 (upd (N 1) (i * 4 + c) hd)) 3 (upd (N 3) i (nI (c + 1))) else N
def zn_am (N : Nat → Nat → Int32) (i c : Nat) (u : Int32) : Nat → Nat → Int32 := if c < 5 then va_up (va_up N 2 (upd (N 2) (i * 5 + c) u)) 4 (upd (N 4) i (nI (c + 1))) else N
abbrev zr_N_forget : Room := { frames := 1, cells := 0, slots := 0, locals := 23 }
set_option maxRecDepth 100000 in
set_option maxHeartbeats 4000000 in
theorem kc_N_forget {g : zx_G} {σ : zx_M} {sz : Nat} {b : Nat} {N : Nat → Nat → Int32} (hN : zn g σ b N) : zM g cy_N_forget cb_N_forget 2 (Option.none : Option Jvm.ClassFile.FieldType) zr_N_forget 0 0 [.ref b] σ sz (zPv (fun σ' sz' => sz' = sz ∧ zfr σ σ' b 7 ∧ zn g σ' b (zn_fgt N))) := by
  have hF : zfr σ σ b 7 := zfr.rf
  have loop : ∀ (kk : Nat) (lo : Nat) (σ1 : zx_M), lo + kk = 100 → zn g σ1 b (va_up (va_up (va_up (va_up N 0 (zfil (N 0) (nI 0) 400)) 3 (zfil (N 3) (nI 0) 100)) 4 (zfil (N 4) (nI 0) 100)) 5 (zfil (N 5) (nI 0) lo)) → zfr σ σ1 b 7 → zE g "FindingAid$Notes" cb_N_forget 2 (Option.none : Option Jvm.ClassFile.FieldType) false zr_N_forget 0 0 (zPv (fun σ' sz' => sz' = sz ∧ zfr σ σ' b 7 ∧ zn g σ' b (zn_fgt N))) 26 [(1, .int (nI lo)), (0, .ref b)] [] σ1 sz 0 0 := by
    intro kk
    induction kk with
    | zero =>
      intro lo σ1 hk hN hF
      refine ze_iload_n 0 cd_N_forget_26 rfl rfl ?_
      refine ze_bipush (v := nI 100) cd_N_forget_27 (by decide) ?_
      refine ze_icmp_ge (tgt := 45) cd_N_forget_29 (by decide) (fun c2 => ?_) (fun c2 => ?_)
      · skip
        have c2 : 100 ≤ lo := (nI_leI (by omega) (by omega)).mp c2
        refine ze_vret cd_N_forget_45 rfl (by decide) (by decide) ⟨rfl, rfl, hF, ?_⟩
        obtain rfl : lo = 100 := (by omega); exact hN
      · skip
        have c2 : ¬ 100 ≤ lo := fun h9 => c2 ((nI_leI (by omega) (by omega)).mpr h9)
        exfalso; omega
    | succ kk ih =>
      intro lo σ1 hk hN hF
      refine ze_iload_n 0 cd_N_forget_26 rfl rfl ?_
      refine ze_bipush (v := nI 100) cd_N_forget_27 (by decide) ?_
      refine ze_icmp_ge (tgt := 45) cd_N_forget_29 (by decide) (fun c4 => ?_) (fun c4 => ?_)
      · skip
        have c4 : 100 ≤ lo := (nI_leI (by omega) (by omega)).mp c4
        exfalso; omega
      · skip
        have c4 : ¬ 100 ≤ lo := fun h9 => c4 ((nI_leI (by omega) (by omega)).mpr h9)
        refine ze_aload_n 1 cd_N_forget_32 rfl rfl ?_
        refine ze_get zin_N (v := .ref (b + 6)) (ci := 2) rfl 5 (by decide) zm_194 rfl cd_N_forget_33 hN.1 rfl ?_
        refine ze_iload_n 0 cd_N_forget_36 rfl rfl ?_
        refine ze_iconst (v := nI 0) cd_N_forget_37 (by decide) ?_
        refine ze_zast (j := lo) (f := zfil (N 5) (nI 0) lo) cd_N_forget_38 (hN.2 5 _ rfl) rfl (by omega) (by decide) (by decide) ?_
        have hN := hN.ar 5 1 100 rfl (b := b + 6) (f := upd (zfil (N 5) (nI 0) lo) lo (nI 0)) (by omega)
        rw [bx_uu] at hN
        have hF := hF.up (a := b + 6) (e := .inl (g.2.2.2.1 1, 100, .inl (upd (zfil (N 5) (nI 0) lo) lo (nI 0)))) (by omega) (by omega)
        refine ze_iinc (v := nI (lo + 1)) (lv' := [(1, .int (nI (lo + 1))), (0, .ref b)]) 0 cd_N_forget_39 rfl (nI_add _ 1) (by decide) rfl ?_
        refine ze_goto (tgt := 26) cd_N_forget_42 (by decide) ?_
        exact ih (lo + 1) _ (by omega) (by rw [← zfil_s (N 5) (nI 0) lo]; exact hN) hF
  refine zM_of (lv := [(0, .ref b)]) (ini := false) (by decide) rfl (by decide) (Nat.le_of_ble_eq_true rfl) rfl ?_
  refine ze_aload_n 0 cd_N_forget_0 rfl rfl ?_
  refine ze_get zin_N (v := .ref (b + 1)) (ci := 2) rfl 0 (by decide) zm_187 rfl cd_N_forget_1 hN.1 rfl ?_
  refine ze_iconst (v := nI 0) cd_N_forget_4 (by decide) ?_
  refine ze_callSv (rm' := zr_JA_fill) (As := [.ref (b + 1), .int (nI 0)]) (rest := []) (kc_JA_fill (f := N 0) (hN.2 0 _ rfl) (by decide)) ⟨rfl, rfl⟩ zy_JA_fill_ok zm_684 zm_342 (by decide) (by decide) cd_N_forget_5 rfl rfl (Nat.le_of_ble_eq_true rfl) (fun σ9 sz9 hq9 => ?_)
  obtain ⟨rfl, rfl⟩ := hq9
  have hN := hN.ar 0 0 400 rfl (b := b + 1) (f := zfil (N 0) (nI 0) 400) (by omega)
  have hF := hF.up (a := b + 1) (e := .inl (g.2.2.2.1 0, 400, .inl (zfil (N 0) (nI 0) 400))) (by omega) (by omega)
  refine ze_aload_n 0 cd_N_forget_8 rfl rfl ?_
  refine ze_get zin_N (v := .ref (b + 4)) (ci := 2) rfl 3 (by decide) zm_190 rfl cd_N_forget_9 hN.1 rfl ?_
  refine ze_iconst (v := nI 0) cd_N_forget_12 (by decide) ?_
  refine ze_callSv (rm' := zr_JA_fill) (As := [.ref (b + 4), .int (nI 0)]) (rest := []) (kc_JA_fill (f := N 3) (hN.2 3 _ rfl) (by decide)) ⟨rfl, rfl⟩ zy_JA_fill_ok zm_684 zm_342 (by decide) (by decide) cd_N_forget_13 rfl rfl (Nat.le_of_ble_eq_true rfl) (fun σ9 sz9 hq9 => ?_)
  obtain ⟨rfl, rfl⟩ := hq9
  have hN := hN.ar 3 0 100 rfl (b := b + 4) (f := zfil (N 3) (nI 0) 100) (by omega)
  have hF := hF.up (a := b + 4) (e := .inl (g.2.2.2.1 0, 100, .inl (zfil (N 3) (nI 0) 100))) (by omega) (by omega)
  refine ze_aload_n 0 cd_N_forget_16 rfl rfl ?_
  refine ze_get zin_N (v := .ref (b + 5)) (ci := 2) rfl 4 (by decide) zm_192 rfl cd_N_forget_17 hN.1 rfl ?_
  refine ze_iconst (v := nI 0) cd_N_forget_20 (by decide) ?_
  refine ze_callSv (rm' := zr_JA_fill) (As := [.ref (b + 5), .int (nI 0)]) (rest := []) (kc_JA_fill (f := N 4) (hN.2 4 _ rfl) (by decide)) ⟨rfl, rfl⟩ zy_JA_fill_ok zm_684 zm_342 (by decide) (by decide) cd_N_forget_21 rfl rfl (Nat.le_of_ble_eq_true rfl) (fun σ9 sz9 hq9 => ?_)
  obtain ⟨rfl, rfl⟩ := hq9
  have hN := hN.ar 4 0 100 rfl (b := b + 5) (f := zfil (N 4) (nI 0) 100) (by omega)
  have hF := hF.up (a := b + 5) (e := .inl (g.2.2.2.1 0, 100, .inl (zfil (N 4) (nI 0) 100))) (by omega) (by omega)
  refine ze_iconst (v := nI 0) cd_N_forget_24 (by decide) ?_
  refine ze_istore_n (lv' := [(1, .int (nI 0)), (0, .ref b)]) cd_N_forget_25 rfl (by decide) rfl ?_
  exact loop 100 0 _ (by omega) (by rw [zfil_0]; exact ((va_up_id (va_up (va_up (va_up N 0 (zfil (N 0) (nI 0) 400)) 3 (zfil (N 3) (nI 0) 100)) 4 (zfil (N 4) (nI 0) 100)) 5).symm ▸ hN)) hF
abbrev zr_N_setReason : Room := { frames := 0, cells := 0, slots := 0, locals := 0 }
set_option maxRecDepth 100000 in
set_option maxHeartbeats 4000000 in
theorem kc_N_setReason {g : zx_G} {σ : zx_M} {sz : Nat} {b : Nat} {N : Nat → Nat → Int32} {i k : Nat} {r : Int32} (hN : zn g σ b N) (hi : i < 100) (hk : k < 4) : zM g cy_N_setReason cb_N_setReason 4 (Option.none : Option Jvm.ClassFile.FieldType) zr_N_setReason 0 0 [.ref b, .int (nI i), .int (nI k), .int r] σ sz (zPv (fun σ' sz' => sz' = sz ∧ zfr σ σ' b 7 ∧ zn g σ' b (va_up N 0 (upd (N 0) (i * 4 + k) r)))) := by
  have hF : zfr σ σ b 7 := zfr.rf
  refine zM_of (lv := [(0, .ref b), (1, .int (nI i)), (2, .int (nI k)), (3, .int r)]) (ini := false) (by decide) rfl (by decide) (Nat.le_of_ble_eq_true rfl) rfl ?_
  refine ze_aload_n 0 cd_N_setReason_0 rfl rfl ?_
  refine ze_get zin_N (v := .ref (b + 1)) (ci := 2) rfl 0 (by decide) zm_187 rfl cd_N_setReason_1 hN.1 rfl ?_
  refine ze_iload_n 1 cd_N_setReason_4 rfl rfl ?_
  refine ze_iconst (v := nI 4) cd_N_setReason_5 (by decide) ?_
  refine ze_imul cd_N_setReason_6 ?_
  refine ze_top (pk_mul _ _) ?_
  refine ze_iload_n 2 cd_N_setReason_7 rfl rfl ?_
  refine ze_iadd cd_N_setReason_8 ?_
  refine ze_top (nI_add _ _) ?_
  refine ze_iload_n 3 cd_N_setReason_9 rfl rfl ?_
  refine ze_iast (j := (i * 4) + k) cd_N_setReason_10 (hN.2 0 _ rfl) rfl (by omega) (by decide) ?_
  have hN := hN.ar 0 0 400 rfl (b := b + 1) (f := upd (N 0) ((i * 4) + k) r) (by omega)
  have hF := hF.up (a := b + 1) (e := .inl (g.2.2.2.1 0, 400, .inl (upd (N 0) ((i * 4) + k) r))) (by omega) (by omega)
  refine ze_vret cd_N_setReason_11 rfl (by decide) (by decide) ⟨rfl, rfl, hF, ?_⟩
  exact hN
abbrev zr_N_reasonOf : Room := { frames := 0, cells := 0, slots := 0, locals := 0 }
set_option maxRecDepth 100000 in
set_option maxHeartbeats 4000000 in
theorem kc_N_reasonOf {g : zx_G} {σ : zx_M} {sz : Nat} {b : Nat} {N : Nat → Nat → Int32} {i k : Nat} (hN : zn g σ b N) (hi : i < 100) (hk : k < 4) : zM g cy_N_reasonOf cb_N_reasonOf 3 (Option.some Jvm.ClassFile.FieldType.int) zr_N_reasonOf 0 0 [.ref b, .int (nI i), .int (nI k)] σ sz (zPp (N 0 (i * 4 + k)) σ sz) := by
  refine zM_of (lv := [(0, .ref b), (1, .int (nI i)), (2, .int (nI k))]) (ini := false) (by decide) rfl (by decide) (Nat.le_of_ble_eq_true rfl) rfl ?_
  refine ze_aload_n 0 cd_N_reasonOf_0 rfl rfl ?_
  refine ze_get zin_N (v := .ref (b + 1)) (ci := 2) rfl 0 (by decide) zm_187 rfl cd_N_reasonOf_1 hN.1 rfl ?_
  refine ze_iload_n 1 cd_N_reasonOf_4 rfl rfl ?_
  refine ze_iconst (v := nI 4) cd_N_reasonOf_5 (by decide) ?_
  refine ze_imul cd_N_reasonOf_6 ?_
  refine ze_top (pk_mul _ _) ?_
  refine ze_iload_n 2 cd_N_reasonOf_7 rfl rfl ?_
  refine ze_iadd cd_N_reasonOf_8 ?_
  refine ze_top (nI_add _ _) ?_
  refine ze_iald (j := (i * 4) + k) cd_N_reasonOf_9 (hN.2 0 _ rfl) rfl (by omega) (by decide) ?_
  refine ze_iret cd_N_reasonOf_10 rfl (by decide) (by decide) (zPp_mk ?_)
  rfl
abbrev zr_N_hasHeading : Room := { frames := 0, cells := 0, slots := 0, locals := 0 }
set_option maxRecDepth 100000 in
set_option maxHeartbeats 4000000 in
theorem kc_N_hasHeading {g : zx_G} {σ : zx_M} {sz : Nat} {b : Nat} {N : Nat → Nat → Int32} {i c : Nat} {hd : Int32} (hN : zn g σ b N) (hi : i < 100) (hc : N 3 i = nI c) (hc4 : c ≤ 4) : zM g cy_N_hasHeading cb_N_hasHeading 4 (Option.some Jvm.ClassFile.FieldType.boolean) zr_N_hasHeading 0 0 [.ref b, .int (nI i), .int hd] σ sz (zPp (zb (zn_hd N i c hd)) σ sz) := by
  have loop : ∀ (kk : Nat) (lo : Nat), lo + kk = c → zany (fun k => decide (N 1 (i * 4 + k) = hd)) lo kk = zn_hd N i c hd → zE g "FindingAid$Notes" cb_N_hasHeading 4 (Option.some Jvm.ClassFile.FieldType.boolean) false zr_N_hasHeading 0 0 (zPp (zb (zn_hd N i c hd)) σ sz) 2 [(3, .int (nI lo)), (0, .ref b), (1, .int (nI i)), (2, .int hd)] [] σ sz 0 0 := by
    intro kk
    induction kk with
    | zero =>
      intro lo hk hE
      refine ze_iload_n 0 cd_N_hasHeading_2 rfl rfl ?_
      refine ze_aload_n 1 cd_N_hasHeading_3 rfl rfl ?_
      refine ze_get zin_N (v := .ref (b + 4)) (ci := 2) rfl 3 (by decide) zm_190 rfl cd_N_hasHeading_4 hN.1 rfl ?_
      refine ze_iload_n 2 cd_N_hasHeading_7 rfl rfl ?_
      refine ze_iald (j := i) cd_N_hasHeading_8 (hN.2 3 _ rfl) rfl (by omega) (by decide) ?_
      refine ze_top hc ?_
      refine ze_icmp_ge (tgt := 34) cd_N_hasHeading_9 (by decide) (fun c2 => ?_) (fun c2 => ?_)
      · skip
        have c2 : c ≤ lo := (nI_leI (by omega) (by omega)).mp c2
        refine ze_iconst (v := nI 0) cd_N_hasHeading_34 (by decide) ?_
        refine ze_zret cd_N_hasHeading_35 rfl (by decide) (by decide) (by decide) (zPp_mk ?_)
        rw [← hE]; simp [zany, zb, nI_0, zn_1, c2]
      · skip
        have c2 : ¬ c ≤ lo := fun h9 => c2 ((nI_leI (by omega) (by omega)).mpr h9)
        exfalso; omega
    | succ kk ih =>
      intro lo hk hE
      refine ze_iload_n 0 cd_N_hasHeading_2 rfl rfl ?_
      refine ze_aload_n 1 cd_N_hasHeading_3 rfl rfl ?_
      refine ze_get zin_N (v := .ref (b + 4)) (ci := 2) rfl 3 (by decide) zm_190 rfl cd_N_hasHeading_4 hN.1 rfl ?_
      refine ze_iload_n 2 cd_N_hasHeading_7 rfl rfl ?_
      refine ze_iald (j := i) cd_N_hasHeading_8 (hN.2 3 _ rfl) rfl (by omega) (by decide) ?_
      refine ze_top hc ?_
      refine ze_icmp_ge (tgt := 34) cd_N_hasHeading_9 (by decide) (fun c4 => ?_) (fun c4 => ?_)
      · skip
        have c4 : c ≤ lo := (nI_leI (by omega) (by omega)).mp c4
        exfalso; omega
      · skip
        have c4 : ¬ c ≤ lo := fun h9 => c4 ((nI_leI (by omega) (by omega)).mpr h9)
        refine ze_aload_n 1 cd_N_hasHeading_12 rfl rfl ?_
        refine ze_get zin_N (v := .ref (b + 2)) (ci := 2) rfl 1 (by decide) zm_188 rfl cd_N_hasHeading_13 hN.1 rfl ?_
        refine ze_iload_n 2 cd_N_hasHeading_16 rfl rfl ?_
        refine ze_iconst (v := nI 4) cd_N_hasHeading_17 (by decide) ?_
        refine ze_imul cd_N_hasHeading_18 ?_
        refine ze_top (pk_mul _ _) ?_
        refine ze_iload_n 0 cd_N_hasHeading_19 rfl rfl ?_
        refine ze_iadd cd_N_hasHeading_20 ?_
        refine ze_top (nI_add _ _) ?_
        refine ze_iald (j := (i * 4) + lo) cd_N_hasHeading_21 (hN.2 1 _ rfl) rfl (by omega) (by decide) ?_
        refine ze_iload_n 3 cd_N_hasHeading_22 rfl rfl ?_
        refine ze_icmp_ne (tgt := 28) cd_N_hasHeading_23 (by decide) (fun c5 => ?_) (fun c5 => ?_)
        · skip
          refine ze_iinc (v := nI (lo + 1)) (lv' := [(3, .int (nI (lo + 1))), (0, .ref b), (1, .int (nI i)), (2, .int hd)]) 0 cd_N_hasHeading_28 rfl (nI_add _ 1) (by decide) rfl ?_
          refine ze_goto (tgt := 2) cd_N_hasHeading_31 (by decide) ?_
          exact ih (lo + 1) (by omega) (by rw [← hE]; simp [zany, c4, c5])
        · skip
          refine ze_iconst (v := nI 1) cd_N_hasHeading_26 (by decide) ?_
          refine ze_zret cd_N_hasHeading_27 rfl (by decide) (by decide) (by decide) (zPp_mk ?_)
          rw [← hE]; simp [zany, zb, nI_0, zn_1, c4, c5]
  refine zM_of (lv := [(0, .ref b), (1, .int (nI i)), (2, .int hd)]) (ini := false) (by decide) rfl (by decide) (Nat.le_of_ble_eq_true rfl) rfl ?_
  refine ze_iconst (v := nI 0) cd_N_hasHeading_0 (by decide) ?_
  refine ze_istore_n (lv' := [(3, .int (nI 0)), (0, .ref b), (1, .int (nI i)), (2, .int hd)]) cd_N_hasHeading_1 rfl (by decide) rfl ?_
  exact loop c 0 (by omega) rfl
abbrev zr_N_addHeading : Room := { frames := 0, cells := 0, slots := 0, locals := 0 }
set_option maxRecDepth 100000 in
set_option maxHeartbeats 4000000 in
theorem kc_N_addHeading {g : zx_G} {σ : zx_M} {sz : Nat} {b : Nat} {N : Nat → Nat → Int32} {i c : Nat} {hd : Int32} (hN : zn g σ b N) (hi : i < 100) (hc : N 3 i = nI c) (hc4 : c ≤ 4) : zM g cy_N_addHeading cb_N_addHeading 3 (Option.none : Option Jvm.ClassFile.FieldType) zr_N_addHeading 0 0 [.ref b, .int (nI i), .int hd] σ sz (zPv (fun σ' sz' => sz' = sz ∧ zfr σ σ' b 7 ∧ zn g σ' b (zn_ah N i c hd))) := by
  have hF : zfr σ σ b 7 := zfr.rf
  refine zM_of (lv := [(0, .ref b), (1, .int (nI i)), (2, .int hd)]) (ini := false) (by decide) rfl (by decide) (Nat.le_of_ble_eq_true rfl) rfl ?_
  refine ze_aload_n 0 cd_N_addHeading_0 rfl rfl ?_
  refine ze_get zin_N (v := .ref (b + 4)) (ci := 2) rfl 3 (by decide) zm_190 rfl cd_N_addHeading_1 hN.1 rfl ?_
  refine ze_iload_n 1 cd_N_addHeading_4 rfl rfl ?_
  refine ze_iald (j := i) cd_N_addHeading_5 (hN.2 3 _ rfl) rfl (by omega) (by decide) ?_
  refine ze_top hc ?_
  refine ze_iconst (v := nI 4) cd_N_addHeading_6 (by decide) ?_
  refine ze_icmp_ge (tgt := 36) cd_N_addHeading_7 (by decide) (fun c1 => ?_) (fun c1 => ?_)
  · skip
    have c1 : 4 ≤ c := (nI_leI (by omega) (by omega)).mp c1
    refine ze_vret cd_N_addHeading_36 rfl (by decide) (by decide) ⟨rfl, rfl, hF, ?_⟩
    first | (rw [zn_ah, if_neg (by omega)]; exact hN) | (rw [zn_ah, if_pos (by omega)]; exact hN)
  · skip
    have c1 : ¬ 4 ≤ c := fun h9 => c1 ((nI_leI (by omega) (by omega)).mpr h9)
    refine ze_aload_n 0 cd_N_addHeading_10 rfl rfl ?_
    refine ze_get zin_N (v := .ref (b + 2)) (ci := 2) rfl 1 (by decide) zm_188 rfl cd_N_addHeading_11 hN.1 rfl ?_
    refine ze_iload_n 1 cd_N_addHeading_14 rfl rfl ?_
    refine ze_iconst (v := nI 4) cd_N_addHeading_15 (by decide) ?_
    refine ze_imul cd_N_addHeading_16 ?_
    refine ze_top (pk_mul _ _) ?_
    refine ze_aload_n 0 cd_N_addHeading_17 rfl rfl ?_
    refine ze_get zin_N (v := .ref (b + 4)) (ci := 2) rfl 3 (by decide) zm_190 rfl cd_N_addHeading_18 hN.1 rfl ?_
    refine ze_iload_n 1 cd_N_addHeading_21 rfl rfl ?_
    refine ze_iald (j := i) cd_N_addHeading_22 (hN.2 3 _ rfl) rfl (by omega) (by decide) ?_
    refine ze_top hc ?_
    refine ze_iadd cd_N_addHeading_23 ?_
    refine ze_top (nI_add _ _) ?_
    refine ze_iload_n 2 cd_N_addHeading_24 rfl rfl ?_
    refine ze_iast (j := (i * 4) + c) cd_N_addHeading_25 (hN.2 1 _ rfl) rfl (by omega) (by decide) ?_
    have hN := hN.ar 1 0 400 rfl (b := b + 2) (f := upd (N 1) ((i * 4) + c) hd) (by omega)
    have hF := hF.up (a := b + 2) (e := .inl (g.2.2.2.1 0, 400, .inl (upd (N 1) ((i * 4) + c) hd))) (by omega) (by omega)
    refine ze_aload_n 0 cd_N_addHeading_26 rfl rfl ?_
    refine ze_get zin_N (v := .ref (b + 4)) (ci := 2) rfl 3 (by decide) zm_190 rfl cd_N_addHeading_27 hN.1 rfl ?_
    refine ze_iload_n 1 cd_N_addHeading_30 rfl rfl ?_
    refine ze_dup2 cd_N_addHeading_31 rfl rfl ?_
    refine ze_iald (j := i) (f := N 3) cd_N_addHeading_32 (hN.2 3 _ rfl) rfl (by omega) (by decide) ?_
    refine ze_top hc ?_
    refine ze_iconst (v := nI 1) cd_N_addHeading_33 (by decide) ?_
    refine ze_iadd cd_N_addHeading_34 ?_
    refine ze_top (nI_add _ _) ?_
    refine ze_iast (j := i) (f := N 3) cd_N_addHeading_35 (hN.2 3 _ rfl) rfl (by omega) (by decide) ?_
    have hN := hN.ar 3 0 100 rfl (b := b + 4) (f := upd (N 3) i (nI (c + 1))) (by omega)
    have hF := hF.up (a := b + 4) (e := .inl (g.2.2.2.1 0, 100, .inl (upd (N 3) i (nI (c + 1))))) (by omega) (by omega)
    refine ze_vret cd_N_addHeading_36 rfl (by decide) (by decide) ⟨rfl, rfl, hF, ?_⟩
    first | (rw [zn_ah, if_neg (by omega)]; exact hN) | (rw [zn_ah, if_pos (by omega)]; exact hN)
abbrev zr_N_addMove : Room := { frames := 0, cells := 0, slots := 0, locals := 0 }
set_option maxRecDepth 100000 in
set_option maxHeartbeats 4000000 in
theorem kc_N_addMove {g : zx_G} {σ : zx_M} {sz : Nat} {b : Nat} {N : Nat → Nat → Int32} {i c : Nat} {u : Int32} (hN : zn g σ b N) (hi : i < 100) (hc : N 4 i = nI c) (hc5 : c ≤ 5) : zM g cy_N_addMove cb_N_addMove 3 (Option.none : Option Jvm.ClassFile.FieldType) zr_N_addMove 0 0 [.ref b, .int (nI i), .int u] σ sz (zPv (fun σ' sz' => sz' = sz ∧ zfr σ σ' b 7 ∧ zn g σ' b (zn_am N i c u))) := by
  have hF : zfr σ σ b 7 := zfr.rf
  refine zM_of (lv := [(0, .ref b), (1, .int (nI i)), (2, .int u)]) (ini := false) (by decide) rfl (by decide) (Nat.le_of_ble_eq_true rfl) rfl ?_
  refine ze_aload_n 0 cd_N_addMove_0 rfl rfl ?_
  refine ze_get zin_N (v := .ref (b + 5)) (ci := 2) rfl 4 (by decide) zm_192 rfl cd_N_addMove_1 hN.1 rfl ?_
  refine ze_iload_n 1 cd_N_addMove_4 rfl rfl ?_
  refine ze_iald (j := i) cd_N_addMove_5 (hN.2 4 _ rfl) rfl (by omega) (by decide) ?_
  refine ze_top hc ?_
  refine ze_iconst (v := nI 5) cd_N_addMove_6 (by decide) ?_
  refine ze_icmp_ge (tgt := 36) cd_N_addMove_7 (by decide) (fun c1 => ?_) (fun c1 => ?_)
  · skip
    have c1 : 5 ≤ c := (nI_leI (by omega) (by omega)).mp c1
    refine ze_vret cd_N_addMove_36 rfl (by decide) (by decide) ⟨rfl, rfl, hF, ?_⟩
    first | (rw [zn_am, if_neg (by omega)]; exact hN) | (rw [zn_am, if_pos (by omega)]; exact hN)
  · skip
    have c1 : ¬ 5 ≤ c := fun h9 => c1 ((nI_leI (by omega) (by omega)).mpr h9)
    refine ze_aload_n 0 cd_N_addMove_10 rfl rfl ?_
    refine ze_get zin_N (v := .ref (b + 3)) (ci := 2) rfl 2 (by decide) zm_189 rfl cd_N_addMove_11 hN.1 rfl ?_
    refine ze_iload_n 1 cd_N_addMove_14 rfl rfl ?_
    refine ze_iconst (v := nI 5) cd_N_addMove_15 (by decide) ?_
    refine ze_imul cd_N_addMove_16 ?_
    refine ze_top (pk_mul _ _) ?_
    refine ze_aload_n 0 cd_N_addMove_17 rfl rfl ?_
    refine ze_get zin_N (v := .ref (b + 5)) (ci := 2) rfl 4 (by decide) zm_192 rfl cd_N_addMove_18 hN.1 rfl ?_
    refine ze_iload_n 1 cd_N_addMove_21 rfl rfl ?_
    refine ze_iald (j := i) cd_N_addMove_22 (hN.2 4 _ rfl) rfl (by omega) (by decide) ?_
    refine ze_top hc ?_
    refine ze_iadd cd_N_addMove_23 ?_
    refine ze_top (nI_add _ _) ?_
    refine ze_iload_n 2 cd_N_addMove_24 rfl rfl ?_
    refine ze_iast (j := (i * 5) + c) cd_N_addMove_25 (hN.2 2 _ rfl) rfl (by omega) (by decide) ?_
    have hN := hN.ar 2 0 500 rfl (b := b + 3) (f := upd (N 2) ((i * 5) + c) u) (by omega)
    have hF := hF.up (a := b + 3) (e := .inl (g.2.2.2.1 0, 500, .inl (upd (N 2) ((i * 5) + c) u))) (by omega) (by omega)
    refine ze_aload_n 0 cd_N_addMove_26 rfl rfl ?_
    refine ze_get zin_N (v := .ref (b + 5)) (ci := 2) rfl 4 (by decide) zm_192 rfl cd_N_addMove_27 hN.1 rfl ?_
    refine ze_iload_n 1 cd_N_addMove_30 rfl rfl ?_
    refine ze_dup2 cd_N_addMove_31 rfl rfl ?_
    refine ze_iald (j := i) (f := N 4) cd_N_addMove_32 (hN.2 4 _ rfl) rfl (by omega) (by decide) ?_
    refine ze_top hc ?_
    refine ze_iconst (v := nI 1) cd_N_addMove_33 (by decide) ?_
    refine ze_iadd cd_N_addMove_34 ?_
    refine ze_top (nI_add _ _) ?_
    refine ze_iast (j := i) (f := N 4) cd_N_addMove_35 (hN.2 4 _ rfl) rfl (by omega) (by decide) ?_
    have hN := hN.ar 4 0 100 rfl (b := b + 5) (f := upd (N 4) i (nI (c + 1))) (by omega)
    have hF := hF.up (a := b + 5) (e := .inl (g.2.2.2.1 0, 100, .inl (upd (N 4) i (nI (c + 1))))) (by omega) (by omega)
    refine ze_vret cd_N_addMove_36 rfl (by decide) (by decide) ⟨rfl, rfl, hF, ?_⟩
    first | (rw [zn_am, if_neg (by omega)]; exact hN) | (rw [zn_am, if_pos (by omega)]; exact hN)
abbrev zr_N_underBefore : Room := { frames := 0, cells := 0, slots := 0, locals := 0 }
set_option maxRecDepth 100000 in
set_option maxHeartbeats 4000000 in
theorem kc_N_underBefore {g : zx_G} {σ : zx_M} {sz : Nat} {b : Nat} {N : Nat → Nat → Int32} {i k : Nat} (hN : zn g σ b N) (hi : i < 100) (hk : k < 5) : zM g cy_N_underBefore cb_N_underBefore 3 (Option.some Jvm.ClassFile.FieldType.int) zr_N_underBefore 0 0 [.ref b, .int (nI i), .int (nI k)] σ sz (zPp (N 2 (i * 5 + k)) σ sz) := by
  refine zM_of (lv := [(0, .ref b), (1, .int (nI i)), (2, .int (nI k))]) (ini := false) (by decide) rfl (by decide) (Nat.le_of_ble_eq_true rfl) rfl ?_
  refine ze_aload_n 0 cd_N_underBefore_0 rfl rfl ?_
  refine ze_get zin_N (v := .ref (b + 3)) (ci := 2) rfl 2 (by decide) zm_189 rfl cd_N_underBefore_1 hN.1 rfl ?_
  refine ze_iload_n 1 cd_N_underBefore_4 rfl rfl ?_
  refine ze_iconst (v := nI 5) cd_N_underBefore_5 (by decide) ?_
  refine ze_imul cd_N_underBefore_6 ?_
  refine ze_top (pk_mul _ _) ?_
  refine ze_iload_n 2 cd_N_underBefore_7 rfl rfl ?_
  refine ze_iadd cd_N_underBefore_8 ?_
  refine ze_top (nI_add _ _) ?_
  refine ze_iald (j := (i * 5) + k) cd_N_underBefore_9 (hN.2 2 _ rfl) rfl (by omega) (by decide) ?_
  refine ze_iret cd_N_underBefore_10 rfl (by decide) (by decide) (zPp_mk ?_)
  rfl
