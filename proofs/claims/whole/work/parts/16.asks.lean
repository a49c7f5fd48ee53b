abbrev zr_K_has : Room := { frames := 0, cells := 0, slots := 0, locals := 0 }
set_option maxRecDepth 100000 in
set_option maxHeartbeats 4000000 in
theorem kc_K_has {g : zx_G} {σ : zx_M} {sz : Nat} {b c : Nat} {od : Int32} {K : Nat → Nat → Int32} {i : Int32} (hK : zka g σ b c od K) : zM g cy_K_has cb_K_has 2 (Option.some Jvm.ClassFile.FieldType.boolean) zr_K_has 0 0 [.ref b, .int i] σ sz (zPp (zb (zi c i).isSome) σ sz) := by
  refine zM_of (lv := [(0, .ref b), (1, .int i)]) (ini := false) (by decide) rfl (by decide) (Nat.le_of_ble_eq_true rfl) rfl ?_
  refine ze_iload_n 1 cd_K_has_0 rfl rfl ?_
  refine ze_if_lt (tgt := 16) cd_K_has_1 (by decide) (fun c1 => ?_) (fun c1 => ?_)
  · skip
    refine ze_iconst (v := nI 0) cd_K_has_16 (by decide) ?_
    refine ze_zret cd_K_has_17 rfl (by decide) (by decide) (by decide) (zPp_mk ?_)
    first | (rw [zi_ltz c1]; rfl) | (rw [zi_hi c2]; rfl) | (rw [zi_ok2 c1 c2]; rfl)
  · skip
    refine ze_iload_n 1 cd_K_has_4 rfl rfl ?_
    refine ze_aload_n 0 cd_K_has_5 rfl rfl ?_
    refine ze_get zin_K (v := .int (nI c)) (ci := 0) rfl 0 (by decide) zm_230 rfl cd_K_has_6 hK.1 rfl ?_
    refine ze_icmp_ge (tgt := 16) cd_K_has_9 (by decide) (fun c2 => ?_) (fun c2 => ?_)
    · skip
      have c2 : ¬ i < (nI c) := Int32.not_lt.mpr c2
      refine ze_iconst (v := nI 0) cd_K_has_16 (by decide) ?_
      refine ze_zret cd_K_has_17 rfl (by decide) (by decide) (by decide) (zPp_mk ?_)
      first | (rw [zi_ltz c1]; rfl) | (rw [zi_hi c2]; rfl) | (rw [zi_ok2 c1 c2]; rfl)
    · skip
      have c2 : i < (nI c) := Int32.not_le.mp c2
      refine ze_iconst (v := nI 1) cd_K_has_12 (by decide) ?_
      refine ze_goto (tgt := 17) cd_K_has_13 (by decide) ?_
      refine ze_zret cd_K_has_17 rfl (by decide) (by decide) (by decide) (zPp_mk ?_)
      first | (rw [zi_ltz c1]; rfl) | (rw [zi_hi c2]; rfl) | (rw [zi_ok2 c1 c2]; rfl)
def zk_add (s : Nat × (Nat → Nat → Int32)) (i j d : Nat) : Nat × (Nat → Nat → Int32) := (s.1 + 1, va_up (va_up (va_up (va_up s.2 0 (upd (s.2 0) s.1 (nI i))) 1 (upd (s.2 1) s.1 (nI j))) 2 (upd (s.2 2) s.1 (nI d))) 3 (upd (s.2 3) s.1 (nI 0)))
def zfindo (p : Nat → Bool) : Nat → Nat → Option Nat
  | _, 0 => none
  | lo, k + 1 => if p lo then some lo else zfindo p (lo + 1) k
theorem zfind_o (p : Nat → Bool) : ∀ k lo, zfind p lo k = zo (zfindo p lo k) := by
  intro k
  induction k with
  | zero => intro lo; rfl
  | succ k ih => intro lo; unfold zfind zfindo; split
                 · rfl
                 · exact ih (lo + 1)
theorem zfindo_lt (p : Nat → Bool) : ∀ k lo j, zfindo p lo k = some j → j < lo + k ∧ p j = true := by
  intro k
  induction k with
  | zero => intro lo j h; cases h
  | succ k ih =>
    intro lo j h
    unfold zfindo at h
    split at h
    · cases h; exact ⟨by omega, by assumption⟩
    · obtain ⟨h1, h2⟩ := ih (lo + 1) j h; exact ⟨by omega, h2⟩
def zl_fo (n : Nat) (R : Nat → Nat → Int32) (m : Nat) (Q : Nat → Nat → Int32) (j : Int32) : Option Nat := zfindo (fun x => zl_path n R m Q 9 (nI x) j) 0 n
theorem zl_fst_o (n : Nat) (R : Nat → Nat → Int32) (m : Nat) (Q : Nat → Nat → Int32) (j : Int32) : zl_fst n R m Q j = zo (zl_fo n R m Q j) := zfind_o _ _ _
theorem zl_dif_le (R : Nat → Nat → Int32) (i : Nat) (Q : Nat → Nat → Int32) (j t : Nat) : zl_dif R i Q j t ≤ 7 := by
  unfold zl_dif
  repeat' split
  all_goals omega
def zl_t (R : Nat → Nat → Int32) (i : Nat) : Nat := (R 9 i).toNatClampNeg
def zl_T (n : Nat) (R : Nat → Nat → Int32) : Prop := ∀ i, i < n → R 9 i = nI (zl_t R i) ∧ zl_t R i ≤ 16
def zk_g1 (n : Nat) (R : Nat → Nat → Int32) (m : Nat) (Q : Nat → Nat → Int32) (s : Nat × (Nat → Nat → Int32)) (j : Nat) : Nat × (Nat → Nat → Int32) :=
  match zl_fo n R m Q (nI j) with
  | none => s
  | some i => if zl_dif R i Q j (zl_t R i) = 0 then s else zk_add s i j (zl_dif R i Q j (zl_t R i))
def zk_gat (n : Nat) (R : Nat → Nat → Int32) (m : Nat) (Q : Nat → Nat → Int32) (K : Nat → Nat → Int32) : Nat × (Nat → Nat → Int32) := zfold (zk_g1 n R m Q) (0, K) 0 m
abbrev zr_K_add : Room := { frames := 0, cells := 0, slots := 0, locals := 0 }
set_option maxRecDepth 100000 in
set_option maxHeartbeats 4000000 in
theorem kc_K_add {g : zx_G} {σ : zx_M} {sz : Nat} {b c : Nat} {od : Int32} {K : Nat → Nat → Int32} {i j d : Nat} (hK : zka g σ b c od K) (hc : c < 100) : zM g cy_K_add cb_K_add 4 (Option.none : Option Jvm.ClassFile.FieldType) zr_K_add 0 0 [.ref b, .int (nI i), .int (nI j), .int (nI d)] σ sz (zPv (fun σ' sz' => sz' = sz ∧ zfr σ σ' b 5 ∧ zka g σ' b ((zk_add (c, K) i j d).1) od ((zk_add (c, K) i j d).2))) := by
  have hF : zfr σ σ b 5 := zfr.rf
  refine zM_of (lv := [(0, .ref b), (1, .int (nI i)), (2, .int (nI j)), (3, .int (nI d))]) (ini := false) (by decide) rfl (by decide) (Nat.le_of_ble_eq_true rfl) rfl ?_
  refine ze_aload_n 0 cd_K_add_0 rfl rfl ?_
  refine ze_get zin_K (v := .int (nI c)) (ci := 0) rfl 0 (by decide) zm_230 rfl cd_K_add_1 hK.1 rfl ?_
  refine ze_bipush (v := nI 100) cd_K_add_4 (by decide) ?_
  refine ze_icmp_lt (tgt := 10) cd_K_add_6 (by decide) (fun c2 => ?_) (fun c2 => ?_)
  · skip
    have c2 : c < 100 := (nI_ltI (by omega) (by omega)).mp c2
    refine ze_aload_n 0 cd_K_add_10 rfl rfl ?_
    refine ze_get zin_K (v := .ref (b + 1)) (ci := 0) rfl 2 (by decide) zm_234 rfl cd_K_add_11 hK.1 rfl ?_
    refine ze_aload_n 0 cd_K_add_14 rfl rfl ?_
    refine ze_get zin_K (v := .int (nI c)) (ci := 0) rfl 0 (by decide) zm_230 rfl cd_K_add_15 hK.1 rfl ?_
    refine ze_iload_n 1 cd_K_add_18 rfl rfl ?_
    refine ze_iast (j := c) cd_K_add_19 (hK.2 0 _ rfl) rfl (by omega) (by decide) ?_
    have hK := hK.ar 0 0 100 rfl (b := b + 1) (f := upd (K 0) c (nI i)) (by omega)
    have hF := hF.up (a := b + 1) (e := .inl (g.2.2.2.1 0, 100, .inl (upd (K 0) c (nI i)))) (by omega) (by omega)
    refine ze_aload_n 0 cd_K_add_20 rfl rfl ?_
    refine ze_get zin_K (v := .ref (b + 2)) (ci := 0) rfl 3 (by decide) zm_236 rfl cd_K_add_21 hK.1 rfl ?_
    refine ze_aload_n 0 cd_K_add_24 rfl rfl ?_
    refine ze_get zin_K (v := .int (nI c)) (ci := 0) rfl 0 (by decide) zm_230 rfl cd_K_add_25 hK.1 rfl ?_
    refine ze_iload_n 2 cd_K_add_28 rfl rfl ?_
    refine ze_iast (j := c) (f := K 1) cd_K_add_29 (hK.2 1 _ rfl) rfl (by omega) (by decide) ?_
    have hK := hK.ar 1 0 100 rfl (b := b + 2) (f := upd (K 1) c (nI j)) (by omega)
    have hF := hF.up (a := b + 2) (e := .inl (g.2.2.2.1 0, 100, .inl (upd (K 1) c (nI j)))) (by omega) (by omega)
    refine ze_aload_n 0 cd_K_add_30 rfl rfl ?_
    refine ze_get zin_K (v := .ref (b + 3)) (ci := 0) rfl 4 (by decide) zm_238 rfl cd_K_add_31 hK.1 rfl ?_
    refine ze_aload_n 0 cd_K_add_34 rfl rfl ?_
    refine ze_get zin_K (v := .int (nI c)) (ci := 0) rfl 0 (by decide) zm_230 rfl cd_K_add_35 hK.1 rfl ?_
    refine ze_iload_n 3 cd_K_add_38 rfl rfl ?_
    refine ze_iast (j := c) (f := K 2) cd_K_add_39 (hK.2 2 _ rfl) rfl (by omega) (by decide) ?_
    have hK := hK.ar 2 0 100 rfl (b := b + 3) (f := upd (K 2) c (nI d)) (by omega)
    have hF := hF.up (a := b + 3) (e := .inl (g.2.2.2.1 0, 100, .inl (upd (K 2) c (nI d)))) (by omega) (by omega)
    refine ze_aload_n 0 cd_K_add_40 rfl rfl ?_
    refine ze_get zin_K (v := .ref (b + 4)) (ci := 0) rfl 5 (by decide) zm_240 rfl cd_K_add_41 hK.1 rfl ?_
    refine ze_aload_n 0 cd_K_add_44 rfl rfl ?_
    refine ze_get zin_K (v := .int (nI c)) (ci := 0) rfl 0 (by decide) zm_230 rfl cd_K_add_45 hK.1 rfl ?_
    refine ze_iconst (v := nI 0) cd_K_add_48 (by decide) ?_
    refine ze_zast (j := c) (f := K 3) cd_K_add_49 (hK.2 3 _ rfl) rfl (by omega) (by decide) (by decide) ?_
    have hK := hK.ar 3 1 100 rfl (b := b + 4) (f := upd (K 3) c (nI 0)) (by omega)
    have hF := hF.up (a := b + 4) (e := .inl (g.2.2.2.1 1, 100, .inl (upd (K 3) c (nI 0)))) (by omega) (by omega)
    refine ze_aload_n 0 cd_K_add_50 rfl rfl ?_
    refine ze_dup cd_K_add_51 rfl ?_
    refine ze_get zin_K (v := .int (nI c)) (ci := 0) rfl 0 (by decide) zm_230 rfl cd_K_add_52 hK.1 rfl ?_
    refine ze_iconst (v := nI 1) cd_K_add_55 (by decide) ?_
    refine ze_iadd cd_K_add_56 ?_
    refine ze_top (y := nI (c + 1)) (nI_add _ _) ?_
    refine ze_put zin_K zy_K zt_K zn_K (ci := 0) rfl 0 (by decide) zm_230 rfl (Or.inl rfl) cd_K_add_57 hK.1 rfl rfl (Nat.le_of_ble_eq_true rfl) (fs' := [.int (nI (c + 1)), .int od, .ref (b + 1), .ref (b + 2), .ref (b + 3), .ref (b + 4)]) rfl ?_
    have hK := hK.put (fs' := [.int (nI (c + 1)), .int od, .ref (b + 1), .ref (b + 2), .ref (b + 3), .ref (b + 4)])
    have hF := hF.up (a := b) (e := .inr (0, [.int (nI (c + 1)), .int od, .ref (b + 1), .ref (b + 2), .ref (b + 3), .ref (b + 4)])) (by omega) (by omega)
    refine ze_vret cd_K_add_60 rfl (by decide) (by decide) ⟨rfl, rfl, hF, ?_⟩
    exact hK
  · skip
    have c2 : ¬ c < 100 := fun h9 => c2 ((nI_ltI (by omega) (by omega)).mpr h9)
    exfalso; omega
abbrev zr_K_gather : Room := { frames := 3, cells := 0, slots := 0, locals := 70 }
set_option maxRecDepth 100000 in
set_option maxHeartbeats 4000000 in
theorem kc_K_gather {g : zx_G} {σ : zx_M} {sz : Nat} {b c : Nat} {od : Int32} {K : Nat → Nat → Int32} {a n d m : Nat} {R Q : Nat → Nat → Int32} (h : zl g σ a n R) (h2 : zl g σ d m Q) (hK : zka g σ b c od K) (hT : zl_T n R) (hab : a + 12 ≤ b ∨ b + 5 ≤ a) (hdb : d + 12 ≤ b ∨ b + 5 ≤ d) (hn : n ≤ 100) (hm : m ≤ 100) : zM g cy_K_gather cb_K_gather 6 (Option.none : Option Jvm.ClassFile.FieldType) zr_K_gather 0 0 [.ref b, .ref a, .ref d] σ sz (zPv (fun σ' sz' => sz' = sz ∧ zfr σ σ' b 5 ∧ zka g σ' b ((zk_gat n R m Q K).1) (nI 0) ((zk_gat n R m Q K).2))) := by
  have hF : zfr σ σ b 5 := zfr.rf
  have loop : ∀ (kk : Nat) (lo : Nat) (s : Nat × (Nat → Nat → Int32)) (σ1 : zx_M), lo + kk = m → zfold (zk_g1 n R m Q) s lo kk = zk_gat n R m Q K → s.1 ≤ lo → zl g σ1 a n R → zl g σ1 d m Q → zka g σ1 b s.1 (nI 0) s.2 → zfr σ σ1 b 5 → zE g "FindingAid$Asks" cb_K_gather 6 (Option.none : Option Jvm.ClassFile.FieldType) false zr_K_gather 0 0 (zPv (fun σ' sz' => sz' = sz ∧ zfr σ σ' b 5 ∧ zka g σ' b ((zk_gat n R m Q K).1) (nI 0) ((zk_gat n R m Q K).2))) 12 [(3, .int (nI lo)), (0, .ref b), (1, .ref a), (2, .ref d)] [] σ1 sz 0 0 := by
    intro kk
    induction kk with
    | zero =>
      intro lo s σ1 hk hE hc h h2 hK hF
      refine ze_iload_n 0 cd_K_gather_12 rfl rfl ?_
      refine ze_aload_n 3 cd_K_gather_13 rfl rfl ?_
      refine ze_get zin_L (v := .int (nI m)) (ci := 1) rfl 0 (by decide) zm_90 rfl cd_K_gather_14 h2.1 rfl ?_
      refine ze_icmp_ge (tgt := 68) cd_K_gather_17 (by decide) (fun c2 => ?_) (fun c2 => ?_)
      · skip
        have c2 : m ≤ lo := (nI_leI (by omega) (by omega)).mp c2
        refine ze_vret cd_K_gather_68 rfl (by decide) (by decide) ⟨rfl, rfl, hF, ?_⟩
        rw [← hE]; exact hK
      · skip
        have c2 : ¬ m ≤ lo := fun h9 => c2 ((nI_leI (by omega) (by omega)).mpr h9)
        exfalso; omega
    | succ kk ih =>
      intro lo s σ1 hk hE hc h h2 hK hF
      refine ze_iload_n 0 cd_K_gather_12 rfl rfl ?_
      refine ze_aload_n 3 cd_K_gather_13 rfl rfl ?_
      refine ze_get zin_L (v := .int (nI m)) (ci := 1) rfl 0 (by decide) zm_90 rfl cd_K_gather_14 h2.1 rfl ?_
      refine ze_icmp_ge (tgt := 68) cd_K_gather_17 (by decide) (fun c4 => ?_) (fun c4 => ?_)
      · skip
        have c4 : m ≤ lo := (nI_leI (by omega) (by omega)).mp c4
        exfalso; omega
      · skip
        have c4 : ¬ m ≤ lo := fun h9 => c4 ((nI_leI (by omega) (by omega)).mpr h9)
        refine ze_aload_n 2 cd_K_gather_20 rfl rfl ?_
        refine ze_aload_n 3 cd_K_gather_21 rfl rfl ?_
        refine ze_iload_n 0 cd_K_gather_22 rfl rfl ?_
        refine ze_callVp (rm' := zr_L_firstWithPathOf) (b := a) (As := [.ref d, .int (nI lo)]) (rest := []) (kc_L_firstWithPathOf h h2 (by omega) (by omega)) ⟨rfl, rfl⟩ zy_L_firstWithPathOf_ok zm_696 zm_697 zm_698 (ci := 1) rfl rfl (by decide) (by decide) cd_K_gather_23 h.1 rfl rfl (Nat.le_of_ble_eq_true rfl) ?_
        refine ze_top (zl_fst_o _ _ _ _ _) ?_
        cases hfo : zl_fo n R m Q (nI lo) with
        | none =>
          refine ze_istore (lv' := [(4, .int ((-1 : Int32))), (3, .int (nI lo)), (0, .ref b), (1, .ref a), (2, .ref d)]) cd_K_gather_26 (by decide) rfl ?_
          refine ze_iload 0 cd_K_gather_28 rfl ?_
          refine ze_iconst (v := (-1 : Int32)) cd_K_gather_30 (by decide) ?_
          refine ze_icmp_ne (tgt := 38) cd_K_gather_31 (by decide) (fun c9 => absurd rfl c9) (fun _ => ?_)
          refine ze_iconst (v := nI 0) cd_K_gather_34 (by decide) ?_
          refine ze_goto (tgt := 46) cd_K_gather_35 (by decide) ?_
          refine ze_istore (lv' := [(5, .int (nI 0)), (4, .int ((-1 : Int32))), (3, .int (nI lo)), (0, .ref b), (1, .ref a), (2, .ref d)]) cd_K_gather_46 (by decide) rfl ?_
          refine ze_iload 0 cd_K_gather_48 rfl ?_
          refine ze_if_eq (tgt := 62) cd_K_gather_50 (by decide) (fun _ => ?_) (fun c9 => absurd (by decide) c9)
          refine ze_iinc (v := nI (lo + 1)) (lv' := [(3, .int (nI (lo + 1))), (5, .int (nI 0)), (4, .int ((-1 : Int32))), (0, .ref b), (1, .ref a), (2, .ref d)]) 2 cd_K_gather_62 rfl (nI_add _ 1) (by decide) rfl ?_
          refine ze_goto (tgt := 12) cd_K_gather_65 (by decide) ?_
          exact ze_sub [0, 3, 4, 5] rfl (ih (lo + 1) _ _ (by omega) (by rw [← hE]; show _ = zfold _ (zk_g1 n R m Q (s.1, s.2) lo) (lo + 1) kk; simp only [zk_g1, hfo] <;> (first | rfl | (rw [if_pos (by omega)]) | (rw [if_neg (by omega)]) | simp_all)) (by first | omega | (show s.1 + 1 ≤ lo + 1; omega)) h h2 hK hF)
        | some i =>
          have hi := (zfindo_lt _ _ _ _ hfo).1
          obtain ⟨ht, ht2⟩ := hT i (by omega)
          have hdf := zl_dif_le R i Q lo (zl_t R i)
          refine ze_istore (lv' := [(4, .int (nI i)), (3, .int (nI lo)), (0, .ref b), (1, .ref a), (2, .ref d)]) cd_K_gather_26 (by decide) rfl ?_
          refine ze_iload 0 cd_K_gather_28 rfl ?_
          refine ze_iconst (v := (-1 : Int32)) cd_K_gather_30 (by decide) ?_
          refine ze_icmp_ne (tgt := 38) cd_K_gather_31 (by decide) (fun _ => ?_) (fun c9 => absurd (show zo (some i) = -1 from c9) (fun h9 => by cases zo_none (fun j hj => by cases hj; omega) h9))
          refine ze_aload_n 3 cd_K_gather_38 rfl rfl ?_
          refine ze_iload 0 cd_K_gather_39 rfl ?_
          refine ze_aload_n 4 cd_K_gather_41 rfl rfl ?_
          refine ze_iload_n 1 cd_K_gather_42 rfl rfl ?_
          refine ze_callVp (rm' := zr_L_differenceBits) (b := a) (As := [.int (nI i), .ref d, .int (nI lo)]) (rest := []) (kc_L_differenceBits h h2 (by omega) (by omega) ht ht2) ⟨rfl, rfl⟩ zy_L_differenceBits_ok zm_704 zm_705 zm_706 (ci := 1) rfl rfl (by decide) (by decide) cd_K_gather_43 h.1 rfl rfl (Nat.le_of_ble_eq_true rfl) ?_
          refine ze_istore (lv' := [(5, .int (nI (zl_dif R i Q lo (zl_t R i)))), (4, .int (nI i)), (3, .int (nI lo)), (0, .ref b), (1, .ref a), (2, .ref d)]) cd_K_gather_46 (by decide) rfl ?_
          refine ze_iload 0 cd_K_gather_48 rfl ?_
          refine ze_if_eq (tgt := 62) cd_K_gather_50 (by decide) (fun c8 => ?_) (fun c8 => ?_)
          · skip
            have c8 := c8; rw [← nI_0] at c8
            have c8 : (zl_dif R i Q lo (zl_t R i)) = 0 := (nI_eq (by omega) (by omega)).mp c8
            refine ze_iinc (v := nI (lo + 1)) (lv' := [(3, .int (nI (lo + 1))), (5, .int (nI (zl_dif R i Q lo (zl_t R i)))), (4, .int (nI i)), (0, .ref b), (1, .ref a), (2, .ref d)]) 2 cd_K_gather_62 rfl (nI_add _ 1) (by decide) rfl ?_
            refine ze_goto (tgt := 12) cd_K_gather_65 (by decide) ?_
            exact ze_sub [0, 3, 4, 5] rfl (ih (lo + 1) _ _ (by omega) (by rw [← hE]; show _ = zfold _ (zk_g1 n R m Q (s.1, s.2) lo) (lo + 1) kk; simp only [zk_g1, hfo, c8] <;> (first | rfl | (rw [if_pos (by omega)]) | (rw [if_neg (by omega)]) | simp_all)) (by first | omega | (show s.1 + 1 ≤ lo + 1; omega)) h h2 hK hF)
          · skip
            have c8 := c8; rw [← nI_0] at c8
            have c8 : ¬ (zl_dif R i Q lo (zl_t R i)) = 0 := fun h9 => c8 (by rw [h9])
            refine ze_aload_n 3 cd_K_gather_53 rfl rfl ?_
            refine ze_iload 1 cd_K_gather_54 rfl ?_
            refine ze_iload_n 2 cd_K_gather_56 rfl rfl ?_
            refine ze_iload 0 cd_K_gather_57 rfl ?_
            refine ze_callVv (rm' := zr_K_add) (b := b) (As := [.int (nI i), .int (nI lo), .int (nI (zl_dif R i Q lo (zl_t R i)))]) (rest := []) (kc_K_add hK (by omega)) ⟨rfl, rfl⟩ zy_K_add_ok zm_712 zm_714 zm_27 (ci := 0) rfl rfl (by decide) (by decide) cd_K_gather_59 hK.1 rfl rfl (Nat.le_of_ble_eq_true rfl) (fun σ9 sz9 hq9 => ?_)
            obtain ⟨rfl, hF9, h9⟩ := hq9
            have h := h.frn hF9 11 rfl (by omega)
            have h2 := h2.frn hF9 11 rfl (by omega)
            have hK := h9
            have hF := hF.trans (hF9.wide (by omega) (by omega))
            refine ze_iinc (v := nI (lo + 1)) (lv' := [(3, .int (nI (lo + 1))), (5, .int (nI (zl_dif R i Q lo (zl_t R i)))), (4, .int (nI i)), (0, .ref b), (1, .ref a), (2, .ref d)]) 2 cd_K_gather_62 rfl (nI_add _ 1) (by decide) rfl ?_
            refine ze_goto (tgt := 12) cd_K_gather_65 (by decide) ?_
            exact ze_sub [0, 3, 4, 5] rfl (ih (lo + 1) _ _ (by omega) (by rw [← hE]; show _ = zfold _ (zk_g1 n R m Q (s.1, s.2) lo) (lo + 1) kk; simp only [zk_g1, hfo, c8] <;> (first | rfl | (rw [if_pos (by omega)]) | (rw [if_neg (by omega)]) | simp_all)) (by first | omega | (show s.1 + 1 ≤ lo + 1; omega)) h h2 hK hF)
  refine zM_of (lv := [(0, .ref b), (1, .ref a), (2, .ref d)]) (ini := false) (by decide) rfl (by decide) (Nat.le_of_ble_eq_true rfl) rfl ?_
  refine ze_aload_n 0 cd_K_gather_0 rfl rfl ?_
  refine ze_iconst (v := nI 0) cd_K_gather_1 (by decide) ?_
  refine ze_put zin_K zy_K zt_K zn_K (ci := 0) rfl 0 (by decide) zm_230 rfl (Or.inl rfl) cd_K_gather_2 hK.1 rfl rfl (Nat.le_of_ble_eq_true rfl) (fs' := [.int (nI 0), .int od, .ref (b + 1), .ref (b + 2), .ref (b + 3), .ref (b + 4)]) rfl ?_
  have hK := hK.put (fs' := [.int (nI 0), .int od, .ref (b + 1), .ref (b + 2), .ref (b + 3), .ref (b + 4)])
  have h := h.upn (b := b) (e := .inr (0, [.int (nI 0), .int od, .ref (b + 1), .ref (b + 2), .ref (b + 3), .ref (b + 4)])) 11 rfl (by omega)
  have h2 := h2.upn (b := b) (e := .inr (0, [.int (nI 0), .int od, .ref (b + 1), .ref (b + 2), .ref (b + 3), .ref (b + 4)])) 11 rfl (by omega)
  have hF := hF.up (a := b) (e := .inr (0, [.int (nI 0), .int od, .ref (b + 1), .ref (b + 2), .ref (b + 3), .ref (b + 4)])) (by omega) (by omega)
  refine ze_aload_n 0 cd_K_gather_5 rfl rfl ?_
  refine ze_iconst (v := nI 0) cd_K_gather_6 (by decide) ?_
  refine ze_put zin_K zy_K zt_K zn_K (ci := 0) rfl 1 (by decide) zm_232 rfl (Or.inl rfl) cd_K_gather_7 hK.1 (by decide) rfl (Nat.le_of_ble_eq_true rfl) (fs' := [.int (nI 0), .int (nI 0), .ref (b + 1), .ref (b + 2), .ref (b + 3), .ref (b + 4)]) rfl ?_
  have hK := hK.put (fs' := [.int (nI 0), .int (nI 0), .ref (b + 1), .ref (b + 2), .ref (b + 3), .ref (b + 4)])
  have h := h.upn (b := b) (e := .inr (0, [.int (nI 0), .int (nI 0), .ref (b + 1), .ref (b + 2), .ref (b + 3), .ref (b + 4)])) 11 rfl (by omega)
  have h2 := h2.upn (b := b) (e := .inr (0, [.int (nI 0), .int (nI 0), .ref (b + 1), .ref (b + 2), .ref (b + 3), .ref (b + 4)])) 11 rfl (by omega)
  have hF := hF.up (a := b) (e := .inr (0, [.int (nI 0), .int (nI 0), .ref (b + 1), .ref (b + 2), .ref (b + 3), .ref (b + 4)])) (by omega) (by omega)
  refine ze_iconst (v := nI 0) cd_K_gather_10 (by decide) ?_
  refine ze_istore_n (lv' := [(3, .int (nI 0)), (0, .ref b), (1, .ref a), (2, .ref d)]) cd_K_gather_11 rfl (by decide) rfl ?_
  exact loop m 0 (0, K) _ (by omega) rfl (by simp) h h2 hK hF
def zs_v (R : Nat → Nat → Int32) (i : Nat) (s : Nat → Nat → Int32) (u : Nat) : Int32 := if R 8 i = nI u then R 7 i else s 1 (u * 100 + i)
def zs_s1 (R : Nat → Nat → Int32) (i : Nat) (s : Nat → Nat → Int32) (u : Nat) : Nat → Nat → Int32 := va_up s 0 (upd (s 0) (u * 100 + i) (zs_v R i s u))
def zs_1 (n : Nat) (R : Nat → Nat → Int32) (i : Nat) (s : Nat → Nat → Int32) (u : Nat) : Nat → Nat → Int32 :=
  match zi n (R 2 i) with
  | none => zs_s1 R i s u
  | some p => va_up (zs_s1 R i s u) 1 (upd (s 1) (u * 100 + p) (s 1 (u * 100 + p) + zs_v R i s u))
def zs_one (n : Nat) (R : Nat → Nat → Int32) (s : Nat → Nat → Int32) (i : Nat) : Nat → Nat → Int32 := zfold (zs_1 n R i) s 0 3
def zs_out (n : Nat) (R : Nat → Nat → Int32) : Nat → (Nat → Nat → Int32) → (Nat → Nat → Int32)
  | 0, s => s
  | k + 1, s => zs_out n R k (zfold (fun s i => if R 3 i = nI k then zs_one n R s i else s) s 0 n)
def zs_w (n : Nat) (R : Nat → Nat → Int32) (S : Nat → Nat → Int32) : Nat → Nat → Int32 := zs_out n R 9 (va_up S 1 (zfil (S 1) (nI 0) 300))
def zs_con (S R : Nat → Nat → Int32) (i : Nat) : Option Nat → Bool
  | none => false
  | some u => if S 1 (u * 100 + i) = 0 then false else if S 1 (u * 100 + i) = R 7 i then false else true
abbrev zr_S_wholeOf : Room := { frames := 0, cells := 0, slots := 0, locals := 0 }
set_option maxRecDepth 100000 in
set_option maxHeartbeats 4000000 in
theorem kc_S_wholeOf {g : zx_G} {σ : zx_M} {sz : Nat} {b : Nat} {S : Nat → Nat → Int32} {i u : Nat} (hS : zs g σ b S) (hi : i < 100) (hu : u < 3) : zM g cy_S_wholeOf cb_S_wholeOf 3 (Option.some Jvm.ClassFile.FieldType.int) zr_S_wholeOf 0 0 [.ref b, .int (nI i), .int (nI u)] σ sz (zPp (S 0 (u * 100 + i)) σ sz) := by
  refine zM_of (lv := [(0, .ref b), (1, .int (nI i)), (2, .int (nI u))]) (ini := false) (by decide) rfl (by decide) (Nat.le_of_ble_eq_true rfl) rfl ?_
  refine ze_aload_n 0 cd_S_wholeOf_0 rfl rfl ?_
  refine ze_get zin_S (v := .ref (b + 1)) (ci := 4) rfl 0 (by decide) zm_217 rfl cd_S_wholeOf_1 hS.1 rfl ?_
  refine ze_iload_n 2 cd_S_wholeOf_4 rfl rfl ?_
  refine ze_bipush (v := nI 100) cd_S_wholeOf_5 (by decide) ?_
  refine ze_imul cd_S_wholeOf_7 ?_
  refine ze_top (y := nI (u * 100)) (pk_mul _ _) ?_
  refine ze_iload_n 1 cd_S_wholeOf_8 rfl rfl ?_
  refine ze_iadd cd_S_wholeOf_9 ?_
  refine ze_top (y := nI ((u * 100) + i)) (nI_add _ _) ?_
  refine ze_iald (j := (u * 100) + i) cd_S_wholeOf_10 (hS.2 0 _ rfl) rfl (by omega) (by decide) ?_
  refine ze_iret cd_S_wholeOf_11 rfl (by decide) (by decide) (zPp_mk ?_)
  rfl
abbrev zr_S_weighOne : Room := { frames := 1, cells := 0, slots := 0, locals := 21 }
set_option maxRecDepth 100000 in
set_option maxHeartbeats 4000000 in
theorem kc_S_weighOne {g : zx_G} {σ : zx_M} {sz : Nat} {b : Nat} {S : Nat → Nat → Int32} {a n : Nat} {R : Nat → Nat → Int32} {i : Nat} (hS : zs g σ b S) (h : zl g σ a n R) (hab : a + 12 ≤ b ∨ b + 3 ≤ a) (hn : n ≤ 100) (hi : i < 100) : zM g cy_S_weighOne cb_S_weighOne 6 (Option.none : Option Jvm.ClassFile.FieldType) zr_S_weighOne 0 0 [.ref b, .ref a, .int (nI i)] σ sz (zPv (fun σ' sz' => sz' = sz ∧ zfr σ σ' b 3 ∧ zs g σ' b (zs_one n R S i))) := by
  have hF : zfr σ σ b 3 := zfr.rf
  have loop : ∀ (kk : Nat) (lo : Nat) (s : Nat → Nat → Int32) (σ1 : zx_M), lo + kk = 3 → zfold (zs_1 n R i) s lo kk = zs_one n R S i → zs g σ1 b s → zl g σ1 a n R → zfr σ σ1 b 3 → zE g "FindingAid$Sums" cb_S_weighOne 6 (Option.none : Option Jvm.ClassFile.FieldType) false zr_S_weighOne 0 0 (zPv (fun σ' sz' => sz' = sz ∧ zfr σ σ' b 3 ∧ zs g σ' b (zs_one n R S i))) 10 [(4, .int (nI lo)), (3, .int (R 2 i)), (0, .ref b), (1, .ref a), (2, .int (nI i))] [] σ1 sz 0 0 := by
    intro kk
    induction kk with
    | zero =>
      intro lo s σ1 hk hE hS h hF
      refine ze_iload 0 cd_S_weighOne_10 rfl ?_
      refine ze_iconst (v := nI 3) cd_S_weighOne_12 (by decide) ?_
      refine ze_icmp_ge (tgt := 96) cd_S_weighOne_13 (by decide) (fun c2 => ?_) (fun c2 => ?_)
      · skip
        have c2 : 3 ≤ lo := (nI_leI (by omega) (by omega)).mp c2
        refine ze_vret cd_S_weighOne_96 rfl (by decide) (by decide) ⟨rfl, rfl, hF, ?_⟩
        rw [← hE]; exact hS
      · skip
        have c2 : ¬ 3 ≤ lo := fun h9 => c2 ((nI_leI (by omega) (by omega)).mpr h9)
        exfalso; omega
    | succ kk ih =>
      intro lo s σ1 hk hE hS h hF
      refine ze_iload 0 cd_S_weighOne_10 rfl ?_
      refine ze_iconst (v := nI 3) cd_S_weighOne_12 (by decide) ?_
      refine ze_icmp_ge (tgt := 96) cd_S_weighOne_13 (by decide) (fun c4 => ?_) (fun c4 => ?_)
      · skip
        have c4 : 3 ≤ lo := (nI_leI (by omega) (by omega)).mp c4
        exfalso; omega
      · skip
        have c4 : ¬ 3 ≤ lo := fun h9 => c4 ((nI_leI (by omega) (by omega)).mpr h9)
        refine ze_iload 0 cd_S_weighOne_16 rfl ?_
        refine ze_bipush (v := nI 100) cd_S_weighOne_18 (by decide) ?_
        refine ze_imul cd_S_weighOne_20 ?_
        refine ze_top (y := nI (lo * 100)) (pk_mul _ _) ?_
        refine ze_istore (lv' := [(5, .int (nI (lo * 100))), (4, .int (nI lo)), (3, .int (R 2 i)), (0, .ref b), (1, .ref a), (2, .int (nI i))]) cd_S_weighOne_21 (by decide) rfl ?_
        refine ze_aload_n 3 cd_S_weighOne_23 rfl rfl ?_
        refine ze_get zin_S (v := .ref (b + 1)) (ci := 4) rfl 0 (by decide) zm_217 rfl cd_S_weighOne_24 hS.1 rfl ?_
        refine ze_iload 0 cd_S_weighOne_27 rfl ?_
        refine ze_iload_n 5 cd_S_weighOne_29 rfl rfl ?_
        refine ze_iadd cd_S_weighOne_30 ?_
        refine ze_top (y := nI ((lo * 100) + i)) (nI_add _ _) ?_
        refine ze_aload_n 4 cd_S_weighOne_31 rfl rfl ?_
        refine ze_get zin_L (v := .ref (a + 9)) (ci := 1) rfl 9 (by decide) zm_129 rfl cd_S_weighOne_32 h.1 rfl ?_
        refine ze_iload_n 5 cd_S_weighOne_35 rfl rfl ?_
        refine ze_iald (j := i) cd_S_weighOne_36 (h.2 8 _ rfl) rfl (by omega) (by decide) ?_
        refine ze_iload 1 cd_S_weighOne_37 rfl ?_
        refine ze_icmp_ne (tgt := 51) cd_S_weighOne_39 (by decide) (fun c6 => ?_) (fun c6 => ?_)
        · skip
          refine ze_aload_n 3 cd_S_weighOne_51 rfl rfl ?_
          refine ze_get zin_S (v := .ref (b + 2)) (ci := 4) rfl 1 (by decide) zm_218 rfl cd_S_weighOne_52 hS.1 rfl ?_
          refine ze_iload 0 cd_S_weighOne_55 rfl ?_
          refine ze_iload_n 5 cd_S_weighOne_57 rfl rfl ?_
          refine ze_iadd cd_S_weighOne_58 ?_
          refine ze_top (y := nI ((lo * 100) + i)) (nI_add _ _) ?_
          refine ze_iald (j := (lo * 100) + i) cd_S_weighOne_59 (hS.2 1 _ rfl) rfl (by omega) (by decide) ?_
          refine ze_top (y := zs_v R i s lo) (by rw [zs_v, if_neg c6]) ?_
          refine ze_iast (j := (lo * 100) + i) cd_S_weighOne_60 (hS.2 0 _ rfl) rfl (by omega) (by decide) ?_
          have hS := hS.ar 0 0 300 rfl (b := b + 1) (f := upd (s 0) ((lo * 100) + i) (zs_v R i s lo)) (by omega)
          have h := h.upn (b := b + 1) (e := .inl (g.2.2.2.1 0, 300, .inl (upd (s 0) ((lo * 100) + i) (zs_v R i s lo)))) 11 rfl (by omega)
          have hF := hF.up (a := b + 1) (e := .inl (g.2.2.2.1 0, 300, .inl (upd (s 0) ((lo * 100) + i) (zs_v R i s lo)))) (by omega) (by omega)
          refine ze_aload_n 4 cd_S_weighOne_61 rfl rfl ?_
          refine ze_iload_n 2 cd_S_weighOne_62 rfl rfl ?_
          refine ze_callVp (rm' := zr_L_has) (b := a) (As := [.int (R 2 i)]) (rest := []) (kc_L_has h) ⟨rfl, rfl⟩ zy_L_has_ok zm_348 zm_311 zm_312 (ci := 1) rfl rfl (by decide) (by decide) cd_S_weighOne_63 h.1 rfl rfl (Nat.le_of_ble_eq_true rfl) ?_
          refine ze_if_eq (tgt := 90) cd_S_weighOne_66 (by decide) (fun c7 => ?_) (fun c7 => ?_)
          · skip
            have c7 : ((zi n (R 2 i)).isSome) = false := zb_f c7
            have c7 : zi n (R 2 i) = none := by simpa using c7
            refine ze_iinc (v := nI (lo + 1)) (lv' := [(4, .int (nI (lo + 1))), (5, .int (nI (lo * 100))), (3, .int (R 2 i)), (0, .ref b), (1, .ref a), (2, .int (nI i))]) 1 cd_S_weighOne_90 rfl (nI_add _ 1) (by decide) rfl ?_
            refine ze_goto (tgt := 10) cd_S_weighOne_93 (by decide) ?_
            exact ze_sub [0, 2, 3, 4, 5] rfl (ih (lo + 1) _ _ (by omega) (by rw [← hE]; simp only [zfold, zs_1, c7]; rfl) hS h hF)
          · skip
            have c7 : ((zi n (R 2 i)).isSome) = true := zb_t c7
            obtain ⟨p, hp⟩ := Option.isSome_iff_exists.mp c7
            obtain ⟨hpn, hp2⟩ := zi_some (by omega) hp
            refine ze_aload_n 3 cd_S_weighOne_69 rfl rfl ?_
            refine ze_get zin_S (v := .ref (b + 2)) (ci := 4) rfl 1 (by decide) zm_218 rfl cd_S_weighOne_70 hS.1 rfl ?_
            refine ze_iload 0 cd_S_weighOne_73 rfl ?_
            refine ze_iload_n 2 cd_S_weighOne_75 rfl rfl ?_
            refine ze_iadd cd_S_weighOne_76 ?_
            refine ze_top (y := nI (lo * 100 + p)) (by rw [hp2]; exact nI_add _ _) ?_
            refine ze_dup2 cd_S_weighOne_77 rfl rfl ?_
            refine ze_iald (j := lo * 100 + p) (f := s 1) cd_S_weighOne_78 (hS.2 1 _ rfl) rfl (by omega) (by decide) ?_
            refine ze_aload_n 3 cd_S_weighOne_79 rfl rfl ?_
            refine ze_get zin_S (v := .ref (b + 1)) (ci := 4) rfl 0 (by decide) zm_217 rfl cd_S_weighOne_80 hS.1 rfl ?_
            refine ze_iload 0 cd_S_weighOne_83 rfl ?_
            refine ze_iload_n 5 cd_S_weighOne_85 rfl rfl ?_
            refine ze_iadd cd_S_weighOne_86 ?_
            refine ze_top (y := nI ((lo * 100) + i)) (nI_add _ _) ?_
            refine ze_iald (j := (lo * 100) + i) (f := upd (s 0) ((lo * 100) + i) (zs_v R i s lo)) cd_S_weighOne_87 (hS.2 0 _ rfl) rfl (by omega) (by decide) ?_
            refine ze_top pk_us ?_
            refine ze_iadd cd_S_weighOne_88 ?_
            refine ze_iast (j := lo * 100 + p) (f := s 1) cd_S_weighOne_89 (hS.2 1 _ rfl) rfl (by omega) (by decide) ?_
            have hS := hS.ar 1 0 300 rfl (b := b + 2) (f := upd (s 1) (lo * 100 + p) ((s 1 (lo * 100 + p)) + (zs_v R i s lo))) (by omega)
            have h := h.upn (b := b + 2) (e := .inl (g.2.2.2.1 0, 300, .inl (upd (s 1) (lo * 100 + p) ((s 1 (lo * 100 + p)) + (zs_v R i s lo))))) 11 rfl (by omega)
            have hF := hF.up (a := b + 2) (e := .inl (g.2.2.2.1 0, 300, .inl (upd (s 1) (lo * 100 + p) ((s 1 (lo * 100 + p)) + (zs_v R i s lo))))) (by omega) (by omega)
            refine ze_iinc (v := nI (lo + 1)) (lv' := [(4, .int (nI (lo + 1))), (5, .int (nI (lo * 100))), (3, .int (R 2 i)), (0, .ref b), (1, .ref a), (2, .int (nI i))]) 1 cd_S_weighOne_90 rfl (nI_add _ 1) (by decide) rfl ?_
            refine ze_goto (tgt := 10) cd_S_weighOne_93 (by decide) ?_
            exact ze_sub [0, 2, 3, 4, 5] rfl (ih (lo + 1) _ _ (by omega) (by rw [← hE]; simp only [zfold, zs_1, hp]; rfl) hS h hF)
        · skip
          refine ze_aload_n 4 cd_S_weighOne_42 rfl rfl ?_
          refine ze_get zin_L (v := .ref (a + 8)) (ci := 1) rfl 8 (by decide) zm_124 rfl cd_S_weighOne_43 h.1 rfl ?_
          refine ze_iload_n 5 cd_S_weighOne_46 rfl rfl ?_
          refine ze_iald (j := i) cd_S_weighOne_47 (h.2 7 _ rfl) rfl (by omega) (by decide) ?_
          refine ze_goto (tgt := 60) cd_S_weighOne_48 (by decide) ?_
          refine ze_top (y := zs_v R i s lo) (by rw [zs_v, if_pos c6]) ?_
          refine ze_iast (j := (lo * 100) + i) cd_S_weighOne_60 (hS.2 0 _ rfl) rfl (by omega) (by decide) ?_
          have hS := hS.ar 0 0 300 rfl (b := b + 1) (f := upd (s 0) ((lo * 100) + i) (zs_v R i s lo)) (by omega)
          have h := h.upn (b := b + 1) (e := .inl (g.2.2.2.1 0, 300, .inl (upd (s 0) ((lo * 100) + i) (zs_v R i s lo)))) 11 rfl (by omega)
          have hF := hF.up (a := b + 1) (e := .inl (g.2.2.2.1 0, 300, .inl (upd (s 0) ((lo * 100) + i) (zs_v R i s lo)))) (by omega) (by omega)
          refine ze_aload_n 4 cd_S_weighOne_61 rfl rfl ?_
          refine ze_iload_n 2 cd_S_weighOne_62 rfl rfl ?_
          refine ze_callVp (rm' := zr_L_has) (b := a) (As := [.int (R 2 i)]) (rest := []) (kc_L_has h) ⟨rfl, rfl⟩ zy_L_has_ok zm_348 zm_311 zm_312 (ci := 1) rfl rfl (by decide) (by decide) cd_S_weighOne_63 h.1 rfl rfl (Nat.le_of_ble_eq_true rfl) ?_
          refine ze_if_eq (tgt := 90) cd_S_weighOne_66 (by decide) (fun c8 => ?_) (fun c8 => ?_)
          · skip
            have c8 : ((zi n (R 2 i)).isSome) = false := zb_f c8
            have c8 : zi n (R 2 i) = none := by simpa using c8
            refine ze_iinc (v := nI (lo + 1)) (lv' := [(4, .int (nI (lo + 1))), (5, .int (nI (lo * 100))), (3, .int (R 2 i)), (0, .ref b), (1, .ref a), (2, .int (nI i))]) 1 cd_S_weighOne_90 rfl (nI_add _ 1) (by decide) rfl ?_
            refine ze_goto (tgt := 10) cd_S_weighOne_93 (by decide) ?_
            exact ze_sub [0, 2, 3, 4, 5] rfl (ih (lo + 1) _ _ (by omega) (by rw [← hE]; simp only [zfold, zs_1, c8]; rfl) hS h hF)
          · skip
            have c8 : ((zi n (R 2 i)).isSome) = true := zb_t c8
            obtain ⟨p, hp⟩ := Option.isSome_iff_exists.mp c8
            obtain ⟨hpn, hp2⟩ := zi_some (by omega) hp
            refine ze_aload_n 3 cd_S_weighOne_69 rfl rfl ?_
            refine ze_get zin_S (v := .ref (b + 2)) (ci := 4) rfl 1 (by decide) zm_218 rfl cd_S_weighOne_70 hS.1 rfl ?_
            refine ze_iload 0 cd_S_weighOne_73 rfl ?_
            refine ze_iload_n 2 cd_S_weighOne_75 rfl rfl ?_
            refine ze_iadd cd_S_weighOne_76 ?_
            refine ze_top (y := nI (lo * 100 + p)) (by rw [hp2]; exact nI_add _ _) ?_
            refine ze_dup2 cd_S_weighOne_77 rfl rfl ?_
            refine ze_iald (j := lo * 100 + p) (f := s 1) cd_S_weighOne_78 (hS.2 1 _ rfl) rfl (by omega) (by decide) ?_
            refine ze_aload_n 3 cd_S_weighOne_79 rfl rfl ?_
            refine ze_get zin_S (v := .ref (b + 1)) (ci := 4) rfl 0 (by decide) zm_217 rfl cd_S_weighOne_80 hS.1 rfl ?_
            refine ze_iload 0 cd_S_weighOne_83 rfl ?_
            refine ze_iload_n 5 cd_S_weighOne_85 rfl rfl ?_
            refine ze_iadd cd_S_weighOne_86 ?_
            refine ze_top (y := nI ((lo * 100) + i)) (nI_add _ _) ?_
            refine ze_iald (j := (lo * 100) + i) (f := upd (s 0) ((lo * 100) + i) (zs_v R i s lo)) cd_S_weighOne_87 (hS.2 0 _ rfl) rfl (by omega) (by decide) ?_
            refine ze_top pk_us ?_
            refine ze_iadd cd_S_weighOne_88 ?_
            refine ze_iast (j := lo * 100 + p) (f := s 1) cd_S_weighOne_89 (hS.2 1 _ rfl) rfl (by omega) (by decide) ?_
            have hS := hS.ar 1 0 300 rfl (b := b + 2) (f := upd (s 1) (lo * 100 + p) ((s 1 (lo * 100 + p)) + (zs_v R i s lo))) (by omega)
            have h := h.upn (b := b + 2) (e := .inl (g.2.2.2.1 0, 300, .inl (upd (s 1) (lo * 100 + p) ((s 1 (lo * 100 + p)) + (zs_v R i s lo))))) 11 rfl (by omega)
            have hF := hF.up (a := b + 2) (e := .inl (g.2.2.2.1 0, 300, .inl (upd (s 1) (lo * 100 + p) ((s 1 (lo * 100 + p)) + (zs_v R i s lo))))) (by omega) (by omega)
            refine ze_iinc (v := nI (lo + 1)) (lv' := [(4, .int (nI (lo + 1))), (5, .int (nI (lo * 100))), (3, .int (R 2 i)), (0, .ref b), (1, .ref a), (2, .int (nI i))]) 1 cd_S_weighOne_90 rfl (nI_add _ 1) (by decide) rfl ?_
            refine ze_goto (tgt := 10) cd_S_weighOne_93 (by decide) ?_
            exact ze_sub [0, 2, 3, 4, 5] rfl (ih (lo + 1) _ _ (by omega) (by rw [← hE]; simp only [zfold, zs_1, hp]; rfl) hS h hF)
  refine zM_of (lv := [(0, .ref b), (1, .ref a), (2, .int (nI i))]) (ini := false) (by decide) rfl (by decide) (Nat.le_of_ble_eq_true rfl) rfl ?_
  refine ze_aload_n 1 cd_S_weighOne_0 rfl rfl ?_
  refine ze_get zin_L (v := .ref (a + 3)) (ci := 1) rfl 3 (by decide) zm_103 rfl cd_S_weighOne_1 h.1 rfl ?_
  refine ze_iload_n 2 cd_S_weighOne_4 rfl rfl ?_
  refine ze_iald (j := i) cd_S_weighOne_5 (h.2 2 _ rfl) rfl (by omega) (by decide) ?_
  refine ze_istore_n (lv' := [(3, .int (R 2 i)), (0, .ref b), (1, .ref a), (2, .int (nI i))]) cd_S_weighOne_6 rfl (by decide) rfl ?_
  refine ze_iconst (v := nI 0) cd_S_weighOne_7 (by decide) ?_
  refine ze_istore (lv' := [(4, .int (nI 0)), (3, .int (R 2 i)), (0, .ref b), (1, .ref a), (2, .int (nI i))]) cd_S_weighOne_8 (by decide) rfl ?_
  exact loop 3 0 S σ (by omega) rfl hS h hF
abbrev zr_S_weigh : Room := { frames := 2, cells := 0, slots := 0, locals := 46 }
set_option maxRecDepth 100000 in
set_option maxHeartbeats 4000000 in
theorem kc_S_weigh {g : zx_G} {σ : zx_M} {sz : Nat} {b : Nat} {S : Nat → Nat → Int32} {a n : Nat} {R : Nat → Nat → Int32} (hS : zs g σ b S) (h : zl g σ a n R) (hab : a + 12 ≤ b ∨ b + 3 ≤ a) (hn : n ≤ 100) : zM g cy_S_weigh cb_S_weigh 4 (Option.none : Option Jvm.ClassFile.FieldType) zr_S_weigh 0 0 [.ref b, .ref a] σ sz (zPv (fun σ' sz' => sz' = sz ∧ zfr σ σ' b 3 ∧ zs g σ' b (zs_w n R S))) := by
  generalize hX0 : zs_w n R S = X0
  have hF : zfr σ σ b 3 := zfr.rf
  have outer : ∀ (kk : Nat) (s : Nat → Nat → Int32) (σ1 : zx_M), kk ≤ 9 → zs_out n R kk s = X0 → zs g σ1 b s → zl g σ1 a n R → zfr σ σ1 b 3 → zE g "FindingAid$Sums" cb_S_weigh 4 (Option.none : Option Jvm.ClassFile.FieldType) false zr_S_weigh 0 0 (zPv (fun σ' sz' => sz' = sz ∧ zfr σ σ' b 3 ∧ zs g σ' b X0)) 11 [(2, .int (zp kk)), (0, .ref b), (1, .ref a)] [] σ1 sz 0 0 := by
    intro kk
    induction kk with
    | zero =>
      intro s σ1 hk9 hE hS h hF
      refine ze_iload_n 0 cd_S_weigh_11 rfl rfl ?_
      refine ze_if_lt (tgt := 53) cd_S_weigh_12 (by decide) (fun c2 => ?_) (fun c2 => ?_)
      · skip
        refine ze_vret cd_S_weigh_53 rfl (by decide) (by decide) ⟨rfl, rfl, hF, ?_⟩
        rw [← hE]; exact hS
      · skip
        exact absurd (by decide) c2
    | succ dk ih0 =>
      intro s0 σ0 hk9 hE0 hS0 h0 hF0
      have inner : ∀ (kk : Nat) (lo : Nat) (s : Nat → Nat → Int32) (σ1 : zx_M), lo + kk = n → zs_out n R dk (zfold (fun s i => if R 3 i = nI dk then zs_one n R s i else s) s lo kk) = X0 → zs g σ1 b s → zl g σ1 a n R → zfr σ σ1 b 3 → zE g "FindingAid$Sums" cb_S_weigh 4 (Option.none : Option Jvm.ClassFile.FieldType) false zr_S_weigh 0 0 (zPv (fun σ' sz' => sz' = sz ∧ zfr σ σ' b 3 ∧ zs g σ' b X0)) 17 [(3, .int (nI lo)), (2, .int (nI dk)), (0, .ref b), (1, .ref a)] [] σ1 sz 0 0 := by
        intro kk
        induction kk with
        | zero =>
          intro lo s σ1 hk hE hS h hF
          refine ze_iload_n 0 cd_S_weigh_17 rfl rfl ?_
          refine ze_aload_n 3 cd_S_weigh_18 rfl rfl ?_
          refine ze_get zin_L (v := .int (nI n)) (ci := 1) rfl 0 (by decide) zm_89 rfl cd_S_weigh_19 h.1 rfl ?_
          refine ze_icmp_ge (tgt := 47) cd_S_weigh_22 (by decide) (fun c4 => ?_) (fun c4 => ?_)
          · skip
            have c4 : n ≤ lo := (nI_leI (by omega) (by omega)).mp c4
            refine ze_iinc (v := zp dk) (lv' := [(2, .int (zp dk)), (3, .int (nI lo)), (0, .ref b), (1, .ref a)]) 1 cd_S_weigh_47 rfl (zp_add dk) (by decide) rfl ?_
            refine ze_goto (tgt := 11) cd_S_weigh_50 (by decide) ?_
            exact ze_sub [0, 2, 3] rfl (ih0 _ _ (by omega) hE hS h hF)
          · skip
            have c4 : ¬ n ≤ lo := fun h9 => c4 ((nI_leI (by omega) (by omega)).mpr h9)
            exfalso; omega
        | succ kk ih =>
          intro lo s σ1 hk hE hS h hF
          refine ze_iload_n 0 cd_S_weigh_17 rfl rfl ?_
          refine ze_aload_n 3 cd_S_weigh_18 rfl rfl ?_
          refine ze_get zin_L (v := .int (nI n)) (ci := 1) rfl 0 (by decide) zm_89 rfl cd_S_weigh_19 h.1 rfl ?_
          refine ze_icmp_ge (tgt := 47) cd_S_weigh_22 (by decide) (fun c6 => ?_) (fun c6 => ?_)
          · skip
            have c6 : n ≤ lo := (nI_leI (by omega) (by omega)).mp c6
            exfalso; omega
          · skip
            have c6 : ¬ n ≤ lo := fun h9 => c6 ((nI_leI (by omega) (by omega)).mpr h9)
            refine ze_aload_n 3 cd_S_weigh_25 rfl rfl ?_
            refine ze_get zin_L (v := .ref (a + 4)) (ci := 1) rfl 4 (by decide) zm_107 rfl cd_S_weigh_26 h.1 rfl ?_
            refine ze_iload_n 0 cd_S_weigh_29 rfl rfl ?_
            refine ze_iald (j := lo) cd_S_weigh_30 (h.2 3 _ rfl) rfl (by omega) (by decide) ?_
            refine ze_iload_n 1 cd_S_weigh_31 rfl rfl ?_
            refine ze_icmp_ne (tgt := 41) cd_S_weigh_32 (by decide) (fun c7 => ?_) (fun c7 => ?_)
            · skip
              refine ze_iinc (v := nI (lo + 1)) (lv' := [(3, .int (nI (lo + 1))), (2, .int (nI dk)), (0, .ref b), (1, .ref a)]) 0 cd_S_weigh_41 rfl (nI_add _ 1) (by decide) rfl ?_
              refine ze_goto (tgt := 17) cd_S_weigh_44 (by decide) ?_
              exact ih (lo + 1) _ _ (by omega) (by rw [← hE]; simp only [zfold, c7]; try simp only [if_true, if_false]; try rfl) hS h hF
            · skip
              refine ze_aload_n 2 cd_S_weigh_35 rfl rfl ?_
              refine ze_aload_n 3 cd_S_weigh_36 rfl rfl ?_
              refine ze_iload_n 0 cd_S_weigh_37 rfl rfl ?_
              refine ze_callVv (rm' := zr_S_weighOne) (b := b) (As := [.ref a, .int (nI lo)]) (rest := []) (kc_S_weighOne hS h (by omega) (by omega) (by omega)) ⟨rfl, rfl⟩ zy_S_weighOne_ok zm_344 zm_346 zm_0 (ci := 4) rfl rfl (by decide) (by decide) cd_S_weigh_38 hS.1 rfl rfl (Nat.le_of_ble_eq_true rfl) (fun σ9 sz9 hq9 => ?_)
              obtain ⟨rfl, hF9, h9⟩ := hq9
              have h := h.frn hF9 11 rfl (by omega)
              have hS := h9
              have hF := hF.trans (hF9.wide (by omega) (by omega))
              refine ze_iinc (v := nI (lo + 1)) (lv' := [(3, .int (nI (lo + 1))), (2, .int (nI dk)), (0, .ref b), (1, .ref a)]) 0 cd_S_weigh_41 rfl (nI_add _ 1) (by decide) rfl ?_
              refine ze_goto (tgt := 17) cd_S_weigh_44 (by decide) ?_
              exact ih (lo + 1) _ _ (by omega) (by rw [← hE]; simp only [zfold, c7]; try simp only [if_true, if_false]; try rfl) hS h hF
      refine ze_iload_n 0 cd_S_weigh_11 rfl rfl ?_
      refine ze_if_lt (tgt := 53) cd_S_weigh_12 (by decide) (fun c9 => ?_) (fun c9 => ?_)
      · skip
        have c9 := c9; rw [← nI_0] at c9
        have c9 : dk < 0 := (nI_ltI (by omega) (by omega)).mp c9
        exfalso; omega
      · skip
        have c9 := c9; rw [← nI_0] at c9
        have c9 : ¬ dk < 0 := fun h9 => c9 ((nI_ltI (by omega) (by omega)).mpr h9)
        refine ze_iconst (v := nI 0) cd_S_weigh_15 (by decide) ?_
        refine ze_istore_n (lv' := [(3, .int (nI 0)), (2, .int (nI dk)), (0, .ref b), (1, .ref a)]) cd_S_weigh_16 rfl (by decide) rfl ?_
        exact inner n 0 s0 σ0 (by omega) (by rw [← hE0]; rfl) hS0 h0 hF0
  refine zM_of (lv := [(0, .ref b), (1, .ref a)]) (ini := false) (by decide) rfl (by decide) (Nat.le_of_ble_eq_true rfl) rfl ?_
  refine ze_aload_n 0 cd_S_weigh_0 rfl rfl ?_
  refine ze_get zin_S (v := .ref (b + 2)) (ci := 4) rfl 1 (by decide) zm_218 rfl cd_S_weigh_1 hS.1 rfl ?_
  refine ze_iconst (v := nI 0) cd_S_weigh_4 (by decide) ?_
  refine ze_callSv (rm' := zr_JA_fill) (As := [.ref (b + 2), .int (nI 0)]) (rest := []) (kc_JA_fill (f := S 1) (hS.2 1 _ rfl) (by decide)) ⟨rfl, rfl⟩ zy_JA_fill_ok zm_341 zm_342 (by decide) (by decide) cd_S_weigh_5 rfl rfl (Nat.le_of_ble_eq_true rfl) (fun σ9 sz9 hq9 => ?_)
  obtain ⟨rfl, rfl⟩ := hq9
  have hS := hS.ar 1 0 300 rfl (b := b + 2) (f := zfil (S 1) (nI 0) 300) (by omega)
  have h := h.upn (b := b + 2) (e := .inl (g.2.2.2.1 0, 300, .inl (zfil (S 1) (nI 0) 300))) 11 rfl (by omega)
  have hF := hF.up (a := b + 2) (e := .inl (g.2.2.2.1 0, 300, .inl (zfil (S 1) (nI 0) 300))) (by omega) (by omega)
  refine ze_bipush (v := nI 8) cd_S_weigh_8 (by decide) ?_
  refine ze_istore_n (lv' := [(2, .int (nI 8)), (0, .ref b), (1, .ref a)]) cd_S_weigh_10 rfl (by decide) rfl ?_
  exact outer 9 _ _ (by omega) (by rw [← hX0]; rfl) hS h hF
abbrev zr_S_contradicts : Room := { frames := 0, cells := 0, slots := 0, locals := 0 }
set_option maxRecDepth 100000 in
set_option maxHeartbeats 4000000 in
theorem kc_S_contradicts {g : zx_G} {σ : zx_M} {sz : Nat} {b : Nat} {S : Nat → Nat → Int32} {a n : Nat} {R : Nat → Nat → Int32} {i : Nat} {uo : Option Nat} (hS : zs g σ b S) (h : zl g σ a n R) (hi : i < 100) (hU : R 8 i = zo uo) (hU3 : ∀ u, uo = some u → u < 3) : zM g cy_S_contradicts cb_S_contradicts 5 (Option.some Jvm.ClassFile.FieldType.boolean) zr_S_contradicts 0 0 [.ref b, .ref a, .int (nI i)] σ sz (zPp (zb (zs_con S R i uo)) σ sz) := by
  refine zM_of (lv := [(0, .ref b), (1, .ref a), (2, .int (nI i))]) (ini := false) (by decide) rfl (by decide) (Nat.le_of_ble_eq_true rfl) rfl ?_
  refine ze_aload_n 1 cd_S_contradicts_0 rfl rfl ?_
  refine ze_get zin_L (v := .ref (a + 9)) (ci := 1) rfl 9 (by decide) zm_129 rfl cd_S_contradicts_1 h.1 rfl ?_
  refine ze_iload_n 2 cd_S_contradicts_4 rfl rfl ?_
  refine ze_iald (j := i) cd_S_contradicts_5 (h.2 8 _ rfl) rfl (by omega) (by decide) ?_
  refine ze_top hU ?_
  refine ze_istore_n (lv' := [(3, .int (zo uo)), (0, .ref b), (1, .ref a), (2, .int (nI i))]) cd_S_contradicts_6 rfl (by decide) rfl ?_
  cases uo with
  | none =>
    refine ze_iload_n 0 cd_S_contradicts_7 rfl rfl ?_
    refine ze_iconst (v := (-1 : Int32)) cd_S_contradicts_8 (by decide) ?_
    refine ze_icmp_ne (tgt := 14) cd_S_contradicts_9 (by decide) (fun c9 => absurd rfl c9) (fun _ => ?_)
    refine ze_iconst (v := nI 0) cd_S_contradicts_12 (by decide) ?_
    refine ze_zret cd_S_contradicts_13 rfl (by decide) (by decide) (by decide) (zPp_mk ?_)
    first | rfl | (simp [zs_con, zb, nI_0, zn_1]; done)
  | some u =>
    have hu := hU3 u rfl
    refine ze_iload_n 0 cd_S_contradicts_7 rfl rfl ?_
    refine ze_iconst (v := (-1 : Int32)) cd_S_contradicts_8 (by decide) ?_
    refine ze_icmp_ne (tgt := 14) cd_S_contradicts_9 (by decide) (fun _ => ?_) (fun c9 => absurd (show zo (some u) = -1 from c9) (fun h9 => by cases zo_none (fun j hj => by cases hj; omega) h9))
    refine ze_aload_n 1 cd_S_contradicts_14 rfl rfl ?_
    refine ze_get zin_S (v := .ref (b + 2)) (ci := 4) rfl 1 (by decide) zm_218 rfl cd_S_contradicts_15 hS.1 rfl ?_
    refine ze_iload_n 0 cd_S_contradicts_18 rfl rfl ?_
    refine ze_bipush (v := nI 100) cd_S_contradicts_19 (by decide) ?_
    refine ze_imul cd_S_contradicts_21 ?_
    refine ze_top (y := nI (u * 100)) (pk_mul _ _) ?_
    refine ze_iload_n 3 cd_S_contradicts_22 rfl rfl ?_
    refine ze_iadd cd_S_contradicts_23 ?_
    refine ze_top (y := nI ((u * 100) + i)) (nI_add _ _) ?_
    refine ze_iald (j := (u * 100) + i) cd_S_contradicts_24 (hS.2 1 _ rfl) rfl (by omega) (by decide) ?_
    refine ze_istore (lv' := [(4, .int (S 1 ((u * 100) + i))), (3, .int (nI u)), (0, .ref b), (1, .ref a), (2, .int (nI i))]) cd_S_contradicts_25 (by decide) rfl ?_
    refine ze_iload 0 cd_S_contradicts_27 rfl ?_
    refine ze_if_eq (tgt := 47) cd_S_contradicts_29 (by decide) (fun c3 => ?_) (fun c3 => ?_)
    · skip
      refine ze_iconst (v := nI 0) cd_S_contradicts_47 (by decide) ?_
      refine ze_zret cd_S_contradicts_48 rfl (by decide) (by decide) (by decide) (zPp_mk ?_)
      first | rfl | (simp [zs_con, zb, nI_0, zn_1, c3]; done)
    · skip
      refine ze_iload 0 cd_S_contradicts_32 rfl ?_
      refine ze_aload_n 3 cd_S_contradicts_34 rfl rfl ?_
      refine ze_get zin_L (v := .ref (a + 8)) (ci := 1) rfl 8 (by decide) zm_124 rfl cd_S_contradicts_35 h.1 rfl ?_
      refine ze_iload_n 4 cd_S_contradicts_38 rfl rfl ?_
      refine ze_iald (j := i) cd_S_contradicts_39 (h.2 7 _ rfl) rfl (by omega) (by decide) ?_
      refine ze_icmp_eq (tgt := 47) cd_S_contradicts_40 (by decide) (fun c4 => ?_) (fun c4 => ?_)
      · skip
        refine ze_iconst (v := nI 0) cd_S_contradicts_47 (by decide) ?_
        refine ze_zret cd_S_contradicts_48 rfl (by decide) (by decide) (by decide) (zPp_mk ?_)
        first | rfl | (simp [zs_con, zb, nI_0, zn_1, c3, c4]; done)
      · skip
        refine ze_iconst (v := nI 1) cd_S_contradicts_43 (by decide) ?_
        refine ze_goto (tgt := 48) cd_S_contradicts_44 (by decide) ?_
        refine ze_zret cd_S_contradicts_48 rfl (by decide) (by decide) (by decide) (zPp_mk ?_)
        first | rfl | (simp [zs_con, zb, nI_0, zn_1, c3, c4]; done)
