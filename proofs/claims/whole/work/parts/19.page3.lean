theorem zn_ne {j : Nat} (hj : j < 2 ^ 31) : ¬ nI j = -1 := fun h => by cases zo_none (o := some j) (fun k hk => by cases hk; exact hj) h
abbrev zr_L_nextUnder : Room := { frames := 1, cells := 0, slots := 0, locals := 22 }
set_option maxRecDepth 100000 in
set_option maxHeartbeats 4000000 in
theorem kc_L_nextUnder {g : zx_G} {σ : zx_M} {sz : Nat} {a n : Nat} {R : Nat → Nat → Int32} {top : Int32} {last : Option Nat} (h : zl g σ a n R) (hn : n ≤ 100) (hlast : ∀ l, last = some l → l < 100) : zM g cy_L_nextUnder cb_L_nextUnder 5 (Option.some Jvm.ClassFile.FieldType.int) zr_L_nextUnder 0 0 [.ref a, .int top, .int (zo last)] σ sz (zPp (zo (zl_nxt n R top last)) σ sz) := by
  generalize hX0 : zl_nxt n R top last = X0
  have loop : ∀ (kk : Nat) (lo : Nat) (s : Option Nat), lo + kk = n → zfold (zl_nxt1 R top last) s lo kk = X0 → (∀ j, s = some j → j < lo) → zE g "FindingAid$Levels" cb_L_nextUnder 5 (Option.some Jvm.ClassFile.FieldType.int) false zr_L_nextUnder 0 0 (zPp (zo (X0)) σ sz) 5 [(4, .int (nI lo)), (3, .int (zo s)), (0, .ref a), (1, .int top), (2, .int (zo last))] [] σ sz 0 0 := by
    intro kk
    induction kk with
    | zero =>
      intro lo s hk hE hs
      refine ze_iload 0 cd_L_nextUnder_5 rfl ?_
      refine ze_aload_n 2 cd_L_nextUnder_7 rfl rfl ?_
      refine ze_get zin_L (v := .int (nI n)) (ci := 1) rfl 0 (by decide) zm_88 rfl cd_L_nextUnder_8 h.1 rfl ?_
      refine ze_icmp_ge (tgt := 64) cd_L_nextUnder_11 (by decide) (fun c2 => ?_) (fun c2 => ?_)
      · skip
        have c2 : n ≤ lo := (nI_leI (by omega) (by omega)).mp c2
        refine ze_iload_n 1 cd_L_nextUnder_64 rfl rfl ?_
        refine ze_iret cd_L_nextUnder_65 rfl (by decide) (by decide) (zPp_mk ?_)
        rw [← hE]; rfl
      · skip
        have c2 : ¬ n ≤ lo := fun h9 => c2 ((nI_leI (by omega) (by omega)).mpr h9)
        exfalso; omega
    | succ kk ih =>
      intro lo s hk hE hs
      refine ze_iload 0 cd_L_nextUnder_5 rfl ?_
      refine ze_aload_n 2 cd_L_nextUnder_7 rfl rfl ?_
      refine ze_get zin_L (v := .int (nI n)) (ci := 1) rfl 0 (by decide) zm_88 rfl cd_L_nextUnder_8 h.1 rfl ?_
      refine ze_icmp_ge (tgt := 64) cd_L_nextUnder_11 (by decide) (fun c4 => ?_) (fun c4 => ?_)
      · skip
        have c4 : n ≤ lo := (nI_leI (by omega) (by omega)).mp c4
        exfalso; omega
      · skip
        have c4 : ¬ n ≤ lo := fun h9 => c4 ((nI_leI (by omega) (by omega)).mpr h9)
        refine ze_aload_n 2 cd_L_nextUnder_14 rfl rfl ?_
        refine ze_get zin_L (v := .ref (a + 3)) (ci := 1) rfl 3 (by decide) zm_102 rfl cd_L_nextUnder_15 h.1 rfl ?_
        refine ze_iload 0 cd_L_nextUnder_18 rfl ?_
        refine ze_iald (j := lo) cd_L_nextUnder_20 (h.2 2 _ rfl) rfl (by omega) (by decide) ?_
        refine ze_iload_n 3 cd_L_nextUnder_21 rfl rfl ?_
        refine ze_icmp_ne (tgt := 58) cd_L_nextUnder_22 (by decide) (fun c5 => ?_) (fun c5 => ?_)
        · skip
          refine ze_iinc (v := nI (lo + 1)) (lv' := [(4, .int (nI (lo + 1))), (3, .int (zo s)), (0, .ref a), (1, .int top), (2, .int (zo last))]) 0 cd_L_nextUnder_58 rfl (nI_add _ 1) (by decide) rfl ?_
          refine ze_goto (tgt := 5) cd_L_nextUnder_61 (by decide) ?_
          exact ze_sub [0, 1, 2, 3, 4] rfl (ih (lo + 1) s (by omega) (by rw [← hE]; simp only [zfold, zl_nxt1, zl_la, zl_lb, c5]; try simp only [if_true, if_false]; try rfl) (fun j hj => by first | (cases hj; omega) | (have := hs j hj; omega)))
        · skip
          cases last with
          | none =>
            refine ze_iload_n 4 cd_L_nextUnder_25 rfl rfl ?_
            refine ze_iconst (v := (-1 : Int32)) cd_L_nextUnder_26 (by decide) ?_
            refine ze_icmp_eq (tgt := 40) cd_L_nextUnder_27 (by decide) (fun _ => ?_) (fun c9 => absurd rfl c9)
            cases s with
            | none =>
              refine ze_iload_n 1 cd_L_nextUnder_40 rfl rfl ?_
              refine ze_iconst (v := (-1 : Int32)) cd_L_nextUnder_41 (by decide) ?_
              refine ze_icmp_eq (tgt := 55) cd_L_nextUnder_42 (by decide) (fun _ => ?_) (fun c9 => absurd rfl c9)
              refine ze_iload 0 cd_L_nextUnder_55 rfl ?_
              refine ze_istore_n (lv' := [(3, .int (nI lo)), (4, .int (nI lo)), (0, .ref a), (1, .int top), (2, .int ((-1 : Int32)))]) cd_L_nextUnder_57 rfl (by decide) rfl ?_
              refine ze_iinc (v := nI (lo + 1)) (lv' := [(4, .int (nI (lo + 1))), (3, .int (nI lo)), (0, .ref a), (1, .int top), (2, .int ((-1 : Int32)))]) 1 cd_L_nextUnder_58 rfl (nI_add _ 1) (by decide) rfl ?_
              refine ze_goto (tgt := 5) cd_L_nextUnder_61 (by decide) ?_
              exact ze_sub [0, 1, 2, 3, 4] rfl (ih (lo + 1) (some lo) (by omega) (by rw [← hE]; simp only [zfold, zl_nxt1, zl_la, zl_lb, c5]; try simp only [if_true, if_false]; try rfl) (fun j hj => by first | (cases hj; omega) | (have := hs j hj; omega)))
            | some b =>
              have hb := hs b rfl
              refine ze_iload_n 1 cd_L_nextUnder_40 rfl rfl ?_
              refine ze_iconst (v := (-1 : Int32)) cd_L_nextUnder_41 (by decide) ?_
              refine ze_icmp_eq (tgt := 55) cd_L_nextUnder_42 (by decide) (fun c9 => absurd c9 (zn_ne (by omega))) (fun _ => ?_)
              refine ze_aload_n 2 cd_L_nextUnder_45 rfl rfl ?_
              refine ze_iload_n 1 cd_L_nextUnder_46 rfl rfl ?_
              refine ze_iload 0 cd_L_nextUnder_47 rfl ?_
              refine ze_callVp (rm' := zr_L_isBehind) (b := a) (As := [.int (nI b), .int (nI lo)]) (rest := []) (kc_L_isBehind h (by omega) (by omega)) ⟨rfl, rfl⟩ zy_L_isBehind_ok zm_514 zm_516 zm_9 (ci := 1) rfl rfl (by decide) (by decide) cd_L_nextUnder_49 h.1 rfl rfl (Nat.le_of_ble_eq_true rfl) ?_
              refine ze_if_eq (tgt := 58) cd_L_nextUnder_52 (by decide) (fun c6 => ?_) (fun c6 => ?_)
              · skip
                have c6 : (zl_beh R b lo) = false := zb_f c6
                refine ze_iinc (v := nI (lo + 1)) (lv' := [(4, .int (nI (lo + 1))), (3, .int (nI b)), (0, .ref a), (1, .int top), (2, .int ((-1 : Int32)))]) 0 cd_L_nextUnder_58 rfl (nI_add _ 1) (by decide) rfl ?_
                refine ze_goto (tgt := 5) cd_L_nextUnder_61 (by decide) ?_
                exact ze_sub [0, 1, 2, 3, 4] rfl (ih (lo + 1) (some b) (by omega) (by rw [← hE]; simp only [zfold, zl_nxt1, zl_la, zl_lb, c5, c6]; try simp only [if_true, if_false]; try rfl) (fun j hj => by first | (cases hj; omega) | (have := hs j hj; omega)))
              · skip
                have c6 : (zl_beh R b lo) = true := zb_t c6
                refine ze_iload 0 cd_L_nextUnder_55 rfl ?_
                refine ze_istore_n (lv' := [(3, .int (nI lo)), (4, .int (nI lo)), (0, .ref a), (1, .int top), (2, .int ((-1 : Int32)))]) cd_L_nextUnder_57 rfl (by decide) rfl ?_
                refine ze_iinc (v := nI (lo + 1)) (lv' := [(4, .int (nI (lo + 1))), (3, .int (nI lo)), (0, .ref a), (1, .int top), (2, .int ((-1 : Int32)))]) 1 cd_L_nextUnder_58 rfl (nI_add _ 1) (by decide) rfl ?_
                refine ze_goto (tgt := 5) cd_L_nextUnder_61 (by decide) ?_
                exact ze_sub [0, 1, 2, 3, 4] rfl (ih (lo + 1) (some lo) (by omega) (by rw [← hE]; simp only [zfold, zl_nxt1, zl_la, zl_lb, c5, c6]; try simp only [if_true, if_false]; try rfl) (fun j hj => by first | (cases hj; omega) | (have := hs j hj; omega)))
          | some l =>
            have hl := hlast l rfl
            refine ze_iload_n 4 cd_L_nextUnder_25 rfl rfl ?_
            refine ze_iconst (v := (-1 : Int32)) cd_L_nextUnder_26 (by decide) ?_
            refine ze_icmp_eq (tgt := 40) cd_L_nextUnder_27 (by decide) (fun c9 => absurd c9 (zn_ne (by omega))) (fun _ => ?_)
            refine ze_aload_n 2 cd_L_nextUnder_30 rfl rfl ?_
            refine ze_iload 0 cd_L_nextUnder_31 rfl ?_
            refine ze_iload_n 4 cd_L_nextUnder_33 rfl rfl ?_
            refine ze_callVp (rm' := zr_L_isBehind) (b := a) (As := [.int (nI lo), .int (nI l)]) (rest := []) (kc_L_isBehind h (by omega) (by omega)) ⟨rfl, rfl⟩ zy_L_isBehind_ok zm_514 zm_516 zm_9 (ci := 1) rfl rfl (by decide) (by decide) cd_L_nextUnder_34 h.1 rfl rfl (Nat.le_of_ble_eq_true rfl) ?_
            refine ze_if_eq (tgt := 58) cd_L_nextUnder_37 (by decide) (fun c7 => ?_) (fun c7 => ?_)
            · skip
              have c7 : (zl_beh R lo l) = false := zb_f c7
              refine ze_iinc (v := nI (lo + 1)) (lv' := [(4, .int (nI (lo + 1))), (3, .int (zo s)), (0, .ref a), (1, .int top), (2, .int (nI l))]) 0 cd_L_nextUnder_58 rfl (nI_add _ 1) (by decide) rfl ?_
              refine ze_goto (tgt := 5) cd_L_nextUnder_61 (by decide) ?_
              exact ze_sub [0, 1, 2, 3, 4] rfl (ih (lo + 1) s (by omega) (by rw [← hE]; simp only [zfold, zl_nxt1, zl_la, zl_lb, c5, c7]; try simp only [if_true, if_false]; try rfl) (fun j hj => by first | (cases hj; omega) | (have := hs j hj; omega)))
            · skip
              have c7 : (zl_beh R lo l) = true := zb_t c7
              cases s with
              | none =>
                refine ze_iload_n 1 cd_L_nextUnder_40 rfl rfl ?_
                refine ze_iconst (v := (-1 : Int32)) cd_L_nextUnder_41 (by decide) ?_
                refine ze_icmp_eq (tgt := 55) cd_L_nextUnder_42 (by decide) (fun _ => ?_) (fun c9 => absurd rfl c9)
                refine ze_iload 0 cd_L_nextUnder_55 rfl ?_
                refine ze_istore_n (lv' := [(3, .int (nI lo)), (4, .int (nI lo)), (0, .ref a), (1, .int top), (2, .int (nI l))]) cd_L_nextUnder_57 rfl (by decide) rfl ?_
                refine ze_iinc (v := nI (lo + 1)) (lv' := [(4, .int (nI (lo + 1))), (3, .int (nI lo)), (0, .ref a), (1, .int top), (2, .int (nI l))]) 1 cd_L_nextUnder_58 rfl (nI_add _ 1) (by decide) rfl ?_
                refine ze_goto (tgt := 5) cd_L_nextUnder_61 (by decide) ?_
                exact ze_sub [0, 1, 2, 3, 4] rfl (ih (lo + 1) (some lo) (by omega) (by rw [← hE]; simp only [zfold, zl_nxt1, zl_la, zl_lb, c5, c7]; try simp only [if_true, if_false]; try rfl) (fun j hj => by first | (cases hj; omega) | (have := hs j hj; omega)))
              | some b =>
                have hb := hs b rfl
                refine ze_iload_n 1 cd_L_nextUnder_40 rfl rfl ?_
                refine ze_iconst (v := (-1 : Int32)) cd_L_nextUnder_41 (by decide) ?_
                refine ze_icmp_eq (tgt := 55) cd_L_nextUnder_42 (by decide) (fun c9 => absurd c9 (zn_ne (by omega))) (fun _ => ?_)
                refine ze_aload_n 2 cd_L_nextUnder_45 rfl rfl ?_
                refine ze_iload_n 1 cd_L_nextUnder_46 rfl rfl ?_
                refine ze_iload 0 cd_L_nextUnder_47 rfl ?_
                refine ze_callVp (rm' := zr_L_isBehind) (b := a) (As := [.int (nI b), .int (nI lo)]) (rest := []) (kc_L_isBehind h (by omega) (by omega)) ⟨rfl, rfl⟩ zy_L_isBehind_ok zm_514 zm_516 zm_9 (ci := 1) rfl rfl (by decide) (by decide) cd_L_nextUnder_49 h.1 rfl rfl (Nat.le_of_ble_eq_true rfl) ?_
                refine ze_if_eq (tgt := 58) cd_L_nextUnder_52 (by decide) (fun c8 => ?_) (fun c8 => ?_)
                · skip
                  have c8 : (zl_beh R b lo) = false := zb_f c8
                  refine ze_iinc (v := nI (lo + 1)) (lv' := [(4, .int (nI (lo + 1))), (3, .int (nI b)), (0, .ref a), (1, .int top), (2, .int (nI l))]) 0 cd_L_nextUnder_58 rfl (nI_add _ 1) (by decide) rfl ?_
                  refine ze_goto (tgt := 5) cd_L_nextUnder_61 (by decide) ?_
                  exact ze_sub [0, 1, 2, 3, 4] rfl (ih (lo + 1) (some b) (by omega) (by rw [← hE]; simp only [zfold, zl_nxt1, zl_la, zl_lb, c5, c7, c8]; try simp only [if_true, if_false]; try rfl) (fun j hj => by first | (cases hj; omega) | (have := hs j hj; omega)))
                · skip
                  have c8 : (zl_beh R b lo) = true := zb_t c8
                  refine ze_iload 0 cd_L_nextUnder_55 rfl ?_
                  refine ze_istore_n (lv' := [(3, .int (nI lo)), (4, .int (nI lo)), (0, .ref a), (1, .int top), (2, .int (nI l))]) cd_L_nextUnder_57 rfl (by decide) rfl ?_
                  refine ze_iinc (v := nI (lo + 1)) (lv' := [(4, .int (nI (lo + 1))), (3, .int (nI lo)), (0, .ref a), (1, .int top), (2, .int (nI l))]) 1 cd_L_nextUnder_58 rfl (nI_add _ 1) (by decide) rfl ?_
                  refine ze_goto (tgt := 5) cd_L_nextUnder_61 (by decide) ?_
                  exact ze_sub [0, 1, 2, 3, 4] rfl (ih (lo + 1) (some lo) (by omega) (by rw [← hE]; simp only [zfold, zl_nxt1, zl_la, zl_lb, c5, c7, c8]; try simp only [if_true, if_false]; try rfl) (fun j hj => by first | (cases hj; omega) | (have := hs j hj; omega)))
  refine zM_of (lv := [(0, .ref a), (1, .int top), (2, .int (zo last))]) (ini := false) (by decide) rfl (by decide) (Nat.le_of_ble_eq_true rfl) rfl ?_
  refine ze_iconst (v := (-1 : Int32)) cd_L_nextUnder_0 (by decide) ?_
  refine ze_istore_n (lv' := [(3, .int ((-1 : Int32))), (0, .ref a), (1, .int top), (2, .int (zo last))]) cd_L_nextUnder_1 rfl (by decide) rfl ?_
  refine ze_iconst (v := nI 0) cd_L_nextUnder_2 (by decide) ?_
  refine ze_istore (lv' := [(4, .int (nI 0)), (3, .int ((-1 : Int32))), (0, .ref a), (1, .int top), (2, .int (zo last))]) cd_L_nextUnder_3 (by decide) rfl ?_
  exact loop n 0 none (by omega) hX0 (fun j hj => by cases hj)
theorem zl_nxt_lt {n : Nat} {R : Nat → Nat → Int32} {top : Int32} {last : Option Nat} : ∀ j, zl_nxt n R top last = some j → j < n := by
  have key : ∀ (k lo : Nat) (s : Option Nat), lo + k = n → (∀ j, s = some j → j < n) → ∀ j, zfold (zl_nxt1 R top last) s lo k = some j → j < n := by
    intro k
    induction k with
    | zero => intro lo s _ hs j hj; exact hs j hj
    | succ k ih => intro lo s hk hs j hj; exact ih (lo + 1) _ (by omega) (zl_nxt1_lt hs (by omega)) j hj
  exact key n 0 none (by omega) (fun j hj => by cases hj)
def zl_d (R : Nat → Nat → Int32) (i : Nat) : Nat := (R 3 i).toNatClampNeg
def zl_D (n : Nat) (R : Nat → Nat → Int32) : Prop := ∀ i, i < n → R 3 i = nI (zl_d R i) ∧ zl_d R i ≤ 8
def zp_kids (F : Nat → List Int32) (n : Nat) (R : Nat → Nat → Int32) (top : Int32) : Nat → Option Nat → List Int32
  | 0, _ => []
  | _ + 1, none => []
  | k + 1, some l => F l ++ zp_kids F n R top k (zl_nxt n R top (some l))
def zp_from (n : Nat) (R : Nat → Nat → Int32) (hid : Nat → Int32) : Nat → Int32 → List Int32
  | 0, _ => []
  | m + 1, x => match zi n x with
    | none => []
    | some j => if hid j = 0 then zp_line R j (zl_d R j) (zl_t R j) ++ zp_kids (fun l => zp_from n R hid m (nI l)) n R (nI j) n (zl_nxt n R (nI j) none) else []
def zrW (m : Nat) : Room := { frames := 4 + m, cells := 0, slots := 0, locals := 88 + 30 * m }
set_option maxRecDepth 100000 in
set_option maxHeartbeats 4000000 in
theorem kc_P_writeFrom {g : zx_G} {a n b p : Nat} {R N : Nat → Nat → Int32} (hap : a + 12 ≤ p ∨ p + 2 ≤ a) (hbp : b + 7 ≤ p ∨ p + 2 ≤ b) (hn : n ≤ 100) (hT : zl_T n R) (hD : zl_D n R) : ∀ (m dq : Nat) (x : Int32) (σ : zx_M) (sz : Nat) (S : Nat → Int32) (L : List Int32), dq + m = 9 → zpo g σ p S L → zpl S L → zl g σ a n R → zn g σ b N → zM g cy_P_writeFrom cb_P_writeFrom 7 none (zrW m) 0 0 [.ref p, .ref a, .ref b, .int x, .int (nI dq)] σ sz (zPv (fun σ' sz' => sz' = sz ∧ zfr σ σ' p 2 ∧ ∃ S', zpo g σ' p S' (zputs L (zp_from n R (N 5) m x)) ∧ zpl S' (zputs L (zp_from n R (N 5) m x)))) := by
  intro m
  induction m with
  | zero =>
    intro dq x σ sz S L hm hP hL h hN
    have hF : zfr σ σ p 2 := zfr.rf
    refine zM_of (lv := [(0, .ref p), (1, .ref a), (2, .ref b), (3, .int x), (4, .int (nI dq))]) (ini := false) (by decide) rfl (by decide) (Nat.le_of_ble_eq_true rfl) rfl ?_
    refine ze_iload 4 cd_P_writeFrom_0 rfl ?_
    refine ze_bipush (v := nI 8) cd_P_writeFrom_2 (by decide) ?_
    refine ze_icmp_gt (tgt := 24) cd_P_writeFrom_4 (by decide) (fun c2 => ?_) (fun c2 => ?_)
    · skip
      have c2 : 8 < dq := (nI_ltI (by omega) (by omega)).mp c2
      refine ze_vret cd_P_writeFrom_24 rfl (by decide) (by decide) ⟨rfl, rfl, hF, ?_⟩
      exact ⟨_, hP, hL⟩
    · skip
      have c2 : ¬ 8 < dq := fun h9 => c2 ((nI_ltI (by omega) (by omega)).mpr h9)
      exfalso; omega
  | succ m ih =>
    intro dq x σ sz S L hm hP hL h hN
    have hF : zfr σ σ p 2 := zfr.rf
    generalize hX0 : zp_from n R (N 5) (m + 1) x = X0
    have loop : ∀ (j : Nat) (_ : j < n) (kk lo : Nat) (o : Option Nat) (S1 : Nat → Int32) (L1 : List Int32) (σ1 : zx_M), lo + kk = n → (∀ l, o = some l → l < n) → zputs L1 (zp_kids (fun l => zp_from n R (N 5) m (nI l)) n R (nI j) kk o) = zputs L X0 → zpo g σ1 p S1 L1 → zpl S1 L1 → zl g σ1 a n R → zn g σ1 b N → zfr σ σ1 p 2 → zE g "FindingAid$Page" cb_P_writeFrom 7 none false (zrW (m + 1)) 0 0 (zPv (fun σ' sz' => sz' = sz ∧ zfr σ σ' p 2 ∧ ∃ S', zpo g σ' p S' (zputs L X0) ∧ zpl S' (zputs L X0))) 42 [(6, .int (nI lo)), (5, .int (zo o)), (0, .ref p), (1, .ref a), (2, .ref b), (3, .int (nI j)), (4, .int (nI dq))] [] σ1 sz 0 0 := by
      intro j hj kk
      induction kk with
      | zero =>
        intro lo o S1 L1 σ1 hk ho hE hP hL h hN hF
        refine ze_iload 0 cd_P_writeFrom_42 rfl ?_
        refine ze_aload_n 3 cd_P_writeFrom_44 rfl rfl ?_
        refine ze_get zin_L (v := .int (nI n)) (ci := 1) rfl 0 (by decide) zm_91 rfl cd_P_writeFrom_45 h.1 rfl ?_
        refine ze_icmp_ge (tgt := 84) cd_P_writeFrom_48 (by decide) (fun c4 => ?_) (fun c4 => ?_)
        · skip
          have c4 : n ≤ lo := (nI_leI (by omega) (by omega)).mp c4
          refine ze_vret cd_P_writeFrom_84 rfl (by decide) (by decide) ⟨rfl, rfl, hF, ?_⟩
          rw [← hE]; exact ⟨_, hP, hL⟩
        · skip
          have c4 : ¬ n ≤ lo := fun h9 => c4 ((nI_leI (by omega) (by omega)).mpr h9)
          exfalso; omega
      | succ kk ih2 =>
        intro lo o S1 L1 σ1 hk ho hE hP hL h hN hF
        refine ze_iload 0 cd_P_writeFrom_42 rfl ?_
        refine ze_aload_n 3 cd_P_writeFrom_44 rfl rfl ?_
        refine ze_get zin_L (v := .int (nI n)) (ci := 1) rfl 0 (by decide) zm_91 rfl cd_P_writeFrom_45 h.1 rfl ?_
        refine ze_icmp_ge (tgt := 84) cd_P_writeFrom_48 (by decide) (fun c6 => ?_) (fun c6 => ?_)
        · skip
          have c6 : n ≤ lo := (nI_leI (by omega) (by omega)).mp c6
          exfalso; omega
        · skip
          have c6 : ¬ n ≤ lo := fun h9 => c6 ((nI_leI (by omega) (by omega)).mpr h9)
          cases o with
          | none =>
            refine ze_iload 1 cd_P_writeFrom_51 rfl ?_
            refine ze_iconst (v := (-1 : Int32)) cd_P_writeFrom_53 (by decide) ?_
            refine ze_icmp_eq (tgt := 84) cd_P_writeFrom_54 (by decide) (fun _ => ?_) (fun c9 => absurd rfl c9)
            refine ze_vret cd_P_writeFrom_84 rfl (by decide) (by decide) ⟨rfl, rfl, hF, ?_⟩
            rw [← hE]; exact ⟨_, hP, hL⟩
          | some l =>
            have hl := ho l rfl
            refine ze_iload 1 cd_P_writeFrom_51 rfl ?_
            refine ze_iconst (v := (-1 : Int32)) cd_P_writeFrom_53 (by decide) ?_
            refine ze_icmp_eq (tgt := 84) cd_P_writeFrom_54 (by decide) (fun c9 => absurd c9 (zn_ne (by omega))) (fun _ => ?_)
            refine ze_aload_n 2 cd_P_writeFrom_57 rfl rfl ?_
            refine ze_aload_n 3 cd_P_writeFrom_58 rfl rfl ?_
            refine ze_aload_n 4 cd_P_writeFrom_59 rfl rfl ?_
            refine ze_iload 1 cd_P_writeFrom_60 rfl ?_
            refine ze_iload 6 cd_P_writeFrom_62 rfl ?_
            refine ze_iconst (v := nI 1) cd_P_writeFrom_64 (by decide) ?_
            refine ze_iadd cd_P_writeFrom_65 ?_
            refine ze_top (y := nI (dq + 1)) (nI_add _ _) ?_
            refine ze_callSv (rm' := zrW m) (As := [.ref p, .ref a, .ref b, .int (nI l), .int (nI (dq + 1))]) (rest := []) (ih (dq + 1) (nI l) _ _ _ _ (by omega) hP hL h hN) ⟨rfl, rfl⟩ zy_P_writeFrom_ok zm_481 zm_482 ⟨by simp [zrW] <;> omega, by simp [zrW] <;> omega⟩ ⟨Nat.le_refl 0, Nat.le_refl 0⟩ cd_P_writeFrom_66 rfl rfl (Nat.le_of_ble_eq_true rfl) (fun σ9 sz9 hq9 => ?_)
            obtain ⟨rfl, hF9, S9, hP9, hL9⟩ := hq9
            have h := h.frn hF9 11 rfl (by omega)
            have hN := hN.frn hF9 6 rfl (by omega)
            have hP := hP9
            have hL := hL9
            have hF := hF.trans (hF9.wide (by omega) (by omega))
            refine ze_aload_n 3 cd_P_writeFrom_69 rfl rfl ?_
            refine ze_iload_n 5 cd_P_writeFrom_70 rfl rfl ?_
            refine ze_iload 1 cd_P_writeFrom_71 rfl ?_
            refine ze_callVp (rm' := zr_L_nextUnder) (b := a) (As := [.int (nI j), .int (nI l)]) (rest := []) (kc_L_nextUnder (last := some l) h (by omega) (by intro l9 h9; first | (cases h9; omega) | (cases h9))) ⟨rfl, rfl⟩ zy_L_nextUnder_ok zm_510 zm_511 zm_512 (ci := 1) rfl rfl ⟨by simp [zrW] <;> omega, by simp [zrW] <;> omega⟩ ⟨Nat.le_refl 0, Nat.le_refl 0⟩ cd_P_writeFrom_73 h.1 rfl rfl (Nat.le_of_ble_eq_true rfl) ?_
            refine ze_istore (lv' := [(5, .int (zo (zl_nxt n R (nI j) (some l)))), (6, .int (nI lo)), (0, .ref p), (1, .ref a), (2, .ref b), (3, .int (nI j)), (4, .int (nI dq))]) cd_P_writeFrom_76 (by decide) rfl ?_
            refine ze_iinc (v := nI (lo + 1)) (lv' := [(6, .int (nI (lo + 1))), (5, .int (zo (zl_nxt n R (nI j) (some l)))), (0, .ref p), (1, .ref a), (2, .ref b), (3, .int (nI j)), (4, .int (nI dq))]) 1 cd_P_writeFrom_78 rfl (nI_add _ 1) (by decide) rfl ?_
            refine ze_goto (tgt := 42) cd_P_writeFrom_81 (by decide) ?_
            exact ze_sub [0, 1, 2, 3, 4, 5, 6] rfl (ih2 (lo + 1) _ _ _ _ (by omega) zl_nxt_lt (by rw [← hE]; simp only [zp_kids, zputs_app]) hP hL h hN hF)
    refine zM_of (lv := [(0, .ref p), (1, .ref a), (2, .ref b), (3, .int x), (4, .int (nI dq))]) (ini := false) (by decide) rfl (by decide) (Nat.le_of_ble_eq_true rfl) rfl ?_
    refine ze_iload 4 cd_P_writeFrom_0 rfl ?_
    refine ze_bipush (v := nI 8) cd_P_writeFrom_2 (by decide) ?_
    refine ze_icmp_gt (tgt := 24) cd_P_writeFrom_4 (by decide) (fun c8 => ?_) (fun c8 => ?_)
    · skip
      have c8 : 8 < dq := (nI_ltI (by omega) (by omega)).mp c8
      exfalso; omega
    · skip
      have c8 : ¬ 8 < dq := fun h9 => c8 ((nI_ltI (by omega) (by omega)).mpr h9)
      refine ze_aload_n 1 cd_P_writeFrom_7 rfl rfl ?_
      refine ze_iload_n 3 cd_P_writeFrom_8 rfl rfl ?_
      refine ze_callVp (rm' := zr_L_has) (b := a) (As := [.int x]) (rest := []) (kc_L_has h) ⟨rfl, rfl⟩ zy_L_has_ok zm_484 zm_311 zm_312 (ci := 1) rfl rfl ⟨by simp [zrW] <;> omega, by simp [zrW] <;> omega⟩ ⟨Nat.le_refl 0, Nat.le_refl 0⟩ cd_P_writeFrom_9 h.1 rfl rfl (Nat.le_of_ble_eq_true rfl) ?_
      refine ze_if_eq (tgt := 24) cd_P_writeFrom_12 (by decide) (fun c9 => ?_) (fun c9 => ?_)
      · skip
        have c9 : ((zi n x).isSome) = false := zb_f c9
        have c9 : zi n x = none := by simpa using c9
        refine ze_vret cd_P_writeFrom_24 rfl (by decide) (by decide) ⟨rfl, rfl, hF, ?_⟩
        first | (rw [← hX0]; simp only [zp_from, c8, c9, if_false]; exact ⟨_, hP, hL⟩) | (rw [← hX0]; simp only [zp_from, if_neg c_hid]; exact ⟨_, hP, hL⟩)
      · skip
        have c9 : ((zi n x).isSome) = true := zb_t c9
        obtain ⟨j, hj⟩ := Option.isSome_iff_exists.mp c9
        obtain ⟨hjn, rfl⟩ := zi_some (by omega) hj
        refine ze_aload_n 2 cd_P_writeFrom_15 rfl rfl ?_
        refine ze_get zin_N (v := .ref (b + 6)) (ci := 2) rfl 5 (by decide) zm_195 rfl cd_P_writeFrom_16 hN.1 rfl ?_
        refine ze_iload_n 3 cd_P_writeFrom_19 rfl rfl ?_
        refine ze_zald (j := j) cd_P_writeFrom_20 (hN.2 5 _ rfl) rfl (by omega) (by decide) ?_
        refine ze_if_eq (tgt := 25) cd_P_writeFrom_21 (by decide) (fun c_hid => ?_) (fun c_hid => ?_)
        · skip
          refine ze_aload_n 0 cd_P_writeFrom_25 rfl rfl ?_
          refine ze_aload_n 1 cd_P_writeFrom_26 rfl rfl ?_
          refine ze_iload_n 3 cd_P_writeFrom_27 rfl rfl ?_
          refine ze_callVv (rm' := zr_P_writeLine) (b := p) (As := [.ref a, .int (nI j)]) (rest := []) (kc_P_writeLine hP hL h (by omega) (by omega) (hD _ (by omega)).1 (hD _ (by omega)).2 (hT _ (by omega)).1 (hT _ (by omega)).2) ⟨rfl, rfl⟩ zy_P_writeLine_ok zm_485 zm_487 zm_4 (ci := 3) rfl rfl ⟨by simp [zrW] <;> omega, by simp [zrW] <;> omega⟩ ⟨Nat.le_refl 0, Nat.le_refl 0⟩ cd_P_writeFrom_28 hP.1 rfl rfl (Nat.le_of_ble_eq_true rfl) (fun σ9 sz9 hq9 => ?_)
          obtain ⟨rfl, hF9, S9, hP9, hL9⟩ := hq9
          have h := h.frn hF9 11 rfl (by omega)
          have hN := hN.frn hF9 6 rfl (by omega)
          have hP := hP9
          have hL := hL9
          have hF := hF.trans (hF9.wide (by omega) (by omega))
          refine ze_aload_n 1 cd_P_writeFrom_31 rfl rfl ?_
          refine ze_iload_n 3 cd_P_writeFrom_32 rfl rfl ?_
          refine ze_iconst (v := (-1 : Int32)) cd_P_writeFrom_33 (by decide) ?_
          refine ze_callVp (rm' := zr_L_nextUnder) (b := a) (As := [.int (nI j), .int ((-1 : Int32))]) (rest := []) (kc_L_nextUnder (last := none) h (by omega) (by intro l9 h9; first | (cases h9; omega) | (cases h9))) ⟨rfl, rfl⟩ zy_L_nextUnder_ok zm_510 zm_511 zm_512 (ci := 1) rfl rfl ⟨by simp [zrW] <;> omega, by simp [zrW] <;> omega⟩ ⟨Nat.le_refl 0, Nat.le_refl 0⟩ cd_P_writeFrom_34 h.1 rfl rfl (Nat.le_of_ble_eq_true rfl) ?_
          refine ze_istore (lv' := [(5, .int (zo (zl_nxt n R (nI j) none))), (0, .ref p), (1, .ref a), (2, .ref b), (3, .int (nI j)), (4, .int (nI dq))]) cd_P_writeFrom_37 (by decide) rfl ?_
          refine ze_iconst (v := nI 0) cd_P_writeFrom_39 (by decide) ?_
          refine ze_istore (lv' := [(6, .int (nI 0)), (5, .int (zo (zl_nxt n R (nI j) none))), (0, .ref p), (1, .ref a), (2, .ref b), (3, .int (nI j)), (4, .int (nI dq))]) cd_P_writeFrom_40 (by decide) rfl ?_
          exact ze_sub [0, 1, 2, 3, 4, 5, 6] rfl (loop j hjn n 0 _ _ _ _ (by omega) zl_nxt_lt (by rw [← hX0]; simp only [zp_from, hj, c_hid, if_true]; exact (zputs_app _ _ _).symm) hP hL h hN hF)
        · skip
          refine ze_vret cd_P_writeFrom_24 rfl (by decide) (by decide) ⟨rfl, rfl, hF, ?_⟩
          first | (rw [← hX0]; simp only [zp_from, c8, hj, c_hid, if_false]; exact ⟨_, hP, hL⟩) | (rw [← hX0]; simp only [zp_from, hj, if_neg c_hid]; exact ⟨_, hP, hL⟩)
