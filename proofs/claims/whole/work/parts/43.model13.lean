/-- the reference's page as a list -/
def zq (S : Nat → Int32) (L : List Int32) : Prop := ∀ j, j < L.length → S j = zby (L.getD j 0)
theorem zq_put {S : Nat → Int32} {L : List Int32} (h : zq S L) (c : Int32) : zq (upd S L.length (zby c)) (L ++ [c]) := by
  intro j hj
  simp only [List.length_append, List.length_singleton] at hj
  by_cases h1 : j = L.length
  · subst h1; simp [upd]
  · have h2 : j < L.length := by omega
    simp only [upd, if_neg h1]
    rw [h j h2]
    simp [List.getD, List.getElem?_append_left h2]
theorem zp_num_len (v : Int32) : (zp_num v).length ≤ 4 := by
  unfold zp_num
  simp only [List.length_append]
  split <;> split <;> split <;> split <;> simp
theorem zp_tt_len (R : Nat → Nat → Int32) (i : Nat) : ∀ k lo, (zp_tt R i lo k).length = k := by
  intro k
  induction k with
  | zero => intro lo; rfl
  | succ k ih => intro lo; simp [zp_tt, ih]
theorem zp_tt_snoc (R : Nat → Nat → Int32) (i : Nat) : ∀ k lo, zp_tt R i lo (k + 1) = zp_tt R i lo k ++ [R 10 (i * 16 + (lo + k))] := by
  intro k
  induction k with
  | zero => intro lo; rfl
  | succ k ih => intro lo; rw [zp_tt, ih (lo + 1), zp_tt, List.cons_append, show lo + 1 + k = lo + (k + 1) by omega]
abbrev zr_M_put : Room := { frames := 0, cells := 0, slots := 0, locals := 0 }
set_option maxRecDepth 100000 in
set_option maxHeartbeats 4000000 in
theorem kc_M_put {g : zx_G} {σ : zx_M} {sz : Nat} {a size ps lv ot ak : Nat} {th wr fr : Int32} {M : Nat → Nat → Int32} {S : Nat → Int32} {L : List Int32} {ch : Int32} (hM : zmo g σ a th size wr ps lv ot ak fr L.length (va_up M 20 S)) (hq : zq S L) (hl : L.length < 6000) : zM g cy_M_put cb_M_put 2 (Option.none : Option Jvm.ClassFile.FieldType) zr_M_put 0 0 [.ref a, .int ch] σ sz (zPv (fun σ' sz' => sz' = sz ∧ zfr σ σ' a 22 ∧ ∃ S', zq S' (L ++ [ch]) ∧ zmo g σ' a th size wr ps lv ot ak fr (L ++ [ch]).length (va_up M 20 S'))) := by
  have hF : zfr σ σ a 22 := zfr.rf
  refine zM_of (lv := [(0, .ref a), (1, .int ch)]) (ini := false) (by decide) rfl (by decide) (Nat.le_of_ble_eq_true rfl) rfl ?_
  refine ze_aload_n 0 cd_M_put_0 rfl rfl ?_
  refine ze_get zin_M (v := .ref (a + 21)) (ci := 7) rfl 29 (by decide) zm_751 rfl cd_M_put_1 hM.1 rfl ?_
  refine ze_aload_n 0 cd_M_put_4 rfl rfl ?_
  refine ze_get zin_M (v := .int (nI L.length)) (ci := 7) rfl 28 (by decide) zm_750 rfl cd_M_put_5 hM.1 rfl ?_
  refine ze_iload_n 1 cd_M_put_8 rfl rfl ?_
  refine ze_i2b (v := zby ch) cd_M_put_9 rfl ?_
  refine ze_bast (j := L.length) (f := S) cd_M_put_10 (hM.2 20 _ rfl) rfl (by omega) (by decide) ?_
  refine ze_eq rfl rfl rfl (by rw [zby_n]) rfl ?_
  have hM := hM.ar 20 4 6000 rfl (b := a + 21) (f := upd S L.length (zby ch)) (by omega)
  rw [bx_uu] at hM
  have hF := hF.up (a := a + 21) (e := .inl (g.2.2.2.1 4, 6000, .inl (upd S L.length (zby ch)))) (by omega) (by omega)
  refine ze_aload_n 0 cd_M_put_11 rfl rfl ?_
  refine ze_dup cd_M_put_12 rfl ?_
  refine ze_get zin_M (v := .int (nI L.length)) (ci := 7) rfl 28 (by decide) zm_750 rfl cd_M_put_13 hM.1 rfl ?_
  refine ze_iconst (v := nI 1) cd_M_put_16 (by decide) ?_
  refine ze_iadd cd_M_put_17 ?_
  refine ze_top (y := nI (L.length + 1)) (nI_add _ _) ?_
  refine ze_put zin_M zy_M zt_M zn_M (ci := 7) rfl 28 (by decide) zm_750 rfl (Or.inl rfl) cd_M_put_18 hM.1 rfl rfl (Nat.le_of_ble_eq_true rfl) (fs' := [.int th, .int (nI size), .ref (a + 1), .int wr, .int (nI ps), .int (nI lv), .int (nI ot), .ref (a + 2), .ref (a + 3), .ref (a + 4), .ref (a + 5), .ref (a + 6), .ref (a + 7), .ref (a + 8), .ref (a + 9), .ref (a + 10), .ref (a + 11), .ref (a + 12), .ref (a + 13), .ref (a + 14), .ref (a + 15), .ref (a + 16), .ref (a + 17), .int (nI ak), .ref (a + 18), .ref (a + 19), .ref (a + 20), .int fr, .int (nI (L.length + 1)), .ref (a + 21)]) rfl ?_
  have hM := hM.put (fs' := [.int th, .int (nI size), .ref (a + 1), .int wr, .int (nI ps), .int (nI lv), .int (nI ot), .ref (a + 2), .ref (a + 3), .ref (a + 4), .ref (a + 5), .ref (a + 6), .ref (a + 7), .ref (a + 8), .ref (a + 9), .ref (a + 10), .ref (a + 11), .ref (a + 12), .ref (a + 13), .ref (a + 14), .ref (a + 15), .ref (a + 16), .ref (a + 17), .int (nI ak), .ref (a + 18), .ref (a + 19), .ref (a + 20), .int fr, .int (nI (L.length + 1)), .ref (a + 21)])
  have hF := hF.up (a := a) (e := .inr (7, [.int th, .int (nI size), .ref (a + 1), .int wr, .int (nI ps), .int (nI lv), .int (nI ot), .ref (a + 2), .ref (a + 3), .ref (a + 4), .ref (a + 5), .ref (a + 6), .ref (a + 7), .ref (a + 8), .ref (a + 9), .ref (a + 10), .ref (a + 11), .ref (a + 12), .ref (a + 13), .ref (a + 14), .ref (a + 15), .ref (a + 16), .ref (a + 17), .int (nI ak), .ref (a + 18), .ref (a + 19), .ref (a + 20), .int fr, .int (nI (L.length + 1)), .ref (a + 21)])) (by omega) (by omega)
  refine ze_vret cd_M_put_21 rfl (by decide) (by decide) ⟨rfl, rfl, hF, ?_⟩
  exact ⟨upd S L.length (zby ch), zq_put hq ch, by rw [List.length_append, List.length_singleton]; exact hM⟩
abbrev zr_M_digits : Room := { frames := 1, cells := 0, slots := 0, locals := 21 }
set_option maxRecDepth 100000 in
set_option maxHeartbeats 4000000 in
theorem kc_M_digits {g : zx_G} {σ : zx_M} {sz : Nat} {a size ps lv ot ak : Nat} {th wr fr : Int32} {M : Nat → Nat → Int32} {S : Nat → Int32} {L : List Int32} {v : Int32} (hM : zmo g σ a th size wr ps lv ot ak fr L.length (va_up M 20 S)) (hq : zq S L) (hl : L.length + 4 ≤ 6000) : zM g cy_M_digits cb_M_digits 3 (Option.none : Option Jvm.ClassFile.FieldType) zr_M_digits 0 0 [.ref a, .int v] σ sz (zPv (fun σ' sz' => sz' = sz ∧ zfr σ σ' a 22 ∧ ∃ S', zq S' (L ++ zp_num v) ∧ zmo g σ' a th size wr ps lv ot ak fr (L ++ zp_num v).length (va_up M 20 S'))) := by
  have hF : zfr σ σ a 22 := zfr.rf
  refine zM_of (lv := [(0, .ref a), (1, .int v)]) (ini := false) (by decide) rfl (by decide) (Nat.le_of_ble_eq_true rfl) rfl ?_
  refine ze_sipush (v := nI 1000) cd_M_digits_0 (by decide) ?_
  refine ze_istore_n (lv' := [(2, .int (nI 1000)), (0, .ref a), (1, .int v)]) cd_M_digits_3 rfl (by decide) rfl ?_
  refine ze_iload_n 0 cd_M_digits_4 rfl rfl ?_
  refine ze_if_le (tgt := 34) cd_M_digits_5 (by decide) (fun c9 => absurd c9 (by decide)) (fun _ => ?_)
  refine ze_iload_n 2 cd_M_digits_8 rfl rfl ?_
  refine ze_iload_n 0 cd_M_digits_9 rfl rfl ?_
  refine ze_icmp_lt (tgt := 26) cd_M_digits_10 (by decide) (fun c2 => ?_) (fun c2 => ?_)
  · skip
    refine ze_iload_n 0 cd_M_digits_26 rfl rfl ?_
    refine ze_bipush (v := nI 10) cd_M_digits_27 (by decide) ?_
    refine ze_idiv cd_M_digits_29 (by decide) ?_
    refine ze_top (y := nI 100) (by decide) ?_
    refine ze_istore_n (lv' := [(2, .int (nI 100)), (0, .ref a), (1, .int v)]) cd_M_digits_30 rfl (by decide) rfl ?_
    refine ze_goto (tgt := 4) cd_M_digits_31 (by decide) ?_
    refine ze_iload_n 0 cd_M_digits_4 rfl rfl ?_
    refine ze_if_le (tgt := 34) cd_M_digits_5 (by decide) (fun c9 => absurd c9 (by decide)) (fun _ => ?_)
    refine ze_iload_n 2 cd_M_digits_8 rfl rfl ?_
    refine ze_iload_n 0 cd_M_digits_9 rfl rfl ?_
    refine ze_icmp_lt (tgt := 26) cd_M_digits_10 (by decide) (fun c4 => ?_) (fun c4 => ?_)
    · skip
      refine ze_iload_n 0 cd_M_digits_26 rfl rfl ?_
      refine ze_bipush (v := nI 10) cd_M_digits_27 (by decide) ?_
      refine ze_idiv cd_M_digits_29 (by decide) ?_
      refine ze_top (y := nI 10) (by decide) ?_
      refine ze_istore_n (lv' := [(2, .int (nI 10)), (0, .ref a), (1, .int v)]) cd_M_digits_30 rfl (by decide) rfl ?_
      refine ze_goto (tgt := 4) cd_M_digits_31 (by decide) ?_
      refine ze_iload_n 0 cd_M_digits_4 rfl rfl ?_
      refine ze_if_le (tgt := 34) cd_M_digits_5 (by decide) (fun c9 => absurd c9 (by decide)) (fun _ => ?_)
      refine ze_iload_n 2 cd_M_digits_8 rfl rfl ?_
      refine ze_iload_n 0 cd_M_digits_9 rfl rfl ?_
      refine ze_icmp_lt (tgt := 26) cd_M_digits_10 (by decide) (fun c6 => ?_) (fun c6 => ?_)
      · skip
        refine ze_iload_n 0 cd_M_digits_26 rfl rfl ?_
        refine ze_bipush (v := nI 10) cd_M_digits_27 (by decide) ?_
        refine ze_idiv cd_M_digits_29 (by decide) ?_
        refine ze_top (y := nI 1) (by decide) ?_
        refine ze_istore_n (lv' := [(2, .int (nI 1)), (0, .ref a), (1, .int v)]) cd_M_digits_30 rfl (by decide) rfl ?_
        refine ze_goto (tgt := 4) cd_M_digits_31 (by decide) ?_
        refine ze_iload_n 0 cd_M_digits_4 rfl rfl ?_
        refine ze_if_le (tgt := 34) cd_M_digits_5 (by decide) (fun c9 => absurd c9 (by decide)) (fun _ => ?_)
        refine ze_iload_n 2 cd_M_digits_8 rfl rfl ?_
        refine ze_iload_n 0 cd_M_digits_9 rfl rfl ?_
        refine ze_icmp_lt (tgt := 26) cd_M_digits_10 (by decide) (fun c8 => ?_) (fun c8 => ?_)
        · skip
          refine ze_iload_n 0 cd_M_digits_26 rfl rfl ?_
          refine ze_bipush (v := nI 10) cd_M_digits_27 (by decide) ?_
          refine ze_idiv cd_M_digits_29 (by decide) ?_
          refine ze_top (y := nI 0) (by decide) ?_
          refine ze_istore_n (lv' := [(2, .int (nI 0)), (0, .ref a), (1, .int v)]) cd_M_digits_30 rfl (by decide) rfl ?_
          refine ze_goto (tgt := 4) cd_M_digits_31 (by decide) ?_
          refine ze_iload_n 0 cd_M_digits_4 rfl rfl ?_
          refine ze_if_le (tgt := 34) cd_M_digits_5 (by decide) (fun _ => ?_) (fun c9 => absurd c9 (by decide))
          refine ze_vret cd_M_digits_34 rfl (by decide) (by decide) ⟨rfl, rfl, hF, ?_⟩
          refine ⟨S, ?_, ?_⟩ <;> (simp only [zp_num, zp_dig, c2, c4, c6, c8, if_true, if_false, List.append_assoc, List.nil_append, List.cons_append, List.append_nil] at hq hM ⊢; first | exact hq | exact hM)
        · skip
          refine ze_aload_n 1 cd_M_digits_13 rfl rfl ?_
          refine ze_bipush (v := nI 48) cd_M_digits_14 (by decide) ?_
          refine ze_iload_n 2 cd_M_digits_16 rfl rfl ?_
          refine ze_iload_n 0 cd_M_digits_17 rfl rfl ?_
          refine ze_idiv cd_M_digits_18 (by decide) ?_
          refine ze_bipush (v := nI 10) cd_M_digits_19 (by decide) ?_
          refine ze_irem cd_M_digits_21 (by decide) ?_
          refine ze_iadd cd_M_digits_22 ?_
          refine ze_callVv (rm' := zr_M_put) (b := a) (As := [.int ((nI 48) + ((v / (nI 1)) - (v / (nI 1)) / (nI 10) * (nI 10)))]) (rest := []) (kc_M_put (L := L) (ch := (nI 48) + ((v / (nI 1)) - (v / (nI 1)) / (nI 10) * (nI 10))) hM hq (by (try simp only [List.length_append, List.length_cons, List.length_nil, List.length_replicate, zp_tt_len]); omega)) ⟨rfl, rfl⟩ zy_M_put_ok zm_991 zm_993 zm_50 (ci := 7) rfl rfl (by decide) (by decide) cd_M_digits_23 hM.1 rfl rfl (Nat.le_of_ble_eq_true rfl) (fun σ9 sz9 hq9 => ?_)
          obtain ⟨rfl, hF9, S, hq, hM⟩ := hq9
          have hF := hF.trans hF9
          refine ze_iload_n 0 cd_M_digits_26 rfl rfl ?_
          refine ze_bipush (v := nI 10) cd_M_digits_27 (by decide) ?_
          refine ze_idiv cd_M_digits_29 (by decide) ?_
          refine ze_top (y := nI 0) (by decide) ?_
          refine ze_istore_n (lv' := [(2, .int (nI 0)), (0, .ref a), (1, .int v)]) cd_M_digits_30 rfl (by decide) rfl ?_
          refine ze_goto (tgt := 4) cd_M_digits_31 (by decide) ?_
          refine ze_iload_n 0 cd_M_digits_4 rfl rfl ?_
          refine ze_if_le (tgt := 34) cd_M_digits_5 (by decide) (fun _ => ?_) (fun c9 => absurd c9 (by decide))
          refine ze_vret cd_M_digits_34 rfl (by decide) (by decide) ⟨rfl, rfl, hF, ?_⟩
          refine ⟨S, ?_, ?_⟩ <;> (simp only [zp_num, zp_dig, c2, c4, c6, c8, if_true, if_false, List.append_assoc, List.nil_append, List.cons_append, List.append_nil] at hq hM ⊢; first | exact hq | exact hM)
      · skip
        refine ze_aload_n 1 cd_M_digits_13 rfl rfl ?_
        refine ze_bipush (v := nI 48) cd_M_digits_14 (by decide) ?_
        refine ze_iload_n 2 cd_M_digits_16 rfl rfl ?_
        refine ze_iload_n 0 cd_M_digits_17 rfl rfl ?_
        refine ze_idiv cd_M_digits_18 (by decide) ?_
        refine ze_bipush (v := nI 10) cd_M_digits_19 (by decide) ?_
        refine ze_irem cd_M_digits_21 (by decide) ?_
        refine ze_iadd cd_M_digits_22 ?_
        refine ze_callVv (rm' := zr_M_put) (b := a) (As := [.int ((nI 48) + ((v / (nI 10)) - (v / (nI 10)) / (nI 10) * (nI 10)))]) (rest := []) (kc_M_put (L := L) (ch := (nI 48) + ((v / (nI 10)) - (v / (nI 10)) / (nI 10) * (nI 10))) hM hq (by (try simp only [List.length_append, List.length_cons, List.length_nil, List.length_replicate, zp_tt_len]); omega)) ⟨rfl, rfl⟩ zy_M_put_ok zm_991 zm_993 zm_50 (ci := 7) rfl rfl (by decide) (by decide) cd_M_digits_23 hM.1 rfl rfl (Nat.le_of_ble_eq_true rfl) (fun σ9 sz9 hq9 => ?_)
        obtain ⟨rfl, hF9, S, hq, hM⟩ := hq9
        have hF := hF.trans hF9
        refine ze_iload_n 0 cd_M_digits_26 rfl rfl ?_
        refine ze_bipush (v := nI 10) cd_M_digits_27 (by decide) ?_
        refine ze_idiv cd_M_digits_29 (by decide) ?_
        refine ze_top (y := nI 1) (by decide) ?_
        refine ze_istore_n (lv' := [(2, .int (nI 1)), (0, .ref a), (1, .int v)]) cd_M_digits_30 rfl (by decide) rfl ?_
        refine ze_goto (tgt := 4) cd_M_digits_31 (by decide) ?_
        refine ze_iload_n 0 cd_M_digits_4 rfl rfl ?_
        refine ze_if_le (tgt := 34) cd_M_digits_5 (by decide) (fun c9 => absurd c9 (by decide)) (fun _ => ?_)
        refine ze_iload_n 2 cd_M_digits_8 rfl rfl ?_
        refine ze_iload_n 0 cd_M_digits_9 rfl rfl ?_
        refine ze_icmp_lt (tgt := 26) cd_M_digits_10 (by decide) (fun c12 => ?_) (fun c12 => ?_)
        · skip
          refine ze_iload_n 0 cd_M_digits_26 rfl rfl ?_
          refine ze_bipush (v := nI 10) cd_M_digits_27 (by decide) ?_
          refine ze_idiv cd_M_digits_29 (by decide) ?_
          refine ze_top (y := nI 0) (by decide) ?_
          refine ze_istore_n (lv' := [(2, .int (nI 0)), (0, .ref a), (1, .int v)]) cd_M_digits_30 rfl (by decide) rfl ?_
          refine ze_goto (tgt := 4) cd_M_digits_31 (by decide) ?_
          refine ze_iload_n 0 cd_M_digits_4 rfl rfl ?_
          refine ze_if_le (tgt := 34) cd_M_digits_5 (by decide) (fun _ => ?_) (fun c9 => absurd c9 (by decide))
          refine ze_vret cd_M_digits_34 rfl (by decide) (by decide) ⟨rfl, rfl, hF, ?_⟩
          refine ⟨S, ?_, ?_⟩ <;> (simp only [zp_num, zp_dig, c2, c4, c6, c12, if_true, if_false, List.append_assoc, List.nil_append, List.cons_append, List.append_nil] at hq hM ⊢; first | exact hq | exact hM)
        · skip
          refine ze_aload_n 1 cd_M_digits_13 rfl rfl ?_
          refine ze_bipush (v := nI 48) cd_M_digits_14 (by decide) ?_
          refine ze_iload_n 2 cd_M_digits_16 rfl rfl ?_
          refine ze_iload_n 0 cd_M_digits_17 rfl rfl ?_
          refine ze_idiv cd_M_digits_18 (by decide) ?_
          refine ze_bipush (v := nI 10) cd_M_digits_19 (by decide) ?_
          refine ze_irem cd_M_digits_21 (by decide) ?_
          refine ze_iadd cd_M_digits_22 ?_
          refine ze_callVv (rm' := zr_M_put) (b := a) (As := [.int ((nI 48) + ((v / (nI 1)) - (v / (nI 1)) / (nI 10) * (nI 10)))]) (rest := []) (kc_M_put (L := L ++ [(nI 48) + ((v / (nI 10)) - (v / (nI 10)) / (nI 10) * (nI 10))]) (ch := (nI 48) + ((v / (nI 1)) - (v / (nI 1)) / (nI 10) * (nI 10))) hM hq (by (try simp only [List.length_append, List.length_cons, List.length_nil, List.length_replicate, zp_tt_len]); omega)) ⟨rfl, rfl⟩ zy_M_put_ok zm_991 zm_993 zm_50 (ci := 7) rfl rfl (by decide) (by decide) cd_M_digits_23 hM.1 rfl rfl (Nat.le_of_ble_eq_true rfl) (fun σ9 sz9 hq9 => ?_)
          obtain ⟨rfl, hF9, S, hq, hM⟩ := hq9
          have hF := hF.trans hF9
          refine ze_iload_n 0 cd_M_digits_26 rfl rfl ?_
          refine ze_bipush (v := nI 10) cd_M_digits_27 (by decide) ?_
          refine ze_idiv cd_M_digits_29 (by decide) ?_
          refine ze_top (y := nI 0) (by decide) ?_
          refine ze_istore_n (lv' := [(2, .int (nI 0)), (0, .ref a), (1, .int v)]) cd_M_digits_30 rfl (by decide) rfl ?_
          refine ze_goto (tgt := 4) cd_M_digits_31 (by decide) ?_
          refine ze_iload_n 0 cd_M_digits_4 rfl rfl ?_
          refine ze_if_le (tgt := 34) cd_M_digits_5 (by decide) (fun _ => ?_) (fun c9 => absurd c9 (by decide))
          refine ze_vret cd_M_digits_34 rfl (by decide) (by decide) ⟨rfl, rfl, hF, ?_⟩
          refine ⟨S, ?_, ?_⟩ <;> (simp only [zp_num, zp_dig, c2, c4, c6, c12, if_true, if_false, List.append_assoc, List.nil_append, List.cons_append, List.append_nil] at hq hM ⊢; first | exact hq | exact hM)
    · skip
      refine ze_aload_n 1 cd_M_digits_13 rfl rfl ?_
      refine ze_bipush (v := nI 48) cd_M_digits_14 (by decide) ?_
      refine ze_iload_n 2 cd_M_digits_16 rfl rfl ?_
      refine ze_iload_n 0 cd_M_digits_17 rfl rfl ?_
      refine ze_idiv cd_M_digits_18 (by decide) ?_
      refine ze_bipush (v := nI 10) cd_M_digits_19 (by decide) ?_
      refine ze_irem cd_M_digits_21 (by decide) ?_
      refine ze_iadd cd_M_digits_22 ?_
      refine ze_callVv (rm' := zr_M_put) (b := a) (As := [.int ((nI 48) + ((v / (nI 100)) - (v / (nI 100)) / (nI 10) * (nI 10)))]) (rest := []) (kc_M_put (L := L) (ch := (nI 48) + ((v / (nI 100)) - (v / (nI 100)) / (nI 10) * (nI 10))) hM hq (by (try simp only [List.length_append, List.length_cons, List.length_nil, List.length_replicate, zp_tt_len]); omega)) ⟨rfl, rfl⟩ zy_M_put_ok zm_991 zm_993 zm_50 (ci := 7) rfl rfl (by decide) (by decide) cd_M_digits_23 hM.1 rfl rfl (Nat.le_of_ble_eq_true rfl) (fun σ9 sz9 hq9 => ?_)
      obtain ⟨rfl, hF9, S, hq, hM⟩ := hq9
      have hF := hF.trans hF9
      refine ze_iload_n 0 cd_M_digits_26 rfl rfl ?_
      refine ze_bipush (v := nI 10) cd_M_digits_27 (by decide) ?_
      refine ze_idiv cd_M_digits_29 (by decide) ?_
      refine ze_top (y := nI 10) (by decide) ?_
      refine ze_istore_n (lv' := [(2, .int (nI 10)), (0, .ref a), (1, .int v)]) cd_M_digits_30 rfl (by decide) rfl ?_
      refine ze_goto (tgt := 4) cd_M_digits_31 (by decide) ?_
      refine ze_iload_n 0 cd_M_digits_4 rfl rfl ?_
      refine ze_if_le (tgt := 34) cd_M_digits_5 (by decide) (fun c9 => absurd c9 (by decide)) (fun _ => ?_)
      refine ze_iload_n 2 cd_M_digits_8 rfl rfl ?_
      refine ze_iload_n 0 cd_M_digits_9 rfl rfl ?_
      refine ze_icmp_lt (tgt := 26) cd_M_digits_10 (by decide) (fun c16 => ?_) (fun c16 => ?_)
      · skip
        refine ze_iload_n 0 cd_M_digits_26 rfl rfl ?_
        refine ze_bipush (v := nI 10) cd_M_digits_27 (by decide) ?_
        refine ze_idiv cd_M_digits_29 (by decide) ?_
        refine ze_top (y := nI 1) (by decide) ?_
        refine ze_istore_n (lv' := [(2, .int (nI 1)), (0, .ref a), (1, .int v)]) cd_M_digits_30 rfl (by decide) rfl ?_
        refine ze_goto (tgt := 4) cd_M_digits_31 (by decide) ?_
        refine ze_iload_n 0 cd_M_digits_4 rfl rfl ?_
        refine ze_if_le (tgt := 34) cd_M_digits_5 (by decide) (fun c9 => absurd c9 (by decide)) (fun _ => ?_)
        refine ze_iload_n 2 cd_M_digits_8 rfl rfl ?_
        refine ze_iload_n 0 cd_M_digits_9 rfl rfl ?_
        refine ze_icmp_lt (tgt := 26) cd_M_digits_10 (by decide) (fun c18 => ?_) (fun c18 => ?_)
        · skip
          refine ze_iload_n 0 cd_M_digits_26 rfl rfl ?_
          refine ze_bipush (v := nI 10) cd_M_digits_27 (by decide) ?_
          refine ze_idiv cd_M_digits_29 (by decide) ?_
          refine ze_top (y := nI 0) (by decide) ?_
          refine ze_istore_n (lv' := [(2, .int (nI 0)), (0, .ref a), (1, .int v)]) cd_M_digits_30 rfl (by decide) rfl ?_
          refine ze_goto (tgt := 4) cd_M_digits_31 (by decide) ?_
          refine ze_iload_n 0 cd_M_digits_4 rfl rfl ?_
          refine ze_if_le (tgt := 34) cd_M_digits_5 (by decide) (fun _ => ?_) (fun c9 => absurd c9 (by decide))
          refine ze_vret cd_M_digits_34 rfl (by decide) (by decide) ⟨rfl, rfl, hF, ?_⟩
          refine ⟨S, ?_, ?_⟩ <;> (simp only [zp_num, zp_dig, c2, c4, c16, c18, if_true, if_false, List.append_assoc, List.nil_append, List.cons_append, List.append_nil] at hq hM ⊢; first | exact hq | exact hM)
        · skip
          refine ze_aload_n 1 cd_M_digits_13 rfl rfl ?_
          refine ze_bipush (v := nI 48) cd_M_digits_14 (by decide) ?_
          refine ze_iload_n 2 cd_M_digits_16 rfl rfl ?_
          refine ze_iload_n 0 cd_M_digits_17 rfl rfl ?_
          refine ze_idiv cd_M_digits_18 (by decide) ?_
          refine ze_bipush (v := nI 10) cd_M_digits_19 (by decide) ?_
          refine ze_irem cd_M_digits_21 (by decide) ?_
          refine ze_iadd cd_M_digits_22 ?_
          refine ze_callVv (rm' := zr_M_put) (b := a) (As := [.int ((nI 48) + ((v / (nI 1)) - (v / (nI 1)) / (nI 10) * (nI 10)))]) (rest := []) (kc_M_put (L := L ++ [(nI 48) + ((v / (nI 100)) - (v / (nI 100)) / (nI 10) * (nI 10))]) (ch := (nI 48) + ((v / (nI 1)) - (v / (nI 1)) / (nI 10) * (nI 10))) hM hq (by (try simp only [List.length_append, List.length_cons, List.length_nil, List.length_replicate, zp_tt_len]); omega)) ⟨rfl, rfl⟩ zy_M_put_ok zm_991 zm_993 zm_50 (ci := 7) rfl rfl (by decide) (by decide) cd_M_digits_23 hM.1 rfl rfl (Nat.le_of_ble_eq_true rfl) (fun σ9 sz9 hq9 => ?_)
          obtain ⟨rfl, hF9, S, hq, hM⟩ := hq9
          have hF := hF.trans hF9
          refine ze_iload_n 0 cd_M_digits_26 rfl rfl ?_
          refine ze_bipush (v := nI 10) cd_M_digits_27 (by decide) ?_
          refine ze_idiv cd_M_digits_29 (by decide) ?_
          refine ze_top (y := nI 0) (by decide) ?_
          refine ze_istore_n (lv' := [(2, .int (nI 0)), (0, .ref a), (1, .int v)]) cd_M_digits_30 rfl (by decide) rfl ?_
          refine ze_goto (tgt := 4) cd_M_digits_31 (by decide) ?_
          refine ze_iload_n 0 cd_M_digits_4 rfl rfl ?_
          refine ze_if_le (tgt := 34) cd_M_digits_5 (by decide) (fun _ => ?_) (fun c9 => absurd c9 (by decide))
          refine ze_vret cd_M_digits_34 rfl (by decide) (by decide) ⟨rfl, rfl, hF, ?_⟩
          refine ⟨S, ?_, ?_⟩ <;> (simp only [zp_num, zp_dig, c2, c4, c16, c18, if_true, if_false, List.append_assoc, List.nil_append, List.cons_append, List.append_nil] at hq hM ⊢; first | exact hq | exact hM)
      · skip
        refine ze_aload_n 1 cd_M_digits_13 rfl rfl ?_
        refine ze_bipush (v := nI 48) cd_M_digits_14 (by decide) ?_
        refine ze_iload_n 2 cd_M_digits_16 rfl rfl ?_
        refine ze_iload_n 0 cd_M_digits_17 rfl rfl ?_
        refine ze_idiv cd_M_digits_18 (by decide) ?_
        refine ze_bipush (v := nI 10) cd_M_digits_19 (by decide) ?_
        refine ze_irem cd_M_digits_21 (by decide) ?_
        refine ze_iadd cd_M_digits_22 ?_
        refine ze_callVv (rm' := zr_M_put) (b := a) (As := [.int ((nI 48) + ((v / (nI 10)) - (v / (nI 10)) / (nI 10) * (nI 10)))]) (rest := []) (kc_M_put (L := L ++ [(nI 48) + ((v / (nI 100)) - (v / (nI 100)) / (nI 10) * (nI 10))]) (ch := (nI 48) + ((v / (nI 10)) - (v / (nI 10)) / (nI 10) * (nI 10))) hM hq (by (try simp only [List.length_append, List.length_cons, List.length_nil, List.length_replicate, zp_tt_len]); omega)) ⟨rfl, rfl⟩ zy_M_put_ok zm_991 zm_993 zm_50 (ci := 7) rfl rfl (by decide) (by decide) cd_M_digits_23 hM.1 rfl rfl (Nat.le_of_ble_eq_true rfl) (fun σ9 sz9 hq9 => ?_)
        obtain ⟨rfl, hF9, S, hq, hM⟩ := hq9
        have hF := hF.trans hF9
        refine ze_iload_n 0 cd_M_digits_26 rfl rfl ?_
        refine ze_bipush (v := nI 10) cd_M_digits_27 (by decide) ?_
        refine ze_idiv cd_M_digits_29 (by decide) ?_
        refine ze_top (y := nI 1) (by decide) ?_
        refine ze_istore_n (lv' := [(2, .int (nI 1)), (0, .ref a), (1, .int v)]) cd_M_digits_30 rfl (by decide) rfl ?_
        refine ze_goto (tgt := 4) cd_M_digits_31 (by decide) ?_
        refine ze_iload_n 0 cd_M_digits_4 rfl rfl ?_
        refine ze_if_le (tgt := 34) cd_M_digits_5 (by decide) (fun c9 => absurd c9 (by decide)) (fun _ => ?_)
        refine ze_iload_n 2 cd_M_digits_8 rfl rfl ?_
        refine ze_iload_n 0 cd_M_digits_9 rfl rfl ?_
        refine ze_icmp_lt (tgt := 26) cd_M_digits_10 (by decide) (fun c22 => ?_) (fun c22 => ?_)
        · skip
          refine ze_iload_n 0 cd_M_digits_26 rfl rfl ?_
          refine ze_bipush (v := nI 10) cd_M_digits_27 (by decide) ?_
          refine ze_idiv cd_M_digits_29 (by decide) ?_
          refine ze_top (y := nI 0) (by decide) ?_
          refine ze_istore_n (lv' := [(2, .int (nI 0)), (0, .ref a), (1, .int v)]) cd_M_digits_30 rfl (by decide) rfl ?_
          refine ze_goto (tgt := 4) cd_M_digits_31 (by decide) ?_
          refine ze_iload_n 0 cd_M_digits_4 rfl rfl ?_
          refine ze_if_le (tgt := 34) cd_M_digits_5 (by decide) (fun _ => ?_) (fun c9 => absurd c9 (by decide))
          refine ze_vret cd_M_digits_34 rfl (by decide) (by decide) ⟨rfl, rfl, hF, ?_⟩
          refine ⟨S, ?_, ?_⟩ <;> (simp only [zp_num, zp_dig, c2, c4, c16, c22, if_true, if_false, List.append_assoc, List.nil_append, List.cons_append, List.append_nil] at hq hM ⊢; first | exact hq | exact hM)
        · skip
          refine ze_aload_n 1 cd_M_digits_13 rfl rfl ?_
          refine ze_bipush (v := nI 48) cd_M_digits_14 (by decide) ?_
          refine ze_iload_n 2 cd_M_digits_16 rfl rfl ?_
          refine ze_iload_n 0 cd_M_digits_17 rfl rfl ?_
          refine ze_idiv cd_M_digits_18 (by decide) ?_
          refine ze_bipush (v := nI 10) cd_M_digits_19 (by decide) ?_
          refine ze_irem cd_M_digits_21 (by decide) ?_
          refine ze_iadd cd_M_digits_22 ?_
          refine ze_callVv (rm' := zr_M_put) (b := a) (As := [.int ((nI 48) + ((v / (nI 1)) - (v / (nI 1)) / (nI 10) * (nI 10)))]) (rest := []) (kc_M_put (L := L ++ [(nI 48) + ((v / (nI 100)) - (v / (nI 100)) / (nI 10) * (nI 10))] ++ [(nI 48) + ((v / (nI 10)) - (v / (nI 10)) / (nI 10) * (nI 10))]) (ch := (nI 48) + ((v / (nI 1)) - (v / (nI 1)) / (nI 10) * (nI 10))) hM hq (by (try simp only [List.length_append, List.length_cons, List.length_nil, List.length_replicate, zp_tt_len]); omega)) ⟨rfl, rfl⟩ zy_M_put_ok zm_991 zm_993 zm_50 (ci := 7) rfl rfl (by decide) (by decide) cd_M_digits_23 hM.1 rfl rfl (Nat.le_of_ble_eq_true rfl) (fun σ9 sz9 hq9 => ?_)
          obtain ⟨rfl, hF9, S, hq, hM⟩ := hq9
          have hF := hF.trans hF9
          refine ze_iload_n 0 cd_M_digits_26 rfl rfl ?_
          refine ze_bipush (v := nI 10) cd_M_digits_27 (by decide) ?_
          refine ze_idiv cd_M_digits_29 (by decide) ?_
          refine ze_top (y := nI 0) (by decide) ?_
          refine ze_istore_n (lv' := [(2, .int (nI 0)), (0, .ref a), (1, .int v)]) cd_M_digits_30 rfl (by decide) rfl ?_
          refine ze_goto (tgt := 4) cd_M_digits_31 (by decide) ?_
          refine ze_iload_n 0 cd_M_digits_4 rfl rfl ?_
          refine ze_if_le (tgt := 34) cd_M_digits_5 (by decide) (fun _ => ?_) (fun c9 => absurd c9 (by decide))
          refine ze_vret cd_M_digits_34 rfl (by decide) (by decide) ⟨rfl, rfl, hF, ?_⟩
          refine ⟨S, ?_, ?_⟩ <;> (simp only [zp_num, zp_dig, c2, c4, c16, c22, if_true, if_false, List.append_assoc, List.nil_append, List.cons_append, List.append_nil] at hq hM ⊢; first | exact hq | exact hM)
  · skip
    refine ze_aload_n 1 cd_M_digits_13 rfl rfl ?_
    refine ze_bipush (v := nI 48) cd_M_digits_14 (by decide) ?_
    refine ze_iload_n 2 cd_M_digits_16 rfl rfl ?_
    refine ze_iload_n 0 cd_M_digits_17 rfl rfl ?_
    refine ze_idiv cd_M_digits_18 (by decide) ?_
    refine ze_bipush (v := nI 10) cd_M_digits_19 (by decide) ?_
    refine ze_irem cd_M_digits_21 (by decide) ?_
    refine ze_iadd cd_M_digits_22 ?_
    refine ze_callVv (rm' := zr_M_put) (b := a) (As := [.int ((nI 48) + ((v / (nI 1000)) - (v / (nI 1000)) / (nI 10) * (nI 10)))]) (rest := []) (kc_M_put (L := L) (ch := (nI 48) + ((v / (nI 1000)) - (v / (nI 1000)) / (nI 10) * (nI 10))) hM hq (by (try simp only [List.length_append, List.length_cons, List.length_nil, List.length_replicate, zp_tt_len]); omega)) ⟨rfl, rfl⟩ zy_M_put_ok zm_991 zm_993 zm_50 (ci := 7) rfl rfl (by decide) (by decide) cd_M_digits_23 hM.1 rfl rfl (Nat.le_of_ble_eq_true rfl) (fun σ9 sz9 hq9 => ?_)
    obtain ⟨rfl, hF9, S, hq, hM⟩ := hq9
    have hF := hF.trans hF9
    refine ze_iload_n 0 cd_M_digits_26 rfl rfl ?_
    refine ze_bipush (v := nI 10) cd_M_digits_27 (by decide) ?_
    refine ze_idiv cd_M_digits_29 (by decide) ?_
    refine ze_top (y := nI 100) (by decide) ?_
    refine ze_istore_n (lv' := [(2, .int (nI 100)), (0, .ref a), (1, .int v)]) cd_M_digits_30 rfl (by decide) rfl ?_
    refine ze_goto (tgt := 4) cd_M_digits_31 (by decide) ?_
    refine ze_iload_n 0 cd_M_digits_4 rfl rfl ?_
    refine ze_if_le (tgt := 34) cd_M_digits_5 (by decide) (fun c9 => absurd c9 (by decide)) (fun _ => ?_)
    refine ze_iload_n 2 cd_M_digits_8 rfl rfl ?_
    refine ze_iload_n 0 cd_M_digits_9 rfl rfl ?_
    refine ze_icmp_lt (tgt := 26) cd_M_digits_10 (by decide) (fun c26 => ?_) (fun c26 => ?_)
    · skip
      refine ze_iload_n 0 cd_M_digits_26 rfl rfl ?_
      refine ze_bipush (v := nI 10) cd_M_digits_27 (by decide) ?_
      refine ze_idiv cd_M_digits_29 (by decide) ?_
      refine ze_top (y := nI 10) (by decide) ?_
      refine ze_istore_n (lv' := [(2, .int (nI 10)), (0, .ref a), (1, .int v)]) cd_M_digits_30 rfl (by decide) rfl ?_
      refine ze_goto (tgt := 4) cd_M_digits_31 (by decide) ?_
      refine ze_iload_n 0 cd_M_digits_4 rfl rfl ?_
      refine ze_if_le (tgt := 34) cd_M_digits_5 (by decide) (fun c9 => absurd c9 (by decide)) (fun _ => ?_)
      refine ze_iload_n 2 cd_M_digits_8 rfl rfl ?_
      refine ze_iload_n 0 cd_M_digits_9 rfl rfl ?_
      refine ze_icmp_lt (tgt := 26) cd_M_digits_10 (by decide) (fun c28 => ?_) (fun c28 => ?_)
      · skip
        refine ze_iload_n 0 cd_M_digits_26 rfl rfl ?_
        refine ze_bipush (v := nI 10) cd_M_digits_27 (by decide) ?_
        refine ze_idiv cd_M_digits_29 (by decide) ?_
        refine ze_top (y := nI 1) (by decide) ?_
        refine ze_istore_n (lv' := [(2, .int (nI 1)), (0, .ref a), (1, .int v)]) cd_M_digits_30 rfl (by decide) rfl ?_
        refine ze_goto (tgt := 4) cd_M_digits_31 (by decide) ?_
        refine ze_iload_n 0 cd_M_digits_4 rfl rfl ?_
        refine ze_if_le (tgt := 34) cd_M_digits_5 (by decide) (fun c9 => absurd c9 (by decide)) (fun _ => ?_)
        refine ze_iload_n 2 cd_M_digits_8 rfl rfl ?_
        refine ze_iload_n 0 cd_M_digits_9 rfl rfl ?_
        refine ze_icmp_lt (tgt := 26) cd_M_digits_10 (by decide) (fun c30 => ?_) (fun c30 => ?_)
        · skip
          refine ze_iload_n 0 cd_M_digits_26 rfl rfl ?_
          refine ze_bipush (v := nI 10) cd_M_digits_27 (by decide) ?_
          refine ze_idiv cd_M_digits_29 (by decide) ?_
          refine ze_top (y := nI 0) (by decide) ?_
          refine ze_istore_n (lv' := [(2, .int (nI 0)), (0, .ref a), (1, .int v)]) cd_M_digits_30 rfl (by decide) rfl ?_
          refine ze_goto (tgt := 4) cd_M_digits_31 (by decide) ?_
          refine ze_iload_n 0 cd_M_digits_4 rfl rfl ?_
          refine ze_if_le (tgt := 34) cd_M_digits_5 (by decide) (fun _ => ?_) (fun c9 => absurd c9 (by decide))
          refine ze_vret cd_M_digits_34 rfl (by decide) (by decide) ⟨rfl, rfl, hF, ?_⟩
          refine ⟨S, ?_, ?_⟩ <;> (simp only [zp_num, zp_dig, c2, c26, c28, c30, if_true, if_false, List.append_assoc, List.nil_append, List.cons_append, List.append_nil] at hq hM ⊢; first | exact hq | exact hM)
        · skip
          refine ze_aload_n 1 cd_M_digits_13 rfl rfl ?_
          refine ze_bipush (v := nI 48) cd_M_digits_14 (by decide) ?_
          refine ze_iload_n 2 cd_M_digits_16 rfl rfl ?_
          refine ze_iload_n 0 cd_M_digits_17 rfl rfl ?_
          refine ze_idiv cd_M_digits_18 (by decide) ?_
          refine ze_bipush (v := nI 10) cd_M_digits_19 (by decide) ?_
          refine ze_irem cd_M_digits_21 (by decide) ?_
          refine ze_iadd cd_M_digits_22 ?_
          refine ze_callVv (rm' := zr_M_put) (b := a) (As := [.int ((nI 48) + ((v / (nI 1)) - (v / (nI 1)) / (nI 10) * (nI 10)))]) (rest := []) (kc_M_put (L := L ++ [(nI 48) + ((v / (nI 1000)) - (v / (nI 1000)) / (nI 10) * (nI 10))]) (ch := (nI 48) + ((v / (nI 1)) - (v / (nI 1)) / (nI 10) * (nI 10))) hM hq (by (try simp only [List.length_append, List.length_cons, List.length_nil, List.length_replicate, zp_tt_len]); omega)) ⟨rfl, rfl⟩ zy_M_put_ok zm_991 zm_993 zm_50 (ci := 7) rfl rfl (by decide) (by decide) cd_M_digits_23 hM.1 rfl rfl (Nat.le_of_ble_eq_true rfl) (fun σ9 sz9 hq9 => ?_)
          obtain ⟨rfl, hF9, S, hq, hM⟩ := hq9
          have hF := hF.trans hF9
          refine ze_iload_n 0 cd_M_digits_26 rfl rfl ?_
          refine ze_bipush (v := nI 10) cd_M_digits_27 (by decide) ?_
          refine ze_idiv cd_M_digits_29 (by decide) ?_
          refine ze_top (y := nI 0) (by decide) ?_
          refine ze_istore_n (lv' := [(2, .int (nI 0)), (0, .ref a), (1, .int v)]) cd_M_digits_30 rfl (by decide) rfl ?_
          refine ze_goto (tgt := 4) cd_M_digits_31 (by decide) ?_
          refine ze_iload_n 0 cd_M_digits_4 rfl rfl ?_
          refine ze_if_le (tgt := 34) cd_M_digits_5 (by decide) (fun _ => ?_) (fun c9 => absurd c9 (by decide))
          refine ze_vret cd_M_digits_34 rfl (by decide) (by decide) ⟨rfl, rfl, hF, ?_⟩
          refine ⟨S, ?_, ?_⟩ <;> (simp only [zp_num, zp_dig, c2, c26, c28, c30, if_true, if_false, List.append_assoc, List.nil_append, List.cons_append, List.append_nil] at hq hM ⊢; first | exact hq | exact hM)
      · skip
        refine ze_aload_n 1 cd_M_digits_13 rfl rfl ?_
        refine ze_bipush (v := nI 48) cd_M_digits_14 (by decide) ?_
        refine ze_iload_n 2 cd_M_digits_16 rfl rfl ?_
        refine ze_iload_n 0 cd_M_digits_17 rfl rfl ?_
        refine ze_idiv cd_M_digits_18 (by decide) ?_
        refine ze_bipush (v := nI 10) cd_M_digits_19 (by decide) ?_
        refine ze_irem cd_M_digits_21 (by decide) ?_
        refine ze_iadd cd_M_digits_22 ?_
        refine ze_callVv (rm' := zr_M_put) (b := a) (As := [.int ((nI 48) + ((v / (nI 10)) - (v / (nI 10)) / (nI 10) * (nI 10)))]) (rest := []) (kc_M_put (L := L ++ [(nI 48) + ((v / (nI 1000)) - (v / (nI 1000)) / (nI 10) * (nI 10))]) (ch := (nI 48) + ((v / (nI 10)) - (v / (nI 10)) / (nI 10) * (nI 10))) hM hq (by (try simp only [List.length_append, List.length_cons, List.length_nil, List.length_replicate, zp_tt_len]); omega)) ⟨rfl, rfl⟩ zy_M_put_ok zm_991 zm_993 zm_50 (ci := 7) rfl rfl (by decide) (by decide) cd_M_digits_23 hM.1 rfl rfl (Nat.le_of_ble_eq_true rfl) (fun σ9 sz9 hq9 => ?_)
        obtain ⟨rfl, hF9, S, hq, hM⟩ := hq9
        have hF := hF.trans hF9
        refine ze_iload_n 0 cd_M_digits_26 rfl rfl ?_
        refine ze_bipush (v := nI 10) cd_M_digits_27 (by decide) ?_
        refine ze_idiv cd_M_digits_29 (by decide) ?_
        refine ze_top (y := nI 1) (by decide) ?_
        refine ze_istore_n (lv' := [(2, .int (nI 1)), (0, .ref a), (1, .int v)]) cd_M_digits_30 rfl (by decide) rfl ?_
        refine ze_goto (tgt := 4) cd_M_digits_31 (by decide) ?_
        refine ze_iload_n 0 cd_M_digits_4 rfl rfl ?_
        refine ze_if_le (tgt := 34) cd_M_digits_5 (by decide) (fun c9 => absurd c9 (by decide)) (fun _ => ?_)
        refine ze_iload_n 2 cd_M_digits_8 rfl rfl ?_
        refine ze_iload_n 0 cd_M_digits_9 rfl rfl ?_
        refine ze_icmp_lt (tgt := 26) cd_M_digits_10 (by decide) (fun c34 => ?_) (fun c34 => ?_)
        · skip
          refine ze_iload_n 0 cd_M_digits_26 rfl rfl ?_
          refine ze_bipush (v := nI 10) cd_M_digits_27 (by decide) ?_
          refine ze_idiv cd_M_digits_29 (by decide) ?_
          refine ze_top (y := nI 0) (by decide) ?_
          refine ze_istore_n (lv' := [(2, .int (nI 0)), (0, .ref a), (1, .int v)]) cd_M_digits_30 rfl (by decide) rfl ?_
          refine ze_goto (tgt := 4) cd_M_digits_31 (by decide) ?_
          refine ze_iload_n 0 cd_M_digits_4 rfl rfl ?_
          refine ze_if_le (tgt := 34) cd_M_digits_5 (by decide) (fun _ => ?_) (fun c9 => absurd c9 (by decide))
          refine ze_vret cd_M_digits_34 rfl (by decide) (by decide) ⟨rfl, rfl, hF, ?_⟩
          refine ⟨S, ?_, ?_⟩ <;> (simp only [zp_num, zp_dig, c2, c26, c28, c34, if_true, if_false, List.append_assoc, List.nil_append, List.cons_append, List.append_nil] at hq hM ⊢; first | exact hq | exact hM)
        · skip
          refine ze_aload_n 1 cd_M_digits_13 rfl rfl ?_
          refine ze_bipush (v := nI 48) cd_M_digits_14 (by decide) ?_
          refine ze_iload_n 2 cd_M_digits_16 rfl rfl ?_
          refine ze_iload_n 0 cd_M_digits_17 rfl rfl ?_
          refine ze_idiv cd_M_digits_18 (by decide) ?_
          refine ze_bipush (v := nI 10) cd_M_digits_19 (by decide) ?_
          refine ze_irem cd_M_digits_21 (by decide) ?_
          refine ze_iadd cd_M_digits_22 ?_
          refine ze_callVv (rm' := zr_M_put) (b := a) (As := [.int ((nI 48) + ((v / (nI 1)) - (v / (nI 1)) / (nI 10) * (nI 10)))]) (rest := []) (kc_M_put (L := L ++ [(nI 48) + ((v / (nI 1000)) - (v / (nI 1000)) / (nI 10) * (nI 10))] ++ [(nI 48) + ((v / (nI 10)) - (v / (nI 10)) / (nI 10) * (nI 10))]) (ch := (nI 48) + ((v / (nI 1)) - (v / (nI 1)) / (nI 10) * (nI 10))) hM hq (by (try simp only [List.length_append, List.length_cons, List.length_nil, List.length_replicate, zp_tt_len]); omega)) ⟨rfl, rfl⟩ zy_M_put_ok zm_991 zm_993 zm_50 (ci := 7) rfl rfl (by decide) (by decide) cd_M_digits_23 hM.1 rfl rfl (Nat.le_of_ble_eq_true rfl) (fun σ9 sz9 hq9 => ?_)
          obtain ⟨rfl, hF9, S, hq, hM⟩ := hq9
          have hF := hF.trans hF9
          refine ze_iload_n 0 cd_M_digits_26 rfl rfl ?_
          refine ze_bipush (v := nI 10) cd_M_digits_27 (by decide) ?_
          refine ze_idiv cd_M_digits_29 (by decide) ?_
          refine ze_top (y := nI 0) (by decide) ?_
          refine ze_istore_n (lv' := [(2, .int (nI 0)), (0, .ref a), (1, .int v)]) cd_M_digits_30 rfl (by decide) rfl ?_
          refine ze_goto (tgt := 4) cd_M_digits_31 (by decide) ?_
          refine ze_iload_n 0 cd_M_digits_4 rfl rfl ?_
          refine ze_if_le (tgt := 34) cd_M_digits_5 (by decide) (fun _ => ?_) (fun c9 => absurd c9 (by decide))
          refine ze_vret cd_M_digits_34 rfl (by decide) (by decide) ⟨rfl, rfl, hF, ?_⟩
          refine ⟨S, ?_, ?_⟩ <;> (simp only [zp_num, zp_dig, c2, c26, c28, c34, if_true, if_false, List.append_assoc, List.nil_append, List.cons_append, List.append_nil] at hq hM ⊢; first | exact hq | exact hM)
    · skip
      refine ze_aload_n 1 cd_M_digits_13 rfl rfl ?_
      refine ze_bipush (v := nI 48) cd_M_digits_14 (by decide) ?_
      refine ze_iload_n 2 cd_M_digits_16 rfl rfl ?_
      refine ze_iload_n 0 cd_M_digits_17 rfl rfl ?_
      refine ze_idiv cd_M_digits_18 (by decide) ?_
      refine ze_bipush (v := nI 10) cd_M_digits_19 (by decide) ?_
      refine ze_irem cd_M_digits_21 (by decide) ?_
      refine ze_iadd cd_M_digits_22 ?_
      refine ze_callVv (rm' := zr_M_put) (b := a) (As := [.int ((nI 48) + ((v / (nI 100)) - (v / (nI 100)) / (nI 10) * (nI 10)))]) (rest := []) (kc_M_put (L := L ++ [(nI 48) + ((v / (nI 1000)) - (v / (nI 1000)) / (nI 10) * (nI 10))]) (ch := (nI 48) + ((v / (nI 100)) - (v / (nI 100)) / (nI 10) * (nI 10))) hM hq (by (try simp only [List.length_append, List.length_cons, List.length_nil, List.length_replicate, zp_tt_len]); omega)) ⟨rfl, rfl⟩ zy_M_put_ok zm_991 zm_993 zm_50 (ci := 7) rfl rfl (by decide) (by decide) cd_M_digits_23 hM.1 rfl rfl (Nat.le_of_ble_eq_true rfl) (fun σ9 sz9 hq9 => ?_)
      obtain ⟨rfl, hF9, S, hq, hM⟩ := hq9
      have hF := hF.trans hF9
      refine ze_iload_n 0 cd_M_digits_26 rfl rfl ?_
      refine ze_bipush (v := nI 10) cd_M_digits_27 (by decide) ?_
      refine ze_idiv cd_M_digits_29 (by decide) ?_
      refine ze_top (y := nI 10) (by decide) ?_
      refine ze_istore_n (lv' := [(2, .int (nI 10)), (0, .ref a), (1, .int v)]) cd_M_digits_30 rfl (by decide) rfl ?_
      refine ze_goto (tgt := 4) cd_M_digits_31 (by decide) ?_
      refine ze_iload_n 0 cd_M_digits_4 rfl rfl ?_
      refine ze_if_le (tgt := 34) cd_M_digits_5 (by decide) (fun c9 => absurd c9 (by decide)) (fun _ => ?_)
      refine ze_iload_n 2 cd_M_digits_8 rfl rfl ?_
      refine ze_iload_n 0 cd_M_digits_9 rfl rfl ?_
      refine ze_icmp_lt (tgt := 26) cd_M_digits_10 (by decide) (fun c38 => ?_) (fun c38 => ?_)
      · skip
        refine ze_iload_n 0 cd_M_digits_26 rfl rfl ?_
        refine ze_bipush (v := nI 10) cd_M_digits_27 (by decide) ?_
        refine ze_idiv cd_M_digits_29 (by decide) ?_
        refine ze_top (y := nI 1) (by decide) ?_
        refine ze_istore_n (lv' := [(2, .int (nI 1)), (0, .ref a), (1, .int v)]) cd_M_digits_30 rfl (by decide) rfl ?_
        refine ze_goto (tgt := 4) cd_M_digits_31 (by decide) ?_
        refine ze_iload_n 0 cd_M_digits_4 rfl rfl ?_
        refine ze_if_le (tgt := 34) cd_M_digits_5 (by decide) (fun c9 => absurd c9 (by decide)) (fun _ => ?_)
        refine ze_iload_n 2 cd_M_digits_8 rfl rfl ?_
        refine ze_iload_n 0 cd_M_digits_9 rfl rfl ?_
        refine ze_icmp_lt (tgt := 26) cd_M_digits_10 (by decide) (fun c40 => ?_) (fun c40 => ?_)
        · skip
          refine ze_iload_n 0 cd_M_digits_26 rfl rfl ?_
          refine ze_bipush (v := nI 10) cd_M_digits_27 (by decide) ?_
          refine ze_idiv cd_M_digits_29 (by decide) ?_
          refine ze_top (y := nI 0) (by decide) ?_
          refine ze_istore_n (lv' := [(2, .int (nI 0)), (0, .ref a), (1, .int v)]) cd_M_digits_30 rfl (by decide) rfl ?_
          refine ze_goto (tgt := 4) cd_M_digits_31 (by decide) ?_
          refine ze_iload_n 0 cd_M_digits_4 rfl rfl ?_
          refine ze_if_le (tgt := 34) cd_M_digits_5 (by decide) (fun _ => ?_) (fun c9 => absurd c9 (by decide))
          refine ze_vret cd_M_digits_34 rfl (by decide) (by decide) ⟨rfl, rfl, hF, ?_⟩
          refine ⟨S, ?_, ?_⟩ <;> (simp only [zp_num, zp_dig, c2, c26, c38, c40, if_true, if_false, List.append_assoc, List.nil_append, List.cons_append, List.append_nil] at hq hM ⊢; first | exact hq | exact hM)
        · skip
          refine ze_aload_n 1 cd_M_digits_13 rfl rfl ?_
          refine ze_bipush (v := nI 48) cd_M_digits_14 (by decide) ?_
          refine ze_iload_n 2 cd_M_digits_16 rfl rfl ?_
          refine ze_iload_n 0 cd_M_digits_17 rfl rfl ?_
          refine ze_idiv cd_M_digits_18 (by decide) ?_
          refine ze_bipush (v := nI 10) cd_M_digits_19 (by decide) ?_
          refine ze_irem cd_M_digits_21 (by decide) ?_
          refine ze_iadd cd_M_digits_22 ?_
          refine ze_callVv (rm' := zr_M_put) (b := a) (As := [.int ((nI 48) + ((v / (nI 1)) - (v / (nI 1)) / (nI 10) * (nI 10)))]) (rest := []) (kc_M_put (L := L ++ [(nI 48) + ((v / (nI 1000)) - (v / (nI 1000)) / (nI 10) * (nI 10))] ++ [(nI 48) + ((v / (nI 100)) - (v / (nI 100)) / (nI 10) * (nI 10))]) (ch := (nI 48) + ((v / (nI 1)) - (v / (nI 1)) / (nI 10) * (nI 10))) hM hq (by (try simp only [List.length_append, List.length_cons, List.length_nil, List.length_replicate, zp_tt_len]); omega)) ⟨rfl, rfl⟩ zy_M_put_ok zm_991 zm_993 zm_50 (ci := 7) rfl rfl (by decide) (by decide) cd_M_digits_23 hM.1 rfl rfl (Nat.le_of_ble_eq_true rfl) (fun σ9 sz9 hq9 => ?_)
          obtain ⟨rfl, hF9, S, hq, hM⟩ := hq9
          have hF := hF.trans hF9
          refine ze_iload_n 0 cd_M_digits_26 rfl rfl ?_
          refine ze_bipush (v := nI 10) cd_M_digits_27 (by decide) ?_
          refine ze_idiv cd_M_digits_29 (by decide) ?_
          refine ze_top (y := nI 0) (by decide) ?_
          refine ze_istore_n (lv' := [(2, .int (nI 0)), (0, .ref a), (1, .int v)]) cd_M_digits_30 rfl (by decide) rfl ?_
          refine ze_goto (tgt := 4) cd_M_digits_31 (by decide) ?_
          refine ze_iload_n 0 cd_M_digits_4 rfl rfl ?_
          refine ze_if_le (tgt := 34) cd_M_digits_5 (by decide) (fun _ => ?_) (fun c9 => absurd c9 (by decide))
          refine ze_vret cd_M_digits_34 rfl (by decide) (by decide) ⟨rfl, rfl, hF, ?_⟩
          refine ⟨S, ?_, ?_⟩ <;> (simp only [zp_num, zp_dig, c2, c26, c38, c40, if_true, if_false, List.append_assoc, List.nil_append, List.cons_append, List.append_nil] at hq hM ⊢; first | exact hq | exact hM)
      · skip
        refine ze_aload_n 1 cd_M_digits_13 rfl rfl ?_
        refine ze_bipush (v := nI 48) cd_M_digits_14 (by decide) ?_
        refine ze_iload_n 2 cd_M_digits_16 rfl rfl ?_
        refine ze_iload_n 0 cd_M_digits_17 rfl rfl ?_
        refine ze_idiv cd_M_digits_18 (by decide) ?_
        refine ze_bipush (v := nI 10) cd_M_digits_19 (by decide) ?_
        refine ze_irem cd_M_digits_21 (by decide) ?_
        refine ze_iadd cd_M_digits_22 ?_
        refine ze_callVv (rm' := zr_M_put) (b := a) (As := [.int ((nI 48) + ((v / (nI 10)) - (v / (nI 10)) / (nI 10) * (nI 10)))]) (rest := []) (kc_M_put (L := L ++ [(nI 48) + ((v / (nI 1000)) - (v / (nI 1000)) / (nI 10) * (nI 10))] ++ [(nI 48) + ((v / (nI 100)) - (v / (nI 100)) / (nI 10) * (nI 10))]) (ch := (nI 48) + ((v / (nI 10)) - (v / (nI 10)) / (nI 10) * (nI 10))) hM hq (by (try simp only [List.length_append, List.length_cons, List.length_nil, List.length_replicate, zp_tt_len]); omega)) ⟨rfl, rfl⟩ zy_M_put_ok zm_991 zm_993 zm_50 (ci := 7) rfl rfl (by decide) (by decide) cd_M_digits_23 hM.1 rfl rfl (Nat.le_of_ble_eq_true rfl) (fun σ9 sz9 hq9 => ?_)
        obtain ⟨rfl, hF9, S, hq, hM⟩ := hq9
        have hF := hF.trans hF9
        refine ze_iload_n 0 cd_M_digits_26 rfl rfl ?_
        refine ze_bipush (v := nI 10) cd_M_digits_27 (by decide) ?_
        refine ze_idiv cd_M_digits_29 (by decide) ?_
        refine ze_top (y := nI 1) (by decide) ?_
        refine ze_istore_n (lv' := [(2, .int (nI 1)), (0, .ref a), (1, .int v)]) cd_M_digits_30 rfl (by decide) rfl ?_
        refine ze_goto (tgt := 4) cd_M_digits_31 (by decide) ?_
        refine ze_iload_n 0 cd_M_digits_4 rfl rfl ?_
        refine ze_if_le (tgt := 34) cd_M_digits_5 (by decide) (fun c9 => absurd c9 (by decide)) (fun _ => ?_)
        refine ze_iload_n 2 cd_M_digits_8 rfl rfl ?_
        refine ze_iload_n 0 cd_M_digits_9 rfl rfl ?_
        refine ze_icmp_lt (tgt := 26) cd_M_digits_10 (by decide) (fun c44 => ?_) (fun c44 => ?_)
        · skip
          refine ze_iload_n 0 cd_M_digits_26 rfl rfl ?_
          refine ze_bipush (v := nI 10) cd_M_digits_27 (by decide) ?_
          refine ze_idiv cd_M_digits_29 (by decide) ?_
          refine ze_top (y := nI 0) (by decide) ?_
          refine ze_istore_n (lv' := [(2, .int (nI 0)), (0, .ref a), (1, .int v)]) cd_M_digits_30 rfl (by decide) rfl ?_
          refine ze_goto (tgt := 4) cd_M_digits_31 (by decide) ?_
          refine ze_iload_n 0 cd_M_digits_4 rfl rfl ?_
          refine ze_if_le (tgt := 34) cd_M_digits_5 (by decide) (fun _ => ?_) (fun c9 => absurd c9 (by decide))
          refine ze_vret cd_M_digits_34 rfl (by decide) (by decide) ⟨rfl, rfl, hF, ?_⟩
          refine ⟨S, ?_, ?_⟩ <;> (simp only [zp_num, zp_dig, c2, c26, c38, c44, if_true, if_false, List.append_assoc, List.nil_append, List.cons_append, List.append_nil] at hq hM ⊢; first | exact hq | exact hM)
        · skip
          refine ze_aload_n 1 cd_M_digits_13 rfl rfl ?_
          refine ze_bipush (v := nI 48) cd_M_digits_14 (by decide) ?_
          refine ze_iload_n 2 cd_M_digits_16 rfl rfl ?_
          refine ze_iload_n 0 cd_M_digits_17 rfl rfl ?_
          refine ze_idiv cd_M_digits_18 (by decide) ?_
          refine ze_bipush (v := nI 10) cd_M_digits_19 (by decide) ?_
          refine ze_irem cd_M_digits_21 (by decide) ?_
          refine ze_iadd cd_M_digits_22 ?_
          refine ze_callVv (rm' := zr_M_put) (b := a) (As := [.int ((nI 48) + ((v / (nI 1)) - (v / (nI 1)) / (nI 10) * (nI 10)))]) (rest := []) (kc_M_put (L := L ++ [(nI 48) + ((v / (nI 1000)) - (v / (nI 1000)) / (nI 10) * (nI 10))] ++ [(nI 48) + ((v / (nI 100)) - (v / (nI 100)) / (nI 10) * (nI 10))] ++ [(nI 48) + ((v / (nI 10)) - (v / (nI 10)) / (nI 10) * (nI 10))]) (ch := (nI 48) + ((v / (nI 1)) - (v / (nI 1)) / (nI 10) * (nI 10))) hM hq (by (try simp only [List.length_append, List.length_cons, List.length_nil, List.length_replicate, zp_tt_len]); omega)) ⟨rfl, rfl⟩ zy_M_put_ok zm_991 zm_993 zm_50 (ci := 7) rfl rfl (by decide) (by decide) cd_M_digits_23 hM.1 rfl rfl (Nat.le_of_ble_eq_true rfl) (fun σ9 sz9 hq9 => ?_)
          obtain ⟨rfl, hF9, S, hq, hM⟩ := hq9
          have hF := hF.trans hF9
          refine ze_iload_n 0 cd_M_digits_26 rfl rfl ?_
          refine ze_bipush (v := nI 10) cd_M_digits_27 (by decide) ?_
          refine ze_idiv cd_M_digits_29 (by decide) ?_
          refine ze_top (y := nI 0) (by decide) ?_
          refine ze_istore_n (lv' := [(2, .int (nI 0)), (0, .ref a), (1, .int v)]) cd_M_digits_30 rfl (by decide) rfl ?_
          refine ze_goto (tgt := 4) cd_M_digits_31 (by decide) ?_
          refine ze_iload_n 0 cd_M_digits_4 rfl rfl ?_
          refine ze_if_le (tgt := 34) cd_M_digits_5 (by decide) (fun _ => ?_) (fun c9 => absurd c9 (by decide))
          refine ze_vret cd_M_digits_34 rfl (by decide) (by decide) ⟨rfl, rfl, hF, ?_⟩
          refine ⟨S, ?_, ?_⟩ <;> (simp only [zp_num, zp_dig, c2, c26, c38, c44, if_true, if_false, List.append_assoc, List.nil_append, List.cons_append, List.append_nil] at hq hM ⊢; first | exact hq | exact hM)
abbrev zr_M_write : Room := { frames := 2, cells := 0, slots := 0, locals := 43 }
set_option maxRecDepth 100000 in
set_option maxHeartbeats 4000000 in
theorem kc_M_write {g : zx_G} {σ : zx_M} {sz : Nat} {a size ps lv ot ak : Nat} {th wr fr : Int32} {M : Nat → Nat → Int32} {S : Nat → Int32} {L : List Int32} {pa : Nat → Option Nat} {dp : Nat → Nat} {i kd t : Nat} (hM : zmo g σ a th size wr ps lv ot ak fr L.length (va_up M 20 S)) (hq : zq S L) (hl : L.length + 60 ≤ 6000) (hfo : zfor (M 3) pa dp (fun j => j < lv)) (hi : i < lv) (hlv : lv ≤ 100) (hkd : M 1 i = nI kd) (hkd4 : kd < 4) (ht : M 9 i = nI t) (ht2 : t ≤ 16) (h4 : M 4 i < 0 ↔ M 4 i = -1) (h7 : M 7 i < 0 ↔ M 8 i = -1) (h8 : ¬ M 7 i < 0 → ∃ u, u < 3 ∧ M 8 i = nI u) : zM g cy_M_write cb_M_write 3 (Option.none : Option Jvm.ClassFile.FieldType) zr_M_write 0 0 [.ref a, .int (nI i)] σ sz (zPv (fun σ' sz' => sz' = sz ∧ zfr σ σ' a 22 ∧ ∃ S', zq S' (L ++ zp_line (zmR M dp) i (dp i) t) ∧ zmo g σ' a th size wr ps lv ot ak fr (L ++ zp_line (zmR M dp) i (dp i) t).length (va_up M 20 S'))) := by
  generalize hX0 : L ++ zp_line (zmR M dp) i (dp i) t = X0
  have hF : zfr σ σ a 22 := zfr.rf
  have hn1 := zp_num_len (M 2 i)
  have hn2 := zp_num_len (M 4 i)
  have hn3 := zp_num_len (M 5 i)
  have hn4 := zp_num_len (M 7 i)
  have f266 : ∀ (k : Nat) (L' : List Int32) (S' : Nat → Int32) (σ1 : zx_M), L'.length + 1 ≤ 6000 → L' ++ [nI 10] = X0 → zq S' L' → zmo g σ1 a th size wr ps lv ot ak fr L'.length (va_up M 20 S') → zfr σ σ1 a 22 → zE g "FindingAidModel" cb_M_write 3 (Option.none : Option Jvm.ClassFile.FieldType) false zr_M_write 0 0 (zPv (fun σ' sz' => sz' = sz ∧ zfr σ σ' a 22 ∧ ∃ S', zq S' X0 ∧ zmo g σ' a th size wr ps lv ot ak fr X0.length (va_up M 20 S'))) 266 [(2, .int (nI k)), (0, .ref a), (1, .int (nI i))] [] σ1 sz 0 0 := by
    intro k L S σ1  hl hE hq hM hF
    refine ze_aload_n 1 cd_M_write_266 rfl rfl ?_
    refine ze_bipush (v := nI 10) cd_M_write_267 (by decide) ?_
    refine ze_callVv (rm' := zr_M_put) (b := a) (As := [.int (nI 10)]) (rest := []) (kc_M_put (L := L) (ch := nI 10) hM hq (by (try simp only [List.length_append, List.length_cons, List.length_nil, List.length_replicate, zp_tt_len]); omega)) ⟨rfl, rfl⟩ zy_M_put_ok zm_991 zm_993 zm_50 (ci := 7) rfl rfl (by decide) (by decide) cd_M_write_269 hM.1 rfl rfl (Nat.le_of_ble_eq_true rfl) (fun σ9 sz9 hq9 => ?_)
    obtain ⟨rfl, hF9, S, hq, hM⟩ := hq9
    have hF := hF.trans hF9
    refine ze_vret cd_M_write_272 rfl (by decide) (by decide) ⟨rfl, rfl, hF, ?_⟩
    rw [hE] at hM hq; exact ⟨S, hq, hM⟩
  have f263 : ∀ (k u : Nat) (L' : List Int32) (S' : Nat → Int32) (σ1 : zx_M), L'.length + 2 ≤ 6000 → L' ++ [zc_k2 u, nI 10] = X0 → zq S' L' → zmo g σ1 a th size wr ps lv ot ak fr L'.length (va_up M 20 S') → zfr σ σ1 a 22 → zE g "FindingAidModel" cb_M_write 3 (Option.none : Option Jvm.ClassFile.FieldType) false zr_M_write 0 0 (zPv (fun σ' sz' => sz' = sz ∧ zfr σ σ' a 22 ∧ ∃ S', zq S' X0 ∧ zmo g σ' a th size wr ps lv ot ak fr X0.length (va_up M 20 S'))) 263 [(2, .int (nI k)), (0, .ref a), (1, .int (nI i))] [.int (zc_k2 u), .ref a] σ1 sz 0 0 := by
    intro k u L S σ1 hl hE hq hM hF
    refine ze_callVv (rm' := zr_M_put) (b := a) (As := [.int (zc_k2 u)]) (rest := []) (kc_M_put (L := L) (ch := zc_k2 u) hM hq (by (try simp only [List.length_append, List.length_cons, List.length_nil, List.length_replicate, zp_tt_len]); omega)) ⟨rfl, rfl⟩ zy_M_put_ok zm_991 zm_993 zm_50 (ci := 7) rfl rfl (by decide) (by decide) cd_M_write_263 hM.1 rfl rfl (Nat.le_of_ble_eq_true rfl) (fun σ9 sz9 hq9 => ?_)
    obtain ⟨rfl, hF9, S, hq, hM⟩ := hq9
    have hF := hF.trans hF9
    exact ze_sub [0, 1, 2] rfl (f266 _ (L ++ [zc_k2 u]) S _  (by (try simp only [List.length_append, List.length_cons, List.length_nil, List.length_replicate, zp_tt_len]); omega) (by rw [← hE]; simp only [List.append_assoc, List.cons_append, List.nil_append, List.append_nil]) hq hM hF)
  have f200 : ∀ (k : Nat) (L' : List Int32) (S' : Nat → Int32) (σ1 : zx_M), L'.length + 8 ≤ 6000 → L' ++ ((if M 8 i = -1 then [] else nI 32 :: nI 101 :: (zp_num (M 7 i) ++ zp_one zc_k2 3 (M 8 i))) ++ [nI 10]) = X0 → zq S' L' → zmo g σ1 a th size wr ps lv ot ak fr L'.length (va_up M 20 S') → zfr σ σ1 a 22 → zE g "FindingAidModel" cb_M_write 3 (Option.none : Option Jvm.ClassFile.FieldType) false zr_M_write 0 0 (zPv (fun σ' sz' => sz' = sz ∧ zfr σ σ' a 22 ∧ ∃ S', zq S' X0 ∧ zmo g σ' a th size wr ps lv ot ak fr X0.length (va_up M 20 S'))) 200 [(2, .int (nI k)), (0, .ref a), (1, .int (nI i))] [] σ1 sz 0 0 := by
    intro k L S σ1  hl hE hq hM hF
    refine ze_aload_n 1 cd_M_write_200 rfl rfl ?_
    refine ze_get zin_M (v := .ref (a + 8)) (ci := 7) rfl 13 (by decide) zm_735 rfl cd_M_write_201 hM.1 rfl ?_
    refine ze_iload_n 2 cd_M_write_204 rfl rfl ?_
    refine ze_iald (j := i) (f := M 7) cd_M_write_205 (hM.2 7 _ rfl) rfl (by omega) (by decide) ?_
    refine ze_if_lt (tgt := 266) cd_M_write_206 (by decide) (fun c1 => ?_) (fun c1 => ?_)
    · skip
      exact ze_sub [0, 1, 2] rfl (f266 _ L S _ (by (try simp only [List.length_append, List.length_cons, List.length_nil, List.length_replicate, zp_tt_len]); omega) (by rw [← hE, if_pos (h7.mp c1)]; simp only [List.append_assoc, List.cons_append, List.nil_append, List.append_nil]) hq hM hF)
    · skip
      refine ze_aload_n 1 cd_M_write_209 rfl rfl ?_
      refine ze_bipush (v := nI 32) cd_M_write_210 (by decide) ?_
      refine ze_callVv (rm' := zr_M_put) (b := a) (As := [.int (nI 32)]) (rest := []) (kc_M_put (L := L) (ch := nI 32) hM hq (by (try simp only [List.length_append, List.length_cons, List.length_nil, List.length_replicate, zp_tt_len]); omega)) ⟨rfl, rfl⟩ zy_M_put_ok zm_991 zm_993 zm_50 (ci := 7) rfl rfl (by decide) (by decide) cd_M_write_212 hM.1 rfl rfl (Nat.le_of_ble_eq_true rfl) (fun σ9 sz9 hq9 => ?_)
      obtain ⟨rfl, hF9, S, hq, hM⟩ := hq9
      have hF := hF.trans hF9
      refine ze_aload_n 1 cd_M_write_215 rfl rfl ?_
      refine ze_bipush (v := nI 101) cd_M_write_216 (by decide) ?_
      refine ze_callVv (rm' := zr_M_put) (b := a) (As := [.int (nI 101)]) (rest := []) (kc_M_put (L := L ++ [nI 32]) (ch := nI 101) hM hq (by (try simp only [List.length_append, List.length_cons, List.length_nil, List.length_replicate, zp_tt_len]); omega)) ⟨rfl, rfl⟩ zy_M_put_ok zm_991 zm_993 zm_50 (ci := 7) rfl rfl (by decide) (by decide) cd_M_write_218 hM.1 rfl rfl (Nat.le_of_ble_eq_true rfl) (fun σ9 sz9 hq9 => ?_)
      obtain ⟨rfl, hF9, S, hq, hM⟩ := hq9
      have hF := hF.trans hF9
      refine ze_aload_n 1 cd_M_write_221 rfl rfl ?_
      refine ze_aload_n 1 cd_M_write_222 rfl rfl ?_
      refine ze_get zin_M (v := .ref (a + 8)) (ci := 7) rfl 13 (by decide) zm_735 rfl cd_M_write_223 hM.1 rfl ?_
      refine ze_iload_n 2 cd_M_write_226 rfl rfl ?_
      refine ze_iald (j := i) (f := M 7) cd_M_write_227 (hM.2 7 _ rfl) rfl (by omega) (by decide) ?_
      refine ze_callVv (rm' := zr_M_digits) (b := a) (As := [.int (M 7 i)]) (rest := []) (kc_M_digits (L := L ++ [nI 32] ++ [nI 101]) (v := M 7 i) hM hq (by (try simp only [List.length_append, List.length_cons, List.length_nil, List.length_replicate, zp_tt_len]); omega)) ⟨rfl, rfl⟩ zy_M_digits_ok zm_995 zm_997 zm_51 (ci := 7) rfl rfl (by decide) (by decide) cd_M_write_228 hM.1 rfl rfl (Nat.le_of_ble_eq_true rfl) (fun σ9 sz9 hq9 => ?_)
      obtain ⟨rfl, hF9, S, hq, hM⟩ := hq9
      have hF := hF.trans hF9
      obtain ⟨u, hu3, hu8⟩ := h8 c1
      have hz1 : zp_one zc_k2 3 (M 8 i) = [zc_k2 u] := by rw [hu8]; unfold zp_one; rw [zi_nI hu3 (by omega)]
      have hn8 : ¬ M 8 i = -1 := fun h9 => c1 (h7.mpr h9)
      refine ze_aload_n 1 cd_M_write_231 rfl rfl ?_
      refine ze_aload_n 1 cd_M_write_232 rfl rfl ?_
      refine ze_get zin_M (v := .ref (a + 9)) (ci := 7) rfl 14 (by decide) zm_736 rfl cd_M_write_233 hM.1 rfl ?_
      refine ze_iload_n 2 cd_M_write_236 rfl rfl ?_
      refine ze_iald (j := i) (f := M 8) cd_M_write_237 (hM.2 8 _ rfl) rfl (by omega) (by decide) ?_
      refine ze_top hu8 ?_
      refine ze_if_ne (tgt := 246) cd_M_write_238 (by decide) (fun c2 => ?_) (fun c2 => ?_)
      · skip
        have c2 := c2; rw [← nI_0] at c2
        have c2 : ¬ u = 0 := fun h9 => c2 (by rw [h9])
        refine ze_aload_n 1 cd_M_write_246 rfl rfl ?_
        refine ze_get zin_M (v := .ref (a + 9)) (ci := 7) rfl 14 (by decide) zm_736 rfl cd_M_write_247 hM.1 rfl ?_
        refine ze_iload_n 2 cd_M_write_250 rfl rfl ?_
        refine ze_iald (j := i) (f := M 8) cd_M_write_251 (hM.2 8 _ rfl) rfl (by omega) (by decide) ?_
        refine ze_top hu8 ?_
        refine ze_iconst (v := nI 1) cd_M_write_252 (by decide) ?_
        refine ze_icmp_ne (tgt := 261) cd_M_write_253 (by decide) (fun c3 => ?_) (fun c3 => ?_)
        · skip
          have c3 : ¬ u = 1 := fun h9 => c3 (by rw [h9])
          refine ze_bipush (v := nI 112) cd_M_write_261 (by decide) ?_
          refine ze_top (y := zc_k2 u) (by rcases (show u = 0 ∨ u = 1 ∨ u = 2 by omega) with rfl | rfl | rfl <;> first | rfl | omega) ?_
          exact ze_sub [0, 1, 2] rfl (f263 _ u (L ++ [nI 32] ++ [nI 101] ++ zp_num (M 7 i)) S _ (by (try simp only [List.length_append, List.length_cons, List.length_nil, List.length_replicate, zp_tt_len]); omega) (by rw [← hE, if_neg hn8, hz1]; simp only [List.append_assoc, List.cons_append, List.nil_append, List.append_nil]) hq hM hF)
        · skip
          have c3 : u = 1 := (nI_eq (by omega) (by omega)).mp c3
          refine ze_bipush (v := nI 109) cd_M_write_256 (by decide) ?_
          refine ze_goto (tgt := 263) cd_M_write_258 (by decide) ?_
          refine ze_top (y := zc_k2 u) (by rcases (show u = 0 ∨ u = 1 ∨ u = 2 by omega) with rfl | rfl | rfl <;> first | rfl | omega) ?_
          exact ze_sub [0, 1, 2] rfl (f263 _ u (L ++ [nI 32] ++ [nI 101] ++ zp_num (M 7 i)) S _ (by (try simp only [List.length_append, List.length_cons, List.length_nil, List.length_replicate, zp_tt_len]); omega) (by rw [← hE, if_neg hn8, hz1]; simp only [List.append_assoc, List.cons_append, List.nil_append, List.append_nil]) hq hM hF)
      · skip
        have c2 := c2; rw [← nI_0] at c2
        have c2 : u = 0 := (nI_eq (by omega) (by omega)).mp c2
        refine ze_bipush (v := nI 98) cd_M_write_241 (by decide) ?_
        refine ze_goto (tgt := 263) cd_M_write_243 (by decide) ?_
        refine ze_top (y := zc_k2 u) (by rcases (show u = 0 ∨ u = 1 ∨ u = 2 by omega) with rfl | rfl | rfl <;> first | rfl | omega) ?_
        exact ze_sub [0, 1, 2] rfl (f263 _ u (L ++ [nI 32] ++ [nI 101] ++ zp_num (M 7 i)) S _ (by (try simp only [List.length_append, List.length_cons, List.length_nil, List.length_replicate, zp_tt_len]); omega) (by rw [← hE, if_neg hn8, hz1]; simp only [List.append_assoc, List.cons_append, List.nil_append, List.append_nil]) hq hM hF)
  have f184 : ∀ (k : Nat) (L' : List Int32) (S' : Nat → Int32) (σ1 : zx_M), L'.length + 9 ≤ 6000 → L' ++ ((if M 6 i = nI 1 then [nI 63] else []) ++ ((if M 8 i = -1 then [] else nI 32 :: nI 101 :: (zp_num (M 7 i) ++ zp_one zc_k2 3 (M 8 i))) ++ [nI 10])) = X0 → zq S' L' → zmo g σ1 a th size wr ps lv ot ak fr L'.length (va_up M 20 S') → zfr σ σ1 a 22 → zE g "FindingAidModel" cb_M_write 3 (Option.none : Option Jvm.ClassFile.FieldType) false zr_M_write 0 0 (zPv (fun σ' sz' => sz' = sz ∧ zfr σ σ' a 22 ∧ ∃ S', zq S' X0 ∧ zmo g σ' a th size wr ps lv ot ak fr X0.length (va_up M 20 S'))) 184 [(2, .int (nI k)), (0, .ref a), (1, .int (nI i))] [] σ1 sz 0 0 := by
    intro k L S σ1  hl hE hq hM hF
    refine ze_aload_n 1 cd_M_write_184 rfl rfl ?_
    refine ze_get zin_M (v := .ref (a + 7)) (ci := 7) rfl 12 (by decide) zm_734 rfl cd_M_write_185 hM.1 rfl ?_
    refine ze_iload_n 2 cd_M_write_188 rfl rfl ?_
    refine ze_iald (j := i) (f := M 6) cd_M_write_189 (hM.2 6 _ rfl) rfl (by omega) (by decide) ?_
    refine ze_iconst (v := nI 1) cd_M_write_190 (by decide) ?_
    refine ze_icmp_ne (tgt := 200) cd_M_write_191 (by decide) (fun c4 => ?_) (fun c4 => ?_)
    · skip
      exact ze_sub [0, 1, 2] rfl (f200 _ (L) S _ (by (try simp only [List.length_append, List.length_cons, List.length_nil, List.length_replicate, zp_tt_len]); omega) (by rw [← hE, if_neg c4]; simp only [List.append_assoc, List.cons_append, List.nil_append, List.append_nil]) hq hM hF)
    · skip
      refine ze_aload_n 1 cd_M_write_194 rfl rfl ?_
      refine ze_bipush (v := nI 63) cd_M_write_195 (by decide) ?_
      refine ze_callVv (rm' := zr_M_put) (b := a) (As := [.int (nI 63)]) (rest := []) (kc_M_put (L := L) (ch := nI 63) hM hq (by (try simp only [List.length_append, List.length_cons, List.length_nil, List.length_replicate, zp_tt_len]); omega)) ⟨rfl, rfl⟩ zy_M_put_ok zm_991 zm_993 zm_50 (ci := 7) rfl rfl (by decide) (by decide) cd_M_write_197 hM.1 rfl rfl (Nat.le_of_ble_eq_true rfl) (fun σ9 sz9 hq9 => ?_)
      obtain ⟨rfl, hF9, S, hq, hM⟩ := hq9
      have hF := hF.trans hF9
      exact ze_sub [0, 1, 2] rfl (f200 _ (L ++ [nI 63]) S _ (by (try simp only [List.length_append, List.length_cons, List.length_nil, List.length_replicate, zp_tt_len]); omega) (by rw [← hE, if_pos c4]; simp only [List.append_assoc, List.cons_append, List.nil_append, List.append_nil]) hq hM hF)
  have f122 : ∀ (k : Nat) (L' : List Int32) (S' : Nat → Int32) (σ1 : zx_M), L'.length + 25 ≤ 6000 → L' ++ zp_tail (zmR M dp) i = X0 → zq S' L' → zmo g σ1 a th size wr ps lv ot ak fr L'.length (va_up M 20 S') → zfr σ σ1 a 22 → zE g "FindingAidModel" cb_M_write 3 (Option.none : Option Jvm.ClassFile.FieldType) false zr_M_write 0 0 (zPv (fun σ' sz' => sz' = sz ∧ zfr σ σ' a 22 ∧ ∃ S', zq S' X0 ∧ zmo g σ' a th size wr ps lv ot ak fr X0.length (va_up M 20 S'))) 122 [(2, .int (nI k)), (0, .ref a), (1, .int (nI i))] [] σ1 sz 0 0 := by
    intro k L S σ1  hl hE hq hM hF
    have hE2 : zp_tail (zmR M dp) i = (if M 4 i = -1 then [] else zp_date (zmR M dp) i) ++ ((if M 8 i = -1 then [] else nI 32 :: nI 101 :: (zp_num (M 7 i) ++ zp_one zc_k2 3 (M 8 i))) ++ [nI 10]) := rfl
    have hE3 : zp_date (zmR M dp) i = nI 32 :: nI 100 :: (zp_num (M 4 i) ++ ((if M 5 i = M 4 i then [] else nI 45 :: zp_num (M 5 i)) ++ (if M 6 i = nI 1 then [nI 63] else []))) := rfl
    refine ze_aload_n 1 cd_M_write_122 rfl rfl ?_
    refine ze_get zin_M (v := .ref (a + 5)) (ci := 7) rfl 10 (by decide) zm_732 rfl cd_M_write_123 hM.1 rfl ?_
    refine ze_iload_n 2 cd_M_write_126 rfl rfl ?_
    refine ze_iald (j := i) (f := M 4) cd_M_write_127 (hM.2 4 _ rfl) rfl (by omega) (by decide) ?_
    refine ze_if_lt (tgt := 200) cd_M_write_128 (by decide) (fun c5 => ?_) (fun c5 => ?_)
    · skip
      exact ze_sub [0, 1, 2] rfl (f200 _ L S _ (by (try simp only [List.length_append, List.length_cons, List.length_nil, List.length_replicate, zp_tt_len]); omega) (by rw [← hE, hE2, if_pos (h4.mp c5)]; simp only [List.append_assoc, List.cons_append, List.nil_append, List.append_nil]) hq hM hF)
    · skip
      refine ze_aload_n 1 cd_M_write_131 rfl rfl ?_
      refine ze_bipush (v := nI 32) cd_M_write_132 (by decide) ?_
      refine ze_callVv (rm' := zr_M_put) (b := a) (As := [.int (nI 32)]) (rest := []) (kc_M_put (L := L) (ch := nI 32) hM hq (by (try simp only [List.length_append, List.length_cons, List.length_nil, List.length_replicate, zp_tt_len]); omega)) ⟨rfl, rfl⟩ zy_M_put_ok zm_991 zm_993 zm_50 (ci := 7) rfl rfl (by decide) (by decide) cd_M_write_134 hM.1 rfl rfl (Nat.le_of_ble_eq_true rfl) (fun σ9 sz9 hq9 => ?_)
      obtain ⟨rfl, hF9, S, hq, hM⟩ := hq9
      have hF := hF.trans hF9
      refine ze_aload_n 1 cd_M_write_137 rfl rfl ?_
      refine ze_bipush (v := nI 100) cd_M_write_138 (by decide) ?_
      refine ze_callVv (rm' := zr_M_put) (b := a) (As := [.int (nI 100)]) (rest := []) (kc_M_put (L := L ++ [nI 32]) (ch := nI 100) hM hq (by (try simp only [List.length_append, List.length_cons, List.length_nil, List.length_replicate, zp_tt_len]); omega)) ⟨rfl, rfl⟩ zy_M_put_ok zm_991 zm_993 zm_50 (ci := 7) rfl rfl (by decide) (by decide) cd_M_write_140 hM.1 rfl rfl (Nat.le_of_ble_eq_true rfl) (fun σ9 sz9 hq9 => ?_)
      obtain ⟨rfl, hF9, S, hq, hM⟩ := hq9
      have hF := hF.trans hF9
      refine ze_aload_n 1 cd_M_write_143 rfl rfl ?_
      refine ze_aload_n 1 cd_M_write_144 rfl rfl ?_
      refine ze_get zin_M (v := .ref (a + 5)) (ci := 7) rfl 10 (by decide) zm_732 rfl cd_M_write_145 hM.1 rfl ?_
      refine ze_iload_n 2 cd_M_write_148 rfl rfl ?_
      refine ze_iald (j := i) (f := M 4) cd_M_write_149 (hM.2 4 _ rfl) rfl (by omega) (by decide) ?_
      refine ze_callVv (rm' := zr_M_digits) (b := a) (As := [.int (M 4 i)]) (rest := []) (kc_M_digits (L := L ++ [nI 32] ++ [nI 100]) (v := M 4 i) hM hq (by (try simp only [List.length_append, List.length_cons, List.length_nil, List.length_replicate, zp_tt_len]); omega)) ⟨rfl, rfl⟩ zy_M_digits_ok zm_995 zm_997 zm_51 (ci := 7) rfl rfl (by decide) (by decide) cd_M_write_150 hM.1 rfl rfl (Nat.le_of_ble_eq_true rfl) (fun σ9 sz9 hq9 => ?_)
      obtain ⟨rfl, hF9, S, hq, hM⟩ := hq9
      have hF := hF.trans hF9
      refine ze_aload_n 1 cd_M_write_153 rfl rfl ?_
      refine ze_get zin_M (v := .ref (a + 6)) (ci := 7) rfl 11 (by decide) zm_733 rfl cd_M_write_154 hM.1 rfl ?_
      refine ze_iload_n 2 cd_M_write_157 rfl rfl ?_
      refine ze_iald (j := i) (f := M 5) cd_M_write_158 (hM.2 5 _ rfl) rfl (by omega) (by decide) ?_
      refine ze_aload_n 1 cd_M_write_159 rfl rfl ?_
      refine ze_get zin_M (v := .ref (a + 5)) (ci := 7) rfl 10 (by decide) zm_732 rfl cd_M_write_160 hM.1 rfl ?_
      refine ze_iload_n 2 cd_M_write_163 rfl rfl ?_
      refine ze_iald (j := i) (f := M 4) cd_M_write_164 (hM.2 4 _ rfl) rfl (by omega) (by decide) ?_
      refine ze_icmp_eq (tgt := 184) cd_M_write_165 (by decide) (fun c6 => ?_) (fun c6 => ?_)
      · skip
        exact ze_sub [0, 1, 2] rfl (f184 _ (L ++ [nI 32] ++ [nI 100] ++ zp_num (M 4 i)) S _ (by (try simp only [List.length_append, List.length_cons, List.length_nil, List.length_replicate, zp_tt_len]); omega) (by rw [← hE, hE2, if_neg (fun h9 => c5 (h4.mpr h9)), hE3, if_pos c6]; simp only [List.append_assoc, List.cons_append, List.nil_append, List.append_nil]) hq hM hF)
      · skip
        refine ze_aload_n 1 cd_M_write_168 rfl rfl ?_
        refine ze_bipush (v := nI 45) cd_M_write_169 (by decide) ?_
        refine ze_callVv (rm' := zr_M_put) (b := a) (As := [.int (nI 45)]) (rest := []) (kc_M_put (L := L ++ [nI 32] ++ [nI 100] ++ zp_num (M 4 i)) (ch := nI 45) hM hq (by (try simp only [List.length_append, List.length_cons, List.length_nil, List.length_replicate, zp_tt_len]); omega)) ⟨rfl, rfl⟩ zy_M_put_ok zm_991 zm_993 zm_50 (ci := 7) rfl rfl (by decide) (by decide) cd_M_write_171 hM.1 rfl rfl (Nat.le_of_ble_eq_true rfl) (fun σ9 sz9 hq9 => ?_)
        obtain ⟨rfl, hF9, S, hq, hM⟩ := hq9
        have hF := hF.trans hF9
        refine ze_aload_n 1 cd_M_write_174 rfl rfl ?_
        refine ze_aload_n 1 cd_M_write_175 rfl rfl ?_
        refine ze_get zin_M (v := .ref (a + 6)) (ci := 7) rfl 11 (by decide) zm_733 rfl cd_M_write_176 hM.1 rfl ?_
        refine ze_iload_n 2 cd_M_write_179 rfl rfl ?_
        refine ze_iald (j := i) (f := M 5) cd_M_write_180 (hM.2 5 _ rfl) rfl (by omega) (by decide) ?_
        refine ze_callVv (rm' := zr_M_digits) (b := a) (As := [.int (M 5 i)]) (rest := []) (kc_M_digits (L := L ++ [nI 32] ++ [nI 100] ++ zp_num (M 4 i) ++ [nI 45]) (v := M 5 i) hM hq (by (try simp only [List.length_append, List.length_cons, List.length_nil, List.length_replicate, zp_tt_len]); omega)) ⟨rfl, rfl⟩ zy_M_digits_ok zm_995 zm_997 zm_51 (ci := 7) rfl rfl (by decide) (by decide) cd_M_write_181 hM.1 rfl rfl (Nat.le_of_ble_eq_true rfl) (fun σ9 sz9 hq9 => ?_)
        obtain ⟨rfl, hF9, S, hq, hM⟩ := hq9
        have hF := hF.trans hF9
        exact ze_sub [0, 1, 2] rfl (f184 _ (L ++ [nI 32] ++ [nI 100] ++ zp_num (M 4 i) ++ [nI 45] ++ zp_num (M 5 i)) S _ (by (try simp only [List.length_append, List.length_cons, List.length_nil, List.length_replicate, zp_tt_len]); omega) (by rw [← hE, hE2, if_neg (fun h9 => c5 (h4.mpr h9)), hE3, if_neg c6]; simp only [List.append_assoc, List.cons_append, List.nil_append, List.append_nil]) hq hM hF)
  have loop91 : ∀ (L0 : List Int32), L0.length + 45 ≤ 6000 → L0 ++ (zp_tt (zmR M dp) i 0 t ++ zp_tail (zmR M dp) i) = X0 → ∀ (kk k : Nat) (S' : Nat → Int32) (σ1 : zx_M), k + kk = t → zq S' (L0 ++ zp_tt (zmR M dp) i 0 k) → zmo g σ1 a th size wr ps lv ot ak fr (L0 ++ zp_tt (zmR M dp) i 0 k).length (va_up M 20 S') → zfr σ σ1 a 22 → zE g "FindingAidModel" cb_M_write 3 (Option.none : Option Jvm.ClassFile.FieldType) false zr_M_write 0 0 (zPv (fun σ' sz' => sz' = sz ∧ zfr σ σ' a 22 ∧ ∃ S', zq S' X0 ∧ zmo g σ' a th size wr ps lv ot ak fr X0.length (va_up M 20 S'))) 91 [(2, .int (nI k)), (0, .ref a), (1, .int (nI i))] [] σ1 sz 0 0 := by
    intro L0 hl hE kk
    induction kk with
    | zero =>
      intro k S σ1 hk hq hM hF
      refine ze_iload_n 0 cd_M_write_91 rfl rfl ?_
      refine ze_aload_n 1 cd_M_write_92 rfl rfl ?_
      refine ze_get zin_M (v := .ref (a + 10)) (ci := 7) rfl 15 (by decide) zm_737 rfl cd_M_write_93 hM.1 rfl ?_
      refine ze_iload_n 2 cd_M_write_96 rfl rfl ?_
      refine ze_iald (j := i) (f := M 9) cd_M_write_97 (hM.2 9 _ rfl) rfl (by omega) (by decide) ?_
      refine ze_top ht ?_
      refine ze_icmp_ge (tgt := 122) cd_M_write_98 (by decide) (fun c8 => ?_) (fun c8 => ?_)
      · skip
        have c8 : t ≤ k := (nI_leI (by omega) (by omega)).mp c8
        obtain rfl : k = t := by omega
        exact ze_sub [0, 1, 2] rfl (f122 _ (L0 ++ zp_tt (zmR M dp) i 0 k) S _ (by (try simp only [List.length_append, List.length_cons, List.length_nil, List.length_replicate, zp_tt_len]); omega) (by rw [← hE]; simp only [List.append_assoc, List.cons_append, List.nil_append, List.append_nil]) hq hM hF)
      · skip
        have c8 : ¬ t ≤ k := fun h9 => c8 ((nI_leI (by omega) (by omega)).mpr h9)
        exfalso; omega
    | succ kk ih =>
      intro k S σ1 hk hq hM hF
      refine ze_iload_n 0 cd_M_write_91 rfl rfl ?_
      refine ze_aload_n 1 cd_M_write_92 rfl rfl ?_
      refine ze_get zin_M (v := .ref (a + 10)) (ci := 7) rfl 15 (by decide) zm_737 rfl cd_M_write_93 hM.1 rfl ?_
      refine ze_iload_n 2 cd_M_write_96 rfl rfl ?_
      refine ze_iald (j := i) (f := M 9) cd_M_write_97 (hM.2 9 _ rfl) rfl (by omega) (by decide) ?_
      refine ze_top ht ?_
      refine ze_icmp_ge (tgt := 122) cd_M_write_98 (by decide) (fun c10 => ?_) (fun c10 => ?_)
      · skip
        have c10 : t ≤ k := (nI_leI (by omega) (by omega)).mp c10
        exfalso; omega
      · skip
        have c10 : ¬ t ≤ k := fun h9 => c10 ((nI_leI (by omega) (by omega)).mpr h9)
        refine ze_aload_n 1 cd_M_write_101 rfl rfl ?_
        refine ze_aload_n 1 cd_M_write_102 rfl rfl ?_
        refine ze_get zin_M (v := .ref (a + 11)) (ci := 7) rfl 16 (by decide) zm_738 rfl cd_M_write_103 hM.1 rfl ?_
        refine ze_bipush (v := nI 16) cd_M_write_106 (by decide) ?_
        refine ze_iload_n 2 cd_M_write_108 rfl rfl ?_
        refine ze_imul cd_M_write_109 ?_
        refine ze_top (y := nI (16 * i)) (pk_mul _ _) ?_
        refine ze_iload_n 0 cd_M_write_110 rfl rfl ?_
        refine ze_iadd cd_M_write_111 ?_
        refine ze_top (y := nI ((16 * i) + k)) (nI_add _ _) ?_
        refine ze_bald (j := (16 * i) + k) (f := M 10) cd_M_write_112 (hM.2 10 _ rfl) rfl (by omega) (by decide) ?_
        refine ze_callVv (rm' := zr_M_put) (b := a) (As := [.int (M 10 ((16 * i) + k))]) (rest := []) (kc_M_put (L := L0 ++ zp_tt (zmR M dp) i 0 k) (ch := M 10 ((16 * i) + k)) hM hq (by (try simp only [List.length_append, List.length_cons, List.length_nil, List.length_replicate, zp_tt_len]); omega)) ⟨rfl, rfl⟩ zy_M_put_ok zm_991 zm_993 zm_50 (ci := 7) rfl rfl (by decide) (by decide) cd_M_write_113 hM.1 rfl rfl (Nat.le_of_ble_eq_true rfl) (fun σ9 sz9 hq9 => ?_)
        obtain ⟨rfl, hF9, S, hq, hM⟩ := hq9
        have hF := hF.trans hF9
        refine ze_iinc (v := nI (k + 1)) (lv' := [(2, .int (nI (k + 1))), (0, .ref a), (1, .int (nI i))]) 0 cd_M_write_116 rfl (nI_add _ 1) (by decide) rfl ?_
        refine ze_goto (tgt := 91) cd_M_write_119 (by decide) ?_
        have hsn : L0 ++ zp_tt (zmR M dp) i 0 k ++ [M 10 (16 * i + k)] = L0 ++ zp_tt (zmR M dp) i 0 (k + 1) := by rw [zp_tt_snoc, List.append_assoc, Nat.zero_add, Nat.mul_comm i 16]; rfl
        rw [hsn] at hM hq
        exact ze_sub [0, 1, 2] rfl (ih (k + 1) S _ (by omega) hq hM hF)
  have f70 : ∀ (k : Nat) (L' : List Int32) (S' : Nat → Int32) (σ1 : zx_M), L'.length + 51 ≤ 6000 → L' ++ (zc_k1 kd :: (zp_num (M 2 i) ++ (nI 32 :: (zp_tt (zmR M dp) i 0 t ++ zp_tail (zmR M dp) i)))) = X0 → zq S' L' → zmo g σ1 a th size wr ps lv ot ak fr L'.length (va_up M 20 S') → zfr σ σ1 a 22 → zE g "FindingAidModel" cb_M_write 3 (Option.none : Option Jvm.ClassFile.FieldType) false zr_M_write 0 0 (zPv (fun σ' sz' => sz' = sz ∧ zfr σ σ' a 22 ∧ ∃ S', zq S' X0 ∧ zmo g σ' a th size wr ps lv ot ak fr X0.length (va_up M 20 S'))) 70 [(2, .int (nI k)), (0, .ref a), (1, .int (nI i))] [.int (zc_k1 kd), .ref a] σ1 sz 0 0 := by
    intro k L S σ1 hl hE hq hM hF
    refine ze_callVv (rm' := zr_M_put) (b := a) (As := [.int (zc_k1 kd)]) (rest := []) (kc_M_put (L := L) (ch := zc_k1 kd) hM hq (by (try simp only [List.length_append, List.length_cons, List.length_nil, List.length_replicate, zp_tt_len]); omega)) ⟨rfl, rfl⟩ zy_M_put_ok zm_991 zm_993 zm_50 (ci := 7) rfl rfl (by decide) (by decide) cd_M_write_70 hM.1 rfl rfl (Nat.le_of_ble_eq_true rfl) (fun σ9 sz9 hq9 => ?_)
    obtain ⟨rfl, hF9, S, hq, hM⟩ := hq9
    have hF := hF.trans hF9
    refine ze_aload_n 1 cd_M_write_73 rfl rfl ?_
    refine ze_aload_n 1 cd_M_write_74 rfl rfl ?_
    refine ze_get zin_M (v := .ref (a + 3)) (ci := 7) rfl 8 (by decide) zm_730 rfl cd_M_write_75 hM.1 rfl ?_
    refine ze_iload_n 2 cd_M_write_78 rfl rfl ?_
    refine ze_iald (j := i) (f := M 2) cd_M_write_79 (hM.2 2 _ rfl) rfl (by omega) (by decide) ?_
    refine ze_callVv (rm' := zr_M_digits) (b := a) (As := [.int (M 2 i)]) (rest := []) (kc_M_digits (L := L ++ [zc_k1 kd]) (v := M 2 i) hM hq (by (try simp only [List.length_append, List.length_cons, List.length_nil, List.length_replicate, zp_tt_len]); omega)) ⟨rfl, rfl⟩ zy_M_digits_ok zm_995 zm_997 zm_51 (ci := 7) rfl rfl (by decide) (by decide) cd_M_write_80 hM.1 rfl rfl (Nat.le_of_ble_eq_true rfl) (fun σ9 sz9 hq9 => ?_)
    obtain ⟨rfl, hF9, S, hq, hM⟩ := hq9
    have hF := hF.trans hF9
    refine ze_aload_n 1 cd_M_write_83 rfl rfl ?_
    refine ze_bipush (v := nI 32) cd_M_write_84 (by decide) ?_
    refine ze_callVv (rm' := zr_M_put) (b := a) (As := [.int (nI 32)]) (rest := []) (kc_M_put (L := L ++ [zc_k1 kd] ++ zp_num (M 2 i)) (ch := nI 32) hM hq (by (try simp only [List.length_append, List.length_cons, List.length_nil, List.length_replicate, zp_tt_len]); omega)) ⟨rfl, rfl⟩ zy_M_put_ok zm_991 zm_993 zm_50 (ci := 7) rfl rfl (by decide) (by decide) cd_M_write_86 hM.1 rfl rfl (Nat.le_of_ble_eq_true rfl) (fun σ9 sz9 hq9 => ?_)
    obtain ⟨rfl, hF9, S, hq, hM⟩ := hq9
    have hF := hF.trans hF9
    refine ze_iconst (v := nI 0) cd_M_write_89 (by decide) ?_
    refine ze_istore_n (lv' := [(2, .int (nI 0)), (0, .ref a), (1, .int (nI i))]) cd_M_write_90 rfl (by decide) rfl ?_
    exact ze_sub [0, 1, 2] rfl (loop91 (L ++ [zc_k1 kd] ++ zp_num (M 2 i) ++ [nI 32]) (by (try simp only [List.length_append, List.length_cons, List.length_nil, List.length_replicate, zp_tt_len]); omega) (by rw [← hE]; simp only [List.append_assoc, List.cons_append, List.nil_append, List.append_nil]) t 0 S _ (by omega) (by rw [show zp_tt (zmR M dp) i 0 0 = [] from rfl, List.append_nil]; exact hq) (by rw [show zp_tt (zmR M dp) i 0 0 = [] from rfl, List.append_nil]; exact hM) hF)
  have loop2 : ∀ (kk k : Nat) (S' : Nat → Int32) (σ1 : zx_M), k + kk = dp i → zq S' (L ++ List.replicate k (nI 43)) → zmo g σ1 a th size wr ps lv ot ak fr (L ++ List.replicate k (nI 43)).length (va_up M 20 S') → zfr σ σ1 a 22 → zE g "FindingAidModel" cb_M_write 3 (Option.none : Option Jvm.ClassFile.FieldType) false zr_M_write 0 0 (zPv (fun σ' sz' => sz' = sz ∧ zfr σ σ' a 22 ∧ ∃ S', zq S' X0 ∧ zmo g σ' a th size wr ps lv ot ak fr X0.length (va_up M 20 S'))) 2 [(2, .int (nI k)), (0, .ref a), (1, .int (nI i))] [] σ1 sz 0 0 := by
    have hd8 := (hfo i hi).2.1
    intro kk
    induction kk with
    | zero =>
      intro k S σ1 hk hq hM hF
      refine ze_iload_n 0 cd_M_write_2 rfl rfl ?_
      refine ze_aload_n 1 cd_M_write_3 rfl rfl ?_
      refine ze_iload_n 2 cd_M_write_4 rfl rfl ?_
      refine ze_callVp (rm' := zr_M_depth) (b := a) (As := [.int (nI i)]) (rest := [.int (nI k)]) (kc_M_depth (i := i) hM hfo hi) ⟨rfl, rfl⟩ zy_M_depth_ok zm_837 zm_839 zm_31 (ci := 7) rfl rfl (by decide) (by decide) cd_M_write_5 hM.1 rfl rfl (Nat.le_of_ble_eq_true rfl) ?_
      refine ze_icmp_ge (tgt := 23) cd_M_write_8 (by decide) (fun c12 => ?_) (fun c12 => ?_)
      · skip
        have c12 : (dp i) ≤ k := (nI_leI (by omega) (by omega)).mp c12
        refine ze_aload_n 1 cd_M_write_23 rfl rfl ?_
        refine ze_aload_n 1 cd_M_write_24 rfl rfl ?_
        refine ze_get zin_M (v := .ref (a + 2)) (ci := 7) rfl 7 (by decide) zm_729 rfl cd_M_write_25 hM.1 rfl ?_
        refine ze_iload_n 2 cd_M_write_28 rfl rfl ?_
        refine ze_iald (j := i) (f := M 1) cd_M_write_29 (hM.2 1 _ rfl) rfl (by omega) (by decide) ?_
        refine ze_top hkd ?_
        refine ze_if_ne (tgt := 38) cd_M_write_30 (by decide) (fun c13 => ?_) (fun c13 => ?_)
        · skip
          have c13 := c13; rw [← nI_0] at c13
          have c13 : ¬ kd = 0 := fun h9 => c13 (by rw [h9])
          refine ze_aload_n 1 cd_M_write_38 rfl rfl ?_
          refine ze_get zin_M (v := .ref (a + 2)) (ci := 7) rfl 7 (by decide) zm_729 rfl cd_M_write_39 hM.1 rfl ?_
          refine ze_iload_n 2 cd_M_write_42 rfl rfl ?_
          refine ze_iald (j := i) (f := M 1) cd_M_write_43 (hM.2 1 _ rfl) rfl (by omega) (by decide) ?_
          refine ze_top hkd ?_
          refine ze_iconst (v := nI 1) cd_M_write_44 (by decide) ?_
          refine ze_icmp_ne (tgt := 53) cd_M_write_45 (by decide) (fun c14 => ?_) (fun c14 => ?_)
          · skip
            have c14 : ¬ kd = 1 := fun h9 => c14 (by rw [h9])
            refine ze_aload_n 1 cd_M_write_53 rfl rfl ?_
            refine ze_get zin_M (v := .ref (a + 2)) (ci := 7) rfl 7 (by decide) zm_729 rfl cd_M_write_54 hM.1 rfl ?_
            refine ze_iload_n 2 cd_M_write_57 rfl rfl ?_
            refine ze_iald (j := i) (f := M 1) cd_M_write_58 (hM.2 1 _ rfl) rfl (by omega) (by decide) ?_
            refine ze_top hkd ?_
            refine ze_iconst (v := nI 2) cd_M_write_59 (by decide) ?_
            refine ze_icmp_ne (tgt := 68) cd_M_write_60 (by decide) (fun c15 => ?_) (fun c15 => ?_)
            · skip
              have c15 : ¬ kd = 2 := fun h9 => c15 (by rw [h9])
              refine ze_bipush (v := nI 105) cd_M_write_68 (by decide) ?_
              refine ze_top (y := zc_k1 kd) (by rcases (show kd = 0 ∨ kd = 1 ∨ kd = 2 ∨ kd = 3 by omega) with rfl | rfl | rfl | rfl <;> first | rfl | omega) ?_
              have hk9 : k = dp i := by omega
              exact ze_sub [0, 1, 2] rfl (f70 _ (L ++ List.replicate k (nI 43)) S _ (by (try simp only [List.length_append, List.length_cons, List.length_nil, List.length_replicate, zp_tt_len]); omega) (by rw [← hX0, hk9]; unfold zp_line; rw [show zp_one zc_k1 4 (zmR M dp 0 i) = [zc_k1 kd] from by (rw [show zmR M dp 0 i = nI kd from hkd]; unfold zp_one; rw [zi_nI hkd4 (by omega)])]; simp only [List.append_assoc, List.cons_append, List.nil_append, List.append_nil]; rfl) hq hM hF)
            · skip
              have c15 : kd = 2 := (nI_eq (by omega) (by omega)).mp c15
              refine ze_bipush (v := nI 117) cd_M_write_63 (by decide) ?_
              refine ze_goto (tgt := 70) cd_M_write_65 (by decide) ?_
              refine ze_top (y := zc_k1 kd) (by rcases (show kd = 0 ∨ kd = 1 ∨ kd = 2 ∨ kd = 3 by omega) with rfl | rfl | rfl | rfl <;> first | rfl | omega) ?_
              have hk9 : k = dp i := by omega
              exact ze_sub [0, 1, 2] rfl (f70 _ (L ++ List.replicate k (nI 43)) S _ (by (try simp only [List.length_append, List.length_cons, List.length_nil, List.length_replicate, zp_tt_len]); omega) (by rw [← hX0, hk9]; unfold zp_line; rw [show zp_one zc_k1 4 (zmR M dp 0 i) = [zc_k1 kd] from by (rw [show zmR M dp 0 i = nI kd from hkd]; unfold zp_one; rw [zi_nI hkd4 (by omega)])]; simp only [List.append_assoc, List.cons_append, List.nil_append, List.append_nil]; rfl) hq hM hF)
          · skip
            have c14 : kd = 1 := (nI_eq (by omega) (by omega)).mp c14
            refine ze_bipush (v := nI 115) cd_M_write_48 (by decide) ?_
            refine ze_goto (tgt := 70) cd_M_write_50 (by decide) ?_
            refine ze_top (y := zc_k1 kd) (by rcases (show kd = 0 ∨ kd = 1 ∨ kd = 2 ∨ kd = 3 by omega) with rfl | rfl | rfl | rfl <;> first | rfl | omega) ?_
            have hk9 : k = dp i := by omega
            exact ze_sub [0, 1, 2] rfl (f70 _ (L ++ List.replicate k (nI 43)) S _ (by (try simp only [List.length_append, List.length_cons, List.length_nil, List.length_replicate, zp_tt_len]); omega) (by rw [← hX0, hk9]; unfold zp_line; rw [show zp_one zc_k1 4 (zmR M dp 0 i) = [zc_k1 kd] from by (rw [show zmR M dp 0 i = nI kd from hkd]; unfold zp_one; rw [zi_nI hkd4 (by omega)])]; simp only [List.append_assoc, List.cons_append, List.nil_append, List.append_nil]; rfl) hq hM hF)
        · skip
          have c13 := c13; rw [← nI_0] at c13
          have c13 : kd = 0 := (nI_eq (by omega) (by omega)).mp c13
          refine ze_bipush (v := nI 102) cd_M_write_33 (by decide) ?_
          refine ze_goto (tgt := 70) cd_M_write_35 (by decide) ?_
          refine ze_top (y := zc_k1 kd) (by rcases (show kd = 0 ∨ kd = 1 ∨ kd = 2 ∨ kd = 3 by omega) with rfl | rfl | rfl | rfl <;> first | rfl | omega) ?_
          have hk9 : k = dp i := by omega
          exact ze_sub [0, 1, 2] rfl (f70 _ (L ++ List.replicate k (nI 43)) S _ (by (try simp only [List.length_append, List.length_cons, List.length_nil, List.length_replicate, zp_tt_len]); omega) (by rw [← hX0, hk9]; unfold zp_line; rw [show zp_one zc_k1 4 (zmR M dp 0 i) = [zc_k1 kd] from by (rw [show zmR M dp 0 i = nI kd from hkd]; unfold zp_one; rw [zi_nI hkd4 (by omega)])]; simp only [List.append_assoc, List.cons_append, List.nil_append, List.append_nil]; rfl) hq hM hF)
      · skip
        have c12 : ¬ (dp i) ≤ k := fun h9 => c12 ((nI_leI (by omega) (by omega)).mpr h9)
        exfalso; omega
    | succ kk ih =>
      intro k S σ1 hk hq hM hF
      refine ze_iload_n 0 cd_M_write_2 rfl rfl ?_
      refine ze_aload_n 1 cd_M_write_3 rfl rfl ?_
      refine ze_iload_n 2 cd_M_write_4 rfl rfl ?_
      refine ze_callVp (rm' := zr_M_depth) (b := a) (As := [.int (nI i)]) (rest := [.int (nI k)]) (kc_M_depth (i := i) hM hfo hi) ⟨rfl, rfl⟩ zy_M_depth_ok zm_837 zm_839 zm_31 (ci := 7) rfl rfl (by decide) (by decide) cd_M_write_5 hM.1 rfl rfl (Nat.le_of_ble_eq_true rfl) ?_
      refine ze_icmp_ge (tgt := 23) cd_M_write_8 (by decide) (fun c17 => ?_) (fun c17 => ?_)
      · skip
        have c17 : (dp i) ≤ k := (nI_leI (by omega) (by omega)).mp c17
        exfalso; omega
      · skip
        have c17 : ¬ (dp i) ≤ k := fun h9 => c17 ((nI_leI (by omega) (by omega)).mpr h9)
        refine ze_aload_n 1 cd_M_write_11 rfl rfl ?_
        refine ze_bipush (v := nI 43) cd_M_write_12 (by decide) ?_
        refine ze_callVv (rm' := zr_M_put) (b := a) (As := [.int (nI 43)]) (rest := []) (kc_M_put (L := L ++ List.replicate k (nI 43)) (ch := nI 43) hM hq (by (try simp only [List.length_append, List.length_cons, List.length_nil, List.length_replicate, zp_tt_len]); omega)) ⟨rfl, rfl⟩ zy_M_put_ok zm_991 zm_993 zm_50 (ci := 7) rfl rfl (by decide) (by decide) cd_M_write_14 hM.1 rfl rfl (Nat.le_of_ble_eq_true rfl) (fun σ9 sz9 hq9 => ?_)
        obtain ⟨rfl, hF9, S, hq, hM⟩ := hq9
        have hF := hF.trans hF9
        refine ze_iinc (v := nI (k + 1)) (lv' := [(2, .int (nI (k + 1))), (0, .ref a), (1, .int (nI i))]) 0 cd_M_write_17 rfl (nI_add _ 1) (by decide) rfl ?_
        refine ze_goto (tgt := 2) cd_M_write_20 (by decide) ?_
        rw [List.append_assoc, ← List.replicate_succ'] at hM hq
        exact ze_sub [0, 1, 2] rfl (ih (k + 1) S _ (by omega) hq hM hF)
  refine zM_of (lv := [(0, .ref a), (1, .int (nI i))]) (ini := false) (by decide) rfl (by decide) (Nat.le_of_ble_eq_true rfl) rfl ?_
  refine ze_iconst (v := nI 0) cd_M_write_0 (by decide) ?_
  refine ze_istore_n (lv' := [(2, .int (nI 0)), (0, .ref a), (1, .int (nI i))]) cd_M_write_1 rfl (by decide) rfl ?_
  exact ze_sub [0, 1, 2] rfl (loop2 (dp i) 0 S _ (by omega) (by rw [List.replicate_zero, List.append_nil]; exact hq) (by rw [List.replicate_zero, List.append_nil]; exact hM) hF)
