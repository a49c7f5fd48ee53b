/-! PAGE: what was printed, as a list -/
def zput (L : List Int32) (c : Int32) : List Int32 := if L.length < 5000 then L ++ [c] else L
def zputs (L : List Int32) (cs : List Int32) : List Int32 := cs.foldl zput L
theorem zputs_app (L a b : List Int32) : zputs L (a ++ b) = zputs (zputs L a) b := by simp [zputs]
theorem zputs_nil (L : List Int32) : zputs L [] = L := rfl
theorem zputs_one (L : List Int32) (c : Int32) : zputs L [c] = zput L c := rfl
theorem zputs_cons (L : List Int32) (c : Int32) (b : List Int32) : zputs L (c :: b) = zputs (zput L c) b := rfl
def zpl (S : Nat → Int32) (L : List Int32) : Prop := (∀ j, j < L.length → S j = L.getD j 0) ∧ L.length ≤ 5000
abbrev zpo (g : zx_G) (σ : zx_M) (p : Nat) (S : Nat → Int32) (L : List Int32) : Prop := zob g σ p 3 [.ref (p + 1), .int (nI L.length)] [(0, 5000)] (fun _ => S)
theorem zpl_put {S : Nat → Int32} {L : List Int32} (h : zpl S L) (hl : L.length < 5000) (c : Int32) : zpl (upd S L.length c) (zput L c) := by
  unfold zput
  rw [if_pos hl]
  refine ⟨fun j hj => ?_, by simp; omega⟩
  simp only [List.length_append, List.length_singleton] at hj
  by_cases h1 : j = L.length
  · subst h1; simp [upd]
  · have h2 : j < L.length := by omega
    simp only [upd, if_neg h1]
    rw [h.1 j h2]
    simp [List.getD, List.getElem?_append_left h2]
theorem zput_len {L : List Int32} (hl : L.length < 5000) (c : Int32) : (zput L c).length = L.length + 1 := by unfold zput; rw [if_pos hl]; simp
abbrev zr_P_put : Room := { frames := 0, cells := 0, slots := 0, locals := 0 }
set_option maxRecDepth 100000 in
set_option maxHeartbeats 4000000 in
theorem kc_P_put {g : zx_G} {σ : zx_M} {sz p : Nat} {S : Nat → Int32} {L : List Int32} {ch : Int32} (hP : zpo g σ p S L) (hL : zpl S L) : zM g cy_P_put cb_P_put 2 none zr_P_put 0 0 [.ref p, .int ch] σ sz (zPv (fun σ' sz' => sz' = sz ∧ zfr σ σ' p 2 ∧ ∃ S', zpo g σ' p S' (zput L ch) ∧ zpl S' (zput L ch))) := by
  have hl5 := hL.2
  have hF : zfr σ σ p 2 := zfr.rf
  refine zM_of (lv := [(0, .ref p), (1, .int ch)]) (ini := false) (by decide) rfl (by decide) (Nat.le_of_ble_eq_true rfl) rfl ?_
  refine ze_aload_n 0 cd_P_put_0 rfl rfl ?_
  refine ze_get zin_P (v := .int (nI L.length)) (ci := 3) rfl 1 (by decide) zm_263 rfl cd_P_put_1 hP.1 rfl ?_
  refine ze_aload_n 0 cd_P_put_4 rfl rfl ?_
  refine ze_get zin_P (v := .ref (p + 1)) (ci := 3) rfl 0 (by decide) zm_261 rfl cd_P_put_5 hP.1 rfl ?_
  refine ze_alen 0 rfl cd_P_put_8 (hP.2 0 _ rfl) ?_
  refine ze_icmp_ge (tgt := 32) cd_P_put_9 (by decide) (fun c1 => ?_) (fun c1 => ?_)
  · skip
    have c1 : 5000 ≤ L.length := (nI_leI (by omega) (by omega)).mp c1
    refine ze_vret cd_P_put_32 rfl (by decide) (by decide) ⟨rfl, rfl, hF, ?_⟩
    first | exact ⟨S, by rw [zput, if_neg (by omega)]; exact hP, by rw [zput, if_neg (by omega)]; exact hL⟩ | exact ⟨upd S L.length ch, by rw [zpo, zput_len (by omega)]; exact hP.rows (fun k hk => by obtain rfl : k = 0 := (by simp at hk; omega); rfl), zpl_put hL (by omega) ch⟩
  · skip
    have c1 : ¬ 5000 ≤ L.length := fun h9 => c1 ((nI_leI (by omega) (by omega)).mpr h9)
    refine ze_aload_n 0 cd_P_put_12 rfl rfl ?_
    refine ze_get zin_P (v := .ref (p + 1)) (ci := 3) rfl 0 (by decide) zm_261 rfl cd_P_put_13 hP.1 rfl ?_
    refine ze_aload_n 0 cd_P_put_16 rfl rfl ?_
    refine ze_get zin_P (v := .int (nI L.length)) (ci := 3) rfl 1 (by decide) zm_263 rfl cd_P_put_17 hP.1 rfl ?_
    refine ze_iload_n 1 cd_P_put_20 rfl rfl ?_
    refine ze_iast (j := L.length) cd_P_put_21 (hP.2 0 _ rfl) rfl (by omega) (by decide) ?_
    have hP := hP.ar 0 0 5000 rfl (b := p + 1) (f := upd ((fun _ => S) 0) L.length ch) (by omega)
    have hF := hF.up (a := p + 1) (e := .inl (g.2.2.2.1 0, 5000, .inl (upd ((fun _ => S) 0) L.length ch))) (by omega) (by omega)
    refine ze_aload_n 0 cd_P_put_22 rfl rfl ?_
    refine ze_dup cd_P_put_23 rfl ?_
    refine ze_get zin_P (v := .int (nI L.length)) (ci := 3) rfl 1 (by decide) zm_263 rfl cd_P_put_24 hP.1 rfl ?_
    refine ze_iconst (v := nI 1) cd_P_put_27 (by decide) ?_
    refine ze_iadd cd_P_put_28 ?_
    refine ze_top (y := nI (L.length + 1)) (nI_add _ _) ?_
    refine ze_put zin_P zy_P zt_P zn_P (ci := 3) rfl 1 (by decide) zm_263 rfl (Or.inl rfl) cd_P_put_29 hP.1 rfl rfl (Nat.le_of_ble_eq_true rfl) (fs' := [.ref (p + 1), .int (nI (L.length + 1))]) rfl ?_
    have hP := hP.put (fs' := [.ref (p + 1), .int (nI (L.length + 1))])
    have hF := hF.up (a := p) (e := .inr (3, [.ref (p + 1), .int (nI (L.length + 1))])) (by omega) (by omega)
    refine ze_vret cd_P_put_32 rfl (by decide) (by decide) ⟨rfl, rfl, hF, ?_⟩
    first | exact ⟨S, by rw [zput, if_neg (by omega)]; exact hP, by rw [zput, if_neg (by omega)]; exact hL⟩ | exact ⟨upd S L.length ch, by rw [zpo, zput_len (by omega)]; exact hP.rows (fun k hk => by obtain rfl : k = 0 := (by simp at hk; omega); rfl), zpl_put hL (by omega) ch⟩
def zp_one (f : Nat → Int32) (len : Nat) (k : Int32) : List Int32 := match zi len k with
  | none => []
  | some j => [f j]
abbrev zr_P_putOneOf : Room := { frames := 1, cells := 0, slots := 0, locals := 21 }
set_option maxRecDepth 100000 in
set_option maxHeartbeats 4000000 in
theorem kc_P_putOneOf {g : zx_G} {σ : zx_M} {sz : Nat} {p : Nat} {S : Nat → Int32} {L : List Int32} {q len : Nat} {nm : String} {f : Nat → Int32} {k : Int32} (hP : zpo g σ p S L) (hL : zpl S L) (hq : zc_st[q]? = some ("FindingAid", nm, len, f)) (hlen : len < 2 ^ 31) : zM g cy_P_putOneOf cb_P_putOneOf 3 (Option.none : Option Jvm.ClassFile.FieldType) zr_P_putOneOf 0 0 [.ref p, .ref (g.2.2.2.2 q), .int k] σ sz (zPv (fun σ' sz' => sz' = sz ∧ zfr σ σ' p 2 ∧ ∃ S', zpo g σ' p S' (zputs L (zp_one f len k)) ∧ zpl S' (zputs L (zp_one f len k)))) := by
  have hF : zfr σ σ p 2 := zfr.rf
  refine zM_of (lv := [(0, .ref p), (1, .ref (g.2.2.2.2 q)), (2, .int k)]) (ini := false) (by decide) rfl (by decide) (Nat.le_of_ble_eq_true rfl) rfl ?_
  refine ze_iload_n 2 cd_P_putOneOf_0 rfl rfl ?_
  refine ze_if_lt (tgt := 17) cd_P_putOneOf_1 (by decide) (fun c1 => ?_) (fun c1 => ?_)
  · skip
    refine ze_vret cd_P_putOneOf_17 rfl (by decide) (by decide) ⟨rfl, rfl, hF, ?_⟩
    first | exact ⟨S, by rw [zp_one, zi_ltz c1]; exact hP, by rw [zp_one, zi_ltz c1]; exact hL⟩ | exact ⟨S, by rw [zp_one, zi_hi c2]; exact hP, by rw [zp_one, zi_hi c2]; exact hL⟩ | exact ⟨S9, by rw [zp_one, zi_nI hj (by omega)]; exact hP, by rw [zp_one, zi_nI hj (by omega)]; exact hL⟩
  · skip
    refine ze_iload_n 2 cd_P_putOneOf_4 rfl rfl ?_
    refine ze_aload_n 1 cd_P_putOneOf_5 rfl rfl ?_
    refine ze_tlen q hq cd_P_putOneOf_6 ?_
    refine ze_icmp_ge (tgt := 17) cd_P_putOneOf_7 (by decide) (fun c2 => ?_) (fun c2 => ?_)
    · skip
      have c2 : ¬ k < (nI len) := Int32.not_lt.mpr c2
      refine ze_vret cd_P_putOneOf_17 rfl (by decide) (by decide) ⟨rfl, rfl, hF, ?_⟩
      first | exact ⟨S, by rw [zp_one, zi_ltz c1]; exact hP, by rw [zp_one, zi_ltz c1]; exact hL⟩ | exact ⟨S, by rw [zp_one, zi_hi c2]; exact hP, by rw [zp_one, zi_hi c2]; exact hL⟩ | exact ⟨S9, by rw [zp_one, zi_nI hj (by omega)]; exact hP, by rw [zp_one, zi_nI hj (by omega)]; exact hL⟩
    · skip
      have c2 : k < (nI len) := Int32.not_le.mp c2
      obtain ⟨j, hj, rfl⟩ : ∃ j, j < len ∧ k = nI j := ⟨_, (zi_some (by omega) (zi_ok2 c1 c2)).1, (zi_some (by omega) (zi_ok2 c1 c2)).2⟩
      refine ze_aload_n 0 cd_P_putOneOf_10 rfl rfl ?_
      refine ze_aload_n 1 cd_P_putOneOf_11 rfl rfl ?_
      refine ze_iload_n 2 cd_P_putOneOf_12 rfl rfl ?_
      refine ze_tc q hq (j := j) cd_P_putOneOf_13 rfl (by omega) hlen ?_
      refine ze_callVv (rm' := zr_P_put) (b := p) (As := [.int (f j)]) (rest := []) (kc_P_put hP hL) ⟨rfl, rfl⟩ zy_P_put_ok zm_489 zm_491 zm_5 (ci := 3) rfl rfl (by decide) (by decide) cd_P_putOneOf_14 hP.1 rfl rfl (Nat.le_of_ble_eq_true rfl) (fun σ9 sz9 hq9 => ?_)
      obtain ⟨rfl, hF9, S9, hP9, hL9⟩ := hq9
      have hP := hP9
      have hL := hL9
      have hF := hF.trans (hF9.wide (by omega) (by omega))
      refine ze_vret cd_P_putOneOf_17 rfl (by decide) (by decide) ⟨rfl, rfl, hF, ?_⟩
      first | exact ⟨S, by rw [zp_one, zi_ltz c1]; exact hP, by rw [zp_one, zi_ltz c1]; exact hL⟩ | exact ⟨S, by rw [zp_one, zi_hi c2]; exact hP, by rw [zp_one, zi_hi c2]; exact hL⟩ | exact ⟨S9, by rw [zp_one, zi_nI hj (by omega)]; exact hP, by rw [zp_one, zi_nI hj (by omega)]; exact hL⟩
def zp_dig (v : Int32) (q : Nat) : Int32 := nI 48 + (v / nI q - v / nI q / nI 10 * nI 10)
def zp_num (v : Int32) : List Int32 := (if v < nI 1000 then [] else [zp_dig v 1000]) ++ ((if v < nI 100 then [] else [zp_dig v 100]) ++ ((if v < nI 10 then [] else [zp_dig v 10]) ++ (if v < nI 1 then [] else [zp_dig v 1])))
abbrev zr_P_putNumber : Room := { frames := 1, cells := 0, slots := 0, locals := 21 }
set_option maxRecDepth 100000 in
set_option maxHeartbeats 4000000 in
theorem kc_P_putNumber {g : zx_G} {σ : zx_M} {sz : Nat} {p : Nat} {S : Nat → Int32} {L : List Int32} {v : Int32} (hP : zpo g σ p S L) (hL : zpl S L) : zM g cy_P_putNumber cb_P_putNumber 3 (Option.none : Option Jvm.ClassFile.FieldType) zr_P_putNumber 0 0 [.ref p, .int v] σ sz (zPv (fun σ' sz' => sz' = sz ∧ zfr σ σ' p 2 ∧ ∃ S', zpo g σ' p S' (zputs L (zp_num v)) ∧ zpl S' (zputs L (zp_num v)))) := by
  have hF : zfr σ σ p 2 := zfr.rf
  refine zM_of (lv := [(0, .ref p), (1, .int v)]) (ini := false) (by decide) rfl (by decide) (Nat.le_of_ble_eq_true rfl) rfl ?_
  refine ze_sipush (v := nI 1000) cd_P_putNumber_0 (by decide) ?_
  refine ze_istore_n (lv' := [(2, .int (nI 1000)), (0, .ref p), (1, .int v)]) cd_P_putNumber_3 rfl (by decide) rfl ?_
  refine ze_iload_n 0 cd_P_putNumber_4 rfl rfl ?_
  refine ze_iconst (v := nI 1) cd_P_putNumber_5 (by decide) ?_
  refine ze_icmp_lt (tgt := 35) cd_P_putNumber_6 (by decide) (fun c9 => absurd c9 (by decide)) (fun _ => ?_)
  refine ze_iload_n 2 cd_P_putNumber_9 rfl rfl ?_
  refine ze_iload_n 0 cd_P_putNumber_10 rfl rfl ?_
  refine ze_icmp_lt (tgt := 27) cd_P_putNumber_11 (by decide) (fun c2 => ?_) (fun c2 => ?_)
  · skip
    refine ze_iload_n 0 cd_P_putNumber_27 rfl rfl ?_
    refine ze_bipush (v := nI 10) cd_P_putNumber_28 (by decide) ?_
    refine ze_idiv cd_P_putNumber_30 (by decide) ?_
    refine ze_top (y := nI 100) (by decide) ?_
    refine ze_istore_n (lv' := [(2, .int (nI 100)), (0, .ref p), (1, .int v)]) cd_P_putNumber_31 rfl (by decide) rfl ?_
    refine ze_goto (tgt := 4) cd_P_putNumber_32 (by decide) ?_
    refine ze_iload_n 0 cd_P_putNumber_4 rfl rfl ?_
    refine ze_iconst (v := nI 1) cd_P_putNumber_5 (by decide) ?_
    refine ze_icmp_lt (tgt := 35) cd_P_putNumber_6 (by decide) (fun c9 => absurd c9 (by decide)) (fun _ => ?_)
    refine ze_iload_n 2 cd_P_putNumber_9 rfl rfl ?_
    refine ze_iload_n 0 cd_P_putNumber_10 rfl rfl ?_
    refine ze_icmp_lt (tgt := 27) cd_P_putNumber_11 (by decide) (fun c4 => ?_) (fun c4 => ?_)
    · skip
      refine ze_iload_n 0 cd_P_putNumber_27 rfl rfl ?_
      refine ze_bipush (v := nI 10) cd_P_putNumber_28 (by decide) ?_
      refine ze_idiv cd_P_putNumber_30 (by decide) ?_
      refine ze_top (y := nI 10) (by decide) ?_
      refine ze_istore_n (lv' := [(2, .int (nI 10)), (0, .ref p), (1, .int v)]) cd_P_putNumber_31 rfl (by decide) rfl ?_
      refine ze_goto (tgt := 4) cd_P_putNumber_32 (by decide) ?_
      refine ze_iload_n 0 cd_P_putNumber_4 rfl rfl ?_
      refine ze_iconst (v := nI 1) cd_P_putNumber_5 (by decide) ?_
      refine ze_icmp_lt (tgt := 35) cd_P_putNumber_6 (by decide) (fun c9 => absurd c9 (by decide)) (fun _ => ?_)
      refine ze_iload_n 2 cd_P_putNumber_9 rfl rfl ?_
      refine ze_iload_n 0 cd_P_putNumber_10 rfl rfl ?_
      refine ze_icmp_lt (tgt := 27) cd_P_putNumber_11 (by decide) (fun c6 => ?_) (fun c6 => ?_)
      · skip
        refine ze_iload_n 0 cd_P_putNumber_27 rfl rfl ?_
        refine ze_bipush (v := nI 10) cd_P_putNumber_28 (by decide) ?_
        refine ze_idiv cd_P_putNumber_30 (by decide) ?_
        refine ze_top (y := nI 1) (by decide) ?_
        refine ze_istore_n (lv' := [(2, .int (nI 1)), (0, .ref p), (1, .int v)]) cd_P_putNumber_31 rfl (by decide) rfl ?_
        refine ze_goto (tgt := 4) cd_P_putNumber_32 (by decide) ?_
        refine ze_iload_n 0 cd_P_putNumber_4 rfl rfl ?_
        refine ze_iconst (v := nI 1) cd_P_putNumber_5 (by decide) ?_
        refine ze_icmp_lt (tgt := 35) cd_P_putNumber_6 (by decide) (fun c9 => absurd c9 (by decide)) (fun _ => ?_)
        refine ze_iload_n 2 cd_P_putNumber_9 rfl rfl ?_
        refine ze_iload_n 0 cd_P_putNumber_10 rfl rfl ?_
        refine ze_icmp_lt (tgt := 27) cd_P_putNumber_11 (by decide) (fun c8 => ?_) (fun c8 => ?_)
        · skip
          refine ze_iload_n 0 cd_P_putNumber_27 rfl rfl ?_
          refine ze_bipush (v := nI 10) cd_P_putNumber_28 (by decide) ?_
          refine ze_idiv cd_P_putNumber_30 (by decide) ?_
          refine ze_top (y := nI 0) (by decide) ?_
          refine ze_istore_n (lv' := [(2, .int (nI 0)), (0, .ref p), (1, .int v)]) cd_P_putNumber_31 rfl (by decide) rfl ?_
          refine ze_goto (tgt := 4) cd_P_putNumber_32 (by decide) ?_
          refine ze_iload_n 0 cd_P_putNumber_4 rfl rfl ?_
          refine ze_iconst (v := nI 1) cd_P_putNumber_5 (by decide) ?_
          refine ze_icmp_lt (tgt := 35) cd_P_putNumber_6 (by decide) (fun _ => ?_) (fun c9 => absurd (by decide) c9)
          refine ze_vret cd_P_putNumber_35 rfl (by decide) (by decide) ⟨rfl, rfl, hF, ?_⟩
          have hE : zputs L (zp_num v) = L := by (simp only [zp_num, c2, c4, c6, c8]; rfl)
          exact ⟨_, by rw [hE]; exact hP, by rw [hE]; exact hL⟩
        · skip
          refine ze_aload_n 1 cd_P_putNumber_14 rfl rfl ?_
          refine ze_bipush (v := nI 48) cd_P_putNumber_15 (by decide) ?_
          refine ze_iload_n 2 cd_P_putNumber_17 rfl rfl ?_
          refine ze_iload_n 0 cd_P_putNumber_18 rfl rfl ?_
          refine ze_idiv cd_P_putNumber_19 (by decide) ?_
          refine ze_bipush (v := nI 10) cd_P_putNumber_20 (by decide) ?_
          refine ze_irem cd_P_putNumber_22 (by decide) ?_
          refine ze_iadd cd_P_putNumber_23 ?_
          refine ze_callVv (rm' := zr_P_put) (b := p) (As := [.int ((nI 48) + ((v / (nI 1)) - (v / (nI 1)) / (nI 10) * (nI 10)))]) (rest := []) (kc_P_put hP hL) ⟨rfl, rfl⟩ zy_P_put_ok zm_489 zm_491 zm_5 (ci := 3) rfl rfl (by decide) (by decide) cd_P_putNumber_24 hP.1 rfl rfl (Nat.le_of_ble_eq_true rfl) (fun σ9 sz9 hq9 => ?_)
          obtain ⟨rfl, hF9, S9, hP9, hL9⟩ := hq9
          have hP := hP9
          have hL := hL9
          have hF := hF.trans (hF9.wide (by omega) (by omega))
          refine ze_iload_n 0 cd_P_putNumber_27 rfl rfl ?_
          refine ze_bipush (v := nI 10) cd_P_putNumber_28 (by decide) ?_
          refine ze_idiv cd_P_putNumber_30 (by decide) ?_
          refine ze_top (y := nI 0) (by decide) ?_
          refine ze_istore_n (lv' := [(2, .int (nI 0)), (0, .ref p), (1, .int v)]) cd_P_putNumber_31 rfl (by decide) rfl ?_
          refine ze_goto (tgt := 4) cd_P_putNumber_32 (by decide) ?_
          refine ze_iload_n 0 cd_P_putNumber_4 rfl rfl ?_
          refine ze_iconst (v := nI 1) cd_P_putNumber_5 (by decide) ?_
          refine ze_icmp_lt (tgt := 35) cd_P_putNumber_6 (by decide) (fun _ => ?_) (fun c9 => absurd (by decide) c9)
          refine ze_vret cd_P_putNumber_35 rfl (by decide) (by decide) ⟨rfl, rfl, hF, ?_⟩
          have hE : zputs L (zp_num v) = (zput L ((nI 48) + ((v / (nI 1)) - (v / (nI 1)) / (nI 10) * (nI 10)))) := by (simp only [zp_num, c2, c4, c6, c8]; rfl)
          exact ⟨_, by rw [hE]; exact hP, by rw [hE]; exact hL⟩
      · skip
        refine ze_aload_n 1 cd_P_putNumber_14 rfl rfl ?_
        refine ze_bipush (v := nI 48) cd_P_putNumber_15 (by decide) ?_
        refine ze_iload_n 2 cd_P_putNumber_17 rfl rfl ?_
        refine ze_iload_n 0 cd_P_putNumber_18 rfl rfl ?_
        refine ze_idiv cd_P_putNumber_19 (by decide) ?_
        refine ze_bipush (v := nI 10) cd_P_putNumber_20 (by decide) ?_
        refine ze_irem cd_P_putNumber_22 (by decide) ?_
        refine ze_iadd cd_P_putNumber_23 ?_
        refine ze_callVv (rm' := zr_P_put) (b := p) (As := [.int ((nI 48) + ((v / (nI 10)) - (v / (nI 10)) / (nI 10) * (nI 10)))]) (rest := []) (kc_P_put hP hL) ⟨rfl, rfl⟩ zy_P_put_ok zm_489 zm_491 zm_5 (ci := 3) rfl rfl (by decide) (by decide) cd_P_putNumber_24 hP.1 rfl rfl (Nat.le_of_ble_eq_true rfl) (fun σ9 sz9 hq9 => ?_)
        obtain ⟨rfl, hF9, S9, hP9, hL9⟩ := hq9
        have hP := hP9
        have hL := hL9
        have hF := hF.trans (hF9.wide (by omega) (by omega))
        refine ze_iload_n 0 cd_P_putNumber_27 rfl rfl ?_
        refine ze_bipush (v := nI 10) cd_P_putNumber_28 (by decide) ?_
        refine ze_idiv cd_P_putNumber_30 (by decide) ?_
        refine ze_top (y := nI 1) (by decide) ?_
        refine ze_istore_n (lv' := [(2, .int (nI 1)), (0, .ref p), (1, .int v)]) cd_P_putNumber_31 rfl (by decide) rfl ?_
        refine ze_goto (tgt := 4) cd_P_putNumber_32 (by decide) ?_
        refine ze_iload_n 0 cd_P_putNumber_4 rfl rfl ?_
        refine ze_iconst (v := nI 1) cd_P_putNumber_5 (by decide) ?_
        refine ze_icmp_lt (tgt := 35) cd_P_putNumber_6 (by decide) (fun c9 => absurd c9 (by decide)) (fun _ => ?_)
        refine ze_iload_n 2 cd_P_putNumber_9 rfl rfl ?_
        refine ze_iload_n 0 cd_P_putNumber_10 rfl rfl ?_
        refine ze_icmp_lt (tgt := 27) cd_P_putNumber_11 (by decide) (fun c12 => ?_) (fun c12 => ?_)
        · skip
          refine ze_iload_n 0 cd_P_putNumber_27 rfl rfl ?_
          refine ze_bipush (v := nI 10) cd_P_putNumber_28 (by decide) ?_
          refine ze_idiv cd_P_putNumber_30 (by decide) ?_
          refine ze_top (y := nI 0) (by decide) ?_
          refine ze_istore_n (lv' := [(2, .int (nI 0)), (0, .ref p), (1, .int v)]) cd_P_putNumber_31 rfl (by decide) rfl ?_
          refine ze_goto (tgt := 4) cd_P_putNumber_32 (by decide) ?_
          refine ze_iload_n 0 cd_P_putNumber_4 rfl rfl ?_
          refine ze_iconst (v := nI 1) cd_P_putNumber_5 (by decide) ?_
          refine ze_icmp_lt (tgt := 35) cd_P_putNumber_6 (by decide) (fun _ => ?_) (fun c9 => absurd (by decide) c9)
          refine ze_vret cd_P_putNumber_35 rfl (by decide) (by decide) ⟨rfl, rfl, hF, ?_⟩
          have hE : zputs L (zp_num v) = (zput L ((nI 48) + ((v / (nI 10)) - (v / (nI 10)) / (nI 10) * (nI 10)))) := by (simp only [zp_num, c2, c4, c6, c12]; rfl)
          exact ⟨_, by rw [hE]; exact hP, by rw [hE]; exact hL⟩
        · skip
          refine ze_aload_n 1 cd_P_putNumber_14 rfl rfl ?_
          refine ze_bipush (v := nI 48) cd_P_putNumber_15 (by decide) ?_
          refine ze_iload_n 2 cd_P_putNumber_17 rfl rfl ?_
          refine ze_iload_n 0 cd_P_putNumber_18 rfl rfl ?_
          refine ze_idiv cd_P_putNumber_19 (by decide) ?_
          refine ze_bipush (v := nI 10) cd_P_putNumber_20 (by decide) ?_
          refine ze_irem cd_P_putNumber_22 (by decide) ?_
          refine ze_iadd cd_P_putNumber_23 ?_
          refine ze_callVv (rm' := zr_P_put) (b := p) (As := [.int ((nI 48) + ((v / (nI 1)) - (v / (nI 1)) / (nI 10) * (nI 10)))]) (rest := []) (kc_P_put hP hL) ⟨rfl, rfl⟩ zy_P_put_ok zm_489 zm_491 zm_5 (ci := 3) rfl rfl (by decide) (by decide) cd_P_putNumber_24 hP.1 rfl rfl (Nat.le_of_ble_eq_true rfl) (fun σ9 sz9 hq9 => ?_)
          obtain ⟨rfl, hF9, S9, hP9, hL9⟩ := hq9
          have hP := hP9
          have hL := hL9
          have hF := hF.trans (hF9.wide (by omega) (by omega))
          refine ze_iload_n 0 cd_P_putNumber_27 rfl rfl ?_
          refine ze_bipush (v := nI 10) cd_P_putNumber_28 (by decide) ?_
          refine ze_idiv cd_P_putNumber_30 (by decide) ?_
          refine ze_top (y := nI 0) (by decide) ?_
          refine ze_istore_n (lv' := [(2, .int (nI 0)), (0, .ref p), (1, .int v)]) cd_P_putNumber_31 rfl (by decide) rfl ?_
          refine ze_goto (tgt := 4) cd_P_putNumber_32 (by decide) ?_
          refine ze_iload_n 0 cd_P_putNumber_4 rfl rfl ?_
          refine ze_iconst (v := nI 1) cd_P_putNumber_5 (by decide) ?_
          refine ze_icmp_lt (tgt := 35) cd_P_putNumber_6 (by decide) (fun _ => ?_) (fun c9 => absurd (by decide) c9)
          refine ze_vret cd_P_putNumber_35 rfl (by decide) (by decide) ⟨rfl, rfl, hF, ?_⟩
          have hE : zputs L (zp_num v) = (zput (zput L ((nI 48) + ((v / (nI 10)) - (v / (nI 10)) / (nI 10) * (nI 10)))) ((nI 48) + ((v / (nI 1)) - (v / (nI 1)) / (nI 10) * (nI 10)))) := by (simp only [zp_num, c2, c4, c6, c12]; rfl)
          exact ⟨_, by rw [hE]; exact hP, by rw [hE]; exact hL⟩
    · skip
      refine ze_aload_n 1 cd_P_putNumber_14 rfl rfl ?_
      refine ze_bipush (v := nI 48) cd_P_putNumber_15 (by decide) ?_
      refine ze_iload_n 2 cd_P_putNumber_17 rfl rfl ?_
      refine ze_iload_n 0 cd_P_putNumber_18 rfl rfl ?_
      refine ze_idiv cd_P_putNumber_19 (by decide) ?_
      refine ze_bipush (v := nI 10) cd_P_putNumber_20 (by decide) ?_
      refine ze_irem cd_P_putNumber_22 (by decide) ?_
      refine ze_iadd cd_P_putNumber_23 ?_
      refine ze_callVv (rm' := zr_P_put) (b := p) (As := [.int ((nI 48) + ((v / (nI 100)) - (v / (nI 100)) / (nI 10) * (nI 10)))]) (rest := []) (kc_P_put hP hL) ⟨rfl, rfl⟩ zy_P_put_ok zm_489 zm_491 zm_5 (ci := 3) rfl rfl (by decide) (by decide) cd_P_putNumber_24 hP.1 rfl rfl (Nat.le_of_ble_eq_true rfl) (fun σ9 sz9 hq9 => ?_)
      obtain ⟨rfl, hF9, S9, hP9, hL9⟩ := hq9
      have hP := hP9
      have hL := hL9
      have hF := hF.trans (hF9.wide (by omega) (by omega))
      refine ze_iload_n 0 cd_P_putNumber_27 rfl rfl ?_
      refine ze_bipush (v := nI 10) cd_P_putNumber_28 (by decide) ?_
      refine ze_idiv cd_P_putNumber_30 (by decide) ?_
      refine ze_top (y := nI 10) (by decide) ?_
      refine ze_istore_n (lv' := [(2, .int (nI 10)), (0, .ref p), (1, .int v)]) cd_P_putNumber_31 rfl (by decide) rfl ?_
      refine ze_goto (tgt := 4) cd_P_putNumber_32 (by decide) ?_
      refine ze_iload_n 0 cd_P_putNumber_4 rfl rfl ?_
      refine ze_iconst (v := nI 1) cd_P_putNumber_5 (by decide) ?_
      refine ze_icmp_lt (tgt := 35) cd_P_putNumber_6 (by decide) (fun c9 => absurd c9 (by decide)) (fun _ => ?_)
      refine ze_iload_n 2 cd_P_putNumber_9 rfl rfl ?_
      refine ze_iload_n 0 cd_P_putNumber_10 rfl rfl ?_
      refine ze_icmp_lt (tgt := 27) cd_P_putNumber_11 (by decide) (fun c16 => ?_) (fun c16 => ?_)
      · skip
        refine ze_iload_n 0 cd_P_putNumber_27 rfl rfl ?_
        refine ze_bipush (v := nI 10) cd_P_putNumber_28 (by decide) ?_
        refine ze_idiv cd_P_putNumber_30 (by decide) ?_
        refine ze_top (y := nI 1) (by decide) ?_
        refine ze_istore_n (lv' := [(2, .int (nI 1)), (0, .ref p), (1, .int v)]) cd_P_putNumber_31 rfl (by decide) rfl ?_
        refine ze_goto (tgt := 4) cd_P_putNumber_32 (by decide) ?_
        refine ze_iload_n 0 cd_P_putNumber_4 rfl rfl ?_
        refine ze_iconst (v := nI 1) cd_P_putNumber_5 (by decide) ?_
        refine ze_icmp_lt (tgt := 35) cd_P_putNumber_6 (by decide) (fun c9 => absurd c9 (by decide)) (fun _ => ?_)
        refine ze_iload_n 2 cd_P_putNumber_9 rfl rfl ?_
        refine ze_iload_n 0 cd_P_putNumber_10 rfl rfl ?_
        refine ze_icmp_lt (tgt := 27) cd_P_putNumber_11 (by decide) (fun c18 => ?_) (fun c18 => ?_)
        · skip
          refine ze_iload_n 0 cd_P_putNumber_27 rfl rfl ?_
          refine ze_bipush (v := nI 10) cd_P_putNumber_28 (by decide) ?_
          refine ze_idiv cd_P_putNumber_30 (by decide) ?_
          refine ze_top (y := nI 0) (by decide) ?_
          refine ze_istore_n (lv' := [(2, .int (nI 0)), (0, .ref p), (1, .int v)]) cd_P_putNumber_31 rfl (by decide) rfl ?_
          refine ze_goto (tgt := 4) cd_P_putNumber_32 (by decide) ?_
          refine ze_iload_n 0 cd_P_putNumber_4 rfl rfl ?_
          refine ze_iconst (v := nI 1) cd_P_putNumber_5 (by decide) ?_
          refine ze_icmp_lt (tgt := 35) cd_P_putNumber_6 (by decide) (fun _ => ?_) (fun c9 => absurd (by decide) c9)
          refine ze_vret cd_P_putNumber_35 rfl (by decide) (by decide) ⟨rfl, rfl, hF, ?_⟩
          have hE : zputs L (zp_num v) = (zput L ((nI 48) + ((v / (nI 100)) - (v / (nI 100)) / (nI 10) * (nI 10)))) := by (simp only [zp_num, c2, c4, c16, c18]; rfl)
          exact ⟨_, by rw [hE]; exact hP, by rw [hE]; exact hL⟩
        · skip
          refine ze_aload_n 1 cd_P_putNumber_14 rfl rfl ?_
          refine ze_bipush (v := nI 48) cd_P_putNumber_15 (by decide) ?_
          refine ze_iload_n 2 cd_P_putNumber_17 rfl rfl ?_
          refine ze_iload_n 0 cd_P_putNumber_18 rfl rfl ?_
          refine ze_idiv cd_P_putNumber_19 (by decide) ?_
          refine ze_bipush (v := nI 10) cd_P_putNumber_20 (by decide) ?_
          refine ze_irem cd_P_putNumber_22 (by decide) ?_
          refine ze_iadd cd_P_putNumber_23 ?_
          refine ze_callVv (rm' := zr_P_put) (b := p) (As := [.int ((nI 48) + ((v / (nI 1)) - (v / (nI 1)) / (nI 10) * (nI 10)))]) (rest := []) (kc_P_put hP hL) ⟨rfl, rfl⟩ zy_P_put_ok zm_489 zm_491 zm_5 (ci := 3) rfl rfl (by decide) (by decide) cd_P_putNumber_24 hP.1 rfl rfl (Nat.le_of_ble_eq_true rfl) (fun σ9 sz9 hq9 => ?_)
          obtain ⟨rfl, hF9, S9, hP9, hL9⟩ := hq9
          have hP := hP9
          have hL := hL9
          have hF := hF.trans (hF9.wide (by omega) (by omega))
          refine ze_iload_n 0 cd_P_putNumber_27 rfl rfl ?_
          refine ze_bipush (v := nI 10) cd_P_putNumber_28 (by decide) ?_
          refine ze_idiv cd_P_putNumber_30 (by decide) ?_
          refine ze_top (y := nI 0) (by decide) ?_
          refine ze_istore_n (lv' := [(2, .int (nI 0)), (0, .ref p), (1, .int v)]) cd_P_putNumber_31 rfl (by decide) rfl ?_
          refine ze_goto (tgt := 4) cd_P_putNumber_32 (by decide) ?_
          refine ze_iload_n 0 cd_P_putNumber_4 rfl rfl ?_
          refine ze_iconst (v := nI 1) cd_P_putNumber_5 (by decide) ?_
          refine ze_icmp_lt (tgt := 35) cd_P_putNumber_6 (by decide) (fun _ => ?_) (fun c9 => absurd (by decide) c9)
          refine ze_vret cd_P_putNumber_35 rfl (by decide) (by decide) ⟨rfl, rfl, hF, ?_⟩
          have hE : zputs L (zp_num v) = (zput (zput L ((nI 48) + ((v / (nI 100)) - (v / (nI 100)) / (nI 10) * (nI 10)))) ((nI 48) + ((v / (nI 1)) - (v / (nI 1)) / (nI 10) * (nI 10)))) := by (simp only [zp_num, c2, c4, c16, c18]; rfl)
          exact ⟨_, by rw [hE]; exact hP, by rw [hE]; exact hL⟩
      · skip
        refine ze_aload_n 1 cd_P_putNumber_14 rfl rfl ?_
        refine ze_bipush (v := nI 48) cd_P_putNumber_15 (by decide) ?_
        refine ze_iload_n 2 cd_P_putNumber_17 rfl rfl ?_
        refine ze_iload_n 0 cd_P_putNumber_18 rfl rfl ?_
        refine ze_idiv cd_P_putNumber_19 (by decide) ?_
        refine ze_bipush (v := nI 10) cd_P_putNumber_20 (by decide) ?_
        refine ze_irem cd_P_putNumber_22 (by decide) ?_
        refine ze_iadd cd_P_putNumber_23 ?_
        refine ze_callVv (rm' := zr_P_put) (b := p) (As := [.int ((nI 48) + ((v / (nI 10)) - (v / (nI 10)) / (nI 10) * (nI 10)))]) (rest := []) (kc_P_put hP hL) ⟨rfl, rfl⟩ zy_P_put_ok zm_489 zm_491 zm_5 (ci := 3) rfl rfl (by decide) (by decide) cd_P_putNumber_24 hP.1 rfl rfl (Nat.le_of_ble_eq_true rfl) (fun σ9 sz9 hq9 => ?_)
        obtain ⟨rfl, hF9, S9, hP9, hL9⟩ := hq9
        have hP := hP9
        have hL := hL9
        have hF := hF.trans (hF9.wide (by omega) (by omega))
        refine ze_iload_n 0 cd_P_putNumber_27 rfl rfl ?_
        refine ze_bipush (v := nI 10) cd_P_putNumber_28 (by decide) ?_
        refine ze_idiv cd_P_putNumber_30 (by decide) ?_
        refine ze_top (y := nI 1) (by decide) ?_
        refine ze_istore_n (lv' := [(2, .int (nI 1)), (0, .ref p), (1, .int v)]) cd_P_putNumber_31 rfl (by decide) rfl ?_
        refine ze_goto (tgt := 4) cd_P_putNumber_32 (by decide) ?_
        refine ze_iload_n 0 cd_P_putNumber_4 rfl rfl ?_
        refine ze_iconst (v := nI 1) cd_P_putNumber_5 (by decide) ?_
        refine ze_icmp_lt (tgt := 35) cd_P_putNumber_6 (by decide) (fun c9 => absurd c9 (by decide)) (fun _ => ?_)
        refine ze_iload_n 2 cd_P_putNumber_9 rfl rfl ?_
        refine ze_iload_n 0 cd_P_putNumber_10 rfl rfl ?_
        refine ze_icmp_lt (tgt := 27) cd_P_putNumber_11 (by decide) (fun c22 => ?_) (fun c22 => ?_)
        · skip
          refine ze_iload_n 0 cd_P_putNumber_27 rfl rfl ?_
          refine ze_bipush (v := nI 10) cd_P_putNumber_28 (by decide) ?_
          refine ze_idiv cd_P_putNumber_30 (by decide) ?_
          refine ze_top (y := nI 0) (by decide) ?_
          refine ze_istore_n (lv' := [(2, .int (nI 0)), (0, .ref p), (1, .int v)]) cd_P_putNumber_31 rfl (by decide) rfl ?_
          refine ze_goto (tgt := 4) cd_P_putNumber_32 (by decide) ?_
          refine ze_iload_n 0 cd_P_putNumber_4 rfl rfl ?_
          refine ze_iconst (v := nI 1) cd_P_putNumber_5 (by decide) ?_
          refine ze_icmp_lt (tgt := 35) cd_P_putNumber_6 (by decide) (fun _ => ?_) (fun c9 => absurd (by decide) c9)
          refine ze_vret cd_P_putNumber_35 rfl (by decide) (by decide) ⟨rfl, rfl, hF, ?_⟩
          have hE : zputs L (zp_num v) = (zput (zput L ((nI 48) + ((v / (nI 100)) - (v / (nI 100)) / (nI 10) * (nI 10)))) ((nI 48) + ((v / (nI 10)) - (v / (nI 10)) / (nI 10) * (nI 10)))) := by (simp only [zp_num, c2, c4, c16, c22]; rfl)
          exact ⟨_, by rw [hE]; exact hP, by rw [hE]; exact hL⟩
        · skip
          refine ze_aload_n 1 cd_P_putNumber_14 rfl rfl ?_
          refine ze_bipush (v := nI 48) cd_P_putNumber_15 (by decide) ?_
          refine ze_iload_n 2 cd_P_putNumber_17 rfl rfl ?_
          refine ze_iload_n 0 cd_P_putNumber_18 rfl rfl ?_
          refine ze_idiv cd_P_putNumber_19 (by decide) ?_
          refine ze_bipush (v := nI 10) cd_P_putNumber_20 (by decide) ?_
          refine ze_irem cd_P_putNumber_22 (by decide) ?_
          refine ze_iadd cd_P_putNumber_23 ?_
          refine ze_callVv (rm' := zr_P_put) (b := p) (As := [.int ((nI 48) + ((v / (nI 1)) - (v / (nI 1)) / (nI 10) * (nI 10)))]) (rest := []) (kc_P_put hP hL) ⟨rfl, rfl⟩ zy_P_put_ok zm_489 zm_491 zm_5 (ci := 3) rfl rfl (by decide) (by decide) cd_P_putNumber_24 hP.1 rfl rfl (Nat.le_of_ble_eq_true rfl) (fun σ9 sz9 hq9 => ?_)
          obtain ⟨rfl, hF9, S9, hP9, hL9⟩ := hq9
          have hP := hP9
          have hL := hL9
          have hF := hF.trans (hF9.wide (by omega) (by omega))
          refine ze_iload_n 0 cd_P_putNumber_27 rfl rfl ?_
          refine ze_bipush (v := nI 10) cd_P_putNumber_28 (by decide) ?_
          refine ze_idiv cd_P_putNumber_30 (by decide) ?_
          refine ze_top (y := nI 0) (by decide) ?_
          refine ze_istore_n (lv' := [(2, .int (nI 0)), (0, .ref p), (1, .int v)]) cd_P_putNumber_31 rfl (by decide) rfl ?_
          refine ze_goto (tgt := 4) cd_P_putNumber_32 (by decide) ?_
          refine ze_iload_n 0 cd_P_putNumber_4 rfl rfl ?_
          refine ze_iconst (v := nI 1) cd_P_putNumber_5 (by decide) ?_
          refine ze_icmp_lt (tgt := 35) cd_P_putNumber_6 (by decide) (fun _ => ?_) (fun c9 => absurd (by decide) c9)
          refine ze_vret cd_P_putNumber_35 rfl (by decide) (by decide) ⟨rfl, rfl, hF, ?_⟩
          have hE : zputs L (zp_num v) = (zput (zput (zput L ((nI 48) + ((v / (nI 100)) - (v / (nI 100)) / (nI 10) * (nI 10)))) ((nI 48) + ((v / (nI 10)) - (v / (nI 10)) / (nI 10) * (nI 10)))) ((nI 48) + ((v / (nI 1)) - (v / (nI 1)) / (nI 10) * (nI 10)))) := by (simp only [zp_num, c2, c4, c16, c22]; rfl)
          exact ⟨_, by rw [hE]; exact hP, by rw [hE]; exact hL⟩
  · skip
    refine ze_aload_n 1 cd_P_putNumber_14 rfl rfl ?_
    refine ze_bipush (v := nI 48) cd_P_putNumber_15 (by decide) ?_
    refine ze_iload_n 2 cd_P_putNumber_17 rfl rfl ?_
    refine ze_iload_n 0 cd_P_putNumber_18 rfl rfl ?_
    refine ze_idiv cd_P_putNumber_19 (by decide) ?_
    refine ze_bipush (v := nI 10) cd_P_putNumber_20 (by decide) ?_
    refine ze_irem cd_P_putNumber_22 (by decide) ?_
    refine ze_iadd cd_P_putNumber_23 ?_
    refine ze_callVv (rm' := zr_P_put) (b := p) (As := [.int ((nI 48) + ((v / (nI 1000)) - (v / (nI 1000)) / (nI 10) * (nI 10)))]) (rest := []) (kc_P_put hP hL) ⟨rfl, rfl⟩ zy_P_put_ok zm_489 zm_491 zm_5 (ci := 3) rfl rfl (by decide) (by decide) cd_P_putNumber_24 hP.1 rfl rfl (Nat.le_of_ble_eq_true rfl) (fun σ9 sz9 hq9 => ?_)
    obtain ⟨rfl, hF9, S9, hP9, hL9⟩ := hq9
    have hP := hP9
    have hL := hL9
    have hF := hF.trans (hF9.wide (by omega) (by omega))
    refine ze_iload_n 0 cd_P_putNumber_27 rfl rfl ?_
    refine ze_bipush (v := nI 10) cd_P_putNumber_28 (by decide) ?_
    refine ze_idiv cd_P_putNumber_30 (by decide) ?_
    refine ze_top (y := nI 100) (by decide) ?_
    refine ze_istore_n (lv' := [(2, .int (nI 100)), (0, .ref p), (1, .int v)]) cd_P_putNumber_31 rfl (by decide) rfl ?_
    refine ze_goto (tgt := 4) cd_P_putNumber_32 (by decide) ?_
    refine ze_iload_n 0 cd_P_putNumber_4 rfl rfl ?_
    refine ze_iconst (v := nI 1) cd_P_putNumber_5 (by decide) ?_
    refine ze_icmp_lt (tgt := 35) cd_P_putNumber_6 (by decide) (fun c9 => absurd c9 (by decide)) (fun _ => ?_)
    refine ze_iload_n 2 cd_P_putNumber_9 rfl rfl ?_
    refine ze_iload_n 0 cd_P_putNumber_10 rfl rfl ?_
    refine ze_icmp_lt (tgt := 27) cd_P_putNumber_11 (by decide) (fun c26 => ?_) (fun c26 => ?_)
    · skip
      refine ze_iload_n 0 cd_P_putNumber_27 rfl rfl ?_
      refine ze_bipush (v := nI 10) cd_P_putNumber_28 (by decide) ?_
      refine ze_idiv cd_P_putNumber_30 (by decide) ?_
      refine ze_top (y := nI 10) (by decide) ?_
      refine ze_istore_n (lv' := [(2, .int (nI 10)), (0, .ref p), (1, .int v)]) cd_P_putNumber_31 rfl (by decide) rfl ?_
      refine ze_goto (tgt := 4) cd_P_putNumber_32 (by decide) ?_
      refine ze_iload_n 0 cd_P_putNumber_4 rfl rfl ?_
      refine ze_iconst (v := nI 1) cd_P_putNumber_5 (by decide) ?_
      refine ze_icmp_lt (tgt := 35) cd_P_putNumber_6 (by decide) (fun c9 => absurd c9 (by decide)) (fun _ => ?_)
      refine ze_iload_n 2 cd_P_putNumber_9 rfl rfl ?_
      refine ze_iload_n 0 cd_P_putNumber_10 rfl rfl ?_
      refine ze_icmp_lt (tgt := 27) cd_P_putNumber_11 (by decide) (fun c28 => ?_) (fun c28 => ?_)
      · skip
        refine ze_iload_n 0 cd_P_putNumber_27 rfl rfl ?_
        refine ze_bipush (v := nI 10) cd_P_putNumber_28 (by decide) ?_
        refine ze_idiv cd_P_putNumber_30 (by decide) ?_
        refine ze_top (y := nI 1) (by decide) ?_
        refine ze_istore_n (lv' := [(2, .int (nI 1)), (0, .ref p), (1, .int v)]) cd_P_putNumber_31 rfl (by decide) rfl ?_
        refine ze_goto (tgt := 4) cd_P_putNumber_32 (by decide) ?_
        refine ze_iload_n 0 cd_P_putNumber_4 rfl rfl ?_
        refine ze_iconst (v := nI 1) cd_P_putNumber_5 (by decide) ?_
        refine ze_icmp_lt (tgt := 35) cd_P_putNumber_6 (by decide) (fun c9 => absurd c9 (by decide)) (fun _ => ?_)
        refine ze_iload_n 2 cd_P_putNumber_9 rfl rfl ?_
        refine ze_iload_n 0 cd_P_putNumber_10 rfl rfl ?_
        refine ze_icmp_lt (tgt := 27) cd_P_putNumber_11 (by decide) (fun c30 => ?_) (fun c30 => ?_)
        · skip
          refine ze_iload_n 0 cd_P_putNumber_27 rfl rfl ?_
          refine ze_bipush (v := nI 10) cd_P_putNumber_28 (by decide) ?_
          refine ze_idiv cd_P_putNumber_30 (by decide) ?_
          refine ze_top (y := nI 0) (by decide) ?_
          refine ze_istore_n (lv' := [(2, .int (nI 0)), (0, .ref p), (1, .int v)]) cd_P_putNumber_31 rfl (by decide) rfl ?_
          refine ze_goto (tgt := 4) cd_P_putNumber_32 (by decide) ?_
          refine ze_iload_n 0 cd_P_putNumber_4 rfl rfl ?_
          refine ze_iconst (v := nI 1) cd_P_putNumber_5 (by decide) ?_
          refine ze_icmp_lt (tgt := 35) cd_P_putNumber_6 (by decide) (fun _ => ?_) (fun c9 => absurd (by decide) c9)
          refine ze_vret cd_P_putNumber_35 rfl (by decide) (by decide) ⟨rfl, rfl, hF, ?_⟩
          have hE : zputs L (zp_num v) = (zput L ((nI 48) + ((v / (nI 1000)) - (v / (nI 1000)) / (nI 10) * (nI 10)))) := by (simp only [zp_num, c2, c26, c28, c30]; rfl)
          exact ⟨_, by rw [hE]; exact hP, by rw [hE]; exact hL⟩
        · skip
          refine ze_aload_n 1 cd_P_putNumber_14 rfl rfl ?_
          refine ze_bipush (v := nI 48) cd_P_putNumber_15 (by decide) ?_
          refine ze_iload_n 2 cd_P_putNumber_17 rfl rfl ?_
          refine ze_iload_n 0 cd_P_putNumber_18 rfl rfl ?_
          refine ze_idiv cd_P_putNumber_19 (by decide) ?_
          refine ze_bipush (v := nI 10) cd_P_putNumber_20 (by decide) ?_
          refine ze_irem cd_P_putNumber_22 (by decide) ?_
          refine ze_iadd cd_P_putNumber_23 ?_
          refine ze_callVv (rm' := zr_P_put) (b := p) (As := [.int ((nI 48) + ((v / (nI 1)) - (v / (nI 1)) / (nI 10) * (nI 10)))]) (rest := []) (kc_P_put hP hL) ⟨rfl, rfl⟩ zy_P_put_ok zm_489 zm_491 zm_5 (ci := 3) rfl rfl (by decide) (by decide) cd_P_putNumber_24 hP.1 rfl rfl (Nat.le_of_ble_eq_true rfl) (fun σ9 sz9 hq9 => ?_)
          obtain ⟨rfl, hF9, S9, hP9, hL9⟩ := hq9
          have hP := hP9
          have hL := hL9
          have hF := hF.trans (hF9.wide (by omega) (by omega))
          refine ze_iload_n 0 cd_P_putNumber_27 rfl rfl ?_
          refine ze_bipush (v := nI 10) cd_P_putNumber_28 (by decide) ?_
          refine ze_idiv cd_P_putNumber_30 (by decide) ?_
          refine ze_top (y := nI 0) (by decide) ?_
          refine ze_istore_n (lv' := [(2, .int (nI 0)), (0, .ref p), (1, .int v)]) cd_P_putNumber_31 rfl (by decide) rfl ?_
          refine ze_goto (tgt := 4) cd_P_putNumber_32 (by decide) ?_
          refine ze_iload_n 0 cd_P_putNumber_4 rfl rfl ?_
          refine ze_iconst (v := nI 1) cd_P_putNumber_5 (by decide) ?_
          refine ze_icmp_lt (tgt := 35) cd_P_putNumber_6 (by decide) (fun _ => ?_) (fun c9 => absurd (by decide) c9)
          refine ze_vret cd_P_putNumber_35 rfl (by decide) (by decide) ⟨rfl, rfl, hF, ?_⟩
          have hE : zputs L (zp_num v) = (zput (zput L ((nI 48) + ((v / (nI 1000)) - (v / (nI 1000)) / (nI 10) * (nI 10)))) ((nI 48) + ((v / (nI 1)) - (v / (nI 1)) / (nI 10) * (nI 10)))) := by (simp only [zp_num, c2, c26, c28, c30]; rfl)
          exact ⟨_, by rw [hE]; exact hP, by rw [hE]; exact hL⟩
      · skip
        refine ze_aload_n 1 cd_P_putNumber_14 rfl rfl ?_
        refine ze_bipush (v := nI 48) cd_P_putNumber_15 (by decide) ?_
        refine ze_iload_n 2 cd_P_putNumber_17 rfl rfl ?_
        refine ze_iload_n 0 cd_P_putNumber_18 rfl rfl ?_
        refine ze_idiv cd_P_putNumber_19 (by decide) ?_
        refine ze_bipush (v := nI 10) cd_P_putNumber_20 (by decide) ?_
        refine ze_irem cd_P_putNumber_22 (by decide) ?_
        refine ze_iadd cd_P_putNumber_23 ?_
        refine ze_callVv (rm' := zr_P_put) (b := p) (As := [.int ((nI 48) + ((v / (nI 10)) - (v / (nI 10)) / (nI 10) * (nI 10)))]) (rest := []) (kc_P_put hP hL) ⟨rfl, rfl⟩ zy_P_put_ok zm_489 zm_491 zm_5 (ci := 3) rfl rfl (by decide) (by decide) cd_P_putNumber_24 hP.1 rfl rfl (Nat.le_of_ble_eq_true rfl) (fun σ9 sz9 hq9 => ?_)
        obtain ⟨rfl, hF9, S9, hP9, hL9⟩ := hq9
        have hP := hP9
        have hL := hL9
        have hF := hF.trans (hF9.wide (by omega) (by omega))
        refine ze_iload_n 0 cd_P_putNumber_27 rfl rfl ?_
        refine ze_bipush (v := nI 10) cd_P_putNumber_28 (by decide) ?_
        refine ze_idiv cd_P_putNumber_30 (by decide) ?_
        refine ze_top (y := nI 1) (by decide) ?_
        refine ze_istore_n (lv' := [(2, .int (nI 1)), (0, .ref p), (1, .int v)]) cd_P_putNumber_31 rfl (by decide) rfl ?_
        refine ze_goto (tgt := 4) cd_P_putNumber_32 (by decide) ?_
        refine ze_iload_n 0 cd_P_putNumber_4 rfl rfl ?_
        refine ze_iconst (v := nI 1) cd_P_putNumber_5 (by decide) ?_
        refine ze_icmp_lt (tgt := 35) cd_P_putNumber_6 (by decide) (fun c9 => absurd c9 (by decide)) (fun _ => ?_)
        refine ze_iload_n 2 cd_P_putNumber_9 rfl rfl ?_
        refine ze_iload_n 0 cd_P_putNumber_10 rfl rfl ?_
        refine ze_icmp_lt (tgt := 27) cd_P_putNumber_11 (by decide) (fun c34 => ?_) (fun c34 => ?_)
        · skip
          refine ze_iload_n 0 cd_P_putNumber_27 rfl rfl ?_
          refine ze_bipush (v := nI 10) cd_P_putNumber_28 (by decide) ?_
          refine ze_idiv cd_P_putNumber_30 (by decide) ?_
          refine ze_top (y := nI 0) (by decide) ?_
          refine ze_istore_n (lv' := [(2, .int (nI 0)), (0, .ref p), (1, .int v)]) cd_P_putNumber_31 rfl (by decide) rfl ?_
          refine ze_goto (tgt := 4) cd_P_putNumber_32 (by decide) ?_
          refine ze_iload_n 0 cd_P_putNumber_4 rfl rfl ?_
          refine ze_iconst (v := nI 1) cd_P_putNumber_5 (by decide) ?_
          refine ze_icmp_lt (tgt := 35) cd_P_putNumber_6 (by decide) (fun _ => ?_) (fun c9 => absurd (by decide) c9)
          refine ze_vret cd_P_putNumber_35 rfl (by decide) (by decide) ⟨rfl, rfl, hF, ?_⟩
          have hE : zputs L (zp_num v) = (zput (zput L ((nI 48) + ((v / (nI 1000)) - (v / (nI 1000)) / (nI 10) * (nI 10)))) ((nI 48) + ((v / (nI 10)) - (v / (nI 10)) / (nI 10) * (nI 10)))) := by (simp only [zp_num, c2, c26, c28, c34]; rfl)
          exact ⟨_, by rw [hE]; exact hP, by rw [hE]; exact hL⟩
        · skip
          refine ze_aload_n 1 cd_P_putNumber_14 rfl rfl ?_
          refine ze_bipush (v := nI 48) cd_P_putNumber_15 (by decide) ?_
          refine ze_iload_n 2 cd_P_putNumber_17 rfl rfl ?_
          refine ze_iload_n 0 cd_P_putNumber_18 rfl rfl ?_
          refine ze_idiv cd_P_putNumber_19 (by decide) ?_
          refine ze_bipush (v := nI 10) cd_P_putNumber_20 (by decide) ?_
          refine ze_irem cd_P_putNumber_22 (by decide) ?_
          refine ze_iadd cd_P_putNumber_23 ?_
          refine ze_callVv (rm' := zr_P_put) (b := p) (As := [.int ((nI 48) + ((v / (nI 1)) - (v / (nI 1)) / (nI 10) * (nI 10)))]) (rest := []) (kc_P_put hP hL) ⟨rfl, rfl⟩ zy_P_put_ok zm_489 zm_491 zm_5 (ci := 3) rfl rfl (by decide) (by decide) cd_P_putNumber_24 hP.1 rfl rfl (Nat.le_of_ble_eq_true rfl) (fun σ9 sz9 hq9 => ?_)
          obtain ⟨rfl, hF9, S9, hP9, hL9⟩ := hq9
          have hP := hP9
          have hL := hL9
          have hF := hF.trans (hF9.wide (by omega) (by omega))
          refine ze_iload_n 0 cd_P_putNumber_27 rfl rfl ?_
          refine ze_bipush (v := nI 10) cd_P_putNumber_28 (by decide) ?_
          refine ze_idiv cd_P_putNumber_30 (by decide) ?_
          refine ze_top (y := nI 0) (by decide) ?_
          refine ze_istore_n (lv' := [(2, .int (nI 0)), (0, .ref p), (1, .int v)]) cd_P_putNumber_31 rfl (by decide) rfl ?_
          refine ze_goto (tgt := 4) cd_P_putNumber_32 (by decide) ?_
          refine ze_iload_n 0 cd_P_putNumber_4 rfl rfl ?_
          refine ze_iconst (v := nI 1) cd_P_putNumber_5 (by decide) ?_
          refine ze_icmp_lt (tgt := 35) cd_P_putNumber_6 (by decide) (fun _ => ?_) (fun c9 => absurd (by decide) c9)
          refine ze_vret cd_P_putNumber_35 rfl (by decide) (by decide) ⟨rfl, rfl, hF, ?_⟩
          have hE : zputs L (zp_num v) = (zput (zput (zput L ((nI 48) + ((v / (nI 1000)) - (v / (nI 1000)) / (nI 10) * (nI 10)))) ((nI 48) + ((v / (nI 10)) - (v / (nI 10)) / (nI 10) * (nI 10)))) ((nI 48) + ((v / (nI 1)) - (v / (nI 1)) / (nI 10) * (nI 10)))) := by (simp only [zp_num, c2, c26, c28, c34]; rfl)
          exact ⟨_, by rw [hE]; exact hP, by rw [hE]; exact hL⟩
    · skip
      refine ze_aload_n 1 cd_P_putNumber_14 rfl rfl ?_
      refine ze_bipush (v := nI 48) cd_P_putNumber_15 (by decide) ?_
      refine ze_iload_n 2 cd_P_putNumber_17 rfl rfl ?_
      refine ze_iload_n 0 cd_P_putNumber_18 rfl rfl ?_
      refine ze_idiv cd_P_putNumber_19 (by decide) ?_
      refine ze_bipush (v := nI 10) cd_P_putNumber_20 (by decide) ?_
      refine ze_irem cd_P_putNumber_22 (by decide) ?_
      refine ze_iadd cd_P_putNumber_23 ?_
      refine ze_callVv (rm' := zr_P_put) (b := p) (As := [.int ((nI 48) + ((v / (nI 100)) - (v / (nI 100)) / (nI 10) * (nI 10)))]) (rest := []) (kc_P_put hP hL) ⟨rfl, rfl⟩ zy_P_put_ok zm_489 zm_491 zm_5 (ci := 3) rfl rfl (by decide) (by decide) cd_P_putNumber_24 hP.1 rfl rfl (Nat.le_of_ble_eq_true rfl) (fun σ9 sz9 hq9 => ?_)
      obtain ⟨rfl, hF9, S9, hP9, hL9⟩ := hq9
      have hP := hP9
      have hL := hL9
      have hF := hF.trans (hF9.wide (by omega) (by omega))
      refine ze_iload_n 0 cd_P_putNumber_27 rfl rfl ?_
      refine ze_bipush (v := nI 10) cd_P_putNumber_28 (by decide) ?_
      refine ze_idiv cd_P_putNumber_30 (by decide) ?_
      refine ze_top (y := nI 10) (by decide) ?_
      refine ze_istore_n (lv' := [(2, .int (nI 10)), (0, .ref p), (1, .int v)]) cd_P_putNumber_31 rfl (by decide) rfl ?_
      refine ze_goto (tgt := 4) cd_P_putNumber_32 (by decide) ?_
      refine ze_iload_n 0 cd_P_putNumber_4 rfl rfl ?_
      refine ze_iconst (v := nI 1) cd_P_putNumber_5 (by decide) ?_
      refine ze_icmp_lt (tgt := 35) cd_P_putNumber_6 (by decide) (fun c9 => absurd c9 (by decide)) (fun _ => ?_)
      refine ze_iload_n 2 cd_P_putNumber_9 rfl rfl ?_
      refine ze_iload_n 0 cd_P_putNumber_10 rfl rfl ?_
      refine ze_icmp_lt (tgt := 27) cd_P_putNumber_11 (by decide) (fun c38 => ?_) (fun c38 => ?_)
      · skip
        refine ze_iload_n 0 cd_P_putNumber_27 rfl rfl ?_
        refine ze_bipush (v := nI 10) cd_P_putNumber_28 (by decide) ?_
        refine ze_idiv cd_P_putNumber_30 (by decide) ?_
        refine ze_top (y := nI 1) (by decide) ?_
        refine ze_istore_n (lv' := [(2, .int (nI 1)), (0, .ref p), (1, .int v)]) cd_P_putNumber_31 rfl (by decide) rfl ?_
        refine ze_goto (tgt := 4) cd_P_putNumber_32 (by decide) ?_
        refine ze_iload_n 0 cd_P_putNumber_4 rfl rfl ?_
        refine ze_iconst (v := nI 1) cd_P_putNumber_5 (by decide) ?_
        refine ze_icmp_lt (tgt := 35) cd_P_putNumber_6 (by decide) (fun c9 => absurd c9 (by decide)) (fun _ => ?_)
        refine ze_iload_n 2 cd_P_putNumber_9 rfl rfl ?_
        refine ze_iload_n 0 cd_P_putNumber_10 rfl rfl ?_
        refine ze_icmp_lt (tgt := 27) cd_P_putNumber_11 (by decide) (fun c40 => ?_) (fun c40 => ?_)
        · skip
          refine ze_iload_n 0 cd_P_putNumber_27 rfl rfl ?_
          refine ze_bipush (v := nI 10) cd_P_putNumber_28 (by decide) ?_
          refine ze_idiv cd_P_putNumber_30 (by decide) ?_
          refine ze_top (y := nI 0) (by decide) ?_
          refine ze_istore_n (lv' := [(2, .int (nI 0)), (0, .ref p), (1, .int v)]) cd_P_putNumber_31 rfl (by decide) rfl ?_
          refine ze_goto (tgt := 4) cd_P_putNumber_32 (by decide) ?_
          refine ze_iload_n 0 cd_P_putNumber_4 rfl rfl ?_
          refine ze_iconst (v := nI 1) cd_P_putNumber_5 (by decide) ?_
          refine ze_icmp_lt (tgt := 35) cd_P_putNumber_6 (by decide) (fun _ => ?_) (fun c9 => absurd (by decide) c9)
          refine ze_vret cd_P_putNumber_35 rfl (by decide) (by decide) ⟨rfl, rfl, hF, ?_⟩
          have hE : zputs L (zp_num v) = (zput (zput L ((nI 48) + ((v / (nI 1000)) - (v / (nI 1000)) / (nI 10) * (nI 10)))) ((nI 48) + ((v / (nI 100)) - (v / (nI 100)) / (nI 10) * (nI 10)))) := by (simp only [zp_num, c2, c26, c38, c40]; rfl)
          exact ⟨_, by rw [hE]; exact hP, by rw [hE]; exact hL⟩
        · skip
          refine ze_aload_n 1 cd_P_putNumber_14 rfl rfl ?_
          refine ze_bipush (v := nI 48) cd_P_putNumber_15 (by decide) ?_
          refine ze_iload_n 2 cd_P_putNumber_17 rfl rfl ?_
          refine ze_iload_n 0 cd_P_putNumber_18 rfl rfl ?_
          refine ze_idiv cd_P_putNumber_19 (by decide) ?_
          refine ze_bipush (v := nI 10) cd_P_putNumber_20 (by decide) ?_
          refine ze_irem cd_P_putNumber_22 (by decide) ?_
          refine ze_iadd cd_P_putNumber_23 ?_
          refine ze_callVv (rm' := zr_P_put) (b := p) (As := [.int ((nI 48) + ((v / (nI 1)) - (v / (nI 1)) / (nI 10) * (nI 10)))]) (rest := []) (kc_P_put hP hL) ⟨rfl, rfl⟩ zy_P_put_ok zm_489 zm_491 zm_5 (ci := 3) rfl rfl (by decide) (by decide) cd_P_putNumber_24 hP.1 rfl rfl (Nat.le_of_ble_eq_true rfl) (fun σ9 sz9 hq9 => ?_)
          obtain ⟨rfl, hF9, S9, hP9, hL9⟩ := hq9
          have hP := hP9
          have hL := hL9
          have hF := hF.trans (hF9.wide (by omega) (by omega))
          refine ze_iload_n 0 cd_P_putNumber_27 rfl rfl ?_
          refine ze_bipush (v := nI 10) cd_P_putNumber_28 (by decide) ?_
          refine ze_idiv cd_P_putNumber_30 (by decide) ?_
          refine ze_top (y := nI 0) (by decide) ?_
          refine ze_istore_n (lv' := [(2, .int (nI 0)), (0, .ref p), (1, .int v)]) cd_P_putNumber_31 rfl (by decide) rfl ?_
          refine ze_goto (tgt := 4) cd_P_putNumber_32 (by decide) ?_
          refine ze_iload_n 0 cd_P_putNumber_4 rfl rfl ?_
          refine ze_iconst (v := nI 1) cd_P_putNumber_5 (by decide) ?_
          refine ze_icmp_lt (tgt := 35) cd_P_putNumber_6 (by decide) (fun _ => ?_) (fun c9 => absurd (by decide) c9)
          refine ze_vret cd_P_putNumber_35 rfl (by decide) (by decide) ⟨rfl, rfl, hF, ?_⟩
          have hE : zputs L (zp_num v) = (zput (zput (zput L ((nI 48) + ((v / (nI 1000)) - (v / (nI 1000)) / (nI 10) * (nI 10)))) ((nI 48) + ((v / (nI 100)) - (v / (nI 100)) / (nI 10) * (nI 10)))) ((nI 48) + ((v / (nI 1)) - (v / (nI 1)) / (nI 10) * (nI 10)))) := by (simp only [zp_num, c2, c26, c38, c40]; rfl)
          exact ⟨_, by rw [hE]; exact hP, by rw [hE]; exact hL⟩
      · skip
        refine ze_aload_n 1 cd_P_putNumber_14 rfl rfl ?_
        refine ze_bipush (v := nI 48) cd_P_putNumber_15 (by decide) ?_
        refine ze_iload_n 2 cd_P_putNumber_17 rfl rfl ?_
        refine ze_iload_n 0 cd_P_putNumber_18 rfl rfl ?_
        refine ze_idiv cd_P_putNumber_19 (by decide) ?_
        refine ze_bipush (v := nI 10) cd_P_putNumber_20 (by decide) ?_
        refine ze_irem cd_P_putNumber_22 (by decide) ?_
        refine ze_iadd cd_P_putNumber_23 ?_
        refine ze_callVv (rm' := zr_P_put) (b := p) (As := [.int ((nI 48) + ((v / (nI 10)) - (v / (nI 10)) / (nI 10) * (nI 10)))]) (rest := []) (kc_P_put hP hL) ⟨rfl, rfl⟩ zy_P_put_ok zm_489 zm_491 zm_5 (ci := 3) rfl rfl (by decide) (by decide) cd_P_putNumber_24 hP.1 rfl rfl (Nat.le_of_ble_eq_true rfl) (fun σ9 sz9 hq9 => ?_)
        obtain ⟨rfl, hF9, S9, hP9, hL9⟩ := hq9
        have hP := hP9
        have hL := hL9
        have hF := hF.trans (hF9.wide (by omega) (by omega))
        refine ze_iload_n 0 cd_P_putNumber_27 rfl rfl ?_
        refine ze_bipush (v := nI 10) cd_P_putNumber_28 (by decide) ?_
        refine ze_idiv cd_P_putNumber_30 (by decide) ?_
        refine ze_top (y := nI 1) (by decide) ?_
        refine ze_istore_n (lv' := [(2, .int (nI 1)), (0, .ref p), (1, .int v)]) cd_P_putNumber_31 rfl (by decide) rfl ?_
        refine ze_goto (tgt := 4) cd_P_putNumber_32 (by decide) ?_
        refine ze_iload_n 0 cd_P_putNumber_4 rfl rfl ?_
        refine ze_iconst (v := nI 1) cd_P_putNumber_5 (by decide) ?_
        refine ze_icmp_lt (tgt := 35) cd_P_putNumber_6 (by decide) (fun c9 => absurd c9 (by decide)) (fun _ => ?_)
        refine ze_iload_n 2 cd_P_putNumber_9 rfl rfl ?_
        refine ze_iload_n 0 cd_P_putNumber_10 rfl rfl ?_
        refine ze_icmp_lt (tgt := 27) cd_P_putNumber_11 (by decide) (fun c44 => ?_) (fun c44 => ?_)
        · skip
          refine ze_iload_n 0 cd_P_putNumber_27 rfl rfl ?_
          refine ze_bipush (v := nI 10) cd_P_putNumber_28 (by decide) ?_
          refine ze_idiv cd_P_putNumber_30 (by decide) ?_
          refine ze_top (y := nI 0) (by decide) ?_
          refine ze_istore_n (lv' := [(2, .int (nI 0)), (0, .ref p), (1, .int v)]) cd_P_putNumber_31 rfl (by decide) rfl ?_
          refine ze_goto (tgt := 4) cd_P_putNumber_32 (by decide) ?_
          refine ze_iload_n 0 cd_P_putNumber_4 rfl rfl ?_
          refine ze_iconst (v := nI 1) cd_P_putNumber_5 (by decide) ?_
          refine ze_icmp_lt (tgt := 35) cd_P_putNumber_6 (by decide) (fun _ => ?_) (fun c9 => absurd (by decide) c9)
          refine ze_vret cd_P_putNumber_35 rfl (by decide) (by decide) ⟨rfl, rfl, hF, ?_⟩
          have hE : zputs L (zp_num v) = (zput (zput (zput L ((nI 48) + ((v / (nI 1000)) - (v / (nI 1000)) / (nI 10) * (nI 10)))) ((nI 48) + ((v / (nI 100)) - (v / (nI 100)) / (nI 10) * (nI 10)))) ((nI 48) + ((v / (nI 10)) - (v / (nI 10)) / (nI 10) * (nI 10)))) := by (simp only [zp_num, c2, c26, c38, c44]; rfl)
          exact ⟨_, by rw [hE]; exact hP, by rw [hE]; exact hL⟩
        · skip
          refine ze_aload_n 1 cd_P_putNumber_14 rfl rfl ?_
          refine ze_bipush (v := nI 48) cd_P_putNumber_15 (by decide) ?_
          refine ze_iload_n 2 cd_P_putNumber_17 rfl rfl ?_
          refine ze_iload_n 0 cd_P_putNumber_18 rfl rfl ?_
          refine ze_idiv cd_P_putNumber_19 (by decide) ?_
          refine ze_bipush (v := nI 10) cd_P_putNumber_20 (by decide) ?_
          refine ze_irem cd_P_putNumber_22 (by decide) ?_
          refine ze_iadd cd_P_putNumber_23 ?_
          refine ze_callVv (rm' := zr_P_put) (b := p) (As := [.int ((nI 48) + ((v / (nI 1)) - (v / (nI 1)) / (nI 10) * (nI 10)))]) (rest := []) (kc_P_put hP hL) ⟨rfl, rfl⟩ zy_P_put_ok zm_489 zm_491 zm_5 (ci := 3) rfl rfl (by decide) (by decide) cd_P_putNumber_24 hP.1 rfl rfl (Nat.le_of_ble_eq_true rfl) (fun σ9 sz9 hq9 => ?_)
          obtain ⟨rfl, hF9, S9, hP9, hL9⟩ := hq9
          have hP := hP9
          have hL := hL9
          have hF := hF.trans (hF9.wide (by omega) (by omega))
          refine ze_iload_n 0 cd_P_putNumber_27 rfl rfl ?_
          refine ze_bipush (v := nI 10) cd_P_putNumber_28 (by decide) ?_
          refine ze_idiv cd_P_putNumber_30 (by decide) ?_
          refine ze_top (y := nI 0) (by decide) ?_
          refine ze_istore_n (lv' := [(2, .int (nI 0)), (0, .ref p), (1, .int v)]) cd_P_putNumber_31 rfl (by decide) rfl ?_
          refine ze_goto (tgt := 4) cd_P_putNumber_32 (by decide) ?_
          refine ze_iload_n 0 cd_P_putNumber_4 rfl rfl ?_
          refine ze_iconst (v := nI 1) cd_P_putNumber_5 (by decide) ?_
          refine ze_icmp_lt (tgt := 35) cd_P_putNumber_6 (by decide) (fun _ => ?_) (fun c9 => absurd (by decide) c9)
          refine ze_vret cd_P_putNumber_35 rfl (by decide) (by decide) ⟨rfl, rfl, hF, ?_⟩
          have hE : zputs L (zp_num v) = (zput (zput (zput (zput L ((nI 48) + ((v / (nI 1000)) - (v / (nI 1000)) / (nI 10) * (nI 10)))) ((nI 48) + ((v / (nI 100)) - (v / (nI 100)) / (nI 10) * (nI 10)))) ((nI 48) + ((v / (nI 10)) - (v / (nI 10)) / (nI 10) * (nI 10)))) ((nI 48) + ((v / (nI 1)) - (v / (nI 1)) / (nI 10) * (nI 10)))) := by (simp only [zp_num, c2, c26, c38, c44]; rfl)
          exact ⟨_, by rw [hE]; exact hP, by rw [hE]; exact hL⟩
