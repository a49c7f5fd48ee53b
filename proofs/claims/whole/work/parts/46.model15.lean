theorem zm_nxt_c {n : Nat} {M M' : Nat → Nat → Int32} {dp : Nat → Nat} {top : Int32} {last : Option Nat} (h2 : M' 2 = M 2) (h3 : M' 3 = M 3) (h16 : M' 16 = M 16) : zm_nxt n (zmR M' dp) (M' 16) top last = zm_nxt n (zmR M dp) (M 16) top last := by
  have hb : ∀ x y, zl_beh (zmR M' dp) x y = zl_beh (zmR M dp) x y := fun x y => by
    unfold zl_beh
    rw [show zmR M' dp 1 = zmR M dp 1 from h2]
  have h : zm_nxt1 (zmR M' dp) (M' 16) top last = zm_nxt1 (zmR M dp) (M 16) top last := by
    funext s x
    unfold zm_nxt1 zl_nxt1
    rw [h16, show zmR M' dp 2 = zmR M dp 2 from h3]
    have hla : zl_la (zmR M' dp) x last = zl_la (zmR M dp) x last := by
      cases last with
      | none => rfl
      | some l => exact hb x l
    have hlb : zl_lb (zmR M' dp) x s = zl_lb (zmR M dp) x s := by
      cases s with
      | none => rfl
      | some l => exact hb l x
    rw [hla, hlb]
  unfold zm_nxt
  rw [h]
theorem kc_M_next2 {g : zx_G} {σ : zx_M} {sz : Nat} {a size ps lv ot ak pr : Nat} {th wr fr : Int32} {M : Nat → Nat → Int32} {S : Nat → Int32} {dp : Nat → Nat} {top : Int32} {last : Option Nat} (hM : zmo g σ a th size wr ps lv ot ak fr pr (va_up M 20 S)) (hlv : lv ≤ 100) (hl : ∀ l, last = some l → l < 300) : zM g cy_M_next cb_M_next 6 (some .int) zr_M_next 0 0 [.ref a, .int top, .int (zo last)] σ sz (zPp (zo (zm_nxt lv (zmR M dp) (M 16) top last)) σ sz) := by
  have h := kc_M_next (sz := sz) (dp := dp) (top := top) (last := last) hM hlv hl
  rw [zm_nxt_c (M := M) (M' := va_up M 20 S) rfl rfl rfl] at h
  exact h
/-- what a level's rows must say, to be written -/
def zwr (M : Nat → Nat → Int32) (j : Nat) : Prop := (∃ kd, kd < 4 ∧ M 1 j = nI kd) ∧ (M 9 j = nI (zl_t M j) ∧ zl_t M j ≤ 16) ∧ (M 4 j < 0 ↔ M 4 j = -1) ∧ (M 7 j < 0 ↔ M 8 j = -1) ∧ (¬ M 7 j < 0 → ∃ u, u < 3 ∧ M 8 j = nI u)
abbrev zr_M_print : Room := { frames := 3, cells := 0, slots := 0, locals := 65 }
set_option maxRecDepth 100000 in
set_option maxHeartbeats 4000000 in
theorem kc_M_print {g : zx_G} {σ : zx_M} {sz : Nat} {a size ps lv ot ak pr : Nat} {th wr fr : Int32} {M : Nat → Nat → Int32} {pa : Nat → Option Nat} {dp : Nat → Nat} (hM : zmo g σ a th size wr ps lv ot ak fr pr M) (hfo : zfor (M 3) pa dp (fun j => j < lv)) (hlv : lv ≤ 100) (h0 : 0 < lv → dp 0 = 0) (hr : ∀ j, j < lv → pa j = none → j = 0) (hwr : ∀ j, j < lv → zwr M j) (hlen : (zp_from lv (zmR M dp) (M 16) 9 (nI 0)).length ≤ 5000) : zM g cy_M_print cb_M_print 3 (Option.some Jvm.ClassFile.FieldType.int) zr_M_print 0 0 [.ref a] σ sz (zPi (fun v σ' sz' => v = nI (zp_from lv (zmR M dp) (M 16) 9 (nI 0)).length ∧ sz' = sz ∧ zfr σ σ' a 22 ∧ ∃ S', zq S' (zp_from lv (zmR M dp) (M 16) 9 (nI 0)) ∧ zmo g σ' a (nI 0) size wr ps lv ot ak fr (zp_from lv (zmR M dp) (M 16) 9 (nI 0)).length (va_up M 20 S'))) := by
  have hF : zfr σ σ a 22 := zfr.rf
  generalize hX0 : zp_from lv (zmR M dp) (M 16) 9 (nI 0) = X0 at hlen
  have fin : ∀ (L : List Int32) (S : Nat → Int32) (σ1 : zx_M), L = X0 → zq S L → zmo g σ1 a (nI 0) size wr ps lv ot ak fr L.length (va_up M 20 S) → zfr σ σ1 a 22 → zE g "FindingAidModel" cb_M_print 3 (Option.some Jvm.ClassFile.FieldType.int) false zr_M_print 0 0 (zPi (fun v σ' sz' => v = nI X0.length ∧ sz' = sz ∧ zfr σ σ' a 22 ∧ ∃ S', zq S' X0 ∧ zmo g σ' a (nI 0) size wr ps lv ot ak fr X0.length (va_up M 20 S'))) 48 [(2, .int ((-1 : Int32))), (1, .int (nI 0)), (0, .ref a)] [] σ1 sz 0 0 := by
    intro L S σ1 hLX hq hM hF
    refine ze_iload_n 0 cd_M_print_48 rfl rfl ?_
    refine ze_if_ge (tgt := 86) cd_M_print_49 (by decide) (fun c9 => absurd c9 (by decide)) (fun _ => ?_)
    refine ze_iload_n 1 cd_M_print_52 rfl rfl ?_
    refine ze_if_le (tgt := 86) cd_M_print_53 (by decide) (fun _ => ?_) (fun c9 => absurd c9 (by decide))
    refine ze_iload_n 0 cd_M_print_86 rfl rfl ?_
    refine ze_istore_n (lv' := [(1, .int ((-1 : Int32))), (2, .int ((-1 : Int32))), (0, .ref a)]) cd_M_print_87 rfl (by decide) rfl ?_
    refine ze_goto (tgt := 32) cd_M_print_88 (by decide) ?_
    refine ze_iload_n 0 cd_M_print_32 rfl rfl ?_
    refine ze_if_lt (tgt := 91) cd_M_print_33 (by decide) (fun _ => ?_) (fun c9 => absurd (by decide) c9)
    refine ze_aload_n 2 cd_M_print_91 rfl rfl ?_
    refine ze_get zin_M (v := .int (nI L.length)) (ci := 7) rfl 28 (by decide) zm_750 rfl cd_M_print_92 hM.1 rfl ?_
    exact ze_iret cd_M_print_95 rfl (by decide) (by decide) ⟨_, rfl, by rw [hLX], rfl, hF, S, by rw [← hLX]; exact hq, by rw [← hLX]; exact hM⟩
  have desc : ∀ (m p : Nat), p < lv → dp p + m = 9 → M 16 p = 0 → ∀ (L : List Int32) (S : Nat → Int32) (σ1 : zx_M), L.length + (zp_from lv (zmR M dp) (M 16) m (nI p)).length ≤ 5000 → zq S L → zmo g σ1 a (nI 0) size wr ps lv ot ak fr L.length (va_up M 20 S) → zfr σ σ1 a 22 → (∀ (S' : Nat → Int32) (σ2 : zx_M), zq S' (L ++ zp_from lv (zmR M dp) (M 16) m (nI p)) → zmo g σ2 a (nI 0) size wr ps lv ot ak fr (L ++ zp_from lv (zmR M dp) (M 16) m (nI p)).length (va_up M 20 S') → zfr σ σ2 a 22 → zE g "FindingAidModel" cb_M_print 3 (Option.some Jvm.ClassFile.FieldType.int) false zr_M_print 0 0 (zPi (fun v σ' sz' => v = nI X0.length ∧ sz' = sz ∧ zfr σ σ' a 22 ∧ ∃ S', zq S' X0 ∧ zmo g σ' a (nI 0) size wr ps lv ot ak fr X0.length (va_up M 20 S'))) 48 [(2, .int ((-1 : Int32))), (1, .int (nI p)), (0, .ref a)] [] σ2 sz 0 0) → zE g "FindingAidModel" cb_M_print 3 (Option.some Jvm.ClassFile.FieldType.int) false zr_M_print 0 0 (zPi (fun v σ' sz' => v = nI X0.length ∧ sz' = sz ∧ zfr σ σ' a 22 ∧ ∃ S', zq S' X0 ∧ zmo g σ' a (nI 0) size wr ps lv ot ak fr X0.length (va_up M 20 S'))) 32 [(1, .int (nI p)), (0, .ref a)] [] σ1 sz 0 0 := by
    intro m
    induction m with
    | zero => intro p hp hd; have := (hfo p hp).2.1; exfalso; omega
    | succ m ih =>
      intro p hp hd hv L S σ1 hl hq hM hF hK
      have hzp : zi lv (nI p) = some p := zi_nI hp (by omega)
      have hd8 := (hfo p hp).2.1
      have hzd : zl_d (zmR M dp) p = dp p := nI_clamp (by omega)
      have hfr : zp_from lv (zmR M dp) (M 16) (m + 1) (nI p) = zp_line (zmR M dp) p (dp p) (zl_t M p) ++ zp_kids (fun l => zp_from lv (zmR M dp) (M 16) m (nI l)) lv (zmR M dp) (nI p) lv (zl_nxt lv (zmR M dp) (nI p) none) := by
              rw [zp_from, hzp]; simp only; rw [if_pos hv, hzd]; rfl
      rw [hfr] at hl hK
      rw [List.length_append] at hl
      have hhid : ∀ c, c < lv → ¬ M 16 c = 0 → (fun l => zp_from lv (zmR M dp) (M 16) m (nI l)) c = [] := by
              intro c hc hh
              cases m with
              | zero => rfl
              | succ m => show zp_from _ _ _ (m + 1) (nI c) = []; rw [zp_from, zi_nI hc (by omega)]; simp only; rw [if_neg hh]
      have hch : ∀ last c, zm_nxt lv (zmR M dp) (M 16) (nI p) last = some c → c < lv ∧ M 16 c = 0 ∧ M 3 c = nI p ∧ dp c + m = 9 ∧ 0 < c := by
              intro last c hc
              have hi9 := zm_nxt_inv lv (zmR M dp) (M 16) (nI p) last
              rw [hc] at hi9
              obtain ⟨g1, g2, -⟩ := hi9
              simp only [zqv, zqa, Bool.and_eq_true, decide_eq_true_eq] at g2
              have g3 : M 3 c = nI p := g2.2.1
              obtain ⟨b1, b2, b3, b4, b5⟩ := hfo c g1
              cases hpc : pa c with
              | none => rw [hpc] at b3; rw [b3] at g3; exact absurd g3.symm (zn_ne (by omega))
              | some z =>
                rw [hpc] at b3
                rw [b3] at g3
                have hzz := (hfo z (b4 z hpc).1).1
                have : z = p := (nI_eq (by omega) (by omega)).mp g3
                subst this
                have hdc := (b4 z hpc).2
                refine ⟨g1, g2.1, by rw [b3]; rfl, by omega, ?_⟩
                rcases Nat.eq_zero_or_pos c with rfl | h9
                · have := h0 g1; omega
                · exact h9
      have kids : ∀ (b k c : Nat) (L1 : List Int32) (S : Nat → Int32) (σ1 : zx_M), k < b → c < lv → M 3 c = nI p → 0 < c → zcnt (zqa (zmR M dp) (nI p) (some c)) lv ≤ k → L1.length + (zp_kids (fun l => zp_from lv (zmR M dp) (M 16) m (nI l)) lv (zmR M dp) (nI p) k (zl_nxt lv (zmR M dp) (nI p) (some c))).length ≤ 5000 → L1 ++ zp_kids (fun l => zp_from lv (zmR M dp) (M 16) m (nI l)) lv (zmR M dp) (nI p) k (zl_nxt lv (zmR M dp) (nI p) (some c)) = L ++ (zp_line (zmR M dp) p (dp p) (zl_t M p) ++ zp_kids (fun l => zp_from lv (zmR M dp) (M 16) m (nI l)) lv (zmR M dp) (nI p) lv (zl_nxt lv (zmR M dp) (nI p) none)) → zq S L1 → zmo g σ1 a (nI 0) size wr ps lv ot ak fr L1.length (va_up M 20 S) → zfr σ σ1 a 22 → zE g "FindingAidModel" cb_M_print 3 (Option.some Jvm.ClassFile.FieldType.int) false zr_M_print 0 0 (zPi (fun v σ' sz' => v = nI X0.length ∧ sz' = sz ∧ zfr σ σ' a 22 ∧ ∃ S', zq S' X0 ∧ zmo g σ' a (nI 0) size wr ps lv ot ak fr X0.length (va_up M 20 S'))) 48 [(2, .int ((-1 : Int32))), (1, .int (nI c)), (0, .ref a)] [] σ1 sz 0 0 := by
        intro b
        induction b with
        | zero => intro k c L1 S σ1 hk; exact absurd hk (Nat.not_lt_zero _)
        | succ b ihb =>
          intro k c L1 S σ1 hk hc h3c hc0 hcn hl1 hE hq hM hF
          obtain ⟨q1, q2⟩ := zp_kids_V hhid k (some c) hcn
          refine ze_iload_n 0 cd_M_print_48 rfl rfl ?_
          refine ze_if_ge (tgt := 86) cd_M_print_49 (by decide) (fun c9 => absurd c9 (by decide)) (fun _ => ?_)
          refine ze_iload_n 1 cd_M_print_52 rfl rfl ?_
          refine ze_if_le (tgt := 86) cd_M_print_53 (by decide) (fun c3 => ?_) (fun c3 => ?_)
          · skip
            have c3 := c3; rw [← nI_0] at c3
            have c3 : c ≤ 0 := (nI_leI (by omega) (by omega)).mp c3
            exfalso; omega
          · skip
            have c3 := c3; rw [← nI_0] at c3
            have c3 : ¬ c ≤ 0 := fun h9 => c3 ((nI_leI (by omega) (by omega)).mpr h9)
            refine ze_aload_n 2 cd_M_print_56 rfl rfl ?_
            refine ze_aload_n 2 cd_M_print_57 rfl rfl ?_
            refine ze_get zin_M (v := .ref (a + 4)) (ci := 7) rfl 9 (by decide) zm_731 rfl cd_M_print_58 hM.1 rfl ?_
            refine ze_iload_n 1 cd_M_print_61 rfl rfl ?_
            refine ze_iald (j := c) (f := M 3) cd_M_print_62 (hM.2 3 _ rfl) rfl (by omega) (by decide) ?_
            refine ze_top h3c ?_
            refine ze_iload_n 1 cd_M_print_63 rfl rfl ?_
            refine ze_callVp (rm' := zr_M_next) (b := a) (As := [.int (nI p), .int (nI c)]) (rest := []) (kc_M_next2 (M := M) (dp := dp) (top := nI p) (last := (some c)) hM hlv (fun l hl => by cases hl <;> omega)) ⟨rfl, rfl⟩ zy_M_next_ok zm_999 zm_1001 zm_52 (ci := 7) rfl rfl (by decide) (by decide) cd_M_print_64 hM.1 rfl rfl (Nat.le_of_ble_eq_true rfl) ?_
            cases hnx : zm_nxt lv (zmR M dp) (M 16) (nI p) (some c) with
            | none =>
              rw [q1 hnx, List.append_nil] at hE
              refine ze_istore_n (lv' := [(2, .int ((-1 : Int32))), (1, .int (nI c)), (0, .ref a)]) cd_M_print_67 rfl (by decide) rfl ?_
              refine ze_iload_n 0 cd_M_print_68 rfl rfl ?_
              refine ze_if_ge (tgt := 81) cd_M_print_69 (by decide) (fun c9 => absurd c9 (by decide)) (fun _ => ?_)
              refine ze_aload_n 2 cd_M_print_72 rfl rfl ?_
              refine ze_get zin_M (v := .ref (a + 4)) (ci := 7) rfl 9 (by decide) zm_731 rfl cd_M_print_73 hM.1 rfl ?_
              refine ze_iload_n 1 cd_M_print_76 rfl rfl ?_
              refine ze_iald (j := c) (f := M 3) cd_M_print_77 (hM.2 3 _ rfl) rfl (by omega) (by decide) ?_
              refine ze_top h3c ?_
              refine ze_goto (tgt := 82) cd_M_print_78 (by decide) ?_
              refine ze_istore_n (lv' := [(1, .int (nI p)), (2, .int ((-1 : Int32))), (0, .ref a)]) cd_M_print_82 rfl (by decide) rfl ?_
              refine ze_goto (tgt := 48) cd_M_print_83 (by decide) ?_
              exact ze_sub [1, 0, 2] rfl (hK S _ (by rw [← hE]; exact hq) (by rw [← hE]; exact hM) hF)
            | some c2 =>
              obtain ⟨k2, p1, p2, p3⟩ := q2 c2 hnx
              obtain ⟨e1, e2, e3, e4, e5⟩ := hch _ c2 hnx
              rw [p3] at hE hl1
              rw [List.length_append] at hl1
              refine ze_istore_n (lv' := [(2, .int (nI c2)), (1, .int (nI c)), (0, .ref a)]) cd_M_print_67 rfl (by decide) rfl ?_
              refine ze_iload_n 0 cd_M_print_68 rfl rfl ?_
              refine ze_if_ge (tgt := 81) cd_M_print_69 (by decide) (fun _ => ?_) (fun c9 => absurd (nI_pos' (by omega)) c9)
              refine ze_iload_n 1 cd_M_print_81 rfl rfl ?_
              refine ze_istore_n (lv' := [(1, .int (nI c)), (2, .int (nI c2)), (0, .ref a)]) cd_M_print_82 rfl (by decide) rfl ?_
              refine ze_goto (tgt := 48) cd_M_print_83 (by decide) ?_
              refine ze_iload_n 1 cd_M_print_48 rfl rfl ?_
              refine ze_if_ge (tgt := 86) cd_M_print_49 (by decide) (fun _ => ?_) (fun c9 => absurd (nI_pos' (by omega)) c9)
              refine ze_iload_n 1 cd_M_print_86 rfl rfl ?_
              refine ze_istore_n (lv' := [(1, .int (nI c2)), (2, .int (nI c2)), (0, .ref a)]) cd_M_print_87 rfl (by decide) rfl ?_
              refine ze_goto (tgt := 32) cd_M_print_88 (by decide) ?_
              exact ze_sub [0, 2] rfl (ih c2 e1 e4 e2 L1 S _ (by have := hl1; omega) hq hM hF (fun S2 σ2 hq2 hM2 hF2 => ihb k2 c2 _ S2 σ2 (by omega) e1 e3 e5 p2 (by rw [List.length_append]; have := hl1; omega) (by rw [← hE, List.append_assoc]) hq2 hM2 hF2))
      obtain ⟨q1, q2⟩ := zp_kids_V hhid lv none (zcnt_le _ _)
      refine ze_iload_n 0 cd_M_print_32 rfl rfl ?_
      refine ze_if_lt (tgt := 91) cd_M_print_33 (by decide) (fun c9 => absurd c9 (nI_pos (by omega))) (fun _ => ?_)
      refine ze_aload_n 1 cd_M_print_36 rfl rfl ?_
      refine ze_iload_n 0 cd_M_print_37 rfl rfl ?_
      obtain ⟨⟨kd, hkd4, hkd⟩, ⟨ht9, ht16⟩, h4, h7, h8⟩ := hwr p (by omega)
      refine ze_callVv (rm' := zr_M_write) (b := a) (As := [.int (nI p)]) (rest := []) (kc_M_write (L := L) (pa := pa) (dp := dp) (i := p) (kd := kd) (t := zl_t M p) hM hq (by omega) hfo (by omega) hlv hkd hkd4 ht9 ht16 h4 h7 h8) ⟨rfl, rfl⟩ zy_M_write_ok zm_987 zm_989 zm_49 (ci := 7) rfl rfl (by decide) (by decide) cd_M_print_38 hM.1 rfl rfl (Nat.le_of_ble_eq_true rfl) (fun σ9 sz9 hq9 => ?_)
      obtain ⟨rfl, hF9, S, hq, hM⟩ := hq9
      have hF := hF.trans hF9
      refine ze_aload_n 1 cd_M_print_41 rfl rfl ?_
      refine ze_iload_n 0 cd_M_print_42 rfl rfl ?_
      refine ze_iconst (v := (-1 : Int32)) cd_M_print_43 (by decide) ?_
      refine ze_callVp (rm' := zr_M_next) (b := a) (As := [.int (nI p), .int ((-1 : Int32))]) (rest := []) (kc_M_next2 (M := M) (dp := dp) (top := nI p) (last := none) hM hlv (fun l hl => by cases hl <;> omega)) ⟨rfl, rfl⟩ zy_M_next_ok zm_999 zm_1001 zm_52 (ci := 7) rfl rfl (by decide) (by decide) cd_M_print_44 hM.1 rfl rfl (Nat.le_of_ble_eq_true rfl) ?_
      cases hnx : zm_nxt lv (zmR M dp) (M 16) (nI p) none with
      | none =>
        rw [q1 hnx, List.append_nil] at hK
        refine ze_istore_n (lv' := [(2, .int ((-1 : Int32))), (1, .int (nI p)), (0, .ref a)]) cd_M_print_47 rfl (by decide) rfl ?_
        exact ze_sub [0, 1, 2] rfl (hK S _ hq hM hF)
      | some c2 =>
        obtain ⟨k2, p1, p2, p3⟩ := q2 c2 hnx
        obtain ⟨e1, e2, e3, e4, e5⟩ := hch _ c2 hnx
        have hl2 := hl
        rw [p3, List.length_append] at hl2
        refine ze_istore_n (lv' := [(2, .int (nI c2)), (1, .int (nI p)), (0, .ref a)]) cd_M_print_47 rfl (by decide) rfl ?_
        refine ze_iload_n 0 cd_M_print_48 rfl rfl ?_
        refine ze_if_ge (tgt := 86) cd_M_print_49 (by decide) (fun _ => ?_) (fun c9 => absurd (nI_pos' (by omega)) c9)
        refine ze_iload_n 0 cd_M_print_86 rfl rfl ?_
        refine ze_istore_n (lv' := [(1, .int (nI c2)), (2, .int (nI c2)), (0, .ref a)]) cd_M_print_87 rfl (by decide) rfl ?_
        refine ze_goto (tgt := 32) cd_M_print_88 (by decide) ?_
        exact ze_sub [0, 2] rfl (ih c2 e1 e4 e2 (L ++ zp_line (zmR M dp) p (dp p) (zl_t M p)) S _ (by rw [List.length_append]; have := hl2; omega) hq hM hF (fun S2 σ2 hq2 hM2 hF2 => kids (k2 + 1) k2 c2 _ S2 σ2 (by omega) e1 e3 e5 p2 (by rw [List.length_append, List.length_append]; have := hl2; omega) (by rw [p3]; simp only [List.append_assoc]) hq2 hM2 hF2))
  have hid0 : va_up M 20 (M 20) = M := va_up_id M 20
  refine zM_of (lv := [(0, .ref a)]) (ini := false) (by decide) rfl (by decide) (Nat.le_of_ble_eq_true rfl) rfl ?_
  refine ze_aload_n 0 cd_M_print_0 rfl rfl ?_
  refine ze_iconst (v := nI 0) cd_M_print_1 (by decide) ?_
  refine ze_put zin_M zy_M zt_M zn_M (ci := 7) rfl 0 (by decide) zm_722 rfl (Or.inl rfl) cd_M_print_2 hM.1 rfl rfl (Nat.le_of_ble_eq_true rfl) (fs' := [.int (nI 0), .int (nI size), .ref (a + 1), .int wr, .int (nI ps), .int (nI lv), .int (nI ot), .ref (a + 2), .ref (a + 3), .ref (a + 4), .ref (a + 5), .ref (a + 6), .ref (a + 7), .ref (a + 8), .ref (a + 9), .ref (a + 10), .ref (a + 11), .ref (a + 12), .ref (a + 13), .ref (a + 14), .ref (a + 15), .ref (a + 16), .ref (a + 17), .int (nI ak), .ref (a + 18), .ref (a + 19), .ref (a + 20), .int fr, .int (nI pr), .ref (a + 21)]) rfl ?_
  have hM := hM.put (fs' := [.int (nI 0), .int (nI size), .ref (a + 1), .int wr, .int (nI ps), .int (nI lv), .int (nI ot), .ref (a + 2), .ref (a + 3), .ref (a + 4), .ref (a + 5), .ref (a + 6), .ref (a + 7), .ref (a + 8), .ref (a + 9), .ref (a + 10), .ref (a + 11), .ref (a + 12), .ref (a + 13), .ref (a + 14), .ref (a + 15), .ref (a + 16), .ref (a + 17), .int (nI ak), .ref (a + 18), .ref (a + 19), .ref (a + 20), .int fr, .int (nI pr), .ref (a + 21)])
  have hF := hF.up (a := a) (e := .inr (7, [.int (nI 0), .int (nI size), .ref (a + 1), .int wr, .int (nI ps), .int (nI lv), .int (nI ot), .ref (a + 2), .ref (a + 3), .ref (a + 4), .ref (a + 5), .ref (a + 6), .ref (a + 7), .ref (a + 8), .ref (a + 9), .ref (a + 10), .ref (a + 11), .ref (a + 12), .ref (a + 13), .ref (a + 14), .ref (a + 15), .ref (a + 16), .ref (a + 17), .int (nI ak), .ref (a + 18), .ref (a + 19), .ref (a + 20), .int fr, .int (nI pr), .ref (a + 21)])) (by omega) (by omega)
  refine ze_aload_n 0 cd_M_print_5 rfl rfl ?_
  refine ze_iconst (v := nI 0) cd_M_print_6 (by decide) ?_
  refine ze_put zin_M zy_M zt_M zn_M (ci := 7) rfl 28 (by decide) zm_750 rfl (Or.inl rfl) cd_M_print_7 hM.1 rfl rfl (Nat.le_of_ble_eq_true rfl) (fs' := [.int (nI 0), .int (nI size), .ref (a + 1), .int wr, .int (nI ps), .int (nI lv), .int (nI ot), .ref (a + 2), .ref (a + 3), .ref (a + 4), .ref (a + 5), .ref (a + 6), .ref (a + 7), .ref (a + 8), .ref (a + 9), .ref (a + 10), .ref (a + 11), .ref (a + 12), .ref (a + 13), .ref (a + 14), .ref (a + 15), .ref (a + 16), .ref (a + 17), .int (nI ak), .ref (a + 18), .ref (a + 19), .ref (a + 20), .int fr, .int (nI 0), .ref (a + 21)]) rfl ?_
  have hM := hM.put (fs' := [.int (nI 0), .int (nI size), .ref (a + 1), .int wr, .int (nI ps), .int (nI lv), .int (nI ot), .ref (a + 2), .ref (a + 3), .ref (a + 4), .ref (a + 5), .ref (a + 6), .ref (a + 7), .ref (a + 8), .ref (a + 9), .ref (a + 10), .ref (a + 11), .ref (a + 12), .ref (a + 13), .ref (a + 14), .ref (a + 15), .ref (a + 16), .ref (a + 17), .int (nI ak), .ref (a + 18), .ref (a + 19), .ref (a + 20), .int fr, .int (nI 0), .ref (a + 21)])
  have hF := hF.up (a := a) (e := .inr (7, [.int (nI 0), .int (nI size), .ref (a + 1), .int wr, .int (nI ps), .int (nI lv), .int (nI ot), .ref (a + 2), .ref (a + 3), .ref (a + 4), .ref (a + 5), .ref (a + 6), .ref (a + 7), .ref (a + 8), .ref (a + 9), .ref (a + 10), .ref (a + 11), .ref (a + 12), .ref (a + 13), .ref (a + 14), .ref (a + 15), .ref (a + 16), .ref (a + 17), .int (nI ak), .ref (a + 18), .ref (a + 19), .ref (a + 20), .int fr, .int (nI 0), .ref (a + 21)])) (by omega) (by omega)
  refine ze_aload_n 0 cd_M_print_10 rfl rfl ?_
  refine ze_get zin_M (v := .int (nI lv)) (ci := 7) rfl 5 (by decide) zm_727 rfl cd_M_print_11 hM.1 rfl ?_
  refine ze_if_le (tgt := 30) cd_M_print_14 (by decide) (fun c4 => ?_) (fun c4 => ?_)
  · skip
    have c4 := c4; rw [← nI_0] at c4
    have c4 : lv ≤ 0 := (nI_leI (by omega) (by omega)).mp c4
    refine ze_iconst (v := (-1 : Int32)) cd_M_print_30 (by decide) ?_
    refine ze_istore_n (lv' := [(1, .int ((-1 : Int32))), (0, .ref a)]) cd_M_print_31 rfl (by decide) rfl ?_
    have hLX : ([] : List Int32) = X0 := by rw [← hX0]; unfold zp_from; first | (rw [zi_ge (by rw [show lv = 0 by omega]; decide)]; done) | (rw [zi_nI (show 0 < lv by omega) (by omega)]; simp only; rw [if_neg c4])
    have hq : zq (M 20) [] := fun j hj => absurd hj (Nat.not_lt_zero j)
    rw [← hid0] at hM
    have hM : zmo g _ a (nI 0) size wr ps lv ot ak fr ([] : List Int32).length (va_up M 20 (M 20)) := hM
    generalize M 20 = S at hM hq
    refine ze_iload_n 0 cd_M_print_32 rfl rfl ?_
    refine ze_if_lt (tgt := 91) cd_M_print_33 (by decide) (fun _ => ?_) (fun c9 => absurd (by decide) c9)
    refine ze_aload_n 1 cd_M_print_91 rfl rfl ?_
    refine ze_get zin_M (v := .int (nI ((([] : List Int32)).length))) (ci := 7) rfl 28 (by decide) zm_750 rfl cd_M_print_92 hM.1 rfl ?_
    exact ze_iret cd_M_print_95 rfl (by decide) (by decide) ⟨_, rfl, by rw [hLX], rfl, hF, S, by rw [← hLX]; exact hq, by rw [← hLX]; exact hM⟩
  · skip
    have c4 := c4; rw [← nI_0] at c4
    have c4 : ¬ lv ≤ 0 := fun h9 => c4 ((nI_leI (by omega) (by omega)).mpr h9)
    refine ze_aload_n 0 cd_M_print_17 rfl rfl ?_
    refine ze_get zin_M (v := .ref (a + 17)) (ci := 7) rfl 22 (by decide) zm_744 rfl cd_M_print_18 hM.1 rfl ?_
    refine ze_iconst (v := nI 0) cd_M_print_21 (by decide) ?_
    refine ze_zald (j := 0) cd_M_print_22 (hM.2 16 _ rfl) rfl (by omega) (by decide) ?_
    refine ze_if_ne (tgt := 30) cd_M_print_23 (by decide) (fun c5 => ?_) (fun c5 => ?_)
    · skip
      refine ze_iconst (v := (-1 : Int32)) cd_M_print_30 (by decide) ?_
      refine ze_istore_n (lv' := [(1, .int ((-1 : Int32))), (0, .ref a)]) cd_M_print_31 rfl (by decide) rfl ?_
      have hLX : ([] : List Int32) = X0 := by rw [← hX0]; unfold zp_from; first | (rw [zi_ge (by rw [show lv = 0 by omega]; decide)]; done) | (rw [zi_nI (show 0 < lv by omega) (by omega)]; simp only; rw [if_neg c5])
      have hq : zq (M 20) [] := fun j hj => absurd hj (Nat.not_lt_zero j)
      rw [← hid0] at hM
      have hM : zmo g _ a (nI 0) size wr ps lv ot ak fr ([] : List Int32).length (va_up M 20 (M 20)) := hM
      generalize M 20 = S at hM hq
      refine ze_iload_n 0 cd_M_print_32 rfl rfl ?_
      refine ze_if_lt (tgt := 91) cd_M_print_33 (by decide) (fun _ => ?_) (fun c9 => absurd (by decide) c9)
      refine ze_aload_n 1 cd_M_print_91 rfl rfl ?_
      refine ze_get zin_M (v := .int (nI ((([] : List Int32)).length))) (ci := 7) rfl 28 (by decide) zm_750 rfl cd_M_print_92 hM.1 rfl ?_
      exact ze_iret cd_M_print_95 rfl (by decide) (by decide) ⟨_, rfl, by rw [hLX], rfl, hF, S, by rw [← hLX]; exact hq, by rw [← hLX]; exact hM⟩
    · skip
      refine ze_iconst (v := nI 0) cd_M_print_26 (by decide) ?_
      refine ze_goto (tgt := 31) cd_M_print_27 (by decide) ?_
      refine ze_istore_n (lv' := [(1, .int (nI 0)), (0, .ref a)]) cd_M_print_31 rfl (by decide) rfl ?_
      exact ze_sub [0, 1] rfl (desc 9 0 (by omega) (by have := h0 (by omega); omega) c5 [] (M 20) _ (by rw [hX0]; simp; omega) (fun j hj => absurd hj (Nat.not_lt_zero j)) (by rw [hid0]; exact hM) hF (fun S2 σ2 hq2 hM2 hF2 => fin _ S2 σ2 (by rw [hX0]; rfl) hq2 hM2 hF2))
