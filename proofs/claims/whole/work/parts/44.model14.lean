def zm_nxt1 (R : Nat → Nat → Int32) (hid : Nat → Int32) (top : Int32) (last : Option Nat) (s : Option Nat) (x : Nat) : Option Nat := if hid x = 0 then zl_nxt1 R top last s x else s
def zm_nxt (n : Nat) (R : Nat → Nat → Int32) (hid : Nat → Int32) (top : Int32) (last : Option Nat) : Option Nat := zfold (zm_nxt1 R hid top last) none 0 n
theorem zl_beh_d (R : Nat → Nat → Int32) (a b : Nat) : zl_beh R a b = decide ((R 1 b).toInt < (R 1 a).toInt ∨ ((R 1 a).toInt = (R 1 b).toInt ∧ b < a)) := by
  unfold zl_beh
  split
  · rename_i h; rw [h]; simp
  · rename_i h
    have h2 : ¬ (R 1 a).toInt = (R 1 b).toInt := fun h9 => h (Int32.toInt_inj.mp h9)
    simp [Int32.lt_iff_toInt_lt, h2]
theorem zm_nxt1_lt {R : Nat → Nat → Int32} {hid : Nat → Int32} {top : Int32} {last s : Option Nat} {x m : Nat} (hs : ∀ j, s = some j → j < m) (hx : x < m) : ∀ j, zm_nxt1 R hid top last s x = some j → j < m := by
  unfold zm_nxt1
  split
  · exact zl_nxt1_lt hs hx
  · exact hs
abbrev zr_M_next : Room := { frames := 0, cells := 0, slots := 0, locals := 0 }
set_option maxRecDepth 100000 in
set_option maxHeartbeats 4000000 in
theorem kc_M_next {g : zx_G} {σ : zx_M} {sz : Nat} {a size ps lv ot ak pr : Nat} {th wr fr : Int32} {M : Nat → Nat → Int32} {dp : Nat → Nat} {top : Int32} {last : Option Nat} (hM : zmo g σ a th size wr ps lv ot ak fr pr M) (hlv : lv ≤ 100) (hl : ∀ l, last = some l → l < 300) : zM g cy_M_next cb_M_next 6 (Option.some Jvm.ClassFile.FieldType.int) zr_M_next 0 0 [.ref a, .int top, .int (zo last)] σ sz (zPp (zo (zm_nxt lv (zmR M dp) (M 16) top last)) σ sz) := by
  generalize hX0 : zm_nxt lv (zmR M dp) (M 16) top last = X0
  have loop : ∀ (kk lo : Nat) (s : Option Nat), lo + kk = lv → (∀ j, s = some j → j < lo) → zfold (zm_nxt1 (zmR M dp) (M 16) top last) s lo kk = X0 → zE g "FindingAidModel" cb_M_next 6 (Option.some Jvm.ClassFile.FieldType.int) false zr_M_next 0 0 (zPp (zo (X0)) σ sz) 5 [(4, .int (nI lo)), (3, .int (zo s)), (0, .ref a), (1, .int top), (2, .int (zo last))] [] σ sz 0 0 := by
    intro kk
    induction kk with
    | zero =>
      intro lo s hk hs hE
      refine ze_iload 0 cd_M_next_5 rfl ?_
      refine ze_aload_n 2 cd_M_next_7 rfl rfl ?_
      refine ze_get zin_M (v := .int (nI lv)) (ci := 7) rfl 5 (by decide) zm_727 rfl cd_M_next_8 hM.1 rfl ?_
      refine ze_icmp_ge (tgt := 122) cd_M_next_11 (by decide) (fun c2 => ?_) (fun c2 => ?_)
      · skip
        have c2 : lv ≤ lo := (nI_leI (by omega) (by omega)).mp c2
        refine ze_iload_n 1 cd_M_next_122 rfl rfl ?_
        refine ze_iret cd_M_next_123 rfl (by decide) (by decide) (zPp_mk ?_)
        rw [← hE]; rfl
      · skip
        have c2 : ¬ lv ≤ lo := fun h9 => c2 ((nI_leI (by omega) (by omega)).mpr h9)
        exfalso; omega
    | succ kk ih =>
      intro lo s hk hs hE
      cases last with
      | none =>
        cases s with
        | none =>
          show zE g "FindingAidModel" cb_M_next 6 (Option.some Jvm.ClassFile.FieldType.int) false zr_M_next 0 0 (zPp (zo (X0)) σ sz) 5 [(4, .int (nI lo)), (3, .int ((-1 : Int32))), (0, .ref a), (1, .int top), (2, .int ((-1 : Int32)))] [] σ sz 0 0
          refine ze_iload 0 cd_M_next_5 rfl ?_
          refine ze_aload_n 2 cd_M_next_7 rfl rfl ?_
          refine ze_get zin_M (v := .int (nI lv)) (ci := 7) rfl 5 (by decide) zm_727 rfl cd_M_next_8 hM.1 rfl ?_
          refine ze_icmp_ge (tgt := 122) cd_M_next_11 (by decide) (fun c4 => ?_) (fun c4 => ?_)
          · skip
            have c4 : lv ≤ lo := (nI_leI (by omega) (by omega)).mp c4
            exfalso; omega
          · skip
            have c4 : ¬ lv ≤ lo := fun h9 => c4 ((nI_leI (by omega) (by omega)).mpr h9)
            refine ze_aload_n 2 cd_M_next_14 rfl rfl ?_
            refine ze_get zin_M (v := .ref (a + 4)) (ci := 7) rfl 9 (by decide) zm_731 rfl cd_M_next_15 hM.1 rfl ?_
            refine ze_iload 0 cd_M_next_18 rfl ?_
            refine ze_iald (j := lo) cd_M_next_20 (hM.2 3 _ rfl) rfl (by omega) (by decide) ?_
            refine ze_iload_n 3 cd_M_next_21 rfl rfl ?_
            refine ze_icmp_ne (tgt := 81) cd_M_next_22 (by decide) (fun c5 => ?_) (fun c5 => ?_)
            · skip
              refine ze_iconst (v := nI 0) cd_M_next_81 (by decide) ?_
              refine ze_istore (lv' := [(5, .int (nI 0)), (4, .int (nI lo)), (3, .int ((-1 : Int32))), (0, .ref a), (1, .int top), (2, .int ((-1 : Int32)))]) cd_M_next_82 (by decide) rfl ?_
              refine ze_iload 0 cd_M_next_84 rfl ?_
              refine ze_if_eq (tgt := 114) cd_M_next_86 (by decide) (fun _ => ?_) (fun c9 => absurd c9 (by decide))
              refine ze_iload_n 2 cd_M_next_114 rfl rfl ?_
              refine ze_istore_n (lv' := [(3, .int ((-1 : Int32))), (5, .int (nI 0)), (4, .int (nI lo)), (0, .ref a), (1, .int top), (2, .int ((-1 : Int32)))]) cd_M_next_115 rfl (by decide) rfl ?_
              refine ze_iinc (v := nI (lo + 1)) (lv' := [(4, .int (nI (lo + 1))), (3, .int ((-1 : Int32))), (5, .int (nI 0)), (0, .ref a), (1, .int top), (2, .int ((-1 : Int32)))]) 2 cd_M_next_116 rfl (nI_add _ 1) (by decide) rfl ?_
              refine ze_goto (tgt := 5) cd_M_next_119 (by decide) ?_
              have hstep : zm_nxt1 (zmR M dp) (M 16) top (none) (none) lo = none := by first | (simp [zm_nxt1, zl_nxt1, zl_la, zl_lb, zl_beh, zmR, c5]; done) | (clear ih hE hX0 hM; simp only [zm_nxt1, zl_nxt1, zl_la, zl_lb, zl_beh_d, decide_eq_true_eq, show zmR M dp 2 lo = M 3 lo from rfl, show ∀ z, zmR M dp 1 z = M 2 z from fun _ => rfl]; simp only [Int32.lt_iff_toInt_lt, ← Int32.toInt_inj] at c5 ⊢; (repeat' split) <;> first | rfl | contradiction | (exfalso; omega))
              exact ze_sub [0, 1, 3, 4, 5] rfl (ih (lo + 1) none (by omega) (by rw [← hstep]; exact zm_nxt1_lt (fun j hj => by have := hs j hj; omega) (by omega)) (by rw [← hE]; exact (congrArg (fun z => zfold (zm_nxt1 (zmR M dp) (M 16) top (none)) z (lo + 1) kk) hstep).symm))
            · skip
              refine ze_aload_n 2 cd_M_next_25 rfl rfl ?_
              refine ze_get zin_M (v := .ref (a + 17)) (ci := 7) rfl 22 (by decide) zm_744 rfl cd_M_next_26 hM.1 rfl ?_
              refine ze_iload 0 cd_M_next_29 rfl ?_
              refine ze_zald (j := lo) cd_M_next_31 (hM.2 16 _ rfl) rfl (by omega) (by decide) ?_
              refine ze_if_ne (tgt := 81) cd_M_next_32 (by decide) (fun c7 => ?_) (fun c7 => ?_)
              · skip
                refine ze_iconst (v := nI 0) cd_M_next_81 (by decide) ?_
                refine ze_istore (lv' := [(5, .int (nI 0)), (4, .int (nI lo)), (3, .int ((-1 : Int32))), (0, .ref a), (1, .int top), (2, .int ((-1 : Int32)))]) cd_M_next_82 (by decide) rfl ?_
                refine ze_iload 0 cd_M_next_84 rfl ?_
                refine ze_if_eq (tgt := 114) cd_M_next_86 (by decide) (fun _ => ?_) (fun c9 => absurd c9 (by decide))
                refine ze_iload_n 2 cd_M_next_114 rfl rfl ?_
                refine ze_istore_n (lv' := [(3, .int ((-1 : Int32))), (5, .int (nI 0)), (4, .int (nI lo)), (0, .ref a), (1, .int top), (2, .int ((-1 : Int32)))]) cd_M_next_115 rfl (by decide) rfl ?_
                refine ze_iinc (v := nI (lo + 1)) (lv' := [(4, .int (nI (lo + 1))), (3, .int ((-1 : Int32))), (5, .int (nI 0)), (0, .ref a), (1, .int top), (2, .int ((-1 : Int32)))]) 2 cd_M_next_116 rfl (nI_add _ 1) (by decide) rfl ?_
                refine ze_goto (tgt := 5) cd_M_next_119 (by decide) ?_
                have hstep : zm_nxt1 (zmR M dp) (M 16) top (none) (none) lo = none := by first | (simp [zm_nxt1, zl_nxt1, zl_la, zl_lb, zl_beh, zmR, c5, c7]; done) | (clear ih hE hX0 hM; simp only [zm_nxt1, zl_nxt1, zl_la, zl_lb, zl_beh_d, decide_eq_true_eq, show zmR M dp 2 lo = M 3 lo from rfl, show ∀ z, zmR M dp 1 z = M 2 z from fun _ => rfl]; simp only [Int32.lt_iff_toInt_lt, ← Int32.toInt_inj] at c5 c7 ⊢; (repeat' split) <;> first | rfl | contradiction | (exfalso; omega))
                exact ze_sub [0, 1, 3, 4, 5] rfl (ih (lo + 1) none (by omega) (by rw [← hstep]; exact zm_nxt1_lt (fun j hj => by have := hs j hj; omega) (by omega)) (by rw [← hE]; exact (congrArg (fun z => zfold (zm_nxt1 (zmR M dp) (M 16) top (none)) z (lo + 1) kk) hstep).symm))
              · skip
                refine ze_iload_n 4 cd_M_next_35 rfl rfl ?_
                refine ze_if_lt (tgt := 77) cd_M_next_36 (by decide) (fun _ => ?_) (fun c9 => absurd (by decide) c9)
                refine ze_iconst (v := nI 1) cd_M_next_77 (by decide) ?_
                refine ze_goto (tgt := 82) cd_M_next_78 (by decide) ?_
                refine ze_istore (lv' := [(5, .int (nI 1)), (4, .int (nI lo)), (3, .int ((-1 : Int32))), (0, .ref a), (1, .int top), (2, .int ((-1 : Int32)))]) cd_M_next_82 (by decide) rfl ?_
                refine ze_iload 0 cd_M_next_84 rfl ?_
                refine ze_if_eq (tgt := 114) cd_M_next_86 (by decide) (fun c9 => absurd c9 (by decide)) (fun _ => ?_)
                refine ze_iload_n 2 cd_M_next_89 rfl rfl ?_
                refine ze_if_lt (tgt := 109) cd_M_next_90 (by decide) (fun _ => ?_) (fun c9 => absurd (by decide) c9)
                refine ze_iload 1 cd_M_next_109 rfl ?_
                refine ze_goto (tgt := 115) cd_M_next_111 (by decide) ?_
                refine ze_istore_n (lv' := [(3, .int (nI lo)), (5, .int (nI 1)), (4, .int (nI lo)), (0, .ref a), (1, .int top), (2, .int ((-1 : Int32)))]) cd_M_next_115 rfl (by decide) rfl ?_
                refine ze_iinc (v := nI (lo + 1)) (lv' := [(4, .int (nI (lo + 1))), (3, .int (nI lo)), (5, .int (nI 1)), (0, .ref a), (1, .int top), (2, .int ((-1 : Int32)))]) 2 cd_M_next_116 rfl (nI_add _ 1) (by decide) rfl ?_
                refine ze_goto (tgt := 5) cd_M_next_119 (by decide) ?_
                have hstep : zm_nxt1 (zmR M dp) (M 16) top (none) (none) lo = (some lo) := by first | (simp [zm_nxt1, zl_nxt1, zl_la, zl_lb, zl_beh, zmR, c5, c7]; done) | (clear ih hE hX0 hM; simp only [zm_nxt1, zl_nxt1, zl_la, zl_lb, zl_beh_d, decide_eq_true_eq, show zmR M dp 2 lo = M 3 lo from rfl, show ∀ z, zmR M dp 1 z = M 2 z from fun _ => rfl]; simp only [Int32.lt_iff_toInt_lt, ← Int32.toInt_inj] at c5 c7 ⊢; (repeat' split) <;> first | rfl | contradiction | (exfalso; omega))
                exact ze_sub [0, 1, 3, 4, 5] rfl (ih (lo + 1) (some lo) (by omega) (by rw [← hstep]; exact zm_nxt1_lt (fun j hj => by have := hs j hj; omega) (by omega)) (by rw [← hE]; exact (congrArg (fun z => zfold (zm_nxt1 (zmR M dp) (M 16) top (none)) z (lo + 1) kk) hstep).symm))
        | some b =>
          have hb9 := hs b rfl
          show zE g "FindingAidModel" cb_M_next 6 (Option.some Jvm.ClassFile.FieldType.int) false zr_M_next 0 0 (zPp (zo (X0)) σ sz) 5 [(4, .int (nI lo)), (3, .int (nI b)), (0, .ref a), (1, .int top), (2, .int ((-1 : Int32)))] [] σ sz 0 0
          refine ze_iload 0 cd_M_next_5 rfl ?_
          refine ze_aload_n 2 cd_M_next_7 rfl rfl ?_
          refine ze_get zin_M (v := .int (nI lv)) (ci := 7) rfl 5 (by decide) zm_727 rfl cd_M_next_8 hM.1 rfl ?_
          refine ze_icmp_ge (tgt := 122) cd_M_next_11 (by decide) (fun c11 => ?_) (fun c11 => ?_)
          · skip
            have c11 : lv ≤ lo := (nI_leI (by omega) (by omega)).mp c11
            exfalso; omega
          · skip
            have c11 : ¬ lv ≤ lo := fun h9 => c11 ((nI_leI (by omega) (by omega)).mpr h9)
            refine ze_aload_n 2 cd_M_next_14 rfl rfl ?_
            refine ze_get zin_M (v := .ref (a + 4)) (ci := 7) rfl 9 (by decide) zm_731 rfl cd_M_next_15 hM.1 rfl ?_
            refine ze_iload 0 cd_M_next_18 rfl ?_
            refine ze_iald (j := lo) cd_M_next_20 (hM.2 3 _ rfl) rfl (by omega) (by decide) ?_
            refine ze_iload_n 3 cd_M_next_21 rfl rfl ?_
            refine ze_icmp_ne (tgt := 81) cd_M_next_22 (by decide) (fun c12 => ?_) (fun c12 => ?_)
            · skip
              refine ze_iconst (v := nI 0) cd_M_next_81 (by decide) ?_
              refine ze_istore (lv' := [(5, .int (nI 0)), (4, .int (nI lo)), (3, .int (nI b)), (0, .ref a), (1, .int top), (2, .int ((-1 : Int32)))]) cd_M_next_82 (by decide) rfl ?_
              refine ze_iload 0 cd_M_next_84 rfl ?_
              refine ze_if_eq (tgt := 114) cd_M_next_86 (by decide) (fun _ => ?_) (fun c9 => absurd c9 (by decide))
              refine ze_iload_n 2 cd_M_next_114 rfl rfl ?_
              refine ze_istore_n (lv' := [(3, .int (nI b)), (5, .int (nI 0)), (4, .int (nI lo)), (0, .ref a), (1, .int top), (2, .int ((-1 : Int32)))]) cd_M_next_115 rfl (by decide) rfl ?_
              refine ze_iinc (v := nI (lo + 1)) (lv' := [(4, .int (nI (lo + 1))), (3, .int (nI b)), (5, .int (nI 0)), (0, .ref a), (1, .int top), (2, .int ((-1 : Int32)))]) 2 cd_M_next_116 rfl (nI_add _ 1) (by decide) rfl ?_
              refine ze_goto (tgt := 5) cd_M_next_119 (by decide) ?_
              have hstep : zm_nxt1 (zmR M dp) (M 16) top (none) (some b) lo = (some b) := by first | (simp [zm_nxt1, zl_nxt1, zl_la, zl_lb, zl_beh, zmR, c12]; done) | (clear ih hE hX0 hM; simp only [zm_nxt1, zl_nxt1, zl_la, zl_lb, zl_beh_d, decide_eq_true_eq, show zmR M dp 2 lo = M 3 lo from rfl, show ∀ z, zmR M dp 1 z = M 2 z from fun _ => rfl]; simp only [Int32.lt_iff_toInt_lt, ← Int32.toInt_inj] at c12 ⊢; (repeat' split) <;> first | rfl | contradiction | (exfalso; omega))
              exact ze_sub [0, 1, 3, 4, 5] rfl (ih (lo + 1) (some b) (by omega) (by rw [← hstep]; exact zm_nxt1_lt (fun j hj => by have := hs j hj; omega) (by omega)) (by rw [← hE]; exact (congrArg (fun z => zfold (zm_nxt1 (zmR M dp) (M 16) top (none)) z (lo + 1) kk) hstep).symm))
            · skip
              refine ze_aload_n 2 cd_M_next_25 rfl rfl ?_
              refine ze_get zin_M (v := .ref (a + 17)) (ci := 7) rfl 22 (by decide) zm_744 rfl cd_M_next_26 hM.1 rfl ?_
              refine ze_iload 0 cd_M_next_29 rfl ?_
              refine ze_zald (j := lo) cd_M_next_31 (hM.2 16 _ rfl) rfl (by omega) (by decide) ?_
              refine ze_if_ne (tgt := 81) cd_M_next_32 (by decide) (fun c14 => ?_) (fun c14 => ?_)
              · skip
                refine ze_iconst (v := nI 0) cd_M_next_81 (by decide) ?_
                refine ze_istore (lv' := [(5, .int (nI 0)), (4, .int (nI lo)), (3, .int (nI b)), (0, .ref a), (1, .int top), (2, .int ((-1 : Int32)))]) cd_M_next_82 (by decide) rfl ?_
                refine ze_iload 0 cd_M_next_84 rfl ?_
                refine ze_if_eq (tgt := 114) cd_M_next_86 (by decide) (fun _ => ?_) (fun c9 => absurd c9 (by decide))
                refine ze_iload_n 2 cd_M_next_114 rfl rfl ?_
                refine ze_istore_n (lv' := [(3, .int (nI b)), (5, .int (nI 0)), (4, .int (nI lo)), (0, .ref a), (1, .int top), (2, .int ((-1 : Int32)))]) cd_M_next_115 rfl (by decide) rfl ?_
                refine ze_iinc (v := nI (lo + 1)) (lv' := [(4, .int (nI (lo + 1))), (3, .int (nI b)), (5, .int (nI 0)), (0, .ref a), (1, .int top), (2, .int ((-1 : Int32)))]) 2 cd_M_next_116 rfl (nI_add _ 1) (by decide) rfl ?_
                refine ze_goto (tgt := 5) cd_M_next_119 (by decide) ?_
                have hstep : zm_nxt1 (zmR M dp) (M 16) top (none) (some b) lo = (some b) := by first | (simp [zm_nxt1, zl_nxt1, zl_la, zl_lb, zl_beh, zmR, c12, c14]; done) | (clear ih hE hX0 hM; simp only [zm_nxt1, zl_nxt1, zl_la, zl_lb, zl_beh_d, decide_eq_true_eq, show zmR M dp 2 lo = M 3 lo from rfl, show ∀ z, zmR M dp 1 z = M 2 z from fun _ => rfl]; simp only [Int32.lt_iff_toInt_lt, ← Int32.toInt_inj] at c12 c14 ⊢; (repeat' split) <;> first | rfl | contradiction | (exfalso; omega))
                exact ze_sub [0, 1, 3, 4, 5] rfl (ih (lo + 1) (some b) (by omega) (by rw [← hstep]; exact zm_nxt1_lt (fun j hj => by have := hs j hj; omega) (by omega)) (by rw [← hE]; exact (congrArg (fun z => zfold (zm_nxt1 (zmR M dp) (M 16) top (none)) z (lo + 1) kk) hstep).symm))
              · skip
                refine ze_iload_n 4 cd_M_next_35 rfl rfl ?_
                refine ze_if_lt (tgt := 77) cd_M_next_36 (by decide) (fun _ => ?_) (fun c9 => absurd (by decide) c9)
                refine ze_iconst (v := nI 1) cd_M_next_77 (by decide) ?_
                refine ze_goto (tgt := 82) cd_M_next_78 (by decide) ?_
                refine ze_istore (lv' := [(5, .int (nI 1)), (4, .int (nI lo)), (3, .int (nI b)), (0, .ref a), (1, .int top), (2, .int ((-1 : Int32)))]) cd_M_next_82 (by decide) rfl ?_
                refine ze_iload 0 cd_M_next_84 rfl ?_
                refine ze_if_eq (tgt := 114) cd_M_next_86 (by decide) (fun c9 => absurd c9 (by decide)) (fun _ => ?_)
                refine ze_iload_n 2 cd_M_next_89 rfl rfl ?_
                refine ze_if_lt (tgt := 109) cd_M_next_90 (by decide) (fun c9 => absurd c9 (nI_pos (by omega))) (fun _ => ?_)
                refine ze_aload_n 3 cd_M_next_93 rfl rfl ?_
                refine ze_get zin_M (v := .ref (a + 3)) (ci := 7) rfl 8 (by decide) zm_730 rfl cd_M_next_94 hM.1 rfl ?_
                refine ze_iload 1 cd_M_next_97 rfl ?_
                refine ze_iald (j := lo) cd_M_next_99 (hM.2 2 _ rfl) rfl (by omega) (by decide) ?_
                refine ze_aload_n 3 cd_M_next_100 rfl rfl ?_
                refine ze_get zin_M (v := .ref (a + 3)) (ci := 7) rfl 8 (by decide) zm_730 rfl cd_M_next_101 hM.1 rfl ?_
                refine ze_iload_n 2 cd_M_next_104 rfl rfl ?_
                refine ze_iald (j := b) cd_M_next_105 (hM.2 2 _ rfl) rfl (by omega) (by decide) ?_
                refine ze_icmp_ge (tgt := 114) cd_M_next_106 (by decide) (fun c17 => ?_) (fun c17 => ?_)
                · skip
                  have c17 : ¬ (M 2 lo) < (M 2 b) := Int32.not_lt.mpr c17
                  refine ze_iload_n 2 cd_M_next_114 rfl rfl ?_
                  refine ze_istore_n (lv' := [(3, .int (nI b)), (5, .int (nI 1)), (4, .int (nI lo)), (0, .ref a), (1, .int top), (2, .int ((-1 : Int32)))]) cd_M_next_115 rfl (by decide) rfl ?_
                  refine ze_iinc (v := nI (lo + 1)) (lv' := [(4, .int (nI (lo + 1))), (3, .int (nI b)), (5, .int (nI 1)), (0, .ref a), (1, .int top), (2, .int ((-1 : Int32)))]) 2 cd_M_next_116 rfl (nI_add _ 1) (by decide) rfl ?_
                  refine ze_goto (tgt := 5) cd_M_next_119 (by decide) ?_
                  have hstep : zm_nxt1 (zmR M dp) (M 16) top (none) (some b) lo = (some b) := by first | (simp [zm_nxt1, zl_nxt1, zl_la, zl_lb, zl_beh, zmR, c12, c14, c17]; done) | (clear ih hE hX0 hM; simp only [zm_nxt1, zl_nxt1, zl_la, zl_lb, zl_beh_d, decide_eq_true_eq, show zmR M dp 2 lo = M 3 lo from rfl, show ∀ z, zmR M dp 1 z = M 2 z from fun _ => rfl]; simp only [Int32.lt_iff_toInt_lt, ← Int32.toInt_inj] at c12 c14 c17 ⊢; (repeat' split) <;> first | rfl | contradiction | (exfalso; omega))
                  exact ze_sub [0, 1, 3, 4, 5] rfl (ih (lo + 1) (some b) (by omega) (by rw [← hstep]; exact zm_nxt1_lt (fun j hj => by have := hs j hj; omega) (by omega)) (by rw [← hE]; exact (congrArg (fun z => zfold (zm_nxt1 (zmR M dp) (M 16) top (none)) z (lo + 1) kk) hstep).symm))
                · skip
                  have c17 : (M 2 lo) < (M 2 b) := Int32.not_le.mp c17
                  refine ze_iload 1 cd_M_next_109 rfl ?_
                  refine ze_goto (tgt := 115) cd_M_next_111 (by decide) ?_
                  refine ze_istore_n (lv' := [(3, .int (nI lo)), (5, .int (nI 1)), (4, .int (nI lo)), (0, .ref a), (1, .int top), (2, .int ((-1 : Int32)))]) cd_M_next_115 rfl (by decide) rfl ?_
                  refine ze_iinc (v := nI (lo + 1)) (lv' := [(4, .int (nI (lo + 1))), (3, .int (nI lo)), (5, .int (nI 1)), (0, .ref a), (1, .int top), (2, .int ((-1 : Int32)))]) 2 cd_M_next_116 rfl (nI_add _ 1) (by decide) rfl ?_
                  refine ze_goto (tgt := 5) cd_M_next_119 (by decide) ?_
                  have hstep : zm_nxt1 (zmR M dp) (M 16) top (none) (some b) lo = (some lo) := by first | (simp [zm_nxt1, zl_nxt1, zl_la, zl_lb, zl_beh, zmR, c12, c14, c17]; done) | (clear ih hE hX0 hM; simp only [zm_nxt1, zl_nxt1, zl_la, zl_lb, zl_beh_d, decide_eq_true_eq, show zmR M dp 2 lo = M 3 lo from rfl, show ∀ z, zmR M dp 1 z = M 2 z from fun _ => rfl]; simp only [Int32.lt_iff_toInt_lt, ← Int32.toInt_inj] at c12 c14 c17 ⊢; (repeat' split) <;> first | rfl | contradiction | (exfalso; omega))
                  exact ze_sub [0, 1, 3, 4, 5] rfl (ih (lo + 1) (some lo) (by omega) (by rw [← hstep]; exact zm_nxt1_lt (fun j hj => by have := hs j hj; omega) (by omega)) (by rw [← hE]; exact (congrArg (fun z => zfold (zm_nxt1 (zmR M dp) (M 16) top (none)) z (lo + 1) kk) hstep).symm))
      
      | some l =>
        have hl9 := hl l rfl
        cases s with
        | none =>
          show zE g "FindingAidModel" cb_M_next 6 (Option.some Jvm.ClassFile.FieldType.int) false zr_M_next 0 0 (zPp (zo (X0)) σ sz) 5 [(4, .int (nI lo)), (3, .int ((-1 : Int32))), (0, .ref a), (1, .int top), (2, .int (nI l))] [] σ sz 0 0
          refine ze_iload 0 cd_M_next_5 rfl ?_
          refine ze_aload_n 2 cd_M_next_7 rfl rfl ?_
          refine ze_get zin_M (v := .int (nI lv)) (ci := 7) rfl 5 (by decide) zm_727 rfl cd_M_next_8 hM.1 rfl ?_
          refine ze_icmp_ge (tgt := 122) cd_M_next_11 (by decide) (fun c19 => ?_) (fun c19 => ?_)
          · skip
            have c19 : lv ≤ lo := (nI_leI (by omega) (by omega)).mp c19
            exfalso; omega
          · skip
            have c19 : ¬ lv ≤ lo := fun h9 => c19 ((nI_leI (by omega) (by omega)).mpr h9)
            refine ze_aload_n 2 cd_M_next_14 rfl rfl ?_
            refine ze_get zin_M (v := .ref (a + 4)) (ci := 7) rfl 9 (by decide) zm_731 rfl cd_M_next_15 hM.1 rfl ?_
            refine ze_iload 0 cd_M_next_18 rfl ?_
            refine ze_iald (j := lo) cd_M_next_20 (hM.2 3 _ rfl) rfl (by omega) (by decide) ?_
            refine ze_iload_n 3 cd_M_next_21 rfl rfl ?_
            refine ze_icmp_ne (tgt := 81) cd_M_next_22 (by decide) (fun c20 => ?_) (fun c20 => ?_)
            · skip
              refine ze_iconst (v := nI 0) cd_M_next_81 (by decide) ?_
              refine ze_istore (lv' := [(5, .int (nI 0)), (4, .int (nI lo)), (3, .int ((-1 : Int32))), (0, .ref a), (1, .int top), (2, .int (nI l))]) cd_M_next_82 (by decide) rfl ?_
              refine ze_iload 0 cd_M_next_84 rfl ?_
              refine ze_if_eq (tgt := 114) cd_M_next_86 (by decide) (fun _ => ?_) (fun c9 => absurd c9 (by decide))
              refine ze_iload_n 2 cd_M_next_114 rfl rfl ?_
              refine ze_istore_n (lv' := [(3, .int ((-1 : Int32))), (5, .int (nI 0)), (4, .int (nI lo)), (0, .ref a), (1, .int top), (2, .int (nI l))]) cd_M_next_115 rfl (by decide) rfl ?_
              refine ze_iinc (v := nI (lo + 1)) (lv' := [(4, .int (nI (lo + 1))), (3, .int ((-1 : Int32))), (5, .int (nI 0)), (0, .ref a), (1, .int top), (2, .int (nI l))]) 2 cd_M_next_116 rfl (nI_add _ 1) (by decide) rfl ?_
              refine ze_goto (tgt := 5) cd_M_next_119 (by decide) ?_
              have hstep : zm_nxt1 (zmR M dp) (M 16) top (some l) (none) lo = none := by first | (simp [zm_nxt1, zl_nxt1, zl_la, zl_lb, zl_beh, zmR, c20]; done) | (clear ih hE hX0 hM; simp only [zm_nxt1, zl_nxt1, zl_la, zl_lb, zl_beh_d, decide_eq_true_eq, show zmR M dp 2 lo = M 3 lo from rfl, show ∀ z, zmR M dp 1 z = M 2 z from fun _ => rfl]; simp only [Int32.lt_iff_toInt_lt, ← Int32.toInt_inj] at c20 ⊢; (repeat' split) <;> first | rfl | contradiction | (exfalso; omega))
              exact ze_sub [0, 1, 3, 4, 5] rfl (ih (lo + 1) none (by omega) (by rw [← hstep]; exact zm_nxt1_lt (fun j hj => by have := hs j hj; omega) (by omega)) (by rw [← hE]; exact (congrArg (fun z => zfold (zm_nxt1 (zmR M dp) (M 16) top (some l)) z (lo + 1) kk) hstep).symm))
            · skip
              refine ze_aload_n 2 cd_M_next_25 rfl rfl ?_
              refine ze_get zin_M (v := .ref (a + 17)) (ci := 7) rfl 22 (by decide) zm_744 rfl cd_M_next_26 hM.1 rfl ?_
              refine ze_iload 0 cd_M_next_29 rfl ?_
              refine ze_zald (j := lo) cd_M_next_31 (hM.2 16 _ rfl) rfl (by omega) (by decide) ?_
              refine ze_if_ne (tgt := 81) cd_M_next_32 (by decide) (fun c22 => ?_) (fun c22 => ?_)
              · skip
                refine ze_iconst (v := nI 0) cd_M_next_81 (by decide) ?_
                refine ze_istore (lv' := [(5, .int (nI 0)), (4, .int (nI lo)), (3, .int ((-1 : Int32))), (0, .ref a), (1, .int top), (2, .int (nI l))]) cd_M_next_82 (by decide) rfl ?_
                refine ze_iload 0 cd_M_next_84 rfl ?_
                refine ze_if_eq (tgt := 114) cd_M_next_86 (by decide) (fun _ => ?_) (fun c9 => absurd c9 (by decide))
                refine ze_iload_n 2 cd_M_next_114 rfl rfl ?_
                refine ze_istore_n (lv' := [(3, .int ((-1 : Int32))), (5, .int (nI 0)), (4, .int (nI lo)), (0, .ref a), (1, .int top), (2, .int (nI l))]) cd_M_next_115 rfl (by decide) rfl ?_
                refine ze_iinc (v := nI (lo + 1)) (lv' := [(4, .int (nI (lo + 1))), (3, .int ((-1 : Int32))), (5, .int (nI 0)), (0, .ref a), (1, .int top), (2, .int (nI l))]) 2 cd_M_next_116 rfl (nI_add _ 1) (by decide) rfl ?_
                refine ze_goto (tgt := 5) cd_M_next_119 (by decide) ?_
                have hstep : zm_nxt1 (zmR M dp) (M 16) top (some l) (none) lo = none := by first | (simp [zm_nxt1, zl_nxt1, zl_la, zl_lb, zl_beh, zmR, c20, c22]; done) | (clear ih hE hX0 hM; simp only [zm_nxt1, zl_nxt1, zl_la, zl_lb, zl_beh_d, decide_eq_true_eq, show zmR M dp 2 lo = M 3 lo from rfl, show ∀ z, zmR M dp 1 z = M 2 z from fun _ => rfl]; simp only [Int32.lt_iff_toInt_lt, ← Int32.toInt_inj] at c20 c22 ⊢; (repeat' split) <;> first | rfl | contradiction | (exfalso; omega))
                exact ze_sub [0, 1, 3, 4, 5] rfl (ih (lo + 1) none (by omega) (by rw [← hstep]; exact zm_nxt1_lt (fun j hj => by have := hs j hj; omega) (by omega)) (by rw [← hE]; exact (congrArg (fun z => zfold (zm_nxt1 (zmR M dp) (M 16) top (some l)) z (lo + 1) kk) hstep).symm))
              · skip
                refine ze_iload_n 4 cd_M_next_35 rfl rfl ?_
                refine ze_if_lt (tgt := 77) cd_M_next_36 (by decide) (fun c9 => absurd c9 (nI_pos (by omega))) (fun _ => ?_)
                refine ze_aload_n 2 cd_M_next_39 rfl rfl ?_
                refine ze_get zin_M (v := .ref (a + 3)) (ci := 7) rfl 8 (by decide) zm_730 rfl cd_M_next_40 hM.1 rfl ?_
                refine ze_iload 0 cd_M_next_43 rfl ?_
                refine ze_iald (j := lo) cd_M_next_45 (hM.2 2 _ rfl) rfl (by omega) (by decide) ?_
                refine ze_aload_n 2 cd_M_next_46 rfl rfl ?_
                refine ze_get zin_M (v := .ref (a + 3)) (ci := 7) rfl 8 (by decide) zm_730 rfl cd_M_next_47 hM.1 rfl ?_
                refine ze_iload_n 4 cd_M_next_50 rfl rfl ?_
                refine ze_iald (j := l) cd_M_next_51 (hM.2 2 _ rfl) rfl (by omega) (by decide) ?_
                refine ze_icmp_gt (tgt := 77) cd_M_next_52 (by decide) (fun c24 => ?_) (fun c24 => ?_)
                · skip
                  refine ze_iconst (v := nI 1) cd_M_next_77 (by decide) ?_
                  refine ze_goto (tgt := 82) cd_M_next_78 (by decide) ?_
                  refine ze_istore (lv' := [(5, .int (nI 1)), (4, .int (nI lo)), (3, .int ((-1 : Int32))), (0, .ref a), (1, .int top), (2, .int (nI l))]) cd_M_next_82 (by decide) rfl ?_
                  refine ze_iload 0 cd_M_next_84 rfl ?_
                  refine ze_if_eq (tgt := 114) cd_M_next_86 (by decide) (fun c9 => absurd c9 (by decide)) (fun _ => ?_)
                  refine ze_iload_n 2 cd_M_next_89 rfl rfl ?_
                  refine ze_if_lt (tgt := 109) cd_M_next_90 (by decide) (fun _ => ?_) (fun c9 => absurd (by decide) c9)
                  refine ze_iload 1 cd_M_next_109 rfl ?_
                  refine ze_goto (tgt := 115) cd_M_next_111 (by decide) ?_
                  refine ze_istore_n (lv' := [(3, .int (nI lo)), (5, .int (nI 1)), (4, .int (nI lo)), (0, .ref a), (1, .int top), (2, .int (nI l))]) cd_M_next_115 rfl (by decide) rfl ?_
                  refine ze_iinc (v := nI (lo + 1)) (lv' := [(4, .int (nI (lo + 1))), (3, .int (nI lo)), (5, .int (nI 1)), (0, .ref a), (1, .int top), (2, .int (nI l))]) 2 cd_M_next_116 rfl (nI_add _ 1) (by decide) rfl ?_
                  refine ze_goto (tgt := 5) cd_M_next_119 (by decide) ?_
                  have hstep : zm_nxt1 (zmR M dp) (M 16) top (some l) (none) lo = (some lo) := by first | (simp [zm_nxt1, zl_nxt1, zl_la, zl_lb, zl_beh, zmR, c20, c22, c24]; done) | (clear ih hE hX0 hM; simp only [zm_nxt1, zl_nxt1, zl_la, zl_lb, zl_beh_d, decide_eq_true_eq, show zmR M dp 2 lo = M 3 lo from rfl, show ∀ z, zmR M dp 1 z = M 2 z from fun _ => rfl]; simp only [Int32.lt_iff_toInt_lt, ← Int32.toInt_inj] at c20 c22 c24 ⊢; (repeat' split) <;> first | rfl | contradiction | (exfalso; omega))
                  exact ze_sub [0, 1, 3, 4, 5] rfl (ih (lo + 1) (some lo) (by omega) (by rw [← hstep]; exact zm_nxt1_lt (fun j hj => by have := hs j hj; omega) (by omega)) (by rw [← hE]; exact (congrArg (fun z => zfold (zm_nxt1 (zmR M dp) (M 16) top (some l)) z (lo + 1) kk) hstep).symm))
                · skip
                  refine ze_aload_n 2 cd_M_next_55 rfl rfl ?_
                  refine ze_get zin_M (v := .ref (a + 3)) (ci := 7) rfl 8 (by decide) zm_730 rfl cd_M_next_56 hM.1 rfl ?_
                  refine ze_iload 0 cd_M_next_59 rfl ?_
                  refine ze_iald (j := lo) cd_M_next_61 (hM.2 2 _ rfl) rfl (by omega) (by decide) ?_
                  refine ze_aload_n 2 cd_M_next_62 rfl rfl ?_
                  refine ze_get zin_M (v := .ref (a + 3)) (ci := 7) rfl 8 (by decide) zm_730 rfl cd_M_next_63 hM.1 rfl ?_
                  refine ze_iload_n 4 cd_M_next_66 rfl rfl ?_
                  refine ze_iald (j := l) cd_M_next_67 (hM.2 2 _ rfl) rfl (by omega) (by decide) ?_
                  refine ze_icmp_ne (tgt := 81) cd_M_next_68 (by decide) (fun c26 => ?_) (fun c26 => ?_)
                  · skip
                    refine ze_iconst (v := nI 0) cd_M_next_81 (by decide) ?_
                    refine ze_istore (lv' := [(5, .int (nI 0)), (4, .int (nI lo)), (3, .int ((-1 : Int32))), (0, .ref a), (1, .int top), (2, .int (nI l))]) cd_M_next_82 (by decide) rfl ?_
                    refine ze_iload 0 cd_M_next_84 rfl ?_
                    refine ze_if_eq (tgt := 114) cd_M_next_86 (by decide) (fun _ => ?_) (fun c9 => absurd c9 (by decide))
                    refine ze_iload_n 2 cd_M_next_114 rfl rfl ?_
                    refine ze_istore_n (lv' := [(3, .int ((-1 : Int32))), (5, .int (nI 0)), (4, .int (nI lo)), (0, .ref a), (1, .int top), (2, .int (nI l))]) cd_M_next_115 rfl (by decide) rfl ?_
                    refine ze_iinc (v := nI (lo + 1)) (lv' := [(4, .int (nI (lo + 1))), (3, .int ((-1 : Int32))), (5, .int (nI 0)), (0, .ref a), (1, .int top), (2, .int (nI l))]) 2 cd_M_next_116 rfl (nI_add _ 1) (by decide) rfl ?_
                    refine ze_goto (tgt := 5) cd_M_next_119 (by decide) ?_
                    have hstep : zm_nxt1 (zmR M dp) (M 16) top (some l) (none) lo = none := by first | (simp [zm_nxt1, zl_nxt1, zl_la, zl_lb, zl_beh, zmR, c20, c22, c24, c26]; done) | (clear ih hE hX0 hM; simp only [zm_nxt1, zl_nxt1, zl_la, zl_lb, zl_beh_d, decide_eq_true_eq, show zmR M dp 2 lo = M 3 lo from rfl, show ∀ z, zmR M dp 1 z = M 2 z from fun _ => rfl]; simp only [Int32.lt_iff_toInt_lt, ← Int32.toInt_inj] at c20 c22 c24 c26 ⊢; (repeat' split) <;> first | rfl | contradiction | (exfalso; omega))
                    exact ze_sub [0, 1, 3, 4, 5] rfl (ih (lo + 1) none (by omega) (by rw [← hstep]; exact zm_nxt1_lt (fun j hj => by have := hs j hj; omega) (by omega)) (by rw [← hE]; exact (congrArg (fun z => zfold (zm_nxt1 (zmR M dp) (M 16) top (some l)) z (lo + 1) kk) hstep).symm))
                  · skip
                    refine ze_iload 0 cd_M_next_71 rfl ?_
                    refine ze_iload_n 4 cd_M_next_73 rfl rfl ?_
                    refine ze_icmp_le (tgt := 81) cd_M_next_74 (by decide) (fun c28 => ?_) (fun c28 => ?_)
                    · skip
                      have c28 : lo ≤ l := (nI_leI (by omega) (by omega)).mp c28
                      refine ze_iconst (v := nI 0) cd_M_next_81 (by decide) ?_
                      refine ze_istore (lv' := [(5, .int (nI 0)), (4, .int (nI lo)), (3, .int ((-1 : Int32))), (0, .ref a), (1, .int top), (2, .int (nI l))]) cd_M_next_82 (by decide) rfl ?_
                      refine ze_iload 0 cd_M_next_84 rfl ?_
                      refine ze_if_eq (tgt := 114) cd_M_next_86 (by decide) (fun _ => ?_) (fun c9 => absurd c9 (by decide))
                      refine ze_iload_n 2 cd_M_next_114 rfl rfl ?_
                      refine ze_istore_n (lv' := [(3, .int ((-1 : Int32))), (5, .int (nI 0)), (4, .int (nI lo)), (0, .ref a), (1, .int top), (2, .int (nI l))]) cd_M_next_115 rfl (by decide) rfl ?_
                      refine ze_iinc (v := nI (lo + 1)) (lv' := [(4, .int (nI (lo + 1))), (3, .int ((-1 : Int32))), (5, .int (nI 0)), (0, .ref a), (1, .int top), (2, .int (nI l))]) 2 cd_M_next_116 rfl (nI_add _ 1) (by decide) rfl ?_
                      refine ze_goto (tgt := 5) cd_M_next_119 (by decide) ?_
                      have hstep : zm_nxt1 (zmR M dp) (M 16) top (some l) (none) lo = none := by first | (simp [zm_nxt1, zl_nxt1, zl_la, zl_lb, zl_beh, zmR, c20, c22, c24, c26, c28]; done) | (clear ih hE hX0 hM; simp only [zm_nxt1, zl_nxt1, zl_la, zl_lb, zl_beh_d, decide_eq_true_eq, show zmR M dp 2 lo = M 3 lo from rfl, show ∀ z, zmR M dp 1 z = M 2 z from fun _ => rfl]; simp only [Int32.lt_iff_toInt_lt, ← Int32.toInt_inj] at c20 c22 c24 c26 c28 ⊢; (repeat' split) <;> first | rfl | contradiction | (exfalso; omega))
                      exact ze_sub [0, 1, 3, 4, 5] rfl (ih (lo + 1) none (by omega) (by rw [← hstep]; exact zm_nxt1_lt (fun j hj => by have := hs j hj; omega) (by omega)) (by rw [← hE]; exact (congrArg (fun z => zfold (zm_nxt1 (zmR M dp) (M 16) top (some l)) z (lo + 1) kk) hstep).symm))
                    · skip
                      have c28 : ¬ lo ≤ l := fun h9 => c28 ((nI_leI (by omega) (by omega)).mpr h9)
                      refine ze_iconst (v := nI 1) cd_M_next_77 (by decide) ?_
                      refine ze_goto (tgt := 82) cd_M_next_78 (by decide) ?_
                      refine ze_istore (lv' := [(5, .int (nI 1)), (4, .int (nI lo)), (3, .int ((-1 : Int32))), (0, .ref a), (1, .int top), (2, .int (nI l))]) cd_M_next_82 (by decide) rfl ?_
                      refine ze_iload 0 cd_M_next_84 rfl ?_
                      refine ze_if_eq (tgt := 114) cd_M_next_86 (by decide) (fun c9 => absurd c9 (by decide)) (fun _ => ?_)
                      refine ze_iload_n 2 cd_M_next_89 rfl rfl ?_
                      refine ze_if_lt (tgt := 109) cd_M_next_90 (by decide) (fun _ => ?_) (fun c9 => absurd (by decide) c9)
                      refine ze_iload 1 cd_M_next_109 rfl ?_
                      refine ze_goto (tgt := 115) cd_M_next_111 (by decide) ?_
                      refine ze_istore_n (lv' := [(3, .int (nI lo)), (5, .int (nI 1)), (4, .int (nI lo)), (0, .ref a), (1, .int top), (2, .int (nI l))]) cd_M_next_115 rfl (by decide) rfl ?_
                      refine ze_iinc (v := nI (lo + 1)) (lv' := [(4, .int (nI (lo + 1))), (3, .int (nI lo)), (5, .int (nI 1)), (0, .ref a), (1, .int top), (2, .int (nI l))]) 2 cd_M_next_116 rfl (nI_add _ 1) (by decide) rfl ?_
                      refine ze_goto (tgt := 5) cd_M_next_119 (by decide) ?_
                      have hstep : zm_nxt1 (zmR M dp) (M 16) top (some l) (none) lo = (some lo) := by first | (simp [zm_nxt1, zl_nxt1, zl_la, zl_lb, zl_beh, zmR, c20, c22, c24, c26, c28]; done) | (clear ih hE hX0 hM; simp only [zm_nxt1, zl_nxt1, zl_la, zl_lb, zl_beh_d, decide_eq_true_eq, show zmR M dp 2 lo = M 3 lo from rfl, show ∀ z, zmR M dp 1 z = M 2 z from fun _ => rfl]; simp only [Int32.lt_iff_toInt_lt, ← Int32.toInt_inj] at c20 c22 c24 c26 c28 ⊢; (repeat' split) <;> first | rfl | contradiction | (exfalso; omega))
                      exact ze_sub [0, 1, 3, 4, 5] rfl (ih (lo + 1) (some lo) (by omega) (by rw [← hstep]; exact zm_nxt1_lt (fun j hj => by have := hs j hj; omega) (by omega)) (by rw [← hE]; exact (congrArg (fun z => zfold (zm_nxt1 (zmR M dp) (M 16) top (some l)) z (lo + 1) kk) hstep).symm))
        | some b =>
          have hb9 := hs b rfl
          show zE g "FindingAidModel" cb_M_next 6 (Option.some Jvm.ClassFile.FieldType.int) false zr_M_next 0 0 (zPp (zo (X0)) σ sz) 5 [(4, .int (nI lo)), (3, .int (nI b)), (0, .ref a), (1, .int top), (2, .int (nI l))] [] σ sz 0 0
          refine ze_iload 0 cd_M_next_5 rfl ?_
          refine ze_aload_n 2 cd_M_next_7 rfl rfl ?_
          refine ze_get zin_M (v := .int (nI lv)) (ci := 7) rfl 5 (by decide) zm_727 rfl cd_M_next_8 hM.1 rfl ?_
          refine ze_icmp_ge (tgt := 122) cd_M_next_11 (by decide) (fun c32 => ?_) (fun c32 => ?_)
          · skip
            have c32 : lv ≤ lo := (nI_leI (by omega) (by omega)).mp c32
            exfalso; omega
          · skip
            have c32 : ¬ lv ≤ lo := fun h9 => c32 ((nI_leI (by omega) (by omega)).mpr h9)
            refine ze_aload_n 2 cd_M_next_14 rfl rfl ?_
            refine ze_get zin_M (v := .ref (a + 4)) (ci := 7) rfl 9 (by decide) zm_731 rfl cd_M_next_15 hM.1 rfl ?_
            refine ze_iload 0 cd_M_next_18 rfl ?_
            refine ze_iald (j := lo) cd_M_next_20 (hM.2 3 _ rfl) rfl (by omega) (by decide) ?_
            refine ze_iload_n 3 cd_M_next_21 rfl rfl ?_
            refine ze_icmp_ne (tgt := 81) cd_M_next_22 (by decide) (fun c33 => ?_) (fun c33 => ?_)
            · skip
              refine ze_iconst (v := nI 0) cd_M_next_81 (by decide) ?_
              refine ze_istore (lv' := [(5, .int (nI 0)), (4, .int (nI lo)), (3, .int (nI b)), (0, .ref a), (1, .int top), (2, .int (nI l))]) cd_M_next_82 (by decide) rfl ?_
              refine ze_iload 0 cd_M_next_84 rfl ?_
              refine ze_if_eq (tgt := 114) cd_M_next_86 (by decide) (fun _ => ?_) (fun c9 => absurd c9 (by decide))
              refine ze_iload_n 2 cd_M_next_114 rfl rfl ?_
              refine ze_istore_n (lv' := [(3, .int (nI b)), (5, .int (nI 0)), (4, .int (nI lo)), (0, .ref a), (1, .int top), (2, .int (nI l))]) cd_M_next_115 rfl (by decide) rfl ?_
              refine ze_iinc (v := nI (lo + 1)) (lv' := [(4, .int (nI (lo + 1))), (3, .int (nI b)), (5, .int (nI 0)), (0, .ref a), (1, .int top), (2, .int (nI l))]) 2 cd_M_next_116 rfl (nI_add _ 1) (by decide) rfl ?_
              refine ze_goto (tgt := 5) cd_M_next_119 (by decide) ?_
              have hstep : zm_nxt1 (zmR M dp) (M 16) top (some l) (some b) lo = (some b) := by first | (simp [zm_nxt1, zl_nxt1, zl_la, zl_lb, zl_beh, zmR, c33]; done) | (clear ih hE hX0 hM; simp only [zm_nxt1, zl_nxt1, zl_la, zl_lb, zl_beh_d, decide_eq_true_eq, show zmR M dp 2 lo = M 3 lo from rfl, show ∀ z, zmR M dp 1 z = M 2 z from fun _ => rfl]; simp only [Int32.lt_iff_toInt_lt, ← Int32.toInt_inj] at c33 ⊢; (repeat' split) <;> first | rfl | contradiction | (exfalso; omega))
              exact ze_sub [0, 1, 3, 4, 5] rfl (ih (lo + 1) (some b) (by omega) (by rw [← hstep]; exact zm_nxt1_lt (fun j hj => by have := hs j hj; omega) (by omega)) (by rw [← hE]; exact (congrArg (fun z => zfold (zm_nxt1 (zmR M dp) (M 16) top (some l)) z (lo + 1) kk) hstep).symm))
            · skip
              refine ze_aload_n 2 cd_M_next_25 rfl rfl ?_
              refine ze_get zin_M (v := .ref (a + 17)) (ci := 7) rfl 22 (by decide) zm_744 rfl cd_M_next_26 hM.1 rfl ?_
              refine ze_iload 0 cd_M_next_29 rfl ?_
              refine ze_zald (j := lo) cd_M_next_31 (hM.2 16 _ rfl) rfl (by omega) (by decide) ?_
              refine ze_if_ne (tgt := 81) cd_M_next_32 (by decide) (fun c35 => ?_) (fun c35 => ?_)
              · skip
                refine ze_iconst (v := nI 0) cd_M_next_81 (by decide) ?_
                refine ze_istore (lv' := [(5, .int (nI 0)), (4, .int (nI lo)), (3, .int (nI b)), (0, .ref a), (1, .int top), (2, .int (nI l))]) cd_M_next_82 (by decide) rfl ?_
                refine ze_iload 0 cd_M_next_84 rfl ?_
                refine ze_if_eq (tgt := 114) cd_M_next_86 (by decide) (fun _ => ?_) (fun c9 => absurd c9 (by decide))
                refine ze_iload_n 2 cd_M_next_114 rfl rfl ?_
                refine ze_istore_n (lv' := [(3, .int (nI b)), (5, .int (nI 0)), (4, .int (nI lo)), (0, .ref a), (1, .int top), (2, .int (nI l))]) cd_M_next_115 rfl (by decide) rfl ?_
                refine ze_iinc (v := nI (lo + 1)) (lv' := [(4, .int (nI (lo + 1))), (3, .int (nI b)), (5, .int (nI 0)), (0, .ref a), (1, .int top), (2, .int (nI l))]) 2 cd_M_next_116 rfl (nI_add _ 1) (by decide) rfl ?_
                refine ze_goto (tgt := 5) cd_M_next_119 (by decide) ?_
                have hstep : zm_nxt1 (zmR M dp) (M 16) top (some l) (some b) lo = (some b) := by first | (simp [zm_nxt1, zl_nxt1, zl_la, zl_lb, zl_beh, zmR, c33, c35]; done) | (clear ih hE hX0 hM; simp only [zm_nxt1, zl_nxt1, zl_la, zl_lb, zl_beh_d, decide_eq_true_eq, show zmR M dp 2 lo = M 3 lo from rfl, show ∀ z, zmR M dp 1 z = M 2 z from fun _ => rfl]; simp only [Int32.lt_iff_toInt_lt, ← Int32.toInt_inj] at c33 c35 ⊢; (repeat' split) <;> first | rfl | contradiction | (exfalso; omega))
                exact ze_sub [0, 1, 3, 4, 5] rfl (ih (lo + 1) (some b) (by omega) (by rw [← hstep]; exact zm_nxt1_lt (fun j hj => by have := hs j hj; omega) (by omega)) (by rw [← hE]; exact (congrArg (fun z => zfold (zm_nxt1 (zmR M dp) (M 16) top (some l)) z (lo + 1) kk) hstep).symm))
              · skip
                refine ze_iload_n 4 cd_M_next_35 rfl rfl ?_
                refine ze_if_lt (tgt := 77) cd_M_next_36 (by decide) (fun c9 => absurd c9 (nI_pos (by omega))) (fun _ => ?_)
                refine ze_aload_n 2 cd_M_next_39 rfl rfl ?_
                refine ze_get zin_M (v := .ref (a + 3)) (ci := 7) rfl 8 (by decide) zm_730 rfl cd_M_next_40 hM.1 rfl ?_
                refine ze_iload 0 cd_M_next_43 rfl ?_
                refine ze_iald (j := lo) cd_M_next_45 (hM.2 2 _ rfl) rfl (by omega) (by decide) ?_
                refine ze_aload_n 2 cd_M_next_46 rfl rfl ?_
                refine ze_get zin_M (v := .ref (a + 3)) (ci := 7) rfl 8 (by decide) zm_730 rfl cd_M_next_47 hM.1 rfl ?_
                refine ze_iload_n 4 cd_M_next_50 rfl rfl ?_
                refine ze_iald (j := l) cd_M_next_51 (hM.2 2 _ rfl) rfl (by omega) (by decide) ?_
                refine ze_icmp_gt (tgt := 77) cd_M_next_52 (by decide) (fun c37 => ?_) (fun c37 => ?_)
                · skip
                  refine ze_iconst (v := nI 1) cd_M_next_77 (by decide) ?_
                  refine ze_goto (tgt := 82) cd_M_next_78 (by decide) ?_
                  refine ze_istore (lv' := [(5, .int (nI 1)), (4, .int (nI lo)), (3, .int (nI b)), (0, .ref a), (1, .int top), (2, .int (nI l))]) cd_M_next_82 (by decide) rfl ?_
                  refine ze_iload 0 cd_M_next_84 rfl ?_
                  refine ze_if_eq (tgt := 114) cd_M_next_86 (by decide) (fun c9 => absurd c9 (by decide)) (fun _ => ?_)
                  refine ze_iload_n 2 cd_M_next_89 rfl rfl ?_
                  refine ze_if_lt (tgt := 109) cd_M_next_90 (by decide) (fun c9 => absurd c9 (nI_pos (by omega))) (fun _ => ?_)
                  refine ze_aload_n 3 cd_M_next_93 rfl rfl ?_
                  refine ze_get zin_M (v := .ref (a + 3)) (ci := 7) rfl 8 (by decide) zm_730 rfl cd_M_next_94 hM.1 rfl ?_
                  refine ze_iload 1 cd_M_next_97 rfl ?_
                  refine ze_iald (j := lo) cd_M_next_99 (hM.2 2 _ rfl) rfl (by omega) (by decide) ?_
                  refine ze_aload_n 3 cd_M_next_100 rfl rfl ?_
                  refine ze_get zin_M (v := .ref (a + 3)) (ci := 7) rfl 8 (by decide) zm_730 rfl cd_M_next_101 hM.1 rfl ?_
                  refine ze_iload_n 2 cd_M_next_104 rfl rfl ?_
                  refine ze_iald (j := b) cd_M_next_105 (hM.2 2 _ rfl) rfl (by omega) (by decide) ?_
                  refine ze_icmp_ge (tgt := 114) cd_M_next_106 (by decide) (fun c39 => ?_) (fun c39 => ?_)
                  · skip
                    have c39 : ¬ (M 2 lo) < (M 2 b) := Int32.not_lt.mpr c39
                    refine ze_iload_n 2 cd_M_next_114 rfl rfl ?_
                    refine ze_istore_n (lv' := [(3, .int (nI b)), (5, .int (nI 1)), (4, .int (nI lo)), (0, .ref a), (1, .int top), (2, .int (nI l))]) cd_M_next_115 rfl (by decide) rfl ?_
                    refine ze_iinc (v := nI (lo + 1)) (lv' := [(4, .int (nI (lo + 1))), (3, .int (nI b)), (5, .int (nI 1)), (0, .ref a), (1, .int top), (2, .int (nI l))]) 2 cd_M_next_116 rfl (nI_add _ 1) (by decide) rfl ?_
                    refine ze_goto (tgt := 5) cd_M_next_119 (by decide) ?_
                    have hstep : zm_nxt1 (zmR M dp) (M 16) top (some l) (some b) lo = (some b) := by first | (simp [zm_nxt1, zl_nxt1, zl_la, zl_lb, zl_beh, zmR, c33, c35, c37, c39]; done) | (clear ih hE hX0 hM; simp only [zm_nxt1, zl_nxt1, zl_la, zl_lb, zl_beh_d, decide_eq_true_eq, show zmR M dp 2 lo = M 3 lo from rfl, show ∀ z, zmR M dp 1 z = M 2 z from fun _ => rfl]; simp only [Int32.lt_iff_toInt_lt, ← Int32.toInt_inj] at c33 c35 c37 c39 ⊢; (repeat' split) <;> first | rfl | contradiction | (exfalso; omega))
                    exact ze_sub [0, 1, 3, 4, 5] rfl (ih (lo + 1) (some b) (by omega) (by rw [← hstep]; exact zm_nxt1_lt (fun j hj => by have := hs j hj; omega) (by omega)) (by rw [← hE]; exact (congrArg (fun z => zfold (zm_nxt1 (zmR M dp) (M 16) top (some l)) z (lo + 1) kk) hstep).symm))
                  · skip
                    have c39 : (M 2 lo) < (M 2 b) := Int32.not_le.mp c39
                    refine ze_iload 1 cd_M_next_109 rfl ?_
                    refine ze_goto (tgt := 115) cd_M_next_111 (by decide) ?_
                    refine ze_istore_n (lv' := [(3, .int (nI lo)), (5, .int (nI 1)), (4, .int (nI lo)), (0, .ref a), (1, .int top), (2, .int (nI l))]) cd_M_next_115 rfl (by decide) rfl ?_
                    refine ze_iinc (v := nI (lo + 1)) (lv' := [(4, .int (nI (lo + 1))), (3, .int (nI lo)), (5, .int (nI 1)), (0, .ref a), (1, .int top), (2, .int (nI l))]) 2 cd_M_next_116 rfl (nI_add _ 1) (by decide) rfl ?_
                    refine ze_goto (tgt := 5) cd_M_next_119 (by decide) ?_
                    have hstep : zm_nxt1 (zmR M dp) (M 16) top (some l) (some b) lo = (some lo) := by first | (simp [zm_nxt1, zl_nxt1, zl_la, zl_lb, zl_beh, zmR, c33, c35, c37, c39]; done) | (clear ih hE hX0 hM; simp only [zm_nxt1, zl_nxt1, zl_la, zl_lb, zl_beh_d, decide_eq_true_eq, show zmR M dp 2 lo = M 3 lo from rfl, show ∀ z, zmR M dp 1 z = M 2 z from fun _ => rfl]; simp only [Int32.lt_iff_toInt_lt, ← Int32.toInt_inj] at c33 c35 c37 c39 ⊢; (repeat' split) <;> first | rfl | contradiction | (exfalso; omega))
                    exact ze_sub [0, 1, 3, 4, 5] rfl (ih (lo + 1) (some lo) (by omega) (by rw [← hstep]; exact zm_nxt1_lt (fun j hj => by have := hs j hj; omega) (by omega)) (by rw [← hE]; exact (congrArg (fun z => zfold (zm_nxt1 (zmR M dp) (M 16) top (some l)) z (lo + 1) kk) hstep).symm))
                · skip
                  refine ze_aload_n 2 cd_M_next_55 rfl rfl ?_
                  refine ze_get zin_M (v := .ref (a + 3)) (ci := 7) rfl 8 (by decide) zm_730 rfl cd_M_next_56 hM.1 rfl ?_
                  refine ze_iload 0 cd_M_next_59 rfl ?_
                  refine ze_iald (j := lo) cd_M_next_61 (hM.2 2 _ rfl) rfl (by omega) (by decide) ?_
                  refine ze_aload_n 2 cd_M_next_62 rfl rfl ?_
                  refine ze_get zin_M (v := .ref (a + 3)) (ci := 7) rfl 8 (by decide) zm_730 rfl cd_M_next_63 hM.1 rfl ?_
                  refine ze_iload_n 4 cd_M_next_66 rfl rfl ?_
                  refine ze_iald (j := l) cd_M_next_67 (hM.2 2 _ rfl) rfl (by omega) (by decide) ?_
                  refine ze_icmp_ne (tgt := 81) cd_M_next_68 (by decide) (fun c40 => ?_) (fun c40 => ?_)
                  · skip
                    refine ze_iconst (v := nI 0) cd_M_next_81 (by decide) ?_
                    refine ze_istore (lv' := [(5, .int (nI 0)), (4, .int (nI lo)), (3, .int (nI b)), (0, .ref a), (1, .int top), (2, .int (nI l))]) cd_M_next_82 (by decide) rfl ?_
                    refine ze_iload 0 cd_M_next_84 rfl ?_
                    refine ze_if_eq (tgt := 114) cd_M_next_86 (by decide) (fun _ => ?_) (fun c9 => absurd c9 (by decide))
                    refine ze_iload_n 2 cd_M_next_114 rfl rfl ?_
                    refine ze_istore_n (lv' := [(3, .int (nI b)), (5, .int (nI 0)), (4, .int (nI lo)), (0, .ref a), (1, .int top), (2, .int (nI l))]) cd_M_next_115 rfl (by decide) rfl ?_
                    refine ze_iinc (v := nI (lo + 1)) (lv' := [(4, .int (nI (lo + 1))), (3, .int (nI b)), (5, .int (nI 0)), (0, .ref a), (1, .int top), (2, .int (nI l))]) 2 cd_M_next_116 rfl (nI_add _ 1) (by decide) rfl ?_
                    refine ze_goto (tgt := 5) cd_M_next_119 (by decide) ?_
                    have hstep : zm_nxt1 (zmR M dp) (M 16) top (some l) (some b) lo = (some b) := by first | (simp [zm_nxt1, zl_nxt1, zl_la, zl_lb, zl_beh, zmR, c33, c35, c37, c40]; done) | (clear ih hE hX0 hM; simp only [zm_nxt1, zl_nxt1, zl_la, zl_lb, zl_beh_d, decide_eq_true_eq, show zmR M dp 2 lo = M 3 lo from rfl, show ∀ z, zmR M dp 1 z = M 2 z from fun _ => rfl]; simp only [Int32.lt_iff_toInt_lt, ← Int32.toInt_inj] at c33 c35 c37 c40 ⊢; (repeat' split) <;> first | rfl | contradiction | (exfalso; omega))
                    exact ze_sub [0, 1, 3, 4, 5] rfl (ih (lo + 1) (some b) (by omega) (by rw [← hstep]; exact zm_nxt1_lt (fun j hj => by have := hs j hj; omega) (by omega)) (by rw [← hE]; exact (congrArg (fun z => zfold (zm_nxt1 (zmR M dp) (M 16) top (some l)) z (lo + 1) kk) hstep).symm))
                  · skip
                    refine ze_iload 0 cd_M_next_71 rfl ?_
                    refine ze_iload_n 4 cd_M_next_73 rfl rfl ?_
                    refine ze_icmp_le (tgt := 81) cd_M_next_74 (by decide) (fun c42 => ?_) (fun c42 => ?_)
                    · skip
                      have c42 : lo ≤ l := (nI_leI (by omega) (by omega)).mp c42
                      refine ze_iconst (v := nI 0) cd_M_next_81 (by decide) ?_
                      refine ze_istore (lv' := [(5, .int (nI 0)), (4, .int (nI lo)), (3, .int (nI b)), (0, .ref a), (1, .int top), (2, .int (nI l))]) cd_M_next_82 (by decide) rfl ?_
                      refine ze_iload 0 cd_M_next_84 rfl ?_
                      refine ze_if_eq (tgt := 114) cd_M_next_86 (by decide) (fun _ => ?_) (fun c9 => absurd c9 (by decide))
                      refine ze_iload_n 2 cd_M_next_114 rfl rfl ?_
                      refine ze_istore_n (lv' := [(3, .int (nI b)), (5, .int (nI 0)), (4, .int (nI lo)), (0, .ref a), (1, .int top), (2, .int (nI l))]) cd_M_next_115 rfl (by decide) rfl ?_
                      refine ze_iinc (v := nI (lo + 1)) (lv' := [(4, .int (nI (lo + 1))), (3, .int (nI b)), (5, .int (nI 0)), (0, .ref a), (1, .int top), (2, .int (nI l))]) 2 cd_M_next_116 rfl (nI_add _ 1) (by decide) rfl ?_
                      refine ze_goto (tgt := 5) cd_M_next_119 (by decide) ?_
                      have hstep : zm_nxt1 (zmR M dp) (M 16) top (some l) (some b) lo = (some b) := by first | (simp [zm_nxt1, zl_nxt1, zl_la, zl_lb, zl_beh, zmR, c33, c35, c37, c40, c42]; done) | (clear ih hE hX0 hM; simp only [zm_nxt1, zl_nxt1, zl_la, zl_lb, zl_beh_d, decide_eq_true_eq, show zmR M dp 2 lo = M 3 lo from rfl, show ∀ z, zmR M dp 1 z = M 2 z from fun _ => rfl]; simp only [Int32.lt_iff_toInt_lt, ← Int32.toInt_inj] at c33 c35 c37 c40 c42 ⊢; (repeat' split) <;> first | rfl | contradiction | (exfalso; omega))
                      exact ze_sub [0, 1, 3, 4, 5] rfl (ih (lo + 1) (some b) (by omega) (by rw [← hstep]; exact zm_nxt1_lt (fun j hj => by have := hs j hj; omega) (by omega)) (by rw [← hE]; exact (congrArg (fun z => zfold (zm_nxt1 (zmR M dp) (M 16) top (some l)) z (lo + 1) kk) hstep).symm))
                    · skip
                      have c42 : ¬ lo ≤ l := fun h9 => c42 ((nI_leI (by omega) (by omega)).mpr h9)
                      refine ze_iconst (v := nI 1) cd_M_next_77 (by decide) ?_
                      refine ze_goto (tgt := 82) cd_M_next_78 (by decide) ?_
                      refine ze_istore (lv' := [(5, .int (nI 1)), (4, .int (nI lo)), (3, .int (nI b)), (0, .ref a), (1, .int top), (2, .int (nI l))]) cd_M_next_82 (by decide) rfl ?_
                      refine ze_iload 0 cd_M_next_84 rfl ?_
                      refine ze_if_eq (tgt := 114) cd_M_next_86 (by decide) (fun c9 => absurd c9 (by decide)) (fun _ => ?_)
                      refine ze_iload_n 2 cd_M_next_89 rfl rfl ?_
                      refine ze_if_lt (tgt := 109) cd_M_next_90 (by decide) (fun c9 => absurd c9 (nI_pos (by omega))) (fun _ => ?_)
                      refine ze_aload_n 3 cd_M_next_93 rfl rfl ?_
                      refine ze_get zin_M (v := .ref (a + 3)) (ci := 7) rfl 8 (by decide) zm_730 rfl cd_M_next_94 hM.1 rfl ?_
                      refine ze_iload 1 cd_M_next_97 rfl ?_
                      refine ze_iald (j := lo) cd_M_next_99 (hM.2 2 _ rfl) rfl (by omega) (by decide) ?_
                      refine ze_aload_n 3 cd_M_next_100 rfl rfl ?_
                      refine ze_get zin_M (v := .ref (a + 3)) (ci := 7) rfl 8 (by decide) zm_730 rfl cd_M_next_101 hM.1 rfl ?_
                      refine ze_iload_n 2 cd_M_next_104 rfl rfl ?_
                      refine ze_iald (j := b) cd_M_next_105 (hM.2 2 _ rfl) rfl (by omega) (by decide) ?_
                      refine ze_icmp_ge (tgt := 114) cd_M_next_106 (by decide) (fun c45 => ?_) (fun c45 => ?_)
                      · skip
                        have c45 : ¬ (M 2 lo) < (M 2 b) := Int32.not_lt.mpr c45
                        refine ze_iload_n 2 cd_M_next_114 rfl rfl ?_
                        refine ze_istore_n (lv' := [(3, .int (nI b)), (5, .int (nI 1)), (4, .int (nI lo)), (0, .ref a), (1, .int top), (2, .int (nI l))]) cd_M_next_115 rfl (by decide) rfl ?_
                        refine ze_iinc (v := nI (lo + 1)) (lv' := [(4, .int (nI (lo + 1))), (3, .int (nI b)), (5, .int (nI 1)), (0, .ref a), (1, .int top), (2, .int (nI l))]) 2 cd_M_next_116 rfl (nI_add _ 1) (by decide) rfl ?_
                        refine ze_goto (tgt := 5) cd_M_next_119 (by decide) ?_
                        have hstep : zm_nxt1 (zmR M dp) (M 16) top (some l) (some b) lo = (some b) := by first | (simp [zm_nxt1, zl_nxt1, zl_la, zl_lb, zl_beh, zmR, c33, c35, c37, c40, c42, c45]; done) | (clear ih hE hX0 hM; simp only [zm_nxt1, zl_nxt1, zl_la, zl_lb, zl_beh_d, decide_eq_true_eq, show zmR M dp 2 lo = M 3 lo from rfl, show ∀ z, zmR M dp 1 z = M 2 z from fun _ => rfl]; simp only [Int32.lt_iff_toInt_lt, ← Int32.toInt_inj] at c33 c35 c37 c40 c42 c45 ⊢; (repeat' split) <;> first | rfl | contradiction | (exfalso; omega))
                        exact ze_sub [0, 1, 3, 4, 5] rfl (ih (lo + 1) (some b) (by omega) (by rw [← hstep]; exact zm_nxt1_lt (fun j hj => by have := hs j hj; omega) (by omega)) (by rw [← hE]; exact (congrArg (fun z => zfold (zm_nxt1 (zmR M dp) (M 16) top (some l)) z (lo + 1) kk) hstep).symm))
                      · skip
                        have c45 : (M 2 lo) < (M 2 b) := Int32.not_le.mp c45
                        refine ze_iload 1 cd_M_next_109 rfl ?_
                        refine ze_goto (tgt := 115) cd_M_next_111 (by decide) ?_
                        refine ze_istore_n (lv' := [(3, .int (nI lo)), (5, .int (nI 1)), (4, .int (nI lo)), (0, .ref a), (1, .int top), (2, .int (nI l))]) cd_M_next_115 rfl (by decide) rfl ?_
                        refine ze_iinc (v := nI (lo + 1)) (lv' := [(4, .int (nI (lo + 1))), (3, .int (nI lo)), (5, .int (nI 1)), (0, .ref a), (1, .int top), (2, .int (nI l))]) 2 cd_M_next_116 rfl (nI_add _ 1) (by decide) rfl ?_
                        refine ze_goto (tgt := 5) cd_M_next_119 (by decide) ?_
                        have hstep : zm_nxt1 (zmR M dp) (M 16) top (some l) (some b) lo = (some lo) := by first | (simp [zm_nxt1, zl_nxt1, zl_la, zl_lb, zl_beh, zmR, c33, c35, c37, c40, c42, c45]; done) | (clear ih hE hX0 hM; simp only [zm_nxt1, zl_nxt1, zl_la, zl_lb, zl_beh_d, decide_eq_true_eq, show zmR M dp 2 lo = M 3 lo from rfl, show ∀ z, zmR M dp 1 z = M 2 z from fun _ => rfl]; simp only [Int32.lt_iff_toInt_lt, ← Int32.toInt_inj] at c33 c35 c37 c40 c42 c45 ⊢; (repeat' split) <;> first | rfl | contradiction | (exfalso; omega))
                        exact ze_sub [0, 1, 3, 4, 5] rfl (ih (lo + 1) (some lo) (by omega) (by rw [← hstep]; exact zm_nxt1_lt (fun j hj => by have := hs j hj; omega) (by omega)) (by rw [← hE]; exact (congrArg (fun z => zfold (zm_nxt1 (zmR M dp) (M 16) top (some l)) z (lo + 1) kk) hstep).symm))
  refine zM_of (lv := [(0, .ref a), (1, .int top), (2, .int (zo last))]) (ini := false) (by decide) rfl (by decide) (Nat.le_of_ble_eq_true rfl) rfl ?_
  refine ze_iconst (v := (-1 : Int32)) cd_M_next_0 (by decide) ?_
  refine ze_istore_n (lv' := [(3, .int ((-1 : Int32))), (0, .ref a), (1, .int top), (2, .int (zo last))]) cd_M_next_1 rfl (by decide) rfl ?_
  refine ze_iconst (v := nI 0) cd_M_next_2 (by decide) ?_
  refine ze_istore (lv' := [(4, .int (nI 0)), (3, .int ((-1 : Int32))), (0, .ref a), (1, .int top), (2, .int (zo last))]) cd_M_next_3 (by decide) rfl ?_
  exact ze_sub [0, 1, 2, 3, 4] rfl (loop lv 0 none (by omega) (fun j hj => by cases hj) hX0)
