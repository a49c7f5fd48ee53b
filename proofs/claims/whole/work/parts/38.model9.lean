def zck (pa : Nat → Option Nat) (un : Nat → Int32) (x : Int32) (tp : Nat) : Nat → Option Nat → Bool
  | 0, _ => false
  | _ + 1, none => false
  | k + 1, some j => if j = tp then true else if un j = x then false else zck pa un x tp k (pa j)
def zm_cnt (pa : Nat → Option Nat) (un : Nat → Int32) (x : Int32) (tp : Nat) (self : Bool) (i : Nat) : Bool := if un i = x then (if i = tp then self else (zck pa un x tp 9 (pa i) && (!self || !decide (un tp = x)))) else false
abbrev zr_M_counts : Room := { frames := 0, cells := 0, slots := 0, locals := 0 }
set_option maxRecDepth 100000 in
set_option maxHeartbeats 4000000 in
theorem kc_M_counts {g : zx_G} {σ : zx_M} {sz : Nat} {a size ps lv ot ak pr : Nat} {th wr fr : Int32} {M : Nat → Nat → Int32} {pa : Nat → Option Nat} {dp : Nat → Nat} {i tp : Nat} {x : Int32} {self : Bool} (hM : zmo g σ a th size wr ps lv ot ak fr pr M) (hfo : zfor (M 3) pa dp (fun j => j < lv)) (hlv : lv ≤ 100) (hi : i < lv) (htp : tp < lv) : zM g cy_M_counts cb_M_counts 7 (Option.some Jvm.ClassFile.FieldType.boolean) zr_M_counts 0 0 [.ref a, .int (nI i), .int (nI tp), .int x, .int (zb self)] σ sz (zPp (zb (zm_cnt pa (M 8) x tp self i)) σ sz) := by
  generalize hX0 : zm_cnt pa (M 8) x tp self i = X0
  have loop : M 8 i = x → ¬ i = tp → ∀ (kk : Nat) (o : Option Nat) (b : Bool), (∀ p, o = some p → p < lv ∧ dp p < kk) → (b && zck pa (M 8) x tp kk o) = zck pa (M 8) x tp 9 (pa i) → zE g "FindingAidModel" cb_M_counts 7 (Option.some Jvm.ClassFile.FieldType.boolean) false zr_M_counts 0 0 (zPp (zb (X0)) σ sz) 31 [(6, .int (zb b)), (5, .int (zo o)), (0, .ref a), (1, .int (nI i)), (2, .int (nI tp)), (3, .int x), (4, .int (zb self))] [] σ sz 0 0 := by
    intro hux hit kk
    induction kk with
    | zero =>
      intro o b ho hE
      cases o with
      | none =>
        refine ze_iload 1 cd_M_counts_31 rfl ?_
        refine ze_if_lt (tgt := 77) cd_M_counts_33 (by decide) (fun _ => ?_) (fun c9 => absurd (by decide) c9)
        refine ze_iload 0 cd_M_counts_77 rfl ?_
        refine ze_if_eq (tgt := 107) cd_M_counts_79 (by decide) (fun c1 => ?_) (fun c1 => ?_)
        · skip
          have c1 : b = false := zb_f c1
          refine ze_iconst (v := nI 0) cd_M_counts_107 (by decide) ?_
          refine ze_zret cd_M_counts_108 rfl (by decide) (by decide) (by decide) (zPp_mk ?_)
          rw [← hX0]; simp only [zm_cnt, hux, if_neg hit, if_true]; rw [← hE]; first | (simp [zck, zb, nI_0, zn_1, c1]; done) | (simp_all [zck, zb, nI_0, zn_1]; done)
        · skip
          have c1 : b = true := zb_t c1
          refine ze_iload 1 cd_M_counts_82 rfl ?_
          refine ze_iload_n 4 cd_M_counts_84 rfl rfl ?_
          refine ze_icmp_ne (tgt := 107) cd_M_counts_85 (by decide) (fun _ => ?_) (fun c9 => absurd c9.symm (zn_ne (by omega)))
          refine ze_iconst (v := nI 0) cd_M_counts_107 (by decide) ?_
          refine ze_zret cd_M_counts_108 rfl (by decide) (by decide) (by decide) (zPp_mk ?_)
          rw [← hX0]; simp only [zm_cnt, hux, if_neg hit, if_true]; rw [← hE]; first | (simp [zck, zb, nI_0, zn_1, c1]; done) | (simp_all [zck, zb, nI_0, zn_1]; done)
      | some q =>
        obtain ⟨hDq, hkq⟩ := ho q rfl
        exfalso; omega
    | succ kk ih =>
      intro o b ho hE
      cases o with
      | none =>
        refine ze_iload 1 cd_M_counts_31 rfl ?_
        refine ze_if_lt (tgt := 77) cd_M_counts_33 (by decide) (fun _ => ?_) (fun c9 => absurd (by decide) c9)
        refine ze_iload 0 cd_M_counts_77 rfl ?_
        refine ze_if_eq (tgt := 107) cd_M_counts_79 (by decide) (fun c2 => ?_) (fun c2 => ?_)
        · skip
          have c2 : b = false := zb_f c2
          refine ze_iconst (v := nI 0) cd_M_counts_107 (by decide) ?_
          refine ze_zret cd_M_counts_108 rfl (by decide) (by decide) (by decide) (zPp_mk ?_)
          rw [← hX0]; simp only [zm_cnt, hux, if_neg hit, if_true]; rw [← hE]; first | (simp [zck, zb, nI_0, zn_1, c2]; done) | (simp_all [zck, zb, nI_0, zn_1]; done)
        · skip
          have c2 : b = true := zb_t c2
          refine ze_iload 1 cd_M_counts_82 rfl ?_
          refine ze_iload_n 4 cd_M_counts_84 rfl rfl ?_
          refine ze_icmp_ne (tgt := 107) cd_M_counts_85 (by decide) (fun _ => ?_) (fun c9 => absurd c9.symm (zn_ne (by omega)))
          refine ze_iconst (v := nI 0) cd_M_counts_107 (by decide) ?_
          refine ze_zret cd_M_counts_108 rfl (by decide) (by decide) (by decide) (zPp_mk ?_)
          rw [← hX0]; simp only [zm_cnt, hux, if_neg hit, if_true]; rw [← hE]; first | (simp [zck, zb, nI_0, zn_1, c2]; done) | (simp_all [zck, zb, nI_0, zn_1]; done)
      | some q =>
        obtain ⟨hDq, hkq⟩ := ho q rfl
        obtain ⟨hq3, hq8, hqu, hqp, hqn⟩ := hfo q hDq
        show zE g "FindingAidModel" cb_M_counts 7 (Option.some Jvm.ClassFile.FieldType.boolean) false zr_M_counts 0 0 (zPp (zb (X0)) σ sz) 31 [(6, .int (zb b)), (5, .int (nI q)), (0, .ref a), (1, .int (nI i)), (2, .int (nI tp)), (3, .int x), (4, .int (zb self))] [] σ sz 0 0
        refine ze_iload 1 cd_M_counts_31 rfl ?_
        refine ze_if_lt (tgt := 77) cd_M_counts_33 (by decide) (fun c9 => absurd c9 (nI_pos (by omega))) (fun _ => ?_)
        refine ze_iload 1 cd_M_counts_36 rfl ?_
        refine ze_iload_n 4 cd_M_counts_38 rfl rfl ?_
        refine ze_icmp_eq (tgt := 77) cd_M_counts_39 (by decide) (fun c3 => ?_) (fun c3 => ?_)
        · skip
          have c3 : q = tp := (nI_eq (by omega) (by omega)).mp c3
          refine ze_iload 0 cd_M_counts_77 rfl ?_
          refine ze_if_eq (tgt := 107) cd_M_counts_79 (by decide) (fun c4 => ?_) (fun c4 => ?_)
          · skip
            have c4 : b = false := zb_f c4
            refine ze_iconst (v := nI 0) cd_M_counts_107 (by decide) ?_
            refine ze_zret cd_M_counts_108 rfl (by decide) (by decide) (by decide) (zPp_mk ?_)
            rw [← hX0]; simp only [zm_cnt, hux, if_neg hit, if_true]; rw [← hE]; first | (simp [zck, zb, nI_0, zn_1, c3, c4]; done) | (simp_all [zck, zb, nI_0, zn_1]; done)
          · skip
            have c4 : b = true := zb_t c4
            refine ze_iload 1 cd_M_counts_82 rfl ?_
            refine ze_iload_n 4 cd_M_counts_84 rfl rfl ?_
            refine ze_icmp_ne (tgt := 107) cd_M_counts_85 (by decide) (fun c6 => ?_) (fun c6 => ?_)
            · skip
              have c6 : ¬ q = tp := fun h9 => c6 (by rw [h9])
              exfalso; omega
            · skip
              have c6 : q = tp := (nI_eq (by omega) (by omega)).mp c6
              refine ze_iload 6 cd_M_counts_88 rfl ?_
              refine ze_if_eq (tgt := 103) cd_M_counts_90 (by decide) (fun c7 => ?_) (fun c7 => ?_)
              · skip
                have c7 : self = false := zb_f c7
                refine ze_iconst (v := nI 1) cd_M_counts_103 (by decide) ?_
                refine ze_goto (tgt := 108) cd_M_counts_104 (by decide) ?_
                refine ze_zret cd_M_counts_108 rfl (by decide) (by decide) (by decide) (zPp_mk ?_)
                rw [← hX0]; simp only [zm_cnt, hux, if_neg hit, if_true]; rw [← hE]; first | (simp [zck, zb, nI_0, zn_1, c3, c4, c6, c7]; done) | (simp_all [zck, zb, nI_0, zn_1]; done)
              · skip
                have c7 : self = true := zb_t c7
                refine ze_aload_n 2 cd_M_counts_93 rfl rfl ?_
                refine ze_get zin_M (v := .ref (a + 9)) (ci := 7) rfl 14 (by decide) zm_736 rfl cd_M_counts_94 hM.1 rfl ?_
                refine ze_iload_n 4 cd_M_counts_97 rfl rfl ?_
                refine ze_iald (j := tp) cd_M_counts_98 (hM.2 8 _ rfl) rfl (by omega) (by decide) ?_
                refine ze_iload_n 5 cd_M_counts_99 rfl rfl ?_
                refine ze_icmp_eq (tgt := 107) cd_M_counts_100 (by decide) (fun c8 => ?_) (fun c8 => ?_)
                · skip
                  refine ze_iconst (v := nI 0) cd_M_counts_107 (by decide) ?_
                  refine ze_zret cd_M_counts_108 rfl (by decide) (by decide) (by decide) (zPp_mk ?_)
                  rw [← hX0]; simp only [zm_cnt, hux, if_neg hit, if_true]; rw [← hE]; first | (simp [zck, zb, nI_0, zn_1, c3, c4, c6, c7, c8]; done) | (simp_all [zck, zb, nI_0, zn_1]; done)
                · skip
                  refine ze_iconst (v := nI 1) cd_M_counts_103 (by decide) ?_
                  refine ze_goto (tgt := 108) cd_M_counts_104 (by decide) ?_
                  refine ze_zret cd_M_counts_108 rfl (by decide) (by decide) (by decide) (zPp_mk ?_)
                  rw [← hX0]; simp only [zm_cnt, hux, if_neg hit, if_true]; rw [← hE]; first | (simp [zck, zb, nI_0, zn_1, c3, c4, c6, c7, c8]; done) | (simp_all [zck, zb, nI_0, zn_1]; done)
        · skip
          have c3 : ¬ q = tp := fun h9 => c3 (by rw [h9])
          refine ze_iload 0 cd_M_counts_42 rfl ?_
          refine ze_if_eq (tgt := 62) cd_M_counts_44 (by decide) (fun c9 => ?_) (fun c9 => ?_)
          · skip
            have c9 : b = false := zb_f c9
            refine ze_iconst (v := nI 0) cd_M_counts_62 (by decide) ?_
            refine ze_istore (lv' := [(6, .int (nI 0)), (5, .int (nI q)), (0, .ref a), (1, .int (nI i)), (2, .int (nI tp)), (3, .int x), (4, .int (zb self))]) cd_M_counts_63 (by decide) rfl ?_
            refine ze_aload_n 2 cd_M_counts_65 rfl rfl ?_
            refine ze_get zin_M (v := .ref (a + 4)) (ci := 7) rfl 9 (by decide) zm_731 rfl cd_M_counts_66 hM.1 rfl ?_
            refine ze_iload 1 cd_M_counts_69 rfl ?_
            refine ze_iald (j := q) cd_M_counts_71 (hM.2 3 _ rfl) rfl (by omega) (by decide) ?_
            refine ze_top hqu ?_
            refine ze_istore (lv' := [(5, .int (zo (pa q))), (6, .int (nI 0)), (0, .ref a), (1, .int (nI i)), (2, .int (nI tp)), (3, .int x), (4, .int (zb self))]) cd_M_counts_72 (by decide) rfl ?_
            refine ze_goto (tgt := 31) cd_M_counts_74 (by decide) ?_
            exact ze_sub [1, 0, 2, 3, 4, 5, 6] rfl (ih (pa q) false (fun p hp => by have := hqp p hp; exact ⟨this.1, by omega⟩) (by rw [← hE]; simp [zck, c3, c9]))
          · skip
            have c9 : b = true := zb_t c9
            refine ze_aload_n 2 cd_M_counts_47 rfl rfl ?_
            refine ze_get zin_M (v := .ref (a + 9)) (ci := 7) rfl 14 (by decide) zm_736 rfl cd_M_counts_48 hM.1 rfl ?_
            refine ze_iload 1 cd_M_counts_51 rfl ?_
            refine ze_iald (j := q) cd_M_counts_53 (hM.2 8 _ rfl) rfl (by omega) (by decide) ?_
            refine ze_iload_n 5 cd_M_counts_54 rfl rfl ?_
            refine ze_icmp_eq (tgt := 62) cd_M_counts_55 (by decide) (fun c10 => ?_) (fun c10 => ?_)
            · skip
              refine ze_iconst (v := nI 0) cd_M_counts_62 (by decide) ?_
              refine ze_istore (lv' := [(6, .int (nI 0)), (5, .int (nI q)), (0, .ref a), (1, .int (nI i)), (2, .int (nI tp)), (3, .int x), (4, .int (zb self))]) cd_M_counts_63 (by decide) rfl ?_
              refine ze_aload_n 2 cd_M_counts_65 rfl rfl ?_
              refine ze_get zin_M (v := .ref (a + 4)) (ci := 7) rfl 9 (by decide) zm_731 rfl cd_M_counts_66 hM.1 rfl ?_
              refine ze_iload 1 cd_M_counts_69 rfl ?_
              refine ze_iald (j := q) cd_M_counts_71 (hM.2 3 _ rfl) rfl (by omega) (by decide) ?_
              refine ze_top hqu ?_
              refine ze_istore (lv' := [(5, .int (zo (pa q))), (6, .int (nI 0)), (0, .ref a), (1, .int (nI i)), (2, .int (nI tp)), (3, .int x), (4, .int (zb self))]) cd_M_counts_72 (by decide) rfl ?_
              refine ze_goto (tgt := 31) cd_M_counts_74 (by decide) ?_
              exact ze_sub [1, 0, 2, 3, 4, 5, 6] rfl (ih (pa q) false (fun p hp => by have := hqp p hp; exact ⟨this.1, by omega⟩) (by rw [← hE]; simp [zck, c3, c9, c10]))
            · skip
              refine ze_iconst (v := nI 1) cd_M_counts_58 (by decide) ?_
              refine ze_goto (tgt := 63) cd_M_counts_59 (by decide) ?_
              refine ze_istore (lv' := [(6, .int (nI 1)), (5, .int (nI q)), (0, .ref a), (1, .int (nI i)), (2, .int (nI tp)), (3, .int x), (4, .int (zb self))]) cd_M_counts_63 (by decide) rfl ?_
              refine ze_aload_n 2 cd_M_counts_65 rfl rfl ?_
              refine ze_get zin_M (v := .ref (a + 4)) (ci := 7) rfl 9 (by decide) zm_731 rfl cd_M_counts_66 hM.1 rfl ?_
              refine ze_iload 1 cd_M_counts_69 rfl ?_
              refine ze_iald (j := q) cd_M_counts_71 (hM.2 3 _ rfl) rfl (by omega) (by decide) ?_
              refine ze_top hqu ?_
              refine ze_istore (lv' := [(5, .int (zo (pa q))), (6, .int (nI 1)), (0, .ref a), (1, .int (nI i)), (2, .int (nI tp)), (3, .int x), (4, .int (zb self))]) cd_M_counts_72 (by decide) rfl ?_
              refine ze_goto (tgt := 31) cd_M_counts_74 (by decide) ?_
              exact ze_sub [1, 0, 2, 3, 4, 5, 6] rfl (ih (pa q) true (fun p hp => by have := hqp p hp; exact ⟨this.1, by omega⟩) (by rw [← hE]; simp [zck, c3, c9, c10]))
  obtain ⟨hi3, hi8, hiu, hip, hin⟩ := hfo i hi
  refine zM_of (lv := [(0, .ref a), (1, .int (nI i)), (2, .int (nI tp)), (3, .int x), (4, .int (zb self))]) (ini := false) (by decide) rfl (by decide) (Nat.le_of_ble_eq_true rfl) rfl ?_
  refine ze_aload_n 0 cd_M_counts_0 rfl rfl ?_
  refine ze_get zin_M (v := .ref (a + 9)) (ci := 7) rfl 14 (by decide) zm_736 rfl cd_M_counts_1 hM.1 rfl ?_
  refine ze_iload_n 1 cd_M_counts_4 rfl rfl ?_
  refine ze_iald (j := i) cd_M_counts_5 (hM.2 8 _ rfl) rfl (by omega) (by decide) ?_
  refine ze_iload_n 3 cd_M_counts_6 rfl rfl ?_
  refine ze_icmp_eq (tgt := 12) cd_M_counts_7 (by decide) (fun c1 => ?_) (fun c1 => ?_)
  · skip
    refine ze_iload_n 1 cd_M_counts_12 rfl rfl ?_
    refine ze_iload_n 2 cd_M_counts_13 rfl rfl ?_
    refine ze_icmp_ne (tgt := 20) cd_M_counts_14 (by decide) (fun c2 => ?_) (fun c2 => ?_)
    · skip
      have c2 : ¬ i = tp := fun h9 => c2 (by rw [h9])
      refine ze_aload_n 0 cd_M_counts_20 rfl rfl ?_
      refine ze_get zin_M (v := .ref (a + 4)) (ci := 7) rfl 9 (by decide) zm_731 rfl cd_M_counts_21 hM.1 rfl ?_
      refine ze_iload_n 1 cd_M_counts_24 rfl rfl ?_
      refine ze_iald (j := i) cd_M_counts_25 (hM.2 3 _ rfl) rfl (by omega) (by decide) ?_
      refine ze_top hiu ?_
      refine ze_istore (lv' := [(5, .int (zo (pa i))), (0, .ref a), (1, .int (nI i)), (2, .int (nI tp)), (3, .int x), (4, .int (zb self))]) cd_M_counts_26 (by decide) rfl ?_
      refine ze_iconst (v := nI 1) cd_M_counts_28 (by decide) ?_
      refine ze_istore (lv' := [(6, .int (nI 1)), (5, .int (zo (pa i))), (0, .ref a), (1, .int (nI i)), (2, .int (nI tp)), (3, .int x), (4, .int (zb self))]) cd_M_counts_29 (by decide) rfl ?_
      exact ze_sub [0, 1, 2, 3, 4, 5, 6] rfl (loop c1 c2 9 (pa i) true (fun p hp => by have := hip p hp; exact ⟨this.1, by omega⟩) (by simp))
    · skip
      have c2 : i = tp := (nI_eq (by omega) (by omega)).mp c2
      refine ze_iload 4 cd_M_counts_17 rfl ?_
      refine ze_zret cd_M_counts_19 rfl (zb_or _) (by decide) (by decide) (zPp_mk ?_)
      rw [← hX0]; first | (simp [zm_cnt, nI_0, zb, c1, c2]; done) | (subst c2; simp [zm_cnt, zb, c1]; done)
  · skip
    refine ze_iconst (v := nI 0) cd_M_counts_10 (by decide) ?_
    refine ze_zret cd_M_counts_11 rfl (by decide) (by decide) (by decide) (zPp_mk ?_)
    rw [← hX0]; first | (simp [zm_cnt, nI_0, zb, c1]; done) | (subst c2; simp [zm_cnt, zb, c1]; done)
def zm_sf (M : Nat → Nat → Int32) (pa : Nat → Option Nat) (x : Int32) (tp : Nat) (self : Bool) (s : Int32) (k : Nat) : Int32 := if zm_cnt pa (M 8) x tp self k then s + M 7 k else s + nI 0
def zm_sum (lv : Nat) (M : Nat → Nat → Int32) (pa : Nat → Option Nat) (tp : Nat) (x : Int32) (self : Bool) : Int32 := zfold (zm_sf M pa x tp self) (nI 0) 0 lv
abbrev zr_M_sum : Room := { frames := 1, cells := 0, slots := 0, locals := 26 }
set_option maxRecDepth 100000 in
set_option maxHeartbeats 4000000 in
theorem kc_M_sum {g : zx_G} {σ : zx_M} {sz : Nat} {a size ps lv ot ak pr : Nat} {th wr fr : Int32} {M : Nat → Nat → Int32} {pa : Nat → Option Nat} {dp : Nat → Nat} {tp : Nat} {x : Int32} {self : Bool} (hM : zmo g σ a th size wr ps lv ot ak fr pr M) (hfo : zfor (M 3) pa dp (fun j => j < lv)) (hlv : lv ≤ 100) (htp : tp < lv) : zM g cy_M_sum cb_M_sum 6 (Option.some Jvm.ClassFile.FieldType.int) zr_M_sum 0 0 [.ref a, .int (nI tp), .int x, .int (zb self)] σ sz (zPp (zm_sum lv M pa tp x self) σ sz) := by
  generalize hX0 : zm_sum lv M pa tp x self = X0
  have loop : ∀ (kk : Nat) (lo : Nat) (s : Int32), lo + kk = lv → zfold (zm_sf M pa x tp self) s lo kk = X0 → zE g "FindingAidModel" cb_M_sum 6 (Option.some Jvm.ClassFile.FieldType.int) false zr_M_sum 0 0 (zPp X0 σ sz) 6 [(5, .int (nI lo)), (4, .int s), (0, .ref a), (1, .int (nI tp)), (2, .int x), (3, .int (zb self))] [] σ sz 0 0 := by
    intro kk
    induction kk with
    | zero =>
      intro lo s hk hE
      refine ze_iload 0 cd_M_sum_6 rfl ?_
      refine ze_aload_n 2 cd_M_sum_8 rfl rfl ?_
      refine ze_get zin_M (v := .int (nI lv)) (ci := 7) rfl 5 (by decide) zm_727 rfl cd_M_sum_9 hM.1 rfl ?_
      refine ze_icmp_ge (tgt := 49) cd_M_sum_12 (by decide) (fun c2 => ?_) (fun c2 => ?_)
      · skip
        have c2 : lv ≤ lo := (nI_leI (by omega) (by omega)).mp c2
        refine ze_iload 1 cd_M_sum_49 rfl ?_
        refine ze_iret cd_M_sum_51 rfl (by decide) (by decide) (zPp_mk ?_)
        rw [← hE]; rfl
      · skip
        have c2 : ¬ lv ≤ lo := fun h9 => c2 ((nI_leI (by omega) (by omega)).mpr h9)
        exfalso; omega
    | succ kk ih =>
      intro lo s hk hE
      refine ze_iload 0 cd_M_sum_6 rfl ?_
      refine ze_aload_n 2 cd_M_sum_8 rfl rfl ?_
      refine ze_get zin_M (v := .int (nI lv)) (ci := 7) rfl 5 (by decide) zm_727 rfl cd_M_sum_9 hM.1 rfl ?_
      refine ze_icmp_ge (tgt := 49) cd_M_sum_12 (by decide) (fun c4 => ?_) (fun c4 => ?_)
      · skip
        have c4 : lv ≤ lo := (nI_leI (by omega) (by omega)).mp c4
        exfalso; omega
      · skip
        have c4 : ¬ lv ≤ lo := fun h9 => c4 ((nI_leI (by omega) (by omega)).mpr h9)
        refine ze_iload 1 cd_M_sum_15 rfl ?_
        refine ze_aload_n 2 cd_M_sum_17 rfl rfl ?_
        refine ze_iload 0 cd_M_sum_18 rfl ?_
        refine ze_iload_n 3 cd_M_sum_20 rfl rfl ?_
        refine ze_iload_n 4 cd_M_sum_21 rfl rfl ?_
        refine ze_iload_n 5 cd_M_sum_22 rfl rfl ?_
        refine ze_callVp (rm' := zr_M_counts) (b := a) (As := [.int (nI lo), .int (nI tp), .int x, .int (zb self)]) (rest := [.int s]) (kc_M_counts (pa := pa) (dp := dp) (i := lo) (tp := tp) (x := x) (self := self) hM hfo hlv (by omega) (by omega)) ⟨rfl, rfl⟩ zy_M_counts_ok zm_911 zm_913 zm_43 (ci := 7) rfl rfl (by decide) (by decide) cd_M_sum_23 hM.1 rfl rfl (Nat.le_of_ble_eq_true rfl) ?_
        refine ze_if_eq (tgt := 39) cd_M_sum_26 (by decide) (fun c5 => ?_) (fun c5 => ?_)
        · skip
          have c5 : (zm_cnt pa (M 8) x tp self lo) = false := zb_f c5
          refine ze_iconst (v := nI 0) cd_M_sum_39 (by decide) ?_
          refine ze_iadd cd_M_sum_40 ?_
          refine ze_istore (lv' := [(4, .int (s + (nI 0))), (5, .int (nI lo)), (0, .ref a), (1, .int (nI tp)), (2, .int x), (3, .int (zb self))]) cd_M_sum_41 (by decide) rfl ?_
          refine ze_iinc (v := nI (lo + 1)) (lv' := [(5, .int (nI (lo + 1))), (4, .int (s + (nI 0))), (0, .ref a), (1, .int (nI tp)), (2, .int x), (3, .int (zb self))]) 1 cd_M_sum_43 rfl (nI_add _ 1) (by decide) rfl ?_
          refine ze_goto (tgt := 6) cd_M_sum_46 (by decide) ?_
          exact ze_sub [0, 1, 2, 3, 4, 5] rfl (ih (lo + 1) _ (by omega) (by rw [← hE]; simp only [zfold, zm_sf, c5, if_true, if_false]; try rfl))
        · skip
          have c5 : (zm_cnt pa (M 8) x tp self lo) = true := zb_t c5
          refine ze_aload_n 2 cd_M_sum_29 rfl rfl ?_
          refine ze_get zin_M (v := .ref (a + 8)) (ci := 7) rfl 13 (by decide) zm_735 rfl cd_M_sum_30 hM.1 rfl ?_
          refine ze_iload 0 cd_M_sum_33 rfl ?_
          refine ze_iald (j := lo) cd_M_sum_35 (hM.2 7 _ rfl) rfl (by omega) (by decide) ?_
          refine ze_goto (tgt := 40) cd_M_sum_36 (by decide) ?_
          refine ze_iadd cd_M_sum_40 ?_
          refine ze_istore (lv' := [(4, .int (s + (M 7 lo))), (5, .int (nI lo)), (0, .ref a), (1, .int (nI tp)), (2, .int x), (3, .int (zb self))]) cd_M_sum_41 (by decide) rfl ?_
          refine ze_iinc (v := nI (lo + 1)) (lv' := [(5, .int (nI (lo + 1))), (4, .int (s + (M 7 lo))), (0, .ref a), (1, .int (nI tp)), (2, .int x), (3, .int (zb self))]) 1 cd_M_sum_43 rfl (nI_add _ 1) (by decide) rfl ?_
          refine ze_goto (tgt := 6) cd_M_sum_46 (by decide) ?_
          exact ze_sub [0, 1, 2, 3, 4, 5] rfl (ih (lo + 1) _ (by omega) (by rw [← hE]; simp only [zfold, zm_sf, c5, if_true, if_false]; try rfl))
  refine zM_of (lv := [(0, .ref a), (1, .int (nI tp)), (2, .int x), (3, .int (zb self))]) (ini := false) (by decide) rfl (by decide) (Nat.le_of_ble_eq_true rfl) rfl ?_
  refine ze_iconst (v := nI 0) cd_M_sum_0 (by decide) ?_
  refine ze_istore (lv' := [(4, .int (nI 0)), (0, .ref a), (1, .int (nI tp)), (2, .int x), (3, .int (zb self))]) cd_M_sum_1 (by decide) rfl ?_
  refine ze_iconst (v := nI 0) cd_M_sum_3 (by decide) ?_
  refine ze_istore (lv' := [(5, .int (nI 0)), (4, .int (nI 0)), (0, .ref a), (1, .int (nI tp)), (2, .int x), (3, .int (zb self))]) cd_M_sum_4 (by decide) rfl ?_
  exact ze_sub [0, 1, 2, 3, 4, 5] rfl (loop lv 0 (nI 0) (by omega) hX0)
def zm_exn (lv : Nat) (M : Nat → Nat → Int32) (pa : Nat → Option Nat) (i u : Int32) : Int32 := match zi lv i with
  | none => -1
  | some j => match zi 3 u with
    | none => -2
    | some _ => zm_sum lv M pa j u true
def zm_dfc (lv : Nat) (M : Nat → Nat → Int32) (pa : Nat → Option Nat) (k : Nat) : Bool := if M 8 k < 0 then false else if zm_sum lv M pa k (M 8 k) false = 0 then false else if zm_sum lv M pa k (M 8 k) false = M 7 k then false else true
abbrev zr_M_extent : Room := { frames := 2, cells := 0, slots := 0, locals := 51 }
set_option maxRecDepth 100000 in
set_option maxHeartbeats 4000000 in
theorem kc_M_extent {g : zx_G} {σ : zx_M} {sz : Nat} {a size ps lv ot ak pr : Nat} {th wr fr : Int32} {M : Nat → Nat → Int32} {pa : Nat → Option Nat} {dp : Nat → Nat} {i u : Int32} (hM : zmo g σ a th size wr ps lv ot ak fr pr M) (hfo : zfor (M 3) pa dp (fun j => j < lv)) (hlv : lv ≤ 100) : zM g cy_M_extent cb_M_extent 3 (Option.some Jvm.ClassFile.FieldType.int) zr_M_extent 0 0 [.ref a, .int i, .int u] σ sz (zPi (fun v σ' sz' => v = zm_exn lv M pa i u ∧ sz' = sz ∧ zfr σ σ' a 22 ∧ zmo g σ' a (nI 0) size wr ps lv ot ak fr pr M)) := by
  have hF : zfr σ σ a 22 := zfr.rf
  refine zM_of (lv := [(0, .ref a), (1, .int i), (2, .int u)]) (ini := false) (by decide) rfl (by decide) (Nat.le_of_ble_eq_true rfl) rfl ?_
  refine ze_aload_n 0 cd_M_extent_0 rfl rfl ?_
  refine ze_iconst (v := nI 0) cd_M_extent_1 (by decide) ?_
  refine ze_put zin_M zy_M zt_M zn_M (ci := 7) rfl 0 (by decide) zm_722 rfl (Or.inl rfl) cd_M_extent_2 hM.1 rfl rfl (Nat.le_of_ble_eq_true rfl) (fs' := [.int (nI 0), .int (nI size), .ref (a + 1), .int wr, .int (nI ps), .int (nI lv), .int (nI ot), .ref (a + 2), .ref (a + 3), .ref (a + 4), .ref (a + 5), .ref (a + 6), .ref (a + 7), .ref (a + 8), .ref (a + 9), .ref (a + 10), .ref (a + 11), .ref (a + 12), .ref (a + 13), .ref (a + 14), .ref (a + 15), .ref (a + 16), .ref (a + 17), .int (nI ak), .ref (a + 18), .ref (a + 19), .ref (a + 20), .int fr, .int (nI pr), .ref (a + 21)]) rfl ?_
  have hM := hM.put (fs' := [.int (nI 0), .int (nI size), .ref (a + 1), .int wr, .int (nI ps), .int (nI lv), .int (nI ot), .ref (a + 2), .ref (a + 3), .ref (a + 4), .ref (a + 5), .ref (a + 6), .ref (a + 7), .ref (a + 8), .ref (a + 9), .ref (a + 10), .ref (a + 11), .ref (a + 12), .ref (a + 13), .ref (a + 14), .ref (a + 15), .ref (a + 16), .ref (a + 17), .int (nI ak), .ref (a + 18), .ref (a + 19), .ref (a + 20), .int fr, .int (nI pr), .ref (a + 21)])
  have hF := hF.up (a := a) (e := .inr (7, [.int (nI 0), .int (nI size), .ref (a + 1), .int wr, .int (nI ps), .int (nI lv), .int (nI ot), .ref (a + 2), .ref (a + 3), .ref (a + 4), .ref (a + 5), .ref (a + 6), .ref (a + 7), .ref (a + 8), .ref (a + 9), .ref (a + 10), .ref (a + 11), .ref (a + 12), .ref (a + 13), .ref (a + 14), .ref (a + 15), .ref (a + 16), .ref (a + 17), .int (nI ak), .ref (a + 18), .ref (a + 19), .ref (a + 20), .int fr, .int (nI pr), .ref (a + 21)])) (by omega) (by omega)
  refine ze_aload_n 0 cd_M_extent_5 rfl rfl ?_
  refine ze_iload_n 1 cd_M_extent_6 rfl rfl ?_
  refine ze_callVp (rm' := zr_M_isLevel) (b := a) (As := [.int i]) (rest := []) (kc_M_isLevel hM (by omega)) ⟨rfl, rfl⟩ zy_M_isLevel_ok zm_891 zm_893 zm_41 (ci := 7) rfl rfl (by decide) (by decide) cd_M_extent_7 hM.1 rfl rfl (Nat.le_of_ble_eq_true rfl) ?_
  refine ze_if_ne (tgt := 15) cd_M_extent_10 (by decide) (fun c1 => ?_) (fun c1 => ?_)
  · skip
    have c1 : ((zi lv i).isSome) = true := zb_t c1
    obtain ⟨j, hj⟩ := Option.isSome_iff_exists.mp c1
    obtain ⟨hjn, rfl⟩ := zi_some (by omega) hj
    refine ze_iload_n 2 cd_M_extent_15 rfl rfl ?_
    refine ze_iconst (v := nI 0) cd_M_extent_16 (by decide) ?_
    refine ze_iconst (v := nI 2) cd_M_extent_17 (by decide) ?_
    refine ze_callSp (rm' := zr_M_in) (As := [.int u, .int (nI 0), .int (nI 2)]) (rest := []) kc_M_in ⟨rfl, rfl⟩ zy_M_in_ok zm_856 zm_857 (by decide) (by decide) cd_M_extent_18 rfl rfl (Nat.le_of_ble_eq_true rfl) ?_
    refine ze_top (y := zb (zi 3 u).isSome) (by rw [zm_in_c (by omega)]) ?_
    refine ze_if_eq (tgt := 34) cd_M_extent_21 (by decide) (fun c2 => ?_) (fun c2 => ?_)
    · skip
      have c2 : ((zi 3 u).isSome) = false := zb_f c2
      have c2 : zi 3 u = none := by simpa using c2
      refine ze_bipush (v := (-2 : Int32)) cd_M_extent_34 (by decide) ?_
      refine ze_iret cd_M_extent_36 rfl (by decide) (by decide) ⟨_, rfl, ?_, rfl, hF, hM⟩
      first | (simp only [zm_exn, hj, c2]; done) | (simp only [zm_exn, hj]; done)
    · skip
      have c2 : ((zi 3 u).isSome) = true := zb_t c2
      obtain ⟨q3, hq3⟩ := Option.isSome_iff_exists.mp c2
      refine ze_aload_n 0 cd_M_extent_24 rfl rfl ?_
      refine ze_iload_n 1 cd_M_extent_25 rfl rfl ?_
      refine ze_iload_n 2 cd_M_extent_26 rfl rfl ?_
      refine ze_iconst (v := nI 1) cd_M_extent_27 (by decide) ?_
      refine ze_callVp (rm' := zr_M_sum) (b := a) (As := [.int (nI j), .int u, .int (nI 1)]) (rest := []) (kc_M_sum (pa := pa) (dp := dp) (tp := j) (x := u) (self := true) hM hfo hlv (by omega)) ⟨rfl, rfl⟩ zy_M_sum_ok zm_907 zm_909 zm_42 (ci := 7) rfl rfl (by decide) (by decide) cd_M_extent_28 hM.1 rfl rfl (Nat.le_of_ble_eq_true rfl) ?_
      refine ze_goto (tgt := 36) cd_M_extent_31 (by decide) ?_
      refine ze_iret cd_M_extent_36 rfl (by decide) (by decide) ⟨_, rfl, ?_, rfl, hF, hM⟩
      first | (simp only [zm_exn, hj, hq3]; done) | (simp only [zm_exn, hj, hq3]; done)
  · skip
    have c1 : ((zi lv i).isSome) = false := zb_f c1
    have c1 : zi lv i = none := by simpa using c1
    refine ze_iconst (v := (-1 : Int32)) cd_M_extent_13 (by decide) ?_
    refine ze_iret cd_M_extent_14 rfl (by decide) (by decide) ⟨_, rfl, ?_, rfl, hF, hM⟩
    first | (simp only [zm_exn, c1]; done) | (simp only [zm_exn]; done)
abbrev zr_M_differ : Room := { frames := 2, cells := 0, slots := 0, locals := 51 }
set_option maxRecDepth 100000 in
set_option maxHeartbeats 4000000 in
theorem kc_M_differ {g : zx_G} {σ : zx_M} {sz : Nat} {a size ps lv ot ak pr : Nat} {th wr fr : Int32} {M : Nat → Nat → Int32} {pa : Nat → Option Nat} {dp : Nat → Nat} {i : Int32} (hM : zmo g σ a th size wr ps lv ot ak fr pr M) (hfo : zfor (M 3) pa dp (fun j => j < lv)) (hlv : lv ≤ 100) : zM g cy_M_differ cb_M_differ 5 (Option.some Jvm.ClassFile.FieldType.int) zr_M_differ 0 0 [.ref a, .int i] σ sz (zPi (fun v σ' sz' => v = zf_pick (zm_dfc lv M pa) i lv 0 0 ∧ sz' = sz ∧ zfr σ σ' a 22 ∧ zmo g σ' a (nI 0) size wr ps lv ot ak fr pr M)) := by
  generalize hX0 : zf_pick (zm_dfc lv M pa) i lv 0 0 = X0
  have hF : zfr σ σ a 22 := zfr.rf
  have loop : ∀ (kk lo f : Nat) (σ1 : zx_M), lo + kk = lv → f ≤ lo → zf_pick (zm_dfc lv M pa) i kk lo f = X0 → zmo g σ1 a (nI 0) size wr ps lv ot ak fr pr M → zfr σ σ1 a 22 → zE g "FindingAidModel" cb_M_differ 5 (Option.some Jvm.ClassFile.FieldType.int) false zr_M_differ 0 0 (zPi (fun v σ' sz' => v = X0 ∧ sz' = sz ∧ zfr σ σ' a 22 ∧ zmo g σ' a (nI 0) size wr ps lv ot ak fr pr M)) 9 [(3, .int (nI lo)), (2, .int (nI f)), (0, .ref a), (1, .int i)] [] σ1 sz 0 0 := by
    intro kk
    induction kk with
    | zero =>
      intro lo f σ1 hk hf hE hM hF
      refine ze_iload_n 0 cd_M_differ_9 rfl rfl ?_
      refine ze_aload_n 2 cd_M_differ_10 rfl rfl ?_
      refine ze_get zin_M (v := .int (nI lv)) (ci := 7) rfl 5 (by decide) zm_727 rfl cd_M_differ_11 hM.1 rfl ?_
      refine ze_icmp_ge (tgt := 79) cd_M_differ_14 (by decide) (fun c2 => ?_) (fun c2 => ?_)
      · skip
        have c2 : lv ≤ lo := (nI_leI (by omega) (by omega)).mp c2
        refine ze_iconst (v := (-1 : Int32)) cd_M_differ_79 (by decide) ?_
        refine ze_iret cd_M_differ_80 rfl (by decide) (by decide) ⟨_, rfl, ?_, rfl, hF, hM⟩
        rw [← hE]; first | contradiction | (simp [zf_pick, zm_dfc, c2]; done) | rfl
      · skip
        have c2 : ¬ lv ≤ lo := fun h9 => c2 ((nI_leI (by omega) (by omega)).mpr h9)
        exfalso; omega
    | succ kk ih =>
      intro lo f σ1 hk hf hE hM hF
      refine ze_iload_n 0 cd_M_differ_9 rfl rfl ?_
      refine ze_aload_n 2 cd_M_differ_10 rfl rfl ?_
      refine ze_get zin_M (v := .int (nI lv)) (ci := 7) rfl 5 (by decide) zm_727 rfl cd_M_differ_11 hM.1 rfl ?_
      refine ze_icmp_ge (tgt := 79) cd_M_differ_14 (by decide) (fun c4 => ?_) (fun c4 => ?_)
      · skip
        have c4 : lv ≤ lo := (nI_leI (by omega) (by omega)).mp c4
        exfalso; omega
      · skip
        have c4 : ¬ lv ≤ lo := fun h9 => c4 ((nI_leI (by omega) (by omega)).mpr h9)
        refine ze_aload_n 2 cd_M_differ_17 rfl rfl ?_
        refine ze_get zin_M (v := .ref (a + 9)) (ci := 7) rfl 14 (by decide) zm_736 rfl cd_M_differ_18 hM.1 rfl ?_
        refine ze_iload_n 0 cd_M_differ_21 rfl rfl ?_
        refine ze_iald (j := lo) cd_M_differ_22 (hM.2 8 _ rfl) rfl (by omega) (by decide) ?_
        refine ze_if_ge (tgt := 30) cd_M_differ_23 (by decide) (fun c5 => ?_) (fun c5 => ?_)
        · skip
          have c5 : ¬ (M 8 lo) < 0 := Int32.not_lt.mpr c5
          refine ze_aload_n 2 cd_M_differ_30 rfl rfl ?_
          refine ze_iload_n 0 cd_M_differ_31 rfl rfl ?_
          refine ze_aload_n 2 cd_M_differ_32 rfl rfl ?_
          refine ze_get zin_M (v := .ref (a + 9)) (ci := 7) rfl 14 (by decide) zm_736 rfl cd_M_differ_33 hM.1 rfl ?_
          refine ze_iload_n 0 cd_M_differ_36 rfl rfl ?_
          refine ze_iald (j := lo) cd_M_differ_37 (hM.2 8 _ rfl) rfl (by omega) (by decide) ?_
          refine ze_iconst (v := nI 0) cd_M_differ_38 (by decide) ?_
          refine ze_callVp (rm' := zr_M_sum) (b := a) (As := [.int (nI lo), .int (M 8 lo), .int (nI 0)]) (rest := []) (kc_M_sum (pa := pa) (dp := dp) (tp := lo) (x := M 8 lo) (self := false) hM hfo hlv (by omega)) ⟨rfl, rfl⟩ zy_M_sum_ok zm_907 zm_909 zm_42 (ci := 7) rfl rfl (by decide) (by decide) cd_M_differ_39 hM.1 rfl rfl (Nat.le_of_ble_eq_true rfl) ?_
          refine ze_istore (lv' := [(4, .int (zm_sum lv M pa lo (M 8 lo) false)), (3, .int (nI lo)), (2, .int (nI f)), (0, .ref a), (1, .int i)]) cd_M_differ_42 (by decide) rfl ?_
          refine ze_iload 0 cd_M_differ_44 rfl ?_
          refine ze_if_eq (tgt := 73) cd_M_differ_46 (by decide) (fun c6 => ?_) (fun c6 => ?_)
          · skip
            refine ze_iinc (v := nI (lo + 1)) (lv' := [(3, .int (nI (lo + 1))), (4, .int (zm_sum lv M pa lo (M 8 lo) false)), (2, .int (nI f)), (0, .ref a), (1, .int i)]) 1 cd_M_differ_73 rfl (nI_add _ 1) (by decide) rfl ?_
            refine ze_goto (tgt := 9) cd_M_differ_76 (by decide) ?_
            exact ze_sub [0, 2, 3, 4] rfl (ih (lo + 1) _ _ (by omega) (by omega) (by rw [← hE]; first | (simp [zf_pick, zm_dfc, c5, c6]; done) | (simp_all [zf_pick, zm_dfc]; done)) hM hF)
          · skip
            refine ze_iload 0 cd_M_differ_49 rfl ?_
            refine ze_aload_n 3 cd_M_differ_51 rfl rfl ?_
            refine ze_get zin_M (v := .ref (a + 8)) (ci := 7) rfl 13 (by decide) zm_735 rfl cd_M_differ_52 hM.1 rfl ?_
            refine ze_iload_n 1 cd_M_differ_55 rfl rfl ?_
            refine ze_iald (j := lo) cd_M_differ_56 (hM.2 7 _ rfl) rfl (by omega) (by decide) ?_
            refine ze_icmp_ne (tgt := 63) cd_M_differ_57 (by decide) (fun c7 => ?_) (fun c7 => ?_)
            · skip
              refine ze_iload_n 2 cd_M_differ_63 rfl rfl ?_
              refine ze_iload_n 4 cd_M_differ_64 rfl rfl ?_
              refine ze_icmp_ne (tgt := 70) cd_M_differ_65 (by decide) (fun c8 => ?_) (fun c8 => ?_)
              · skip
                refine ze_iinc (v := nI (f + 1)) (lv' := [(2, .int (nI (f + 1))), (4, .int (zm_sum lv M pa lo (M 8 lo) false)), (3, .int (nI lo)), (0, .ref a), (1, .int i)]) 2 cd_M_differ_70 rfl (nI_add _ 1) (by decide) rfl ?_
                refine ze_iinc (v := nI (lo + 1)) (lv' := [(3, .int (nI (lo + 1))), (2, .int (nI (f + 1))), (4, .int (zm_sum lv M pa lo (M 8 lo) false)), (0, .ref a), (1, .int i)]) 2 cd_M_differ_73 rfl (nI_add _ 1) (by decide) rfl ?_
                refine ze_goto (tgt := 9) cd_M_differ_76 (by decide) ?_
                exact ze_sub [0, 1, 3, 4] rfl (ih (lo + 1) _ _ (by omega) (by omega) (by rw [← hE]; first | (simp [zf_pick, zm_dfc, c5, c6, c7, c8]; done) | (simp_all [zf_pick, zm_dfc]; done)) hM hF)
              · skip
                refine ze_iload_n 1 cd_M_differ_68 rfl rfl ?_
                refine ze_iret cd_M_differ_69 rfl (by decide) (by decide) ⟨_, rfl, ?_, rfl, hF, hM⟩
                rw [← hE]; first | contradiction | (simp [zf_pick, zm_dfc, c4, c5, c6, c7, c8]; done) | rfl
            · skip
              refine ze_goto (tgt := 73) cd_M_differ_60 (by decide) ?_
              refine ze_iinc (v := nI (lo + 1)) (lv' := [(3, .int (nI (lo + 1))), (4, .int (zm_sum lv M pa lo (M 8 lo) false)), (2, .int (nI f)), (0, .ref a), (1, .int i)]) 1 cd_M_differ_73 rfl (nI_add _ 1) (by decide) rfl ?_
              refine ze_goto (tgt := 9) cd_M_differ_76 (by decide) ?_
              exact ze_sub [0, 2, 3, 4] rfl (ih (lo + 1) _ _ (by omega) (by omega) (by rw [← hE]; first | (simp [zf_pick, zm_dfc, c5, c6, c7]; done) | (simp_all [zf_pick, zm_dfc]; done)) hM hF)
        · skip
          have c5 : (M 8 lo) < 0 := Int32.not_le.mp c5
          refine ze_iconst (v := nI 0) cd_M_differ_26 (by decide) ?_
          refine ze_goto (tgt := 42) cd_M_differ_27 (by decide) ?_
          refine ze_istore (lv' := [(4, .int (nI 0)), (3, .int (nI lo)), (2, .int (nI f)), (0, .ref a), (1, .int i)]) cd_M_differ_42 (by decide) rfl ?_
          refine ze_iload 0 cd_M_differ_44 rfl ?_
          refine ze_if_eq (tgt := 73) cd_M_differ_46 (by decide) (fun _ => ?_) (fun c9 => absurd c9 (by decide))
          refine ze_iinc (v := nI (lo + 1)) (lv' := [(3, .int (nI (lo + 1))), (4, .int (nI 0)), (2, .int (nI f)), (0, .ref a), (1, .int i)]) 1 cd_M_differ_73 rfl (nI_add _ 1) (by decide) rfl ?_
          refine ze_goto (tgt := 9) cd_M_differ_76 (by decide) ?_
          exact ze_sub [0, 2, 3, 4] rfl (ih (lo + 1) _ _ (by omega) (by omega) (by rw [← hE]; first | (simp [zf_pick, zm_dfc, c5]; done) | (simp_all [zf_pick, zm_dfc]; done)) hM hF)
  refine zM_of (lv := [(0, .ref a), (1, .int i)]) (ini := false) (by decide) rfl (by decide) (Nat.le_of_ble_eq_true rfl) rfl ?_
  refine ze_aload_n 0 cd_M_differ_0 rfl rfl ?_
  refine ze_iconst (v := nI 0) cd_M_differ_1 (by decide) ?_
  refine ze_put zin_M zy_M zt_M zn_M (ci := 7) rfl 0 (by decide) zm_722 rfl (Or.inl rfl) cd_M_differ_2 hM.1 rfl rfl (Nat.le_of_ble_eq_true rfl) (fs' := [.int (nI 0), .int (nI size), .ref (a + 1), .int wr, .int (nI ps), .int (nI lv), .int (nI ot), .ref (a + 2), .ref (a + 3), .ref (a + 4), .ref (a + 5), .ref (a + 6), .ref (a + 7), .ref (a + 8), .ref (a + 9), .ref (a + 10), .ref (a + 11), .ref (a + 12), .ref (a + 13), .ref (a + 14), .ref (a + 15), .ref (a + 16), .ref (a + 17), .int (nI ak), .ref (a + 18), .ref (a + 19), .ref (a + 20), .int fr, .int (nI pr), .ref (a + 21)]) rfl ?_
  have hM := hM.put (fs' := [.int (nI 0), .int (nI size), .ref (a + 1), .int wr, .int (nI ps), .int (nI lv), .int (nI ot), .ref (a + 2), .ref (a + 3), .ref (a + 4), .ref (a + 5), .ref (a + 6), .ref (a + 7), .ref (a + 8), .ref (a + 9), .ref (a + 10), .ref (a + 11), .ref (a + 12), .ref (a + 13), .ref (a + 14), .ref (a + 15), .ref (a + 16), .ref (a + 17), .int (nI ak), .ref (a + 18), .ref (a + 19), .ref (a + 20), .int fr, .int (nI pr), .ref (a + 21)])
  have hF := hF.up (a := a) (e := .inr (7, [.int (nI 0), .int (nI size), .ref (a + 1), .int wr, .int (nI ps), .int (nI lv), .int (nI ot), .ref (a + 2), .ref (a + 3), .ref (a + 4), .ref (a + 5), .ref (a + 6), .ref (a + 7), .ref (a + 8), .ref (a + 9), .ref (a + 10), .ref (a + 11), .ref (a + 12), .ref (a + 13), .ref (a + 14), .ref (a + 15), .ref (a + 16), .ref (a + 17), .int (nI ak), .ref (a + 18), .ref (a + 19), .ref (a + 20), .int fr, .int (nI pr), .ref (a + 21)])) (by omega) (by omega)
  refine ze_iconst (v := nI 0) cd_M_differ_5 (by decide) ?_
  refine ze_istore_n (lv' := [(2, .int (nI 0)), (0, .ref a), (1, .int i)]) cd_M_differ_6 rfl (by decide) rfl ?_
  refine ze_iconst (v := nI 0) cd_M_differ_7 (by decide) ?_
  refine ze_istore_n (lv' := [(3, .int (nI 0)), (2, .int (nI 0)), (0, .ref a), (1, .int i)]) cd_M_differ_8 rfl (by decide) rfl ?_
  exact ze_sub [0, 1, 2, 3] rfl (loop lv 0 0 _ (by omega) (by omega) hX0 hM hF)
abbrev zr_M_twice : Room := { frames := 0, cells := 0, slots := 0, locals := 0 }
set_option maxRecDepth 100000 in
set_option maxHeartbeats 4000000 in
theorem kc_M_twice {g : zx_G} {σ : zx_M} {sz : Nat} {a size ps lv ot ak pr : Nat} {th wr fr : Int32} {M : Nat → Nat → Int32} {dp : Nat → Nat} {i : Int32} (hM : zmo g σ a th size wr ps lv ot ak fr pr M) (hlv : lv ≤ 100) : zM g cy_M_twice cb_M_twice 6 (Option.some Jvm.ClassFile.FieldType.int) zr_M_twice 0 0 [.ref a, .int i] σ sz (zPi (fun v σ' sz' => v = zf_pick (fun x => zl_rep (zmR M dp) x) i lv 0 0 ∧ sz' = sz ∧ zfr σ σ' a 22 ∧ zmo g σ' a (nI 0) size wr ps lv ot ak fr pr M)) := by
  generalize hX0 : zf_pick (fun x => zl_rep (zmR M dp) x) i lv 0 0 = X0
  have hF : zfr σ σ a 22 := zfr.rf
  have inn : ∀ (x f : Nat) (σ1 : zx_M), x < lv → f ≤ x → zmo g σ1 a (nI 0) size wr ps lv ot ak fr pr M → zfr σ σ1 a 22 → (∀ (b : Bool), b = zl_rep (zmR M dp) x → zE g "FindingAidModel" cb_M_twice 6 (Option.some Jvm.ClassFile.FieldType.int) false zr_M_twice 0 0 (zPi (fun v σ' sz' => v = X0 ∧ sz' = sz ∧ zfr σ σ' a 22 ∧ zmo g σ' a (nI 0) size wr ps lv ot ak fr pr M)) 79 [(5, .int (nI x)), (4, .int (zb b)), (3, .int (nI x)), (2, .int (nI f)), (0, .ref a), (1, .int i)] [] σ1 sz 0 0) → ∀ (kk lo : Nat) (b : Bool), lo + kk = x → (b || zany (fun z => decide (zmR M dp 2 z = zmR M dp 2 x) && decide (zmR M dp 1 z = zmR M dp 1 x)) lo kk) = zl_rep (zmR M dp) x → zE g "FindingAidModel" cb_M_twice 6 (Option.some Jvm.ClassFile.FieldType.int) false zr_M_twice 0 0 (zPi (fun v σ' sz' => v = X0 ∧ sz' = sz ∧ zfr σ σ' a 22 ∧ zmo g σ' a (nI 0) size wr ps lv ot ak fr pr M)) 23 [(5, .int (nI lo)), (4, .int (zb b)), (3, .int (nI x)), (2, .int (nI f)), (0, .ref a), (1, .int i)] [] σ1 sz 0 0 := by
    intro x f σ1 hx hfx hM hF hK kk
    induction kk with
    | zero =>
      intro lo b hk hE
      refine ze_iload 0 cd_M_twice_23 rfl ?_
      refine ze_iload_n 2 cd_M_twice_25 rfl rfl ?_
      refine ze_icmp_ge (tgt := 79) cd_M_twice_26 (by decide) (fun c2 => ?_) (fun c2 => ?_)
      · skip
        have c2 : x ≤ lo := (nI_leI (by omega) (by omega)).mp c2
        obtain rfl : lo = x := by omega
        exact ze_sub [0, 1, 2, 3, 4, 5] rfl (hK b (by rw [← hE]; simp [zany]))
      · skip
        have c2 : ¬ x ≤ lo := fun h9 => c2 ((nI_leI (by omega) (by omega)).mpr h9)
        exfalso; omega
    | succ kk ih =>
      intro lo b hk hE
      refine ze_iload 0 cd_M_twice_23 rfl ?_
      refine ze_iload_n 2 cd_M_twice_25 rfl rfl ?_
      refine ze_icmp_ge (tgt := 79) cd_M_twice_26 (by decide) (fun c4 => ?_) (fun c4 => ?_)
      · skip
        have c4 : x ≤ lo := (nI_leI (by omega) (by omega)).mp c4
        exfalso; omega
      · skip
        have c4 : ¬ x ≤ lo := fun h9 => c4 ((nI_leI (by omega) (by omega)).mpr h9)
        refine ze_iload 1 cd_M_twice_29 rfl ?_
        refine ze_if_ne (tgt := 66) cd_M_twice_31 (by decide) (fun c5 => ?_) (fun c5 => ?_)
        · skip
          have c5 : b = true := zb_t c5
          refine ze_iconst (v := nI 1) cd_M_twice_66 (by decide) ?_
          refine ze_goto (tgt := 71) cd_M_twice_67 (by decide) ?_
          refine ze_istore (lv' := [(4, .int (nI 1)), (5, .int (nI lo)), (3, .int (nI x)), (2, .int (nI f)), (0, .ref a), (1, .int i)]) cd_M_twice_71 (by decide) rfl ?_
          refine ze_iinc (v := nI (lo + 1)) (lv' := [(5, .int (nI (lo + 1))), (4, .int (nI 1)), (3, .int (nI x)), (2, .int (nI f)), (0, .ref a), (1, .int i)]) 1 cd_M_twice_73 rfl (nI_add _ 1) (by decide) rfl ?_
          refine ze_goto (tgt := 23) cd_M_twice_76 (by decide) ?_
          exact ze_sub [0, 1, 2, 3, 4, 5] rfl (ih (lo + 1) true (by omega) (by rw [← hE]; first | (simp [zany, zmR, c5]; done) | (simp_all [zany, zmR]; done)))
        · skip
          have c5 : b = false := zb_f c5
          refine ze_aload_n 4 cd_M_twice_34 rfl rfl ?_
          refine ze_get zin_M (v := .ref (a + 4)) (ci := 7) rfl 9 (by decide) zm_731 rfl cd_M_twice_35 hM.1 rfl ?_
          refine ze_iload 0 cd_M_twice_38 rfl ?_
          refine ze_iald (j := lo) cd_M_twice_40 (hM.2 3 _ rfl) rfl (by omega) (by decide) ?_
          refine ze_aload_n 4 cd_M_twice_41 rfl rfl ?_
          refine ze_get zin_M (v := .ref (a + 4)) (ci := 7) rfl 9 (by decide) zm_731 rfl cd_M_twice_42 hM.1 rfl ?_
          refine ze_iload_n 2 cd_M_twice_45 rfl rfl ?_
          refine ze_iald (j := x) cd_M_twice_46 (hM.2 3 _ rfl) rfl (by omega) (by decide) ?_
          refine ze_icmp_ne (tgt := 70) cd_M_twice_47 (by decide) (fun c6 => ?_) (fun c6 => ?_)
          · skip
            refine ze_iconst (v := nI 0) cd_M_twice_70 (by decide) ?_
            refine ze_istore (lv' := [(4, .int (nI 0)), (5, .int (nI lo)), (3, .int (nI x)), (2, .int (nI f)), (0, .ref a), (1, .int i)]) cd_M_twice_71 (by decide) rfl ?_
            refine ze_iinc (v := nI (lo + 1)) (lv' := [(5, .int (nI (lo + 1))), (4, .int (nI 0)), (3, .int (nI x)), (2, .int (nI f)), (0, .ref a), (1, .int i)]) 1 cd_M_twice_73 rfl (nI_add _ 1) (by decide) rfl ?_
            refine ze_goto (tgt := 23) cd_M_twice_76 (by decide) ?_
            exact ze_sub [0, 1, 2, 3, 4, 5] rfl (ih (lo + 1) false (by omega) (by rw [← hE]; first | (simp [zany, zmR, c5, c6]; done) | (simp_all [zany, zmR]; done)))
          · skip
            refine ze_aload_n 4 cd_M_twice_50 rfl rfl ?_
            refine ze_get zin_M (v := .ref (a + 3)) (ci := 7) rfl 8 (by decide) zm_730 rfl cd_M_twice_51 hM.1 rfl ?_
            refine ze_iload 0 cd_M_twice_54 rfl ?_
            refine ze_iald (j := lo) cd_M_twice_56 (hM.2 2 _ rfl) rfl (by omega) (by decide) ?_
            refine ze_aload_n 4 cd_M_twice_57 rfl rfl ?_
            refine ze_get zin_M (v := .ref (a + 3)) (ci := 7) rfl 8 (by decide) zm_730 rfl cd_M_twice_58 hM.1 rfl ?_
            refine ze_iload_n 2 cd_M_twice_61 rfl rfl ?_
            refine ze_iald (j := x) cd_M_twice_62 (hM.2 2 _ rfl) rfl (by omega) (by decide) ?_
            refine ze_icmp_ne (tgt := 70) cd_M_twice_63 (by decide) (fun c7 => ?_) (fun c7 => ?_)
            · skip
              refine ze_iconst (v := nI 0) cd_M_twice_70 (by decide) ?_
              refine ze_istore (lv' := [(4, .int (nI 0)), (5, .int (nI lo)), (3, .int (nI x)), (2, .int (nI f)), (0, .ref a), (1, .int i)]) cd_M_twice_71 (by decide) rfl ?_
              refine ze_iinc (v := nI (lo + 1)) (lv' := [(5, .int (nI (lo + 1))), (4, .int (nI 0)), (3, .int (nI x)), (2, .int (nI f)), (0, .ref a), (1, .int i)]) 1 cd_M_twice_73 rfl (nI_add _ 1) (by decide) rfl ?_
              refine ze_goto (tgt := 23) cd_M_twice_76 (by decide) ?_
              exact ze_sub [0, 1, 2, 3, 4, 5] rfl (ih (lo + 1) false (by omega) (by rw [← hE]; first | (simp [zany, zmR, c5, c6, c7]; done) | (simp_all [zany, zmR]; done)))
            · skip
              refine ze_iconst (v := nI 1) cd_M_twice_66 (by decide) ?_
              refine ze_goto (tgt := 71) cd_M_twice_67 (by decide) ?_
              refine ze_istore (lv' := [(4, .int (nI 1)), (5, .int (nI lo)), (3, .int (nI x)), (2, .int (nI f)), (0, .ref a), (1, .int i)]) cd_M_twice_71 (by decide) rfl ?_
              refine ze_iinc (v := nI (lo + 1)) (lv' := [(5, .int (nI (lo + 1))), (4, .int (nI 1)), (3, .int (nI x)), (2, .int (nI f)), (0, .ref a), (1, .int i)]) 1 cd_M_twice_73 rfl (nI_add _ 1) (by decide) rfl ?_
              refine ze_goto (tgt := 23) cd_M_twice_76 (by decide) ?_
              exact ze_sub [0, 1, 2, 3, 4, 5] rfl (ih (lo + 1) true (by omega) (by rw [← hE]; first | (simp [zany, zmR, c5, c6, c7]; done) | (simp_all [zany, zmR]; done)))
  have loop : ∀ (kk x f : Nat) (σ1 : zx_M), x + kk = lv → f ≤ x → zf_pick (fun x => zl_rep (zmR M dp) x) i kk x f = X0 → zmo g σ1 a (nI 0) size wr ps lv ot ak fr pr M → zfr σ σ1 a 22 → zE g "FindingAidModel" cb_M_twice 6 (Option.some Jvm.ClassFile.FieldType.int) false zr_M_twice 0 0 (zPi (fun v σ' sz' => v = X0 ∧ sz' = sz ∧ zfr σ σ' a 22 ∧ zmo g σ' a (nI 0) size wr ps lv ot ak fr pr M)) 9 [(3, .int (nI x)), (2, .int (nI f)), (0, .ref a), (1, .int i)] [] σ1 sz 0 0 := by
    intro kk
    induction kk with
    | zero =>
      intro x f σ1 hk hf hE hM hF
      refine ze_iload_n 0 cd_M_twice_9 rfl rfl ?_
      refine ze_aload_n 2 cd_M_twice_10 rfl rfl ?_
      refine ze_get zin_M (v := .int (nI lv)) (ci := 7) rfl 5 (by decide) zm_727 rfl cd_M_twice_11 hM.1 rfl ?_
      refine ze_icmp_ge (tgt := 103) cd_M_twice_14 (by decide) (fun c9 => ?_) (fun c9 => ?_)
      · skip
        have c9 : lv ≤ x := (nI_leI (by omega) (by omega)).mp c9
        refine ze_iconst (v := (-1 : Int32)) cd_M_twice_103 (by decide) ?_
        refine ze_iret cd_M_twice_104 rfl (by decide) (by decide) ⟨_, rfl, ?_, rfl, hF, hM⟩
        rw [← hE]; first | (simp [zf_pick, ← hb, c9]; done) | rfl
      · skip
        have c9 : ¬ lv ≤ x := fun h9 => c9 ((nI_leI (by omega) (by omega)).mpr h9)
        exfalso; omega
    | succ kk ih =>
      intro x f σ1 hk hf hE hM hF
      refine ze_iload_n 0 cd_M_twice_9 rfl rfl ?_
      refine ze_aload_n 2 cd_M_twice_10 rfl rfl ?_
      refine ze_get zin_M (v := .int (nI lv)) (ci := 7) rfl 5 (by decide) zm_727 rfl cd_M_twice_11 hM.1 rfl ?_
      refine ze_icmp_ge (tgt := 103) cd_M_twice_14 (by decide) (fun c11 => ?_) (fun c11 => ?_)
      · skip
        have c11 : lv ≤ x := (nI_leI (by omega) (by omega)).mp c11
        exfalso; omega
      · skip
        have c11 : ¬ lv ≤ x := fun h9 => c11 ((nI_leI (by omega) (by omega)).mpr h9)
        refine ze_iconst (v := nI 0) cd_M_twice_17 (by decide) ?_
        refine ze_istore (lv' := [(4, .int (nI 0)), (3, .int (nI x)), (2, .int (nI f)), (0, .ref a), (1, .int i)]) cd_M_twice_18 (by decide) rfl ?_
        refine ze_iconst (v := nI 0) cd_M_twice_20 (by decide) ?_
        refine ze_istore (lv' := [(5, .int (nI 0)), (4, .int (nI 0)), (3, .int (nI x)), (2, .int (nI f)), (0, .ref a), (1, .int i)]) cd_M_twice_21 (by decide) rfl ?_
        refine ze_sub [0, 1, 2, 3, 4, 5] rfl (inn x f _ (by omega) (by omega) hM hF (fun b hb => ?_) x 0 false (by omega) (by simp [zl_rep]))
        refine ze_iload 1 cd_M_twice_79 rfl ?_
        refine ze_if_ne (tgt := 87) cd_M_twice_81 (by decide) (fun c12 => ?_) (fun c12 => ?_)
        · skip
          have c12 : b = true := zb_t c12
          refine ze_iload_n 3 cd_M_twice_87 rfl rfl ?_
          refine ze_iload_n 5 cd_M_twice_88 rfl rfl ?_
          refine ze_icmp_ne (tgt := 94) cd_M_twice_89 (by decide) (fun c13 => ?_) (fun c13 => ?_)
          · skip
            refine ze_iinc (v := nI (f + 1)) (lv' := [(2, .int (nI (f + 1))), (5, .int (nI x)), (4, .int (zb b)), (3, .int (nI x)), (0, .ref a), (1, .int i)]) 3 cd_M_twice_94 rfl (nI_add _ 1) (by decide) rfl ?_
            refine ze_iinc (v := nI (x + 1)) (lv' := [(3, .int (nI (x + 1))), (2, .int (nI (f + 1))), (5, .int (nI x)), (4, .int (zb b)), (0, .ref a), (1, .int i)]) 3 cd_M_twice_97 rfl (nI_add _ 1) (by decide) rfl ?_
            refine ze_goto (tgt := 9) cd_M_twice_100 (by decide) ?_
            exact ze_sub [0, 1, 4, 5] rfl (ih (x + 1) _ _ (by omega) (by omega) (by rw [← hE]; simp [zf_pick, ← hb, c12, c13]) hM hF)
          · skip
            refine ze_iload_n 2 cd_M_twice_92 rfl rfl ?_
            refine ze_iret cd_M_twice_93 rfl (by decide) (by decide) ⟨_, rfl, ?_, rfl, hF, hM⟩
            rw [← hE]; first | (simp [zf_pick, ← hb, c12, c13]; done) | rfl
        · skip
          have c12 : b = false := zb_f c12
          refine ze_goto (tgt := 97) cd_M_twice_84 (by decide) ?_
          refine ze_iinc (v := nI (x + 1)) (lv' := [(3, .int (nI (x + 1))), (5, .int (nI x)), (4, .int (zb b)), (2, .int (nI f)), (0, .ref a), (1, .int i)]) 2 cd_M_twice_97 rfl (nI_add _ 1) (by decide) rfl ?_
          refine ze_goto (tgt := 9) cd_M_twice_100 (by decide) ?_
          exact ze_sub [0, 3, 4, 5] rfl (ih (x + 1) _ _ (by omega) (by omega) (by rw [← hE]; simp [zf_pick, ← hb, c12]) hM hF)
  refine zM_of (lv := [(0, .ref a), (1, .int i)]) (ini := false) (by decide) rfl (by decide) (Nat.le_of_ble_eq_true rfl) rfl ?_
  refine ze_aload_n 0 cd_M_twice_0 rfl rfl ?_
  refine ze_iconst (v := nI 0) cd_M_twice_1 (by decide) ?_
  refine ze_put zin_M zy_M zt_M zn_M (ci := 7) rfl 0 (by decide) zm_722 rfl (Or.inl rfl) cd_M_twice_2 hM.1 rfl rfl (Nat.le_of_ble_eq_true rfl) (fs' := [.int (nI 0), .int (nI size), .ref (a + 1), .int wr, .int (nI ps), .int (nI lv), .int (nI ot), .ref (a + 2), .ref (a + 3), .ref (a + 4), .ref (a + 5), .ref (a + 6), .ref (a + 7), .ref (a + 8), .ref (a + 9), .ref (a + 10), .ref (a + 11), .ref (a + 12), .ref (a + 13), .ref (a + 14), .ref (a + 15), .ref (a + 16), .ref (a + 17), .int (nI ak), .ref (a + 18), .ref (a + 19), .ref (a + 20), .int fr, .int (nI pr), .ref (a + 21)]) rfl ?_
  have hM := hM.put (fs' := [.int (nI 0), .int (nI size), .ref (a + 1), .int wr, .int (nI ps), .int (nI lv), .int (nI ot), .ref (a + 2), .ref (a + 3), .ref (a + 4), .ref (a + 5), .ref (a + 6), .ref (a + 7), .ref (a + 8), .ref (a + 9), .ref (a + 10), .ref (a + 11), .ref (a + 12), .ref (a + 13), .ref (a + 14), .ref (a + 15), .ref (a + 16), .ref (a + 17), .int (nI ak), .ref (a + 18), .ref (a + 19), .ref (a + 20), .int fr, .int (nI pr), .ref (a + 21)])
  have hF := hF.up (a := a) (e := .inr (7, [.int (nI 0), .int (nI size), .ref (a + 1), .int wr, .int (nI ps), .int (nI lv), .int (nI ot), .ref (a + 2), .ref (a + 3), .ref (a + 4), .ref (a + 5), .ref (a + 6), .ref (a + 7), .ref (a + 8), .ref (a + 9), .ref (a + 10), .ref (a + 11), .ref (a + 12), .ref (a + 13), .ref (a + 14), .ref (a + 15), .ref (a + 16), .ref (a + 17), .int (nI ak), .ref (a + 18), .ref (a + 19), .ref (a + 20), .int fr, .int (nI pr), .ref (a + 21)])) (by omega) (by omega)
  refine ze_iconst (v := nI 0) cd_M_twice_5 (by decide) ?_
  refine ze_istore_n (lv' := [(2, .int (nI 0)), (0, .ref a), (1, .int i)]) cd_M_twice_6 rfl (by decide) rfl ?_
  refine ze_iconst (v := nI 0) cd_M_twice_7 (by decide) ?_
  refine ze_istore_n (lv' := [(3, .int (nI 0)), (2, .int (nI 0)), (0, .ref a), (1, .int i)]) cd_M_twice_8 rfl (by decide) rfl ?_
  exact ze_sub [0, 1, 2, 3] rfl (loop lv 0 0 _ (by omega) (by omega) hX0 hM hF)
