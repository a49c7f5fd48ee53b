def zpth (pa : Nat → Option Nat) (nu : Nat → Int32) : Nat → Option Nat → Option Nat → Bool
  | 0, o, o' => o.isNone && o'.isNone
  | k + 1, some p, some q => if nu p = nu q then zpth pa nu k (pa p) (pa q) else false
  | _ + 1, none, none => true
  | _ + 1, none, some _ => false
  | _ + 1, some _, none => false
abbrev zr_M_samePath : Room := { frames := 0, cells := 0, slots := 0, locals := 0 }
set_option maxRecDepth 100000 in
set_option maxHeartbeats 4000000 in
theorem kc_M_samePath {g : zx_G} {σ : zx_M} {sz : Nat} {a size ps lv ot ak pr : Nat} {th wr fr : Int32} {M : Nat → Nat → Int32} {pa : Nat → Option Nat} {dp : Nat → Nat} {D : Nat → Prop} {x y : Nat} (hM : zmo g σ a th size wr ps lv ot ak fr pr M) (hfo : zfor (M 3) pa dp D) (hx : D x) (hy : D y) : zM g cy_M_samePath cb_M_samePath 5 (Option.some Jvm.ClassFile.FieldType.boolean) zr_M_samePath 0 0 [.ref a, .int (nI x), .int (nI y)] σ sz (zPp (zb (zpth pa (M 2) 9 (some x) (some y))) σ sz) := by
  generalize hX0 : zpth pa (M 2) 9 (some x) (some y) = X0
  have loop : ∀ (kk : Nat) (o o' : Option Nat), (∀ p, o = some p → D p ∧ dp p < kk) → (∀ p, o' = some p → D p ∧ dp p < kk) → zpth pa (M 2) kk o o' = X0 → zE g "FindingAidModel" cb_M_samePath 5 (Option.some Jvm.ClassFile.FieldType.boolean) false zr_M_samePath 0 0 (zPp (zb (X0)) σ sz) 5 [(4, .int (zo o')), (3, .int (zo o)), (0, .ref a), (1, .int (nI x)), (2, .int (nI y))] [] σ sz 0 0 := by
    intro kk
    induction kk with
    | zero =>
      intro o o' ho ho' hE
      cases o with
      | none =>
        cases o' with
        | none =>
          refine ze_iload_n 1 cd_M_samePath_5 rfl rfl ?_
          refine ze_if_lt (tgt := 49) cd_M_samePath_6 (by decide) (fun _ => ?_) (fun c9 => absurd (by decide) c9)
          refine ze_iload_n 1 cd_M_samePath_49 rfl rfl ?_
          refine ze_if_ge (tgt := 62) cd_M_samePath_50 (by decide) (fun c9 => absurd c9 (by decide)) (fun _ => ?_)
          refine ze_iload 0 cd_M_samePath_53 rfl ?_
          refine ze_if_ge (tgt := 62) cd_M_samePath_55 (by decide) (fun c9 => absurd c9 (by decide)) (fun _ => ?_)
          refine ze_iconst (v := nI 1) cd_M_samePath_58 (by decide) ?_
          refine ze_goto (tgt := 63) cd_M_samePath_59 (by decide) ?_
          refine ze_zret cd_M_samePath_63 rfl (by decide) (by decide) (by decide) (zPp_mk ?_)
          rw [← hE]; first | (simp [zpth, zb, nI_0, zn_1]; done) | (simp [zpth, zb, nI_0, zn_1]; done)
        | some q =>
          obtain ⟨hDq, hkq⟩ := ho' q rfl
          have hq3 := (hfo q hDq).1
          show zE g "FindingAidModel" cb_M_samePath 5 (Option.some Jvm.ClassFile.FieldType.boolean) false zr_M_samePath 0 0 (zPp (zb (X0)) σ sz) 5 [(4, .int (nI q)), (3, .int ((-1 : Int32))), (0, .ref a), (1, .int (nI x)), (2, .int (nI y))] [] σ sz 0 0
          refine ze_iload_n 1 cd_M_samePath_5 rfl rfl ?_
          refine ze_if_lt (tgt := 49) cd_M_samePath_6 (by decide) (fun _ => ?_) (fun c9 => absurd (by decide) c9)
          refine ze_iload_n 1 cd_M_samePath_49 rfl rfl ?_
          refine ze_if_ge (tgt := 62) cd_M_samePath_50 (by decide) (fun c9 => absurd c9 (by decide)) (fun _ => ?_)
          refine ze_iload 0 cd_M_samePath_53 rfl ?_
          refine ze_if_ge (tgt := 62) cd_M_samePath_55 (by decide) (fun _ => ?_) (fun c9 => absurd (nI_pos' (by omega)) c9)
          refine ze_iconst (v := nI 0) cd_M_samePath_62 (by decide) ?_
          refine ze_zret cd_M_samePath_63 rfl (by decide) (by decide) (by decide) (zPp_mk ?_)
          rw [← hE]; first | (simp [zpth, zb, nI_0, zn_1]; done) | (simp [zpth, zb, nI_0, zn_1]; done)
      | some p =>
        obtain ⟨hDp, hkp⟩ := ho p rfl
        obtain ⟨hp3, hp8, hpu, hpp, hpn⟩ := hfo p hDp
        cases o' with
        | none =>
          show zE g "FindingAidModel" cb_M_samePath 5 (Option.some Jvm.ClassFile.FieldType.boolean) false zr_M_samePath 0 0 (zPp (zb (X0)) σ sz) 5 [(4, .int ((-1 : Int32))), (3, .int (nI p)), (0, .ref a), (1, .int (nI x)), (2, .int (nI y))] [] σ sz 0 0
          refine ze_iload_n 1 cd_M_samePath_5 rfl rfl ?_
          refine ze_if_lt (tgt := 49) cd_M_samePath_6 (by decide) (fun c9 => absurd c9 (nI_pos (by omega))) (fun _ => ?_)
          refine ze_iload 0 cd_M_samePath_9 rfl ?_
          refine ze_if_lt (tgt := 49) cd_M_samePath_11 (by decide) (fun _ => ?_) (fun c9 => absurd (by decide) c9)
          refine ze_iload_n 1 cd_M_samePath_49 rfl rfl ?_
          refine ze_if_ge (tgt := 62) cd_M_samePath_50 (by decide) (fun _ => ?_) (fun c9 => absurd (nI_pos' (by omega)) c9)
          refine ze_iconst (v := nI 0) cd_M_samePath_62 (by decide) ?_
          refine ze_zret cd_M_samePath_63 rfl (by decide) (by decide) (by decide) (zPp_mk ?_)
          rw [← hE]; first | (simp [zpth, zb, nI_0, zn_1]; done) | (simp [zpth, zb, nI_0, zn_1]; done)
        | some q =>
          obtain ⟨hDq, hkq⟩ := ho' q rfl
          exfalso; omega
    | succ kk ih =>
      intro o o' ho ho' hE
      cases o with
      | none =>
        cases o' with
        | none =>
          refine ze_iload_n 1 cd_M_samePath_5 rfl rfl ?_
          refine ze_if_lt (tgt := 49) cd_M_samePath_6 (by decide) (fun _ => ?_) (fun c9 => absurd (by decide) c9)
          refine ze_iload_n 1 cd_M_samePath_49 rfl rfl ?_
          refine ze_if_ge (tgt := 62) cd_M_samePath_50 (by decide) (fun c9 => absurd c9 (by decide)) (fun _ => ?_)
          refine ze_iload 0 cd_M_samePath_53 rfl ?_
          refine ze_if_ge (tgt := 62) cd_M_samePath_55 (by decide) (fun c9 => absurd c9 (by decide)) (fun _ => ?_)
          refine ze_iconst (v := nI 1) cd_M_samePath_58 (by decide) ?_
          refine ze_goto (tgt := 63) cd_M_samePath_59 (by decide) ?_
          refine ze_zret cd_M_samePath_63 rfl (by decide) (by decide) (by decide) (zPp_mk ?_)
          rw [← hE]; first | (simp [zpth, zb, nI_0, zn_1]; done) | (simp [zpth, zb, nI_0, zn_1]; done)
        | some q =>
          obtain ⟨hDq, hkq⟩ := ho' q rfl
          have hq3 := (hfo q hDq).1
          show zE g "FindingAidModel" cb_M_samePath 5 (Option.some Jvm.ClassFile.FieldType.boolean) false zr_M_samePath 0 0 (zPp (zb (X0)) σ sz) 5 [(4, .int (nI q)), (3, .int ((-1 : Int32))), (0, .ref a), (1, .int (nI x)), (2, .int (nI y))] [] σ sz 0 0
          refine ze_iload_n 1 cd_M_samePath_5 rfl rfl ?_
          refine ze_if_lt (tgt := 49) cd_M_samePath_6 (by decide) (fun _ => ?_) (fun c9 => absurd (by decide) c9)
          refine ze_iload_n 1 cd_M_samePath_49 rfl rfl ?_
          refine ze_if_ge (tgt := 62) cd_M_samePath_50 (by decide) (fun c9 => absurd c9 (by decide)) (fun _ => ?_)
          refine ze_iload 0 cd_M_samePath_53 rfl ?_
          refine ze_if_ge (tgt := 62) cd_M_samePath_55 (by decide) (fun _ => ?_) (fun c9 => absurd (nI_pos' (by omega)) c9)
          refine ze_iconst (v := nI 0) cd_M_samePath_62 (by decide) ?_
          refine ze_zret cd_M_samePath_63 rfl (by decide) (by decide) (by decide) (zPp_mk ?_)
          rw [← hE]; first | (simp [zpth, zb, nI_0, zn_1]; done) | (simp [zpth, zb, nI_0, zn_1]; done)
      | some p =>
        obtain ⟨hDp, hkp⟩ := ho p rfl
        obtain ⟨hp3, hp8, hpu, hpp, hpn⟩ := hfo p hDp
        cases o' with
        | none =>
          show zE g "FindingAidModel" cb_M_samePath 5 (Option.some Jvm.ClassFile.FieldType.boolean) false zr_M_samePath 0 0 (zPp (zb (X0)) σ sz) 5 [(4, .int ((-1 : Int32))), (3, .int (nI p)), (0, .ref a), (1, .int (nI x)), (2, .int (nI y))] [] σ sz 0 0
          refine ze_iload_n 1 cd_M_samePath_5 rfl rfl ?_
          refine ze_if_lt (tgt := 49) cd_M_samePath_6 (by decide) (fun c9 => absurd c9 (nI_pos (by omega))) (fun _ => ?_)
          refine ze_iload 0 cd_M_samePath_9 rfl ?_
          refine ze_if_lt (tgt := 49) cd_M_samePath_11 (by decide) (fun _ => ?_) (fun c9 => absurd (by decide) c9)
          refine ze_iload_n 1 cd_M_samePath_49 rfl rfl ?_
          refine ze_if_ge (tgt := 62) cd_M_samePath_50 (by decide) (fun _ => ?_) (fun c9 => absurd (nI_pos' (by omega)) c9)
          refine ze_iconst (v := nI 0) cd_M_samePath_62 (by decide) ?_
          refine ze_zret cd_M_samePath_63 rfl (by decide) (by decide) (by decide) (zPp_mk ?_)
          rw [← hE]; first | (simp [zpth, zb, nI_0, zn_1]; done) | (simp [zpth, zb, nI_0, zn_1]; done)
        | some q =>
          obtain ⟨hDq, hkq⟩ := ho' q rfl
          obtain ⟨hq3, hq8, hqu, hqp, hqn⟩ := hfo q hDq
          show zE g "FindingAidModel" cb_M_samePath 5 (Option.some Jvm.ClassFile.FieldType.boolean) false zr_M_samePath 0 0 (zPp (zb (X0)) σ sz) 5 [(4, .int (nI q)), (3, .int (nI p)), (0, .ref a), (1, .int (nI x)), (2, .int (nI y))] [] σ sz 0 0
          refine ze_iload_n 1 cd_M_samePath_5 rfl rfl ?_
          refine ze_if_lt (tgt := 49) cd_M_samePath_6 (by decide) (fun c9 => absurd c9 (nI_pos (by omega))) (fun _ => ?_)
          refine ze_iload 0 cd_M_samePath_9 rfl ?_
          refine ze_if_lt (tgt := 49) cd_M_samePath_11 (by decide) (fun c9 => absurd c9 (nI_pos (by omega))) (fun _ => ?_)
          refine ze_aload_n 2 cd_M_samePath_14 rfl rfl ?_
          refine ze_get zin_M (v := .ref (a + 3)) (ci := 7) rfl 8 (by decide) zm_730 rfl cd_M_samePath_15 hM.1 rfl ?_
          refine ze_iload_n 1 cd_M_samePath_18 rfl rfl ?_
          refine ze_iald (j := p) cd_M_samePath_19 (hM.2 2 _ rfl) rfl (by omega) (by decide) ?_
          refine ze_aload_n 2 cd_M_samePath_20 rfl rfl ?_
          refine ze_get zin_M (v := .ref (a + 3)) (ci := 7) rfl 8 (by decide) zm_730 rfl cd_M_samePath_21 hM.1 rfl ?_
          refine ze_iload 0 cd_M_samePath_24 rfl ?_
          refine ze_iald (j := q) cd_M_samePath_26 (hM.2 2 _ rfl) rfl (by omega) (by decide) ?_
          refine ze_icmp_ne (tgt := 49) cd_M_samePath_27 (by decide) (fun c1 => ?_) (fun c1 => ?_)
          · skip
            refine ze_iload_n 1 cd_M_samePath_49 rfl rfl ?_
            refine ze_if_ge (tgt := 62) cd_M_samePath_50 (by decide) (fun _ => ?_) (fun c9 => absurd (nI_pos' (by omega)) c9)
            refine ze_iconst (v := nI 0) cd_M_samePath_62 (by decide) ?_
            refine ze_zret cd_M_samePath_63 rfl (by decide) (by decide) (by decide) (zPp_mk ?_)
            rw [← hE]; first | (simp [zpth, zb, nI_0, zn_1, c1]; done) | (simp [zpth, zb, nI_0, zn_1]; done)
          · skip
            refine ze_aload_n 2 cd_M_samePath_30 rfl rfl ?_
            refine ze_get zin_M (v := .ref (a + 4)) (ci := 7) rfl 9 (by decide) zm_731 rfl cd_M_samePath_31 hM.1 rfl ?_
            refine ze_iload_n 1 cd_M_samePath_34 rfl rfl ?_
            refine ze_iald (j := p) cd_M_samePath_35 (hM.2 3 _ rfl) rfl (by omega) (by decide) ?_
            refine ze_top hpu ?_
            refine ze_istore_n (lv' := [(3, .int (zo (pa p))), (4, .int (nI q)), (0, .ref a), (1, .int (nI x)), (2, .int (nI y))]) cd_M_samePath_36 rfl (by decide) rfl ?_
            refine ze_aload_n 2 cd_M_samePath_37 rfl rfl ?_
            refine ze_get zin_M (v := .ref (a + 4)) (ci := 7) rfl 9 (by decide) zm_731 rfl cd_M_samePath_38 hM.1 rfl ?_
            refine ze_iload 1 cd_M_samePath_41 rfl ?_
            refine ze_iald (j := q) cd_M_samePath_43 (hM.2 3 _ rfl) rfl (by omega) (by decide) ?_
            refine ze_top hqu ?_
            refine ze_istore (lv' := [(4, .int (zo (pa q))), (3, .int (zo (pa p))), (0, .ref a), (1, .int (nI x)), (2, .int (nI y))]) cd_M_samePath_44 (by decide) rfl ?_
            refine ze_goto (tgt := 5) cd_M_samePath_46 (by decide) ?_
            exact ze_sub [0, 1, 2, 3, 4] rfl (ih (pa p) (pa q) (fun z hz => by have := hpp z hz; exact ⟨this.1, by omega⟩) (fun z hz => by have := hqp z hz; exact ⟨this.1, by omega⟩) (by rw [← hE]; simp [zpth, c1]))
  refine zM_of (lv := [(0, .ref a), (1, .int (nI x)), (2, .int (nI y))]) (ini := false) (by decide) rfl (by decide) (Nat.le_of_ble_eq_true rfl) rfl ?_
  refine ze_iload_n 1 cd_M_samePath_0 rfl rfl ?_
  refine ze_istore_n (lv' := [(3, .int (nI x)), (0, .ref a), (1, .int (nI x)), (2, .int (nI y))]) cd_M_samePath_1 rfl (by decide) rfl ?_
  refine ze_iload_n 3 cd_M_samePath_2 rfl rfl ?_
  refine ze_istore (lv' := [(4, .int (nI y)), (3, .int (nI x)), (0, .ref a), (1, .int (nI x)), (2, .int (nI y))]) cd_M_samePath_3 (by decide) rfl ?_
  exact ze_sub [0, 1, 2, 3, 4] rfl (loop 9 (some x) (some y) (fun p hp => by cases hp; exact ⟨hx, by have := (hfo x hx).2.1; omega⟩) (fun p hp => by cases hp; exact ⟨hy, by have := (hfo y hy).2.1; omega⟩) hX0)
def zm_tq (M : Nat → Nat → Int32) (x y t : Nat) : Bool := if M 9 x = M 9 y then zall (fun k => decide (M 10 (16 * x + k) = M 10 (16 * y + k))) 0 t else false
def zm_dif (M : Nat → Nat → Int32) (x y t : Nat) : Nat := (if zm_tq M x y t then 0 else 1) + (if M 4 x = M 4 y ∧ M 5 x = M 5 y ∧ M 6 x = M 6 y then 0 else 2) + (if M 7 x = M 7 y ∧ M 8 x = M 8 y then 0 else 4)
abbrev zr_M_differs : Room := { frames := 0, cells := 0, slots := 0, locals := 0 }
set_option maxRecDepth 100000 in
set_option maxHeartbeats 4000000 in
theorem kc_M_differs {g : zx_G} {σ : zx_M} {sz : Nat} {a size ps lv ot ak pr : Nat} {th wr fr : Int32} {M : Nat → Nat → Int32} {x y t : Nat} (hM : zmo g σ a th size wr ps lv ot ak fr pr M) (hx : x < 300) (hy : y < 300) (ht : M 9 x = nI t) (ht2 : t ≤ 16) : zM g cy_M_differs cb_M_differs 6 (Option.some Jvm.ClassFile.FieldType.int) zr_M_differs 0 0 [.ref a, .int (nI x), .int (nI y)] σ sz (zPp (nI (zm_dif M x y t)) σ sz) := by
  generalize hX0 : zm_dif M x y t = X0
  have fin : ∀ (lo : Nat) (b : Bool), b = zm_tq M x y t → zE g "FindingAidModel" cb_M_differs 6 (Option.some Jvm.ClassFile.FieldType.int) false zr_M_differs 0 0 (zPp (nI (X0)) σ sz) 78 [(4, .int (nI lo)), (3, .int (zb b)), (0, .ref a), (1, .int (nI x)), (2, .int (nI y))] [] σ sz 0 0 := by
    intro lo b hb
    refine ze_aload_n 2 cd_M_differs_78 rfl rfl ?_
    refine ze_get zin_M (v := .ref (a + 5)) (ci := 7) rfl 10 (by decide) zm_732 rfl cd_M_differs_79 hM.1 rfl ?_
    refine ze_iload_n 3 cd_M_differs_82 rfl rfl ?_
    refine ze_iald (j := x) cd_M_differs_83 (hM.2 4 _ rfl) rfl (by omega) (by decide) ?_
    refine ze_aload_n 2 cd_M_differs_84 rfl rfl ?_
    refine ze_get zin_M (v := .ref (a + 5)) (ci := 7) rfl 10 (by decide) zm_732 rfl cd_M_differs_85 hM.1 rfl ?_
    refine ze_iload_n 4 cd_M_differs_88 rfl rfl ?_
    refine ze_iald (j := y) cd_M_differs_89 (hM.2 4 _ rfl) rfl (by omega) (by decide) ?_
    refine ze_icmp_ne (tgt := 127) cd_M_differs_90 (by decide) (fun c1 => ?_) (fun c1 => ?_)
    · skip
      refine ze_iconst (v := nI 0) cd_M_differs_127 (by decide) ?_
      refine ze_istore (lv' := [(4, .int (nI 0)), (3, .int (zb b)), (0, .ref a), (1, .int (nI x)), (2, .int (nI y))]) cd_M_differs_128 (by decide) rfl ?_
      refine ze_aload_n 2 cd_M_differs_130 rfl rfl ?_
      refine ze_get zin_M (v := .ref (a + 8)) (ci := 7) rfl 13 (by decide) zm_735 rfl cd_M_differs_131 hM.1 rfl ?_
      refine ze_iload_n 3 cd_M_differs_134 rfl rfl ?_
      refine ze_iald (j := x) cd_M_differs_135 (hM.2 7 _ rfl) rfl (by omega) (by decide) ?_
      refine ze_aload_n 2 cd_M_differs_136 rfl rfl ?_
      refine ze_get zin_M (v := .ref (a + 8)) (ci := 7) rfl 13 (by decide) zm_735 rfl cd_M_differs_137 hM.1 rfl ?_
      refine ze_iload_n 4 cd_M_differs_140 rfl rfl ?_
      refine ze_iald (j := y) cd_M_differs_141 (hM.2 7 _ rfl) rfl (by omega) (by decide) ?_
      refine ze_icmp_ne (tgt := 164) cd_M_differs_142 (by decide) (fun c2 => ?_) (fun c2 => ?_)
      · skip
        refine ze_iconst (v := nI 0) cd_M_differs_164 (by decide) ?_
        refine ze_istore (lv' := [(5, .int (nI 0)), (4, .int (nI 0)), (3, .int (zb b)), (0, .ref a), (1, .int (nI x)), (2, .int (nI y))]) cd_M_differs_165 (by decide) rfl ?_
        refine ze_iload_n 2 cd_M_differs_167 rfl rfl ?_
        refine ze_if_eq (tgt := 175) cd_M_differs_168 (by decide) (fun c3 => ?_) (fun c3 => ?_)
        · skip
          have c3 : b = false := zb_f c3
          refine ze_iconst (v := nI 1) cd_M_differs_175 (by decide) ?_
          refine ze_iload 1 cd_M_differs_176 rfl ?_
          refine ze_if_eq (tgt := 185) cd_M_differs_178 (by decide) (fun _ => ?_) (fun c9 => absurd c9 (by decide))
          refine ze_iconst (v := nI 2) cd_M_differs_185 (by decide) ?_
          refine ze_iadd cd_M_differs_186 ?_
          refine ze_top (y := nI (1 + 2)) (nI_add _ _) ?_
          refine ze_iload 0 cd_M_differs_187 rfl ?_
          refine ze_if_eq (tgt := 196) cd_M_differs_189 (by decide) (fun _ => ?_) (fun c9 => absurd c9 (by decide))
          refine ze_iconst (v := nI 4) cd_M_differs_196 (by decide) ?_
          refine ze_iadd cd_M_differs_197 ?_
          refine ze_top (y := nI ((1 + 2) + 4)) (nI_add _ _) ?_
          refine ze_iret cd_M_differs_198 rfl (by decide) (by decide) (zPp_mk ?_)
          rw [← hX0]; simp [zm_dif, ← hb, c1, c2, c3]
        · skip
          have c3 : b = true := zb_t c3
          refine ze_iconst (v := nI 0) cd_M_differs_171 (by decide) ?_
          refine ze_goto (tgt := 176) cd_M_differs_172 (by decide) ?_
          refine ze_iload 1 cd_M_differs_176 rfl ?_
          refine ze_if_eq (tgt := 185) cd_M_differs_178 (by decide) (fun _ => ?_) (fun c9 => absurd c9 (by decide))
          refine ze_iconst (v := nI 2) cd_M_differs_185 (by decide) ?_
          refine ze_iadd cd_M_differs_186 ?_
          refine ze_top (y := nI (0 + 2)) (nI_add _ _) ?_
          refine ze_iload 0 cd_M_differs_187 rfl ?_
          refine ze_if_eq (tgt := 196) cd_M_differs_189 (by decide) (fun _ => ?_) (fun c9 => absurd c9 (by decide))
          refine ze_iconst (v := nI 4) cd_M_differs_196 (by decide) ?_
          refine ze_iadd cd_M_differs_197 ?_
          refine ze_top (y := nI ((0 + 2) + 4)) (nI_add _ _) ?_
          refine ze_iret cd_M_differs_198 rfl (by decide) (by decide) (zPp_mk ?_)
          rw [← hX0]; simp [zm_dif, ← hb, c1, c2, c3]
      · skip
        refine ze_aload_n 2 cd_M_differs_145 rfl rfl ?_
        refine ze_get zin_M (v := .ref (a + 9)) (ci := 7) rfl 14 (by decide) zm_736 rfl cd_M_differs_146 hM.1 rfl ?_
        refine ze_iload_n 3 cd_M_differs_149 rfl rfl ?_
        refine ze_iald (j := x) cd_M_differs_150 (hM.2 8 _ rfl) rfl (by omega) (by decide) ?_
        refine ze_aload_n 2 cd_M_differs_151 rfl rfl ?_
        refine ze_get zin_M (v := .ref (a + 9)) (ci := 7) rfl 14 (by decide) zm_736 rfl cd_M_differs_152 hM.1 rfl ?_
        refine ze_iload_n 4 cd_M_differs_155 rfl rfl ?_
        refine ze_iald (j := y) cd_M_differs_156 (hM.2 8 _ rfl) rfl (by omega) (by decide) ?_
        refine ze_icmp_ne (tgt := 164) cd_M_differs_157 (by decide) (fun c8 => ?_) (fun c8 => ?_)
        · skip
          refine ze_iconst (v := nI 0) cd_M_differs_164 (by decide) ?_
          refine ze_istore (lv' := [(5, .int (nI 0)), (4, .int (nI 0)), (3, .int (zb b)), (0, .ref a), (1, .int (nI x)), (2, .int (nI y))]) cd_M_differs_165 (by decide) rfl ?_
          refine ze_iload_n 2 cd_M_differs_167 rfl rfl ?_
          refine ze_if_eq (tgt := 175) cd_M_differs_168 (by decide) (fun c9 => ?_) (fun c9 => ?_)
          · skip
            have c9 : b = false := zb_f c9
            refine ze_iconst (v := nI 1) cd_M_differs_175 (by decide) ?_
            refine ze_iload 1 cd_M_differs_176 rfl ?_
            refine ze_if_eq (tgt := 185) cd_M_differs_178 (by decide) (fun _ => ?_) (fun c9 => absurd c9 (by decide))
            refine ze_iconst (v := nI 2) cd_M_differs_185 (by decide) ?_
            refine ze_iadd cd_M_differs_186 ?_
            refine ze_top (y := nI (1 + 2)) (nI_add _ _) ?_
            refine ze_iload 0 cd_M_differs_187 rfl ?_
            refine ze_if_eq (tgt := 196) cd_M_differs_189 (by decide) (fun _ => ?_) (fun c9 => absurd c9 (by decide))
            refine ze_iconst (v := nI 4) cd_M_differs_196 (by decide) ?_
            refine ze_iadd cd_M_differs_197 ?_
            refine ze_top (y := nI ((1 + 2) + 4)) (nI_add _ _) ?_
            refine ze_iret cd_M_differs_198 rfl (by decide) (by decide) (zPp_mk ?_)
            rw [← hX0]; simp [zm_dif, ← hb, c1, c2, c8, c9]
          · skip
            have c9 : b = true := zb_t c9
            refine ze_iconst (v := nI 0) cd_M_differs_171 (by decide) ?_
            refine ze_goto (tgt := 176) cd_M_differs_172 (by decide) ?_
            refine ze_iload 1 cd_M_differs_176 rfl ?_
            refine ze_if_eq (tgt := 185) cd_M_differs_178 (by decide) (fun _ => ?_) (fun c9 => absurd c9 (by decide))
            refine ze_iconst (v := nI 2) cd_M_differs_185 (by decide) ?_
            refine ze_iadd cd_M_differs_186 ?_
            refine ze_top (y := nI (0 + 2)) (nI_add _ _) ?_
            refine ze_iload 0 cd_M_differs_187 rfl ?_
            refine ze_if_eq (tgt := 196) cd_M_differs_189 (by decide) (fun _ => ?_) (fun c9 => absurd c9 (by decide))
            refine ze_iconst (v := nI 4) cd_M_differs_196 (by decide) ?_
            refine ze_iadd cd_M_differs_197 ?_
            refine ze_top (y := nI ((0 + 2) + 4)) (nI_add _ _) ?_
            refine ze_iret cd_M_differs_198 rfl (by decide) (by decide) (zPp_mk ?_)
            rw [← hX0]; simp [zm_dif, ← hb, c1, c2, c8, c9]
        · skip
          refine ze_iconst (v := nI 1) cd_M_differs_160 (by decide) ?_
          refine ze_goto (tgt := 165) cd_M_differs_161 (by decide) ?_
          refine ze_istore (lv' := [(5, .int (nI 1)), (4, .int (nI 0)), (3, .int (zb b)), (0, .ref a), (1, .int (nI x)), (2, .int (nI y))]) cd_M_differs_165 (by decide) rfl ?_
          refine ze_iload_n 2 cd_M_differs_167 rfl rfl ?_
          refine ze_if_eq (tgt := 175) cd_M_differs_168 (by decide) (fun c14 => ?_) (fun c14 => ?_)
          · skip
            have c14 : b = false := zb_f c14
            refine ze_iconst (v := nI 1) cd_M_differs_175 (by decide) ?_
            refine ze_iload 1 cd_M_differs_176 rfl ?_
            refine ze_if_eq (tgt := 185) cd_M_differs_178 (by decide) (fun _ => ?_) (fun c9 => absurd c9 (by decide))
            refine ze_iconst (v := nI 2) cd_M_differs_185 (by decide) ?_
            refine ze_iadd cd_M_differs_186 ?_
            refine ze_top (y := nI (1 + 2)) (nI_add _ _) ?_
            refine ze_iload 0 cd_M_differs_187 rfl ?_
            refine ze_if_eq (tgt := 196) cd_M_differs_189 (by decide) (fun c9 => absurd c9 (by decide)) (fun _ => ?_)
            refine ze_iconst (v := nI 0) cd_M_differs_192 (by decide) ?_
            refine ze_goto (tgt := 197) cd_M_differs_193 (by decide) ?_
            refine ze_iadd cd_M_differs_197 ?_
            refine ze_top (y := nI ((1 + 2) + 0)) (nI_add _ _) ?_
            refine ze_iret cd_M_differs_198 rfl (by decide) (by decide) (zPp_mk ?_)
            rw [← hX0]; simp [zm_dif, ← hb, c1, c2, c8, c14]
          · skip
            have c14 : b = true := zb_t c14
            refine ze_iconst (v := nI 0) cd_M_differs_171 (by decide) ?_
            refine ze_goto (tgt := 176) cd_M_differs_172 (by decide) ?_
            refine ze_iload 1 cd_M_differs_176 rfl ?_
            refine ze_if_eq (tgt := 185) cd_M_differs_178 (by decide) (fun _ => ?_) (fun c9 => absurd c9 (by decide))
            refine ze_iconst (v := nI 2) cd_M_differs_185 (by decide) ?_
            refine ze_iadd cd_M_differs_186 ?_
            refine ze_top (y := nI (0 + 2)) (nI_add _ _) ?_
            refine ze_iload 0 cd_M_differs_187 rfl ?_
            refine ze_if_eq (tgt := 196) cd_M_differs_189 (by decide) (fun c9 => absurd c9 (by decide)) (fun _ => ?_)
            refine ze_iconst (v := nI 0) cd_M_differs_192 (by decide) ?_
            refine ze_goto (tgt := 197) cd_M_differs_193 (by decide) ?_
            refine ze_iadd cd_M_differs_197 ?_
            refine ze_top (y := nI ((0 + 2) + 0)) (nI_add _ _) ?_
            refine ze_iret cd_M_differs_198 rfl (by decide) (by decide) (zPp_mk ?_)
            rw [← hX0]; simp [zm_dif, ← hb, c1, c2, c8, c14]
    · skip
      refine ze_aload_n 2 cd_M_differs_93 rfl rfl ?_
      refine ze_get zin_M (v := .ref (a + 6)) (ci := 7) rfl 11 (by decide) zm_733 rfl cd_M_differs_94 hM.1 rfl ?_
      refine ze_iload_n 3 cd_M_differs_97 rfl rfl ?_
      refine ze_iald (j := x) cd_M_differs_98 (hM.2 5 _ rfl) rfl (by omega) (by decide) ?_
      refine ze_aload_n 2 cd_M_differs_99 rfl rfl ?_
      refine ze_get zin_M (v := .ref (a + 6)) (ci := 7) rfl 11 (by decide) zm_733 rfl cd_M_differs_100 hM.1 rfl ?_
      refine ze_iload_n 4 cd_M_differs_103 rfl rfl ?_
      refine ze_iald (j := y) cd_M_differs_104 (hM.2 5 _ rfl) rfl (by omega) (by decide) ?_
      refine ze_icmp_ne (tgt := 127) cd_M_differs_105 (by decide) (fun c19 => ?_) (fun c19 => ?_)
      · skip
        refine ze_iconst (v := nI 0) cd_M_differs_127 (by decide) ?_
        refine ze_istore (lv' := [(4, .int (nI 0)), (3, .int (zb b)), (0, .ref a), (1, .int (nI x)), (2, .int (nI y))]) cd_M_differs_128 (by decide) rfl ?_
        refine ze_aload_n 2 cd_M_differs_130 rfl rfl ?_
        refine ze_get zin_M (v := .ref (a + 8)) (ci := 7) rfl 13 (by decide) zm_735 rfl cd_M_differs_131 hM.1 rfl ?_
        refine ze_iload_n 3 cd_M_differs_134 rfl rfl ?_
        refine ze_iald (j := x) cd_M_differs_135 (hM.2 7 _ rfl) rfl (by omega) (by decide) ?_
        refine ze_aload_n 2 cd_M_differs_136 rfl rfl ?_
        refine ze_get zin_M (v := .ref (a + 8)) (ci := 7) rfl 13 (by decide) zm_735 rfl cd_M_differs_137 hM.1 rfl ?_
        refine ze_iload_n 4 cd_M_differs_140 rfl rfl ?_
        refine ze_iald (j := y) cd_M_differs_141 (hM.2 7 _ rfl) rfl (by omega) (by decide) ?_
        refine ze_icmp_ne (tgt := 164) cd_M_differs_142 (by decide) (fun c20 => ?_) (fun c20 => ?_)
        · skip
          refine ze_iconst (v := nI 0) cd_M_differs_164 (by decide) ?_
          refine ze_istore (lv' := [(5, .int (nI 0)), (4, .int (nI 0)), (3, .int (zb b)), (0, .ref a), (1, .int (nI x)), (2, .int (nI y))]) cd_M_differs_165 (by decide) rfl ?_
          refine ze_iload_n 2 cd_M_differs_167 rfl rfl ?_
          refine ze_if_eq (tgt := 175) cd_M_differs_168 (by decide) (fun c21 => ?_) (fun c21 => ?_)
          · skip
            have c21 : b = false := zb_f c21
            refine ze_iconst (v := nI 1) cd_M_differs_175 (by decide) ?_
            refine ze_iload 1 cd_M_differs_176 rfl ?_
            refine ze_if_eq (tgt := 185) cd_M_differs_178 (by decide) (fun _ => ?_) (fun c9 => absurd c9 (by decide))
            refine ze_iconst (v := nI 2) cd_M_differs_185 (by decide) ?_
            refine ze_iadd cd_M_differs_186 ?_
            refine ze_top (y := nI (1 + 2)) (nI_add _ _) ?_
            refine ze_iload 0 cd_M_differs_187 rfl ?_
            refine ze_if_eq (tgt := 196) cd_M_differs_189 (by decide) (fun _ => ?_) (fun c9 => absurd c9 (by decide))
            refine ze_iconst (v := nI 4) cd_M_differs_196 (by decide) ?_
            refine ze_iadd cd_M_differs_197 ?_
            refine ze_top (y := nI ((1 + 2) + 4)) (nI_add _ _) ?_
            refine ze_iret cd_M_differs_198 rfl (by decide) (by decide) (zPp_mk ?_)
            rw [← hX0]; simp [zm_dif, ← hb, c1, c19, c20, c21]
          · skip
            have c21 : b = true := zb_t c21
            refine ze_iconst (v := nI 0) cd_M_differs_171 (by decide) ?_
            refine ze_goto (tgt := 176) cd_M_differs_172 (by decide) ?_
            refine ze_iload 1 cd_M_differs_176 rfl ?_
            refine ze_if_eq (tgt := 185) cd_M_differs_178 (by decide) (fun _ => ?_) (fun c9 => absurd c9 (by decide))
            refine ze_iconst (v := nI 2) cd_M_differs_185 (by decide) ?_
            refine ze_iadd cd_M_differs_186 ?_
            refine ze_top (y := nI (0 + 2)) (nI_add _ _) ?_
            refine ze_iload 0 cd_M_differs_187 rfl ?_
            refine ze_if_eq (tgt := 196) cd_M_differs_189 (by decide) (fun _ => ?_) (fun c9 => absurd c9 (by decide))
            refine ze_iconst (v := nI 4) cd_M_differs_196 (by decide) ?_
            refine ze_iadd cd_M_differs_197 ?_
            refine ze_top (y := nI ((0 + 2) + 4)) (nI_add _ _) ?_
            refine ze_iret cd_M_differs_198 rfl (by decide) (by decide) (zPp_mk ?_)
            rw [← hX0]; simp [zm_dif, ← hb, c1, c19, c20, c21]
        · skip
          refine ze_aload_n 2 cd_M_differs_145 rfl rfl ?_
          refine ze_get zin_M (v := .ref (a + 9)) (ci := 7) rfl 14 (by decide) zm_736 rfl cd_M_differs_146 hM.1 rfl ?_
          refine ze_iload_n 3 cd_M_differs_149 rfl rfl ?_
          refine ze_iald (j := x) cd_M_differs_150 (hM.2 8 _ rfl) rfl (by omega) (by decide) ?_
          refine ze_aload_n 2 cd_M_differs_151 rfl rfl ?_
          refine ze_get zin_M (v := .ref (a + 9)) (ci := 7) rfl 14 (by decide) zm_736 rfl cd_M_differs_152 hM.1 rfl ?_
          refine ze_iload_n 4 cd_M_differs_155 rfl rfl ?_
          refine ze_iald (j := y) cd_M_differs_156 (hM.2 8 _ rfl) rfl (by omega) (by decide) ?_
          refine ze_icmp_ne (tgt := 164) cd_M_differs_157 (by decide) (fun c26 => ?_) (fun c26 => ?_)
          · skip
            refine ze_iconst (v := nI 0) cd_M_differs_164 (by decide) ?_
            refine ze_istore (lv' := [(5, .int (nI 0)), (4, .int (nI 0)), (3, .int (zb b)), (0, .ref a), (1, .int (nI x)), (2, .int (nI y))]) cd_M_differs_165 (by decide) rfl ?_
            refine ze_iload_n 2 cd_M_differs_167 rfl rfl ?_
            refine ze_if_eq (tgt := 175) cd_M_differs_168 (by decide) (fun c27 => ?_) (fun c27 => ?_)
            · skip
              have c27 : b = false := zb_f c27
              refine ze_iconst (v := nI 1) cd_M_differs_175 (by decide) ?_
              refine ze_iload 1 cd_M_differs_176 rfl ?_
              refine ze_if_eq (tgt := 185) cd_M_differs_178 (by decide) (fun _ => ?_) (fun c9 => absurd c9 (by decide))
              refine ze_iconst (v := nI 2) cd_M_differs_185 (by decide) ?_
              refine ze_iadd cd_M_differs_186 ?_
              refine ze_top (y := nI (1 + 2)) (nI_add _ _) ?_
              refine ze_iload 0 cd_M_differs_187 rfl ?_
              refine ze_if_eq (tgt := 196) cd_M_differs_189 (by decide) (fun _ => ?_) (fun c9 => absurd c9 (by decide))
              refine ze_iconst (v := nI 4) cd_M_differs_196 (by decide) ?_
              refine ze_iadd cd_M_differs_197 ?_
              refine ze_top (y := nI ((1 + 2) + 4)) (nI_add _ _) ?_
              refine ze_iret cd_M_differs_198 rfl (by decide) (by decide) (zPp_mk ?_)
              rw [← hX0]; simp [zm_dif, ← hb, c1, c19, c20, c26, c27]
            · skip
              have c27 : b = true := zb_t c27
              refine ze_iconst (v := nI 0) cd_M_differs_171 (by decide) ?_
              refine ze_goto (tgt := 176) cd_M_differs_172 (by decide) ?_
              refine ze_iload 1 cd_M_differs_176 rfl ?_
              refine ze_if_eq (tgt := 185) cd_M_differs_178 (by decide) (fun _ => ?_) (fun c9 => absurd c9 (by decide))
              refine ze_iconst (v := nI 2) cd_M_differs_185 (by decide) ?_
              refine ze_iadd cd_M_differs_186 ?_
              refine ze_top (y := nI (0 + 2)) (nI_add _ _) ?_
              refine ze_iload 0 cd_M_differs_187 rfl ?_
              refine ze_if_eq (tgt := 196) cd_M_differs_189 (by decide) (fun _ => ?_) (fun c9 => absurd c9 (by decide))
              refine ze_iconst (v := nI 4) cd_M_differs_196 (by decide) ?_
              refine ze_iadd cd_M_differs_197 ?_
              refine ze_top (y := nI ((0 + 2) + 4)) (nI_add _ _) ?_
              refine ze_iret cd_M_differs_198 rfl (by decide) (by decide) (zPp_mk ?_)
              rw [← hX0]; simp [zm_dif, ← hb, c1, c19, c20, c26, c27]
          · skip
            refine ze_iconst (v := nI 1) cd_M_differs_160 (by decide) ?_
            refine ze_goto (tgt := 165) cd_M_differs_161 (by decide) ?_
            refine ze_istore (lv' := [(5, .int (nI 1)), (4, .int (nI 0)), (3, .int (zb b)), (0, .ref a), (1, .int (nI x)), (2, .int (nI y))]) cd_M_differs_165 (by decide) rfl ?_
            refine ze_iload_n 2 cd_M_differs_167 rfl rfl ?_
            refine ze_if_eq (tgt := 175) cd_M_differs_168 (by decide) (fun c32 => ?_) (fun c32 => ?_)
            · skip
              have c32 : b = false := zb_f c32
              refine ze_iconst (v := nI 1) cd_M_differs_175 (by decide) ?_
              refine ze_iload 1 cd_M_differs_176 rfl ?_
              refine ze_if_eq (tgt := 185) cd_M_differs_178 (by decide) (fun _ => ?_) (fun c9 => absurd c9 (by decide))
              refine ze_iconst (v := nI 2) cd_M_differs_185 (by decide) ?_
              refine ze_iadd cd_M_differs_186 ?_
              refine ze_top (y := nI (1 + 2)) (nI_add _ _) ?_
              refine ze_iload 0 cd_M_differs_187 rfl ?_
              refine ze_if_eq (tgt := 196) cd_M_differs_189 (by decide) (fun c9 => absurd c9 (by decide)) (fun _ => ?_)
              refine ze_iconst (v := nI 0) cd_M_differs_192 (by decide) ?_
              refine ze_goto (tgt := 197) cd_M_differs_193 (by decide) ?_
              refine ze_iadd cd_M_differs_197 ?_
              refine ze_top (y := nI ((1 + 2) + 0)) (nI_add _ _) ?_
              refine ze_iret cd_M_differs_198 rfl (by decide) (by decide) (zPp_mk ?_)
              rw [← hX0]; simp [zm_dif, ← hb, c1, c19, c20, c26, c32]
            · skip
              have c32 : b = true := zb_t c32
              refine ze_iconst (v := nI 0) cd_M_differs_171 (by decide) ?_
              refine ze_goto (tgt := 176) cd_M_differs_172 (by decide) ?_
              refine ze_iload 1 cd_M_differs_176 rfl ?_
              refine ze_if_eq (tgt := 185) cd_M_differs_178 (by decide) (fun _ => ?_) (fun c9 => absurd c9 (by decide))
              refine ze_iconst (v := nI 2) cd_M_differs_185 (by decide) ?_
              refine ze_iadd cd_M_differs_186 ?_
              refine ze_top (y := nI (0 + 2)) (nI_add _ _) ?_
              refine ze_iload 0 cd_M_differs_187 rfl ?_
              refine ze_if_eq (tgt := 196) cd_M_differs_189 (by decide) (fun c9 => absurd c9 (by decide)) (fun _ => ?_)
              refine ze_iconst (v := nI 0) cd_M_differs_192 (by decide) ?_
              refine ze_goto (tgt := 197) cd_M_differs_193 (by decide) ?_
              refine ze_iadd cd_M_differs_197 ?_
              refine ze_top (y := nI ((0 + 2) + 0)) (nI_add _ _) ?_
              refine ze_iret cd_M_differs_198 rfl (by decide) (by decide) (zPp_mk ?_)
              rw [← hX0]; simp [zm_dif, ← hb, c1, c19, c20, c26, c32]
      · skip
        refine ze_aload_n 2 cd_M_differs_108 rfl rfl ?_
        refine ze_get zin_M (v := .ref (a + 7)) (ci := 7) rfl 12 (by decide) zm_734 rfl cd_M_differs_109 hM.1 rfl ?_
        refine ze_iload_n 3 cd_M_differs_112 rfl rfl ?_
        refine ze_iald (j := x) cd_M_differs_113 (hM.2 6 _ rfl) rfl (by omega) (by decide) ?_
        refine ze_aload_n 2 cd_M_differs_114 rfl rfl ?_
        refine ze_get zin_M (v := .ref (a + 7)) (ci := 7) rfl 12 (by decide) zm_734 rfl cd_M_differs_115 hM.1 rfl ?_
        refine ze_iload_n 4 cd_M_differs_118 rfl rfl ?_
        refine ze_iald (j := y) cd_M_differs_119 (hM.2 6 _ rfl) rfl (by omega) (by decide) ?_
        refine ze_icmp_ne (tgt := 127) cd_M_differs_120 (by decide) (fun c37 => ?_) (fun c37 => ?_)
        · skip
          refine ze_iconst (v := nI 0) cd_M_differs_127 (by decide) ?_
          refine ze_istore (lv' := [(4, .int (nI 0)), (3, .int (zb b)), (0, .ref a), (1, .int (nI x)), (2, .int (nI y))]) cd_M_differs_128 (by decide) rfl ?_
          refine ze_aload_n 2 cd_M_differs_130 rfl rfl ?_
          refine ze_get zin_M (v := .ref (a + 8)) (ci := 7) rfl 13 (by decide) zm_735 rfl cd_M_differs_131 hM.1 rfl ?_
          refine ze_iload_n 3 cd_M_differs_134 rfl rfl ?_
          refine ze_iald (j := x) cd_M_differs_135 (hM.2 7 _ rfl) rfl (by omega) (by decide) ?_
          refine ze_aload_n 2 cd_M_differs_136 rfl rfl ?_
          refine ze_get zin_M (v := .ref (a + 8)) (ci := 7) rfl 13 (by decide) zm_735 rfl cd_M_differs_137 hM.1 rfl ?_
          refine ze_iload_n 4 cd_M_differs_140 rfl rfl ?_
          refine ze_iald (j := y) cd_M_differs_141 (hM.2 7 _ rfl) rfl (by omega) (by decide) ?_
          refine ze_icmp_ne (tgt := 164) cd_M_differs_142 (by decide) (fun c38 => ?_) (fun c38 => ?_)
          · skip
            refine ze_iconst (v := nI 0) cd_M_differs_164 (by decide) ?_
            refine ze_istore (lv' := [(5, .int (nI 0)), (4, .int (nI 0)), (3, .int (zb b)), (0, .ref a), (1, .int (nI x)), (2, .int (nI y))]) cd_M_differs_165 (by decide) rfl ?_
            refine ze_iload_n 2 cd_M_differs_167 rfl rfl ?_
            refine ze_if_eq (tgt := 175) cd_M_differs_168 (by decide) (fun c39 => ?_) (fun c39 => ?_)
            · skip
              have c39 : b = false := zb_f c39
              refine ze_iconst (v := nI 1) cd_M_differs_175 (by decide) ?_
              refine ze_iload 1 cd_M_differs_176 rfl ?_
              refine ze_if_eq (tgt := 185) cd_M_differs_178 (by decide) (fun _ => ?_) (fun c9 => absurd c9 (by decide))
              refine ze_iconst (v := nI 2) cd_M_differs_185 (by decide) ?_
              refine ze_iadd cd_M_differs_186 ?_
              refine ze_top (y := nI (1 + 2)) (nI_add _ _) ?_
              refine ze_iload 0 cd_M_differs_187 rfl ?_
              refine ze_if_eq (tgt := 196) cd_M_differs_189 (by decide) (fun _ => ?_) (fun c9 => absurd c9 (by decide))
              refine ze_iconst (v := nI 4) cd_M_differs_196 (by decide) ?_
              refine ze_iadd cd_M_differs_197 ?_
              refine ze_top (y := nI ((1 + 2) + 4)) (nI_add _ _) ?_
              refine ze_iret cd_M_differs_198 rfl (by decide) (by decide) (zPp_mk ?_)
              rw [← hX0]; simp [zm_dif, ← hb, c1, c19, c37, c38, c39]
            · skip
              have c39 : b = true := zb_t c39
              refine ze_iconst (v := nI 0) cd_M_differs_171 (by decide) ?_
              refine ze_goto (tgt := 176) cd_M_differs_172 (by decide) ?_
              refine ze_iload 1 cd_M_differs_176 rfl ?_
              refine ze_if_eq (tgt := 185) cd_M_differs_178 (by decide) (fun _ => ?_) (fun c9 => absurd c9 (by decide))
              refine ze_iconst (v := nI 2) cd_M_differs_185 (by decide) ?_
              refine ze_iadd cd_M_differs_186 ?_
              refine ze_top (y := nI (0 + 2)) (nI_add _ _) ?_
              refine ze_iload 0 cd_M_differs_187 rfl ?_
              refine ze_if_eq (tgt := 196) cd_M_differs_189 (by decide) (fun _ => ?_) (fun c9 => absurd c9 (by decide))
              refine ze_iconst (v := nI 4) cd_M_differs_196 (by decide) ?_
              refine ze_iadd cd_M_differs_197 ?_
              refine ze_top (y := nI ((0 + 2) + 4)) (nI_add _ _) ?_
              refine ze_iret cd_M_differs_198 rfl (by decide) (by decide) (zPp_mk ?_)
              rw [← hX0]; simp [zm_dif, ← hb, c1, c19, c37, c38, c39]
          · skip
            refine ze_aload_n 2 cd_M_differs_145 rfl rfl ?_
            refine ze_get zin_M (v := .ref (a + 9)) (ci := 7) rfl 14 (by decide) zm_736 rfl cd_M_differs_146 hM.1 rfl ?_
            refine ze_iload_n 3 cd_M_differs_149 rfl rfl ?_
            refine ze_iald (j := x) cd_M_differs_150 (hM.2 8 _ rfl) rfl (by omega) (by decide) ?_
            refine ze_aload_n 2 cd_M_differs_151 rfl rfl ?_
            refine ze_get zin_M (v := .ref (a + 9)) (ci := 7) rfl 14 (by decide) zm_736 rfl cd_M_differs_152 hM.1 rfl ?_
            refine ze_iload_n 4 cd_M_differs_155 rfl rfl ?_
            refine ze_iald (j := y) cd_M_differs_156 (hM.2 8 _ rfl) rfl (by omega) (by decide) ?_
            refine ze_icmp_ne (tgt := 164) cd_M_differs_157 (by decide) (fun c44 => ?_) (fun c44 => ?_)
            · skip
              refine ze_iconst (v := nI 0) cd_M_differs_164 (by decide) ?_
              refine ze_istore (lv' := [(5, .int (nI 0)), (4, .int (nI 0)), (3, .int (zb b)), (0, .ref a), (1, .int (nI x)), (2, .int (nI y))]) cd_M_differs_165 (by decide) rfl ?_
              refine ze_iload_n 2 cd_M_differs_167 rfl rfl ?_
              refine ze_if_eq (tgt := 175) cd_M_differs_168 (by decide) (fun c45 => ?_) (fun c45 => ?_)
              · skip
                have c45 : b = false := zb_f c45
                refine ze_iconst (v := nI 1) cd_M_differs_175 (by decide) ?_
                refine ze_iload 1 cd_M_differs_176 rfl ?_
                refine ze_if_eq (tgt := 185) cd_M_differs_178 (by decide) (fun _ => ?_) (fun c9 => absurd c9 (by decide))
                refine ze_iconst (v := nI 2) cd_M_differs_185 (by decide) ?_
                refine ze_iadd cd_M_differs_186 ?_
                refine ze_top (y := nI (1 + 2)) (nI_add _ _) ?_
                refine ze_iload 0 cd_M_differs_187 rfl ?_
                refine ze_if_eq (tgt := 196) cd_M_differs_189 (by decide) (fun _ => ?_) (fun c9 => absurd c9 (by decide))
                refine ze_iconst (v := nI 4) cd_M_differs_196 (by decide) ?_
                refine ze_iadd cd_M_differs_197 ?_
                refine ze_top (y := nI ((1 + 2) + 4)) (nI_add _ _) ?_
                refine ze_iret cd_M_differs_198 rfl (by decide) (by decide) (zPp_mk ?_)
                rw [← hX0]; simp [zm_dif, ← hb, c1, c19, c37, c38, c44, c45]
              · skip
                have c45 : b = true := zb_t c45
                refine ze_iconst (v := nI 0) cd_M_differs_171 (by decide) ?_
                refine ze_goto (tgt := 176) cd_M_differs_172 (by decide) ?_
                refine ze_iload 1 cd_M_differs_176 rfl ?_
                refine ze_if_eq (tgt := 185) cd_M_differs_178 (by decide) (fun _ => ?_) (fun c9 => absurd c9 (by decide))
                refine ze_iconst (v := nI 2) cd_M_differs_185 (by decide) ?_
                refine ze_iadd cd_M_differs_186 ?_
                refine ze_top (y := nI (0 + 2)) (nI_add _ _) ?_
                refine ze_iload 0 cd_M_differs_187 rfl ?_
                refine ze_if_eq (tgt := 196) cd_M_differs_189 (by decide) (fun _ => ?_) (fun c9 => absurd c9 (by decide))
                refine ze_iconst (v := nI 4) cd_M_differs_196 (by decide) ?_
                refine ze_iadd cd_M_differs_197 ?_
                refine ze_top (y := nI ((0 + 2) + 4)) (nI_add _ _) ?_
                refine ze_iret cd_M_differs_198 rfl (by decide) (by decide) (zPp_mk ?_)
                rw [← hX0]; simp [zm_dif, ← hb, c1, c19, c37, c38, c44, c45]
            · skip
              refine ze_iconst (v := nI 1) cd_M_differs_160 (by decide) ?_
              refine ze_goto (tgt := 165) cd_M_differs_161 (by decide) ?_
              refine ze_istore (lv' := [(5, .int (nI 1)), (4, .int (nI 0)), (3, .int (zb b)), (0, .ref a), (1, .int (nI x)), (2, .int (nI y))]) cd_M_differs_165 (by decide) rfl ?_
              refine ze_iload_n 2 cd_M_differs_167 rfl rfl ?_
              refine ze_if_eq (tgt := 175) cd_M_differs_168 (by decide) (fun c50 => ?_) (fun c50 => ?_)
              · skip
                have c50 : b = false := zb_f c50
                refine ze_iconst (v := nI 1) cd_M_differs_175 (by decide) ?_
                refine ze_iload 1 cd_M_differs_176 rfl ?_
                refine ze_if_eq (tgt := 185) cd_M_differs_178 (by decide) (fun _ => ?_) (fun c9 => absurd c9 (by decide))
                refine ze_iconst (v := nI 2) cd_M_differs_185 (by decide) ?_
                refine ze_iadd cd_M_differs_186 ?_
                refine ze_top (y := nI (1 + 2)) (nI_add _ _) ?_
                refine ze_iload 0 cd_M_differs_187 rfl ?_
                refine ze_if_eq (tgt := 196) cd_M_differs_189 (by decide) (fun c9 => absurd c9 (by decide)) (fun _ => ?_)
                refine ze_iconst (v := nI 0) cd_M_differs_192 (by decide) ?_
                refine ze_goto (tgt := 197) cd_M_differs_193 (by decide) ?_
                refine ze_iadd cd_M_differs_197 ?_
                refine ze_top (y := nI ((1 + 2) + 0)) (nI_add _ _) ?_
                refine ze_iret cd_M_differs_198 rfl (by decide) (by decide) (zPp_mk ?_)
                rw [← hX0]; simp [zm_dif, ← hb, c1, c19, c37, c38, c44, c50]
              · skip
                have c50 : b = true := zb_t c50
                refine ze_iconst (v := nI 0) cd_M_differs_171 (by decide) ?_
                refine ze_goto (tgt := 176) cd_M_differs_172 (by decide) ?_
                refine ze_iload 1 cd_M_differs_176 rfl ?_
                refine ze_if_eq (tgt := 185) cd_M_differs_178 (by decide) (fun _ => ?_) (fun c9 => absurd c9 (by decide))
                refine ze_iconst (v := nI 2) cd_M_differs_185 (by decide) ?_
                refine ze_iadd cd_M_differs_186 ?_
                refine ze_top (y := nI (0 + 2)) (nI_add _ _) ?_
                refine ze_iload 0 cd_M_differs_187 rfl ?_
                refine ze_if_eq (tgt := 196) cd_M_differs_189 (by decide) (fun c9 => absurd c9 (by decide)) (fun _ => ?_)
                refine ze_iconst (v := nI 0) cd_M_differs_192 (by decide) ?_
                refine ze_goto (tgt := 197) cd_M_differs_193 (by decide) ?_
                refine ze_iadd cd_M_differs_197 ?_
                refine ze_top (y := nI ((0 + 2) + 0)) (nI_add _ _) ?_
                refine ze_iret cd_M_differs_198 rfl (by decide) (by decide) (zPp_mk ?_)
                rw [← hX0]; simp [zm_dif, ← hb, c1, c19, c37, c38, c44, c50]
        · skip
          refine ze_iconst (v := nI 1) cd_M_differs_123 (by decide) ?_
          refine ze_goto (tgt := 128) cd_M_differs_124 (by decide) ?_
          refine ze_istore (lv' := [(4, .int (nI 1)), (3, .int (zb b)), (0, .ref a), (1, .int (nI x)), (2, .int (nI y))]) cd_M_differs_128 (by decide) rfl ?_
          refine ze_aload_n 2 cd_M_differs_130 rfl rfl ?_
          refine ze_get zin_M (v := .ref (a + 8)) (ci := 7) rfl 13 (by decide) zm_735 rfl cd_M_differs_131 hM.1 rfl ?_
          refine ze_iload_n 3 cd_M_differs_134 rfl rfl ?_
          refine ze_iald (j := x) cd_M_differs_135 (hM.2 7 _ rfl) rfl (by omega) (by decide) ?_
          refine ze_aload_n 2 cd_M_differs_136 rfl rfl ?_
          refine ze_get zin_M (v := .ref (a + 8)) (ci := 7) rfl 13 (by decide) zm_735 rfl cd_M_differs_137 hM.1 rfl ?_
          refine ze_iload_n 4 cd_M_differs_140 rfl rfl ?_
          refine ze_iald (j := y) cd_M_differs_141 (hM.2 7 _ rfl) rfl (by omega) (by decide) ?_
          refine ze_icmp_ne (tgt := 164) cd_M_differs_142 (by decide) (fun c55 => ?_) (fun c55 => ?_)
          · skip
            refine ze_iconst (v := nI 0) cd_M_differs_164 (by decide) ?_
            refine ze_istore (lv' := [(5, .int (nI 0)), (4, .int (nI 1)), (3, .int (zb b)), (0, .ref a), (1, .int (nI x)), (2, .int (nI y))]) cd_M_differs_165 (by decide) rfl ?_
            refine ze_iload_n 2 cd_M_differs_167 rfl rfl ?_
            refine ze_if_eq (tgt := 175) cd_M_differs_168 (by decide) (fun c56 => ?_) (fun c56 => ?_)
            · skip
              have c56 : b = false := zb_f c56
              refine ze_iconst (v := nI 1) cd_M_differs_175 (by decide) ?_
              refine ze_iload 1 cd_M_differs_176 rfl ?_
              refine ze_if_eq (tgt := 185) cd_M_differs_178 (by decide) (fun c9 => absurd c9 (by decide)) (fun _ => ?_)
              refine ze_iconst (v := nI 0) cd_M_differs_181 (by decide) ?_
              refine ze_goto (tgt := 186) cd_M_differs_182 (by decide) ?_
              refine ze_iadd cd_M_differs_186 ?_
              refine ze_top (y := nI (1 + 0)) (nI_add _ _) ?_
              refine ze_iload 0 cd_M_differs_187 rfl ?_
              refine ze_if_eq (tgt := 196) cd_M_differs_189 (by decide) (fun _ => ?_) (fun c9 => absurd c9 (by decide))
              refine ze_iconst (v := nI 4) cd_M_differs_196 (by decide) ?_
              refine ze_iadd cd_M_differs_197 ?_
              refine ze_top (y := nI ((1 + 0) + 4)) (nI_add _ _) ?_
              refine ze_iret cd_M_differs_198 rfl (by decide) (by decide) (zPp_mk ?_)
              rw [← hX0]; simp [zm_dif, ← hb, c1, c19, c37, c55, c56]
            · skip
              have c56 : b = true := zb_t c56
              refine ze_iconst (v := nI 0) cd_M_differs_171 (by decide) ?_
              refine ze_goto (tgt := 176) cd_M_differs_172 (by decide) ?_
              refine ze_iload 1 cd_M_differs_176 rfl ?_
              refine ze_if_eq (tgt := 185) cd_M_differs_178 (by decide) (fun c9 => absurd c9 (by decide)) (fun _ => ?_)
              refine ze_iconst (v := nI 0) cd_M_differs_181 (by decide) ?_
              refine ze_goto (tgt := 186) cd_M_differs_182 (by decide) ?_
              refine ze_iadd cd_M_differs_186 ?_
              refine ze_top (y := nI (0 + 0)) (nI_add _ _) ?_
              refine ze_iload 0 cd_M_differs_187 rfl ?_
              refine ze_if_eq (tgt := 196) cd_M_differs_189 (by decide) (fun _ => ?_) (fun c9 => absurd c9 (by decide))
              refine ze_iconst (v := nI 4) cd_M_differs_196 (by decide) ?_
              refine ze_iadd cd_M_differs_197 ?_
              refine ze_top (y := nI ((0 + 0) + 4)) (nI_add _ _) ?_
              refine ze_iret cd_M_differs_198 rfl (by decide) (by decide) (zPp_mk ?_)
              rw [← hX0]; simp [zm_dif, ← hb, c1, c19, c37, c55, c56]
          · skip
            refine ze_aload_n 2 cd_M_differs_145 rfl rfl ?_
            refine ze_get zin_M (v := .ref (a + 9)) (ci := 7) rfl 14 (by decide) zm_736 rfl cd_M_differs_146 hM.1 rfl ?_
            refine ze_iload_n 3 cd_M_differs_149 rfl rfl ?_
            refine ze_iald (j := x) cd_M_differs_150 (hM.2 8 _ rfl) rfl (by omega) (by decide) ?_
            refine ze_aload_n 2 cd_M_differs_151 rfl rfl ?_
            refine ze_get zin_M (v := .ref (a + 9)) (ci := 7) rfl 14 (by decide) zm_736 rfl cd_M_differs_152 hM.1 rfl ?_
            refine ze_iload_n 4 cd_M_differs_155 rfl rfl ?_
            refine ze_iald (j := y) cd_M_differs_156 (hM.2 8 _ rfl) rfl (by omega) (by decide) ?_
            refine ze_icmp_ne (tgt := 164) cd_M_differs_157 (by decide) (fun c61 => ?_) (fun c61 => ?_)
            · skip
              refine ze_iconst (v := nI 0) cd_M_differs_164 (by decide) ?_
              refine ze_istore (lv' := [(5, .int (nI 0)), (4, .int (nI 1)), (3, .int (zb b)), (0, .ref a), (1, .int (nI x)), (2, .int (nI y))]) cd_M_differs_165 (by decide) rfl ?_
              refine ze_iload_n 2 cd_M_differs_167 rfl rfl ?_
              refine ze_if_eq (tgt := 175) cd_M_differs_168 (by decide) (fun c62 => ?_) (fun c62 => ?_)
              · skip
                have c62 : b = false := zb_f c62
                refine ze_iconst (v := nI 1) cd_M_differs_175 (by decide) ?_
                refine ze_iload 1 cd_M_differs_176 rfl ?_
                refine ze_if_eq (tgt := 185) cd_M_differs_178 (by decide) (fun c9 => absurd c9 (by decide)) (fun _ => ?_)
                refine ze_iconst (v := nI 0) cd_M_differs_181 (by decide) ?_
                refine ze_goto (tgt := 186) cd_M_differs_182 (by decide) ?_
                refine ze_iadd cd_M_differs_186 ?_
                refine ze_top (y := nI (1 + 0)) (nI_add _ _) ?_
                refine ze_iload 0 cd_M_differs_187 rfl ?_
                refine ze_if_eq (tgt := 196) cd_M_differs_189 (by decide) (fun _ => ?_) (fun c9 => absurd c9 (by decide))
                refine ze_iconst (v := nI 4) cd_M_differs_196 (by decide) ?_
                refine ze_iadd cd_M_differs_197 ?_
                refine ze_top (y := nI ((1 + 0) + 4)) (nI_add _ _) ?_
                refine ze_iret cd_M_differs_198 rfl (by decide) (by decide) (zPp_mk ?_)
                rw [← hX0]; simp [zm_dif, ← hb, c1, c19, c37, c55, c61, c62]
              · skip
                have c62 : b = true := zb_t c62
                refine ze_iconst (v := nI 0) cd_M_differs_171 (by decide) ?_
                refine ze_goto (tgt := 176) cd_M_differs_172 (by decide) ?_
                refine ze_iload 1 cd_M_differs_176 rfl ?_
                refine ze_if_eq (tgt := 185) cd_M_differs_178 (by decide) (fun c9 => absurd c9 (by decide)) (fun _ => ?_)
                refine ze_iconst (v := nI 0) cd_M_differs_181 (by decide) ?_
                refine ze_goto (tgt := 186) cd_M_differs_182 (by decide) ?_
                refine ze_iadd cd_M_differs_186 ?_
                refine ze_top (y := nI (0 + 0)) (nI_add _ _) ?_
                refine ze_iload 0 cd_M_differs_187 rfl ?_
                refine ze_if_eq (tgt := 196) cd_M_differs_189 (by decide) (fun _ => ?_) (fun c9 => absurd c9 (by decide))
                refine ze_iconst (v := nI 4) cd_M_differs_196 (by decide) ?_
                refine ze_iadd cd_M_differs_197 ?_
                refine ze_top (y := nI ((0 + 0) + 4)) (nI_add _ _) ?_
                refine ze_iret cd_M_differs_198 rfl (by decide) (by decide) (zPp_mk ?_)
                rw [← hX0]; simp [zm_dif, ← hb, c1, c19, c37, c55, c61, c62]
            · skip
              refine ze_iconst (v := nI 1) cd_M_differs_160 (by decide) ?_
              refine ze_goto (tgt := 165) cd_M_differs_161 (by decide) ?_
              refine ze_istore (lv' := [(5, .int (nI 1)), (4, .int (nI 1)), (3, .int (zb b)), (0, .ref a), (1, .int (nI x)), (2, .int (nI y))]) cd_M_differs_165 (by decide) rfl ?_
              refine ze_iload_n 2 cd_M_differs_167 rfl rfl ?_
              refine ze_if_eq (tgt := 175) cd_M_differs_168 (by decide) (fun c67 => ?_) (fun c67 => ?_)
              · skip
                have c67 : b = false := zb_f c67
                refine ze_iconst (v := nI 1) cd_M_differs_175 (by decide) ?_
                refine ze_iload 1 cd_M_differs_176 rfl ?_
                refine ze_if_eq (tgt := 185) cd_M_differs_178 (by decide) (fun c9 => absurd c9 (by decide)) (fun _ => ?_)
                refine ze_iconst (v := nI 0) cd_M_differs_181 (by decide) ?_
                refine ze_goto (tgt := 186) cd_M_differs_182 (by decide) ?_
                refine ze_iadd cd_M_differs_186 ?_
                refine ze_top (y := nI (1 + 0)) (nI_add _ _) ?_
                refine ze_iload 0 cd_M_differs_187 rfl ?_
                refine ze_if_eq (tgt := 196) cd_M_differs_189 (by decide) (fun c9 => absurd c9 (by decide)) (fun _ => ?_)
                refine ze_iconst (v := nI 0) cd_M_differs_192 (by decide) ?_
                refine ze_goto (tgt := 197) cd_M_differs_193 (by decide) ?_
                refine ze_iadd cd_M_differs_197 ?_
                refine ze_top (y := nI ((1 + 0) + 0)) (nI_add _ _) ?_
                refine ze_iret cd_M_differs_198 rfl (by decide) (by decide) (zPp_mk ?_)
                rw [← hX0]; simp [zm_dif, ← hb, c1, c19, c37, c55, c61, c67]
              · skip
                have c67 : b = true := zb_t c67
                refine ze_iconst (v := nI 0) cd_M_differs_171 (by decide) ?_
                refine ze_goto (tgt := 176) cd_M_differs_172 (by decide) ?_
                refine ze_iload 1 cd_M_differs_176 rfl ?_
                refine ze_if_eq (tgt := 185) cd_M_differs_178 (by decide) (fun c9 => absurd c9 (by decide)) (fun _ => ?_)
                refine ze_iconst (v := nI 0) cd_M_differs_181 (by decide) ?_
                refine ze_goto (tgt := 186) cd_M_differs_182 (by decide) ?_
                refine ze_iadd cd_M_differs_186 ?_
                refine ze_top (y := nI (0 + 0)) (nI_add _ _) ?_
                refine ze_iload 0 cd_M_differs_187 rfl ?_
                refine ze_if_eq (tgt := 196) cd_M_differs_189 (by decide) (fun c9 => absurd c9 (by decide)) (fun _ => ?_)
                refine ze_iconst (v := nI 0) cd_M_differs_192 (by decide) ?_
                refine ze_goto (tgt := 197) cd_M_differs_193 (by decide) ?_
                refine ze_iadd cd_M_differs_197 ?_
                refine ze_top (y := nI ((0 + 0) + 0)) (nI_add _ _) ?_
                refine ze_iret cd_M_differs_198 rfl (by decide) (by decide) (zPp_mk ?_)
                rw [← hX0]; simp [zm_dif, ← hb, c1, c19, c37, c55, c61, c67]
  have loop : M 9 x = M 9 y → ∀ (kk lo : Nat) (b : Bool), lo + kk = t → (b && zall (fun k => decide (M 10 (16 * x + k) = M 10 (16 * y + k))) lo kk) = zm_tq M x y t → zE g "FindingAidModel" cb_M_differs 6 (Option.some Jvm.ClassFile.FieldType.int) false zr_M_differs 0 0 (zPp (nI (X0)) σ sz) 24 [(4, .int (nI lo)), (3, .int (zb b)), (0, .ref a), (1, .int (nI x)), (2, .int (nI y))] [] σ sz 0 0 := by
    intro hxy kk
    induction kk with
    | zero =>
      intro lo b hk hE
      refine ze_iload 0 cd_M_differs_24 rfl ?_
      refine ze_aload_n 2 cd_M_differs_26 rfl rfl ?_
      refine ze_get zin_M (v := .ref (a + 10)) (ci := 7) rfl 15 (by decide) zm_737 rfl cd_M_differs_27 hM.1 rfl ?_
      refine ze_iload_n 3 cd_M_differs_30 rfl rfl ?_
      refine ze_iald (j := x) cd_M_differs_31 (hM.2 9 _ rfl) rfl (by omega) (by decide) ?_
      refine ze_top ht ?_
      refine ze_icmp_ge (tgt := 78) cd_M_differs_32 (by decide) (fun c73 => ?_) (fun c73 => ?_)
      · skip
        have c73 : t ≤ lo := (nI_leI (by omega) (by omega)).mp c73
        exact ze_sub [0, 1, 2, 3, 4] rfl (fin _ _ (by rw [← hE]; first | (simp [zall]; done) | (simp []; done)))
      · skip
        have c73 : ¬ t ≤ lo := fun h9 => c73 ((nI_leI (by omega) (by omega)).mpr h9)
        exfalso; omega
    | succ kk ih =>
      intro lo b hk hE
      refine ze_iload 0 cd_M_differs_24 rfl ?_
      refine ze_aload_n 2 cd_M_differs_26 rfl rfl ?_
      refine ze_get zin_M (v := .ref (a + 10)) (ci := 7) rfl 15 (by decide) zm_737 rfl cd_M_differs_27 hM.1 rfl ?_
      refine ze_iload_n 3 cd_M_differs_30 rfl rfl ?_
      refine ze_iald (j := x) cd_M_differs_31 (hM.2 9 _ rfl) rfl (by omega) (by decide) ?_
      refine ze_top ht ?_
      refine ze_icmp_ge (tgt := 78) cd_M_differs_32 (by decide) (fun c75 => ?_) (fun c75 => ?_)
      · skip
        have c75 : t ≤ lo := (nI_leI (by omega) (by omega)).mp c75
        exfalso; omega
      · skip
        have c75 : ¬ t ≤ lo := fun h9 => c75 ((nI_leI (by omega) (by omega)).mpr h9)
        refine ze_iload_n 1 cd_M_differs_35 rfl rfl ?_
        refine ze_if_eq (tgt := 78) cd_M_differs_36 (by decide) (fun c76 => ?_) (fun c76 => ?_)
        · skip
          have c76 : b = false := zb_f c76
          exact ze_sub [0, 1, 2, 3, 4] rfl (fin _ _ (by rw [← hE]; first | (simp [zall]; done) | (simp [c76]; done)))
        · skip
          have c76 : b = true := zb_t c76
          refine ze_aload_n 2 cd_M_differs_39 rfl rfl ?_
          refine ze_get zin_M (v := .ref (a + 11)) (ci := 7) rfl 16 (by decide) zm_738 rfl cd_M_differs_40 hM.1 rfl ?_
          refine ze_bipush (v := nI 16) cd_M_differs_43 (by decide) ?_
          refine ze_iload_n 3 cd_M_differs_45 rfl rfl ?_
          refine ze_imul cd_M_differs_46 ?_
          refine ze_top (y := nI (16 * x)) (pk_mul _ _) ?_
          refine ze_iload 0 cd_M_differs_47 rfl ?_
          refine ze_iadd cd_M_differs_49 ?_
          refine ze_top (y := nI ((16 * x) + lo)) (nI_add _ _) ?_
          refine ze_bald (j := (16 * x) + lo) cd_M_differs_50 (hM.2 10 _ rfl) rfl (by omega) (by decide) ?_
          refine ze_aload_n 2 cd_M_differs_51 rfl rfl ?_
          refine ze_get zin_M (v := .ref (a + 11)) (ci := 7) rfl 16 (by decide) zm_738 rfl cd_M_differs_52 hM.1 rfl ?_
          refine ze_bipush (v := nI 16) cd_M_differs_55 (by decide) ?_
          refine ze_iload_n 4 cd_M_differs_57 rfl rfl ?_
          refine ze_imul cd_M_differs_58 ?_
          refine ze_top (y := nI (16 * y)) (pk_mul _ _) ?_
          refine ze_iload 0 cd_M_differs_59 rfl ?_
          refine ze_iadd cd_M_differs_61 ?_
          refine ze_top (y := nI ((16 * y) + lo)) (nI_add _ _) ?_
          refine ze_bald (j := (16 * y) + lo) cd_M_differs_62 (hM.2 10 _ rfl) rfl (by omega) (by decide) ?_
          refine ze_icmp_ne (tgt := 70) cd_M_differs_63 (by decide) (fun c77 => ?_) (fun c77 => ?_)
          · skip
            refine ze_iconst (v := nI 0) cd_M_differs_70 (by decide) ?_
            refine ze_istore_n (lv' := [(3, .int (nI 0)), (4, .int (nI lo)), (0, .ref a), (1, .int (nI x)), (2, .int (nI y))]) cd_M_differs_71 rfl (by decide) rfl ?_
            refine ze_iinc (v := nI (lo + 1)) (lv' := [(4, .int (nI (lo + 1))), (3, .int (nI 0)), (0, .ref a), (1, .int (nI x)), (2, .int (nI y))]) 1 cd_M_differs_72 rfl (nI_add _ 1) (by decide) rfl ?_
            refine ze_goto (tgt := 24) cd_M_differs_75 (by decide) ?_
            exact ze_sub [0, 1, 2, 3, 4] rfl (ih (lo + 1) false (by omega) (by rw [← hE]; simp [zall, c76, c77]))
          · skip
            refine ze_iconst (v := nI 1) cd_M_differs_66 (by decide) ?_
            refine ze_goto (tgt := 71) cd_M_differs_67 (by decide) ?_
            refine ze_istore_n (lv' := [(3, .int (nI 1)), (4, .int (nI lo)), (0, .ref a), (1, .int (nI x)), (2, .int (nI y))]) cd_M_differs_71 rfl (by decide) rfl ?_
            refine ze_iinc (v := nI (lo + 1)) (lv' := [(4, .int (nI (lo + 1))), (3, .int (nI 1)), (0, .ref a), (1, .int (nI x)), (2, .int (nI y))]) 1 cd_M_differs_72 rfl (nI_add _ 1) (by decide) rfl ?_
            refine ze_goto (tgt := 24) cd_M_differs_75 (by decide) ?_
            exact ze_sub [0, 1, 2, 3, 4] rfl (ih (lo + 1) true (by omega) (by rw [← hE]; simp [zall, c76, c77]))
  refine zM_of (lv := [(0, .ref a), (1, .int (nI x)), (2, .int (nI y))]) (ini := false) (by decide) rfl (by decide) (Nat.le_of_ble_eq_true rfl) rfl ?_
  refine ze_aload_n 0 cd_M_differs_0 rfl rfl ?_
  refine ze_get zin_M (v := .ref (a + 10)) (ci := 7) rfl 15 (by decide) zm_737 rfl cd_M_differs_1 hM.1 rfl ?_
  refine ze_iload_n 1 cd_M_differs_4 rfl rfl ?_
  refine ze_iald (j := x) cd_M_differs_5 (hM.2 9 _ rfl) rfl (by omega) (by decide) ?_
  refine ze_aload_n 0 cd_M_differs_6 rfl rfl ?_
  refine ze_get zin_M (v := .ref (a + 10)) (ci := 7) rfl 15 (by decide) zm_737 rfl cd_M_differs_7 hM.1 rfl ?_
  refine ze_iload_n 2 cd_M_differs_10 rfl rfl ?_
  refine ze_iald (j := y) cd_M_differs_11 (hM.2 9 _ rfl) rfl (by omega) (by decide) ?_
  refine ze_icmp_ne (tgt := 19) cd_M_differs_12 (by decide) (fun c78 => ?_) (fun c78 => ?_)
  · skip
    refine ze_iconst (v := nI 0) cd_M_differs_19 (by decide) ?_
    refine ze_istore_n (lv' := [(3, .int (nI 0)), (0, .ref a), (1, .int (nI x)), (2, .int (nI y))]) cd_M_differs_20 rfl (by decide) rfl ?_
    refine ze_iconst (v := nI 0) cd_M_differs_21 (by decide) ?_
    refine ze_istore (lv' := [(4, .int (nI 0)), (3, .int (nI 0)), (0, .ref a), (1, .int (nI x)), (2, .int (nI y))]) cd_M_differs_22 (by decide) rfl ?_
    refine ze_iload 0 cd_M_differs_24 rfl ?_
    refine ze_aload_n 2 cd_M_differs_26 rfl rfl ?_
    refine ze_get zin_M (v := .ref (a + 10)) (ci := 7) rfl 15 (by decide) zm_737 rfl cd_M_differs_27 hM.1 rfl ?_
    refine ze_iload_n 3 cd_M_differs_30 rfl rfl ?_
    refine ze_iald (j := x) cd_M_differs_31 (hM.2 9 _ rfl) rfl (by omega) (by decide) ?_
    refine ze_icmp_ge (tgt := 78) cd_M_differs_32 (by decide) (fun c79 => ?_) (fun c79 => ?_)
    · skip
      have c79 : ¬ (nI 0) < (M 9 x) := Int32.not_lt.mpr c79
      exact ze_sub [0, 1, 2, 3, 4] rfl (fin 0 false (by simp [zm_tq, c78]))
    · skip
      have c79 : (nI 0) < (M 9 x) := Int32.not_le.mp c79
      refine ze_iload_n 1 cd_M_differs_35 rfl rfl ?_
      refine ze_if_eq (tgt := 78) cd_M_differs_36 (by decide) (fun _ => ?_) (fun c9 => absurd c9 (by decide))
      exact ze_sub [0, 1, 2, 3, 4] rfl (fin 0 false (by simp [zm_tq, c78]))
  · skip
    refine ze_iconst (v := nI 1) cd_M_differs_15 (by decide) ?_
    refine ze_goto (tgt := 20) cd_M_differs_16 (by decide) ?_
    refine ze_istore_n (lv' := [(3, .int (nI 1)), (0, .ref a), (1, .int (nI x)), (2, .int (nI y))]) cd_M_differs_20 rfl (by decide) rfl ?_
    refine ze_iconst (v := nI 0) cd_M_differs_21 (by decide) ?_
    refine ze_istore (lv' := [(4, .int (nI 0)), (3, .int (nI 1)), (0, .ref a), (1, .int (nI x)), (2, .int (nI y))]) cd_M_differs_22 (by decide) rfl ?_
    exact ze_sub [0, 1, 2, 3, 4] rfl (loop c78 t 0 true (by omega) (by simp only [zm_tq, c78, if_true, Bool.true_and]))
