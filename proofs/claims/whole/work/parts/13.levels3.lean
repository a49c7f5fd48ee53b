def zall (p : Nat → Bool) : Nat → Nat → Bool
  | _, 0 => true
  | lo, k + 1 => if p lo then zall p (lo + 1) k else false
def zfind (p : Nat → Bool) : Nat → Nat → Int32
  | _, 0 => -1
  | lo, k + 1 => if p lo then nI lo else zfind p (lo + 1) k
def zl_path (n : Nat) (R : Nat → Nat → Int32) (m : Nat) (Q : Nat → Nat → Int32) : Nat → Int32 → Int32 → Bool
  | 0, x, y => (zi n x).isNone && (zi m y).isNone
  | k + 1, x, y => match zi n x, zi m y with
    | some p, some q => if R 1 p = Q 1 q then zl_path n R m Q k (R 2 p) (Q 2 q) else false
    | none, none => true
    | _, _ => false
def zl_fst (n : Nat) (R : Nat → Nat → Int32) (m : Nat) (Q : Nat → Nat → Int32) (j : Int32) : Int32 := zfind (fun x => zl_path n R m Q 9 (nI x) j) 0 n
def zl_tit (R : Nat → Nat → Int32) (i : Nat) (Q : Nat → Nat → Int32) (j t : Nat) : Bool := if R 9 i = Q 9 j then zall (fun k => decide (R 10 (i * 16 + k) = Q 10 (j * 16 + k))) 0 t else false
def zl_dif (R : Nat → Nat → Int32) (i : Nat) (Q : Nat → Nat → Int32) (j t : Nat) : Nat := (if zl_tit R i Q j t then 0 else 1) + (if R 4 i = Q 4 j ∧ R 5 i = Q 5 j ∧ R 6 i = Q 6 j then 0 else 2) + (if R 7 i = Q 7 j ∧ R 8 i = Q 8 j then 0 else 4)
def zl_ats (R : Nat → Nat → Int32) (j t : Nat) (c : Int32) : Nat → Nat → Int32 := if t < 16 then va_up (va_up R 10 (upd (R 10) (j * 16 + t) c)) 9 (upd (R 9) j (nI (t + 1))) else R
def zl_bare (R : Nat → Nat → Int32) (i : Nat) (d : Int32) : Nat → Nat → Int32 := va_up (va_up (va_up (va_up (va_up (va_up (va_up (va_up R 3 (upd (R 3) i d)) 2 (upd (R 2) i (zl_lod (upd (R 3) i d) (d - nI 1) i))) 9 (upd (R 9) i (nI 0))) 4 (upd (R 4) i (-1))) 5 (upd (R 5) i (-1))) 6 (upd (R 6) i (nI 0))) 7 (upd (R 7) i (-1))) 8 (upd (R 8) i (-1))
def zl_hangD (n : Nat) (R : Nat → Nat → Int32) (i u : Nat) : Nat → Int32 := zfold (fun D x => if zl_wi n (R 2) (nI i) 9 (nI x) then upd D x (D x + (R 3 u + 1 - R 3 i)) else D) (R 3) 0 n
def zl_hang (n : Nat) (R : Nat → Nat → Int32) (i u : Nat) : Nat → Nat → Int32 := va_up (va_up R 3 (zl_hangD n R i u)) 2 (upd (R 2) i (nI u))
theorem va_up_id {α : Type} (f : Nat → α) (k : Nat) : va_up f k (f k) = f := by
  funext j
  by_cases h : j = k
  · subst h; rw [va_up_self]
  · rw [va_up_ne _ _ h]
abbrev zr_L_hasPathOf : Room := { frames := 1, cells := 0, slots := 0, locals := 21 }
set_option maxRecDepth 100000 in
set_option maxHeartbeats 4000000 in
theorem kc_L_hasPathOf {g : zx_G} {σ : zx_M} {sz : Nat} {a n : Nat} {R : Nat → Nat → Int32} {b m : Nat} {Q : Nat → Nat → Int32} {i j : Int32} (h : zl g σ a n R) (h2 : zl g σ b m Q) (hn : n ≤ 100) (hm : m ≤ 100) : zM g cy_L_hasPathOf cb_L_hasPathOf 7 (Option.some Jvm.ClassFile.FieldType.boolean) zr_L_hasPathOf 0 0 [.ref a, .int i, .ref b, .int j] σ sz (zPp (zb (zl_path n R m Q 9 i j)) σ sz) := by
  generalize hX0 : zl_path n R m Q 9 i j = X0
  have loop : ∀ (kk : Nat) (sp : Nat) (x y : Int32), sp + kk = 9 → zl_path n R m Q kk x y = X0 → zE g "FindingAid$Levels" cb_L_hasPathOf 7 (Option.some Jvm.ClassFile.FieldType.boolean) false zr_L_hasPathOf 0 0 (zPp (zb (X0)) σ sz) 9 [(6, .int (nI sp)), (5, .int y), (4, .int x), (0, .ref a), (1, .int i), (2, .ref b), (3, .int j)] [] σ sz 0 0 := by
    intro kk
    induction kk with
    | zero =>
      intro sp x y hk hE
      refine ze_iload 0 cd_L_hasPathOf_9 rfl ?_
      refine ze_bipush (v := nI 8) cd_L_hasPathOf_11 (by decide) ?_
      refine ze_icmp_gt (tgt := 77) cd_L_hasPathOf_13 (by decide) (fun c2 => ?_) (fun c2 => ?_)
      · skip
        have c2 : 8 < sp := (nI_ltI (by omega) (by omega)).mp c2
        refine ze_aload_n 3 cd_L_hasPathOf_77 rfl rfl ?_
        refine ze_iload 2 cd_L_hasPathOf_78 rfl ?_
        refine ze_callVp (rm' := zr_L_has) (b := a) (As := [.int x]) (rest := []) (kc_L_has h) ⟨rfl, rfl⟩ zy_L_has_ok zm_416 zm_311 zm_312 (ci := 1) rfl rfl (by decide) (by decide) cd_L_hasPathOf_80 h.1 rfl rfl (Nat.le_of_ble_eq_true rfl) ?_
        refine ze_if_ne (tgt := 99) cd_L_hasPathOf_83 (by decide) (fun c3 => ?_) (fun c3 => ?_)
        · skip
          have c3 : ((zi n x).isSome) = true := zb_t c3
          obtain ⟨q4, hq4⟩ := Option.isSome_iff_exists.mp c3
          refine ze_iconst (v := nI 0) cd_L_hasPathOf_99 (by decide) ?_
          refine ze_zret cd_L_hasPathOf_100 rfl (by decide) (by decide) (by decide) (zPp_mk ?_)
          rw [← hE]; first | (simp [zl_path, zb, nI_0, zn_1, c2, hq4]; done) | (simp only [zl_path, hq4]; simp_all [zb, nI_0, zn_1]; done)
        · skip
          have c3 : ((zi n x).isSome) = false := zb_f c3
          have c3 : zi n x = none := by simpa using c3
          refine ze_aload_n 5 cd_L_hasPathOf_86 rfl rfl ?_
          refine ze_iload 1 cd_L_hasPathOf_87 rfl ?_
          refine ze_callVp (rm' := zr_L_has) (b := b) (As := [.int y]) (rest := []) (kc_L_has h2) ⟨rfl, rfl⟩ zy_L_has_ok zm_416 zm_311 zm_312 (ci := 1) rfl rfl (by decide) (by decide) cd_L_hasPathOf_89 h2.1 rfl rfl (Nat.le_of_ble_eq_true rfl) ?_
          refine ze_if_ne (tgt := 99) cd_L_hasPathOf_92 (by decide) (fun c5 => ?_) (fun c5 => ?_)
          · skip
            have c5 : ((zi m y).isSome) = true := zb_t c5
            obtain ⟨q6, hq6⟩ := Option.isSome_iff_exists.mp c5
            refine ze_iconst (v := nI 0) cd_L_hasPathOf_99 (by decide) ?_
            refine ze_zret cd_L_hasPathOf_100 rfl (by decide) (by decide) (by decide) (zPp_mk ?_)
            rw [← hE]; first | (simp [zl_path, zb, nI_0, zn_1, c2, c3, hq6]; done) | (simp only [zl_path, hq6]; simp_all [zb, nI_0, zn_1]; done)
          · skip
            have c5 : ((zi m y).isSome) = false := zb_f c5
            have c5 : zi m y = none := by simpa using c5
            refine ze_iconst (v := nI 1) cd_L_hasPathOf_95 (by decide) ?_
            refine ze_goto (tgt := 100) cd_L_hasPathOf_96 (by decide) ?_
            refine ze_zret cd_L_hasPathOf_100 rfl (by decide) (by decide) (by decide) (zPp_mk ?_)
            rw [← hE]; first | (simp [zl_path, zb, nI_0, zn_1, c2, c3, c5]; done) | (simp only [zl_path]; simp_all [zb, nI_0, zn_1]; done)
      · skip
        have c2 : ¬ 8 < sp := fun h9 => c2 ((nI_ltI (by omega) (by omega)).mpr h9)
        exfalso; omega
    | succ kk ih =>
      intro sp x y hk hE
      refine ze_iload 0 cd_L_hasPathOf_9 rfl ?_
      refine ze_bipush (v := nI 8) cd_L_hasPathOf_11 (by decide) ?_
      refine ze_icmp_gt (tgt := 77) cd_L_hasPathOf_13 (by decide) (fun c8 => ?_) (fun c8 => ?_)
      · skip
        have c8 : 8 < sp := (nI_ltI (by omega) (by omega)).mp c8
        exfalso; omega
      · skip
        have c8 : ¬ 8 < sp := fun h9 => c8 ((nI_ltI (by omega) (by omega)).mpr h9)
        refine ze_aload_n 3 cd_L_hasPathOf_16 rfl rfl ?_
        refine ze_iload 2 cd_L_hasPathOf_17 rfl ?_
        refine ze_callVp (rm' := zr_L_has) (b := a) (As := [.int x]) (rest := []) (kc_L_has h) ⟨rfl, rfl⟩ zy_L_has_ok zm_416 zm_311 zm_312 (ci := 1) rfl rfl (by decide) (by decide) cd_L_hasPathOf_19 h.1 rfl rfl (Nat.le_of_ble_eq_true rfl) ?_
        refine ze_if_eq (tgt := 77) cd_L_hasPathOf_22 (by decide) (fun c9 => ?_) (fun c9 => ?_)
        · skip
          have c9 : ((zi n x).isSome) = false := zb_f c9
          have c9 : zi n x = none := by simpa using c9
          refine ze_aload_n 3 cd_L_hasPathOf_77 rfl rfl ?_
          refine ze_iload 2 cd_L_hasPathOf_78 rfl ?_
          refine ze_callVp (rm' := zr_L_has) (b := a) (As := [.int x]) (rest := []) (kc_L_has h) ⟨rfl, rfl⟩ zy_L_has_ok zm_416 zm_311 zm_312 (ci := 1) rfl rfl (by decide) (by decide) cd_L_hasPathOf_80 h.1 rfl rfl (Nat.le_of_ble_eq_true rfl) ?_
          refine ze_if_ne (tgt := 99) cd_L_hasPathOf_83 (by decide) (fun c10 => ?_) (fun c10 => ?_)
          · skip
            have c10 : ((zi n x).isSome) = true := zb_t c10
            obtain ⟨q11, hq11⟩ := Option.isSome_iff_exists.mp c10
            refine ze_iconst (v := nI 0) cd_L_hasPathOf_99 (by decide) ?_
            refine ze_zret cd_L_hasPathOf_100 rfl (by decide) (by decide) (by decide) (zPp_mk ?_)
            rw [← hE]; first | (simp [zl_path, zb, nI_0, zn_1, c8, c9, hq11]; done) | (simp only [zl_path, hq11]; simp_all [zb, nI_0, zn_1]; done)
          · skip
            have c10 : ((zi n x).isSome) = false := zb_f c10
            have c10 : zi n x = none := by simpa using c10
            refine ze_aload_n 5 cd_L_hasPathOf_86 rfl rfl ?_
            refine ze_iload 1 cd_L_hasPathOf_87 rfl ?_
            refine ze_callVp (rm' := zr_L_has) (b := b) (As := [.int y]) (rest := []) (kc_L_has h2) ⟨rfl, rfl⟩ zy_L_has_ok zm_416 zm_311 zm_312 (ci := 1) rfl rfl (by decide) (by decide) cd_L_hasPathOf_89 h2.1 rfl rfl (Nat.le_of_ble_eq_true rfl) ?_
            refine ze_if_ne (tgt := 99) cd_L_hasPathOf_92 (by decide) (fun c12 => ?_) (fun c12 => ?_)
            · skip
              have c12 : ((zi m y).isSome) = true := zb_t c12
              obtain ⟨q13, hq13⟩ := Option.isSome_iff_exists.mp c12
              refine ze_iconst (v := nI 0) cd_L_hasPathOf_99 (by decide) ?_
              refine ze_zret cd_L_hasPathOf_100 rfl (by decide) (by decide) (by decide) (zPp_mk ?_)
              rw [← hE]; first | (simp [zl_path, zb, nI_0, zn_1, c8, c9, c10, hq13]; done) | (simp only [zl_path, hq13]; simp_all [zb, nI_0, zn_1]; done)
            · skip
              have c12 : ((zi m y).isSome) = false := zb_f c12
              have c12 : zi m y = none := by simpa using c12
              refine ze_iconst (v := nI 1) cd_L_hasPathOf_95 (by decide) ?_
              refine ze_goto (tgt := 100) cd_L_hasPathOf_96 (by decide) ?_
              refine ze_zret cd_L_hasPathOf_100 rfl (by decide) (by decide) (by decide) (zPp_mk ?_)
              rw [← hE]; first | (simp [zl_path, zb, nI_0, zn_1, c8, c9, c10, c12]; done) | (simp only [zl_path]; simp_all [zb, nI_0, zn_1]; done)
        · skip
          have c9 : ((zi n x).isSome) = true := zb_t c9
          obtain ⟨p, hp⟩ := Option.isSome_iff_exists.mp c9
          obtain ⟨hpn, rfl⟩ := zi_some (by omega) hp
          refine ze_aload_n 5 cd_L_hasPathOf_25 rfl rfl ?_
          refine ze_iload 1 cd_L_hasPathOf_26 rfl ?_
          refine ze_callVp (rm' := zr_L_has) (b := b) (As := [.int y]) (rest := []) (kc_L_has h2) ⟨rfl, rfl⟩ zy_L_has_ok zm_416 zm_311 zm_312 (ci := 1) rfl rfl (by decide) (by decide) cd_L_hasPathOf_28 h2.1 rfl rfl (Nat.le_of_ble_eq_true rfl) ?_
          refine ze_if_eq (tgt := 77) cd_L_hasPathOf_31 (by decide) (fun c14 => ?_) (fun c14 => ?_)
          · skip
            have c14 : ((zi m y).isSome) = false := zb_f c14
            have c14 : zi m y = none := by simpa using c14
            refine ze_aload_n 3 cd_L_hasPathOf_77 rfl rfl ?_
            refine ze_iload 2 cd_L_hasPathOf_78 rfl ?_
            refine ze_callVp (rm' := zr_L_has) (b := a) (As := [.int (nI p)]) (rest := []) (kc_L_has h) ⟨rfl, rfl⟩ zy_L_has_ok zm_416 zm_311 zm_312 (ci := 1) rfl rfl (by decide) (by decide) cd_L_hasPathOf_80 h.1 rfl rfl (Nat.le_of_ble_eq_true rfl) ?_
            refine ze_if_ne (tgt := 99) cd_L_hasPathOf_83 (by decide) (fun c15 => ?_) (fun c15 => ?_)
            · skip
              have c15 : ((zi n (nI p)).isSome) = true := zb_t c15
              obtain ⟨q16, hq16⟩ := Option.isSome_iff_exists.mp c15
              refine ze_iconst (v := nI 0) cd_L_hasPathOf_99 (by decide) ?_
              refine ze_zret cd_L_hasPathOf_100 rfl (by decide) (by decide) (by decide) (zPp_mk ?_)
              rw [← hE]; first | (simp [zl_path, zb, nI_0, zn_1, c8, hp, c14, hq16]; done) | (simp only [zl_path, hp, hq16]; simp_all [zb, nI_0, zn_1]; done)
            · skip
              have c15 : ((zi n (nI p)).isSome) = false := zb_f c15
              have c15 : zi n (nI p) = none := by simpa using c15
              refine ze_aload_n 5 cd_L_hasPathOf_86 rfl rfl ?_
              refine ze_iload 1 cd_L_hasPathOf_87 rfl ?_
              refine ze_callVp (rm' := zr_L_has) (b := b) (As := [.int y]) (rest := []) (kc_L_has h2) ⟨rfl, rfl⟩ zy_L_has_ok zm_416 zm_311 zm_312 (ci := 1) rfl rfl (by decide) (by decide) cd_L_hasPathOf_89 h2.1 rfl rfl (Nat.le_of_ble_eq_true rfl) ?_
              refine ze_if_ne (tgt := 99) cd_L_hasPathOf_92 (by decide) (fun c17 => ?_) (fun c17 => ?_)
              · skip
                have c17 : ((zi m y).isSome) = true := zb_t c17
                obtain ⟨q18, hq18⟩ := Option.isSome_iff_exists.mp c17
                refine ze_iconst (v := nI 0) cd_L_hasPathOf_99 (by decide) ?_
                refine ze_zret cd_L_hasPathOf_100 rfl (by decide) (by decide) (by decide) (zPp_mk ?_)
                rw [← hE]; first | (simp [zl_path, zb, nI_0, zn_1, c8, hp, c14, c15, hq18]; done) | (simp only [zl_path, hp, hq18]; simp_all [zb, nI_0, zn_1]; done)
              · skip
                have c17 : ((zi m y).isSome) = false := zb_f c17
                have c17 : zi m y = none := by simpa using c17
                refine ze_iconst (v := nI 1) cd_L_hasPathOf_95 (by decide) ?_
                refine ze_goto (tgt := 100) cd_L_hasPathOf_96 (by decide) ?_
                refine ze_zret cd_L_hasPathOf_100 rfl (by decide) (by decide) (by decide) (zPp_mk ?_)
                rw [← hE]; first | (simp [zl_path, zb, nI_0, zn_1, c8, hp, c14, c15, c17]; done) | (simp only [zl_path, hp]; simp_all [zb, nI_0, zn_1]; done)
          · skip
            have c14 : ((zi m y).isSome) = true := zb_t c14
            obtain ⟨q, hq⟩ := Option.isSome_iff_exists.mp c14
            obtain ⟨hqn, rfl⟩ := zi_some (by omega) hq
            refine ze_aload_n 3 cd_L_hasPathOf_34 rfl rfl ?_
            refine ze_get zin_L (v := .ref (a + 2)) (ci := 1) rfl 2 (by decide) zm_98 rfl cd_L_hasPathOf_35 h.1 rfl ?_
            refine ze_iload 2 cd_L_hasPathOf_38 rfl ?_
            refine ze_iald (j := p) cd_L_hasPathOf_40 (h.2 1 _ rfl) rfl (by omega) (by decide) ?_
            refine ze_aload_n 5 cd_L_hasPathOf_41 rfl rfl ?_
            refine ze_get zin_L (v := .ref (b + 2)) (ci := 1) rfl 2 (by decide) zm_98 rfl cd_L_hasPathOf_42 h2.1 rfl ?_
            refine ze_iload 1 cd_L_hasPathOf_45 rfl ?_
            refine ze_iald (j := q) cd_L_hasPathOf_47 (h2.2 1 _ rfl) rfl (by omega) (by decide) ?_
            refine ze_icmp_eq (tgt := 53) cd_L_hasPathOf_48 (by decide) (fun c19 => ?_) (fun c19 => ?_)
            · skip
              refine ze_aload_n 3 cd_L_hasPathOf_53 rfl rfl ?_
              refine ze_get zin_L (v := .ref (a + 3)) (ci := 1) rfl 3 (by decide) zm_102 rfl cd_L_hasPathOf_54 h.1 rfl ?_
              refine ze_iload 2 cd_L_hasPathOf_57 rfl ?_
              refine ze_iald (j := p) cd_L_hasPathOf_59 (h.2 2 _ rfl) rfl (by omega) (by decide) ?_
              refine ze_istore (lv' := [(4, .int (R 2 p)), (6, .int (nI sp)), (5, .int (nI q)), (0, .ref a), (1, .int i), (2, .ref b), (3, .int j)]) cd_L_hasPathOf_60 (by decide) rfl ?_
              refine ze_aload_n 5 cd_L_hasPathOf_62 rfl rfl ?_
              refine ze_get zin_L (v := .ref (b + 3)) (ci := 1) rfl 3 (by decide) zm_102 rfl cd_L_hasPathOf_63 h2.1 rfl ?_
              refine ze_iload 2 cd_L_hasPathOf_66 rfl ?_
              refine ze_iald (j := q) cd_L_hasPathOf_68 (h2.2 2 _ rfl) rfl (by omega) (by decide) ?_
              refine ze_istore (lv' := [(5, .int (Q 2 q)), (4, .int (R 2 p)), (6, .int (nI sp)), (0, .ref a), (1, .int i), (2, .ref b), (3, .int j)]) cd_L_hasPathOf_69 (by decide) rfl ?_
              refine ze_iinc (v := nI (sp + 1)) (lv' := [(6, .int (nI (sp + 1))), (5, .int (Q 2 q)), (4, .int (R 2 p)), (0, .ref a), (1, .int i), (2, .ref b), (3, .int j)]) 2 cd_L_hasPathOf_71 rfl (nI_add _ 1) (by decide) rfl ?_
              refine ze_goto (tgt := 9) cd_L_hasPathOf_74 (by decide) ?_
              exact ih (sp + 1) _ _ (by omega) (by rw [← hE]; simp only [zl_path, hp, hq]; simp [c8, hp, hq, c19])
            · skip
              refine ze_iconst (v := nI 0) cd_L_hasPathOf_51 (by decide) ?_
              refine ze_zret cd_L_hasPathOf_52 rfl (by decide) (by decide) (by decide) (zPp_mk ?_)
              rw [← hE]; first | (simp [zl_path, zb, nI_0, zn_1, c8, hp, hq, c19]; done) | (simp only [zl_path, hp, hq]; simp_all [zb, nI_0, zn_1]; done)
  refine zM_of (lv := [(0, .ref a), (1, .int i), (2, .ref b), (3, .int j)]) (ini := false) (by decide) rfl (by decide) (Nat.le_of_ble_eq_true rfl) rfl ?_
  refine ze_iload_n 1 cd_L_hasPathOf_0 rfl rfl ?_
  refine ze_istore (lv' := [(4, .int i), (0, .ref a), (1, .int i), (2, .ref b), (3, .int j)]) cd_L_hasPathOf_1 (by decide) rfl ?_
  refine ze_iload_n 4 cd_L_hasPathOf_3 rfl rfl ?_
  refine ze_istore (lv' := [(5, .int j), (4, .int i), (0, .ref a), (1, .int i), (2, .ref b), (3, .int j)]) cd_L_hasPathOf_4 (by decide) rfl ?_
  refine ze_iconst (v := nI 0) cd_L_hasPathOf_6 (by decide) ?_
  refine ze_istore (lv' := [(6, .int (nI 0)), (5, .int j), (4, .int i), (0, .ref a), (1, .int i), (2, .ref b), (3, .int j)]) cd_L_hasPathOf_7 (by decide) rfl ?_
  exact loop 9 0 i j (by omega) hX0
abbrev zr_L_firstWithPathOf : Room := { frames := 2, cells := 0, slots := 0, locals := 47 }
set_option maxRecDepth 100000 in
set_option maxHeartbeats 4000000 in
theorem kc_L_firstWithPathOf {g : zx_G} {σ : zx_M} {sz : Nat} {a n : Nat} {R : Nat → Nat → Int32} {b m : Nat} {Q : Nat → Nat → Int32} {j : Int32} (h : zl g σ a n R) (h2 : zl g σ b m Q) (hn : n ≤ 100) (hm : m ≤ 100) : zM g cy_L_firstWithPathOf cb_L_firstWithPathOf 4 (Option.some Jvm.ClassFile.FieldType.int) zr_L_firstWithPathOf 0 0 [.ref a, .ref b, .int j] σ sz (zPp (zl_fst n R m Q j) σ sz) := by
  generalize hX0 : zl_fst n R m Q j = X0
  have loop : ∀ (kk : Nat) (lo : Nat), lo + kk = n → zfind (fun x => zl_path n R m Q 9 (nI x) j) lo kk = X0 → zE g "FindingAid$Levels" cb_L_firstWithPathOf 4 (Option.some Jvm.ClassFile.FieldType.int) false zr_L_firstWithPathOf 0 0 (zPp X0 σ sz) 2 [(3, .int (nI lo)), (0, .ref a), (1, .ref b), (2, .int j)] [] σ sz 0 0 := by
    intro kk
    induction kk with
    | zero =>
      intro lo hk hE
      refine ze_iload_n 0 cd_L_firstWithPathOf_2 rfl rfl ?_
      refine ze_aload_n 1 cd_L_firstWithPathOf_3 rfl rfl ?_
      refine ze_get zin_L (v := .int (nI n)) (ci := 1) rfl 0 (by decide) zm_88 rfl cd_L_firstWithPathOf_4 h.1 rfl ?_
      refine ze_icmp_ge (tgt := 28) cd_L_firstWithPathOf_7 (by decide) (fun c2 => ?_) (fun c2 => ?_)
      · skip
        have c2 : n ≤ lo := (nI_leI (by omega) (by omega)).mp c2
        refine ze_iconst (v := (-1 : Int32)) cd_L_firstWithPathOf_28 (by decide) ?_
        refine ze_iret cd_L_firstWithPathOf_29 rfl (by decide) (by decide) (zPp_mk ?_)
        rw [← hE]; first | rfl | (simp only [zfind, c2]; simp)
      · skip
        have c2 : ¬ n ≤ lo := fun h9 => c2 ((nI_leI (by omega) (by omega)).mpr h9)
        exfalso; omega
    | succ kk ih =>
      intro lo hk hE
      refine ze_iload_n 0 cd_L_firstWithPathOf_2 rfl rfl ?_
      refine ze_aload_n 1 cd_L_firstWithPathOf_3 rfl rfl ?_
      refine ze_get zin_L (v := .int (nI n)) (ci := 1) rfl 0 (by decide) zm_88 rfl cd_L_firstWithPathOf_4 h.1 rfl ?_
      refine ze_icmp_ge (tgt := 28) cd_L_firstWithPathOf_7 (by decide) (fun c4 => ?_) (fun c4 => ?_)
      · skip
        have c4 : n ≤ lo := (nI_leI (by omega) (by omega)).mp c4
        exfalso; omega
      · skip
        have c4 : ¬ n ≤ lo := fun h9 => c4 ((nI_leI (by omega) (by omega)).mpr h9)
        refine ze_aload_n 1 cd_L_firstWithPathOf_10 rfl rfl ?_
        refine ze_iload_n 0 cd_L_firstWithPathOf_11 rfl rfl ?_
        refine ze_aload_n 2 cd_L_firstWithPathOf_12 rfl rfl ?_
        refine ze_iload_n 3 cd_L_firstWithPathOf_13 rfl rfl ?_
        refine ze_callVp (rm' := zr_L_hasPathOf) (b := a) (As := [.int (nI lo), .ref b, .int j]) (rest := []) (kc_L_hasPathOf h h2 (by omega) (by omega)) ⟨rfl, rfl⟩ zy_L_hasPathOf_ok zm_700 zm_702 zm_25 (ci := 1) rfl rfl (by decide) (by decide) cd_L_firstWithPathOf_14 h.1 rfl rfl (Nat.le_of_ble_eq_true rfl) ?_
        refine ze_if_eq (tgt := 22) cd_L_firstWithPathOf_17 (by decide) (fun c5 => ?_) (fun c5 => ?_)
        · skip
          have c5 : (zl_path n R m Q 9 (nI lo) j) = false := zb_f c5
          refine ze_iinc (v := nI (lo + 1)) (lv' := [(3, .int (nI (lo + 1))), (0, .ref a), (1, .ref b), (2, .int j)]) 0 cd_L_firstWithPathOf_22 rfl (nI_add _ 1) (by decide) rfl ?_
          refine ze_goto (tgt := 2) cd_L_firstWithPathOf_25 (by decide) ?_
          exact ih (lo + 1) (by omega) (by rw [← hE]; simp only [zfind, c4, c5]; simp)
        · skip
          have c5 : (zl_path n R m Q 9 (nI lo) j) = true := zb_t c5
          refine ze_iload_n 0 cd_L_firstWithPathOf_20 rfl rfl ?_
          refine ze_iret cd_L_firstWithPathOf_21 rfl (by decide) (by decide) (zPp_mk ?_)
          rw [← hE]; first | rfl | (simp only [zfind, c4, c5]; simp)
  refine zM_of (lv := [(0, .ref a), (1, .ref b), (2, .int j)]) (ini := false) (by decide) rfl (by decide) (Nat.le_of_ble_eq_true rfl) rfl ?_
  refine ze_iconst (v := nI 0) cd_L_firstWithPathOf_0 (by decide) ?_
  refine ze_istore_n (lv' := [(3, .int (nI 0)), (0, .ref a), (1, .ref b), (2, .int j)]) cd_L_firstWithPathOf_1 rfl (by decide) rfl ?_
  exact loop n 0 (by omega) hX0
abbrev zr_L_hasTitleOf : Room := { frames := 1, cells := 0, slots := 0, locals := 22 }
set_option maxRecDepth 100000 in
set_option maxHeartbeats 4000000 in
theorem kc_L_hasTitleOf {g : zx_G} {σ : zx_M} {sz : Nat} {a n : Nat} {R : Nat → Nat → Int32} {b m : Nat} {Q : Nat → Nat → Int32} {i j t : Nat} (h : zl g σ a n R) (h2 : zl g σ b m Q) (hi : i < 100) (hj : j < 100) (ht : R 9 i = nI t) (ht2 : t ≤ 16) : zM g cy_L_hasTitleOf cb_L_hasTitleOf 5 (Option.some Jvm.ClassFile.FieldType.boolean) zr_L_hasTitleOf 0 0 [.ref a, .int (nI i), .ref b, .int (nI j)] σ sz (zPp (zb (zl_tit R i Q j t)) σ sz) := by
  generalize hX0 : zl_tit R i Q j t = X0
  have loop : ∀ (kk : Nat) (lo : Nat), lo + kk = t → R 9 i = Q 9 j → zall (fun k => decide (R 10 (i * 16 + k) = Q 10 (j * 16 + k))) lo kk = X0 → zE g "FindingAid$Levels" cb_L_hasTitleOf 5 (Option.some Jvm.ClassFile.FieldType.boolean) false zr_L_hasTitleOf 0 0 (zPp (zb (X0)) σ sz) 20 [(4, .int (nI lo)), (0, .ref a), (1, .int (nI i)), (2, .ref b), (3, .int (nI j))] [] σ sz 0 0 := by
    intro kk
    induction kk with
    | zero =>
      intro lo hk c0 hE
      refine ze_iload 0 cd_L_hasTitleOf_20 rfl ?_
      refine ze_aload_n 1 cd_L_hasTitleOf_22 rfl rfl ?_
      refine ze_get zin_L (v := .ref (a + 10)) (ci := 1) rfl 10 (by decide) zm_133 rfl cd_L_hasTitleOf_23 h.1 rfl ?_
      refine ze_iload_n 2 cd_L_hasTitleOf_26 rfl rfl ?_
      refine ze_iald (j := i) cd_L_hasTitleOf_27 (h.2 9 _ rfl) rfl (by omega) (by decide) ?_
      refine ze_top ht ?_
      refine ze_icmp_ge (tgt := 56) cd_L_hasTitleOf_28 (by decide) (fun c2 => ?_) (fun c2 => ?_)
      · skip
        have c2 : t ≤ lo := (nI_leI (by omega) (by omega)).mp c2
        refine ze_iconst (v := nI 1) cd_L_hasTitleOf_56 (by decide) ?_
        refine ze_zret cd_L_hasTitleOf_57 rfl (by decide) (by decide) (by decide) (zPp_mk ?_)
        first | (rw [← hE]; simp [zall, zb, nI_0, zn_1, c2]; done) | (rw [← hX0, zl_tit, if_neg (by rw [ht]; exact c1)]; rfl)
      · skip
        have c2 : ¬ t ≤ lo := fun h9 => c2 ((nI_leI (by omega) (by omega)).mpr h9)
        exfalso; omega
    | succ kk ih =>
      intro lo hk c0 hE
      refine ze_iload 0 cd_L_hasTitleOf_20 rfl ?_
      refine ze_aload_n 1 cd_L_hasTitleOf_22 rfl rfl ?_
      refine ze_get zin_L (v := .ref (a + 10)) (ci := 1) rfl 10 (by decide) zm_133 rfl cd_L_hasTitleOf_23 h.1 rfl ?_
      refine ze_iload_n 2 cd_L_hasTitleOf_26 rfl rfl ?_
      refine ze_iald (j := i) cd_L_hasTitleOf_27 (h.2 9 _ rfl) rfl (by omega) (by decide) ?_
      refine ze_top ht ?_
      refine ze_icmp_ge (tgt := 56) cd_L_hasTitleOf_28 (by decide) (fun c4 => ?_) (fun c4 => ?_)
      · skip
        have c4 : t ≤ lo := (nI_leI (by omega) (by omega)).mp c4
        exfalso; omega
      · skip
        have c4 : ¬ t ≤ lo := fun h9 => c4 ((nI_leI (by omega) (by omega)).mpr h9)
        refine ze_aload_n 1 cd_L_hasTitleOf_31 rfl rfl ?_
        refine ze_iload_n 2 cd_L_hasTitleOf_32 rfl rfl ?_
        refine ze_iload 0 cd_L_hasTitleOf_33 rfl ?_
        refine ze_callVp (rm' := zr_L_titleSign) (b := a) (As := [.int (nI i), .int (nI lo)]) (rest := []) (kc_L_titleSign h (by omega) (by omega)) ⟨rfl, rfl⟩ zy_L_titleSign_ok zm_468 zm_319 zm_320 (ci := 1) rfl rfl (by decide) (by decide) cd_L_hasTitleOf_35 h.1 rfl rfl (Nat.le_of_ble_eq_true rfl) ?_
        refine ze_aload_n 3 cd_L_hasTitleOf_38 rfl rfl ?_
        refine ze_iload_n 4 cd_L_hasTitleOf_39 rfl rfl ?_
        refine ze_iload 0 cd_L_hasTitleOf_40 rfl ?_
        refine ze_callVp (rm' := zr_L_titleSign) (b := b) (As := [.int (nI j), .int (nI lo)]) (rest := [.int (R 10 (i * 16 + lo))]) (kc_L_titleSign h2 (by omega) (by omega)) ⟨rfl, rfl⟩ zy_L_titleSign_ok zm_468 zm_319 zm_320 (ci := 1) rfl rfl (by decide) (by decide) cd_L_hasTitleOf_42 h2.1 rfl rfl (Nat.le_of_ble_eq_true rfl) ?_
        refine ze_icmp_eq (tgt := 50) cd_L_hasTitleOf_45 (by decide) (fun c5 => ?_) (fun c5 => ?_)
        · skip
          refine ze_iinc (v := nI (lo + 1)) (lv' := [(4, .int (nI (lo + 1))), (0, .ref a), (1, .int (nI i)), (2, .ref b), (3, .int (nI j))]) 0 cd_L_hasTitleOf_50 rfl (nI_add _ 1) (by decide) rfl ?_
          refine ze_goto (tgt := 20) cd_L_hasTitleOf_53 (by decide) ?_
          exact ih (lo + 1) (by omega) c0 (by rw [← hE]; simp [zall, c4, c5])
        · skip
          refine ze_iconst (v := nI 0) cd_L_hasTitleOf_48 (by decide) ?_
          refine ze_zret cd_L_hasTitleOf_49 rfl (by decide) (by decide) (by decide) (zPp_mk ?_)
          first | (rw [← hE]; simp [zall, zb, nI_0, zn_1, c4, c5]; done) | (rw [← hX0, zl_tit, if_neg (by rw [ht]; exact c1)]; rfl)
  refine zM_of (lv := [(0, .ref a), (1, .int (nI i)), (2, .ref b), (3, .int (nI j))]) (ini := false) (by decide) rfl (by decide) (Nat.le_of_ble_eq_true rfl) rfl ?_
  refine ze_aload_n 0 cd_L_hasTitleOf_0 rfl rfl ?_
  refine ze_get zin_L (v := .ref (a + 10)) (ci := 1) rfl 10 (by decide) zm_133 rfl cd_L_hasTitleOf_1 h.1 rfl ?_
  refine ze_iload_n 1 cd_L_hasTitleOf_4 rfl rfl ?_
  refine ze_iald (j := i) cd_L_hasTitleOf_5 (h.2 9 _ rfl) rfl (by omega) (by decide) ?_
  refine ze_top ht ?_
  refine ze_aload_n 2 cd_L_hasTitleOf_6 rfl rfl ?_
  refine ze_get zin_L (v := .ref (b + 10)) (ci := 1) rfl 10 (by decide) zm_133 rfl cd_L_hasTitleOf_7 h2.1 rfl ?_
  refine ze_iload_n 3 cd_L_hasTitleOf_10 rfl rfl ?_
  refine ze_iald (j := j) cd_L_hasTitleOf_11 (h2.2 9 _ rfl) rfl (by omega) (by decide) ?_
  refine ze_icmp_eq (tgt := 17) cd_L_hasTitleOf_12 (by decide) (fun c1 => ?_) (fun c1 => ?_)
  · skip
    refine ze_iconst (v := nI 0) cd_L_hasTitleOf_17 (by decide) ?_
    refine ze_istore (lv' := [(4, .int (nI 0)), (0, .ref a), (1, .int (nI i)), (2, .ref b), (3, .int (nI j))]) cd_L_hasTitleOf_18 (by decide) rfl ?_
    exact loop t 0 (by omega) (by rw [ht]; exact c1) (by rw [← hX0, zl_tit, if_pos (by rw [ht]; exact c1)])
  · skip
    refine ze_iconst (v := nI 0) cd_L_hasTitleOf_15 (by decide) ?_
    refine ze_zret cd_L_hasTitleOf_16 rfl (by decide) (by decide) (by decide) (zPp_mk ?_)
    first | (rw [← hE]; simp [zall, zb, nI_0, zn_1, c1]; done) | (rw [← hX0, zl_tit, if_neg (by rw [ht]; exact c1)]; rfl)
abbrev zr_L_differenceBits : Room := { frames := 2, cells := 0, slots := 0, locals := 46 }
set_option maxRecDepth 100000 in
set_option maxHeartbeats 4000000 in
theorem kc_L_differenceBits {g : zx_G} {σ : zx_M} {sz : Nat} {a n : Nat} {R : Nat → Nat → Int32} {b m : Nat} {Q : Nat → Nat → Int32} {i j t : Nat} (h : zl g σ a n R) (h2 : zl g σ b m Q) (hi : i < 100) (hj : j < 100) (ht : R 9 i = nI t) (ht2 : t ≤ 16) : zM g cy_L_differenceBits cb_L_differenceBits 5 (Option.some Jvm.ClassFile.FieldType.int) zr_L_differenceBits 0 0 [.ref a, .int (nI i), .ref b, .int (nI j)] σ sz (zPp (nI (zl_dif R i Q j t)) σ sz) := by
  refine zM_of (lv := [(0, .ref a), (1, .int (nI i)), (2, .ref b), (3, .int (nI j))]) (ini := false) (by decide) rfl (by decide) (Nat.le_of_ble_eq_true rfl) rfl ?_
  refine ze_iconst (v := nI 0) cd_L_differenceBits_0 (by decide) ?_
  refine ze_istore (lv' := [(4, .int (nI 0)), (0, .ref a), (1, .int (nI i)), (2, .ref b), (3, .int (nI j))]) cd_L_differenceBits_1 (by decide) rfl ?_
  refine ze_aload_n 1 cd_L_differenceBits_3 rfl rfl ?_
  refine ze_iload_n 2 cd_L_differenceBits_4 rfl rfl ?_
  refine ze_aload_n 3 cd_L_differenceBits_5 rfl rfl ?_
  refine ze_iload_n 4 cd_L_differenceBits_6 rfl rfl ?_
  refine ze_callVp (rm' := zr_L_hasTitleOf) (b := a) (As := [.int (nI i), .ref b, .int (nI j)]) (rest := []) (kc_L_hasTitleOf h h2 (by omega) (by omega) ht ht2) ⟨rfl, rfl⟩ zy_L_hasTitleOf_ok zm_708 zm_710 zm_26 (ci := 1) rfl rfl (by decide) (by decide) cd_L_differenceBits_7 h.1 rfl rfl (Nat.le_of_ble_eq_true rfl) ?_
  refine ze_if_ne (tgt := 19) cd_L_differenceBits_10 (by decide) (fun c1 => ?_) (fun c1 => ?_)
  · skip
    have c1 : (zl_tit R i Q j t) = true := zb_t c1
    refine ze_aload_n 1 cd_L_differenceBits_19 rfl rfl ?_
    refine ze_get zin_L (v := .ref (a + 5)) (ci := 1) rfl 5 (by decide) zm_111 rfl cd_L_differenceBits_20 h.1 rfl ?_
    refine ze_iload_n 2 cd_L_differenceBits_23 rfl rfl ?_
    refine ze_iald (j := i) cd_L_differenceBits_24 (h.2 4 _ rfl) rfl (by omega) (by decide) ?_
    refine ze_aload_n 3 cd_L_differenceBits_25 rfl rfl ?_
    refine ze_get zin_L (v := .ref (b + 5)) (ci := 1) rfl 5 (by decide) zm_111 rfl cd_L_differenceBits_26 h2.1 rfl ?_
    refine ze_iload_n 4 cd_L_differenceBits_29 rfl rfl ?_
    refine ze_iald (j := j) cd_L_differenceBits_30 (h2.2 4 _ rfl) rfl (by omega) (by decide) ?_
    refine ze_icmp_ne (tgt := 64) cd_L_differenceBits_31 (by decide) (fun c2 => ?_) (fun c2 => ?_)
    · skip
      refine ze_iload 0 cd_L_differenceBits_64 rfl ?_
      refine ze_iconst (v := nI 2) cd_L_differenceBits_66 (by decide) ?_
      refine ze_ior cd_L_differenceBits_67 ?_
      refine ze_top (by decide : nI 0 ||| nI 2 = nI 2) ?_
      refine ze_istore (lv' := [(4, .int (nI 2)), (0, .ref a), (1, .int (nI i)), (2, .ref b), (3, .int (nI j))]) cd_L_differenceBits_68 (by decide) rfl ?_
      refine ze_aload_n 1 cd_L_differenceBits_70 rfl rfl ?_
      refine ze_get zin_L (v := .ref (a + 8)) (ci := 1) rfl 8 (by decide) zm_123 rfl cd_L_differenceBits_71 h.1 rfl ?_
      refine ze_iload_n 2 cd_L_differenceBits_74 rfl rfl ?_
      refine ze_iald (j := i) cd_L_differenceBits_75 (h.2 7 _ rfl) rfl (by omega) (by decide) ?_
      refine ze_aload_n 3 cd_L_differenceBits_76 rfl rfl ?_
      refine ze_get zin_L (v := .ref (b + 8)) (ci := 1) rfl 8 (by decide) zm_123 rfl cd_L_differenceBits_77 h2.1 rfl ?_
      refine ze_iload_n 4 cd_L_differenceBits_80 rfl rfl ?_
      refine ze_iald (j := j) cd_L_differenceBits_81 (h2.2 7 _ rfl) rfl (by omega) (by decide) ?_
      refine ze_icmp_ne (tgt := 100) cd_L_differenceBits_82 (by decide) (fun c3 => ?_) (fun c3 => ?_)
      · skip
        refine ze_iload 0 cd_L_differenceBits_100 rfl ?_
        refine ze_iconst (v := nI 4) cd_L_differenceBits_102 (by decide) ?_
        refine ze_ior cd_L_differenceBits_103 ?_
        refine ze_top (by decide : nI 2 ||| nI 4 = nI 6) ?_
        refine ze_istore (lv' := [(4, .int (nI 6)), (0, .ref a), (1, .int (nI i)), (2, .ref b), (3, .int (nI j))]) cd_L_differenceBits_104 (by decide) rfl ?_
        refine ze_iload 0 cd_L_differenceBits_106 rfl ?_
        refine ze_iret cd_L_differenceBits_108 rfl (by decide) (by decide) (zPp_mk ?_)
        simp [zl_dif, c1, c2, c3]
      · skip
        refine ze_aload_n 1 cd_L_differenceBits_85 rfl rfl ?_
        refine ze_get zin_L (v := .ref (a + 9)) (ci := 1) rfl 9 (by decide) zm_128 rfl cd_L_differenceBits_86 h.1 rfl ?_
        refine ze_iload_n 2 cd_L_differenceBits_89 rfl rfl ?_
        refine ze_iald (j := i) cd_L_differenceBits_90 (h.2 8 _ rfl) rfl (by omega) (by decide) ?_
        refine ze_aload_n 3 cd_L_differenceBits_91 rfl rfl ?_
        refine ze_get zin_L (v := .ref (b + 9)) (ci := 1) rfl 9 (by decide) zm_128 rfl cd_L_differenceBits_92 h2.1 rfl ?_
        refine ze_iload_n 4 cd_L_differenceBits_95 rfl rfl ?_
        refine ze_iald (j := j) cd_L_differenceBits_96 (h2.2 8 _ rfl) rfl (by omega) (by decide) ?_
        refine ze_icmp_eq (tgt := 106) cd_L_differenceBits_97 (by decide) (fun c4 => ?_) (fun c4 => ?_)
        · skip
          refine ze_iload 0 cd_L_differenceBits_106 rfl ?_
          refine ze_iret cd_L_differenceBits_108 rfl (by decide) (by decide) (zPp_mk ?_)
          simp [zl_dif, c1, c2, c3, c4]
        · skip
          refine ze_iload 0 cd_L_differenceBits_100 rfl ?_
          refine ze_iconst (v := nI 4) cd_L_differenceBits_102 (by decide) ?_
          refine ze_ior cd_L_differenceBits_103 ?_
          refine ze_top (by decide : nI 2 ||| nI 4 = nI 6) ?_
          refine ze_istore (lv' := [(4, .int (nI 6)), (0, .ref a), (1, .int (nI i)), (2, .ref b), (3, .int (nI j))]) cd_L_differenceBits_104 (by decide) rfl ?_
          refine ze_iload 0 cd_L_differenceBits_106 rfl ?_
          refine ze_iret cd_L_differenceBits_108 rfl (by decide) (by decide) (zPp_mk ?_)
          simp [zl_dif, c1, c2, c3, c4]
    · skip
      refine ze_aload_n 1 cd_L_differenceBits_34 rfl rfl ?_
      refine ze_get zin_L (v := .ref (a + 6)) (ci := 1) rfl 6 (by decide) zm_115 rfl cd_L_differenceBits_35 h.1 rfl ?_
      refine ze_iload_n 2 cd_L_differenceBits_38 rfl rfl ?_
      refine ze_iald (j := i) cd_L_differenceBits_39 (h.2 5 _ rfl) rfl (by omega) (by decide) ?_
      refine ze_aload_n 3 cd_L_differenceBits_40 rfl rfl ?_
      refine ze_get zin_L (v := .ref (b + 6)) (ci := 1) rfl 6 (by decide) zm_115 rfl cd_L_differenceBits_41 h2.1 rfl ?_
      refine ze_iload_n 4 cd_L_differenceBits_44 rfl rfl ?_
      refine ze_iald (j := j) cd_L_differenceBits_45 (h2.2 5 _ rfl) rfl (by omega) (by decide) ?_
      refine ze_icmp_ne (tgt := 64) cd_L_differenceBits_46 (by decide) (fun c5 => ?_) (fun c5 => ?_)
      · skip
        refine ze_iload 0 cd_L_differenceBits_64 rfl ?_
        refine ze_iconst (v := nI 2) cd_L_differenceBits_66 (by decide) ?_
        refine ze_ior cd_L_differenceBits_67 ?_
        refine ze_top (by decide : nI 0 ||| nI 2 = nI 2) ?_
        refine ze_istore (lv' := [(4, .int (nI 2)), (0, .ref a), (1, .int (nI i)), (2, .ref b), (3, .int (nI j))]) cd_L_differenceBits_68 (by decide) rfl ?_
        refine ze_aload_n 1 cd_L_differenceBits_70 rfl rfl ?_
        refine ze_get zin_L (v := .ref (a + 8)) (ci := 1) rfl 8 (by decide) zm_123 rfl cd_L_differenceBits_71 h.1 rfl ?_
        refine ze_iload_n 2 cd_L_differenceBits_74 rfl rfl ?_
        refine ze_iald (j := i) cd_L_differenceBits_75 (h.2 7 _ rfl) rfl (by omega) (by decide) ?_
        refine ze_aload_n 3 cd_L_differenceBits_76 rfl rfl ?_
        refine ze_get zin_L (v := .ref (b + 8)) (ci := 1) rfl 8 (by decide) zm_123 rfl cd_L_differenceBits_77 h2.1 rfl ?_
        refine ze_iload_n 4 cd_L_differenceBits_80 rfl rfl ?_
        refine ze_iald (j := j) cd_L_differenceBits_81 (h2.2 7 _ rfl) rfl (by omega) (by decide) ?_
        refine ze_icmp_ne (tgt := 100) cd_L_differenceBits_82 (by decide) (fun c6 => ?_) (fun c6 => ?_)
        · skip
          refine ze_iload 0 cd_L_differenceBits_100 rfl ?_
          refine ze_iconst (v := nI 4) cd_L_differenceBits_102 (by decide) ?_
          refine ze_ior cd_L_differenceBits_103 ?_
          refine ze_top (by decide : nI 2 ||| nI 4 = nI 6) ?_
          refine ze_istore (lv' := [(4, .int (nI 6)), (0, .ref a), (1, .int (nI i)), (2, .ref b), (3, .int (nI j))]) cd_L_differenceBits_104 (by decide) rfl ?_
          refine ze_iload 0 cd_L_differenceBits_106 rfl ?_
          refine ze_iret cd_L_differenceBits_108 rfl (by decide) (by decide) (zPp_mk ?_)
          simp [zl_dif, c1, c2, c5, c6]
        · skip
          refine ze_aload_n 1 cd_L_differenceBits_85 rfl rfl ?_
          refine ze_get zin_L (v := .ref (a + 9)) (ci := 1) rfl 9 (by decide) zm_128 rfl cd_L_differenceBits_86 h.1 rfl ?_
          refine ze_iload_n 2 cd_L_differenceBits_89 rfl rfl ?_
          refine ze_iald (j := i) cd_L_differenceBits_90 (h.2 8 _ rfl) rfl (by omega) (by decide) ?_
          refine ze_aload_n 3 cd_L_differenceBits_91 rfl rfl ?_
          refine ze_get zin_L (v := .ref (b + 9)) (ci := 1) rfl 9 (by decide) zm_128 rfl cd_L_differenceBits_92 h2.1 rfl ?_
          refine ze_iload_n 4 cd_L_differenceBits_95 rfl rfl ?_
          refine ze_iald (j := j) cd_L_differenceBits_96 (h2.2 8 _ rfl) rfl (by omega) (by decide) ?_
          refine ze_icmp_eq (tgt := 106) cd_L_differenceBits_97 (by decide) (fun c7 => ?_) (fun c7 => ?_)
          · skip
            refine ze_iload 0 cd_L_differenceBits_106 rfl ?_
            refine ze_iret cd_L_differenceBits_108 rfl (by decide) (by decide) (zPp_mk ?_)
            simp [zl_dif, c1, c2, c5, c6, c7]
          · skip
            refine ze_iload 0 cd_L_differenceBits_100 rfl ?_
            refine ze_iconst (v := nI 4) cd_L_differenceBits_102 (by decide) ?_
            refine ze_ior cd_L_differenceBits_103 ?_
            refine ze_top (by decide : nI 2 ||| nI 4 = nI 6) ?_
            refine ze_istore (lv' := [(4, .int (nI 6)), (0, .ref a), (1, .int (nI i)), (2, .ref b), (3, .int (nI j))]) cd_L_differenceBits_104 (by decide) rfl ?_
            refine ze_iload 0 cd_L_differenceBits_106 rfl ?_
            refine ze_iret cd_L_differenceBits_108 rfl (by decide) (by decide) (zPp_mk ?_)
            simp [zl_dif, c1, c2, c5, c6, c7]
      · skip
        refine ze_aload_n 1 cd_L_differenceBits_49 rfl rfl ?_
        refine ze_get zin_L (v := .ref (a + 7)) (ci := 1) rfl 7 (by decide) zm_119 rfl cd_L_differenceBits_50 h.1 rfl ?_
        refine ze_iload_n 2 cd_L_differenceBits_53 rfl rfl ?_
        refine ze_iald (j := i) cd_L_differenceBits_54 (h.2 6 _ rfl) rfl (by omega) (by decide) ?_
        refine ze_aload_n 3 cd_L_differenceBits_55 rfl rfl ?_
        refine ze_get zin_L (v := .ref (b + 7)) (ci := 1) rfl 7 (by decide) zm_119 rfl cd_L_differenceBits_56 h2.1 rfl ?_
        refine ze_iload_n 4 cd_L_differenceBits_59 rfl rfl ?_
        refine ze_iald (j := j) cd_L_differenceBits_60 (h2.2 6 _ rfl) rfl (by omega) (by decide) ?_
        refine ze_icmp_eq (tgt := 70) cd_L_differenceBits_61 (by decide) (fun c8 => ?_) (fun c8 => ?_)
        · skip
          refine ze_aload_n 1 cd_L_differenceBits_70 rfl rfl ?_
          refine ze_get zin_L (v := .ref (a + 8)) (ci := 1) rfl 8 (by decide) zm_123 rfl cd_L_differenceBits_71 h.1 rfl ?_
          refine ze_iload_n 2 cd_L_differenceBits_74 rfl rfl ?_
          refine ze_iald (j := i) cd_L_differenceBits_75 (h.2 7 _ rfl) rfl (by omega) (by decide) ?_
          refine ze_aload_n 3 cd_L_differenceBits_76 rfl rfl ?_
          refine ze_get zin_L (v := .ref (b + 8)) (ci := 1) rfl 8 (by decide) zm_123 rfl cd_L_differenceBits_77 h2.1 rfl ?_
          refine ze_iload_n 4 cd_L_differenceBits_80 rfl rfl ?_
          refine ze_iald (j := j) cd_L_differenceBits_81 (h2.2 7 _ rfl) rfl (by omega) (by decide) ?_
          refine ze_icmp_ne (tgt := 100) cd_L_differenceBits_82 (by decide) (fun c9 => ?_) (fun c9 => ?_)
          · skip
            refine ze_iload 0 cd_L_differenceBits_100 rfl ?_
            refine ze_iconst (v := nI 4) cd_L_differenceBits_102 (by decide) ?_
            refine ze_ior cd_L_differenceBits_103 ?_
            refine ze_top (by decide : nI 0 ||| nI 4 = nI 4) ?_
            refine ze_istore (lv' := [(4, .int (nI 4)), (0, .ref a), (1, .int (nI i)), (2, .ref b), (3, .int (nI j))]) cd_L_differenceBits_104 (by decide) rfl ?_
            refine ze_iload 0 cd_L_differenceBits_106 rfl ?_
            refine ze_iret cd_L_differenceBits_108 rfl (by decide) (by decide) (zPp_mk ?_)
            simp [zl_dif, c1, c2, c5, c8, c9]
          · skip
            refine ze_aload_n 1 cd_L_differenceBits_85 rfl rfl ?_
            refine ze_get zin_L (v := .ref (a + 9)) (ci := 1) rfl 9 (by decide) zm_128 rfl cd_L_differenceBits_86 h.1 rfl ?_
            refine ze_iload_n 2 cd_L_differenceBits_89 rfl rfl ?_
            refine ze_iald (j := i) cd_L_differenceBits_90 (h.2 8 _ rfl) rfl (by omega) (by decide) ?_
            refine ze_aload_n 3 cd_L_differenceBits_91 rfl rfl ?_
            refine ze_get zin_L (v := .ref (b + 9)) (ci := 1) rfl 9 (by decide) zm_128 rfl cd_L_differenceBits_92 h2.1 rfl ?_
            refine ze_iload_n 4 cd_L_differenceBits_95 rfl rfl ?_
            refine ze_iald (j := j) cd_L_differenceBits_96 (h2.2 8 _ rfl) rfl (by omega) (by decide) ?_
            refine ze_icmp_eq (tgt := 106) cd_L_differenceBits_97 (by decide) (fun c10 => ?_) (fun c10 => ?_)
            · skip
              refine ze_iload 0 cd_L_differenceBits_106 rfl ?_
              refine ze_iret cd_L_differenceBits_108 rfl (by decide) (by decide) (zPp_mk ?_)
              simp [zl_dif, c1, c2, c5, c8, c9, c10]
            · skip
              refine ze_iload 0 cd_L_differenceBits_100 rfl ?_
              refine ze_iconst (v := nI 4) cd_L_differenceBits_102 (by decide) ?_
              refine ze_ior cd_L_differenceBits_103 ?_
              refine ze_top (by decide : nI 0 ||| nI 4 = nI 4) ?_
              refine ze_istore (lv' := [(4, .int (nI 4)), (0, .ref a), (1, .int (nI i)), (2, .ref b), (3, .int (nI j))]) cd_L_differenceBits_104 (by decide) rfl ?_
              refine ze_iload 0 cd_L_differenceBits_106 rfl ?_
              refine ze_iret cd_L_differenceBits_108 rfl (by decide) (by decide) (zPp_mk ?_)
              simp [zl_dif, c1, c2, c5, c8, c9, c10]
        · skip
          refine ze_iload 0 cd_L_differenceBits_64 rfl ?_
          refine ze_iconst (v := nI 2) cd_L_differenceBits_66 (by decide) ?_
          refine ze_ior cd_L_differenceBits_67 ?_
          refine ze_top (by decide : nI 0 ||| nI 2 = nI 2) ?_
          refine ze_istore (lv' := [(4, .int (nI 2)), (0, .ref a), (1, .int (nI i)), (2, .ref b), (3, .int (nI j))]) cd_L_differenceBits_68 (by decide) rfl ?_
          refine ze_aload_n 1 cd_L_differenceBits_70 rfl rfl ?_
          refine ze_get zin_L (v := .ref (a + 8)) (ci := 1) rfl 8 (by decide) zm_123 rfl cd_L_differenceBits_71 h.1 rfl ?_
          refine ze_iload_n 2 cd_L_differenceBits_74 rfl rfl ?_
          refine ze_iald (j := i) cd_L_differenceBits_75 (h.2 7 _ rfl) rfl (by omega) (by decide) ?_
          refine ze_aload_n 3 cd_L_differenceBits_76 rfl rfl ?_
          refine ze_get zin_L (v := .ref (b + 8)) (ci := 1) rfl 8 (by decide) zm_123 rfl cd_L_differenceBits_77 h2.1 rfl ?_
          refine ze_iload_n 4 cd_L_differenceBits_80 rfl rfl ?_
          refine ze_iald (j := j) cd_L_differenceBits_81 (h2.2 7 _ rfl) rfl (by omega) (by decide) ?_
          refine ze_icmp_ne (tgt := 100) cd_L_differenceBits_82 (by decide) (fun c11 => ?_) (fun c11 => ?_)
          · skip
            refine ze_iload 0 cd_L_differenceBits_100 rfl ?_
            refine ze_iconst (v := nI 4) cd_L_differenceBits_102 (by decide) ?_
            refine ze_ior cd_L_differenceBits_103 ?_
            refine ze_top (by decide : nI 2 ||| nI 4 = nI 6) ?_
            refine ze_istore (lv' := [(4, .int (nI 6)), (0, .ref a), (1, .int (nI i)), (2, .ref b), (3, .int (nI j))]) cd_L_differenceBits_104 (by decide) rfl ?_
            refine ze_iload 0 cd_L_differenceBits_106 rfl ?_
            refine ze_iret cd_L_differenceBits_108 rfl (by decide) (by decide) (zPp_mk ?_)
            simp [zl_dif, c1, c2, c5, c8, c11]
          · skip
            refine ze_aload_n 1 cd_L_differenceBits_85 rfl rfl ?_
            refine ze_get zin_L (v := .ref (a + 9)) (ci := 1) rfl 9 (by decide) zm_128 rfl cd_L_differenceBits_86 h.1 rfl ?_
            refine ze_iload_n 2 cd_L_differenceBits_89 rfl rfl ?_
            refine ze_iald (j := i) cd_L_differenceBits_90 (h.2 8 _ rfl) rfl (by omega) (by decide) ?_
            refine ze_aload_n 3 cd_L_differenceBits_91 rfl rfl ?_
            refine ze_get zin_L (v := .ref (b + 9)) (ci := 1) rfl 9 (by decide) zm_128 rfl cd_L_differenceBits_92 h2.1 rfl ?_
            refine ze_iload_n 4 cd_L_differenceBits_95 rfl rfl ?_
            refine ze_iald (j := j) cd_L_differenceBits_96 (h2.2 8 _ rfl) rfl (by omega) (by decide) ?_
            refine ze_icmp_eq (tgt := 106) cd_L_differenceBits_97 (by decide) (fun c12 => ?_) (fun c12 => ?_)
            · skip
              refine ze_iload 0 cd_L_differenceBits_106 rfl ?_
              refine ze_iret cd_L_differenceBits_108 rfl (by decide) (by decide) (zPp_mk ?_)
              simp [zl_dif, c1, c2, c5, c8, c11, c12]
            · skip
              refine ze_iload 0 cd_L_differenceBits_100 rfl ?_
              refine ze_iconst (v := nI 4) cd_L_differenceBits_102 (by decide) ?_
              refine ze_ior cd_L_differenceBits_103 ?_
              refine ze_top (by decide : nI 2 ||| nI 4 = nI 6) ?_
              refine ze_istore (lv' := [(4, .int (nI 6)), (0, .ref a), (1, .int (nI i)), (2, .ref b), (3, .int (nI j))]) cd_L_differenceBits_104 (by decide) rfl ?_
              refine ze_iload 0 cd_L_differenceBits_106 rfl ?_
              refine ze_iret cd_L_differenceBits_108 rfl (by decide) (by decide) (zPp_mk ?_)
              simp [zl_dif, c1, c2, c5, c8, c11, c12]
  · skip
    have c1 : (zl_tit R i Q j t) = false := zb_f c1
    refine ze_iload 0 cd_L_differenceBits_13 rfl ?_
    refine ze_iconst (v := nI 1) cd_L_differenceBits_15 (by decide) ?_
    refine ze_ior cd_L_differenceBits_16 ?_
    refine ze_top (by decide : nI 0 ||| nI 1 = nI 1) ?_
    refine ze_istore (lv' := [(4, .int (nI 1)), (0, .ref a), (1, .int (nI i)), (2, .ref b), (3, .int (nI j))]) cd_L_differenceBits_17 (by decide) rfl ?_
    refine ze_aload_n 1 cd_L_differenceBits_19 rfl rfl ?_
    refine ze_get zin_L (v := .ref (a + 5)) (ci := 1) rfl 5 (by decide) zm_111 rfl cd_L_differenceBits_20 h.1 rfl ?_
    refine ze_iload_n 2 cd_L_differenceBits_23 rfl rfl ?_
    refine ze_iald (j := i) cd_L_differenceBits_24 (h.2 4 _ rfl) rfl (by omega) (by decide) ?_
    refine ze_aload_n 3 cd_L_differenceBits_25 rfl rfl ?_
    refine ze_get zin_L (v := .ref (b + 5)) (ci := 1) rfl 5 (by decide) zm_111 rfl cd_L_differenceBits_26 h2.1 rfl ?_
    refine ze_iload_n 4 cd_L_differenceBits_29 rfl rfl ?_
    refine ze_iald (j := j) cd_L_differenceBits_30 (h2.2 4 _ rfl) rfl (by omega) (by decide) ?_
    refine ze_icmp_ne (tgt := 64) cd_L_differenceBits_31 (by decide) (fun c13 => ?_) (fun c13 => ?_)
    · skip
      refine ze_iload 0 cd_L_differenceBits_64 rfl ?_
      refine ze_iconst (v := nI 2) cd_L_differenceBits_66 (by decide) ?_
      refine ze_ior cd_L_differenceBits_67 ?_
      refine ze_top (by decide : nI 1 ||| nI 2 = nI 3) ?_
      refine ze_istore (lv' := [(4, .int (nI 3)), (0, .ref a), (1, .int (nI i)), (2, .ref b), (3, .int (nI j))]) cd_L_differenceBits_68 (by decide) rfl ?_
      refine ze_aload_n 1 cd_L_differenceBits_70 rfl rfl ?_
      refine ze_get zin_L (v := .ref (a + 8)) (ci := 1) rfl 8 (by decide) zm_123 rfl cd_L_differenceBits_71 h.1 rfl ?_
      refine ze_iload_n 2 cd_L_differenceBits_74 rfl rfl ?_
      refine ze_iald (j := i) cd_L_differenceBits_75 (h.2 7 _ rfl) rfl (by omega) (by decide) ?_
      refine ze_aload_n 3 cd_L_differenceBits_76 rfl rfl ?_
      refine ze_get zin_L (v := .ref (b + 8)) (ci := 1) rfl 8 (by decide) zm_123 rfl cd_L_differenceBits_77 h2.1 rfl ?_
      refine ze_iload_n 4 cd_L_differenceBits_80 rfl rfl ?_
      refine ze_iald (j := j) cd_L_differenceBits_81 (h2.2 7 _ rfl) rfl (by omega) (by decide) ?_
      refine ze_icmp_ne (tgt := 100) cd_L_differenceBits_82 (by decide) (fun c14 => ?_) (fun c14 => ?_)
      · skip
        refine ze_iload 0 cd_L_differenceBits_100 rfl ?_
        refine ze_iconst (v := nI 4) cd_L_differenceBits_102 (by decide) ?_
        refine ze_ior cd_L_differenceBits_103 ?_
        refine ze_top (by decide : nI 3 ||| nI 4 = nI 7) ?_
        refine ze_istore (lv' := [(4, .int (nI 7)), (0, .ref a), (1, .int (nI i)), (2, .ref b), (3, .int (nI j))]) cd_L_differenceBits_104 (by decide) rfl ?_
        refine ze_iload 0 cd_L_differenceBits_106 rfl ?_
        refine ze_iret cd_L_differenceBits_108 rfl (by decide) (by decide) (zPp_mk ?_)
        simp [zl_dif, c1, c13, c14]
      · skip
        refine ze_aload_n 1 cd_L_differenceBits_85 rfl rfl ?_
        refine ze_get zin_L (v := .ref (a + 9)) (ci := 1) rfl 9 (by decide) zm_128 rfl cd_L_differenceBits_86 h.1 rfl ?_
        refine ze_iload_n 2 cd_L_differenceBits_89 rfl rfl ?_
        refine ze_iald (j := i) cd_L_differenceBits_90 (h.2 8 _ rfl) rfl (by omega) (by decide) ?_
        refine ze_aload_n 3 cd_L_differenceBits_91 rfl rfl ?_
        refine ze_get zin_L (v := .ref (b + 9)) (ci := 1) rfl 9 (by decide) zm_128 rfl cd_L_differenceBits_92 h2.1 rfl ?_
        refine ze_iload_n 4 cd_L_differenceBits_95 rfl rfl ?_
        refine ze_iald (j := j) cd_L_differenceBits_96 (h2.2 8 _ rfl) rfl (by omega) (by decide) ?_
        refine ze_icmp_eq (tgt := 106) cd_L_differenceBits_97 (by decide) (fun c15 => ?_) (fun c15 => ?_)
        · skip
          refine ze_iload 0 cd_L_differenceBits_106 rfl ?_
          refine ze_iret cd_L_differenceBits_108 rfl (by decide) (by decide) (zPp_mk ?_)
          simp [zl_dif, c1, c13, c14, c15]
        · skip
          refine ze_iload 0 cd_L_differenceBits_100 rfl ?_
          refine ze_iconst (v := nI 4) cd_L_differenceBits_102 (by decide) ?_
          refine ze_ior cd_L_differenceBits_103 ?_
          refine ze_top (by decide : nI 3 ||| nI 4 = nI 7) ?_
          refine ze_istore (lv' := [(4, .int (nI 7)), (0, .ref a), (1, .int (nI i)), (2, .ref b), (3, .int (nI j))]) cd_L_differenceBits_104 (by decide) rfl ?_
          refine ze_iload 0 cd_L_differenceBits_106 rfl ?_
          refine ze_iret cd_L_differenceBits_108 rfl (by decide) (by decide) (zPp_mk ?_)
          simp [zl_dif, c1, c13, c14, c15]
    · skip
      refine ze_aload_n 1 cd_L_differenceBits_34 rfl rfl ?_
      refine ze_get zin_L (v := .ref (a + 6)) (ci := 1) rfl 6 (by decide) zm_115 rfl cd_L_differenceBits_35 h.1 rfl ?_
      refine ze_iload_n 2 cd_L_differenceBits_38 rfl rfl ?_
      refine ze_iald (j := i) cd_L_differenceBits_39 (h.2 5 _ rfl) rfl (by omega) (by decide) ?_
      refine ze_aload_n 3 cd_L_differenceBits_40 rfl rfl ?_
      refine ze_get zin_L (v := .ref (b + 6)) (ci := 1) rfl 6 (by decide) zm_115 rfl cd_L_differenceBits_41 h2.1 rfl ?_
      refine ze_iload_n 4 cd_L_differenceBits_44 rfl rfl ?_
      refine ze_iald (j := j) cd_L_differenceBits_45 (h2.2 5 _ rfl) rfl (by omega) (by decide) ?_
      refine ze_icmp_ne (tgt := 64) cd_L_differenceBits_46 (by decide) (fun c16 => ?_) (fun c16 => ?_)
      · skip
        refine ze_iload 0 cd_L_differenceBits_64 rfl ?_
        refine ze_iconst (v := nI 2) cd_L_differenceBits_66 (by decide) ?_
        refine ze_ior cd_L_differenceBits_67 ?_
        refine ze_top (by decide : nI 1 ||| nI 2 = nI 3) ?_
        refine ze_istore (lv' := [(4, .int (nI 3)), (0, .ref a), (1, .int (nI i)), (2, .ref b), (3, .int (nI j))]) cd_L_differenceBits_68 (by decide) rfl ?_
        refine ze_aload_n 1 cd_L_differenceBits_70 rfl rfl ?_
        refine ze_get zin_L (v := .ref (a + 8)) (ci := 1) rfl 8 (by decide) zm_123 rfl cd_L_differenceBits_71 h.1 rfl ?_
        refine ze_iload_n 2 cd_L_differenceBits_74 rfl rfl ?_
        refine ze_iald (j := i) cd_L_differenceBits_75 (h.2 7 _ rfl) rfl (by omega) (by decide) ?_
        refine ze_aload_n 3 cd_L_differenceBits_76 rfl rfl ?_
        refine ze_get zin_L (v := .ref (b + 8)) (ci := 1) rfl 8 (by decide) zm_123 rfl cd_L_differenceBits_77 h2.1 rfl ?_
        refine ze_iload_n 4 cd_L_differenceBits_80 rfl rfl ?_
        refine ze_iald (j := j) cd_L_differenceBits_81 (h2.2 7 _ rfl) rfl (by omega) (by decide) ?_
        refine ze_icmp_ne (tgt := 100) cd_L_differenceBits_82 (by decide) (fun c17 => ?_) (fun c17 => ?_)
        · skip
          refine ze_iload 0 cd_L_differenceBits_100 rfl ?_
          refine ze_iconst (v := nI 4) cd_L_differenceBits_102 (by decide) ?_
          refine ze_ior cd_L_differenceBits_103 ?_
          refine ze_top (by decide : nI 3 ||| nI 4 = nI 7) ?_
          refine ze_istore (lv' := [(4, .int (nI 7)), (0, .ref a), (1, .int (nI i)), (2, .ref b), (3, .int (nI j))]) cd_L_differenceBits_104 (by decide) rfl ?_
          refine ze_iload 0 cd_L_differenceBits_106 rfl ?_
          refine ze_iret cd_L_differenceBits_108 rfl (by decide) (by decide) (zPp_mk ?_)
          simp [zl_dif, c1, c13, c16, c17]
        · skip
          refine ze_aload_n 1 cd_L_differenceBits_85 rfl rfl ?_
          refine ze_get zin_L (v := .ref (a + 9)) (ci := 1) rfl 9 (by decide) zm_128 rfl cd_L_differenceBits_86 h.1 rfl ?_
          refine ze_iload_n 2 cd_L_differenceBits_89 rfl rfl ?_
          refine ze_iald (j := i) cd_L_differenceBits_90 (h.2 8 _ rfl) rfl (by omega) (by decide) ?_
          refine ze_aload_n 3 cd_L_differenceBits_91 rfl rfl ?_
          refine ze_get zin_L (v := .ref (b + 9)) (ci := 1) rfl 9 (by decide) zm_128 rfl cd_L_differenceBits_92 h2.1 rfl ?_
          refine ze_iload_n 4 cd_L_differenceBits_95 rfl rfl ?_
          refine ze_iald (j := j) cd_L_differenceBits_96 (h2.2 8 _ rfl) rfl (by omega) (by decide) ?_
          refine ze_icmp_eq (tgt := 106) cd_L_differenceBits_97 (by decide) (fun c18 => ?_) (fun c18 => ?_)
          · skip
            refine ze_iload 0 cd_L_differenceBits_106 rfl ?_
            refine ze_iret cd_L_differenceBits_108 rfl (by decide) (by decide) (zPp_mk ?_)
            simp [zl_dif, c1, c13, c16, c17, c18]
          · skip
            refine ze_iload 0 cd_L_differenceBits_100 rfl ?_
            refine ze_iconst (v := nI 4) cd_L_differenceBits_102 (by decide) ?_
            refine ze_ior cd_L_differenceBits_103 ?_
            refine ze_top (by decide : nI 3 ||| nI 4 = nI 7) ?_
            refine ze_istore (lv' := [(4, .int (nI 7)), (0, .ref a), (1, .int (nI i)), (2, .ref b), (3, .int (nI j))]) cd_L_differenceBits_104 (by decide) rfl ?_
            refine ze_iload 0 cd_L_differenceBits_106 rfl ?_
            refine ze_iret cd_L_differenceBits_108 rfl (by decide) (by decide) (zPp_mk ?_)
            simp [zl_dif, c1, c13, c16, c17, c18]
      · skip
        refine ze_aload_n 1 cd_L_differenceBits_49 rfl rfl ?_
        refine ze_get zin_L (v := .ref (a + 7)) (ci := 1) rfl 7 (by decide) zm_119 rfl cd_L_differenceBits_50 h.1 rfl ?_
        refine ze_iload_n 2 cd_L_differenceBits_53 rfl rfl ?_
        refine ze_iald (j := i) cd_L_differenceBits_54 (h.2 6 _ rfl) rfl (by omega) (by decide) ?_
        refine ze_aload_n 3 cd_L_differenceBits_55 rfl rfl ?_
        refine ze_get zin_L (v := .ref (b + 7)) (ci := 1) rfl 7 (by decide) zm_119 rfl cd_L_differenceBits_56 h2.1 rfl ?_
        refine ze_iload_n 4 cd_L_differenceBits_59 rfl rfl ?_
        refine ze_iald (j := j) cd_L_differenceBits_60 (h2.2 6 _ rfl) rfl (by omega) (by decide) ?_
        refine ze_icmp_eq (tgt := 70) cd_L_differenceBits_61 (by decide) (fun c19 => ?_) (fun c19 => ?_)
        · skip
          refine ze_aload_n 1 cd_L_differenceBits_70 rfl rfl ?_
          refine ze_get zin_L (v := .ref (a + 8)) (ci := 1) rfl 8 (by decide) zm_123 rfl cd_L_differenceBits_71 h.1 rfl ?_
          refine ze_iload_n 2 cd_L_differenceBits_74 rfl rfl ?_
          refine ze_iald (j := i) cd_L_differenceBits_75 (h.2 7 _ rfl) rfl (by omega) (by decide) ?_
          refine ze_aload_n 3 cd_L_differenceBits_76 rfl rfl ?_
          refine ze_get zin_L (v := .ref (b + 8)) (ci := 1) rfl 8 (by decide) zm_123 rfl cd_L_differenceBits_77 h2.1 rfl ?_
          refine ze_iload_n 4 cd_L_differenceBits_80 rfl rfl ?_
          refine ze_iald (j := j) cd_L_differenceBits_81 (h2.2 7 _ rfl) rfl (by omega) (by decide) ?_
          refine ze_icmp_ne (tgt := 100) cd_L_differenceBits_82 (by decide) (fun c20 => ?_) (fun c20 => ?_)
          · skip
            refine ze_iload 0 cd_L_differenceBits_100 rfl ?_
            refine ze_iconst (v := nI 4) cd_L_differenceBits_102 (by decide) ?_
            refine ze_ior cd_L_differenceBits_103 ?_
            refine ze_top (by decide : nI 1 ||| nI 4 = nI 5) ?_
            refine ze_istore (lv' := [(4, .int (nI 5)), (0, .ref a), (1, .int (nI i)), (2, .ref b), (3, .int (nI j))]) cd_L_differenceBits_104 (by decide) rfl ?_
            refine ze_iload 0 cd_L_differenceBits_106 rfl ?_
            refine ze_iret cd_L_differenceBits_108 rfl (by decide) (by decide) (zPp_mk ?_)
            simp [zl_dif, c1, c13, c16, c19, c20]
          · skip
            refine ze_aload_n 1 cd_L_differenceBits_85 rfl rfl ?_
            refine ze_get zin_L (v := .ref (a + 9)) (ci := 1) rfl 9 (by decide) zm_128 rfl cd_L_differenceBits_86 h.1 rfl ?_
            refine ze_iload_n 2 cd_L_differenceBits_89 rfl rfl ?_
            refine ze_iald (j := i) cd_L_differenceBits_90 (h.2 8 _ rfl) rfl (by omega) (by decide) ?_
            refine ze_aload_n 3 cd_L_differenceBits_91 rfl rfl ?_
            refine ze_get zin_L (v := .ref (b + 9)) (ci := 1) rfl 9 (by decide) zm_128 rfl cd_L_differenceBits_92 h2.1 rfl ?_
            refine ze_iload_n 4 cd_L_differenceBits_95 rfl rfl ?_
            refine ze_iald (j := j) cd_L_differenceBits_96 (h2.2 8 _ rfl) rfl (by omega) (by decide) ?_
            refine ze_icmp_eq (tgt := 106) cd_L_differenceBits_97 (by decide) (fun c21 => ?_) (fun c21 => ?_)
            · skip
              refine ze_iload 0 cd_L_differenceBits_106 rfl ?_
              refine ze_iret cd_L_differenceBits_108 rfl (by decide) (by decide) (zPp_mk ?_)
              simp [zl_dif, c1, c13, c16, c19, c20, c21]
            · skip
              refine ze_iload 0 cd_L_differenceBits_100 rfl ?_
              refine ze_iconst (v := nI 4) cd_L_differenceBits_102 (by decide) ?_
              refine ze_ior cd_L_differenceBits_103 ?_
              refine ze_top (by decide : nI 1 ||| nI 4 = nI 5) ?_
              refine ze_istore (lv' := [(4, .int (nI 5)), (0, .ref a), (1, .int (nI i)), (2, .ref b), (3, .int (nI j))]) cd_L_differenceBits_104 (by decide) rfl ?_
              refine ze_iload 0 cd_L_differenceBits_106 rfl ?_
              refine ze_iret cd_L_differenceBits_108 rfl (by decide) (by decide) (zPp_mk ?_)
              simp [zl_dif, c1, c13, c16, c19, c20, c21]
        · skip
          refine ze_iload 0 cd_L_differenceBits_64 rfl ?_
          refine ze_iconst (v := nI 2) cd_L_differenceBits_66 (by decide) ?_
          refine ze_ior cd_L_differenceBits_67 ?_
          refine ze_top (by decide : nI 1 ||| nI 2 = nI 3) ?_
          refine ze_istore (lv' := [(4, .int (nI 3)), (0, .ref a), (1, .int (nI i)), (2, .ref b), (3, .int (nI j))]) cd_L_differenceBits_68 (by decide) rfl ?_
          refine ze_aload_n 1 cd_L_differenceBits_70 rfl rfl ?_
          refine ze_get zin_L (v := .ref (a + 8)) (ci := 1) rfl 8 (by decide) zm_123 rfl cd_L_differenceBits_71 h.1 rfl ?_
          refine ze_iload_n 2 cd_L_differenceBits_74 rfl rfl ?_
          refine ze_iald (j := i) cd_L_differenceBits_75 (h.2 7 _ rfl) rfl (by omega) (by decide) ?_
          refine ze_aload_n 3 cd_L_differenceBits_76 rfl rfl ?_
          refine ze_get zin_L (v := .ref (b + 8)) (ci := 1) rfl 8 (by decide) zm_123 rfl cd_L_differenceBits_77 h2.1 rfl ?_
          refine ze_iload_n 4 cd_L_differenceBits_80 rfl rfl ?_
          refine ze_iald (j := j) cd_L_differenceBits_81 (h2.2 7 _ rfl) rfl (by omega) (by decide) ?_
          refine ze_icmp_ne (tgt := 100) cd_L_differenceBits_82 (by decide) (fun c22 => ?_) (fun c22 => ?_)
          · skip
            refine ze_iload 0 cd_L_differenceBits_100 rfl ?_
            refine ze_iconst (v := nI 4) cd_L_differenceBits_102 (by decide) ?_
            refine ze_ior cd_L_differenceBits_103 ?_
            refine ze_top (by decide : nI 3 ||| nI 4 = nI 7) ?_
            refine ze_istore (lv' := [(4, .int (nI 7)), (0, .ref a), (1, .int (nI i)), (2, .ref b), (3, .int (nI j))]) cd_L_differenceBits_104 (by decide) rfl ?_
            refine ze_iload 0 cd_L_differenceBits_106 rfl ?_
            refine ze_iret cd_L_differenceBits_108 rfl (by decide) (by decide) (zPp_mk ?_)
            simp [zl_dif, c1, c13, c16, c19, c22]
          · skip
            refine ze_aload_n 1 cd_L_differenceBits_85 rfl rfl ?_
            refine ze_get zin_L (v := .ref (a + 9)) (ci := 1) rfl 9 (by decide) zm_128 rfl cd_L_differenceBits_86 h.1 rfl ?_
            refine ze_iload_n 2 cd_L_differenceBits_89 rfl rfl ?_
            refine ze_iald (j := i) cd_L_differenceBits_90 (h.2 8 _ rfl) rfl (by omega) (by decide) ?_
            refine ze_aload_n 3 cd_L_differenceBits_91 rfl rfl ?_
            refine ze_get zin_L (v := .ref (b + 9)) (ci := 1) rfl 9 (by decide) zm_128 rfl cd_L_differenceBits_92 h2.1 rfl ?_
            refine ze_iload_n 4 cd_L_differenceBits_95 rfl rfl ?_
            refine ze_iald (j := j) cd_L_differenceBits_96 (h2.2 8 _ rfl) rfl (by omega) (by decide) ?_
            refine ze_icmp_eq (tgt := 106) cd_L_differenceBits_97 (by decide) (fun c23 => ?_) (fun c23 => ?_)
            · skip
              refine ze_iload 0 cd_L_differenceBits_106 rfl ?_
              refine ze_iret cd_L_differenceBits_108 rfl (by decide) (by decide) (zPp_mk ?_)
              simp [zl_dif, c1, c13, c16, c19, c22, c23]
            · skip
              refine ze_iload 0 cd_L_differenceBits_100 rfl ?_
              refine ze_iconst (v := nI 4) cd_L_differenceBits_102 (by decide) ?_
              refine ze_ior cd_L_differenceBits_103 ?_
              refine ze_top (by decide : nI 3 ||| nI 4 = nI 7) ?_
              refine ze_istore (lv' := [(4, .int (nI 7)), (0, .ref a), (1, .int (nI i)), (2, .ref b), (3, .int (nI j))]) cd_L_differenceBits_104 (by decide) rfl ?_
              refine ze_iload 0 cd_L_differenceBits_106 rfl ?_
              refine ze_iret cd_L_differenceBits_108 rfl (by decide) (by decide) (zPp_mk ?_)
              simp [zl_dif, c1, c13, c16, c19, c22, c23]
