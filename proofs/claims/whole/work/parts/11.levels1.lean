/-! LEVELS: the methods that only read -/
theorem zi_ok2 {n : Nat} {x : Int32} (h0 : ¬ x < 0) (h1 : x < nI n) : zi n x = some x.toNatClampNeg := zi_of (Int32.not_lt.mp h0) h1
def zany (p : Nat → Bool) : Nat → Nat → Bool
  | _, 0 => false
  | lo, k + 1 => if p lo then true else zany p (lo + 1) k
def zfold {α : Type} (f : α → Nat → α) : α → Nat → Nat → α
  | s, _, 0 => s
  | s, lo, k + 1 => zfold f (f s lo) (lo + 1) k
/-- an index or -1 -/
def zo : Option Nat → Int32
  | none => -1
  | some j => nI j
theorem zo_none {o : Option Nat} (ho : ∀ j, o = some j → j < 2 ^ 31) (h : zo o = -1) : o = none := by
  cases o with
  | none => rfl
  | some j => exact absurd (ho j rfl) (fun hj => by have h1 := nI_toInt hj; rw [show nI j = -1 from h] at h1; have h2 : (-1 : Int32).toInt = -1 := (by decide); omega)
theorem zo_ne {o : Option Nat} (h : ¬ zo o = -1) : ∃ j, o = some j := by
  cases o with
  | none => exact absurd rfl h
  | some j => exact ⟨j, rfl⟩
def zl_lod (d : Nat → Int32) (w : Int32) : Nat → Int32
  | 0 => -1
  | k + 1 => if d k = w then nI k else zl_lod d w k
def zl_ord (a b : Int32) : Int32 := if a = b then 0 else if a < b then -1 else 1
def zl_dates (R : Nat → Nat → Int32) (a b : Nat) : Int32 :=
  if R 4 a = -1 then (if R 4 b = -1 then zl_ord 1 1 else zl_ord 1 0) else if R 4 b = -1 then zl_ord 0 1 else
  if R 4 a = R 4 b then (if R 5 a = R 5 b then zl_ord (R 6 a) (R 6 b) else zl_ord (R 5 a) (R 5 b)) else zl_ord (R 4 a) (R 4 b)
def zl_rep (R : Nat → Nat → Int32) (j : Nat) : Bool := zany (fun x => decide (R 2 x = R 2 j) && decide (R 1 x = R 1 j)) 0 j
def zl_wi (n : Nat) (ab : Nat → Int32) (top : Int32) : Nat → Int32 → Bool
  | 0, _ => false
  | k + 1, x => match zi n x with
    | none => false
    | some j => if x = top then true else zl_wi n ab top k (ab j)
def zl_dw (n : Nat) (R : Nat → Nat → Int32) (top : Int32) : Int32 := zfold (fun s x => if zl_wi n (R 2) top 9 (nI x) then (if s < R 3 x then R 3 x else s) else s) 0 0 n
def zl_may (n : Nat) (R : Nat → Nat → Int32) (i u : Nat) : Bool := if zl_wi n (R 2) (nI i) 9 (nI u) then false else if R 0 i < R 0 u then false else if R 0 u = 3 then false else if 8 < zl_dw n R (nI i) + (R 3 u + 1 - R 3 i) then false else true
def zl_beh (R : Nat → Nat → Int32) (a b : Nat) : Bool := if R 1 a = R 1 b then decide (b < a) else decide (R 1 b < R 1 a)
def zl_la (R : Nat → Nat → Int32) (x : Nat) : Option Nat → Bool
  | none => true
  | some l => zl_beh R x l
def zl_lb (R : Nat → Nat → Int32) (x : Nat) : Option Nat → Bool
  | none => true
  | some b => zl_beh R b x
def zl_nxt1 (R : Nat → Nat → Int32) (top : Int32) (last : Option Nat) (s : Option Nat) (x : Nat) : Option Nat :=
  if R 2 x = top then (if zl_la R x last then (if zl_lb R x s then some x else s) else s) else s
def zl_nxt (n : Nat) (R : Nat → Nat → Int32) (top : Int32) (last : Option Nat) : Option Nat := zfold (zl_nxt1 R top last) none 0 n
theorem zl_nxt1_lt {R : Nat → Nat → Int32} {top : Int32} {last s : Option Nat} {x m : Nat} (hs : ∀ j, s = some j → j < m) (hx : x < m) : ∀ j, zl_nxt1 R top last s x = some j → j < m := by
  intro j hj
  unfold zl_nxt1 at hj
  split at hj
  · split at hj
    · split at hj
      · cases hj; exact hx
      · exact hs j hj
    · exact hs j hj
  · exact hs j hj

abbrev zr_L_has : Room := { frames := 0, cells := 0, slots := 0, locals := 0 }
set_option maxRecDepth 100000 in
set_option maxHeartbeats 4000000 in
theorem kc_L_has {g : zx_G} {σ : zx_M} {sz : Nat} {a n : Nat} {R : Nat → Nat → Int32} {i : Int32} (h : zl g σ a n R) : zM g cy_L_has cb_L_has 2 (Option.some Jvm.ClassFile.FieldType.boolean) zr_L_has 0 0 [.ref a, .int i] σ sz (zPp (zb (zi n i).isSome) σ sz) := by
  refine zM_of (lv := [(0, .ref a), (1, .int i)]) (ini := false) (by decide) rfl (by decide) (Nat.le_of_ble_eq_true rfl) rfl ?_
  refine ze_iload_n 1 cd_L_has_0 rfl rfl ?_
  refine ze_if_lt (tgt := 16) cd_L_has_1 (by decide) (fun c1 => ?_) (fun c1 => ?_)
  · skip
    refine ze_iconst (v := nI 0) cd_L_has_16 (by decide) ?_
    refine ze_zret cd_L_has_17 rfl (by decide) (by decide) (by decide) (zPp_mk ?_)
    first | (rw [zi_ltz c1]; rfl) | (rw [zi_hi c2]; rfl) | (rw [zi_ok2 c1 c2]; rfl)
  · skip
    refine ze_iload_n 1 cd_L_has_4 rfl rfl ?_
    refine ze_aload_n 0 cd_L_has_5 rfl rfl ?_
    refine ze_get zin_L (v := .int (nI n)) (ci := 1) rfl 0 (by decide) zm_88 rfl cd_L_has_6 h.1 rfl ?_
    refine ze_icmp_ge (tgt := 16) cd_L_has_9 (by decide) (fun c2 => ?_) (fun c2 => ?_)
    · skip
      have c2 : ¬ i < (nI n) := Int32.not_lt.mpr c2
      refine ze_iconst (v := nI 0) cd_L_has_16 (by decide) ?_
      refine ze_zret cd_L_has_17 rfl (by decide) (by decide) (by decide) (zPp_mk ?_)
      first | (rw [zi_ltz c1]; rfl) | (rw [zi_hi c2]; rfl) | (rw [zi_ok2 c1 c2]; rfl)
    · skip
      have c2 : i < (nI n) := Int32.not_le.mp c2
      refine ze_iconst (v := nI 1) cd_L_has_12 (by decide) ?_
      refine ze_goto (tgt := 17) cd_L_has_13 (by decide) ?_
      refine ze_zret cd_L_has_17 rfl (by decide) (by decide) (by decide) (zPp_mk ?_)
      first | (rw [zi_ltz c1]; rfl) | (rw [zi_hi c2]; rfl) | (rw [zi_ok2 c1 c2]; rfl)
abbrev zr_L_titleSign : Room := { frames := 0, cells := 0, slots := 0, locals := 0 }
set_option maxRecDepth 100000 in
set_option maxHeartbeats 4000000 in
theorem kc_L_titleSign {g : zx_G} {σ : zx_M} {sz : Nat} {a n : Nat} {R : Nat → Nat → Int32} {j q : Nat} (h : zl g σ a n R) (hj : j < 100) (hq : q < 16) : zM g cy_L_titleSign cb_L_titleSign 3 (Option.some Jvm.ClassFile.FieldType.int) zr_L_titleSign 0 0 [.ref a, .int (nI j), .int (nI q)] σ sz (zPp (R 10 (j * 16 + q)) σ sz) := by
  refine zM_of (lv := [(0, .ref a), (1, .int (nI j)), (2, .int (nI q))]) (ini := false) (by decide) rfl (by decide) (Nat.le_of_ble_eq_true rfl) rfl ?_
  refine ze_aload_n 0 cd_L_titleSign_0 rfl rfl ?_
  refine ze_get zin_L (v := .ref (a + 11)) (ci := 1) rfl 11 (by decide) zm_137 rfl cd_L_titleSign_1 h.1 rfl ?_
  refine ze_iload_n 1 cd_L_titleSign_4 rfl rfl ?_
  refine ze_bipush (v := nI 16) cd_L_titleSign_5 (by decide) ?_
  refine ze_imul cd_L_titleSign_7 ?_
  refine ze_top (pk_mul _ _) ?_
  refine ze_iload_n 2 cd_L_titleSign_8 rfl rfl ?_
  refine ze_iadd cd_L_titleSign_9 ?_
  refine ze_top (nI_add _ _) ?_
  refine ze_iald (j := (j * 16) + q) cd_L_titleSign_10 (h.2 10 _ rfl) rfl (by omega) (by decide) ?_
  refine ze_iret cd_L_titleSign_11 rfl (by decide) (by decide) (zPp_mk ?_)
  rfl
abbrev zr_F_order : Room := { frames := 0, cells := 0, slots := 0, locals := 0 }
set_option maxRecDepth 100000 in
set_option maxHeartbeats 4000000 in
theorem kc_F_order {g : zx_G} {σ : zx_M} {sz : Nat} {x y : Int32}  : zM g cy_F_order cb_F_order 2 (Option.some Jvm.ClassFile.FieldType.int) zr_F_order 0 0 [.int x, .int y] σ sz (zPp (zl_ord x y) σ sz) := by
  refine zM_of (lv := [(0, .int x), (1, .int y)]) (ini := false) (by decide) rfl (by decide) (Nat.le_of_ble_eq_true rfl) rfl ?_
  refine ze_iload_n 0 cd_F_order_0 rfl rfl ?_
  refine ze_iload_n 1 cd_F_order_1 rfl rfl ?_
  refine ze_icmp_ne (tgt := 7) cd_F_order_2 (by decide) (fun c1 => ?_) (fun c1 => ?_)
  · skip
    refine ze_iload_n 0 cd_F_order_7 rfl rfl ?_
    refine ze_iload_n 1 cd_F_order_8 rfl rfl ?_
    refine ze_icmp_ge (tgt := 16) cd_F_order_9 (by decide) (fun c2 => ?_) (fun c2 => ?_)
    · skip
      have c2 : ¬ x < y := Int32.not_lt.mpr c2
      refine ze_iconst (v := nI 1) cd_F_order_16 (by decide) ?_
      refine ze_iret cd_F_order_17 rfl (by decide) (by decide) (zPp_mk ?_)
      simp_all [zl_ord, nI]
    · skip
      have c2 : x < y := Int32.not_le.mp c2
      refine ze_iconst (v := (-1 : Int32)) cd_F_order_12 (by decide) ?_
      refine ze_goto (tgt := 17) cd_F_order_13 (by decide) ?_
      refine ze_iret cd_F_order_17 rfl (by decide) (by decide) (zPp_mk ?_)
      simp_all [zl_ord, nI]
  · skip
    refine ze_iconst (v := nI 0) cd_F_order_5 (by decide) ?_
    refine ze_iret cd_F_order_6 rfl (by decide) (by decide) (zPp_mk ?_)
    simp_all [zl_ord, nI]
abbrev zr_L_orderOfDates : Room := { frames := 1, cells := 0, slots := 0, locals := 21 }
set_option maxRecDepth 100000 in
set_option maxHeartbeats 4000000 in
theorem kc_L_orderOfDates {g : zx_G} {σ : zx_M} {sz : Nat} {a n : Nat} {R : Nat → Nat → Int32} {i j : Nat} (h : zl g σ a n R) (hi : i < 100) (hj : j < 100) : zM g cy_L_orderOfDates cb_L_orderOfDates 5 (Option.some Jvm.ClassFile.FieldType.int) zr_L_orderOfDates 0 0 [.ref a, .int (nI i), .int (nI j)] σ sz (zPp (zl_dates R i j) σ sz) := by
  refine zM_of (lv := [(0, .ref a), (1, .int (nI i)), (2, .int (nI j))]) (ini := false) (by decide) rfl (by decide) (Nat.le_of_ble_eq_true rfl) rfl ?_
  refine ze_aload_n 0 cd_L_orderOfDates_0 rfl rfl ?_
  refine ze_get zin_L (v := .ref (a + 5)) (ci := 1) rfl 5 (by decide) zm_111 rfl cd_L_orderOfDates_1 h.1 rfl ?_
  refine ze_iload_n 1 cd_L_orderOfDates_4 rfl rfl ?_
  refine ze_iald (j := i) cd_L_orderOfDates_5 (h.2 4 _ rfl) rfl (by omega) (by decide) ?_
  refine ze_iconst (v := (-1 : Int32)) cd_L_orderOfDates_6 (by decide) ?_
  refine ze_icmp_ne (tgt := 14) cd_L_orderOfDates_7 (by decide) (fun c1 => ?_) (fun c1 => ?_)
  · skip
    refine ze_iconst (v := nI 0) cd_L_orderOfDates_14 (by decide) ?_
    refine ze_istore_n (lv' := [(3, .int (nI 0)), (0, .ref a), (1, .int (nI i)), (2, .int (nI j))]) cd_L_orderOfDates_15 rfl (by decide) rfl ?_
    refine ze_aload_n 1 cd_L_orderOfDates_16 rfl rfl ?_
    refine ze_get zin_L (v := .ref (a + 5)) (ci := 1) rfl 5 (by decide) zm_111 rfl cd_L_orderOfDates_17 h.1 rfl ?_
    refine ze_iload_n 3 cd_L_orderOfDates_20 rfl rfl ?_
    refine ze_iald (j := j) cd_L_orderOfDates_21 (h.2 4 _ rfl) rfl (by omega) (by decide) ?_
    refine ze_iconst (v := (-1 : Int32)) cd_L_orderOfDates_22 (by decide) ?_
    refine ze_icmp_ne (tgt := 30) cd_L_orderOfDates_23 (by decide) (fun c2 => ?_) (fun c2 => ?_)
    · skip
      refine ze_iconst (v := nI 0) cd_L_orderOfDates_30 (by decide) ?_
      refine ze_istore (lv' := [(4, .int (nI 0)), (3, .int (nI 0)), (0, .ref a), (1, .int (nI i)), (2, .int (nI j))]) cd_L_orderOfDates_31 (by decide) rfl ?_
      refine ze_iload_n 1 cd_L_orderOfDates_33 rfl rfl ?_
      refine ze_if_ne (tgt := 42) cd_L_orderOfDates_34 (by decide) (fun c3 => ?_) (fun c3 => ?_)
      · skip
        have c3 := c3; rw [← nI_0] at c3
        have c3 : ¬ 0 = 0 := fun h9 => c3 (by rw [h9])
        refine ze_iload_n 1 cd_L_orderOfDates_42 rfl rfl ?_
        refine ze_if_eq (tgt := 50) cd_L_orderOfDates_43 (by decide) (fun c4 => ?_) (fun c4 => ?_)
        · skip
          have c4 := c4; rw [← nI_0] at c4
          have c4 : 0 = 0 := (nI_eq (by omega) (by omega)).mp c4
          refine ze_iconst (v := nI 0) cd_L_orderOfDates_50 (by decide) ?_
          refine ze_iload 0 cd_L_orderOfDates_51 rfl ?_
          refine ze_if_eq (tgt := 60) cd_L_orderOfDates_53 (by decide) (fun c5 => ?_) (fun c5 => ?_)
          · skip
            have c5 := c5; rw [← nI_0] at c5
            have c5 : 0 = 0 := (nI_eq (by omega) (by omega)).mp c5
            refine ze_iconst (v := nI 0) cd_L_orderOfDates_60 (by decide) ?_
            refine ze_callSNp (rm' := zr_F_order) (As := [.int (nI 0), .int (nI 0)]) (rest := []) kc_F_order ⟨rfl, rfl⟩ zy_F_order_ok (host := "FindingAid") (by decide) zm_331 (by decide) (by decide) cd_L_orderOfDates_61 rfl rfl (Nat.le_of_ble_eq_true rfl) ?_
            refine ze_iret cd_L_orderOfDates_64 rfl (by decide) (by decide) (zPp_mk ?_)
            simp_all [zl_dates, nI]
          · skip
            have c5 := c5; rw [← nI_0] at c5
            have c5 : ¬ 0 = 0 := fun h9 => c5 (by rw [h9])
            refine ze_iconst (v := nI 1) cd_L_orderOfDates_56 (by decide) ?_
            refine ze_goto (tgt := 61) cd_L_orderOfDates_57 (by decide) ?_
            refine ze_callSNp (rm' := zr_F_order) (As := [.int (nI 0), .int (nI 1)]) (rest := []) kc_F_order ⟨rfl, rfl⟩ zy_F_order_ok (host := "FindingAid") (by decide) zm_331 (by decide) (by decide) cd_L_orderOfDates_61 rfl rfl (Nat.le_of_ble_eq_true rfl) ?_
            refine ze_iret cd_L_orderOfDates_64 rfl (by decide) (by decide) (zPp_mk ?_)
            simp_all [zl_dates, nI]
        · skip
          have c4 := c4; rw [← nI_0] at c4
          have c4 : ¬ 0 = 0 := fun h9 => c4 (by rw [h9])
          refine ze_iconst (v := nI 1) cd_L_orderOfDates_46 (by decide) ?_
          refine ze_goto (tgt := 51) cd_L_orderOfDates_47 (by decide) ?_
          refine ze_iload 0 cd_L_orderOfDates_51 rfl ?_
          refine ze_if_eq (tgt := 60) cd_L_orderOfDates_53 (by decide) (fun c6 => ?_) (fun c6 => ?_)
          · skip
            have c6 := c6; rw [← nI_0] at c6
            have c6 : 0 = 0 := (nI_eq (by omega) (by omega)).mp c6
            refine ze_iconst (v := nI 0) cd_L_orderOfDates_60 (by decide) ?_
            refine ze_callSNp (rm' := zr_F_order) (As := [.int (nI 1), .int (nI 0)]) (rest := []) kc_F_order ⟨rfl, rfl⟩ zy_F_order_ok (host := "FindingAid") (by decide) zm_331 (by decide) (by decide) cd_L_orderOfDates_61 rfl rfl (Nat.le_of_ble_eq_true rfl) ?_
            refine ze_iret cd_L_orderOfDates_64 rfl (by decide) (by decide) (zPp_mk ?_)
            simp_all [zl_dates, nI]
          · skip
            have c6 := c6; rw [← nI_0] at c6
            have c6 : ¬ 0 = 0 := fun h9 => c6 (by rw [h9])
            refine ze_iconst (v := nI 1) cd_L_orderOfDates_56 (by decide) ?_
            refine ze_goto (tgt := 61) cd_L_orderOfDates_57 (by decide) ?_
            refine ze_callSNp (rm' := zr_F_order) (As := [.int (nI 1), .int (nI 1)]) (rest := []) kc_F_order ⟨rfl, rfl⟩ zy_F_order_ok (host := "FindingAid") (by decide) zm_331 (by decide) (by decide) cd_L_orderOfDates_61 rfl rfl (Nat.le_of_ble_eq_true rfl) ?_
            refine ze_iret cd_L_orderOfDates_64 rfl (by decide) (by decide) (zPp_mk ?_)
            simp_all [zl_dates, nI]
      · skip
        have c3 := c3; rw [← nI_0] at c3
        have c3 : 0 = 0 := (nI_eq (by omega) (by omega)).mp c3
        refine ze_iload 0 cd_L_orderOfDates_37 rfl ?_
        refine ze_if_eq (tgt := 65) cd_L_orderOfDates_39 (by decide) (fun c7 => ?_) (fun c7 => ?_)
        · skip
          have c7 := c7; rw [← nI_0] at c7
          have c7 : 0 = 0 := (nI_eq (by omega) (by omega)).mp c7
          refine ze_aload_n 2 cd_L_orderOfDates_65 rfl rfl ?_
          refine ze_get zin_L (v := .ref (a + 5)) (ci := 1) rfl 5 (by decide) zm_111 rfl cd_L_orderOfDates_66 h.1 rfl ?_
          refine ze_iload_n 3 cd_L_orderOfDates_69 rfl rfl ?_
          refine ze_iald (j := i) cd_L_orderOfDates_70 (h.2 4 _ rfl) rfl (by omega) (by decide) ?_
          refine ze_aload_n 2 cd_L_orderOfDates_71 rfl rfl ?_
          refine ze_get zin_L (v := .ref (a + 5)) (ci := 1) rfl 5 (by decide) zm_111 rfl cd_L_orderOfDates_72 h.1 rfl ?_
          refine ze_iload_n 4 cd_L_orderOfDates_75 rfl rfl ?_
          refine ze_iald (j := j) cd_L_orderOfDates_76 (h.2 4 _ rfl) rfl (by omega) (by decide) ?_
          refine ze_icmp_eq (tgt := 96) cd_L_orderOfDates_77 (by decide) (fun c8 => ?_) (fun c8 => ?_)
          · skip
            refine ze_aload_n 2 cd_L_orderOfDates_96 rfl rfl ?_
            refine ze_get zin_L (v := .ref (a + 6)) (ci := 1) rfl 6 (by decide) zm_115 rfl cd_L_orderOfDates_97 h.1 rfl ?_
            refine ze_iload_n 3 cd_L_orderOfDates_100 rfl rfl ?_
            refine ze_iald (j := i) cd_L_orderOfDates_101 (h.2 5 _ rfl) rfl (by omega) (by decide) ?_
            refine ze_aload_n 2 cd_L_orderOfDates_102 rfl rfl ?_
            refine ze_get zin_L (v := .ref (a + 6)) (ci := 1) rfl 6 (by decide) zm_115 rfl cd_L_orderOfDates_103 h.1 rfl ?_
            refine ze_iload_n 4 cd_L_orderOfDates_106 rfl rfl ?_
            refine ze_iald (j := j) cd_L_orderOfDates_107 (h.2 5 _ rfl) rfl (by omega) (by decide) ?_
            refine ze_icmp_eq (tgt := 127) cd_L_orderOfDates_108 (by decide) (fun c9 => ?_) (fun c9 => ?_)
            · skip
              refine ze_aload_n 2 cd_L_orderOfDates_127 rfl rfl ?_
              refine ze_get zin_L (v := .ref (a + 7)) (ci := 1) rfl 7 (by decide) zm_119 rfl cd_L_orderOfDates_128 h.1 rfl ?_
              refine ze_iload_n 3 cd_L_orderOfDates_131 rfl rfl ?_
              refine ze_iald (j := i) cd_L_orderOfDates_132 (h.2 6 _ rfl) rfl (by omega) (by decide) ?_
              refine ze_aload_n 2 cd_L_orderOfDates_133 rfl rfl ?_
              refine ze_get zin_L (v := .ref (a + 7)) (ci := 1) rfl 7 (by decide) zm_119 rfl cd_L_orderOfDates_134 h.1 rfl ?_
              refine ze_iload_n 4 cd_L_orderOfDates_137 rfl rfl ?_
              refine ze_iald (j := j) cd_L_orderOfDates_138 (h.2 6 _ rfl) rfl (by omega) (by decide) ?_
              refine ze_callSNp (rm' := zr_F_order) (As := [.int (R 6 i), .int (R 6 j)]) (rest := []) kc_F_order ⟨rfl, rfl⟩ zy_F_order_ok (host := "FindingAid") (by decide) zm_331 (by decide) (by decide) cd_L_orderOfDates_139 rfl rfl (Nat.le_of_ble_eq_true rfl) ?_
              refine ze_iret cd_L_orderOfDates_142 rfl (by decide) (by decide) (zPp_mk ?_)
              simp_all [zl_dates, nI]
            · skip
              refine ze_aload_n 2 cd_L_orderOfDates_111 rfl rfl ?_
              refine ze_get zin_L (v := .ref (a + 6)) (ci := 1) rfl 6 (by decide) zm_115 rfl cd_L_orderOfDates_112 h.1 rfl ?_
              refine ze_iload_n 3 cd_L_orderOfDates_115 rfl rfl ?_
              refine ze_iald (j := i) cd_L_orderOfDates_116 (h.2 5 _ rfl) rfl (by omega) (by decide) ?_
              refine ze_aload_n 2 cd_L_orderOfDates_117 rfl rfl ?_
              refine ze_get zin_L (v := .ref (a + 6)) (ci := 1) rfl 6 (by decide) zm_115 rfl cd_L_orderOfDates_118 h.1 rfl ?_
              refine ze_iload_n 4 cd_L_orderOfDates_121 rfl rfl ?_
              refine ze_iald (j := j) cd_L_orderOfDates_122 (h.2 5 _ rfl) rfl (by omega) (by decide) ?_
              refine ze_callSNp (rm' := zr_F_order) (As := [.int (R 5 i), .int (R 5 j)]) (rest := []) kc_F_order ⟨rfl, rfl⟩ zy_F_order_ok (host := "FindingAid") (by decide) zm_331 (by decide) (by decide) cd_L_orderOfDates_123 rfl rfl (Nat.le_of_ble_eq_true rfl) ?_
              refine ze_iret cd_L_orderOfDates_126 rfl (by decide) (by decide) (zPp_mk ?_)
              simp_all [zl_dates, nI]
          · skip
            refine ze_aload_n 2 cd_L_orderOfDates_80 rfl rfl ?_
            refine ze_get zin_L (v := .ref (a + 5)) (ci := 1) rfl 5 (by decide) zm_111 rfl cd_L_orderOfDates_81 h.1 rfl ?_
            refine ze_iload_n 3 cd_L_orderOfDates_84 rfl rfl ?_
            refine ze_iald (j := i) cd_L_orderOfDates_85 (h.2 4 _ rfl) rfl (by omega) (by decide) ?_
            refine ze_aload_n 2 cd_L_orderOfDates_86 rfl rfl ?_
            refine ze_get zin_L (v := .ref (a + 5)) (ci := 1) rfl 5 (by decide) zm_111 rfl cd_L_orderOfDates_87 h.1 rfl ?_
            refine ze_iload_n 4 cd_L_orderOfDates_90 rfl rfl ?_
            refine ze_iald (j := j) cd_L_orderOfDates_91 (h.2 4 _ rfl) rfl (by omega) (by decide) ?_
            refine ze_callSNp (rm' := zr_F_order) (As := [.int (R 4 i), .int (R 4 j)]) (rest := []) kc_F_order ⟨rfl, rfl⟩ zy_F_order_ok (host := "FindingAid") (by decide) zm_331 (by decide) (by decide) cd_L_orderOfDates_92 rfl rfl (Nat.le_of_ble_eq_true rfl) ?_
            refine ze_iret cd_L_orderOfDates_95 rfl (by decide) (by decide) (zPp_mk ?_)
            simp_all [zl_dates, nI]
        · skip
          have c7 := c7; rw [← nI_0] at c7
          have c7 : ¬ 0 = 0 := fun h9 => c7 (by rw [h9])
          refine ze_iload_n 1 cd_L_orderOfDates_42 rfl rfl ?_
          refine ze_if_eq (tgt := 50) cd_L_orderOfDates_43 (by decide) (fun c10 => ?_) (fun c10 => ?_)
          · skip
            have c10 := c10; rw [← nI_0] at c10
            have c10 : 0 = 0 := (nI_eq (by omega) (by omega)).mp c10
            refine ze_iconst (v := nI 0) cd_L_orderOfDates_50 (by decide) ?_
            refine ze_iload 0 cd_L_orderOfDates_51 rfl ?_
            refine ze_if_eq (tgt := 60) cd_L_orderOfDates_53 (by decide) (fun c11 => ?_) (fun c11 => ?_)
            · skip
              have c11 := c11; rw [← nI_0] at c11
              have c11 : 0 = 0 := (nI_eq (by omega) (by omega)).mp c11
              refine ze_iconst (v := nI 0) cd_L_orderOfDates_60 (by decide) ?_
              refine ze_callSNp (rm' := zr_F_order) (As := [.int (nI 0), .int (nI 0)]) (rest := []) kc_F_order ⟨rfl, rfl⟩ zy_F_order_ok (host := "FindingAid") (by decide) zm_331 (by decide) (by decide) cd_L_orderOfDates_61 rfl rfl (Nat.le_of_ble_eq_true rfl) ?_
              refine ze_iret cd_L_orderOfDates_64 rfl (by decide) (by decide) (zPp_mk ?_)
              simp_all [zl_dates, nI]
            · skip
              have c11 := c11; rw [← nI_0] at c11
              have c11 : ¬ 0 = 0 := fun h9 => c11 (by rw [h9])
              refine ze_iconst (v := nI 1) cd_L_orderOfDates_56 (by decide) ?_
              refine ze_goto (tgt := 61) cd_L_orderOfDates_57 (by decide) ?_
              refine ze_callSNp (rm' := zr_F_order) (As := [.int (nI 0), .int (nI 1)]) (rest := []) kc_F_order ⟨rfl, rfl⟩ zy_F_order_ok (host := "FindingAid") (by decide) zm_331 (by decide) (by decide) cd_L_orderOfDates_61 rfl rfl (Nat.le_of_ble_eq_true rfl) ?_
              refine ze_iret cd_L_orderOfDates_64 rfl (by decide) (by decide) (zPp_mk ?_)
              simp_all [zl_dates, nI]
          · skip
            have c10 := c10; rw [← nI_0] at c10
            have c10 : ¬ 0 = 0 := fun h9 => c10 (by rw [h9])
            refine ze_iconst (v := nI 1) cd_L_orderOfDates_46 (by decide) ?_
            refine ze_goto (tgt := 51) cd_L_orderOfDates_47 (by decide) ?_
            refine ze_iload 0 cd_L_orderOfDates_51 rfl ?_
            refine ze_if_eq (tgt := 60) cd_L_orderOfDates_53 (by decide) (fun c12 => ?_) (fun c12 => ?_)
            · skip
              have c12 := c12; rw [← nI_0] at c12
              have c12 : 0 = 0 := (nI_eq (by omega) (by omega)).mp c12
              refine ze_iconst (v := nI 0) cd_L_orderOfDates_60 (by decide) ?_
              refine ze_callSNp (rm' := zr_F_order) (As := [.int (nI 1), .int (nI 0)]) (rest := []) kc_F_order ⟨rfl, rfl⟩ zy_F_order_ok (host := "FindingAid") (by decide) zm_331 (by decide) (by decide) cd_L_orderOfDates_61 rfl rfl (Nat.le_of_ble_eq_true rfl) ?_
              refine ze_iret cd_L_orderOfDates_64 rfl (by decide) (by decide) (zPp_mk ?_)
              simp_all [zl_dates, nI]
            · skip
              have c12 := c12; rw [← nI_0] at c12
              have c12 : ¬ 0 = 0 := fun h9 => c12 (by rw [h9])
              refine ze_iconst (v := nI 1) cd_L_orderOfDates_56 (by decide) ?_
              refine ze_goto (tgt := 61) cd_L_orderOfDates_57 (by decide) ?_
              refine ze_callSNp (rm' := zr_F_order) (As := [.int (nI 1), .int (nI 1)]) (rest := []) kc_F_order ⟨rfl, rfl⟩ zy_F_order_ok (host := "FindingAid") (by decide) zm_331 (by decide) (by decide) cd_L_orderOfDates_61 rfl rfl (Nat.le_of_ble_eq_true rfl) ?_
              refine ze_iret cd_L_orderOfDates_64 rfl (by decide) (by decide) (zPp_mk ?_)
              simp_all [zl_dates, nI]
    · skip
      refine ze_iconst (v := nI 1) cd_L_orderOfDates_26 (by decide) ?_
      refine ze_goto (tgt := 31) cd_L_orderOfDates_27 (by decide) ?_
      refine ze_istore (lv' := [(4, .int (nI 1)), (3, .int (nI 0)), (0, .ref a), (1, .int (nI i)), (2, .int (nI j))]) cd_L_orderOfDates_31 (by decide) rfl ?_
      refine ze_iload_n 1 cd_L_orderOfDates_33 rfl rfl ?_
      refine ze_if_ne (tgt := 42) cd_L_orderOfDates_34 (by decide) (fun c13 => ?_) (fun c13 => ?_)
      · skip
        have c13 := c13; rw [← nI_0] at c13
        have c13 : ¬ 0 = 0 := fun h9 => c13 (by rw [h9])
        refine ze_iload_n 1 cd_L_orderOfDates_42 rfl rfl ?_
        refine ze_if_eq (tgt := 50) cd_L_orderOfDates_43 (by decide) (fun c14 => ?_) (fun c14 => ?_)
        · skip
          have c14 := c14; rw [← nI_0] at c14
          have c14 : 0 = 0 := (nI_eq (by omega) (by omega)).mp c14
          refine ze_iconst (v := nI 0) cd_L_orderOfDates_50 (by decide) ?_
          refine ze_iload 0 cd_L_orderOfDates_51 rfl ?_
          refine ze_if_eq (tgt := 60) cd_L_orderOfDates_53 (by decide) (fun c15 => ?_) (fun c15 => ?_)
          · skip
            have c15 := c15; rw [← nI_0] at c15
            have c15 : 1 = 0 := (nI_eq (by omega) (by omega)).mp c15
            refine ze_iconst (v := nI 0) cd_L_orderOfDates_60 (by decide) ?_
            refine ze_callSNp (rm' := zr_F_order) (As := [.int (nI 0), .int (nI 0)]) (rest := []) kc_F_order ⟨rfl, rfl⟩ zy_F_order_ok (host := "FindingAid") (by decide) zm_331 (by decide) (by decide) cd_L_orderOfDates_61 rfl rfl (Nat.le_of_ble_eq_true rfl) ?_
            refine ze_iret cd_L_orderOfDates_64 rfl (by decide) (by decide) (zPp_mk ?_)
            simp_all [zl_dates, nI]
          · skip
            have c15 := c15; rw [← nI_0] at c15
            have c15 : ¬ 1 = 0 := fun h9 => c15 (by rw [h9])
            refine ze_iconst (v := nI 1) cd_L_orderOfDates_56 (by decide) ?_
            refine ze_goto (tgt := 61) cd_L_orderOfDates_57 (by decide) ?_
            refine ze_callSNp (rm' := zr_F_order) (As := [.int (nI 0), .int (nI 1)]) (rest := []) kc_F_order ⟨rfl, rfl⟩ zy_F_order_ok (host := "FindingAid") (by decide) zm_331 (by decide) (by decide) cd_L_orderOfDates_61 rfl rfl (Nat.le_of_ble_eq_true rfl) ?_
            refine ze_iret cd_L_orderOfDates_64 rfl (by decide) (by decide) (zPp_mk ?_)
            simp_all [zl_dates, nI]
        · skip
          have c14 := c14; rw [← nI_0] at c14
          have c14 : ¬ 0 = 0 := fun h9 => c14 (by rw [h9])
          refine ze_iconst (v := nI 1) cd_L_orderOfDates_46 (by decide) ?_
          refine ze_goto (tgt := 51) cd_L_orderOfDates_47 (by decide) ?_
          refine ze_iload 0 cd_L_orderOfDates_51 rfl ?_
          refine ze_if_eq (tgt := 60) cd_L_orderOfDates_53 (by decide) (fun c16 => ?_) (fun c16 => ?_)
          · skip
            have c16 := c16; rw [← nI_0] at c16
            have c16 : 1 = 0 := (nI_eq (by omega) (by omega)).mp c16
            refine ze_iconst (v := nI 0) cd_L_orderOfDates_60 (by decide) ?_
            refine ze_callSNp (rm' := zr_F_order) (As := [.int (nI 1), .int (nI 0)]) (rest := []) kc_F_order ⟨rfl, rfl⟩ zy_F_order_ok (host := "FindingAid") (by decide) zm_331 (by decide) (by decide) cd_L_orderOfDates_61 rfl rfl (Nat.le_of_ble_eq_true rfl) ?_
            refine ze_iret cd_L_orderOfDates_64 rfl (by decide) (by decide) (zPp_mk ?_)
            simp_all [zl_dates, nI]
          · skip
            have c16 := c16; rw [← nI_0] at c16
            have c16 : ¬ 1 = 0 := fun h9 => c16 (by rw [h9])
            refine ze_iconst (v := nI 1) cd_L_orderOfDates_56 (by decide) ?_
            refine ze_goto (tgt := 61) cd_L_orderOfDates_57 (by decide) ?_
            refine ze_callSNp (rm' := zr_F_order) (As := [.int (nI 1), .int (nI 1)]) (rest := []) kc_F_order ⟨rfl, rfl⟩ zy_F_order_ok (host := "FindingAid") (by decide) zm_331 (by decide) (by decide) cd_L_orderOfDates_61 rfl rfl (Nat.le_of_ble_eq_true rfl) ?_
            refine ze_iret cd_L_orderOfDates_64 rfl (by decide) (by decide) (zPp_mk ?_)
            simp_all [zl_dates, nI]
      · skip
        have c13 := c13; rw [← nI_0] at c13
        have c13 : 0 = 0 := (nI_eq (by omega) (by omega)).mp c13
        refine ze_iload 0 cd_L_orderOfDates_37 rfl ?_
        refine ze_if_eq (tgt := 65) cd_L_orderOfDates_39 (by decide) (fun c17 => ?_) (fun c17 => ?_)
        · skip
          have c17 := c17; rw [← nI_0] at c17
          have c17 : 1 = 0 := (nI_eq (by omega) (by omega)).mp c17
          refine ze_aload_n 2 cd_L_orderOfDates_65 rfl rfl ?_
          refine ze_get zin_L (v := .ref (a + 5)) (ci := 1) rfl 5 (by decide) zm_111 rfl cd_L_orderOfDates_66 h.1 rfl ?_
          refine ze_iload_n 3 cd_L_orderOfDates_69 rfl rfl ?_
          refine ze_iald (j := i) cd_L_orderOfDates_70 (h.2 4 _ rfl) rfl (by omega) (by decide) ?_
          refine ze_aload_n 2 cd_L_orderOfDates_71 rfl rfl ?_
          refine ze_get zin_L (v := .ref (a + 5)) (ci := 1) rfl 5 (by decide) zm_111 rfl cd_L_orderOfDates_72 h.1 rfl ?_
          refine ze_iload_n 4 cd_L_orderOfDates_75 rfl rfl ?_
          refine ze_iald (j := j) cd_L_orderOfDates_76 (h.2 4 _ rfl) rfl (by omega) (by decide) ?_
          refine ze_icmp_eq (tgt := 96) cd_L_orderOfDates_77 (by decide) (fun c18 => ?_) (fun c18 => ?_)
          · skip
            refine ze_aload_n 2 cd_L_orderOfDates_96 rfl rfl ?_
            refine ze_get zin_L (v := .ref (a + 6)) (ci := 1) rfl 6 (by decide) zm_115 rfl cd_L_orderOfDates_97 h.1 rfl ?_
            refine ze_iload_n 3 cd_L_orderOfDates_100 rfl rfl ?_
            refine ze_iald (j := i) cd_L_orderOfDates_101 (h.2 5 _ rfl) rfl (by omega) (by decide) ?_
            refine ze_aload_n 2 cd_L_orderOfDates_102 rfl rfl ?_
            refine ze_get zin_L (v := .ref (a + 6)) (ci := 1) rfl 6 (by decide) zm_115 rfl cd_L_orderOfDates_103 h.1 rfl ?_
            refine ze_iload_n 4 cd_L_orderOfDates_106 rfl rfl ?_
            refine ze_iald (j := j) cd_L_orderOfDates_107 (h.2 5 _ rfl) rfl (by omega) (by decide) ?_
            refine ze_icmp_eq (tgt := 127) cd_L_orderOfDates_108 (by decide) (fun c19 => ?_) (fun c19 => ?_)
            · skip
              refine ze_aload_n 2 cd_L_orderOfDates_127 rfl rfl ?_
              refine ze_get zin_L (v := .ref (a + 7)) (ci := 1) rfl 7 (by decide) zm_119 rfl cd_L_orderOfDates_128 h.1 rfl ?_
              refine ze_iload_n 3 cd_L_orderOfDates_131 rfl rfl ?_
              refine ze_iald (j := i) cd_L_orderOfDates_132 (h.2 6 _ rfl) rfl (by omega) (by decide) ?_
              refine ze_aload_n 2 cd_L_orderOfDates_133 rfl rfl ?_
              refine ze_get zin_L (v := .ref (a + 7)) (ci := 1) rfl 7 (by decide) zm_119 rfl cd_L_orderOfDates_134 h.1 rfl ?_
              refine ze_iload_n 4 cd_L_orderOfDates_137 rfl rfl ?_
              refine ze_iald (j := j) cd_L_orderOfDates_138 (h.2 6 _ rfl) rfl (by omega) (by decide) ?_
              refine ze_callSNp (rm' := zr_F_order) (As := [.int (R 6 i), .int (R 6 j)]) (rest := []) kc_F_order ⟨rfl, rfl⟩ zy_F_order_ok (host := "FindingAid") (by decide) zm_331 (by decide) (by decide) cd_L_orderOfDates_139 rfl rfl (Nat.le_of_ble_eq_true rfl) ?_
              refine ze_iret cd_L_orderOfDates_142 rfl (by decide) (by decide) (zPp_mk ?_)
              simp_all [zl_dates, nI]
            · skip
              refine ze_aload_n 2 cd_L_orderOfDates_111 rfl rfl ?_
              refine ze_get zin_L (v := .ref (a + 6)) (ci := 1) rfl 6 (by decide) zm_115 rfl cd_L_orderOfDates_112 h.1 rfl ?_
              refine ze_iload_n 3 cd_L_orderOfDates_115 rfl rfl ?_
              refine ze_iald (j := i) cd_L_orderOfDates_116 (h.2 5 _ rfl) rfl (by omega) (by decide) ?_
              refine ze_aload_n 2 cd_L_orderOfDates_117 rfl rfl ?_
              refine ze_get zin_L (v := .ref (a + 6)) (ci := 1) rfl 6 (by decide) zm_115 rfl cd_L_orderOfDates_118 h.1 rfl ?_
              refine ze_iload_n 4 cd_L_orderOfDates_121 rfl rfl ?_
              refine ze_iald (j := j) cd_L_orderOfDates_122 (h.2 5 _ rfl) rfl (by omega) (by decide) ?_
              refine ze_callSNp (rm' := zr_F_order) (As := [.int (R 5 i), .int (R 5 j)]) (rest := []) kc_F_order ⟨rfl, rfl⟩ zy_F_order_ok (host := "FindingAid") (by decide) zm_331 (by decide) (by decide) cd_L_orderOfDates_123 rfl rfl (Nat.le_of_ble_eq_true rfl) ?_
              refine ze_iret cd_L_orderOfDates_126 rfl (by decide) (by decide) (zPp_mk ?_)
              simp_all [zl_dates, nI]
          · skip
            refine ze_aload_n 2 cd_L_orderOfDates_80 rfl rfl ?_
            refine ze_get zin_L (v := .ref (a + 5)) (ci := 1) rfl 5 (by decide) zm_111 rfl cd_L_orderOfDates_81 h.1 rfl ?_
            refine ze_iload_n 3 cd_L_orderOfDates_84 rfl rfl ?_
            refine ze_iald (j := i) cd_L_orderOfDates_85 (h.2 4 _ rfl) rfl (by omega) (by decide) ?_
            refine ze_aload_n 2 cd_L_orderOfDates_86 rfl rfl ?_
            refine ze_get zin_L (v := .ref (a + 5)) (ci := 1) rfl 5 (by decide) zm_111 rfl cd_L_orderOfDates_87 h.1 rfl ?_
            refine ze_iload_n 4 cd_L_orderOfDates_90 rfl rfl ?_
            refine ze_iald (j := j) cd_L_orderOfDates_91 (h.2 4 _ rfl) rfl (by omega) (by decide) ?_
            refine ze_callSNp (rm' := zr_F_order) (As := [.int (R 4 i), .int (R 4 j)]) (rest := []) kc_F_order ⟨rfl, rfl⟩ zy_F_order_ok (host := "FindingAid") (by decide) zm_331 (by decide) (by decide) cd_L_orderOfDates_92 rfl rfl (Nat.le_of_ble_eq_true rfl) ?_
            refine ze_iret cd_L_orderOfDates_95 rfl (by decide) (by decide) (zPp_mk ?_)
            simp_all [zl_dates, nI]
        · skip
          have c17 := c17; rw [← nI_0] at c17
          have c17 : ¬ 1 = 0 := fun h9 => c17 (by rw [h9])
          refine ze_iload_n 1 cd_L_orderOfDates_42 rfl rfl ?_
          refine ze_if_eq (tgt := 50) cd_L_orderOfDates_43 (by decide) (fun c20 => ?_) (fun c20 => ?_)
          · skip
            have c20 := c20; rw [← nI_0] at c20
            have c20 : 0 = 0 := (nI_eq (by omega) (by omega)).mp c20
            refine ze_iconst (v := nI 0) cd_L_orderOfDates_50 (by decide) ?_
            refine ze_iload 0 cd_L_orderOfDates_51 rfl ?_
            refine ze_if_eq (tgt := 60) cd_L_orderOfDates_53 (by decide) (fun c21 => ?_) (fun c21 => ?_)
            · skip
              have c21 := c21; rw [← nI_0] at c21
              have c21 : 1 = 0 := (nI_eq (by omega) (by omega)).mp c21
              refine ze_iconst (v := nI 0) cd_L_orderOfDates_60 (by decide) ?_
              refine ze_callSNp (rm' := zr_F_order) (As := [.int (nI 0), .int (nI 0)]) (rest := []) kc_F_order ⟨rfl, rfl⟩ zy_F_order_ok (host := "FindingAid") (by decide) zm_331 (by decide) (by decide) cd_L_orderOfDates_61 rfl rfl (Nat.le_of_ble_eq_true rfl) ?_
              refine ze_iret cd_L_orderOfDates_64 rfl (by decide) (by decide) (zPp_mk ?_)
              simp_all [zl_dates, nI]
            · skip
              have c21 := c21; rw [← nI_0] at c21
              have c21 : ¬ 1 = 0 := fun h9 => c21 (by rw [h9])
              refine ze_iconst (v := nI 1) cd_L_orderOfDates_56 (by decide) ?_
              refine ze_goto (tgt := 61) cd_L_orderOfDates_57 (by decide) ?_
              refine ze_callSNp (rm' := zr_F_order) (As := [.int (nI 0), .int (nI 1)]) (rest := []) kc_F_order ⟨rfl, rfl⟩ zy_F_order_ok (host := "FindingAid") (by decide) zm_331 (by decide) (by decide) cd_L_orderOfDates_61 rfl rfl (Nat.le_of_ble_eq_true rfl) ?_
              refine ze_iret cd_L_orderOfDates_64 rfl (by decide) (by decide) (zPp_mk ?_)
              simp_all [zl_dates, nI]
          · skip
            have c20 := c20; rw [← nI_0] at c20
            have c20 : ¬ 0 = 0 := fun h9 => c20 (by rw [h9])
            refine ze_iconst (v := nI 1) cd_L_orderOfDates_46 (by decide) ?_
            refine ze_goto (tgt := 51) cd_L_orderOfDates_47 (by decide) ?_
            refine ze_iload 0 cd_L_orderOfDates_51 rfl ?_
            refine ze_if_eq (tgt := 60) cd_L_orderOfDates_53 (by decide) (fun c22 => ?_) (fun c22 => ?_)
            · skip
              have c22 := c22; rw [← nI_0] at c22
              have c22 : 1 = 0 := (nI_eq (by omega) (by omega)).mp c22
              refine ze_iconst (v := nI 0) cd_L_orderOfDates_60 (by decide) ?_
              refine ze_callSNp (rm' := zr_F_order) (As := [.int (nI 1), .int (nI 0)]) (rest := []) kc_F_order ⟨rfl, rfl⟩ zy_F_order_ok (host := "FindingAid") (by decide) zm_331 (by decide) (by decide) cd_L_orderOfDates_61 rfl rfl (Nat.le_of_ble_eq_true rfl) ?_
              refine ze_iret cd_L_orderOfDates_64 rfl (by decide) (by decide) (zPp_mk ?_)
              simp_all [zl_dates, nI]
            · skip
              have c22 := c22; rw [← nI_0] at c22
              have c22 : ¬ 1 = 0 := fun h9 => c22 (by rw [h9])
              refine ze_iconst (v := nI 1) cd_L_orderOfDates_56 (by decide) ?_
              refine ze_goto (tgt := 61) cd_L_orderOfDates_57 (by decide) ?_
              refine ze_callSNp (rm' := zr_F_order) (As := [.int (nI 1), .int (nI 1)]) (rest := []) kc_F_order ⟨rfl, rfl⟩ zy_F_order_ok (host := "FindingAid") (by decide) zm_331 (by decide) (by decide) cd_L_orderOfDates_61 rfl rfl (Nat.le_of_ble_eq_true rfl) ?_
              refine ze_iret cd_L_orderOfDates_64 rfl (by decide) (by decide) (zPp_mk ?_)
              simp_all [zl_dates, nI]
  · skip
    refine ze_iconst (v := nI 1) cd_L_orderOfDates_10 (by decide) ?_
    refine ze_goto (tgt := 15) cd_L_orderOfDates_11 (by decide) ?_
    refine ze_istore_n (lv' := [(3, .int (nI 1)), (0, .ref a), (1, .int (nI i)), (2, .int (nI j))]) cd_L_orderOfDates_15 rfl (by decide) rfl ?_
    refine ze_aload_n 1 cd_L_orderOfDates_16 rfl rfl ?_
    refine ze_get zin_L (v := .ref (a + 5)) (ci := 1) rfl 5 (by decide) zm_111 rfl cd_L_orderOfDates_17 h.1 rfl ?_
    refine ze_iload_n 3 cd_L_orderOfDates_20 rfl rfl ?_
    refine ze_iald (j := j) cd_L_orderOfDates_21 (h.2 4 _ rfl) rfl (by omega) (by decide) ?_
    refine ze_iconst (v := (-1 : Int32)) cd_L_orderOfDates_22 (by decide) ?_
    refine ze_icmp_ne (tgt := 30) cd_L_orderOfDates_23 (by decide) (fun c23 => ?_) (fun c23 => ?_)
    · skip
      refine ze_iconst (v := nI 0) cd_L_orderOfDates_30 (by decide) ?_
      refine ze_istore (lv' := [(4, .int (nI 0)), (3, .int (nI 1)), (0, .ref a), (1, .int (nI i)), (2, .int (nI j))]) cd_L_orderOfDates_31 (by decide) rfl ?_
      refine ze_iload_n 1 cd_L_orderOfDates_33 rfl rfl ?_
      refine ze_if_ne (tgt := 42) cd_L_orderOfDates_34 (by decide) (fun c24 => ?_) (fun c24 => ?_)
      · skip
        have c24 := c24; rw [← nI_0] at c24
        have c24 : ¬ 1 = 0 := fun h9 => c24 (by rw [h9])
        refine ze_iload_n 1 cd_L_orderOfDates_42 rfl rfl ?_
        refine ze_if_eq (tgt := 50) cd_L_orderOfDates_43 (by decide) (fun c25 => ?_) (fun c25 => ?_)
        · skip
          have c25 := c25; rw [← nI_0] at c25
          have c25 : 1 = 0 := (nI_eq (by omega) (by omega)).mp c25
          refine ze_iconst (v := nI 0) cd_L_orderOfDates_50 (by decide) ?_
          refine ze_iload 0 cd_L_orderOfDates_51 rfl ?_
          refine ze_if_eq (tgt := 60) cd_L_orderOfDates_53 (by decide) (fun c26 => ?_) (fun c26 => ?_)
          · skip
            have c26 := c26; rw [← nI_0] at c26
            have c26 : 0 = 0 := (nI_eq (by omega) (by omega)).mp c26
            refine ze_iconst (v := nI 0) cd_L_orderOfDates_60 (by decide) ?_
            refine ze_callSNp (rm' := zr_F_order) (As := [.int (nI 0), .int (nI 0)]) (rest := []) kc_F_order ⟨rfl, rfl⟩ zy_F_order_ok (host := "FindingAid") (by decide) zm_331 (by decide) (by decide) cd_L_orderOfDates_61 rfl rfl (Nat.le_of_ble_eq_true rfl) ?_
            refine ze_iret cd_L_orderOfDates_64 rfl (by decide) (by decide) (zPp_mk ?_)
            simp_all [zl_dates, nI]
          · skip
            have c26 := c26; rw [← nI_0] at c26
            have c26 : ¬ 0 = 0 := fun h9 => c26 (by rw [h9])
            refine ze_iconst (v := nI 1) cd_L_orderOfDates_56 (by decide) ?_
            refine ze_goto (tgt := 61) cd_L_orderOfDates_57 (by decide) ?_
            refine ze_callSNp (rm' := zr_F_order) (As := [.int (nI 0), .int (nI 1)]) (rest := []) kc_F_order ⟨rfl, rfl⟩ zy_F_order_ok (host := "FindingAid") (by decide) zm_331 (by decide) (by decide) cd_L_orderOfDates_61 rfl rfl (Nat.le_of_ble_eq_true rfl) ?_
            refine ze_iret cd_L_orderOfDates_64 rfl (by decide) (by decide) (zPp_mk ?_)
            simp_all [zl_dates, nI]
        · skip
          have c25 := c25; rw [← nI_0] at c25
          have c25 : ¬ 1 = 0 := fun h9 => c25 (by rw [h9])
          refine ze_iconst (v := nI 1) cd_L_orderOfDates_46 (by decide) ?_
          refine ze_goto (tgt := 51) cd_L_orderOfDates_47 (by decide) ?_
          refine ze_iload 0 cd_L_orderOfDates_51 rfl ?_
          refine ze_if_eq (tgt := 60) cd_L_orderOfDates_53 (by decide) (fun c27 => ?_) (fun c27 => ?_)
          · skip
            have c27 := c27; rw [← nI_0] at c27
            have c27 : 0 = 0 := (nI_eq (by omega) (by omega)).mp c27
            refine ze_iconst (v := nI 0) cd_L_orderOfDates_60 (by decide) ?_
            refine ze_callSNp (rm' := zr_F_order) (As := [.int (nI 1), .int (nI 0)]) (rest := []) kc_F_order ⟨rfl, rfl⟩ zy_F_order_ok (host := "FindingAid") (by decide) zm_331 (by decide) (by decide) cd_L_orderOfDates_61 rfl rfl (Nat.le_of_ble_eq_true rfl) ?_
            refine ze_iret cd_L_orderOfDates_64 rfl (by decide) (by decide) (zPp_mk ?_)
            simp_all [zl_dates, nI]
          · skip
            have c27 := c27; rw [← nI_0] at c27
            have c27 : ¬ 0 = 0 := fun h9 => c27 (by rw [h9])
            refine ze_iconst (v := nI 1) cd_L_orderOfDates_56 (by decide) ?_
            refine ze_goto (tgt := 61) cd_L_orderOfDates_57 (by decide) ?_
            refine ze_callSNp (rm' := zr_F_order) (As := [.int (nI 1), .int (nI 1)]) (rest := []) kc_F_order ⟨rfl, rfl⟩ zy_F_order_ok (host := "FindingAid") (by decide) zm_331 (by decide) (by decide) cd_L_orderOfDates_61 rfl rfl (Nat.le_of_ble_eq_true rfl) ?_
            refine ze_iret cd_L_orderOfDates_64 rfl (by decide) (by decide) (zPp_mk ?_)
            simp_all [zl_dates, nI]
      · skip
        have c24 := c24; rw [← nI_0] at c24
        have c24 : 1 = 0 := (nI_eq (by omega) (by omega)).mp c24
        refine ze_iload 0 cd_L_orderOfDates_37 rfl ?_
        refine ze_if_eq (tgt := 65) cd_L_orderOfDates_39 (by decide) (fun c28 => ?_) (fun c28 => ?_)
        · skip
          have c28 := c28; rw [← nI_0] at c28
          have c28 : 0 = 0 := (nI_eq (by omega) (by omega)).mp c28
          refine ze_aload_n 2 cd_L_orderOfDates_65 rfl rfl ?_
          refine ze_get zin_L (v := .ref (a + 5)) (ci := 1) rfl 5 (by decide) zm_111 rfl cd_L_orderOfDates_66 h.1 rfl ?_
          refine ze_iload_n 3 cd_L_orderOfDates_69 rfl rfl ?_
          refine ze_iald (j := i) cd_L_orderOfDates_70 (h.2 4 _ rfl) rfl (by omega) (by decide) ?_
          refine ze_aload_n 2 cd_L_orderOfDates_71 rfl rfl ?_
          refine ze_get zin_L (v := .ref (a + 5)) (ci := 1) rfl 5 (by decide) zm_111 rfl cd_L_orderOfDates_72 h.1 rfl ?_
          refine ze_iload_n 4 cd_L_orderOfDates_75 rfl rfl ?_
          refine ze_iald (j := j) cd_L_orderOfDates_76 (h.2 4 _ rfl) rfl (by omega) (by decide) ?_
          refine ze_icmp_eq (tgt := 96) cd_L_orderOfDates_77 (by decide) (fun c29 => ?_) (fun c29 => ?_)
          · skip
            refine ze_aload_n 2 cd_L_orderOfDates_96 rfl rfl ?_
            refine ze_get zin_L (v := .ref (a + 6)) (ci := 1) rfl 6 (by decide) zm_115 rfl cd_L_orderOfDates_97 h.1 rfl ?_
            refine ze_iload_n 3 cd_L_orderOfDates_100 rfl rfl ?_
            refine ze_iald (j := i) cd_L_orderOfDates_101 (h.2 5 _ rfl) rfl (by omega) (by decide) ?_
            refine ze_aload_n 2 cd_L_orderOfDates_102 rfl rfl ?_
            refine ze_get zin_L (v := .ref (a + 6)) (ci := 1) rfl 6 (by decide) zm_115 rfl cd_L_orderOfDates_103 h.1 rfl ?_
            refine ze_iload_n 4 cd_L_orderOfDates_106 rfl rfl ?_
            refine ze_iald (j := j) cd_L_orderOfDates_107 (h.2 5 _ rfl) rfl (by omega) (by decide) ?_
            refine ze_icmp_eq (tgt := 127) cd_L_orderOfDates_108 (by decide) (fun c30 => ?_) (fun c30 => ?_)
            · skip
              refine ze_aload_n 2 cd_L_orderOfDates_127 rfl rfl ?_
              refine ze_get zin_L (v := .ref (a + 7)) (ci := 1) rfl 7 (by decide) zm_119 rfl cd_L_orderOfDates_128 h.1 rfl ?_
              refine ze_iload_n 3 cd_L_orderOfDates_131 rfl rfl ?_
              refine ze_iald (j := i) cd_L_orderOfDates_132 (h.2 6 _ rfl) rfl (by omega) (by decide) ?_
              refine ze_aload_n 2 cd_L_orderOfDates_133 rfl rfl ?_
              refine ze_get zin_L (v := .ref (a + 7)) (ci := 1) rfl 7 (by decide) zm_119 rfl cd_L_orderOfDates_134 h.1 rfl ?_
              refine ze_iload_n 4 cd_L_orderOfDates_137 rfl rfl ?_
              refine ze_iald (j := j) cd_L_orderOfDates_138 (h.2 6 _ rfl) rfl (by omega) (by decide) ?_
              refine ze_callSNp (rm' := zr_F_order) (As := [.int (R 6 i), .int (R 6 j)]) (rest := []) kc_F_order ⟨rfl, rfl⟩ zy_F_order_ok (host := "FindingAid") (by decide) zm_331 (by decide) (by decide) cd_L_orderOfDates_139 rfl rfl (Nat.le_of_ble_eq_true rfl) ?_
              refine ze_iret cd_L_orderOfDates_142 rfl (by decide) (by decide) (zPp_mk ?_)
              simp_all [zl_dates, nI]
            · skip
              refine ze_aload_n 2 cd_L_orderOfDates_111 rfl rfl ?_
              refine ze_get zin_L (v := .ref (a + 6)) (ci := 1) rfl 6 (by decide) zm_115 rfl cd_L_orderOfDates_112 h.1 rfl ?_
              refine ze_iload_n 3 cd_L_orderOfDates_115 rfl rfl ?_
              refine ze_iald (j := i) cd_L_orderOfDates_116 (h.2 5 _ rfl) rfl (by omega) (by decide) ?_
              refine ze_aload_n 2 cd_L_orderOfDates_117 rfl rfl ?_
              refine ze_get zin_L (v := .ref (a + 6)) (ci := 1) rfl 6 (by decide) zm_115 rfl cd_L_orderOfDates_118 h.1 rfl ?_
              refine ze_iload_n 4 cd_L_orderOfDates_121 rfl rfl ?_
              refine ze_iald (j := j) cd_L_orderOfDates_122 (h.2 5 _ rfl) rfl (by omega) (by decide) ?_
              refine ze_callSNp (rm' := zr_F_order) (As := [.int (R 5 i), .int (R 5 j)]) (rest := []) kc_F_order ⟨rfl, rfl⟩ zy_F_order_ok (host := "FindingAid") (by decide) zm_331 (by decide) (by decide) cd_L_orderOfDates_123 rfl rfl (Nat.le_of_ble_eq_true rfl) ?_
              refine ze_iret cd_L_orderOfDates_126 rfl (by decide) (by decide) (zPp_mk ?_)
              simp_all [zl_dates, nI]
          · skip
            refine ze_aload_n 2 cd_L_orderOfDates_80 rfl rfl ?_
            refine ze_get zin_L (v := .ref (a + 5)) (ci := 1) rfl 5 (by decide) zm_111 rfl cd_L_orderOfDates_81 h.1 rfl ?_
            refine ze_iload_n 3 cd_L_orderOfDates_84 rfl rfl ?_
            refine ze_iald (j := i) cd_L_orderOfDates_85 (h.2 4 _ rfl) rfl (by omega) (by decide) ?_
            refine ze_aload_n 2 cd_L_orderOfDates_86 rfl rfl ?_
            refine ze_get zin_L (v := .ref (a + 5)) (ci := 1) rfl 5 (by decide) zm_111 rfl cd_L_orderOfDates_87 h.1 rfl ?_
            refine ze_iload_n 4 cd_L_orderOfDates_90 rfl rfl ?_
            refine ze_iald (j := j) cd_L_orderOfDates_91 (h.2 4 _ rfl) rfl (by omega) (by decide) ?_
            refine ze_callSNp (rm' := zr_F_order) (As := [.int (R 4 i), .int (R 4 j)]) (rest := []) kc_F_order ⟨rfl, rfl⟩ zy_F_order_ok (host := "FindingAid") (by decide) zm_331 (by decide) (by decide) cd_L_orderOfDates_92 rfl rfl (Nat.le_of_ble_eq_true rfl) ?_
            refine ze_iret cd_L_orderOfDates_95 rfl (by decide) (by decide) (zPp_mk ?_)
            simp_all [zl_dates, nI]
        · skip
          have c28 := c28; rw [← nI_0] at c28
          have c28 : ¬ 0 = 0 := fun h9 => c28 (by rw [h9])
          refine ze_iload_n 1 cd_L_orderOfDates_42 rfl rfl ?_
          refine ze_if_eq (tgt := 50) cd_L_orderOfDates_43 (by decide) (fun c31 => ?_) (fun c31 => ?_)
          · skip
            have c31 := c31; rw [← nI_0] at c31
            have c31 : 1 = 0 := (nI_eq (by omega) (by omega)).mp c31
            refine ze_iconst (v := nI 0) cd_L_orderOfDates_50 (by decide) ?_
            refine ze_iload 0 cd_L_orderOfDates_51 rfl ?_
            refine ze_if_eq (tgt := 60) cd_L_orderOfDates_53 (by decide) (fun c32 => ?_) (fun c32 => ?_)
            · skip
              have c32 := c32; rw [← nI_0] at c32
              have c32 : 0 = 0 := (nI_eq (by omega) (by omega)).mp c32
              refine ze_iconst (v := nI 0) cd_L_orderOfDates_60 (by decide) ?_
              refine ze_callSNp (rm' := zr_F_order) (As := [.int (nI 0), .int (nI 0)]) (rest := []) kc_F_order ⟨rfl, rfl⟩ zy_F_order_ok (host := "FindingAid") (by decide) zm_331 (by decide) (by decide) cd_L_orderOfDates_61 rfl rfl (Nat.le_of_ble_eq_true rfl) ?_
              refine ze_iret cd_L_orderOfDates_64 rfl (by decide) (by decide) (zPp_mk ?_)
              simp_all [zl_dates, nI]
            · skip
              have c32 := c32; rw [← nI_0] at c32
              have c32 : ¬ 0 = 0 := fun h9 => c32 (by rw [h9])
              refine ze_iconst (v := nI 1) cd_L_orderOfDates_56 (by decide) ?_
              refine ze_goto (tgt := 61) cd_L_orderOfDates_57 (by decide) ?_
              refine ze_callSNp (rm' := zr_F_order) (As := [.int (nI 0), .int (nI 1)]) (rest := []) kc_F_order ⟨rfl, rfl⟩ zy_F_order_ok (host := "FindingAid") (by decide) zm_331 (by decide) (by decide) cd_L_orderOfDates_61 rfl rfl (Nat.le_of_ble_eq_true rfl) ?_
              refine ze_iret cd_L_orderOfDates_64 rfl (by decide) (by decide) (zPp_mk ?_)
              simp_all [zl_dates, nI]
          · skip
            have c31 := c31; rw [← nI_0] at c31
            have c31 : ¬ 1 = 0 := fun h9 => c31 (by rw [h9])
            refine ze_iconst (v := nI 1) cd_L_orderOfDates_46 (by decide) ?_
            refine ze_goto (tgt := 51) cd_L_orderOfDates_47 (by decide) ?_
            refine ze_iload 0 cd_L_orderOfDates_51 rfl ?_
            refine ze_if_eq (tgt := 60) cd_L_orderOfDates_53 (by decide) (fun c33 => ?_) (fun c33 => ?_)
            · skip
              have c33 := c33; rw [← nI_0] at c33
              have c33 : 0 = 0 := (nI_eq (by omega) (by omega)).mp c33
              refine ze_iconst (v := nI 0) cd_L_orderOfDates_60 (by decide) ?_
              refine ze_callSNp (rm' := zr_F_order) (As := [.int (nI 1), .int (nI 0)]) (rest := []) kc_F_order ⟨rfl, rfl⟩ zy_F_order_ok (host := "FindingAid") (by decide) zm_331 (by decide) (by decide) cd_L_orderOfDates_61 rfl rfl (Nat.le_of_ble_eq_true rfl) ?_
              refine ze_iret cd_L_orderOfDates_64 rfl (by decide) (by decide) (zPp_mk ?_)
              simp_all [zl_dates, nI]
            · skip
              have c33 := c33; rw [← nI_0] at c33
              have c33 : ¬ 0 = 0 := fun h9 => c33 (by rw [h9])
              refine ze_iconst (v := nI 1) cd_L_orderOfDates_56 (by decide) ?_
              refine ze_goto (tgt := 61) cd_L_orderOfDates_57 (by decide) ?_
              refine ze_callSNp (rm' := zr_F_order) (As := [.int (nI 1), .int (nI 1)]) (rest := []) kc_F_order ⟨rfl, rfl⟩ zy_F_order_ok (host := "FindingAid") (by decide) zm_331 (by decide) (by decide) cd_L_orderOfDates_61 rfl rfl (Nat.le_of_ble_eq_true rfl) ?_
              refine ze_iret cd_L_orderOfDates_64 rfl (by decide) (by decide) (zPp_mk ?_)
              simp_all [zl_dates, nI]
    · skip
      refine ze_iconst (v := nI 1) cd_L_orderOfDates_26 (by decide) ?_
      refine ze_goto (tgt := 31) cd_L_orderOfDates_27 (by decide) ?_
      refine ze_istore (lv' := [(4, .int (nI 1)), (3, .int (nI 1)), (0, .ref a), (1, .int (nI i)), (2, .int (nI j))]) cd_L_orderOfDates_31 (by decide) rfl ?_
      refine ze_iload_n 1 cd_L_orderOfDates_33 rfl rfl ?_
      refine ze_if_ne (tgt := 42) cd_L_orderOfDates_34 (by decide) (fun c34 => ?_) (fun c34 => ?_)
      · skip
        have c34 := c34; rw [← nI_0] at c34
        have c34 : ¬ 1 = 0 := fun h9 => c34 (by rw [h9])
        refine ze_iload_n 1 cd_L_orderOfDates_42 rfl rfl ?_
        refine ze_if_eq (tgt := 50) cd_L_orderOfDates_43 (by decide) (fun c35 => ?_) (fun c35 => ?_)
        · skip
          have c35 := c35; rw [← nI_0] at c35
          have c35 : 1 = 0 := (nI_eq (by omega) (by omega)).mp c35
          refine ze_iconst (v := nI 0) cd_L_orderOfDates_50 (by decide) ?_
          refine ze_iload 0 cd_L_orderOfDates_51 rfl ?_
          refine ze_if_eq (tgt := 60) cd_L_orderOfDates_53 (by decide) (fun c36 => ?_) (fun c36 => ?_)
          · skip
            have c36 := c36; rw [← nI_0] at c36
            have c36 : 1 = 0 := (nI_eq (by omega) (by omega)).mp c36
            refine ze_iconst (v := nI 0) cd_L_orderOfDates_60 (by decide) ?_
            refine ze_callSNp (rm' := zr_F_order) (As := [.int (nI 0), .int (nI 0)]) (rest := []) kc_F_order ⟨rfl, rfl⟩ zy_F_order_ok (host := "FindingAid") (by decide) zm_331 (by decide) (by decide) cd_L_orderOfDates_61 rfl rfl (Nat.le_of_ble_eq_true rfl) ?_
            refine ze_iret cd_L_orderOfDates_64 rfl (by decide) (by decide) (zPp_mk ?_)
            simp_all [zl_dates, nI]
          · skip
            have c36 := c36; rw [← nI_0] at c36
            have c36 : ¬ 1 = 0 := fun h9 => c36 (by rw [h9])
            refine ze_iconst (v := nI 1) cd_L_orderOfDates_56 (by decide) ?_
            refine ze_goto (tgt := 61) cd_L_orderOfDates_57 (by decide) ?_
            refine ze_callSNp (rm' := zr_F_order) (As := [.int (nI 0), .int (nI 1)]) (rest := []) kc_F_order ⟨rfl, rfl⟩ zy_F_order_ok (host := "FindingAid") (by decide) zm_331 (by decide) (by decide) cd_L_orderOfDates_61 rfl rfl (Nat.le_of_ble_eq_true rfl) ?_
            refine ze_iret cd_L_orderOfDates_64 rfl (by decide) (by decide) (zPp_mk ?_)
            simp_all [zl_dates, nI]
        · skip
          have c35 := c35; rw [← nI_0] at c35
          have c35 : ¬ 1 = 0 := fun h9 => c35 (by rw [h9])
          refine ze_iconst (v := nI 1) cd_L_orderOfDates_46 (by decide) ?_
          refine ze_goto (tgt := 51) cd_L_orderOfDates_47 (by decide) ?_
          refine ze_iload 0 cd_L_orderOfDates_51 rfl ?_
          refine ze_if_eq (tgt := 60) cd_L_orderOfDates_53 (by decide) (fun c37 => ?_) (fun c37 => ?_)
          · skip
            have c37 := c37; rw [← nI_0] at c37
            have c37 : 1 = 0 := (nI_eq (by omega) (by omega)).mp c37
            refine ze_iconst (v := nI 0) cd_L_orderOfDates_60 (by decide) ?_
            refine ze_callSNp (rm' := zr_F_order) (As := [.int (nI 1), .int (nI 0)]) (rest := []) kc_F_order ⟨rfl, rfl⟩ zy_F_order_ok (host := "FindingAid") (by decide) zm_331 (by decide) (by decide) cd_L_orderOfDates_61 rfl rfl (Nat.le_of_ble_eq_true rfl) ?_
            refine ze_iret cd_L_orderOfDates_64 rfl (by decide) (by decide) (zPp_mk ?_)
            simp_all [zl_dates, nI]
          · skip
            have c37 := c37; rw [← nI_0] at c37
            have c37 : ¬ 1 = 0 := fun h9 => c37 (by rw [h9])
            refine ze_iconst (v := nI 1) cd_L_orderOfDates_56 (by decide) ?_
            refine ze_goto (tgt := 61) cd_L_orderOfDates_57 (by decide) ?_
            refine ze_callSNp (rm' := zr_F_order) (As := [.int (nI 1), .int (nI 1)]) (rest := []) kc_F_order ⟨rfl, rfl⟩ zy_F_order_ok (host := "FindingAid") (by decide) zm_331 (by decide) (by decide) cd_L_orderOfDates_61 rfl rfl (Nat.le_of_ble_eq_true rfl) ?_
            refine ze_iret cd_L_orderOfDates_64 rfl (by decide) (by decide) (zPp_mk ?_)
            simp_all [zl_dates, nI]
      · skip
        have c34 := c34; rw [← nI_0] at c34
        have c34 : 1 = 0 := (nI_eq (by omega) (by omega)).mp c34
        refine ze_iload 0 cd_L_orderOfDates_37 rfl ?_
        refine ze_if_eq (tgt := 65) cd_L_orderOfDates_39 (by decide) (fun c38 => ?_) (fun c38 => ?_)
        · skip
          have c38 := c38; rw [← nI_0] at c38
          have c38 : 1 = 0 := (nI_eq (by omega) (by omega)).mp c38
          refine ze_aload_n 2 cd_L_orderOfDates_65 rfl rfl ?_
          refine ze_get zin_L (v := .ref (a + 5)) (ci := 1) rfl 5 (by decide) zm_111 rfl cd_L_orderOfDates_66 h.1 rfl ?_
          refine ze_iload_n 3 cd_L_orderOfDates_69 rfl rfl ?_
          refine ze_iald (j := i) cd_L_orderOfDates_70 (h.2 4 _ rfl) rfl (by omega) (by decide) ?_
          refine ze_aload_n 2 cd_L_orderOfDates_71 rfl rfl ?_
          refine ze_get zin_L (v := .ref (a + 5)) (ci := 1) rfl 5 (by decide) zm_111 rfl cd_L_orderOfDates_72 h.1 rfl ?_
          refine ze_iload_n 4 cd_L_orderOfDates_75 rfl rfl ?_
          refine ze_iald (j := j) cd_L_orderOfDates_76 (h.2 4 _ rfl) rfl (by omega) (by decide) ?_
          refine ze_icmp_eq (tgt := 96) cd_L_orderOfDates_77 (by decide) (fun c39 => ?_) (fun c39 => ?_)
          · skip
            refine ze_aload_n 2 cd_L_orderOfDates_96 rfl rfl ?_
            refine ze_get zin_L (v := .ref (a + 6)) (ci := 1) rfl 6 (by decide) zm_115 rfl cd_L_orderOfDates_97 h.1 rfl ?_
            refine ze_iload_n 3 cd_L_orderOfDates_100 rfl rfl ?_
            refine ze_iald (j := i) cd_L_orderOfDates_101 (h.2 5 _ rfl) rfl (by omega) (by decide) ?_
            refine ze_aload_n 2 cd_L_orderOfDates_102 rfl rfl ?_
            refine ze_get zin_L (v := .ref (a + 6)) (ci := 1) rfl 6 (by decide) zm_115 rfl cd_L_orderOfDates_103 h.1 rfl ?_
            refine ze_iload_n 4 cd_L_orderOfDates_106 rfl rfl ?_
            refine ze_iald (j := j) cd_L_orderOfDates_107 (h.2 5 _ rfl) rfl (by omega) (by decide) ?_
            refine ze_icmp_eq (tgt := 127) cd_L_orderOfDates_108 (by decide) (fun c40 => ?_) (fun c40 => ?_)
            · skip
              refine ze_aload_n 2 cd_L_orderOfDates_127 rfl rfl ?_
              refine ze_get zin_L (v := .ref (a + 7)) (ci := 1) rfl 7 (by decide) zm_119 rfl cd_L_orderOfDates_128 h.1 rfl ?_
              refine ze_iload_n 3 cd_L_orderOfDates_131 rfl rfl ?_
              refine ze_iald (j := i) cd_L_orderOfDates_132 (h.2 6 _ rfl) rfl (by omega) (by decide) ?_
              refine ze_aload_n 2 cd_L_orderOfDates_133 rfl rfl ?_
              refine ze_get zin_L (v := .ref (a + 7)) (ci := 1) rfl 7 (by decide) zm_119 rfl cd_L_orderOfDates_134 h.1 rfl ?_
              refine ze_iload_n 4 cd_L_orderOfDates_137 rfl rfl ?_
              refine ze_iald (j := j) cd_L_orderOfDates_138 (h.2 6 _ rfl) rfl (by omega) (by decide) ?_
              refine ze_callSNp (rm' := zr_F_order) (As := [.int (R 6 i), .int (R 6 j)]) (rest := []) kc_F_order ⟨rfl, rfl⟩ zy_F_order_ok (host := "FindingAid") (by decide) zm_331 (by decide) (by decide) cd_L_orderOfDates_139 rfl rfl (Nat.le_of_ble_eq_true rfl) ?_
              refine ze_iret cd_L_orderOfDates_142 rfl (by decide) (by decide) (zPp_mk ?_)
              simp_all [zl_dates, nI]
            · skip
              refine ze_aload_n 2 cd_L_orderOfDates_111 rfl rfl ?_
              refine ze_get zin_L (v := .ref (a + 6)) (ci := 1) rfl 6 (by decide) zm_115 rfl cd_L_orderOfDates_112 h.1 rfl ?_
              refine ze_iload_n 3 cd_L_orderOfDates_115 rfl rfl ?_
              refine ze_iald (j := i) cd_L_orderOfDates_116 (h.2 5 _ rfl) rfl (by omega) (by decide) ?_
              refine ze_aload_n 2 cd_L_orderOfDates_117 rfl rfl ?_
              refine ze_get zin_L (v := .ref (a + 6)) (ci := 1) rfl 6 (by decide) zm_115 rfl cd_L_orderOfDates_118 h.1 rfl ?_
              refine ze_iload_n 4 cd_L_orderOfDates_121 rfl rfl ?_
              refine ze_iald (j := j) cd_L_orderOfDates_122 (h.2 5 _ rfl) rfl (by omega) (by decide) ?_
              refine ze_callSNp (rm' := zr_F_order) (As := [.int (R 5 i), .int (R 5 j)]) (rest := []) kc_F_order ⟨rfl, rfl⟩ zy_F_order_ok (host := "FindingAid") (by decide) zm_331 (by decide) (by decide) cd_L_orderOfDates_123 rfl rfl (Nat.le_of_ble_eq_true rfl) ?_
              refine ze_iret cd_L_orderOfDates_126 rfl (by decide) (by decide) (zPp_mk ?_)
              simp_all [zl_dates, nI]
          · skip
            refine ze_aload_n 2 cd_L_orderOfDates_80 rfl rfl ?_
            refine ze_get zin_L (v := .ref (a + 5)) (ci := 1) rfl 5 (by decide) zm_111 rfl cd_L_orderOfDates_81 h.1 rfl ?_
            refine ze_iload_n 3 cd_L_orderOfDates_84 rfl rfl ?_
            refine ze_iald (j := i) cd_L_orderOfDates_85 (h.2 4 _ rfl) rfl (by omega) (by decide) ?_
            refine ze_aload_n 2 cd_L_orderOfDates_86 rfl rfl ?_
            refine ze_get zin_L (v := .ref (a + 5)) (ci := 1) rfl 5 (by decide) zm_111 rfl cd_L_orderOfDates_87 h.1 rfl ?_
            refine ze_iload_n 4 cd_L_orderOfDates_90 rfl rfl ?_
            refine ze_iald (j := j) cd_L_orderOfDates_91 (h.2 4 _ rfl) rfl (by omega) (by decide) ?_
            refine ze_callSNp (rm' := zr_F_order) (As := [.int (R 4 i), .int (R 4 j)]) (rest := []) kc_F_order ⟨rfl, rfl⟩ zy_F_order_ok (host := "FindingAid") (by decide) zm_331 (by decide) (by decide) cd_L_orderOfDates_92 rfl rfl (Nat.le_of_ble_eq_true rfl) ?_
            refine ze_iret cd_L_orderOfDates_95 rfl (by decide) (by decide) (zPp_mk ?_)
            simp_all [zl_dates, nI]
        · skip
          have c38 := c38; rw [← nI_0] at c38
          have c38 : ¬ 1 = 0 := fun h9 => c38 (by rw [h9])
          refine ze_iload_n 1 cd_L_orderOfDates_42 rfl rfl ?_
          refine ze_if_eq (tgt := 50) cd_L_orderOfDates_43 (by decide) (fun c41 => ?_) (fun c41 => ?_)
          · skip
            have c41 := c41; rw [← nI_0] at c41
            have c41 : 1 = 0 := (nI_eq (by omega) (by omega)).mp c41
            refine ze_iconst (v := nI 0) cd_L_orderOfDates_50 (by decide) ?_
            refine ze_iload 0 cd_L_orderOfDates_51 rfl ?_
            refine ze_if_eq (tgt := 60) cd_L_orderOfDates_53 (by decide) (fun c42 => ?_) (fun c42 => ?_)
            · skip
              have c42 := c42; rw [← nI_0] at c42
              have c42 : 1 = 0 := (nI_eq (by omega) (by omega)).mp c42
              refine ze_iconst (v := nI 0) cd_L_orderOfDates_60 (by decide) ?_
              refine ze_callSNp (rm' := zr_F_order) (As := [.int (nI 0), .int (nI 0)]) (rest := []) kc_F_order ⟨rfl, rfl⟩ zy_F_order_ok (host := "FindingAid") (by decide) zm_331 (by decide) (by decide) cd_L_orderOfDates_61 rfl rfl (Nat.le_of_ble_eq_true rfl) ?_
              refine ze_iret cd_L_orderOfDates_64 rfl (by decide) (by decide) (zPp_mk ?_)
              simp_all [zl_dates, nI]
            · skip
              have c42 := c42; rw [← nI_0] at c42
              have c42 : ¬ 1 = 0 := fun h9 => c42 (by rw [h9])
              refine ze_iconst (v := nI 1) cd_L_orderOfDates_56 (by decide) ?_
              refine ze_goto (tgt := 61) cd_L_orderOfDates_57 (by decide) ?_
              refine ze_callSNp (rm' := zr_F_order) (As := [.int (nI 0), .int (nI 1)]) (rest := []) kc_F_order ⟨rfl, rfl⟩ zy_F_order_ok (host := "FindingAid") (by decide) zm_331 (by decide) (by decide) cd_L_orderOfDates_61 rfl rfl (Nat.le_of_ble_eq_true rfl) ?_
              refine ze_iret cd_L_orderOfDates_64 rfl (by decide) (by decide) (zPp_mk ?_)
              simp_all [zl_dates, nI]
          · skip
            have c41 := c41; rw [← nI_0] at c41
            have c41 : ¬ 1 = 0 := fun h9 => c41 (by rw [h9])
            refine ze_iconst (v := nI 1) cd_L_orderOfDates_46 (by decide) ?_
            refine ze_goto (tgt := 51) cd_L_orderOfDates_47 (by decide) ?_
            refine ze_iload 0 cd_L_orderOfDates_51 rfl ?_
            refine ze_if_eq (tgt := 60) cd_L_orderOfDates_53 (by decide) (fun c43 => ?_) (fun c43 => ?_)
            · skip
              have c43 := c43; rw [← nI_0] at c43
              have c43 : 1 = 0 := (nI_eq (by omega) (by omega)).mp c43
              refine ze_iconst (v := nI 0) cd_L_orderOfDates_60 (by decide) ?_
              refine ze_callSNp (rm' := zr_F_order) (As := [.int (nI 1), .int (nI 0)]) (rest := []) kc_F_order ⟨rfl, rfl⟩ zy_F_order_ok (host := "FindingAid") (by decide) zm_331 (by decide) (by decide) cd_L_orderOfDates_61 rfl rfl (Nat.le_of_ble_eq_true rfl) ?_
              refine ze_iret cd_L_orderOfDates_64 rfl (by decide) (by decide) (zPp_mk ?_)
              simp_all [zl_dates, nI]
            · skip
              have c43 := c43; rw [← nI_0] at c43
              have c43 : ¬ 1 = 0 := fun h9 => c43 (by rw [h9])
              refine ze_iconst (v := nI 1) cd_L_orderOfDates_56 (by decide) ?_
              refine ze_goto (tgt := 61) cd_L_orderOfDates_57 (by decide) ?_
              refine ze_callSNp (rm' := zr_F_order) (As := [.int (nI 1), .int (nI 1)]) (rest := []) kc_F_order ⟨rfl, rfl⟩ zy_F_order_ok (host := "FindingAid") (by decide) zm_331 (by decide) (by decide) cd_L_orderOfDates_61 rfl rfl (Nat.le_of_ble_eq_true rfl) ?_
              refine ze_iret cd_L_orderOfDates_64 rfl (by decide) (by decide) (zPp_mk ?_)
              simp_all [zl_dates, nI]
abbrev zr_L_deeperUnder : Room := { frames := 0, cells := 0, slots := 0, locals := 0 }
set_option maxRecDepth 100000 in
set_option maxHeartbeats 4000000 in
theorem kc_L_deeperUnder {g : zx_G} {σ : zx_M} {sz : Nat} {a n : Nat} {R : Nat → Nat → Int32} {i u : Nat} (h : zl g σ a n R) (hi : i < 100) (hu : u < 100) : zM g cy_L_deeperUnder cb_L_deeperUnder 3 (Option.some Jvm.ClassFile.FieldType.int) zr_L_deeperUnder 0 0 [.ref a, .int (nI i), .int (nI u)] σ sz (zPp (R 3 u + 1 - R 3 i) σ sz) := by
  refine zM_of (lv := [(0, .ref a), (1, .int (nI i)), (2, .int (nI u))]) (ini := false) (by decide) rfl (by decide) (Nat.le_of_ble_eq_true rfl) rfl ?_
  refine ze_aload_n 0 cd_L_deeperUnder_0 rfl rfl ?_
  refine ze_get zin_L (v := .ref (a + 4)) (ci := 1) rfl 4 (by decide) zm_106 rfl cd_L_deeperUnder_1 h.1 rfl ?_
  refine ze_iload_n 2 cd_L_deeperUnder_4 rfl rfl ?_
  refine ze_iald (j := u) cd_L_deeperUnder_5 (h.2 3 _ rfl) rfl (by omega) (by decide) ?_
  refine ze_iconst (v := nI 1) cd_L_deeperUnder_6 (by decide) ?_
  refine ze_iadd cd_L_deeperUnder_7 ?_
  refine ze_aload_n 0 cd_L_deeperUnder_8 rfl rfl ?_
  refine ze_get zin_L (v := .ref (a + 4)) (ci := 1) rfl 4 (by decide) zm_106 rfl cd_L_deeperUnder_9 h.1 rfl ?_
  refine ze_iload_n 1 cd_L_deeperUnder_12 rfl rfl ?_
  refine ze_iald (j := i) cd_L_deeperUnder_13 (h.2 3 _ rfl) rfl (by omega) (by decide) ?_
  refine ze_isub cd_L_deeperUnder_14 ?_
  refine ze_iret cd_L_deeperUnder_15 rfl (by decide) (by decide) (zPp_mk ?_)
  rfl
abbrev zr_L_isBehind : Room := { frames := 0, cells := 0, slots := 0, locals := 0 }
set_option maxRecDepth 100000 in
set_option maxHeartbeats 4000000 in
theorem kc_L_isBehind {g : zx_G} {σ : zx_M} {sz : Nat} {a n : Nat} {R : Nat → Nat → Int32} {i j : Nat} (h : zl g σ a n R) (hi : i < 100) (hj : j < 100) : zM g cy_L_isBehind cb_L_isBehind 3 (Option.some Jvm.ClassFile.FieldType.boolean) zr_L_isBehind 0 0 [.ref a, .int (nI i), .int (nI j)] σ sz (zPp (zb (zl_beh R i j)) σ sz) := by
  refine zM_of (lv := [(0, .ref a), (1, .int (nI i)), (2, .int (nI j))]) (ini := false) (by decide) rfl (by decide) (Nat.le_of_ble_eq_true rfl) rfl ?_
  refine ze_aload_n 0 cd_L_isBehind_0 rfl rfl ?_
  refine ze_get zin_L (v := .ref (a + 2)) (ci := 1) rfl 2 (by decide) zm_98 rfl cd_L_isBehind_1 h.1 rfl ?_
  refine ze_iload_n 1 cd_L_isBehind_4 rfl rfl ?_
  refine ze_iald (j := i) cd_L_isBehind_5 (h.2 1 _ rfl) rfl (by omega) (by decide) ?_
  refine ze_aload_n 0 cd_L_isBehind_6 rfl rfl ?_
  refine ze_get zin_L (v := .ref (a + 2)) (ci := 1) rfl 2 (by decide) zm_98 rfl cd_L_isBehind_7 h.1 rfl ?_
  refine ze_iload_n 2 cd_L_isBehind_10 rfl rfl ?_
  refine ze_iald (j := j) cd_L_isBehind_11 (h.2 1 _ rfl) rfl (by omega) (by decide) ?_
  refine ze_icmp_eq (tgt := 36) cd_L_isBehind_12 (by decide) (fun c1 => ?_) (fun c1 => ?_)
  · skip
    refine ze_iload_n 1 cd_L_isBehind_36 rfl rfl ?_
    refine ze_iload_n 2 cd_L_isBehind_37 rfl rfl ?_
    refine ze_icmp_le (tgt := 45) cd_L_isBehind_38 (by decide) (fun c2 => ?_) (fun c2 => ?_)
    · skip
      have c2 : i ≤ j := (nI_leI (by omega) (by omega)).mp c2
      refine ze_iconst (v := nI 0) cd_L_isBehind_45 (by decide) ?_
      refine ze_zret cd_L_isBehind_46 rfl (by decide) (by decide) (by decide) (zPp_mk ?_)
      simp_all [zl_beh, zb, nI]
    · skip
      have c2 : ¬ i ≤ j := fun h9 => c2 ((nI_leI (by omega) (by omega)).mpr h9)
      refine ze_iconst (v := nI 1) cd_L_isBehind_41 (by decide) ?_
      refine ze_goto (tgt := 46) cd_L_isBehind_42 (by decide) ?_
      refine ze_zret cd_L_isBehind_46 rfl (by decide) (by decide) (by decide) (zPp_mk ?_)
      simp_all [zl_beh, zb, nI]
  · skip
    refine ze_aload_n 0 cd_L_isBehind_15 rfl rfl ?_
    refine ze_get zin_L (v := .ref (a + 2)) (ci := 1) rfl 2 (by decide) zm_98 rfl cd_L_isBehind_16 h.1 rfl ?_
    refine ze_iload_n 1 cd_L_isBehind_19 rfl rfl ?_
    refine ze_iald (j := i) cd_L_isBehind_20 (h.2 1 _ rfl) rfl (by omega) (by decide) ?_
    refine ze_aload_n 0 cd_L_isBehind_21 rfl rfl ?_
    refine ze_get zin_L (v := .ref (a + 2)) (ci := 1) rfl 2 (by decide) zm_98 rfl cd_L_isBehind_22 h.1 rfl ?_
    refine ze_iload_n 2 cd_L_isBehind_25 rfl rfl ?_
    refine ze_iald (j := j) cd_L_isBehind_26 (h.2 1 _ rfl) rfl (by omega) (by decide) ?_
    refine ze_icmp_le (tgt := 34) cd_L_isBehind_27 (by decide) (fun c3 => ?_) (fun c3 => ?_)
    · skip
      have c3 : ¬ (R 1 j) < (R 1 i) := Int32.not_lt.mpr c3
      refine ze_iconst (v := nI 0) cd_L_isBehind_34 (by decide) ?_
      refine ze_zret cd_L_isBehind_35 rfl (by decide) (by decide) (by decide) (zPp_mk ?_)
      simp_all [zl_beh, zb, nI]
    · skip
      have c3 : (R 1 j) < (R 1 i) := Int32.not_le.mp c3
      refine ze_iconst (v := nI 1) cd_L_isBehind_30 (by decide) ?_
      refine ze_goto (tgt := 35) cd_L_isBehind_31 (by decide) ?_
      refine ze_zret cd_L_isBehind_35 rfl (by decide) (by decide) (by decide) (zPp_mk ?_)
      simp_all [zl_beh, zb, nI]
