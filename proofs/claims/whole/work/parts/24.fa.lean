/-! FINDINGAID: the public methods -/
abbrev zfa (g : zx_G) (σ : zx_M) (b t e s k p x y : Nat) : Prop := zob g σ b 6 [.ref t, .ref e, .ref s, .ref k, .ref p, .ref x, .ref y] [] (fun _ _ => 0)
def zf_level (n : Nat) (R : Nat → Nat → Int32) (i what : Int32) : Int32 := match zi n i with
  | none => -1
  | some j => match zi 10 what with
    | none => -1
    | some w => R w j
def zf_letter (n : Nat) (R : Nat → Nat → Int32) (i k : Int32) : Int32 := match zi n i with
  | none => -1
  | some j => match zi (zl_t R j) k with
    | none => -1
    | some q => R 10 (j * 16 + q)
def zf_cmp (n : Nat) (R : Nat → Nat → Int32) (i j : Int32) : Int32 := match zi n i with
  | none => -2
  | some a => match zi n j with
    | none => -2
    | some b => zl_dates R a b
def zf_pick (p : Nat → Bool) (i : Int32) : Nat → Nat → Nat → Int32
  | 0, _, _ => -1
  | kk + 1, x, f => if p x then (if nI f = i then nI x else zf_pick p i kk (x + 1) (f + 1)) else zf_pick p i kk (x + 1) f
def zf_rst (n : Nat) (ab re : Nat → Int32) : Nat → Int32 → Int32
  | 0, _ => 0
  | k + 1, x => match zi n x with
    | none => 0
    | some j => if re j = 0 then zf_rst n ab re k (ab j) else re j
def zf_rstd (n : Nat) (R N : Nat → Nat → Int32) (i kd : Int32) : Int32 := match zi n i with
  | none => -1
  | some _ => match zi 4 kd with
    | none => -2
    | some q => zf_rst n (R 2) (fun j => N 0 (j * 4 + q)) 9 i
def zf_shn (n : Nat) (ab hid : Nat → Int32) : Nat → Int32 → Bool
  | 0, _ => true
  | k + 1, x => match zi n x with
    | none => true
    | some j => if hid j = 0 then zf_shn n ab hid k (ab j) else false
theorem zi_none_out {n : Nat} {x : Int32} (hn : n < 2 ^ 31) (h : zi n x = none) : x.toInt < 0 ∨ ((n : Int) - 1) < x.toInt := by
  unfold zi at h
  split at h
  · cases h
  · rename_i h1
    rw [Int32.le_iff_toInt_le, Int32.lt_iff_toInt_lt, nI_toInt hn, Int32.toInt_zero] at h1
    omega
abbrev zr_F_place : Room := { frames := 0, cells := 0, slots := 0, locals := 0 }
set_option maxRecDepth 100000 in
set_option maxHeartbeats 4000000 in
theorem kc_F_place {g : zx_G} {σ : zx_M} {sz : Nat} {b t e s k p x y : Nat} {len nx lv : Nat} {wr : Int32} {W : Nat → Int32} (hB : zfa g σ b t e s k p x y) (hO : zt g σ t len nx wr lv W) : zM g cy_F_place cb_F_place 1 (Option.some Jvm.ClassFile.FieldType.int) zr_F_place 0 0 [.ref b] σ sz (zPp wr σ sz) := by
  refine zM_of (lv := [(0, .ref b)]) (ini := false) (by decide) rfl (by decide) (Nat.le_of_ble_eq_true rfl) rfl ?_
  refine ze_aload_n 0 cd_F_place_0 rfl rfl ?_
  refine ze_get zin_F (v := .ref t) (ci := 6) rfl 0 (by decide) zm_272 rfl cd_F_place_1 hB.1 rfl ?_
  refine ze_get zin_T (v := .int wr) (ci := 5) rfl 3 (by decide) zm_168 rfl cd_F_place_4 hO.1 rfl ?_
  refine ze_iret cd_F_place_7 rfl (by decide) (by decide) (zPp_mk ?_)
  rfl
abbrev zr_F_level : Room := { frames := 1, cells := 0, slots := 0, locals := 21 }
set_option maxRecDepth 100000 in
set_option maxHeartbeats 4000000 in
theorem kc_F_level {g : zx_G} {σ : zx_M} {sz : Nat} {b t e s k p x y : Nat} {n : Nat} {R : Nat → Nat → Int32} {i what : Int32} (hB : zfa g σ b t e s k p x y) (h : zl g σ x n R) (hn : n ≤ 100) : zM g cy_F_level cb_F_level 3 (Option.some Jvm.ClassFile.FieldType.int) zr_F_level 0 0 [.ref b, .int i, .int what] σ sz (zPp (zf_level n R i what) σ sz) := by
  refine zM_of (lv := [(0, .ref b), (1, .int i), (2, .int what)]) (ini := false) (by decide) rfl (by decide) (Nat.le_of_ble_eq_true rfl) rfl ?_
  refine ze_aload_n 0 cd_F_level_0 rfl rfl ?_
  refine ze_get zin_F (v := .ref x) (ci := 6) rfl 5 (by decide) zm_277 rfl cd_F_level_1 hB.1 rfl ?_
  refine ze_iload_n 1 cd_F_level_4 rfl rfl ?_
  refine ze_callVp (rm' := zr_L_has) (b := x) (As := [.int i]) (rest := []) (kc_L_has h) ⟨rfl, rfl⟩ zy_L_has_ok zm_310 zm_311 zm_312 (ci := 1) rfl rfl (by decide) (by decide) cd_F_level_5 h.1 rfl rfl (Nat.le_of_ble_eq_true rfl) ?_
  refine ze_if_ne (tgt := 13) cd_F_level_8 (by decide) (fun c1 => ?_) (fun c1 => ?_)
  · skip
    have c1 : ((zi n i).isSome) = true := zb_t c1
    obtain ⟨j, hj⟩ := Option.isSome_iff_exists.mp c1
    obtain ⟨hjn, rfl⟩ := zi_some (by omega) hj
    refine ze_iload_n 2 cd_F_level_13 rfl rfl ?_
    cases hw : zi 10 what with
    | none =>
      refine ze_tableOut (tgt := 168) cd_F_level_14 (by have := zi_none_out (by decide) hw; omega) (by decide) ?_
      refine ze_iconst (v := (-1 : Int32)) cd_F_level_168 (by decide) ?_
      refine ze_iret cd_F_level_169 rfl (by decide) (by decide) (zPp_mk ?_)
      simp only [zf_level, hj, hw]
    | some w9 =>
      obtain ⟨hw9, rfl⟩ := zi_some (by decide) hw
      rcases (show w9 = 0 ∨ w9 = 1 ∨ w9 = 2 ∨ w9 = 3 ∨ w9 = 4 ∨ w9 = 5 ∨ w9 = 6 ∨ w9 = 7 ∨ w9 = 8 ∨ w9 = 9 by omega) with rfl | rfl | rfl | rfl | rfl | rfl | rfl | rfl | rfl | rfl
      · refine ze_tableIn (off := 54) (tgt := 68) cd_F_level_14 (by decide) (by decide) (by decide) (by decide) ?_
        refine ze_aload_n 0 cd_F_level_68 rfl rfl ?_
        refine ze_get zin_F (v := .ref x) (ci := 6) rfl 5 (by decide) zm_277 rfl cd_F_level_69 hB.1 rfl ?_
        refine ze_get zin_L (v := .ref (x + 1)) (ci := 1) rfl 1 (by decide) zm_96 rfl cd_F_level_72 h.1 rfl ?_
        refine ze_iload_n 1 cd_F_level_75 rfl rfl ?_
        refine ze_iald (j := j) cd_F_level_76 (h.2 0 _ rfl) rfl (by omega) (by decide) ?_
        refine ze_iret cd_F_level_77 rfl (by decide) (by decide) (zPp_mk ?_)
        simp only [zf_level, hj, hw]
      · refine ze_tableIn (off := 64) (tgt := 78) cd_F_level_14 (by decide) (by decide) (by decide) (by decide) ?_
        refine ze_aload_n 0 cd_F_level_78 rfl rfl ?_
        refine ze_get zin_F (v := .ref x) (ci := 6) rfl 5 (by decide) zm_277 rfl cd_F_level_79 hB.1 rfl ?_
        refine ze_get zin_L (v := .ref (x + 2)) (ci := 1) rfl 2 (by decide) zm_100 rfl cd_F_level_82 h.1 rfl ?_
        refine ze_iload_n 1 cd_F_level_85 rfl rfl ?_
        refine ze_iald (j := j) cd_F_level_86 (h.2 1 _ rfl) rfl (by omega) (by decide) ?_
        refine ze_iret cd_F_level_87 rfl (by decide) (by decide) (zPp_mk ?_)
        simp only [zf_level, hj, hw]
      · refine ze_tableIn (off := 74) (tgt := 88) cd_F_level_14 (by decide) (by decide) (by decide) (by decide) ?_
        refine ze_aload_n 0 cd_F_level_88 rfl rfl ?_
        refine ze_get zin_F (v := .ref x) (ci := 6) rfl 5 (by decide) zm_277 rfl cd_F_level_89 hB.1 rfl ?_
        refine ze_get zin_L (v := .ref (x + 3)) (ci := 1) rfl 3 (by decide) zm_104 rfl cd_F_level_92 h.1 rfl ?_
        refine ze_iload_n 1 cd_F_level_95 rfl rfl ?_
        refine ze_iald (j := j) cd_F_level_96 (h.2 2 _ rfl) rfl (by omega) (by decide) ?_
        refine ze_iret cd_F_level_97 rfl (by decide) (by decide) (zPp_mk ?_)
        simp only [zf_level, hj, hw]
      · refine ze_tableIn (off := 84) (tgt := 98) cd_F_level_14 (by decide) (by decide) (by decide) (by decide) ?_
        refine ze_aload_n 0 cd_F_level_98 rfl rfl ?_
        refine ze_get zin_F (v := .ref x) (ci := 6) rfl 5 (by decide) zm_277 rfl cd_F_level_99 hB.1 rfl ?_
        refine ze_get zin_L (v := .ref (x + 4)) (ci := 1) rfl 4 (by decide) zm_109 rfl cd_F_level_102 h.1 rfl ?_
        refine ze_iload_n 1 cd_F_level_105 rfl rfl ?_
        refine ze_iald (j := j) cd_F_level_106 (h.2 3 _ rfl) rfl (by omega) (by decide) ?_
        refine ze_iret cd_F_level_107 rfl (by decide) (by decide) (zPp_mk ?_)
        simp only [zf_level, hj, hw]
      · refine ze_tableIn (off := 94) (tgt := 108) cd_F_level_14 (by decide) (by decide) (by decide) (by decide) ?_
        refine ze_aload_n 0 cd_F_level_108 rfl rfl ?_
        refine ze_get zin_F (v := .ref x) (ci := 6) rfl 5 (by decide) zm_277 rfl cd_F_level_109 hB.1 rfl ?_
        refine ze_get zin_L (v := .ref (x + 5)) (ci := 1) rfl 5 (by decide) zm_113 rfl cd_F_level_112 h.1 rfl ?_
        refine ze_iload_n 1 cd_F_level_115 rfl rfl ?_
        refine ze_iald (j := j) cd_F_level_116 (h.2 4 _ rfl) rfl (by omega) (by decide) ?_
        refine ze_iret cd_F_level_117 rfl (by decide) (by decide) (zPp_mk ?_)
        simp only [zf_level, hj, hw]
      · refine ze_tableIn (off := 104) (tgt := 118) cd_F_level_14 (by decide) (by decide) (by decide) (by decide) ?_
        refine ze_aload_n 0 cd_F_level_118 rfl rfl ?_
        refine ze_get zin_F (v := .ref x) (ci := 6) rfl 5 (by decide) zm_277 rfl cd_F_level_119 hB.1 rfl ?_
        refine ze_get zin_L (v := .ref (x + 6)) (ci := 1) rfl 6 (by decide) zm_117 rfl cd_F_level_122 h.1 rfl ?_
        refine ze_iload_n 1 cd_F_level_125 rfl rfl ?_
        refine ze_iald (j := j) cd_F_level_126 (h.2 5 _ rfl) rfl (by omega) (by decide) ?_
        refine ze_iret cd_F_level_127 rfl (by decide) (by decide) (zPp_mk ?_)
        simp only [zf_level, hj, hw]
      · refine ze_tableIn (off := 114) (tgt := 128) cd_F_level_14 (by decide) (by decide) (by decide) (by decide) ?_
        refine ze_aload_n 0 cd_F_level_128 rfl rfl ?_
        refine ze_get zin_F (v := .ref x) (ci := 6) rfl 5 (by decide) zm_277 rfl cd_F_level_129 hB.1 rfl ?_
        refine ze_get zin_L (v := .ref (x + 7)) (ci := 1) rfl 7 (by decide) zm_121 rfl cd_F_level_132 h.1 rfl ?_
        refine ze_iload_n 1 cd_F_level_135 rfl rfl ?_
        refine ze_iald (j := j) cd_F_level_136 (h.2 6 _ rfl) rfl (by omega) (by decide) ?_
        refine ze_iret cd_F_level_137 rfl (by decide) (by decide) (zPp_mk ?_)
        simp only [zf_level, hj, hw]
      · refine ze_tableIn (off := 124) (tgt := 138) cd_F_level_14 (by decide) (by decide) (by decide) (by decide) ?_
        refine ze_aload_n 0 cd_F_level_138 rfl rfl ?_
        refine ze_get zin_F (v := .ref x) (ci := 6) rfl 5 (by decide) zm_277 rfl cd_F_level_139 hB.1 rfl ?_
        refine ze_get zin_L (v := .ref (x + 8)) (ci := 1) rfl 8 (by decide) zm_126 rfl cd_F_level_142 h.1 rfl ?_
        refine ze_iload_n 1 cd_F_level_145 rfl rfl ?_
        refine ze_iald (j := j) cd_F_level_146 (h.2 7 _ rfl) rfl (by omega) (by decide) ?_
        refine ze_iret cd_F_level_147 rfl (by decide) (by decide) (zPp_mk ?_)
        simp only [zf_level, hj, hw]
      · refine ze_tableIn (off := 134) (tgt := 148) cd_F_level_14 (by decide) (by decide) (by decide) (by decide) ?_
        refine ze_aload_n 0 cd_F_level_148 rfl rfl ?_
        refine ze_get zin_F (v := .ref x) (ci := 6) rfl 5 (by decide) zm_277 rfl cd_F_level_149 hB.1 rfl ?_
        refine ze_get zin_L (v := .ref (x + 9)) (ci := 1) rfl 9 (by decide) zm_131 rfl cd_F_level_152 h.1 rfl ?_
        refine ze_iload_n 1 cd_F_level_155 rfl rfl ?_
        refine ze_iald (j := j) cd_F_level_156 (h.2 8 _ rfl) rfl (by omega) (by decide) ?_
        refine ze_iret cd_F_level_157 rfl (by decide) (by decide) (zPp_mk ?_)
        simp only [zf_level, hj, hw]
      · refine ze_tableIn (off := 144) (tgt := 158) cd_F_level_14 (by decide) (by decide) (by decide) (by decide) ?_
        refine ze_aload_n 0 cd_F_level_158 rfl rfl ?_
        refine ze_get zin_F (v := .ref x) (ci := 6) rfl 5 (by decide) zm_277 rfl cd_F_level_159 hB.1 rfl ?_
        refine ze_get zin_L (v := .ref (x + 10)) (ci := 1) rfl 10 (by decide) zm_135 rfl cd_F_level_162 h.1 rfl ?_
        refine ze_iload_n 1 cd_F_level_165 rfl rfl ?_
        refine ze_iald (j := j) cd_F_level_166 (h.2 9 _ rfl) rfl (by omega) (by decide) ?_
        refine ze_iret cd_F_level_167 rfl (by decide) (by decide) (zPp_mk ?_)
        simp only [zf_level, hj, hw]
  · skip
    have c1 : ((zi n i).isSome) = false := zb_f c1
    have c1 : zi n i = none := by simpa using c1
    refine ze_iconst (v := (-1 : Int32)) cd_F_level_11 (by decide) ?_
    refine ze_iret cd_F_level_12 rfl (by decide) (by decide) (zPp_mk ?_)
    simp only [zf_level, c1]
abbrev zr_F_letter : Room := { frames := 1, cells := 0, slots := 0, locals := 22 }
set_option maxRecDepth 100000 in
set_option maxHeartbeats 4000000 in
theorem kc_F_letter {g : zx_G} {σ : zx_M} {sz : Nat} {b t e s k p x y : Nat} {n : Nat} {R : Nat → Nat → Int32} {i k9 : Int32} (hB : zfa g σ b t e s k p x y) (h : zl g σ x n R) (hn : n ≤ 100) (hT : zl_T n R) : zM g cy_F_letter cb_F_letter 3 (Option.some Jvm.ClassFile.FieldType.int) zr_F_letter 0 0 [.ref b, .int i, .int k9] σ sz (zPp (zf_letter n R i k9) σ sz) := by
  refine zM_of (lv := [(0, .ref b), (1, .int i), (2, .int k9)]) (ini := false) (by decide) rfl (by decide) (Nat.le_of_ble_eq_true rfl) rfl ?_
  refine ze_aload_n 0 cd_F_letter_0 rfl rfl ?_
  refine ze_get zin_F (v := .ref x) (ci := 6) rfl 5 (by decide) zm_277 rfl cd_F_letter_1 hB.1 rfl ?_
  refine ze_iload_n 1 cd_F_letter_4 rfl rfl ?_
  refine ze_callVp (rm' := zr_L_has) (b := x) (As := [.int i]) (rest := []) (kc_L_has h) ⟨rfl, rfl⟩ zy_L_has_ok zm_310 zm_311 zm_312 (ci := 1) rfl rfl (by decide) (by decide) cd_F_letter_5 h.1 rfl rfl (Nat.le_of_ble_eq_true rfl) ?_
  refine ze_if_eq (tgt := 28) cd_F_letter_8 (by decide) (fun c1 => ?_) (fun c1 => ?_)
  · skip
    have c1 : ((zi n i).isSome) = false := zb_f c1
    have c1 : zi n i = none := by simpa using c1
    refine ze_iconst (v := (-1 : Int32)) cd_F_letter_28 (by decide) ?_
    refine ze_iret cd_F_letter_29 rfl (by decide) (by decide) (zPp_mk ?_)
    first | (simp only [zf_letter, c1]; done) | (simp only [zf_letter, zi_ltz c2]; done) | (simp only [zf_letter, zi_hi c3]; done) | (simp only [zf_letter]; done)
  · skip
    have c1 : ((zi n i).isSome) = true := zb_t c1
    obtain ⟨j, hj⟩ := Option.isSome_iff_exists.mp c1
    obtain ⟨hjn, rfl⟩ := zi_some (by omega) hj
    obtain ⟨ht, ht2⟩ := hT j hjn
    refine ze_iload_n 2 cd_F_letter_11 rfl rfl ?_
    refine ze_if_lt (tgt := 28) cd_F_letter_12 (by decide) (fun c2 => ?_) (fun c2 => ?_)
    · skip
      refine ze_iconst (v := (-1 : Int32)) cd_F_letter_28 (by decide) ?_
      refine ze_iret cd_F_letter_29 rfl (by decide) (by decide) (zPp_mk ?_)
      first | (simp only [zf_letter, hj, c2]; done) | (simp only [zf_letter, hj, zi_ltz c2]; done) | (simp only [zf_letter, hj, zi_hi c3]; done) | (simp only [zf_letter, hj]; done)
    · skip
      refine ze_iload_n 2 cd_F_letter_15 rfl rfl ?_
      refine ze_aload_n 0 cd_F_letter_16 rfl rfl ?_
      refine ze_get zin_F (v := .ref x) (ci := 6) rfl 5 (by decide) zm_277 rfl cd_F_letter_17 hB.1 rfl ?_
      refine ze_get zin_L (v := .ref (x + 10)) (ci := 1) rfl 10 (by decide) zm_135 rfl cd_F_letter_20 h.1 rfl ?_
      refine ze_iload_n 1 cd_F_letter_23 rfl rfl ?_
      refine ze_iald (j := j) cd_F_letter_24 (h.2 9 _ rfl) rfl (by omega) (by decide) ?_
      refine ze_top ht ?_
      refine ze_icmp_lt (tgt := 30) cd_F_letter_25 (by decide) (fun c3 => ?_) (fun c3 => ?_)
      · skip
        obtain ⟨q, hq9, rfl⟩ : ∃ q, zi (zl_t R j) k9 = some q ∧ k9 = nI q := ⟨_, zi_ok2 c2 c3, (zi_some (by omega) (zi_ok2 c2 c3)).2⟩
        have hqn := (zi_some (by omega) hq9).1
        refine ze_aload_n 0 cd_F_letter_30 rfl rfl ?_
        refine ze_get zin_F (v := .ref x) (ci := 6) rfl 5 (by decide) zm_277 rfl cd_F_letter_31 hB.1 rfl ?_
        refine ze_iload_n 1 cd_F_letter_34 rfl rfl ?_
        refine ze_iload_n 2 cd_F_letter_35 rfl rfl ?_
        refine ze_callVp (rm' := zr_L_titleSign) (b := x) (As := [.int (nI j), .int (nI q)]) (rest := []) (kc_L_titleSign h (by omega) (by omega)) ⟨rfl, rfl⟩ zy_L_titleSign_ok zm_318 zm_319 zm_320 (ci := 1) rfl rfl (by decide) (by decide) cd_F_letter_36 h.1 rfl rfl (Nat.le_of_ble_eq_true rfl) ?_
        refine ze_iret cd_F_letter_39 rfl (by decide) (by decide) (zPp_mk ?_)
        first | (simp only [zf_letter, hj, hq9]; done) | (simp only [zf_letter, hj, hq9, zi_ltz c2]; done) | (simp only [zf_letter, hj, hq9, zi_hi c3]; done) | (simp only [zf_letter, hj, hq9]; done)
      · skip
        refine ze_iconst (v := (-1 : Int32)) cd_F_letter_28 (by decide) ?_
        refine ze_iret cd_F_letter_29 rfl (by decide) (by decide) (zPp_mk ?_)
        first | (simp only [zf_letter, hj, c2, c3]; done) | (simp only [zf_letter, hj, zi_ltz c2]; done) | (simp only [zf_letter, hj, zi_hi c3]; done) | (simp only [zf_letter, hj]; done)
abbrev zr_F_compare : Room := { frames := 2, cells := 0, slots := 0, locals := 45 }
set_option maxRecDepth 100000 in
set_option maxHeartbeats 4000000 in
theorem kc_F_compare {g : zx_G} {σ : zx_M} {sz : Nat} {b t e s k p x y : Nat} {n : Nat} {R : Nat → Nat → Int32} {i j : Int32} (hB : zfa g σ b t e s k p x y) (h : zl g σ x n R) (hn : n ≤ 100) : zM g cy_F_compare cb_F_compare 3 (Option.some Jvm.ClassFile.FieldType.int) zr_F_compare 0 0 [.ref b, .int i, .int j] σ sz (zPp (zf_cmp n R i j) σ sz) := by
  refine zM_of (lv := [(0, .ref b), (1, .int i), (2, .int j)]) (ini := false) (by decide) rfl (by decide) (Nat.le_of_ble_eq_true rfl) rfl ?_
  refine ze_aload_n 0 cd_F_compare_0 rfl rfl ?_
  refine ze_get zin_F (v := .ref x) (ci := 6) rfl 5 (by decide) zm_277 rfl cd_F_compare_1 hB.1 rfl ?_
  refine ze_iload_n 1 cd_F_compare_4 rfl rfl ?_
  refine ze_callVp (rm' := zr_L_has) (b := x) (As := [.int i]) (rest := []) (kc_L_has h) ⟨rfl, rfl⟩ zy_L_has_ok zm_310 zm_311 zm_312 (ci := 1) rfl rfl (by decide) (by decide) cd_F_compare_5 h.1 rfl rfl (Nat.le_of_ble_eq_true rfl) ?_
  refine ze_if_eq (tgt := 22) cd_F_compare_8 (by decide) (fun c1 => ?_) (fun c1 => ?_)
  · skip
    have c1 : ((zi n i).isSome) = false := zb_f c1
    have c1 : zi n i = none := by simpa using c1
    refine ze_bipush (v := (-2 : Int32)) cd_F_compare_22 (by decide) ?_
    refine ze_iret cd_F_compare_24 rfl (by decide) (by decide) (zPp_mk ?_)
    simp only [zf_cmp, c1]
  · skip
    have c1 : ((zi n i).isSome) = true := zb_t c1
    obtain ⟨i9, hi9⟩ := Option.isSome_iff_exists.mp c1
    obtain ⟨hi9n, rfl⟩ := zi_some (by omega) hi9
    refine ze_aload_n 0 cd_F_compare_11 rfl rfl ?_
    refine ze_get zin_F (v := .ref x) (ci := 6) rfl 5 (by decide) zm_277 rfl cd_F_compare_12 hB.1 rfl ?_
    refine ze_iload_n 2 cd_F_compare_15 rfl rfl ?_
    refine ze_callVp (rm' := zr_L_has) (b := x) (As := [.int j]) (rest := []) (kc_L_has h) ⟨rfl, rfl⟩ zy_L_has_ok zm_310 zm_311 zm_312 (ci := 1) rfl rfl (by decide) (by decide) cd_F_compare_16 h.1 rfl rfl (Nat.le_of_ble_eq_true rfl) ?_
    refine ze_if_ne (tgt := 25) cd_F_compare_19 (by decide) (fun c2 => ?_) (fun c2 => ?_)
    · skip
      have c2 : ((zi n j).isSome) = true := zb_t c2
      obtain ⟨j9, hj9⟩ := Option.isSome_iff_exists.mp c2
      obtain ⟨hj9n, rfl⟩ := zi_some (by omega) hj9
      refine ze_aload_n 0 cd_F_compare_25 rfl rfl ?_
      refine ze_get zin_F (v := .ref x) (ci := 6) rfl 5 (by decide) zm_277 rfl cd_F_compare_26 hB.1 rfl ?_
      refine ze_iload_n 1 cd_F_compare_29 rfl rfl ?_
      refine ze_iload_n 2 cd_F_compare_30 rfl rfl ?_
      refine ze_callVp (rm' := zr_L_orderOfDates) (b := x) (As := [.int (nI i9), .int (nI j9)]) (rest := []) (kc_L_orderOfDates h (by omega) (by omega)) ⟨rfl, rfl⟩ zy_L_orderOfDates_ok zm_326 zm_327 zm_328 (ci := 1) rfl rfl (by decide) (by decide) cd_F_compare_31 h.1 rfl rfl (Nat.le_of_ble_eq_true rfl) ?_
      refine ze_iret cd_F_compare_34 rfl (by decide) (by decide) (zPp_mk ?_)
      simp only [zf_cmp, hi9, hj9]
    · skip
      have c2 : ((zi n j).isSome) = false := zb_f c2
      have c2 : zi n j = none := by simpa using c2
      refine ze_bipush (v := (-2 : Int32)) cd_F_compare_22 (by decide) ?_
      refine ze_iret cd_F_compare_24 rfl (by decide) (by decide) (zPp_mk ?_)
      simp only [zf_cmp, hi9, c2]
