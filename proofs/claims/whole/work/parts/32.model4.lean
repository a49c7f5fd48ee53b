def zm_lm (i : Nat) (dp : Nat → Nat) : Nat := if i = 100 then 0 else min 8 (dp (i - 1) + 1)
def zm_pl (c : Nat → Int32) (lm : Nat) : Nat → Nat → Nat → Bool × Nat × Nat
  | 0, n, ps => (false, n, ps)
  | kk + 1, n, ps => if c ps = nI 43 then (if n = lm then (false, n, ps) else zm_pl c lm kk (n + 1) (ps + 1)) else (true, n, ps)
def zclimb (pa : Nat → Option Nat) (dp : Nat → Nat) (n : Nat) : Nat → Nat → Nat
  | 0, j => j
  | k + 1, j => if dp j < n then j else match pa j with
    | none => j
    | some p => zclimb pa dp n k p
def zm_pf (c : Nat → Int32) (i ps : Nat) (o : Option Nat) (M : Nat → Nat → Int32) : zqs := match zt_ix zc_k1 4 (c ps) with
  | none => (false, ps, M)
  | some k => match o with
    | none => (true, ps + 1, va_up (va_up M 1 (upd (M 1) i (nI k))) 3 (upd (M 3) i (-1)))
    | some p => if M 1 p = nI 3 then (false, ps, M) else if nI k < M 1 p then (false, ps, M) else (true, ps + 1, va_up (va_up M 1 (upd (M 1) i (nI k))) 3 (upd (M 3) i (nI p)))
def zm_place (c : Nat → Int32) (i : Nat) (pa : Nat → Option Nat) (dp : Nat → Nat) (ps : Nat) (M : Nat → Nat → Int32) : zqs := match zm_pl c (zm_lm i dp) (zm_lm i dp + 1) 0 ps with
  | (false, _, ps1) => (false, ps1, M)
  | (true, n, ps1) => if i = 100 then zm_pf c i ps1 none M else if n = 0 then (false, ps1, M) else zm_pf c i ps1 (some (zclimb pa dp n 9 (i - 1))) M
abbrev zr_M_place_I : Room := { frames := 1, cells := 0, slots := 0, locals := 23 }
set_option maxRecDepth 100000 in
set_option maxHeartbeats 4000000 in
theorem kc_M_place_I {g : zx_G} {σ : zx_M} {sz : Nat} {a size ps lv ot ak pr : Nat} {th wr fr : Int32} {M : Nat → Nat → Int32} {T : Nat → Int32} {pa : Nat → Option Nat} {dp : Nat → Nat} {i : Nat} (hM : zmo g σ a th size wr ps lv ot ak fr pr M) (hT0 : M 0 = T) (hsz : size ≤ 3000) (hps : ps ≤ 14000) (hfo : zfor (M 3) pa dp (fun j => 100 ≤ j ∧ j < i)) (hi1 : 100 ≤ i) (hi : i < 200) : zM g cy_M_place_I cb_M_place_I 7 (Option.some Jvm.ClassFile.FieldType.boolean) zr_M_place_I 0 0 [.ref a, .int (nI i)] σ sz (zPi (fun v σ' sz' => sz' = sz ∧ zfr σ σ' a 22 ∧ ∃ ok ps' M', zm_place (zmd T size) i pa dp ps M = (ok, ps', M') ∧ v = zb ok ∧ ps' ≤ ps + 10 ∧ M' 0 = T ∧ (True) ∧ zmo g σ' a th size wr ps' lv ot ak fr pr M')) := by
  generalize hX0 : zm_place (zmd T size) i pa dp ps M = X0
  have hF : zfr σ σ a 22 := zfr.rf
  have fin : ∀ (o : Option Nat) (lm n ps1 : Nat) (σ1 : zx_M), (∀ p, o = some p → p < 300) → ps1 ≤ ps + 9 → zm_pf (zmd T size) i ps1 o M = X0 → zmo g σ1 a th size wr ps1 lv ot ak fr pr M → zfr σ σ1 a 22 → zE g "FindingAidModel" cb_M_place_I 7 (Option.some Jvm.ClassFile.FieldType.boolean) false zr_M_place_I 0 0 (zPi (fun v σ' sz' => sz' = sz ∧ zfr σ σ' a 22 ∧ ∃ ok ps' M', X0 = (ok, ps', M') ∧ v = zb ok ∧ ps' ≤ ps + 10 ∧ M' 0 = T ∧ (True) ∧ zmo g σ' a th size wr ps' lv ot ak fr pr M')) 119 [(5, .int (zo o)), (4, .int (nI n)), (3, .int (nI lm)), (2, .int (nI (i - 1))), (0, .ref a), (1, .int (nI i))] [] σ1 sz 0 0 := by
    intro o lm n ps1 σ1 ho hpb hE hM hF
    refine ze_aload_n 4 cd_M_place_I_119 rfl rfl ?_
    refine ze_callVp (rm' := zr_M_look) (b := a) (As := []) (rest := []) (kc_M_look2 (T := T) hM hT0 hsz (by omega)) ⟨rfl, rfl⟩ zy_M_look_ok zm_841 zm_843 zm_32 (ci := 7) rfl rfl (by decide) (by decide) cd_M_place_I_120 hM.1 rfl rfl (Nat.le_of_ble_eq_true rfl) ?_
    refine ze_callSp (rm' := zr_M_kindOf) (As := [.int (zmd T size ps1)]) (rest := []) kc_M_kindOf ⟨rfl, rfl⟩ zy_M_kindOf_ok zm_845 zm_846 (by decide) (by decide) cd_M_place_I_123 rfl rfl (Nat.le_of_ble_eq_true rfl) ?_
    cases hix : (zt_ix zc_k1 4 (zmd T size ps1)) with
    | none =>
      refine ze_istore (lv' := [(6, .int ((-1 : Int32))), (5, .int (zo o)), (4, .int (nI n)), (3, .int (nI lm)), (2, .int (nI (i - 1))), (0, .ref a), (1, .int (nI i))]) cd_M_place_I_126 (by decide) rfl ?_
      refine ze_iload 0 cd_M_place_I_128 rfl ?_
      refine ze_if_lt (tgt := 161) cd_M_place_I_130 (by decide) (fun _ => ?_) (fun c9 => absurd (by decide) c9)
      refine ze_iconst (v := nI 0) cd_M_place_I_161 (by decide) ?_
      refine ze_zret cd_M_place_I_162 rfl (by decide) (by decide) (by decide) ⟨_, rfl, rfl, hF, false, ps1, M, ?_, (by decide), by omega, hT0, trivial, hM⟩
      rw [← hE]; first | (simp [zm_pf, hix]; done) | (simp_all [zm_pf]; done)
    | some k =>
      have hbk := (zfindo_lt _ _ _ _ hix).1
      refine ze_istore (lv' := [(6, .int (nI k)), (5, .int (zo o)), (4, .int (nI n)), (3, .int (nI lm)), (2, .int (nI (i - 1))), (0, .ref a), (1, .int (nI i))]) cd_M_place_I_126 (by decide) rfl ?_
      refine ze_iload 0 cd_M_place_I_128 rfl ?_
      refine ze_if_lt (tgt := 161) cd_M_place_I_130 (by decide) (fun c9 => absurd c9 (nI_pos (by omega))) (fun _ => ?_)
      cases o with
      | none =>
        refine ze_iload 1 cd_M_place_I_133 rfl ?_
        refine ze_if_lt (tgt := 163) cd_M_place_I_135 (by decide) (fun _ => ?_) (fun c9 => absurd (by decide) c9)
        refine ze_aload_n 5 cd_M_place_I_163 rfl rfl ?_
        refine ze_dup cd_M_place_I_164 rfl ?_
        refine ze_get zin_M (v := .int (nI ps1)) (ci := 7) rfl 4 (by decide) zm_726 rfl cd_M_place_I_165 hM.1 rfl ?_
        refine ze_iconst (v := nI 1) cd_M_place_I_168 (by decide) ?_
        refine ze_iadd cd_M_place_I_169 ?_
        refine ze_top (y := nI (ps1 + 1)) (nI_add _ _) ?_
        refine ze_put zin_M zy_M zt_M zn_M (ci := 7) rfl 4 (by decide) zm_726 rfl (Or.inl rfl) cd_M_place_I_170 hM.1 rfl rfl (Nat.le_of_ble_eq_true rfl) (fs' := [.int th, .int (nI size), .ref (a + 1), .int wr, .int (nI (ps1 + 1)), .int (nI lv), .int (nI ot), .ref (a + 2), .ref (a + 3), .ref (a + 4), .ref (a + 5), .ref (a + 6), .ref (a + 7), .ref (a + 8), .ref (a + 9), .ref (a + 10), .ref (a + 11), .ref (a + 12), .ref (a + 13), .ref (a + 14), .ref (a + 15), .ref (a + 16), .ref (a + 17), .int (nI ak), .ref (a + 18), .ref (a + 19), .ref (a + 20), .int fr, .int (nI pr), .ref (a + 21)]) rfl ?_
        have hM := hM.put (fs' := [.int th, .int (nI size), .ref (a + 1), .int wr, .int (nI (ps1 + 1)), .int (nI lv), .int (nI ot), .ref (a + 2), .ref (a + 3), .ref (a + 4), .ref (a + 5), .ref (a + 6), .ref (a + 7), .ref (a + 8), .ref (a + 9), .ref (a + 10), .ref (a + 11), .ref (a + 12), .ref (a + 13), .ref (a + 14), .ref (a + 15), .ref (a + 16), .ref (a + 17), .int (nI ak), .ref (a + 18), .ref (a + 19), .ref (a + 20), .int fr, .int (nI pr), .ref (a + 21)])
        have hF := hF.up (a := a) (e := .inr (7, [.int th, .int (nI size), .ref (a + 1), .int wr, .int (nI (ps1 + 1)), .int (nI lv), .int (nI ot), .ref (a + 2), .ref (a + 3), .ref (a + 4), .ref (a + 5), .ref (a + 6), .ref (a + 7), .ref (a + 8), .ref (a + 9), .ref (a + 10), .ref (a + 11), .ref (a + 12), .ref (a + 13), .ref (a + 14), .ref (a + 15), .ref (a + 16), .ref (a + 17), .int (nI ak), .ref (a + 18), .ref (a + 19), .ref (a + 20), .int fr, .int (nI pr), .ref (a + 21)])) (by omega) (by omega)
        refine ze_aload_n 5 cd_M_place_I_173 rfl rfl ?_
        refine ze_get zin_M (v := .ref (a + 2)) (ci := 7) rfl 7 (by decide) zm_729 rfl cd_M_place_I_174 hM.1 rfl ?_
        refine ze_iload_n 6 cd_M_place_I_177 rfl rfl ?_
        refine ze_iload 0 cd_M_place_I_178 rfl ?_
        refine ze_iast (j := i) cd_M_place_I_180 (hM.2 1 _ rfl) rfl (by omega) (by decide) ?_
        have hM := hM.ar 1 0 300 rfl (b := a + 2) (f := upd (M 1) i (nI k)) (by omega)
        have hF := hF.up (a := a + 2) (e := .inl (g.2.2.2.1 0, 300, .inl (upd (M 1) i (nI k)))) (by omega) (by omega)
        refine ze_aload_n 5 cd_M_place_I_181 rfl rfl ?_
        refine ze_get zin_M (v := .ref (a + 4)) (ci := 7) rfl 9 (by decide) zm_731 rfl cd_M_place_I_182 hM.1 rfl ?_
        refine ze_iload_n 6 cd_M_place_I_185 rfl rfl ?_
        refine ze_iload 1 cd_M_place_I_186 rfl ?_
        refine ze_iast (j := i) (f := M 3) cd_M_place_I_188 (hM.2 3 _ rfl) rfl (by omega) (by decide) ?_
        have hM := hM.ar 3 0 300 rfl (b := a + 4) (f := upd (M 3) i ((-1 : Int32))) (by omega)
        have hF := hF.up (a := a + 4) (e := .inl (g.2.2.2.1 0, 300, .inl (upd (M 3) i ((-1 : Int32))))) (by omega) (by omega)
        refine ze_iconst (v := nI 1) cd_M_place_I_189 (by decide) ?_
        refine ze_zret cd_M_place_I_190 rfl (by decide) (by decide) (by decide) ⟨_, rfl, rfl, hF, true, ps1 + 1, va_up (va_up M 1 (upd (M 1) i (nI k))) 3 (upd (M 3) i ((-1 : Int32))), ?_, (by decide), by omega, hT0, trivial, hM⟩
        rw [← hE]; first | (simp [zm_pf, hix]; done) | (simp_all [zm_pf]; done)
      | some p =>
        have hp3 := ho p rfl
        refine ze_iload 1 cd_M_place_I_133 rfl ?_
        refine ze_if_lt (tgt := 163) cd_M_place_I_135 (by decide) (fun c9 => absurd c9 (nI_pos (by omega))) (fun _ => ?_)
        refine ze_aload_n 5 cd_M_place_I_138 rfl rfl ?_
        refine ze_get zin_M (v := .ref (a + 2)) (ci := 7) rfl 7 (by decide) zm_729 rfl cd_M_place_I_139 hM.1 rfl ?_
        refine ze_iload 1 cd_M_place_I_142 rfl ?_
        refine ze_iald (j := p) cd_M_place_I_144 (hM.2 1 _ rfl) rfl (by omega) (by decide) ?_
        refine ze_iconst (v := nI 3) cd_M_place_I_145 (by decide) ?_
        refine ze_icmp_eq (tgt := 161) cd_M_place_I_146 (by decide) (fun c1 => ?_) (fun c1 => ?_)
        · skip
          refine ze_iconst (v := nI 0) cd_M_place_I_161 (by decide) ?_
          refine ze_zret cd_M_place_I_162 rfl (by decide) (by decide) (by decide) ⟨_, rfl, rfl, hF, false, ps1, M, ?_, (by decide), by omega, hT0, trivial, hM⟩
          rw [← hE]; first | (simp [zm_pf, hix, c1]; done) | (simp_all [zm_pf]; done)
        · skip
          refine ze_iload 0 cd_M_place_I_149 rfl ?_
          refine ze_aload_n 5 cd_M_place_I_151 rfl rfl ?_
          refine ze_get zin_M (v := .ref (a + 2)) (ci := 7) rfl 7 (by decide) zm_729 rfl cd_M_place_I_152 hM.1 rfl ?_
          refine ze_iload 1 cd_M_place_I_155 rfl ?_
          refine ze_iald (j := p) cd_M_place_I_157 (hM.2 1 _ rfl) rfl (by omega) (by decide) ?_
          refine ze_icmp_ge (tgt := 163) cd_M_place_I_158 (by decide) (fun c2 => ?_) (fun c2 => ?_)
          · skip
            have c2 : ¬ (nI k) < (M 1 p) := Int32.not_lt.mpr c2
            refine ze_aload_n 5 cd_M_place_I_163 rfl rfl ?_
            refine ze_dup cd_M_place_I_164 rfl ?_
            refine ze_get zin_M (v := .int (nI ps1)) (ci := 7) rfl 4 (by decide) zm_726 rfl cd_M_place_I_165 hM.1 rfl ?_
            refine ze_iconst (v := nI 1) cd_M_place_I_168 (by decide) ?_
            refine ze_iadd cd_M_place_I_169 ?_
            refine ze_top (y := nI (ps1 + 1)) (nI_add _ _) ?_
            refine ze_put zin_M zy_M zt_M zn_M (ci := 7) rfl 4 (by decide) zm_726 rfl (Or.inl rfl) cd_M_place_I_170 hM.1 rfl rfl (Nat.le_of_ble_eq_true rfl) (fs' := [.int th, .int (nI size), .ref (a + 1), .int wr, .int (nI (ps1 + 1)), .int (nI lv), .int (nI ot), .ref (a + 2), .ref (a + 3), .ref (a + 4), .ref (a + 5), .ref (a + 6), .ref (a + 7), .ref (a + 8), .ref (a + 9), .ref (a + 10), .ref (a + 11), .ref (a + 12), .ref (a + 13), .ref (a + 14), .ref (a + 15), .ref (a + 16), .ref (a + 17), .int (nI ak), .ref (a + 18), .ref (a + 19), .ref (a + 20), .int fr, .int (nI pr), .ref (a + 21)]) rfl ?_
            have hM := hM.put (fs' := [.int th, .int (nI size), .ref (a + 1), .int wr, .int (nI (ps1 + 1)), .int (nI lv), .int (nI ot), .ref (a + 2), .ref (a + 3), .ref (a + 4), .ref (a + 5), .ref (a + 6), .ref (a + 7), .ref (a + 8), .ref (a + 9), .ref (a + 10), .ref (a + 11), .ref (a + 12), .ref (a + 13), .ref (a + 14), .ref (a + 15), .ref (a + 16), .ref (a + 17), .int (nI ak), .ref (a + 18), .ref (a + 19), .ref (a + 20), .int fr, .int (nI pr), .ref (a + 21)])
            have hF := hF.up (a := a) (e := .inr (7, [.int th, .int (nI size), .ref (a + 1), .int wr, .int (nI (ps1 + 1)), .int (nI lv), .int (nI ot), .ref (a + 2), .ref (a + 3), .ref (a + 4), .ref (a + 5), .ref (a + 6), .ref (a + 7), .ref (a + 8), .ref (a + 9), .ref (a + 10), .ref (a + 11), .ref (a + 12), .ref (a + 13), .ref (a + 14), .ref (a + 15), .ref (a + 16), .ref (a + 17), .int (nI ak), .ref (a + 18), .ref (a + 19), .ref (a + 20), .int fr, .int (nI pr), .ref (a + 21)])) (by omega) (by omega)
            refine ze_aload_n 5 cd_M_place_I_173 rfl rfl ?_
            refine ze_get zin_M (v := .ref (a + 2)) (ci := 7) rfl 7 (by decide) zm_729 rfl cd_M_place_I_174 hM.1 rfl ?_
            refine ze_iload_n 6 cd_M_place_I_177 rfl rfl ?_
            refine ze_iload 0 cd_M_place_I_178 rfl ?_
            refine ze_iast (j := i) cd_M_place_I_180 (hM.2 1 _ rfl) rfl (by omega) (by decide) ?_
            have hM := hM.ar 1 0 300 rfl (b := a + 2) (f := upd (M 1) i (nI k)) (by omega)
            have hF := hF.up (a := a + 2) (e := .inl (g.2.2.2.1 0, 300, .inl (upd (M 1) i (nI k)))) (by omega) (by omega)
            refine ze_aload_n 5 cd_M_place_I_181 rfl rfl ?_
            refine ze_get zin_M (v := .ref (a + 4)) (ci := 7) rfl 9 (by decide) zm_731 rfl cd_M_place_I_182 hM.1 rfl ?_
            refine ze_iload_n 6 cd_M_place_I_185 rfl rfl ?_
            refine ze_iload 1 cd_M_place_I_186 rfl ?_
            refine ze_iast (j := i) (f := M 3) cd_M_place_I_188 (hM.2 3 _ rfl) rfl (by omega) (by decide) ?_
            have hM := hM.ar 3 0 300 rfl (b := a + 4) (f := upd (M 3) i (nI p)) (by omega)
            have hF := hF.up (a := a + 4) (e := .inl (g.2.2.2.1 0, 300, .inl (upd (M 3) i (nI p)))) (by omega) (by omega)
            refine ze_iconst (v := nI 1) cd_M_place_I_189 (by decide) ?_
            refine ze_zret cd_M_place_I_190 rfl (by decide) (by decide) (by decide) ⟨_, rfl, rfl, hF, true, ps1 + 1, va_up (va_up M 1 (upd (M 1) i (nI k))) 3 (upd (M 3) i (nI p)), ?_, (by decide), by omega, hT0, trivial, hM⟩
            rw [← hE]; first | (simp [zm_pf, hix, c1, c2]; done) | (simp_all [zm_pf]; done)
          · skip
            have c2 : (nI k) < (M 1 p) := Int32.not_le.mp c2
            refine ze_iconst (v := nI 0) cd_M_place_I_161 (by decide) ?_
            refine ze_zret cd_M_place_I_162 rfl (by decide) (by decide) (by decide) ⟨_, rfl, rfl, hF, false, ps1, M, ?_, (by decide), by omega, hT0, trivial, hM⟩
            rw [← hE]; first | (simp [zm_pf, hix, c1, c2]; done) | (simp_all [zm_pf]; done)
  have climb : ∀ (lm n ps1 : Nat) (σ1 : zx_M), 0 < n → n ≤ 10 → ps1 ≤ ps + 9 → zm_pf (zmd T size) i ps1 (some (zclimb pa dp n 9 (i - 1))) M = X0 → zmo g σ1 a th size wr ps1 lv ot ak fr pr M → zfr σ σ1 a 22 → ∀ (kk q : Nat), 100 ≤ q ∧ q < i → dp q < kk → zclimb pa dp n kk q = zclimb pa dp n 9 (i - 1) → zE g "FindingAidModel" cb_M_place_I 7 (Option.some Jvm.ClassFile.FieldType.boolean) false zr_M_place_I 0 0 (zPi (fun v σ' sz' => sz' = sz ∧ zfr σ σ' a 22 ∧ ∃ ok ps' M', X0 = (ok, ps', M') ∧ v = zb ok ∧ ps' ≤ ps + 10 ∧ M' 0 = T ∧ (True) ∧ zmo g σ' a th size wr ps' lv ot ak fr pr M')) 96 [(5, .int (nI q)), (4, .int (nI n)), (3, .int (nI lm)), (2, .int (nI (i - 1))), (0, .ref a), (1, .int (nI i))] [] σ1 sz 0 0 := by
    intro lm n ps1 σ1 hn0 hn10 hpb hE hM hF kk
    induction kk with
    | zero => intro q hDq hdq; exact absurd hdq (Nat.not_lt_zero _)
    | succ kk ih =>
      intro q hDq hdq hC
      obtain ⟨hq3, hq8, hqu, hqp, hqn⟩ := hfo q hDq
      refine ze_aload_n 4 cd_M_place_I_96 rfl rfl ?_
      refine ze_iload 0 cd_M_place_I_97 rfl ?_
      refine ze_callVp (rm' := zr_M_depth) (b := a) (As := [.int (nI q)]) (rest := []) (kc_M_depth (i := q) hM hfo hDq) ⟨rfl, rfl⟩ zy_M_depth_ok zm_837 zm_839 zm_31 (ci := 7) rfl rfl (by decide) (by decide) cd_M_place_I_99 hM.1 rfl rfl (Nat.le_of_ble_eq_true rfl) ?_
      refine ze_iload 1 cd_M_place_I_102 rfl ?_
      refine ze_icmp_lt (tgt := 119) cd_M_place_I_104 (by decide) (fun c3 => ?_) (fun c3 => ?_)
      · skip
        have c3 : (dp q) < n := (nI_ltI (by omega) (by omega)).mp c3
        exact ze_sub [0, 1, 2, 3, 4, 5] rfl (fin (some q) lm n ps1 _ (fun p hp => by cases hp; omega) hpb (by rw [← hE, ← hC]; unfold zclimb; rw [if_pos (by omega)]) hM hF)
      · skip
        have c3 : ¬ (dp q) < n := fun h9 => c3 ((nI_ltI (by omega) (by omega)).mpr h9)
        refine ze_aload_n 4 cd_M_place_I_107 rfl rfl ?_
        refine ze_get zin_M (v := .ref (a + 4)) (ci := 7) rfl 9 (by decide) zm_731 rfl cd_M_place_I_108 hM.1 rfl ?_
        refine ze_iload 0 cd_M_place_I_111 rfl ?_
        refine ze_iald (j := q) cd_M_place_I_113 (hM.2 3 _ rfl) rfl (by omega) (by decide) ?_
        refine ze_top hqu ?_
        cases hpa : pa q with
        | none => have := hqn hpa; exfalso; omega
        | some p' =>
          obtain ⟨hDp, hdp⟩ := hqp p' hpa
          refine ze_istore (lv' := [(5, .int (nI p')), (4, .int (nI n)), (3, .int (nI lm)), (2, .int (nI (i - 1))), (0, .ref a), (1, .int (nI i))]) cd_M_place_I_114 (by decide) rfl ?_
          refine ze_goto (tgt := 96) cd_M_place_I_116 (by decide) ?_
          exact ze_sub [0, 1, 2, 3, 4, 5] rfl (ih p' hDp (by omega) (by rw [← hC]; exact (show zclimb pa dp n (kk + 1) q = zclimb pa dp n kk p' from by (conv => lhs; unfold zclimb); rw [if_neg (by omega), hpa]).symm))
  have loop : ∀ (lm : Nat), lm = zm_lm i dp → lm ≤ 8 → ∀ (kk n ps1 : Nat) (σ1 : zx_M), n + kk = lm + 1 → n ≤ lm → ps1 ≤ ps + n → zm_pl (zmd T size) lm kk n ps1 = zm_pl (zmd T size) (zm_lm i dp) (zm_lm i dp + 1) 0 ps → zmo g σ1 a th size wr ps1 lv ot ak fr pr M → zfr σ σ1 a 22 → zE g "FindingAidModel" cb_M_place_I 7 (Option.some Jvm.ClassFile.FieldType.boolean) false zr_M_place_I 0 0 (zPi (fun v σ' sz' => sz' = sz ∧ zfr σ σ' a 22 ∧ ∃ ok ps' M', X0 = (ok, ps', M') ∧ v = zb ok ∧ ps' ≤ ps + 10 ∧ M' 0 = T ∧ (True) ∧ zmo g σ' a th size wr ps' lv ot ak fr pr M')) 38 [(4, .int (nI n)), (3, .int (nI lm)), (2, .int (nI (i - 1))), (0, .ref a), (1, .int (nI i))] [] σ1 sz 0 0 := by
    intro lm hlm hlm8 kk
    induction kk with
    | zero => intro n ps1 σ1 hk hn8; exfalso; omega
    | succ kk ih =>
      intro n ps1 σ1 hk hn8 hpb hE hM hF
      refine ze_aload_n 3 cd_M_place_I_38 rfl rfl ?_
      refine ze_callVp (rm' := zr_M_look) (b := a) (As := []) (rest := []) (kc_M_look2 (T := T) hM hT0 hsz (by omega)) ⟨rfl, rfl⟩ zy_M_look_ok zm_841 zm_843 zm_32 (ci := 7) rfl rfl (by decide) (by decide) cd_M_place_I_39 hM.1 rfl rfl (Nat.le_of_ble_eq_true rfl) ?_
      refine ze_bipush (v := nI 43) cd_M_place_I_42 (by decide) ?_
      refine ze_icmp_ne (tgt := 71) cd_M_place_I_44 (by decide) (fun c4 => ?_) (fun c4 => ?_)
      · skip
        refine ze_iload_n 4 cd_M_place_I_71 rfl rfl ?_
        refine ze_bipush (v := nI 100) cd_M_place_I_72 (by decide) ?_
        refine ze_icmp_le (tgt := 84) cd_M_place_I_74 (by decide) (fun c5 => ?_) (fun c5 => ?_)
        · skip
          have c5 : i ≤ 100 := (nI_leI (by omega) (by omega)).mp c5
          refine ze_iconst (v := (-1 : Int32)) cd_M_place_I_84 (by decide) ?_
          refine ze_istore (lv' := [(5, .int ((-1 : Int32))), (4, .int (nI n)), (3, .int (nI lm)), (2, .int (nI (i - 1))), (0, .ref a), (1, .int (nI i))]) cd_M_place_I_85 (by decide) rfl ?_
          refine ze_iload_n 5 cd_M_place_I_87 rfl rfl ?_
          refine ze_bipush (v := nI 100) cd_M_place_I_88 (by decide) ?_
          refine ze_icmp_le (tgt := 119) cd_M_place_I_90 (by decide) (fun c6 => ?_) (fun c6 => ?_)
          · skip
            have c6 : i ≤ 100 := (nI_leI (by omega) (by omega)).mp c6
            exact ze_sub [0, 1, 2, 3, 4, 5] rfl (fin none lm n ps1 _ (fun p hp => by cases hp) (by omega) (by rw [← hX0]; unfold zm_place; rw [← hE, show zm_pl (zmd T size) lm (kk + 1) n ps1 = (true, n, ps1) from by (unfold zm_pl; rw [if_neg c4])]; show _ = (if i = 100 then _ else _); rw [if_pos (by omega)]) hM hF)
          · skip
            have c6 : ¬ i ≤ 100 := fun h9 => c6 ((nI_leI (by omega) (by omega)).mpr h9)
            refine ze_iload_n 3 cd_M_place_I_93 rfl rfl ?_
            refine ze_istore (lv' := [(5, .int (nI (i - 1))), (4, .int (nI n)), (3, .int (nI lm)), (2, .int (nI (i - 1))), (0, .ref a), (1, .int (nI i))]) cd_M_place_I_94 (by decide) rfl ?_
            exact ze_sub [0, 1, 2, 3, 4, 5] rfl (climb lm n ps1 _ (by omega) (by omega) (by omega) (by rw [← hX0]; unfold zm_place; rw [← hE, show zm_pl (zmd T size) lm (kk + 1) n ps1 = (true, n, ps1) from by (unfold zm_pl; rw [if_neg c4])]; show _ = (if i = 100 then _ else _); rw [if_neg (by omega), if_neg (by omega)]) hM hF 9 (i - 1) (by omega) (by have := (hfo (i - 1) (by omega)).2.1; omega) rfl)
        · skip
          have c5 : ¬ i ≤ 100 := fun h9 => c5 ((nI_leI (by omega) (by omega)).mpr h9)
          refine ze_iload 0 cd_M_place_I_77 rfl ?_
          refine ze_if_ne (tgt := 84) cd_M_place_I_79 (by decide) (fun c7 => ?_) (fun c7 => ?_)
          · skip
            have c7 := c7; rw [← nI_0] at c7
            have c7 : ¬ n = 0 := fun h9 => c7 (by rw [h9])
            refine ze_iconst (v := (-1 : Int32)) cd_M_place_I_84 (by decide) ?_
            refine ze_istore (lv' := [(5, .int ((-1 : Int32))), (4, .int (nI n)), (3, .int (nI lm)), (2, .int (nI (i - 1))), (0, .ref a), (1, .int (nI i))]) cd_M_place_I_85 (by decide) rfl ?_
            refine ze_iload_n 5 cd_M_place_I_87 rfl rfl ?_
            refine ze_bipush (v := nI 100) cd_M_place_I_88 (by decide) ?_
            refine ze_icmp_le (tgt := 119) cd_M_place_I_90 (by decide) (fun c8 => ?_) (fun c8 => ?_)
            · skip
              have c8 : i ≤ 100 := (nI_leI (by omega) (by omega)).mp c8
              exact ze_sub [0, 1, 2, 3, 4, 5] rfl (fin none lm n ps1 _ (fun p hp => by cases hp) (by omega) (by rw [← hX0]; unfold zm_place; rw [← hE, show zm_pl (zmd T size) lm (kk + 1) n ps1 = (true, n, ps1) from by (unfold zm_pl; rw [if_neg c4])]; show _ = (if i = 100 then _ else _); rw [if_pos (by omega)]) hM hF)
            · skip
              have c8 : ¬ i ≤ 100 := fun h9 => c8 ((nI_leI (by omega) (by omega)).mpr h9)
              refine ze_iload_n 3 cd_M_place_I_93 rfl rfl ?_
              refine ze_istore (lv' := [(5, .int (nI (i - 1))), (4, .int (nI n)), (3, .int (nI lm)), (2, .int (nI (i - 1))), (0, .ref a), (1, .int (nI i))]) cd_M_place_I_94 (by decide) rfl ?_
              exact ze_sub [0, 1, 2, 3, 4, 5] rfl (climb lm n ps1 _ (by omega) (by omega) (by omega) (by rw [← hX0]; unfold zm_place; rw [← hE, show zm_pl (zmd T size) lm (kk + 1) n ps1 = (true, n, ps1) from by (unfold zm_pl; rw [if_neg c4])]; show _ = (if i = 100 then _ else _); rw [if_neg (by omega), if_neg (by omega)]) hM hF 9 (i - 1) (by omega) (by have := (hfo (i - 1) (by omega)).2.1; omega) rfl)
          · skip
            have c7 := c7; rw [← nI_0] at c7
            have c7 : n = 0 := (nI_eq (by omega) (by omega)).mp c7
            refine ze_iconst (v := nI 0) cd_M_place_I_82 (by decide) ?_
            refine ze_zret cd_M_place_I_83 rfl (by decide) (by decide) (by decide) ⟨_, rfl, rfl, hF, false, ps1, M, ?_, (by decide), by omega, hT0, trivial, hM⟩
            rw [← hX0]; unfold zm_place; rw [← hE]; first | (rw [show zm_pl (zmd T size) lm (kk + 1) n ps1 = (false, n, ps1) from by (unfold zm_pl; rw [if_pos c4, if_pos (by omega)])]; done) | (rw [show zm_pl (zmd T size) lm (kk + 1) n ps1 = (true, n, ps1) from by (unfold zm_pl; rw [if_neg c4])]; show (if i = 100 then _ else _) = _; rw [if_neg (by omega), if_pos (by omega)]; done)
      · skip
        refine ze_iload 0 cd_M_place_I_47 rfl ?_
        refine ze_iload_n 1 cd_M_place_I_49 rfl rfl ?_
        refine ze_icmp_ne (tgt := 55) cd_M_place_I_50 (by decide) (fun c9 => ?_) (fun c9 => ?_)
        · skip
          have c9 : ¬ n = lm := fun h9 => c9 (by rw [h9])
          refine ze_iinc (v := nI (n + 1)) (lv' := [(4, .int (nI (n + 1))), (3, .int (nI lm)), (2, .int (nI (i - 1))), (0, .ref a), (1, .int (nI i))]) 0 cd_M_place_I_55 rfl (nI_add _ 1) (by decide) rfl ?_
          refine ze_aload_n 3 cd_M_place_I_58 rfl rfl ?_
          refine ze_dup cd_M_place_I_59 rfl ?_
          refine ze_get zin_M (v := .int (nI ps1)) (ci := 7) rfl 4 (by decide) zm_726 rfl cd_M_place_I_60 hM.1 rfl ?_
          refine ze_iconst (v := nI 1) cd_M_place_I_63 (by decide) ?_
          refine ze_iadd cd_M_place_I_64 ?_
          refine ze_top (y := nI (ps1 + 1)) (nI_add _ _) ?_
          refine ze_put zin_M zy_M zt_M zn_M (ci := 7) rfl 4 (by decide) zm_726 rfl (Or.inl rfl) cd_M_place_I_65 hM.1 rfl rfl (Nat.le_of_ble_eq_true rfl) (fs' := [.int th, .int (nI size), .ref (a + 1), .int wr, .int (nI (ps1 + 1)), .int (nI lv), .int (nI ot), .ref (a + 2), .ref (a + 3), .ref (a + 4), .ref (a + 5), .ref (a + 6), .ref (a + 7), .ref (a + 8), .ref (a + 9), .ref (a + 10), .ref (a + 11), .ref (a + 12), .ref (a + 13), .ref (a + 14), .ref (a + 15), .ref (a + 16), .ref (a + 17), .int (nI ak), .ref (a + 18), .ref (a + 19), .ref (a + 20), .int fr, .int (nI pr), .ref (a + 21)]) rfl ?_
          have hM := hM.put (fs' := [.int th, .int (nI size), .ref (a + 1), .int wr, .int (nI (ps1 + 1)), .int (nI lv), .int (nI ot), .ref (a + 2), .ref (a + 3), .ref (a + 4), .ref (a + 5), .ref (a + 6), .ref (a + 7), .ref (a + 8), .ref (a + 9), .ref (a + 10), .ref (a + 11), .ref (a + 12), .ref (a + 13), .ref (a + 14), .ref (a + 15), .ref (a + 16), .ref (a + 17), .int (nI ak), .ref (a + 18), .ref (a + 19), .ref (a + 20), .int fr, .int (nI pr), .ref (a + 21)])
          have hF := hF.up (a := a) (e := .inr (7, [.int th, .int (nI size), .ref (a + 1), .int wr, .int (nI (ps1 + 1)), .int (nI lv), .int (nI ot), .ref (a + 2), .ref (a + 3), .ref (a + 4), .ref (a + 5), .ref (a + 6), .ref (a + 7), .ref (a + 8), .ref (a + 9), .ref (a + 10), .ref (a + 11), .ref (a + 12), .ref (a + 13), .ref (a + 14), .ref (a + 15), .ref (a + 16), .ref (a + 17), .int (nI ak), .ref (a + 18), .ref (a + 19), .ref (a + 20), .int fr, .int (nI pr), .ref (a + 21)])) (by omega) (by omega)
          refine ze_goto (tgt := 38) cd_M_place_I_68 (by decide) ?_
          exact ze_sub [0, 1, 2, 3, 4] rfl (ih (n + 1) _ _ (by omega) (by omega) (by omega) (by rw [← hE]; exact (show zm_pl (zmd T size) lm (kk + 1) n ps1 = zm_pl (zmd T size) lm kk (n + 1) (ps1 + 1) from by (conv => lhs; unfold zm_pl); rw [if_pos c4, if_neg (by omega)]).symm) hM hF)
        · skip
          have c9 : n = lm := (nI_eq (by omega) (by omega)).mp c9
          refine ze_iconst (v := nI 0) cd_M_place_I_53 (by decide) ?_
          refine ze_zret cd_M_place_I_54 rfl (by decide) (by decide) (by decide) ⟨_, rfl, rfl, hF, false, ps1, M, ?_, (by decide), by omega, hT0, trivial, hM⟩
          rw [← hX0]; unfold zm_place; rw [← hE]; first | (rw [show zm_pl (zmd T size) lm (kk + 1) n ps1 = (false, n, ps1) from by (unfold zm_pl; rw [if_pos c4, if_pos (by omega)])]; done) | (rw [show zm_pl (zmd T size) lm (kk + 1) n ps1 = (true, n, ps1) from by (unfold zm_pl; rw [if_neg c4])]; show (if i = 100 then _ else _) = _; rw [if_neg (by omega), if_pos (by omega)]; done)
  refine zM_of (lv := [(0, .ref a), (1, .int (nI i))]) (ini := false) (by decide) rfl (by decide) (Nat.le_of_ble_eq_true rfl) rfl ?_
  refine ze_iload_n 1 cd_M_place_I_0 rfl rfl ?_
  refine ze_iconst (v := nI 1) cd_M_place_I_1 (by decide) ?_
  refine ze_isub cd_M_place_I_2 ?_
  refine ze_top (y := nI (i - 1)) (pk_sub (by omega)) ?_
  refine ze_istore_n (lv' := [(2, .int (nI (i - 1))), (0, .ref a), (1, .int (nI i))]) cd_M_place_I_3 rfl (by decide) rfl ?_
  refine ze_iload_n 2 cd_M_place_I_4 rfl rfl ?_
  refine ze_bipush (v := nI 100) cd_M_place_I_5 (by decide) ?_
  refine ze_icmp_ne (tgt := 14) cd_M_place_I_7 (by decide) (fun c10 => ?_) (fun c10 => ?_)
  · skip
    have c10 : ¬ i = 100 := fun h9 => c10 (by rw [h9])
    have hd8 := (hfo (i - 1) (by omega)).2.1
    refine ze_aload_n 1 cd_M_place_I_14 rfl rfl ?_
    refine ze_iload_n 0 cd_M_place_I_15 rfl rfl ?_
    refine ze_callVp (rm' := zr_M_depth) (b := a) (As := [.int (nI (i - 1))]) (rest := []) (kc_M_depth (i := i - 1) hM hfo (by omega)) ⟨rfl, rfl⟩ zy_M_depth_ok zm_837 zm_839 zm_31 (ci := 7) rfl rfl (by decide) (by decide) cd_M_place_I_16 hM.1 rfl rfl (Nat.le_of_ble_eq_true rfl) ?_
    refine ze_iconst (v := nI 1) cd_M_place_I_19 (by decide) ?_
    refine ze_iadd cd_M_place_I_20 ?_
    refine ze_top (y := nI ((dp (i - 1)) + 1)) (nI_add _ _) ?_
    refine ze_istore_n (lv' := [(3, .int (nI ((dp (i - 1)) + 1))), (2, .int (nI (i - 1))), (0, .ref a), (1, .int (nI i))]) cd_M_place_I_21 rfl (by decide) rfl ?_
    refine ze_iload_n 0 cd_M_place_I_22 rfl rfl ?_
    refine ze_bipush (v := nI 8) cd_M_place_I_23 (by decide) ?_
    refine ze_icmp_le (tgt := 33) cd_M_place_I_25 (by decide) (fun c11 => ?_) (fun c11 => ?_)
    · skip
      have c11 : ((dp (i - 1)) + 1) ≤ 8 := (nI_leI (by omega) (by omega)).mp c11
      refine ze_iload_n 0 cd_M_place_I_33 rfl rfl ?_
      refine ze_istore_n (lv' := [(3, .int (nI ((dp (i - 1)) + 1))), (2, .int (nI (i - 1))), (0, .ref a), (1, .int (nI i))]) cd_M_place_I_34 rfl (by decide) rfl ?_
      refine ze_iconst (v := nI 0) cd_M_place_I_35 (by decide) ?_
      refine ze_istore (lv' := [(4, .int (nI 0)), (3, .int (nI ((dp (i - 1)) + 1))), (2, .int (nI (i - 1))), (0, .ref a), (1, .int (nI i))]) cd_M_place_I_36 (by decide) rfl ?_
      exact ze_sub [0, 1, 2, 3, 4] rfl (loop ((dp (i - 1)) + 1) (by first | (rw [zm_lm, if_pos (by omega)]) | (rw [zm_lm, if_neg (by omega)]; omega)) (by omega) (((dp (i - 1)) + 1) + 1) 0 ps _ (by omega) (by omega) (by omega) (by rw [show (dp (i - 1)) + 1 = zm_lm i dp from by (first | (rw [zm_lm, if_pos (by omega)]) | (rw [zm_lm, if_neg (by omega)]; omega))]) hM hF)
    · skip
      have c11 : ¬ ((dp (i - 1)) + 1) ≤ 8 := fun h9 => c11 ((nI_leI (by omega) (by omega)).mpr h9)
      refine ze_bipush (v := nI 8) cd_M_place_I_28 (by decide) ?_
      refine ze_goto (tgt := 34) cd_M_place_I_30 (by decide) ?_
      refine ze_istore_n (lv' := [(3, .int (nI 8)), (2, .int (nI (i - 1))), (0, .ref a), (1, .int (nI i))]) cd_M_place_I_34 rfl (by decide) rfl ?_
      refine ze_iconst (v := nI 0) cd_M_place_I_35 (by decide) ?_
      refine ze_istore (lv' := [(4, .int (nI 0)), (3, .int (nI 8)), (2, .int (nI (i - 1))), (0, .ref a), (1, .int (nI i))]) cd_M_place_I_36 (by decide) rfl ?_
      exact ze_sub [0, 1, 2, 3, 4] rfl (loop (8) (by first | (rw [zm_lm, if_pos (by omega)]) | (rw [zm_lm, if_neg (by omega)]; omega)) (by omega) (8 + 1) 0 ps _ (by omega) (by omega) (by omega) (by rw [show 8 = zm_lm i dp from by (first | (rw [zm_lm, if_pos (by omega)]) | (rw [zm_lm, if_neg (by omega)]; omega))]) hM hF)
  · skip
    have c10 : i = 100 := (nI_eq (by omega) (by omega)).mp c10
    refine ze_iconst (v := nI 0) cd_M_place_I_10 (by decide) ?_
    refine ze_goto (tgt := 21) cd_M_place_I_11 (by decide) ?_
    refine ze_istore_n (lv' := [(3, .int (nI 0)), (2, .int (nI (i - 1))), (0, .ref a), (1, .int (nI i))]) cd_M_place_I_21 rfl (by decide) rfl ?_
    refine ze_iload_n 0 cd_M_place_I_22 rfl rfl ?_
    refine ze_bipush (v := nI 8) cd_M_place_I_23 (by decide) ?_
    refine ze_icmp_le (tgt := 33) cd_M_place_I_25 (by decide) (fun _ => ?_) (fun c9 => absurd (by decide) c9)
    refine ze_iload_n 0 cd_M_place_I_33 rfl rfl ?_
    refine ze_istore_n (lv' := [(3, .int (nI 0)), (2, .int (nI (i - 1))), (0, .ref a), (1, .int (nI i))]) cd_M_place_I_34 rfl (by decide) rfl ?_
    refine ze_iconst (v := nI 0) cd_M_place_I_35 (by decide) ?_
    refine ze_istore (lv' := [(4, .int (nI 0)), (3, .int (nI 0)), (2, .int (nI (i - 1))), (0, .ref a), (1, .int (nI i))]) cd_M_place_I_36 (by decide) rfl ?_
    exact ze_sub [0, 1, 2, 3, 4] rfl (loop (0) (by first | (rw [zm_lm, if_pos (by omega)]) | (rw [zm_lm, if_neg (by omega)]; omega)) (by omega) (0 + 1) 0 ps _ (by omega) (by omega) (by omega) (by rw [show 0 = zm_lm i dp from by (first | (rw [zm_lm, if_pos (by omega)]) | (rw [zm_lm, if_neg (by omega)]; omega))]) hM hF)
def zm_tl (c : Nat → Int32) (i : Nat) : Nat → Nat → Nat → (Nat → Int32) → Bool × Nat × Nat × (Nat → Int32)
  | 0, n, ps, F => (false, n, ps, F)
  | kk + 1, n, ps, F => if zt_l (c ps) then (if n = 16 then (false, n, ps, F) else zm_tl c i kk (n + 1) (ps + 1) (upd F (16 * i + n) (zby (c ps)))) else (true, n, ps, F)
def zm_title (c : Nat → Int32) (i ps : Nat) (M : Nat → Nat → Int32) : zqs := match zm_tl c i 17 0 ps (M 10) with
  | (false, _, ps1, F) => (false, ps1, va_up M 10 F)
  | (true, n, ps1, F) => (if n = 0 then false else true, ps1, va_up (va_up M 10 F) 9 (upd (M 9) i (nI n)))
abbrev zr_M_titled : Room := { frames := 1, cells := 0, slots := 0, locals := 22 }
set_option maxRecDepth 100000 in
set_option maxHeartbeats 4000000 in
theorem kc_M_titled {g : zx_G} {σ : zx_M} {sz : Nat} {a size ps lv ot ak pr : Nat} {th wr fr : Int32} {M : Nat → Nat → Int32} {T : Nat → Int32} {i : Nat} (hM : zmo g σ a th size wr ps lv ot ak fr pr M) (hT0 : M 0 = T) (hsz : size ≤ 3000) (hps : ps ≤ 15000) (hi : i < 300) : zM g cy_M_titled cb_M_titled 3 (Option.some Jvm.ClassFile.FieldType.boolean) zr_M_titled 0 0 [.ref a, .int (nI i)] σ sz (zPi (fun v σ' sz' => sz' = sz ∧ zfr σ σ' a 22 ∧ ∃ ok ps' M', zm_title (zmd T size) i ps M = (ok, ps', M') ∧ v = zb ok ∧ ps' ≤ ps + 17 ∧ M' 0 = T ∧ (True) ∧ zmo g σ' a th size wr ps' lv ot ak fr pr M')) := by
  have hF : zfr σ σ a 22 := zfr.rf
  have loop : ∀ (kk n ps1 : Nat) (F : Nat → Int32) (σ1 : zx_M), n + kk = 17 → n ≤ 16 → ps1 ≤ ps + n → zm_tl (zmd T size) i kk n ps1 F = zm_tl (zmd T size) i 17 0 ps (M 10) → zmo g σ1 a th size wr ps1 lv ot ak fr pr (va_up M 10 F) → zfr σ σ1 a 22 → zE g "FindingAidModel" cb_M_titled 3 (Option.some Jvm.ClassFile.FieldType.boolean) false zr_M_titled 0 0 (zPi (fun v σ' sz' => sz' = sz ∧ zfr σ σ' a 22 ∧ ∃ ok ps' M', zm_title (zmd T size) i ps M = (ok, ps', M') ∧ v = zb ok ∧ ps' ≤ ps + 17 ∧ M' 0 = T ∧ (True) ∧ zmo g σ' a th size wr ps' lv ot ak fr pr M')) 2 [(2, .int (nI n)), (0, .ref a), (1, .int (nI i))] [] σ1 sz 0 0 := by
    intro kk
    induction kk with
    | zero => intro n ps1 F σ1 hk hn; exfalso; omega
    | succ kk ih =>
      intro n ps1 F σ1 hk hn hpb hE hM hF
      refine ze_aload_n 1 cd_M_titled_2 rfl rfl ?_
      refine ze_callVp (rm' := zr_M_look) (b := a) (As := []) (rest := []) (kc_M_look2 (T := T) hM hT0 hsz (by omega)) ⟨rfl, rfl⟩ zy_M_look_ok zm_841 zm_843 zm_32 (ci := 7) rfl rfl (by decide) (by decide) cd_M_titled_3 hM.1 rfl rfl (Nat.le_of_ble_eq_true rfl) ?_
      refine ze_bipush (v := nI 97) cd_M_titled_6 (by decide) ?_
      refine ze_bipush (v := nI 122) cd_M_titled_8 (by decide) ?_
      refine ze_callSp (rm' := zr_M_in) (As := [.int (zmd T size ps1), .int (nI 97), .int (nI 122)]) (rest := []) kc_M_in ⟨rfl, rfl⟩ zy_M_in_ok zm_856 zm_857 (by decide) (by decide) cd_M_titled_10 rfl rfl (Nat.le_of_ble_eq_true rfl) ?_
      refine ze_if_eq (tgt := 56) cd_M_titled_13 (by decide) (fun c1 => ?_) (fun c1 => ?_)
      · skip
        have c1 : (zt_l (zmd T size ps1)) = false := zb_f c1
        refine ze_aload_n 1 cd_M_titled_56 rfl rfl ?_
        refine ze_get zin_M (v := .ref (a + 10)) (ci := 7) rfl 15 (by decide) zm_737 rfl cd_M_titled_57 hM.1 rfl ?_
        refine ze_iload_n 2 cd_M_titled_60 rfl rfl ?_
        refine ze_iload_n 0 cd_M_titled_61 rfl rfl ?_
        refine ze_iast (j := i) (f := M 9) cd_M_titled_62 (hM.2 9 _ rfl) rfl (by omega) (by decide) ?_
        have hM := hM.ar 9 0 300 rfl (b := a + 10) (f := upd (M 9) i (nI n)) (by omega)
        have hF := hF.up (a := a + 10) (e := .inl (g.2.2.2.1 0, 300, .inl (upd (M 9) i (nI n)))) (by omega) (by omega)
        refine ze_iload_n 0 cd_M_titled_63 rfl rfl ?_
        refine ze_if_le (tgt := 71) cd_M_titled_64 (by decide) (fun c2 => ?_) (fun c2 => ?_)
        · skip
          have c2 := c2; rw [← nI_0] at c2
          have c2 : n ≤ 0 := (nI_leI (by omega) (by omega)).mp c2
          refine ze_iconst (v := nI 0) cd_M_titled_71 (by decide) ?_
          refine ze_zret cd_M_titled_72 rfl (by decide) (by decide) (by decide) ⟨_, rfl, rfl, hF, false, ps1, va_up (va_up M 10 F) 9 (upd (M 9) i (nI n)), ?_, (by decide), by omega, hT0, trivial, hM⟩
          unfold zm_title; rw [← hE]; first | (rw [show zm_tl (zmd T size) i (kk + 1) n ps1 F = (false, n, ps1, F) from by (unfold zm_tl; rw [if_pos c1, if_pos (by omega)])]; done) | (rw [show zm_tl (zmd T size) i (kk + 1) n ps1 F = (true, n, ps1, F) from by (unfold zm_tl; rw [if_neg (by rw [c1]; decide)])]; show (if n = 0 then false else true, _, _) = _; first | (rw [if_pos (by omega)]; done) | (rw [if_neg (by omega)]; done))
        · skip
          have c2 := c2; rw [← nI_0] at c2
          have c2 : ¬ n ≤ 0 := fun h9 => c2 ((nI_leI (by omega) (by omega)).mpr h9)
          refine ze_iconst (v := nI 1) cd_M_titled_67 (by decide) ?_
          refine ze_goto (tgt := 72) cd_M_titled_68 (by decide) ?_
          refine ze_zret cd_M_titled_72 rfl (by decide) (by decide) (by decide) ⟨_, rfl, rfl, hF, true, ps1, va_up (va_up M 10 F) 9 (upd (M 9) i (nI n)), ?_, (by decide), by omega, hT0, trivial, hM⟩
          unfold zm_title; rw [← hE]; first | (rw [show zm_tl (zmd T size) i (kk + 1) n ps1 F = (false, n, ps1, F) from by (unfold zm_tl; rw [if_pos c1, if_pos (by omega)])]; done) | (rw [show zm_tl (zmd T size) i (kk + 1) n ps1 F = (true, n, ps1, F) from by (unfold zm_tl; rw [if_neg (by rw [c1]; decide)])]; show (if n = 0 then false else true, _, _) = _; first | (rw [if_pos (by omega)]; done) | (rw [if_neg (by omega)]; done))
      · skip
        have c1 : (zt_l (zmd T size ps1)) = true := zb_t c1
        refine ze_iload_n 0 cd_M_titled_16 rfl rfl ?_
        refine ze_bipush (v := nI 16) cd_M_titled_17 (by decide) ?_
        refine ze_icmp_ne (tgt := 24) cd_M_titled_19 (by decide) (fun c3 => ?_) (fun c3 => ?_)
        · skip
          have c3 : ¬ n = 16 := fun h9 => c3 (by rw [h9])
          refine ze_aload_n 1 cd_M_titled_24 rfl rfl ?_
          refine ze_get zin_M (v := .ref (a + 11)) (ci := 7) rfl 16 (by decide) zm_738 rfl cd_M_titled_25 hM.1 rfl ?_
          refine ze_bipush (v := nI 16) cd_M_titled_28 (by decide) ?_
          refine ze_iload_n 2 cd_M_titled_30 rfl rfl ?_
          refine ze_imul cd_M_titled_31 ?_
          refine ze_top (y := nI (16 * i)) (pk_mul _ _) ?_
          refine ze_iload_n 0 cd_M_titled_32 rfl rfl ?_
          refine ze_iadd cd_M_titled_33 ?_
          refine ze_top (y := nI ((16 * i) + n)) (nI_add _ _) ?_
          refine ze_aload_n 1 cd_M_titled_34 rfl rfl ?_
          refine ze_callVp (rm' := zr_M_look) (b := a) (As := []) (rest := [.int (nI ((16 * i) + n)), .ref (a + 11)]) (kc_M_look2 (T := T) hM hT0 hsz (by omega)) ⟨rfl, rfl⟩ zy_M_look_ok zm_841 zm_843 zm_32 (ci := 7) rfl rfl (by decide) (by decide) cd_M_titled_35 hM.1 rfl rfl (Nat.le_of_ble_eq_true rfl) ?_
          refine ze_i2b (v := zby (zmd T size ps1)) cd_M_titled_38 rfl ?_
          refine ze_bast (j := (16 * i) + n) (f := F) cd_M_titled_39 (hM.2 10 _ rfl) rfl (by omega) (by decide) ?_
          refine ze_eq rfl rfl rfl (by rw [zby_n]) rfl ?_
          have hM := hM.ar 10 4 4800 rfl (b := a + 11) (f := upd F ((16 * i) + n) (zby (zmd T size ps1))) (by omega)
          rw [bx_uu] at hM
          have hF := hF.up (a := a + 11) (e := .inl (g.2.2.2.1 4, 4800, .inl (upd F ((16 * i) + n) (zby (zmd T size ps1))))) (by omega) (by omega)
          refine ze_iinc (v := nI (n + 1)) (lv' := [(2, .int (nI (n + 1))), (0, .ref a), (1, .int (nI i))]) 0 cd_M_titled_40 rfl (nI_add _ 1) (by decide) rfl ?_
          refine ze_aload_n 1 cd_M_titled_43 rfl rfl ?_
          refine ze_dup cd_M_titled_44 rfl ?_
          refine ze_get zin_M (v := .int (nI ps1)) (ci := 7) rfl 4 (by decide) zm_726 rfl cd_M_titled_45 hM.1 rfl ?_
          refine ze_iconst (v := nI 1) cd_M_titled_48 (by decide) ?_
          refine ze_iadd cd_M_titled_49 ?_
          refine ze_top (y := nI (ps1 + 1)) (nI_add _ _) ?_
          refine ze_put zin_M zy_M zt_M zn_M (ci := 7) rfl 4 (by decide) zm_726 rfl (Or.inl rfl) cd_M_titled_50 hM.1 rfl rfl (Nat.le_of_ble_eq_true rfl) (fs' := [.int th, .int (nI size), .ref (a + 1), .int wr, .int (nI (ps1 + 1)), .int (nI lv), .int (nI ot), .ref (a + 2), .ref (a + 3), .ref (a + 4), .ref (a + 5), .ref (a + 6), .ref (a + 7), .ref (a + 8), .ref (a + 9), .ref (a + 10), .ref (a + 11), .ref (a + 12), .ref (a + 13), .ref (a + 14), .ref (a + 15), .ref (a + 16), .ref (a + 17), .int (nI ak), .ref (a + 18), .ref (a + 19), .ref (a + 20), .int fr, .int (nI pr), .ref (a + 21)]) rfl ?_
          have hM := hM.put (fs' := [.int th, .int (nI size), .ref (a + 1), .int wr, .int (nI (ps1 + 1)), .int (nI lv), .int (nI ot), .ref (a + 2), .ref (a + 3), .ref (a + 4), .ref (a + 5), .ref (a + 6), .ref (a + 7), .ref (a + 8), .ref (a + 9), .ref (a + 10), .ref (a + 11), .ref (a + 12), .ref (a + 13), .ref (a + 14), .ref (a + 15), .ref (a + 16), .ref (a + 17), .int (nI ak), .ref (a + 18), .ref (a + 19), .ref (a + 20), .int fr, .int (nI pr), .ref (a + 21)])
          have hF := hF.up (a := a) (e := .inr (7, [.int th, .int (nI size), .ref (a + 1), .int wr, .int (nI (ps1 + 1)), .int (nI lv), .int (nI ot), .ref (a + 2), .ref (a + 3), .ref (a + 4), .ref (a + 5), .ref (a + 6), .ref (a + 7), .ref (a + 8), .ref (a + 9), .ref (a + 10), .ref (a + 11), .ref (a + 12), .ref (a + 13), .ref (a + 14), .ref (a + 15), .ref (a + 16), .ref (a + 17), .int (nI ak), .ref (a + 18), .ref (a + 19), .ref (a + 20), .int fr, .int (nI pr), .ref (a + 21)])) (by omega) (by omega)
          refine ze_goto (tgt := 2) cd_M_titled_53 (by decide) ?_
          exact ze_sub [0, 1, 2] rfl (ih (n + 1) _ _ _ (by omega) (by omega) (by omega) (by rw [← hE]; exact (show zm_tl (zmd T size) i (kk + 1) n ps1 F = zm_tl (zmd T size) i kk (n + 1) (ps1 + 1) (upd F (16 * i + n) (zby (zmd T size ps1))) from by (conv => lhs; unfold zm_tl); rw [if_pos c1, if_neg (by omega)]).symm) hM hF)
        · skip
          have c3 : n = 16 := (nI_eq (by omega) (by omega)).mp c3
          refine ze_iconst (v := nI 0) cd_M_titled_22 (by decide) ?_
          refine ze_zret cd_M_titled_23 rfl (by decide) (by decide) (by decide) ⟨_, rfl, rfl, hF, false, ps1, va_up M 10 F, ?_, (by decide), by omega, hT0, trivial, hM⟩
          unfold zm_title; rw [← hE]; first | (rw [show zm_tl (zmd T size) i (kk + 1) n ps1 F = (false, n, ps1, F) from by (unfold zm_tl; rw [if_pos c1, if_pos (by omega)])]; done) | (rw [show zm_tl (zmd T size) i (kk + 1) n ps1 F = (true, n, ps1, F) from by (unfold zm_tl; rw [if_neg (by rw [c1]; decide)])]; show (if n = 0 then false else true, _, _) = _; first | (rw [if_pos (by omega)]; done) | (rw [if_neg (by omega)]; done))
  refine zM_of (lv := [(0, .ref a), (1, .int (nI i))]) (ini := false) (by decide) rfl (by decide) (Nat.le_of_ble_eq_true rfl) rfl ?_
  refine ze_iconst (v := nI 0) cd_M_titled_0 (by decide) ?_
  refine ze_istore_n (lv' := [(2, .int (nI 0)), (0, .ref a), (1, .int (nI i))]) cd_M_titled_1 rfl (by decide) rfl ?_
  exact ze_sub [0, 1, 2] rfl (loop 17 0 ps _ _ (by omega) (by omega) (by omega) rfl (by rw [va_up_id]; exact hM) hF)
def zm_dq (c : Nat → Int32) (i ps : Nat) (M : Nat → Nat → Int32) : zqs := match zm_eat c (nI 63) ps M with
  | (true, ps1, M1) => (true, ps1, va_up M1 6 (upd (M1 6) i (nI 1)))
  | (false, ps1, M1) => (true, ps1, va_up M1 6 (upd (M1 6) i (nI 0)))
def zm_dated (c : Nat → Int32) (i ps : Nat) (M : Nat → Nat → Int32) : zqs := match zm_yr1 (zm_yl c 4 ps (nI 0)) 4 i ps (nI 1000) M with
  | (false, ps1, M1) => (false, ps1, M1)
  | (true, ps1, M1) => match zm_eat c (nI 45) ps1 (va_up M1 5 (upd (M1 5) i (M1 4 i))) with
    | (false, ps2, M2) => zm_dq c i ps2 M2
    | (true, ps2, M2) => match zm_yr1 (zm_yl c 4 ps2 (nI 0)) 5 i ps2 (M1 4 i) M2 with
      | (false, ps3, M3) => (false, ps3, M3)
      | (true, ps3, M3) => zm_dq c i ps3 M3
abbrev zr_M_dated : Room := { frames := 3, cells := 0, slots := 0, locals := 68 }
set_option maxRecDepth 100000 in
set_option maxHeartbeats 4000000 in
theorem kc_M_dated {g : zx_G} {σ : zx_M} {sz : Nat} {a size ps lv ot ak pr : Nat} {th wr fr : Int32} {M : Nat → Nat → Int32} {T : Nat → Int32} {i : Nat} (hM : zmo g σ a th size wr ps lv ot ak fr pr M) (hT0 : M 0 = T) (hsz : size ≤ 3000) (hps : ps ≤ 14500) (hi : i < 300) : zM g cy_M_dated cb_M_dated 2 (Option.some Jvm.ClassFile.FieldType.boolean) zr_M_dated 0 0 [.ref a, .int (nI i)] σ sz (zPi (fun v σ' sz' => sz' = sz ∧ zfr σ σ' a 22 ∧ ∃ ok ps' M', zm_dated (zmd T size) i ps M = (ok, ps', M') ∧ v = zb ok ∧ ps' ≤ ps + 10 ∧ M' 0 = T ∧ (True) ∧ zmo g σ' a th size wr ps' lv ot ak fr pr M')) := by
  have hF : zfr σ σ a 22 := zfr.rf
  refine zM_of (lv := [(0, .ref a), (1, .int (nI i))]) (ini := false) (by decide) rfl (by decide) (Nat.le_of_ble_eq_true rfl) rfl ?_
  refine ze_aload_n 0 cd_M_dated_0 rfl rfl ?_
  refine ze_aload_n 0 cd_M_dated_1 rfl rfl ?_
  refine ze_get zin_M (v := .ref (a + 5)) (ci := 7) rfl 10 (by decide) zm_732 rfl cd_M_dated_2 hM.1 rfl ?_
  refine ze_iload_n 1 cd_M_dated_5 rfl rfl ?_
  refine ze_sipush (v := nI 1000) cd_M_dated_6 (by decide) ?_
  refine ze_callVi (rm' := zr_M_year) (b := a) (As := [.ref (a + 5), .int (nI i), .int (nI 1000)]) (rest := []) (kc_M_year_4 (T := T) (i := i) (least := nI 1000) hM hT0 hsz (by omega) (by omega)) ⟨rfl, rfl⟩ zy_M_year_ok zm_871 zm_873 zm_38 (ci := 7) rfl rfl (by decide) (by decide) cd_M_dated_9 hM.1 rfl rfl (Nat.le_of_ble_eq_true rfl) (fun v9 σ9 sz9 hq9 => ?_)
  obtain ⟨rfl, hF9, ok1, ps1, M1, hX1, rfl, hb1, hT0, hE1, hM⟩ := hq9
  have hF := hF.trans hF9
  refine ze_if_ne (tgt := 17) cd_M_dated_12 (by decide) (fun c2 => ?_) (fun c2 => ?_)
  · skip
    have c2 : ok1 = true := zb_t c2
    subst c2
    refine ze_aload_n 0 cd_M_dated_17 rfl rfl ?_
    refine ze_get zin_M (v := .ref (a + 6)) (ci := 7) rfl 11 (by decide) zm_733 rfl cd_M_dated_18 hM.1 rfl ?_
    refine ze_iload_n 1 cd_M_dated_21 rfl rfl ?_
    refine ze_aload_n 0 cd_M_dated_22 rfl rfl ?_
    refine ze_get zin_M (v := .ref (a + 5)) (ci := 7) rfl 10 (by decide) zm_732 rfl cd_M_dated_23 hM.1 rfl ?_
    refine ze_iload_n 1 cd_M_dated_26 rfl rfl ?_
    refine ze_iald (j := i) cd_M_dated_27 (hM.2 4 _ rfl) rfl (by omega) (by decide) ?_
    refine ze_iast (j := i) cd_M_dated_28 (hM.2 5 _ rfl) rfl (by omega) (by decide) ?_
    have hM := hM.ar 5 0 300 rfl (b := a + 6) (f := upd (M1 5) i (M1 4 i)) (by omega)
    have hF := hF.up (a := a + 6) (e := .inl (g.2.2.2.1 0, 300, .inl (upd (M1 5) i (M1 4 i)))) (by omega) (by omega)
    refine ze_aload_n 0 cd_M_dated_29 rfl rfl ?_
    refine ze_bipush (v := nI 45) cd_M_dated_30 (by decide) ?_
    refine ze_callVi (rm' := zr_M_eat) (b := a) (As := [.int (nI 45)]) (rest := []) (kc_M_eat (T := T) (x := nI 45) hM hT0 hsz (by omega)) ⟨rfl, rfl⟩ zy_M_eat_ok zm_859 zm_861 zm_35 (ci := 7) rfl rfl (by decide) (by decide) cd_M_dated_32 hM.1 rfl rfl (Nat.le_of_ble_eq_true rfl) (fun v9 σ9 sz9 hq9 => ?_)
    obtain ⟨rfl, hF9, ok3, ps3, M9, hX3, rfl, hb3, -, rfl, hM⟩ := hq9
    have hF := hF.trans hF9
    refine ze_if_eq (tgt := 58) cd_M_dated_35 (by decide) (fun c4 => ?_) (fun c4 => ?_)
    · skip
      have c4 : ok3 = false := zb_f c4
      subst c4
      refine ze_aload_n 0 cd_M_dated_58 rfl rfl ?_
      refine ze_get zin_M (v := .ref (a + 7)) (ci := 7) rfl 12 (by decide) zm_734 rfl cd_M_dated_59 hM.1 rfl ?_
      refine ze_iload_n 1 cd_M_dated_62 rfl rfl ?_
      refine ze_aload_n 0 cd_M_dated_63 rfl rfl ?_
      refine ze_bipush (v := nI 63) cd_M_dated_64 (by decide) ?_
      refine ze_callVi (rm' := zr_M_eat) (b := a) (As := [.int (nI 63)]) (rest := [.int (nI i), .ref (a + 7)]) (kc_M_eat (T := T) (x := nI 63) hM hT0 hsz (by omega)) ⟨rfl, rfl⟩ zy_M_eat_ok zm_859 zm_861 zm_35 (ci := 7) rfl rfl (by decide) (by decide) cd_M_dated_66 hM.1 rfl rfl (Nat.le_of_ble_eq_true rfl) (fun v9 σ9 sz9 hq9 => ?_)
      obtain ⟨rfl, hF9, ok5, ps5, M9, hX5, rfl, hb5, -, rfl, hM⟩ := hq9
      have hF := hF.trans hF9
      refine ze_if_eq (tgt := 76) cd_M_dated_69 (by decide) (fun c6 => ?_) (fun c6 => ?_)
      · skip
        have c6 : ok5 = false := zb_f c6
        subst c6
        refine ze_iconst (v := nI 0) cd_M_dated_76 (by decide) ?_
        refine ze_iast (j := i) (f := M1 6) cd_M_dated_77 (hM.2 6 _ rfl) rfl (by omega) (by decide) ?_
        have hM := hM.ar 6 0 300 rfl (b := a + 7) (f := upd (M1 6) i (nI 0)) (by omega)
        have hF := hF.up (a := a + 7) (e := .inl (g.2.2.2.1 0, 300, .inl (upd (M1 6) i (nI 0)))) (by omega) (by omega)
        refine ze_iconst (v := nI 1) cd_M_dated_78 (by decide) ?_
        refine ze_zret cd_M_dated_79 rfl (by decide) (by decide) (by decide) ⟨_, rfl, rfl, hF, true, ps5, va_up (va_up M1 5 (upd (M1 5) i (M1 4 i))) 6 (upd (M1 6) i (nI 0)), ?_, (by decide), by omega, hT0, trivial, hM⟩
        first | (simp only [zm_dated, zm_dq, hX1, hX3, hX5]; done) | (simp only [zm_dated, zm_dq, hX1, hX3, hX5]; rfl) | (simp_all [zm_dated, zm_dq]; done)
      · skip
        have c6 : ok5 = true := zb_t c6
        subst c6
        refine ze_iconst (v := nI 1) cd_M_dated_72 (by decide) ?_
        refine ze_goto (tgt := 77) cd_M_dated_73 (by decide) ?_
        refine ze_iast (j := i) (f := M1 6) cd_M_dated_77 (hM.2 6 _ rfl) rfl (by omega) (by decide) ?_
        have hM := hM.ar 6 0 300 rfl (b := a + 7) (f := upd (M1 6) i (nI 1)) (by omega)
        have hF := hF.up (a := a + 7) (e := .inl (g.2.2.2.1 0, 300, .inl (upd (M1 6) i (nI 1)))) (by omega) (by omega)
        refine ze_iconst (v := nI 1) cd_M_dated_78 (by decide) ?_
        refine ze_zret cd_M_dated_79 rfl (by decide) (by decide) (by decide) ⟨_, rfl, rfl, hF, true, ps5, va_up (va_up M1 5 (upd (M1 5) i (M1 4 i))) 6 (upd (M1 6) i (nI 1)), ?_, (by decide), by omega, hT0, trivial, hM⟩
        first | (simp only [zm_dated, zm_dq, hX1, hX3, hX5]; done) | (simp only [zm_dated, zm_dq, hX1, hX3, hX5]; rfl) | (simp_all [zm_dated, zm_dq]; done)
    · skip
      have c4 : ok3 = true := zb_t c4
      subst c4
      refine ze_aload_n 0 cd_M_dated_38 rfl rfl ?_
      refine ze_aload_n 0 cd_M_dated_39 rfl rfl ?_
      refine ze_get zin_M (v := .ref (a + 6)) (ci := 7) rfl 11 (by decide) zm_733 rfl cd_M_dated_40 hM.1 rfl ?_
      refine ze_iload_n 1 cd_M_dated_43 rfl rfl ?_
      refine ze_aload_n 0 cd_M_dated_44 rfl rfl ?_
      refine ze_get zin_M (v := .ref (a + 5)) (ci := 7) rfl 10 (by decide) zm_732 rfl cd_M_dated_45 hM.1 rfl ?_
      refine ze_iload_n 1 cd_M_dated_48 rfl rfl ?_
      refine ze_iald (j := i) (f := M1 4) cd_M_dated_49 (hM.2 4 _ rfl) rfl (by omega) (by decide) ?_
      refine ze_callVi (rm' := zr_M_year) (b := a) (As := [.ref (a + 6), .int (nI i), .int (M1 4 i)]) (rest := []) (kc_M_year_5 (T := T) (i := i) (least := M1 4 i) hM hT0 hsz (by omega) (by omega)) ⟨rfl, rfl⟩ zy_M_year_ok zm_871 zm_873 zm_38 (ci := 7) rfl rfl (by decide) (by decide) cd_M_dated_50 hM.1 rfl rfl (Nat.le_of_ble_eq_true rfl) (fun v9 σ9 sz9 hq9 => ?_)
      obtain ⟨rfl, hF9, ok7, ps7, M7, hX7, rfl, hb7, hT0, hE7, hM⟩ := hq9
      have hF := hF.trans hF9
      refine ze_if_ne (tgt := 58) cd_M_dated_53 (by decide) (fun c8 => ?_) (fun c8 => ?_)
      · skip
        have c8 : ok7 = true := zb_t c8
        subst c8
        refine ze_aload_n 0 cd_M_dated_58 rfl rfl ?_
        refine ze_get zin_M (v := .ref (a + 7)) (ci := 7) rfl 12 (by decide) zm_734 rfl cd_M_dated_59 hM.1 rfl ?_
        refine ze_iload_n 1 cd_M_dated_62 rfl rfl ?_
        refine ze_aload_n 0 cd_M_dated_63 rfl rfl ?_
        refine ze_bipush (v := nI 63) cd_M_dated_64 (by decide) ?_
        refine ze_callVi (rm' := zr_M_eat) (b := a) (As := [.int (nI 63)]) (rest := [.int (nI i), .ref (a + 7)]) (kc_M_eat (T := T) (x := nI 63) hM hT0 hsz (by omega)) ⟨rfl, rfl⟩ zy_M_eat_ok zm_859 zm_861 zm_35 (ci := 7) rfl rfl (by decide) (by decide) cd_M_dated_66 hM.1 rfl rfl (Nat.le_of_ble_eq_true rfl) (fun v9 σ9 sz9 hq9 => ?_)
        obtain ⟨rfl, hF9, ok9, ps9, M9, hX9, rfl, hb9, -, rfl, hM⟩ := hq9
        have hF := hF.trans hF9
        refine ze_if_eq (tgt := 76) cd_M_dated_69 (by decide) (fun c10 => ?_) (fun c10 => ?_)
        · skip
          have c10 : ok9 = false := zb_f c10
          subst c10
          refine ze_iconst (v := nI 0) cd_M_dated_76 (by decide) ?_
          refine ze_iast (j := i) cd_M_dated_77 (hM.2 6 _ rfl) rfl (by omega) (by decide) ?_
          have hM := hM.ar 6 0 300 rfl (b := a + 7) (f := upd (M7 6) i (nI 0)) (by omega)
          have hF := hF.up (a := a + 7) (e := .inl (g.2.2.2.1 0, 300, .inl (upd (M7 6) i (nI 0)))) (by omega) (by omega)
          refine ze_iconst (v := nI 1) cd_M_dated_78 (by decide) ?_
          refine ze_zret cd_M_dated_79 rfl (by decide) (by decide) (by decide) ⟨_, rfl, rfl, hF, true, ps9, va_up M7 6 (upd (M7 6) i (nI 0)), ?_, (by decide), by omega, hT0, trivial, hM⟩
          first | (simp only [zm_dated, zm_dq, hX1, hX3, hX7, hX9]; done) | (simp only [zm_dated, zm_dq, hX1, hX3, hX7, hX9]; rfl) | (simp_all [zm_dated, zm_dq]; done)
        · skip
          have c10 : ok9 = true := zb_t c10
          subst c10
          refine ze_iconst (v := nI 1) cd_M_dated_72 (by decide) ?_
          refine ze_goto (tgt := 77) cd_M_dated_73 (by decide) ?_
          refine ze_iast (j := i) cd_M_dated_77 (hM.2 6 _ rfl) rfl (by omega) (by decide) ?_
          have hM := hM.ar 6 0 300 rfl (b := a + 7) (f := upd (M7 6) i (nI 1)) (by omega)
          have hF := hF.up (a := a + 7) (e := .inl (g.2.2.2.1 0, 300, .inl (upd (M7 6) i (nI 1)))) (by omega) (by omega)
          refine ze_iconst (v := nI 1) cd_M_dated_78 (by decide) ?_
          refine ze_zret cd_M_dated_79 rfl (by decide) (by decide) (by decide) ⟨_, rfl, rfl, hF, true, ps9, va_up M7 6 (upd (M7 6) i (nI 1)), ?_, (by decide), by omega, hT0, trivial, hM⟩
          first | (simp only [zm_dated, zm_dq, hX1, hX3, hX7, hX9]; done) | (simp only [zm_dated, zm_dq, hX1, hX3, hX7, hX9]; rfl) | (simp_all [zm_dated, zm_dq]; done)
      · skip
        have c8 : ok7 = false := zb_f c8
        subst c8
        refine ze_iconst (v := nI 0) cd_M_dated_56 (by decide) ?_
        refine ze_zret cd_M_dated_57 rfl (by decide) (by decide) (by decide) ⟨_, rfl, rfl, hF, false, ps7, M7, ?_, (by decide), by omega, hT0, trivial, hM⟩
        first | (simp only [zm_dated, zm_dq, hX1, hX3, hX7]; done) | (simp only [zm_dated, zm_dq, hX1, hX3, hX7]; rfl) | (simp_all [zm_dated, zm_dq]; done)
  · skip
    have c2 : ok1 = false := zb_f c2
    subst c2
    refine ze_iconst (v := nI 0) cd_M_dated_15 (by decide) ?_
    refine ze_zret cd_M_dated_16 rfl (by decide) (by decide) (by decide) ⟨_, rfl, rfl, hF, false, ps1, M1, ?_, (by decide), by omega, hT0, trivial, hM⟩
    first | (simp only [zm_dated, zm_dq, hX1]; done) | (simp only [zm_dated, zm_dq, hX1]; rfl) | (simp_all [zm_dated, zm_dq]; done)
def zm_ext (c : Nat → Int32) (i ps : Nat) (M : Nat → Nat → Int32) : zqs := match zm_num c 7 i ps M with
  | (false, ps1, M1) => (false, ps1, M1)
  | (true, ps1, M1) => if c ps1 = nI 98 then (true, ps1 + 1, va_up M1 8 (upd (M1 8) i (nI 0))) else if c ps1 = nI 109 then (true, ps1 + 1, va_up M1 8 (upd (M1 8) i (nI 1))) else if c ps1 = nI 112 then (true, ps1 + 1, va_up M1 8 (upd (M1 8) i (nI 2))) else (false, ps1, va_up M1 8 (upd (M1 8) i (-1)))
abbrev zr_M_extended : Room := { frames := 3, cells := 0, slots := 0, locals := 66 }
set_option maxRecDepth 100000 in
set_option maxHeartbeats 4000000 in
theorem kc_M_extended {g : zx_G} {σ : zx_M} {sz : Nat} {a size ps lv ot ak pr : Nat} {th wr fr : Int32} {M : Nat → Nat → Int32} {T : Nat → Int32} {i : Nat} (hM : zmo g σ a th size wr ps lv ot ak fr pr M) (hT0 : M 0 = T) (hsz : size ≤ 3000) (hps : ps ≤ 14500) (hi : i < 300) : zM g cy_M_extended cb_M_extended 2 (Option.some Jvm.ClassFile.FieldType.boolean) zr_M_extended 0 0 [.ref a, .int (nI i)] σ sz (zPi (fun v σ' sz' => sz' = sz ∧ zfr σ σ' a 22 ∧ ∃ ok ps' M', zm_ext (zmd T size) i ps M = (ok, ps', M') ∧ v = zb ok ∧ ps' ≤ ps + 6 ∧ M' 0 = T ∧ (True) ∧ zmo g σ' a th size wr ps' lv ot ak fr pr M')) := by
  have hF : zfr σ σ a 22 := zfr.rf
  refine zM_of (lv := [(0, .ref a), (1, .int (nI i))]) (ini := false) (by decide) rfl (by decide) (Nat.le_of_ble_eq_true rfl) rfl ?_
  refine ze_aload_n 0 cd_M_extended_0 rfl rfl ?_
  refine ze_aload_n 0 cd_M_extended_1 rfl rfl ?_
  refine ze_get zin_M (v := .ref (a + 8)) (ci := 7) rfl 13 (by decide) zm_735 rfl cd_M_extended_2 hM.1 rfl ?_
  refine ze_iload_n 1 cd_M_extended_5 rfl rfl ?_
  refine ze_callVi (rm' := zr_M_number) (b := a) (As := [.ref (a + 8), .int (nI i)]) (rest := []) (kc_M_number_7 (T := T) (i := i) hM hT0 hsz (by omega) (by omega)) ⟨rfl, rfl⟩ zy_M_number_ok zm_848 zm_850 zm_33 (ci := 7) rfl rfl (by decide) (by decide) cd_M_extended_6 hM.1 rfl rfl (Nat.le_of_ble_eq_true rfl) (fun v9 σ9 sz9 hq9 => ?_)
  obtain ⟨rfl, hF9, ok1, ps1, M1, hX1, rfl, hb1, hT0, hE1, hM⟩ := hq9
  have hF := hF.trans hF9
  refine ze_if_ne (tgt := 14) cd_M_extended_9 (by decide) (fun c2 => ?_) (fun c2 => ?_)
  · skip
    have c2 : ok1 = true := zb_t c2
    subst c2
    refine ze_aload_n 0 cd_M_extended_14 rfl rfl ?_
    refine ze_get zin_M (v := .ref (a + 9)) (ci := 7) rfl 14 (by decide) zm_736 rfl cd_M_extended_15 hM.1 rfl ?_
    refine ze_iload_n 1 cd_M_extended_18 rfl rfl ?_
    refine ze_aload_n 0 cd_M_extended_19 rfl rfl ?_
    refine ze_callVp (rm' := zr_M_look) (b := a) (As := []) (rest := [.int (nI i), .ref (a + 9)]) (kc_M_look2 (T := T) hM hT0 hsz (by omega)) ⟨rfl, rfl⟩ zy_M_look_ok zm_841 zm_843 zm_32 (ci := 7) rfl rfl (by decide) (by decide) cd_M_extended_20 hM.1 rfl rfl (Nat.le_of_ble_eq_true rfl) ?_
    refine ze_bipush (v := nI 98) cd_M_extended_23 (by decide) ?_
    refine ze_icmp_ne (tgt := 32) cd_M_extended_25 (by decide) (fun c3 => ?_) (fun c3 => ?_)
    · skip
      refine ze_aload_n 0 cd_M_extended_32 rfl rfl ?_
      refine ze_callVp (rm' := zr_M_look) (b := a) (As := []) (rest := [.int (nI i), .ref (a + 9)]) (kc_M_look2 (T := T) hM hT0 hsz (by omega)) ⟨rfl, rfl⟩ zy_M_look_ok zm_841 zm_843 zm_32 (ci := 7) rfl rfl (by decide) (by decide) cd_M_extended_33 hM.1 rfl rfl (Nat.le_of_ble_eq_true rfl) ?_
      refine ze_bipush (v := nI 109) cd_M_extended_36 (by decide) ?_
      refine ze_icmp_ne (tgt := 45) cd_M_extended_38 (by decide) (fun c4 => ?_) (fun c4 => ?_)
      · skip
        refine ze_aload_n 0 cd_M_extended_45 rfl rfl ?_
        refine ze_callVp (rm' := zr_M_look) (b := a) (As := []) (rest := [.int (nI i), .ref (a + 9)]) (kc_M_look2 (T := T) hM hT0 hsz (by omega)) ⟨rfl, rfl⟩ zy_M_look_ok zm_841 zm_843 zm_32 (ci := 7) rfl rfl (by decide) (by decide) cd_M_extended_46 hM.1 rfl rfl (Nat.le_of_ble_eq_true rfl) ?_
        refine ze_bipush (v := nI 112) cd_M_extended_49 (by decide) ?_
        refine ze_icmp_ne (tgt := 58) cd_M_extended_51 (by decide) (fun c5 => ?_) (fun c5 => ?_)
        · skip
          refine ze_iconst (v := (-1 : Int32)) cd_M_extended_58 (by decide) ?_
          refine ze_iast (j := i) cd_M_extended_59 (hM.2 8 _ rfl) rfl (by omega) (by decide) ?_
          have hM := hM.ar 8 0 300 rfl (b := a + 9) (f := upd (M1 8) i ((-1 : Int32))) (by omega)
          have hF := hF.up (a := a + 9) (e := .inl (g.2.2.2.1 0, 300, .inl (upd (M1 8) i ((-1 : Int32))))) (by omega) (by omega)
          refine ze_aload_n 0 cd_M_extended_60 rfl rfl ?_
          refine ze_get zin_M (v := .ref (a + 9)) (ci := 7) rfl 14 (by decide) zm_736 rfl cd_M_extended_61 hM.1 rfl ?_
          refine ze_iload_n 1 cd_M_extended_64 rfl rfl ?_
          refine ze_iald (j := i) (f := upd (M1 8) i ((-1 : Int32))) cd_M_extended_65 (hM.2 8 _ rfl) rfl (by omega) (by decide) ?_
          refine ze_top (y := (-1 : Int32)) pk_us ?_
          refine ze_if_ge (tgt := 71) cd_M_extended_66 (by decide) (fun c9 => absurd c9 (by decide)) (fun _ => ?_)
          refine ze_iconst (v := nI 0) cd_M_extended_69 (by decide) ?_
          refine ze_zret cd_M_extended_70 rfl (by decide) (by decide) (by decide) ⟨_, rfl, rfl, hF, false, ps1, va_up M1 8 (upd (M1 8) i ((-1 : Int32))), ?_, (by decide), by omega, hT0, trivial, hM⟩
          first | (simp only [zm_ext, hX1, c3, c4, c5]; done) | (simp only [zm_ext, hX1, c3, c4, c5]; rfl) | (simp [zm_ext, hX1, c3, c4, c5]; done) | (simp only [zm_ext, hX1]; simp [hX1, c3, c4, c5]; done)
        · skip
          refine ze_iconst (v := nI 2) cd_M_extended_54 (by decide) ?_
          refine ze_goto (tgt := 59) cd_M_extended_55 (by decide) ?_
          refine ze_iast (j := i) cd_M_extended_59 (hM.2 8 _ rfl) rfl (by omega) (by decide) ?_
          have hM := hM.ar 8 0 300 rfl (b := a + 9) (f := upd (M1 8) i (nI 2)) (by omega)
          have hF := hF.up (a := a + 9) (e := .inl (g.2.2.2.1 0, 300, .inl (upd (M1 8) i (nI 2)))) (by omega) (by omega)
          refine ze_aload_n 0 cd_M_extended_60 rfl rfl ?_
          refine ze_get zin_M (v := .ref (a + 9)) (ci := 7) rfl 14 (by decide) zm_736 rfl cd_M_extended_61 hM.1 rfl ?_
          refine ze_iload_n 1 cd_M_extended_64 rfl rfl ?_
          refine ze_iald (j := i) (f := upd (M1 8) i (nI 2)) cd_M_extended_65 (hM.2 8 _ rfl) rfl (by omega) (by decide) ?_
          refine ze_top (y := nI 2) pk_us ?_
          refine ze_if_ge (tgt := 71) cd_M_extended_66 (by decide) (fun _ => ?_) (fun c9 => absurd (by decide) c9)
          refine ze_aload_n 0 cd_M_extended_71 rfl rfl ?_
          refine ze_dup cd_M_extended_72 rfl ?_
          refine ze_get zin_M (v := .int (nI ps1)) (ci := 7) rfl 4 (by decide) zm_726 rfl cd_M_extended_73 hM.1 rfl ?_
          refine ze_iconst (v := nI 1) cd_M_extended_76 (by decide) ?_
          refine ze_iadd cd_M_extended_77 ?_
          refine ze_top (y := nI (ps1 + 1)) (nI_add _ _) ?_
          refine ze_put zin_M zy_M zt_M zn_M (ci := 7) rfl 4 (by decide) zm_726 rfl (Or.inl rfl) cd_M_extended_78 hM.1 rfl rfl (Nat.le_of_ble_eq_true rfl) (fs' := [.int th, .int (nI size), .ref (a + 1), .int wr, .int (nI (ps1 + 1)), .int (nI lv), .int (nI ot), .ref (a + 2), .ref (a + 3), .ref (a + 4), .ref (a + 5), .ref (a + 6), .ref (a + 7), .ref (a + 8), .ref (a + 9), .ref (a + 10), .ref (a + 11), .ref (a + 12), .ref (a + 13), .ref (a + 14), .ref (a + 15), .ref (a + 16), .ref (a + 17), .int (nI ak), .ref (a + 18), .ref (a + 19), .ref (a + 20), .int fr, .int (nI pr), .ref (a + 21)]) rfl ?_
          have hM := hM.put (fs' := [.int th, .int (nI size), .ref (a + 1), .int wr, .int (nI (ps1 + 1)), .int (nI lv), .int (nI ot), .ref (a + 2), .ref (a + 3), .ref (a + 4), .ref (a + 5), .ref (a + 6), .ref (a + 7), .ref (a + 8), .ref (a + 9), .ref (a + 10), .ref (a + 11), .ref (a + 12), .ref (a + 13), .ref (a + 14), .ref (a + 15), .ref (a + 16), .ref (a + 17), .int (nI ak), .ref (a + 18), .ref (a + 19), .ref (a + 20), .int fr, .int (nI pr), .ref (a + 21)])
          have hF := hF.up (a := a) (e := .inr (7, [.int th, .int (nI size), .ref (a + 1), .int wr, .int (nI (ps1 + 1)), .int (nI lv), .int (nI ot), .ref (a + 2), .ref (a + 3), .ref (a + 4), .ref (a + 5), .ref (a + 6), .ref (a + 7), .ref (a + 8), .ref (a + 9), .ref (a + 10), .ref (a + 11), .ref (a + 12), .ref (a + 13), .ref (a + 14), .ref (a + 15), .ref (a + 16), .ref (a + 17), .int (nI ak), .ref (a + 18), .ref (a + 19), .ref (a + 20), .int fr, .int (nI pr), .ref (a + 21)])) (by omega) (by omega)
          refine ze_iconst (v := nI 1) cd_M_extended_81 (by decide) ?_
          refine ze_zret cd_M_extended_82 rfl (by decide) (by decide) (by decide) ⟨_, rfl, rfl, hF, true, ps1 + 1, va_up M1 8 (upd (M1 8) i (nI 2)), ?_, (by decide), by omega, hT0, trivial, hM⟩
          first | (simp only [zm_ext, hX1, c3, c4, c5]; done) | (simp only [zm_ext, hX1, c3, c4, c5]; rfl) | (simp [zm_ext, hX1, c3, c4, c5]; done) | (simp only [zm_ext, hX1]; simp [hX1, c3, c4, c5]; done)
      · skip
        refine ze_iconst (v := nI 1) cd_M_extended_41 (by decide) ?_
        refine ze_goto (tgt := 59) cd_M_extended_42 (by decide) ?_
        refine ze_iast (j := i) cd_M_extended_59 (hM.2 8 _ rfl) rfl (by omega) (by decide) ?_
        have hM := hM.ar 8 0 300 rfl (b := a + 9) (f := upd (M1 8) i (nI 1)) (by omega)
        have hF := hF.up (a := a + 9) (e := .inl (g.2.2.2.1 0, 300, .inl (upd (M1 8) i (nI 1)))) (by omega) (by omega)
        refine ze_aload_n 0 cd_M_extended_60 rfl rfl ?_
        refine ze_get zin_M (v := .ref (a + 9)) (ci := 7) rfl 14 (by decide) zm_736 rfl cd_M_extended_61 hM.1 rfl ?_
        refine ze_iload_n 1 cd_M_extended_64 rfl rfl ?_
        refine ze_iald (j := i) (f := upd (M1 8) i (nI 1)) cd_M_extended_65 (hM.2 8 _ rfl) rfl (by omega) (by decide) ?_
        refine ze_top (y := nI 1) pk_us ?_
        refine ze_if_ge (tgt := 71) cd_M_extended_66 (by decide) (fun _ => ?_) (fun c9 => absurd (by decide) c9)
        refine ze_aload_n 0 cd_M_extended_71 rfl rfl ?_
        refine ze_dup cd_M_extended_72 rfl ?_
        refine ze_get zin_M (v := .int (nI ps1)) (ci := 7) rfl 4 (by decide) zm_726 rfl cd_M_extended_73 hM.1 rfl ?_
        refine ze_iconst (v := nI 1) cd_M_extended_76 (by decide) ?_
        refine ze_iadd cd_M_extended_77 ?_
        refine ze_top (y := nI (ps1 + 1)) (nI_add _ _) ?_
        refine ze_put zin_M zy_M zt_M zn_M (ci := 7) rfl 4 (by decide) zm_726 rfl (Or.inl rfl) cd_M_extended_78 hM.1 rfl rfl (Nat.le_of_ble_eq_true rfl) (fs' := [.int th, .int (nI size), .ref (a + 1), .int wr, .int (nI (ps1 + 1)), .int (nI lv), .int (nI ot), .ref (a + 2), .ref (a + 3), .ref (a + 4), .ref (a + 5), .ref (a + 6), .ref (a + 7), .ref (a + 8), .ref (a + 9), .ref (a + 10), .ref (a + 11), .ref (a + 12), .ref (a + 13), .ref (a + 14), .ref (a + 15), .ref (a + 16), .ref (a + 17), .int (nI ak), .ref (a + 18), .ref (a + 19), .ref (a + 20), .int fr, .int (nI pr), .ref (a + 21)]) rfl ?_
        have hM := hM.put (fs' := [.int th, .int (nI size), .ref (a + 1), .int wr, .int (nI (ps1 + 1)), .int (nI lv), .int (nI ot), .ref (a + 2), .ref (a + 3), .ref (a + 4), .ref (a + 5), .ref (a + 6), .ref (a + 7), .ref (a + 8), .ref (a + 9), .ref (a + 10), .ref (a + 11), .ref (a + 12), .ref (a + 13), .ref (a + 14), .ref (a + 15), .ref (a + 16), .ref (a + 17), .int (nI ak), .ref (a + 18), .ref (a + 19), .ref (a + 20), .int fr, .int (nI pr), .ref (a + 21)])
        have hF := hF.up (a := a) (e := .inr (7, [.int th, .int (nI size), .ref (a + 1), .int wr, .int (nI (ps1 + 1)), .int (nI lv), .int (nI ot), .ref (a + 2), .ref (a + 3), .ref (a + 4), .ref (a + 5), .ref (a + 6), .ref (a + 7), .ref (a + 8), .ref (a + 9), .ref (a + 10), .ref (a + 11), .ref (a + 12), .ref (a + 13), .ref (a + 14), .ref (a + 15), .ref (a + 16), .ref (a + 17), .int (nI ak), .ref (a + 18), .ref (a + 19), .ref (a + 20), .int fr, .int (nI pr), .ref (a + 21)])) (by omega) (by omega)
        refine ze_iconst (v := nI 1) cd_M_extended_81 (by decide) ?_
        refine ze_zret cd_M_extended_82 rfl (by decide) (by decide) (by decide) ⟨_, rfl, rfl, hF, true, ps1 + 1, va_up M1 8 (upd (M1 8) i (nI 1)), ?_, (by decide), by omega, hT0, trivial, hM⟩
        first | (simp only [zm_ext, hX1, c3, c4]; done) | (simp only [zm_ext, hX1, c3, c4]; rfl) | (simp [zm_ext, hX1, c3, c4]; done) | (simp only [zm_ext, hX1]; simp [hX1, c3, c4]; done)
    · skip
      refine ze_iconst (v := nI 0) cd_M_extended_28 (by decide) ?_
      refine ze_goto (tgt := 59) cd_M_extended_29 (by decide) ?_
      refine ze_iast (j := i) cd_M_extended_59 (hM.2 8 _ rfl) rfl (by omega) (by decide) ?_
      have hM := hM.ar 8 0 300 rfl (b := a + 9) (f := upd (M1 8) i (nI 0)) (by omega)
      have hF := hF.up (a := a + 9) (e := .inl (g.2.2.2.1 0, 300, .inl (upd (M1 8) i (nI 0)))) (by omega) (by omega)
      refine ze_aload_n 0 cd_M_extended_60 rfl rfl ?_
      refine ze_get zin_M (v := .ref (a + 9)) (ci := 7) rfl 14 (by decide) zm_736 rfl cd_M_extended_61 hM.1 rfl ?_
      refine ze_iload_n 1 cd_M_extended_64 rfl rfl ?_
      refine ze_iald (j := i) (f := upd (M1 8) i (nI 0)) cd_M_extended_65 (hM.2 8 _ rfl) rfl (by omega) (by decide) ?_
      refine ze_top (y := nI 0) pk_us ?_
      refine ze_if_ge (tgt := 71) cd_M_extended_66 (by decide) (fun _ => ?_) (fun c9 => absurd (by decide) c9)
      refine ze_aload_n 0 cd_M_extended_71 rfl rfl ?_
      refine ze_dup cd_M_extended_72 rfl ?_
      refine ze_get zin_M (v := .int (nI ps1)) (ci := 7) rfl 4 (by decide) zm_726 rfl cd_M_extended_73 hM.1 rfl ?_
      refine ze_iconst (v := nI 1) cd_M_extended_76 (by decide) ?_
      refine ze_iadd cd_M_extended_77 ?_
      refine ze_top (y := nI (ps1 + 1)) (nI_add _ _) ?_
      refine ze_put zin_M zy_M zt_M zn_M (ci := 7) rfl 4 (by decide) zm_726 rfl (Or.inl rfl) cd_M_extended_78 hM.1 rfl rfl (Nat.le_of_ble_eq_true rfl) (fs' := [.int th, .int (nI size), .ref (a + 1), .int wr, .int (nI (ps1 + 1)), .int (nI lv), .int (nI ot), .ref (a + 2), .ref (a + 3), .ref (a + 4), .ref (a + 5), .ref (a + 6), .ref (a + 7), .ref (a + 8), .ref (a + 9), .ref (a + 10), .ref (a + 11), .ref (a + 12), .ref (a + 13), .ref (a + 14), .ref (a + 15), .ref (a + 16), .ref (a + 17), .int (nI ak), .ref (a + 18), .ref (a + 19), .ref (a + 20), .int fr, .int (nI pr), .ref (a + 21)]) rfl ?_
      have hM := hM.put (fs' := [.int th, .int (nI size), .ref (a + 1), .int wr, .int (nI (ps1 + 1)), .int (nI lv), .int (nI ot), .ref (a + 2), .ref (a + 3), .ref (a + 4), .ref (a + 5), .ref (a + 6), .ref (a + 7), .ref (a + 8), .ref (a + 9), .ref (a + 10), .ref (a + 11), .ref (a + 12), .ref (a + 13), .ref (a + 14), .ref (a + 15), .ref (a + 16), .ref (a + 17), .int (nI ak), .ref (a + 18), .ref (a + 19), .ref (a + 20), .int fr, .int (nI pr), .ref (a + 21)])
      have hF := hF.up (a := a) (e := .inr (7, [.int th, .int (nI size), .ref (a + 1), .int wr, .int (nI (ps1 + 1)), .int (nI lv), .int (nI ot), .ref (a + 2), .ref (a + 3), .ref (a + 4), .ref (a + 5), .ref (a + 6), .ref (a + 7), .ref (a + 8), .ref (a + 9), .ref (a + 10), .ref (a + 11), .ref (a + 12), .ref (a + 13), .ref (a + 14), .ref (a + 15), .ref (a + 16), .ref (a + 17), .int (nI ak), .ref (a + 18), .ref (a + 19), .ref (a + 20), .int fr, .int (nI pr), .ref (a + 21)])) (by omega) (by omega)
      refine ze_iconst (v := nI 1) cd_M_extended_81 (by decide) ?_
      refine ze_zret cd_M_extended_82 rfl (by decide) (by decide) (by decide) ⟨_, rfl, rfl, hF, true, ps1 + 1, va_up M1 8 (upd (M1 8) i (nI 0)), ?_, (by decide), by omega, hT0, trivial, hM⟩
      first | (simp only [zm_ext, hX1, c3]; done) | (simp only [zm_ext, hX1, c3]; rfl) | (simp [zm_ext, hX1, c3]; done) | (simp only [zm_ext, hX1]; simp [hX1, c3]; done)
  · skip
    have c2 : ok1 = false := zb_f c2
    subst c2
    refine ze_iconst (v := nI 0) cd_M_extended_12 (by decide) ?_
    refine ze_zret cd_M_extended_13 rfl (by decide) (by decide) (by decide) ⟨_, rfl, rfl, hF, false, ps1, M1, ?_, (by decide), by omega, hT0, trivial, hM⟩
    first | (simp only [zm_ext, hX1]; done) | (simp only [zm_ext, hX1]; rfl) | (simp [zm_ext, hX1]; done) | (simp only [zm_ext, hX1]; simp [hX1]; done)
