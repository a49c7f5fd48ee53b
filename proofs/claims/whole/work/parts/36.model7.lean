def zm_z4 (F : Nat → Int32) (i : Nat) : Nat → Int32 := upd (upd (upd (upd F (4 * i + 0) (nI 0)) (4 * i + 1) (nI 0)) (4 * i + 2) (nI 0)) (4 * i + 3) (nI 0)
def zm_rd1 (M : Nat → Nat → Int32) (i : Nat) : Nat → Nat → Int32 := va_up (va_up (va_up (va_up (zm_cp1 M i (100 + i)) 11 (zm_z4 (zm_cp1 M i (100 + i) 11) i)) 13 (upd (zm_cp1 M i (100 + i) 13) i (nI 0))) 15 (upd (zm_cp1 M i (100 + i) 15) i (nI 0))) 16 (upd (zm_cp1 M i (100 + i) 16) i (nI 0))
def zm_rd (M : Nat → Nat → Int32) : Nat → Nat → Int32 := zfold (fun M i => zm_rd1 M i) M 0 100
abbrev zr_M_read : Room := { frames := 6, cells := 0, slots := 0, locals := 132 }
set_option maxRecDepth 100000 in
set_option maxHeartbeats 4000000 in
theorem kc_M_read {g : zx_G} {σ : zx_M} {sz : Nat} {a size ps lv ot ak pr : Nat} {th wr fr : Int32} {M : Nat → Nat → Int32} {T : Nat → Int32} {pa : Nat → Option Nat} {dp : Nat → Nat} (hM : zmo g σ a th size wr ps lv ot ak fr pr M) (hT0 : M 0 = T) (hsz : size ≤ 3000) : zM g cy_M_read cb_M_read 3 (Option.some Jvm.ClassFile.FieldType.int) zr_M_read 0 0 [.ref a] σ sz (zPi (fun v σ' sz' => sz' = sz ∧ zfr σ σ' a 22 ∧ ∃ ok ps' ot' M' pa' dp', zm_lines (zmd T size) size 102 0 pa dp 0 M = (ok, ps', ot', M', pa', dp') ∧ ps' ≤ 7000 ∧ ot' ≤ 100 ∧ M' 0 = T ∧ zfor (M' 3) pa' dp' (fun j => 100 ≤ j ∧ j < 100 + ot') ∧ (ok = true → v = nI ot' ∧ zmo g σ' a (nI 0) 0 (-1) ps' ot' ot' ak (nI 0) pr (zm_rd M')) ∧ (ok = false → v = nI 0 ∧ zmo g σ' a (nI 1) 0 (nI ps') ps' lv ot' ak fr pr M'))) := by
  have hF : zfr σ σ a 22 := zfr.rf
  have loop : ∀ (psq otq : Nat) (Mq : Nat → Nat → Int32) (paq : Nat → Option Nat) (dpq : Nat → Nat), zm_lines (zmd T size) size 102 0 pa dp 0 M = (true, psq, otq, Mq, paq, dpq) → psq ≤ 7000 → otq ≤ 100 → Mq 0 = T → zfor (Mq 3) paq dpq (fun j => 100 ≤ j ∧ j < 100 + otq) → ∀ (kk i : Nat) (Mx : Nat → Nat → Int32) (σ1 : zx_M), i + kk = 100 → zfold (fun M i => zm_rd1 M i) Mx i kk = zfold (fun M i => zm_rd1 M i) Mq 0 100 → zmo g σ1 a (nI 0) 0 (-1) psq otq otq ak (nI 0) pr Mx → zfr σ σ1 a 22 → zE g "FindingAidModel" cb_M_read 3 (Option.some Jvm.ClassFile.FieldType.int) false zr_M_read 0 0 (zPi (fun v σ' sz' => sz' = sz ∧ zfr σ σ' a 22 ∧ ∃ ok ps' ot' M' pa' dp', zm_lines (zmd T size) size 102 0 pa dp 0 M = (ok, ps', ot', M', pa', dp') ∧ ps' ≤ 7000 ∧ ot' ≤ 100 ∧ M' 0 = T ∧ zfor (M' 3) pa' dp' (fun j => 100 ≤ j ∧ j < 100 + ot') ∧ (ok = true → v = nI ot' ∧ zmo g σ' a (nI 0) 0 (-1) ps' ot' ot' ak (nI 0) pr (zm_rd M')) ∧ (ok = false → v = nI 0 ∧ zmo g σ' a (nI 1) 0 (nI ps') ps' lv ot' ak fr pr M'))) 40 [(1, .int (nI i)), (0, .ref a)] [] σ1 sz 0 0 := by
    intro psq otq Mq paq dpq hXq hbq hotq hT0 hfoq
    clear hM hF
    intro kk
    induction kk with
    | zero =>
      intro i Mx σ1 hk hE hM hF
      refine ze_iload_n 0 cd_M_read_40 rfl rfl ?_
      refine ze_bipush (v := nI 100) cd_M_read_41 (by decide) ?_
      refine ze_icmp_ge (tgt := 107) cd_M_read_43 (by decide) (fun c2 => ?_) (fun c2 => ?_)
      · skip
        have c2 : 100 ≤ i := (nI_leI (by omega) (by omega)).mp c2
        refine ze_aload_n 1 cd_M_read_107 rfl rfl ?_
        refine ze_get zin_M (v := .int (nI otq)) (ci := 7) rfl 5 (by decide) zm_727 rfl cd_M_read_108 hM.1 rfl ?_
        exact ze_iret cd_M_read_111 rfl (by decide) (by decide) ⟨_, rfl, rfl, hF, true, psq, otq, Mq, paq, dpq, hXq, hbq, hotq, hT0, hfoq, (fun _ => ⟨rfl, by first | exact hM | (rw [zm_rd, ← hE]; exact hM)⟩), (fun h9 => absurd h9 (by decide))⟩
      · skip
        have c2 : ¬ 100 ≤ i := fun h9 => c2 ((nI_leI (by omega) (by omega)).mpr h9)
        exfalso; omega
    | succ kk ih =>
      intro i Mx σ1 hk hE hM hF
      refine ze_iload_n 0 cd_M_read_40 rfl rfl ?_
      refine ze_bipush (v := nI 100) cd_M_read_41 (by decide) ?_
      refine ze_icmp_ge (tgt := 107) cd_M_read_43 (by decide) (fun c4 => ?_) (fun c4 => ?_)
      · skip
        have c4 : 100 ≤ i := (nI_leI (by omega) (by omega)).mp c4
        exfalso; omega
      · skip
        have c4 : ¬ 100 ≤ i := fun h9 => c4 ((nI_leI (by omega) (by omega)).mpr h9)
        refine ze_aload_n 1 cd_M_read_46 rfl rfl ?_
        refine ze_iload_n 0 cd_M_read_47 rfl rfl ?_
        refine ze_bipush (v := nI 100) cd_M_read_48 (by decide) ?_
        refine ze_iload_n 0 cd_M_read_50 rfl rfl ?_
        refine ze_iadd cd_M_read_51 ?_
        refine ze_top (y := nI (100 + i)) (nI_add _ _) ?_
        refine ze_iconst (v := nI 1) cd_M_read_52 (by decide) ?_
        refine ze_callVv (rm' := zr_M_copy) (b := a) (As := [.int (nI i), .int (nI (100 + i)), .int (nI 1)]) (rest := []) (kc_M_copy_1 (to := i) (f := 100 + i) hM (by omega) (by omega)) ⟨rfl, rfl⟩ zy_M_copy_ok zm_879 zm_881 zm_40 (ci := 7) rfl rfl (by decide) (by decide) cd_M_read_53 hM.1 rfl rfl (Nat.le_of_ble_eq_true rfl) (fun σ9 sz9 hq9 => ?_)
        obtain ⟨rfl, hF9, hM⟩ := hq9
        have hF := hF.trans hF9
        refine ze_iconst (v := nI 0) cd_M_read_56 (by decide) ?_
        refine ze_istore_n (lv' := [(2, .int (nI 0)), (1, .int (nI i)), (0, .ref a)]) cd_M_read_57 rfl (by decide) rfl ?_
        refine ze_iload_n 0 cd_M_read_58 rfl rfl ?_
        refine ze_iconst (v := nI 4) cd_M_read_59 (by decide) ?_
        refine ze_icmp_ge (tgt := 80) cd_M_read_60 (by decide) (fun c9 => absurd c9 (by decide)) (fun _ => ?_)
        refine ze_aload_n 2 cd_M_read_63 rfl rfl ?_
        refine ze_get zin_M (v := .ref (a + 12)) (ci := 7) rfl 17 (by decide) zm_739 rfl cd_M_read_64 hM.1 rfl ?_
        refine ze_iconst (v := nI 4) cd_M_read_67 (by decide) ?_
        refine ze_iload_n 1 cd_M_read_68 rfl rfl ?_
        refine ze_imul cd_M_read_69 ?_
        refine ze_top (y := nI (4 * i)) (pk_mul _ _) ?_
        refine ze_iload_n 0 cd_M_read_70 rfl rfl ?_
        refine ze_iadd cd_M_read_71 ?_
        refine ze_top (y := nI ((4 * i) + 0)) (nI_add _ _) ?_
        refine ze_iconst (v := nI 0) cd_M_read_72 (by decide) ?_
        refine ze_iast (j := (4 * i) + 0) cd_M_read_73 (hM.2 11 _ rfl) rfl (by omega) (by decide) ?_
        have hM := hM.ar 11 0 400 rfl (b := a + 12) (f := upd ((zm_cp1 Mx i (100 + i)) 11) ((4 * i) + 0) (nI 0)) (by omega)
        have hF := hF.up (a := a + 12) (e := .inl (g.2.2.2.1 0, 400, .inl (upd ((zm_cp1 Mx i (100 + i)) 11) ((4 * i) + 0) (nI 0)))) (by omega) (by omega)
        refine ze_iinc (v := nI 1) (lv' := [(2, .int (nI 1)), (1, .int (nI i)), (0, .ref a)]) 0 cd_M_read_74 rfl (nI_add _ 1) (by decide) rfl ?_
        refine ze_goto (tgt := 58) cd_M_read_77 (by decide) ?_
        refine ze_iload_n 0 cd_M_read_58 rfl rfl ?_
        refine ze_iconst (v := nI 4) cd_M_read_59 (by decide) ?_
        refine ze_icmp_ge (tgt := 80) cd_M_read_60 (by decide) (fun c9 => absurd c9 (by decide)) (fun _ => ?_)
        refine ze_aload_n 2 cd_M_read_63 rfl rfl ?_
        refine ze_get zin_M (v := .ref (a + 12)) (ci := 7) rfl 17 (by decide) zm_739 rfl cd_M_read_64 hM.1 rfl ?_
        refine ze_iconst (v := nI 4) cd_M_read_67 (by decide) ?_
        refine ze_iload_n 1 cd_M_read_68 rfl rfl ?_
        refine ze_imul cd_M_read_69 ?_
        refine ze_top (y := nI (4 * i)) (pk_mul _ _) ?_
        refine ze_iload_n 0 cd_M_read_70 rfl rfl ?_
        refine ze_iadd cd_M_read_71 ?_
        refine ze_top (y := nI ((4 * i) + 1)) (nI_add _ _) ?_
        refine ze_iconst (v := nI 0) cd_M_read_72 (by decide) ?_
        refine ze_iast (j := (4 * i) + 1) (f := upd ((zm_cp1 Mx i (100 + i)) 11) ((4 * i) + 0) (nI 0)) cd_M_read_73 (hM.2 11 _ rfl) rfl (by omega) (by decide) ?_
        have hM := hM.ar 11 0 400 rfl (b := a + 12) (f := upd (upd ((zm_cp1 Mx i (100 + i)) 11) ((4 * i) + 0) (nI 0)) ((4 * i) + 1) (nI 0)) (by omega)
        rw [bx_uu] at hM
        have hF := hF.up (a := a + 12) (e := .inl (g.2.2.2.1 0, 400, .inl (upd (upd ((zm_cp1 Mx i (100 + i)) 11) ((4 * i) + 0) (nI 0)) ((4 * i) + 1) (nI 0)))) (by omega) (by omega)
        refine ze_iinc (v := nI 2) (lv' := [(2, .int (nI 2)), (1, .int (nI i)), (0, .ref a)]) 0 cd_M_read_74 rfl (nI_add _ 1) (by decide) rfl ?_
        refine ze_goto (tgt := 58) cd_M_read_77 (by decide) ?_
        refine ze_iload_n 0 cd_M_read_58 rfl rfl ?_
        refine ze_iconst (v := nI 4) cd_M_read_59 (by decide) ?_
        refine ze_icmp_ge (tgt := 80) cd_M_read_60 (by decide) (fun c9 => absurd c9 (by decide)) (fun _ => ?_)
        refine ze_aload_n 2 cd_M_read_63 rfl rfl ?_
        refine ze_get zin_M (v := .ref (a + 12)) (ci := 7) rfl 17 (by decide) zm_739 rfl cd_M_read_64 hM.1 rfl ?_
        refine ze_iconst (v := nI 4) cd_M_read_67 (by decide) ?_
        refine ze_iload_n 1 cd_M_read_68 rfl rfl ?_
        refine ze_imul cd_M_read_69 ?_
        refine ze_top (y := nI (4 * i)) (pk_mul _ _) ?_
        refine ze_iload_n 0 cd_M_read_70 rfl rfl ?_
        refine ze_iadd cd_M_read_71 ?_
        refine ze_top (y := nI ((4 * i) + 2)) (nI_add _ _) ?_
        refine ze_iconst (v := nI 0) cd_M_read_72 (by decide) ?_
        refine ze_iast (j := (4 * i) + 2) (f := upd (upd ((zm_cp1 Mx i (100 + i)) 11) ((4 * i) + 0) (nI 0)) ((4 * i) + 1) (nI 0)) cd_M_read_73 (hM.2 11 _ rfl) rfl (by omega) (by decide) ?_
        have hM := hM.ar 11 0 400 rfl (b := a + 12) (f := upd (upd (upd ((zm_cp1 Mx i (100 + i)) 11) ((4 * i) + 0) (nI 0)) ((4 * i) + 1) (nI 0)) ((4 * i) + 2) (nI 0)) (by omega)
        rw [bx_uu] at hM
        have hF := hF.up (a := a + 12) (e := .inl (g.2.2.2.1 0, 400, .inl (upd (upd (upd ((zm_cp1 Mx i (100 + i)) 11) ((4 * i) + 0) (nI 0)) ((4 * i) + 1) (nI 0)) ((4 * i) + 2) (nI 0)))) (by omega) (by omega)
        refine ze_iinc (v := nI 3) (lv' := [(2, .int (nI 3)), (1, .int (nI i)), (0, .ref a)]) 0 cd_M_read_74 rfl (nI_add _ 1) (by decide) rfl ?_
        refine ze_goto (tgt := 58) cd_M_read_77 (by decide) ?_
        refine ze_iload_n 0 cd_M_read_58 rfl rfl ?_
        refine ze_iconst (v := nI 4) cd_M_read_59 (by decide) ?_
        refine ze_icmp_ge (tgt := 80) cd_M_read_60 (by decide) (fun c9 => absurd c9 (by decide)) (fun _ => ?_)
        refine ze_aload_n 2 cd_M_read_63 rfl rfl ?_
        refine ze_get zin_M (v := .ref (a + 12)) (ci := 7) rfl 17 (by decide) zm_739 rfl cd_M_read_64 hM.1 rfl ?_
        refine ze_iconst (v := nI 4) cd_M_read_67 (by decide) ?_
        refine ze_iload_n 1 cd_M_read_68 rfl rfl ?_
        refine ze_imul cd_M_read_69 ?_
        refine ze_top (y := nI (4 * i)) (pk_mul _ _) ?_
        refine ze_iload_n 0 cd_M_read_70 rfl rfl ?_
        refine ze_iadd cd_M_read_71 ?_
        refine ze_top (y := nI ((4 * i) + 3)) (nI_add _ _) ?_
        refine ze_iconst (v := nI 0) cd_M_read_72 (by decide) ?_
        refine ze_iast (j := (4 * i) + 3) (f := upd (upd (upd ((zm_cp1 Mx i (100 + i)) 11) ((4 * i) + 0) (nI 0)) ((4 * i) + 1) (nI 0)) ((4 * i) + 2) (nI 0)) cd_M_read_73 (hM.2 11 _ rfl) rfl (by omega) (by decide) ?_
        have hM := hM.ar 11 0 400 rfl (b := a + 12) (f := upd (upd (upd (upd ((zm_cp1 Mx i (100 + i)) 11) ((4 * i) + 0) (nI 0)) ((4 * i) + 1) (nI 0)) ((4 * i) + 2) (nI 0)) ((4 * i) + 3) (nI 0)) (by omega)
        rw [bx_uu] at hM
        have hF := hF.up (a := a + 12) (e := .inl (g.2.2.2.1 0, 400, .inl (upd (upd (upd (upd ((zm_cp1 Mx i (100 + i)) 11) ((4 * i) + 0) (nI 0)) ((4 * i) + 1) (nI 0)) ((4 * i) + 2) (nI 0)) ((4 * i) + 3) (nI 0)))) (by omega) (by omega)
        refine ze_iinc (v := nI 4) (lv' := [(2, .int (nI 4)), (1, .int (nI i)), (0, .ref a)]) 0 cd_M_read_74 rfl (nI_add _ 1) (by decide) rfl ?_
        refine ze_goto (tgt := 58) cd_M_read_77 (by decide) ?_
        refine ze_iload_n 0 cd_M_read_58 rfl rfl ?_
        refine ze_iconst (v := nI 4) cd_M_read_59 (by decide) ?_
        refine ze_icmp_ge (tgt := 80) cd_M_read_60 (by decide) (fun _ => ?_) (fun c9 => absurd c9 (by decide))
        refine ze_aload_n 2 cd_M_read_80 rfl rfl ?_
        refine ze_get zin_M (v := .ref (a + 14)) (ci := 7) rfl 19 (by decide) zm_741 rfl cd_M_read_81 hM.1 rfl ?_
        refine ze_iload_n 1 cd_M_read_84 rfl rfl ?_
        refine ze_iconst (v := nI 0) cd_M_read_85 (by decide) ?_
        refine ze_iast (j := i) (f := (zm_cp1 Mx i (100 + i)) 13) cd_M_read_86 (hM.2 13 _ rfl) rfl (by omega) (by decide) ?_
        have hM := hM.ar 13 0 100 rfl (b := a + 14) (f := upd ((zm_cp1 Mx i (100 + i)) 13) i (nI 0)) (by omega)
        have hF := hF.up (a := a + 14) (e := .inl (g.2.2.2.1 0, 100, .inl (upd ((zm_cp1 Mx i (100 + i)) 13) i (nI 0)))) (by omega) (by omega)
        refine ze_aload_n 2 cd_M_read_87 rfl rfl ?_
        refine ze_get zin_M (v := .ref (a + 16)) (ci := 7) rfl 21 (by decide) zm_743 rfl cd_M_read_88 hM.1 rfl ?_
        refine ze_iload_n 1 cd_M_read_91 rfl rfl ?_
        refine ze_iconst (v := nI 0) cd_M_read_92 (by decide) ?_
        refine ze_iast (j := i) (f := (zm_cp1 Mx i (100 + i)) 15) cd_M_read_93 (hM.2 15 _ rfl) rfl (by omega) (by decide) ?_
        have hM := hM.ar 15 0 100 rfl (b := a + 16) (f := upd ((zm_cp1 Mx i (100 + i)) 15) i (nI 0)) (by omega)
        have hF := hF.up (a := a + 16) (e := .inl (g.2.2.2.1 0, 100, .inl (upd ((zm_cp1 Mx i (100 + i)) 15) i (nI 0)))) (by omega) (by omega)
        refine ze_aload_n 2 cd_M_read_94 rfl rfl ?_
        refine ze_get zin_M (v := .ref (a + 17)) (ci := 7) rfl 22 (by decide) zm_744 rfl cd_M_read_95 hM.1 rfl ?_
        refine ze_iload_n 1 cd_M_read_98 rfl rfl ?_
        refine ze_iconst (v := nI 0) cd_M_read_99 (by decide) ?_
        refine ze_zast (j := i) (f := (zm_cp1 Mx i (100 + i)) 16) cd_M_read_100 (hM.2 16 _ rfl) rfl (by omega) (by decide) (by decide) ?_
        have hM := hM.ar 16 1 100 rfl (b := a + 17) (f := upd ((zm_cp1 Mx i (100 + i)) 16) i (nI 0)) (by omega)
        have hF := hF.up (a := a + 17) (e := .inl (g.2.2.2.1 1, 100, .inl (upd ((zm_cp1 Mx i (100 + i)) 16) i (nI 0)))) (by omega) (by omega)
        refine ze_iinc (v := nI (i + 1)) (lv' := [(1, .int (nI (i + 1))), (2, .int (nI 4)), (0, .ref a)]) 1 cd_M_read_101 rfl (nI_add _ 1) (by decide) rfl ?_
        refine ze_goto (tgt := 40) cd_M_read_104 (by decide) ?_
        exact ze_sub [0, 2] rfl (ih (i + 1) _ _ (by omega) (by rw [← hE]; rfl) hM hF)
  refine zM_of (lv := [(0, .ref a)]) (ini := false) (by decide) rfl (by decide) (Nat.le_of_ble_eq_true rfl) rfl ?_
  refine ze_aload_n 0 cd_M_read_0 rfl rfl ?_
  refine ze_aload_n 0 cd_M_read_1 rfl rfl ?_
  refine ze_callVi (rm' := zr_M_reads) (b := a) (As := []) (rest := [.ref a]) (kc_M_reads (T := T) (pa := pa) (dp := dp) hM hT0 hsz) ⟨rfl, rfl⟩ zy_M_reads_ok zm_825 zm_827 zm_28 (ci := 7) rfl rfl (by decide) (by decide) cd_M_read_2 hM.1 rfl rfl (Nat.le_of_ble_eq_true rfl) (fun v9 σ9 sz9 hq9 => ?_)
  obtain ⟨rfl, hF9, ok10, ps10, ot10, M10, pa10, dp10, hX10, rfl, hb10, hot10, hT0, hfo10, hM⟩ := hq9
  have hF := hF.trans hF9
  refine ze_if_eq (tgt := 12) cd_M_read_5 (by decide) (fun c11 => ?_) (fun c11 => ?_)
  · skip
    have c11 : ok10 = false := zb_f c11
    subst c11
    refine ze_iconst (v := nI 1) cd_M_read_12 (by decide) ?_
    refine ze_put zin_M zy_M zt_M zn_M (ci := 7) rfl 0 (by decide) zm_722 rfl (Or.inl rfl) cd_M_read_13 hM.1 rfl rfl (Nat.le_of_ble_eq_true rfl) (fs' := [.int (nI 1), .int (nI 0), .ref (a + 1), .int (nI ps10), .int (nI ps10), .int (nI lv), .int (nI ot10), .ref (a + 2), .ref (a + 3), .ref (a + 4), .ref (a + 5), .ref (a + 6), .ref (a + 7), .ref (a + 8), .ref (a + 9), .ref (a + 10), .ref (a + 11), .ref (a + 12), .ref (a + 13), .ref (a + 14), .ref (a + 15), .ref (a + 16), .ref (a + 17), .int (nI ak), .ref (a + 18), .ref (a + 19), .ref (a + 20), .int fr, .int (nI pr), .ref (a + 21)]) rfl ?_
    have hM := hM.put (fs' := [.int (nI 1), .int (nI 0), .ref (a + 1), .int (nI ps10), .int (nI ps10), .int (nI lv), .int (nI ot10), .ref (a + 2), .ref (a + 3), .ref (a + 4), .ref (a + 5), .ref (a + 6), .ref (a + 7), .ref (a + 8), .ref (a + 9), .ref (a + 10), .ref (a + 11), .ref (a + 12), .ref (a + 13), .ref (a + 14), .ref (a + 15), .ref (a + 16), .ref (a + 17), .int (nI ak), .ref (a + 18), .ref (a + 19), .ref (a + 20), .int fr, .int (nI pr), .ref (a + 21)])
    have hF := hF.up (a := a) (e := .inr (7, [.int (nI 1), .int (nI 0), .ref (a + 1), .int (nI ps10), .int (nI ps10), .int (nI lv), .int (nI ot10), .ref (a + 2), .ref (a + 3), .ref (a + 4), .ref (a + 5), .ref (a + 6), .ref (a + 7), .ref (a + 8), .ref (a + 9), .ref (a + 10), .ref (a + 11), .ref (a + 12), .ref (a + 13), .ref (a + 14), .ref (a + 15), .ref (a + 16), .ref (a + 17), .int (nI ak), .ref (a + 18), .ref (a + 19), .ref (a + 20), .int fr, .int (nI pr), .ref (a + 21)])) (by omega) (by omega)
    refine ze_aload_n 0 cd_M_read_16 rfl rfl ?_
    refine ze_get zin_M (v := .int (nI 1)) (ci := 7) rfl 0 (by decide) zm_722 rfl cd_M_read_17 hM.1 rfl ?_
    refine ze_if_le (tgt := 25) cd_M_read_20 (by decide) (fun c9 => absurd c9 (by decide)) (fun _ => ?_)
    refine ze_iconst (v := nI 0) cd_M_read_23 (by decide) ?_
    exact ze_iret cd_M_read_24 rfl (by decide) (by decide) ⟨_, rfl, rfl, hF, false, ps10, ot10, M10, pa10, dp10, hX10, hb10, hot10, hT0, hfo10, (fun h9 => absurd h9 (by decide)), (fun _ => ⟨rfl, hM⟩)⟩
  · skip
    have c11 : ok10 = true := zb_t c11
    subst c11
    refine ze_iconst (v := nI 0) cd_M_read_8 (by decide) ?_
    refine ze_goto (tgt := 13) cd_M_read_9 (by decide) ?_
    refine ze_put zin_M zy_M zt_M zn_M (ci := 7) rfl 0 (by decide) zm_722 rfl (Or.inl rfl) cd_M_read_13 hM.1 rfl rfl (Nat.le_of_ble_eq_true rfl) (fs' := [.int (nI 0), .int (nI 0), .ref (a + 1), .int ((-1 : Int32)), .int (nI ps10), .int (nI lv), .int (nI ot10), .ref (a + 2), .ref (a + 3), .ref (a + 4), .ref (a + 5), .ref (a + 6), .ref (a + 7), .ref (a + 8), .ref (a + 9), .ref (a + 10), .ref (a + 11), .ref (a + 12), .ref (a + 13), .ref (a + 14), .ref (a + 15), .ref (a + 16), .ref (a + 17), .int (nI ak), .ref (a + 18), .ref (a + 19), .ref (a + 20), .int fr, .int (nI pr), .ref (a + 21)]) rfl ?_
    have hM := hM.put (fs' := [.int (nI 0), .int (nI 0), .ref (a + 1), .int ((-1 : Int32)), .int (nI ps10), .int (nI lv), .int (nI ot10), .ref (a + 2), .ref (a + 3), .ref (a + 4), .ref (a + 5), .ref (a + 6), .ref (a + 7), .ref (a + 8), .ref (a + 9), .ref (a + 10), .ref (a + 11), .ref (a + 12), .ref (a + 13), .ref (a + 14), .ref (a + 15), .ref (a + 16), .ref (a + 17), .int (nI ak), .ref (a + 18), .ref (a + 19), .ref (a + 20), .int fr, .int (nI pr), .ref (a + 21)])
    have hF := hF.up (a := a) (e := .inr (7, [.int (nI 0), .int (nI 0), .ref (a + 1), .int ((-1 : Int32)), .int (nI ps10), .int (nI lv), .int (nI ot10), .ref (a + 2), .ref (a + 3), .ref (a + 4), .ref (a + 5), .ref (a + 6), .ref (a + 7), .ref (a + 8), .ref (a + 9), .ref (a + 10), .ref (a + 11), .ref (a + 12), .ref (a + 13), .ref (a + 14), .ref (a + 15), .ref (a + 16), .ref (a + 17), .int (nI ak), .ref (a + 18), .ref (a + 19), .ref (a + 20), .int fr, .int (nI pr), .ref (a + 21)])) (by omega) (by omega)
    refine ze_aload_n 0 cd_M_read_16 rfl rfl ?_
    refine ze_get zin_M (v := .int (nI 0)) (ci := 7) rfl 0 (by decide) zm_722 rfl cd_M_read_17 hM.1 rfl ?_
    refine ze_if_le (tgt := 25) cd_M_read_20 (by decide) (fun _ => ?_) (fun c9 => absurd c9 (by decide))
    refine ze_aload_n 0 cd_M_read_25 rfl rfl ?_
    refine ze_aload_n 0 cd_M_read_26 rfl rfl ?_
    refine ze_get zin_M (v := .int (nI ot10)) (ci := 7) rfl 6 (by decide) zm_728 rfl cd_M_read_27 hM.1 rfl ?_
    refine ze_put zin_M zy_M zt_M zn_M (ci := 7) rfl 5 (by decide) zm_727 rfl (Or.inl rfl) cd_M_read_30 hM.1 rfl rfl (Nat.le_of_ble_eq_true rfl) (fs' := [.int (nI 0), .int (nI 0), .ref (a + 1), .int ((-1 : Int32)), .int (nI ps10), .int (nI ot10), .int (nI ot10), .ref (a + 2), .ref (a + 3), .ref (a + 4), .ref (a + 5), .ref (a + 6), .ref (a + 7), .ref (a + 8), .ref (a + 9), .ref (a + 10), .ref (a + 11), .ref (a + 12), .ref (a + 13), .ref (a + 14), .ref (a + 15), .ref (a + 16), .ref (a + 17), .int (nI ak), .ref (a + 18), .ref (a + 19), .ref (a + 20), .int fr, .int (nI pr), .ref (a + 21)]) rfl ?_
    have hM := hM.put (fs' := [.int (nI 0), .int (nI 0), .ref (a + 1), .int ((-1 : Int32)), .int (nI ps10), .int (nI ot10), .int (nI ot10), .ref (a + 2), .ref (a + 3), .ref (a + 4), .ref (a + 5), .ref (a + 6), .ref (a + 7), .ref (a + 8), .ref (a + 9), .ref (a + 10), .ref (a + 11), .ref (a + 12), .ref (a + 13), .ref (a + 14), .ref (a + 15), .ref (a + 16), .ref (a + 17), .int (nI ak), .ref (a + 18), .ref (a + 19), .ref (a + 20), .int fr, .int (nI pr), .ref (a + 21)])
    have hF := hF.up (a := a) (e := .inr (7, [.int (nI 0), .int (nI 0), .ref (a + 1), .int ((-1 : Int32)), .int (nI ps10), .int (nI ot10), .int (nI ot10), .ref (a + 2), .ref (a + 3), .ref (a + 4), .ref (a + 5), .ref (a + 6), .ref (a + 7), .ref (a + 8), .ref (a + 9), .ref (a + 10), .ref (a + 11), .ref (a + 12), .ref (a + 13), .ref (a + 14), .ref (a + 15), .ref (a + 16), .ref (a + 17), .int (nI ak), .ref (a + 18), .ref (a + 19), .ref (a + 20), .int fr, .int (nI pr), .ref (a + 21)])) (by omega) (by omega)
    refine ze_aload_n 0 cd_M_read_33 rfl rfl ?_
    refine ze_iconst (v := nI 0) cd_M_read_34 (by decide) ?_
    refine ze_put zin_M zy_M zt_M zn_M (ci := 7) rfl 27 (by decide) zm_749 rfl (Or.inl rfl) cd_M_read_35 hM.1 (by decide) rfl (Nat.le_of_ble_eq_true rfl) (fs' := [.int (nI 0), .int (nI 0), .ref (a + 1), .int ((-1 : Int32)), .int (nI ps10), .int (nI ot10), .int (nI ot10), .ref (a + 2), .ref (a + 3), .ref (a + 4), .ref (a + 5), .ref (a + 6), .ref (a + 7), .ref (a + 8), .ref (a + 9), .ref (a + 10), .ref (a + 11), .ref (a + 12), .ref (a + 13), .ref (a + 14), .ref (a + 15), .ref (a + 16), .ref (a + 17), .int (nI ak), .ref (a + 18), .ref (a + 19), .ref (a + 20), .int (nI 0), .int (nI pr), .ref (a + 21)]) rfl ?_
    have hM := hM.put (fs' := [.int (nI 0), .int (nI 0), .ref (a + 1), .int ((-1 : Int32)), .int (nI ps10), .int (nI ot10), .int (nI ot10), .ref (a + 2), .ref (a + 3), .ref (a + 4), .ref (a + 5), .ref (a + 6), .ref (a + 7), .ref (a + 8), .ref (a + 9), .ref (a + 10), .ref (a + 11), .ref (a + 12), .ref (a + 13), .ref (a + 14), .ref (a + 15), .ref (a + 16), .ref (a + 17), .int (nI ak), .ref (a + 18), .ref (a + 19), .ref (a + 20), .int (nI 0), .int (nI pr), .ref (a + 21)])
    have hF := hF.up (a := a) (e := .inr (7, [.int (nI 0), .int (nI 0), .ref (a + 1), .int ((-1 : Int32)), .int (nI ps10), .int (nI ot10), .int (nI ot10), .ref (a + 2), .ref (a + 3), .ref (a + 4), .ref (a + 5), .ref (a + 6), .ref (a + 7), .ref (a + 8), .ref (a + 9), .ref (a + 10), .ref (a + 11), .ref (a + 12), .ref (a + 13), .ref (a + 14), .ref (a + 15), .ref (a + 16), .ref (a + 17), .int (nI ak), .ref (a + 18), .ref (a + 19), .ref (a + 20), .int (nI 0), .int (nI pr), .ref (a + 21)])) (by omega) (by omega)
    refine ze_iconst (v := nI 0) cd_M_read_38 (by decide) ?_
    refine ze_istore_n (lv' := [(1, .int (nI 0)), (0, .ref a)]) cd_M_read_39 rfl (by decide) rfl ?_
    exact ze_sub [0, 1] rfl (loop _ _ _ _ _ hX10 hb10 hot10 hT0 hfo10 100 0 _ _ (by omega) rfl hM hF)
abbrev zr_M_place_ : Room := { frames := 0, cells := 0, slots := 0, locals := 0 }
set_option maxRecDepth 100000 in
set_option maxHeartbeats 4000000 in
theorem kc_M_place_ {g : zx_G} {σ : zx_M} {sz : Nat} {a size ps lv ot ak pr : Nat} {th wr fr : Int32} {M : Nat → Nat → Int32} (hM : zmo g σ a th size wr ps lv ot ak fr pr M) : zM g cy_M_place_ cb_M_place_ 1 (Option.some Jvm.ClassFile.FieldType.int) zr_M_place_ 0 0 [.ref a] σ sz (zPi (fun v σ' sz' => v = wr ∧ sz' = sz ∧ zfr σ σ' a 22 ∧ zmo g σ' a (nI 0) size wr ps lv ot ak fr pr M)) := by
  have hF : zfr σ σ a 22 := zfr.rf
  refine zM_of (lv := [(0, .ref a)]) (ini := false) (by decide) rfl (by decide) (Nat.le_of_ble_eq_true rfl) rfl ?_
  refine ze_aload_n 0 cd_M_place__0 rfl rfl ?_
  refine ze_iconst (v := nI 0) cd_M_place__1 (by decide) ?_
  refine ze_put zin_M zy_M zt_M zn_M (ci := 7) rfl 0 (by decide) zm_722 rfl (Or.inl rfl) cd_M_place__2 hM.1 rfl rfl (Nat.le_of_ble_eq_true rfl) (fs' := [.int (nI 0), .int (nI size), .ref (a + 1), .int wr, .int (nI ps), .int (nI lv), .int (nI ot), .ref (a + 2), .ref (a + 3), .ref (a + 4), .ref (a + 5), .ref (a + 6), .ref (a + 7), .ref (a + 8), .ref (a + 9), .ref (a + 10), .ref (a + 11), .ref (a + 12), .ref (a + 13), .ref (a + 14), .ref (a + 15), .ref (a + 16), .ref (a + 17), .int (nI ak), .ref (a + 18), .ref (a + 19), .ref (a + 20), .int fr, .int (nI pr), .ref (a + 21)]) rfl ?_
  have hM := hM.put (fs' := [.int (nI 0), .int (nI size), .ref (a + 1), .int wr, .int (nI ps), .int (nI lv), .int (nI ot), .ref (a + 2), .ref (a + 3), .ref (a + 4), .ref (a + 5), .ref (a + 6), .ref (a + 7), .ref (a + 8), .ref (a + 9), .ref (a + 10), .ref (a + 11), .ref (a + 12), .ref (a + 13), .ref (a + 14), .ref (a + 15), .ref (a + 16), .ref (a + 17), .int (nI ak), .ref (a + 18), .ref (a + 19), .ref (a + 20), .int fr, .int (nI pr), .ref (a + 21)])
  have hF := hF.up (a := a) (e := .inr (7, [.int (nI 0), .int (nI size), .ref (a + 1), .int wr, .int (nI ps), .int (nI lv), .int (nI ot), .ref (a + 2), .ref (a + 3), .ref (a + 4), .ref (a + 5), .ref (a + 6), .ref (a + 7), .ref (a + 8), .ref (a + 9), .ref (a + 10), .ref (a + 11), .ref (a + 12), .ref (a + 13), .ref (a + 14), .ref (a + 15), .ref (a + 16), .ref (a + 17), .int (nI ak), .ref (a + 18), .ref (a + 19), .ref (a + 20), .int fr, .int (nI pr), .ref (a + 21)])) (by omega) (by omega)
  refine ze_aload_n 0 cd_M_place__5 rfl rfl ?_
  refine ze_get zin_M (v := .int wr) (ci := 7) rfl 3 (by decide) zm_725 rfl cd_M_place__6 hM.1 rfl ?_
  refine ze_iret cd_M_place__9 rfl (by decide) (by decide) ⟨_, rfl, ?_, rfl, hF, hM⟩
  rfl
/-- the reference's rows as those of Levels -/
def zmR (M : Nat → Nat → Int32) (dp : Nat → Nat) : Nat → Nat → Int32
  | 0 => M 1
  | 1 => M 2
  | 2 => M 3
  | 3 => fun j => nI (dp j)
  | k + 4 => M (k + 4)
def zmN (M : Nat → Nat → Int32) : Nat → Nat → Int32
  | 0 => M 11
  | 1 => M 12
  | 2 => M 14
  | 3 => M 13
  | 4 => M 15
  | _ => M 16
abbrev zr_M_level : Room := { frames := 2, cells := 0, slots := 0, locals := 43 }
set_option maxRecDepth 100000 in
set_option maxHeartbeats 4000000 in
theorem kc_M_level {g : zx_G} {σ : zx_M} {sz : Nat} {a size ps lv ot ak pr : Nat} {th wr fr : Int32} {M : Nat → Nat → Int32} {pa : Nat → Option Nat} {dp : Nat → Nat} {i what : Int32} (hM : zmo g σ a th size wr ps lv ot ak fr pr M) (hfo : zfor (M 3) pa dp (fun j => j < lv)) (hlv : lv ≤ 100) : zM g cy_M_level cb_M_level 3 (Option.some Jvm.ClassFile.FieldType.int) zr_M_level 0 0 [.ref a, .int i, .int what] σ sz (zPi (fun v σ' sz' => v = zf_level lv (zmR M dp) i what ∧ sz' = sz ∧ zfr σ σ' a 22 ∧ zmo g σ' a (nI 0) size wr ps lv ot ak fr pr M)) := by
  have hF : zfr σ σ a 22 := zfr.rf
  refine zM_of (lv := [(0, .ref a), (1, .int i), (2, .int what)]) (ini := false) (by decide) rfl (by decide) (Nat.le_of_ble_eq_true rfl) rfl ?_
  refine ze_aload_n 0 cd_M_level_0 rfl rfl ?_
  refine ze_iconst (v := nI 0) cd_M_level_1 (by decide) ?_
  refine ze_put zin_M zy_M zt_M zn_M (ci := 7) rfl 0 (by decide) zm_722 rfl (Or.inl rfl) cd_M_level_2 hM.1 rfl rfl (Nat.le_of_ble_eq_true rfl) (fs' := [.int (nI 0), .int (nI size), .ref (a + 1), .int wr, .int (nI ps), .int (nI lv), .int (nI ot), .ref (a + 2), .ref (a + 3), .ref (a + 4), .ref (a + 5), .ref (a + 6), .ref (a + 7), .ref (a + 8), .ref (a + 9), .ref (a + 10), .ref (a + 11), .ref (a + 12), .ref (a + 13), .ref (a + 14), .ref (a + 15), .ref (a + 16), .ref (a + 17), .int (nI ak), .ref (a + 18), .ref (a + 19), .ref (a + 20), .int fr, .int (nI pr), .ref (a + 21)]) rfl ?_
  have hM := hM.put (fs' := [.int (nI 0), .int (nI size), .ref (a + 1), .int wr, .int (nI ps), .int (nI lv), .int (nI ot), .ref (a + 2), .ref (a + 3), .ref (a + 4), .ref (a + 5), .ref (a + 6), .ref (a + 7), .ref (a + 8), .ref (a + 9), .ref (a + 10), .ref (a + 11), .ref (a + 12), .ref (a + 13), .ref (a + 14), .ref (a + 15), .ref (a + 16), .ref (a + 17), .int (nI ak), .ref (a + 18), .ref (a + 19), .ref (a + 20), .int fr, .int (nI pr), .ref (a + 21)])
  have hF := hF.up (a := a) (e := .inr (7, [.int (nI 0), .int (nI size), .ref (a + 1), .int wr, .int (nI ps), .int (nI lv), .int (nI ot), .ref (a + 2), .ref (a + 3), .ref (a + 4), .ref (a + 5), .ref (a + 6), .ref (a + 7), .ref (a + 8), .ref (a + 9), .ref (a + 10), .ref (a + 11), .ref (a + 12), .ref (a + 13), .ref (a + 14), .ref (a + 15), .ref (a + 16), .ref (a + 17), .int (nI ak), .ref (a + 18), .ref (a + 19), .ref (a + 20), .int fr, .int (nI pr), .ref (a + 21)])) (by omega) (by omega)
  refine ze_aload_n 0 cd_M_level_5 rfl rfl ?_
  refine ze_iload_n 1 cd_M_level_6 rfl rfl ?_
  refine ze_callVp (rm' := zr_M_isLevel) (b := a) (As := [.int i]) (rest := []) (kc_M_isLevel hM (by omega)) ⟨rfl, rfl⟩ zy_M_isLevel_ok zm_891 zm_893 zm_41 (ci := 7) rfl rfl (by decide) (by decide) cd_M_level_7 hM.1 rfl rfl (Nat.le_of_ble_eq_true rfl) ?_
  refine ze_if_ne (tgt := 15) cd_M_level_10 (by decide) (fun c1 => ?_) (fun c1 => ?_)
  · skip
    have c1 : ((zi lv i).isSome) = true := zb_t c1
    obtain ⟨j, hj⟩ := Option.isSome_iff_exists.mp c1
    obtain ⟨hjn, rfl⟩ := zi_some (by omega) hj
    refine ze_iload_n 2 cd_M_level_15 rfl rfl ?_
    cases hw : zi 10 what with
    | none =>
      refine ze_tableOut (tgt := 141) cd_M_level_16 (by have := zi_none_out (by decide) hw; omega) (by decide) ?_
      refine ze_iconst (v := (-1 : Int32)) cd_M_level_141 (by decide) ?_
      refine ze_iret cd_M_level_142 rfl (by decide) (by decide) ⟨_, rfl, ?_, rfl, hF, hM⟩
      simp only [zf_level, hj, hw]; try rfl
    | some w9 =>
      obtain ⟨hw9, rfl⟩ := zi_some (by decide) hw
      rcases (show w9 = 0 ∨ w9 = 1 ∨ w9 = 2 ∨ w9 = 3 ∨ w9 = 4 ∨ w9 = 5 ∨ w9 = 6 ∨ w9 = 7 ∨ w9 = 8 ∨ w9 = 9 by omega) with rfl | rfl | rfl | rfl | rfl | rfl | rfl | rfl | rfl | rfl
      · refine ze_tableIn (off := 56) (tgt := 72) cd_M_level_16 (by decide) (by decide) (by decide) (by decide) ?_
        refine ze_aload_n 0 cd_M_level_72 rfl rfl ?_
        refine ze_get zin_M (v := .ref (a + 2)) (ci := 7) rfl 7 (by decide) zm_729 rfl cd_M_level_73 hM.1 rfl ?_
        refine ze_iload_n 1 cd_M_level_76 rfl rfl ?_
        refine ze_iald (j := j) cd_M_level_77 (hM.2 1 _ rfl) rfl (by omega) (by decide) ?_
        refine ze_iret cd_M_level_78 rfl (by decide) (by decide) ⟨_, rfl, ?_, rfl, hF, hM⟩
        simp only [zf_level, hj, hw]; try rfl
      · refine ze_tableIn (off := 63) (tgt := 79) cd_M_level_16 (by decide) (by decide) (by decide) (by decide) ?_
        refine ze_aload_n 0 cd_M_level_79 rfl rfl ?_
        refine ze_get zin_M (v := .ref (a + 3)) (ci := 7) rfl 8 (by decide) zm_730 rfl cd_M_level_80 hM.1 rfl ?_
        refine ze_iload_n 1 cd_M_level_83 rfl rfl ?_
        refine ze_iald (j := j) cd_M_level_84 (hM.2 2 _ rfl) rfl (by omega) (by decide) ?_
        refine ze_iret cd_M_level_85 rfl (by decide) (by decide) ⟨_, rfl, ?_, rfl, hF, hM⟩
        simp only [zf_level, hj, hw]; try rfl
      · refine ze_tableIn (off := 70) (tgt := 86) cd_M_level_16 (by decide) (by decide) (by decide) (by decide) ?_
        refine ze_aload_n 0 cd_M_level_86 rfl rfl ?_
        refine ze_get zin_M (v := .ref (a + 4)) (ci := 7) rfl 9 (by decide) zm_731 rfl cd_M_level_87 hM.1 rfl ?_
        refine ze_iload_n 1 cd_M_level_90 rfl rfl ?_
        refine ze_iald (j := j) cd_M_level_91 (hM.2 3 _ rfl) rfl (by omega) (by decide) ?_
        refine ze_iret cd_M_level_92 rfl (by decide) (by decide) ⟨_, rfl, ?_, rfl, hF, hM⟩
        simp only [zf_level, hj, hw]; try rfl
      · refine ze_tableIn (off := 77) (tgt := 93) cd_M_level_16 (by decide) (by decide) (by decide) (by decide) ?_
        refine ze_aload_n 0 cd_M_level_93 rfl rfl ?_
        refine ze_iload_n 1 cd_M_level_94 rfl rfl ?_
        refine ze_callVp (rm' := zr_M_depth) (b := a) (As := [.int (nI j)]) (rest := []) (kc_M_depth (i := j) hM hfo hjn) ⟨rfl, rfl⟩ zy_M_depth_ok zm_837 zm_839 zm_31 (ci := 7) rfl rfl (by decide) (by decide) cd_M_level_95 hM.1 rfl rfl (Nat.le_of_ble_eq_true rfl) ?_
        refine ze_iret cd_M_level_98 rfl (by decide) (by decide) ⟨_, rfl, ?_, rfl, hF, hM⟩
        simp only [zf_level, hj, hw]; try rfl
      · refine ze_tableIn (off := 83) (tgt := 99) cd_M_level_16 (by decide) (by decide) (by decide) (by decide) ?_
        refine ze_aload_n 0 cd_M_level_99 rfl rfl ?_
        refine ze_get zin_M (v := .ref (a + 5)) (ci := 7) rfl 10 (by decide) zm_732 rfl cd_M_level_100 hM.1 rfl ?_
        refine ze_iload_n 1 cd_M_level_103 rfl rfl ?_
        refine ze_iald (j := j) cd_M_level_104 (hM.2 4 _ rfl) rfl (by omega) (by decide) ?_
        refine ze_iret cd_M_level_105 rfl (by decide) (by decide) ⟨_, rfl, ?_, rfl, hF, hM⟩
        simp only [zf_level, hj, hw]; try rfl
      · refine ze_tableIn (off := 90) (tgt := 106) cd_M_level_16 (by decide) (by decide) (by decide) (by decide) ?_
        refine ze_aload_n 0 cd_M_level_106 rfl rfl ?_
        refine ze_get zin_M (v := .ref (a + 6)) (ci := 7) rfl 11 (by decide) zm_733 rfl cd_M_level_107 hM.1 rfl ?_
        refine ze_iload_n 1 cd_M_level_110 rfl rfl ?_
        refine ze_iald (j := j) cd_M_level_111 (hM.2 5 _ rfl) rfl (by omega) (by decide) ?_
        refine ze_iret cd_M_level_112 rfl (by decide) (by decide) ⟨_, rfl, ?_, rfl, hF, hM⟩
        simp only [zf_level, hj, hw]; try rfl
      · refine ze_tableIn (off := 97) (tgt := 113) cd_M_level_16 (by decide) (by decide) (by decide) (by decide) ?_
        refine ze_aload_n 0 cd_M_level_113 rfl rfl ?_
        refine ze_get zin_M (v := .ref (a + 7)) (ci := 7) rfl 12 (by decide) zm_734 rfl cd_M_level_114 hM.1 rfl ?_
        refine ze_iload_n 1 cd_M_level_117 rfl rfl ?_
        refine ze_iald (j := j) cd_M_level_118 (hM.2 6 _ rfl) rfl (by omega) (by decide) ?_
        refine ze_iret cd_M_level_119 rfl (by decide) (by decide) ⟨_, rfl, ?_, rfl, hF, hM⟩
        simp only [zf_level, hj, hw]; try rfl
      · refine ze_tableIn (off := 104) (tgt := 120) cd_M_level_16 (by decide) (by decide) (by decide) (by decide) ?_
        refine ze_aload_n 0 cd_M_level_120 rfl rfl ?_
        refine ze_get zin_M (v := .ref (a + 8)) (ci := 7) rfl 13 (by decide) zm_735 rfl cd_M_level_121 hM.1 rfl ?_
        refine ze_iload_n 1 cd_M_level_124 rfl rfl ?_
        refine ze_iald (j := j) cd_M_level_125 (hM.2 7 _ rfl) rfl (by omega) (by decide) ?_
        refine ze_iret cd_M_level_126 rfl (by decide) (by decide) ⟨_, rfl, ?_, rfl, hF, hM⟩
        simp only [zf_level, hj, hw]; try rfl
      · refine ze_tableIn (off := 111) (tgt := 127) cd_M_level_16 (by decide) (by decide) (by decide) (by decide) ?_
        refine ze_aload_n 0 cd_M_level_127 rfl rfl ?_
        refine ze_get zin_M (v := .ref (a + 9)) (ci := 7) rfl 14 (by decide) zm_736 rfl cd_M_level_128 hM.1 rfl ?_
        refine ze_iload_n 1 cd_M_level_131 rfl rfl ?_
        refine ze_iald (j := j) cd_M_level_132 (hM.2 8 _ rfl) rfl (by omega) (by decide) ?_
        refine ze_iret cd_M_level_133 rfl (by decide) (by decide) ⟨_, rfl, ?_, rfl, hF, hM⟩
        simp only [zf_level, hj, hw]; try rfl
      · refine ze_tableIn (off := 118) (tgt := 134) cd_M_level_16 (by decide) (by decide) (by decide) (by decide) ?_
        refine ze_aload_n 0 cd_M_level_134 rfl rfl ?_
        refine ze_get zin_M (v := .ref (a + 10)) (ci := 7) rfl 15 (by decide) zm_737 rfl cd_M_level_135 hM.1 rfl ?_
        refine ze_iload_n 1 cd_M_level_138 rfl rfl ?_
        refine ze_iald (j := j) cd_M_level_139 (hM.2 9 _ rfl) rfl (by omega) (by decide) ?_
        refine ze_iret cd_M_level_140 rfl (by decide) (by decide) ⟨_, rfl, ?_, rfl, hF, hM⟩
        simp only [zf_level, hj, hw]; try rfl
  · skip
    have c1 : ((zi lv i).isSome) = false := zb_f c1
    have c1 : zi lv i = none := by simpa using c1
    refine ze_iconst (v := (-1 : Int32)) cd_M_level_13 (by decide) ?_
    refine ze_iret cd_M_level_14 rfl (by decide) (by decide) ⟨_, rfl, ?_, rfl, hF, hM⟩
    simp only [zf_level, c1]; try rfl
