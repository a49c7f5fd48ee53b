def R_law : String := "FindingAidLaw"
def lw_P (b : Addr) (xs : List Int32) (args : Array Value) (s : State) : Prop := args = #[.ref b] ∧ s.IntsAt b xs ∧ xs.length ≤ 2048 ∧ (Jvm.Cond.and given_1 narrow_1).before args s = true
def lw_Q (_ : Array Value) (s : State) (o : Outcome) (t : State) : Prop := o = .returned (some (.int 1)) ∧ Framed s o t [] 601024 7293034
def lw_Z (below : List Frame) (a : Array Value) (s : State) : State → Prop := fun t => ∃ o, t.status = .running ∧ Ended t below o ∧ lw_Q a s o t
theorem lw_ret {p : Program} {l : Launch} {e : Env} {s : State} {m : MethodId} {args : Array Value} {below : List Frame} {meth : Method} {c : Code} (hx : p.tables.exec = Jvm.exec) (hb : c.code = code) (hr : meth.sig.returnType = ret) (hlocks : meth.locks = false) {pc : Nat} {H : Heap} {ls : Array Slot} (hdg : decode code pc = .ok (.ireturn, 1)) : W p l e room_1 s m args below meth c H [] 601024 7293034 (lw_Z below args s) (F0 m pc ls [.int 1]) := by
  intro T hT X
  obtain ⟨fs, hret, hrun, hended, hW, hframe⟩ := X.leave (v := some (.int 1)) (hlocks := hlocks) (fun h => by rw [hr] at h; cases h)
  have hmeth' : T.vm.method? m = some meth := X.method'
  refine ⟨T.setFrames fs, ?_, .returned (some (.int 1)), hrun, hended, rfl, ⟨_, rfl⟩, hW, hframe⟩
  jvm_step X.here [X.here.top, hx, hb, hdg, hmeth', hr, ret, narrow_b1]
  (try refine ⟨rfl, ?_⟩); (try refine ⟨rfl, ?_⟩)
  first | (intro acts; rw [hret _ acts rfl rfl rfl]) | rw [hret _ _ rfl rfl rfl]
  exact Steps.refl _
/-- the law's end -/
theorem zlw_end {g : zx_G} {σ : zx_M} {sz kc ks scr Ls : Nat} {xs : Nat → Int32} {lv : List (Nat × Value)} (hk : kc ≤ 601024) (hs : ks ≤ 7293034) : zL g scr Ls xs lw_Z 852 lv [.int (nI 1)] σ sz kc ks := by
  intro p e s m args below meth c hA hSC H locs ls hW hS hl
  refine va_forget (fun q hq => ?_) ?_
  · have h1 := hS.2.2 q hq
    rw [← hSC.2.2.2.2]; exact h1
  · refine W.widen (k := 601024) (n := 7293034) hk hs ?_
    exact lw_ret hA.1 hA.2.1 hA.2.2.1 hA.2.2.2.2.2.2.1 cd_W_law_852
theorem zhd {Ls i : Nat} (hL : Ls ≤ 2048) (hi : i ≤ 2048) : (nI Ls - nI 4 < nI i) ↔ Ls < i + 4 := by
  rw [Int32.lt_iff_toInt_lt, pk_sub_toInt (by omega) (by omega), nI_toInt (by omega)]
  omega
set_option maxRecDepth 100000 in
set_option maxHeartbeats 4000000 in
/-- one round of the law -/
theorem zlw_body {g : zx_G} {σ : zx_M} {sz kc ks scr Ls i b : Nat} {xs : Nat → Int32} {QQ : List Frame → Array Value → State → State → Prop} (hfl : g.1.flags = pinnedFlags ++ [noTraceFlag]) (hI : zIV g σ b) (hi : i + 4 ≤ Ls) (hLs : Ls ≤ 2048) (hk0 : kc + 1 ≤ room_1.cells) (hs0 : ks + 6 ≤ room_1.slots) (KK : ∀ σ' sz' kc' ks', zIV g σ' b → kc' ≤ kc + 1 → ks' ≤ ks + 6 → zL g scr Ls xs QQ 845 (zLV scr b i) [] σ' sz' kc' ks') : zL g scr Ls xs QQ 32 (zLV scr b i) [] σ sz kc ks := by
  refine zg_aload_n 4 cd_W_law_32 rfl rfl ?_
  refine zg_iload 0 cd_W_law_33 rfl ?_
  refine zg_sld cd_W_law_35 (by omega) (by omega) ?_
  refine zg_bipush (v := nI 31) cd_W_law_36 (by decide) ?_
  refine zg_iand cd_W_law_38 ?_
  obtain ⟨j, hj, ej⟩ := pk_andE (xs i) (m := nI 31) 5 (by decide)
  rw [ej]
  have hk1 : kc ≤ room_1.cells := Nat.le_of_succ_le hk0
  have hs1 : ks ≤ room_1.slots := Nat.le_trans (Nat.le_add_right _ _) hs0
  have K1 : ∀ σ' sz', zIV g σ' b → zL g scr Ls xs QQ 845 (zLV scr b i) [] σ' sz' kc ks := fun σ' sz' h => KK σ' sz' kc ks h (by omega) (by omega)
  have K2 : ∀ σ' sz', zIV g σ' b → zL g scr Ls xs QQ 845 (zLV scr b i) [] σ' sz' (kc + 1) (ks + 6) := fun σ' sz' h => KK σ' sz' _ _ h (Nat.le_refl _) (Nat.le_refl _)
  have hti := nI_toInt (n := j) (by omega)
  by_cases hj2 : j ≤ 20
  · match j, hj2 with
    | 0, _ => exact zg_tableIn (off := 97) (tgt := 136) cd_W_law_39 (by decide) (by decide) (by decide) (by decide) (zlw_0 hI hi hLs hk1 hs1 K1)
    | 1, _ => exact zg_tableIn (off := 120) (tgt := 159) cd_W_law_39 (by decide) (by decide) (by decide) (by decide) (zlw_1 hfl hI hi hLs hk0 hs0 K2)
    | 2, _ => exact zg_tableIn (off := 164) (tgt := 203) cd_W_law_39 (by decide) (by decide) (by decide) (by decide) (zlw_2 hI hi hLs hk1 hs1 K1)
    | 3, _ => exact zg_tableIn (off := 177) (tgt := 216) cd_W_law_39 (by decide) (by decide) (by decide) (by decide) (zlw_3 hI hi hLs hk1 hs1 K1)
    | 4, _ => exact zg_tableIn (off := 214) (tgt := 253) cd_W_law_39 (by decide) (by decide) (by decide) (by decide) (zlw_4 hI hi hLs hk1 hs1 K1)
    | 5, _ => exact zg_tableIn (off := 251) (tgt := 290) cd_W_law_39 (by decide) (by decide) (by decide) (by decide) (zlw_5 hI hi hLs hk1 hs1 K1)
    | 6, _ => exact zg_tableIn (off := 288) (tgt := 327) cd_W_law_39 (by decide) (by decide) (by decide) (by decide) (zlw_6 hI hi hLs hk1 hs1 K1)
    | 7, _ => exact zg_tableIn (off := 325) (tgt := 364) cd_W_law_39 (by decide) (by decide) (by decide) (by decide) (zlw_7 hI hi hLs hk1 hs1 K1)
    | 8, _ => exact zg_tableIn (off := 350) (tgt := 389) cd_W_law_39 (by decide) (by decide) (by decide) (by decide) (zlw_8 hI hi hLs hk1 hs1 K1)
    | 9, _ => exact zg_tableIn (off := 375) (tgt := 414) cd_W_law_39 (by decide) (by decide) (by decide) (by decide) (zlw_9 hI hi hLs hk1 hs1 K1)
    | 10, _ => exact zg_tableIn (off := 424) (tgt := 463) cd_W_law_39 (by decide) (by decide) (by decide) (by decide) (zlw_10 hI hi hLs hk1 hs1 K1)
    | 11, _ => exact zg_tableIn (off := 461) (tgt := 500) cd_W_law_39 (by decide) (by decide) (by decide) (by decide) (zlw_11 hI hi hLs hk1 hs1 K1)
    | 12, _ => exact zg_tableIn (off := 498) (tgt := 537) cd_W_law_39 (by decide) (by decide) (by decide) (by decide) (zlw_12 hI hi hLs hk1 hs1 K1)
    | 13, _ => exact zg_tableIn (off := 535) (tgt := 574) cd_W_law_39 (by decide) (by decide) (by decide) (by decide) (zlw_13 hI hi hLs hk1 hs1 K1)
    | 14, _ => exact zg_tableIn (off := 572) (tgt := 611) cd_W_law_39 (by decide) (by decide) (by decide) (by decide) (zlw_14 hI hi hLs hk1 hs1 K1)
    | 15, _ => exact zg_tableIn (off := 609) (tgt := 648) cd_W_law_39 (by decide) (by decide) (by decide) (by decide) (zlw_15 hI hi hLs hk1 hs1 K1)
    | 16, _ => exact zg_tableIn (off := 662) (tgt := 701) cd_W_law_39 (by decide) (by decide) (by decide) (by decide) (zlw_16 hfl hI hi hLs hk0 hs0 K2)
    | 17, _ => exact zg_tableIn (off := 706) (tgt := 745) cd_W_law_39 (by decide) (by decide) (by decide) (by decide) (zlw_17 hI hi hLs hk1 hs1 K1)
    | 18, _ => exact zg_tableIn (off := 743) (tgt := 782) cd_W_law_39 (by decide) (by decide) (by decide) (by decide) (zlw_18 hI hi hLs hk1 hs1 K1)
    | 19, _ => exact zg_tableIn (off := 768) (tgt := 807) cd_W_law_39 (by decide) (by decide) (by decide) (by decide) (zlw_19 hI hi hLs hk1 hs1 K1)
    | 20, _ => exact zg_tableIn (off := 781) (tgt := 820) cd_W_law_39 (by decide) (by decide) (by decide) (by decide) (zlw_20 hI hi hLs hk1 hs1 K1)
    | j9 + 21, h9 => exact absurd h9 (by omega)
  · exact zg_tableOut (tgt := 845) cd_W_law_39 (Or.inr (by rw [hti]; omega)) (by decide) (K1 _ _ hI)
set_option maxRecDepth 100000 in
set_option maxHeartbeats 4000000 in
/-- the law's loop -/
theorem zlw_loop {g : zx_G} {scr Ls b : Nat} {xs : Nat → Int32} (hfl : g.1.flags = pinnedFlags ++ [noTraceFlag]) (hLs : Ls ≤ 2048) : ∀ (r t : Nat) (σ : zx_M) (sz kc ks : Nat), t + r = Ls / 4 → kc + r ≤ 601024 → ks + 6 * r ≤ 7293034 → zIV g σ b → zL g scr Ls xs lw_Z 23 (zLV scr b (4 * t)) [] σ sz kc ks := by
  intro r
  induction r with
  | zero =>
    intro t σ sz kc ks ht hk hs hI
    refine zg_iload 0 cd_W_law_23 rfl ?_
    refine zg_aload_n 4 cd_W_law_25 rfl rfl ?_
    refine zg_slen cd_W_law_26 ?_
    refine zg_iconst (v := nI 4) cd_W_law_27 (by decide) ?_
    refine zg_isub cd_W_law_28 ?_
    refine zg_icmp_gt (tgt := 851) cd_W_law_29 (by decide) (fun _ => ?_) (fun c9 => absurd ((zhd hLs (by omega)).mpr (by omega)) c9)
    refine zg_iconst (v := nI 1) cd_W_law_851 (by decide) ?_
    exact zlw_end hk hs
  | succ r ih =>
    intro t σ sz kc ks ht hk hs hI
    refine zg_iload 0 cd_W_law_23 rfl ?_
    refine zg_aload_n 4 cd_W_law_25 rfl rfl ?_
    refine zg_slen cd_W_law_26 ?_
    refine zg_iconst (v := nI 4) cd_W_law_27 (by decide) ?_
    refine zg_isub cd_W_law_28 ?_
    refine zg_icmp_gt (tgt := 851) cd_W_law_29 (by decide) (fun c9 => absurd ((zhd hLs (by omega)).mp c9) (by omega)) (fun _ => ?_)
    refine zlw_body hfl hI (by omega) hLs (show kc + 1 ≤ 601024 by omega) (show ks + 6 ≤ 7293034 by omega) (fun σ' sz' kc' ks' hI' h1 h2 => ?_)
    refine zg_iinc (v := nI (4 * (t + 1))) (lv' := zLV scr b (4 * (t + 1))) 0 cd_W_law_845 rfl (nI_add _ 4) (by decide) rfl ?_
    refine zg_goto (tgt := 23) cd_W_law_848 (by decide) ?_
    exact ih (t + 1) σ' sz' kc' ks' (by omega) (by omega) (by omega) hI'
set_option maxRecDepth 100000 in
set_option maxHeartbeats 4000000 in
/-- the law from its entry, in the heap as a function -/
theorem zlw_start {g : zx_G} {scr Ls : Nat} {xs : Nat → Int32} (hfl : g.1.flags = pinnedFlags ++ [noTraceFlag]) (hLs : Ls ≤ 2048) {b : Nat} : zL g scr Ls xs lw_Z 0 [(0, .ref scr)] [] (fun _ => none) b 0 0 := by
  refine zg_newo zin_F zy_F zt_F (ci := 6) rfl (fs := [.null, .null, .null, .null, .null, .null, .null]) (by decide) zm_68 zm_69 zm_54 (by decide) (by decide) cd_W_law_0 (fun _ σ1 hF1 _ => ?_)
  refine zg_dup cd_W_law_3 rfl ?_
  refine zg_callIv (rm' := zr_F_init) (b := b) (As := []) (rest := [.ref b]) (host := "") (kc_F_init hF1) ⟨rfl, rfl⟩ zy_F_init_ok rfl zm_70 zm_71 ⟨by decide, by decide⟩ ⟨by decide, by decide⟩ cd_W_law_4 rfl rfl (Nat.le_of_ble_eq_true rfl) (fun σ2 sz2 hq2 => ?_)
  obtain ⟨hs2, hF2, a1, a2, a3, a4, a5, a6, a7, a8, a9⟩ := hq2
  subst hs2
  refine zg_astore_n (lv' := [(1, .ref b), (0, .ref scr)]) cd_W_law_7 rfl (by decide) rfl ?_
  refine zg_newo zin_M zy_M zt_M (ci := 7) rfl (fs := [.int 0, .int 0, .null, .int 0, .int 0, .int 0, .int 0, .null, .null, .null, .null, .null, .null, .null, .null, .null, .null, .null, .null, .null, .null, .null, .null, .int 0, .null, .null, .null, .int 0, .int 0, .null]) (by decide) zm_716 zm_717 zm_61 (by decide) (by decide) cd_W_law_8 (fun _ σ3 hM3 hF3 => ?_)
  refine zg_dup cd_W_law_11 rfl ?_
  refine zg_callIv (rm' := zr_M_init) (b := b + 56) (As := []) (rest := [.ref (b + 56)]) (host := "") (kc_M_init hM3) ⟨rfl, rfl⟩ zy_M_init_ok rfl zm_718 zm_719 ⟨by decide, by decide⟩ ⟨by decide, by decide⟩ cd_W_law_12 rfl rfl (Nat.le_of_ble_eq_true rfl) (fun σ4 sz4 hq4 => ?_)
  obtain ⟨hs4, hF4, hm⟩ := hq4
  subst hs4
  refine zg_astore_n (lv' := [(2, .ref (b + 56)), (1, .ref b), (0, .ref scr)]) cd_W_law_15 rfl (by decide) rfl ?_
  refine zg_iconst (v := nI 1) cd_W_law_16 (by decide) ?_
  refine zg_newa (N := 1) 2 (x := .inr (.inl (fun _ => 0))) rfl rfl (fun U hU => hU) zm_1007 (fun cB => rfl) rfl (by decide) (by decide) (by decide) (by decide) cd_W_law_17 (fun _ => ?_)
  refine zg_astore_n (lv' := [(3, .ref (b + 78)), (2, .ref (b + 56)), (1, .ref b), (0, .ref scr)]) cd_W_law_19 rfl (by decide) rfl ?_
  refine zg_iconst (v := nI 0) cd_W_law_20 (by decide) ?_
  refine zg_istore (lv' := zLV scr b (4 * 0)) cd_W_law_21 (by decide) rfl ?_
  have hup : zfr σ4 (zx_up σ4 (b + 56 + 22) (.inl (g.2.2.2.1 2, 1, .inr (.inl (fun _ => 0))))) (b + 78) 1 := zfr.up zfr.rf (Nat.le_refl _) (Nat.lt_succ_self _)
  have hC0 : zC g σ2 b (b + 1) (b + 15) (b + 22) (b + 25) (b + 30) (b + 32) (b + 44) (b + 3) 0 0 0 0 0 0 (-1) (nI 0) (fun _ => 0) (fun _ _ => 0) (fun _ _ => 0) (fun _ _ => 0) (fun _ _ => 0) (fun _ _ => 0) (fun _ _ => 0) (fun _ => 0) [] := ⟨⟨rfl, rfl, rfl, rfl, rfl, by omega, by omega, by omega, by omega, by omega, by omega⟩, a1, a2, a3, a8, a9, a4, a5, a6, a7⟩
  have hC := ((hC0.fr hF3 (by omega)).fr hF4 (by omega)).fr hup (by omega)
  have hm := hm.frn hup 21 rfl (by omega)
  have ho : zol g (zx_up σ4 (b + 56 + 22) (.inl (g.2.2.2.1 2, 1, .inr (.inl (fun _ => 0))))) (b + 78) 0 := ⟨_, zx_up_self, rfl⟩
  obtain ⟨-, -, -, -, hA, hT, hD, hE, hF⟩ := zREL_0
  refine zlw_loop hfl hLs (Ls / 4) 0 _ _ _ _ (by omega) ?_ ?_ ⟨_, _, _, _, _, _, _, _, _, _, _, _, _, _, _, _, _, _, _, _, _, _, _, _, _, _, _, _, _, _, _, _, _, _, hC, hm, ho, hA, hT, hD, hE, hF⟩
  · show 0 + 1 + 55 + 1 + 21 + 1 + Ls / 4 ≤ 601024
    omega
  · show 0 + 7 + 18457 + 30 + 18400 + 1 + 6 * (Ls / 4) ≤ 7293034
    omega
