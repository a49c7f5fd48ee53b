theorem zlw_arr {args : Array Value} {s : State} {ty : FieldType} (h : (Cond.arrayClass ty).before args s = true) : ∃ cA : ClassId, ArrOfT s cA ty ∧ s.vm.findClass ("[" ++ ty.toString) = some cA := by
  obtain ⟨cA, k, comp, h1, h2, h3⟩ := Cond.arrayClass_spec h
  exact ⟨cA, fun n z => ⟨(fun _ h9 => by cases h9), k, h2, comp, h3⟩, h1⟩
theorem zc_X_in : ∀ w ∈ zc_X, w ∈ lw_tbl := by decide +kernel
theorem zc_NF_in : ∀ q ∈ zc_NF, Cond.fieldLinkNest q.1 q.2.1 q.2.2.1 q.2.2.2.1 q.2.2.2.2.1 q.2.2.2.2.2 ∈ lw_tbl := by decide +kernel
theorem zc_NM_in : ∀ q ∈ zc_NM, Cond.methodLinkNest q.1 q.2.1 q.2.2.1 q.2.2.2 ∈ lw_tbl := by decide +kernel
def lw_At (p : Program) (s : State) (m : MethodId) (meth : Method) (c : Code) (b L : Nat) (xs : Nat → Int32) : Prop :=
  p.tables.exec = Jvm.exec ∧ c.code = code ∧ meth.sig.returnType = ret ∧ c.maxLocals = 7 ∧ s.vm.findClass R_law = some m.cls ∧ (∀ w ∈ lw_tbl, w.before #[Value.ref b] s = true) ∧ va_X b L xs s s.heap ∧ b < s.heap.size ∧ meth.locks = false ∧ (Jvm.Cond.and given_1 narrow_1).before #[Value.ref b] s = true
set_option maxRecDepth 100000 in
set_option maxHeartbeats 4000000 in
theorem whole_start {p : Program} {e : Env} {s : State} {m : MethodId} {below : List Frame} {meth : Method} {c : Code} (l : Launch) (hfl : l.flags = pinnedFlags ++ [noTraceFlag]) {b L : Nat} {xs : Nat → Int32} (hL : L ≤ 2048) (C0 : lw_At p s m meth c b L xs) : W p l e room_1 s m #[Value.ref b] below meth c s.heap [] 0 0 (lw_Z below #[Value.ref b] s) (entryFrame m ([Value.ref b] : List Value).toArray 7) := by
  obtain ⟨hx, hb, hr, hml, hown, hts, hX, hbl, hlocks, hgv⟩ := C0
  have hgf := flat_of_before _ hgv
  obtain ⟨c0, iS0, hKn0⟩ := u_known (C := "FindingAid$Asks") (T := zT_K) (N := 6) (n := 6) hts (fun w hw => (List.mem_filter.mp (zin_K w hw)).1) (hts (.instantiable "FindingAid$Asks" 6) (by decide +kernel))
  obtain ⟨c1, iS1, hKn1⟩ := u_known (C := "FindingAid$Levels") (T := zT_L) (N := 12) (n := 12) hts (fun w hw => (List.mem_filter.mp (zin_L w hw)).1) (hts (.instantiable "FindingAid$Levels" 12) (by decide +kernel))
  obtain ⟨c2, iS2, hKn2⟩ := u_known (C := "FindingAid$Notes") (T := zT_N) (N := 6) (n := 6) hts (fun w hw => (List.mem_filter.mp (zin_N w hw)).1) (hts (.instantiable "FindingAid$Notes" 6) (by decide +kernel))
  obtain ⟨c3, iS3, hKn3⟩ := u_known (C := "FindingAid$Page") (T := zT_P) (N := 2) (n := 2) hts (fun w hw => (List.mem_filter.mp (zin_P w hw)).1) (hts (.instantiable "FindingAid$Page" 2) (by decide +kernel))
  obtain ⟨c4, iS4, hKn4⟩ := u_known (C := "FindingAid$Sums") (T := zT_S) (N := 2) (n := 2) hts (fun w hw => (List.mem_filter.mp (zin_S w hw)).1) (hts (.instantiable "FindingAid$Sums" 2) (by decide +kernel))
  obtain ⟨c5, iS5, hKn5⟩ := u_known (C := "FindingAid$TextReader") (T := zT_T) (N := 5) (n := 5) hts (fun w hw => (List.mem_filter.mp (zin_T w hw)).1) (hts (.instantiable "FindingAid$TextReader" 5) (by decide +kernel))
  obtain ⟨c6, iS6, hKn6⟩ := u_known (C := "FindingAid") (T := zT_F) (N := 7) (n := 7) hts (fun w hw => (List.mem_filter.mp (zin_F w hw)).1) (hts (.instantiable "FindingAid" 7) (by decide +kernel))
  obtain ⟨c7, iS7, hKn7⟩ := u_known (C := "FindingAidModel") (T := zT_M) (N := 30) (n := 30) hts (fun w hw => (List.mem_filter.mp (zin_M w hw)).1) (hts (.instantiable "FindingAidModel" 30) (by decide +kernel))
  let dC : Nat → ClassId := fun k => match k with | 0 => c0 | 1 => c1 | 2 => c2 | 3 => c3 | 4 => c4 | 5 => c5 | 6 => c6 | _ => c7
  let dI : Nat → Nat → Nat := fun k => match k with | 0 => iS0 | 1 => iS1 | 2 => iS2 | 3 => iS3 | 4 => iS4 | 5 => iS5 | 6 => iS6 | _ => iS7
  have hKc : ∀ (k : Nat) (q : vw_C), zc_cl[k]? = some q → u_Kn s q.1 q.2.1 q.2.2 (dC k) (dI k) := by
    intro k q hq
    match k, hq with
    | 0, hq => cases hq; exact hKn0
    | 1, hq => cases hq; exact hKn1
    | 2, hq => cases hq; exact hKn2
    | 3, hq => cases hq; exact hKn3
    | 4, hq => cases hq; exact hKn4
    | 5, hq => cases hq; exact hKn5
    | 6, hq => cases hq; exact hKn6
    | 7, hq => cases hq; exact hKn7
    | k + 8, hq => simp [zc_cl] at hq
  obtain ⟨ar0, hR0, hQ0⟩ := zlw_arr (hts (.arrayClass .int) (by decide +kernel))
  obtain ⟨ar1, hR1, hQ1⟩ := zlw_arr (hts (.arrayClass .boolean) (by decide +kernel))
  obtain ⟨ar2, hR2, hQ2⟩ := zlw_arr (hts (.arrayClass .long) (by decide +kernel))
  obtain ⟨ar3, hR3, hQ3⟩ := zlw_arr (hts (.arrayClass .char) (by decide +kernel))
  obtain ⟨ar4, hR4, hQ4⟩ := zlw_arr (hts (.arrayClass .byte) (by decide +kernel))
  have hAll : ∀ a : Nat, a < s.heap.size → ¬ (fun q : Nat => s.heap.size ≤ q) a := fun a ha => Nat.not_le.mpr ha
  obtain ⟨st0, hv0, hT0⟩ := va_Tof (args := #[Value.ref b]) (s := s) (tm := (.static "FindingAid" "KIND_SIGNS" "[C")) (ty := .char) (N := 4) (f := fun j => .int (zc_k1 j)) (A := fun q : Nat => s.heap.size ≤ q) (by decide) (hgf _ (by decide +kernel)) (va_eqt (hgf (.eq (.length (.static "FindingAid" "KIND_SIGNS" "[C")) (.int 4)) (by decide +kernel))) (fun j hj => by
    match j, hj with
    | 0, _ => exact va_eqt (hgf (.eq (.elem (.static "FindingAid" "KIND_SIGNS" "[C") (.int 0)) (.int 102)) (by decide +kernel))
    | 1, _ => exact va_eqt (hgf (.eq (.elem (.static "FindingAid" "KIND_SIGNS" "[C") (.int 1)) (.int 115)) (by decide +kernel))
    | 2, _ => exact va_eqt (hgf (.eq (.elem (.static "FindingAid" "KIND_SIGNS" "[C") (.int 2)) (.int 117)) (by decide +kernel))
    | 3, _ => exact va_eqt (hgf (.eq (.elem (.static "FindingAid" "KIND_SIGNS" "[C") (.int 3)) (.int 105)) (by decide +kernel))) hAll
  have hZ0 := va_Zof (A := fun q : Nat => s.heap.size ≤ q) (hts (.laysStatic "FindingAid" "KIND_SIGNS" "[C") (by decide +kernel)) (hts (.initialized "FindingAid") (by decide +kernel)) hv0 hAll
  obtain ⟨st1, hv1, hT1⟩ := va_Tof (args := #[Value.ref b]) (s := s) (tm := (.static "FindingAid" "UNIT_SIGNS" "[C")) (ty := .char) (N := 3) (f := fun j => .int (zc_k2 j)) (A := fun q : Nat => s.heap.size ≤ q) (by decide) (hgf _ (by decide +kernel)) (va_eqt (hgf (.eq (.length (.static "FindingAid" "UNIT_SIGNS" "[C")) (.int 3)) (by decide +kernel))) (fun j hj => by
    match j, hj with
    | 0, _ => exact va_eqt (hgf (.eq (.elem (.static "FindingAid" "UNIT_SIGNS" "[C") (.int 0)) (.int 98)) (by decide +kernel))
    | 1, _ => exact va_eqt (hgf (.eq (.elem (.static "FindingAid" "UNIT_SIGNS" "[C") (.int 1)) (.int 109)) (by decide +kernel))
    | 2, _ => exact va_eqt (hgf (.eq (.elem (.static "FindingAid" "UNIT_SIGNS" "[C") (.int 2)) (.int 112)) (by decide +kernel))) hAll
  have hZ1 := va_Zof (A := fun q : Nat => s.heap.size ≤ q) (hts (.laysStatic "FindingAid" "UNIT_SIGNS" "[C") (by decide +kernel)) (hts (.initialized "FindingAid") (by decide +kernel)) hv1 hAll
  let g : zx_G := (l, (dC, dI), s.heap.size, (fun k => match k with | 0 => ar0 | 1 => ar1 | 2 => ar2 | 3 => ar3 | _ => ar4), (fun k => match k with | 0 => st0 | _ => st1))
  have hS : zx_S g s s.heap := by
    intro k q hq
    match k, hq with
    | 0, hq => cases hq; exact ⟨hZ0, hT0⟩
    | 1, hq => cases hq; exact ⟨hZ1, hT1⟩
    | k + 2, hq => simp [zc_st] at hq
  have hN : zx_N s := ⟨fun q hq => va_Nw.of rfl (hts _ (zc_NF_in q hq)), fun q hq => va_Nw.of rfl (hts _ (zc_NM_in q hq))⟩
  have hK : va_K g.2.1 zc_cl (zx_tys g) s := by
    refine ⟨hKc, fun k q hq => ?_⟩
    match k, hq with
    | 0, hq => cases hq; exact ⟨hR0, hQ0⟩
    | 1, hq => cases hq; exact ⟨hR1, hQ1⟩
    | 2, hq => cases hq; exact ⟨hR2, hQ2⟩
    | 3, hq => cases hq; exact ⟨hR3, hQ3⟩
    | 4, hq => cases hq; exact ⟨hR4, hQ4⟩
    | k + 5, hq => simp [zx_tys] at hq
  have hls : zx_ls s := fun a' => ⟨hts (.laysStatic Bundle.tN "UNASSIGNED_STACK" Bundle.steD) (by decide +kernel), hts (.laysStatic Bundle.tN "SUPPRESSED_SENTINEL" Bundle.listD) (by decide +kernel)⟩
  have hsr : zx_sr s := by
    obtain ⟨k9, cf9, i9, a9, q1, q2, q3, -, q5, -⟩ := Cond.stringRef_spec (hKn6.2.1) (hts (.stringRef "FindingAid" 64 "the text is wrong") (by decide +kernel))
    exact ⟨c6, k9, cf9, i9, a9, hKn6.2.1, q1, q2, q3, q5⟩
  have hxX : zxX g s := by
    refine ⟨fun w hw a' => va_tabs (zc_X_ok w hw).1 rfl (hts w (zc_X_in w hw)), ?_, ?_, hls, hsr⟩
    · exact va_Zqof (hls #[Value.ref b]).1 (hts (.initialized Bundle.tN) (by decide +kernel)) (hgf _ (by decide +kernel)) hAll
    · exact va_Zqof (hls #[Value.ref b]).2 (hts (.initialized Bundle.tN) (by decide +kernel)) (hgf _ (by decide +kernel)) hAll
  have hl := lv_entry ([.ref b]) (n := 7) (Nat.le_of_ble_eq_true rfl)
  rw [lg_entry_eq]
  generalize (lg_sl ([.ref b]) ++ List.replicate (7 - (lg_sl ([.ref b])).length) Slot.unset).toArray = ls at hl ⊢
  have hl : lv_has ls 7 [(0, .ref b)] := hl
  exact zlw_start (g := g) (scr := b) (Ls := L) (xs := xs) hfl hL (b := s.heap.size) p e s m #[Value.ref b] below meth c ⟨hx, hb, hr, hml, hown, fun w hw => hts w (List.mem_filter.mp hw).1, hlocks, Nat.le_refl _, (fun h => by cases h), hS, hN⟩ ⟨hxX, hX, hbl, hbl, rfl⟩ s.heap [] ls ⟨rfl, (fun a e h => by cases h), hK, hS⟩ va_S.rf hl
set_option maxHeartbeats 4000000 in
theorem lw_walk (l : Launch) (hfl : l.flags = pinnedFlags ++ [noTraceFlag]) (b : Addr) (xs : List Int32) : MetFree l x (headSpec (Jvm.Cond.code x code maxLocals ret :: tables_1) room_1) (lw_P b xs) (fun _ _ _ _ _ => True) lw_Q := by
  refine MetFree.of_bodyS (code := code) (maxLocals := maxLocals) (ret := ret) (by decide) ?_ ?_
  · intro args s m h hn
    obtain ⟨meth, c, h1, h2, h3, h4, h5, h6, -, -⟩ := Cond.code_spec hn (atoms_spec (ws := Jvm.Cond.code x code maxLocals ret :: tables_1) h _ List.mem_cons_self)
    exact ⟨meth, c, h1, h2, h3, h4, h5, h6⟩
  · intro p e s m args below meth c s₁ B hml0 hP _
    obtain ⟨rfl, hx, hbd, hgv⟩ := hP
    obtain ⟨scr, harrAt, hlist, hof, hsmall⟩ := hx
    obtain ⟨hcb, hkn, -, -⟩ := State.arrayAt?_spec harrAt
    have hown : s.vm.findClass R_law = some m.cls := findClass_of_methodNamed B.named
    have hts0 : ∀ c ∈ (Jvm.Cond.code x code maxLocals ret :: tables_1), c.before #[Value.ref b] s = true := atoms_spec (ws := Jvm.Cond.code x code maxLocals ret :: tables_1) B.pre
    have hts : ∀ w ∈ lw_tbl, w.before #[Value.ref b] s = true := k2_hts_sels lw_privs (fun w hw => hts0 w (List.mem_cons_of_mem _ hw)) lw_privs_ok
    have hml : c.maxLocals = 7 := B.maxLocals_eq (hts0 _ List.mem_cons_self)
    have X₀ : Stand p l e room_1 s m #[Value.ref b] below meth c s₁ [] 0 0 := Stand.of_body B
    have hh0 : s₁.heap = s.heap := by rw [B.state]; rfl
    have hsz : scr.slots.size = xs.length := by rw [← Array.length_toList, hlist, List.length_map]
    have hval : ∀ j : Nat, j < xs.length → scr.slots[j]? = some (.int (xs.getD j 0)) := fun j hj => by
      rw [← Array.getElem?_toList, hlist]
      simp [hj]
    have hbl : b < s.heap.size := (Array.getElem?_eq_some_iff.mp hcb).1
    have hX : va_X b xs.length (fun j => xs.getD j 0) s s.heap := ⟨scr, hcb, hof, hkn, hsz, hval⟩
    have K : W p l e room_1 s m #[Value.ref b] below meth c s₁.heap [] 0 0 (lw_Z below #[Value.ref b] s) (entryFrame m ([Value.ref b] : List Value).toArray 7) := by
      rw [hh0]
      exact whole_start l hfl hbd ⟨B.exec, B.bytes, B.returns, hml, hown, hts, hX, hbl, B.notSynchronized, hgv⟩
    obtain ⟨t, a1, o, b1, b2, b3⟩ := K s₁ rfl X₀
    exact ⟨t, o, a1, b1, b2, b3⟩
theorem lw_pre_spec {args : Array Value} {s : State} (h : (Jvm.Cond.and given_1 narrow_1).before args s = true) (hr : rest_1_c.before args s = true) : ∃ (b : Addr) (xs : List Int32), lw_P b xs args s := by
  have hs := flat_of_before _ h
  have hq := flat_of_before _ hr
  have hc : (Cond.count 1).before args s = true := hs _ (by decide +kernel)
  have harr : (Cond.arrayOf (.arg 0) .int).before args s = true := hs _ (by decide +kernel)
  have hle : (Cond.le (.length (.arg 0)) (.int 2048)).before args s = true := hs _ (by decide +kernel)
  have hlen : (Cond.isInt (.length (.arg 0))).before args s = true := hq _ (by decide +kernel)
  have hall : (Cond.all (.arg 0) (.isInt (.elem (.arg 0) (.index 0)))).before args s = true := hq _ (by decide +kernel)
  obtain ⟨b, xs, hb, hx⟩ := State.ints_of_pre rfl harr hlen hall
  have hsm : xs.length < 2 ^ 31 := hx.choose_spec.2.2.2
  have hev : (Term.length (.arg 0)).eval args s none [] s = some (.int xs.length.toInt32) := hx.length_eval hb
  have hv := Cond.le_ints hev (show (Term.int 2048).eval args s none [] s = some (.int 2048) from rfl)
  have hd : xs.length.toInt32 ≤ 2048 := by
    simpa [Cond.before, Cond.holds, hv] using hle
  have hN : xs.length ≤ 2048 := (Int32.ofNat_le_ofNat hsm (by decide)).mp (show Int32.ofNat xs.length ≤ Int32.ofNat 2048 from hd)
  exact ⟨b, xs, Cond.one_arg hc (show args[0]? = some (.ref b) from hb), hx, hN, h⟩
theorem lw_comes (l : Launch) (hfl : l.flags = pinnedFlags ++ [noTraceFlag]) : Comes l x (Jvm.Cond.code x code maxLocals ret :: tables_1) room_1 (fun tb e args s => Calls_1 tb e args s ∧ rest_1 tb e args s ∧ Pre_1 tb e args s)
    (fun _ _ args s o t => lw_Q args s o t) := by
  intro p e ha hc hk s m args below hf hfit hheap happ hpre
  obtain ⟨b, xs, hP⟩ := lw_pre_spec hpre.2.2 hpre.2.1
  obtain ⟨k, o, h1, h2, h3, hQ⟩ := lw_walk l hfl b xs p e ha hc hk s m args below hf ((Spec.applies_iff_loose hf).mp happ).1 hP trivial
  exact ⟨k, o, h1, h2, h3, hQ⟩
theorem lw_frame {s t : State} {o : Outcome} {args : Array Value} (h : Framed s o t [] 601024 7293034) :
    Framed s o t (fieldLocs frame_1_writes args s ++ arrayLocs frame_1_arrays args s ++ staticLocs frame_1_statics s) 601024 7293034 := h
theorem lw_limb (L : Cond) (hL : ∀ (args : Array Value) (s t : State), L.after args s (.returned (some (.int 1))) t = true) :
    ArmFor flags0 classFile x code maxLocals ret World_1 tables_1 room_1 Calls_1 rest_1 Pre_1
      (fun tb e a s o t => postC L tb e a s o t ∧ Framed s o t (fieldLocs frame_1_writes a s ++ arrayLocs frame_1_arrays a s ++ staticLocs frame_1_statics s) 601024 7293034) := by
  intro l hfl _ _ p e ha hc hk s m args below hf hfit hheap happ hpre
  obtain ⟨k, o, h1, h2, h3, rfl, hF⟩ := lw_comes l hfl p e ha hc hk s m args below hf hfit hheap happ hpre
  exact ⟨k, _, h1, h2, h3, hL args s _, lw_frame hF⟩
theorem i_vc : Claimed_1_1 ∧ Claimed_1_2 := ⟨lw_limb limb_1_1 (fun args s t => by simp [limb_1_1, Cond.after, Cond.holds, Cond.value]), lw_limb limb_1_2 (fun args s t => Cond.after_iff.mpr (by
  first | (rw [show limb_1_2 = Cond.eq .result (.int 1) from rfl, Cond.eq_ints (x := 1) (y := 1) rfl rfl]; simp; done) | (simp [limb_1_2, Cond.value, Term.eval]; done)))⟩
