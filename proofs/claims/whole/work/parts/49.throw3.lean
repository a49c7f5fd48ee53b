def zT1 (g : zx_G) (PT : zx_M → Nat → Prop) (mc ms : Nat) (s : State) (x : Addr) (t : State) : Prop :=
  (∃ (σ : zx_M) (sz : Nat), PT σ sz ∧ zx_W g σ sz t t.heap) ∧ va_F (zx_Fr g) s t ∧ s.WarmedH t.vm ∧ (∃ L : List Loc, s.sameButNew ({ t with vm := s.vm } : State) L mc ms ∧ ∀ q ∈ L, zx_Fr g q.base) ∧ ∃ ce : Cell, t.heap[x]? = some ce ∧ ce.vm.isStatics = false ∧ s.vm.findClass zISE = some ce.cls
def zQT (g : zx_G) (PT : zx_M → Nat → Prop) (mc ms : Nat) : List Frame → Array Value → State → State → Prop := fun below _ s t => ∃ x, t.status = .running ∧ Ended t below (.threw x) ∧ zT1 g PT mc ms s x t
def zSC (g : zx_G) : State → Code → Prop := fun s c => zxX g s ∧ c.exceptionTable.isEmpty = true
theorem zx_same_frames {u v : State} {F : List Frame} {L : List Loc} {k n : Nat} (h : (u.setFrames F).sameButNew v L k n) : u.sameButNew v L k n := by
  obtain ⟨a, b⟩ := h
  refine ⟨?_, b⟩
  rw [State.setFrames_setFrames] at a
  exact a
theorem zw_cl : Cond.classLink "FindingAid" 62 zISE ∈ zc_T := zc_in 610 (by decide +kernel) (by decide +kernel)
theorem zw_inst : Cond.instantiable zISE 6 ∈ zc_T := zc_in 611 (by decide +kernel) (by decide +kernel)
theorem zw_ini : Cond.initialized zISE ∈ zc_T := zc_in 66 (by decide +kernel) (by decide +kernel)
set_option maxHeartbeats 4000000 in
theorem zg_throw {g : zx_G} {cc : ByteArray} {nL : Nat} {ret : Option FieldType} {ini : Bool} {rm : Room} {pc : Nat} {lv : List (Nat × Value)} {σ : zx_M} {sz kc ks mc ms : Nat} {PT : zx_M → Nat → Prop}
    (hfl : g.1.flags = pinnedFlags ++ [noTraceFlag]) (hd0 : decode cc pc = .ok (.new 62, 3)) (hd3 : decode cc (pc + 3) = .ok (.dup, 1)) (hd4 : decode cc (pc + 3 + 1) = .ok (.ldc 64, 2)) (hd6 : decode cc (pc + 3 + 1 + 2) = .ok (.invokespecial 66, 3)) (hd9 : decode cc (pc + 3 + 1 + 2 + 3) = .ok (.athrow, 1))
    (h1 : kc + 1 ≤ rm.cells) (h2 : ks + 6 ≤ rm.slots) (h3 : kc + 1 ≤ mc) (h4 : ks + 6 ≤ ms) (h5 : 5 < rm.frames) (h6 : 100 ≤ rm.locals) (hp : PT σ (sz + 1)) : zG g "FindingAid" cc nL ret ini rm (zSC g) (zQT g PT mc ms) pc lv [] σ sz kc ks := by
  intro p e s m args below meth c hA hSC H locs ls hW hS hl T hT X
  · obtain ⟨hX, hemp⟩ := hSC
    have hB : g.2.2.1 ≤ sz := by rw [← hW.1]; exact Nat.le_trans hA.2.2.2.2.2.2.2.1 hS.1
    have hnil : c.exceptionTable.toList = [] := by
      have : c.exceptionTable = #[] := by simpa using hemp
      rw [this]
    have htr : e.platform.stackTraces = false := Launch.traces_off hfl X.admits
    have XR := zx_base (R' := { frames := rm.frames, cells := 1, slots := 6, locals := rm.locals }) X rfl rfl h1 h2
    have hv' : (T.setFrames (.invoking m args :: below)).vm = T.vm := rfl
    have hh' : (T.setFrames (.invoking m args :: below)).heap = T.heap := rfl
    have hsame0 : ∀ {v : State} {L : List Loc} {k n : Nat}, (T.setFrames (.invoking m args :: below)).sameButNew v L k n → T.sameButNew v L k n := fun h => zx_same_frames h
    have hWf : ∀ {vm : Vm}, (T.setFrames (.invoking m args :: below)).WarmedH vm → T.WarmedH vm := fun h => h
    have hw' : s.WarmedH (T.setFrames (.invoking m args :: below)).vm := X.warmed
    generalize T.setFrames (.invoking m args :: below) = s' at XR hv' hh' hsame0 hWf hw'
    have hts' : ∀ w ∈ zc_T, w.before args s' = true := fun w hw => word_at hw' (zc_good w hw).2 (hA.2.2.2.2.2.1 w hw)
    have hown' : s'.vm.findClass "FindingAid" = some m.cls := (hw'.alike.findClass _ _).trans hA.2.2.2.2.1
    have hX' : zxX g s' := hX.step hw' (fun a q1 q2 => by rw [hh', hT]; exact hS.2.1 a q1 q2)
    obtain ⟨cX, kX, hcX, hkX, -⟩ := Cond.instantiable_spec (hts' _ zw_inst)
    have key : W p g.1 e { frames := rm.frames, cells := 1, slots := 6, locals := rm.locals } s' m args below meth c T.heap [] 0 0
        (fun t => t.status = .running ∧ Ended t below (.threw T.heap.size) ∧ s'.WarmedH t.vm ∧ s'.sameButNew ({ t with vm := s'.vm } : State) [] 1 6 ∧ ∃ ce : Cell, t.heap[T.heap.size]? = some ce ∧ ce.vm.isStatics = false ∧ s'.vm.findClass zISE = some ce.cls) (F0 m pc ls []) := by
      refine W.newcK hA.1 hA.2.1 hown' (hts' _ zw_cl) (hts' _ zw_inst) (hts' _ zw_ini) rfl hd0 (Nat.le_refl 1) (Nat.le_refl 6) hcX rfl fun H1 kC hkC e1 z1 o1 => ?_
      cases hkX.symm.trans hkC
      refine lv_dup hA.1 hA.2.1 hd3 rfl ?_
      intro T2 hT2 X2
      obtain ⟨cF, k, cf, i, aS, q1, q2, q3, q4, q5⟩ := hX'.2.2.2.2.step (U := T2) X2.warmed
      have hcF : cF = m.cls := Option.some.inj (q1.symm.trans ((X2.warmed.alike.findClass _ _).trans hown'))
      subst hcF
      have hldc : ∀ target, Steps p.tables e below (T2.setTop (F0 m (pc + 3 + 1 + 2) ls [.ref aS, .ref T.heap.size, .ref T.heap.size])) target → Steps p.tables e below (T2.setTop (F0 m (pc + 3 + 1) ls [.ref T.heap.size, .ref T.heap.size])) target := by
        intro target hrest
        have hd4' : decode c.code (F0 m (pc + 3 + 1) ls [.ref T.heap.size, .ref T.heap.size]).pc = .ok (.ldc 64, 2) := by rw [hA.2.1]; exact hd4
        jvm_step X2.here [hA.1, hd4', ldc.wp_string (e := e) (s := T2) (f := F0 m (pc + 3 + 1) ls [.ref T.heap.size, .ref T.heap.size]) X2.here.top q2 q3 q4 q5]
        exact hrest
      obtain ⟨U, st, hrun, hend, hWU, hsm, ce, hce, hoc⟩ := X2.ctorThrowS hA.1 htr (own := "FindingAid") (cls := zISE) (names := ["java/lang/RuntimeException", "java/lang/Exception"]) (ic := 66) hown' (by decide +kernel) (by decide +kernel) (hX'.own hts') (fun x hx => by cases hx) (a := T.heap.size) hcX hkX (by rw [hT2]; exact e1) (by rw [hh']; exact Nat.le_refl _) (msg := .ref aS) rfl
        (g := F0 m (pc + 3 + 1 + 2) ls [.ref aS, .ref T.heap.size, .ref T.heap.size]) rfl (hl.1.trans hA.2.2.2.1.symm) rfl rfl (rest := []) rfl (by rw [hA.2.1]; exact hd6) (by rw [hA.2.1]; exact hd9) (fun x hx => absurd hx (by rw [hnil]; simp)) (by show 2 + 3 < rm.frames; exact h5) (by show 2 * 0 + (1 + 0) + (13 * (2 + 1) + 42) ≤ rm.locals; omega) hA.2.2.2.2.2.2.1
      exact ⟨U, hldc U st, hrun, hend, hWU, hsm, ce, hce, by rw [hoc.vm]; rfl, hoc.cls⟩
    obtain ⟨t, st, hrun, hend, hWt, hsm, ce, hce, hcs, hcc⟩ := key T rfl XR
    refine ⟨t, st, T.heap.size, hrun, hend, ?_⟩
    have hWs : s.WarmedH t.vm := State.WarmedH.trans X.warmed (hWf hWt)
    have hkeep : ∀ a : Nat, a < T.heap.size → t.heap[a]? = T.heap[a]? := by
      intro a ha
      obtain ⟨c', k1, k2, k3, k4⟩ := hsm.2.2.2.2.2 a T.heap[a] (by rw [hh']; exact Array.getElem?_eq_getElem ha)
      have k1' : t.heap[a]? = some c' := k1
      rw [k1', Array.getElem?_eq_getElem ha, k2]
      have : c'.slots = T.heap[a].slots := by
        apply Array.ext_getElem?
        intro i
        exact k4 i (by simp)
      rw [this]
    have hsz : t.heap.size = sz + 1 := by
      have k1 := (Array.getElem?_eq_some_iff.mp hce).1
      have k2 : t.heap.size ≤ s'.heap.size + 1 := hsm.2.2.1
      rw [hh'] at k2
      have k3 : T.heap.size = sz := by rw [hT]; exact hW.1
      omega
    have hHsz : T.heap.size = sz := by rw [hT]; exact hW.1
    refine ⟨⟨σ, sz + 1, hp, hsz, fun a e9 he9 => ?_, va_K.moved hWs.alike hW.2.2.1, (hW.2.2.2.kept fun q q1 _ => ?_).moved hWs.alike⟩, ⟨?_, fun q q1 q2 => ?_⟩, hWs, ⟨locs ++ [], ?_, fun q hq => hS.2.2 q (by simpa using hq)⟩, ce, hce, hcs, ?_⟩
    · obtain ⟨b1, b2⟩ := hW.2.1 a e9 he9
      have hlt := b2.lt
      exact ⟨b1, b2.kept (by rw [hkeep a (by rw [hT]; exact hlt), hT])⟩
    · rw [hkeep q (by rw [hT]; exact q1), hT]
    · have := hS.1; rw [hsz]; have := hW.1; omega
    · rw [hkeep q (by rw [hT]; exact Nat.lt_of_lt_of_le q1 hS.1), hT]; exact hS.2.1 q q1 q2
    · have k1 := hsame0 hsm
      have k2 := k1.setVm s.vm
      have k3 := X.same.trans k2
      exact k3.weaken (fun x hx _ => hx) h3 h4
    · rw [← hcc, hw'.alike.findClass]
/-- a contract: the method throws -/
def zMT (g : zx_G) (y : MethodName) (cc : ByteArray) (nL : Nat) (ret : Option FieldType) (rm : Room) (mc ms : Nat) (av : List Value) (σ : zx_M) (sz : Nat) (PT : zx_M → Nat → Prop) : Prop :=
  MetFree g.1 y (headSpec (.code y cc nL ret :: zc_T) rm) (fun a U => zx_Pc g av σ sz a U ∧ zxX g U) (fun _ _ _ _ _ => True) (fun _ st o t => ∃ x, o = .threw x ∧ zT1 g PT mc ms st x t)
theorem zMT_of {g : zx_G} {own : String} {y : MethodName} {cc : ByteArray} {nL : Nat} {ret : Option FieldType} {ini : Bool} {rm : Room} {mc ms : Nat} {av : List Value} {σ : zx_M} {sz : Nat} {PT : zx_M → Nat → Prop} {lv : List (Nat × Value)}
    (hy : plainName y.cls = true) (ho : y.cls = own) (hini : ini = true → y.name = "<init>") (hlen : (lg_sl av).length ≤ nL) (hlv : lv_args 0 av = lv)
    (body : zG g own cc nL ret ini rm (zSC g) (zQT g PT mc ms) 0 lv [] σ sz 0 0) : zMT g y cc nL ret rm mc ms av σ sz PT := by
  refine MetFree.of_bodyS (code := cc) (maxLocals := nL) (ret := ret) hy ?_ ?_
  · intro args s m h hn
    obtain ⟨meth, c, h1, h2, h3, h4, h5, h6, -, -⟩ := Cond.code_spec hn (atoms_spec (ws := .code y cc nL ret :: zc_T) h _ List.mem_cons_self)
    exact ⟨meth, c, h1, h2, h3, h4, h5, h6⟩
  · intro p e s m args below meth c s₁ B hml hP _
    obtain ⟨⟨rfl, hW, hB, hN⟩, hX⟩ := hP
    have hts := atoms_spec (ws := .code y cc nL ret :: zc_T) B.pre
    have hown : s.vm.findClass own = some m.cls := by rw [← ho]; exact findClass_of_methodNamed B.named
    have hin : ini = true → meth.name = "<init>" := fun h => (name_of_methodNamed B.named B.method).1.trans (hini h)
    have hemp : c.exceptionTable.isEmpty = true := B.noHandlers (hts _ List.mem_cons_self)
    have hh0 : s₁.heap = s.heap := by rw [B.state]; rfl
    have hl := lv_entry av (n := nL) hlen
    have K : W p g.1 e rm s m av.toArray below meth c s.heap [] 0 0 (zQT g PT mc ms below av.toArray s) (entryFrame m av.toArray nL) := by
      rw [lg_entry_eq]
      generalize (lg_sl av ++ List.replicate (nL - (lg_sl av).length) Slot.unset).toArray = ls at hl ⊢
      rw [hlv] at hl
      exact body p e s m _ below meth c ⟨B.exec, B.bytes, B.returns, hml, hown, fun w h => hts w (List.mem_cons_of_mem _ h), B.notSynchronized, by rw [hW.1]; exact hB, hin, hW.2.2.2, hN⟩ ⟨hX, hemp⟩ s.heap [] ls hW va_S.rf hl
    obtain ⟨t, a1, x, b1, b2, b3⟩ := K s₁ hh0 (Stand.of_body B)
    exact ⟨t, .threw x, a1, b1, b2, x, rfl, b3⟩
