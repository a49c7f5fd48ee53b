/-! CAUGHT: a call that throws, in a method that catches -/
def zPT (g : zx_G) (R : Room) (mc ms : Nat) (av : List Value) (σ : zx_M) (sz : Nat) : Pt → Array Value → Prop := fun A a => A.cells + mc ≤ R.cells ∧ A.slots + ms ≤ R.slots ∧ zx_Pc g av σ sz a A.U ∧ zxX g A.U
def zQB (g : zx_G) (PT : zx_M → Nat → Prop) (mc ms : Nat) : Pt → Array Value → Addr → Pt → Prop := fun A a v B =>
  ∃ (g' : JFrame) (mk : MethodId) (t : State) (L : List Loc), B.U.heap = t.heap ∧ B.U.vm = t.vm ∧ zT1 g PT mc ms (A.U.calling g' mk a) v t ∧ B.locs = A.locs ++ L ∧ (∀ q ∈ L, zx_Fr g q.base) ∧ B.cells = A.cells + mc ∧ B.slots = A.slots + ms
theorem zxX.same {g : zx_G} {u U : State} (hv : U.vm = u.vm) (hh : U.heap = u.heap) (h : zxX g u) : zxX g U := h.step (by rw [hv]; exact State.WarmedH.refl u) (fun a _ _ => by rw [hh])
theorem zx_backT {g : zx_G} {p : Program} {e : Env} {R rm' : Room} {below : List Frame} {s : State} {sargs : Array Value} {y : MethodName} {bytes : ByteArray} {maxL len W n : Nat} {r : Option FieldType} {av : List Value} {σ : zx_M} {sz : Nat} {PT : zx_M → Nat → Prop}
    (hM : zMT g y bytes maxL r rm' rm'.cells rm'.slots av σ sz PT) (hy : zx_y y bytes maxL r n) (hts : ∀ w ∈ zc_T, w.before sargs s = true) (hframes : rm'.frames + 1 ≤ R.frames) (hlocals : W + (maxL + 11) + rm'.locals ≤ R.locals) :
    BackT g.1 R p e below s sargs y len W (zPT g R rm'.cells rm'.slots av σ sz) (zQB g PT rm'.cells rm'.slots) := by
  have hall : ∀ w ∈ (Cond.code y bytes maxL r :: zc_T), ∀ (a' : Array Value) (U : State), s.WarmedH U.vm → w.before a' U = true := pay_in hts (zx_good hy.1)
  refine BackT.of_free (S := headSpec (Cond.code y bytes maxL r :: zc_T) rm') (P := fun a U => zx_Pc g av σ sz a U ∧ zxX g U) (K := fun _ _ _ _ _ => True) (Q := fun _ st o t => ∃ x, o = .threw x ∧ zT1 g PT rm'.cells rm'.slots st x t) (bytes := bytes) (maxL := maxL) (ret := r)
    (E := fun a st o t L k n => k = rm'.cells ∧ n = rm'.slots ∧ ∀ q ∈ L, zx_Fr g q.base) hM hframes hlocals ?_ ?_ (fun _ _ _ _ _ _ _ _ _ => trivial) ?_ ?_
  · intro m meth c A a X hp
    exact ⟨atoms_intro fun w hw => hall w hw _ _ X.warmed, hall _ List.mem_cons_self _ _ X.warmed, hall _ (List.mem_cons_of_mem _ hy.2.1) _ _ X.warmed, hp.1, hp.2.1⟩
  · intro m meth c A a g' mk X hp
    exact ⟨zx_blind _ _ _ _ hp.2.2.1, zxX.same (u := A.U) rfl rfl hp.2.2.2⟩
  · rintro a st o t ⟨x, rfl, h⟩
    obtain ⟨h1, h2, h3, ⟨L, h4, h5⟩, h6⟩ := h
    exact ⟨L, rm'.cells, rm'.slots, ⟨⟨x, rfl⟩, h3, h4⟩, rfl, rfl, h5⟩
  · intro m meth c A a g' mk v t L k n X hp hq hF ⟨e1, e2, hL⟩
    subst e1; subst e2
    obtain ⟨x, hx, h⟩ := hq
    cases hx
    exact ⟨g', mk, t, L, rfl, rfl, h, rfl, hL, rfl, rfl⟩
set_option maxHeartbeats 4000000 in
theorem zg_callVT {g : zx_G} {own : String} {cc : ByteArray} {nL : Nat} {ret : Option FieldType} {ini : Bool} {rm : Room} {SC : State → Code → Prop} {Q : List Frame → Array Value → State → State → Prop} {pc : Nat} {lv : List (Nat × Value)} {rest : List Value} {σ : zx_M} {sz kc ks : Nat}
    {y : MethodName} {bytes : ByteArray} {maxL index n : Nat} {r : Option FieldType} {rm' : Room} {b : Nat} {As : List Value} {ci : Nat} {q : vw_C} {fs : List Value} {st0 : List Value} {PT : zx_M → Nat → Prop} {s0 e0 h0 : Nat}
    (hM : zMT g y bytes maxL r rm' rm'.cells rm'.slots (.ref b :: As) σ sz PT) (hy : zx_y y bytes maxL r n) (hlink : Cond.methodLink own index y ∈ zc_T) (hinst : Cond.instanceMethod y ∈ zc_T) (hsel : Cond.selects y.cls y y ∈ zc_T) (hcl : zc_cl[ci]? = some q) (hq : q.1 = y.cls)
    (hR : rm'.frames + 1 ≤ rm.frames ∧ 8 + (maxL + 11) + rm'.locals ≤ rm.locals) (hf : kc + rm'.cells ≤ rm.cells ∧ ks + rm'.slots ≤ rm.slots) (hd : decode cc pc = .ok (.invokevirtual index, 3)) (he : σ b = some (.inr (ci, fs))) (hst : st0 = As.reverse ++ .ref b :: rest) (hn : As.length = n) (hrest : (rest.map fun v => v.category).sum ≤ 8)
    (hC : ∀ s c, SC s c → zxX g s ∧ c.exceptionTable.toList.map (fun h => (h.startPc, h.endPc, h.handlerPc, h.catchType)) = [(s0, e0, h0, 13)]) (hcov : s0 ≤ pc ∧ pc < e0) (hl13 : Cond.classLink own 13 zISE ∈ zc_T)
    (k : ∀ x σ' sz', PT σ' sz' → zG g own cc nL ret ini rm SC Q h0 lv [.ref x] σ' sz' (kc + rm'.cells) (ks + rm'.slots)) : zG g own cc nL ret ini rm SC Q pc lv st0 σ sz kc ks := by
  intro p e s m args below meth c hA hSC H locs ls hW hS hl T hT X
  obtain ⟨hX, hex⟩ := hC s c hSC
  have hts := hA.2.2.2.2.2.1
  have hown := hA.2.2.2.2.1
  have hB : g.2.2.1 ≤ sz := by rw [← hW.1]; exact Nat.le_trans hA.2.2.2.2.2.2.2.1 hS.1
  obtain ⟨cellB, hcB, hoB, hclB⟩ := va_recv hW.2.2.1 (hW.one he) hcl (q0 := 0) rfl
  rw [hq] at hclB
  obtain ⟨mk, methM, hnamed, hmethM, hstM, habM⟩ := Cond.instanceMethod_spec (hts _ hinst)
  obtain ⟨methM', cM, hmethM', -, -, -, -, -, -, hsigM⟩ := Cond.code_spec hnamed (hts _ hy.1)
  cases hmethM.symm.trans hmethM'
  obtain ⟨c2, r2, m2, q1, q2, q3, q4, kP, hkP, hkPi⟩ := Cond.selects_spec (hts _ hsel)
  cases hclB.symm.trans q1
  cases (State.methodFound?_of_named hnamed ⟨hy.2.2.1, hy.2.2.2.1⟩).symm.trans q2
  cases hnamed.symm.trans q3
  have hselP : selectMethod e.platform s.vm cellB.cls mk = .method mk := by rw [Launch.admits_selectMethod X.admits]; exact q4
  have hlenA : As.length = methM.sig.parameters.length := by
    have h2 := hy.2.2.2.2
    rw [hsigM] at h2
    have h3 : methM.sig.parameters.length = n := by simpa using h2
    omega
  obtain ⟨vm₁, X₁, hstep₁⟩ := X.invokevirtual hA.1 hown (hts _ hlink) hnamed hmethM hstM hkP hkPi ⟨hy.2.2.1, hy.2.2.2.1⟩ (a := b) (cell := cellB) (by rw [hT]; exact hcB)
    (fun z h => by rw [h] at hoB; cases hoB) hselP hmethM habM hkP hkPi (g := F0 m pc ls st0) rfl (argsL := As) (rest := rest) hlenA hst (by rw [hA.2.1]; exact hd)
  have hK := zx_backT (p := p) (e := e) (R := rm) (below := below) (s := s) (sargs := args) (len := 3) (W := 8) hM hy hts hR.1 hR.2
  have hTH : (T.setVm vm₁).heap = H := hT
  obtain ⟨v, ⟨U', l2, c2, s2⟩, X', ⟨g', mk', t, L, e1, e2, ⟨⟨σ', sz', hp, hw⟩, hz, hWt, -, ce, hce, hcs, hcc⟩, h1, hL, h2, h3⟩, st⟩ := hK m meth c ⟨T.setVm vm₁, locs, kc, ks⟩ (F0 m pc ls rest) (.invokevirtual index) mk (Value.ref b :: As).toArray X₁ rfl (hl.1.trans hA.2.2.2.1.symm) (by rw [hA.2.1]; exact hd) (lv_room hrest) (X₁.named hnamed)
    ⟨hf.1, hf.2, ⟨rfl, by show zx_W g σ sz (T.setVm vm₁) (T.setVm vm₁).heap; rw [hTH]; exact hW.moved X₁.warmed.alike, hB, hA.2.2.2.2.2.2.2.2.2.2.warm X₁.warmed⟩, hX.step X₁.warmed (fun a q1 q2 => by show (T.setVm vm₁).heap[a]? = _; rw [hTH]; exact hS.2.1 a q1 q2)⟩
  dsimp only [Pt.U, Pt.locs, Pt.cells, Pt.slots] at X' e1 e2 h1 h2 h3 st
  subst h1; subst h2; subst h3
  obtain ⟨x, hx⟩ : ∃ x, c.exceptionTable.toList = [x] := by
    cases hcl9 : c.exceptionTable.toList with
    | nil => rw [hcl9] at hex; simp at hex
    | cons x r =>
      cases r with
      | nil => exact ⟨x, rfl⟩
      | cons x2 r2 => rw [hcl9] at hex; simp at hex
  have hxx : x.startPc = s0 ∧ x.endPc = e0 ∧ x.handlerPc = h0 ∧ x.catchType = 13 := by
    rw [hx] at hex
    simpa using hex
  obtain ⟨x1, x2, x3, x4⟩ := hxx
  have halt : s.vm.Alike t.vm := by rw [← e2]; exact X'.warmed.alike
  have hcc' : s.vm.findClass zISE = some ce.cls := by
    have h9 : (T.setVm vm₁).vm.findClass zISE = some ce.cls := hcc
    rw [X₁.warmed.alike.findClass] at h9
    exact h9
  obtain ⟨c3, c4, w1, w2, w3⟩ := Cond.castable_spec (hX.1 (.castable zISE zISE) (by simp [zc_X]) args)
  cases hcc'.symm.trans w1
  cases hcc'.symm.trans w2
  obtain ⟨vm2, X2, st2⟩ := X'.caughtLink v (g := F0 m pc ls rest) rfl (own := own) (name := zISE) hown [] x [] hx (fun y hy => by cases hy) (by unfold covers; rw [x1, x2]; simp [hcov.1, hcov.2]) (by rw [x4]; decide) (by rw [x4]; exact hts _ hl13) hcc' (by rw [e1]; exact hce) hcs w3
  have hz' : va_F (zx_Fr g) T t := hz
  have hw' : zx_W g σ' sz' s U'.heap := by rw [e1]; exact hw.moved halt.symm
  obtain ⟨t2, a1, b1⟩ := k v σ' sz' hp p e s m args below meth c hA hSC U'.heap (locs ++ L) ls hw'
    ⟨Nat.le_trans hS.1 (by rw [e1, ← hT]; exact hz'.1), fun q h1 h2 => by rw [e1, hz'.2 q (by rw [hT]; exact Nat.lt_of_lt_of_le h1 hS.1) h2, hT]; exact hS.2.1 q h1 h2, fun q hq => by
      rcases List.mem_append.mp hq with h | h
      · exact hS.2.2 q h
      · exact hL q h⟩ hl (U'.setVm vm2) rfl X2
  refine ⟨t2, hstep₁ t2 (fun acts => ?_), b1⟩
  rw [doInvoke_state]
  refine st.trans ?_
  rw [X'.pushThrowing_eq]
  refine st2 t2 ?_
  rw [x3]
  exact a1
theorem zg_of_ze {g : zx_G} {own : String} {cc : ByteArray} {nL : Nat} {ret : Option FieldType} {ini : Bool} {rm : Room} {SC : State → Code → Prop} {mc ms : Nat} {Post : Option Value → zx_M → Nat → Prop} {pc : Nat} {lv : List (Nat × Value)} {st : List Value} {σ : zx_M} {sz kc ks : Nat}
    (h : zE g own cc nL ret ini rm mc ms Post pc lv st σ sz kc ks) : zG g own cc nL ret ini rm SC (fun below args s => MQ below (zx_Q g Post) args s mc ms (zx_Fr g)) pc lv st σ sz kc ks :=
  fun p e s m args below meth c hA _ H locs ls hW hS hl => h p e s m args below meth c hA H locs ls hW hS hl
/-- a contract of a method that catches -/
def zMW (g : zx_G) (y : MethodName) (cc : ByteArray) (nL : Nat) (ret : Option FieldType) (hh : List (Nat × Nat × Nat × Nat)) (rm : Room) (mc ms : Nat) (av : List Value) (σ : zx_M) (sz : Nat) (Post : Option Value → zx_M → Nat → Prop) : Prop :=
  Met g.1 y (.codeWith y cc nL ret hh :: zc_T) rm (fun a U => zx_Pc g av σ sz a U ∧ zxX g U) (zx_Q g Post) mc ms (zx_Fr g)
def zSW (g : zx_G) (hh : List (Nat × Nat × Nat × Nat)) : State → Code → Prop := fun s c => zxX g s ∧ c.exceptionTable.toList.map (fun h => (h.startPc, h.endPc, h.handlerPc, h.catchType)) = hh
theorem zMW_of {g : zx_G} {own : String} {y : MethodName} {cc : ByteArray} {nL : Nat} {ret : Option FieldType} {hh : List (Nat × Nat × Nat × Nat)} {ini : Bool} {rm : Room} {mc ms : Nat} {av : List Value} {σ : zx_M} {sz : Nat} {Post : Option Value → zx_M → Nat → Prop} {lv : List (Nat × Value)}
    (hy : plainName y.cls = true) (ho : y.cls = own) (hini : ini = true → y.name = "<init>") (hlen : (lg_sl av).length ≤ nL) (hlv : lv_args 0 av = lv)
    (body : zG g own cc nL ret ini rm (zSW g hh) (fun below args s => MQ below (zx_Q g Post) args s mc ms (zx_Fr g)) 0 lv [] σ sz 0 0) : zMW g y cc nL ret hh rm mc ms av σ sz Post := by
  refine va_MetW (cc := cc) (maxL := nL) (ret := ret) (hh := hh) hy rfl ?_
  intro p e s m args below meth c s₁ B hml hv
  obtain ⟨⟨rfl, hW, hB, hN⟩, hX⟩ := hv
  have hts := atoms_spec (ws := .codeWith y cc nL ret hh :: zc_T) B.pre
  have hown : s.vm.findClass own = some m.cls := by rw [← ho]; exact findClass_of_methodNamed B.named
  have hin : ini = true → meth.name = "<init>" := fun h => (name_of_methodNamed B.named B.method).1.trans (hini h)
  obtain ⟨m9, meth9, c9, k1, k2, k3, k4, k5, k6, -⟩ := Cond.codeWith_spec (hts _ List.mem_cons_self)
  cases B.named.symm.trans k1
  cases B.method.symm.trans k2
  cases (Stand.of_body B).code.symm.trans k3
  have hl := lv_entry av (n := nL) hlen
  rw [lg_entry_eq]
  generalize (lg_sl av ++ List.replicate (nL - (lg_sl av).length) Slot.unset).toArray = ls at hl ⊢
  rw [hlv] at hl
  exact body p e s m _ below meth c ⟨B.exec, B.bytes, B.returns, hml, hown, fun w h => hts w (List.mem_cons_of_mem _ h), B.notSynchronized, by rw [hW.1]; exact hB, hin, hW.2.2.2, hN⟩ ⟨hX, k6⟩ s.heap [] ls hW va_S.rf hl
