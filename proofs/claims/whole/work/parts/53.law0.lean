/-! a static call of a method that catches -/
theorem zx_blindX {g : zx_G} {av : List Value} {σ : zx_M} {sz : Nat} : FrameBlind (fun a U => zx_Pc g av σ sz a U ∧ zxX g U) := fun a U fr mk h => ⟨zx_blind _ _ _ _ h.1, zxX.same (u := U) rfl rfl h.2⟩
set_option maxHeartbeats 4000000 in
theorem zg_callSW {g : zx_G} {own : String} {cc : ByteArray} {nL : Nat} {ret : Option FieldType} {ini : Bool} {rm : Room} {SC : State → Code → Prop} {Q : List Frame → Array Value → State → State → Prop} {pc : Nat} {lv : List (Nat × Value)} {rest : List Value} {σ : zx_M} {sz kc ks : Nat}
    {y : MethodName} {bytes : ByteArray} {maxL index n : Nat} {r : Option FieldType} {hh : List (Nat × Nat × Nat × Nat)} {rm' : Room} {As : List Value} {st0 : List Value} {Post' : Option Value → zx_M → Nat → Prop}
    (hM : zMW g y bytes maxL r hh rm' rm'.cells rm'.slots As σ sz Post') (hcode : Cond.codeWith y bytes maxL r hh ∈ zc_T) (hini : Cond.initialized y.cls ∈ zc_T) (hy : y.cls ≠ "java/lang/invoke/MethodHandle" ∧ y.cls ≠ "java/lang/invoke/VarHandle" ∧ (parseMethodDescriptor y.desc).map (fun d => d.parameters.length) = some n) (hlink : Cond.methodLink own index y ∈ zc_T) (hstat : Cond.static y ∈ zc_T)
    (hR : rm'.frames + 1 ≤ rm.frames ∧ 8 + (maxL + 11) + rm'.locals ≤ rm.locals) (hf : kc + rm'.cells ≤ rm.cells ∧ ks + rm'.slots ≤ rm.slots) (hd : decode cc pc = .ok (.invokestatic index, 3)) (hst : st0 = As.reverse ++ rest) (hn : As.length = n) (hrest : (rest.map fun v => v.category).sum ≤ 8)
    (hC : ∀ s c, SC s c → zxX g s)
    (k : ∀ r σ' sz', Post' r σ' sz' → zG g own cc nL ret ini rm SC Q (pc + 3) lv (r.toList ++ rest) σ' sz' (kc + rm'.cells) (ks + rm'.slots)) : zG g own cc nL ret ini rm SC Q pc lv st0 σ sz kc ks := by
  refine zg_run (av := As.toArray) (mc' := rm'.cells) (ms' := rm'.slots) ?_ k
  intro p e s m args below meth c hA hSC H locs ls hW hS hl
  intro T hT X
  have hts := hA.2.2.2.2.2.1
  have hX := hC s c hSC
  have hall : ∀ w ∈ (Cond.codeWith y bytes maxL r hh :: zc_T), ∀ (a' : Array Value) (U : State), s.WarmedH U.vm → w.before a' U = true := fun w hw a' U hWU => by
    rcases List.mem_cons.mp hw with rfl | h
    · exact word_at hWU (zc_good _ hcode).2 (hts _ hcode)
    · exact word_at hWU (zc_good _ h).2 (hts _ h)
  have hK : Back g.1 rm p e below s args y 3 8 (PreOf rm rm'.cells rm'.slots (fun a U => zx_Pc g As σ sz a U ∧ zxX g U)) (PostOf (zx_Q g Post') rm'.cells rm'.slots (zx_Fr g)) := va_backW (hh := hh) (bytes := bytes) (maxL := maxL) (ret := r) hM zx_blindX rfl rfl hR.1 hR.2 hall List.mem_cons_self (fun a' U hWU => hall _ (List.mem_cons_of_mem _ hini) a' U hWU)
  obtain ⟨mk, methM, cM, hnamed, hmethM, -, -, -, -, -, -, hsigM⟩ := Cond.codeWith_spec (hts _ hcode)
  have hstatic : methM.isStatic = true := Cond.static_spec hnamed hmethM (hts _ hstat)
  obtain ⟨kP, hkP, -⟩ := className_of_methodNamed hnamed
  have hinitP : kP.init = .initialized := Cond.initialized_spec (findClass_of_methodNamed hnamed) hkP (hts _ hini)
  have hlenA : As.length = methM.sig.parameters.length := by
    have h2 := hy.2.2
    rw [hsigM] at h2
    have h3 : methM.sig.parameters.length = n := by simpa using h2
    omega
  obtain ⟨vm₁, X₁, hstep₁⟩ := X.invokestatic hA.1 hA.2.2.2.2.1 (hts _ hlink) hnamed hmethM hstatic hkP hinitP ⟨hy.1, hy.2.1⟩ (g := F0 m pc ls st0) rfl (argsL := As) (rest := rest) hlenA hst (by rw [hA.2.1]; exact hd)
  have hTH : (T.setVm vm₁).heap = H := hT
  have hB : g.2.2.1 ≤ sz := by rw [← hW.1]; exact Nat.le_trans hA.2.2.2.2.2.2.2.1 hS.1
  obtain ⟨v, ⟨U', l2, c2, s2⟩, X', ⟨g', mk', t, L, e1, e2, hq, h1, hL, h2, h3⟩, st⟩ := hK m meth c ⟨T.setVm vm₁, locs, kc, ks⟩ (F0 m pc ls rest) (.invokestatic index) mk As.toArray X₁ rfl (hl.1.trans hA.2.2.2.1.symm) (by rw [hA.2.1]; exact hd) (lv_room hrest) (X₁.named hnamed)
    ⟨hf.1, hf.2, ⟨rfl, by show zx_W g σ sz (T.setVm vm₁) (T.setVm vm₁).heap; rw [hTH]; exact hW.moved X₁.warmed.alike, hB, hA.2.2.2.2.2.2.2.2.2.2.warm X₁.warmed⟩, hX.step X₁.warmed (fun a q1 q2 => by show (T.setVm vm₁).heap[a]? = _; rw [hTH]; exact hS.2.1 a q1 q2)⟩
  dsimp only [Pt.U, Pt.locs, Pt.cells, Pt.slots] at X' e1 e2 h1 h2 h3 st
  subst h1; subst h2; subst h3
  exact ⟨v, (T.setVm vm₁).calling g' mk' As.toArray, t, U', L, hT, X', hL, e1, e2, hq, fun target h => hstep₁ _ fun acts => by rw [doInvoke_state]; exact st.trans h⟩
