/-! what is known beside the words: of Throwable's statics and of the text's constant -/
abbrev zISE : String := "java/lang/IllegalStateException"
def zc_X : List Cond := [.castable zISE zISE, .declares (Bundle.initS "java/lang/RuntimeException"), .declares (Bundle.initS "java/lang/Exception"), .declares (Bundle.initS Bundle.tN)]
def zx_ls (s : State) : Prop := ∀ a' : Array Value, (Cond.laysStatic Bundle.tN "UNASSIGNED_STACK" Bundle.steD).before a' s = true ∧ (Cond.laysStatic Bundle.tN "SUPPRESSED_SENTINEL" Bundle.listD).before a' s = true
def zx_sr (s : State) : Prop := ∃ (cF : ClassId) (k : Class) (cf : ClassFile) (i a : Nat), s.vm.findClass "FindingAid" = some cF ∧ s.vm.classes[cF]? = some k ∧ k.cf = some cf ∧ cf.constantPool[64]? = some (.string i) ∧ k.resolved[64]? = some (some (.string a))
def zxX (g : zx_G) (s : State) : Prop := (∀ w ∈ zc_X, ∀ a' : Array Value, w.before a' s = true) ∧ va_Zq Bundle.tN "UNASSIGNED_STACK" Bundle.steD (zx_Fr g) s s.heap ∧ va_Zq Bundle.tN "SUPPRESSED_SENTINEL" Bundle.listD (zx_Fr g) s s.heap ∧ zx_ls s ∧ zx_sr s
theorem zc_X_ok : ∀ w ∈ zc_X, w.onTables = true ∧ w.keepsFace = true := by decide
theorem zx_sr.step {s U : State} (h : zx_sr s) (hW : s.WarmedH U.vm) : zx_sr U := by
  obtain ⟨cF, k, cf, i, a, h1, h2, h3, h4, h5⟩ := h
  obtain ⟨k', hk', he⟩ := hW.alike.2.2 _ _ h2
  refine ⟨cF, k', cf, i, a, (hW.alike.findClass _ _).trans h1, hk', by rw [he]; exact h3, h4, ?_⟩
  rcases hW.entry h2 hk' 64 with h | ⟨h, -⟩
  · rw [h]; exact h5
  · rw [h5] at h; cases h
theorem zx_ls1 {g : zx_G} {s U : State} {C n d : String} {a' : Array Value} (hW : s.WarmedH U.vm) (hk : ∀ a : Nat, a < s.heap.size → ¬ zx_Fr g a → U.heap[a]? = s.heap[a]?) (hz : va_Zq C n d (zx_Fr g) U U.heap) (h : (Cond.laysStatic C n d).before a' s = true) : (Cond.laysStatic C n d).before a' U = true := by
  have h1 : (Cond.laysStatic C n d).before a' (s.setVm U.vm) = true := Cond.before_shiftedFace (State.Shifted.of_warmed hW) _ rfl h
  obtain ⟨c, k, i, f, a, cell, e1, e2, e3, e4, e5, e6, e7, e8, e9⟩ := Cond.laysStatic_spec (args := a') (first := s.setVm U.vm) (o := none) (idx := []) h1
  have e2' : U.fieldFound? C n d = some (c, k, i, f) := e2
  have ha : ¬ zx_Fr g a := by
    rcases hz with ⟨cf, kf, fi, f', a2, cell2, q1, q2, q3, q4, q5, q6, q7, q8⟩ | ⟨t, cf, kf, fi, f', a2, cell2, q1, q2, q3, q4, q5, q6, q7, q8⟩
    · rw [e2'] at q1; cases q1; rw [e4] at q4; cases q4; exact q8
    · rw [e2'] at q1; cases q1; rw [e4] at q4; cases q4; exact q8
  have e5' : s.heap[a]? = some cell := e5
  have e5u : U.heap[a]? = some cell := (hk a (Array.getElem?_eq_some_iff.mp e5').1 ha).trans e5'
  have e1' : U.vm.findClass C = some c := e1
  simp [Cond.before, Cond.holds, Cond.value, e1', e2', e3, e4, e5u, e6, e7, e8, e9]
theorem zxX.step {g : zx_G} {s U : State} (h : zxX g s) (hW : s.WarmedH U.vm) (hk : ∀ a : Nat, a < s.heap.size → ¬ zx_Fr g a → U.heap[a]? = s.heap[a]?) : zxX g U := by
  obtain ⟨h1, h2, h3, h4, h5⟩ := h
  have z2 := (h2.moved hW.alike).kept hk
  have z3 := (h3.moved hW.alike).kept hk
  refine ⟨fun w hw a' => ?_, z2, z3, fun a' => ⟨zx_ls1 hW hk z2 (h4 a').1, zx_ls1 hW hk z3 (h4 a').2⟩, h5.step hW⟩
  have h6 := Cond.onTables_warmFace (args' := a') (T := U) hW (zc_X_ok w hw).1 (zc_X_ok w hw).2 (h1 w hw a')
  exact h6
theorem zx_isRef {g : zx_G} {s : State} {C n d : String} {a' : Array Value} (h : va_Zq C n d (zx_Fr g) s s.heap) : (Cond.isRef (.static C n d)).before a' s = true := by
  rcases h with ⟨cf, kf, fi, f, a2, cell2, q1, q2, q3, q4, q5, q6, q7, q8⟩ | ⟨t, cf, kf, fi, f, a2, cell2, q1, q2, q3, q4, q5, q6, q7, q8⟩
  · simp [Cond.before, Cond.holds, Cond.value, Term.eval, State.fieldNamed?, q1, q2, q4, q5, q6, q7]
  · simp [Cond.before, Cond.holds, Cond.value, Term.eval, State.fieldNamed?, q1, q2, q4, q5, q6, q7]
def zc_own : List Nat := [63, 632, 641, 643, 646, 648, 633, 634, 74, 75, 635, 640, 644, 664, 622, 665, 624, 666, 626, 636, 638, 628, 660, 661, 663, 651, 652, 653, 654, 655, 656, 657, 658, 659, 650, 611, 619, 620, 621, 623, 625, 627, 631, 630, 629]
def zc_Y : List Cond := zc_X ++ [.laysStatic Bundle.tN "UNASSIGNED_STACK" Bundle.steD, .laysStatic Bundle.tN "SUPPRESSED_SENTINEL" Bundle.listD, .isRef (.static Bundle.tN "UNASSIGNED_STACK" Bundle.steD), .isRef (.static Bundle.tN "SUPPRESSED_SENTINEL" Bundle.listD)]
theorem zc_own_in : ∀ w ∈ zc_own.filterMap (fun i => lw_tbl[i]?), w ∈ zc_T := zc_sub zc_own rfl (by decide +kernel)
theorem zc_own_all : ∀ w ∈ Bundle.ownAtoms "FindingAid" 66 zISE ["java/lang/RuntimeException", "java/lang/Exception"], w ∈ zc_Y ∨ w ∈ zc_own.filterMap (fun i => lw_tbl[i]?) := by decide +kernel
theorem zxX.own {g : zx_G} {s : State} {args : Array Value} (h : zxX g s) (ht : ∀ w ∈ zc_T, w.before args s = true) : ∀ w ∈ Bundle.ownAtoms "FindingAid" 66 zISE ["java/lang/RuntimeException", "java/lang/Exception"], w.before args s = true := by
  intro w hw
  rcases zc_own_all w hw with h1 | h1
  · unfold zc_Y at h1
    rcases List.mem_append.mp h1 with h2 | h2
    · exact h.1 w h2 args
    · simp only [List.mem_cons, List.not_mem_nil, or_false] at h2
      rcases h2 with rfl | rfl | rfl | rfl
      · exact (h.2.2.2.1 args).1
      · exact (h.2.2.2.1 args).2
      · exact zx_isRef h.2.1
      · exact zx_isRef h.2.2.1
  · exact ht w (zc_own_in w h1)
/-- the machine at a frame, whatever is asked of the end -/
def zG (g : zx_G) (own : String) (cc : ByteArray) (nL : Nat) (ret : Option FieldType) (ini : Bool) (rm : Room) (Q : List Frame → Array Value → State → Code → State → Prop) (pc : Nat) (lv : List (Nat × Value)) (st : List Value) (σ : zx_M) (sz kc ks : Nat) : Prop :=
  ∀ (p : Program) (e : Env) (s : State) (m : MethodId) (args : Array Value) (below : List Frame) (meth : Method) (c : Code), zx_A g own cc nL ret ini p s m args meth c → ∀ (H : Heap) (locs : List Loc) (ls : Array Slot), zx_W g σ sz s H → va_S (zx_Fr g) s.heap H locs → lv_has ls nL lv →
    W p g.1 e rm s m args below meth c H locs kc ks (Q below args s c) (F0 m pc ls st)
section ZG
variable {g : zx_G} {own : String} {cc : ByteArray} {nL : Nat} {ret : Option FieldType} {ini : Bool} {rm : Room} {Q : List Frame → Array Value → State → Code → State → Prop} {pc : Nat} {lv : List (Nat × Value)} {rest : List Value} {σ : zx_M} {sz kc ks : Nat}
theorem zg_aload_n {n : Fin 4} {i : Nat} {x : Nat} (j : Nat) (hd : decode cc pc = .ok (.aload_n n, 1)) (hi : (n : Nat) = i) (hj : lv[j]? = some (i, .ref x)) (k : zG g own cc nL ret ini rm Q (pc + 1) lv (.ref x :: rest) σ sz kc ks) : zG g own cc nL ret ini rm Q pc lv rest σ sz kc ks := by
  intro p e s m args below meth c hA H locs ls hW hS hl
  exact lv_aload_n hA.1 hA.2.1 hd hi (lv_at hl j hj) (k p e s m args below meth c hA H locs ls hW hS hl)
theorem zg_get {a : Nat} {ref C : String} {T : u_T} {N ci index : Nat} (hin : ∀ w ∈ u_ws C T N, w ∈ zc_T) {fs : List Value} (hc : zc_cl[ci]? = some (C, T, N)) (f : Nat) (hk : f < N) (hlink : Cond.fieldLink own index ref (T f).2.1 (T f).2.2.1 ∈ zc_T) (href : ref = (T f).1) (hd : decode cc pc = .ok (.getfield index, 3)) (he : σ a = some (.inr (ci, fs))) {v : Value} (hv : fs[f]? = some v) (k : zG g own cc nL ret ini rm Q (pc + 3) lv (v :: rest) σ sz kc ks) : zG g own cc nL ret ini rm Q pc lv (.ref a :: rest) σ sz kc ks := by
  intro p e s m args below meth c hA H locs ls hW hS hl
  exact va_get hA.1 hA.2.1 hA.2.2.2.2.2.1 hin hA.2.2.2.2.1 hW.2.2.1 (hW.one he) 0 rfl hc f hk (hA.2.2.2.2.2.1 _ hlink) (fun x hx => by rw [href]; exact hx) hv hd (k p e s m args below meth c hA H locs ls hW hS hl)
theorem zg_if_ne {x : Int32} {off : Int} {tgt : Nat} (hd : decode cc pc = .ok (.ifCond .ne off, 3)) (ht : (pc : Int) + off = (tgt : Int)) (kt : ¬ x = 0 → zG g own cc nL ret ini rm Q tgt lv rest σ sz kc ks) (kf : x = 0 → zG g own cc nL ret ini rm Q (pc + 3) lv rest σ sz kc ks) : zG g own cc nL ret ini rm Q pc lv (.int x :: rest) σ sz kc ks := by
  intro p e s m args below meth c hA H locs ls hW hS hl
  exact lv_if_ne hA.1 hA.2.1 hd ht (fun h => kt h p e s m args below meth c hA H locs ls hW hS hl) (fun h => kf h p e s m args below meth c hA H locs ls hW hS hl)
theorem zg_run {st0 : List Value} {mc' ms' : Nat} {Post' : Option Value → zx_M → Nat → Prop} {av : Array Value}
    (hr : ∀ (p : Program) (e : Env) (s : State) (m : MethodId) (args : Array Value) (below : List Frame) (meth : Method) (c : Code), zx_A g own cc nL ret ini p s m args meth c → ∀ (H : Heap) (locs : List Loc) (ls : Array Slot), zx_W g σ sz s H → va_S (zx_Fr g) s.heap H locs → lv_has ls nL lv → va_Run p g.1 e rm s m args below meth c H locs kc ks mc' ms' (F0 m pc ls st0) rest (zx_Q g Post' av) (zx_Fr g))
    (k : ∀ r σ' sz', Post' r σ' sz' → zG g own cc nL ret ini rm Q (pc + 3) lv (r.toList ++ rest) σ' sz' (kc + mc') (ks + ms')) : zG g own cc nL ret ini rm Q pc lv st0 σ sz kc ks := by
  intro p e s m args below meth c hA H locs ls hW hS hl
  intro T hT X
  obtain ⟨v, st₀, t, T', L, h0, X', hL, e1, e2, ⟨⟨r, σ', sz', hv, hp, hw⟩, hz, hk⟩, st⟩ := hr p e s m args below meth c hA H locs ls hW hS hl T hT X
  cases hv
  rw [h0] at hz hk
  have hal : s.vm.Alike t.vm := by rw [← e2]; exact X'.warmed.alike
  have hw' : zx_W g σ' sz' s T'.heap := by rw [e1]; exact hw.moved hal.symm
  obtain ⟨t2, a1, b1⟩ := k v σ' sz' hp p e s m args below meth c hA T'.heap (locs ++ L) ls hw'
    ⟨Nat.le_trans hS.1 (by rw [e1]; exact hz), fun q h1 h2 => by rw [e1, hk q (Nat.lt_of_lt_of_le h1 hS.1) h2]; exact hS.2.1 q h1 h2, fun q hq => by
      rcases List.mem_append.mp hq with h | h
      · exact hS.2.2 q h
      · exact hL q h⟩ hl T' rfl X'
  exact ⟨t2, st t2 a1, b1⟩
theorem zg_callV {y : MethodName} {bytes : ByteArray} {maxL index n : Nat} {r : Option FieldType} {rm' : Room} {b : Nat} {As : List Value} {ci : Nat} {q : vw_C} {fs : List Value} {Post' : Option Value → zx_M → Nat → Prop} {st0 : List Value}
    (hM : zM g y bytes maxL r rm' rm'.cells rm'.slots (.ref b :: As) σ sz Post') (hy : zx_y y bytes maxL r n) (hlink : Cond.methodLink own index y ∈ zc_T) (hinst : Cond.instanceMethod y ∈ zc_T) (hsel : Cond.selects y.cls y y ∈ zc_T) (hcl : zc_cl[ci]? = some q) (hq : q.1 = y.cls)
    (hR : rm'.frames + 1 ≤ rm.frames ∧ 8 + (maxL + 11) + rm'.locals ≤ rm.locals) (hf : kc + rm'.cells ≤ rm.cells ∧ ks + rm'.slots ≤ rm.slots) (hd : decode cc pc = .ok (.invokevirtual index, 3)) (he : σ b = some (.inr (ci, fs))) (hst : st0 = As.reverse ++ .ref b :: rest) (hn : As.length = n) (hrest : (rest.map fun v => v.category).sum ≤ 8)
    (k : ∀ r σ' sz', Post' r σ' sz' → zG g own cc nL ret ini rm Q (pc + 3) lv (r.toList ++ rest) σ' sz' (kc + rm'.cells) (ks + rm'.slots)) : zG g own cc nL ret ini rm Q pc lv st0 σ sz kc ks := by
  refine zg_run (av := (Value.ref b :: As).toArray) (mc' := rm'.cells) (ms' := rm'.slots) ?_ k
  intro p e s m args below meth c hA H locs ls hW hS hl
  have hts := hA.2.2.2.2.2.1
  have hcw : CallW rm s args own y.cls index y bytes maxL r (.code y bytes maxL r :: zc_T) rm' rm'.cells rm'.slots n := ⟨callB_of n hts (zx_good hy.1) rfl rfl rfl (hts _ hy.2.1) (hts _ hlink) hy.2.2 hR, hts _ hinst, hts _ hsel⟩
  subst hst
  exact va_runV (g := F0 m pc ls _) ⟨hA.1, hA.2.1, hA.2.2.2.1, hA.2.2.2.2.1, hts⟩ hM hcw ⟨zx_blind, by rw [← hq]; exact va_recv hW.2.2.1 (hW.one he) hcl (q0 := 0) rfl, fun U hU hw => ⟨rfl, by rw [hU]; exact hW.moved hw.alike, by rw [← hW.1]; exact Nat.le_trans hA.2.2.2.2.2.2.2.1 hS.1, hA.2.2.2.2.2.2.2.2.2.2.warm hw⟩⟩ rfl hn hl.1 rfl (lv_room hrest) hd hf
end ZG
