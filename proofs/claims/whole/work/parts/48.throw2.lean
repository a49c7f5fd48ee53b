/-! what is known beside the words: of Throwable's statics and of the text's constant -/
abbrev zISE : String := "java/lang/IllegalStateException"
def zc_X : List Cond := [.castable zISE zISE, .declares (Bundle.initS "java/lang/RuntimeException"), .declares (Bundle.initS "java/lang/Exception"), .declares (Bundle.initS Bundle.tN)]
def zx_ls (s : State) : Prop := ∀ a' : Array Value, (Cond.laysStatic Bundle.tN "UNASSIGNED_STACK" Bundle.steD).before a' s = true ∧ (Cond.laysStatic Bundle.tN "SUPPRESSED_SENTINEL" Bundle.listD).before a' s = true
def zx_sr (s : State) : Prop := ∃ (cF : ClassId) (k : Class) (cf : ClassFile) (i a : Nat), s.vm.findClass "FindingAid" = some cF ∧ s.vm.classes[cF]? = some k ∧ k.cf = some cf ∧ cf.constantPool[64]? = some (.string i) ∧ k.resolved[64]? = some (some (.string a))
def zxX (g : zx_G) (s : State) : Prop := (∀ w ∈ zc_X, ∀ a' : Array Value, w.before a' s = true) ∧ va_Zq Bundle.tN "UNASSIGNED_STACK" Bundle.steD (zx_Fr g) s s.heap ∧ va_Zq Bundle.tN "SUPPRESSED_SENTINEL" Bundle.listD (zx_Fr g) s s.heap ∧ zx_ls s ∧ zx_sr s
theorem zc_X_ok : ∀ w ∈ zc_X, w.onTables = true ∧ w.keepsFace = true := by decide
theorem zx_sr.step {s U : State} (h : zx_sr s) (hW : s.WarmedH U.vm) : zx_sr U := by
  obtain ⟨cF, k, cf, i, a, h1, h2, h3, h4, h5⟩ := h
  obtain ⟨k', hk', he⟩ := hW.alike.2.2 _ _ h2
  refine ⟨cF, k', cf, i, a, (hW.alike.findClass _ _).trans h1, hk', by rw [he]; exact h3, h4, ?_⟩
  rcases hW.entry h2 hk' 64 with h | ⟨h, -⟩
  · rw [h]; exact h5
  · rw [h5] at h; cases h
theorem zx_ls1 {g : zx_G} {s U : State} {C n d : String} {a' : Array Value} (hW : s.WarmedH U.vm) (hk : ∀ a : Nat, a < s.heap.size → ¬ zx_Fr g a → U.heap[a]? = s.heap[a]?) (hz : va_Zq C n d (zx_Fr g) U U.heap) (h : (Cond.laysStatic C n d).before a' s = true) : (Cond.laysStatic C n d).before a' U = true := by
  have h1 : (Cond.laysStatic C n d).before a' (s.setVm U.vm) = true := Cond.before_shiftedFace (State.Shifted.of_warmed hW) _ rfl h
  obtain ⟨c, k, i, f, a, cell, e1, e2, e3, e4, e5, e6, e7, e8, e9⟩ := Cond.laysStatic_spec (args := a') (first := s.setVm U.vm) (o := none) (idx := []) h1
  have e2' : U.fieldFound? C n d = some (c, k, i, f) := e2
  have ha : ¬ zx_Fr g a := by
    rcases hz with ⟨cf, kf, fi, f', a2, cell2, q1, q2, q3, q4, q5, q6, q7, q8⟩ | ⟨t, cf, kf, fi, f', a2, cell2, q1, q2, q3, q4, q5, q6, q7, q8⟩
    · rw [e2'] at q1; cases q1; rw [e4] at q4; cases q4; exact q8
    · rw [e2'] at q1; cases q1; rw [e4] at q4; cases q4; exact q8
  have e5' : s.heap[a]? = some cell := e5
  have e5u : U.heap[a]? = some cell := (hk a (Array.getElem?_eq_some_iff.mp e5').1 ha).trans e5'
  have e1' : U.vm.findClass C = some c := e1
  simp [Cond.before, Cond.holds, Cond.value, e1', e2', e3, e4, e5u, e6, e7, e8, e9]
theorem zxX.step {g : zx_G} {s U : State} (h : zxX g s) (hW : s.WarmedH U.vm) (hk : ∀ a : Nat, a < s.heap.size → ¬ zx_Fr g a → U.heap[a]? = s.heap[a]?) : zxX g U := by
  obtain ⟨h1, h2, h3, h4, h5⟩ := h
  have z2 := (h2.moved hW.alike).kept hk
  have z3 := (h3.moved hW.alike).kept hk
  refine ⟨fun w hw a' => ?_, z2, z3, fun a' => ⟨zx_ls1 hW hk z2 (h4 a').1, zx_ls1 hW hk z3 (h4 a').2⟩, h5.step hW⟩
  have h6 := Cond.onTables_warmFace (args' := a') (T := U) hW (zc_X_ok w hw).1 (zc_X_ok w hw).2 (h1 w hw a')
  exact h6
theorem zx_isRef {g : zx_G} {s : State} {C n d : String} {a' : Array Value} (h : va_Zq C n d (zx_Fr g) s s.heap) : (Cond.isRef (.static C n d)).before a' s = true := by
  rcases h with ⟨cf, kf, fi, f, a2, cell2, q1, q2, q3, q4, q5, q6, q7, q8⟩ | ⟨t, cf, kf, fi, f, a2, cell2, q1, q2, q3, q4, q5, q6, q7, q8⟩
  · simp [Cond.before, Cond.holds, Cond.value, Term.eval, State.fieldNamed?, q1, q2, q4, q5, q6, q7]
  · simp [Cond.before, Cond.holds, Cond.value, Term.eval, State.fieldNamed?, q1, q2, q4, q5, q6, q7]
def zc_own : List Nat := [63, 632, 641, 643, 646, 648, 633, 634, 74, 75, 635, 640, 644, 664, 622, 665, 624, 666, 626, 636, 638, 628, 660, 661, 663, 651, 652, 653, 654, 655, 656, 657, 658, 659, 650, 611, 619, 620, 621, 623, 625, 627, 631, 630, 629]
def zc_Y : List Cond := zc_X ++ [.laysStatic Bundle.tN "UNASSIGNED_STACK" Bundle.steD, .laysStatic Bundle.tN "SUPPRESSED_SENTINEL" Bundle.listD, .isRef (.static Bundle.tN "UNASSIGNED_STACK" Bundle.steD), .isRef (.static Bundle.tN "SUPPRESSED_SENTINEL" Bundle.listD)]
theorem zc_own_in : ∀ w ∈ zc_own.filterMap (fun i => lw_tbl[i]?), w ∈ zc_T := zc_sub zc_own rfl (by decide +kernel)
theorem zc_own_all : ∀ w ∈ Bundle.ownAtoms "FindingAid" 66 zISE ["java/lang/RuntimeException", "java/lang/Exception"], w ∈ zc_Y ∨ w ∈ zc_own.filterMap (fun i => lw_tbl[i]?) := by decide +kernel
theorem zxX.own {g : zx_G} {s : State} {args : Array Value} (h : zxX g s) (ht : ∀ w ∈ zc_T, w.before args s = true) : ∀ w ∈ Bundle.ownAtoms "FindingAid" 66 zISE ["java/lang/RuntimeException", "java/lang/Exception"], w.before args s = true := by
  intro w hw
  rcases zc_own_all w hw with h1 | h1
  · unfold zc_Y at h1
    rcases List.mem_append.mp h1 with h2 | h2
    · exact h.1 w h2 args
    · simp only [List.mem_cons, List.not_mem_nil, or_false] at h2
      rcases h2 with rfl | rfl | rfl | rfl
      · exact (h.2.2.2.1 args).1
      · exact (h.2.2.2.1 args).2
      · exact zx_isRef h.2.1
      · exact zx_isRef h.2.2.1
  · exact ht w (zc_own_in w h1)
/-- the machine at a frame, whatever is asked of the end, with what is known of the start -/
def zG (g : zx_G) (own : String) (cc : ByteArray) (nL : Nat) (ret : Option FieldType) (ini : Bool) (rm : Room) (SC : State → Code → Prop) (Q : List Frame → Array Value → State → State → Prop) (pc : Nat) (lv : List (Nat × Value)) (st : List Value) (σ : zx_M) (sz kc ks : Nat) : Prop :=
  ∀ (p : Program) (e : Env) (s : State) (m : MethodId) (args : Array Value) (below : List Frame) (meth : Method) (c : Code), zx_A g own cc nL ret ini p s m args meth c → SC s c → ∀ (H : Heap) (locs : List Loc) (ls : Array Slot), zx_W g σ sz s H → va_S (zx_Fr g) s.heap H locs → lv_has ls nL lv →
    W p g.1 e rm s m args below meth c H locs kc ks (Q below args s) (F0 m pc ls st)
section ZG
variable {g : zx_G} {own : String} {cc : ByteArray} {nL : Nat} {ret : Option FieldType} {ini : Bool} {rm : Room} {SC : State → Code → Prop} {Q : List Frame → Array Value → State → State → Prop} {pc : Nat} {lv : List (Nat × Value)} {rest : List Value} {σ : zx_M} {sz kc ks : Nat}
variable {y : MethodName} {bytes : ByteArray} {maxL index n : Nat} {r : Option FieldType} {rm' : Room} {b : Nat} {As : List Value} {ci : Nat} {q : vw_C} {fs : List Value} {st0 : List Value} {host : String}
theorem zg_iconst {n : Int} {v : Int32} (hd : decode cc pc = .ok (.iconst n, 1)) (hv : Int32.ofInt n = v) (k : zG g own cc nL ret ini rm SC Q (pc + 1) lv (.int v :: rest) σ sz kc ks) : zG g own cc nL ret ini rm SC Q pc lv rest σ sz kc ks := by
  intro p e s m args below meth c hA hSC H locs ls hW hS hl
  exact lv_iconst hA.1 hA.2.1 hd hv (k p e s m args below meth c hA hSC H locs ls hW hS hl)
theorem zg_bipush {n : Int} {v : Int32} (hd : decode cc pc = .ok (.bipush n, 2)) (hv : (Int8.ofInt n).toInt32 = v) (k : zG g own cc nL ret ini rm SC Q (pc + 2) lv (.int v :: rest) σ sz kc ks) : zG g own cc nL ret ini rm SC Q pc lv rest σ sz kc ks := by
  intro p e s m args below meth c hA hSC H locs ls hW hS hl
  exact lv_bipush hA.1 hA.2.1 hd hv (k p e s m args below meth c hA hSC H locs ls hW hS hl)
theorem zg_sipush {n : Int} {v : Int32} (hd : decode cc pc = .ok (.sipush n, 3)) (hv : (Int16.ofInt n).toInt32 = v) (k : zG g own cc nL ret ini rm SC Q (pc + 3) lv (.int v :: rest) σ sz kc ks) : zG g own cc nL ret ini rm SC Q pc lv rest σ sz kc ks := by
  intro p e s m args below meth c hA hSC H locs ls hW hS hl
  exact lv_sipush hA.1 hA.2.1 hd hv (k p e s m args below meth c hA hSC H locs ls hW hS hl)
theorem zg_iload_n {n : Fin 4} {i : Nat} {x : Int32} (j : Nat) (hd : decode cc pc = .ok (.iload_n n, 1)) (hi : (n : Nat) = i) (hj : lv[j]? = some (i, .int x)) (k : zG g own cc nL ret ini rm SC Q (pc + 1) lv (.int x :: rest) σ sz kc ks) : zG g own cc nL ret ini rm SC Q pc lv rest σ sz kc ks := by
  intro p e s m args below meth c hA hSC H locs ls hW hS hl
  exact lv_iload_n hA.1 hA.2.1 hd hi (lv_at hl j hj) (k p e s m args below meth c hA hSC H locs ls hW hS hl)
theorem zg_iload {i : Nat} {x : Int32} (j : Nat) (hd : decode cc pc = .ok (.iload i, 2)) (hj : lv[j]? = some (i, .int x)) (k : zG g own cc nL ret ini rm SC Q (pc + 2) lv (.int x :: rest) σ sz kc ks) : zG g own cc nL ret ini rm SC Q pc lv rest σ sz kc ks := by
  intro p e s m args below meth c hA hSC H locs ls hW hS hl
  exact lv_iload hA.1 hA.2.1 hd (lv_at hl j hj) (k p e s m args below meth c hA hSC H locs ls hW hS hl)
theorem zg_aload_n {n : Fin 4} {i : Nat} {x : Nat} (j : Nat) (hd : decode cc pc = .ok (.aload_n n, 1)) (hi : (n : Nat) = i) (hj : lv[j]? = some (i, .ref x)) (k : zG g own cc nL ret ini rm SC Q (pc + 1) lv (.ref x :: rest) σ sz kc ks) : zG g own cc nL ret ini rm SC Q pc lv rest σ sz kc ks := by
  intro p e s m args below meth c hA hSC H locs ls hW hS hl
  exact lv_aload_n hA.1 hA.2.1 hd hi (lv_at hl j hj) (k p e s m args below meth c hA hSC H locs ls hW hS hl)
theorem zg_aload {i : Nat} {x : Nat} (j : Nat) (hd : decode cc pc = .ok (.aload i, 2)) (hj : lv[j]? = some (i, .ref x)) (k : zG g own cc nL ret ini rm SC Q (pc + 2) lv (.ref x :: rest) σ sz kc ks) : zG g own cc nL ret ini rm SC Q pc lv rest σ sz kc ks := by
  intro p e s m args below meth c hA hSC H locs ls hW hS hl
  exact lv_aload hA.1 hA.2.1 hd (lv_at hl j hj) (k p e s m args below meth c hA hSC H locs ls hW hS hl)
theorem zg_iadd {x y : Int32} (hd : decode cc pc = .ok (.iadd, 1)) (k : zG g own cc nL ret ini rm SC Q (pc + 1) lv (.int (x + y) :: rest) σ sz kc ks) : zG g own cc nL ret ini rm SC Q pc lv (.int y :: .int x :: rest) σ sz kc ks := by
  intro p e s m args below meth c hA hSC H locs ls hW hS hl
  exact lv_iadd hA.1 hA.2.1 hd (k p e s m args below meth c hA hSC H locs ls hW hS hl)
theorem zg_isub {x y : Int32} (hd : decode cc pc = .ok (.isub, 1)) (k : zG g own cc nL ret ini rm SC Q (pc + 1) lv (.int (x - y) :: rest) σ sz kc ks) : zG g own cc nL ret ini rm SC Q pc lv (.int y :: .int x :: rest) σ sz kc ks := by
  intro p e s m args below meth c hA hSC H locs ls hW hS hl
  exact lv_isub hA.1 hA.2.1 hd (k p e s m args below meth c hA hSC H locs ls hW hS hl)
theorem zg_imul {x y : Int32} (hd : decode cc pc = .ok (.imul, 1)) (k : zG g own cc nL ret ini rm SC Q (pc + 1) lv (.int (x * y) :: rest) σ sz kc ks) : zG g own cc nL ret ini rm SC Q pc lv (.int y :: .int x :: rest) σ sz kc ks := by
  intro p e s m args below meth c hA hSC H locs ls hW hS hl
  exact lv_imul hA.1 hA.2.1 hd (k p e s m args below meth c hA hSC H locs ls hW hS hl)
theorem zg_iand {x y : Int32} (hd : decode cc pc = .ok (.iand, 1)) (k : zG g own cc nL ret ini rm SC Q (pc + 1) lv (.int (x &&& y) :: rest) σ sz kc ks) : zG g own cc nL ret ini rm SC Q pc lv (.int y :: .int x :: rest) σ sz kc ks := by
  intro p e s m args below meth c hA hSC H locs ls hW hS hl
  exact lv_iand hA.1 hA.2.1 hd (k p e s m args below meth c hA hSC H locs ls hW hS hl)
theorem zg_ior {x y : Int32} (hd : decode cc pc = .ok (.ior, 1)) (k : zG g own cc nL ret ini rm SC Q (pc + 1) lv (.int (x ||| y) :: rest) σ sz kc ks) : zG g own cc nL ret ini rm SC Q pc lv (.int y :: .int x :: rest) σ sz kc ks := by
  intro p e s m args below meth c hA hSC H locs ls hW hS hl
  exact lv_ior hA.1 hA.2.1 hd (k p e s m args below meth c hA hSC H locs ls hW hS hl)
theorem zg_ixor {x y : Int32} (hd : decode cc pc = .ok (.ixor, 1)) (k : zG g own cc nL ret ini rm SC Q (pc + 1) lv (.int (x ^^^ y) :: rest) σ sz kc ks) : zG g own cc nL ret ini rm SC Q pc lv (.int y :: .int x :: rest) σ sz kc ks := by
  intro p e s m args below meth c hA hSC H locs ls hW hS hl
  exact lv_ixor hA.1 hA.2.1 hd (k p e s m args below meth c hA hSC H locs ls hW hS hl)
theorem zg_ishl {x y : Int32} (hd : decode cc pc = .ok (.ishl, 1)) (k : zG g own cc nL ret ini rm SC Q (pc + 1) lv (.int (x <<< (y &&& 31)) :: rest) σ sz kc ks) : zG g own cc nL ret ini rm SC Q pc lv (.int y :: .int x :: rest) σ sz kc ks := by
  intro p e s m args below meth c hA hSC H locs ls hW hS hl
  exact lv_ishl hA.1 hA.2.1 hd (k p e s m args below meth c hA hSC H locs ls hW hS hl)
theorem zg_ishr {x y : Int32} (hd : decode cc pc = .ok (.ishr, 1)) (k : zG g own cc nL ret ini rm SC Q (pc + 1) lv (.int (x >>> (y &&& 31)) :: rest) σ sz kc ks) : zG g own cc nL ret ini rm SC Q pc lv (.int y :: .int x :: rest) σ sz kc ks := by
  intro p e s m args below meth c hA hSC H locs ls hW hS hl
  exact lv_ishr hA.1 hA.2.1 hd (k p e s m args below meth c hA hSC H locs ls hW hS hl)
theorem zg_idiv {x y : Int32} (hd : decode cc pc = .ok (.idiv, 1)) (hne : ¬ y = 0) (k : zG g own cc nL ret ini rm SC Q (pc + 1) lv (.int (x / y) :: rest) σ sz kc ks) : zG g own cc nL ret ini rm SC Q pc lv (.int y :: .int x :: rest) σ sz kc ks := by
  intro p e s m args below meth c hA hSC H locs ls hW hS hl
  exact lv_idiv hA.1 hA.2.1 hd hne (k p e s m args below meth c hA hSC H locs ls hW hS hl)
theorem zg_irem {x y : Int32} (hd : decode cc pc = .ok (.irem, 1)) (hne : ¬ y = 0) (k : zG g own cc nL ret ini rm SC Q (pc + 1) lv (.int (x - x / y * y) :: rest) σ sz kc ks) : zG g own cc nL ret ini rm SC Q pc lv (.int y :: .int x :: rest) σ sz kc ks := by
  intro p e s m args below meth c hA hSC H locs ls hW hS hl
  exact lv_irem hA.1 hA.2.1 hd hne (k p e s m args below meth c hA hSC H locs ls hW hS hl)
theorem zg_ineg {x : Int32} (hd : decode cc pc = .ok (.ineg, 1)) (k : zG g own cc nL ret ini rm SC Q (pc + 1) lv (.int (-x) :: rest) σ sz kc ks) : zG g own cc nL ret ini rm SC Q pc lv (.int x :: rest) σ sz kc ks := by
  intro p e s m args below meth c hA hSC H locs ls hW hS hl
  exact lv_ineg hA.1 hA.2.1 hd (k p e s m args below meth c hA hSC H locs ls hW hS hl)
theorem zg_i2l {x : Int32} {v : Int64} (hd : decode cc pc = .ok (.i2l, 1)) (hv : x.toInt64 = v) (k : zG g own cc nL ret ini rm SC Q (pc + 1) lv (.long v :: rest) σ sz kc ks) : zG g own cc nL ret ini rm SC Q pc lv (.int x :: rest) σ sz kc ks := by
  intro p e s m args below meth c hA hSC H locs ls hW hS hl
  exact lv_i2l hA.1 hA.2.1 hd hv (k p e s m args below meth c hA hSC H locs ls hW hS hl)
theorem zg_l2i {x : Int64} {v : Int32} (hd : decode cc pc = .ok (.l2i, 1)) (hv : x.toInt32 = v) (k : zG g own cc nL ret ini rm SC Q (pc + 1) lv (.int v :: rest) σ sz kc ks) : zG g own cc nL ret ini rm SC Q pc lv (.long x :: rest) σ sz kc ks := by
  intro p e s m args below meth c hA hSC H locs ls hW hS hl
  exact lv_l2i hA.1 hA.2.1 hd hv (k p e s m args below meth c hA hSC H locs ls hW hS hl)
theorem zg_i2b {x v : Int32} (hd : decode cc pc = .ok (.i2b, 1)) (hv : x.toInt8.toInt32 = v) (k : zG g own cc nL ret ini rm SC Q (pc + 1) lv (.int v :: rest) σ sz kc ks) : zG g own cc nL ret ini rm SC Q pc lv (.int x :: rest) σ sz kc ks := by
  intro p e s m args below meth c hA hSC H locs ls hW hS hl
  exact lv_i2b hA.1 hA.2.1 hd hv (k p e s m args below meth c hA hSC H locs ls hW hS hl)
theorem zg_i2c {x v : Int32} (hd : decode cc pc = .ok (.i2c, 1)) (hv : (x.toUInt32 % 65536).toInt32 = v) (k : zG g own cc nL ret ini rm SC Q (pc + 1) lv (.int v :: rest) σ sz kc ks) : zG g own cc nL ret ini rm SC Q pc lv (.int x :: rest) σ sz kc ks := by
  intro p e s m args below meth c hA hSC H locs ls hW hS hl
  exact lv_i2c hA.1 hA.2.1 hd hv (k p e s m args below meth c hA hSC H locs ls hW hS hl)
theorem zg_lcmp {x y : Int64} (hd : decode cc pc = .ok (.lcmp, 1)) (k : zG g own cc nL ret ini rm SC Q (pc + 1) lv (.int (lg_cmp x y) :: rest) σ sz kc ks) : zG g own cc nL ret ini rm SC Q pc lv (.long y :: .long x :: rest) σ sz kc ks := by
  intro p e s m args below meth c hA hSC H locs ls hW hS hl
  exact W.lcmp hA.1 hA.2.1 hd (k p e s m args below meth c hA hSC H locs ls hW hS hl)
theorem zg_dup {va : Value} (hd : decode cc pc = .ok (.dup, 1)) (h1 : va.category = 1) (k : zG g own cc nL ret ini rm SC Q (pc + 1) lv (va :: va :: rest) σ sz kc ks) : zG g own cc nL ret ini rm SC Q pc lv (va :: rest) σ sz kc ks := by
  intro p e s m args below meth c hA hSC H locs ls hW hS hl
  exact lv_dup hA.1 hA.2.1 hd h1 (k p e s m args below meth c hA hSC H locs ls hW hS hl)
theorem zg_pop {va : Value} (hd : decode cc pc = .ok (.pop, 1)) (h1 : va.category = 1) (k : zG g own cc nL ret ini rm SC Q (pc + 1) lv rest σ sz kc ks) : zG g own cc nL ret ini rm SC Q pc lv (va :: rest) σ sz kc ks := by
  intro p e s m args below meth c hA hSC H locs ls hW hS hl
  exact lv_pop hA.1 hA.2.1 hd h1 (k p e s m args below meth c hA hSC H locs ls hW hS hl)
theorem zg_dup_x1 {va vb : Value} (hd : decode cc pc = .ok (.dup_x1, 1)) (h1 : va.category = 1) (h2 : vb.category = 1) (k : zG g own cc nL ret ini rm SC Q (pc + 1) lv (va :: vb :: va :: rest) σ sz kc ks) : zG g own cc nL ret ini rm SC Q pc lv (va :: vb :: rest) σ sz kc ks := by
  intro p e s m args below meth c hA hSC H locs ls hW hS hl
  exact lv_dup_x1 hA.1 hA.2.1 hd h1 h2 (k p e s m args below meth c hA hSC H locs ls hW hS hl)
theorem zg_dup_x2 {va vb vd : Value} (hd : decode cc pc = .ok (.dup_x2, 1)) (h1 : va.category = 1) (h2 : vb.category = 1) (h3 : vd.category = 1) (k : zG g own cc nL ret ini rm SC Q (pc + 1) lv (va :: vb :: vd :: va :: rest) σ sz kc ks) : zG g own cc nL ret ini rm SC Q pc lv (va :: vb :: vd :: rest) σ sz kc ks := by
  intro p e s m args below meth c hA hSC H locs ls hW hS hl
  exact lv_dup_x2 hA.1 hA.2.1 hd h1 h2 h3 (k p e s m args below meth c hA hSC H locs ls hW hS hl)
theorem zg_dup2 {va vb : Value} (hd : decode cc pc = .ok (.dup2, 1)) (h1 : va.category = 1) (h2 : vb.category = 1) (k : zG g own cc nL ret ini rm SC Q (pc + 1) lv (va :: vb :: va :: vb :: rest) σ sz kc ks) : zG g own cc nL ret ini rm SC Q pc lv (va :: vb :: rest) σ sz kc ks := by
  intro p e s m args below meth c hA hSC H locs ls hW hS hl
  exact lv_dup2_11 hA.1 hA.2.1 hd h1 h2 (k p e s m args below meth c hA hSC H locs ls hW hS hl)
theorem zg_istore_n {n : Fin 4} {i : Nat} {x : Int32} (hd : decode cc pc = .ok (.istore_n n, 1)) (hi : (n : Nat) = i) {lv' : List (Nat × Value)} (hn : i < nL) (hl2 : (i, Value.int x) :: lv.filter (fun q => !(q.1 == i) && !(q.1 + 1 == i && q.2.category == 2)) = lv') (k : zG g own cc nL ret ini rm SC Q (pc + 1) lv' rest σ sz kc ks) : zG g own cc nL ret ini rm SC Q pc lv (.int x :: rest) σ sz kc ks := by
  intro p e s m args below meth c hA hSC H locs ls hW hS hl
  exact lv_istore_n hA.1 hA.2.1 hd hi hl hn hl2 (fun ls' hl' => k p e s m args below meth c hA hSC H locs ls' hW hS hl')
theorem zg_istore {i : Nat} {x : Int32} (hd : decode cc pc = .ok (.istore i, 2)) {lv' : List (Nat × Value)} (hn : i < nL) (hl2 : (i, Value.int x) :: lv.filter (fun q => !(q.1 == i) && !(q.1 + 1 == i && q.2.category == 2)) = lv') (k : zG g own cc nL ret ini rm SC Q (pc + 2) lv' rest σ sz kc ks) : zG g own cc nL ret ini rm SC Q pc lv (.int x :: rest) σ sz kc ks := by
  intro p e s m args below meth c hA hSC H locs ls hW hS hl
  exact lv_istore hA.1 hA.2.1 hd hl hn hl2 (fun ls' hl' => k p e s m args below meth c hA hSC H locs ls' hW hS hl')
theorem zg_astore_n {n : Fin 4} {i : Nat} {x : Nat} (hd : decode cc pc = .ok (.astore_n n, 1)) (hi : (n : Nat) = i) {lv' : List (Nat × Value)} (hn : i < nL) (hl2 : (i, Value.ref x) :: lv.filter (fun q => !(q.1 == i) && !(q.1 + 1 == i && q.2.category == 2)) = lv') (k : zG g own cc nL ret ini rm SC Q (pc + 1) lv' rest σ sz kc ks) : zG g own cc nL ret ini rm SC Q pc lv (.ref x :: rest) σ sz kc ks := by
  intro p e s m args below meth c hA hSC H locs ls hW hS hl
  exact lv_astore_n hA.1 hA.2.1 hd hi hl hn hl2 (fun ls' hl' => k p e s m args below meth c hA hSC H locs ls' hW hS hl')
theorem zg_astore {i : Nat} {x : Nat} (hd : decode cc pc = .ok (.astore i, 2)) {lv' : List (Nat × Value)} (hn : i < nL) (hl2 : (i, Value.ref x) :: lv.filter (fun q => !(q.1 == i) && !(q.1 + 1 == i && q.2.category == 2)) = lv') (k : zG g own cc nL ret ini rm SC Q (pc + 2) lv' rest σ sz kc ks) : zG g own cc nL ret ini rm SC Q pc lv (.ref x :: rest) σ sz kc ks := by
  intro p e s m args below meth c hA hSC H locs ls hW hS hl
  exact lv_astore hA.1 hA.2.1 hd hl hn hl2 (fun ls' hl' => k p e s m args below meth c hA hSC H locs ls' hW hS hl')
theorem zg_iinc {i : Nat} {n : Int} {x v : Int32} {lv' : List (Nat × Value)} (j : Nat) (hd : decode cc pc = .ok (.iinc i n, 3)) (hj : lv[j]? = some (i, .int x)) (hv : x + Int32.ofInt n = v) (hn : i < nL) (hl2 : (i, Value.int v) :: lv.filter (fun q => !(q.1 == i) && !(q.1 + 1 == i && q.2.category == 2)) = lv') (k : zG g own cc nL ret ini rm SC Q (pc + 3) lv' rest σ sz kc ks) : zG g own cc nL ret ini rm SC Q pc lv rest σ sz kc ks := by
  intro p e s m args below meth c hA hSC H locs ls hW hS hl
  exact lv_iinc hA.1 hA.2.1 hd hl hj hv hn hl2 (fun ls' hl' => k p e s m args below meth c hA hSC H locs ls' hW hS hl')
theorem zg_if_eq {x : Int32} {off : Int} {tgt : Nat} (hd : decode cc pc = .ok (.ifCond .eq off, 3)) (ht : (pc : Int) + off = (tgt : Int)) (kt : x = 0 → zG g own cc nL ret ini rm SC Q tgt lv rest σ sz kc ks) (kf : ¬ x = 0 → zG g own cc nL ret ini rm SC Q (pc + 3) lv rest σ sz kc ks) : zG g own cc nL ret ini rm SC Q pc lv (.int x :: rest) σ sz kc ks := by
  intro p e s m args below meth c hA hSC H locs ls hW hS hl
  exact lv_if_eq hA.1 hA.2.1 hd ht (fun h => kt h p e s m args below meth c hA hSC H locs ls hW hS hl) (fun h => kf h p e s m args below meth c hA hSC H locs ls hW hS hl)
theorem zg_icmp_eq {x y : Int32} {off : Int} {tgt : Nat} (hd : decode cc pc = .ok (.if_icmp .eq off, 3)) (ht : (pc : Int) + off = (tgt : Int)) (kt : x = y → zG g own cc nL ret ini rm SC Q tgt lv rest σ sz kc ks) (kf : ¬ x = y → zG g own cc nL ret ini rm SC Q (pc + 3) lv rest σ sz kc ks) : zG g own cc nL ret ini rm SC Q pc lv (.int y :: .int x :: rest) σ sz kc ks := by
  intro p e s m args below meth c hA hSC H locs ls hW hS hl
  exact lv_icmp_eq hA.1 hA.2.1 hd ht (fun h => kt h p e s m args below meth c hA hSC H locs ls hW hS hl) (fun h => kf h p e s m args below meth c hA hSC H locs ls hW hS hl)
theorem zg_if_ne {x : Int32} {off : Int} {tgt : Nat} (hd : decode cc pc = .ok (.ifCond .ne off, 3)) (ht : (pc : Int) + off = (tgt : Int)) (kt : ¬ x = 0 → zG g own cc nL ret ini rm SC Q tgt lv rest σ sz kc ks) (kf : x = 0 → zG g own cc nL ret ini rm SC Q (pc + 3) lv rest σ sz kc ks) : zG g own cc nL ret ini rm SC Q pc lv (.int x :: rest) σ sz kc ks := by
  intro p e s m args below meth c hA hSC H locs ls hW hS hl
  exact lv_if_ne hA.1 hA.2.1 hd ht (fun h => kt h p e s m args below meth c hA hSC H locs ls hW hS hl) (fun h => kf h p e s m args below meth c hA hSC H locs ls hW hS hl)
theorem zg_icmp_ne {x y : Int32} {off : Int} {tgt : Nat} (hd : decode cc pc = .ok (.if_icmp .ne off, 3)) (ht : (pc : Int) + off = (tgt : Int)) (kt : ¬ x = y → zG g own cc nL ret ini rm SC Q tgt lv rest σ sz kc ks) (kf : x = y → zG g own cc nL ret ini rm SC Q (pc + 3) lv rest σ sz kc ks) : zG g own cc nL ret ini rm SC Q pc lv (.int y :: .int x :: rest) σ sz kc ks := by
  intro p e s m args below meth c hA hSC H locs ls hW hS hl
  exact lv_icmp_ne hA.1 hA.2.1 hd ht (fun h => kt h p e s m args below meth c hA hSC H locs ls hW hS hl) (fun h => kf h p e s m args below meth c hA hSC H locs ls hW hS hl)
theorem zg_if_lt {x : Int32} {off : Int} {tgt : Nat} (hd : decode cc pc = .ok (.ifCond .lt off, 3)) (ht : (pc : Int) + off = (tgt : Int)) (kt : x < 0 → zG g own cc nL ret ini rm SC Q tgt lv rest σ sz kc ks) (kf : ¬ x < 0 → zG g own cc nL ret ini rm SC Q (pc + 3) lv rest σ sz kc ks) : zG g own cc nL ret ini rm SC Q pc lv (.int x :: rest) σ sz kc ks := by
  intro p e s m args below meth c hA hSC H locs ls hW hS hl
  exact lv_if_lt hA.1 hA.2.1 hd ht (fun h => kt h p e s m args below meth c hA hSC H locs ls hW hS hl) (fun h => kf h p e s m args below meth c hA hSC H locs ls hW hS hl)
theorem zg_icmp_lt {x y : Int32} {off : Int} {tgt : Nat} (hd : decode cc pc = .ok (.if_icmp .lt off, 3)) (ht : (pc : Int) + off = (tgt : Int)) (kt : x < y → zG g own cc nL ret ini rm SC Q tgt lv rest σ sz kc ks) (kf : ¬ x < y → zG g own cc nL ret ini rm SC Q (pc + 3) lv rest σ sz kc ks) : zG g own cc nL ret ini rm SC Q pc lv (.int y :: .int x :: rest) σ sz kc ks := by
  intro p e s m args below meth c hA hSC H locs ls hW hS hl
  exact lv_icmp_lt hA.1 hA.2.1 hd ht (fun h => kt h p e s m args below meth c hA hSC H locs ls hW hS hl) (fun h => kf h p e s m args below meth c hA hSC H locs ls hW hS hl)
theorem zg_if_ge {x : Int32} {off : Int} {tgt : Nat} (hd : decode cc pc = .ok (.ifCond .ge off, 3)) (ht : (pc : Int) + off = (tgt : Int)) (kt : 0 ≤ x → zG g own cc nL ret ini rm SC Q tgt lv rest σ sz kc ks) (kf : ¬ 0 ≤ x → zG g own cc nL ret ini rm SC Q (pc + 3) lv rest σ sz kc ks) : zG g own cc nL ret ini rm SC Q pc lv (.int x :: rest) σ sz kc ks := by
  intro p e s m args below meth c hA hSC H locs ls hW hS hl
  exact lv_if_ge hA.1 hA.2.1 hd ht (fun h => kt h p e s m args below meth c hA hSC H locs ls hW hS hl) (fun h => kf h p e s m args below meth c hA hSC H locs ls hW hS hl)
theorem zg_icmp_ge {x y : Int32} {off : Int} {tgt : Nat} (hd : decode cc pc = .ok (.if_icmp .ge off, 3)) (ht : (pc : Int) + off = (tgt : Int)) (kt : y ≤ x → zG g own cc nL ret ini rm SC Q tgt lv rest σ sz kc ks) (kf : ¬ y ≤ x → zG g own cc nL ret ini rm SC Q (pc + 3) lv rest σ sz kc ks) : zG g own cc nL ret ini rm SC Q pc lv (.int y :: .int x :: rest) σ sz kc ks := by
  intro p e s m args below meth c hA hSC H locs ls hW hS hl
  exact lv_icmp_ge hA.1 hA.2.1 hd ht (fun h => kt h p e s m args below meth c hA hSC H locs ls hW hS hl) (fun h => kf h p e s m args below meth c hA hSC H locs ls hW hS hl)
theorem zg_if_gt {x : Int32} {off : Int} {tgt : Nat} (hd : decode cc pc = .ok (.ifCond .gt off, 3)) (ht : (pc : Int) + off = (tgt : Int)) (kt : 0 < x → zG g own cc nL ret ini rm SC Q tgt lv rest σ sz kc ks) (kf : ¬ 0 < x → zG g own cc nL ret ini rm SC Q (pc + 3) lv rest σ sz kc ks) : zG g own cc nL ret ini rm SC Q pc lv (.int x :: rest) σ sz kc ks := by
  intro p e s m args below meth c hA hSC H locs ls hW hS hl
  exact lv_if_gt hA.1 hA.2.1 hd ht (fun h => kt h p e s m args below meth c hA hSC H locs ls hW hS hl) (fun h => kf h p e s m args below meth c hA hSC H locs ls hW hS hl)
theorem zg_icmp_gt {x y : Int32} {off : Int} {tgt : Nat} (hd : decode cc pc = .ok (.if_icmp .gt off, 3)) (ht : (pc : Int) + off = (tgt : Int)) (kt : y < x → zG g own cc nL ret ini rm SC Q tgt lv rest σ sz kc ks) (kf : ¬ y < x → zG g own cc nL ret ini rm SC Q (pc + 3) lv rest σ sz kc ks) : zG g own cc nL ret ini rm SC Q pc lv (.int y :: .int x :: rest) σ sz kc ks := by
  intro p e s m args below meth c hA hSC H locs ls hW hS hl
  exact lv_icmp_gt hA.1 hA.2.1 hd ht (fun h => kt h p e s m args below meth c hA hSC H locs ls hW hS hl) (fun h => kf h p e s m args below meth c hA hSC H locs ls hW hS hl)
theorem zg_if_le {x : Int32} {off : Int} {tgt : Nat} (hd : decode cc pc = .ok (.ifCond .le off, 3)) (ht : (pc : Int) + off = (tgt : Int)) (kt : x ≤ 0 → zG g own cc nL ret ini rm SC Q tgt lv rest σ sz kc ks) (kf : ¬ x ≤ 0 → zG g own cc nL ret ini rm SC Q (pc + 3) lv rest σ sz kc ks) : zG g own cc nL ret ini rm SC Q pc lv (.int x :: rest) σ sz kc ks := by
  intro p e s m args below meth c hA hSC H locs ls hW hS hl
  exact lv_if_le hA.1 hA.2.1 hd ht (fun h => kt h p e s m args below meth c hA hSC H locs ls hW hS hl) (fun h => kf h p e s m args below meth c hA hSC H locs ls hW hS hl)
theorem zg_icmp_le {x y : Int32} {off : Int} {tgt : Nat} (hd : decode cc pc = .ok (.if_icmp .le off, 3)) (ht : (pc : Int) + off = (tgt : Int)) (kt : x ≤ y → zG g own cc nL ret ini rm SC Q tgt lv rest σ sz kc ks) (kf : ¬ x ≤ y → zG g own cc nL ret ini rm SC Q (pc + 3) lv rest σ sz kc ks) : zG g own cc nL ret ini rm SC Q pc lv (.int y :: .int x :: rest) σ sz kc ks := by
  intro p e s m args below meth c hA hSC H locs ls hW hS hl
  exact lv_icmp_le hA.1 hA.2.1 hd ht (fun h => kt h p e s m args below meth c hA hSC H locs ls hW hS hl) (fun h => kf h p e s m args below meth c hA hSC H locs ls hW hS hl)
theorem zg_goto {off : Int} {tgt : Nat} (hd : decode cc pc = .ok (.goto off, 3)) (ht : (pc : Int) + off = (tgt : Int)) (k : zG g own cc nL ret ini rm SC Q tgt lv rest σ sz kc ks) : zG g own cc nL ret ini rm SC Q pc lv rest σ sz kc ks := by
  intro p e s m args below meth c hA hSC H locs ls hW hS hl
  exact lv_goto hA.1 hA.2.1 hd ht (k p e s m args below meth c hA hSC H locs ls hW hS hl)
theorem zg_tableIn {dflt lo hi : Int} {offs : Array Int} {len : Nat} {x : Int32} {off : Int} {tgt : Nat} (hd : decode cc pc = .ok (.tableswitch dflt lo hi offs, len)) (h1 : ¬ x.toInt < lo) (h2 : ¬ hi < x.toInt) (ho : offs[(x.toInt - lo).toNat]? = some off) (ht : (pc : Int) + off = (tgt : Int)) (k : zG g own cc nL ret ini rm SC Q tgt lv rest σ sz kc ks) : zG g own cc nL ret ini rm SC Q pc lv (.int x :: rest) σ sz kc ks := by
  intro p e s m args below meth c hA hSC H locs ls hW hS hl
  exact lv_tableIn hA.1 hA.2.1 hd h1 h2 ho ht (k p e s m args below meth c hA hSC H locs ls hW hS hl)
theorem zg_tableOut {dflt lo hi : Int} {offs : Array Int} {len : Nat} {x : Int32} {tgt : Nat} (hd : decode cc pc = .ok (.tableswitch dflt lo hi offs, len)) (h : x.toInt < lo ∨ hi < x.toInt) (ht : (pc : Int) + dflt = (tgt : Int)) (k : zG g own cc nL ret ini rm SC Q tgt lv rest σ sz kc ks) : zG g own cc nL ret ini rm SC Q pc lv (.int x :: rest) σ sz kc ks := by
  intro p e s m args below meth c hA hSC H locs ls hW hS hl
  exact lv_tableOut hA.1 hA.2.1 hd h ht (k p e s m args below meth c hA hSC H locs ls hW hS hl)
theorem zg_lookup {dflt : Int} {ps : Array (Int × Int)} {len : Nat} {x : Int32} {off : Int} {tgt : Nat} (hd : decode cc pc = .ok (.lookupswitch dflt ps, len)) (hp : (ps.toList.zip (ps.toList.drop 1)).all (fun (a, next) => a.1 < next.1) = true) (ho : Op.lookupswitch.offset ps.toList dflt x.toInt = off) (ht : (pc : Int) + off = (tgt : Int)) (k : zG g own cc nL ret ini rm SC Q tgt lv rest σ sz kc ks) : zG g own cc nL ret ini rm SC Q pc lv (.int x :: rest) σ sz kc ks := by
  intro p e s m args below meth c hA hSC H locs ls hW hS hl
  exact lv_lookup hA.1 hA.2.1 hd hp ho ht (k p e s m args below meth c hA hSC H locs ls hW hS hl)
theorem zg_eq {pc' : Nat} {lv' : List (Nat × Value)} {st st' : List Value} {σ' : zx_M} {sz' : Nat} (h1 : pc = pc') (h2 : lv = lv') (h3 : st = st') (h4 : σ = σ') (h5 : sz = sz') (k : zG g own cc nL ret ini rm SC Q pc' lv' st' σ' sz' kc ks) : zG g own cc nL ret ini rm SC Q pc lv st σ sz kc ks := by
  subst h1; subst h2; subst h3; subst h4; subst h5; exact k
theorem zg_sub {lv' : List (Nat × Value)} {st : List Value} (ks2 : List Nat) (h2 : lv_pick lv ks2 = lv') (k : zG g own cc nL ret ini rm SC Q pc lv' st σ sz kc ks) : zG g own cc nL ret ini rm SC Q pc lv st σ sz kc ks := by
  intro p e s m args below meth c hA hSC H locs ls hW hS hl
  exact k p e s m args below meth c hA hSC H locs ls hW hS (lv_sub hl ks2 h2)
theorem zg_top {x y : Int32} (h : x = y) (k : zG g own cc nL ret ini rm SC Q pc lv (.int y :: rest) σ sz kc ks) : zG g own cc nL ret ini rm SC Q pc lv (.int x :: rest) σ sz kc ks := by rw [h]; exact k
theorem zg_get {a : Nat} {ref C : String} {T : u_T} {N ci index : Nat} (hin : ∀ w ∈ u_ws C T N, w ∈ zc_T) {fs : List Value} (hc : zc_cl[ci]? = some (C, T, N)) (f : Nat) (hk : f < N) (hlink : Cond.fieldLink own index ref (T f).2.1 (T f).2.2.1 ∈ zc_T) (href : ref = (T f).1) (hd : decode cc pc = .ok (.getfield index, 3)) (he : σ a = some (.inr (ci, fs))) {v : Value} (hv : fs[f]? = some v) (k : zG g own cc nL ret ini rm SC Q (pc + 3) lv (v :: rest) σ sz kc ks) : zG g own cc nL ret ini rm SC Q pc lv (.ref a :: rest) σ sz kc ks := by
  intro p e s m args below meth c hA hSC H locs ls hW hS hl
  exact va_get hA.1 hA.2.1 hA.2.2.2.2.2.1 hin hA.2.2.2.2.1 hW.2.2.1 (hW.one he) 0 rfl hc f hk (hA.2.2.2.2.2.1 _ hlink) (fun x hx => by rw [href]; exact hx) hv hd (k p e s m args below meth c hA hSC H locs ls hW hS hl)
theorem zg_put {a : Nat} {ref C : String} {T : u_T} {N ci index : Nat} (hin : ∀ w ∈ u_ws C T N, w ∈ zc_T) (ty0 : Nat → FieldType) (hty : ∀ k, k < N → parseFieldDescriptor (T k).2.2.1 = some (ty0 k)) (hnm : ∀ a, a < N → ∀ b, b < N → a ≠ b → (T a).2.1 ≠ (T b).2.1) {fs : List Value} (hc : zc_cl[ci]? = some (C, T, N)) (f : Nat) (hk : f < N) (hlink : Cond.fieldLink own index ref (T f).2.1 (T f).2.2.1 ∈ zc_T) (href : ref = (T f).1) (hfin : (T f).2.2.2 = false ∨ ((T f).2.2.2 = true ∧ ini = true ∧ (T f).1 = own)) {v : Value} (hd : decode cc pc = .ok (.putfield index, 3)) (he : σ a = some (.inr (ci, fs))) (hn : narrow (ty0 f) v = v) (hfit : fits (ty0 f) v = true) (hl9 : f < fs.length) {fs' : List Value} (hfs : fs.set f v = fs') (k : zG g own cc nL ret ini rm SC Q (pc + 3) lv rest (zx_up σ a (.inr (ci, fs'))) sz kc ks) : zG g own cc nL ret ini rm SC Q pc lv (v :: .ref a :: rest) σ sz kc ks := by
  intro p e s m args below meth c hA hSC H locs ls hW hS hl
  subst hfs
  have hexec := hA.1
  have hb := hA.2.1
  have hown := hA.2.2.2.2.1
  have hts := hA.2.2.2.2.2.1
  have hK := hW.2.2.1
  have hap := va_apart (own := own) hts hin ty0 hty hnm hK hc
  obtain ⟨hbA, r, h1, cell, q1, q2, q3, q4⟩ := hW.2.1 a _ he
  have hr : r = (C, T, N) := Option.some.inj (h1.symm.trans hc)
  subst hr
  obtain ⟨hSl, hfc, kC, hkC, hkind⟩ := hK.1 ci _ hc
  obtain ⟨cf, kf, fi, fd, hi, hsl⟩ := hSl f hk
  have hst := (u_facts hfc hkC (u_lays hts hin hk) hi).1
  have hi' : s.fieldFound? ref (T f).2.1 (T f).2.2.1 = some (cf, kf, fi, fd) := by rw [href]; exact hi
  have fin : ∀ H' : Heap, H'[a]? = some (cell.setSlot fd.slot v) → H'.size = H.size → (∀ q, q ≠ a → H'[q]? = H[q]?) → W p g.1 e rm s m args below meth c H' (locs ++ [⟨a, fd.slot⟩]) kc ks (Q below args s) (F0 m (pc + 3) ls rest) := by
    intro H' e1 e2 e3
    rw [hsl] at e1
    refine k p e s m args below meth c hA hSC H' _ ls (hW.put he ⟨_, hc, t_OB.to (V := updV (vp_V fs) f v) ⟨_, e1, q2, q3, t_set q4 hap hk v⟩ (fun j _ => vp_updV_set hl9 v j)⟩ e2 e3) (hS.put e2 e3 hbA) hl
  have hlay := hts _ (hin _ (u_in_lay hk))
  unfold u_lay at hlay
  rcases hfin with hfin | ⟨hfin, hini, hdecl⟩
  · rw [if_neg (by rw [hfin]; decide)] at hlay
    have h6 := u_store hfc hkC hkind hlay hi (hty f hk) hn hfit
    exact W.putK hexec hb (f := fd) ⟨hown, hts _ hlink, ⟨_, _, _, hi'⟩, hst⟩ (by rw [q2]; exact h6) q1 q3 (by rw [hsl]; exact k2_hasslot (q4 f hk)) rfl rfl hd fin
  · rw [if_pos hfin] at hlay
    have hcf : m.cls = cf := by
      obtain ⟨_, _, c', _, _, _, -, -, hf', -, -, -, hown2, -⟩ := Cond.laysFinal_spec hlay
      have e1 : c' = cf := by have := hi.symm.trans hf'; simp at this; exact this.1.symm
      rw [hdecl] at hown2
      rw [← e1]; exact Option.some.inj (hown.symm.trans hown2)
    have h6 := u_fits hfc hkC hkind (Or.inr hlay) hi (hty f hk) hn hfit
    exact W.putFinK hexec hb hown (hts _ hlink) hi' hst hcf (hA.2.2.2.2.2.2.2.2.1 hini) (by rw [q2]; exact h6) q1 q3 (by rw [hsl]; exact k2_hasslot (q4 f hk)) rfl rfl hd fin
theorem zg_iald {a n j : Nat} {f : Nat → Int32} {i : Int32} (hd : decode cc pc = .ok (.iaload, 1)) (he : σ a = some (.inl (g.2.2.2.1 0, n, .inl f))) (hi : i = nI j) (hj : j < n) (hn : n < 2 ^ 31) (k : zG g own cc nL ret ini rm SC Q (pc + 1) lv (.int (f j) :: rest) σ sz kc ks) : zG g own cc nL ret ini rm SC Q pc lv (.int i :: .ref a :: rest) σ sz kc ks := by
  intro p e s m args below meth c hA hSC H locs ls hW hS hl
  refine va_iald hA.1 hA.2.1 hW.2.2.1 (hW.one he) 0 0 rfl rfl (i := i) (by rw [hi]; exact vp_in_nI hj hn) hd ?_
  rw [hi, nI_clamp (Nat.lt_trans hj hn)]
  exact k p e s m args below meth c hA hSC H locs ls hW hS hl
theorem zg_zald {a n j : Nat} {f : Nat → Int32} {i : Int32} (hd : decode cc pc = .ok (.baload, 1)) (he : σ a = some (.inl (g.2.2.2.1 1, n, .inl f))) (hi : i = nI j) (hj : j < n) (hn : n < 2 ^ 31) (k : zG g own cc nL ret ini rm SC Q (pc + 1) lv (.int (f j) :: rest) σ sz kc ks) : zG g own cc nL ret ini rm SC Q pc lv (.int i :: .ref a :: rest) σ sz kc ks := by
  intro p e s m args below meth c hA hSC H locs ls hW hS hl
  refine va_zald hA.1 hA.2.1 hW.2.2.1 (hW.one he) 0 1 rfl rfl (i := i) (by rw [hi]; exact vp_in_nI hj hn) hd ?_
  rw [hi, nI_clamp (Nat.lt_trans hj hn)]
  exact k p e s m args below meth c hA hSC H locs ls hW hS hl
theorem zg_bald {a n j : Nat} {f : Nat → Int32} {i : Int32} (hd : decode cc pc = .ok (.baload, 1)) (he : σ a = some (.inl (g.2.2.2.1 4, n, .inl f))) (hi : i = nI j) (hj : j < n) (hn : n < 2 ^ 31) (k : zG g own cc nL ret ini rm SC Q (pc + 1) lv (.int (f j) :: rest) σ sz kc ks) : zG g own cc nL ret ini rm SC Q pc lv (.int i :: .ref a :: rest) σ sz kc ks := by
  intro p e s m args below meth c hA hSC H locs ls hW hS hl
  refine va_bald hA.1 hA.2.1 hW.2.2.1 (hW.one he) 0 4 rfl rfl (i := i) (by rw [hi]; exact vp_in_nI hj hn) hd ?_
  rw [hi, nI_clamp (Nat.lt_trans hj hn)]
  exact k p e s m args below meth c hA hSC H locs ls hW hS hl
theorem zg_iast {a n j : Nat} {f : Nat → Int32} {i x : Int32} (hd : decode cc pc = .ok (.iastore, 1)) (he : σ a = some (.inl (g.2.2.2.1 0, n, .inl f))) (hi : i = nI j) (hj : j < n) (hn : n < 2 ^ 31) (k : zG g own cc nL ret ini rm SC Q (pc + 1) lv rest (zx_up σ a (.inl (g.2.2.2.1 0, n, .inl (upd f j x)))) sz kc ks) : zG g own cc nL ret ini rm SC Q pc lv (.int x :: .int i :: .ref a :: rest) σ sz kc ks := by
  intro p e s m args below meth c hA hSC H locs ls hW hS hl
  have hin : vp_in i n := by rw [hi]; exact vp_in_nI hj hn
  have hc : i.toNatClampNeg = j := by rw [hi]; exact nI_clamp (Nat.lt_trans hj hn)
  refine W.iast hA.1 hA.2.1 (hW.2.1 a _ he).2 ((hW.2.2.1.2 0 _ rfl).1 n (fun j => .int (f j))) (fun q => by cases q) (by show ¬ (i < 0 ∨ (arrV _ _ _).slots.size ≤ _); rw [arrV_size]; exact hin) rfl rfl hd fun H1 e1 z oq => ?_
  refine k p e s m args below meth c hA hSC H1 _ ls (hW.put he ?_ z oq) (hS.put z oq (hW.2.1 a _ he).1) hl
  show H1[a]? = some (vp_cell _ _)
  rw [e1, vp_cell_i, vp_cell_i, arrV_store, hc]
  congr 2
  funext q
  by_cases hq : q = j
  · subst hq
    simp [updV, upd]
  · simp [updV, upd, hq]
theorem zg_zast {a n j : Nat} {f : Nat → Int32} {i x : Int32} (hd : decode cc pc = .ok (.bastore, 1)) (he : σ a = some (.inl (g.2.2.2.1 1, n, .inl f))) (hi : i = nI j) (hj : j < n) (hn : n < 2 ^ 31) (hx : vp_nar .boolean x = x) (k : zG g own cc nL ret ini rm SC Q (pc + 1) lv rest (zx_up σ a (.inl (g.2.2.2.1 1, n, .inl (upd f j x)))) sz kc ks) : zG g own cc nL ret ini rm SC Q pc lv (.int x :: .int i :: .ref a :: rest) σ sz kc ks := by
  intro p e s m args below meth c hA hSC H locs ls hW hS hl
  have hin : vp_in i n := by rw [hi]; exact vp_in_nI hj hn
  have hc : i.toNatClampNeg = j := by rw [hi]; exact nI_clamp (Nat.lt_trans hj hn)
  refine W.zast hA.1 hA.2.1 (hW.2.1 a _ he).2 ((hW.2.2.1.2 1 _ rfl).1 n (fun j => .int (f j))) (fun q => by cases q) (by show ¬ (i < 0 ∨ (arrV _ _ _).slots.size ≤ _); rw [arrV_size]; exact hin) rfl rfl hd fun H1 e1 z oq => ?_
  refine k p e s m args below meth c hA hSC H1 _ ls (hW.put he ?_ z oq) (hS.put z oq (hW.2.1 a _ he).1) hl
  show H1[a]? = some (vp_cell _ _)
  rw [e1, vp_cell_i, vp_cell_i, arrV_store, hc]
  congr 2
  funext q
  by_cases hq : q = j
  · subst hq
    have h9 : narrow .boolean (.int x) = .int (vp_nar .boolean x) := rfl
    simp [updV, upd, h9, hx]
  · simp [updV, upd, hq]
theorem zg_bast {a n j : Nat} {f : Nat → Int32} {i x : Int32} (hd : decode cc pc = .ok (.bastore, 1)) (he : σ a = some (.inl (g.2.2.2.1 4, n, .inl f))) (hi : i = nI j) (hj : j < n) (hn : n < 2 ^ 31) (k : zG g own cc nL ret ini rm SC Q (pc + 1) lv rest (zx_up σ a (.inl (g.2.2.2.1 4, n, .inl (upd f j (vp_nar .byte x))))) sz kc ks) : zG g own cc nL ret ini rm SC Q pc lv (.int x :: .int i :: .ref a :: rest) σ sz kc ks := by
  intro p e s m args below meth c hA hSC H locs ls hW hS hl
  have hin : vp_in i n := by rw [hi]; exact vp_in_nI hj hn
  have hc : i.toNatClampNeg = j := by rw [hi]; exact nI_clamp (Nat.lt_trans hj hn)
  refine W.bast hA.1 hA.2.1 (hW.2.1 a _ he).2 ((hW.2.2.1.2 4 _ rfl).1 n (fun j => .int (f j))) (fun q => by cases q) (by show ¬ (i < 0 ∨ (arrV _ _ _).slots.size ≤ _); rw [arrV_size]; exact hin) rfl rfl hd fun H1 e1 z oq => ?_
  refine k p e s m args below meth c hA hSC H1 _ ls (hW.put he ?_ z oq) (hS.put z oq (hW.2.1 a _ he).1) hl
  show H1[a]? = some (vp_cell _ _)
  rw [e1, vp_cell_i, vp_cell_i, arrV_store, hc]
  congr 2
  funext q
  by_cases hq : q = j
  · subst hq
    have h9 : narrow .byte (.int x) = .int (vp_nar .byte x) := rfl
    simp [updV, upd, h9]
  · simp [updV, upd, hq]
theorem zg_last {a n j : Nat} {f : Nat → Int64} {i : Int32} {x : Int64} (hd : decode cc pc = .ok (.lastore, 1)) (he : σ a = some (.inl (g.2.2.2.1 2, n, .inr (.inl f)))) (hi : i = nI j) (hj : j < n) (hn : n < 2 ^ 31) (k : zG g own cc nL ret ini rm SC Q (pc + 1) lv rest (zx_up σ a (.inl (g.2.2.2.1 2, n, .inr (.inl (vp_updL f j x))))) sz kc ks) : zG g own cc nL ret ini rm SC Q pc lv (.long x :: .int i :: .ref a :: rest) σ sz kc ks := by
  intro p e s m args below meth c hA hSC H locs ls hW hS hl
  have hin : vp_in i n := by rw [hi]; exact vp_in_nI hj hn
  have hc : i.toNatClampNeg = j := by rw [hi]; exact nI_clamp (Nat.lt_trans hj hn)
  refine W.last hA.1 hA.2.1 (hW.2.1 a _ he).2 ((hW.2.2.1.2 2 _ rfl).1 n (fun j => .long (f j))) (fun q => by cases q) (by show ¬ (i < 0 ∨ (arrV _ _ _).slots.size ≤ _); rw [arrV_size]; exact hin) rfl rfl hd fun H1 e1 z oq => ?_
  refine k p e s m args below meth c hA hSC H1 _ ls (hW.put he ?_ z oq) (hS.put z oq (hW.2.1 a _ he).1) hl
  show H1[a]? = some (vp_cell _ _)
  rw [e1, vp_cell_l, vp_cell_l, arrV_store, hc]
  congr 2
  funext q
  by_cases hq : q = j
  · subst hq
    simp [updV, vp_updL]
  · simp [updV, vp_updL, hq]
theorem zg_lald {a n j : Nat} {f : Nat → Int64} {i : Int32} (hd : decode cc pc = .ok (.laload, 1)) (he : σ a = some (.inl (g.2.2.2.1 2, n, .inr (.inl f)))) (hi : i = nI j) (hj : j < n) (hn : n < 2 ^ 31) (k : zG g own cc nL ret ini rm SC Q (pc + 1) lv (.long (f j) :: rest) σ sz kc ks) : zG g own cc nL ret ini rm SC Q pc lv (.int i :: .ref a :: rest) σ sz kc ks := by
  intro p e s m args below meth c hA hSC H locs ls hW hS hl
  refine va_lald hA.1 hA.2.1 hW.2.2.1 (hW.one he) 0 2 rfl rfl (i := i) (by rw [hi]; exact vp_in_nI hj hn) hd ?_
  rw [hi, nI_clamp (Nat.lt_trans hj hn)]
  exact k p e s m args below meth c hA hSC H locs ls hW hS hl
theorem zg_alen {a n : Nat} {x : (Nat → Int32) ⊕ (Nat → Int64) ⊕ (Nat → UInt32) ⊕ (Nat → UInt64) ⊕ (Nat → Option Nat)} (t0 : Nat) {cA : ClassId} {ty : FieldType} (ht : (zx_tys g)[t0]? = some (cA, ty)) (hd : decode cc pc = .ok (.arraylength, 1)) (he : σ a = some (.inl (cA, n, x))) (k : zG g own cc nL ret ini rm SC Q (pc + 1) lv (.int (nI n) :: rest) σ sz kc ks) : zG g own cc nL ret ini rm SC Q pc lv (.ref a :: rest) σ sz kc ks := by
  intro p e s m args below meth c hA hSC H locs ls hW hS hl
  exact va_alen hA.1 hA.2.1 hW.2.2.1 (hW.one he) 0 t0 rfl ht (v := nI n) rfl hd (k p e s m args below meth c hA hSC H locs ls hW hS hl)
theorem zg_gets {C n ref host : String} {N index : Nat} {f : Nat → Int32} (q : Nat) (hq : zc_st[q]? = some (C, n, N, f)) (hlink : (own, index, ref, n, "[C", host) ∈ zc_NF) (href : ref = C) (hd : decode cc pc = .ok (.getstatic index, 3)) (k : zG g own cc nL ret ini rm SC Q (pc + 3) lv (.ref (g.2.2.2.2 q) :: rest) σ sz kc ks) : zG g own cc nL ret ini rm SC Q pc lv rest σ sz kc ks := by
  intro p e s m args below meth c hA hSC H locs ls hW hS hl
  exact va_getsN hA.1 hA.2.1 (hA.2.2.2.2.2.2.2.2.2.1 q _ hq).1 hS hA.2.2.2.2.1 (va_Nw.use rfl (hA.2.2.2.2.2.2.2.2.2.2.1 _ hlink)) (fun x hx => by rw [href]; exact hx) hd (k p e s m args below meth c hA hSC H locs ls hW hS hl)
theorem zg_tc {C n : String} {N j : Nat} {f : Nat → Int32} {i : Int32} (q : Nat) (hq : zc_st[q]? = some (C, n, N, f)) (hd : decode cc pc = .ok (.caload, 1)) (hi : i = nI j) (hj : j < N) (hn : N < 2 ^ 31) (k : zG g own cc nL ret ini rm SC Q (pc + 1) lv (.int (f j) :: rest) σ sz kc ks) : zG g own cc nL ret ini rm SC Q pc lv (.int i :: .ref (g.2.2.2.2 q) :: rest) σ sz kc ks := by
  intro p e s m args below meth c hA hSC H locs ls hW hS hl
  exact va_tc hA.1 hA.2.1 (hA.2.2.2.2.2.2.2.2.2.1 q _ hq).2 hS (i := i) (by rw [hi]; exact vp_in_nI hj hn) (v := .int (f j)) (by rw [hi, nI_clamp (Nat.lt_trans hj hn)]) hd (k p e s m args below meth c hA hSC H locs ls hW hS hl)
theorem zg_tlen {C n : String} {N : Nat} {f : Nat → Int32} (q : Nat) (hq : zc_st[q]? = some (C, n, N, f)) (hd : decode cc pc = .ok (.arraylength, 1)) (k : zG g own cc nL ret ini rm SC Q (pc + 1) lv (.int (nI N) :: rest) σ sz kc ks) : zG g own cc nL ret ini rm SC Q pc lv (.ref (g.2.2.2.2 q) :: rest) σ sz kc ks := by
  intro p e s m args below meth c hA hSC H locs ls hW hS hl
  exact va_tlen hA.1 hA.2.1 (hA.2.2.2.2.2.2.2.2.2.1 q _ hq).2 hS (v := nI N) rfl hd (k p e s m args below meth c hA hSC H locs ls hW hS hl)
theorem zg_new {C : String} {T : u_T} {N ci index : Nat} (hin : ∀ w ∈ u_ws C T N, w ∈ zc_T) (ty0 : Nat → FieldType) (hty : ∀ k, k < N → parseFieldDescriptor (T k).2.2.1 = some (ty0 k)) (hc : zc_cl[ci]? = some (C, T, N)) {fs : List Value} (hfs : ∀ j, j < N → defaultValue (ty0 j) = vp_V fs j) (hcl : Cond.classLink own index C ∈ zc_T) (hinst : Cond.instantiable C N ∈ zc_T) (hini : Cond.initialized C ∈ zc_T) (h1 : kc + 1 ≤ rm.cells) (h2 : ks + N ≤ rm.slots) (hd : decode cc pc = .ok (.new index, 3)) (k : g.2.2.1 ≤ sz → zG g own cc nL ret ini rm SC Q (pc + 3) lv (.ref sz :: rest) (zx_up σ sz (.inr (ci, fs))) (sz + 1) (kc + 1) (ks + N)) : zG g own cc nL ret ini rm SC Q pc lv rest σ sz kc ks := by
  intro p e s m args below meth c hA hSC H locs ls hW hS hl
  have hts := hA.2.2.2.2.2.1
  have hKn := hW.2.2.1.1 ci _ hc
  have hB : g.2.2.1 ≤ sz := by rw [← hW.1]; exact Nat.le_trans hA.2.2.2.2.2.2.2.1 hS.1
  refine W.newcK hA.1 hA.2.1 hA.2.2.2.2.1 (hts _ hcl) (hts _ hinst) (hts _ hini) rfl hd h1 h2 hKn.2.1 hW.1 fun H1 kC hkC e1 z1 o1 => ?_
  refine k hB p e s m args below meth c hA hSC H1 locs ls (hW.push hB ⟨_, hc, (u_born ty0 hts hin hKn hkC e1 hty).to hfs⟩ z1 o1) ⟨by rw [z1]; exact Nat.le_succ_of_le (by rw [← hW.1]; exact hS.1), fun q h3 h4 => ?_, hS.2.2⟩ hl
  rw [o1 q (by rw [← hW.1]; exact Nat.lt_of_lt_of_le h3 hS.1)]
  exact hS.2.1 q h3 h4
theorem zg_newa {atype : ArrayType} {ty : FieldType} {n : Int32} {N : Nat} (t0 : Nat) {cA : ClassId} {x : (Nat → Int32) ⊕ (Nat → Int64) ⊕ (Nat → UInt32) ⊕ (Nat → UInt64) ⊕ (Nat → Option Nat)} (ht : (zx_tys g)[t0]? = some (cA, ty)) (hty : newarray.typeOf atype = ty) (hra : ∀ U : State, va_RA U cA ty → U.vm.findClass ("[" ++ ty.toString) = some cA) (harr : Cond.arrayClass ty ∈ zc_T) (ha : ∀ cB : ClassId, vp_cell cB (N, x) = arrV cB N (fun _ => defaultValue ty)) (hn : n = nI N) (hN : N < 2 ^ 31) (hbytes : N * componentBytes ty ≤ 536870912) (h1 : kc + 1 ≤ rm.cells) (h2 : ks + N ≤ rm.slots) (hd : decode cc pc = .ok (.newarray atype, 2)) (k : g.2.2.1 ≤ sz → zG g own cc nL ret ini rm SC Q (pc + 2) lv (.ref sz :: rest) (zx_up σ sz (.inl (cA, N, x))) (sz + 1) (kc + 1) (ks + N)) : zG g own cc nL ret ini rm SC Q pc lv (.int n :: rest) σ sz kc ks := by
  intro p e s m args below meth c hA hSC H locs ls hW hS hl
  subst hty
  have hts := hA.2.2.2.2.2.1
  have hB : g.2.2.1 ≤ sz := by rw [← hW.1]; exact Nat.le_trans hA.2.2.2.2.2.2.2.1 hS.1
  refine va_newaK hA.1 hA.2.1 (hts _ harr) rfl hd rfl (by rw [hn]; exact nI_pos hN) (by rw [hn]; exact nI_clamp hN) hbytes h1 h2 hW.1 fun H1 cB e1 z1 o1 hAr hNm => ?_
  have hcc : cB = cA := Option.some.inj (hNm.symm.trans (hra s (hW.2.2.1.2 t0 _ ht).2))
  subst hcc
  refine k hB p e s m args below meth c hA hSC H1 locs ls (hW.push hB ?_ z1 o1) ⟨by rw [z1]; exact Nat.le_succ_of_le (by rw [← hW.1]; exact hS.1), fun q h3 h4 => ?_, hS.2.2⟩ hl
  · show H1[sz]? = some (vp_cell _ _)
    rw [ha]
    exact e1
  · rw [o1 q (by rw [← hW.1]; exact Nat.lt_of_lt_of_le h3 hS.1)]
    exact hS.2.1 q h3 h4
theorem zg_objInit {a idx : Nat} (hlink : Cond.methodLink own idx Lib.objectInit ∈ zc_T) (hinst : Cond.instanceMethod Lib.objectInit ∈ zc_T) (hcode : Cond.code Lib.objectInit ⟨#[0xb1]⟩ 1 none ∈ zc_T) (hd : decode cc pc = .ok (.invokespecial idx, 3)) (h1 : 1 ≤ rm.frames) (h2 : (rest.map fun v => v.category).sum + 12 ≤ rm.locals) (k : zG g own cc nL ret ini rm SC Q (pc + 3) lv rest σ sz kc ks) : zG g own cc nL ret ini rm SC Q pc lv (.ref a :: rest) σ sz kc ks := by
  intro p e s m args below meth c hA hSC H locs ls hW hS hl
  have hts := hA.2.2.2.2.2.1
  refine W.objInit hA.1 hA.2.1 hA.2.2.2.2.1 (hts _ hlink) (hts _ hinst) (hts _ hcode) rfl (by rw [hA.2.2.2.1]; exact hl.1) rfl hd h1 ?_ ?_
  · show 2 * 0 + _ + 12 ≤ _
    rw [Nat.mul_zero, Nat.zero_add]
    exact h2
  · exact W.eq (g2 := F0 m (pc + 3) ls rest) rfl (k p e s m args below meth c hA hSC H locs ls hW hS hl)
theorem zg_run {st0 : List Value} {mc' ms' : Nat} {Post' : Option Value → zx_M → Nat → Prop} {av : Array Value}
    (hr : ∀ (p : Program) (e : Env) (s : State) (m : MethodId) (args : Array Value) (below : List Frame) (meth : Method) (c : Code), zx_A g own cc nL ret ini p s m args meth c → SC s c → ∀ (H : Heap) (locs : List Loc) (ls : Array Slot), zx_W g σ sz s H → va_S (zx_Fr g) s.heap H locs → lv_has ls nL lv → va_Run p g.1 e rm s m args below meth c H locs kc ks mc' ms' (F0 m pc ls st0) rest (zx_Q g Post' av) (zx_Fr g))
    (k : ∀ r σ' sz', Post' r σ' sz' → zG g own cc nL ret ini rm SC Q (pc + 3) lv (r.toList ++ rest) σ' sz' (kc + mc') (ks + ms')) : zG g own cc nL ret ini rm SC Q pc lv st0 σ sz kc ks := by
  intro p e s m args below meth c hA hSC H locs ls hW hS hl
  intro T hT X
  obtain ⟨v, st₀, t, T', L, h0, X', hL, e1, e2, ⟨⟨r, σ', sz', hv, hp, hw⟩, hz, hk⟩, st⟩ := hr p e s m args below meth c hA hSC H locs ls hW hS hl T hT X
  cases hv
  rw [h0] at hz hk
  have hal : s.vm.Alike t.vm := by rw [← e2]; exact X'.warmed.alike
  have hw' : zx_W g σ' sz' s T'.heap := by rw [e1]; exact hw.moved hal.symm
  obtain ⟨t2, a1, b1⟩ := k v σ' sz' hp p e s m args below meth c hA hSC T'.heap (locs ++ L) ls hw'
    ⟨Nat.le_trans hS.1 (by rw [e1]; exact hz), fun q h1 h2 => by rw [e1, hk q (Nat.lt_of_lt_of_le h1 hS.1) h2]; exact hS.2.1 q h1 h2, fun q hq => by
      rcases List.mem_append.mp hq with h | h
      · exact hS.2.2 q h
      · exact hL q h⟩ hl T' rfl X'
  exact ⟨t2, st t2 a1, b1⟩
theorem zg_callV {y : MethodName} {bytes : ByteArray} {maxL index n : Nat} {r : Option FieldType} {rm' : Room} {b : Nat} {As : List Value} {ci : Nat} {q : vw_C} {fs : List Value} {Post' : Option Value → zx_M → Nat → Prop} {st0 : List Value}
    (hM : zM g y bytes maxL r rm' rm'.cells rm'.slots (.ref b :: As) σ sz Post') (hy : zx_y y bytes maxL r n) (hlink : Cond.methodLink own index y ∈ zc_T) (hinst : Cond.instanceMethod y ∈ zc_T) (hsel : Cond.selects y.cls y y ∈ zc_T) (hcl : zc_cl[ci]? = some q) (hq : q.1 = y.cls)
    (hR : rm'.frames + 1 ≤ rm.frames ∧ 8 + (maxL + 11) + rm'.locals ≤ rm.locals) (hf : kc + rm'.cells ≤ rm.cells ∧ ks + rm'.slots ≤ rm.slots) (hd : decode cc pc = .ok (.invokevirtual index, 3)) (he : σ b = some (.inr (ci, fs))) (hst : st0 = As.reverse ++ .ref b :: rest) (hn : As.length = n) (hrest : (rest.map fun v => v.category).sum ≤ 8)
    (k : ∀ r σ' sz', Post' r σ' sz' → zG g own cc nL ret ini rm SC Q (pc + 3) lv (r.toList ++ rest) σ' sz' (kc + rm'.cells) (ks + rm'.slots)) : zG g own cc nL ret ini rm SC Q pc lv st0 σ sz kc ks := by
  refine zg_run (av := (Value.ref b :: As).toArray) (mc' := rm'.cells) (ms' := rm'.slots) ?_ k
  intro p e s m args below meth c hA hSC H locs ls hW hS hl
  have hts := hA.2.2.2.2.2.1
  have hcw : CallW rm s args own y.cls index y bytes maxL r (.code y bytes maxL r :: zc_T) rm' rm'.cells rm'.slots n := ⟨callB_of n hts (zx_good hy.1) rfl rfl rfl (hts _ hy.2.1) (hts _ hlink) hy.2.2 hR, hts _ hinst, hts _ hsel⟩
  subst hst
  exact va_runV (g := F0 m pc ls _) ⟨hA.1, hA.2.1, hA.2.2.2.1, hA.2.2.2.2.1, hts⟩ hM hcw ⟨zx_blind, by rw [← hq]; exact va_recv hW.2.2.1 (hW.one he) hcl (q0 := 0) rfl, fun U hU hw => ⟨rfl, by rw [hU]; exact hW.moved hw.alike, by rw [← hW.1]; exact Nat.le_trans hA.2.2.2.2.2.2.2.1 hS.1, hA.2.2.2.2.2.2.2.2.2.2.warm hw⟩⟩ rfl hn hl.1 rfl (lv_room hrest) hd hf
theorem zg_callS {y : MethodName} {bytes : ByteArray} {maxL index n : Nat} {r : Option FieldType} {rm' : Room} {As : List Value} {Post' : Option Value → zx_M → Nat → Prop} {st0 : List Value}
    (hM : zM g y bytes maxL r rm' rm'.cells rm'.slots As σ sz Post') (hy : zx_y y bytes maxL r n) (hlink : Cond.methodLink own index y ∈ zc_T) (hstat : Cond.static y ∈ zc_T)
    (hR : rm'.frames + 1 ≤ rm.frames ∧ 8 + (maxL + 11) + rm'.locals ≤ rm.locals) (hf : kc + rm'.cells ≤ rm.cells ∧ ks + rm'.slots ≤ rm.slots) (hd : decode cc pc = .ok (.invokestatic index, 3)) (hst : st0 = As.reverse ++ rest) (hn : As.length = n) (hrest : (rest.map fun v => v.category).sum ≤ 8)
    (k : ∀ r σ' sz', Post' r σ' sz' → zG g own cc nL ret ini rm SC Q (pc + 3) lv (r.toList ++ rest) σ' sz' (kc + rm'.cells) (ks + rm'.slots)) : zG g own cc nL ret ini rm SC Q pc lv st0 σ sz kc ks := by
  refine zg_run (av := As.toArray) (mc' := rm'.cells) (ms' := rm'.slots) ?_ k
  intro p e s m args below meth c hA hSC H locs ls hW hS hl
  have hts := hA.2.2.2.2.2.1
  have hcw : CallB rm s args own index y bytes maxL r (.code y bytes maxL r :: zc_T) rm' rm'.cells rm'.slots n ∧ (Cond.static y).before args s = true := ⟨callB_of n hts (zx_good hy.1) rfl rfl rfl (hts _ hy.2.1) (hts _ hlink) hy.2.2 hR, hts _ hstat⟩
  subst hst
  exact va_runS (g := F0 m pc ls _) ⟨hA.1, hA.2.1, hA.2.2.2.1, hA.2.2.2.2.1, hts⟩ hM hcw ⟨zx_blind, fun U hU hw => ⟨rfl, by rw [hU]; exact hW.moved hw.alike, by rw [← hW.1]; exact Nat.le_trans hA.2.2.2.2.2.2.2.1 hS.1, hA.2.2.2.2.2.2.2.2.2.2.warm hw⟩⟩ rfl hn hl.1 rfl (lv_room hrest) hd hf
theorem zg_callSN {y : MethodName} {bytes : ByteArray} {maxL index n : Nat} {r : Option FieldType} {rm' : Room} {host : String} {As : List Value} {Post' : Option Value → zx_M → Nat → Prop} {st0 : List Value}
    (hM : zM g y bytes maxL r rm' rm'.cells rm'.slots As σ sz Post') (hy : zx_y y bytes maxL r n) (hlink : (own, index, y, host) ∈ zc_NM) (hstat : Cond.static y ∈ zc_T)
    (hR : rm'.frames + 1 ≤ rm.frames ∧ 8 + (maxL + 11) + rm'.locals ≤ rm.locals) (hf : kc + rm'.cells ≤ rm.cells ∧ ks + rm'.slots ≤ rm.slots) (hd : decode cc pc = .ok (.invokestatic index, 3)) (hst : st0 = As.reverse ++ rest) (hn : As.length = n) (hrest : (rest.map fun v => v.category).sum ≤ 8)
    (k : ∀ r σ' sz', Post' r σ' sz' → zG g own cc nL ret ini rm SC Q (pc + 3) lv (r.toList ++ rest) σ' sz' (kc + rm'.cells) (ks + rm'.slots)) : zG g own cc nL ret ini rm SC Q pc lv st0 σ sz kc ks := by
  refine zg_run (av := As.toArray) (mc' := rm'.cells) (ms' := rm'.slots) ?_ k
  intro p e s m args below meth c hA hSC H locs ls hW hS hl
  have hts := hA.2.2.2.2.2.1
  have hN := hA.2.2.2.2.2.2.2.2.2.2
  have hcw : va_CN rm s args own index y host bytes maxL r (.code y bytes maxL r :: zc_T) rm' rm'.cells rm'.slots n ∧ (Cond.static y).before args s = true ∧ True := ⟨va_cnB n hts (zx_good hy.1) rfl rfl rfl (hN.2 _ hlink) (hts _ hy.2.1) hy.2.2 hR, hts _ hstat, trivial⟩
  subst hst
  exact va_runSN (g := F0 m pc ls _) ⟨hA.1, hA.2.1, hA.2.2.2.1, hA.2.2.2.2.1, hts⟩ hM hcw ⟨zx_blind, fun U hU hw => ⟨rfl, by rw [hU]; exact hW.moved hw.alike, by rw [← hW.1]; exact Nat.le_trans hA.2.2.2.2.2.2.2.1 hS.1, hN.warm hw⟩⟩ rfl hn hl.1 rfl (lv_room hrest) hd hf
theorem zg_callIN {y : MethodName} {bytes : ByteArray} {maxL index n : Nat} {rm' : Room} {host : String} {b : Nat} {As : List Value} {Post' : Option Value → zx_M → Nat → Prop} {st0 : List Value}
    (hM : zM g y bytes maxL none rm' rm'.cells rm'.slots (.ref b :: As) σ sz Post') (hy : zx_y y bytes maxL none n) (hname : y.name = "<init>") (hlink : (own, index, y, host) ∈ zc_NM) (hinst : Cond.instanceMethod y ∈ zc_T)
    (hR : rm'.frames + 1 ≤ rm.frames ∧ 8 + (maxL + 11) + rm'.locals ≤ rm.locals) (hf : kc + rm'.cells ≤ rm.cells ∧ ks + rm'.slots ≤ rm.slots) (hd : decode cc pc = .ok (.invokespecial index, 3)) (hst : st0 = As.reverse ++ .ref b :: rest) (hn : As.length = n) (hrest : (rest.map fun v => v.category).sum ≤ 8)
    (k : ∀ r σ' sz', Post' r σ' sz' → zG g own cc nL ret ini rm SC Q (pc + 3) lv (r.toList ++ rest) σ' sz' (kc + rm'.cells) (ks + rm'.slots)) : zG g own cc nL ret ini rm SC Q pc lv st0 σ sz kc ks := by
  refine zg_run (av := (Value.ref b :: As).toArray) (mc' := rm'.cells) (ms' := rm'.slots) ?_ k
  intro p e s m args below meth c hA hSC H locs ls hW hS hl
  have hts := hA.2.2.2.2.2.1
  have hN := hA.2.2.2.2.2.2.2.2.2.2
  have hcw : va_CN rm s args own index y host bytes maxL none (.code y bytes maxL none :: zc_T) rm' rm'.cells rm'.slots n ∧ y.name = "<init>" ∧ (Cond.instanceMethod y).before args s = true := ⟨va_cnB n hts (zx_good hy.1) rfl rfl rfl (hN.2 _ hlink) (hts _ hy.2.1) hy.2.2 hR, hname, hts _ hinst⟩
  subst hst
  exact va_runIN (g := F0 m pc ls _) ⟨hA.1, hA.2.1, hA.2.2.2.1, hA.2.2.2.2.1, hts⟩ hM hcw ⟨zx_blind, fun U hU hw => ⟨rfl, by rw [hU]; exact hW.moved hw.alike, by rw [← hW.1]; exact Nat.le_trans hA.2.2.2.2.2.2.2.1 hS.1, hN.warm hw⟩⟩ rfl hn hl.1 rfl (lv_room hrest) hd hf
theorem zg_callI {y : MethodName} {bytes : ByteArray} {maxL index n : Nat} {rm' : Room} {b : Nat} {As : List Value} {Post' : Option Value → zx_M → Nat → Prop} {st0 : List Value}
    (hM : zM g y bytes maxL none rm' rm'.cells rm'.slots (.ref b :: As) σ sz Post') (hy : zx_y y bytes maxL none n) (hname : y.name = "<init>") (hlink : Cond.methodLink own index y ∈ zc_T) (hinst : Cond.instanceMethod y ∈ zc_T)
    (hR : rm'.frames + 1 ≤ rm.frames ∧ 8 + (maxL + 11) + rm'.locals ≤ rm.locals) (hf : kc + rm'.cells ≤ rm.cells ∧ ks + rm'.slots ≤ rm.slots) (hd : decode cc pc = .ok (.invokespecial index, 3)) (hst : st0 = As.reverse ++ .ref b :: rest) (hn : As.length = n) (hrest : (rest.map fun v => v.category).sum ≤ 8)
    (k : ∀ r σ' sz', Post' r σ' sz' → zG g own cc nL ret ini rm SC Q (pc + 3) lv (r.toList ++ rest) σ' sz' (kc + rm'.cells) (ks + rm'.slots)) : zG g own cc nL ret ini rm SC Q pc lv st0 σ sz kc ks := by
  refine zg_run (av := (Value.ref b :: As).toArray) (mc' := rm'.cells) (ms' := rm'.slots) ?_ k
  intro p e s m args below meth c hA hSC H locs ls hW hS hl
  have hts := hA.2.2.2.2.2.1
  have hcw : CallB rm s args own index y bytes maxL none (.code y bytes maxL none :: zc_T) rm' rm'.cells rm'.slots n ∧ y.name = "<init>" ∧ (Cond.instanceMethod y).before args s = true := ⟨callB_of n hts (zx_good hy.1) rfl rfl rfl (hts _ hy.2.1) (hts _ hlink) hy.2.2 hR, hname, hts _ hinst⟩
  subst hst
  exact va_runI (g := F0 m pc ls _) ⟨hA.1, hA.2.1, hA.2.2.2.1, hA.2.2.2.2.1, hts⟩ hM hcw ⟨zx_blind, fun U hU hw => ⟨rfl, by rw [hU]; exact hW.moved hw.alike, by rw [← hW.1]; exact Nat.le_trans hA.2.2.2.2.2.2.2.1 hS.1, hA.2.2.2.2.2.2.2.2.2.2.warm hw⟩⟩ rfl hn hl.1 rfl (lv_room hrest) hd hf
theorem zg_callVp {X : Int32} (hM : zM g y bytes maxL r rm' 0 0 (.ref b :: As) σ sz (zPp X σ sz)) (hz : rm'.cells = 0 ∧ rm'.slots = 0) (hy : zx_y y bytes maxL r n) (hlink : Cond.methodLink own index y ∈ zc_T) (hinst : Cond.instanceMethod y ∈ zc_T) (hsel : Cond.selects y.cls y y ∈ zc_T) (hcl : zc_cl[ci]? = some q) (hq : q.1 = y.cls)
    (hR : rm'.frames + 1 ≤ rm.frames ∧ 8 + (maxL + 11) + rm'.locals ≤ rm.locals) (hf : kc ≤ rm.cells ∧ ks ≤ rm.slots) (hd : decode cc pc = .ok (.invokevirtual index, 3)) (he : σ b = some (.inr (ci, fs))) (hst : st0 = As.reverse ++ .ref b :: rest) (hn : As.length = n) (hrest : (rest.map fun v => v.category).sum ≤ 8)
    (k : zG g own cc nL ret ini rm SC Q (pc + 3) lv (.int X :: rest) σ sz kc ks) : zG g own cc nL ret ini rm SC Q pc lv st0 σ sz kc ks := by
  refine zg_callV (rm' := rm') (by rw [hz.1, hz.2]; exact hM) hy hlink hinst hsel hcl hq hR (by rw [hz.1, hz.2]; exact hf) hd he hst hn hrest ?_
  rw [hz.1, hz.2]
  intro r σ' sz' h
  obtain ⟨v, rfl, rfl, rfl, rfl⟩ := h
  exact k
theorem zg_callVi {P : Int32 → zx_M → Nat → Prop} {mc' ms' : Nat} (hM : zM g y bytes maxL r rm' mc' ms' (.ref b :: As) σ sz (zPi P)) (hz : rm'.cells = mc' ∧ rm'.slots = ms') (hy : zx_y y bytes maxL r n) (hlink : Cond.methodLink own index y ∈ zc_T) (hinst : Cond.instanceMethod y ∈ zc_T) (hsel : Cond.selects y.cls y y ∈ zc_T) (hcl : zc_cl[ci]? = some q) (hq : q.1 = y.cls)
    (hR : rm'.frames + 1 ≤ rm.frames ∧ 8 + (maxL + 11) + rm'.locals ≤ rm.locals) (hf : kc + mc' ≤ rm.cells ∧ ks + ms' ≤ rm.slots) (hd : decode cc pc = .ok (.invokevirtual index, 3)) (he : σ b = some (.inr (ci, fs))) (hst : st0 = As.reverse ++ .ref b :: rest) (hn : As.length = n) (hrest : (rest.map fun v => v.category).sum ≤ 8)
    (k : ∀ v σ' sz', P v σ' sz' → zG g own cc nL ret ini rm SC Q (pc + 3) lv (.int v :: rest) σ' sz' (kc + mc') (ks + ms')) : zG g own cc nL ret ini rm SC Q pc lv st0 σ sz kc ks := by
  obtain ⟨rfl, rfl⟩ := hz
  refine zg_callV (rm' := rm') hM hy hlink hinst hsel hcl hq hR hf hd he hst hn hrest ?_
  intro r σ' sz' h
  obtain ⟨v, rfl, h⟩ := h
  exact k v σ' sz' h
theorem zg_callVv {P : zx_M → Nat → Prop} {mc' ms' : Nat} (hM : zM g y bytes maxL r rm' mc' ms' (.ref b :: As) σ sz (zPv P)) (hz : rm'.cells = mc' ∧ rm'.slots = ms') (hy : zx_y y bytes maxL r n) (hlink : Cond.methodLink own index y ∈ zc_T) (hinst : Cond.instanceMethod y ∈ zc_T) (hsel : Cond.selects y.cls y y ∈ zc_T) (hcl : zc_cl[ci]? = some q) (hq : q.1 = y.cls)
    (hR : rm'.frames + 1 ≤ rm.frames ∧ 8 + (maxL + 11) + rm'.locals ≤ rm.locals) (hf : kc + mc' ≤ rm.cells ∧ ks + ms' ≤ rm.slots) (hd : decode cc pc = .ok (.invokevirtual index, 3)) (he : σ b = some (.inr (ci, fs))) (hst : st0 = As.reverse ++ .ref b :: rest) (hn : As.length = n) (hrest : (rest.map fun v => v.category).sum ≤ 8)
    (k : ∀ σ' sz', P σ' sz' → zG g own cc nL ret ini rm SC Q (pc + 3) lv rest σ' sz' (kc + mc') (ks + ms')) : zG g own cc nL ret ini rm SC Q pc lv st0 σ sz kc ks := by
  obtain ⟨rfl, rfl⟩ := hz
  refine zg_callV (rm' := rm') hM hy hlink hinst hsel hcl hq hR hf hd he hst hn hrest ?_
  intro r σ' sz' h
  obtain ⟨rfl, h⟩ := h
  exact k σ' sz' h
theorem zg_callVr {P : Nat → zx_M → Nat → Prop} {mc' ms' : Nat} (hM : zM g y bytes maxL r rm' mc' ms' (.ref b :: As) σ sz (zPr P)) (hz : rm'.cells = mc' ∧ rm'.slots = ms') (hy : zx_y y bytes maxL r n) (hlink : Cond.methodLink own index y ∈ zc_T) (hinst : Cond.instanceMethod y ∈ zc_T) (hsel : Cond.selects y.cls y y ∈ zc_T) (hcl : zc_cl[ci]? = some q) (hq : q.1 = y.cls)
    (hR : rm'.frames + 1 ≤ rm.frames ∧ 8 + (maxL + 11) + rm'.locals ≤ rm.locals) (hf : kc + mc' ≤ rm.cells ∧ ks + ms' ≤ rm.slots) (hd : decode cc pc = .ok (.invokevirtual index, 3)) (he : σ b = some (.inr (ci, fs))) (hst : st0 = As.reverse ++ .ref b :: rest) (hn : As.length = n) (hrest : (rest.map fun v => v.category).sum ≤ 8)
    (k : ∀ v σ' sz', P v σ' sz' → zG g own cc nL ret ini rm SC Q (pc + 3) lv (.ref v :: rest) σ' sz' (kc + mc') (ks + ms')) : zG g own cc nL ret ini rm SC Q pc lv st0 σ sz kc ks := by
  obtain ⟨rfl, rfl⟩ := hz
  refine zg_callV (rm' := rm') hM hy hlink hinst hsel hcl hq hR hf hd he hst hn hrest ?_
  intro r σ' sz' h
  obtain ⟨v, rfl, h⟩ := h
  exact k v σ' sz' h
theorem zg_callSp {X : Int32} (hM : zM g y bytes maxL r rm' 0 0 As σ sz (zPp X σ sz)) (hz : rm'.cells = 0 ∧ rm'.slots = 0) (hy : zx_y y bytes maxL r n) (hlink : Cond.methodLink own index y ∈ zc_T) (hstat : Cond.static y ∈ zc_T)
    (hR : rm'.frames + 1 ≤ rm.frames ∧ 8 + (maxL + 11) + rm'.locals ≤ rm.locals) (hf : kc ≤ rm.cells ∧ ks ≤ rm.slots) (hd : decode cc pc = .ok (.invokestatic index, 3)) (hst : st0 = As.reverse ++ rest) (hn : As.length = n) (hrest : (rest.map fun v => v.category).sum ≤ 8)
    (k : zG g own cc nL ret ini rm SC Q (pc + 3) lv (.int X :: rest) σ sz kc ks) : zG g own cc nL ret ini rm SC Q pc lv st0 σ sz kc ks := by
  refine zg_callS (rm' := rm') (by rw [hz.1, hz.2]; exact hM) hy hlink hstat hR (by rw [hz.1, hz.2]; exact hf) hd hst hn hrest ?_
  rw [hz.1, hz.2]
  intro r σ' sz' h
  obtain ⟨v, rfl, rfl, rfl, rfl⟩ := h
  exact k
theorem zg_callSNp {X : Int32} (hM : zM g y bytes maxL r rm' 0 0 As σ sz (zPp X σ sz)) (hz : rm'.cells = 0 ∧ rm'.slots = 0) (hy : zx_y y bytes maxL r n) (hlink : (own, index, y, host) ∈ zc_NM) (hstat : Cond.static y ∈ zc_T)
    (hR : rm'.frames + 1 ≤ rm.frames ∧ 8 + (maxL + 11) + rm'.locals ≤ rm.locals) (hf : kc ≤ rm.cells ∧ ks ≤ rm.slots) (hd : decode cc pc = .ok (.invokestatic index, 3)) (hst : st0 = As.reverse ++ rest) (hn : As.length = n) (hrest : (rest.map fun v => v.category).sum ≤ 8)
    (k : zG g own cc nL ret ini rm SC Q (pc + 3) lv (.int X :: rest) σ sz kc ks) : zG g own cc nL ret ini rm SC Q pc lv st0 σ sz kc ks := by
  refine zg_callSN (rm' := rm') (by rw [hz.1, hz.2]; exact hM) hy hlink hstat hR (by rw [hz.1, hz.2]; exact hf) hd hst hn hrest ?_
  rw [hz.1, hz.2]
  intro r σ' sz' h
  obtain ⟨v, rfl, rfl, rfl, rfl⟩ := h
  exact k
theorem zg_callSv {P : zx_M → Nat → Prop} {mc' ms' : Nat} (hM : zM g y bytes maxL r rm' mc' ms' As σ sz (zPv P)) (hz : rm'.cells = mc' ∧ rm'.slots = ms') (hy : zx_y y bytes maxL r n) (hlink : Cond.methodLink own index y ∈ zc_T) (hstat : Cond.static y ∈ zc_T)
    (hR : rm'.frames + 1 ≤ rm.frames ∧ 8 + (maxL + 11) + rm'.locals ≤ rm.locals) (hf : kc + mc' ≤ rm.cells ∧ ks + ms' ≤ rm.slots) (hd : decode cc pc = .ok (.invokestatic index, 3)) (hst : st0 = As.reverse ++ rest) (hn : As.length = n) (hrest : (rest.map fun v => v.category).sum ≤ 8)
    (k : ∀ σ' sz', P σ' sz' → zG g own cc nL ret ini rm SC Q (pc + 3) lv rest σ' sz' (kc + mc') (ks + ms')) : zG g own cc nL ret ini rm SC Q pc lv st0 σ sz kc ks := by
  obtain ⟨rfl, rfl⟩ := hz
  refine zg_callS (rm' := rm') hM hy hlink hstat hR hf hd hst hn hrest ?_
  intro r σ' sz' h
  obtain ⟨rfl, h⟩ := h
  exact k σ' sz' h
theorem zg_mmax {x y : Int32} (hlink : Cond.methodLink own index Lib.Math.max.name ∈ zc_T) (hd : decode cc pc = .ok (.invokestatic index, 3)) (h1 : 1 ≤ rm.frames) (h2 : (rest.map fun v => v.category).sum + 13 ≤ rm.locals) (h3 : kc ≤ rm.cells ∧ ks ≤ rm.slots) (k : zG g own cc nL ret ini rm SC Q (pc + 3) lv (.int (if x < y then y else x) :: rest) σ sz kc ks) : zG g own cc nL ret ini rm SC Q pc lv (.int y :: .int x :: rest) σ sz kc ks := by
  intro p e s m args below meth c hA hSC H locs ls hW hS hl
  have hts := hA.2.2.2.2.2.1
  exact va_mmax hA.1 hA.2.1 (by rw [hA.2.2.2.1]; exact hl.1.symm) hA.2.2.2.2.1 (hts _ hlink) (hts _ zw_max1) (hts _ zw_max2) (hts _ zw_max3) h1 h2 h3.1 h3.2 hd (k p e s m args below meth c hA hSC H locs ls hW hS hl)
theorem zg_mmin {x y : Int32} (hlink : Cond.methodLink own index Lib.Math.min.name ∈ zc_T) (hd : decode cc pc = .ok (.invokestatic index, 3)) (h1 : 1 ≤ rm.frames) (h2 : (rest.map fun v => v.category).sum + 13 ≤ rm.locals) (h3 : kc ≤ rm.cells ∧ ks ≤ rm.slots) (k : zG g own cc nL ret ini rm SC Q (pc + 3) lv (.int (if y < x then y else x) :: rest) σ sz kc ks) : zG g own cc nL ret ini rm SC Q pc lv (.int y :: .int x :: rest) σ sz kc ks := by
  intro p e s m args below meth c hA hSC H locs ls hW hS hl
  have hts := hA.2.2.2.2.2.1
  exact va_mmin hA.1 hA.2.1 (by rw [hA.2.2.2.1]; exact hl.1.symm) hA.2.2.2.2.1 (hts _ hlink) (hts _ zw_min1) (hts _ zw_max2) (hts _ zw_min3) h1 h2 h3.1 h3.2 hd (k p e s m args below meth c hA hSC H locs ls hW hS hl)
theorem zg_callINv {g : zx_G} {own : String} {cc : ByteArray} {nL : Nat} {ret : Option FieldType} {ini : Bool} {rm : Room} {SC : State → Code → Prop} {Q : List Frame → Array Value → State → State → Prop} {pc : Nat} {lv : List (Nat × Value)} {rest : List Value} {σ : zx_M} {sz kc ks : Nat} {y : MethodName} {bytes : ByteArray} {maxL index n : Nat} {rm' : Room} {b : Nat} {As : List Value} {st0 : List Value} {host : String} {P : zx_M → Nat → Prop} {mc' ms' : Nat} (hM : zM g y bytes maxL none rm' mc' ms' (.ref b :: As) σ sz (zPv P)) (hz : rm'.cells = mc' ∧ rm'.slots = ms') (hy : zx_y y bytes maxL none n) (hname : y.name = "<init>") (hlink : (own, index, y, host) ∈ zc_NM) (hinst : Cond.instanceMethod y ∈ zc_T)
    (hR : rm'.frames + 1 ≤ rm.frames ∧ 8 + (maxL + 11) + rm'.locals ≤ rm.locals) (hf : kc + mc' ≤ rm.cells ∧ ks + ms' ≤ rm.slots) (hd : decode cc pc = .ok (.invokespecial index, 3)) (hst : st0 = As.reverse ++ .ref b :: rest) (hn : As.length = n) (hrest : (rest.map fun v => v.category).sum ≤ 8)
    (k : ∀ σ' sz', P σ' sz' → zG g own cc nL ret ini rm SC Q (pc + 3) lv rest σ' sz' (kc + mc') (ks + ms')) : zG g own cc nL ret ini rm SC Q pc lv st0 σ sz kc ks := by
  obtain ⟨rfl, rfl⟩ := hz
  refine zg_callIN (rm' := rm') hM hy hname hlink hinst hR hf hd hst hn hrest ?_
  intro r σ' sz' h
  obtain ⟨rfl, h⟩ := h
  exact k σ' sz' h
theorem zg_callIv {g : zx_G} {own : String} {cc : ByteArray} {nL : Nat} {ret : Option FieldType} {ini : Bool} {rm : Room} {SC : State → Code → Prop} {Q : List Frame → Array Value → State → State → Prop} {pc : Nat} {lv : List (Nat × Value)} {rest : List Value} {σ : zx_M} {sz kc ks : Nat} {y : MethodName} {bytes : ByteArray} {maxL index n : Nat} {rm' : Room} {b : Nat} {As : List Value} {st0 : List Value} {host : String} {P : zx_M → Nat → Prop} {mc' ms' : Nat} (hM : zM g y bytes maxL none rm' mc' ms' (.ref b :: As) σ sz (zPv P)) (hz : rm'.cells = mc' ∧ rm'.slots = ms') (hy : zx_y y bytes maxL none n) (hname : y.name = "<init>") (hlink : Cond.methodLink own index y ∈ zc_T) (hinst : Cond.instanceMethod y ∈ zc_T)
    (hR : rm'.frames + 1 ≤ rm.frames ∧ 8 + (maxL + 11) + rm'.locals ≤ rm.locals) (hf : kc + mc' ≤ rm.cells ∧ ks + ms' ≤ rm.slots) (hd : decode cc pc = .ok (.invokespecial index, 3)) (hst : st0 = As.reverse ++ .ref b :: rest) (hn : As.length = n) (hrest : (rest.map fun v => v.category).sum ≤ 8)
    (k : ∀ σ' sz', P σ' sz' → zG g own cc nL ret ini rm SC Q (pc + 3) lv rest σ' sz' (kc + mc') (ks + ms')) : zG g own cc nL ret ini rm SC Q pc lv st0 σ sz kc ks := by
  obtain ⟨rfl, rfl⟩ := hz
  refine zg_callI (rm' := rm') hM hy hname hlink hinst hR hf hd hst hn hrest ?_
  intro r σ' sz' h
  obtain ⟨rfl, h⟩ := h
  exact k σ' sz' h
theorem zg_newo {g : zx_G} {own : String} {cc : ByteArray} {nL : Nat} {ret : Option FieldType} {ini : Bool} {rm : Room} {SC : State → Code → Prop} {Q : List Frame → Array Value → State → State → Prop} {pc : Nat} {lv : List (Nat × Value)} {rest : List Value} {σ : zx_M} {sz kc ks : Nat} {C : String} {T : u_T} {N ci index : Nat} (hin : ∀ w ∈ u_ws C T N, w ∈ zc_T) (ty0 : Nat → FieldType) (hty : ∀ k, k < N → parseFieldDescriptor (T k).2.2.1 = some (ty0 k)) (hc : zc_cl[ci]? = some (C, T, N)) {fs : List Value} (hfs : ∀ j, j < N → defaultValue (ty0 j) = vp_V fs j) (hcl : Cond.classLink own index C ∈ zc_T) (hinst : Cond.instantiable C N ∈ zc_T) (hini : Cond.initialized C ∈ zc_T) (h1 : kc + 1 ≤ rm.cells) (h2 : ks + N ≤ rm.slots) (hd : decode cc pc = .ok (.new index, 3)) (k : g.2.2.1 ≤ sz → ∀ σ' : zx_M, zob g σ' sz ci fs [] (fun _ _ => 0) → zfr σ σ' sz 1 → zG g own cc nL ret ini rm SC Q (pc + 3) lv (.ref sz :: rest) σ' (sz + 1) (kc + 1) (ks + N)) : zG g own cc nL ret ini rm SC Q pc lv rest σ sz kc ks :=
  zg_new hin ty0 hty hc hfs hcl hinst hini h1 h2 hd (fun hB => k hB _ (zob.bare zx_up_self) (zfr.up zfr.rf (Nat.le_refl _) (Nat.lt_succ_self _)))
end ZG
