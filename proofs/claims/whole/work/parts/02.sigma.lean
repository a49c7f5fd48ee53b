/-! THE HEAP AS A FUNCTION. zx_M: what is known of the cells at and above a base; zE: the machine at a frame of a method, with such a heap. -/
abbrev zx_M : Type := Nat → Option va_E
/-- launch, slots of the classes, base, classes of arrays by number, addresses of static arrays by number -/
abbrev zx_G : Type := Launch × va_G × Nat × (Nat → ClassId) × (Nat → Nat)
abbrev zx_B (g : zx_G) : Nat := g.2.2.1
abbrev zx_Fr (g : zx_G) : Nat → Prop := fun q => g.2.2.1 ≤ q
def zx_tys (g : zx_G) : List (ClassId × FieldType) := [(g.2.2.2.1 0, .int), (g.2.2.2.1 1, .boolean), (g.2.2.2.1 2, .long), (g.2.2.2.1 3, .char), (g.2.2.2.1 4, .byte)]
def zx_up (σ : zx_M) (a : Nat) (e : va_E) : zx_M := fun q => if q = a then some e else σ q
theorem zx_up_self {σ : zx_M} {a : Nat} {e : va_E} : zx_up σ a e a = some e := by simp [zx_up]
theorem zx_up_ne {σ : zx_M} {a q : Nat} {e : va_E} (h : q ≠ a) : zx_up σ a e q = σ q := by simp [zx_up, h]
theorem zx_up_up {σ : zx_M} {a : Nat} {e e' : va_E} : zx_up (zx_up σ a e) a e' = zx_up σ a e' := by
  funext q; by_cases h : q = a <;> simp [zx_up, h]
theorem zx_up_id {σ : zx_M} {a : Nat} {e : va_E} (h : σ a = some e) : zx_up σ a e = σ := by
  funext q; by_cases hq : q = a
  · subst hq; simp [zx_up, h]
  · simp [zx_up, hq]
theorem zx_up_comm {σ : zx_M} {a b : Nat} {e e' : va_E} (h : a ≠ b) : zx_up (zx_up σ a e) b e' = zx_up (zx_up σ b e') a e := by
  funext q; by_cases h1 : q = a
  · subst h1; simp [zx_up, h]
  · by_cases h2 : q = b
    · subst h2; simp [zx_up, h1]
    · simp [zx_up, h1, h2]
/-- the static arrays: what they hold -/
def zx_S (g : zx_G) (s : State) (H : Heap) : Prop := ∀ (k : Nat) (q : String × String × Nat × (Nat → Int32)), zc_st[k]? = some q → va_Z q.1 q.2.1 "[C" (.ref (g.2.2.2.2 k)) (zx_Fr g) s H ∧ va_T .char (g.2.2.2.2 k) q.2.2.1 (fun j => .int (q.2.2.2 j)) (zx_Fr g) s H
theorem zx_S.moved {g : zx_G} {u U : State} {H : Heap} (hvm : u.vm.Alike U.vm) (h : zx_S g u H) : zx_S g U H := fun k q hq => ⟨(h k q hq).1.moved hvm, (h k q hq).2.moved hvm⟩
theorem zx_S.kept {g : zx_G} {U : State} {H H1 : Heap} (h : zx_S g U H) (hq : ∀ a : Nat, a < H.size → ¬ zx_Fr g a → H1[a]? = H[a]?) : zx_S g U H1 := fun k q hk => ⟨(h k q hk).1.kept hq, (h k q hk).2.kept hq⟩
def zx_W (g : zx_G) (σ : zx_M) (sz : Nat) (s : State) (H : Heap) : Prop := H.size = sz ∧ (∀ (a : Nat) (e : va_E), σ a = some e → g.2.2.1 ≤ a ∧ va_at g.2.1 zc_cl (a, e) H) ∧ va_K g.2.1 zc_cl (zx_tys g) s ∧ zx_S g s H
theorem zx_W.moved {g : zx_G} {σ : zx_M} {sz : Nat} {u U : State} {H : Heap} (hvm : u.vm.Alike U.vm) (h : zx_W g σ sz u H) : zx_W g σ sz U H := ⟨h.1, h.2.1, va_K.moved hvm h.2.2.1, h.2.2.2.moved hvm⟩
theorem zx_W.one {g : zx_G} {σ : zx_M} {sz : Nat} {s : State} {H : Heap} (h : zx_W g σ sz s H) {a : Nat} {e : va_E} (he : σ a = some e) : va_P g.2.1 zc_cl [(a, e)] H := by
  intro k q hk
  have hz : k < 1 := (List.getElem?_eq_some_iff.mp hk).1
  rw [show k = 0 by omega] at hk
  cases hk
  exact (h.2.1 a e he).2
/-- one cell written -/
theorem zx_W.put {g : zx_G} {σ : zx_M} {sz : Nat} {s : State} {H H1 : Heap} (h : zx_W g σ sz s H) {a : Nat} {e0 e : va_E} (h0 : σ a = some e0) (he : va_at g.2.1 zc_cl (a, e) H1) (z : H1.size = H.size) (oq : ∀ q : Nat, q ≠ a → H1[q]? = H[q]?) : zx_W g (zx_up σ a e) sz s H1 := by
  have hb := (h.2.1 a e0 h0).1
  refine ⟨z.trans h.1, fun b e2 hb2 => ?_, h.2.2.1, h.2.2.2.kept fun q _ hq => oq q fun hqa => hq (by subst hqa; exact hb)⟩
  by_cases hab : b = a
  · subst hab
    rw [zx_up_self] at hb2
    cases hb2
    exact ⟨hb, he⟩
  · rw [zx_up_ne hab] at hb2
    exact ⟨(h.2.1 b e2 hb2).1, (h.2.1 b e2 hb2).2.kept (oq b hab)⟩
/-- one cell made -/
theorem zx_W.push {g : zx_G} {σ : zx_M} {sz : Nat} {s : State} {H H1 : Heap} (h : zx_W g σ sz s H) (hB : g.2.2.1 ≤ sz) {e : va_E} (he : va_at g.2.1 zc_cl (sz, e) H1) (z : H1.size = sz + 1) (oq : ∀ q : Nat, q < sz → H1[q]? = H[q]?) : zx_W g (zx_up σ sz e) (sz + 1) s H1 := by
  refine ⟨z, fun b e2 hb2 => ?_, h.2.2.1, h.2.2.2.kept fun q hq _ => oq q (by rw [← h.1]; exact hq)⟩
  by_cases hab : b = sz
  · subst hab
    rw [zx_up_self] at hb2
    cases hb2
    exact ⟨hB, he⟩
  · rw [zx_up_ne hab] at hb2
    refine ⟨(h.2.1 b e2 hb2).1, (h.2.1 b e2 hb2).2.kept (oq b ?_)⟩
    have h9 := (h.2.1 b e2 hb2).2.lt
    rw [h.1] at h9
    exact h9
def zx_Q (g : zx_G) (Post : Option Value → zx_M → Nat → Prop) : Array Value → State → Outcome → State → Prop := fun _ st oc t => (∃ (r : Option Value) (σ : zx_M) (sz : Nat), oc = .returned r ∧ Post r σ sz ∧ zx_W g σ sz t t.heap) ∧ va_F (zx_Fr g) st t
/-- the links to nest mates -/
def zx_N (s : State) : Prop := (∀ q ∈ zc_NF, va_Nw (.fieldLinkNest q.1 q.2.1 q.2.2.1 q.2.2.2.1 q.2.2.2.2.1 q.2.2.2.2.2) s) ∧ ∀ q ∈ zc_NM, va_Nw (.methodLinkNest q.1 q.2.1 q.2.2.1 q.2.2.2) s
theorem zx_N.warm {s U : State} (hW : s.WarmedH U.vm) (h : zx_N s) : zx_N U := ⟨fun q hq => va_Nw.warmF hW (h.1 q hq), fun q hq => va_Nw.warmM hW (h.2 q hq)⟩
theorem zx_N.same {u U : State} (hv : u.vm = U.vm) (h : zx_N u) : zx_N U := ⟨fun q hq => va_Nw.same rfl hv (h.1 q hq), fun q hq => va_Nw.same rfl hv (h.2 q hq)⟩
def zx_Pc (g : zx_G) (av : List Value) (σ : zx_M) (sz : Nat) : Array Value → State → Prop := va_Pc av (fun U => zx_W g σ sz U U.heap ∧ g.2.2.1 ≤ sz ∧ zx_N U)
def zx_A (g : zx_G) (own : String) (cc : ByteArray) (nL : Nat) (ret : Option FieldType) (ini : Bool) (p : Program) (s : State) (m : MethodId) (args : Array Value) (meth : Method) (c : Code) : Prop :=
  p.tables.exec = Jvm.exec ∧ c.code = cc ∧ meth.sig.returnType = ret ∧ c.maxLocals = nL ∧ s.vm.findClass own = some m.cls ∧ (∀ w ∈ zc_T, w.before args s = true) ∧ meth.locks = false ∧ g.2.2.1 ≤ s.heap.size ∧ (ini = true → meth.name = "<init>") ∧ zx_S g s s.heap ∧ zx_N s
/-- the machine at pc with these locals, this stack and this heap: it ends, and Post holds of the answer and the heap -/
def zE (g : zx_G) (own : String) (cc : ByteArray) (nL : Nat) (ret : Option FieldType) (ini : Bool) (rm : Room) (mc ms : Nat) (Post : Option Value → zx_M → Nat → Prop) (pc : Nat) (lv : List (Nat × Value)) (st : List Value) (σ : zx_M) (sz kc ks : Nat) : Prop :=
  ∀ (p : Program) (e : Env) (s : State) (m : MethodId) (args : Array Value) (below : List Frame) (meth : Method) (c : Code), zx_A g own cc nL ret ini p s m args meth c → ∀ (H : Heap) (locs : List Loc) (ls : Array Slot), zx_W g σ sz s H → va_S (zx_Fr g) s.heap H locs → lv_has ls nL lv →
    W p g.1 e rm s m args below meth c H locs kc ks (MQ below (zx_Q g Post) args s mc ms (zx_Fr g)) (F0 m pc ls st)
/-- a method's contract -/
def zM (g : zx_G) (y : MethodName) (cc : ByteArray) (nL : Nat) (ret : Option FieldType) (rm : Room) (mc ms : Nat) (av : List Value) (σ : zx_M) (sz : Nat) (Post : Option Value → zx_M → Nat → Prop) : Prop :=
  Met g.1 y (.code y cc nL ret :: zc_T) rm (zx_Pc g av σ sz) (zx_Q g Post) mc ms (zx_Fr g)
theorem zx_blind {g : zx_G} {av : List Value} {σ : zx_M} {sz : Nat} : FrameBlind (zx_Pc g av σ sz) := by
  intro a U fr mk h
  obtain ⟨h1, h2, h3, h4⟩ := h
  exact ⟨h1, zx_W.moved (u := U) (U := U.calling fr mk a) (Vm.Alike.refl U.vm) h2, h3, zx_N.same (u := U) rfl h4⟩
theorem zM_of {g : zx_G} {own : String} {y : MethodName} {cc : ByteArray} {nL : Nat} {ret : Option FieldType} {ini : Bool} {rm : Room} {mc ms : Nat} {av : List Value} {σ : zx_M} {sz : Nat} {Post : Option Value → zx_M → Nat → Prop} {lv : List (Nat × Value)}
    (hy : plainName y.cls = true) (ho : y.cls = own) (hini : ini = true → y.name = "<init>") (hlen : (lg_sl av).length ≤ nL) (hlv : lv_args 0 av = lv)
    (body : zE g own cc nL ret ini rm mc ms Post 0 lv [] σ sz 0 0) : zM g y cc nL ret rm mc ms av σ sz Post := by
  refine Met.ofW (cc := cc) (maxL := nL) (ret := ret) hy rfl ?_
  intro p e s m args below meth c s₁ B hml hv
  obtain ⟨rfl, hW, hB, hN⟩ := hv
  have hts := atoms_spec (ws := .code y cc nL ret :: zc_T) B.pre
  have hown : s.vm.findClass own = some m.cls := by rw [← ho]; exact findClass_of_methodNamed B.named
  have hin : ini = true → meth.name = "<init>" := fun h => (name_of_methodNamed B.named B.method).1.trans (hini h)
  have hl := lv_entry av (n := nL) hlen
  rw [lg_entry_eq]
  generalize (lg_sl av ++ List.replicate (nL - (lg_sl av).length) Slot.unset).toArray = ls at hl ⊢
  rw [hlv] at hl
  exact body p e s m _ below meth c ⟨B.exec, B.bytes, B.returns, hml, hown, fun w h => hts w (List.mem_cons_of_mem _ h), B.notSynchronized, by rw [hW.1]; exact hB, hin, hW.2.2.2, hN⟩ s.heap [] ls hW va_S.rf hl
section ZE
variable {g : zx_G} {own : String} {cc : ByteArray} {nL : Nat} {ret : Option FieldType} {ini : Bool} {rm : Room} {mc ms : Nat} {Post : Option Value → zx_M → Nat → Prop} {pc : Nat} {lv : List (Nat × Value)} {rest : List Value} {σ : zx_M} {sz kc ks : Nat}
theorem ze_iconst {n : Int} {v : Int32} (hd : decode cc pc = .ok (.iconst n, 1)) (hv : Int32.ofInt n = v) (k : zE g own cc nL ret ini rm mc ms Post (pc + 1) lv (.int v :: rest) σ sz kc ks) : zE g own cc nL ret ini rm mc ms Post pc lv rest σ sz kc ks := by
  intro p e s m args below meth c hA H locs ls hW hS hl
  exact lv_iconst hA.1 hA.2.1 hd hv (k p e s m args below meth c hA H locs ls hW hS hl)
theorem ze_bipush {n : Int} {v : Int32} (hd : decode cc pc = .ok (.bipush n, 2)) (hv : (Int8.ofInt n).toInt32 = v) (k : zE g own cc nL ret ini rm mc ms Post (pc + 2) lv (.int v :: rest) σ sz kc ks) : zE g own cc nL ret ini rm mc ms Post pc lv rest σ sz kc ks := by
  intro p e s m args below meth c hA H locs ls hW hS hl
  exact lv_bipush hA.1 hA.2.1 hd hv (k p e s m args below meth c hA H locs ls hW hS hl)
theorem ze_sipush {n : Int} {v : Int32} (hd : decode cc pc = .ok (.sipush n, 3)) (hv : (Int16.ofInt n).toInt32 = v) (k : zE g own cc nL ret ini rm mc ms Post (pc + 3) lv (.int v :: rest) σ sz kc ks) : zE g own cc nL ret ini rm mc ms Post pc lv rest σ sz kc ks := by
  intro p e s m args below meth c hA H locs ls hW hS hl
  exact lv_sipush hA.1 hA.2.1 hd hv (k p e s m args below meth c hA H locs ls hW hS hl)
theorem ze_iload_n {n : Fin 4} {i : Nat} {x : Int32} (j : Nat) (hd : decode cc pc = .ok (.iload_n n, 1)) (hi : (n : Nat) = i) (hj : lv[j]? = some (i, .int x)) (k : zE g own cc nL ret ini rm mc ms Post (pc + 1) lv (.int x :: rest) σ sz kc ks) : zE g own cc nL ret ini rm mc ms Post pc lv rest σ sz kc ks := by
  intro p e s m args below meth c hA H locs ls hW hS hl
  exact lv_iload_n hA.1 hA.2.1 hd hi (lv_at hl j hj) (k p e s m args below meth c hA H locs ls hW hS hl)
theorem ze_iload {i : Nat} {x : Int32} (j : Nat) (hd : decode cc pc = .ok (.iload i, 2)) (hj : lv[j]? = some (i, .int x)) (k : zE g own cc nL ret ini rm mc ms Post (pc + 2) lv (.int x :: rest) σ sz kc ks) : zE g own cc nL ret ini rm mc ms Post pc lv rest σ sz kc ks := by
  intro p e s m args below meth c hA H locs ls hW hS hl
  exact lv_iload hA.1 hA.2.1 hd (lv_at hl j hj) (k p e s m args below meth c hA H locs ls hW hS hl)
theorem ze_aload_n {n : Fin 4} {i : Nat} {x : Nat} (j : Nat) (hd : decode cc pc = .ok (.aload_n n, 1)) (hi : (n : Nat) = i) (hj : lv[j]? = some (i, .ref x)) (k : zE g own cc nL ret ini rm mc ms Post (pc + 1) lv (.ref x :: rest) σ sz kc ks) : zE g own cc nL ret ini rm mc ms Post pc lv rest σ sz kc ks := by
  intro p e s m args below meth c hA H locs ls hW hS hl
  exact lv_aload_n hA.1 hA.2.1 hd hi (lv_at hl j hj) (k p e s m args below meth c hA H locs ls hW hS hl)
theorem ze_aload {i : Nat} {x : Nat} (j : Nat) (hd : decode cc pc = .ok (.aload i, 2)) (hj : lv[j]? = some (i, .ref x)) (k : zE g own cc nL ret ini rm mc ms Post (pc + 2) lv (.ref x :: rest) σ sz kc ks) : zE g own cc nL ret ini rm mc ms Post pc lv rest σ sz kc ks := by
  intro p e s m args below meth c hA H locs ls hW hS hl
  exact lv_aload hA.1 hA.2.1 hd (lv_at hl j hj) (k p e s m args below meth c hA H locs ls hW hS hl)
theorem ze_iadd {x y : Int32} (hd : decode cc pc = .ok (.iadd, 1)) (k : zE g own cc nL ret ini rm mc ms Post (pc + 1) lv (.int (x + y) :: rest) σ sz kc ks) : zE g own cc nL ret ini rm mc ms Post pc lv (.int y :: .int x :: rest) σ sz kc ks := by
  intro p e s m args below meth c hA H locs ls hW hS hl
  exact lv_iadd hA.1 hA.2.1 hd (k p e s m args below meth c hA H locs ls hW hS hl)
theorem ze_isub {x y : Int32} (hd : decode cc pc = .ok (.isub, 1)) (k : zE g own cc nL ret ini rm mc ms Post (pc + 1) lv (.int (x - y) :: rest) σ sz kc ks) : zE g own cc nL ret ini rm mc ms Post pc lv (.int y :: .int x :: rest) σ sz kc ks := by
  intro p e s m args below meth c hA H locs ls hW hS hl
  exact lv_isub hA.1 hA.2.1 hd (k p e s m args below meth c hA H locs ls hW hS hl)
theorem ze_imul {x y : Int32} (hd : decode cc pc = .ok (.imul, 1)) (k : zE g own cc nL ret ini rm mc ms Post (pc + 1) lv (.int (x * y) :: rest) σ sz kc ks) : zE g own cc nL ret ini rm mc ms Post pc lv (.int y :: .int x :: rest) σ sz kc ks := by
  intro p e s m args below meth c hA H locs ls hW hS hl
  exact lv_imul hA.1 hA.2.1 hd (k p e s m args below meth c hA H locs ls hW hS hl)
theorem ze_iand {x y : Int32} (hd : decode cc pc = .ok (.iand, 1)) (k : zE g own cc nL ret ini rm mc ms Post (pc + 1) lv (.int (x &&& y) :: rest) σ sz kc ks) : zE g own cc nL ret ini rm mc ms Post pc lv (.int y :: .int x :: rest) σ sz kc ks := by
  intro p e s m args below meth c hA H locs ls hW hS hl
  exact lv_iand hA.1 hA.2.1 hd (k p e s m args below meth c hA H locs ls hW hS hl)
theorem ze_ior {x y : Int32} (hd : decode cc pc = .ok (.ior, 1)) (k : zE g own cc nL ret ini rm mc ms Post (pc + 1) lv (.int (x ||| y) :: rest) σ sz kc ks) : zE g own cc nL ret ini rm mc ms Post pc lv (.int y :: .int x :: rest) σ sz kc ks := by
  intro p e s m args below meth c hA H locs ls hW hS hl
  exact lv_ior hA.1 hA.2.1 hd (k p e s m args below meth c hA H locs ls hW hS hl)
theorem ze_ixor {x y : Int32} (hd : decode cc pc = .ok (.ixor, 1)) (k : zE g own cc nL ret ini rm mc ms Post (pc + 1) lv (.int (x ^^^ y) :: rest) σ sz kc ks) : zE g own cc nL ret ini rm mc ms Post pc lv (.int y :: .int x :: rest) σ sz kc ks := by
  intro p e s m args below meth c hA H locs ls hW hS hl
  exact lv_ixor hA.1 hA.2.1 hd (k p e s m args below meth c hA H locs ls hW hS hl)
theorem ze_ishl {x y : Int32} (hd : decode cc pc = .ok (.ishl, 1)) (k : zE g own cc nL ret ini rm mc ms Post (pc + 1) lv (.int (x <<< (y &&& 31)) :: rest) σ sz kc ks) : zE g own cc nL ret ini rm mc ms Post pc lv (.int y :: .int x :: rest) σ sz kc ks := by
  intro p e s m args below meth c hA H locs ls hW hS hl
  exact lv_ishl hA.1 hA.2.1 hd (k p e s m args below meth c hA H locs ls hW hS hl)
theorem ze_ishr {x y : Int32} (hd : decode cc pc = .ok (.ishr, 1)) (k : zE g own cc nL ret ini rm mc ms Post (pc + 1) lv (.int (x >>> (y &&& 31)) :: rest) σ sz kc ks) : zE g own cc nL ret ini rm mc ms Post pc lv (.int y :: .int x :: rest) σ sz kc ks := by
  intro p e s m args below meth c hA H locs ls hW hS hl
  exact lv_ishr hA.1 hA.2.1 hd (k p e s m args below meth c hA H locs ls hW hS hl)
theorem ze_idiv {x y : Int32} (hd : decode cc pc = .ok (.idiv, 1)) (hne : ¬ y = 0) (k : zE g own cc nL ret ini rm mc ms Post (pc + 1) lv (.int (x / y) :: rest) σ sz kc ks) : zE g own cc nL ret ini rm mc ms Post pc lv (.int y :: .int x :: rest) σ sz kc ks := by
  intro p e s m args below meth c hA H locs ls hW hS hl
  exact lv_idiv hA.1 hA.2.1 hd hne (k p e s m args below meth c hA H locs ls hW hS hl)
theorem ze_irem {x y : Int32} (hd : decode cc pc = .ok (.irem, 1)) (hne : ¬ y = 0) (k : zE g own cc nL ret ini rm mc ms Post (pc + 1) lv (.int (x - x / y * y) :: rest) σ sz kc ks) : zE g own cc nL ret ini rm mc ms Post pc lv (.int y :: .int x :: rest) σ sz kc ks := by
  intro p e s m args below meth c hA H locs ls hW hS hl
  exact lv_irem hA.1 hA.2.1 hd hne (k p e s m args below meth c hA H locs ls hW hS hl)
theorem ze_ineg {x : Int32} (hd : decode cc pc = .ok (.ineg, 1)) (k : zE g own cc nL ret ini rm mc ms Post (pc + 1) lv (.int (-x) :: rest) σ sz kc ks) : zE g own cc nL ret ini rm mc ms Post pc lv (.int x :: rest) σ sz kc ks := by
  intro p e s m args below meth c hA H locs ls hW hS hl
  exact lv_ineg hA.1 hA.2.1 hd (k p e s m args below meth c hA H locs ls hW hS hl)
theorem ze_i2l {x : Int32} {v : Int64} (hd : decode cc pc = .ok (.i2l, 1)) (hv : x.toInt64 = v) (k : zE g own cc nL ret ini rm mc ms Post (pc + 1) lv (.long v :: rest) σ sz kc ks) : zE g own cc nL ret ini rm mc ms Post pc lv (.int x :: rest) σ sz kc ks := by
  intro p e s m args below meth c hA H locs ls hW hS hl
  exact lv_i2l hA.1 hA.2.1 hd hv (k p e s m args below meth c hA H locs ls hW hS hl)
theorem ze_l2i {x : Int64} {v : Int32} (hd : decode cc pc = .ok (.l2i, 1)) (hv : x.toInt32 = v) (k : zE g own cc nL ret ini rm mc ms Post (pc + 1) lv (.int v :: rest) σ sz kc ks) : zE g own cc nL ret ini rm mc ms Post pc lv (.long x :: rest) σ sz kc ks := by
  intro p e s m args below meth c hA H locs ls hW hS hl
  exact lv_l2i hA.1 hA.2.1 hd hv (k p e s m args below meth c hA H locs ls hW hS hl)
theorem ze_i2b {x v : Int32} (hd : decode cc pc = .ok (.i2b, 1)) (hv : x.toInt8.toInt32 = v) (k : zE g own cc nL ret ini rm mc ms Post (pc + 1) lv (.int v :: rest) σ sz kc ks) : zE g own cc nL ret ini rm mc ms Post pc lv (.int x :: rest) σ sz kc ks := by
  intro p e s m args below meth c hA H locs ls hW hS hl
  exact lv_i2b hA.1 hA.2.1 hd hv (k p e s m args below meth c hA H locs ls hW hS hl)
theorem ze_i2c {x v : Int32} (hd : decode cc pc = .ok (.i2c, 1)) (hv : (x.toUInt32 % 65536).toInt32 = v) (k : zE g own cc nL ret ini rm mc ms Post (pc + 1) lv (.int v :: rest) σ sz kc ks) : zE g own cc nL ret ini rm mc ms Post pc lv (.int x :: rest) σ sz kc ks := by
  intro p e s m args below meth c hA H locs ls hW hS hl
  exact lv_i2c hA.1 hA.2.1 hd hv (k p e s m args below meth c hA H locs ls hW hS hl)
theorem ze_lcmp {x y : Int64} (hd : decode cc pc = .ok (.lcmp, 1)) (k : zE g own cc nL ret ini rm mc ms Post (pc + 1) lv (.int (lg_cmp x y) :: rest) σ sz kc ks) : zE g own cc nL ret ini rm mc ms Post pc lv (.long y :: .long x :: rest) σ sz kc ks := by
  intro p e s m args below meth c hA H locs ls hW hS hl
  exact W.lcmp hA.1 hA.2.1 hd (k p e s m args below meth c hA H locs ls hW hS hl)
theorem ze_dup {va : Value} (hd : decode cc pc = .ok (.dup, 1)) (h1 : va.category = 1) (k : zE g own cc nL ret ini rm mc ms Post (pc + 1) lv (va :: va :: rest) σ sz kc ks) : zE g own cc nL ret ini rm mc ms Post pc lv (va :: rest) σ sz kc ks := by
  intro p e s m args below meth c hA H locs ls hW hS hl
  exact lv_dup hA.1 hA.2.1 hd h1 (k p e s m args below meth c hA H locs ls hW hS hl)
theorem ze_pop {va : Value} (hd : decode cc pc = .ok (.pop, 1)) (h1 : va.category = 1) (k : zE g own cc nL ret ini rm mc ms Post (pc + 1) lv rest σ sz kc ks) : zE g own cc nL ret ini rm mc ms Post pc lv (va :: rest) σ sz kc ks := by
  intro p e s m args below meth c hA H locs ls hW hS hl
  exact lv_pop hA.1 hA.2.1 hd h1 (k p e s m args below meth c hA H locs ls hW hS hl)
theorem ze_dup_x1 {va vb : Value} (hd : decode cc pc = .ok (.dup_x1, 1)) (h1 : va.category = 1) (h2 : vb.category = 1) (k : zE g own cc nL ret ini rm mc ms Post (pc + 1) lv (va :: vb :: va :: rest) σ sz kc ks) : zE g own cc nL ret ini rm mc ms Post pc lv (va :: vb :: rest) σ sz kc ks := by
  intro p e s m args below meth c hA H locs ls hW hS hl
  exact lv_dup_x1 hA.1 hA.2.1 hd h1 h2 (k p e s m args below meth c hA H locs ls hW hS hl)
theorem ze_dup_x2 {va vb vd : Value} (hd : decode cc pc = .ok (.dup_x2, 1)) (h1 : va.category = 1) (h2 : vb.category = 1) (h3 : vd.category = 1) (k : zE g own cc nL ret ini rm mc ms Post (pc + 1) lv (va :: vb :: vd :: va :: rest) σ sz kc ks) : zE g own cc nL ret ini rm mc ms Post pc lv (va :: vb :: vd :: rest) σ sz kc ks := by
  intro p e s m args below meth c hA H locs ls hW hS hl
  exact lv_dup_x2 hA.1 hA.2.1 hd h1 h2 h3 (k p e s m args below meth c hA H locs ls hW hS hl)
theorem ze_dup2 {va vb : Value} (hd : decode cc pc = .ok (.dup2, 1)) (h1 : va.category = 1) (h2 : vb.category = 1) (k : zE g own cc nL ret ini rm mc ms Post (pc + 1) lv (va :: vb :: va :: vb :: rest) σ sz kc ks) : zE g own cc nL ret ini rm mc ms Post pc lv (va :: vb :: rest) σ sz kc ks := by
  intro p e s m args below meth c hA H locs ls hW hS hl
  exact lv_dup2_11 hA.1 hA.2.1 hd h1 h2 (k p e s m args below meth c hA H locs ls hW hS hl)
theorem ze_istore_n {n : Fin 4} {i : Nat} {x : Int32} (hd : decode cc pc = .ok (.istore_n n, 1)) (hi : (n : Nat) = i) {lv' : List (Nat × Value)} (hn : i < nL) (hl2 : (i, Value.int x) :: lv.filter (fun q => !(q.1 == i) && !(q.1 + 1 == i && q.2.category == 2)) = lv') (k : zE g own cc nL ret ini rm mc ms Post (pc + 1) lv' rest σ sz kc ks) : zE g own cc nL ret ini rm mc ms Post pc lv (.int x :: rest) σ sz kc ks := by
  intro p e s m args below meth c hA H locs ls hW hS hl
  exact lv_istore_n hA.1 hA.2.1 hd hi hl hn hl2 (fun ls' hl' => k p e s m args below meth c hA H locs ls' hW hS hl')
theorem ze_istore {i : Nat} {x : Int32} (hd : decode cc pc = .ok (.istore i, 2)) {lv' : List (Nat × Value)} (hn : i < nL) (hl2 : (i, Value.int x) :: lv.filter (fun q => !(q.1 == i) && !(q.1 + 1 == i && q.2.category == 2)) = lv') (k : zE g own cc nL ret ini rm mc ms Post (pc + 2) lv' rest σ sz kc ks) : zE g own cc nL ret ini rm mc ms Post pc lv (.int x :: rest) σ sz kc ks := by
  intro p e s m args below meth c hA H locs ls hW hS hl
  exact lv_istore hA.1 hA.2.1 hd hl hn hl2 (fun ls' hl' => k p e s m args below meth c hA H locs ls' hW hS hl')
theorem ze_astore_n {n : Fin 4} {i : Nat} {x : Nat} (hd : decode cc pc = .ok (.astore_n n, 1)) (hi : (n : Nat) = i) {lv' : List (Nat × Value)} (hn : i < nL) (hl2 : (i, Value.ref x) :: lv.filter (fun q => !(q.1 == i) && !(q.1 + 1 == i && q.2.category == 2)) = lv') (k : zE g own cc nL ret ini rm mc ms Post (pc + 1) lv' rest σ sz kc ks) : zE g own cc nL ret ini rm mc ms Post pc lv (.ref x :: rest) σ sz kc ks := by
  intro p e s m args below meth c hA H locs ls hW hS hl
  exact lv_astore_n hA.1 hA.2.1 hd hi hl hn hl2 (fun ls' hl' => k p e s m args below meth c hA H locs ls' hW hS hl')
theorem ze_astore {i : Nat} {x : Nat} (hd : decode cc pc = .ok (.astore i, 2)) {lv' : List (Nat × Value)} (hn : i < nL) (hl2 : (i, Value.ref x) :: lv.filter (fun q => !(q.1 == i) && !(q.1 + 1 == i && q.2.category == 2)) = lv') (k : zE g own cc nL ret ini rm mc ms Post (pc + 2) lv' rest σ sz kc ks) : zE g own cc nL ret ini rm mc ms Post pc lv (.ref x :: rest) σ sz kc ks := by
  intro p e s m args below meth c hA H locs ls hW hS hl
  exact lv_astore hA.1 hA.2.1 hd hl hn hl2 (fun ls' hl' => k p e s m args below meth c hA H locs ls' hW hS hl')
theorem ze_iinc {i : Nat} {n : Int} {x v : Int32} {lv' : List (Nat × Value)} (j : Nat) (hd : decode cc pc = .ok (.iinc i n, 3)) (hj : lv[j]? = some (i, .int x)) (hv : x + Int32.ofInt n = v) (hn : i < nL) (hl2 : (i, Value.int v) :: lv.filter (fun q => !(q.1 == i) && !(q.1 + 1 == i && q.2.category == 2)) = lv') (k : zE g own cc nL ret ini rm mc ms Post (pc + 3) lv' rest σ sz kc ks) : zE g own cc nL ret ini rm mc ms Post pc lv rest σ sz kc ks := by
  intro p e s m args below meth c hA H locs ls hW hS hl
  exact lv_iinc hA.1 hA.2.1 hd hl hj hv hn hl2 (fun ls' hl' => k p e s m args below meth c hA H locs ls' hW hS hl')
theorem ze_if_eq {x : Int32} {off : Int} {tgt : Nat} (hd : decode cc pc = .ok (.ifCond .eq off, 3)) (ht : (pc : Int) + off = (tgt : Int)) (kt : x = 0 → zE g own cc nL ret ini rm mc ms Post tgt lv rest σ sz kc ks) (kf : ¬ x = 0 → zE g own cc nL ret ini rm mc ms Post (pc + 3) lv rest σ sz kc ks) : zE g own cc nL ret ini rm mc ms Post pc lv (.int x :: rest) σ sz kc ks := by
  intro p e s m args below meth c hA H locs ls hW hS hl
  exact lv_if_eq hA.1 hA.2.1 hd ht (fun h => kt h p e s m args below meth c hA H locs ls hW hS hl) (fun h => kf h p e s m args below meth c hA H locs ls hW hS hl)
theorem ze_icmp_eq {x y : Int32} {off : Int} {tgt : Nat} (hd : decode cc pc = .ok (.if_icmp .eq off, 3)) (ht : (pc : Int) + off = (tgt : Int)) (kt : x = y → zE g own cc nL ret ini rm mc ms Post tgt lv rest σ sz kc ks) (kf : ¬ x = y → zE g own cc nL ret ini rm mc ms Post (pc + 3) lv rest σ sz kc ks) : zE g own cc nL ret ini rm mc ms Post pc lv (.int y :: .int x :: rest) σ sz kc ks := by
  intro p e s m args below meth c hA H locs ls hW hS hl
  exact lv_icmp_eq hA.1 hA.2.1 hd ht (fun h => kt h p e s m args below meth c hA H locs ls hW hS hl) (fun h => kf h p e s m args below meth c hA H locs ls hW hS hl)
theorem ze_if_ne {x : Int32} {off : Int} {tgt : Nat} (hd : decode cc pc = .ok (.ifCond .ne off, 3)) (ht : (pc : Int) + off = (tgt : Int)) (kt : ¬ x = 0 → zE g own cc nL ret ini rm mc ms Post tgt lv rest σ sz kc ks) (kf : x = 0 → zE g own cc nL ret ini rm mc ms Post (pc + 3) lv rest σ sz kc ks) : zE g own cc nL ret ini rm mc ms Post pc lv (.int x :: rest) σ sz kc ks := by
  intro p e s m args below meth c hA H locs ls hW hS hl
  exact lv_if_ne hA.1 hA.2.1 hd ht (fun h => kt h p e s m args below meth c hA H locs ls hW hS hl) (fun h => kf h p e s m args below meth c hA H locs ls hW hS hl)
theorem ze_icmp_ne {x y : Int32} {off : Int} {tgt : Nat} (hd : decode cc pc = .ok (.if_icmp .ne off, 3)) (ht : (pc : Int) + off = (tgt : Int)) (kt : ¬ x = y → zE g own cc nL ret ini rm mc ms Post tgt lv rest σ sz kc ks) (kf : x = y → zE g own cc nL ret ini rm mc ms Post (pc + 3) lv rest σ sz kc ks) : zE g own cc nL ret ini rm mc ms Post pc lv (.int y :: .int x :: rest) σ sz kc ks := by
  intro p e s m args below meth c hA H locs ls hW hS hl
  exact lv_icmp_ne hA.1 hA.2.1 hd ht (fun h => kt h p e s m args below meth c hA H locs ls hW hS hl) (fun h => kf h p e s m args below meth c hA H locs ls hW hS hl)
theorem ze_if_lt {x : Int32} {off : Int} {tgt : Nat} (hd : decode cc pc = .ok (.ifCond .lt off, 3)) (ht : (pc : Int) + off = (tgt : Int)) (kt : x < 0 → zE g own cc nL ret ini rm mc ms Post tgt lv rest σ sz kc ks) (kf : ¬ x < 0 → zE g own cc nL ret ini rm mc ms Post (pc + 3) lv rest σ sz kc ks) : zE g own cc nL ret ini rm mc ms Post pc lv (.int x :: rest) σ sz kc ks := by
  intro p e s m args below meth c hA H locs ls hW hS hl
  exact lv_if_lt hA.1 hA.2.1 hd ht (fun h => kt h p e s m args below meth c hA H locs ls hW hS hl) (fun h => kf h p e s m args below meth c hA H locs ls hW hS hl)
theorem ze_icmp_lt {x y : Int32} {off : Int} {tgt : Nat} (hd : decode cc pc = .ok (.if_icmp .lt off, 3)) (ht : (pc : Int) + off = (tgt : Int)) (kt : x < y → zE g own cc nL ret ini rm mc ms Post tgt lv rest σ sz kc ks) (kf : ¬ x < y → zE g own cc nL ret ini rm mc ms Post (pc + 3) lv rest σ sz kc ks) : zE g own cc nL ret ini rm mc ms Post pc lv (.int y :: .int x :: rest) σ sz kc ks := by
  intro p e s m args below meth c hA H locs ls hW hS hl
  exact lv_icmp_lt hA.1 hA.2.1 hd ht (fun h => kt h p e s m args below meth c hA H locs ls hW hS hl) (fun h => kf h p e s m args below meth c hA H locs ls hW hS hl)
theorem ze_if_ge {x : Int32} {off : Int} {tgt : Nat} (hd : decode cc pc = .ok (.ifCond .ge off, 3)) (ht : (pc : Int) + off = (tgt : Int)) (kt : 0 ≤ x → zE g own cc nL ret ini rm mc ms Post tgt lv rest σ sz kc ks) (kf : ¬ 0 ≤ x → zE g own cc nL ret ini rm mc ms Post (pc + 3) lv rest σ sz kc ks) : zE g own cc nL ret ini rm mc ms Post pc lv (.int x :: rest) σ sz kc ks := by
  intro p e s m args below meth c hA H locs ls hW hS hl
  exact lv_if_ge hA.1 hA.2.1 hd ht (fun h => kt h p e s m args below meth c hA H locs ls hW hS hl) (fun h => kf h p e s m args below meth c hA H locs ls hW hS hl)
theorem ze_icmp_ge {x y : Int32} {off : Int} {tgt : Nat} (hd : decode cc pc = .ok (.if_icmp .ge off, 3)) (ht : (pc : Int) + off = (tgt : Int)) (kt : y ≤ x → zE g own cc nL ret ini rm mc ms Post tgt lv rest σ sz kc ks) (kf : ¬ y ≤ x → zE g own cc nL ret ini rm mc ms Post (pc + 3) lv rest σ sz kc ks) : zE g own cc nL ret ini rm mc ms Post pc lv (.int y :: .int x :: rest) σ sz kc ks := by
  intro p e s m args below meth c hA H locs ls hW hS hl
  exact lv_icmp_ge hA.1 hA.2.1 hd ht (fun h => kt h p e s m args below meth c hA H locs ls hW hS hl) (fun h => kf h p e s m args below meth c hA H locs ls hW hS hl)
theorem ze_if_gt {x : Int32} {off : Int} {tgt : Nat} (hd : decode cc pc = .ok (.ifCond .gt off, 3)) (ht : (pc : Int) + off = (tgt : Int)) (kt : 0 < x → zE g own cc nL ret ini rm mc ms Post tgt lv rest σ sz kc ks) (kf : ¬ 0 < x → zE g own cc nL ret ini rm mc ms Post (pc + 3) lv rest σ sz kc ks) : zE g own cc nL ret ini rm mc ms Post pc lv (.int x :: rest) σ sz kc ks := by
  intro p e s m args below meth c hA H locs ls hW hS hl
  exact lv_if_gt hA.1 hA.2.1 hd ht (fun h => kt h p e s m args below meth c hA H locs ls hW hS hl) (fun h => kf h p e s m args below meth c hA H locs ls hW hS hl)
theorem ze_icmp_gt {x y : Int32} {off : Int} {tgt : Nat} (hd : decode cc pc = .ok (.if_icmp .gt off, 3)) (ht : (pc : Int) + off = (tgt : Int)) (kt : y < x → zE g own cc nL ret ini rm mc ms Post tgt lv rest σ sz kc ks) (kf : ¬ y < x → zE g own cc nL ret ini rm mc ms Post (pc + 3) lv rest σ sz kc ks) : zE g own cc nL ret ini rm mc ms Post pc lv (.int y :: .int x :: rest) σ sz kc ks := by
  intro p e s m args below meth c hA H locs ls hW hS hl
  exact lv_icmp_gt hA.1 hA.2.1 hd ht (fun h => kt h p e s m args below meth c hA H locs ls hW hS hl) (fun h => kf h p e s m args below meth c hA H locs ls hW hS hl)
theorem ze_if_le {x : Int32} {off : Int} {tgt : Nat} (hd : decode cc pc = .ok (.ifCond .le off, 3)) (ht : (pc : Int) + off = (tgt : Int)) (kt : x ≤ 0 → zE g own cc nL ret ini rm mc ms Post tgt lv rest σ sz kc ks) (kf : ¬ x ≤ 0 → zE g own cc nL ret ini rm mc ms Post (pc + 3) lv rest σ sz kc ks) : zE g own cc nL ret ini rm mc ms Post pc lv (.int x :: rest) σ sz kc ks := by
  intro p e s m args below meth c hA H locs ls hW hS hl
  exact lv_if_le hA.1 hA.2.1 hd ht (fun h => kt h p e s m args below meth c hA H locs ls hW hS hl) (fun h => kf h p e s m args below meth c hA H locs ls hW hS hl)
theorem ze_icmp_le {x y : Int32} {off : Int} {tgt : Nat} (hd : decode cc pc = .ok (.if_icmp .le off, 3)) (ht : (pc : Int) + off = (tgt : Int)) (kt : x ≤ y → zE g own cc nL ret ini rm mc ms Post tgt lv rest σ sz kc ks) (kf : ¬ x ≤ y → zE g own cc nL ret ini rm mc ms Post (pc + 3) lv rest σ sz kc ks) : zE g own cc nL ret ini rm mc ms Post pc lv (.int y :: .int x :: rest) σ sz kc ks := by
  intro p e s m args below meth c hA H locs ls hW hS hl
  exact lv_icmp_le hA.1 hA.2.1 hd ht (fun h => kt h p e s m args below meth c hA H locs ls hW hS hl) (fun h => kf h p e s m args below meth c hA H locs ls hW hS hl)
theorem ze_goto {off : Int} {tgt : Nat} (hd : decode cc pc = .ok (.goto off, 3)) (ht : (pc : Int) + off = (tgt : Int)) (k : zE g own cc nL ret ini rm mc ms Post tgt lv rest σ sz kc ks) : zE g own cc nL ret ini rm mc ms Post pc lv rest σ sz kc ks := by
  intro p e s m args below meth c hA H locs ls hW hS hl
  exact lv_goto hA.1 hA.2.1 hd ht (k p e s m args below meth c hA H locs ls hW hS hl)
theorem ze_tableIn {dflt lo hi : Int} {offs : Array Int} {len : Nat} {x : Int32} {off : Int} {tgt : Nat} (hd : decode cc pc = .ok (.tableswitch dflt lo hi offs, len)) (h1 : ¬ x.toInt < lo) (h2 : ¬ hi < x.toInt) (ho : offs[(x.toInt - lo).toNat]? = some off) (ht : (pc : Int) + off = (tgt : Int)) (k : zE g own cc nL ret ini rm mc ms Post tgt lv rest σ sz kc ks) : zE g own cc nL ret ini rm mc ms Post pc lv (.int x :: rest) σ sz kc ks := by
  intro p e s m args below meth c hA H locs ls hW hS hl
  exact lv_tableIn hA.1 hA.2.1 hd h1 h2 ho ht (k p e s m args below meth c hA H locs ls hW hS hl)
theorem ze_tableOut {dflt lo hi : Int} {offs : Array Int} {len : Nat} {x : Int32} {tgt : Nat} (hd : decode cc pc = .ok (.tableswitch dflt lo hi offs, len)) (h : x.toInt < lo ∨ hi < x.toInt) (ht : (pc : Int) + dflt = (tgt : Int)) (k : zE g own cc nL ret ini rm mc ms Post tgt lv rest σ sz kc ks) : zE g own cc nL ret ini rm mc ms Post pc lv (.int x :: rest) σ sz kc ks := by
  intro p e s m args below meth c hA H locs ls hW hS hl
  exact lv_tableOut hA.1 hA.2.1 hd h ht (k p e s m args below meth c hA H locs ls hW hS hl)
theorem ze_lookup {dflt : Int} {ps : Array (Int × Int)} {len : Nat} {x : Int32} {off : Int} {tgt : Nat} (hd : decode cc pc = .ok (.lookupswitch dflt ps, len)) (hp : (ps.toList.zip (ps.toList.drop 1)).all (fun (a, next) => a.1 < next.1) = true) (ho : Op.lookupswitch.offset ps.toList dflt x.toInt = off) (ht : (pc : Int) + off = (tgt : Int)) (k : zE g own cc nL ret ini rm mc ms Post tgt lv rest σ sz kc ks) : zE g own cc nL ret ini rm mc ms Post pc lv (.int x :: rest) σ sz kc ks := by
  intro p e s m args below meth c hA H locs ls hW hS hl
  exact lv_lookup hA.1 hA.2.1 hd hp ho ht (k p e s m args below meth c hA H locs ls hW hS hl)
theorem ze_eq {pc' : Nat} {lv' : List (Nat × Value)} {st st' : List Value} {σ' : zx_M} {sz' : Nat} (h1 : pc = pc') (h2 : lv = lv') (h3 : st = st') (h4 : σ = σ') (h5 : sz = sz') (k : zE g own cc nL ret ini rm mc ms Post pc' lv' st' σ' sz' kc ks) : zE g own cc nL ret ini rm mc ms Post pc lv st σ sz kc ks := by
  subst h1; subst h2; subst h3; subst h4; subst h5; exact k
theorem ze_sub {lv' : List (Nat × Value)} {st : List Value} (ks2 : List Nat) (h2 : lv_pick lv ks2 = lv') (k : zE g own cc nL ret ini rm mc ms Post pc lv' st σ sz kc ks) : zE g own cc nL ret ini rm mc ms Post pc lv st σ sz kc ks := by
  intro p e s m args below meth c hA H locs ls hW hS hl
  exact k p e s m args below meth c hA H locs ls hW hS (lv_sub hl ks2 h2)
theorem ze_widen {st : List Value} {kc' ks' : Nat} (h1 : kc ≤ kc') (h2 : ks ≤ ks') (k : zE g own cc nL ret ini rm mc ms Post pc lv st σ sz kc' ks') : zE g own cc nL ret ini rm mc ms Post pc lv st σ sz kc ks := by
  intro p e s m args below meth c hA H locs ls hW hS hl
  exact W.widen h1 h2 (k p e s m args below meth c hA H locs ls hW hS hl)
theorem ze_top {x y : Int32} (h : x = y) (k : zE g own cc nL ret ini rm mc ms Post pc lv (.int y :: rest) σ sz kc ks) : zE g own cc nL ret ini rm mc ms Post pc lv (.int x :: rest) σ sz kc ks := by rw [h]; exact k
/-! returns -/
theorem ze_iret {v : Int32} (hd : decode cc pc = .ok (.ireturn, 1)) (hr : ret = some .int) (h1 : kc ≤ mc) (h2 : ks ≤ ms) (hp : Post (some (.int v)) σ sz) : zE g own cc nL ret ini rm mc ms Post pc lv [.int v] σ sz kc ks := by
  intro p e s m args below meth c hA H locs ls hW hS hl
  refine W.widen (k := mc) (n := ms) h1 h2 ?_
  exact W.iret (v := v) hA.1 hA.2.1 (hA.2.2.1.trans hr) (fun t ht hw => ⟨⟨_, σ, sz, rfl, hp, by rw [ht]; exact hW.moved hw.alike⟩, hS.F ht⟩) hS.2.2 hd hA.2.2.2.2.2.2.1
theorem ze_zret {v : Int32} (hd : decode cc pc = .ok (.ireturn, 1)) (hr : ret = some .boolean) (hv : v = 0 ∨ v = 1) (h1 : kc ≤ mc) (h2 : ks ≤ ms) (hp : Post (some (.int v)) σ sz) : zE g own cc nL ret ini rm mc ms Post pc lv [.int v] σ sz kc ks := by
  intro p e s m args below meth c hA H locs ls hW hS hl
  refine W.widen (k := mc) (n := ms) h1 h2 ?_
  exact W.zret (v := v) (ty := .boolean) hA.1 hA.2.1 (hA.2.2.1.trans hr) (by rcases hv with rfl | rfl <;> decide) (fun t ht hw => ⟨⟨_, σ, sz, rfl, hp, by rw [ht]; exact hW.moved hw.alike⟩, hS.F ht⟩) hS.2.2 hd hA.2.2.2.2.2.2.1
theorem ze_vret (hd : decode cc pc = .ok (.return_, 1)) (hr : ret = none) (h1 : kc ≤ mc) (h2 : ks ≤ ms) (hp : Post none σ sz) : zE g own cc nL ret ini rm mc ms Post pc lv [] σ sz kc ks := by
  intro p e s m args below meth c hA H locs ls hW hS hl
  refine W.widen (k := mc) (n := ms) h1 h2 ?_
  exact W.vret hA.1 hA.2.1 (hA.2.2.1.trans hr) (fun t ht hw => ⟨⟨_, σ, sz, rfl, hp, by rw [ht]; exact hW.moved hw.alike⟩, hS.F ht⟩) hS.2.2 hd hA.2.2.2.2.2.2.1
theorem ze_aret {v : Nat} {rt : FieldType} (hd : decode cc pc = .ok (.areturn, 1)) (hr : ret = some rt) (hrt : (∃ n, rt = .object n) ∨ ∃ t, rt = .array t) (h1 : kc ≤ mc) (h2 : ks ≤ ms) (hp : Post (some (.ref v)) σ sz) : zE g own cc nL ret ini rm mc ms Post pc lv [.ref v] σ sz kc ks := by
  intro p e s m args below meth c hA H locs ls hW hS hl
  refine W.widen (k := mc) (n := ms) h1 h2 ?_
  exact W.aret (v := .ref v) hA.1 hA.2.1 (hA.2.2.1.trans hr) hrt (Or.inr ⟨v, rfl⟩) (fun t ht hw => ⟨⟨_, σ, sz, rfl, hp, by rw [ht]; exact hW.moved hw.alike⟩, hS.F ht⟩) hS.2.2 hd hA.2.2.2.2.2.2.1
/-! fields -/
theorem ze_get {a : Nat} {ref C : String} {T : u_T} {N ci index : Nat} (hin : ∀ w ∈ u_ws C T N, w ∈ zc_T) {fs : List Value} (hc : zc_cl[ci]? = some (C, T, N)) (f : Nat) (hk : f < N) (hlink : Cond.fieldLink own index ref (T f).2.1 (T f).2.2.1 ∈ zc_T) (href : ref = (T f).1) (hd : decode cc pc = .ok (.getfield index, 3)) (he : σ a = some (.inr (ci, fs))) {v : Value} (hv : fs[f]? = some v) (k : zE g own cc nL ret ini rm mc ms Post (pc + 3) lv (v :: rest) σ sz kc ks) : zE g own cc nL ret ini rm mc ms Post pc lv (.ref a :: rest) σ sz kc ks := by
  intro p e s m args below meth c hA H locs ls hW hS hl
  exact va_get hA.1 hA.2.1 hA.2.2.2.2.2.1 hin hA.2.2.2.2.1 hW.2.2.1 (hW.one he) 0 rfl hc f hk (hA.2.2.2.2.2.1 _ hlink) (fun x hx => by rw [href]; exact hx) hv hd (k p e s m args below meth c hA H locs ls hW hS hl)
theorem ze_put {a : Nat} {ref C : String} {T : u_T} {N ci index : Nat} (hin : ∀ w ∈ u_ws C T N, w ∈ zc_T) (ty0 : Nat → FieldType) (hty : ∀ k, k < N → parseFieldDescriptor (T k).2.2.1 = some (ty0 k)) (hnm : ∀ a, a < N → ∀ b, b < N → a ≠ b → (T a).2.1 ≠ (T b).2.1) {fs : List Value} (hc : zc_cl[ci]? = some (C, T, N)) (f : Nat) (hk : f < N) (hlink : Cond.fieldLink own index ref (T f).2.1 (T f).2.2.1 ∈ zc_T) (href : ref = (T f).1) (hfin : (T f).2.2.2 = false ∨ ((T f).2.2.2 = true ∧ ini = true ∧ (T f).1 = own)) {v : Value} (hd : decode cc pc = .ok (.putfield index, 3)) (he : σ a = some (.inr (ci, fs))) (hn : narrow (ty0 f) v = v) (hfit : fits (ty0 f) v = true) (hl9 : f < fs.length) {fs' : List Value} (hfs : fs.set f v = fs') (k : zE g own cc nL ret ini rm mc ms Post (pc + 3) lv rest (zx_up σ a (.inr (ci, fs'))) sz kc ks) : zE g own cc nL ret ini rm mc ms Post pc lv (v :: .ref a :: rest) σ sz kc ks := by
  intro p e s m args below meth c hA H locs ls hW hS hl
  subst hfs
  have hexec := hA.1
  have hb := hA.2.1
  have hown := hA.2.2.2.2.1
  have hts := hA.2.2.2.2.2.1
  have hK := hW.2.2.1
  have hap := va_apart (own := own) hts hin ty0 hty hnm hK hc
  obtain ⟨hbA, r, h1, cell, q1, q2, q3, q4⟩ := hW.2.1 a _ he
  have hr : r = (C, T, N) := Option.some.inj (h1.symm.trans hc)
  subst hr
  obtain ⟨hSl, hfc, kC, hkC, hkind⟩ := hK.1 ci _ hc
  obtain ⟨cf, kf, fi, fd, hi, hsl⟩ := hSl f hk
  have hst := (u_facts hfc hkC (u_lays hts hin hk) hi).1
  have hi' : s.fieldFound? ref (T f).2.1 (T f).2.2.1 = some (cf, kf, fi, fd) := by rw [href]; exact hi
  have fin : ∀ H' : Heap, H'[a]? = some (cell.setSlot fd.slot v) → H'.size = H.size → (∀ q, q ≠ a → H'[q]? = H[q]?) → W p g.1 e rm s m args below meth c H' (locs ++ [⟨a, fd.slot⟩]) kc ks (MQ below (zx_Q g Post) args s mc ms (zx_Fr g)) (F0 m (pc + 3) ls rest) := by
    intro H' e1 e2 e3
    rw [hsl] at e1
    refine k p e s m args below meth c hA H' _ ls (hW.put he ⟨_, hc, t_OB.to (V := updV (vp_V fs) f v) ⟨_, e1, q2, q3, t_set q4 hap hk v⟩ (fun j _ => vp_updV_set hl9 v j)⟩ e2 e3) (hS.put e2 e3 hbA) hl
  have hlay := hts _ (hin _ (u_in_lay hk))
  unfold u_lay at hlay
  rcases hfin with hfin | ⟨hfin, hini, hdecl⟩
  · rw [if_neg (by rw [hfin]; decide)] at hlay
    have h6 := u_store hfc hkC hkind hlay hi (hty f hk) hn hfit
    exact W.putK hexec hb (f := fd) ⟨hown, hts _ hlink, ⟨_, _, _, hi'⟩, hst⟩ (by rw [q2]; exact h6) q1 q3 (by rw [hsl]; exact k2_hasslot (q4 f hk)) rfl rfl hd fin
  · rw [if_pos hfin] at hlay
    have hcf : m.cls = cf := by
      obtain ⟨_, _, c', _, _, _, -, -, hf', -, -, -, hown2, -⟩ := Cond.laysFinal_spec hlay
      have e1 : c' = cf := by have := hi.symm.trans hf'; simp at this; exact this.1.symm
      rw [hdecl] at hown2
      rw [← e1]; exact Option.some.inj (hown.symm.trans hown2)
    have h6 := u_fits hfc hkC hkind (Or.inr hlay) hi (hty f hk) hn hfit
    exact W.putFinK hexec hb hown (hts _ hlink) hi' hst hcf (hA.2.2.2.2.2.2.2.2.1 hini) (by rw [q2]; exact h6) q1 q3 (by rw [hsl]; exact k2_hasslot (q4 f hk)) rfl rfl hd fin
/-! arrays of ints (0), booleans (1), longs (2) -/
theorem ze_iald {a n j : Nat} {f : Nat → Int32} {i : Int32} (hd : decode cc pc = .ok (.iaload, 1)) (he : σ a = some (.inl (g.2.2.2.1 0, n, .inl f))) (hi : i = nI j) (hj : j < n) (hn : n < 2 ^ 31) (k : zE g own cc nL ret ini rm mc ms Post (pc + 1) lv (.int (f j) :: rest) σ sz kc ks) : zE g own cc nL ret ini rm mc ms Post pc lv (.int i :: .ref a :: rest) σ sz kc ks := by
  intro p e s m args below meth c hA H locs ls hW hS hl
  refine va_iald hA.1 hA.2.1 hW.2.2.1 (hW.one he) 0 0 rfl rfl (i := i) (by rw [hi]; exact vp_in_nI hj hn) hd ?_
  rw [hi, nI_clamp (Nat.lt_trans hj hn)]
  exact k p e s m args below meth c hA H locs ls hW hS hl
theorem ze_zald {a n j : Nat} {f : Nat → Int32} {i : Int32} (hd : decode cc pc = .ok (.baload, 1)) (he : σ a = some (.inl (g.2.2.2.1 1, n, .inl f))) (hi : i = nI j) (hj : j < n) (hn : n < 2 ^ 31) (k : zE g own cc nL ret ini rm mc ms Post (pc + 1) lv (.int (f j) :: rest) σ sz kc ks) : zE g own cc nL ret ini rm mc ms Post pc lv (.int i :: .ref a :: rest) σ sz kc ks := by
  intro p e s m args below meth c hA H locs ls hW hS hl
  refine va_zald hA.1 hA.2.1 hW.2.2.1 (hW.one he) 0 1 rfl rfl (i := i) (by rw [hi]; exact vp_in_nI hj hn) hd ?_
  rw [hi, nI_clamp (Nat.lt_trans hj hn)]
  exact k p e s m args below meth c hA H locs ls hW hS hl
theorem ze_bald {a n j : Nat} {f : Nat → Int32} {i : Int32} (hd : decode cc pc = .ok (.baload, 1)) (he : σ a = some (.inl (g.2.2.2.1 4, n, .inl f))) (hi : i = nI j) (hj : j < n) (hn : n < 2 ^ 31) (k : zE g own cc nL ret ini rm mc ms Post (pc + 1) lv (.int (f j) :: rest) σ sz kc ks) : zE g own cc nL ret ini rm mc ms Post pc lv (.int i :: .ref a :: rest) σ sz kc ks := by
  intro p e s m args below meth c hA H locs ls hW hS hl
  refine va_bald hA.1 hA.2.1 hW.2.2.1 (hW.one he) 0 4 rfl rfl (i := i) (by rw [hi]; exact vp_in_nI hj hn) hd ?_
  rw [hi, nI_clamp (Nat.lt_trans hj hn)]
  exact k p e s m args below meth c hA H locs ls hW hS hl
theorem ze_iast {a n j : Nat} {f : Nat → Int32} {i x : Int32} (hd : decode cc pc = .ok (.iastore, 1)) (he : σ a = some (.inl (g.2.2.2.1 0, n, .inl f))) (hi : i = nI j) (hj : j < n) (hn : n < 2 ^ 31) (k : zE g own cc nL ret ini rm mc ms Post (pc + 1) lv rest (zx_up σ a (.inl (g.2.2.2.1 0, n, .inl (upd f j x)))) sz kc ks) : zE g own cc nL ret ini rm mc ms Post pc lv (.int x :: .int i :: .ref a :: rest) σ sz kc ks := by
  intro p e s m args below meth c hA H locs ls hW hS hl
  have hin : vp_in i n := by rw [hi]; exact vp_in_nI hj hn
  have hc : i.toNatClampNeg = j := by rw [hi]; exact nI_clamp (Nat.lt_trans hj hn)
  refine W.iast hA.1 hA.2.1 (hW.2.1 a _ he).2 ((hW.2.2.1.2 0 _ rfl).1 n (fun j => .int (f j))) (fun q => by cases q) (by show ¬ (i < 0 ∨ (arrV _ _ _).slots.size ≤ _); rw [arrV_size]; exact hin) rfl rfl hd fun H1 e1 z oq => ?_
  refine k p e s m args below meth c hA H1 _ ls (hW.put he ?_ z oq) (hS.put z oq (hW.2.1 a _ he).1) hl
  show H1[a]? = some (vp_cell _ _)
  rw [e1, vp_cell_i, vp_cell_i, arrV_store, hc]
  congr 2
  funext q
  by_cases hq : q = j
  · subst hq
    simp [updV, upd]
  · simp [updV, upd, hq]
theorem ze_zast {a n j : Nat} {f : Nat → Int32} {i x : Int32} (hd : decode cc pc = .ok (.bastore, 1)) (he : σ a = some (.inl (g.2.2.2.1 1, n, .inl f))) (hi : i = nI j) (hj : j < n) (hn : n < 2 ^ 31) (hx : vp_nar .boolean x = x) (k : zE g own cc nL ret ini rm mc ms Post (pc + 1) lv rest (zx_up σ a (.inl (g.2.2.2.1 1, n, .inl (upd f j x)))) sz kc ks) : zE g own cc nL ret ini rm mc ms Post pc lv (.int x :: .int i :: .ref a :: rest) σ sz kc ks := by
  intro p e s m args below meth c hA H locs ls hW hS hl
  have hin : vp_in i n := by rw [hi]; exact vp_in_nI hj hn
  have hc : i.toNatClampNeg = j := by rw [hi]; exact nI_clamp (Nat.lt_trans hj hn)
  refine W.zast hA.1 hA.2.1 (hW.2.1 a _ he).2 ((hW.2.2.1.2 1 _ rfl).1 n (fun j => .int (f j))) (fun q => by cases q) (by show ¬ (i < 0 ∨ (arrV _ _ _).slots.size ≤ _); rw [arrV_size]; exact hin) rfl rfl hd fun H1 e1 z oq => ?_
  refine k p e s m args below meth c hA H1 _ ls (hW.put he ?_ z oq) (hS.put z oq (hW.2.1 a _ he).1) hl
  show H1[a]? = some (vp_cell _ _)
  rw [e1, vp_cell_i, vp_cell_i, arrV_store, hc]
  congr 2
  funext q
  by_cases hq : q = j
  · subst hq
    have h9 : narrow .boolean (.int x) = .int (vp_nar .boolean x) := rfl
    simp [updV, upd, h9, hx]
  · simp [updV, upd, hq]
theorem ze_bast {a n j : Nat} {f : Nat → Int32} {i x : Int32} (hd : decode cc pc = .ok (.bastore, 1)) (he : σ a = some (.inl (g.2.2.2.1 4, n, .inl f))) (hi : i = nI j) (hj : j < n) (hn : n < 2 ^ 31) (k : zE g own cc nL ret ini rm mc ms Post (pc + 1) lv rest (zx_up σ a (.inl (g.2.2.2.1 4, n, .inl (upd f j (vp_nar .byte x))))) sz kc ks) : zE g own cc nL ret ini rm mc ms Post pc lv (.int x :: .int i :: .ref a :: rest) σ sz kc ks := by
  intro p e s m args below meth c hA H locs ls hW hS hl
  have hin : vp_in i n := by rw [hi]; exact vp_in_nI hj hn
  have hc : i.toNatClampNeg = j := by rw [hi]; exact nI_clamp (Nat.lt_trans hj hn)
  refine W.bast hA.1 hA.2.1 (hW.2.1 a _ he).2 ((hW.2.2.1.2 4 _ rfl).1 n (fun j => .int (f j))) (fun q => by cases q) (by show ¬ (i < 0 ∨ (arrV _ _ _).slots.size ≤ _); rw [arrV_size]; exact hin) rfl rfl hd fun H1 e1 z oq => ?_
  refine k p e s m args below meth c hA H1 _ ls (hW.put he ?_ z oq) (hS.put z oq (hW.2.1 a _ he).1) hl
  show H1[a]? = some (vp_cell _ _)
  rw [e1, vp_cell_i, vp_cell_i, arrV_store, hc]
  congr 2
  funext q
  by_cases hq : q = j
  · subst hq
    have h9 : narrow .byte (.int x) = .int (vp_nar .byte x) := rfl
    simp [updV, upd, h9]
  · simp [updV, upd, hq]
theorem ze_last {a n j : Nat} {f : Nat → Int64} {i : Int32} {x : Int64} (hd : decode cc pc = .ok (.lastore, 1)) (he : σ a = some (.inl (g.2.2.2.1 2, n, .inr (.inl f)))) (hi : i = nI j) (hj : j < n) (hn : n < 2 ^ 31) (k : zE g own cc nL ret ini rm mc ms Post (pc + 1) lv rest (zx_up σ a (.inl (g.2.2.2.1 2, n, .inr (.inl (vp_updL f j x))))) sz kc ks) : zE g own cc nL ret ini rm mc ms Post pc lv (.long x :: .int i :: .ref a :: rest) σ sz kc ks := by
  intro p e s m args below meth c hA H locs ls hW hS hl
  have hin : vp_in i n := by rw [hi]; exact vp_in_nI hj hn
  have hc : i.toNatClampNeg = j := by rw [hi]; exact nI_clamp (Nat.lt_trans hj hn)
  refine W.last hA.1 hA.2.1 (hW.2.1 a _ he).2 ((hW.2.2.1.2 2 _ rfl).1 n (fun j => .long (f j))) (fun q => by cases q) (by show ¬ (i < 0 ∨ (arrV _ _ _).slots.size ≤ _); rw [arrV_size]; exact hin) rfl rfl hd fun H1 e1 z oq => ?_
  refine k p e s m args below meth c hA H1 _ ls (hW.put he ?_ z oq) (hS.put z oq (hW.2.1 a _ he).1) hl
  show H1[a]? = some (vp_cell _ _)
  rw [e1, vp_cell_l, vp_cell_l, arrV_store, hc]
  congr 2
  funext q
  by_cases hq : q = j
  · subst hq
    simp [updV, vp_updL]
  · simp [updV, vp_updL, hq]
theorem ze_lald {a n j : Nat} {f : Nat → Int64} {i : Int32} (hd : decode cc pc = .ok (.laload, 1)) (he : σ a = some (.inl (g.2.2.2.1 2, n, .inr (.inl f)))) (hi : i = nI j) (hj : j < n) (hn : n < 2 ^ 31) (k : zE g own cc nL ret ini rm mc ms Post (pc + 1) lv (.long (f j) :: rest) σ sz kc ks) : zE g own cc nL ret ini rm mc ms Post pc lv (.int i :: .ref a :: rest) σ sz kc ks := by
  intro p e s m args below meth c hA H locs ls hW hS hl
  refine va_lald hA.1 hA.2.1 hW.2.2.1 (hW.one he) 0 2 rfl rfl (i := i) (by rw [hi]; exact vp_in_nI hj hn) hd ?_
  rw [hi, nI_clamp (Nat.lt_trans hj hn)]
  exact k p e s m args below meth c hA H locs ls hW hS hl
/-- the length of an array of ints -/
theorem ze_alen {a n : Nat} {x : (Nat → Int32) ⊕ (Nat → Int64) ⊕ (Nat → UInt32) ⊕ (Nat → UInt64) ⊕ (Nat → Option Nat)} (t0 : Nat) {cA : ClassId} {ty : FieldType} (ht : (zx_tys g)[t0]? = some (cA, ty)) (hd : decode cc pc = .ok (.arraylength, 1)) (he : σ a = some (.inl (cA, n, x))) (k : zE g own cc nL ret ini rm mc ms Post (pc + 1) lv (.int (nI n) :: rest) σ sz kc ks) : zE g own cc nL ret ini rm mc ms Post pc lv (.ref a :: rest) σ sz kc ks := by
  intro p e s m args below meth c hA H locs ls hW hS hl
  exact va_alen hA.1 hA.2.1 hW.2.2.1 (hW.one he) 0 t0 rfl ht (v := nI n) rfl hd (k p e s m args below meth c hA H locs ls hW hS hl)
/-! static arrays of chars -/
theorem ze_gets {C n ref host : String} {N index : Nat} {f : Nat → Int32} (q : Nat) (hq : zc_st[q]? = some (C, n, N, f)) (hlink : (own, index, ref, n, "[C", host) ∈ zc_NF) (href : ref = C) (hd : decode cc pc = .ok (.getstatic index, 3)) (k : zE g own cc nL ret ini rm mc ms Post (pc + 3) lv (.ref (g.2.2.2.2 q) :: rest) σ sz kc ks) : zE g own cc nL ret ini rm mc ms Post pc lv rest σ sz kc ks := by
  intro p e s m args below meth c hA H locs ls hW hS hl
  exact va_getsN hA.1 hA.2.1 (hA.2.2.2.2.2.2.2.2.2.1 q _ hq).1 hS hA.2.2.2.2.1 (va_Nw.use rfl (hA.2.2.2.2.2.2.2.2.2.2.1 _ hlink)) (fun x hx => by rw [href]; exact hx) hd (k p e s m args below meth c hA H locs ls hW hS hl)
theorem ze_tc {C n : String} {N j : Nat} {f : Nat → Int32} {i : Int32} (q : Nat) (hq : zc_st[q]? = some (C, n, N, f)) (hd : decode cc pc = .ok (.caload, 1)) (hi : i = nI j) (hj : j < N) (hn : N < 2 ^ 31) (k : zE g own cc nL ret ini rm mc ms Post (pc + 1) lv (.int (f j) :: rest) σ sz kc ks) : zE g own cc nL ret ini rm mc ms Post pc lv (.int i :: .ref (g.2.2.2.2 q) :: rest) σ sz kc ks := by
  intro p e s m args below meth c hA H locs ls hW hS hl
  exact va_tc hA.1 hA.2.1 (hA.2.2.2.2.2.2.2.2.2.1 q _ hq).2 hS (i := i) (by rw [hi]; exact vp_in_nI hj hn) (v := .int (f j)) (by rw [hi, nI_clamp (Nat.lt_trans hj hn)]) hd (k p e s m args below meth c hA H locs ls hW hS hl)
theorem ze_tlen {C n : String} {N : Nat} {f : Nat → Int32} (q : Nat) (hq : zc_st[q]? = some (C, n, N, f)) (hd : decode cc pc = .ok (.arraylength, 1)) (k : zE g own cc nL ret ini rm mc ms Post (pc + 1) lv (.int (nI N) :: rest) σ sz kc ks) : zE g own cc nL ret ini rm mc ms Post pc lv (.ref (g.2.2.2.2 q) :: rest) σ sz kc ks := by
  intro p e s m args below meth c hA H locs ls hW hS hl
  exact va_tlen hA.1 hA.2.1 (hA.2.2.2.2.2.2.2.2.2.1 q _ hq).2 hS (v := nI N) rfl hd (k p e s m args below meth c hA H locs ls hW hS hl)
/-! making -/
theorem ze_new {C : String} {T : u_T} {N ci index : Nat} (hin : ∀ w ∈ u_ws C T N, w ∈ zc_T) (ty0 : Nat → FieldType) (hty : ∀ k, k < N → parseFieldDescriptor (T k).2.2.1 = some (ty0 k)) (hc : zc_cl[ci]? = some (C, T, N)) {fs : List Value} (hfs : ∀ j, j < N → defaultValue (ty0 j) = vp_V fs j) (hcl : Cond.classLink own index C ∈ zc_T) (hinst : Cond.instantiable C N ∈ zc_T) (hini : Cond.initialized C ∈ zc_T) (h1 : kc + 1 ≤ rm.cells) (h2 : ks + N ≤ rm.slots) (hd : decode cc pc = .ok (.new index, 3)) (k : g.2.2.1 ≤ sz → zE g own cc nL ret ini rm mc ms Post (pc + 3) lv (.ref sz :: rest) (zx_up σ sz (.inr (ci, fs))) (sz + 1) (kc + 1) (ks + N)) : zE g own cc nL ret ini rm mc ms Post pc lv rest σ sz kc ks := by
  intro p e s m args below meth c hA H locs ls hW hS hl
  have hts := hA.2.2.2.2.2.1
  have hKn := hW.2.2.1.1 ci _ hc
  have hB : g.2.2.1 ≤ sz := by rw [← hW.1]; exact Nat.le_trans hA.2.2.2.2.2.2.2.1 hS.1
  refine W.newcK hA.1 hA.2.1 hA.2.2.2.2.1 (hts _ hcl) (hts _ hinst) (hts _ hini) rfl hd h1 h2 hKn.2.1 hW.1 fun H1 kC hkC e1 z1 o1 => ?_
  refine k hB p e s m args below meth c hA H1 locs ls (hW.push hB ⟨_, hc, (u_born ty0 hts hin hKn hkC e1 hty).to hfs⟩ z1 o1) ⟨by rw [z1]; exact Nat.le_succ_of_le (by rw [← hW.1]; exact hS.1), fun q h3 h4 => ?_, hS.2.2⟩ hl
  rw [o1 q (by rw [← hW.1]; exact Nat.lt_of_lt_of_le h3 hS.1)]
  exact hS.2.1 q h3 h4
theorem ze_newa {atype : ArrayType} {ty : FieldType} {n : Int32} {N : Nat} (t0 : Nat) {cA : ClassId} {x : (Nat → Int32) ⊕ (Nat → Int64) ⊕ (Nat → UInt32) ⊕ (Nat → UInt64) ⊕ (Nat → Option Nat)} (ht : (zx_tys g)[t0]? = some (cA, ty)) (hty : newarray.typeOf atype = ty) (hra : ∀ U : State, va_RA U cA ty → U.vm.findClass ("[" ++ ty.toString) = some cA) (harr : Cond.arrayClass ty ∈ zc_T) (ha : ∀ cB : ClassId, vp_cell cB (N, x) = arrV cB N (fun _ => defaultValue ty)) (hn : n = nI N) (hN : N < 2 ^ 31) (hbytes : N * componentBytes ty ≤ 536870912) (h1 : kc + 1 ≤ rm.cells) (h2 : ks + N ≤ rm.slots) (hd : decode cc pc = .ok (.newarray atype, 2)) (k : g.2.2.1 ≤ sz → zE g own cc nL ret ini rm mc ms Post (pc + 2) lv (.ref sz :: rest) (zx_up σ sz (.inl (cA, N, x))) (sz + 1) (kc + 1) (ks + N)) : zE g own cc nL ret ini rm mc ms Post pc lv (.int n :: rest) σ sz kc ks := by
  intro p e s m args below meth c hA H locs ls hW hS hl
  subst hty
  have hts := hA.2.2.2.2.2.1
  have hB : g.2.2.1 ≤ sz := by rw [← hW.1]; exact Nat.le_trans hA.2.2.2.2.2.2.2.1 hS.1
  refine va_newaK hA.1 hA.2.1 (hts _ harr) rfl hd rfl (by rw [hn]; exact nI_pos hN) (by rw [hn]; exact nI_clamp hN) hbytes h1 h2 hW.1 fun H1 cB e1 z1 o1 hAr hNm => ?_
  have hcc : cB = cA := Option.some.inj (hNm.symm.trans (hra s (hW.2.2.1.2 t0 _ ht).2))
  subst hcc
  refine k hB p e s m args below meth c hA H1 locs ls (hW.push hB ?_ z1 o1) ⟨by rw [z1]; exact Nat.le_succ_of_le (by rw [← hW.1]; exact hS.1), fun q h3 h4 => ?_, hS.2.2⟩ hl
  · show H1[sz]? = some (vp_cell _ _)
    rw [ha]
    exact e1
  · rw [o1 q (by rw [← hW.1]; exact Nat.lt_of_lt_of_le h3 hS.1)]
    exact hS.2.1 q h3 h4
theorem ze_objInit {a idx : Nat} (hlink : Cond.methodLink own idx Lib.objectInit ∈ zc_T) (hinst : Cond.instanceMethod Lib.objectInit ∈ zc_T) (hcode : Cond.code Lib.objectInit ⟨#[0xb1]⟩ 1 none ∈ zc_T) (hd : decode cc pc = .ok (.invokespecial idx, 3)) (h1 : 1 ≤ rm.frames) (h2 : (rest.map fun v => v.category).sum + 12 ≤ rm.locals) (k : zE g own cc nL ret ini rm mc ms Post (pc + 3) lv rest σ sz kc ks) : zE g own cc nL ret ini rm mc ms Post pc lv (.ref a :: rest) σ sz kc ks := by
  intro p e s m args below meth c hA H locs ls hW hS hl
  have hts := hA.2.2.2.2.2.1
  refine W.objInit hA.1 hA.2.1 hA.2.2.2.2.1 (hts _ hlink) (hts _ hinst) (hts _ hcode) rfl (by rw [hA.2.2.2.1]; exact hl.1) rfl hd h1 ?_ ?_
  · show 2 * 0 + _ + 12 ≤ _
    rw [Nat.mul_zero, Nat.zero_add]
    exact h2
  · exact W.eq (g2 := F0 m (pc + 3) ls rest) rfl (k p e s m args below meth c hA H locs ls hW hS hl)
/-! calls -/
def zPi (P : Int32 → zx_M → Nat → Prop) : Option Value → zx_M → Nat → Prop := fun r σ sz => ∃ v : Int32, r = some (.int v) ∧ P v σ sz
def zPv (P : zx_M → Nat → Prop) : Option Value → zx_M → Nat → Prop := fun r σ sz => r = none ∧ P σ sz
def zPr (P : Nat → zx_M → Nat → Prop) : Option Value → zx_M → Nat → Prop := fun r σ sz => ∃ v : Nat, r = some (.ref v) ∧ P v σ sz
theorem ze_run {st0 : List Value} {mc' ms' : Nat} {Post' : Option Value → zx_M → Nat → Prop} {av : Array Value}
    (hr : ∀ (p : Program) (e : Env) (s : State) (m : MethodId) (args : Array Value) (below : List Frame) (meth : Method) (c : Code), zx_A g own cc nL ret ini p s m args meth c → ∀ (H : Heap) (locs : List Loc) (ls : Array Slot), zx_W g σ sz s H → va_S (zx_Fr g) s.heap H locs → lv_has ls nL lv → va_Run p g.1 e rm s m args below meth c H locs kc ks mc' ms' (F0 m pc ls st0) rest (zx_Q g Post' av) (zx_Fr g))
    (k : ∀ r σ' sz', Post' r σ' sz' → zE g own cc nL ret ini rm mc ms Post (pc + 3) lv (r.toList ++ rest) σ' sz' (kc + mc') (ks + ms')) : zE g own cc nL ret ini rm mc ms Post pc lv st0 σ sz kc ks := by
  intro p e s m args below meth c hA H locs ls hW hS hl
  intro T hT X
  obtain ⟨v, st₀, t, T', L, h0, X', hL, e1, e2, ⟨⟨r, σ', sz', hv, hp, hw⟩, hz, hk⟩, st⟩ := hr p e s m args below meth c hA H locs ls hW hS hl T hT X
  cases hv
  rw [h0] at hz hk
  have hal : s.vm.Alike t.vm := by rw [← e2]; exact X'.warmed.alike
  have hw' : zx_W g σ' sz' s T'.heap := by rw [e1]; exact hw.moved hal.symm
  obtain ⟨t2, a1, b1⟩ := k v σ' sz' hp p e s m args below meth c hA T'.heap (locs ++ L) ls hw'
    ⟨Nat.le_trans hS.1 (by rw [e1]; exact hz), fun q h1 h2 => by rw [e1, hk q (Nat.lt_of_lt_of_le h1 hS.1) h2]; exact hS.2.1 q h1 h2, fun q hq => by
      rcases List.mem_append.mp hq with h | h
      · exact hS.2.2 q h
      · exact hL q h⟩ hl T' rfl X'
  exact ⟨t2, st t2 a1, b1⟩
/-- what a call needs of the tables: the callee's name, its code's bytes, and how many arguments -/
def zx_y (y : MethodName) (bytes : ByteArray) (maxL : Nat) (r : Option FieldType) (n : Nat) : Prop := Cond.code y bytes maxL r ∈ zc_T ∧ Cond.initialized y.cls ∈ zc_T ∧ (y.cls ≠ "java/lang/invoke/MethodHandle" ∧ y.cls ≠ "java/lang/invoke/VarHandle" ∧ (parseMethodDescriptor y.desc).map (fun d => d.parameters.length) = some n)
theorem zx_good {y : MethodName} {bytes : ByteArray} {maxL : Nat} {r : Option FieldType} (h : Cond.code y bytes maxL r ∈ zc_T) : GoodIn zc_T (.code y bytes maxL r :: zc_T) := by
  intro w hw
  rcases List.mem_cons.mp hw with rfl | hw
  · exact zc_good _ h
  · exact zc_good _ hw
theorem ze_callV {y : MethodName} {bytes : ByteArray} {maxL index n : Nat} {r : Option FieldType} {rm' : Room} {b : Nat} {As : List Value} {ci : Nat} {q : vw_C} {fs : List Value} {Post' : Option Value → zx_M → Nat → Prop} {st0 : List Value}
    (hM : zM g y bytes maxL r rm' rm'.cells rm'.slots (.ref b :: As) σ sz Post') (hy : zx_y y bytes maxL r n) (hlink : Cond.methodLink own index y ∈ zc_T) (hinst : Cond.instanceMethod y ∈ zc_T) (hsel : Cond.selects y.cls y y ∈ zc_T) (hcl : zc_cl[ci]? = some q) (hq : q.1 = y.cls)
    (hR : rm'.frames + 1 ≤ rm.frames ∧ 8 + (maxL + 11) + rm'.locals ≤ rm.locals) (hf : kc + rm'.cells ≤ rm.cells ∧ ks + rm'.slots ≤ rm.slots) (hd : decode cc pc = .ok (.invokevirtual index, 3)) (he : σ b = some (.inr (ci, fs))) (hst : st0 = As.reverse ++ .ref b :: rest) (hn : As.length = n) (hrest : (rest.map fun v => v.category).sum ≤ 8)
    (k : ∀ r σ' sz', Post' r σ' sz' → zE g own cc nL ret ini rm mc ms Post (pc + 3) lv (r.toList ++ rest) σ' sz' (kc + rm'.cells) (ks + rm'.slots)) : zE g own cc nL ret ini rm mc ms Post pc lv st0 σ sz kc ks := by
  refine ze_run (av := (Value.ref b :: As).toArray) (mc' := rm'.cells) (ms' := rm'.slots) ?_ k
  intro p e s m args below meth c hA H locs ls hW hS hl
  have hts := hA.2.2.2.2.2.1
  have hcw : CallW rm s args own y.cls index y bytes maxL r (.code y bytes maxL r :: zc_T) rm' rm'.cells rm'.slots n := ⟨callB_of n hts (zx_good hy.1) rfl rfl rfl (hts _ hy.2.1) (hts _ hlink) hy.2.2 hR, hts _ hinst, hts _ hsel⟩
  subst hst
  exact va_runV (g := F0 m pc ls _) ⟨hA.1, hA.2.1, hA.2.2.2.1, hA.2.2.2.2.1, hts⟩ hM hcw ⟨zx_blind, by rw [← hq]; exact va_recv hW.2.2.1 (hW.one he) hcl (q0 := 0) rfl, fun U hU hw => ⟨rfl, by rw [hU]; exact hW.moved hw.alike, by rw [← hW.1]; exact Nat.le_trans hA.2.2.2.2.2.2.2.1 hS.1, hA.2.2.2.2.2.2.2.2.2.2.warm hw⟩⟩ rfl hn hl.1 rfl (lv_room hrest) hd hf
theorem ze_callS {y : MethodName} {bytes : ByteArray} {maxL index n : Nat} {r : Option FieldType} {rm' : Room} {As : List Value} {Post' : Option Value → zx_M → Nat → Prop} {st0 : List Value}
    (hM : zM g y bytes maxL r rm' rm'.cells rm'.slots As σ sz Post') (hy : zx_y y bytes maxL r n) (hlink : Cond.methodLink own index y ∈ zc_T) (hstat : Cond.static y ∈ zc_T)
    (hR : rm'.frames + 1 ≤ rm.frames ∧ 8 + (maxL + 11) + rm'.locals ≤ rm.locals) (hf : kc + rm'.cells ≤ rm.cells ∧ ks + rm'.slots ≤ rm.slots) (hd : decode cc pc = .ok (.invokestatic index, 3)) (hst : st0 = As.reverse ++ rest) (hn : As.length = n) (hrest : (rest.map fun v => v.category).sum ≤ 8)
    (k : ∀ r σ' sz', Post' r σ' sz' → zE g own cc nL ret ini rm mc ms Post (pc + 3) lv (r.toList ++ rest) σ' sz' (kc + rm'.cells) (ks + rm'.slots)) : zE g own cc nL ret ini rm mc ms Post pc lv st0 σ sz kc ks := by
  refine ze_run (av := As.toArray) (mc' := rm'.cells) (ms' := rm'.slots) ?_ k
  intro p e s m args below meth c hA H locs ls hW hS hl
  have hts := hA.2.2.2.2.2.1
  have hcw : CallB rm s args own index y bytes maxL r (.code y bytes maxL r :: zc_T) rm' rm'.cells rm'.slots n ∧ (Cond.static y).before args s = true := ⟨callB_of n hts (zx_good hy.1) rfl rfl rfl (hts _ hy.2.1) (hts _ hlink) hy.2.2 hR, hts _ hstat⟩
  subst hst
  exact va_runS (g := F0 m pc ls _) ⟨hA.1, hA.2.1, hA.2.2.2.1, hA.2.2.2.2.1, hts⟩ hM hcw ⟨zx_blind, fun U hU hw => ⟨rfl, by rw [hU]; exact hW.moved hw.alike, by rw [← hW.1]; exact Nat.le_trans hA.2.2.2.2.2.2.2.1 hS.1, hA.2.2.2.2.2.2.2.2.2.2.warm hw⟩⟩ rfl hn hl.1 rfl (lv_room hrest) hd hf
theorem ze_callSN {y : MethodName} {bytes : ByteArray} {maxL index n : Nat} {r : Option FieldType} {rm' : Room} {host : String} {As : List Value} {Post' : Option Value → zx_M → Nat → Prop} {st0 : List Value}
    (hM : zM g y bytes maxL r rm' rm'.cells rm'.slots As σ sz Post') (hy : zx_y y bytes maxL r n) (hlink : (own, index, y, host) ∈ zc_NM) (hstat : Cond.static y ∈ zc_T)
    (hR : rm'.frames + 1 ≤ rm.frames ∧ 8 + (maxL + 11) + rm'.locals ≤ rm.locals) (hf : kc + rm'.cells ≤ rm.cells ∧ ks + rm'.slots ≤ rm.slots) (hd : decode cc pc = .ok (.invokestatic index, 3)) (hst : st0 = As.reverse ++ rest) (hn : As.length = n) (hrest : (rest.map fun v => v.category).sum ≤ 8)
    (k : ∀ r σ' sz', Post' r σ' sz' → zE g own cc nL ret ini rm mc ms Post (pc + 3) lv (r.toList ++ rest) σ' sz' (kc + rm'.cells) (ks + rm'.slots)) : zE g own cc nL ret ini rm mc ms Post pc lv st0 σ sz kc ks := by
  refine ze_run (av := As.toArray) (mc' := rm'.cells) (ms' := rm'.slots) ?_ k
  intro p e s m args below meth c hA H locs ls hW hS hl
  have hts := hA.2.2.2.2.2.1
  have hN := hA.2.2.2.2.2.2.2.2.2.2
  have hcw : va_CN rm s args own index y host bytes maxL r (.code y bytes maxL r :: zc_T) rm' rm'.cells rm'.slots n ∧ (Cond.static y).before args s = true ∧ True := ⟨va_cnB n hts (zx_good hy.1) rfl rfl rfl (hN.2 _ hlink) (hts _ hy.2.1) hy.2.2 hR, hts _ hstat, trivial⟩
  subst hst
  exact va_runSN (g := F0 m pc ls _) ⟨hA.1, hA.2.1, hA.2.2.2.1, hA.2.2.2.2.1, hts⟩ hM hcw ⟨zx_blind, fun U hU hw => ⟨rfl, by rw [hU]; exact hW.moved hw.alike, by rw [← hW.1]; exact Nat.le_trans hA.2.2.2.2.2.2.2.1 hS.1, hN.warm hw⟩⟩ rfl hn hl.1 rfl (lv_room hrest) hd hf
theorem ze_callIN {y : MethodName} {bytes : ByteArray} {maxL index n : Nat} {rm' : Room} {host : String} {b : Nat} {As : List Value} {Post' : Option Value → zx_M → Nat → Prop} {st0 : List Value}
    (hM : zM g y bytes maxL none rm' rm'.cells rm'.slots (.ref b :: As) σ sz Post') (hy : zx_y y bytes maxL none n) (hname : y.name = "<init>") (hlink : (own, index, y, host) ∈ zc_NM) (hinst : Cond.instanceMethod y ∈ zc_T)
    (hR : rm'.frames + 1 ≤ rm.frames ∧ 8 + (maxL + 11) + rm'.locals ≤ rm.locals) (hf : kc + rm'.cells ≤ rm.cells ∧ ks + rm'.slots ≤ rm.slots) (hd : decode cc pc = .ok (.invokespecial index, 3)) (hst : st0 = As.reverse ++ .ref b :: rest) (hn : As.length = n) (hrest : (rest.map fun v => v.category).sum ≤ 8)
    (k : ∀ r σ' sz', Post' r σ' sz' → zE g own cc nL ret ini rm mc ms Post (pc + 3) lv (r.toList ++ rest) σ' sz' (kc + rm'.cells) (ks + rm'.slots)) : zE g own cc nL ret ini rm mc ms Post pc lv st0 σ sz kc ks := by
  refine ze_run (av := (Value.ref b :: As).toArray) (mc' := rm'.cells) (ms' := rm'.slots) ?_ k
  intro p e s m args below meth c hA H locs ls hW hS hl
  have hts := hA.2.2.2.2.2.1
  have hN := hA.2.2.2.2.2.2.2.2.2.2
  have hcw : va_CN rm s args own index y host bytes maxL none (.code y bytes maxL none :: zc_T) rm' rm'.cells rm'.slots n ∧ y.name = "<init>" ∧ (Cond.instanceMethod y).before args s = true := ⟨va_cnB n hts (zx_good hy.1) rfl rfl rfl (hN.2 _ hlink) (hts _ hy.2.1) hy.2.2 hR, hname, hts _ hinst⟩
  subst hst
  exact va_runIN (g := F0 m pc ls _) ⟨hA.1, hA.2.1, hA.2.2.2.1, hA.2.2.2.2.1, hts⟩ hM hcw ⟨zx_blind, fun U hU hw => ⟨rfl, by rw [hU]; exact hW.moved hw.alike, by rw [← hW.1]; exact Nat.le_trans hA.2.2.2.2.2.2.2.1 hS.1, hN.warm hw⟩⟩ rfl hn hl.1 rfl (lv_room hrest) hd hf
theorem ze_callI {y : MethodName} {bytes : ByteArray} {maxL index n : Nat} {rm' : Room} {b : Nat} {As : List Value} {Post' : Option Value → zx_M → Nat → Prop} {st0 : List Value}
    (hM : zM g y bytes maxL none rm' rm'.cells rm'.slots (.ref b :: As) σ sz Post') (hy : zx_y y bytes maxL none n) (hname : y.name = "<init>") (hlink : Cond.methodLink own index y ∈ zc_T) (hinst : Cond.instanceMethod y ∈ zc_T)
    (hR : rm'.frames + 1 ≤ rm.frames ∧ 8 + (maxL + 11) + rm'.locals ≤ rm.locals) (hf : kc + rm'.cells ≤ rm.cells ∧ ks + rm'.slots ≤ rm.slots) (hd : decode cc pc = .ok (.invokespecial index, 3)) (hst : st0 = As.reverse ++ .ref b :: rest) (hn : As.length = n) (hrest : (rest.map fun v => v.category).sum ≤ 8)
    (k : ∀ r σ' sz', Post' r σ' sz' → zE g own cc nL ret ini rm mc ms Post (pc + 3) lv (r.toList ++ rest) σ' sz' (kc + rm'.cells) (ks + rm'.slots)) : zE g own cc nL ret ini rm mc ms Post pc lv st0 σ sz kc ks := by
  refine ze_run (av := (Value.ref b :: As).toArray) (mc' := rm'.cells) (ms' := rm'.slots) ?_ k
  intro p e s m args below meth c hA H locs ls hW hS hl
  have hts := hA.2.2.2.2.2.1
  have hcw : CallB rm s args own index y bytes maxL none (.code y bytes maxL none :: zc_T) rm' rm'.cells rm'.slots n ∧ y.name = "<init>" ∧ (Cond.instanceMethod y).before args s = true := ⟨callB_of n hts (zx_good hy.1) rfl rfl rfl (hts _ hy.2.1) (hts _ hlink) hy.2.2 hR, hname, hts _ hinst⟩
  subst hst
  exact va_runI (g := F0 m pc ls _) ⟨hA.1, hA.2.1, hA.2.2.2.1, hA.2.2.2.2.1, hts⟩ hM hcw ⟨zx_blind, fun U hU hw => ⟨rfl, by rw [hU]; exact hW.moved hw.alike, by rw [← hW.1]; exact Nat.le_trans hA.2.2.2.2.2.2.2.1 hS.1, hA.2.2.2.2.2.2.2.2.2.2.warm hw⟩⟩ rfl hn hl.1 rfl (lv_room hrest) hd hf
end ZE
