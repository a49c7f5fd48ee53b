/-! THROWING. A walk may be taken up anew at the state that it has reached -/
theorem zx_base {p : Program} {l : Launch} {e : Env} {R R' : Room} {s : State} {m : MethodId} {args : Array Value} {below : List Frame} {meth : Method} {c : Code} {T : State} {locs : List Loc} {cells slots : Nat}
    (X : Stand p l e R s m args below meth c T locs cells slots) (h1 : R'.frames = R.frames) (h2 : R'.locals = R.locals) (h3 : cells + R'.cells ≤ R.cells) (h4 : slots + R'.slots ≤ R.slots) :
    Stand p l e R' (T.setFrames (.invoking m args :: below)) m args below meth c T [] 0 0 := by
  obtain ⟨g₀, hfr⟩ := X.frames_eq
  obtain ⟨th, hth, -⟩ := State.frames_cons hfr
  have hcur : T.cur < T.threads.size := State.cur_lt_of_frames hfr
  have hf : (T.setFrames (.invoking m args :: below)).frames = .invoking m args :: below := State.frames_setFrames _ hcur
  have hm : (T.setFrames (.invoking m args :: below)).vm.method? m = some meth := X.method'
  have hTT : (T.setFrames (.invoking m args :: below)).setFrames T.frames = T := by rw [State.setFrames_setFrames, State.setFrames_self hth]
  refine ⟨X.admits, X.cas, X.clock, hf, ?_, ?_, hm, X.code, X.here, X.tail, State.WarmedH.refl _, (State.stackLimits_setFrames _ _ _).symm, (State.stackBytes_setFrames _ _).symm, ?_⟩
  · have hr := X.room
    simp only [State.hasRoom, Bool.and_eq_true, decide_eq_true_eq] at hr ⊢
    obtain ⟨⟨⟨⟨r1, r2, r3, r4, r5, r6⟩, r7⟩, r8⟩, r9⟩ := hr
    rw [State.localsInUse_invoking hf hm X.code, hf, State.stackLimits_setFrames, State.stackBytes_setFrames, h1, h2]
    rw [State.localsInUse_invoking X.frames X.method X.code] at r1 r4 r5
    rw [X.frames] at r2 r3
    rw [X.limits, X.bytes]
    refine ⟨⟨⟨⟨r1, r2, r3, r4, r5, r6⟩, ?_⟩, ?_⟩, ?_⟩
    · have := X.heapSize
      show T.heap.size + R'.cells ≤ _
      omega
    · have := X.used
      show T.slotsUsed + R'.slots ≤ _
      omega
    · exact X.book
  · have hh := X.hears
    unfold State.hears at hh ⊢
    cases below with
    | nil => rw [hm]; rw [X.method] at hh; exact hh
    | cons f r =>
      cases f with
      | java g =>
        simp only at hh ⊢
        rw [State.code?_eq] at hh ⊢
        have : (T.setFrames (.invoking m args :: .java g :: r)).vm.method? g.method = s.vm.method? g.method := X.warmed.alike.method? _
        rw [this]; exact hh
      | native _ => rfl
      | proc _ => rfl
      | _ => simp only at hh ⊢; rw [hm]; rw [X.method] at hh; exact hh
  · have h := (State.sameButNew.refl (T.setFrames (.invoking m args :: below)) (x := { th with frames := .invoking m args :: below }) ?_).setFrames T.frames (by simpa [State.setFrames] using hcur)
    · rw [hTT] at h
      exact h
    · simp [State.setFrames, Array.getElem?_modify, hth]
