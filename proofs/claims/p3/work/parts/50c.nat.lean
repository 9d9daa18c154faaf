/-! ===== Math's entries that run instead of bytecode: abs, max, min of floats that are no NaNs ===== -/
theorem n_over {tb : Tables} {e : Env} {S : State} {m : MethodId} {args : Array Value} {L : Nat} {k : Class} {meth : Method} {row : NativeRow} (hk : S.vm.classes[m.cls]? = some k) (hx : k.methods[m.idx]? = some meth) (hboot : k.loader = none) (hkn : k.name = "java/lang/Math") (hrow : NativeRow.find? tb.natives "java/lang/Math" meth.name meth.desc = some row) : overridden tb e S (entryFrame m args L) = some row := by
  unfold overridden entryFrame
  simp only [bne_self_eq_false, Bool.false_eq_true, if_false, hk, hx, hboot, hkn, hrow]
  simp [overriddenIn]
/-- a call of such a method: v is what its entry answers -/
theorem n_call (p : Program) {e : Env} {below : List Frame} {s target : State} {g : JFrame} {c : Code} (h : At s g.method c below) (acts : List Action) {m : MethodId} {meth : Method} {k : Class} {cm : Code} {args : Array Value} {v : Value} {row : NativeRow} {L : Nat}
    (hk : s.vm.classes[m.cls]? = some k) (hx : k.methods[m.idx]? = some meth) (hboot : k.loader = none) (hkn : k.name = "java/lang/Math") (hrow : NativeRow.find? p.tables.natives "java/lang/Math" meth.name meth.desc = some row)
    (hc : meth.code = some cm) (hml : cm.maxLocals = L) (hl : meth.locks = false)
    (hfull : e.platform.stackFull (((s.setTop g).threads[(s.setTop g).cur]?).getD { frames := [] }) (s.setTop g).frames L = false)
    (hgiv : ((entryFrame m args L).locals.toList.filterMap fun | .val v => some v | _ => none).toArray.extract 0 (meth.sig.parameters.length + (if meth.isStatic then 0 else 1)) = args)
    (hrun : ∀ S : State, ∃ acts, (row.sem args).run e S = .ok (some v) S acts)
    {ig : Instr} {len : Nat} (hdg : decode c.code g.pc = .ok (ig, len)) (hrest : Steps p.tables e below (s.setTop { g with pc := g.pc + len, stack := v :: g.stack }) target) :
    Steps p.tables e below (doInvoke e (s.setTop g) acts m args).1 target := by
  obtain ⟨g₀, hg⟩ := Option.isSome_iff_exists.mp h.top
  obtain ⟨r, hr⟩ := State.topJava?_eq_some.mp hg
  obtain ⟨mid, hmid⟩ := h.above
  have hcur : s.cur < s.threads.size := State.cur_lt_of_frames hr
  have hm : s.vm.method? m = some meth := by simp [Vm.method?, hk, hx]
  rw [(doInvoke_java (s := s.setTop g) (e := e) (acts := acts) (args := args) (meth := meth) (code := cm) hm hc hl (by rw [hml]; exact hfull)).1, hml]
  have hS : (s.setTop g).pushFrame (.java (entryFrame m args L)) = s.setFrames (.java (entryFrame m args L) :: .java g :: r) := by
    rw [State.pushFrame, State.frames_setTop _ hr, State.setTop_of_frames _ hr, State.setFrames_setFrames]
  show Steps p.tables e below ((s.setTop g).pushFrame (.java (entryFrame m args L))) target
  rw [hS]
  have hf1 : (s.setFrames (.java (entryFrame m args L) :: .java g :: r)).frames = .java (entryFrame m args L) :: .java g :: r := State.frames_setFrames _ hcur
  have hov : overridden p.tables e (s.setFrames (.java (entryFrame m args L) :: .java g :: r)) (entryFrame m args L) = some row := n_over hk hx hboot hkn hrow
  have hac : argCount (s.setFrames (.java (entryFrame m args L) :: .java g :: r)) m = meth.sig.parameters.length + (if meth.isStatic then 0 else 1) := by
    unfold argCount
    have : ((s.setFrames (.java (entryFrame m args L) :: .java g :: r)).vm.classes[m.cls]?).bind (fun y => y.methods[m.idx]?) = some meth := by
      show (s.vm.classes[m.cls]?).bind (fun y => y.methods[m.idx]?) = some meth
      rw [hk]
      exact hx
    rw [this]
  obtain ⟨acts2, hr2⟩ := hrun (s.setFrames (.native { method := m, args := args, locked := none } :: .java g :: r))
  have hcode : ∀ F : List Frame, (s.setFrames F).code? g.method = some c := by
    intro F
    have := h.code
    rw [State.code?_eq] at this ⊢
    simpa [State.setFrames] using this
  have hfs : handOver (s.setFrames (.native { method := m, args := args, locked := none } :: .java g :: r)) (some v) (.java g :: r) = some (.java { g with pc := g.pc + len, stack := v :: g.stack } :: r) := by
    simp [handOver, hcode, hdg, Except.toOption]
  have hstep : (stepThread p.tables e (s.setFrames (.java (entryFrame m args L) :: .java g :: r))).1 = s.setTop { g with pc := g.pc + len, stack := v :: g.stack } := by
    unfold stepThread
    rw [hf1]
    simp only [hov]
    rw [show (entryFrame m args L).method = m from rfl, hac]
    generalize hG : Array.extract _ 0 (meth.sig.parameters.length + (if meth.isStatic then 0 else 1)) = G
    have hG2 : G = args := hG.symm.trans hgiv
    rw [hG2, show (entryFrame m args L).locked = none from rfl, State.setFrames_setFrames, hr2]
    show (doReturn e _ acts2 (some v)).1 = _
    rw [doReturn_native (f := { method := m, args := args, locked := none }) (State.frames_setFrames _ hcur) rfl hfs, State.setFrames_setFrames, ← State.setTop_of_frames _ hr]
  refine Steps.head ⟨h.running, by simpa using h.runnable, by simpa using h.alone⟩ ⟨.java (entryFrame m args L) :: .java g :: mid, by rw [hf1]; rw [hr] at hmid; simp at hmid; simp [hmid], by simp, by simp⟩ ?_
  rw [hstep]
  exact hrest
