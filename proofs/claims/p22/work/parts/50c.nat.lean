/-! ===== Math's entries that run instead of bytecode: abs, max, min of floats that are no NaNs ===== -/
theorem n_over {tb : Tables} {e : Env} {S : State} {m : MethodId} {args : Array Value} {L : Nat} {k : Class} {meth : Method} {row : NativeRow} (hk : S.vm.classes[m.cls]? = some k) (hx : k.methods[m.idx]? = some meth) (hboot : k.loader = none) (hkn : k.name = "java/lang/Math") (hrow : NativeRow.find? tb.natives "java/lang/Math" meth.name meth.desc = some row) : overridden tb e S (entryFrame m args L) = some row := by
  unfold overridden entryFrame
  simp only [bne_self_eq_false, Bool.false_eq_true, if_false, hk, hx, hboot, hkn, hrow]
  simp [overriddenIn]
/-- a call of such a method: v is what its entry answers -/
theorem n_call (p : Program) {e : Env} {below : List Frame} {s target : State} {g : JFrame} {c : Code} (h : At s g.method c below) (acts : List Action) {m : MethodId} {meth : Method} {k : Class} {cm : Code} {args : Array Value} {v : Value} {row : NativeRow} {L : Nat}
    (hk : s.vm.classes[m.cls]? = some k) (hx : k.methods[m.idx]? = some meth) (hboot : k.loader = none) (hkn : k.name = "java/lang/Math") (hrow : NativeRow.find? p.tables.natives "java/lang/Math" meth.name meth.desc = some row)
    (hc : meth.code = some cm) (hml : cm.maxLocals = L) (hl : meth.locks = false)
    (hfull : e.platform.stackFull (((s.setTop g).threads[(s.setTop g).cur]?).getD { frames := [] }) (s.setTop g).frames L = false)
    (hgiv : ((entryFrame m args L).locals.toList.filterMap fun | .val v => some v | _ => none).toArray.extract 0 (meth.sig.parameters.length + (if meth.isStatic then 0 else 1)) = args)
    (hrun : ∀ S : State, ∃ acts, (row.sem args).run e S = .ok (some v) S acts)
    {ig : Instr} {len : Nat} (hdg : decode c.code g.pc = .ok (ig, len)) (hrest : Steps p.tables e below (s.setTop { g with pc := g.pc + len, stack := v :: g.stack }) target) :
    Steps p.tables e below (doInvoke e (s.setTop g) acts m args).1 target := by
  obtain ⟨g₀, hg⟩ := Option.isSome_iff_exists.mp h.top
  obtain ⟨r, hr⟩ := State.topJava?_eq_some.mp hg
  obtain ⟨mid, hmid⟩ := h.above
  have hcur : s.cur < s.threads.size := State.cur_lt_of_frames hr
  have hm : s.vm.method? m = some meth := by simp [Vm.method?, hk, hx]
  rw [(doInvoke_java (s := s.setTop g) (e := e) (acts := acts) (args := args) (meth := meth) (code := cm) hm hc hl (by rw [hml]; exact hfull)).1, hml]
  have hS : (s.setTop g).pushFrame (.java (entryFrame m args L)) = s.setFrames (.java (entryFrame m args L) :: .java g :: r) := by
    rw [State.pushFrame, State.frames_setTop _ hr, State.setTop_of_frames _ hr, State.setFrames_setFrames]
  show Steps p.tables e below ((s.setTop g).pushFrame (.java (entryFrame m args L))) target
  rw [hS]
  have hf1 : (s.setFrames (.java (entryFrame m args L) :: .java g :: r)).frames = .java (entryFrame m args L) :: .java g :: r := State.frames_setFrames _ hcur
  have hov : overridden p.tables e (s.setFrames (.java (entryFrame m args L) :: .java g :: r)) (entryFrame m args L) = some row := n_over hk hx hboot hkn hrow
  have hac : argCount (s.setFrames (.java (entryFrame m args L) :: .java g :: r)) m = meth.sig.parameters.length + (if meth.isStatic then 0 else 1) := by
    unfold argCount
    have : ((s.setFrames (.java (entryFrame m args L) :: .java g :: r)).vm.classes[m.cls]?).bind (fun y => y.methods[m.idx]?) = some meth := by
      show (s.vm.classes[m.cls]?).bind (fun y => y.methods[m.idx]?) = some meth
      rw [hk]
      exact hx
    rw [this]
  obtain ⟨acts2, hr2⟩ := hrun (s.setFrames (.native { method := m, args := args, locked := none } :: .java g :: r))
  have hcode : ∀ F : List Frame, (s.setFrames F).code? g.method = some c := by
    intro F
    have := h.code
    rw [State.code?_eq] at this ⊢
    simpa [State.setFrames] using this
  have hfs : handOver (s.setFrames (.native { method := m, args := args, locked := none } :: .java g :: r)) (some v) (.java g :: r) = some (.java { g with pc := g.pc + len, stack := v :: g.stack } :: r) := by
    simp [handOver, hcode, hdg, Except.toOption]
  have hstep : (stepThread p.tables e (s.setFrames (.java (entryFrame m args L) :: .java g :: r))).1 = s.setTop { g with pc := g.pc + len, stack := v :: g.stack } := by
    unfold stepThread
    rw [hf1]
    simp only [hov]
    rw [show (entryFrame m args L).method = m from rfl, hac]
    generalize hG : Array.extract _ 0 (meth.sig.parameters.length + (if meth.isStatic then 0 else 1)) = G
    have hG2 : G = args := hG.symm.trans hgiv
    rw [hG2, show (entryFrame m args L).locked = none from rfl, State.setFrames_setFrames, hr2]
    show (doReturn e _ acts2 (some v)).1 = _
    rw [doReturn_native (f := { method := m, args := args, locked := none }) (State.frames_setFrames _ hcur) rfl hfs, State.setFrames_setFrames, ← State.setTop_of_frames _ hr]
  refine Steps.head ⟨h.running, by simpa using h.runnable, by simpa using h.alone⟩ ⟨.java (entryFrame m args L) :: .java g :: mid, by rw [hf1]; rw [hr] at hmid; simp at hmid; simp [hmid], by simp, by simp⟩ ?_
  rw [hstep]
  exact hrest
section NatW
variable {p : Program} {l : Launch} {e : Env} {R : Room} {s T : State} {m : MethodId} {args : Array Value} {below : List Frame} {meth : Method} {c : Code} {H : Heap} {locs : List Loc} {cells slots : Nat} {Q : State → Prop} {pc : Nat} {ls : Array Slot} {rest : List Value} {cc : ByteArray}
theorem n_named {y : MethodName} {b : ByteArray} {L : Nat} {rt : Option FieldType} (h : (Cond.code y b L rt).before args s = true) : ∃ mk, s.methodNamed? y = some mk := by
  cases hn : s.methodNamed? y with
  | none => simp [Cond.before, Cond.holds, Cond.value, hn] at h
  | some mk => exact ⟨mk, rfl⟩
theorem n_stand {nm de : String} {b : ByteArray} {L : Nat} {rt : Option FieldType} {as : List Value} {v : Value} {row : NativeRow} {sg : MethodDescriptor} (X : Stand p l e R s m args below meth c T locs cells slots) (hexec : p.tables.exec = Jvm.exec) {own : String} {index : Nat} (hown : s.vm.findClass own = some m.cls)
    (hlink : (Cond.methodLink own index ⟨"java/lang/Math", nm, de⟩).before args s = true) (hstat : (Cond.static ⟨"java/lang/Math", nm, de⟩).before args s = true) (hini : (Cond.initialized "java/lang/Math").before args s = true) (hcode : (Cond.code ⟨"java/lang/Math", nm, de⟩ b L rt).before args s = true)
    (hrow : NativeRow.find? p.tables.natives "java/lang/Math" nm de = some row) (hrun : ∀ S : State, ∃ acts, (row.sem as.toArray).run e S = .ok (some v) S acts) (hsg : parseMethodDescriptor de = some sg) (hn1 : as.length = sg.parameters.length)
    (hgiv : ∀ mk : MethodId, ((entryFrame mk as.toArray L).locals.toList.filterMap fun | .val v => some v | _ => none).toArray.extract 0 (as.length + 0) = as.toArray)
    {g : JFrame} (hg : g.method = m) (hsize : g.locals.size = c.maxLocals) (hstack : g.stack = as.reverse ++ rest) (hdg : decode c.code g.pc = .ok (.invokestatic index, 3)) (hframes : 1 ≤ R.frames) (hlocals : 2 * g.monitorRoom + (rest.map fun v => v.category).sum + (L + 11) ≤ R.locals) :
    ∃ vm', Stand p l e R s m args below meth c (T.setVm vm') locs cells slots ∧ ∀ target, Steps p.tables e below ((T.setVm vm').setTop { g with pc := g.pc + 3, stack := v :: rest }) target → Steps p.tables e below (T.setTop g) target := by
  obtain ⟨mk, hn⟩ := n_named hcode
  obtain ⟨methS, cS, h1, -, -, -, -, -, -, h8⟩ := Cond.code_spec hn hcode
  obtain ⟨kS, hkS, hkn⟩ := className_of_methodNamed hn
  have hst := Cond.static_spec hn h1 hstat
  have hinitS : kS.init = .initialized := Cond.initialized_spec (findClass_of_methodNamed hn) hkS hini
  have hsgS : methS.sig = sg := Option.some.inj (h8.symm.trans hsg)
  obtain ⟨vm', X', step⟩ := X.invokestatic hexec hown hlink hn h1 hst hkS hinitS ⟨show "java/lang/Math" ≠ "java/lang/invoke/MethodHandle" by decide, show "java/lang/Math" ≠ "java/lang/invoke/VarHandle" by decide⟩ hg (argsL := as) (rest := rest) (by rw [hsgS]; exact hn1) hstack hdg
  refine ⟨vm', X', fun target hrest => step target fun acts => ?_⟩
  have hcodeU : (Cond.code ⟨"java/lang/Math", nm, de⟩ b L rt).before args (T.setVm vm') = true := Cond.tabsOnly_warm (args' := args) (T := T) X'.warmed _ rfl hcode
  have hnU : (T.setVm vm').methodNamed? ⟨"java/lang/Math", nm, de⟩ = some mk := (State.methodNamed?_setVm X'.warmed.alike _).trans hn
  obtain ⟨methU, cU, u1, u2, -, u4, -, u6, -, u8⟩ := Cond.code_spec hnU hcodeU
  obtain ⟨kU, hkU, hknU⟩ := className_of_methodNamed hnU
  obtain ⟨hmn, hmd⟩ := name_of_methodNamed hnU u1
  have hstU : (Cond.static ⟨"java/lang/Math", nm, de⟩).before args (T.setVm vm') = true := Cond.tabsOnly_warm (args' := args) (T := T) X'.warmed _ rfl hstat
  have hstU2 := Cond.static_spec hnU u1 hstU
  have hxU : kU.methods[mk.idx]? = some methU := by simpa [Vm.method?, show vm'.classes[mk.cls]? = some kU from hkU] using u1
  have hboot : kU.loader = none := Vm.bootOf_findClass (findClass_of_methodNamed hnU) hkU
  have hsgU : methU.sig = sg := Option.some.inj (u8.symm.trans hsg)
  subst hg
  refine n_call (g := { g with stack := rest }) p X'.here acts hkU hxU hboot hknU (by rw [hmn, hmd]; exact hrow) u2 u4 u6 (X'.notFull (g := { g with stack := rest }) hsize (vars := L) hframes hlocals) ?_ hrun hdg hrest
  rw [hsgU, hstU2, ← hn1]
  exact hgiv mk
theorem n_W {nm de : String} {b : ByteArray} {L : Nat} {rt : Option FieldType} {as : List Value} {v : Value} {row : NativeRow} {sg : MethodDescriptor} (hexec : p.tables.exec = Jvm.exec) (hb : c.code = cc) (hml : c.maxLocals = ls.size) {own : String} {index : Nat} (hown : s.vm.findClass own = some m.cls)
    (hlink : (Cond.methodLink own index ⟨"java/lang/Math", nm, de⟩).before args s = true) (hstat : (Cond.static ⟨"java/lang/Math", nm, de⟩).before args s = true) (hini : (Cond.initialized "java/lang/Math").before args s = true) (hcode : (Cond.code ⟨"java/lang/Math", nm, de⟩ b L rt).before args s = true)
    (hrow : NativeRow.find? p.tables.natives "java/lang/Math" nm de = some row) (hrun : ∀ S : State, ∃ acts, (row.sem as.toArray).run e S = .ok (some v) S acts) (hsg : parseMethodDescriptor de = some sg) (hn1 : as.length = sg.parameters.length)
    (hgiv : ∀ mk : MethodId, ((entryFrame mk as.toArray L).locals.toList.filterMap fun | .val v => some v | _ => none).toArray.extract 0 (as.length + 0) = as.toArray)
    (hframes : 1 ≤ R.frames) (hlocals : (rest.map fun v => v.category).sum + (L + 11) ≤ R.locals) (hdg : decode cc pc = .ok (.invokestatic index, 3))
    (kk : W p l e R s m args below meth c H locs cells slots Q (F0 m (pc + 3) ls (v :: rest))) : W p l e R s m args below meth c H locs cells slots Q (F0 m pc ls (as.reverse ++ rest)) := by
  intro T hT X
  obtain ⟨vm', X', st⟩ := n_stand X hexec hown hlink hstat hini hcode hrow hrun hsg hn1 hgiv (g := F0 m pc ls (as.reverse ++ rest)) rfl (by rw [hml]) rfl (by rw [hb]; exact hdg) hframes (by show 2 * 0 + _ + _ ≤ _; omega)
  obtain ⟨t, a1, b1⟩ := kk (T.setVm vm') hT X'
  exact ⟨t, st t a1, b1⟩
end NatW
