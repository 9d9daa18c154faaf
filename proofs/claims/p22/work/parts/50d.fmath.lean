/-! ===== abs, max, min of floats in a walk ===== -/
def n_absR : NativeRow := (NativeRow.find? Native.java_lang_Math.nans.rows "java/lang/Math" "abs" "(F)F").get (by decide +kernel)
def n_maxR : NativeRow := (NativeRow.find? Native.java_lang_Math.nans.rows "java/lang/Math" "max" "(FF)F").get (by decide +kernel)
def n_minR : NativeRow := (NativeRow.find? Native.java_lang_Math.nans.rows "java/lang/Math" "min" "(FF)F").get (by decide +kernel)
set_option maxRecDepth 100000 in
theorem n_abs_row (p : Program) : NativeRow.find? p.tables.natives "java/lang/Math" "abs" "(F)F" = some n_absR := by cases p <;> rfl
set_option maxRecDepth 100000 in
theorem n_max_row (p : Program) : NativeRow.find? p.tables.natives "java/lang/Math" "max" "(FF)F" = some n_maxR := by cases p <;> rfl
set_option maxRecDepth 100000 in
theorem n_min_row (p : Program) : NativeRow.find? p.tables.natives "java/lang/Math" "min" "(FF)F" = some n_minR := by cases p <;> rfl
theorem n_run {α : Sem (Option Value)} {v : Value} {e : Env} {S : State} (h : wpRun α (fun w s₂ _ => w = some v ∧ s₂ = S) (fun _ _ _ => False) e S) : ∃ acts, α.run e S = .ok (some v) S acts := by
  have h2 := (wpRun_iff_run _ _ _ _ _).mp h
  cases hr : α.run e S with
  | ok w s₂ acts =>
    rw [hr] at h2
    obtain ⟨rfl, rfl⟩ := h2
    exact ⟨_, rfl⟩
  | ctl x s₂ acts =>
    rw [hr] at h2
    cases x <;> exact h2.elim
theorem n_abs_run {a : UInt32} (h : a &&& 0x7fffffff ≤ 0x7f800000) (e : Env) (S : State) : ∃ acts, (n_absR.sem #[.float a]).run e S = .ok (some (.float (a &&& 0x7fffffff))) S acts := by
  refine n_run ?_
  have hs : n_absR.sem #[.float a] = (do
      let r ← anyNaN32 (a &&& 0x7fffffff)
      mark "nat.java_lang_Math.abs/float"
      Pure.pure (some (.float r))) := rfl
  have h2 : (a &&& 0x7fffffff) &&& 0x7fffffff ≤ 0x7f800000 := by
    rw [UInt32.and_assoc, UInt32.and_self]
    exact h
  rw [hs]
  unfold anyNaN32
  rw [if_pos h2]
  simp [jvm, wpRun]
theorem n_max_run {a b : UInt32} (ha : FP.fIsNaN a = false) (hb : FP.fIsNaN b = false) (e : Env) (S : State) : ∃ acts, (n_maxR.sem #[.float a, .float b]).run e S = .ok (some (.float (Native.java_lang_Math.nans.pick32 true a b))) S acts := by
  refine n_run ?_
  have hs : n_maxR.sem #[.float a, .float b] = (do
      let r ← if FP.fIsNaN a then anyNaN32 a else if FP.fIsNaN b then anyNaN32 b else Pure.pure (Native.java_lang_Math.nans.pick32 true a b)
      mark "nat.java_lang_Math.max/float"
      Pure.pure (some (.float r))) := rfl
  rw [hs]
  simp [jvm, wpRun, ha, hb]
theorem n_min_run {a b : UInt32} (ha : FP.fIsNaN a = false) (hb : FP.fIsNaN b = false) (e : Env) (S : State) : ∃ acts, (n_minR.sem #[.float a, .float b]).run e S = .ok (some (.float (Native.java_lang_Math.nans.pick32 false a b))) S acts := by
  refine n_run ?_
  have hs : n_minR.sem #[.float a, .float b] = (do
      let r ← if FP.fIsNaN a then anyNaN32 a else if FP.fIsNaN b then anyNaN32 b else Pure.pure (Native.java_lang_Math.nans.pick32 false a b)
      mark "nat.java_lang_Math.min/float"
      Pure.pure (some (.float r))) := rfl
  rw [hs]
  simp [jvm, wpRun, ha, hb]
section FMath
variable {M : am_M} {rc rs n ix : Nat} {a b : UInt32} {L : List (Option Value)} {st : List Value} {f : Nat → am_C} {P : am_P} {by1 : ByteArray}
theorem am_fabs (pc : Nat) (hd : decode (am_by M) pc = .ok (.invokestatic ix, 3)) (hc : am_cJ (am_y M).cls ix ⟨"java/lang/Math", "abs", "(F)F"⟩ by1 1 (some .float)) (ha : a &&& 0x7fffffff ≤ 0x7f800000) (hfr : 1 ≤ am_fr M) (hlo : (st.map fun v => v.category).sum + 12 ≤ am_lo M) (kk : AW M rc rs (pc + 3) L (.float (a &&& 0x7fffffff) :: st) n f P) : AW M rc rs pc L (.float a :: st) n f P := by
  intro D cA p l e R s m args below meth c A n0 ρ0 mc ms hC hR H locs cells slots ρ ls hT hcs
  obtain ⟨h1, h2, h3, h4⟩ := hc
  have hW := hC.2.2.2.2.2.1
  refine n_W (as := [.float a]) hC.1 hC.2.1 (hC.2.2.2.1.trans hT.2.1.2.1.symm) hC.2.2.2.2.1 (hW _ h1) (hW _ h2) (hW _ h3) (hW _ h4) (n_abs_row p) (n_abs_run ha e) (sg := { parameters := [.float], returnType := some .float }) (by decide +kernel) rfl (fun mk => rfl) (Nat.le_trans hfr hR.1) (am_jroom hR hlo) hd ?_
  exact am_k kk hC hR ⟨⟨trivial, hT.1.2⟩, hT.2⟩ hcs
theorem am_fmax (pc : Nat) (hd : decode (am_by M) pc = .ok (.invokestatic ix, 3)) (hc : am_cJ (am_y M).cls ix ⟨"java/lang/Math", "max", "(FF)F"⟩ by1 2 (some .float)) (ha : FP.fIsNaN a = false) (hb : FP.fIsNaN b = false) (hfr : 1 ≤ am_fr M) (hlo : (st.map fun v => v.category).sum + 13 ≤ am_lo M) (kk : AW M rc rs (pc + 3) L (.float (Native.java_lang_Math.nans.pick32 true a b) :: st) n f P) : AW M rc rs pc L (.float b :: .float a :: st) n f P := by
  intro D cA p l e R s m args below meth c A n0 ρ0 mc ms hC hR H locs cells slots ρ ls hT hcs
  obtain ⟨h1, h2, h3, h4⟩ := hc
  have hW := hC.2.2.2.2.2.1
  refine n_W (as := [.float a, .float b]) hC.1 hC.2.1 (hC.2.2.2.1.trans hT.2.1.2.1.symm) hC.2.2.2.2.1 (hW _ h1) (hW _ h2) (hW _ h3) (hW _ h4) (n_max_row p) (n_max_run ha hb e) (sg := { parameters := [.float, .float], returnType := some .float }) (by decide +kernel) rfl (fun mk => rfl) (Nat.le_trans hfr hR.1) (am_jroom hR hlo) hd ?_
  exact am_k kk hC hR ⟨⟨trivial, hT.1.2.2⟩, hT.2⟩ hcs
theorem am_fmin (pc : Nat) (hd : decode (am_by M) pc = .ok (.invokestatic ix, 3)) (hc : am_cJ (am_y M).cls ix ⟨"java/lang/Math", "min", "(FF)F"⟩ by1 2 (some .float)) (ha : FP.fIsNaN a = false) (hb : FP.fIsNaN b = false) (hfr : 1 ≤ am_fr M) (hlo : (st.map fun v => v.category).sum + 13 ≤ am_lo M) (kk : AW M rc rs (pc + 3) L (.float (Native.java_lang_Math.nans.pick32 false a b) :: st) n f P) : AW M rc rs pc L (.float b :: .float a :: st) n f P := by
  intro D cA p l e R s m args below meth c A n0 ρ0 mc ms hC hR H locs cells slots ρ ls hT hcs
  obtain ⟨h1, h2, h3, h4⟩ := hc
  have hW := hC.2.2.2.2.2.1
  refine n_W (as := [.float a, .float b]) hC.1 hC.2.1 (hC.2.2.2.1.trans hT.2.1.2.1.symm) hC.2.2.2.2.1 (hW _ h1) (hW _ h2) (hW _ h3) (hW _ h4) (n_min_row p) (n_min_run ha hb e) (sg := { parameters := [.float, .float], returnType := some .float }) (by decide +kernel) rfl (fun mk => rfl) (Nat.le_trans hfr hR.1) (am_jroom hR hlo) hd ?_
  exact am_k kk hC hR ⟨⟨trivial, hT.1.2.2⟩, hT.2⟩ hcs
end FMath
