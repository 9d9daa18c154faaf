/-! ===== what the tables say of calls, by kinds ===== -/
def am_cV (own : String) (ix : Nat) (N : am_M) (k ci : Nat) : Prop := am_G N k ∧ Cond.methodLink own ix (am_y N) ∈ am_W ∧ Cond.instanceMethod (am_y N) ∈ am_W ∧ Cond.selects (am_y N).cls (am_y N) (am_y N) ∈ am_W ∧ ∃ q, vwCl[ci]? = some q ∧ q.1 = (am_y N).cls
def am_cS (own : String) (ix : Nat) (N : am_M) (k : Nat) : Prop := am_G N k ∧ Cond.methodLink own ix (am_y N) ∈ am_W ∧ Cond.static (am_y N) ∈ am_W
def am_cI (own : String) (ix : Nat) (N : am_M) (k : Nat) : Prop := am_G N k ∧ Cond.methodLink own ix (am_y N) ∈ am_W ∧ Cond.instanceMethod (am_y N) ∈ am_W ∧ am_rt N = none ∧ (am_y N).name = "<init>"
def am_cIN (own : String) (ix : Nat) (N : am_M) (k : Nat) : Prop := am_G N k ∧ (∃ host, (own, ix, am_y N, host) ∈ am_nst) ∧ Cond.instanceMethod (am_y N) ∈ am_W ∧ am_rt N = none ∧ (am_y N).name = "<init>"
def am_cSN (own : String) (ix : Nat) (N : am_M) (k : Nat) : Prop := am_G N k ∧ (∃ host, (own, ix, am_y N, host) ∈ am_nst) ∧ Cond.static (am_y N) ∈ am_W
def am_cO (own : String) (ix : Nat) : Prop := Cond.methodLink own ix objectInit ∈ am_W ∧ Cond.instanceMethod objectInit ∈ am_W ∧ Cond.code objectInit ⟨#[0xb1]⟩ 1 none ∈ am_W
/-- a method from its start -/
abbrev AM (N : am_M) (mc ms : Nat) (vs : List Value) (n : Nat) (f : Nat → am_C) (P : am_P) : Prop := AW N mc ms 0 (am_en (am_mL N) vs) [] n f P
/-- it returns v and leaves the world so -/
def am_is (v : Option Value) (n : Nat) (f : Nat → am_C) : am_P := fun o n' f' => o = .inl v ∧ n' = n ∧ f' = f
def am_th (E : Nat) (n : Nat) (f : Nat → am_C) : am_P := fun o n' f' => o = .inr E ∧ n' = n ∧ f' = f
theorem am_is_ct {M : am_M} {rc rs pc n1 : Nat} {L : List (Option Value)} {rest : List Value} {P : am_P} {v : Option Value} {f1 : Nat → am_C} (k : AW M rc rs (pc + 3) L (v.toList ++ rest) n1 f1 P) : ∀ o n' f', am_is v n1 f1 o n' f' → am_ct M rc rs pc L rest P o n' f' := by
  rintro o n' f' ⟨rfl, rfl, rfl⟩
  exact k
theorem am_ue {f : Nat → am_C} {i : Nat} {c : am_C} : va_up f i c i = c := by simp [va_up]
theorem am_un {f : Nat → am_C} {i j : Nat} {c c' : am_C} (h : j ≠ i) (k : f j = c) : va_up f i c' j = c := by simp [va_up, h, k]
theorem am_uu {α : Type} {f : Nat → α} {i : Nat} {c c' : α} : va_up (va_up f i c) i c' = va_up f i c' := by
  funext j
  unfold va_up
  split <;> rfl
theorem am_us {α : Type} {f : Nat → α} {i j : Nat} {c c' : α} (h : i ≠ j) : va_up (va_up f i c) j c' = va_up (va_up f j c') i c := by
  funext k
  unfold va_up
  by_cases h1 : k = j
  · subst h1
    rw [if_pos rfl, if_neg (Ne.symm h), if_pos rfl]
  · by_cases h2 : k = i
    · subst h2
      simp [h1]
    · simp [h1, h2]
theorem am_self {α : Type} {f : Nat → α} {i : Nat} {c : α} (h : f i = c) : va_up f i c = f := by
  funext j
  unfold va_up
  split
  · rename_i e; rw [e, h]
  · rfl
theorem am_arrV {cA : ClassId} {N : Nat} {f g : Nat → Value} (h : ∀ j, j < N → f j = g j) : arrV cA N f = arrV cA N g := by
  unfold arrV
  congr 2
  funext j
  exact h j.val j.isLt
/-- what an array holds beyond its end says nothing -/
theorem AW.cell {M : am_M} {rc rs pc n a t : Nat} {L : List (Option Value)} {st : List Value} {f : Nat → am_C} {P : am_P} {x x' : vp_A} (ha : f a = .inl (t, x)) (ht : t < 20) (hc : ∀ (cA : ClassId) (ρ : Nat → Nat), vp_cell cA (am_a ρ x') = vp_cell cA (am_a ρ x)) (hn : ∀ n, am_cn n (.inl (t, x) : am_C) → am_cn n (.inl (t, x') : am_C)) (k : AW M rc rs pc L st n (va_up f a (.inl (t, x'))) P) : AW M rc rs pc L st n f P := by
  intro D cA p l e R s m args below meth c A n0 ρ0 mc ms hC hR H locs cells slots ρ ls hT hcs
  have hf := hT.2.2.2.2.2.2.2
  refine am_k k hC hR ⟨hT.1, hT.2.1, ?_, ?_, hT.2.2.2.2.1, am_exU hT.2.2.2.2.2.1 (am_ownA hT.2.2.2.2.2.1 ha ht), hT.2.2.2.2.2.2.1, fun i hi => ?_⟩ hcs
  · intro z q hq
    obtain ⟨hk, e⟩ := am_w_inv hq
    have h1 := hT.2.2.1 z _ (by have := am_w_at (cA := cA) (ρ := ρ) (f := f) hk (Nat.le_add_left _ _); rwa [Nat.add_sub_cancel] at this)
    subst e
    by_cases hka : z + am_k0 = a
    · rw [hka] at h1 ⊢
      rw [ha] at h1
      have h2 : H[ρ a]? = some (vp_cell (cA t) (am_a ρ x)) := h1
      rw [am_ue]
      show H[ρ a]? = some (vp_cell (cA t) (am_a ρ x'))
      rw [h2, hc]
    · have e : va_up f a (.inl (t, x')) (z + am_k0) = f (z + am_k0) := by simp [va_up, hka]
      rw [e]
      exact h1
  · have g : ∀ z, z + am_k0 < n → (am_w cA ρ n f)[z]? = some (ρ (z + am_k0), am_e cA ρ (f (z + am_k0))) := fun z hz => by
      have := am_w_at (cA := cA) (ρ := ρ) (f := f) hz (Nat.le_add_left _ _)
      rwa [Nat.add_sub_cancel] at this
    refine ⟨fun i j p q hp hq h => ?_, fun k q hq => ?_⟩
    · obtain ⟨hi, e1⟩ := am_w_inv hp
      obtain ⟨hj, e2⟩ := am_w_inv hq
      subst e1
      subst e2
      exact hT.2.2.2.1.1 i j _ _ (g i hi) (g j hj) h
    · obtain ⟨hk, e⟩ := am_w_inv hq
      subst e
      have h9 := hT.2.2.2.1.2 k _ (g k hk)
      exact h9
  · unfold va_up
    split
    · rename_i e
      have h1 := hf i hi
      rw [e, ha] at h1
      exact hn n h1
    · exact hf i hi
theorem AW.ints {M : am_M} {rc rs pc n a t N : Nat} {L : List (Option Value)} {st : List Value} {f : Nat → am_C} {P : am_P} {g : Nat → Int32} (g' : Nat → Int32) (ha : f a = .inl (t, N, .inl g)) (he : ∀ j, j < N → g j = g' j) (k : AW M rc rs pc L st n (va_up f a (.inl (t, N, .inl g'))) P) (ht : t < 20 := by decide) : AW M rc rs pc L st n f P :=
  AW.cell (x' := (N, .inl g')) ha ht (fun cA ρ => (am_arrV (cA := cA) (N := N) (f := fun j => .int (g' j)) (g := fun j => .int (g j)) fun j hj => by rw [he j hj])) (fun _ _ => trivial) k
theorem AW.longs {M : am_M} {rc rs pc n a t N : Nat} {L : List (Option Value)} {st : List Value} {f : Nat → am_C} {P : am_P} {g : Nat → Int64} (g' : Nat → Int64) (ha : f a = .inl (t, N, .inr (.inl g))) (he : ∀ j, j < N → g j = g' j) (k : AW M rc rs pc L st n (va_up f a (.inl (t, N, .inr (.inl g')))) P) (ht : t < 20 := by decide) : AW M rc rs pc L st n f P :=
  AW.cell (x' := (N, .inr (.inl g'))) ha ht (fun cA ρ => (am_arrV (cA := cA) (N := N) (f := fun j => .long (g' j)) (g := fun j => .long (g j)) fun j hj => by rw [he j hj])) (fun _ _ => trivial) k
theorem AW.floats {M : am_M} {rc rs pc n a t N : Nat} {L : List (Option Value)} {st : List Value} {f : Nat → am_C} {P : am_P} {g : Nat → UInt32} (g' : Nat → UInt32) (ha : f a = .inl (t, N, .inr (.inr (.inl g)))) (he : ∀ j, j < N → g j = g' j) (k : AW M rc rs pc L st n (va_up f a (.inl (t, N, .inr (.inr (.inl g'))))) P) (ht : t < 20 := by decide) : AW M rc rs pc L st n f P :=
  AW.cell (x' := (N, .inr (.inr (.inl g')))) ha ht (fun cA ρ => (am_arrV (cA := cA) (N := N) (f := fun j => .float (g' j)) (g := fun j => .float (g j)) fun j hj => by rw [he j hj])) (fun _ _ => trivial) k
/-- a method of java/lang/Math -/
def am_cJ (own : String) (ix : Nat) (y : MethodName) (b : ByteArray) (mL : Nat) (rt : Option FieldType) : Prop := Cond.methodLink own ix y ∈ am_W ∧ Cond.static y ∈ am_W ∧ Cond.initialized "java/lang/Math" ∈ am_W ∧ Cond.code y b mL rt ∈ am_W
theorem am_jroom {M : am_M} {R : Room} {mc ms : Nat} {ρ : Nat → Nat} {st : List Value} {k : Nat} (hR : am_room M R mc ms) (hlo : (st.map fun v => v.category).sum + k ≤ am_lo M) : ((st.map (am_v ρ)).map fun v => v.category).sum + k ≤ R.locals := by
  have e : (st.map (am_v ρ)).map (fun v => v.category) = st.map fun v => v.category := by
    rw [List.map_map]
    exact List.map_congr_left fun v _ => am_cat ρ v
  rw [e]
  exact Nat.le_trans hlo hR.2.1
theorem am_max (pc : Nat) {M : am_M} {rc rs n ix : Nat} {x y : Int32} {L : List (Option Value)} {st : List Value} {f : Nat → am_C} {P : am_P} (hd : decode (am_by M) pc = .ok (.invokestatic ix, 3)) (hc : am_cJ (am_y M).cls ix Lib.Math.max.name Lib.Math.max.code 2 (some .int)) (hfr : 1 ≤ am_fr M) (hlo : (st.map fun v => v.category).sum + 13 ≤ am_lo M) (kk : AW M rc rs (pc + 3) L (.int (if x < y then y else x) :: st) n f P) : AW M rc rs pc L (.int y :: .int x :: st) n f P := by
  intro D cA p l e R s m args below meth c A n0 ρ0 mc ms hC hR H locs cells slots ρ ls hT hcs
  obtain ⟨h1, h2, h3, h4⟩ := hc
  refine va_mmax hC.1 hC.2.1 (hC.2.2.2.1.trans hT.2.1.2.1.symm) hC.2.2.2.2.1 (hC.2.2.2.2.2.1 _ h1) (hC.2.2.2.2.2.1 _ h2) (hC.2.2.2.2.2.1 _ h3) (hC.2.2.2.2.2.1 _ h4) (Nat.le_trans hfr hR.1) (am_jroom hR hlo) (by have := hR.2.2.1; omega) (by have := hR.2.2.2; omega) hd ?_
  exact am_k kk hC hR ⟨⟨trivial, hT.1.2.2⟩, hT.2⟩ hcs
theorem am_min (pc : Nat) {M : am_M} {rc rs n ix : Nat} {x y : Int32} {L : List (Option Value)} {st : List Value} {f : Nat → am_C} {P : am_P} (hd : decode (am_by M) pc = .ok (.invokestatic ix, 3)) (hc : am_cJ (am_y M).cls ix Lib.Math.min.name Lib.Math.min.code 2 (some .int)) (hfr : 1 ≤ am_fr M) (hlo : (st.map fun v => v.category).sum + 13 ≤ am_lo M) (kk : AW M rc rs (pc + 3) L (.int (if y < x then y else x) :: st) n f P) : AW M rc rs pc L (.int y :: .int x :: st) n f P := by
  intro D cA p l e R s m args below meth c A n0 ρ0 mc ms hC hR H locs cells slots ρ ls hT hcs
  obtain ⟨h1, h2, h3, h4⟩ := hc
  refine va_mmin hC.1 hC.2.1 (hC.2.2.2.1.trans hT.2.1.2.1.symm) hC.2.2.2.2.1 (hC.2.2.2.2.2.1 _ h1) (hC.2.2.2.2.2.1 _ h2) (hC.2.2.2.2.2.1 _ h3) (hC.2.2.2.2.2.1 _ h4) (Nat.le_trans hfr hR.1) (am_jroom hR hlo) (by have := hR.2.2.1; omega) (by have := hR.2.2.2; omega) hd ?_
  exact am_k kk hC hR ⟨⟨trivial, hT.1.2.2⟩, hT.2⟩ hcs
theorem am_abs (pc : Nat) {M : am_M} {rc rs n ix : Nat} {x : Int32} {L : List (Option Value)} {st : List Value} {f : Nat → am_C} {P : am_P} (hd : decode (am_by M) pc = .ok (.invokestatic ix, 3)) (hc : am_cJ (am_y M).cls ix Lib.Math.abs.name Lib.Math.abs.code 1 (some .int)) (hfr : 1 ≤ am_fr M) (hlo : (st.map fun v => v.category).sum + 13 ≤ am_lo M) (kk : AW M rc rs (pc + 3) L (.int (if 0 ≤ x then x else 0 - x) :: st) n f P) : AW M rc rs pc L (.int x :: st) n f P := by
  intro D cA p l e R s m args below meth c A n0 ρ0 mc ms hC hR H locs cells slots ρ ls hT hcs
  obtain ⟨h1, h2, h3, h4⟩ := hc
  refine va_mabs hC.1 hC.2.1 (hC.2.2.2.1.trans hT.2.1.2.1.symm) hC.2.2.2.2.1 (hC.2.2.2.2.2.1 _ h1) (hC.2.2.2.2.2.1 _ h2) (hC.2.2.2.2.2.1 _ h3) (hC.2.2.2.2.2.1 _ h4) (Nat.le_trans hfr hR.1) (am_jroom hR hlo) (by have := hR.2.2.1; omega) (by have := hR.2.2.2; omega) hd ?_
  exact am_k kk hC hR ⟨⟨trivial, hT.1.2⟩, hT.2⟩ hcs
theorem am_maxL (pc : Nat) {M : am_M} {rc rs n ix : Nat} {x y : Int64} {L : List (Option Value)} {st : List Value} {f : Nat → am_C} {P : am_P} (hd : decode (am_by M) pc = .ok (.invokestatic ix, 3)) (hc : am_cJ (am_y M).cls ix Lib.MathLoose.max_long.x Lib.MathLoose.max_long.code 4 (some .long)) (hfr : 1 ≤ am_fr M) (hlo : (st.map fun v => v.category).sum + 15 ≤ am_lo M) (kk : AW M rc rs (pc + 3) L (.long (if y < x then x else y) :: st) n f P) : AW M rc rs pc L (.long y :: .long x :: st) n f P := by
  intro D cA p l e R s m args below meth c A n0 ρ0 mc ms hC hR H locs cells slots ρ ls hT hcs
  obtain ⟨h1, h2, h3, h4⟩ := hc
  refine va_mmax_long hC.1 hC.2.1 (hC.2.2.2.1.trans hT.2.1.2.1.symm) hC.2.2.2.2.1 (hC.2.2.2.2.2.1 _ h1) (hC.2.2.2.2.2.1 _ h2) (hC.2.2.2.2.2.1 _ h3) (hC.2.2.2.2.2.1 _ h4) (Nat.le_trans hfr hR.1) (am_jroom hR hlo) (by have := hR.2.2.1; omega) (by have := hR.2.2.2; omega) hd ?_
  exact am_k kk hC hR ⟨⟨trivial, hT.1.2.2⟩, hT.2⟩ hcs
theorem am_minL (pc : Nat) {M : am_M} {rc rs n ix : Nat} {x y : Int64} {L : List (Option Value)} {st : List Value} {f : Nat → am_C} {P : am_P} (hd : decode (am_by M) pc = .ok (.invokestatic ix, 3)) (hc : am_cJ (am_y M).cls ix Lib.MathLoose.min_long.x Lib.MathLoose.min_long.code 4 (some .long)) (hfr : 1 ≤ am_fr M) (hlo : (st.map fun v => v.category).sum + 15 ≤ am_lo M) (kk : AW M rc rs (pc + 3) L (.long (if y < x then y else x) :: st) n f P) : AW M rc rs pc L (.long y :: .long x :: st) n f P := by
  intro D cA p l e R s m args below meth c A n0 ρ0 mc ms hC hR H locs cells slots ρ ls hT hcs
  obtain ⟨h1, h2, h3, h4⟩ := hc
  refine va_mmin_long hC.1 hC.2.1 (hC.2.2.2.1.trans hT.2.1.2.1.symm) hC.2.2.2.2.1 (hC.2.2.2.2.2.1 _ h1) (hC.2.2.2.2.2.1 _ h2) (hC.2.2.2.2.2.1 _ h3) (hC.2.2.2.2.2.1 _ h4) (Nat.le_trans hfr hR.1) (am_jroom hR hlo) (by have := hR.2.2.1; omega) (by have := hR.2.2.2; omega) hd ?_
  exact am_k kk hC hR ⟨⟨trivial, hT.1.2.2⟩, hT.2⟩ hcs
theorem am_absL (pc : Nat) {M : am_M} {rc rs n ix : Nat} {x : Int64} {L : List (Option Value)} {st : List Value} {f : Nat → am_C} {P : am_P} (hd : decode (am_by M) pc = .ok (.invokestatic ix, 3)) (hc : am_cJ (am_y M).cls ix Lib.MathLoose.abs_long.x Lib.MathLoose.abs_long.code 2 (some .long)) (hfr : 1 ≤ am_fr M) (hlo : (st.map fun v => v.category).sum + 13 ≤ am_lo M) (kk : AW M rc rs (pc + 3) L (.long (if 0 < x then x else -x) :: st) n f P) : AW M rc rs pc L (.long x :: st) n f P := by
  intro D cA p l e R s m args below meth c A n0 ρ0 mc ms hC hR H locs cells slots ρ ls hT hcs
  obtain ⟨h1, h2, h3, h4⟩ := hc
  refine va_mabs_long hC.1 hC.2.1 (hC.2.2.2.1.trans hT.2.1.2.1.symm) hC.2.2.2.2.1 (hC.2.2.2.2.2.1 _ h1) (hC.2.2.2.2.2.1 _ h2) (hC.2.2.2.2.2.1 _ h3) (hC.2.2.2.2.2.1 _ h4) (Nat.le_trans hfr hR.1) (am_jroom hR hlo) (by have := hR.2.2.1; omega) (by have := hR.2.2.2; omega) hd ?_
  exact am_k kk hC hR ⟨⟨trivial, hT.1.2⟩, hT.2⟩ hcs
/-! calls by their arity, the callee's end known -/
theorem am_V0 (pc : Nat) {M N : am_M} {rc rs mc' ms' n ix b ci : Nat} {L : List (Option Value)} {st fs : List Value} {f : Nat → am_C} {P P' : am_P} (hd : decode (am_by M) pc = .ok (.invokevirtual ix, 3)) (hc : am_cV (am_y M).cls ix N 0 ci) (hG2 : am_G2 M N) (hb : f b = .inr (ci, fs)) (hr : (st.map fun v => v.category).sum ≤ 8) (hlen : (lg_sl [.ref b]).length ≤ am_mL N) (hs : AM N mc' ms' [.ref b] n f P') (k : ∀ o n' f', P' o n' f' → am_ct M rc rs pc L st P o n' f') : AW M (mc' + rc) (ms' + rs) pc L (.ref b :: st) n f P := by
  obtain ⟨h1, h2, h3, h4, q, h5, h6⟩ := hc
  exact am_invV (as := []) (q := q) pc hd h1 hG2 h2 h3 h4 hb h5 h6 rfl hr hlen (AW.mono k hs)
theorem am_S0 (pc : Nat) {M N : am_M} {rc rs mc' ms' n ix : Nat} {L : List (Option Value)} {st : List Value} {f : Nat → am_C} {P P' : am_P} (hd : decode (am_by M) pc = .ok (.invokestatic ix, 3)) (hc : am_cS (am_y M).cls ix N 0) (hG2 : am_G2 M N) (hr : (st.map fun v => v.category).sum ≤ 8) (hlen : (lg_sl []).length ≤ am_mL N) (hs : AM N mc' ms' [] n f P') (k : ∀ o n' f', P' o n' f' → am_ct M rc rs pc L st P o n' f') : AW M (mc' + rc) (ms' + rs) pc L (st) n f P := by
  obtain ⟨h1, h2, h3⟩ := hc
  exact am_invS (as := []) pc hd h1 hG2 h2 h3 rfl hr hlen (AW.mono k hs)
theorem am_I0 (pc : Nat) {M N : am_M} {rc rs mc' ms' n ix b : Nat} {L : List (Option Value)} {st : List Value} {f : Nat → am_C} {P P' : am_P} (hd : decode (am_by M) pc = .ok (.invokespecial ix, 3)) (hc : am_cI (am_y M).cls ix N 0) (hG2 : am_G2 M N) (hr : (st.map fun v => v.category).sum ≤ 8) (hlen : (lg_sl [.ref b]).length ≤ am_mL N) (hs : AM N mc' ms' [.ref b] n f P') (k : ∀ o n' f', P' o n' f' → ∃ v, o = .inl v ∧ AW M rc rs (pc + 3) L (v.toList ++ st) n' f' P) : AW M (mc' + rc) (ms' + rs) pc L (.ref b :: st) n f P := by
  obtain ⟨h1, h2, h3, h4, h5⟩ := hc
  exact am_invI (as := []) pc hd h1 hG2 h4 h5 h2 h3 rfl hr hlen (AW.mono (fun o n' f' h => by obtain ⟨v, rfl, h2⟩ := k o n' f' h; exact h2) hs)
theorem am_IN0 (pc : Nat) {M N : am_M} {rc rs mc' ms' n ix b : Nat} {L : List (Option Value)} {st : List Value} {f : Nat → am_C} {P P' : am_P} (hd : decode (am_by M) pc = .ok (.invokespecial ix, 3)) (hc : am_cIN (am_y M).cls ix N 0) (hG2 : am_G2 M N) (hr : (st.map fun v => v.category).sum ≤ 8) (hlen : (lg_sl [.ref b]).length ≤ am_mL N) (hs : AM N mc' ms' [.ref b] n f P') (k : ∀ o n' f', P' o n' f' → ∃ v, o = .inl v ∧ AW M rc rs (pc + 3) L (v.toList ++ st) n' f' P) : AW M (mc' + rc) (ms' + rs) pc L (.ref b :: st) n f P := by
  obtain ⟨h1, ⟨host, h2⟩, h3, h4, h5⟩ := hc
  exact am_invIN (as := []) (host := host) pc hd h1 hG2 h4 h5 h2 h3 rfl hr hlen (AW.mono (fun o n' f' h => by obtain ⟨v, rfl, h2⟩ := k o n' f' h; exact h2) hs)
theorem am_V1 (pc : Nat) {M N : am_M} {rc rs mc' ms' n ix b ci : Nat} {x1 : Value} {L : List (Option Value)} {st fs : List Value} {f : Nat → am_C} {P P' : am_P} (hd : decode (am_by M) pc = .ok (.invokevirtual ix, 3)) (hc : am_cV (am_y M).cls ix N 1 ci) (hG2 : am_G2 M N) (hb : f b = .inr (ci, fs)) (hr : (st.map fun v => v.category).sum ≤ 8) (hlen : (lg_sl [.ref b, x1]).length ≤ am_mL N) (hs : AM N mc' ms' [.ref b, x1] n f P') (k : ∀ o n' f', P' o n' f' → am_ct M rc rs pc L st P o n' f') : AW M (mc' + rc) (ms' + rs) pc L (x1 :: .ref b :: st) n f P := by
  obtain ⟨h1, h2, h3, h4, q, h5, h6⟩ := hc
  exact am_invV (as := [x1]) (q := q) pc hd h1 hG2 h2 h3 h4 hb h5 h6 rfl hr hlen (AW.mono k hs)
theorem am_S1 (pc : Nat) {M N : am_M} {rc rs mc' ms' n ix : Nat} {x1 : Value} {L : List (Option Value)} {st : List Value} {f : Nat → am_C} {P P' : am_P} (hd : decode (am_by M) pc = .ok (.invokestatic ix, 3)) (hc : am_cS (am_y M).cls ix N 1) (hG2 : am_G2 M N) (hr : (st.map fun v => v.category).sum ≤ 8) (hlen : (lg_sl [x1]).length ≤ am_mL N) (hs : AM N mc' ms' [x1] n f P') (k : ∀ o n' f', P' o n' f' → am_ct M rc rs pc L st P o n' f') : AW M (mc' + rc) (ms' + rs) pc L (x1 :: st) n f P := by
  obtain ⟨h1, h2, h3⟩ := hc
  exact am_invS (as := [x1]) pc hd h1 hG2 h2 h3 rfl hr hlen (AW.mono k hs)
theorem am_I1 (pc : Nat) {M N : am_M} {rc rs mc' ms' n ix b : Nat} {x1 : Value} {L : List (Option Value)} {st : List Value} {f : Nat → am_C} {P P' : am_P} (hd : decode (am_by M) pc = .ok (.invokespecial ix, 3)) (hc : am_cI (am_y M).cls ix N 1) (hG2 : am_G2 M N) (hr : (st.map fun v => v.category).sum ≤ 8) (hlen : (lg_sl [.ref b, x1]).length ≤ am_mL N) (hs : AM N mc' ms' [.ref b, x1] n f P') (k : ∀ o n' f', P' o n' f' → ∃ v, o = .inl v ∧ AW M rc rs (pc + 3) L (v.toList ++ st) n' f' P) : AW M (mc' + rc) (ms' + rs) pc L (x1 :: .ref b :: st) n f P := by
  obtain ⟨h1, h2, h3, h4, h5⟩ := hc
  exact am_invI (as := [x1]) pc hd h1 hG2 h4 h5 h2 h3 rfl hr hlen (AW.mono (fun o n' f' h => by obtain ⟨v, rfl, h2⟩ := k o n' f' h; exact h2) hs)
theorem am_IN1 (pc : Nat) {M N : am_M} {rc rs mc' ms' n ix b : Nat} {x1 : Value} {L : List (Option Value)} {st : List Value} {f : Nat → am_C} {P P' : am_P} (hd : decode (am_by M) pc = .ok (.invokespecial ix, 3)) (hc : am_cIN (am_y M).cls ix N 1) (hG2 : am_G2 M N) (hr : (st.map fun v => v.category).sum ≤ 8) (hlen : (lg_sl [.ref b, x1]).length ≤ am_mL N) (hs : AM N mc' ms' [.ref b, x1] n f P') (k : ∀ o n' f', P' o n' f' → ∃ v, o = .inl v ∧ AW M rc rs (pc + 3) L (v.toList ++ st) n' f' P) : AW M (mc' + rc) (ms' + rs) pc L (x1 :: .ref b :: st) n f P := by
  obtain ⟨h1, ⟨host, h2⟩, h3, h4, h5⟩ := hc
  exact am_invIN (as := [x1]) (host := host) pc hd h1 hG2 h4 h5 h2 h3 rfl hr hlen (AW.mono (fun o n' f' h => by obtain ⟨v, rfl, h2⟩ := k o n' f' h; exact h2) hs)
theorem am_SN1 (pc : Nat) {M N : am_M} {rc rs mc' ms' n ix : Nat} {x1 : Value} {L : List (Option Value)} {st : List Value} {f : Nat → am_C} {P P' : am_P} (hd : decode (am_by M) pc = .ok (.invokestatic ix, 3)) (hc : am_cSN (am_y M).cls ix N 1) (hG2 : am_G2 M N) (hr : (st.map fun v => v.category).sum ≤ 8) (hlen : (lg_sl [x1]).length ≤ am_mL N) (hs : AM N mc' ms' [x1] n f P') (k : ∀ o n' f', P' o n' f' → ∃ v, o = .inl v ∧ AW M rc rs (pc + 3) L (v.toList ++ st) n' f' P) : AW M (mc' + rc) (ms' + rs) pc L (x1 :: st) n f P := by
  obtain ⟨h1, ⟨host, h2⟩, h3⟩ := hc
  exact am_invSN (as := [x1]) (host := host) pc hd h1 hG2 h2 h3 rfl hr hlen (AW.mono (fun o n' f' h => by obtain ⟨v, rfl, h2⟩ := k o n' f' h; exact h2) hs)
theorem am_V2 (pc : Nat) {M N : am_M} {rc rs mc' ms' n ix b ci : Nat} {x1 x2 : Value} {L : List (Option Value)} {st fs : List Value} {f : Nat → am_C} {P P' : am_P} (hd : decode (am_by M) pc = .ok (.invokevirtual ix, 3)) (hc : am_cV (am_y M).cls ix N 2 ci) (hG2 : am_G2 M N) (hb : f b = .inr (ci, fs)) (hr : (st.map fun v => v.category).sum ≤ 8) (hlen : (lg_sl [.ref b, x1, x2]).length ≤ am_mL N) (hs : AM N mc' ms' [.ref b, x1, x2] n f P') (k : ∀ o n' f', P' o n' f' → am_ct M rc rs pc L st P o n' f') : AW M (mc' + rc) (ms' + rs) pc L (x2 :: x1 :: .ref b :: st) n f P := by
  obtain ⟨h1, h2, h3, h4, q, h5, h6⟩ := hc
  exact am_invV (as := [x1, x2]) (q := q) pc hd h1 hG2 h2 h3 h4 hb h5 h6 rfl hr hlen (AW.mono k hs)
theorem am_S2 (pc : Nat) {M N : am_M} {rc rs mc' ms' n ix : Nat} {x1 x2 : Value} {L : List (Option Value)} {st : List Value} {f : Nat → am_C} {P P' : am_P} (hd : decode (am_by M) pc = .ok (.invokestatic ix, 3)) (hc : am_cS (am_y M).cls ix N 2) (hG2 : am_G2 M N) (hr : (st.map fun v => v.category).sum ≤ 8) (hlen : (lg_sl [x1, x2]).length ≤ am_mL N) (hs : AM N mc' ms' [x1, x2] n f P') (k : ∀ o n' f', P' o n' f' → am_ct M rc rs pc L st P o n' f') : AW M (mc' + rc) (ms' + rs) pc L (x2 :: x1 :: st) n f P := by
  obtain ⟨h1, h2, h3⟩ := hc
  exact am_invS (as := [x1, x2]) pc hd h1 hG2 h2 h3 rfl hr hlen (AW.mono k hs)
theorem am_V3 (pc : Nat) {M N : am_M} {rc rs mc' ms' n ix b ci : Nat} {x1 x2 x3 : Value} {L : List (Option Value)} {st fs : List Value} {f : Nat → am_C} {P P' : am_P} (hd : decode (am_by M) pc = .ok (.invokevirtual ix, 3)) (hc : am_cV (am_y M).cls ix N 3 ci) (hG2 : am_G2 M N) (hb : f b = .inr (ci, fs)) (hr : (st.map fun v => v.category).sum ≤ 8) (hlen : (lg_sl [.ref b, x1, x2, x3]).length ≤ am_mL N) (hs : AM N mc' ms' [.ref b, x1, x2, x3] n f P') (k : ∀ o n' f', P' o n' f' → am_ct M rc rs pc L st P o n' f') : AW M (mc' + rc) (ms' + rs) pc L (x3 :: x2 :: x1 :: .ref b :: st) n f P := by
  obtain ⟨h1, h2, h3, h4, q, h5, h6⟩ := hc
  exact am_invV (as := [x1, x2, x3]) (q := q) pc hd h1 hG2 h2 h3 h4 hb h5 h6 rfl hr hlen (AW.mono k hs)
theorem am_S3 (pc : Nat) {M N : am_M} {rc rs mc' ms' n ix : Nat} {x1 x2 x3 : Value} {L : List (Option Value)} {st : List Value} {f : Nat → am_C} {P P' : am_P} (hd : decode (am_by M) pc = .ok (.invokestatic ix, 3)) (hc : am_cS (am_y M).cls ix N 3) (hG2 : am_G2 M N) (hr : (st.map fun v => v.category).sum ≤ 8) (hlen : (lg_sl [x1, x2, x3]).length ≤ am_mL N) (hs : AM N mc' ms' [x1, x2, x3] n f P') (k : ∀ o n' f', P' o n' f' → am_ct M rc rs pc L st P o n' f') : AW M (mc' + rc) (ms' + rs) pc L (x3 :: x2 :: x1 :: st) n f P := by
  obtain ⟨h1, h2, h3⟩ := hc
  exact am_invS (as := [x1, x2, x3]) pc hd h1 hG2 h2 h3 rfl hr hlen (AW.mono k hs)
theorem am_V4 (pc : Nat) {M N : am_M} {rc rs mc' ms' n ix b ci : Nat} {x1 x2 x3 x4 : Value} {L : List (Option Value)} {st fs : List Value} {f : Nat → am_C} {P P' : am_P} (hd : decode (am_by M) pc = .ok (.invokevirtual ix, 3)) (hc : am_cV (am_y M).cls ix N 4 ci) (hG2 : am_G2 M N) (hb : f b = .inr (ci, fs)) (hr : (st.map fun v => v.category).sum ≤ 8) (hlen : (lg_sl [.ref b, x1, x2, x3, x4]).length ≤ am_mL N) (hs : AM N mc' ms' [.ref b, x1, x2, x3, x4] n f P') (k : ∀ o n' f', P' o n' f' → am_ct M rc rs pc L st P o n' f') : AW M (mc' + rc) (ms' + rs) pc L (x4 :: x3 :: x2 :: x1 :: .ref b :: st) n f P := by
  obtain ⟨h1, h2, h3, h4, q, h5, h6⟩ := hc
  exact am_invV (as := [x1, x2, x3, x4]) (q := q) pc hd h1 hG2 h2 h3 h4 hb h5 h6 rfl hr hlen (AW.mono k hs)
theorem am_S4 (pc : Nat) {M N : am_M} {rc rs mc' ms' n ix : Nat} {x1 x2 x3 x4 : Value} {L : List (Option Value)} {st : List Value} {f : Nat → am_C} {P P' : am_P} (hd : decode (am_by M) pc = .ok (.invokestatic ix, 3)) (hc : am_cS (am_y M).cls ix N 4) (hG2 : am_G2 M N) (hr : (st.map fun v => v.category).sum ≤ 8) (hlen : (lg_sl [x1, x2, x3, x4]).length ≤ am_mL N) (hs : AM N mc' ms' [x1, x2, x3, x4] n f P') (k : ∀ o n' f', P' o n' f' → am_ct M rc rs pc L st P o n' f') : AW M (mc' + rc) (ms' + rs) pc L (x4 :: x3 :: x2 :: x1 :: st) n f P := by
  obtain ⟨h1, h2, h3⟩ := hc
  exact am_invS (as := [x1, x2, x3, x4]) pc hd h1 hG2 h2 h3 rfl hr hlen (AW.mono k hs)
theorem am_V5 (pc : Nat) {M N : am_M} {rc rs mc' ms' n ix b ci : Nat} {x1 x2 x3 x4 x5 : Value} {L : List (Option Value)} {st fs : List Value} {f : Nat → am_C} {P P' : am_P} (hd : decode (am_by M) pc = .ok (.invokevirtual ix, 3)) (hc : am_cV (am_y M).cls ix N 5 ci) (hG2 : am_G2 M N) (hb : f b = .inr (ci, fs)) (hr : (st.map fun v => v.category).sum ≤ 8) (hlen : (lg_sl [.ref b, x1, x2, x3, x4, x5]).length ≤ am_mL N) (hs : AM N mc' ms' [.ref b, x1, x2, x3, x4, x5] n f P') (k : ∀ o n' f', P' o n' f' → am_ct M rc rs pc L st P o n' f') : AW M (mc' + rc) (ms' + rs) pc L (x5 :: x4 :: x3 :: x2 :: x1 :: .ref b :: st) n f P := by
  obtain ⟨h1, h2, h3, h4, q, h5, h6⟩ := hc
  exact am_invV (as := [x1, x2, x3, x4, x5]) (q := q) pc hd h1 hG2 h2 h3 h4 hb h5 h6 rfl hr hlen (AW.mono k hs)
theorem am_S5 (pc : Nat) {M N : am_M} {rc rs mc' ms' n ix : Nat} {x1 x2 x3 x4 x5 : Value} {L : List (Option Value)} {st : List Value} {f : Nat → am_C} {P P' : am_P} (hd : decode (am_by M) pc = .ok (.invokestatic ix, 3)) (hc : am_cS (am_y M).cls ix N 5) (hG2 : am_G2 M N) (hr : (st.map fun v => v.category).sum ≤ 8) (hlen : (lg_sl [x1, x2, x3, x4, x5]).length ≤ am_mL N) (hs : AM N mc' ms' [x1, x2, x3, x4, x5] n f P') (k : ∀ o n' f', P' o n' f' → am_ct M rc rs pc L st P o n' f') : AW M (mc' + rc) (ms' + rs) pc L (x5 :: x4 :: x3 :: x2 :: x1 :: st) n f P := by
  obtain ⟨h1, h2, h3⟩ := hc
  exact am_invS (as := [x1, x2, x3, x4, x5]) pc hd h1 hG2 h2 h3 rfl hr hlen (AW.mono k hs)
theorem am_OI (pc : Nat) {M : am_M} {rc rs n ix b : Nat} {L : List (Option Value)} {st : List Value} {f : Nat → am_C} {P : am_P} (hd : decode (am_by M) pc = .ok (.invokespecial ix, 3)) (hc : am_cO (am_y M).cls ix) (hfr : 1 ≤ am_fr M) (hlo : (st.map fun v => v.category).sum + 12 ≤ am_lo M) (k : AW M rc rs (pc + 3) L st n f P) : AW M rc rs pc L (.ref b :: st) n f P := am_objInit pc hd hc.1 hc.2.1 hc.2.2 hfr hlo k
