/-! ===== AN ABSTRACT MACHINE OVER THE KIT'S ROWS: own cells by number, the world as one function, callers' facts hidden ===== -/
abbrev am_C : Type := (Nat × vp_A) ⊕ (Nat × List Value)
abbrev am_P : Type := (Option Value ⊕ Nat) → Nat → (Nat → am_C) → Prop
def am_v (ρ : Nat → Nat) : Value → Value
  | .ref i => .ref (ρ i)
  | v => v
def am_a (ρ : Nat → Nat) (a : vp_A) : vp_A := (a.1, match a.2 with
  | .inl f => .inl f
  | .inr (.inl f) => .inr (.inl f)
  | .inr (.inr (.inl f)) => .inr (.inr (.inl f))
  | .inr (.inr (.inr (.inl f))) => .inr (.inr (.inr (.inl f)))
  | .inr (.inr (.inr (.inr f))) => .inr (.inr (.inr (.inr (fun j => (f j).map ρ)))))
def am_e (cA : Nat → ClassId) (ρ : Nat → Nat) : am_C → va_E
  | .inl (t, a) => .inl (cA t, am_a ρ a)
  | .inr (c, fs) => .inr (c, fs.map (am_v ρ))
def am_w (cA : Nat → ClassId) (ρ : Nat → Nat) (n : Nat) (f : Nat → am_C) : va_W := (List.range (n - am_k0)).map (fun i => (ρ (i + am_k0), am_e cA ρ (f (i + am_k0))))
def am_vn (n : Nat) : Value → Prop
  | .ref i => i < n
  | _ => True
def am_sn (n : Nat) : List Value → Prop
  | [] => True
  | v :: st => am_vn n v ∧ am_sn n st
def am_ln (n : Nat) (L : List (Option Value)) : Prop := ∀ (i : Nat) (v : Value), L[i]? = some (some v) → am_vn n v
def am_cn (n : Nat) : am_C → Prop
  | .inl (_, (_, .inr (.inr (.inr (.inr f))))) => ∀ j i : Nat, f j = some i → i < n
  | .inl _ => True
  | .inr (_, fs) => ∀ v ∈ fs, am_vn n v
theorem am_vn_mono {n n' : Nat} (h : n ≤ n') {v : Value} (hv : am_vn n v) : am_vn n' v := by
  cases v with
  | ref i => exact Nat.lt_of_lt_of_le hv h
  | _ => trivial
theorem am_sn_mono {n n' : Nat} (h : n ≤ n') : ∀ {st : List Value}, am_sn n st → am_sn n' st
  | [], _ => trivial
  | _ :: _, hv => ⟨am_vn_mono h hv.1, am_sn_mono h hv.2⟩
theorem am_ln_mono {n n' : Nat} (h : n ≤ n') {L : List (Option Value)} (hv : am_ln n L) : am_ln n' L := fun i v q => am_vn_mono h (hv i v q)
theorem am_cn_mono {n n' : Nat} (h : n ≤ n') {c : am_C} (hv : am_cn n c) : am_cn n' c := by
  rcases c with ⟨t, k, f | f | f | f | f⟩ | ⟨c, fs⟩
  · trivial
  · trivial
  · trivial
  · trivial
  · intro j i e
    exact Nat.lt_of_lt_of_le (hv j i e) h
  · intro v q
    exact am_vn_mono h (hv v q)
theorem am_v_congr {ρ ρ' : Nat → Nat} {n : Nat} (h : ∀ i, i < n → ρ' i = ρ i) {v : Value} (hv : am_vn n v) : am_v ρ' v = am_v ρ v := by
  cases v <;> simp_all [am_v, am_vn]
theorem am_s_congr {ρ ρ' : Nat → Nat} {n : Nat} (h : ∀ i, i < n → ρ' i = ρ i) : ∀ {st : List Value}, am_sn n st → st.map (am_v ρ') = st.map (am_v ρ)
  | [], _ => rfl
  | _ :: _, hv => by rw [List.map_cons, List.map_cons, am_v_congr h hv.1, am_s_congr h hv.2]
theorem am_e_congr {cA : Nat → ClassId} {ρ ρ' : Nat → Nat} {n : Nat} (h : ∀ i, i < n → ρ' i = ρ i) {c : am_C} (hc : am_cn n c) : am_e cA ρ' c = am_e cA ρ c := by
  rcases c with ⟨t, k, f | f | f | f | f⟩ | ⟨c, fs⟩
  · rfl
  · rfl
  · rfl
  · rfl
  · have e : (fun j => (f j).map ρ') = (fun j => (f j).map ρ) := by
      funext j
      cases hj : f j with
      | none => rfl
      | some i => show some (ρ' i) = some (ρ i); rw [h i (hc j i hj)]
    simp only [am_e, am_a, e]
  · have e : fs.map (am_v ρ') = fs.map (am_v ρ) := List.map_congr_left fun v hv => am_v_congr h (hc v hv)
    simp only [am_e, e]
theorem am_w_at {cA : Nat → ClassId} {ρ : Nat → Nat} {n i : Nat} {f : Nat → am_C} (h : i < n) (h0 : am_k0 ≤ i) : (am_w cA ρ n f)[i - am_k0]? = some (ρ i, am_e cA ρ (f i)) := by
  have h1 : i - am_k0 < n - am_k0 := by omega
  have e : i - am_k0 + am_k0 = i := Nat.sub_add_cancel h0
  unfold am_w
  rw [List.getElem?_map, List.getElem?_range h1]
  show some (ρ (i - am_k0 + am_k0), am_e cA ρ (f (i - am_k0 + am_k0))) = _
  rw [e]
theorem am_w_len {cA : Nat → ClassId} {ρ : Nat → Nat} {n : Nat} {f : Nat → am_C} : (am_w cA ρ n f).length = n - am_k0 := by simp [am_w]
theorem am_w_inv {cA : Nat → ClassId} {ρ : Nat → Nat} {n k : Nat} {f : Nat → am_C} {q : Nat × va_E} (h : (am_w cA ρ n f)[k]? = some q) : k + am_k0 < n ∧ q = (ρ (k + am_k0), am_e cA ρ (f (k + am_k0))) := by
  have hk : k < n - am_k0 := by
    have := (List.getElem?_eq_some_iff.mp h).1
    rw [am_w_len] at this
    exact this
  have h2 := am_w_at (cA := cA) (ρ := ρ) (f := f) (n := n) (i := k + am_k0) (by omega) (Nat.le_add_left _ _)
  rw [Nat.add_sub_cancel, h] at h2
  exact ⟨by omega, Option.some.inj h2⟩
theorem am_w_set {cA : Nat → ClassId} {ρ : Nat → Nat} {n i : Nat} {f : Nat → am_C} {c : am_C} {e : va_E} (h0 : am_k0 ≤ i) (he : e = am_e cA ρ c) : (am_w cA ρ n f).set (i - am_k0) (ρ i, e) = am_w cA ρ n (va_up f i c) := by
  subst he
  apply List.ext_getElem?
  intro j
  rw [List.getElem?_set]
  by_cases hj : j + am_k0 < n
  · have g : ∀ g : Nat → am_C, (am_w cA ρ n g)[j]? = some (ρ (j + am_k0), am_e cA ρ (g (j + am_k0))) := fun g => by
      have := am_w_at (cA := cA) (ρ := ρ) (f := g) hj (Nat.le_add_left _ _)
      rwa [Nat.add_sub_cancel] at this
    rw [g, g, am_w_len]
    by_cases hi : i - am_k0 = j
    · have hi2 : i = j + am_k0 := by omega
      subst hi2
      rw [if_pos (by omega), if_pos (by omega)]
      simp [va_up]
    · have hi' : ¬ j + am_k0 = i := by omega
      simp [va_up, hi, hi']
  · have h1 : ∀ g : Nat → am_C, (am_w cA ρ n g)[j]? = none := fun g => List.getElem?_eq_none (by rw [am_w_len]; omega)
    rw [h1, h1, am_w_len]
    by_cases hi : i - am_k0 = j
    · rw [if_pos hi, if_neg (by omega)]
    · rw [if_neg hi]
theorem am_w_push {cA : Nat → ClassId} {ρ : Nat → Nat} {n q : Nat} {f : Nat → am_C} {c : am_C} {e : va_E} (h0 : am_k0 ≤ n) (he : e = am_e cA (va_up ρ n q) c) (hf : ∀ i, i < n → am_cn n (f i)) : am_w cA ρ n f ++ [(q, e)] = am_w cA (va_up ρ n q) (n + 1) (va_up f n c) := by
  subst he
  have g : ∀ (n : Nat) (ρ : Nat → Nat) (g : Nat → am_C) (j : Nat), j + am_k0 < n → (am_w cA ρ n g)[j]? = some (ρ (j + am_k0), am_e cA ρ (g (j + am_k0))) := fun n ρ g j hj => by
    have := am_w_at (cA := cA) (ρ := ρ) (f := g) hj (Nat.le_add_left _ _)
    rwa [Nat.add_sub_cancel] at this
  apply List.ext_getElem?
  intro j
  rcases Nat.lt_trichotomy (j + am_k0) n with hj | hj | hj
  · rw [List.getElem?_append_left (by rw [am_w_len]; omega), g _ _ _ _ hj, g _ _ _ _ (by omega)]
    have h1 : va_up ρ n q (j + am_k0) = ρ (j + am_k0) := by simp [va_up, Nat.ne_of_lt hj]
    have h2 : va_up f n c (j + am_k0) = f (j + am_k0) := by simp [va_up, Nat.ne_of_lt hj]
    rw [h1, h2, am_e_congr (ρ := ρ) (ρ' := va_up ρ n q) (n := n) (fun i hi => by simp [va_up, Nat.ne_of_lt hi]) (hf _ hj)]
  · subst hj
    rw [g _ _ _ _ (by omega), List.getElem?_append_right (by rw [am_w_len]; omega), am_w_len]
    simp [va_up]
  · rw [List.getElem?_eq_none (by rw [List.length_append, am_w_len]; simp; omega), List.getElem?_eq_none (by rw [am_w_len]; omega)]
theorem am_cat (ρ : Nat → Nat) (v : Value) : (am_v ρ v).category = v.category := by cases v <;> rfl
/-! locals -/
def am_L (ρ : Nat → Nat) (L : List (Option Value)) (nL : Nat) (ls : Array Slot) : Prop := ls.size = nL ∧ lv_wf ls ∧ ∀ (i : Nat) (v : Value), L[i]? = some (some v) → ls[i]? = some (.val (am_v ρ v))
def am_ll (ρ : Nat → Nat) : List (Option Value) → Nat → List (Nat × Value)
  | [], _ => []
  | none :: L, k => am_ll ρ L (k + 1)
  | some v :: L, k => (k, am_v ρ v) :: am_ll ρ L (k + 1)
theorem am_ll_in (ρ : Nat → Nat) : ∀ (L : List (Option Value)) (k : Nat) (q : Nat × Value), q ∈ am_ll ρ L k → ∃ (i : Nat) (v : Value), L[i]? = some (some v) ∧ q = (k + i, am_v ρ v)
  | [], _, q, h => by cases h
  | none :: L, k, q, h => by
    obtain ⟨i, v, h1, h2⟩ := am_ll_in ρ L (k + 1) q h
    exact ⟨i + 1, v, by simpa using h1, by rw [h2]; congr 1; omega⟩
  | some w :: L, k, q, h => by
    rcases List.mem_cons.mp h with h | h
    · exact ⟨0, w, rfl, h⟩
    · obtain ⟨i, v, h1, h2⟩ := am_ll_in ρ L (k + 1) q h
      exact ⟨i + 1, v, by simpa using h1, by rw [h2]; congr 1; omega⟩
theorem am_ll_mem (ρ : Nat → Nat) : ∀ (L : List (Option Value)) (k i : Nat) (v : Value), L[i]? = some (some v) → (k + i, am_v ρ v) ∈ am_ll ρ L k
  | [], _, i, v, h => by simp at h
  | none :: L, k, 0, v, h => by simp at h
  | none :: L, k, i + 1, v, h => by
    have := am_ll_mem ρ L (k + 1) i v (by simpa using h)
    rw [show k + (i + 1) = k + 1 + i by omega]
    exact this
  | some w :: L, k, 0, v, h => by
    have e : w = v := by simpa using h
    subst e
    exact List.mem_cons_self
  | some w :: L, k, i + 1, v, h => by
    have := am_ll_mem ρ L (k + 1) i v (by simpa using h)
    rw [show k + (i + 1) = k + 1 + i by omega]
    exact List.mem_cons_of_mem _ this
theorem am_L_has {ρ : Nat → Nat} {L : List (Option Value)} {nL : Nat} {ls : Array Slot} (h : am_L ρ L nL ls) : lv_has ls nL (am_ll ρ L 0) := by
  refine ⟨h.1, h.2.1, fun q hq => ?_⟩
  obtain ⟨i, v, h1, h2⟩ := am_ll_in ρ L 0 q hq
  subst h2
  rw [Nat.zero_add]
  exact h.2.2 i v h1
theorem am_L_congr {ρ ρ' : Nat → Nat} {n : Nat} (h : ∀ i, i < n → ρ' i = ρ i) {L : List (Option Value)} {nL : Nat} {ls : Array Slot} (hL : am_ln n L) (k : am_L ρ L nL ls) : am_L ρ' L nL ls :=
  ⟨k.1, k.2.1, fun i v q => by rw [am_v_congr h (hL i v q)]; exact k.2.2 i v q⟩
/-- the place ahead loses a long that reached into this one -/
def am_cl : List (Option Value) → Nat → List (Option Value)
  | [], _ => []
  | x :: L, 0 => x :: L
  | x :: L, 1 => (match x with | some (.long _) => none | some (.double _) => none | y => y) :: L
  | x :: L, i + 2 => x :: am_cl L (i + 1)
def am_s1 (L : List (Option Value)) (i : Nat) (v : Value) : List (Option Value) := (am_cl L i).set i (some v)
def am_s2 (L : List (Option Value)) (i : Nat) (v : Value) : List (Option Value) := ((am_cl L i).set i (some v)).set (i + 1) none
theorem am_cl_at : ∀ (L : List (Option Value)) (i j : Nat) (v : Value), (am_cl L i)[j]? = some (some v) → L[j]? = some (some v) ∧ ¬ (j + 1 = i ∧ v.category = 2)
  | [], _, _, _, h => by simp [am_cl] at h
  | x :: L, 0, j, v, h => ⟨h, by omega⟩
  | x :: L, 1, 0, v, h => by
    rcases x with _ | x
    · simp [am_cl] at h
    · cases x <;> simp_all [am_cl, Value.category]
      all_goals (subst h; simp)
  | x :: L, 1, j + 1, v, h => ⟨by simpa [am_cl] using h, by omega⟩
  | x :: L, i + 2, 0, v, h => ⟨by simpa [am_cl] using h, by omega⟩
  | x :: L, i + 2, j + 1, v, h => by
    have := am_cl_at L (i + 1) j v (by simpa [am_cl] using h)
    exact ⟨by simpa using this.1, fun q => this.2 ⟨by omega, q.2⟩⟩
theorem am_s1_at {L : List (Option Value)} {i j : Nat} {v w : Value} (h : (am_s1 L i v)[j]? = some (some w)) : (j = i ∧ w = v) ∨ (j ≠ i ∧ L[j]? = some (some w) ∧ ¬ (j + 1 = i ∧ w.category = 2)) := by
  unfold am_s1 at h
  rw [List.getElem?_set] at h
  by_cases e : i = j
  · rw [if_pos e] at h
    split at h
    · exact Or.inl ⟨e.symm, by simpa using h.symm⟩
    · simp at h
  · rw [if_neg e] at h
    exact Or.inr ⟨fun q => e q.symm, am_cl_at L i j w h⟩
theorem am_s2_at {L : List (Option Value)} {i j : Nat} {v w : Value} (h : (am_s2 L i v)[j]? = some (some w)) : (j = i ∧ w = v) ∨ (j ≠ i ∧ j ≠ i + 1 ∧ L[j]? = some (some w) ∧ ¬ (j + 1 = i ∧ w.category = 2)) := by
  unfold am_s2 at h
  rw [List.getElem?_set] at h
  by_cases e : i + 1 = j
  · rw [if_pos e] at h
    split at h <;> simp at h
  · rw [if_neg e] at h
    rcases am_s1_at (L := L) (i := i) (v := v) h with h | h
    · exact Or.inl h
    · exact Or.inr ⟨h.1, fun q => e q.symm, h.2⟩
theorem am_ln_s1 {n : Nat} {L : List (Option Value)} {i : Nat} {v : Value} (h : am_ln n L) (hv : am_vn n v) : am_ln n (am_s1 L i v) := fun j w q => by
  rcases am_s1_at q with ⟨-, e⟩ | ⟨-, e, -⟩
  · rw [e]; exact hv
  · exact h j w e
theorem am_ln_s2 {n : Nat} {L : List (Option Value)} {i : Nat} {v : Value} (h : am_ln n L) (hv : am_vn n v) : am_ln n (am_s2 L i v) := fun j w q => by
  rcases am_s2_at q with ⟨-, e⟩ | ⟨-, -, e, -⟩
  · rw [e]; exact hv
  · exact h j w e
theorem am_L_s1 {ρ : Nat → Nat} {L : List (Option Value)} {nL i : Nat} {v v' : Value} {ls : Array Slot} (e : v' = am_v ρ v) (h : lv_has ls nL ((i, v') :: (am_ll ρ L 0).filter (fun q => !(q.1 == i) && !(q.1 + 1 == i && q.2.category == 2)))) : am_L ρ (am_s1 L i v) nL ls := by
  subst e
  refine ⟨h.1, h.2.1, fun j w hw => ?_⟩
  rcases am_s1_at hw with ⟨e1, e2⟩ | ⟨e1, e2, e3⟩
  · subst e1; subst e2
    exact h.2.2 (j, am_v ρ w) List.mem_cons_self
  · refine h.2.2 (j, am_v ρ w) (List.mem_cons_of_mem _ (List.mem_filter.mpr ⟨by have := am_ll_mem ρ L 0 j w e2; rwa [Nat.zero_add] at this, ?_⟩))
    have e4 : ¬ (j + 1 = i ∧ (am_v ρ w).category = 2) := by rw [am_cat]; exact e3
    simp
    exact ⟨e1, Classical.not_and_iff_not_or_not.mp e4⟩
theorem am_L_s2 {ρ : Nat → Nat} {L : List (Option Value)} {nL i : Nat} {v v' : Value} {ls : Array Slot} (e : v' = am_v ρ v) (h : lv_has ls nL ((i, v') :: (am_ll ρ L 0).filter (fun q => !(q.1 == i) && (!(q.1 == i + 1) && !(q.1 + 1 == i && q.2.category == 2))))) : am_L ρ (am_s2 L i v) nL ls := by
  subst e
  refine ⟨h.1, h.2.1, fun j w hw => ?_⟩
  rcases am_s2_at hw with ⟨e1, e2⟩ | ⟨e1, e5, e2, e3⟩
  · subst e1; subst e2
    exact h.2.2 (j, am_v ρ w) List.mem_cons_self
  · refine h.2.2 (j, am_v ρ w) (List.mem_cons_of_mem _ (List.mem_filter.mpr ⟨by have := am_ll_mem ρ L 0 j w e2; rwa [Nat.zero_add] at this, ?_⟩))
    have e4 : ¬ (j + 1 = i ∧ (am_v ρ w).category = 2) := by rw [am_cat]; exact e3
    simp
    exact ⟨e1, e5, Classical.not_and_iff_not_or_not.mp e4⟩
/-- the locals at a method's entry -/
def am_e0 : List Value → List (Option Value)
  | [] => []
  | v :: vs => match v with
    | .long x => some (.long x) :: none :: am_e0 vs
    | .double x => some (.double x) :: none :: am_e0 vs
    | v => some v :: am_e0 vs
def am_en (nL : Nat) (vs : List Value) : List (Option Value) := am_e0 vs ++ List.replicate (nL - (am_e0 vs).length) none
theorem am_e0_at : ∀ (vs : List Value) (k i : Nat) (ρ : Nat → Nat) (v : Value), (am_e0 vs)[i]? = some (some v) → (k + i, am_v ρ v) ∈ lv_args k (vs.map (am_v ρ))
  | [], _, _, _, _, h => by simp [am_e0] at h
  | w :: vs, k, i, ρ, v, h => by
    have ih := am_e0_at vs
    cases w <;> rcases i with _ | i <;> simp only [am_e0, List.getElem?_cons_zero, List.getElem?_cons_succ, Option.some.injEq, List.map_cons, lv_args] at h ⊢
    all_goals first
      | (subst h; exact List.mem_cons_self)
      | (refine List.mem_cons_of_mem _ ?_
         first
           | (have := ih (k + 1) i ρ v h; rw [show k + (i + 1) = k + 1 + i by omega]; exact this)
           | (rcases i with _ | i
              · simp at h
              · have := ih (k + 2) i ρ v (by simpa using h); rw [show k + (i + 1 + 1) = k + 2 + i by omega]; exact this))
theorem am_en_L {ρ : Nat → Nat} {vs : List Value} {nL : Nat} (h : (lg_sl (vs.map (am_v ρ))).length ≤ nL) : am_L ρ (am_en nL vs) nL ((lg_sl (vs.map (am_v ρ)) ++ List.replicate (nL - (lg_sl (vs.map (am_v ρ))).length) Slot.unset).toArray) := by
  have hl := lv_entry (vs.map (am_v ρ)) (n := nL) h
  refine ⟨hl.1, hl.2.1, fun i v hi => ?_⟩
  have h1 : (am_e0 vs)[i]? = some (some v) := by
    unfold am_en at hi
    rw [List.getElem?_append] at hi
    split at hi
    · exact hi
    · rw [List.getElem?_replicate] at hi
      split at hi <;> simp at hi
  have := am_e0_at vs 0 i ρ v h1
  rw [Nat.zero_add] at this
  exact hl.2.2 (i, am_v ρ v) this
theorem am_en_n {n : Nat} : ∀ {vs : List Value}, am_sn n vs → ∀ {nL : Nat}, am_ln n (am_en nL vs) := by
  intro vs h nL i v hi
  have h1 : (am_e0 vs)[i]? = some (some v) := by
    unfold am_en at hi
    rw [List.getElem?_append] at hi
    split at hi
    · exact hi
    · rw [List.getElem?_replicate] at hi
      split at hi <;> simp at hi
  clear hi
  induction vs generalizing i with
  | nil => simp [am_e0] at h1
  | cons w vs ih =>
    cases w <;> rcases i with _ | i <;> simp only [am_e0, List.getElem?_cons_zero, List.getElem?_cons_succ, Option.some.injEq] at h1
    all_goals first
      | (subst h1; exact h.1)
      | exact ih h.2 i h1
      | (rcases i with _ | i
         · simp at h1
         · exact ih h.2 i (by simpa using h1))
theorem am_sl_len (ρ : Nat → Nat) (vs : List Value) : (lg_sl (vs.map (am_v ρ))).length = (lg_sl vs).length := by
  induction vs with
  | nil => rfl
  | cons v vs ih =>
    simp only [lg_sl, List.map_cons, List.flatMap_cons, List.length_append, am_cat] at ih ⊢
    rw [ih]
    split <;> rfl
