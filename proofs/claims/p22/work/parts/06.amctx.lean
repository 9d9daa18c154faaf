/-! ===== a method as the abstract machine sees it, and the walk's statement ===== -/
/-- name, bytes, locals, what it returns, handlers, frames and locals' words that it needs -/
abbrev am_M : Type := MethodName × ByteArray × Nat × Option FieldType × List (Nat × Nat × Nat × Nat) × Nat × Nat
abbrev am_y (M : am_M) : MethodName := M.1
abbrev am_by (M : am_M) : ByteArray := M.2.1
abbrev am_mL (M : am_M) : Nat := M.2.2.1
abbrev am_rt (M : am_M) : Option FieldType := M.2.2.2.1
abbrev am_hh (M : am_M) : List (Nat × Nat × Nat × Nat) := M.2.2.2.2.1
abbrev am_fr (M : am_M) : Nat := M.2.2.2.2.2.1
abbrev am_lo (M : am_M) : Nat := M.2.2.2.2.2.2
def am_W : List Cond := lw_tbl.filter goodWord
theorem am_good (w : Cond) (h : w ∈ am_W) : (w.onTables && w.keeps) = true ∨ ∃ ty, w = .arrayClass ty := good_of_word (List.mem_filter.mp h).2
theorem am_in (i : Nat) {w : Cond} (h : lw_tbl[i]? = some w) (g : goodWord w = true) : w ∈ am_W := List.mem_filter.mpr ⟨List.mem_of_getElem? h, g⟩
/-- a list's words by their places -/
theorem am_ins {ws : List Cond} (is : List Nat) (h : is.filterMap (fun i => lw_tbl[i]?) = ws) (g : ws.all goodWord = true) : ∀ w ∈ ws, w ∈ am_W := by
  intro w hw
  refine List.mem_filter.mpr ⟨?_, List.all_eq_true.mp g w hw⟩
  rw [← h] at hw
  obtain ⟨i, -, hi⟩ := List.mem_filterMap.mp hw
  exact List.mem_of_getElem? hi
/-- words that the tables alone decide and that stand in a moved machine -/
def am_fW : List Cond := lw_tbl.filter (fun w => w.faceAtom && w.onTables)
theorem am_face_at {a a' : Array Value} {s U : State} {w : Cond} (hg : w ∈ am_fW) (hvm : s.vm.Alike U.vm) (h : w.before a s = true) : w.before a' U = true := by
  have h1 := (List.mem_filter.mp hg).2
  simp only [Bool.and_eq_true] at h1
  have h2 := Cond.faceAtom_setVm hvm w h1.1 h
  exact vx_ot_at (s := s.setVm U.vm) (U := U) (State.WarmedH.refl _) rfl (by simp [vx_ot, h1.2]) h2
def am_tys (cA : Nat → ClassId) : List (ClassId × FieldType) := (List.range am_tyl.length).map (fun i => (cA i, am_tyl.getD i .int))
theorem am_tys_at {cA : Nat → ClassId} {t : Nat} {ty : FieldType} (h : am_tyl[t]? = some ty) : (am_tys cA)[t]? = some (cA t, ty) := by
  have hl : t < am_tyl.length := (List.getElem?_eq_some_iff.mp h).1
  unfold am_tys
  rw [List.getElem?_map, List.getElem?_range hl]
  show some (cA t, am_tyl.getD t .int) = _
  rw [List.getD_eq_getElem?_getD, h]
  rfl
/-- what the tables say that no word of the list says, seen from a state -/
def am_S (D : va_G) (cA : Nat → ClassId) (A : Nat → Prop) (U : State) : Prop :=
  va_K D vwCl (am_tys cA) U ∧ ((∀ q ∈ am_nst, va_Nw (.methodLinkNest q.1 q.2.1 q.2.2.1 q.2.2.2) U) ∧ (∀ q ∈ am_nfl, va_Nw (.fieldLinkNest q.1 q.2.1 q.2.2.1 q.2.2.2.1 q.2.2.2.2.1 q.2.2.2.2.2) U)) ∧ (∀ q ∈ am_str, ∃ a : Nat, vk_R q.1 q.2.1 q.2.2 a U) ∧ (∀ q ∈ am_ncs, va_Nc q.1 q.2 U) ∧ (∀ q ∈ am_aov, va_AO q U) ∧
  vx_Zq Bundle.tN "UNASSIGNED_STACK" Bundle.steD A U U.heap ∧ vx_Zq Bundle.tN "SUPPRESSED_SENTINEL" Bundle.listD A U U.heap ∧ (∀ w ∈ am_fW, w.before #[] U = true)
theorem am_S_blind {D : va_G} {cA : Nat → ClassId} {A : Nat → Prop} {U : State} {g : JFrame} {mk : MethodId} {a : Array Value} (h : am_S D cA A U) : am_S D cA A (U.calling g mk a) := by
  obtain ⟨h1, h2, h3, h4, h7, h5, h6, h8⟩ := h
  have ha : U.vm.Alike (U.calling g mk a).vm := Vm.Alike.refl U.vm
  refine ⟨h1.moved ha, ⟨fun q hq => va_Nw.same rfl (u := U) rfl (h2.1 q hq), fun q hq => va_Nw.same rfl (u := U) rfl (h2.2 q hq)⟩, fun q hq => ?_, fun q hq => (h4 q hq).moved ha, fun q hq => (h7 q hq).moved ha, h5.moved ha, h6.moved ha, fun w hw => am_face_at hw ha (h8 w hw)⟩
  obtain ⟨x, hx⟩ := h3 q hq
  exact ⟨x, vk_R.same (u := U) rfl hx⟩
/-- the facts at a method's start serve at any later state of its body, for the callee's smaller set of cells -/
theorem am_S_at {D : va_G} {cA : Nat → ClassId} {A B : Nat → Prop} {s U : State} {locs : List Loc} (h : am_S D cA A s) (hS : va_S A s.heap U.heap locs) (hW : s.WarmedH U.vm) (hAB : ∀ q, B q → A q) : am_S D cA B U := by
  obtain ⟨h1, h2, h3, h4, h7, h5, h6, h8⟩ := h
  refine ⟨h1.moved hW.alike, ⟨fun q hq => va_Nw.warmM hW (h2.1 q hq), fun q hq => va_Nw.warmF hW (h2.2 q hq)⟩, fun q hq => ?_, fun q hq => (h4 q hq).moved hW.alike, fun q hq => (h7 q hq).moved hW.alike, ((h5.kept hS.2.1).moved hW.alike).narrow hAB, ((h6.kept hS.2.1).moved hW.alike).narrow hAB, fun w hw => am_face_at hw hW.alike (h8 w hw)⟩
  obtain ⟨x, hx⟩ := h3 q hq
  exact ⟨x, vk_R.warm hW hx⟩
/-- the machine, the code, the tables: what stays the same in a method's body -/
def am_K (M : am_M) (D : va_G) (cA : Nat → ClassId) (p : Program) (l : Launch) (s : State) (m : MethodId) (args : Array Value) (meth : Method) (c : Code) (A : Nat → Prop) : Prop :=
  p.tables.exec = Jvm.exec ∧ c.code = am_by M ∧ meth.sig.returnType = am_rt M ∧ c.maxLocals = am_mL M ∧ s.vm.findClass (am_y M).cls = some m.cls ∧ (∀ w ∈ am_W, w.before args s = true) ∧ meth.locks = false ∧
  c.exceptionTable.toList = tableOf (am_hh M) ∧ l.stackTraces = false ∧ meth.name = (am_y M).name ∧ (∀ q, s.heap.size ≤ q → A q) ∧ am_S D cA A s
def am_room (M : am_M) (R : Room) (mc ms : Nat) : Prop := am_fr M ≤ R.frames ∧ am_lo M ≤ R.locals ∧ mc ≤ R.cells ∧ ms ≤ R.slots
/-- what a method may read from outside its world: the script; ArrayList's own empty array -/
def am_x (i : Nat) (c : am_C) (a : Nat) (A : Nat → Prop) (s : State) : Prop := match i with
  | 0 => ∃ (N : Nat) (xs : Nat → Int32), c = .inl (20, N, .inl xs) ∧ va_X a N xs s s.heap
  | _ => c = .inl (21, 0, .inr (.inr (.inr (.inr (fun _ => none))))) ∧ (∃ cell : Cell, s.heap[a]? = some cell ∧ s.isArrayOf cell (.object "java/lang/Object") ∧ cell.vm ≠ .unknown ∧ cell.slots.size = 0) ∧ va_Z "java/util/ArrayList" "DEFAULTCAPACITY_EMPTY_ELEMENTDATA" "[Ljava/lang/Object;" (.ref a) A s s.heap
def am_Ex (A : Nat → Prop) (s : State) (ρ : Nat → Nat) (e : Nat → am_C) : Prop := ∀ i, i < am_k0 → am_x i (e i) (ρ i) A s ∧ ρ i < s.heap.size ∧ ¬ A (ρ i)
abbrev am_n : Type := Nat × (Nat → am_C)
theorem am_Ex_blind {A : Nat → Prop} {U : State} {ρ : Nat → Nat} {f : Nat → am_C} {g : JFrame} {mk : MethodId} {a : Array Value} (h : am_Ex A U ρ f) : am_Ex A (U.calling g mk a) ρ f := by
  have ha : U.vm.Alike (U.calling g mk a).vm := Vm.Alike.refl U.vm
  intro i hi
  obtain ⟨h1, h2, h3⟩ := h i hi
  refine ⟨?_, h2, h3⟩
  cases i with
  | zero =>
    obtain ⟨N, xs, e, hx⟩ := h1
    exact ⟨N, xs, e, hx.moved ha⟩
  | succ i =>
    obtain ⟨e, ⟨cell, c1, c2, c3⟩, hz⟩ := h1
    exact ⟨e, ⟨cell, c1, State.isArrayOf_alike ha c2, c3⟩, hz.moved ha⟩
theorem am_Ex_at {A B : Nat → Prop} {s U : State} {locs : List Loc} {ρ ρ' : Nat → Nat} {e f : Nat → am_C} (h : am_Ex A s ρ e) (hS : va_S A s.heap U.heap locs) (hW : s.WarmedH U.vm) (hAB : ∀ q, B q → A q) (hρ : ∀ i, i < am_k0 → ρ' i = ρ i) (hf : ∀ i, i < am_k0 → f i = e i) : am_Ex B U ρ' f := by
  intro i hi
  obtain ⟨h1, h2, h3⟩ := h i hi
  have hk : U.heap[ρ i]? = s.heap[ρ i]? := hS.2.1 _ h2 h3
  rw [hρ i hi, hf i hi]
  refine ⟨?_, Nat.lt_of_lt_of_le h2 hS.1, fun z => h3 (hAB _ z)⟩
  cases i with
  | zero =>
    obtain ⟨N, xs, e, hx⟩ := h1
    exact ⟨N, xs, e, (hx.kept hk).moved hW.alike⟩
  | succ i =>
    obtain ⟨e, ⟨cell, c1, c2, c3⟩, hz⟩ := h1
    exact ⟨e, ⟨cell, by rw [hk]; exact c1, State.isArrayOf_alike hW.alike c2, c3⟩, ((hz.kept hS.2.1).moved hW.alike).narrow hAB⟩
/-- the world -/
def am_U (D : va_G) (cA : Nat → ClassId) (A : Nat → Prop) (s : State) (n0 : am_n) (ρ0 : Nat → Nat) (n : Nat) (f : Nat → am_C) (H : Heap) (locs : List Loc) (ρ : Nat → Nat) : Prop :=
  va_P D vwCl (am_w cA ρ n f) H ∧ va_D A (am_w cA ρ n f) ∧ va_S A s.heap H locs ∧ (n0.1 ≤ n ∧ am_k0 ≤ n0.1 ∧ (∀ i, i < am_k0 → f i = n0.2 i) ∧ am_Ex A s ρ0 n0.2) ∧ (∀ i, i < n0.1 → ρ i = ρ0 i) ∧ ∀ i, i < n → am_cn n (f i)
def am_T (D : va_G) (cA : Nat → ClassId) (A : Nat → Prop) (s : State) (n0 : am_n) (ρ0 : Nat → Nat) (nL : Nat) (n : Nat) (f : Nat → am_C) (L : List (Option Value)) (st : List Value) (H : Heap) (locs : List Loc) (ρ : Nat → Nat) (ls : Array Slot) : Prop :=
  am_sn n st ∧ (am_ln n L ∧ am_L ρ L nL ls) ∧ am_U D cA A s n0 ρ0 n f H locs ρ
def am_R (D : va_G) (cA : Nat → ClassId) (A : Nat → Prop) (n0 : am_n) (ρ0 : Nat → Nat) (n : Nat) (f : Nat → am_C) (ρ : Nat → Nat) (t : State) : Prop :=
  va_P D vwCl (am_w cA ρ n f) t.heap ∧ va_D A (am_w cA ρ n f) ∧ (n0.1 ≤ n ∧ ∀ i, i < am_k0 → f i = n0.2 i) ∧ (∀ i, i < n0.1 → ρ i = ρ0 i) ∧ ∀ i, i < n → am_cn n (f i)
def am_Q (D : va_G) (cA : Nat → ClassId) (A : Nat → Prop) (n0 : am_n) (ρ0 : Nat → Nat) (P : am_P) : Array Value → State → Outcome → State → Prop := fun _ st o t =>
  (∃ (v : Option Value) (n : Nat) (f : Nat → am_C) (ρ : Nat → Nat), o = .returned (v.map (am_v ρ)) ∧ P (.inl v) n f ∧ am_sn n v.toList ∧ am_R D cA A n0 ρ0 n f ρ t) ∧ va_F A st t
def am_E (k : Nat) : String := match k with
  | 0 => "java/lang/IllegalArgumentException"
  | 1 => "java/lang/IllegalStateException"
  | _ => "java/lang/IndexOutOfBoundsException"
def am_X (D : va_G) (cA : Nat → ClassId) (A : Nat → Prop) (n0 : am_n) (ρ0 : Nat → Nat) (P : am_P) : String → State → State → Prop := fun E st t =>
  (∃ (k : Nat) (n : Nat) (f : Nat → am_C) (ρ : Nat → Nat), am_E k = E ∧ P (.inr k) n f ∧ am_R D cA A n0 ρ0 n f ρ t) ∧ va_F A st t
/-- FROM HERE (code place, locals, stack, world) method M ends with P, making at most rc cells of rs slots -/
def AW (M : am_M) (rc rs pc : Nat) (L : List (Option Value)) (st : List Value) (n : Nat) (f : Nat → am_C) (P : am_P) : Prop :=
  ∀ (D : va_G) (cA : Nat → ClassId) (p : Program) (l : Launch) (e : Env) (R : Room) (s : State) (m : MethodId) (args : Array Value) (below : List Frame) (meth : Method) (c : Code) (A : Nat → Prop) (n0 : am_n) (ρ0 : Nat → Nat) (mc ms : Nat),
    am_K M D cA p l s m args meth c A → am_room M R mc ms →
    ∀ (H : Heap) (locs : List Loc) (cells slots : Nat) (ρ : Nat → Nat) (ls : Array Slot), am_T D cA A s n0 ρ0 (am_mL M) n f L st H locs ρ ls → (cells + rc ≤ mc ∧ slots + rs ≤ ms) →
      W p l e R s m args below meth c H locs cells slots (vx_MQ below (am_Q D cA A n0 ρ0 P) (am_X D cA A n0 ρ0 P) args s mc ms A) (F0 m pc ls (st.map (am_v ρ)))
/-- .. with an exception of kind E thrown over the frame -/
def AX (M : am_M) (rc rs pc : Nat) (L : List (Option Value)) (st : List Value) (E : Nat) (n : Nat) (f : Nat → am_C) (P : am_P) : Prop :=
  ∀ (D : va_G) (cA : Nat → ClassId) (p : Program) (l : Launch) (e : Env) (R : Room) (s : State) (m : MethodId) (args : Array Value) (below : List Frame) (meth : Method) (c : Code) (A : Nat → Prop) (n0 : am_n) (ρ0 : Nat → Nat) (mc ms : Nat),
    am_K M D cA p l s m args meth c A → am_room M R mc ms →
    ∀ (H : Heap) (locs : List Loc) (cells slots : Nat) (ρ : Nat → Nat) (ls : Array Slot) (q : Addr) (ce : Cell), am_T D cA A s n0 ρ0 (am_mL M) n f L st H locs ρ ls → (cells + rc ≤ mc ∧ slots + rs ≤ ms) →
      H[q]? = some ce → ce.vm = .none → s.vm.findClass (am_E E) = some ce.cls →
      vx_W p l e R s m args below meth c H locs cells slots (vx_MQ below (am_Q D cA A n0 ρ0 P) (am_X D cA A n0 ρ0 P) args s mc ms A) (F0 m pc ls (st.map (am_v ρ))) q
theorem am_MQ_mono {below : List Frame} {Qc Qc' : Array Value → State → Outcome → State → Prop} {XC XC' : String → State → State → Prop} {a : Array Value} {s : State} {mc ms : Nat} {A : Nat → Prop} (h1 : ∀ o t, Qc a s o t → Qc' a s o t) (h2 : ∀ E t, XC E s t → XC' E s t) : ∀ t, vx_MQ below Qc XC a s mc ms A t → vx_MQ below Qc' XC' a s mc ms A t := by
  rintro t ⟨o, a1, a2, a3⟩
  refine ⟨o, a1, a2, ?_⟩
  rcases a3 with ⟨b1, b2⟩ | ⟨q, b1, E, ce, L, b2, b3⟩
  · exact Or.inl ⟨h1 o t b1, b2⟩
  · exact Or.inr ⟨q, b1, E, ce, L, h2 E t b2, b3⟩
theorem am_W_mono {p : Program} {l : Launch} {e : Env} {R : Room} {s : State} {m : MethodId} {args : Array Value} {below : List Frame} {meth : Method} {c : Code} {H : Heap} {locs : List Loc} {cells slots : Nat} {Q Q' : State → Prop} {g : JFrame} (h : ∀ t, Q t → Q' t) (k : W p l e R s m args below meth c H locs cells slots Q g) : W p l e R s m args below meth c H locs cells slots Q' g := fun T hT X => by
  obtain ⟨t, a, b⟩ := k T hT X
  exact ⟨t, a, h t b⟩
theorem AW.mono {M : am_M} {rc rs pc n : Nat} {L : List (Option Value)} {st : List Value} {f : Nat → am_C} {P P' : am_P} (h : ∀ o n' f', P o n' f' → P' o n' f') (k : AW M rc rs pc L st n f P) : AW M rc rs pc L st n f P' := by
  intro D cA p l e R s m args below meth c A n0 ρ0 mc ms hC hR H locs cells slots ρ ls hT hcs
  refine am_W_mono (am_MQ_mono ?_ ?_) (k D cA p l e R s m args below meth c A n0 ρ0 mc ms hC hR H locs cells slots ρ ls hT hcs)
  · rintro o t ⟨⟨v, n', f', ρ', h1, h2, h3⟩, h4⟩
    exact ⟨⟨v, n', f', ρ', h1, h _ _ _ h2, h3⟩, h4⟩
  · rintro E t ⟨⟨v, n', f', ρ', h1, h2, h3⟩, h4⟩
    exact ⟨⟨v, n', f', ρ', h1, h _ _ _ h2, h3⟩, h4⟩
theorem AW.more {M : am_M} {rc rs rc' rs' pc n : Nat} {L : List (Option Value)} {st : List Value} {f : Nat → am_C} {P : am_P} (h1 : rc ≤ rc') (h2 : rs ≤ rs') (k : AW M rc rs pc L st n f P) : AW M rc' rs' pc L st n f P := by
  intro D cA p l e R s m args below meth c A n0 ρ0 mc ms hC hR H locs cells slots ρ ls hT hcs
  exact k D cA p l e R s m args below meth c A n0 ρ0 mc ms hC hR H locs cells slots ρ ls hT ⟨by omega, by omega⟩
theorem am_k {M : am_M} {rc rs pc n : Nat} {L : List (Option Value)} {st : List Value} {f : Nat → am_C} {P : am_P} {D : va_G} {cA : Nat → ClassId} {p : Program} {l : Launch} {e : Env} {R : Room} {s : State} {m : MethodId} {args : Array Value} {below : List Frame} {meth : Method} {c : Code} {A : Nat → Prop} {n0 : am_n} {ρ0 : Nat → Nat} {mc ms : Nat} {H : Heap} {locs : List Loc} {cells slots : Nat} {ρ : Nat → Nat} {ls : Array Slot}
    (k : AW M rc rs pc L st n f P) (hC : am_K M D cA p l s m args meth c A) (hR : am_room M R mc ms) (hT : am_T D cA A s n0 ρ0 (am_mL M) n f L st H locs ρ ls) (hcs : cells + rc ≤ mc ∧ slots + rs ≤ ms) :
      W p l e R s m args below meth c H locs cells slots (vx_MQ below (am_Q D cA A n0 ρ0 P) (am_X D cA A n0 ρ0 P) args s mc ms A) (F0 m pc ls (st.map (am_v ρ))) := k D cA p l e R s m args below meth c A n0 ρ0 mc ms hC hR H locs cells slots ρ ls hT hcs
/-- an object is no thing from outside; nor is an array of the world's types -/
theorem am_ownO {n0 : am_n} {n : Nat} {f : Nat → am_C} {A : Nat → Prop} {s : State} {ρ0 : Nat → Nat} {b : Nat} {o : Nat × List Value} (h : n0.1 ≤ n ∧ am_k0 ≤ n0.1 ∧ (∀ i, i < am_k0 → f i = n0.2 i) ∧ am_Ex A s ρ0 n0.2) (hb : f b = .inr o) : am_k0 ≤ b := by
  apply Nat.le_of_not_lt
  intro hk
  have h1 := (h.2.2.2 b hk).1
  rw [← h.2.2.1 b hk, hb] at h1
  cases b with
  | zero => obtain ⟨N, xs, e, -⟩ := h1; cases e
  | succ b => obtain ⟨e, -⟩ := h1; cases e
theorem am_ownA {n0 : am_n} {n : Nat} {f : Nat → am_C} {A : Nat → Prop} {s : State} {ρ0 : Nat → Nat} {b t : Nat} {a : vp_A} (h : n0.1 ≤ n ∧ am_k0 ≤ n0.1 ∧ (∀ i, i < am_k0 → f i = n0.2 i) ∧ am_Ex A s ρ0 n0.2) (hb : f b = .inl (t, a)) (ht : t < 20) : am_k0 ≤ b := by
  apply Nat.le_of_not_lt
  intro hk
  have h1 := (h.2.2.2 b hk).1
  rw [← h.2.2.1 b hk, hb] at h1
  cases b with
  | zero => obtain ⟨N, xs, e, -⟩ := h1; cases e; omega
  | succ b => obtain ⟨e, -⟩ := h1; cases e; omega
theorem am_t20 {t : Nat} {ty : FieldType} (h : am_tyl[t]? = some ty) : t < 20 := Nat.lt_of_lt_of_le (List.getElem?_eq_some_iff.mp h).1 (Nat.le_of_ble_eq_true rfl)
/-- the bundle behind a change of an own cell -/
theorem am_exU {n0 : am_n} {n : Nat} {f : Nat → am_C} {A : Nat → Prop} {s : State} {ρ0 : Nat → Nat} {b : Nat} {c : am_C} (h : n0.1 ≤ n ∧ am_k0 ≤ n0.1 ∧ (∀ i, i < am_k0 → f i = n0.2 i) ∧ am_Ex A s ρ0 n0.2) (hb : am_k0 ≤ b) : n0.1 ≤ n ∧ am_k0 ≤ n0.1 ∧ (∀ i, i < am_k0 → va_up f b c i = n0.2 i) ∧ am_Ex A s ρ0 n0.2 :=
  ⟨h.1, h.2.1, fun i hi => by rw [← h.2.2.1 i hi]; simp [va_up, show ¬ i = b by omega], h.2.2.2⟩
