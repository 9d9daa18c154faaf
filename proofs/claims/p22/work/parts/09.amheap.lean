/-! ===== fields, arrays, new ones ===== -/
def am_F (own : String) (ix ci k : Nat) : Prop := ∃ (C : String) (T : u_T) (N : Nat), vwCl[ci]? = some (C, T, N) ∧ k < N ∧ Cond.fieldLink own ix (T k).1 (T k).2.1 (T k).2.2.1 ∈ am_W ∧ ∀ w ∈ u_ws C T N, w ∈ am_W
/-- a field that may be written: no final one; or a final one of the constructor's own class -/
def am_Fp (own : String) (ix ci k : Nat) (ty : FieldType) : Prop := ∃ (C : String) (T : u_T) (N : Nat) (ty0 : Nat → FieldType), vwCl[ci]? = some (C, T, N) ∧ k < N ∧ Cond.fieldLink own ix (T k).1 (T k).2.1 (T k).2.2.1 ∈ am_W ∧ (∀ w ∈ u_ws C T N, w ∈ am_W) ∧
  (∀ k, k < N → parseFieldDescriptor (T k).2.2.1 = some (ty0 k)) ∧ (∀ a, a < N → ∀ b, b < N → a ≠ b → (T a).2.1 ≠ (T b).2.1) ∧ (T k).2.2.2 = false ∧ parseFieldDescriptor (T k).2.2.1 = some ty
def am_Ff (own : String) (ix ci k : Nat) (ty : FieldType) : Prop := ∃ (C : String) (T : u_T) (N : Nat) (ty0 : Nat → FieldType), vwCl[ci]? = some (C, T, N) ∧ k < N ∧ Cond.fieldLink own ix (T k).1 (T k).2.1 (T k).2.2.1 ∈ am_W ∧ (∀ w ∈ u_ws C T N, w ∈ am_W) ∧
  (∀ k, k < N → parseFieldDescriptor (T k).2.2.1 = some (ty0 k)) ∧ (∀ a, a < N → ∀ b, b < N → a ≠ b → (T a).2.1 ≠ (T b).2.1) ∧ (T k).2.2.2 = true ∧ (T k).1 = own ∧ parseFieldDescriptor (T k).2.2.1 = some ty
theorem am_fits {ty : FieldType} {v : Value} (ρ : Nat → Nat) (h : fits ty v = true) : fits ty (am_v ρ v) = true := by
  cases v <;> cases ty <;> first | exact h | rfl
theorem am_narrow {ty : FieldType} {v : Value} (ρ : Nat → Nat) (h : narrow ty v = v) : narrow ty (am_v ρ v) = am_v ρ v := by
  cases v <;> cases ty <;> first | exact h | rfl
theorem am_cn_up {n b : Nat} {f : Nat → am_C} {c : am_C} (h : ∀ i, i < n → am_cn n (f i)) (hc : am_cn n c) : ∀ i, i < n → am_cn n (va_up f b c i) := by
  intro i hi
  unfold va_up
  split
  · exact hc
  · exact h i hi
theorem am_cn_push {n : Nat} {f : Nat → am_C} {c : am_C} (h : ∀ i, i < n → am_cn n (f i)) (hc : am_cn (n + 1) c) : ∀ i, i < n + 1 → am_cn (n + 1) (va_up f n c i) := by
  intro i hi
  unfold va_up
  split
  · exact hc
  · exact am_cn_mono (Nat.le_succ n) (h i (by omega))
theorem am_v_rf (ρ : Nat → Nat) (r : Option Nat) : am_v ρ (va_rf r) = va_rf (r.map ρ) := by cases r <;> rfl
theorem am_getfield (pc : Nat) {M : am_M} {rc rs n ix ci k b : Nat} {L : List (Option Value)} {st fs : List Value} {f : Nat → am_C} {P : am_P} {v : Value} (hd : decode (am_by M) pc = .ok (.getfield ix, 3)) (hF : am_F (am_y M).cls ix ci k) (hb : f b = .inr (ci, fs)) (hv : fs[k]? = some v) (kk : AW M rc rs (pc + 3) L (v :: st) n f P) : AW M rc rs pc L (.ref b :: st) n f P := by
  intro D cA p l e R s m args below meth c A n0 ρ0 mc ms hC hR H locs cells slots ρ ls hT hcs
  obtain ⟨C, T, N, f1, f2, f3, f4⟩ := hF
  have hbn : b < n := hT.1.1
  have hb0 : am_k0 ≤ b := am_ownO hT.2.2.2.2.2.1 hb
  have hcn : am_cn n (f b) := hT.2.2.2.2.2.2.2 b hbn
  rw [hb] at hcn
  have hvn : am_vn n v := hcn v (List.mem_of_getElem? hv)
  refine va_get (D := D) (cl := vwCl) (tys := am_tys cA) (ws := am_w cA ρ n f) (q0 := b - am_k0) (fs := fs.map (am_v ρ)) (ci := ci) (C := C) (T := T) (N := N) (v := am_v ρ v) hC.1 hC.2.1 hC.2.2.2.2.2.1 f4 hC.2.2.2.2.1 hC.2.2.2.2.2.2.2.2.2.2.2.1 hT.2.2.1 (by rw [am_w_at hbn hb0, hb]; rfl) f1 k f2 (hC.2.2.2.2.2.1 _ f3) (fun _ h9 => h9) (by rw [List.getElem?_map, hv]; rfl) hd ?_
  exact am_k kk hC hR ⟨⟨hvn, hT.1.2⟩, hT.2⟩ hcs
theorem am_putfield (pc : Nat) {M : am_M} {rc rs n ix ci k b : Nat} {L : List (Option Value)} {st fs : List Value} {f : Nat → am_C} {P : am_P} {v : Value} {ty : FieldType} (hd : decode (am_by M) pc = .ok (.putfield ix, 3)) (hF : am_Fp (am_y M).cls ix ci k ty) (hb : f b = .inr (ci, fs)) (hn : narrow ty v = v) (hfit : fits ty v = true) (hl : k < fs.length) (kk : AW M rc rs (pc + 3) L st n (va_up f b (.inr (ci, fs.set k v))) P) : AW M rc rs pc L (v :: .ref b :: st) n f P := by
  intro D cA p l e R s m args below meth c A n0 ρ0 mc ms hC hR H locs cells slots ρ ls hT hcs
  obtain ⟨C, T, N, ty0, f1, f2, f3, f4, f5, f6, f7, f8⟩ := hF
  have hbn : b < n := hT.1.2.1
  have hb0 : am_k0 ≤ b := am_ownO hT.2.2.2.2.2.1 hb
  have hcn : am_cn n (f b) := hT.2.2.2.2.2.2.2 b hbn
  rw [hb] at hcn
  have hc2 : am_cn n (.inr (ci, fs.set k v)) := fun w hw => by
    rcases List.mem_or_eq_of_mem_set hw with h | h
    · exact hcn w h
    · rw [h]; exact hT.1.1
  refine va_put (D := D) (cl := vwCl) (tys := am_tys cA) (ws := am_w cA ρ n f) (q0 := b - am_k0) (fs := fs.map (am_v ρ)) (ci := ci) (C := C) (T := T) (N := N) (v := am_v ρ v) hC.1 hC.2.1 hC.2.2.2.2.2.1 f4 ty0 f5 f6 hC.2.2.2.2.1 hC.2.2.2.2.2.2.2.2.2.2.2.1 hT.2.2.1 hT.2.2.2.1 hT.2.2.2.2.1 (by rw [am_w_at hbn hb0, hb]; rfl) f1 k f2 (hC.2.2.2.2.2.1 _ f3) (fun _ h9 => h9) f7 f8 (am_narrow ρ hn) (am_fits ρ hfit) (by rw [List.length_map]; exact hl) hd ?_
  intro H1 locs1 hP hD hS
  rw [am_w_set (h0 := hb0) (c := .inr (ci, fs.set k v)) (by simp only [am_e, List.map_set])] at hP hD
  exact am_k kk hC hR ⟨hT.1.2.2, hT.2.1, hP, hD, hS, am_exU hT.2.2.2.2.2.1 hb0, hT.2.2.2.2.2.2.1, am_cn_up hT.2.2.2.2.2.2.2 hc2⟩ hcs
theorem am_putfinal (pc : Nat) {M : am_M} {rc rs n ix ci k b : Nat} {L : List (Option Value)} {st fs : List Value} {f : Nat → am_C} {P : am_P} {v : Value} {ty : FieldType} (hd : decode (am_by M) pc = .ok (.putfield ix, 3)) (hy : (am_y M).name = "<init>") (hF : am_Ff (am_y M).cls ix ci k ty) (hb : f b = .inr (ci, fs)) (hn : narrow ty v = v) (hfit : fits ty v = true) (hl : k < fs.length) (kk : AW M rc rs (pc + 3) L st n (va_up f b (.inr (ci, fs.set k v))) P) : AW M rc rs pc L (v :: .ref b :: st) n f P := by
  intro D cA p l e R s m args below meth c A n0 ρ0 mc ms hC hR H locs cells slots ρ ls hT hcs
  obtain ⟨C, T, N, ty0, f1, f2, f3, f4, f5, f6, f7, f9, f8⟩ := hF
  have hbn : b < n := hT.1.2.1
  have hb0 : am_k0 ≤ b := am_ownO hT.2.2.2.2.2.1 hb
  have hcn : am_cn n (f b) := hT.2.2.2.2.2.2.2 b hbn
  rw [hb] at hcn
  have hc2 : am_cn n (.inr (ci, fs.set k v)) := fun w hw => by
    rcases List.mem_or_eq_of_mem_set hw with h | h
    · exact hcn w h
    · rw [h]; exact hT.1.1
  refine va_putF (D := D) (cl := vwCl) (tys := am_tys cA) (ws := am_w cA ρ n f) (q0 := b - am_k0) (fs := fs.map (am_v ρ)) (ci := ci) (C := C) (T := T) (N := N) (v := am_v ρ v) hC.1 hC.2.1 hC.2.2.2.2.2.1 f4 ty0 f5 f6 hC.2.2.2.2.1 hC.2.2.2.2.2.2.2.2.2.2.2.1 hT.2.2.1 hT.2.2.2.1 hT.2.2.2.2.1 (by rw [am_w_at hbn hb0, hb]; rfl) f1 k f2 (hC.2.2.2.2.2.1 _ f3) (fun _ h9 => h9) f7 (hC.2.2.2.2.2.2.2.2.2.1.trans hy) f9 f8 (am_narrow ρ hn) (am_fits ρ hfit) (by rw [List.length_map]; exact hl) hd ?_
  intro H1 locs1 hP hD hS
  rw [am_w_set (h0 := hb0) (c := .inr (ci, fs.set k v)) (by simp only [am_e, List.map_set])] at hP hD
  exact am_k kk hC hR ⟨hT.1.2.2, hT.2.1, hP, hD, hS, am_exU hT.2.2.2.2.2.1 hb0, hT.2.2.2.2.2.2.1, am_cn_up hT.2.2.2.2.2.2.2 hc2⟩ hcs
theorem am_iaload (pc : Nat) {M : am_M} {rc rs n t b N : Nat} {L : List (Option Value)} {st : List Value} {f : Nat → am_C} {P : am_P} {i : Int32} {g : Nat → Int32} (hd : decode (am_by M) pc = .ok (.iaload, 1)) (ht : am_tyl[t]? = some .int) (hb : f b = .inl (t, N, .inl g)) (hin : vp_in i N) (kk : AW M rc rs (pc + 1) L (.int (g i.toNatClampNeg) :: st) n f P) : AW M rc rs pc L (.int i :: .ref b :: st) n f P := by
  intro D cA p l e R s m args below meth c A n0 ρ0 mc ms hC hR H locs cells slots ρ ls hT hcs
  have hbn : b < n := hT.1.2.1
  have hb0 : am_k0 ≤ b := am_ownA hT.2.2.2.2.2.1 hb (am_t20 ht)
  refine va_iald (D := D) (cl := vwCl) (tys := am_tys cA) (ws := am_w cA ρ n f) (q0 := b - am_k0) (t0 := t) (cA := cA t) (n := N) (f := g) hC.1 hC.2.1 hC.2.2.2.2.2.2.2.2.2.2.2.1 hT.2.2.1 (by rw [am_w_at hbn hb0, hb]; rfl) (am_tys_at ht) hin hd ?_
  exact am_k kk hC hR ⟨⟨trivial, hT.1.2.2⟩, hT.2⟩ hcs
theorem am_zaload (pc : Nat) {M : am_M} {rc rs n t b N : Nat} {L : List (Option Value)} {st : List Value} {f : Nat → am_C} {P : am_P} {i : Int32} {g : Nat → Int32} (hd : decode (am_by M) pc = .ok (.baload, 1)) (ht : am_tyl[t]? = some .boolean) (hb : f b = .inl (t, N, .inl g)) (hin : vp_in i N) (kk : AW M rc rs (pc + 1) L (.int (g i.toNatClampNeg) :: st) n f P) : AW M rc rs pc L (.int i :: .ref b :: st) n f P := by
  intro D cA p l e R s m args below meth c A n0 ρ0 mc ms hC hR H locs cells slots ρ ls hT hcs
  have hbn : b < n := hT.1.2.1
  have hb0 : am_k0 ≤ b := am_ownA hT.2.2.2.2.2.1 hb (am_t20 ht)
  refine va_zald (D := D) (cl := vwCl) (tys := am_tys cA) (ws := am_w cA ρ n f) (q0 := b - am_k0) (t0 := t) (cA := cA t) (n := N) (f := g) hC.1 hC.2.1 hC.2.2.2.2.2.2.2.2.2.2.2.1 hT.2.2.1 (by rw [am_w_at hbn hb0, hb]; rfl) (am_tys_at ht) hin hd ?_
  exact am_k kk hC hR ⟨⟨trivial, hT.1.2.2⟩, hT.2⟩ hcs
theorem am_laload (pc : Nat) {M : am_M} {rc rs n t b N : Nat} {L : List (Option Value)} {st : List Value} {f : Nat → am_C} {P : am_P} {i : Int32} {g : Nat → Int64} (hd : decode (am_by M) pc = .ok (.laload, 1)) (ht : am_tyl[t]? = some .long) (hb : f b = .inl (t, N, .inr (.inl g))) (hin : vp_in i N) (kk : AW M rc rs (pc + 1) L (.long (g i.toNatClampNeg) :: st) n f P) : AW M rc rs pc L (.int i :: .ref b :: st) n f P := by
  intro D cA p l e R s m args below meth c A n0 ρ0 mc ms hC hR H locs cells slots ρ ls hT hcs
  have hbn : b < n := hT.1.2.1
  have hb0 : am_k0 ≤ b := am_ownA hT.2.2.2.2.2.1 hb (am_t20 ht)
  refine va_lald (D := D) (cl := vwCl) (tys := am_tys cA) (ws := am_w cA ρ n f) (q0 := b - am_k0) (t0 := t) (cA := cA t) (n := N) (f := g) hC.1 hC.2.1 hC.2.2.2.2.2.2.2.2.2.2.2.1 hT.2.2.1 (by rw [am_w_at hbn hb0, hb]; rfl) (am_tys_at ht) hin hd ?_
  exact am_k kk hC hR ⟨⟨trivial, hT.1.2.2⟩, hT.2⟩ hcs
theorem am_faload (pc : Nat) {M : am_M} {rc rs n t b N : Nat} {L : List (Option Value)} {st : List Value} {f : Nat → am_C} {P : am_P} {i : Int32} {g : Nat → UInt32} (hd : decode (am_by M) pc = .ok (.faload, 1)) (ht : am_tyl[t]? = some .float) (hb : f b = .inl (t, N, .inr (.inr (.inl g)))) (hin : vp_in i N) (kk : AW M rc rs (pc + 1) L (.float (g i.toNatClampNeg) :: st) n f P) : AW M rc rs pc L (.int i :: .ref b :: st) n f P := by
  intro D cA p l e R s m args below meth c A n0 ρ0 mc ms hC hR H locs cells slots ρ ls hT hcs
  have hbn : b < n := hT.1.2.1
  have hb0 : am_k0 ≤ b := am_ownA hT.2.2.2.2.2.1 hb (am_t20 ht)
  refine va_fald (D := D) (cl := vwCl) (tys := am_tys cA) (ws := am_w cA ρ n f) (q0 := b - am_k0) (t0 := t) (cA := cA t) (n := N) (f := g) hC.1 hC.2.1 hC.2.2.2.2.2.2.2.2.2.2.2.1 hT.2.2.1 (by rw [am_w_at hbn hb0, hb]; rfl) (am_tys_at ht) hin hd ?_
  exact am_k kk hC hR ⟨⟨trivial, hT.1.2.2⟩, hT.2⟩ hcs
theorem am_daload (pc : Nat) {M : am_M} {rc rs n t b N : Nat} {L : List (Option Value)} {st : List Value} {f : Nat → am_C} {P : am_P} {i : Int32} {g : Nat → UInt64} (hd : decode (am_by M) pc = .ok (.daload, 1)) (ht : am_tyl[t]? = some .double) (hb : f b = .inl (t, N, .inr (.inr (.inr (.inl g))))) (hin : vp_in i N) (kk : AW M rc rs (pc + 1) L (.double (g i.toNatClampNeg) :: st) n f P) : AW M rc rs pc L (.int i :: .ref b :: st) n f P := by
  intro D cA p l e R s m args below meth c A n0 ρ0 mc ms hC hR H locs cells slots ρ ls hT hcs
  have hbn : b < n := hT.1.2.1
  have hb0 : am_k0 ≤ b := am_ownA hT.2.2.2.2.2.1 hb (am_t20 ht)
  refine va_dald (D := D) (cl := vwCl) (tys := am_tys cA) (ws := am_w cA ρ n f) (q0 := b - am_k0) (t0 := t) (cA := cA t) (n := N) (f := g) hC.1 hC.2.1 hC.2.2.2.2.2.2.2.2.2.2.2.1 hT.2.2.1 (by rw [am_w_at hbn hb0, hb]; rfl) (am_tys_at ht) hin hd ?_
  exact am_k kk hC hR ⟨⟨trivial, hT.1.2.2⟩, hT.2⟩ hcs
theorem am_iastore (pc : Nat) {M : am_M} {rc rs n t b N : Nat} {L : List (Option Value)} {st : List Value} {f : Nat → am_C} {P : am_P} {i : Int32} {x : Int32} {g : Nat → Int32} (hd : decode (am_by M) pc = .ok (.iastore, 1)) (ht : am_tyl[t]? = some .int) (hb : f b = .inl (t, N, .inl g)) (hin : vp_in i N) (kk : AW M rc rs (pc + 1) L st n (va_up f b (.inl (t, N, .inl (va_up g i.toNatClampNeg x)))) P) : AW M rc rs pc L (.int x :: .int i :: .ref b :: st) n f P := by
  intro D cA p l e R s m args below meth c A n0 ρ0 mc ms hC hR H locs cells slots ρ ls hT hcs
  have hbn : b < n := hT.1.2.2.1
  have hb0 : am_k0 ≤ b := am_ownA hT.2.2.2.2.2.1 hb (am_t20 ht)
  refine va_iast (D := D) (cl := vwCl) (tys := am_tys cA) (ws := am_w cA ρ n f) (q0 := b - am_k0) (t0 := t) (cA := cA t) (n := N) (f := g) hC.1 hC.2.1 hC.2.2.2.2.2.2.2.2.2.2.2.1 hT.2.2.1 hT.2.2.2.1 hT.2.2.2.2.1 (by rw [am_w_at hbn hb0, hb]; rfl) (am_tys_at ht) hin hd ?_
  intro H1 locs1 hP hD hS
  rw [am_w_set (h0 := hb0) (e := .inl (cA t, N, .inl (upd g i.toNatClampNeg x))) (c := .inl (t, N, .inl (va_up g i.toNatClampNeg x))) rfl] at hP hD
  exact am_k kk hC hR ⟨hT.1.2.2.2, hT.2.1, hP, hD, hS, am_exU hT.2.2.2.2.2.1 hb0, hT.2.2.2.2.2.2.1, am_cn_up hT.2.2.2.2.2.2.2 trivial⟩ hcs
theorem am_zastore (pc : Nat) {M : am_M} {rc rs n t b N : Nat} {L : List (Option Value)} {st : List Value} {f : Nat → am_C} {P : am_P} {i : Int32} {x : Int32} {g : Nat → Int32} (hd : decode (am_by M) pc = .ok (.bastore, 1)) (ht : am_tyl[t]? = some .boolean) (hb : f b = .inl (t, N, .inl g)) (hin : vp_in i N) (kk : AW M rc rs (pc + 1) L st n (va_up f b (.inl (t, N, .inl (va_up g i.toNatClampNeg (vp_nar .boolean x))))) P) : AW M rc rs pc L (.int x :: .int i :: .ref b :: st) n f P := by
  intro D cA p l e R s m args below meth c A n0 ρ0 mc ms hC hR H locs cells slots ρ ls hT hcs
  have hbn : b < n := hT.1.2.2.1
  have hb0 : am_k0 ≤ b := am_ownA hT.2.2.2.2.2.1 hb (am_t20 ht)
  refine va_zast (D := D) (cl := vwCl) (tys := am_tys cA) (ws := am_w cA ρ n f) (q0 := b - am_k0) (t0 := t) (cA := cA t) (n := N) (f := g) hC.1 hC.2.1 hC.2.2.2.2.2.2.2.2.2.2.2.1 hT.2.2.1 hT.2.2.2.1 hT.2.2.2.2.1 (by rw [am_w_at hbn hb0, hb]; rfl) (am_tys_at ht) hin hd ?_
  intro H1 locs1 hP hD hS
  rw [am_w_set (h0 := hb0) (e := .inl (cA t, N, .inl (upd g i.toNatClampNeg (vp_nar .boolean x)))) (c := .inl (t, N, .inl (va_up g i.toNatClampNeg (vp_nar .boolean x)))) rfl] at hP hD
  exact am_k kk hC hR ⟨hT.1.2.2.2, hT.2.1, hP, hD, hS, am_exU hT.2.2.2.2.2.1 hb0, hT.2.2.2.2.2.2.1, am_cn_up hT.2.2.2.2.2.2.2 trivial⟩ hcs
theorem am_lastore (pc : Nat) {M : am_M} {rc rs n t b N : Nat} {L : List (Option Value)} {st : List Value} {f : Nat → am_C} {P : am_P} {i : Int32} {x : Int64} {g : Nat → Int64} (hd : decode (am_by M) pc = .ok (.lastore, 1)) (ht : am_tyl[t]? = some .long) (hb : f b = .inl (t, N, .inr (.inl g))) (hin : vp_in i N) (kk : AW M rc rs (pc + 1) L st n (va_up f b (.inl (t, N, .inr (.inl (va_up g i.toNatClampNeg x))))) P) : AW M rc rs pc L (.long x :: .int i :: .ref b :: st) n f P := by
  intro D cA p l e R s m args below meth c A n0 ρ0 mc ms hC hR H locs cells slots ρ ls hT hcs
  have hbn : b < n := hT.1.2.2.1
  have hb0 : am_k0 ≤ b := am_ownA hT.2.2.2.2.2.1 hb (am_t20 ht)
  refine va_last (D := D) (cl := vwCl) (tys := am_tys cA) (ws := am_w cA ρ n f) (q0 := b - am_k0) (t0 := t) (cA := cA t) (n := N) (f := g) hC.1 hC.2.1 hC.2.2.2.2.2.2.2.2.2.2.2.1 hT.2.2.1 hT.2.2.2.1 hT.2.2.2.2.1 (by rw [am_w_at hbn hb0, hb]; rfl) (am_tys_at ht) hin hd ?_
  intro H1 locs1 hP hD hS
  rw [am_w_set (h0 := hb0) (e := .inl (cA t, N, .inr (.inl (vp_updL g i.toNatClampNeg x)))) (c := .inl (t, N, .inr (.inl (va_up g i.toNatClampNeg x)))) rfl] at hP hD
  exact am_k kk hC hR ⟨hT.1.2.2.2, hT.2.1, hP, hD, hS, am_exU hT.2.2.2.2.2.1 hb0, hT.2.2.2.2.2.2.1, am_cn_up hT.2.2.2.2.2.2.2 trivial⟩ hcs
theorem am_fastore (pc : Nat) {M : am_M} {rc rs n t b N : Nat} {L : List (Option Value)} {st : List Value} {f : Nat → am_C} {P : am_P} {i : Int32} {x : UInt32} {g : Nat → UInt32} (hd : decode (am_by M) pc = .ok (.fastore, 1)) (ht : am_tyl[t]? = some .float) (hb : f b = .inl (t, N, .inr (.inr (.inl g)))) (hin : vp_in i N) (kk : AW M rc rs (pc + 1) L st n (va_up f b (.inl (t, N, .inr (.inr (.inl (va_up g i.toNatClampNeg x)))))) P) : AW M rc rs pc L (.float x :: .int i :: .ref b :: st) n f P := by
  intro D cA p l e R s m args below meth c A n0 ρ0 mc ms hC hR H locs cells slots ρ ls hT hcs
  have hbn : b < n := hT.1.2.2.1
  have hb0 : am_k0 ≤ b := am_ownA hT.2.2.2.2.2.1 hb (am_t20 ht)
  refine va_fast (D := D) (cl := vwCl) (tys := am_tys cA) (ws := am_w cA ρ n f) (q0 := b - am_k0) (t0 := t) (cA := cA t) (n := N) (f := g) hC.1 hC.2.1 hC.2.2.2.2.2.2.2.2.2.2.2.1 hT.2.2.1 hT.2.2.2.1 hT.2.2.2.2.1 (by rw [am_w_at hbn hb0, hb]; rfl) (am_tys_at ht) hin hd ?_
  intro H1 locs1 hP hD hS
  rw [am_w_set (h0 := hb0) (e := .inl (cA t, N, .inr (.inr (.inl (vf_upd g i.toNatClampNeg x))))) (c := .inl (t, N, .inr (.inr (.inl (va_up g i.toNatClampNeg x))))) rfl] at hP hD
  exact am_k kk hC hR ⟨hT.1.2.2.2, hT.2.1, hP, hD, hS, am_exU hT.2.2.2.2.2.1 hb0, hT.2.2.2.2.2.2.1, am_cn_up hT.2.2.2.2.2.2.2 trivial⟩ hcs
theorem am_dastore (pc : Nat) {M : am_M} {rc rs n t b N : Nat} {L : List (Option Value)} {st : List Value} {f : Nat → am_C} {P : am_P} {i : Int32} {x : UInt64} {g : Nat → UInt64} (hd : decode (am_by M) pc = .ok (.dastore, 1)) (ht : am_tyl[t]? = some .double) (hb : f b = .inl (t, N, .inr (.inr (.inr (.inl g))))) (hin : vp_in i N) (kk : AW M rc rs (pc + 1) L st n (va_up f b (.inl (t, N, .inr (.inr (.inr (.inl (va_up g i.toNatClampNeg x))))))) P) : AW M rc rs pc L (.double x :: .int i :: .ref b :: st) n f P := by
  intro D cA p l e R s m args below meth c A n0 ρ0 mc ms hC hR H locs cells slots ρ ls hT hcs
  have hbn : b < n := hT.1.2.2.1
  have hb0 : am_k0 ≤ b := am_ownA hT.2.2.2.2.2.1 hb (am_t20 ht)
  refine va_dast (D := D) (cl := vwCl) (tys := am_tys cA) (ws := am_w cA ρ n f) (q0 := b - am_k0) (t0 := t) (cA := cA t) (n := N) (f := g) hC.1 hC.2.1 hC.2.2.2.2.2.2.2.2.2.2.2.1 hT.2.2.1 hT.2.2.2.1 hT.2.2.2.2.1 (by rw [am_w_at hbn hb0, hb]; rfl) (am_tys_at ht) hin hd ?_
  intro H1 locs1 hP hD hS
  rw [am_w_set (h0 := hb0) (e := .inl (cA t, N, .inr (.inr (.inr (.inl (vf_upd g i.toNatClampNeg x)))))) (c := .inl (t, N, .inr (.inr (.inr (.inl (va_up g i.toNatClampNeg x)))))) rfl] at hP hD
  exact am_k kk hC hR ⟨hT.1.2.2.2, hT.2.1, hP, hD, hS, am_exU hT.2.2.2.2.2.1 hb0, hT.2.2.2.2.2.2.1, am_cn_up hT.2.2.2.2.2.2.2 trivial⟩ hcs
theorem am_aaload (pc : Nat) {M : am_M} {rc rs n t b N : Nat} {C : String} {L : List (Option Value)} {st : List Value} {f : Nat → am_C} {P : am_P} {i : Int32} {g : Nat → Option Nat} (hd : decode (am_by M) pc = .ok (.aaload, 1)) (ht : am_tyl[t]? = some (.object C)) (hb : f b = .inl (t, N, .inr (.inr (.inr (.inr g))))) (hin : vp_in i N) (kk : AW M rc rs (pc + 1) L (va_rf (g i.toNatClampNeg) :: st) n f P) : AW M rc rs pc L (.int i :: .ref b :: st) n f P := by
  intro D cA p l e R s m args below meth c A n0 ρ0 mc ms hC hR H locs cells slots ρ ls hT hcs
  have hbn : b < n := hT.1.2.1
  have hb0 : am_k0 ≤ b := am_ownA hT.2.2.2.2.2.1 hb (am_t20 ht)
  have hcn : am_cn n (f b) := hT.2.2.2.2.2.2.2 b hbn
  rw [hb] at hcn
  refine va_aldq (D := D) (cl := vwCl) (tys := am_tys cA) (ws := am_w cA ρ n f) (q0 := b - am_k0) (t0 := t) (cA := cA t) (n := N) (f := fun j => (g j).map ρ) hC.1 hC.2.1 hC.2.2.2.2.2.2.2.2.2.2.2.1 hT.2.2.1 (by rw [am_w_at hbn hb0, hb]; rfl) (am_tys_at ht) hin hd ?_
  have hvn : am_vn n (va_rf (g i.toNatClampNeg)) := by
    cases hg : g i.toNatClampNeg with
    | none => trivial
    | some x => exact hcn _ x hg
  have e9 : va_rf ((g i.toNatClampNeg).map ρ) = am_v ρ (va_rf (g i.toNatClampNeg)) := (am_v_rf ρ _).symm
  show W p l e R s m args below meth c H locs cells slots _ (F0 m (pc + 1) ls (va_rf ((g i.toNatClampNeg).map ρ) :: st.map (am_v ρ)))
  rw [e9]
  exact am_k kk hC hR ⟨⟨hvn, hT.1.2.2⟩, hT.2⟩ hcs
theorem am_aastore (pc : Nat) {M : am_M} {rc rs n t b N x ci : Nat} {r : vw_C} {L : List (Option Value)} {st vs : List Value} {f : Nat → am_C} {P : am_P} {i : Int32} {g : Nat → Option Nat} (hd : decode (am_by M) pc = .ok (.aastore, 1)) (ht : am_tyl[t]? = some (.object r.1)) (hb : f b = .inl (t, N, .inr (.inr (.inr (.inr g))))) (hx : f x = .inr (ci, vs)) (hr : vwCl[ci]? = some r) (hin : vp_in i N) (kk : AW M rc rs (pc + 1) L st n (va_up f b (.inl (t, N, .inr (.inr (.inr (.inr (va_up g i.toNatClampNeg (some x)))))))) P) : AW M rc rs pc L (.ref x :: .int i :: .ref b :: st) n f P := by
  intro D cA p l e R s m args below meth c A n0 ρ0 mc ms hC hR H locs cells slots ρ ls hT hcs
  have hbn : b < n := hT.1.2.2.1
  have hb0 : am_k0 ≤ b := am_ownA hT.2.2.2.2.2.1 hb (am_t20 ht)
  have hxn : x < n := hT.1.1
  have hcn : am_cn n (f b) := hT.2.2.2.2.2.2.2 b hbn
  rw [hb] at hcn
  refine va_astq (D := D) (cl := vwCl) (tys := am_tys cA) (ws := am_w cA ρ n f) (q0 := b - am_k0) (t0 := t) (qk := x - am_k0) (ci := ci) (cA := cA t) (r := r) (n := N) (vs := vs.map (am_v ρ)) (f := fun j => (g j).map ρ) hC.1 hC.2.1 hC.2.2.2.2.2.2.2.2.2.2.2.1 hT.2.2.1 hT.2.2.2.1 hT.2.2.2.2.1 (by rw [am_w_at hbn hb0, hb]; rfl) (am_tys_at ht) (by rw [am_w_at hxn (am_ownO hT.2.2.2.2.2.1 hx), hx]; rfl) hr hin hd ?_
  intro H1 locs1 hP hD hS
  have e : (fun j => (va_up g i.toNatClampNeg (some x) j).map ρ) = va_up (fun j => (g j).map ρ) i.toNatClampNeg (some (ρ x)) := by
    funext j
    unfold va_up
    split <;> rfl
  rw [am_w_set (h0 := hb0) (c := .inl (t, N, .inr (.inr (.inr (.inr (va_up g i.toNatClampNeg (some x))))))) (by simp only [am_e, am_a, e])] at hP hD
  refine am_k kk hC hR ⟨hT.1.2.2.2, hT.2.1, hP, hD, hS, am_exU hT.2.2.2.2.2.1 hb0, hT.2.2.2.2.2.2.1, am_cn_up hT.2.2.2.2.2.2.2 ?_⟩ hcs
  intro j y hj
  unfold va_up at hj
  split at hj
  · cases hj
    exact hxn
  · exact hcn j y hj
theorem am_arraylength (pc : Nat) {M : am_M} {rc rs n t b : Nat} {ty : FieldType} {L : List (Option Value)} {st : List Value} {f : Nat → am_C} {P : am_P} {a : vp_A} (hd : decode (am_by M) pc = .ok (.arraylength, 1)) (ht : am_tyl[t]? = some ty) (hb : f b = .inl (t, a)) (kk : AW M rc rs (pc + 1) L (.int (Int32.ofNat a.1) :: st) n f P) : AW M rc rs pc L (.ref b :: st) n f P := by
  intro D cA p l e R s m args below meth c A n0 ρ0 mc ms hC hR H locs cells slots ρ ls hT hcs
  have hbn : b < n := hT.1.1
  have hb0 : am_k0 ≤ b := am_ownA hT.2.2.2.2.2.1 hb (am_t20 ht)
  refine va_alen (D := D) (cl := vwCl) (tys := am_tys cA) (ws := am_w cA ρ n f) (q0 := b - am_k0) (t0 := t) (cA := cA t) (x := am_a ρ a) hC.1 hC.2.1 hC.2.2.2.2.2.2.2.2.2.2.2.1 hT.2.2.1 (by rw [am_w_at hbn hb0, hb]; rfl) (am_tys_at ht) (v := Int32.ofNat a.1) rfl hd ?_
  exact am_k kk hC hR ⟨⟨trivial, hT.1.2⟩, hT.2⟩ hcs
/-- a new one's place -/
theorem am_fresh {D : va_G} {cA : Nat → ClassId} {A : Nat → Prop} {s : State} {n0 : am_n} {n q : Nat} {ρ0 ρ : Nat → Nat} {nL : Nat} {L : List (Option Value)} {st : List Value} {f : Nat → am_C} {H H1 : Heap} {locs : List Loc} {ls : Array Slot} {c : am_C} {e : va_E} (hT : am_T D cA A s n0 ρ0 nL n f L st H locs ρ ls) (he : e = am_e cA (va_up ρ n q) c) (hc : am_cn (n + 1) c) (hP : va_P D vwCl (am_w cA ρ n f ++ [(q, e)]) H1) (hD : va_D A (am_w cA ρ n f ++ [(q, e)])) (hS : va_S A s.heap H1 locs) :
    am_T D cA A s n0 ρ0 nL (n + 1) (va_up f n c) L (.ref n :: st) H1 locs (va_up ρ n q) ls ∧ (Value.ref q :: st.map (am_v ρ)) = (Value.ref n :: st).map (am_v (va_up ρ n q)) := by
  have hf := hT.2.2.2.2.2.2.2
  have hkn : am_k0 ≤ n := Nat.le_trans hT.2.2.2.2.2.1.2.1 hT.2.2.2.2.2.1.1
  rw [am_w_push hkn he hf] at hP hD
  have hρ : ∀ i, i < n → va_up ρ n q i = ρ i := fun i hi => by simp [va_up, Nat.ne_of_lt hi]
  refine ⟨⟨⟨Nat.lt_succ_self n, am_sn_mono (Nat.le_succ n) hT.1⟩, ⟨am_ln_mono (Nat.le_succ n) hT.2.1.1, am_L_congr hρ hT.2.1.1 hT.2.1.2⟩, hP, hD, hS, ⟨Nat.le_succ_of_le hT.2.2.2.2.2.1.1, (am_exU hT.2.2.2.2.2.1 hkn).2⟩, fun i hi => ?_, am_cn_push hf hc⟩, ?_⟩
  · rw [hρ i (Nat.lt_of_lt_of_le hi hT.2.2.2.2.2.1.1), hT.2.2.2.2.2.2.1 i hi]
  · rw [List.map_cons, am_s_congr hρ hT.1]
    simp [am_v, va_up]
def am_N (own : String) (ix ci N : Nat) (fs : List Value) : Prop := ∃ (C : String) (T : u_T) (ty : Nat → FieldType), vwCl[ci]? = some (C, T, N) ∧ Cond.classLink own ix C ∈ am_W ∧ Cond.instantiable C N ∈ am_W ∧ Cond.initialized C ∈ am_W ∧ (∀ w ∈ u_ws C T N, w ∈ am_W) ∧ (∀ k, k < N → parseFieldDescriptor (T k).2.2.1 = some (ty k)) ∧ (∀ j, j < N → defaultValue (ty j) = vp_V fs j) ∧ ∀ v ∈ fs, am_vn 0 v ∧ ∀ ρ, am_v ρ v = v
theorem am_new (pc : Nat) {M : am_M} {rc rs n ix ci N : Nat} {L : List (Option Value)} {st fs : List Value} {f : Nat → am_C} {P : am_P} (hd : decode (am_by M) pc = .ok (.new ix, 3)) (hN : am_N (am_y M).cls ix ci N fs) (kk : AW M rc rs (pc + 3) L (.ref n :: st) (n + 1) (va_up f n (.inr (ci, fs))) P) : AW M (rc + 1) (rs + N) pc L st n f P := by
  intro D cA p l e R s m args below meth c A n0 ρ0 mc ms hC hR H locs cells slots ρ ls hT hcs
  obtain ⟨C, T, ty, f1, f2, f3, f4, f5, f6, f7, f8⟩ := hN
  refine va_new (D := D) (cl := vwCl) (tys := am_tys cA) (ws := am_w cA ρ n f) (ci := ci) (C := C) (T := T) (N := N) (fs := fs) hC.1 hC.2.1 hC.2.2.2.2.2.1 f5 ty f6 hC.2.2.2.2.1 (hC.2.2.2.2.2.1 _ f2) (hC.2.2.2.2.2.1 _ f3) (hC.2.2.2.2.2.1 _ f4) hC.2.2.2.2.2.2.2.2.2.2.2.1 hT.2.2.1 hT.2.2.2.1 hT.2.2.2.2.1 hC.2.2.2.2.2.2.2.2.2.2.1 f1 f7 (by have := hR.2.2.1; omega) (by have := hR.2.2.2; omega) hd ?_
  intro q H1 hP hD hS
  have hfs : ∀ ρ : Nat → Nat, fs.map (am_v ρ) = fs := fun ρ => (List.map_congr_left fun v hv => (f8 v hv).2 ρ).trans (List.map_id _)
  obtain ⟨hT1, hst⟩ := am_fresh hT (c := .inr (ci, fs)) (by simp only [am_e, hfs]) (fun v hv => am_vn_mono (Nat.zero_le _) (f8 v hv).1) hP hD hS
  rw [hst]
  exact am_k kk hC hR hT1 ⟨by omega, by omega⟩
theorem am_newarray (pc : Nat) {M : am_M} {rc rs n t N : Nat} {aty : ArrayType} {ty : FieldType} {i : Int32} {L : List (Option Value)} {st : List Value} {f : Nat → am_C} {P : am_P} {a : vp_A} (hd : decode (am_by M) pc = .ok (.newarray aty, 2)) (ha : Cond.arrayClass (newarray.typeOf aty) ∈ am_W) (hty : newarray.typeOf aty = ty) (ht : am_tyl[t]? = some ty) (hp : ∀ (cA cB : ClassId) (U : State), va_RA U cA ty → va_RA U cB ty → cA = cB) (hz : ∀ cA : ClassId, vp_cell cA a = arrV cA N (fun _ => defaultValue ty)) (hz2 : ∀ ρ, am_a ρ a = a) (hz3 : am_cn 0 (.inl (t, a))) (hi : ¬ i < 0) (hN : i.toNatClampNeg = N) (hbytes : N * componentBytes ty ≤ 536870912)
    (kk : AW M rc rs (pc + 2) L (.ref n :: st) (n + 1) (va_up f n (.inl (t, a))) P) : AW M (rc + 1) (rs + N) pc L (.int i :: st) n f P := by
  intro D cA p l e R s m args below meth c A n0 ρ0 mc ms hC hR H locs cells slots ρ ls hT hcs
  have hK := hC.2.2.2.2.2.2.2.2.2.2.2.1
  refine va_newa (D := D) (cl := vwCl) (tys := am_tys cA) (ws := am_w cA ρ n f) (a0 := a) (N' := N) hC.1 hC.2.1 (hC.2.2.2.2.2.1 _ ha) hty hK hT.2.2.1 hT.2.2.2.1 hT.2.2.2.2.1 hC.2.2.2.2.2.2.2.2.2.2.1 hz hi hN hbytes (by have := hR.2.2.1; omega) (by have := hR.2.2.2; omega) hd ?_
  intro q cB H1 hK1 hP hD hS
  have e9 : cB = cA t := hp _ _ s (hK1.2 (am_tys cA).length (cB, ty) (by simp)).2 (hK.2 t _ (am_tys_at ht)).2
  subst e9
  obtain ⟨hT1, hst⟩ := am_fresh (st := st) ⟨hT.1.2, hT.2⟩ (c := .inl (t, a)) (by simp only [am_e, hz2]) (am_cn_mono (Nat.zero_le _) hz3) hP hD hS
  show W p l e R s m args below meth c H1 locs (cells + 1) (slots + N) _ (F0 m (pc + 2) ls (Value.ref q :: st.map (am_v ρ)))
  rw [hst]
  exact am_k kk hC hR hT1 ⟨by omega, by omega⟩
theorem am_newints (pc : Nat) {M : am_M} {rc rs n t N : Nat} {i : Int32} {L : List (Option Value)} {st : List Value} {f : Nat → am_C} {P : am_P} (hd : decode (am_by M) pc = .ok (.newarray .int, 2)) (ha : Cond.arrayClass .int ∈ am_W) (ht : am_tyl[t]? = some .int) (hi : ¬ i < 0) (hN : i.toNatClampNeg = N) (hb : N ≤ 1000) (kk : AW M rc rs (pc + 2) L (.ref n :: st) (n + 1) (va_up f n (.inl (t, N, .inl (fun _ => 0)))) P) : AW M (rc + 1) (rs + N) pc L (.int i :: st) n f P :=
  am_newarray (a := (N, .inl (fun _ => 0))) pc hd ha rfl ht (fun _ _ _ h1 h2 => Option.some.inj (h1.symm.trans h2)) (fun _ => rfl) (fun _ => rfl) trivial hi hN (by show N * 4 ≤ _; omega) kk
theorem am_newbools (pc : Nat) {M : am_M} {rc rs n t N : Nat} {i : Int32} {L : List (Option Value)} {st : List Value} {f : Nat → am_C} {P : am_P} (hd : decode (am_by M) pc = .ok (.newarray .boolean, 2)) (ha : Cond.arrayClass .boolean ∈ am_W) (ht : am_tyl[t]? = some .boolean) (hi : ¬ i < 0) (hN : i.toNatClampNeg = N) (hb : N ≤ 1000) (kk : AW M rc rs (pc + 2) L (.ref n :: st) (n + 1) (va_up f n (.inl (t, N, .inl (fun _ => 0)))) P) : AW M (rc + 1) (rs + N) pc L (.int i :: st) n f P :=
  am_newarray (a := (N, .inl (fun _ => 0))) pc hd ha rfl ht (fun _ _ _ h1 h2 => Option.some.inj (h1.symm.trans h2)) (fun _ => rfl) (fun _ => rfl) trivial hi hN (by show N * 1 ≤ _; omega) kk
theorem am_newlongs (pc : Nat) {M : am_M} {rc rs n t N : Nat} {i : Int32} {L : List (Option Value)} {st : List Value} {f : Nat → am_C} {P : am_P} (hd : decode (am_by M) pc = .ok (.newarray .long, 2)) (ha : Cond.arrayClass .long ∈ am_W) (ht : am_tyl[t]? = some .long) (hi : ¬ i < 0) (hN : i.toNatClampNeg = N) (hb : N ≤ 1000) (kk : AW M rc rs (pc + 2) L (.ref n :: st) (n + 1) (va_up f n (.inl (t, N, .inr (.inl (fun _ => 0))))) P) : AW M (rc + 1) (rs + N) pc L (.int i :: st) n f P :=
  am_newarray (a := (N, .inr (.inl (fun _ => 0)))) pc hd ha rfl ht (fun _ _ _ h1 h2 => Option.some.inj (h1.symm.trans h2)) (fun _ => rfl) (fun _ => rfl) trivial hi hN (by show N * 8 ≤ _; omega) kk
theorem am_newfloats (pc : Nat) {M : am_M} {rc rs n t N : Nat} {i : Int32} {L : List (Option Value)} {st : List Value} {f : Nat → am_C} {P : am_P} (hd : decode (am_by M) pc = .ok (.newarray .float, 2)) (ha : Cond.arrayClass .float ∈ am_W) (ht : am_tyl[t]? = some .float) (hi : ¬ i < 0) (hN : i.toNatClampNeg = N) (hb : N ≤ 1000) (kk : AW M rc rs (pc + 2) L (.ref n :: st) (n + 1) (va_up f n (.inl (t, N, .inr (.inr (.inl (fun _ => 0)))))) P) : AW M (rc + 1) (rs + N) pc L (.int i :: st) n f P :=
  am_newarray (a := (N, .inr (.inr (.inl (fun _ => 0))))) pc hd ha rfl ht (fun _ _ _ h1 h2 => Option.some.inj (h1.symm.trans h2)) (fun _ => rfl) (fun _ => rfl) trivial hi hN (by show N * 4 ≤ _; omega) kk
theorem am_anewarray (pc : Nat) {M : am_M} {rc rs n ix t N : Nat} {C : String} {i : Int32} {L : List (Option Value)} {st : List Value} {f : Nat → am_C} {P : am_P} (hd : decode (am_by M) pc = .ok (.anewarray ix, 3)) (ha : Cond.classLink (am_y M).cls ix C ∈ am_W) (ho : C ∈ am_aov) (ht : am_tyl[t]? = some (.object C)) (hi : ¬ i < 0) (hN : i.toNatClampNeg = N) (hb : N ≤ 1000)
    (kk : AW M rc rs (pc + 3) L (.ref n :: st) (n + 1) (va_up f n (.inl (t, N, .inr (.inr (.inr (.inr (fun _ => none))))))) P) : AW M (rc + 1) (rs + N) pc L (.int i :: st) n f P := by
  intro D cA p l e R s m args below meth c A n0 ρ0 mc ms hC hR H locs cells slots ρ ls hT hcs
  have hK := hC.2.2.2.2.2.2.2.2.2.2.2.1
  refine va_newq (D := D) (cl := vwCl) (tys := am_tys cA) (ws := am_w cA ρ n f) (N' := N) hC.1 hC.2.1 hC.2.2.2.2.1 (hC.2.2.2.2.2.1 _ ha) (hC.2.2.2.2.2.2.2.2.2.2.2.2.2.2.2.1 _ ho) hK hT.2.2.1 hT.2.2.2.1 hT.2.2.2.2.1 hC.2.2.2.2.2.2.2.2.2.2.1 hi hN (by omega) (by have := hR.2.2.1; omega) (by have := hR.2.2.2; omega) hd ?_
  intro q cB H1 hK1 hP hD hS
  have e9 : cB = cA t := by
    obtain ⟨_, _, _, _, _, h1⟩ := (hK1.2 (am_tys cA).length (cB, .object C) (by simp)).2
    obtain ⟨_, _, _, _, _, h2⟩ := (hK.2 t _ (am_tys_at ht)).2
    exact Option.some.inj (h1.symm.trans h2)
  subst e9
  obtain ⟨hT1, hst⟩ := am_fresh (st := st) ⟨hT.1.2, hT.2⟩ (c := .inl (t, N, .inr (.inr (.inr (.inr (fun _ => none)))))) rfl (fun j i h => by cases h) hP hD hS
  show W p l e R s m args below meth c H1 locs (cells + 1) (slots + N) _ (F0 m (pc + 3) ls (Value.ref q :: st.map (am_v ρ)))
  rw [hst]
  exact am_k kk hC hR hT1 ⟨by omega, by omega⟩
