/-! ===== further rows: the script, references of the outside, arrays copied, fields under another name ===== -/
theorem am_k0_pos : 0 < am_k0 := Nat.le_of_ble_eq_true rfl
theorem am_saload (pc : Nat) {M : am_M} {rc rs n N : Nat} {L : List (Option Value)} {st : List Value} {f : Nat → am_C} {P : am_P} {i : Int32} {xs : Nat → Int32} (hd : decode (am_by M) pc = .ok (.iaload, 1)) (hb : f 0 = .inl (20, N, .inl xs)) (hin : vp_in i N) (kk : AW M rc rs (pc + 1) L (.int (xs i.toNatClampNeg) :: st) n f P) : AW M rc rs pc L (.int i :: .ref 0 :: st) n f P := by
  intro D cA p l e R s m args below meth c A n0 ρ0 mc ms hC hR H locs cells slots ρ ls hT hcs
  have hU := hT.2.2.2.2.2.1
  obtain ⟨⟨N', xs', e1, hX⟩, h2, h3⟩ := hU.2.2.2 0 am_k0_pos
  rw [← hU.2.2.1 0 am_k0_pos, hb] at e1
  cases e1
  have hρ : ρ 0 = ρ0 0 := hT.2.2.2.2.2.2.1 0 (Nat.lt_of_lt_of_le am_k0_pos hU.2.1)
  show W p l e R s m args below meth c H locs cells slots _ (F0 m pc ls (.int i :: .ref (ρ 0) :: st.map (am_v ρ)))
  rw [hρ]
  refine va_sld hC.1 hC.2.1 hX h2 h3 hT.2.2.2.2.1 hin hd ?_
  exact am_k kk hC hR ⟨⟨trivial, hT.1.2.2⟩, hT.2⟩ hcs
theorem am_slen (pc : Nat) {M : am_M} {rc rs n N : Nat} {L : List (Option Value)} {st : List Value} {f : Nat → am_C} {P : am_P} {xs : Nat → Int32} (hd : decode (am_by M) pc = .ok (.arraylength, 1)) (hb : f 0 = .inl (20, N, .inl xs)) (kk : AW M rc rs (pc + 1) L (.int (Int32.ofNat N) :: st) n f P) : AW M rc rs pc L (.ref 0 :: st) n f P := by
  intro D cA p l e R s m args below meth c A n0 ρ0 mc ms hC hR H locs cells slots ρ ls hT hcs
  have hU := hT.2.2.2.2.2.1
  obtain ⟨⟨N', xs', e1, hX⟩, h2, h3⟩ := hU.2.2.2 0 am_k0_pos
  rw [← hU.2.2.1 0 am_k0_pos, hb] at e1
  cases e1
  have hρ : ρ 0 = ρ0 0 := hT.2.2.2.2.2.2.1 0 (Nat.lt_of_lt_of_le am_k0_pos hU.2.1)
  show W p l e R s m args below meth c H locs cells slots _ (F0 m pc ls (.ref (ρ 0) :: st.map (am_v ρ)))
  rw [hρ]
  refine va_slen hC.1 hC.2.1 hX h2 h3 hT.2.2.2.2.1 hd ?_
  exact am_k kk hC hR ⟨⟨trivial, hT.1.2⟩, hT.2⟩ hcs
theorem am_iushr (pc : Nat) {M : am_M} {rc rs n : Nat} {L : List (Option Value)} {st : List Value} {f : Nat → am_C} {P : am_P} {x y : Int32} (hd : decode (am_by M) pc = .ok (.iushr, 1)) (k : AW M rc rs (pc + 1) L (.int ((x.toUInt32 >>> (y.toUInt32 &&& Int32.toUInt32 31)).toInt32) :: st) n f P) : AW M rc rs pc L (.int y :: .int x :: st) n f P := by
  intro D cA p l e R s m args below meth c A n0 ρ0 mc ms hC hR H locs cells slots ρ ls hT hcs
  refine lv_iushr hC.1 hC.2.1 hd rfl ?_
  exact am_k k hC hR ⟨⟨trivial, hT.1.2.2⟩, hT.2⟩ hcs
/-- two references that are the same -/
theorem am_acmpT (pc : Nat) {M : am_M} {rc rs n x tgt : Nat} {off : Int} {L : List (Option Value)} {st : List Value} {f : Nat → am_C} {P : am_P} (hd : decode (am_by M) pc = .ok (.if_acmp .eq off, 3)) (ht : (pc : Int) + off = (tgt : Int)) (k : AW M rc rs tgt L st n f P) : AW M rc rs pc L (.ref x :: .ref x :: st) n f P := by
  intro D cA p l e R s m args below meth c A n0 ρ0 mc ms hC hR H locs cells slots ρ ls hT hcs
  refine lv_acmp_eq (rx := some (ρ x)) (ry := some (ρ x)) hC.1 hC.2.1 hd ht (fun _ => ?_) (fun h => absurd rfl h)
  exact am_k k hC hR ⟨hT.1.2.2, hT.2⟩ hcs
/-- a store into an array of a class above the thing's own -/
theorem am_aastoreO (pc : Nat) {M : am_M} {rc rs n t b N x ci : Nat} {E : String} {r : vw_C} {L : List (Option Value)} {st vs : List Value} {f : Nat → am_C} {P : am_P} {i : Int32} {g : Nat → Option Nat} (hd : decode (am_by M) pc = .ok (.aastore, 1)) (ht : am_tyl[t]? = some (.object E)) (hb : f b = .inl (t, N, .inr (.inr (.inr (.inr g))))) (hx : f x = .inr (ci, vs)) (hr : vwCl[ci]? = some r) (hca : Cond.castable r.1 E ∈ am_fW) (hin : vp_in i N) (kk : AW M rc rs (pc + 1) L st n (va_up f b (.inl (t, N, .inr (.inr (.inr (.inr (va_up g i.toNatClampNeg (some x)))))))) P) : AW M rc rs pc L (.ref x :: .int i :: .ref b :: st) n f P := by
  intro D cA p l e R s m args below meth c A n0 ρ0 mc ms hC hR H locs cells slots ρ ls hT hcs
  have hbn : b < n := hT.1.2.2.1
  have hb0 : am_k0 ≤ b := am_ownA hT.2.2.2.2.2.1 hb (am_t20 ht)
  have hxn : x < n := hT.1.1
  have hcn : am_cn n (f b) := hT.2.2.2.2.2.2.2 b hbn
  rw [hb] at hcn
  obtain ⟨-, -, -, -, -, -, -, s8⟩ := hC.2.2.2.2.2.2.2.2.2.2.2
  refine va_astqO (D := D) (cl := vwCl) (tys := am_tys cA) (ws := am_w cA ρ n f) (q0 := b - am_k0) (t0 := t) (qk := x - am_k0) (ci := ci) (cA := cA t) (r := r) (n := N) (vs := vs.map (am_v ρ)) (f := fun j => (g j).map ρ) hC.1 hC.2.1 hC.2.2.2.2.2.2.2.2.2.2.2.1 hT.2.2.1 hT.2.2.2.1 hT.2.2.2.2.1 (by rw [am_w_at hbn hb0, hb]; rfl) (am_tys_at ht) (am_face_at hca (Vm.Alike.refl _) (s8 _ hca)) (by rw [am_w_at hxn (am_ownO hT.2.2.2.2.2.1 hx), hx]; rfl) hr hin hd ?_
  intro H1 locs1 hP hD hS
  have e : (fun j => (va_up g i.toNatClampNeg (some x) j).map ρ) = va_up (fun j => (g j).map ρ) i.toNatClampNeg (some (ρ x)) := by
    funext j
    unfold va_up
    split <;> rfl
  rw [am_w_set (h0 := hb0) (c := .inl (t, N, .inr (.inr (.inr (.inr (va_up g i.toNatClampNeg (some x))))))) (by simp only [am_e, am_a, e])] at hP hD
  refine am_k kk hC hR ⟨hT.1.2.2.2, hT.2.1, hP, hD, hS, am_exU hT.2.2.2.2.2.1 hb0, hT.2.2.2.2.2.2.1, am_cn_up hT.2.2.2.2.2.2.2 ?_⟩ hcs
  intro j y hj
  unfold va_up at hj
  split at hj
  · cases hj
    exact hxn
  · exact hcn j y hj
/-- a field under the name by which javac spells it, of a class above -/
def am_FS (own : String) (ix ci k : Nat) (ty : FieldType) : Prop := ∃ (C ref : String) (T : u_T) (N : Nat) (ty0 : Nat → FieldType), vwCl[ci]? = some (C, T, N) ∧ k < N ∧ Cond.fieldLink own ix ref (T k).2.1 (T k).2.2.1 ∈ am_W ∧ Cond.sameField ref (T k).1 (T k).2.1 (T k).2.2.1 ∈ am_W ∧ (∀ w ∈ u_ws C T N, w ∈ am_W) ∧
  (∀ k, k < N → parseFieldDescriptor (T k).2.2.1 = some (ty0 k)) ∧ (∀ a, a < N → ∀ b, b < N → a ≠ b → (T a).2.1 ≠ (T b).2.1) ∧ (T k).2.2.2 = false ∧ parseFieldDescriptor (T k).2.2.1 = some ty
theorem am_getfieldS (pc : Nat) {M : am_M} {rc rs n ix ci k b : Nat} {ty : FieldType} {L : List (Option Value)} {st fs : List Value} {f : Nat → am_C} {P : am_P} {v : Value} (hd : decode (am_by M) pc = .ok (.getfield ix, 3)) (hF : am_FS (am_y M).cls ix ci k ty) (hb : f b = .inr (ci, fs)) (hv : fs[k]? = some v) (kk : AW M rc rs (pc + 3) L (v :: st) n f P) : AW M rc rs pc L (.ref b :: st) n f P := by
  intro D cA p l e R s m args below meth c A n0 ρ0 mc ms hC hR H locs cells slots ρ ls hT hcs
  obtain ⟨C, ref, T, N, ty0, f1, f2, f3, f9, f4, -⟩ := hF
  have hbn : b < n := hT.1.1
  have hb0 : am_k0 ≤ b := am_ownO hT.2.2.2.2.2.1 hb
  have hcn : am_cn n (f b) := hT.2.2.2.2.2.2.2 b hbn
  rw [hb] at hcn
  have hvn : am_vn n v := hcn v (List.mem_of_getElem? hv)
  refine va_get (D := D) (cl := vwCl) (tys := am_tys cA) (ws := am_w cA ρ n f) (q0 := b - am_k0) (fs := fs.map (am_v ρ)) (ci := ci) (C := C) (T := T) (N := N) (v := am_v ρ v) hC.1 hC.2.1 hC.2.2.2.2.2.1 f4 hC.2.2.2.2.1 hC.2.2.2.2.2.2.2.2.2.2.2.1 hT.2.2.1 (by rw [am_w_at hbn hb0, hb]; rfl) f1 k f2 (hC.2.2.2.2.2.1 _ f3) (fun x h9 => u_same (hC.2.2.2.2.2.1 _ f9) x h9) (by rw [List.getElem?_map, hv]; rfl) hd ?_
  exact am_k kk hC hR ⟨⟨hvn, hT.1.2⟩, hT.2⟩ hcs
theorem am_putfieldS (pc : Nat) {M : am_M} {rc rs n ix ci k b : Nat} {L : List (Option Value)} {st fs : List Value} {f : Nat → am_C} {P : am_P} {v : Value} {ty : FieldType} (hd : decode (am_by M) pc = .ok (.putfield ix, 3)) (hF : am_FS (am_y M).cls ix ci k ty) (hb : f b = .inr (ci, fs)) (hn : narrow ty v = v) (hfit : fits ty v = true) (hl : k < fs.length) (kk : AW M rc rs (pc + 3) L st n (va_up f b (.inr (ci, fs.set k v))) P) : AW M rc rs pc L (v :: .ref b :: st) n f P := by
  intro D cA p l e R s m args below meth c A n0 ρ0 mc ms hC hR H locs cells slots ρ ls hT hcs
  obtain ⟨C, ref, T, N, ty0, f1, f2, f3, f9, f4, f5, f6, f7, f8⟩ := hF
  have hbn : b < n := hT.1.2.1
  have hb0 : am_k0 ≤ b := am_ownO hT.2.2.2.2.2.1 hb
  have hcn : am_cn n (f b) := hT.2.2.2.2.2.2.2 b hbn
  rw [hb] at hcn
  have hc2 : am_cn n (.inr (ci, fs.set k v)) := fun w hw => by
    rcases List.mem_or_eq_of_mem_set hw with h | h
    · exact hcn w h
    · rw [h]; exact hT.1.1
  refine va_put (D := D) (cl := vwCl) (tys := am_tys cA) (ws := am_w cA ρ n f) (q0 := b - am_k0) (fs := fs.map (am_v ρ)) (ci := ci) (C := C) (T := T) (N := N) (v := am_v ρ v) hC.1 hC.2.1 hC.2.2.2.2.2.1 f4 ty0 f5 f6 hC.2.2.2.2.1 hC.2.2.2.2.2.2.2.2.2.2.2.1 hT.2.2.1 hT.2.2.2.1 hT.2.2.2.2.1 (by rw [am_w_at hbn hb0, hb]; rfl) f1 k f2 (hC.2.2.2.2.2.1 _ f3) (fun x h9 => u_same (hC.2.2.2.2.2.1 _ f9) x h9) f7 f8 (am_narrow ρ hn) (am_fits ρ hfit) (by rw [List.length_map]; exact hl) hd ?_
  intro H1 locs1 hP hD hS
  rw [am_w_set (h0 := hb0) (c := .inr (ci, fs.set k v)) (by simp only [am_e, List.map_set])] at hP hD
  exact am_k kk hC hR ⟨hT.1.2.2, hT.2.1, hP, hD, hS, am_exU hT.2.2.2.2.2.1 hb0, hT.2.2.2.2.2.2.1, am_cn_up hT.2.2.2.2.2.2.2 hc2⟩ hcs
/-- System.arraycopy between two int arrays -/
theorem am_acopy (pc : Nat) {M : am_M} {rc rs n ix t b0 b1 N0 N1 : Nat} {L : List (Option Value)} {st : List Value} {f : Nat → am_C} {P : am_P} {sp dp k : Int32} {g0 g1 : Nat → Int32} (hd : decode (am_by M) pc = .ok (.invokestatic ix, 3)) (hl : Cond.methodLink (am_y M).cls ix arraycopyName ∈ am_W ∧ Cond.native arraycopyName ∈ am_W ∧ Cond.static arraycopyName ∈ am_W ∧ Cond.initialized "java/lang/System" ∈ am_W) (ht : am_tyl[t]? = some .int) (hb0 : f b0 = .inl (t, N0, .inl g0)) (hb1 : f b1 = .inl (t, N1, .inl g1)) (h1 : ¬ sp < 0) (h2 : ¬ dp < 0) (h3 : ¬ k < 0) (h4 : sp.toNatClampNeg + k.toNatClampNeg ≤ N0) (h5 : dp.toNatClampNeg + k.toNatClampNeg ≤ N1) (hfr : 1 ≤ am_fr M) (hlo : (st.map fun v => v.category).sum + (nativeFrameWords "java/lang/System" "arraycopy" 5 + 11) ≤ am_lo M)
    (kk : AW M rc rs (pc + 3) L st n (va_up f b1 (.inl (t, N1, .inl (va_cpy g0 g1 sp.toNatClampNeg dp.toNatClampNeg k.toNatClampNeg)))) P) : AW M rc rs pc L (.int k :: .int dp :: .ref b1 :: .int sp :: .ref b0 :: st) n f P := by
  intro D cA p l e R s m args below meth c A n0 ρ0 mc ms hC hR H locs cells slots ρ ls hT hcs
  have hn1 : b1 < n := hT.1.2.2.1
  have hn0 : b0 < n := hT.1.2.2.2.2.1
  have k1 : am_k0 ≤ b1 := am_ownA hT.2.2.2.2.2.1 hb1 (am_t20 ht)
  have k0 : am_k0 ≤ b0 := am_ownA hT.2.2.2.2.2.1 hb0 (am_t20 ht)
  have hW := hC.2.2.2.2.2.1
  refine va_copyi (D := D) (cl := vwCl) (tys := am_tys cA) (ws := am_w cA ρ n f) (q0 := b0 - am_k0) (q1 := b1 - am_k0) (t0 := t) (t1 := t) (c0 := cA t) (c1 := cA t) (n0 := N0) (n1 := N1) (f := g0) (g := g1) (ty := .int) hC.1 hC.2.1 (by rw [hC.2.2.2.1]; exact hT.2.1.2.1.symm) hC.2.2.2.2.1 (hW _ hl.1) (hW _ hl.2.1) (hW _ hl.2.2.1) (hW _ hl.2.2.2) hC.2.2.2.2.2.2.2.2.2.2.2.1 hT.2.2.1 hT.2.2.2.1 hT.2.2.2.2.1 (by rw [am_w_at hn0 k0, hb0]; rfl) (by rw [am_w_at hn1 k1, hb1]; rfl) (am_tys_at ht) (am_tys_at ht) rfl h1 h2 h3 h4 h5 (fun _ _ => rfl) (Nat.le_trans hfr hR.1) (am_jroom hR hlo) hd ?_
  intro H1 locs1 hP hD hS
  rw [am_w_set (h0 := k1) (e := .inl (cA t, N1, .inl (va_cpy g0 g1 sp.toNatClampNeg dp.toNatClampNeg k.toNatClampNeg))) (c := .inl (t, N1, .inl (va_cpy g0 g1 sp.toNatClampNeg dp.toNatClampNeg k.toNatClampNeg))) rfl] at hP hD
  exact am_k kk hC hR ⟨hT.1.2.2.2.2.2, hT.2.1, hP, hD, hS, am_exU hT.2.2.2.2.2.1 k1, hT.2.2.2.2.2.2.1, am_cn_up hT.2.2.2.2.2.2.2 trivial⟩ hcs
