/-! ===== a cast to an object's own class ===== -/
theorem am_cast (pc : Nat) {M : am_M} {rc rs n ix b ci : Nat} {nm : String} {q : vw_C} {L : List (Option Value)} {st fs : List Value} {f : Nat → am_C} {P : am_P} (hd : decode (am_by M) pc = .ok (.checkcast ix, 3)) (hl : Cond.classLink (am_y M).cls ix nm ∈ am_W) (hc : vwCl[ci]? = some q) (hq : q.1 = nm) (hb : f b = .inr (ci, fs)) (kk : AW M rc rs (pc + 3) L (.ref b :: st) n f P) : AW M rc rs pc L (.ref b :: st) n f P := by
  intro D cA p l e R s m args below meth c A n0 ρ0 mc ms hC hR H locs cells slots ρ ls hT hcs
  have hbn : b < n := hT.1.1
  have hb0 : am_k0 ≤ b := am_ownO hT.2.2.2.2.2.1 hb
  have hr := am_recv hC.2.2.2.2.2.2.2.2.2.2.2.1 hT.2.2.1 hb hbn hb0 hc
  subst hq
  refine va_castE hC.1 hC.2.1 hC.2.2.2.2.1 (hC.2.2.2.2.2.1 _ hl) hr hd ?_
  exact am_k kk hC hR ⟨hT.1, hT.2⟩ hcs
/-! ===== null stored into an array of references ===== -/
theorem am_aastoreN (pc : Nat) {M : am_M} {rc rs n t b N : Nat} {C : String} {L : List (Option Value)} {st : List Value} {f : Nat → am_C} {P : am_P} {i : Int32} {g : Nat → Option Nat} (hd : decode (am_by M) pc = .ok (.aastore, 1)) (ht : am_tyl[t]? = some (.object C)) (hb : f b = .inl (t, N, .inr (.inr (.inr (.inr g))))) (hin : vp_in i N) (kk : AW M rc rs (pc + 1) L st n (va_up f b (.inl (t, N, .inr (.inr (.inr (.inr (va_up g i.toNatClampNeg none))))))) P) : AW M rc rs pc L (.null :: .int i :: .ref b :: st) n f P := by
  intro D cA p l e R s m args below meth c A n0 ρ0 mc ms hC hR H locs cells slots ρ ls hT hcs
  have hbn : b < n := hT.1.2.2.1
  have hb0 : am_k0 ≤ b := am_ownA hT.2.2.2.2.2.1 hb (am_t20 ht)
  have hcn : am_cn n (f b) := hT.2.2.2.2.2.2.2 b hbn
  rw [hb] at hcn
  refine va_astqN (D := D) (cl := vwCl) (tys := am_tys cA) (ws := am_w cA ρ n f) (q0 := b - am_k0) (t0 := t) (cA := cA t) (C := C) (n := N) (f := fun j => (g j).map ρ) hC.1 hC.2.1 hC.2.2.2.2.2.2.2.2.2.2.2.1 hT.2.2.1 hT.2.2.2.1 hT.2.2.2.2.1 (by rw [am_w_at hbn hb0, hb]; rfl) (am_tys_at ht) hin hd ?_
  intro H1 locs1 hP hD hS
  have e : (fun j => (va_up g i.toNatClampNeg none j).map ρ) = va_up (fun j => (g j).map ρ) i.toNatClampNeg none := by
    funext j
    unfold va_up
    split <;> rfl
  rw [am_w_set (h0 := hb0) (c := .inl (t, N, .inr (.inr (.inr (.inr (va_up g i.toNatClampNeg none)))))) (by simp only [am_e, am_a, e])] at hP hD
  refine am_k kk hC hR ⟨hT.1.2.2.2, hT.2.1, hP, hD, hS, am_exU hT.2.2.2.2.2.1 hb0, hT.2.2.2.2.2.2.1, am_cn_up hT.2.2.2.2.2.2.2 ?_⟩ hcs
  intro j y hj
  unfold va_up at hj
  split at hj
  · cases hj
  · exact hcn j y hj
/-! ===== a field of a nest mate ===== -/
def am_FN (own : String) (ix ci k : Nat) : Prop := ∃ (C : String) (T : u_T) (N : Nat) (host : String), vwCl[ci]? = some (C, T, N) ∧ k < N ∧ (own, ix, (T k).1, (T k).2.1, (T k).2.2.1, host) ∈ am_nfl ∧ ∀ w ∈ u_ws C T N, w ∈ am_W
theorem am_getfieldN (pc : Nat) {M : am_M} {rc rs n ix ci k b : Nat} {L : List (Option Value)} {st fs : List Value} {f : Nat → am_C} {P : am_P} {v : Value} (hd : decode (am_by M) pc = .ok (.getfield ix, 3)) (hF : am_FN (am_y M).cls ix ci k) (hb : f b = .inr (ci, fs)) (hv : fs[k]? = some v) (kk : AW M rc rs (pc + 3) L (v :: st) n f P) : AW M rc rs pc L (.ref b :: st) n f P := by
  intro D cA p l e R s m args below meth c A n0 ρ0 mc ms hC hR H locs cells slots ρ ls hT hcs
  obtain ⟨C, T, N, host, f1, f2, f3, f4⟩ := hF
  have hbn : b < n := hT.1.1
  have hb0 : am_k0 ≤ b := am_ownO hT.2.2.2.2.2.1 hb
  have hcn : am_cn n (f b) := hT.2.2.2.2.2.2.2 b hbn
  rw [hb] at hcn
  have hvn : am_vn n v := hcn v (List.mem_of_getElem? hv)
  refine va_getN (D := D) (cl := vwCl) (tys := am_tys cA) (ws := am_w cA ρ n f) (q0 := b - am_k0) (fs := fs.map (am_v ρ)) (ci := ci) (C := C) (T := T) (N := N) (v := am_v ρ v) hC.1 hC.2.1 hC.2.2.2.2.2.1 f4 hC.2.2.2.2.1 hC.2.2.2.2.2.2.2.2.2.2.2.1 hT.2.2.1 (by rw [am_w_at hbn hb0, hb]; rfl) f1 k f2 (va_Nw.use rfl (hC.2.2.2.2.2.2.2.2.2.2.2.2.1.2 _ f3)) (fun _ h9 => h9) (by rw [List.getElem?_map, hv]; rfl) hd ?_
  exact am_k kk hC hR ⟨⟨hvn, hT.1.2⟩, hT.2⟩ hcs
