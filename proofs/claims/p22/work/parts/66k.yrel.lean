/-! ===== floats that are no negative zero ===== -/
section YFl
theorem f_sign0 {a : UInt32} (ha : FP.Core.FFin a) (h : a ≠ 0x80000000) (h0 : 0 ≤ fz a) : a.toNat < 2 ^ 31 := by
  refine Nat.lt_of_not_le fun q => ?_
  have h1 : fz a ≤ 0 := FP.Core.zval_nonpos32 (f_ne ha) q
  have h2 := (FP.Core.zval_eq_zero32 (f_ne ha)).mp (show fz a = 0 by omega)
  have hl := a.toNat_lt
  exact h (UInt32.toNat_inj.mp (show a.toNat = 2 ^ 31 by omega))
theorem f_eqbits {a b : UInt32} (ha : FP.Core.FFin a) (hb : FP.Core.FFin b) (sa : a.toNat < 2 ^ 31) (sb : b.toNat < 2 ^ 31) (h : fz a = fz b) : a = b := by
  have h1 : ∀ x : UInt32, FP.Core.FFin x → x.toNat < 2 ^ 31 → fz x = ((FP.Core.unitsOf FP.Core.b32 (x.toNat % 2 ^ 31) : Nat) : Int) := by
    intro x hx sx
    show FP.Core.zval FP.Core.b32 (FP.Core.val32 x) = _
    unfold FP.Core.zval
    rw [FP.Core.sgn_bits32 (f_ne hx), decide_eq_false (by omega), FP.Core.zmag_bits32 (f_ne hx)]
    simp [FP.Core.signed]
  rw [h1 a ha sa, h1 b hb sb] at h
  rcases Nat.lt_trichotomy (a.toNat % 2 ^ 31) (b.toNat % 2 ^ 31) with q | q | q
  · have := (FP.Core.unitsOf_lt_iff (f := FP.Core.b32)).mpr q
    omega
  · exact UInt32.toNat_inj.mp (by omega)
  · have := (FP.Core.unitsOf_lt_iff (f := FP.Core.b32)).mpr q
    omega
theorem f_nz_abs {x : UInt32} : x &&& 0x7fffffff ≠ 0x80000000 := fun e => by
  have h := FP.Core.mask_toNat32 x
  rw [e] at h
  have h2 : (0x80000000 : UInt32).toNat = 2 ^ 31 := by decide
  rw [h2] at h
  omega
/-- the sign taken away is of the same size -/
theorem f_ws_z {z : UInt32} {B : Int} (hz : fB z (-B) B) : fz (m_ws z) = fz (z &&& 0x7fffffff) := by
  by_cases h : z = 0x80000000
  · subst h
    decide +kernel
  · rw [f_ws_abs hz.1 h]
theorem r_dist_nz {x y x2 y2 : UInt32} (hx : fB x 0 56) (hy : fB y 0 56) (hx2 : fB x2 0 56) (hy2 : fB y2 0 56) : r_dist x y x2 y2 ≠ 0x80000000 := by
  obtain ⟨-, ⟨d3, d4⟩, -⟩ := r_dist_ok hx hy hx2 hy2
  exact f_nz_add d3.1 d4.1 f_nz_abs
/-- the greater of two, in both ways -/
theorem f_max_pick {a b : UInt32} {B : Int} (ha : fB a 0 B) (hb : fB b 0 B) (na : a ≠ 0x80000000) (nb : b ≠ 0x80000000) : m_max b a = Native.java_lang_Math.nans.pick32 true a b ∧ Native.java_lang_Math.nans.pick32 true a b ≠ 0x80000000 := by
  have h0 : ∀ x : UInt32, fB x 0 B → 0 ≤ fz x := fun x hx => by have := hx.2.1; rwa [Int.zero_mul] at this
  have e : FP.fcmp a b = some (compare (fz a) (fz b)) := FP.Core.order_zval FP.Core.good_b32 (f_fits a) (f_fits b) (f_ne ha.1) (f_ne hb.1)
  have hc := (f_cmp hb.1 ha.1 .l).2.2.1
  unfold m_max Native.java_lang_Math.nans.pick32
  rw [e]
  rcases Int.lt_trichotomy (fz a) (fz b) with h | h | h
  · rw [show compare (fz a) (fz b) = .lt from by simp [compare, compareOfLessAndEq, h], if_neg fun z => by have := hc.mp z; omega]
    exact ⟨rfl, nb⟩
  · have eb : a = b := f_eqbits ha.1 hb.1 (f_sign0 ha.1 na (h0 a ha)) (f_sign0 hb.1 nb (h0 b hb)) h
    subst eb
    rw [ite_self]
    rw [show compare (fz a) (fz a) = .eq from by simp [compare, compareOfLessAndEq]]
    simp only [ite_self]
    first | exact ⟨rfl, na⟩ | exact ⟨trivial, na⟩
  · have h2 : ¬ fz a < fz b := by omega
    have h3 : ¬ fz a = fz b := by omega
    rw [show compare (fz a) (fz b) = .gt from by simp [compare, compareOfLessAndEq, h2, h3], if_pos (hc.mpr (by omega))]
    exact ⟨rfl, na⟩
end YFl
/-! ===== the class's hand and the model, side by side ===== -/
section YRel
variable {M M' : Nat → Prop} {told T : Nat} {A : Nat → Nat → Int32} {S : y_H} {cs : Nat → Option Nat} {G : Nat → m_K} {sig : Nat → Int32} {bst : Int64} {d : Nat}
def y_e (a b : m_K) : Prop := (∀ i, 2 ≤ i → i ≤ 7 → a.1 i = b.1 i) ∧ ∀ i, i ≤ 6 → a.2.1 i = b.2.1 i
def y_nz (K : Nat → m_K) : Prop := ∀ j, j < 5 → (K j).1 0 ≠ 0 → (K j).2.1 0 ≠ 0x80000000 ∧ (K j).2.1 1 ≠ 0x80000000 ∧ (K j).2.1 4 ≠ 0x80000000
/-- the contacts -/
def y_Rc (M : Nat → Prop) (K : Nat → m_K) (cs : Nat → Option Nat) (G : Nat → m_K) : Prop := ∀ j, j < 5 → ((K j).1 0 ≠ 0 ↔ cs j ≠ none) ∧ ∀ c, cs j = some c → y_e (G c) (K j) ∧ (M j → (G c).1 1 = (K j).1 1)
/-- where they lie -/
def y_Rd (cs : Nat → Option Nat) : Prop := (∀ i c, i < 5 → cs i = some c → 5 ≤ c) ∧ (∀ i j c c', i < 5 → j < 5 → cs i = some c → cs j = some c' → c ≠ c' + 1) ∧ ∀ i j c, i < 5 → j < 5 → cs i = some c → cs j = some c → i = j
/-- how far they were apart -/
def y_Rp (K : Nat → m_K) (cs : Nat → Option Nat) (G : Nat → m_K) : Prop := ∀ i j c, i < 5 → j < 5 → i ≠ j → cs i = some c → cs j ≠ none → (G (c + 1)).2.2 j = (K i).2.2 j
/-- the areas and their counts -/
def y_Ra (told : Nat) (A : Nat → Nat → Int32) (C : Nat → Nat → Nat) (G : Nat → m_K) : Prop := ∀ k, k < told → (∀ i, i < 4 → (G k).1 i = A k i) ∧ ∀ j, j < 4 → (G k).1 (4 + j) = nI (C k j)
def y_Rn (S : y_H) (G : Nat → m_K) : Prop := r_n G 2 = nI (y_be S) ∧ r_n G 3 = nI (y_li S) ∧ r_n G 4 = nI (y_ca S) ∧ r_n G 0 = (y_t S).1 ∧ r_n G 1 = (y_t S).2
def y_R (M : Nat → Prop) (told : Nat) (A : Nat → Nat → Int32) (S : y_H) (cs : Nat → Option Nat) (G : Nat → m_K) : Prop := y_Rc M (y_K S) cs G ∧ y_Rd cs ∧ y_Rp (y_K S) cs G ∧ y_Ra told A (y_C S) G ∧ y_Rn S G ∧ y_nz (y_K S)
theorem y_R.at {j c : Nat} (h : y_R M told A S cs G) (hj : j < 5) (hc : cs j = some c) : (y_K S j).1 0 ≠ 0 ∧ y_e (G c) (y_K S j) ∧ (M j → (G c).1 1 = (y_K S j).1 1) := by
  obtain ⟨h1, h2⟩ := h.1 j hj
  exact ⟨h1.mpr (by rw [hc]; exact Option.some_ne_none _), h2 c hc⟩
theorem y_R.no {j : Nat} (h : y_R M told A S cs G) (hj : j < 5) (hc : cs j = none) : (y_K S j).1 0 = 0 := Classical.byContradiction fun q => (h.1 j hj).1.mp q hc
theorem y_R.flag (h : y_R M told A S cs G) (hM : ∀ j c, j < 5 → cs j = some c → M' j → M j) : y_R M' told A S cs G :=
  ⟨fun j hj => ⟨(h.1 j hj).1, fun c hc => ⟨((h.1 j hj).2 c hc).1, fun q => ((h.1 j hj).2 c hc).2 (hM j c hj hc q)⟩⟩, h.2⟩
/-- the areas of those that are there -/
theorem y_R.ar {j c : Nat} (h : y_R M told A S cs G) (hI : y_I told T S) (hj : j < 5) (hc : cs j = some c) : ((G c).1 7 = -1 ∨ ∃ k, k < told ∧ (G c).1 7 = nI k) ∧ (G c).1 7 = (y_K S j).1 7 ∧ (G c).1 6 = (y_K S j).1 6 ∧ ∃ cl, cl < 4 ∧ (y_K S j).1 6 = nI cl := by
  obtain ⟨h1, h2, -⟩ := h.at hj hc
  have e7 := h2.1 7 (by decide) (by decide)
  have e6 := h2.1 6 (by decide) (by decide)
  obtain ⟨-, -, h3, cl, h4, h5⟩ := (hI.1 j hj).2.2 h1
  exact ⟨by rw [e7]; exact h3, e7, e6, cl, h4, h5⟩
/-! counts -/
theorem y_Ra.cnt {C : Nat → Nat → Nat} {ar : Int32} {kd : Nat} {up : Bool} (h : y_Ra told A C G) (ht : told ≤ 4) (har : ar = -1 ∨ ∃ k, k < told ∧ ar = nI k) (hk : kd < 4) (hp : up = false → ∀ k, k < told → ar = nI k → 0 < C k kd) : y_Ra told A (y_ct C ar kd up) (y_cG G ar kd (if up then 1 else -1)) := by
  rcases har with rfl | ⟨a, ha, rfl⟩
  · rw [y_cG_no, show y_ct C (-1) kd up = C from if_pos rfl]
    exact h
  · have e : y_ct C (nI a) kd up = m_cu C a kd (if up then C a kd + 1 else C a kd - 1) := by
      unfold y_ct
      rw [if_neg (r_nm1 (by omega)), nI_clamp (n := a) (by omega)]
    rw [y_cG_at (by omega), e]
    intro k hk2
    obtain ⟨h1, h2⟩ := h k hk2
    by_cases q : k = a
    · subst q
      rw [am_up_eq]
      refine ⟨fun i hi => (am_up_ne (by omega)).trans (h1 i hi), fun j hj => ?_⟩
      show va_up (G k).1 (4 + kd) ((G k).1 (4 + kd) + (if up then 1 else -1)) (4 + j) = _
      by_cases w : j = kd
      · subst w
        rw [am_up_eq, h2 j hj, m_cu_eq]
        cases up
        · have := hp rfl k hk2 rfl
          obtain ⟨v, hv⟩ : ∃ v, C k j = v + 1 := ⟨C k j - 1, by omega⟩
          simp only [Bool.false_eq_true, if_false]
          rw [hv, Nat.add_sub_cancel, ← nI_1, Int32.add_assoc]
          exact Int32.add_zero _
        · simp only [if_true]
          exact nI_1 _
      · rw [am_up_ne (by omega), h2 j hj, m_cu_ne (Or.inr w)]
    · rw [am_up_ne q]
      exact ⟨h1, fun j hj => by rw [h2 j hj, m_cu_ne (Or.inl q)]⟩
theorem y_Ra.ext {C : Nat → Nat → Nat} {G2 : Nat → m_K} (h : y_Ra told A C G) (ht : told ≤ 4) (e : ∀ k, k < 4 → G2 k = G k) : y_Ra told A C G2 := fun k hk => by
  rw [e k (by omega)]
  exact h k hk
theorem y_Rn.ext {S2 : y_H} {G2 : Nat → m_K} (h : y_Rn S G) (e : G2 4 = G 4) (e2 : S2.2.2 = S.2.2) : y_Rn S2 G2 := by
  unfold y_Rn r_n at *
  rw [e]
  unfold y_be y_li y_ca y_t at *
  rw [e2]
  exact h
/-! one that is there no more -/
theorem y_Rc.off {K : Nat → m_K} {G2 : Nat → m_K} {j : Nat} {κ : m_K} (h : y_Rc M K cs G) (hd : y_Rd cs) (h0 : κ.1 0 = 0) (e : ∀ i c, i < 5 → i ≠ j → cs i = some c → G2 c = G c) : y_Rc M (va_up K j κ) (va_up cs j none) G2 := by
  intro i hi
  by_cases q : i = j
  · rw [q, am_up_eq, am_up_eq]
    exact ⟨⟨fun z => absurd h0 z, fun z => absurd rfl z⟩, fun c hc => by cases hc⟩
  · rw [am_up_ne q, am_up_ne q]
    exact ⟨(h i hi).1, fun c hc => by rw [e i c hi q hc]; exact (h i hi).2 c hc⟩
theorem y_Rd.off {j : Nat} (hd : y_Rd cs) : y_Rd (va_up cs j none) := by
  have hs : ∀ i c, va_up cs j none i = some c → cs i = some c := fun i c hc => by
    by_cases q : i = j
    · rw [q, am_up_eq] at hc
      cases hc
    · rwa [am_up_ne q] at hc
  exact ⟨fun i c hi hc => hd.1 i c hi (hs i c hc), fun i k c c' hi hk h1 h2 => hd.2.1 i k c c' hi hk (hs i c h1) (hs k c' h2), fun i k c hi hk h1 h2 => hd.2.2 i k c hi hk (hs i c h1) (hs k c h2)⟩
theorem y_Rp.off {K : Nat → m_K} {G2 : Nat → m_K} {j : Nat} {κ : m_K} (h : y_Rp K cs G) (e : ∀ i c, i < 5 → i ≠ j → cs i = some c → G2 (c + 1) = G (c + 1)) : y_Rp (va_up K j κ) (va_up cs j none) G2 := by
  intro i k c hi hk hik h1 h2
  by_cases q : i = j
  · rw [q, am_up_eq] at h1
    cases h1
  · have q2 : k ≠ j := fun z => h2 (by rw [z, am_up_eq])
    rw [am_up_ne q] at h1 ⊢
    rw [am_up_ne q2] at h2
    rw [e i c hi q h1]
    exact h i k c hi hk hik h1 h2
theorem y_nz.off {K : Nat → m_K} {j : Nat} {κ : m_K} (h : y_nz K) (h0 : κ.1 0 = 0) : y_nz (va_up K j κ) := by
  intro i hi h1
  by_cases q : i = j
  · rw [q, am_up_eq] at h1
    exact absurd h0 h1
  · rw [am_up_ne q] at h1 ⊢
    exact h i hi h1
theorem y_caG_x {c x : Nat} (har : (G c).1 7 = -1 ∨ ∃ k, k < told ∧ (G c).1 7 = nI k) (ht : told ≤ 4) (hx : 4 ≤ x) : y_caG G c x = G x := by
  unfold y_caG
  split
  · rfl
  · exact y_cG_x har ht hx
theorem y_tapG_x {c x : Nat} (har : (G c).1 7 = -1 ∨ ∃ k, k < told ∧ (G c).1 7 = nI k) (ht : told ≤ 4) (hx : 4 ≤ x) : y_tapG G c x = G x := by
  unfold y_tapG
  split
  · exact y_cG_x har ht hx
  · rfl
theorem y_R.cancel {j c : Nat} (h : y_R M told A S cs G) (hI : y_I told T S) (ht : told ≤ 4) (hj : j < 5) (hc : cs j = some c) : y_R M told A (va_up (y_K S) j (m_gone (y_K S j)), y_can (y_C S) (y_K S j), y_be S, y_li S, y_ca S + 1, y_t S) (va_up cs j none) (y_nG (y_caG G c) 4) := by
  obtain ⟨h0, he, -⟩ := h.at hj hc
  obtain ⟨har, e7, e6, cl, hcl, e6c⟩ := h.ar hI hj hc
  obtain ⟨a1, a2, a3, a4, a5, a6⟩ := h
  have hx : ∀ x, 5 ≤ x → y_nG (y_caG G c) 4 x = G x := fun x hx => (y_nG_x (by omega)).trans (y_caG_x har ht (by omega))
  refine ⟨a1.off a2 rfl fun i c' hi _ hc' => hx c' (a2.1 i c' hi hc'), a2.off, a3.off fun i c' hi _ hc' => hx _ (by have := a2.1 i c' hi hc'; omega), ?_, ?_, a6.off rfl⟩
  · refine y_Ra.ext (G := y_caG G c) ?_ ht fun k hk => y_nG_x (by omega)
    show y_Ra told A (y_can (y_C S) (y_K S j)) (y_caG G c)
    unfold y_can y_caG
    by_cases q : (y_K S j).1 6 = 0
    · rw [if_pos q, if_pos (e6.trans q)]
      exact a4
    · rw [if_neg q, if_neg (fun z => q (e6.symm.trans z)), e7, e6, e6c, nI_clamp (n := cl) (by omega)]
      have q0 : 0 < cl := Nat.pos_of_ne_zero fun z => q (by rw [e6c, z]; rfl)
      refine a4.cnt (up := false) ht (by rw [← e7]; exact har) hcl fun _ k hk e => ?_
      exact (m_Inv.pos hI hj h0 e6c q0 hcl hk e).1
  · obtain ⟨n1, n2, n3, n4, n5⟩ := a5
    have hn : ∀ i, r_n (y_caG G c) i = r_n G i := fun i => by
      unfold r_n
      rw [y_caG_x har ht (Nat.le_refl _)]
    refine ⟨(r_n_ne (by decide)).trans ((hn 2).trans n1), (r_n_ne (by decide)).trans ((hn 3).trans n2), r_n_up.trans ?_, (r_n_ne (by decide)).trans ((hn 0).trans n4), (r_n_ne (by decide)).trans ((hn 1).trans n5)⟩
    rw [hn, n3]
    exact nI_1 _
/-! one that is changed -/
theorem y_Rc.set {K : Nat → m_K} {j c : Nat} {κ κ' : m_K} (h : y_Rc M K cs G) (hd : y_Rd cs) (hj : j < 5) (hc : cs j = some c) (h0 : κ.1 0 ≠ 0) (e : y_e κ' κ) (hM : ∀ i, i < 5 → i ≠ j → M' i → M i) (em : M' j → κ'.1 1 = κ.1 1) : y_Rc M' (va_up K j κ) cs (va_up G c κ') := by
  intro i hi
  by_cases q : i = j
  · subst q
    rw [am_up_eq]
    exact ⟨⟨fun _ => by rw [hc]; exact Option.some_ne_none _, fun _ => h0⟩, fun c' hc' => by
      rw [hc] at hc'
      cases hc'
      rw [am_up_eq]
      exact ⟨e, em⟩⟩
  · rw [am_up_ne q]
    exact ⟨(h i hi).1, fun c' hc' => by
      rw [am_up_ne fun z => q (hd.2.2 i j c hi hj (by rw [hc', z]) hc)]
      exact ⟨((h i hi).2 c' hc').1, fun w => ((h i hi).2 c' hc').2 (hM i hi q w)⟩⟩
theorem y_Rp.set {K : Nat → m_K} {j c : Nat} {κ κ' : m_K} (h : y_Rp K cs G) (hd : y_Rd cs) (hj : j < 5) (hc : cs j = some c) (e : κ.2.2 = (K j).2.2) : y_Rp (va_up K j κ) cs (va_up G c κ') := by
  intro i k c' hi hk hik h1 h2
  rw [am_up_ne fun z => hd.2.1 j i c c' hj hi hc h1 z.symm]
  have := h i k c' hi hk hik h1 h2
  by_cases q : i = j
  · subst q
    rw [am_up_eq, e]
    exact this
  · rw [am_up_ne q]
    exact this
theorem y_nz.set {K : Nat → m_K} {j : Nat} {κ : m_K} (h : y_nz K) (hκ : κ.1 0 ≠ 0 → κ.2.1 0 ≠ 0x80000000 ∧ κ.2.1 1 ≠ 0x80000000 ∧ κ.2.1 4 ≠ 0x80000000) : y_nz (va_up K j κ) := by
  intro i hi h1
  by_cases q : i = j
  · rw [q, am_up_eq] at h1 ⊢
    exact hκ h1
  · rw [am_up_ne q] at h1 ⊢
    exact h i hi h1
theorem y_R.set {j c : Nat} {κ κ' : m_K} (h : y_R M told A S cs G) (ht : told ≤ 4) (hj : j < 5) (hc : cs j = some c) (h0 : κ.1 0 ≠ 0) (e : y_e κ' κ) (hM : ∀ i, i < 5 → i ≠ j → M' i → M i) (em : M' j → κ'.1 1 = κ.1 1) (e2 : κ.2.2 = (y_K S j).2.2) (hnz : κ.2.1 0 ≠ 0x80000000 ∧ κ.2.1 1 ≠ 0x80000000 ∧ κ.2.1 4 ≠ 0x80000000) : y_R M' told A (va_up (y_K S) j κ, y_C S, y_be S, y_li S, y_ca S, y_t S) cs (va_up G c κ') := by
  obtain ⟨a1, a2, a3, a4, a5, a6⟩ := h
  have c5 := a2.1 j c hj hc
  exact ⟨a1.set a2 hj hc h0 e hM em, a2, a3.set a2 hj hc e2, a4.ext ht fun k hk => am_up_ne (by omega), a5.ext (am_up_ne (by omega)) rfl, a6.set fun _ => hnz⟩
/-- matched no more, for now -/
theorem y_R.unm {j c : Nat} (h : y_R M told A S cs G) (ht : told ≤ 4) (hj : j < 5) (hc : cs j = some c) (hM : ∀ i, i < 5 → M' i → i ≠ j ∧ M i) : y_R M' told A S cs (va_up G c (va_up (G c).1 1 0, (G c).2)) := by
  obtain ⟨h0, he, -⟩ := h.at hj hc
  have r := h.set (M' := M') (κ := y_K S j) (κ' := (va_up (G c).1 1 0, (G c).2)) ht hj hc h0 ⟨fun i h1 h2 => (am_up_ne (by omega)).trans (he.1 i h1 h2), he.2⟩ (fun i hi _ w => (hM i hi w).2) (fun w => absurd rfl (hM j hj w).1) rfl (h.2.2.2.2.2 j hj h0)
  rwa [am_self rfl] at r
/-- missed for the first time -/
theorem y_R.miss {j c : Nat} (h : y_R M told A S cs G) (ht : told ≤ 4) (hj : j < 5) (hc : cs j = some c) (hz : (G c).1 1 = 0) (hM : ∀ i, i < 5 → i ≠ j → M' i → M i) : y_R M' told A (va_up (y_K S) j (m_miss (y_K S j)), y_C S, y_be S, y_li S, y_ca S, y_t S) cs (va_up G c (r_miss (G c))) := by
  obtain ⟨h0, he, -⟩ := h.at hj hc
  refine h.set ht hj hc h0 ⟨fun i h1 h2 => ?_, fun i hi => ?_⟩ hM (fun _ => hz) rfl ?_
  · show va_up (G c).1 5 ((G c).1 5 + 1) i = va_up (va_up (y_K S j).1 1 0) 5 ((y_K S j).1 5 + 1) i
    rw [he.1 5 (by decide) (by decide)]
    by_cases q : i = 5
    · rw [q, am_up_eq, am_up_eq]
    · rw [am_up_ne q, am_up_ne q, am_up_ne (by omega)]
      exact he.1 i h1 h2
  · show va_up (va_up (G c).2.1 2 0) 3 0 i = va_up (va_up (y_K S j).2.1 2 FP.fconst0) 3 FP.fconst0 i
    by_cases q : i = 3
    · rw [q, am_up_eq, am_up_eq]
      rfl
    · rw [am_up_ne q, am_up_ne q]
      by_cases q2 : i = 2
      · rw [q2, am_up_eq, am_up_eq]
        rfl
      · rw [am_up_ne q2, am_up_ne q2]
        exact he.2 i hi
  · exact h.2.2.2.2.2 j hj h0
/-- missed for the second time: lifted -/
theorem y_R.lift {j c : Nat} (h : y_R M told A S cs G) (hI : y_I told T S) (ht : told ≤ 4) (hj : j < 5) (hc : cs j = some c) : y_R M told A (va_up (y_K S) j (m_gone (m_miss (y_K S j))), y_tap (y_C S) (y_K S j), y_be S, y_li S + 1, y_ca S, y_t S) (va_up cs j none) (y_nG (y_tapG (va_up G c (r_miss (G c))) c) 3) := by
  obtain ⟨h0, he, -⟩ := h.at hj hc
  obtain ⟨har, e7, e6, cl, hcl, e6c⟩ := h.ar hI hj hc
  have e4 := he.1 4 (by decide) (by decide)
  obtain ⟨a1, a2, a3, a4, a5, a6⟩ := h
  have c5 := a2.1 j c hj hc
  generalize hG1 : va_up G c (r_miss (G c)) = G1
  have g1 : ∀ x, x ≠ c → G1 x = G x := fun x hx => by rw [← hG1, am_up_ne hx]
  have g1c : G1 c = r_miss (G c) := by rw [← hG1, am_up_eq]
  have h7 : (G1 c).1 7 = (G c).1 7 := by rw [g1c]; rfl
  have h6 : (G1 c).1 6 = (G c).1 6 := by rw [g1c]; rfl
  have h4 : (G1 c).1 4 = (G c).1 4 := by rw [g1c]; rfl
  have har1 : (G1 c).1 7 = -1 ∨ ∃ k, k < told ∧ (G1 c).1 7 = nI k := by rw [h7]; exact har
  have hx : ∀ x, 5 ≤ x → y_nG (y_tapG G1 c) 3 x = G1 x := fun x hx => (y_nG_x (by omega)).trans (y_tapG_x har1 ht (by omega))
  refine ⟨a1.off a2 rfl fun i c' hi hij hc' => (hx c' (a2.1 i c' hi hc')).trans (g1 c' fun z => hij (a2.2.2 i j c hi hj (by rw [hc', z]) hc)), a2.off, a3.off fun i c' hi _ hc' => (hx _ (by have := a2.1 i c' hi hc'; omega)).trans (g1 _ fun z => a2.2.1 j i c c' hj hi hc hc' z.symm), ?_, ?_, a6.off rfl⟩
  · refine y_Ra.ext (G := y_tapG G1 c) ?_ ht fun k hk => y_nG_x (by omega)
    have a41 : y_Ra told A (y_C S) G1 := a4.ext ht fun k hk => g1 k (by omega)
    show y_Ra told A (y_tap (y_C S) (y_K S j)) (y_tapG G1 c)
    unfold y_tap y_tapG
    by_cases q : (y_K S j).1 6 = 0 ∧ (y_K S j).1 4 ≤ 4
    · rw [if_pos q, if_pos (by rw [h6, h4, e6, e4]; exact q), h7, e7]
      exact a41.cnt (up := true) ht (by rw [← e7]; exact har) (by decide) fun z => by cases z
    · rw [if_neg q, if_neg (by rw [h6, h4, e6, e4]; exact q)]
      exact a41
  · obtain ⟨n1, n2, n3, n4, n5⟩ := a5
    have hn : ∀ i, r_n (y_tapG G1 c) i = r_n G i := fun i => by
      unfold r_n
      rw [y_tapG_x har1 ht (Nat.le_refl _), g1 4 (by omega)]
    refine ⟨(r_n_ne (by decide)).trans ((hn 2).trans n1), r_n_up.trans ?_, (r_n_ne (by decide)).trans ((hn 4).trans n3), (r_n_ne (by decide)).trans ((hn 0).trans n4), (r_n_ne (by decide)).trans ((hn 1).trans n5)⟩
    rw [hn, n2]
    exact nI_1 _
/-- it follows its peak -/
theorem y_R.go {j c px py : Nat} (h : y_R M told A S cs G) (hI : y_I told T S) (ht : told ≤ 4) (hj : j < 5) (hc : cs j = some c) (hx : px ≤ 56) (hy : py ≤ 56) (h1 : 1 ≤ d) (h2 : d ≤ 4) (hM : ∀ i, i < 5 → i ≠ j → M' i → M i) : y_R M' told A (va_up (y_K S) j (m_move (y_K S j) (nI px) (nI py) (nI d)), y_C S, y_be S, y_li S, y_ca S, y_t S) cs (va_up G c (r_move (G c) (nI px) (nI py) (nI d))) := by
  obtain ⟨h0, he, -⟩ := h.at hj hc
  have hk := (hI.1 j hj).1
  obtain ⟨n0, n1, n4⟩ := h.2.2.2.2.2 j hj h0
  have hm := m_move_ok (px := px) (py := py) hk hx hy h1 h2
  have s1 := (m_st_ok hk.1 hx h1 h2).2.2.1.1
  have s2 := (m_st_ok hk.2.1 hy h1 h2).2.2.1.1
  have z0 := f_nz_add hk.1.1 s1 n0
  have z1 := f_nz_add hk.2.1.1 s2 n1
  have b0 : fB (FP.fadd ((y_K S j).2.1 0) (m_st ((y_K S j).2.1 0) (nI px) (nI d))) 0 56 := hm.1
  have b1 : fB (FP.fadd ((y_K S j).2.1 1) (m_st ((y_K S j).2.1 1) (nI py) (nI d))) 0 56 := hm.2.1
  have k5 := hk.2.2.2.2.2.1
  have k6 := hk.2.2.2.2.2.2.1
  obtain ⟨d1, d2, -⟩ := f_dist b0 b1 k5 k6
  have ed := f_dist_eq b0.1 b1.1 k5.1 k6.1 d1.1 d2.1 z0 z1
  have dn := r_dist_nz b0 b1 k5 k6
  have dok := (r_dist_ok b0 b1 k5 k6).2.2
  have mx := f_max_pick hk.2.2.2.2.1 dok n4 dn
  have e4 : (m_move (y_K S j) (nI px) (nI py) (nI d)).2.1 4 = Native.java_lang_Math.nans.pick32 true ((y_K S j).2.1 4) (r_dist (FP.fadd ((y_K S j).2.1 0) (m_st ((y_K S j).2.1 0) (nI px) (nI d))) (FP.fadd ((y_K S j).2.1 1) (m_st ((y_K S j).2.1 1) (nI py) (nI d))) ((y_K S j).2.1 5) ((y_K S j).2.1 6)) := by
    rw [← mx.1, ← ed]
    rfl
  have q0 := he.2 0 (by decide)
  have q1 := he.2 1 (by decide)
  have q4 := he.2 4 (by decide)
  have q5 := he.2 5 (by decide)
  have q6 := he.2 6 (by decide)
  refine h.set ht hj hc h0 ⟨fun i w1 w2 => ?_, fun i hi => ?_⟩ hM (fun _ => rfl) rfl ⟨z0, z1, by rw [e4]; exact mx.2⟩
  · show va_up (va_up (va_up (va_up (va_up (G c).1 1 1) 2 (nI px)) 3 (nI py)) 4 ((G c).1 4 + 1)) 5 0 i = va_up (va_up (va_up (va_up (va_up (y_K S j).1 1 1) 2 (nI px)) 3 (nI py)) 4 ((y_K S j).1 4 + 1)) 5 0 i
    rw [he.1 4 (by decide) (by decide)]
    have hcs : i = 2 ∨ i = 3 ∨ i = 4 ∨ i = 5 ∨ i = 6 ∨ i = 7 := by omega
    rcases hcs with rfl | rfl | rfl | rfl | rfl | rfl
    · rfl
    · rfl
    · rfl
    · rfl
    · exact he.1 6 (by decide) (by decide)
    · exact he.1 7 (by decide) (by decide)
  · have hcs : i = 0 ∨ i = 1 ∨ i = 2 ∨ i = 3 ∨ i = 4 ∨ i = 5 ∨ i = 6 := by omega
    rcases hcs with rfl | rfl | rfl | rfl | rfl | rfl | rfl
    · show FP.fadd ((G c).2.1 0) (m_st ((G c).2.1 0) (nI px) (nI d)) = _
      rw [q0]
      rfl
    · show FP.fadd ((G c).2.1 1) (m_st ((G c).2.1 1) (nI py) (nI d)) = _
      rw [q1]
      rfl
    · show m_st ((G c).2.1 0) (nI px) (nI d) = _
      rw [q0]
      rfl
    · show m_st ((G c).2.1 1) (nI py) (nI d) = _
      rw [q1]
      rfl
    · rw [e4]
      show Native.java_lang_Math.nans.pick32 true ((G c).2.1 4) (r_dist (FP.fadd ((G c).2.1 0) (m_st ((G c).2.1 0) (nI px) (nI d))) (FP.fadd ((G c).2.1 1) (m_st ((G c).2.1 1) (nI py) (nI d))) ((G c).2.1 5) ((G c).2.1 6)) = _
      rw [q0, q1, q4, q5, q6]
    · exact q5
    · exact q6
/-! claims -/
theorem y_R.mc {j : Nat} (h : y_R M told A S cs G) (hj : j < 5) (hM : M j) : y_mc cs G j ↔ y_cl (y_K S j) := by
  constructor
  · rintro ⟨c, hc, h6, h1⟩
    obtain ⟨h0, he, em⟩ := h.at hj hc
    exact ⟨h0, by rw [← em hM]; exact h1, by rw [← he.1 6 (by decide) (by decide)]; exact h6⟩
  · rintro ⟨h0, h1, h6⟩
    obtain ⟨c, hc⟩ := Option.ne_none_iff_exists'.mp ((h.1 j hj).1.mp h0)
    obtain ⟨-, he, em⟩ := h.at hj hc
    exact ⟨c, hc, by rw [he.1 6 (by decide) (by decide)]; exact h6, by rw [em hM]; exact h1⟩
theorem y_R.one {j c kd : Nat} (h : y_R M told A S cs G) (hI : y_I told T S) (ht : told ≤ 4) (hj : j < 5) (hc : cs j = some c) (hk : kd < 4) : y_R M told A (y_one S j kd) cs (y_cG (va_up G c (m_claim (G c) kd)) ((G c).1 7) kd 1) := by
  obtain ⟨h0, he, em⟩ := h.at hj hc
  obtain ⟨har, e7, e6, -⟩ := h.ar hI hj hc
  have r := h.set (M' := M) (κ := m_claim (y_K S j) kd) (κ' := m_claim (G c) kd) ht hj hc h0 ⟨fun i w1 w2 => by
    show va_up (G c).1 6 (nI kd) i = va_up (y_K S j).1 6 (nI kd) i
    by_cases q : i = 6
    · rw [q, am_up_eq, am_up_eq]
    · rw [am_up_ne q, am_up_ne q]
      exact he.1 i w1 w2, he.2⟩ (fun i _ _ w => w) (fun w => em w) rfl (h.2.2.2.2.2 j hj h0)
  obtain ⟨a1, a2, a3, a4, a5, a6⟩ := r
  have hx : ∀ x, 4 ≤ x → y_cG (va_up G c (m_claim (G c) kd)) ((G c).1 7) kd 1 x = va_up G c (m_claim (G c) kd) x := fun x hx => y_cG_x har ht hx
  refine ⟨fun i hi => ?_, a2, fun i k c' hi hk2 hik h1 h2 => ?_, ?_, ?_, a6⟩
  · refine ⟨(a1 i hi).1, fun c' hc' => ?_⟩
    rw [hx c' (by have := a2.1 i c' hi hc'; omega)]
    exact (a1 i hi).2 c' hc'
  · rw [hx _ (by have := a2.1 i c' hi h1; omega)]
    exact a3 i k c' hi hk2 hik h1 h2
  · rw [e7]
    exact a4.cnt (up := true) ht (by rw [← e7]; exact har) hk fun z => by cases z
  · exact y_Rn.ext a5 (hx 4 (Nat.le_refl _)) rfl
/-- apart by more than sixteen than they were, on both sides -/
theorem y_R.pc {i j ci cj : Nat} (h : y_R M told A S cs G) (hI : y_I told T S) (hi : i < 5) (hj : j < 5) (hij : i ≠ j) (hci : cs i = some ci) (hcj : cs j = some cj) : (¬ Op.cmpValue (FP.fcmp (FP.fsub (r_dist ((G ci).2.1 0) ((G ci).2.1 1) ((G cj).2.1 0) ((G cj).2.1 1)) ((G (ci + 1)).2.2 j) &&& 0x7fffffff) 1098907648) .l ≤ 0) ↔ y_pc (y_K S) i j := by
  obtain ⟨h0, he, -⟩ := h.at hi hci
  obtain ⟨h0', he', -⟩ := h.at hj hcj
  have ki := (hI.1 i hi).1
  have kj := (hI.1 j hj).1
  obtain ⟨n0, n1, -⟩ := h.2.2.2.2.2 i hi h0
  have ep := h.2.2.1 i j ci hi hj hij hci (by rw [hcj]; exact Option.some_ne_none _)
  obtain ⟨d1, d2, d3⟩ := f_dist ki.1 ki.2.1 kj.1 kj.2.1
  have ed := f_dist_eq ki.1.1 ki.2.1.1 kj.1.1 kj.2.1.1 d1.1 d2.1 n0 n1
  rw [he.2 0 (by decide), he.2 1 (by decide), he'.2 0 (by decide), he'.2 1 (by decide), ep, ← ed]
  unfold y_pc
  have k7 := ki.2.2.2.2.2.2.2.1 j hj
  have hs : fB (FP.fsub (m_dist ((y_K S i).2.1 0) ((y_K S i).2.1 1) ((y_K S j).2.1 0) ((y_K S j).2.1 1)) ((y_K S i).2.2 j)) (-112) 112 := fB_sub d3 k7 (by decide) (by decide) (by decide)
  generalize FP.fsub (m_dist ((y_K S i).2.1 0) ((y_K S i).2.1 1) ((y_K S j).2.1 0) ((y_K S j).2.1 1)) ((y_K S i).2.2 j) = D at hs
  have f16 : FP.Core.FFin (1098907648 : UInt32) := (FP.Core.fin_bits32 _).mpr (by decide)
  have w1 := (f_cmp (f_ws (B := 112) hs).1 f16 .l).2.2.1
  have w2 := (f_cmp (n_fB_abs (B := 112) hs).1 f16 .l).2.2.1
  rw [w1, w2, f_ws_z hs]
end YRel
