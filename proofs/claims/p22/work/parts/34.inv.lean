/-! ===== what holds of hand and areas at all times ===== -/
/-- a count changed -/
def m_cu (C : Nat → Nat → Nat) (a kd v : Nat) : Nat → Nat → Nat := va_up C a (va_up (C a) kd v)
theorem m_cu_eq {C : Nat → Nat → Nat} {a kd v : Nat} : m_cu C a kd v a kd = v := by
  unfold m_cu
  rw [am_up_eq, am_up_eq]
theorem m_cu_ne {C : Nat → Nat → Nat} {a kd v a2 k2 : Nat} (h : a2 ≠ a ∨ k2 ≠ kd) : m_cu C a kd v a2 k2 = C a2 k2 := by
  unfold m_cu
  by_cases e : a2 = a
  · subst e
    rw [am_up_eq, am_up_ne (by omega)]
  · rw [am_up_ne e]
/-- one more, or one less, of a kind in a contact's area, if it has one -/
def m_Ct (C C' : Nat → Nat → Nat) (ar : Int32) (kd : Nat) (up : Bool) : Prop := (ar = -1 ∧ C' = C) ∨ ∃ a, a < 4 ∧ ar = nI a ∧ C' = m_cu C a kd (if up then C a kd + 1 else C a kd - 1)
def m_gone (κ : m_K) : m_K := (va_up κ.1 0 0, κ.2)
def m_claim (κ : m_K) (kd : Nat) : m_K := (va_up κ.1 6 (nI kd), κ.2)
def m_one (told T : Nat) (κ : m_K) : Prop := m_kOk κ ∧ (κ.1 0 = 0 ∨ κ.1 0 = 1) ∧ (κ.1 0 ≠ 0 → (∃ fr, 1 ≤ fr ∧ fr ≤ T + 1 ∧ κ.1 4 = nI fr) ∧ (κ.1 5 = 0 ∨ κ.1 5 = 1) ∧ (κ.1 7 = -1 ∨ ∃ a, a < told ∧ κ.1 7 = nI a) ∧ ∃ cl, cl < 4 ∧ κ.1 6 = nI cl)
/-- how many contacts claim a kind in an area -/
def m_cl (K : Nat → m_K) (a kd : Nat) (k : Nat) : Nat := if (K k).1 0 ≠ 0 ∧ (K k).1 6 = nI kd ∧ (K k).1 7 = nI a then 1 else 0
def m_Inv (told T : Nat) (K : Nat → m_K) (be li ca : Nat) (C : Nat → Nat → Nat) : Prop := (∀ k, k < 5 → m_one told T (K k)) ∧ be = m_N (m_th K) 5 + li + ca ∧ (∀ a, a < told → C a 0 ≤ li ∧ ∀ kd, 1 ≤ kd → kd < 4 → m_N (m_cl K a kd) 5 ≤ C a kd ∧ C a kd ≤ m_N (m_cl K a kd) 5 + li) ∧ ∀ a, told ≤ a → ∀ kd, C a kd = 0
theorem m_N_at {g g' : Nat → Nat} {k : Nat} (hk : k < 5) (h : ∀ j, j < 5 → j ≠ k → g' j = g j) : m_N g' 5 + g k = m_N g 5 + g' k := by
  show (0 + g' 0 + g' 1 + g' 2 + g' 3 + g' 4) + g k = (0 + g 0 + g 1 + g 2 + g 3 + g 4) + g' k
  have hc : k = 0 ∨ k = 1 ∨ k = 2 ∨ k = 3 ∨ k = 4 := by omega
  rcases hc with rfl | rfl | rfl | rfl | rfl
  · rw [h 1 (by omega) (by omega), h 2 (by omega) (by omega), h 3 (by omega) (by omega), h 4 (by omega) (by omega)]; omega
  · rw [h 0 (by omega) (by omega), h 2 (by omega) (by omega), h 3 (by omega) (by omega), h 4 (by omega) (by omega)]; omega
  · rw [h 0 (by omega) (by omega), h 1 (by omega) (by omega), h 3 (by omega) (by omega), h 4 (by omega) (by omega)]; omega
  · rw [h 0 (by omega) (by omega), h 1 (by omega) (by omega), h 2 (by omega) (by omega), h 4 (by omega) (by omega)]; omega
  · rw [h 0 (by omega) (by omega), h 1 (by omega) (by omega), h 2 (by omega) (by omega), h 3 (by omega) (by omega)]; omega
theorem m_th_up {K : Nat → m_K} {κ : m_K} {k j : Nat} (h : j ≠ k) : m_th (va_up K k κ) j = m_th K j := by
  unfold m_th
  rw [am_up_ne h]
theorem m_cl_up {K : Nat → m_K} {κ : m_K} {a kd k j : Nat} (h : j ≠ k) : m_cl (va_up K k κ) a kd j = m_cl K a kd j := by
  unfold m_cl
  rw [am_up_ne h]
theorem m_nI4 {a b : Nat} (ha : a < 5) (hb : b < 5) (h : nI a = nI b) : a = b := (nI_eq (by omega) (by omega)).mp h
theorem m_nIm {a : Nat} (ha : a < 5) : (-1 : Int32) ≠ nI a := by
  have : ∀ a, a < 5 → (-1 : Int32) ≠ nI a := by decide
  exact this a ha
section Inv
variable {told T be li ca k cl : Nat} {K : Nat → m_K} {C C' : Nat → Nat → Nat}
theorem m_one_gone {κ : m_K} (h : m_one told T κ) : m_one told T (m_gone κ) := ⟨h.1, Or.inl rfl, fun z => absurd rfl z⟩
theorem m_one_up {κ : m_K} (hI : ∀ j, j < 5 → m_one told T (K j)) (h : m_one told T κ) : ∀ j, j < 5 → m_one told T (va_up K k κ j) := by
  intro j hj
  by_cases e : j = k
  · subst e
    rw [am_up_eq]
    exact h
  · rw [am_up_ne e]
    exact hI j hj
theorem m_Inv.gone_N (hk : k < 5) (hth : (K k).1 0 ≠ 0) : m_N (m_th (va_up K k (m_gone (K k)))) 5 + 1 = m_N (m_th K) 5 := by
  have h := m_N_at (g := m_th K) (g' := m_th (va_up K k (m_gone (K k)))) hk fun j _ hj => m_th_up hj
  have e1 : m_th K k = 1 := by
    unfold m_th
    rw [if_pos hth]
  have e2 : m_th (va_up K k (m_gone (K k))) k = 0 := by
    unfold m_th
    rw [am_up_eq, if_neg]
    exact fun z => z rfl
  rw [e1, e2] at h
  omega
theorem m_Inv.gone_cl {a kd : Nat} (hk : k < 5) : m_N (m_cl (va_up K k (m_gone (K k))) a kd) 5 + m_cl K a kd k = m_N (m_cl K a kd) 5 := by
  have h := m_N_at (g := m_cl K a kd) (g' := m_cl (va_up K k (m_gone (K k))) a kd) hk fun j _ hj => m_cl_up hj
  have e2 : m_cl (va_up K k (m_gone (K k))) a kd k = 0 := by
    unfold m_cl
    rw [am_up_eq, if_neg]
    exact fun z => z.1 rfl
  rw [e2] at h
  omega
theorem m_N_le {g g' : Nat → Nat} (h : ∀ j, j < 5 → g j ≤ g' j) : m_N g 5 ≤ m_N g' 5 := by
  show 0 + g 0 + g 1 + g 2 + g 3 + g 4 ≤ 0 + g' 0 + g' 1 + g' 2 + g' 3 + g' 4
  have a0 := h 0 (by omega)
  have a1 := h 1 (by omega)
  have a2 := h 2 (by omega)
  have a3 := h 3 (by omega)
  have a4 := h 4 (by omega)
  omega
theorem m_N_ge {g : Nat → Nat} {k : Nat} (hk : k < 5) : g k ≤ m_N g 5 := by
  have h := m_N_at (g := g) (g' := fun j => if j = k then 0 else g j) hk fun j _ hj => if_neg hj
  simp only [if_true] at h
  omega
theorem m_cl_th {K : Nat → m_K} {a kd j : Nat} : m_cl K a kd j ≤ m_th K j := by
  unfold m_cl m_th
  split
  · next h => rw [if_pos h.1]; exact Nat.le_refl _
  · exact Nat.zero_le _
theorem m_Inv.pos {a : Nat} (hI : m_Inv told T K be li ca C) (hk : k < 5) (hth : (K k).1 0 ≠ 0) (e6 : (K k).1 6 = nI cl) (h1 : 0 < cl) (h2 : cl < 4) (ha : a < told) (e7 : (K k).1 7 = nI a) : 0 < C a cl ∧ C a cl ≤ be := by
  have g1 := (hI.2.2.1 a ha).2 cl h1 h2
  have g2 : m_cl K a cl k ≤ _ := m_N_ge hk
  have g3 : m_cl K a cl k = 1 := if_pos ⟨hth, e6, e7⟩
  have g4 : m_N (m_cl K a cl) 5 ≤ m_N (m_th K) 5 := m_N_le fun j _ => m_cl_th
  have g5 := hI.2.1
  omega
theorem m_Inv.cancel (hI : m_Inv told T K be li ca C) (ht : told ≤ 4) (hk : k < 5) (hth : (K k).1 0 ≠ 0) (hcl : cl < 4) (e6 : (K k).1 6 = nI cl) (hC : (cl = 0 ∧ C' = C) ∨ (cl ≠ 0 ∧ m_Ct C C' ((K k).1 7) cl false)) : m_Inv told T (va_up K k (m_gone (K k))) be li (ca + 1) C' := by
  obtain ⟨h1, h2, h3, h4⟩ := hI
  refine ⟨m_one_up h1 (m_one_gone (h1 k hk)), ?_, fun a ha => ?_, fun a ha kd => ?_⟩
  · have := m_Inv.gone_N hk hth
    omega
  · obtain ⟨c0, c1⟩ := h3 a ha
    have hg : ∀ kd, m_N (m_cl (va_up K k (m_gone (K k))) a kd) 5 + m_cl K a kd k = m_N (m_cl K a kd) 5 := fun kd => m_Inv.gone_cl hk
    rcases hC with ⟨rfl, rfl⟩ | ⟨hz, hC⟩
    · refine ⟨c0, fun kd k1 k2 => ?_⟩
      have e : m_cl K a kd k = 0 := by
        unfold m_cl
        rw [if_neg]
        intro z
        have := m_nI4 (by omega) (by omega) (e6.symm.trans z.2.1)
        omega
      have := hg kd
      have := c1 kd k1 k2
      omega
    · rcases hC with ⟨e7, rfl⟩ | ⟨b, hb, e7, rfl⟩
      · refine ⟨c0, fun kd k1 k2 => ?_⟩
        have e : m_cl K a kd k = 0 := by
          unfold m_cl
          rw [if_neg]
          exact fun z => m_nIm (by omega) (e7.symm.trans z.2.2)
        have := hg kd
        have := c1 kd k1 k2
        omega
      · refine ⟨?_, fun kd k1 k2 => ?_⟩
        · rw [m_cu_ne (Or.inr (by omega))]
          exact c0
        · have g1 := hg kd
          have g2 := c1 kd k1 k2
          by_cases e : a = b ∧ kd = cl
          · obtain ⟨rfl, rfl⟩ := e
            rw [m_cu_eq]
            have e1 : m_cl K a kd k = 1 := by
              unfold m_cl
              rw [if_pos ⟨hth, e6, e7⟩]
            simp only [Bool.false_eq_true, if_false]
            omega
          · have e1 : m_cl K a kd k = 0 := by
              unfold m_cl
              rw [if_neg]
              intro z
              exact e ⟨m_nI4 (by omega) (by omega) (z.2.2.symm.trans e7), m_nI4 (by omega) (by omega) (z.2.1.symm.trans e6)⟩
            rw [m_cu_ne (by omega)]
            omega
  · rcases hC with ⟨-, rfl⟩ | ⟨-, ⟨-, rfl⟩ | ⟨b, hb, e7, rfl⟩⟩
    · exact h4 a ha kd
    · exact h4 a ha kd
    · by_cases e : a = b ∧ kd = cl
      · obtain ⟨rfl, rfl⟩ := e
        rw [m_cu_eq, h4 a ha kd]
        rfl
      · rw [m_cu_ne (by omega)]
        exact h4 a ha kd
theorem m_Inv.lift (hI : m_Inv told T K be li ca C) (ht : told ≤ 4) (hk : k < 5) (hth : (K k).1 0 ≠ 0) (hC : C' = C ∨ (cl = 0 ∧ m_Ct C C' ((K k).1 7) 0 true)) (har : (K k).1 7 = -1 ∨ ∃ a, a < told ∧ (K k).1 7 = nI a) : m_Inv told T (va_up K k (m_gone (K k))) be (li + 1) ca C' := by
  obtain ⟨h1, h2, h3, h4⟩ := hI
  have hg : ∀ a kd, m_N (m_cl (va_up K k (m_gone (K k))) a kd) 5 + m_cl K a kd k = m_N (m_cl K a kd) 5 := fun a kd => m_Inv.gone_cl hk
  have hle : ∀ a kd, m_cl K a kd k ≤ 1 := fun a kd => by
    unfold m_cl
    split <;> omega
  refine ⟨m_one_up h1 (m_one_gone (h1 k hk)), ?_, fun a ha => ?_, fun a ha kd => ?_⟩
  · have := m_Inv.gone_N hk hth
    omega
  · obtain ⟨c0, c1⟩ := h3 a ha
    rcases hC with rfl | ⟨-, ⟨-, rfl⟩ | ⟨b, hb, -, rfl⟩⟩
    · refine ⟨by omega, fun kd k1 k2 => ?_⟩
      have := hg a kd
      have := hle a kd
      have := c1 kd k1 k2
      omega
    · refine ⟨by omega, fun kd k1 k2 => ?_⟩
      have := hg a kd
      have := hle a kd
      have := c1 kd k1 k2
      omega
    · refine ⟨?_, fun kd k1 k2 => ?_⟩
      · by_cases e : a = b
        · subst e
          rw [m_cu_eq]
          simp only [if_true]
          omega
        · rw [m_cu_ne (Or.inl e)]
          omega
      · rw [m_cu_ne (Or.inr (by omega))]
        have := hg a kd
        have := hle a kd
        have := c1 kd k1 k2
        omega
  · rcases hC with rfl | ⟨-, ⟨-, rfl⟩ | ⟨b, hb, e7, rfl⟩⟩
    · exact h4 a ha kd
    · exact h4 a ha kd
    · have hbt : b < told := by
        rcases har with h | ⟨a2, h, h'⟩
        · exact absurd (h.symm.trans e7) (m_nIm (by omega))
        · have := m_nI4 (a := b) (b := a2) (by omega) (by omega) (e7.symm.trans h')
          omega
      rw [m_cu_ne (Or.inl (by omega))]
      exact h4 a ha kd
/-- a contact changed, but not in its being there, its claim, its area -/
theorem m_Inv.same {κ : m_K} (hI : m_Inv told T K be li ca C) (hk : k < 5) (h1 : m_one told T κ) (e0 : κ.1 0 = (K k).1 0) (e6 : κ.1 6 = (K k).1 6) (e7 : κ.1 7 = (K k).1 7) : m_Inv told T (va_up K k κ) be li ca C := by
  have a1 : m_th (va_up K k κ) = m_th K := by
    funext j
    by_cases e : j = k
    · subst e
      unfold m_th
      rw [am_up_eq, e0]
    · exact m_th_up e
  have a2 : ∀ a kd, m_cl (va_up K k κ) a kd = m_cl K a kd := fun a kd => by
    funext j
    by_cases e : j = k
    · subst e
      unfold m_cl
      rw [am_up_eq, e0, e6, e7]
    · exact m_cl_up e
  refine ⟨m_one_up hI.1 h1, by rw [a1]; exact hI.2.1, fun a ha => ?_, hI.2.2.2⟩
  refine ⟨(hI.2.2.1 a ha).1, fun kd k1 k2 => ?_⟩
  rw [a2]
  exact (hI.2.2.1 a ha).2 kd k1 k2
theorem m_Inv.claim {kd : Nat} (hI : m_Inv told T K be li ca C) (ht : told ≤ 4) (hk : k < 5) (hth : (K k).1 0 ≠ 0) (e6 : (K k).1 6 = 0) (h1 : 1 ≤ kd) (h2 : kd < 4) (hC : m_Ct C C' ((K k).1 7) kd true) (har : (K k).1 7 = -1 ∨ ∃ a, a < told ∧ (K k).1 7 = nI a) : m_Inv told T (va_up K k (m_claim (K k) kd)) be li ca C' := by
  have hone := hI.1 k hk
  have a0 : m_one told T (m_claim (K k) kd) := ⟨hone.1, hone.2.1, fun z => by
    obtain ⟨f1, f2, f3, -⟩ := hone.2.2 z
    exact ⟨f1, f2, f3, kd, h2, rfl⟩⟩
  have a1 : m_th (va_up K k (m_claim (K k) kd)) = m_th K := by
    funext j
    by_cases e : j = k
    · subst e
      unfold m_th
      rw [am_up_eq]
      rfl
    · exact m_th_up e
  have hg : ∀ a k2, m_N (m_cl (va_up K k (m_claim (K k) kd)) a k2) 5 + m_cl K a k2 k = m_N (m_cl K a k2) 5 + m_cl (va_up K k (m_claim (K k) kd)) a k2 k := fun a k2 => m_N_at hk fun j _ hj => m_cl_up hj
  have hz : ∀ a k2, 1 ≤ k2 → k2 < 4 → m_cl K a k2 k = 0 := fun a k2 q1 q2 => by
    unfold m_cl
    rw [if_neg]
    intro z
    have := m_nI4 (a := 0) (by omega) (by omega) (e6.symm.trans z.2.1)
    omega
  refine ⟨m_one_up hI.1 a0, by rw [a1]; exact hI.2.1, fun a ha => ?_, fun a ha k2 => ?_⟩
  · obtain ⟨c0, c1⟩ := hI.2.2.1 a ha
    rcases hC with ⟨e7, rfl⟩ | ⟨b, hb, e7, rfl⟩
    · refine ⟨c0, fun k2 q1 q2 => ?_⟩
      have g1 := hg a k2
      have g2 := c1 k2 q1 q2
      have g3 := hz a k2 q1 q2
      have g4 : m_cl (va_up K k (m_claim (K k) kd)) a k2 k = 0 := by
        unfold m_cl
        rw [am_up_eq, if_neg]
        exact fun z => m_nIm (by omega) (e7.symm.trans z.2.2)
      omega
    · refine ⟨?_, fun k2 q1 q2 => ?_⟩
      · rw [m_cu_ne (Or.inr (by omega))]
        exact c0
      · have g1 := hg a k2
        have g2 := c1 k2 q1 q2
        have g3 := hz a k2 q1 q2
        by_cases e : a = b ∧ k2 = kd
        · obtain ⟨rfl, rfl⟩ := e
          rw [m_cu_eq]
          have g4 : m_cl (va_up K k (m_claim (K k) k2)) a k2 k = 1 := by
            unfold m_cl
            rw [am_up_eq, if_pos ⟨hth, rfl, e7⟩]
          simp only [if_true]
          omega
        · rw [m_cu_ne (by omega)]
          have g4 : m_cl (va_up K k (m_claim (K k) kd)) a k2 k = 0 := by
            unfold m_cl
            rw [am_up_eq, if_neg]
            intro z
            exact e ⟨m_nI4 (by omega) (by omega) (z.2.2.symm.trans e7), m_nI4 (by omega) (by omega) (Eq.symm (show nI kd = nI k2 from z.2.1))⟩
          omega
  · rcases hC with ⟨-, rfl⟩ | ⟨b, hb, e7, rfl⟩
    · exact hI.2.2.2 a ha k2
    · have hbt : b < told := by
        rcases har with h | ⟨a2, h, h'⟩
        · exact absurd (h.symm.trans e7) (m_nIm (by omega))
        · have := m_nI4 (a := b) (b := a2) (by omega) (by omega) (e7.symm.trans h')
          omega
      rw [m_cu_ne (Or.inl (by omega))]
      exact hI.2.2.2 a ha k2
theorem m_Inv.begin {px py : Nat} {ar : Int32} (hI : m_Inv told T K be li ca C) (ht : told ≤ 4) (hk : k < 5) (hth : (K k).1 0 = 0) (hx : px ≤ 56) (hy : py ≤ 56) (har : ar = -1 ∨ ∃ a, a < told ∧ ar = nI a) : m_Inv told T (va_up K k (m_begin (K k) (nI px) (nI py) ar)) (be + 1) li ca C := by
  have a0 : m_one told T (m_begin (K k) (nI px) (nI py) ar) := ⟨m_begin_ok (hI.1 k hk).1 hx hy, Or.inr rfl, fun _ => ⟨⟨1, Nat.le_refl _, by omega, rfl⟩, Or.inl rfl, har, 0, by omega, rfl⟩⟩
  have hN := m_N_at (g := m_th K) (g' := m_th (va_up K k (m_begin (K k) (nI px) (nI py) ar))) hk fun j _ hj => m_th_up hj
  have e1 : m_th K k = 0 := by
    unfold m_th
    rw [if_neg (fun z => z hth)]
  have e2 : m_th (va_up K k (m_begin (K k) (nI px) (nI py) ar)) k = 1 := by
    unfold m_th
    rw [am_up_eq, if_pos]
    exact (by decide : (1 : Int32) ≠ 0)
  have hg : ∀ a k2, 1 ≤ k2 → k2 < 4 → m_N (m_cl (va_up K k (m_begin (K k) (nI px) (nI py) ar)) a k2) 5 = m_N (m_cl K a k2) 5 := fun a k2 q1 q2 => by
    have h := m_N_at (g := m_cl K a k2) (g' := m_cl (va_up K k (m_begin (K k) (nI px) (nI py) ar)) a k2) hk fun j _ hj => m_cl_up hj
    have g1 : m_cl K a k2 k = 0 := by
      unfold m_cl
      rw [if_neg (fun z => z.1 hth)]
    have g2 : m_cl (va_up K k (m_begin (K k) (nI px) (nI py) ar)) a k2 k = 0 := by
      unfold m_cl
      rw [am_up_eq, if_neg]
      intro z
      have := m_nI4 (a := 0) (by omega) (by omega) (show nI 0 = nI k2 from z.2.1)
      omega
    omega
  refine ⟨m_one_up hI.1 a0, ?_, fun a ha => ?_, hI.2.2.2⟩
  · have := hI.2.1
    omega
  · refine ⟨(hI.2.2.1 a ha).1, fun k2 q1 q2 => ?_⟩
    rw [hg a k2 q1 q2]
    exact (hI.2.2.1 a ha).2 k2 q1 q2
end Inv
