/-! ===== what the law's checks rest on: peaks, regions, sums ===== -/
section Pur
theorem m_I_N {g : Nat → Int32} {h : Nat → Nat} (n : Nat) (e : ∀ k, k < n → g k = nI (h k)) : m_I g n = nI (m_N h n) := by
  induction n with
  | zero => rfl
  | succ n ih =>
    show m_I g n + g n = nI (m_N h n + h n)
    rw [ih (fun k hk => e k (by omega)), e n (by omega), nI_add]
theorem m_N_add {g h : Nat → Nat} (n : Nat) : m_N (fun k => g k + h k) n = m_N g n + m_N h n := by
  induction n with
  | zero => rfl
  | succ n ih =>
    show m_N (fun k => g k + h k) n + (g n + h n) = m_N g n + g n + (m_N h n + h n)
    omega
theorem m_N_congr {g h : Nat → Nat} (n : Nat) (e : ∀ k, k < n → g k = h k) : m_N g n = m_N h n := by
  induction n with
  | zero => rfl
  | succ n ih =>
    show m_N g n + g n = m_N h n + h n
    rw [ih (fun k hk => e k (by omega)), e n (by omega)]
theorem m_N_one (n : Nat) : m_N (fun _ => 1) n = n := by
  induction n with
  | zero => rfl
  | succ n ih =>
    show m_N (fun _ => 1) n + 1 = n + 1
    rw [ih]
theorem m_N_pos {g : Nat → Nat} (n : Nat) : 0 < m_N g n ↔ ∃ k, k < n ∧ 0 < g k := by
  induction n with
  | zero => exact ⟨fun h => absurd h (Nat.lt_irrefl 0), fun ⟨k, hk, _⟩ => absurd hk (by omega)⟩
  | succ n ih =>
    show 0 < m_N g n + g n ↔ _
    constructor
    · intro h
      by_cases h0 : 0 < m_N g n
      · obtain ⟨k, hk, h1⟩ := ih.mp h0
        exact ⟨k, by omega, h1⟩
      · exact ⟨n, by omega, by omega⟩
    · rintro ⟨k, hk, h1⟩
      by_cases e : k = n
      · subst e; omega
      · have := ih.mpr ⟨k, by omega, h1⟩
        omega
theorem m_N_le1 {g : Nat → Nat} (n : Nat) (h : ∀ k, k < n → g k ≤ 1) : m_N g n ≤ n := by
  induction n with
  | zero => exact Nat.le_refl _
  | succ n ih =>
    show m_N g n + g n ≤ n + 1
    have := ih (fun k hk => h k (by omega))
    have := h n (by omega)
    omega
/-- the highest of all cells, the first of several -/
theorem m_top (sig : Nat → Int32) : ∀ n, 0 < n → ∃ b, b < n ∧ ∀ o, o < n → ¬ sig b < sig o ∧ (sig o = sig b → b ≤ o) := by
  intro n
  induction n with
  | zero => exact fun h => absurd h (Nat.lt_irrefl 0)
  | succ n ih =>
    intro _
    rcases Nat.eq_zero_or_pos n with rfl | hp
    · refine ⟨0, by omega, fun o ho => ?_⟩
      have : o = 0 := by omega
      subst this
      exact ⟨Int32.lt_irrefl, fun _ => Nat.le_refl _⟩
    · obtain ⟨b, hb, h⟩ := ih hp
      by_cases hc : sig b < sig n
      · refine ⟨n, by omega, fun o ho => ?_⟩
        by_cases e : o = n
        · subst e
          exact ⟨Int32.lt_irrefl, fun _ => Nat.le_refl _⟩
        · have h1 := (h o (by omega)).1
          have h2 := Int32.not_lt.mp h1
          have h3 := Int32.lt_of_le_of_lt h2 hc
          refine ⟨fun z => ?_, fun z => ?_⟩
          · exact Int32.lt_irrefl (Int32.lt_trans h3 z)
          · rw [z] at h3
            exact absurd h3 Int32.lt_irrefl
      · refine ⟨b, by omega, fun o ho => ?_⟩
        by_cases e : o = n
        · subst e
          exact ⟨hc, fun _ => by omega⟩
        · exact h o (by omega)
theorem m_peak_ex {sig : Nat → Int32} {c : Nat} (hc : c < 48) (h : 20 ≤ sig c) : 0 < (m_pks sig 48).length := by
  obtain ⟨b, hb, hall⟩ := m_top sig 48 (by decide)
  have h20 : 20 ≤ sig b := Int32.le_trans h (Int32.not_lt.mp (hall c hc).1)
  have hm : b ∈ m_pks sig 48 := by
    refine m_pks_mem.mpr ⟨hb, ?_⟩
    unfold m_isPk
    rw [decide_eq_true h20, Bool.true_and]
    unfold m_sum
    rw [List.all_eq_true]
    intro o ho
    obtain ⟨g1, g2⟩ := hall o (List.mem_range.mp ho)
    rw [decide_eq_false g1]
    by_cases e : sig o = sig b
    · have := g2 e
      rw [decide_eq_false (show ¬ o < b by omega)]
      simp
    · rw [decide_eq_false e]
      simp
  exact List.length_pos_of_mem hm
theorem m_peak_th {sig : Nat → Int32} (h : 0 < (m_pks sig 48).length) : ∃ c, c < 48 ∧ 20 ≤ sig c := by
  obtain ⟨h1, h2⟩ := m_pks48 h
  exact ⟨_, h1, h2⟩
theorem m_pks_lt {sig : Nat → Int32} {j k : Nat} (hj : j < k) (hk : k < (m_pks sig 48).length) : (m_pks sig 48).getD j 0 < (m_pks sig 48).getD k 0 := by
  have hp : (m_pks sig 48).Pairwise (· < ·) := List.Pairwise.filter _ List.pairwise_lt_range
  rw [List.getD_eq_getElem?_getD, List.getD_eq_getElem?_getD, List.getElem?_eq_getElem hk, List.getElem?_eq_getElem (show j < (m_pks sig 48).length by omega)]
  exact List.pairwise_iff_getElem.mp hp j k _ hk hj
variable {z : m_Z}
/-- peaks above a row -/
def m_ab (z : m_Z) (y k : Nat) : Nat := if m_pkAt z k / 8 < y then 1 else 0
theorem m_ab_step {y : Nat} : nI (m_N (m_ab z y) (m_P z)) + m_rowA z y 2 = nI (m_N (m_ab z (y + 1)) (m_P z)) := by
  have e : m_rowA z y 2 = nI (m_N (fun k => if m_pkAt z k / 8 = y then 1 else 0) (m_P z)) := m_I_N _ fun k _ => by
    by_cases h : m_pkAt z k / 8 = y
    · rw [if_pos h, if_pos h]; rfl
    · rw [if_neg h, if_neg h]; rfl
  rw [e, nI_add, ← m_N_add]
  refine congrArg nI (m_N_congr _ fun k _ => ?_)
  unfold m_ab
  by_cases h1 : m_pkAt z k / 8 < y
  · rw [if_pos h1, if_neg (by omega), if_pos (by omega)]
  · by_cases h2 : m_pkAt z k / 8 = y
    · rw [if_neg h1, if_pos h2, if_pos (by omega)]
    · rw [if_neg h1, if_neg h2, if_neg (by omega)]
theorem m_ab_0 : m_N (m_ab z 0) (m_P z) = 0 := by
  refine Nat.le_zero.mp (Nat.le_trans (Nat.le_of_eq (m_N_congr (h := fun _ => 0) _ fun k _ => ?_)) ?_)
  · unfold m_ab
    rw [if_neg (by omega)]
  · have : ∀ n, m_N (fun _ => 0) n = 0 := fun n => by
      induction n with
      | zero => rfl
      | succ n ih => exact ih
    rw [this]
    exact Nat.le_refl _
theorem m_ab_6 : m_N (m_ab z 6) (m_P z) = m_P z := by
  refine (m_N_congr (h := fun _ => 1) _ fun k hk => ?_).trans (m_N_one _)
  unfold m_ab
  have := (m_pks48 hk).1
  rw [if_pos (by show (m_pks (m_sg z) 48).getD k 0 / 8 < 6; omega)]
/-- touched cells ahead of a cell -/
def m_tu (z : m_Z) (c : Nat) : Nat := if 20 ≤ m_sg z c then 1 else 0
theorem m_tu_tc {c : Nat} : m_cellA z c 3 = nI (m_tu z c) := by
  show m_tc (m_sg z) c = _
  unfold m_tc m_tu
  by_cases h : m_sg z c < 20
  · rw [if_pos h, if_neg (Int32.not_le.mpr h)]; rfl
  · rw [if_neg h, if_pos (Int32.not_lt.mp h)]; rfl
theorem m_tu_step {c : Nat} : nI (m_N (m_tu z) c) + m_cellA z c 3 = nI (m_N (m_tu z) (c + 1)) := by
  rw [m_tu_tc, nI_add]
  rfl
theorem m_tu_le {c : Nat} : m_N (m_tu z) c ≤ c := m_N_le1 _ fun k _ => by
  unfold m_tu
  split <;> omega
theorem m_tu_iff : 0 < m_P z ↔ 0 < m_N (m_tu z) 48 := by
  rw [m_N_pos]
  constructor
  · intro h
    obtain ⟨c, h1, h2⟩ := m_peak_th h
    refine ⟨c, h1, ?_⟩
    unfold m_tu
    rw [if_pos h2]
    exact Nat.one_pos
  · rintro ⟨c, h1, h2⟩
    refine m_peak_ex h1 ?_
    unfold m_tu at h2
    by_cases h : 20 ≤ m_sg z c
    · exact h
    · rw [if_neg h] at h2
      exact absurd h2 (Nat.lt_irrefl 0)
/-- contacts in the areas ahead of one -/
def m_upto (K : Nat → m_K) (a k : Nat) : Nat := if (K k).1 0 ≠ 0 ∧ 0 ≤ (K k).1 7 ∧ (K k).1 7 < nI a then 1 else 0
theorem m_upto_1 {K : Nat → m_K} {a k : Nat} (ha : a < 4) : m_upto K (a + 1) k = m_upto K a k + m_in K (nI a) k := by
  have key : ∀ v : Int32, ((0 ≤ v ∧ v < nI (a + 1)) ↔ ((0 ≤ v ∧ v < nI a) ∨ v = nI a)) ∧ ¬ ((0 ≤ v ∧ v < nI a) ∧ v = nI a) := by
    intro v
    have h1 : (nI a).toInt = a := nI_toInt (by omega)
    have h2 : (nI (a + 1)).toInt = ((a + 1 : Nat) : Int) := nI_toInt (by omega)
    have h0 : (0 : Int32).toInt = 0 := rfl
    rw [Int32.le_iff_toInt_le, Int32.lt_iff_toInt_lt, Int32.lt_iff_toInt_lt, ← Int32.toInt_inj, h0, h1, h2]
    omega
  obtain ⟨k1, k2⟩ := key ((K k).1 7)
  unfold m_upto m_in
  by_cases hth : (K k).1 0 ≠ 0
  · by_cases c1 : 0 ≤ (K k).1 7 ∧ (K k).1 7 < nI a
    · rw [if_pos ⟨hth, k1.mpr (Or.inl c1)⟩, if_pos ⟨hth, c1⟩, if_neg (fun q => k2 ⟨c1, q.2⟩)]
    · by_cases c2 : (K k).1 7 = nI a
      · rw [if_pos ⟨hth, k1.mpr (Or.inr c2)⟩, if_neg (fun q => c1 q.2), if_pos ⟨hth, c2⟩]
      · rw [if_neg (fun q => (k1.mp q.2).elim c1 c2), if_neg (fun q => c1 q.2), if_neg (fun q => c2 q.2)]
  · rw [if_neg (fun q => hth q.1), if_neg (fun q => hth q.1), if_neg (fun q => hth q.1)]
theorem m_upto_step {K : Nat → m_K} {a : Nat} (ha : a < 4) : nI (m_N (m_upto K a) 5) + nI (m_N (m_in K (nI a)) 5) = nI (m_N (m_upto K (a + 1)) 5) := by
  rw [nI_add, ← m_N_add]
  exact congrArg nI (m_N_congr _ fun k _ => (m_upto_1 ha).symm)
theorem m_upto_le {K : Nat → m_K} {a : Nat} : m_N (m_upto K a) 5 ≤ m_N (m_th K) 5 := m_N_le fun k _ => by
  unfold m_upto m_th
  by_cases h : (K k).1 0 ≠ 0
  · rw [if_pos h]
    split <;> omega
  · rw [if_neg h, if_neg (fun q => h q.1)]
    exact Nat.le_refl _
theorem m_upto_0 {K : Nat → m_K} : m_N (m_upto K 0) 5 = 0 := by
  have : ∀ k, m_upto K 0 k = 0 := fun k => by
    unfold m_upto
    rw [if_neg]
    rintro ⟨-, h1, h2⟩
    exact absurd h2 (Int32.not_lt.mpr h1)
  show 0 + m_upto K 0 0 + m_upto K 0 1 + m_upto K 0 2 + m_upto K 0 3 + m_upto K 0 4 = 0
  rw [this, this, this, this, this]
theorem m_th_5 {K : Nat → m_K} : m_N (m_th K) 5 ≤ 5 := m_N_le1 _ fun k _ => by
  unfold m_th
  split <;> omega
theorem m_th_yes {K : Nat → m_K} {k : Nat} (h : (K k).1 0 ≠ 0) : nI (m_N (m_th K) k) + 1 = nI (m_N (m_th K) (k + 1)) := by
  rw [nI_1]
  show nI (m_N (m_th K) k + 1) = nI (m_N (m_th K) k + m_th K k)
  unfold m_th
  rw [if_pos h]
theorem m_th_no {K : Nat → m_K} {k : Nat} (h : (K k).1 0 = 0) : m_N (m_th K) (k + 1) = m_N (m_th K) k := by
  show m_N (m_th K) k + m_th K k = _
  unfold m_th
  rw [if_neg (fun q => q h)]
  rfl
/-- places near their cells -/
theorem m_near : ∀ a, a < 65 → ∀ b, b < 65 → a ≤ b + 8 → b ≤ a + 8 → (if 0 ≤ nI a - nI b then nI a - nI b else 0 - (nI a - nI b)) ≤ 8 := by decide +kernel
theorem m_8x : ∀ x, x < 9 → 8 * nI x = nI (8 * x) := by decide
/-- counts are bounded by what began -/
theorem m_cnt_le {told T be li ca a kd : Nat} {K : Nat → m_K} {C : Nat → Nat → Nat} (h : m_Inv told T K be li ca C) (ha : a < told) (hk : kd < 4) : C a kd ≤ be := by
  obtain ⟨-, h2, h3, -⟩ := h
  obtain ⟨c0, c1⟩ := h3 a ha
  rcases Nat.eq_zero_or_pos kd with rfl | hp
  · omega
  · have g1 := (c1 kd hp hk).2
    have g2 : m_N (m_cl K a kd) 5 ≤ m_N (m_th K) 5 := m_N_le fun j _ => m_cl_th
    omega
end Pur
