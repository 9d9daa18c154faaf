/-! ===== the class's calls as the law needs them: any argument, any end ===== -/
section CAny
variable {p T n : Nat} {f : Nat → am_C} {z : m_Z}
def c_v20 : Option Value ⊕ Nat → Prop := fun o => (∃ v, o = .inl (some (.int v))) ∨ o = .inr 2 ∨ o = .inr 0
def c_v0 : Option Value ⊕ Nat → Prop := fun o => (∃ v, o = .inl (some (.int v))) ∨ o = .inr 0
def c_v01 : Option Value ⊕ Nat → Prop := fun o => (∃ v, o = .inl (some (.int v))) ∨ o = .inr 0 ∨ o = .inr 1
def c_v2 : Option Value ⊕ Nat → Prop := fun o => (∃ v, o = .inl (some (.int v))) ∨ o = .inr 2
def c_d20 : Option Value ⊕ Nat → Prop := fun o => (∃ v, o = .inl (some (.double v))) ∨ o = .inr 2 ∨ o = .inr 0
def c_d2 : Option Value ⊕ Nat → Prop := fun o => (∃ v, o = .inl (some (.double v))) ∨ o = .inr 2
/-- a call that leaves the sheet and the dial as they are -/
def c_as (p T : Nat) (z : m_Z) (n : Nat) (f : Nat → am_C) (V : Option Value ⊕ Nat → Prop) : am_P := fun o n' f' => n' = n ∧ V o ∧ (∃ z', m_G f' p T z' ∧ z' = z) ∧ ∀ y, (y < p ∨ p + 45 < y) → f' y = f y
variable {V : Option Value ⊕ Nat → Prop} {N : am_M} {as : List Value} {mc ms : Nat}
theorem c_is {v : Option Value} (hG : m_G f p T z) (hV : V (.inl v)) (h : AM N 0 0 as n f (am_is v n f)) : AM N mc ms as n f (c_as p T z n f V) := by
  refine AW.more (rc := 0) (rs := 0) (Nat.zero_le _) (Nat.zero_le _) (AW.mono ?_ h)
  rintro o n' f' ⟨rfl, rfl, rfl⟩
  exact ⟨rfl, hV, ⟨z, hG, rfl⟩, fun _ _ => rfl⟩
theorem c_th {E : Nat} (hG : m_G f p T z) (hV : V (.inr E)) (h : AM N mc ms as n f (am_th E n f)) : AM N mc ms as n f (c_as p T z n f V) := by
  refine AW.mono ?_ h
  rintro o n' f' ⟨rfl, rfl, rfl⟩
  exact ⟨rfl, hV, ⟨z, hG, rfl⟩, fun _ _ => rfl⟩
theorem c_ask {v : Value} {z' : m_Z} (hz : z' = z) (hV : V (.inl (some v))) (h : AM N 0 0 as n f (m_ask p T z' n f v)) : AM N mc ms as n f (c_as p T z n f V) := by
  refine AW.more (rc := 0) (rs := 0) (Nat.zero_le _) (Nat.zero_le _) (AW.mono ?_ h)
  rintro o n' f' ⟨rfl, rfl, hG, e⟩
  exact ⟨rfl, hV, ⟨z', hG, hz⟩, e⟩
theorem c_ok1 {v : Value} (hG : m_G f p T z) (h : AM N 0 0 as n f (am_is (some v) n f)) : AM N mc ms as n f (m_ask p T z n f v) := by
  refine AW.more (rc := 0) (rs := 0) (Nat.zero_le _) (Nat.zero_le _) (AW.mono ?_ h)
  rintro o n' f' ⟨rfl, rfl, rfl⟩
  exact ⟨rfl, rfl, hG, fun _ _ => rfl⟩
theorem s_aOfCell {x y d : Int32} (hG : m_G f p T z) : AM mX7_ofCell 1 6 [.ref p, .int x, .int y, .int d] n f (c_as p T z n f c_v20) := by
  rcases r_glass x y with ⟨j, k, hj, hk, rfl, rfl⟩ | h
  · by_cases hd : 0 ≤ d ∧ d ≤ 4
    · obtain ⟨i, hi, rfl⟩ := m_small_le 4 rfl (by decide) hd.1 hd.2
      exact c_is hG (Or.inl ⟨_, rfl⟩) (s_ofCell hG hj hk hi)
    · exact c_th hG (Or.inr (Or.inr rfl)) (s_tCellW hG hj hk hd)
  · exact c_th hG (Or.inr (Or.inl rfl)) (s_tCellC hG h)
theorem s_aOfPeak {x d : Int32} (hG : m_G f p T z) : AM mX7_ofPeak 1 6 [.ref p, .int x, .int d] n f (c_as p T z n f c_v20) := by
  have hP : m_P z ≤ 48 := m_pks_len (sig := m_sg z) (k := 48)
  rcases r_below (m_P z) x (by omega) with ⟨k, hk, rfl, -⟩ | h
  · by_cases hd : 0 ≤ d ∧ d ≤ 4
    · obtain ⟨i, hi, rfl⟩ := m_small_le 4 rfl (by decide) hd.1 hd.2
      exact c_is hG (Or.inl ⟨_, rfl⟩) (s_ofPeak hG hk hi)
    · exact c_th hG (Or.inr (Or.inr rfl)) (s_tPeakW hG hk hd)
  · exact c_th hG (Or.inr (Or.inl rfl)) (s_tPeak hG h)
theorem s_aOfContact {x d : Int32} (hG : m_G f p T z) : AM mX7_ofContact 1 6 [.ref p, .int x, .int d] n f (c_as p T z n f c_v20) := by
  rcases c_name z x with ⟨k, hk, rfl, ht⟩ | h
  · by_cases hd : 0 ≤ d ∧ d ≤ 5
    · obtain ⟨i, hi, rfl⟩ := m_small_le 5 rfl (by decide) hd.1 hd.2
      exact c_is hG (Or.inl ⟨_, rfl⟩) (s_ofContact hG hk hi ht)
    · exact c_th hG (Or.inr (Or.inr rfl)) (s_tContactW hG hk ht hd)
  · exact c_th hG (Or.inr (Or.inl rfl)) (s_tContact hG h)
theorem s_aWhere {x d : Int32} (hG : m_G f p T z) : AM mX7_where 1 6 [.ref p, .int x, .int d] n f (c_as p T z n f c_d20) := by
  rcases c_name z x with ⟨k, hk, rfl, ht⟩ | h
  · by_cases hd : 0 ≤ d ∧ d ≤ 4
    · obtain ⟨i, hi, rfl⟩ := m_small_le 4 rfl (by decide) hd.1 hd.2
      exact c_is hG (Or.inl ⟨_, rfl⟩) (s_where hG hk hi ht)
    · exact c_th hG (Or.inr (Or.inr rfl)) (s_tWhereW hG hk ht hd)
  · exact c_th hG (Or.inr (Or.inl rfl)) (s_tWhere hG h)
theorem s_aApart {x y : Int32} (hG : m_G f p T z) : AM mX7_apart 1 6 [.ref p, .int x, .int y] n f (c_as p T z n f c_d2) := by
  rcases c_name z x with ⟨k, hk, rfl, ht⟩ | h
  · rcases c_name z y with ⟨j, hj, rfl, ht2⟩ | h2
    · exact c_is hG (Or.inl ⟨_, rfl⟩) (s_apart hG hk hj ht ht2)
    · exact c_th hG (Or.inr rfl) (s_tApart2 hG hk ht h2)
  · exact c_th hG (Or.inr rfl) (s_tApart hG h)
theorem c_row (y : Int32) : (∃ k, k < 6 ∧ y = nI k) ∨ (y < 0 ∨ 6 ≤ y) := by
  by_cases h1 : y < 0
  · exact Or.inr (Or.inl h1)
  by_cases h2 : 6 ≤ y
  · exact Or.inr (Or.inr h2)
  exact Or.inl (m_small 6 rfl (by decide) h1 h2)
theorem s_aOfRow {y d : Int32} (hG : m_G f p T z) : AM mX7_ofRow 1 6 [.ref p, .int y, .int d] n f (c_as p T z n f c_v20) := by
  rcases c_row y with ⟨k, hk, rfl⟩ | h
  · by_cases hd : 0 ≤ d ∧ d ≤ 2
    · obtain ⟨i, hi, rfl⟩ := m_small_le 2 rfl (by decide) hd.1 hd.2
      exact c_is hG (Or.inl ⟨_, rfl⟩) (s_ofRow hG hk hi)
    · exact c_th hG (Or.inr (Or.inr rfl)) (s_tOfRowW hG hk hd)
  · exact c_th hG (Or.inr (Or.inl rfl)) (s_tOfRow hG h)
theorem s_aOfArea {x d : Int32} (hG : m_G f p T z) : AM mX7_ofArea 1 6 [.ref p, .int x, .int d] n f (c_as p T z n f c_v20) := by
  have ht : z_to z ≤ 4 := hG.2.2.2.2.1.2.2.1
  rcases r_below (z_to z) x (by omega) with ⟨k, hk, rfl, -⟩ | h
  · by_cases hd : 0 ≤ d ∧ d ≤ 4
    · obtain ⟨i, hi, rfl⟩ := m_small_le 4 rfl (by decide) hd.1 hd.2
      exact c_is hG (Or.inl ⟨_, rfl⟩) (s_ofArea hG hk hi)
    · exact c_th hG (Or.inr (Or.inr rfl)) (s_tOfAreaW hG hk hd)
  · exact c_th hG (Or.inr (Or.inl rfl)) (s_tOfArea hG h)
theorem s_aMany {d : Int32} (hG : m_G f p T z) : AM mX7_many 1 6 [.ref p, .int d] n f (c_as p T z n f c_v0) := by
  by_cases hd : 0 ≤ d ∧ d ≤ 9
  · obtain ⟨i, hi, rfl⟩ := m_small_le 9 rfl (by decide) hd.1 hd.2
    exact c_is hG (Or.inl ⟨_, rfl⟩) (s_many hG hi)
  · exact c_th hG (Or.inr rfl) (s_tMany hG hd)
theorem s_aGuess {x d : Int32} {isY : Bool} (hG : m_G f p T z) : AM mX7_guess 1 6 [.ref p, .int x, .int d, .int (m_bi isY)] n f (c_as p T z n f c_d20) := by
  rcases c_name z x with ⟨k, hk, rfl, ht⟩ | h
  · by_cases hd : 0 ≤ d ∧ d ≤ 9
    · obtain ⟨i, hi, rfl⟩ := m_small_le 9 rfl (by decide) hd.1 hd.2
      exact c_is hG (Or.inl ⟨_, rfl⟩) (s_guess hG hk hi ht)
    · exact c_th hG (Or.inr (Or.inr rfl)) (s_tGuessA hG hk ht hd)
  · exact c_th hG (Or.inr (Or.inl rfl)) (s_tGuess hG h)
theorem s_aWould {x : Int32} (hG : m_G f p T z) : AM mX7_wouldMatch 1 6 [.ref p, .int x] n f (c_as p T z n f c_v2) := by
  rcases c_name z x with ⟨k, hk, rfl, ht⟩ | h
  · exact c_ask rfl (Or.inl ⟨_, rfl⟩) (s_wouldMatch hG hk ht)
  · exact c_th hG (Or.inr rfl) (s_tWould hG h)
theorem s_aKeep {x d : Int32} (hG : m_G f p T z) : AM mX7_keepBy 1 6 [.ref p, .int x, .int d] n f (c_as p T z n f c_v20) := by
  rcases c_name z x with ⟨k, hk, rfl, ht⟩ | h
  · by_cases hd : 1 ≤ d ∧ d ≤ 200
    · obtain ⟨i, hi, rfl⟩ := m_small_le 200 rfl (by decide) (Int32.le_trans (by decide) hd.1) hd.2
      have h1 : 1 ≤ i := by
        have := hd.1
        rw [Int32.le_iff_toInt_le, nI_toInt (by omega), show (1 : Int32).toInt = 1 from rfl] at this
        omega
      refine AW.more (rc := 0) (rs := 0) (Nat.zero_le _) (Nat.zero_le _) (AW.mono ?_ (s_keepBy hG hk ht h1 hi))
      rintro o n' f' ⟨rfl, hv, hG', e⟩
      exact ⟨rfl, Or.inl hv, ⟨z, hG', rfl⟩, e⟩
    · exact c_th hG (Or.inr (Or.inr rfl)) (s_tKeepS hG hk ht hd)
  · exact c_th hG (Or.inr (Or.inl rfl)) (s_tKeep hG h)
end CAny
