/-! ===== what the class reckons, as plain functions ===== -/
def m_cmp (x y : Int32) : Int32 := if y ≤ x then (if x = y then 0 else 1) else -1
def m_step (s : Int32) : Int32 := if -10 < s then (if s < 10 then m_cmp s 0 else 4) else -4
def m_settle (sig reg bs : Nat → Int32) : Nat → Int32 := fun k => if 20 ≤ sig k ∧ reg k ≤ 14 then bs k else bs k + m_step (sig k)
/-- what a press of s at (x, y) brings to the cell j -/
def m_pr (s : Int32) (x y j : Nat) : Int32 := s >>> (((if j / 8 = y then 0 else 1) + (if j % 8 = x then 0 else 1)) &&& 31)
def m_pressTo (w : Nat → Int32) (s : Int32) (x y r c : Nat) : Nat → Int32 := fun j => if (j / 8 < r ∨ (j / 8 = r ∧ j % 8 < c)) ∧ y ≤ j / 8 + 1 ∧ j / 8 ≤ y + 1 ∧ x ≤ j % 8 + 1 ∧ j % 8 ≤ x + 1 then w j + m_pr s x y j else w j
def m_press (w : Nat → Int32) (s : Int32) (x y : Nat) : Nat → Int32 := m_pressTo w s x y 6 0
theorem m_pressTo_row {w : Nat → Int32} {s : Int32} {x y r : Nat} : m_pressTo w s x y r (min (x + 1) 7 + 1) = m_pressTo w s x y (r + 1) 0 := by
  funext j
  unfold m_pressTo
  exact am_cond (by have : j % 8 < 8 := Nat.mod_lt _ (by decide); omega)
theorem m_pressTo_col {w : Nat → Int32} {s : Int32} {x y r : Nat} : m_pressTo w s x y r (x - 1) = m_pressTo w s x y r 0 := by
  funext j
  unfold m_pressTo
  exact am_cond (by omega)
theorem m_pressTo_start {w : Nat → Int32} {s : Int32} {x y : Nat} : m_pressTo w s x y (y - 1) 0 = w := by
  funext j
  unfold m_pressTo
  rw [if_neg (by omega)]
theorem m_pressTo_end {w : Nat → Int32} {s : Int32} {x y : Nat} {j : Nat} (hj : j < 48) : m_pressTo w s x y (min (y + 1) 5 + 1) 0 j = m_press w s x y j := by
  unfold m_press m_pressTo
  exact am_cond (by omega)
theorem m_pressTo_step {w : Nat → Int32} {s : Int32} {x y r c : Nat} (hr : y ≤ r + 1) (hr2 : r ≤ y + 1) (hc : x ≤ c + 1) (hc2 : c ≤ x + 1) (hc8 : c < 8) : va_up (m_pressTo w s x y r c) (8 * r + c) (m_pressTo w s x y r c (8 * r + c) + s >>> (((if r = y then 0 else 1) + (if c = x then 0 else 1)) &&& 31)) = m_pressTo w s x y r (c + 1) := by
  have e1 : (8 * r + c) / 8 = r := by omega
  have e2 : (8 * r + c) % 8 = c := by omega
  funext j
  by_cases e : j = 8 * r + c
  · subst e
    rw [am_up_eq]
    unfold m_pressTo m_pr
    have hn : ¬ ((r < r ∨ r = r ∧ c < c) ∧ y ≤ r + 1 ∧ r ≤ y + 1 ∧ x ≤ c + 1 ∧ c ≤ x + 1) := by omega
    have hp : (r < r ∨ r = r ∧ c < c + 1) ∧ y ≤ r + 1 ∧ r ≤ y + 1 ∧ x ≤ c + 1 ∧ c ≤ x + 1 := by omega
    rw [e1, e2, if_neg hn, if_pos hp]
  · rw [am_up_ne e]
    unfold m_pressTo
    exact am_cond (by omega)
