/-! ===== the reference: what is pressed and noised, in any state ===== -/
section RPress
variable {m n : Nat} {f : Nat → am_C} {w : Nat → Int32} {s σ : Int32} {r : List Value} {a0 : Value}
theorem r_om {i : Nat} (hi : i < 50) : (-1 + nI i).toInt = -1 + (i : Int) := by
  rw [Int32.toInt_add, nI_toInt (by omega), show (-1 : Int32).toInt = -1 from rfl, Int.bmod_eq_of_le (by omega) (by omega)]
theorem r_om3 {i : Nat} (hi : i < 50) : (1 : Int32) < -1 + nI i ↔ 3 ≤ i := by
  rw [Int32.lt_iff_toInt_lt, r_om hi, show (1 : Int32).toInt = 1 from rfl]
  omega
theorem r_om1 {i : Nat} : -1 + nI i + 1 = -1 + nI (i + 1) := by rw [← nI_1, Int32.add_assoc]
theorem r_xo {x i a : Nat} (hx : x < 50) (hi : i < 50) (ha : a < 50) : nI x + (-1 + nI i) = nI a ↔ a + 1 = x + i := by
  rw [← Int32.toInt_inj, Int32.toInt_add, nI_toInt (by omega), r_om hi, nI_toInt (by omega), Int.bmod_eq_of_le (by omega) (by omega)]
  omega
theorem r_am : ∀ i : Nat, i < 3 → (if (0 : Int32) ≤ -1 + nI i then -1 + nI i else 0 - (-1 + nI i)) = if i = 1 then 0 else 1 := by decide
def r_prT (w : Nat → Int32) (s σ : Int32) (x y i j : Nat) : Nat → Int32 := fun o => if (o < 48 ∧ y ≤ o / 8 + 1 ∧ o / 8 ≤ y + 1 ∧ x ≤ o % 8 + 1 ∧ o % 8 ≤ x + 1) ∧ (o % 8 + 1 < x + i ∨ (o % 8 + 1 = x + i ∧ o / 8 + 1 < y + j)) then w o + σ * m_pr s x y o else w o
theorem r_prT_0 {x y : Nat} : r_prT w s σ x y 0 0 = w := by
  funext o
  unfold r_prT
  rw [if_neg (by omega)]
theorem r_prT_col {x y i : Nat} : r_prT w s σ x y i 3 = r_prT w s σ x y (i + 1) 0 := by
  funext o
  unfold r_prT
  exact am_cond (by omega)
theorem r_prT_off {x y i j : Nat} (h : ∀ o, o < 48 → ¬ (o % 8 + 1 = x + i ∧ o / 8 + 1 = y + j)) : r_prT w s σ x y i (j + 1) = r_prT w s σ x y i j := by
  funext o
  unfold r_prT
  have := h o
  exact am_cond (by omega)
theorem r_prT_step {x y i j a b : Nat} (xa : a + 1 = x + i) (xb : b + 1 = y + j) (ha : a < 8) (hb : b < 6) (hi : i < 3) (hj : j < 3) : va_up (r_prT w s σ x y i j) (8 * b + a) (r_prT w s σ x y i j (8 * b + a) + σ * (s >>> (((if (0 : Int32) ≤ -1 + nI i then -1 + nI i else 0 - (-1 + nI i)) + (if (0 : Int32) ≤ -1 + nI j then -1 + nI j else 0 - (-1 + nI j))) &&& 31))) = r_prT w s σ x y i (j + 1) := by
  have e1 : (8 * b + a) / 8 = b := by omega
  have e2 : (8 * b + a) % 8 = a := by omega
  have e3 : s >>> (((if (0 : Int32) ≤ -1 + nI i then -1 + nI i else 0 - (-1 + nI i)) + (if (0 : Int32) ≤ -1 + nI j then -1 + nI j else 0 - (-1 + nI j))) &&& 31) = m_pr s x y (8 * b + a) := by
    rw [r_am i hi, r_am j hj]
    unfold m_pr
    rw [e1, e2, Int32.add_comm (if b = y then 0 else 1)]
    have p1 : (if i = 1 then (0 : Int32) else 1) = if a = x then 0 else 1 := am_cond (by omega)
    have p2 : (if j = 1 then (0 : Int32) else 1) = if b = y then 0 else 1 := am_cond (by omega)
    rw [p1, p2]
  rw [e3]
  funext o
  by_cases e : o = 8 * b + a
  · subst e
    rw [am_up_eq]
    unfold r_prT
    rw [e1, e2, if_neg (by omega), if_pos (by omega)]
  · rw [am_up_ne e]
    unfold r_prT
    exact am_cond (by omega)
theorem r_prT_end {x y : Nat} : r_prT w s 1 x y 3 0 = m_press w s x y := by
  funext o
  unfold r_prT m_press m_pressTo
  rw [Int32.one_mul]
  exact am_cond (by omega)
theorem r_prT_back {x y : Nat} : r_prT (m_press w s x y) s (-1) x y 3 0 = w := by
  funext o
  unfold r_prT
  split
  · rename_i h
    unfold m_press m_pressTo
    rw [if_pos (by omega), Int32.add_assoc, show (-1 : Int32) * m_pr s x y o = -(m_pr s x y o) from by rw [Int32.neg_mul, Int32.one_mul], Int32.add_right_neg, Int32.add_zero]
  · rename_i h
    unfold m_press m_pressTo
    rw [if_neg (by omega)]
theorem s_pressed {x y : Nat} (h0 : f m = .inr (12, a0 :: .ref (m + 1) :: .ref (m + 2) :: r)) (h2 : f (m + 2) = .inl (0, 48, .inl w)) (hx : x < 8) (hy : y < 6) : AM mX12_pressed 0 0 [.ref m, .int (nI x), .int (nI y), .int s, .int σ] n f (am_is none n (va_up f (m + 2) (.inl (0, 48, .inl (r_prT w s σ x y 3 0))))) := by
  show AW mX12_pressed 0 0 0 [some (.ref m), some (.int (nI x)), some (.int (nI y)), some (.int s), some (.int σ), none, none] [] n f _
  refine am_iconst 0 (v := (-1)) dX12_pressed_0 (by decide) ?_
  rw [show (-1 : Int32) = -1 + nI 0 from (Int32.add_zero _).symm]
  refine am_istore 1 dX12_pressed_1 (by decide) ?_
  have hh := am_for 3 (fun _ (_ : Option Value) => True) (fun i z => AW mX12_pressed 0 0 3 [some (.ref m), some (.int (nI x)), some (.int (nI y)), some (.int s), some (.int σ), some (.int (-1 + nI i)), z] [] n (va_up f (m + 2) (.inl (0, 48, .inl (r_prT w s σ x y i 0)))) (am_is none n (va_up f (m + 2) (.inl (0, 48, .inl (r_prT w s σ x y 3 0)))))) ?_ ?_ 0 none (by omega) trivial
  · rw [r_prT_0, am_self h2] at hh
    exact hh
  · rintro z -
    refine am_iload 3 dX12_pressed_3 rfl ?_
    refine am_iconst 5 (v := 1) dX12_pressed_5 (by decide) ?_
    refine am_icmp_gt 6 79 dX12_pressed_6 rfl (fun c6 => ?_) (fun c6 => absurd ((r_om3 (by decide)).mpr (by decide)) c6)
    exact am_return 79 dX12_pressed_79 rfl ⟨rfl, rfl, rfl⟩
  · rintro i z hi - ih
    refine am_iload 3 dX12_pressed_3 rfl ?_
    refine am_iconst 5 (v := 1) dX12_pressed_5 (by decide) ?_
    refine am_icmp_gt 6 79 dX12_pressed_6 rfl (fun c6 => absurd c6 (fun z => by have := (r_om3 (by omega)).mp z; omega)) (fun c6 => ?_)
    refine am_iconst 9 (v := (-1)) dX12_pressed_9 (by decide) ?_
    rw [show (-1 : Int32) = -1 + nI 0 from (Int32.add_zero _).symm]
    refine am_istore 10 dX12_pressed_10 (by decide) ?_
    refine am_for 3 (fun _ (_ : Unit) => True) (fun j _ => AW mX12_pressed 0 0 12 [some (.ref m), some (.int (nI x)), some (.int (nI y)), some (.int s), some (.int σ), some (.int (-1 + nI i)), some (.int (-1 + nI j))] [] n (va_up f (m + 2) (.inl (0, 48, .inl (r_prT w s σ x y i j)))) _) ?_ ?_ 0 () (by omega) trivial
    · rintro ⟨⟩ -
      rw [r_prT_col]
      refine am_iload 12 dX12_pressed_12 rfl ?_
      refine am_iconst 14 (v := 1) dX12_pressed_14 (by decide) ?_
      refine am_icmp_gt 15 73 dX12_pressed_15 rfl (fun c15 => ?_) (fun c15 => absurd ((r_om3 (by decide)).mpr (by decide)) c15)
      refine am_iinc 73 (v := -1 + nI (i + 1)) dX12_pressed_73 rfl r_om1 (by decide) ?_
      refine am_goto 76 (tgt := 3) dX12_pressed_76 rfl ?_
      exact ih _ trivial
    · rintro j ⟨⟩ hj - ih2
      have ih2 := ih2 () trivial
      by_cases hb : (nI x + (-1 + nI i)) < 0 ∨ 8 ≤ (nI x + (-1 + nI i)) ∨ (nI y + (-1 + nI j)) < 0 ∨ 6 ≤ (nI y + (-1 + nI j))
      · have hno : ∀ o, o < 48 → ¬ (o % 8 + 1 = x + i ∧ o / 8 + 1 = y + j) := by
          rintro o ho ⟨e1, e2⟩
          rw [(r_xo (by omega) (by omega) (by omega)).mpr e1, (r_xo (by omega) (by omega) (by omega)).mpr e2] at hb
          rcases hb with g | g | g | g
          · exact nI_pos (by omega) g
          · exact nI_ge (a := o % 8) (b := 8) (by omega) (by decide) g
          · exact nI_pos (by omega) g
          · exact nI_ge (a := o / 8) (b := 6) (by omega) (by decide) g
        rw [r_prT_off hno] at ih2
        refine am_iload 12 dX12_pressed_12 rfl ?_
        refine am_iconst 14 (v := 1) dX12_pressed_14 (by decide) ?_
        refine am_icmp_gt 15 73 dX12_pressed_15 rfl (fun c15 => absurd c15 (fun z => by have := (r_om3 (by omega)).mp z; omega)) (fun c15 => ?_)
        refine am_iload_n 18 dX12_pressed_18 rfl ?_
        refine am_iload 19 dX12_pressed_19 rfl ?_
        refine am_iadd 21 dX12_pressed_21 ?_
        refine am_iload_n 22 dX12_pressed_22 rfl ?_
        refine am_iload 23 dX12_pressed_23 rfl ?_
        refine am_iadd 25 dX12_pressed_25 ?_
        refine am_S2 26 (mc' := 0) (ms' := 0) (rc := 0) (rs := 0) dX12_pressed_26 lX12_75 ⟨by decide, by decide⟩ (Nat.le_of_ble_eq_true rfl) (Nat.le_of_ble_eq_true rfl) (s_isGlass_f hb) ?_
        refine am_is_ct ?_
        refine am_if_eq 29 67 dX12_pressed_29 rfl (fun c29 => ?_) (fun c29 => absurd (by decide) c29)
        refine am_iinc 67 (v := -1 + nI (j + 1)) dX12_pressed_67 rfl r_om1 (by decide) ?_
        refine am_goto 70 (tgt := 12) dX12_pressed_70 rfl ?_
        exact ih2
      · obtain ⟨a, ha, ea⟩ := m_small 8 rfl (by decide) (fun z => hb (Or.inl z)) (fun z => hb (Or.inr (Or.inl z)))
        obtain ⟨b, hb2, eb⟩ := m_small 6 rfl (by decide) (fun z => hb (Or.inr (Or.inr (Or.inl z)))) (fun z => hb (Or.inr (Or.inr (Or.inr z))))
        have xa := (r_xo (by omega) (by omega) (by omega)).mp ea
        have xb := (r_xo (by omega) (by omega) (by omega)).mp eb
        refine am_iload 12 dX12_pressed_12 rfl ?_
        refine am_iconst 14 (v := 1) dX12_pressed_14 (by decide) ?_
        refine am_icmp_gt 15 73 dX12_pressed_15 rfl (fun c15 => absurd c15 (fun z => by have := (r_om3 (by omega)).mp z; omega)) (fun c15 => ?_)
        refine am_iload_n 18 dX12_pressed_18 rfl ?_
        refine am_iload 19 dX12_pressed_19 rfl ?_
        refine am_iadd 21 dX12_pressed_21 ?_
        refine am_iload_n 22 dX12_pressed_22 rfl ?_
        refine am_iload 23 dX12_pressed_23 rfl ?_
        refine am_iadd 25 dX12_pressed_25 ?_
        rw [ea, eb]
        refine am_S2 26 (mc' := 0) (ms' := 0) (rc := 0) (rs := 0) dX12_pressed_26 lX12_75 ⟨by decide, by decide⟩ (Nat.le_of_ble_eq_true rfl) (Nat.le_of_ble_eq_true rfl) (s_isGlass_t ha hb2) ?_
        refine am_is_ct ?_
        refine am_if_eq 29 67 dX12_pressed_29 rfl (fun c29 => absurd c29 (by decide)) (fun c29 => ?_)
        refine am_aload_n 32 dX12_pressed_32 rfl ?_
        refine am_getfield 33 dX12_pressed_33 fX12_17 (by first | exact am_ue | exact am_un (by omega) h0) rfl ?_
        refine am_iload_n 36 dX12_pressed_36 rfl ?_
        refine am_iload 37 dX12_pressed_37 rfl ?_
        refine am_iadd 39 dX12_pressed_39 ?_
        refine am_iload_n 40 dX12_pressed_40 rfl ?_
        refine am_iload 41 dX12_pressed_41 rfl ?_
        refine am_iadd 43 dX12_pressed_43 ?_
        rw [ea, eb]
        refine am_S2 44 (mc' := 0) (ms' := 0) (rc := 0) (rs := 0) dX12_pressed_44 lX12_79 ⟨by decide, by decide⟩ (Nat.le_of_ble_eq_true rfl) (Nat.le_of_ble_eq_true rfl) (s_cell) ?_
        refine am_is_ct ?_
        refine am_dup2 47 dX12_pressed_47 rfl rfl ?_
        refine am_iaload 48 dX12_pressed_48 rfl (by first | exact am_ue | exact am_un (by omega) h0) (am_ix (show 8 * b + a < 48 by omega) (by decide)) ?_
        rw [nI_clamp (n := 8 * b + a) (by omega)]
        refine am_iload 49 dX12_pressed_49 rfl ?_
        refine am_iload_n 51 dX12_pressed_51 rfl ?_
        refine am_iload 52 dX12_pressed_52 rfl ?_
        refine am_abs 54 dX12_pressed_54 jX12_83 (by decide) (Nat.le_of_ble_eq_true rfl) ?_
        refine am_iload 57 dX12_pressed_57 rfl ?_
        refine am_abs 59 dX12_pressed_59 jX12_83 (by decide) (Nat.le_of_ble_eq_true rfl) ?_
        refine am_iadd 62 dX12_pressed_62 ?_
        refine am_ishr 63 dX12_pressed_63 ?_
        refine am_imul 64 dX12_pressed_64 ?_
        refine am_iadd 65 dX12_pressed_65 ?_
        refine am_iastore 66 dX12_pressed_66 rfl (by first | exact am_ue | exact am_un (by omega) h0) (am_ix (show 8 * b + a < 48 by omega) (by decide)) ?_
        rw [am_uu, nI_clamp (n := 8 * b + a) (by omega), r_prT_step xa xb ha hb2 hi hj]
        refine am_iinc 67 (v := -1 + nI (j + 1)) dX12_pressed_67 rfl r_om1 (by decide) ?_
        refine am_goto 70 (tgt := 12) dX12_pressed_70 rfl ?_
        exact ih2
end RPress
