/-! ===== a picture in the world, as one change ===== -/
def m_bi (b : Bool) : Int32 := if b then 1 else 0
def m_put (f : Nat → am_C) (i : Nat) (sig reg pc px py chn : Nat → Int32) (pk hm : Int32) : Nat → am_C := fun x =>
  if x = i then .inr (5, [.ref (i + 1), .ref (i + 2), .ref (i + 3), .ref (i + 4), .ref (i + 5), .ref (i + 6), .int pk, .int hm])
  else if x = i + 1 then .inl (0, 48, .inl sig) else if x = i + 2 then .inl (0, 48, .inl reg) else if x = i + 3 then .inl (0, 48, .inl pc)
  else if x = i + 4 then .inl (0, 48, .inl px) else if x = i + 5 then .inl (0, 48, .inl py) else if x = i + 6 then .inl (0, 48, .inl chn) else f x
section Put
variable {f : Nat → am_C} {i : Nat} {sig reg pc px py chn : Nat → Int32} {pk hm : Int32}
theorem m_put_a0 : m_put f i sig reg pc px py chn pk hm i = .inr (5, [.ref (i + 1), .ref (i + 2), .ref (i + 3), .ref (i + 4), .ref (i + 5), .ref (i + 6), .int pk, .int hm]) := by simp [m_put]
theorem m_put_a1 : m_put f i sig reg pc px py chn pk hm (i + 1) = .inl (0, 48, .inl sig) := by simp [m_put]
theorem m_put_a2 : m_put f i sig reg pc px py chn pk hm (i + 2) = .inl (0, 48, .inl reg) := by simp [m_put]
theorem m_put_a3 : m_put f i sig reg pc px py chn pk hm (i + 3) = .inl (0, 48, .inl pc) := by simp [m_put]
theorem m_put_a4 : m_put f i sig reg pc px py chn pk hm (i + 4) = .inl (0, 48, .inl px) := by simp [m_put]
theorem m_put_a5 : m_put f i sig reg pc px py chn pk hm (i + 5) = .inl (0, 48, .inl py) := by simp [m_put]
theorem m_put_a6 : m_put f i sig reg pc px py chn pk hm (i + 6) = .inl (0, 48, .inl chn) := by simp [m_put]
theorem m_put_out {x : Nat} (h : x < i ∨ i + 6 < x) : m_put f i sig reg pc px py chn pk hm x = f x := by
  unfold m_put
  rw [if_neg (by omega), if_neg (by omega), if_neg (by omega), if_neg (by omega), if_neg (by omega), if_neg (by omega), if_neg (by omega)]
theorem m_put_ext {g : Nat → am_C} (h0 : g i = m_put f i sig reg pc px py chn pk hm i) (h1 : g (i + 1) = .inl (0, 48, .inl sig)) (h2 : g (i + 2) = .inl (0, 48, .inl reg)) (h3 : g (i + 3) = .inl (0, 48, .inl pc)) (h4 : g (i + 4) = .inl (0, 48, .inl px)) (h5 : g (i + 5) = .inl (0, 48, .inl py)) (h6 : g (i + 6) = .inl (0, 48, .inl chn)) (h : ∀ x, x < i ∨ i + 6 < x → g x = f x) : g = m_put f i sig reg pc px py chn pk hm := by
  funext x
  by_cases c : x < i ∨ i + 6 < x
  · rw [h x c, m_put_out c]
  · have c2 : x = i ∨ x = i + 1 ∨ x = i + 2 ∨ x = i + 3 ∨ x = i + 4 ∨ x = i + 5 ∨ x = i + 6 := by omega
    rcases c2 with e | e | e | e | e | e | e <;> subst e
    · exact h0
    · rw [h1, m_put_a1]
    · rw [h2, m_put_a2]
    · rw [h3, m_put_a3]
    · rw [h4, m_put_a4]
    · rw [h5, m_put_a5]
    · rw [h6, m_put_a6]
theorem m_put_pic : m_Pic (m_put f i sig reg pc px py chn pk hm) i sig reg pc px py chn pk hm := ⟨m_put_a0, m_put_a1, m_put_a2, m_put_a3, m_put_a4, m_put_a5, m_put_a6⟩
theorem m_Pic.put (h : m_Pic f i sig reg pc px py chn pk hm) : f = m_put f i sig reg pc px py chn pk hm := by
  obtain ⟨h0, h1, h2, h3, h4, h5, h6⟩ := h
  exact m_put_ext (by rw [h0, m_put_a0]) h1 h2 h3 h4 h5 h6 (fun x _ => rfl)
theorem m_put_0 {v w : Int32} : va_up (m_put f i sig reg pc px py chn pk hm) i (.inr (5, [.ref (i + 1), .ref (i + 2), .ref (i + 3), .ref (i + 4), .ref (i + 5), .ref (i + 6), .int v, .int w])) = m_put f i sig reg pc px py chn v w := by
  funext x; unfold va_up m_put; repeat' split
  all_goals first | rfl | omega
theorem m_put_1 {g : Nat → Int32} : va_up (m_put f i sig reg pc px py chn pk hm) (i + 1) (.inl (0, 48, .inl g)) = m_put f i g reg pc px py chn pk hm := by
  funext x; unfold va_up m_put; repeat' split
  all_goals first | rfl | omega
theorem m_put_2 {g : Nat → Int32} : va_up (m_put f i sig reg pc px py chn pk hm) (i + 2) (.inl (0, 48, .inl g)) = m_put f i sig g pc px py chn pk hm := by
  funext x; unfold va_up m_put; repeat' split
  all_goals first | rfl | omega
theorem m_put_3 {g : Nat → Int32} : va_up (m_put f i sig reg pc px py chn pk hm) (i + 3) (.inl (0, 48, .inl g)) = m_put f i sig reg g px py chn pk hm := by
  funext x; unfold va_up m_put; repeat' split
  all_goals first | rfl | omega
theorem m_put_4 {g : Nat → Int32} : va_up (m_put f i sig reg pc px py chn pk hm) (i + 4) (.inl (0, 48, .inl g)) = m_put f i sig reg pc g py chn pk hm := by
  funext x; unfold va_up m_put; repeat' split
  all_goals first | rfl | omega
theorem m_put_5 {g : Nat → Int32} : va_up (m_put f i sig reg pc px py chn pk hm) (i + 5) (.inl (0, 48, .inl g)) = m_put f i sig reg pc px g chn pk hm := by
  funext x; unfold va_up m_put; repeat' split
  all_goals first | rfl | omega
theorem m_put_6 {g : Nat → Int32} : va_up (m_put f i sig reg pc px py chn pk hm) (i + 6) (.inl (0, 48, .inl g)) = m_put f i sig reg pc px py g pk hm := by
  funext x; unfold va_up m_put; repeat' split
  all_goals first | rfl | omega
end Put
def m_Sh (f : Nat → am_C) (j : Nat) (w bs : Nat → Int32) (ht : Int32) : Prop := f j = .inr (6, [.ref (j + 1), .ref (j + 2), .int ht]) ∧ f (j + 1) = .inl (0, 48, .inl w) ∧ f (j + 2) = .inl (0, 48, .inl bs)
theorem m_Sh.put {f : Nat → am_C} {i j : Nat} {w bs sig reg pc px py chn : Nat → Int32} {ht pk hm : Int32} (h : m_Sh f j w bs ht) (hd : j + 2 < i ∨ i + 6 < j) : m_Sh (m_put f i sig reg pc px py chn pk hm) j w bs ht :=
  ⟨(m_put_out (by omega)).trans h.1, (m_put_out (by omega)).trans h.2.1, (m_put_out (by omega)).trans h.2.2⟩
def m_pkOk (sig : Nat → Int32) (q : List Nat) (pc px py : Nat → Int32) : Prop := ∀ j, j < q.length → pc j = nI (q.getD j 0) ∧ px j = nI (m_placeN sig (q.getD j 0) false) ∧ py j = nI (m_placeN sig (q.getD j 0) true)
theorem m_pkOk_push {sig : Nat → Int32} {q : List Nat} {pc px py : Nat → Int32} {c : Nat} (h : m_pkOk sig q pc px py) : m_pkOk sig (q ++ [c]) (va_up pc q.length (nI c)) (va_up px q.length (nI (m_placeN sig c false))) (va_up py q.length (nI (m_placeN sig c true))) := by
  intro j hj
  simp at hj
  by_cases e : j = q.length
  · subst e
    rw [am_up_eq, am_up_eq, am_up_eq]
    simp
  · rw [am_up_ne e, am_up_ne e, am_up_ne e]
    have := h j (by omega)
    simp only [List.getD_eq_getElem?_getD, List.getElem?_append_left (show j < q.length by omega)] at this ⊢
    exact this
/-- after a look -/
def m_Look (f : Nat → am_C) (i : Nat) (sig : Nat → Int32) : Prop := ∃ pc px py chn, m_Pic f i sig (m_reg sig) pc px py chn (nI (m_pks sig 48).length) (m_hum sig) ∧ m_pkOk sig (m_pks sig 48) pc px py
theorem m_pks48 {sig : Nat → Int32} {j : Nat} (hj : j < (m_pks sig 48).length) : (m_pks sig 48).getD j 0 < 48 ∧ 20 ≤ sig ((m_pks sig 48).getD j 0) := by
  have h : (m_pks sig 48).getD j 0 ∈ m_pks sig 48 := by
    rw [List.getD_eq_getElem?_getD, List.getElem?_eq_getElem hj]
    exact List.getElem_mem hj
  obtain ⟨h1, h2⟩ := m_pks_mem.mp h
  unfold m_isPk at h2
  simp only [Bool.and_eq_true, decide_eq_true_eq] at h2
  exact ⟨h1, h2.1⟩
/-! sums of ints in the order of the code -/
def m_I (g : Nat → Int32) : Nat → Int32
  | 0 => 0
  | k + 1 => m_I g k + g k
theorem m_tc_0 {sig : Nat → Int32} {c : Nat} : m_tc sig c = 0 ↔ ¬ 20 ≤ sig c := by
  unfold m_tc
  rw [Int32.not_le]
  split
  · rename_i h; exact ⟨fun _ => h, fun _ => rfl⟩
  · rename_i h; exact ⟨fun z => absurd z (by decide), fun z => absurd z h⟩
/-! longs -/
theorem m_lN {n : Nat} (h : n < 2 ^ 63) : (lN n).toInt = n := lg_ofNat_toInt h
theorem m_sp_l (s : Int32) : (if s < 0 then (0 : Int32) else s).toInt64 = lN s.toInt.toNat := by
  have hb := s.toInt_lt
  apply Int64.toInt_inj.mp
  rw [Int32.toInt_toInt64, m_lN (by omega)]
  split
  · rename_i h
    have h2 := Int32.lt_iff_toInt_lt.mp h
    have e : (0 : Int32).toInt = 0 := rfl
    rw [e] at h2 ⊢
    omega
  · rename_i h
    have h2 := Int32.le_iff_toInt_le.mp (Int32.not_lt.mp h)
    have e : (0 : Int32).toInt = 0 := rfl
    rw [e] at h2
    omega
theorem m_abs_l (s : Int32) : (if (0 : Int64) < s.toInt64 then s.toInt64 else -s.toInt64) = lN s.toInt.natAbs := by
  have hb := s.toInt_lt
  have hb2 := s.le_toInt
  apply Int64.toInt_inj.mp
  rw [m_lN (by omega)]
  split
  · rename_i h
    have h2 := Int64.lt_iff_toInt_lt.mp h
    rw [Int32.toInt_toInt64] at h2 ⊢
    have e : (0 : Int64).toInt = 0 := rfl
    rw [e] at h2
    omega
  · rename_i h
    have h2 := Int64.le_iff_toInt_le.mp (Int64.not_lt.mp h)
    rw [Int32.toInt_toInt64] at h2
    have e : (0 : Int64).toInt = 0 := rfl
    rw [e] at h2
    rw [Int64.toInt_neg, Int32.toInt_toInt64, Int.bmod_eq_of_le (by omega) (by omega)]
    omega
theorem m_lN0 {n : Nat} (h : n < 2 ^ 63) : lN n ≤ 0 ↔ n = 0 := by
  rw [Int64.le_iff_toInt_le, m_lN h]
  have e : (0 : Int64).toInt = 0 := rfl
  rw [e]
  omega
theorem m_lNe {n : Nat} (h : n < 2 ^ 63) (h0 : 0 < n) : ¬ lN n = 0 := fun z => by
  have := congrArg Int64.toInt z
  rw [m_lN h] at this
  have e : (0 : Int64).toInt = 0 := rfl
  rw [e] at this
  omega
theorem m_ca_le {sig : Nat → Int32} : m_S (m_caF sig) 48 ≤ 48 := by
  refine Nat.le_trans (m_S_le (h := fun _ => 1) fun j _ => ?_) (by rw [m_S_const]; decide)
  unfold m_caF; split <;> omega
theorem m_hu_le {sig : Nat → Int32} : m_S (m_huF sig) 48 ≤ 48 * 2 ^ 31 := by
  refine Nat.le_trans (m_S_le (h := fun _ => 2 ^ 31) fun j _ => ?_) (by rw [m_S_const]; decide)
  unfold m_huF
  have h1 := (sig j).toInt_lt
  have h2 := (sig j).le_toInt
  split <;> omega
