/-! ===== the best way's digits; the class's weights are squares of distances ===== -/
section XDig
variable {P : Nat} {far : Nat → Nat → Nat} {ok : Nat → Nat → Prop}
/-- the upper part: how many are left out, and the squares -/
def x_h1 (far : Nat → Nat → Nat) (e : Nat → Nat) (j : Nat) : Nat := if e j = 63 then 2 ^ 14 else far j (e j)
def x_hi (far : Nat → Nat → Nat) (e : Nat → Nat) : Nat := x_h1 far e 0 + x_h1 far e 1 + x_h1 far e 2 + x_h1 far e 3 + x_h1 far e 4
def x_lo (e : Nat → Nat) : Nat := e 0 * 64 ^ 4 + e 1 * 64 ^ 3 + e 2 * 64 ^ 2 + e 3 * 64 + e 4
theorem x_key_hl (e : Nat → Nat) : x_key far e = x_hi far e * 2 ^ 30 + x_lo e := by
  have h : ∀ j, x_k1 far e j = x_h1 far e j * 2 ^ 30 + e j * m_dg j := fun j => by
    unfold x_k1 x_h1
    by_cases q : e j = 63
    · rw [if_pos q, if_pos q, q]
    · rw [if_neg q, if_neg q]
  unfold x_key x_hi x_lo
  rw [h 0, h 1, h 2, h 3, h 4, show m_dg 0 = 64 ^ 4 from rfl, show m_dg 1 = 64 ^ 3 from rfl, show m_dg 2 = 64 ^ 2 from rfl, show m_dg 3 = 64 from rfl, show m_dg 4 = 1 from rfl]
  omega
theorem x_lo_lt {e : Nat → Nat} (h : ∀ j, j < 5 → e j ≤ 63) : x_lo e < 2 ^ 30 := by
  have g0 := h 0 (by omega)
  have g1 := h 1 (by omega)
  have g2 := h 2 (by omega)
  have g3 := h 3 (by omega)
  have g4 := h 4 (by omega)
  unfold x_lo
  omega
theorem x_val_63 {e : Nat → Nat} (hP : P ≤ 63) (h : x_val ok P e) : ∀ j, j < 5 → e j ≤ 63 := fun j hj => by rcases h.1 j hj with h | h <;> omega
theorem x_hi_lt {e : Nat → Nat} (hf : ∀ j k, j < 5 → ok j k → far j k ≤ 256) (h : x_val ok P e) : x_hi far e < 2 ^ 20 := by
  have g : ∀ j, j < 5 → x_h1 far e j ≤ 2 ^ 14 := fun j hj => by
    unfold x_h1
    split
    · omega
    · next q => have := hf j _ hj ((h.1 j hj).resolve_left q).2; omega
  have g0 := g 0 (by omega)
  have g1 := g 1 (by omega)
  have g2 := g 2 (by omega)
  have g3 := g 3 (by omega)
  have g4 := g 4 (by omega)
  unfold x_hi
  omega
theorem x_pk {e : Nat → Nat} (hP : P ≤ 63) (hf : ∀ j k, j < 5 → ok j k → far j k ≤ 256) (h : x_val ok P e) {j : Nat} (hj : j < 5) : m_pk (lN (x_key far e)) j = if e j = 63 then -1 else nI (e j) := by
  have g := x_val_63 hP h
  have g0 := g 0 (by omega)
  have g1 := g 1 (by omega)
  have g2 := g 2 (by omega)
  have g3 := g 3 (by omega)
  have g4 := g 4 (by omega)
  have hh := x_hi_lt hf h
  have hl := x_lo_lt g
  rw [x_key_hl]
  generalize x_hi far e = H at hh ⊢
  have hd : (lN (H * 2 ^ 30 + x_lo e) >>> ((6 * (4 - nI j)).toInt64 &&& 63)).toInt32 &&& 63 = nI (e j) := by
    have hm : H * 2 ^ 30 + x_lo e < 2 ^ 62 := by omega
    unfold x_lo at hm ⊢
    have hc : j = 0 ∨ j = 1 ∨ j = 2 ∨ j = 3 ∨ j = 4 := by omega
    rcases hc with rfl | rfl | rfl | rfl | rfl
    · rw [m_lshr (k := 24) _ hm (by decide), lN_i, m_and63]; exact congrArg nI (by omega)
    · rw [m_lshr (k := 18) _ hm (by decide), lN_i, m_and63]; exact congrArg nI (by omega)
    · rw [m_lshr (k := 12) _ hm (by decide), lN_i, m_and63]; exact congrArg nI (by omega)
    · rw [m_lshr (k := 6) _ hm (by decide), lN_i, m_and63]; exact congrArg nI (by omega)
    · rw [m_lshr (k := 0) _ hm (by decide), lN_i, m_and63]; exact congrArg nI (by omega)
  unfold m_pk
  rw [hd]
  by_cases q : e j = 63
  · rw [q]; rfl
  · rw [if_neg q, if_neg]
    intro z
    exact q ((nI_eq (b := 63) (by have := g j hj; omega) (by omega)).mp z)
/-- two least ways are one -/
theorem x_one {e e' : Nat → Nat} (hP : P ≤ 63) (h : x_val ok P e) (h' : x_val ok P e') (l : ∀ d, x_val ok P d → x_key far e ≤ x_key far d) (l' : ∀ d, x_val ok P d → x_key far e' ≤ x_key far d) : ∀ j, j < 5 → e j = e' j := by
  have k := Nat.le_antisymm (l e' h') (l' e h)
  have g := x_val_63 hP h
  have g' := x_val_63 hP h'
  have a := x_lo_lt g
  have b := x_lo_lt g'
  rw [x_key_hl, x_key_hl] at k
  have e3 : x_lo e = x_lo e' := by omega
  have g0 := g 0 (by omega)
  have g1 := g 1 (by omega)
  have g2 := g 2 (by omega)
  have g3 := g 3 (by omega)
  have g4 := g 4 (by omega)
  have p0 := g' 0 (by omega)
  have p1 := g' 1 (by omega)
  have p2 := g' 2 (by omega)
  have p3 := g' 3 (by omega)
  have p4 := g' 4 (by omega)
  unfold x_lo at e3
  intro j hj
  have hc : j = 0 ∨ j = 1 ∨ j = 2 ∨ j = 3 ∨ j = 4 := by omega
  rcases hc with rfl | rfl | rfl | rfl | rfl <;> omega
/-! the distances -/
def x_sq (a b : Nat) : Nat := (a - b) * (a - b) + (b - a) * (b - a)
noncomputable def x_far (sig : Nat → Int32) (X Y : Nat → Nat) (j k : Nat) : Nat := x_sq (m_placeN sig ((m_pks sig 48).getD k 0) false) (X j) + x_sq (m_placeN sig ((m_pks sig 48).getD k 0) true) (Y j)
def x_ok (sig : Nat → Int32) (th : Nat → Prop) (X Y : Nat → Nat) (j k : Nat) : Prop := th j ∧ x_far sig X Y j k ≤ 256
theorem x_W_of {sig : Nat → Int32} {K : Nat → m_K} {X Y : Nat → Nat} (h : ∀ j, j < 5 → X j ≤ 56 ∧ Y j ≤ 56 ∧ (K j).1 2 = nI (X j) ∧ (K j).1 3 = nI (Y j)) : x_W (x_far sig X Y) (x_ok sig (fun j => (K j).1 0 ≠ 0) X Y) (m_W sig K) (m_pks sig 48).length := by
  intro name hn k hk
  have hP := m_pks_len (sig := sig) (k := 48)
  obtain ⟨c48, c20⟩ := m_pks48 hk
  have px56 := (m_place_spec (isY := false) c48 c20).2.2
  have py40 := (m_place_spec (isY := true) c48 c20).2.2
  simp only [if_true, Bool.false_eq_true, if_false] at px56 py40
  obtain ⟨hx, hy, e1, e2⟩ := h name hn
  unfold m_W x_ok x_far
  generalize m_placeN sig ((m_pks sig 48).getD k 0) false = a at px56
  generalize m_placeN sig ((m_pks sig 48).getD k 0) true = b at py40
  obtain ⟨q1, q2⟩ := m_sq57 a (by omega) (X name) (by omega)
  obtain ⟨q3, q4⟩ := m_sq57 b (by omega) (Y name) (by omega)
  have e : m_sqs (K name) (nI a) (nI b) = lN (x_sq a (X name) + x_sq b (Y name)) := by
    unfold m_sqs
    rw [e1, e2, q1, q3, lN_add]
    rfl
  have hq1 : x_sq a (X name) ≤ 3136 := q2
  have hq2 : x_sq b (Y name) ≤ 3136 := q4
  have hF : x_sq a (X name) + x_sq b (Y name) ≤ 6272 := by omega
  generalize x_sq a (X name) + x_sq b (Y name) = F at e hF ⊢
  unfold m_wgt
  rw [e]
  have iff : lN F ≤ 256 ↔ F ≤ 256 := by
    rw [Int64.le_iff_toInt_le, m_lN (by omega), show (256 : Int64).toInt = 256 from rfl]
    omega
  by_cases c : (K name).1 0 ≠ 0 ∧ F ≤ 256
  · refine Or.inl ⟨c, c.2, ?_⟩
    rw [if_pos ⟨c.1, iff.mpr c.2⟩, m_sh257 _ (by omega), m_dg48 k (by omega) name hn, lN_add]
  · exact Or.inr ⟨c, if_neg fun z => c ⟨z.1, iff.mp z.2⟩⟩
end XDig
