/-! ===== the reference's search: what it has found when all ways below a number have been tried ===== -/
section XSea
variable {P : Nat} {far : Nat → Nat → Nat} {ok : Nat → Nat → Prop}
def x_dg (d : Nat) : Int32 := if d = 63 then -1 else nI d
def x_p1 (e : Nat → Nat) (j : Nat) : Nat := if e j = 63 then 0 else 1
def x_s1 (far : Nat → Nat → Nat) (e : Nat → Nat) (j : Nat) : Nat := if e j = 63 then 0 else far j (e j)
/-- pairs and squares of the first names -/
def x_np (e : Nat → Nat) : Nat → Nat
  | 0 => 0
  | k + 1 => x_np e k + x_p1 e k
def x_ns (far : Nat → Nat → Nat) (e : Nat → Nat) : Nat → Nat
  | 0 => 0
  | k + 1 => x_ns far e k + x_s1 far e k
def x_pre (e : Nat → Nat) : Nat → Nat
  | 0 => 0
  | k + 1 => x_pre e k * 64 + e k
theorem x_pre5 (e : Nat → Nat) : x_pre e 5 = x_lo e := by
  show ((((0 * 64 + e 0) * 64 + e 1) * 64 + e 2) * 64 + e 3) * 64 + e 4 = _
  unfold x_lo
  omega
theorem x_hi_ps (e : Nat → Nat) : x_hi far e + 2 ^ 14 * x_np e 5 = 5 * 2 ^ 14 + x_ns far e 5 := by
  have h : ∀ j, x_h1 far e j + 2 ^ 14 * x_p1 e j = 2 ^ 14 + x_s1 far e j := fun j => by
    unfold x_h1 x_p1 x_s1
    by_cases q : e j = 63
    · rw [if_pos q, if_pos q, if_pos q]
    · rw [if_neg q, if_neg q, if_neg q]; omega
  have h0 := h 0
  have h1 := h 1
  have h2 := h 2
  have h3 := h 3
  have h4 := h 4
  show x_h1 far e 0 + x_h1 far e 1 + x_h1 far e 2 + x_h1 far e 3 + x_h1 far e 4 + 2 ^ 14 * (0 + x_p1 e 0 + x_p1 e 1 + x_p1 e 2 + x_p1 e 3 + x_p1 e 4) = 5 * 2 ^ 14 + (0 + x_s1 far e 0 + x_s1 far e 1 + x_s1 far e 2 + x_s1 far e 3 + x_s1 far e 4)
  omega
/-- a way of the first names -/
def x_pv (ok : Nat → Nat → Prop) (P name : Nat) (e : Nat → Nat) : Prop := (∀ j, j < name → e j = 63 ∨ (e j < P ∧ ok j (e j))) ∧ ∀ i j, i < name → j < name → e i ≠ 63 → e i = e j → i = j
theorem x_np_le (e : Nat → Nat) : ∀ k, x_np e k ≤ k := by
  intro k
  induction k with
  | zero => exact Nat.le_refl _
  | succ k ih =>
    show x_np e k + x_p1 e k ≤ k + 1
    have : x_p1 e k ≤ 1 := by unfold x_p1; split <;> omega
    omega
theorem x_ns_le {e : Nat → Nat} {name : Nat} (hn : name ≤ 5) (hf : ∀ j k, j < 5 → ok j k → far j k ≤ 256) (h : x_pv ok P name e) : ∀ k, k ≤ name → x_ns far e k ≤ 256 * k := by
  intro k
  induction k with
  | zero => exact fun _ => Nat.le_refl _
  | succ k ih =>
    intro hk
    have ih := ih (by omega)
    show x_ns far e k + x_s1 far e k ≤ _
    have : x_s1 far e k ≤ 256 := by
      unfold x_s1
      split
      · omega
      · next q => exact hf k _ (by omega) ((h.1 k (by omega)).resolve_left q).2
    omega
/-- what has been found once all ways below D have been tried -/
def x_st (far : Nat → Nat → Nat) (ok : Nat → Nat → Prop) (P D : Nat) (mo le : Int32) (bs : Nat → Int32) : Prop :=
  ((∀ e, x_val ok P e → ¬ x_lo e < D) ∧ mo = -1) ∨ ∃ e, x_val ok P e ∧ x_lo e < D ∧ (∀ d, x_val ok P d → x_lo d < D → x_key far e ≤ x_key far d) ∧ mo = nI (x_np e 5) ∧ le = nI (x_ns far e 5) ∧ ∀ j, j < 5 → bs j = x_dg (e j)
theorem x_st.to {D D' : Nat} {mo le : Int32} {bs : Nat → Int32} (h : x_st far ok P D mo le bs) (hD : D ≤ D') (n : ∀ e, x_val ok P e → D ≤ x_lo e → ¬ x_lo e < D') : x_st far ok P D' mo le bs := by
  rcases h with ⟨h1, h2⟩ | ⟨e, h1, h2, h3, h4⟩
  · exact Or.inl ⟨fun e he hl => n e he (Nat.le_of_not_lt (h1 e he)) hl, h2⟩
  · refine Or.inr ⟨e, h1, by omega, fun d hd hl => ?_, h4⟩
    rcases Nat.lt_or_ge (x_lo d) D with q | q
    · exact h3 d hd q
    · exact absurd hl (n d hd q)
/-- a way, all of it: kept if it is not better -/
theorem x_leaf_no {e : Nat → Nat} {mo le : Int32} {bs : Nat → Int32} (hP : P ≤ 63) (hf : ∀ j k, j < 5 → ok j k → far j k ≤ 256) (h : x_st far ok P (x_lo e) mo le bs) (he : x_val ok P e) (hno : nI (x_np e 5) < mo ∨ (nI (x_np e 5) = mo ∧ le ≤ nI (x_ns far e 5))) : x_st far ok P (x_lo e + 1) mo le bs := by
  rcases h with ⟨h1, h2⟩ | ⟨b, h1, h2, h3, h4, h5, h6⟩
  · exfalso
    have n5 := x_np_le e 5
    rw [h2] at hno
    rcases hno with q | ⟨q, -⟩
    · have := Int32.lt_iff_toInt_lt.mp q
      rw [nI_toInt (by omega), show (-1 : Int32).toInt = -1 from rfl] at this
      omega
    · have := congrArg Int32.toInt q
      rw [nI_toInt (by omega), show (-1 : Int32).toInt = -1 from rfl] at this
      omega
  · refine Or.inr ⟨b, h1, by omega, fun d hd hl => ?_, h4, h5, h6⟩
    rcases Nat.lt_or_ge (x_lo d) (x_lo e) with q | q
    · exact h3 d hd q
    · have hde : x_lo d = x_lo e := by omega
      have n5 := x_np_le e 5
      have m5 := x_np_le b 5
      have s5 := x_ns_le (far := far) (Nat.le_refl 5) hf (e := e) ⟨he.1, he.2⟩ 5 (Nat.le_refl _)
      have t5 := x_ns_le (far := far) (Nat.le_refl 5) hf (e := b) ⟨h1.1, h1.2⟩ 5 (Nat.le_refl _)
      have k1 := x_hi_ps (far := far) e
      have k2 := x_hi_ps (far := far) b
      have dd : ∀ j, j < 5 → d j = e j := by
        have g := x_val_63 hP hd
        have g' := x_val_63 hP he
        have g0 := g 0 (by omega)
        have g1 := g 1 (by omega)
        have g2 := g 2 (by omega)
        have g3 := g 3 (by omega)
        have g4 := g 4 (by omega)
        have p0 := g' 0 (by omega)
        have p1 := g' 1 (by omega)
        have p2 := g' 2 (by omega)
        have p3 := g' 3 (by omega)
        have p4 := g' 4 (by omega)
        unfold x_lo at hde
        intro j hj
        have hc : j = 0 ∨ j = 1 ∨ j = 2 ∨ j = 3 ∨ j = 4 := by omega
        rcases hc with rfl | rfl | rfl | rfl | rfl <;> omega
      rw [x_key_congr dd, x_key_hl, x_key_hl]
      rw [h4, h5] at hno
      have hcmp : x_hi far b ≤ x_hi far e := by
        rcases hno with q | ⟨q, q2⟩
        · have := Int32.lt_iff_toInt_lt.mp q
          rw [nI_toInt (by omega), nI_toInt (by omega)] at this
          omega
        · have e1 := (nI_eq (by omega) (by omega)).mp q
          have := Int32.le_iff_toInt_le.mp q2
          rw [nI_toInt (by omega), nI_toInt (by omega)] at this
          omega
      exact Nat.add_le_add (Nat.mul_le_mul_right _ hcmp) (Nat.le_of_lt h2)
/-- a way, all of it: taken if it is better -/
theorem x_leaf_yes {e : Nat → Nat} {mo le : Int32} {bs bs' : Nat → Int32} (hP : P ≤ 63) (hf : ∀ j k, j < 5 → ok j k → far j k ≤ 256) (h : x_st far ok P (x_lo e) mo le bs) (he : x_val ok P e) (h1 : ¬ nI (x_np e 5) < mo) (h2 : nI (x_np e 5) = mo → ¬ le ≤ nI (x_ns far e 5)) (hb : ∀ j, j < 5 → bs' j = x_dg (e j)) : x_st far ok P (x_lo e + 1) (nI (x_np e 5)) (nI (x_ns far e 5)) bs' := by
  refine Or.inr ⟨e, he, by omega, fun d hd hl => ?_, rfl, rfl, hb⟩
  rcases Nat.lt_or_ge (x_lo d) (x_lo e) with q | q
  · rcases h with ⟨g, -⟩ | ⟨b, b1, b2, b3, b4, b5, -⟩
    · exact absurd q (g d hd)
    · have k := b3 d hd q
      have n5 := x_np_le e 5
      have m5 := x_np_le b 5
      have s5 := x_ns_le (far := far) (Nat.le_refl 5) hf (e := e) ⟨he.1, he.2⟩ 5 (Nat.le_refl _)
      have t5 := x_ns_le (far := far) (Nat.le_refl 5) hf (e := b) ⟨b1.1, b1.2⟩ 5 (Nat.le_refl _)
      have k1 := x_hi_ps (far := far) e
      have k2 := x_hi_ps (far := far) b
      have lt : x_hi far e < x_hi far b := by
        rw [b4] at h1 h2
        rw [b5] at h2
        have g1 : x_np b 5 ≤ x_np e 5 := by
          have := Int32.not_lt.mp h1
          rw [Int32.le_iff_toInt_le, nI_toInt (by omega), nI_toInt (by omega)] at this
          omega
        by_cases z : x_np e 5 = x_np b 5
        · have := Int32.not_le.mp (h2 (by rw [z]))
          rw [Int32.lt_iff_toInt_lt, nI_toInt (by omega), nI_toInt (by omega)] at this
          omega
        · omega
      have l1 := x_lo_lt (x_val_63 hP he)
      have := Nat.mul_le_mul_right (2 ^ 30) (show x_hi far e + 1 ≤ x_hi far b from lt)
      rw [x_key_hl] at k
      rw [x_key_hl]
      rw [Nat.add_mul, Nat.one_mul] at this
      exact Nat.le_trans (Nat.le_of_lt (Nat.lt_of_lt_of_le (Nat.add_lt_add_left l1 _) this)) (Nat.le_trans (Nat.le_add_right _ _) k)
  · have hde : x_lo d = x_lo e := by omega
    have dd : ∀ j, j < 5 → d j = e j := by
      have g := x_val_63 hP hd
      have g' := x_val_63 hP he
      have g0 := g 0 (by omega)
      have g1 := g 1 (by omega)
      have g2 := g 2 (by omega)
      have g3 := g 3 (by omega)
      have g4 := g 4 (by omega)
      have p0 := g' 0 (by omega)
      have p1 := g' 1 (by omega)
      have p2 := g' 2 (by omega)
      have p3 := g' 3 (by omega)
      have p4 := g' 4 (by omega)
      unfold x_lo at hde
      intro j hj
      have hc : j = 0 ∨ j = 1 ∨ j = 2 ∨ j = 3 ∨ j = 4 := by omega
      rcases hc with rfl | rfl | rfl | rfl | rfl <;> omega
    rw [x_key_congr dd]
    exact Nat.le_refl _
/-! numbers of prefixes -/
theorem x_pre_div {e : Nat → Nat} (h : ∀ j, j < 5 → e j ≤ 63) : ∀ i, i ≤ 5 → x_lo e / 64 ^ (5 - i) = x_pre e i := by
  rw [← x_pre5]
  have g : ∀ k, k ≤ 5 → x_pre e 5 / 64 ^ k = x_pre e (5 - k) := by
    intro k
    induction k with
    | zero => exact fun _ => by rw [Nat.pow_zero, Nat.div_one]
    | succ k ih =>
      intro hk
      rw [Nat.pow_succ, ← Nat.div_div_eq_div_mul, ih (by omega), show 5 - k = (5 - (k + 1)) + 1 by omega]
      show (x_pre e (5 - (k + 1)) * 64 + e (5 - (k + 1))) / 64 = _
      have := h (5 - (k + 1)) (by omega)
      omega
  intro i hi
  have := g (5 - i) (by omega)
  rw [this, show 5 - (5 - i) = i by omega]
theorem x_pre_eq {e d : Nat → Nat} (h : ∀ j, j < 5 → e j ≤ 63) (h' : ∀ j, j < 5 → d j ≤ 63) : ∀ i, i ≤ 5 → x_pre e i = x_pre d i → ∀ j, j < i → e j = d j := by
  intro i
  induction i with
  | zero => exact fun _ _ j hj => absurd hj (Nat.not_lt_zero j)
  | succ i ih =>
    intro hi he j hj
    have he : x_pre e i * 64 + e i = x_pre d i * 64 + d i := he
    have a := h i (by omega)
    have b := h' i (by omega)
    by_cases q : j = i
    · rw [q]; omega
    · exact ih (by omega) (by omega) j (by omega)
theorem x_pre_congr {e d : Nat → Nat} : ∀ i, (∀ j, j < i → e j = d j) → x_pre e i = x_pre d i := by
  intro i
  induction i with
  | zero => exact fun _ => rfl
  | succ i ih =>
    intro h
    show x_pre e i * 64 + e i = x_pre d i * 64 + d i
    rw [ih fun j hj => h j (by omega), h i (by omega)]
/-- a way whose number lies in this stretch begins so -/
theorem x_stretch {e d : Nat → Nat} {name k : Nat} (hP : P ≤ 63) (hn : name < 5) (hd : x_val ok P d) (he : ∀ j, j < name → e j ≤ 63) (hk : k ≤ 63) (l1 : (x_pre e name * 64 + k) * 64 ^ (4 - name) ≤ x_lo d) (l2 : x_lo d < (x_pre e name * 64 + k + 1) * 64 ^ (4 - name)) : (∀ j, j < name → d j = e j) ∧ d name = k := by
  have g := x_val_63 hP hd
  have hpos : 0 < 64 ^ (4 - name) := Nat.pow_pos (by decide)
  have e1 := x_pre_div g (name + 1) (by omega)
  rw [show 5 - (name + 1) = 4 - name by omega] at e1
  have e2 : x_lo d / 64 ^ (4 - name) = x_pre e name * 64 + k := by
    refine Nat.le_antisymm ?_ ?_
    · exact Nat.le_of_lt_succ ((Nat.div_lt_iff_lt_mul hpos).mpr l2)
    · exact (Nat.le_div_iff_mul_le hpos).mpr l1
  have e3 : x_pre d name * 64 + d name = x_pre e name * 64 + k := e1.symm.trans e2
  have b := g name hn
  have e4 : x_pre d name = x_pre e name := by omega
  refine ⟨fun j hj => ?_, by omega⟩
  have e5 : x_pre (fun j => if j < name then e j else 0) name = x_pre e name := x_pre_congr name fun j hj => if_pos hj
  have := x_pre_eq (e := d) (d := fun j => if j < name then e j else 0) g (fun j _ => by
    show (if j < name then e j else 0) ≤ 63
    split
    · next q => exact he j q
    · omega) name (by omega) (by rw [e5, e4]) j hj
  rw [this]
  exact if_pos hj
/-- a peak that may not be had is passed over -/
theorem x_skip {e : Nat → Nat} {name k : Nat} {mo le : Int32} {bs : Nat → Int32} (hP : P ≤ 63) (hn : name < 5) (hv : x_pv ok P name e) (hk : k < 63) (hno : P ≤ k ∨ ¬ ok name k ∨ ∃ j, j < name ∧ e j = k) (h : x_st far ok P ((x_pre e name * 64 + k) * 64 ^ (4 - name)) mo le bs) : x_st far ok P ((x_pre e name * 64 + k + 1) * 64 ^ (4 - name)) mo le bs := by
  have he : ∀ j, j < name → e j ≤ 63 := fun j hj => by rcases hv.1 j hj with h | h <;> omega
  refine h.to (Nat.mul_le_mul_right _ (by omega)) fun d hd l1 l2 => ?_
  obtain ⟨s1, s2⟩ := x_stretch hP hn hd he (by omega) l1 l2
  rcases hd.1 name hn with q | ⟨q1, q2⟩
  · omega
  · rw [s2] at q1 q2
    rcases hno with z | z | ⟨j, z1, z2⟩
    · omega
    · exact z q2
    · have := hd.2 j name (by omega) hn (by rw [s1 j z1]; omega) (by rw [s1 j z1, s2, z2])
      omega
theorem x_skips {e : Nat → Nat} {name : Nat} {mo le : Int32} {bs : Nat → Int32} (hP : P ≤ 63) (hn : name < 5) (hv : x_pv ok P name e) : ∀ i k, k + i = 63 → (∀ k', k ≤ k' → k' < 63 → P ≤ k' ∨ ¬ ok name k' ∨ ∃ j, j < name ∧ e j = k') → x_st far ok P ((x_pre e name * 64 + k) * 64 ^ (4 - name)) mo le bs → x_st far ok P ((x_pre e name * 64 + 63) * 64 ^ (4 - name)) mo le bs
  | 0, k, hk, _, h => by
    obtain rfl : k = 63 := hk
    exact h
  | i + 1, k, hk, hno, h => by
    have h2 := x_skip hP hn hv (by omega) (hno k (Nat.le_refl _) (by omega)) h
    rw [Nat.add_assoc] at h2
    exact x_skips hP hn hv i (k + 1) (by omega) (fun k' h1 h2 => hno k' (by omega) h2) h2
/-- at the end: the least of all -/
theorem x_st.all {mo le : Int32} {bs : Nat → Int32} (hP : P ≤ 63) (h : x_st far ok P (64 ^ 5) mo le bs) : ∃ e, x_val ok P e ∧ (∀ d, x_val ok P d → x_key far e ≤ x_key far d) ∧ ∀ j, j < 5 → bs j = x_dg (e j) := by
  have lt : ∀ e, x_val ok P e → x_lo e < 64 ^ 5 := fun e he => x_lo_lt (x_val_63 hP he)
  rcases h with ⟨h1, -⟩ | ⟨e, h1, -, h3, -, -, h6⟩
  · have hv : x_val ok P (fun _ => 63) := ⟨fun j _ => Or.inl rfl, fun i j _ _ q => absurd rfl q⟩
    exact absurd (lt _ hv) (h1 _ hv)
  · exact ⟨e, h1, fun d hd => h3 d hd (lt d hd), h6⟩
end XSea
