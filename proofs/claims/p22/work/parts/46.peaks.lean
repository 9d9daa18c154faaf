/-! ===== how many peaks few calls can make ===== -/
abbrev q_P : Type := Nat × Nat × Nat
/-- the press p covers the cell c; how far; what it brings -/
def q_cov (px py c : Nat) : Bool := decide (c % 8 ≤ px + 1) && decide (px ≤ c % 8 + 1) && decide (c / 8 ≤ py + 1) && decide (py ≤ c / 8 + 1)
def q_d (px py c : Nat) : Nat := (if c % 8 = px then 0 else 1) + (if c / 8 = py then 0 else 1)
def q_b (p : q_P) (c : Nat) : Nat := if q_cov p.1 p.2.1 c = true then p.2.2 >>> q_d p.1 p.2.1 c else 0
def q_up (px py c q : Nat) : Bool := q_cov px py c && (!q_cov px py q || decide (q_d px py c < q_d px py q))
def q_su (t c q : Nat) : Bool := if t < 48 then q_cov (t % 8) (t / 8) q else q_up (t % 8) (t / 8 - 6) c q
def q_pre (c q : Nat) : Bool := decide (q < c) && decide (c / 8 ≤ q / 8 + 1) && decide (c % 8 ≤ q % 8 + 1) && decide (q % 8 ≤ c % 8 + 1)
def q_cell (t u c : Nat) : Bool := (c % 8 == 0 || q_su t c (c - 1) || q_su u c (c - 1)) && (c % 8 == 0 || c / 8 == 0 || q_su t c (c - 9) || q_su u c (c - 9)) && (c / 8 == 0 || q_su t c (c - 8) || q_su u c (c - 8)) && (c % 8 == 7 || c / 8 == 0 || q_su t c (c - 7) || q_su u c (c - 7))
def q_tile (t u c : Nat) : Bool := q_cell t u c || q_cell t u (c + 1) || q_cell t u (c + 8) || q_cell t u (c + 9)
def q_row (t u c : Nat) : Bool := q_tile t u c && q_tile t u (c + 2) && q_tile t u (c + 4) && q_tile t u (c + 6)
def q_all (a n : Nat) (g : Nat → Bool) : Bool := (List.range n).all fun i => g (a + i)
def q_chk1 (t : Nat) : Bool := q_all 0 24 fun u => (!q_row t u 0 || (decide (t < 16) && decide (u < 16))) && (!q_row t (u + 48) 0 || decide (t < 16))
def q_chk2 (t : Nat) : Bool := q_all 24 24 fun u => !q_row t u 32 && !q_row t (u + 48) 32
set_option maxRecDepth 100000 in
theorem q_ok1 : q_all 0 24 q_chk1 = true := by decide +kernel
set_option maxRecDepth 100000 in
theorem q_ok2 : q_all 24 24 q_chk2 = true := by decide +kernel
theorem q_all_at {a n i : Nat} {g : Nat → Bool} (h : q_all a n g = true) (h1 : a ≤ i) (h2 : i < a + n) : g i = true := by
  unfold q_all at h
  rw [List.all_eq_true] at h
  have := h (i - a) (List.mem_range.mpr (by omega))
  rwa [show a + (i - a) = i by omega] at this
theorem q_cov_iff {px py c : Nat} : q_cov px py c = true ↔ c % 8 ≤ px + 1 ∧ px ≤ c % 8 + 1 ∧ c / 8 ≤ py + 1 ∧ py ≤ c / 8 + 1 := by
  unfold q_cov
  simp only [Bool.and_eq_true, decide_eq_true_eq, and_assoc]
theorem q_up_iff {px py c q : Nat} : q_up px py c q = true ↔ q_cov px py c = true ∧ (q_cov px py q = false ∨ q_d px py c < q_d px py q) := by
  unfold q_up
  simp only [Bool.and_eq_true, Bool.or_eq_true, Bool.not_eq_true', decide_eq_true_eq]
theorem q_b_0 {p : q_P} {c : Nat} (h : q_cov p.1 p.2.1 c = false) : q_b p c = 0 := by
  unfold q_b
  rw [h]
  rfl
theorem q_b_up {p : q_P} {c q : Nat} (h : q_b p q < q_b p c) : q_up p.1 p.2.1 c q = true := by
  rw [q_up_iff]
  cases e : q_cov p.1 p.2.1 c
  · rw [q_b_0 e] at h; omega
  · refine ⟨rfl, ?_⟩
    cases e2 : q_cov p.1 p.2.1 q
    · exact Or.inl rfl
    · refine Or.inr ?_
      unfold q_b at h
      rw [e, e2, if_pos rfl, if_pos rfl, Nat.shiftRight_eq_div_pow, Nat.shiftRight_eq_div_pow] at h
      rcases Nat.lt_or_ge (q_d p.1 p.2.1 c) (q_d p.1 p.2.1 q) with g | g
      · exact g
      · have := Nat.div_le_div_left (a := p.2.2) (Nat.pow_le_pow_right (show 0 < 2 by decide) g) (Nat.pow_pos (show 0 < 2 by decide))
        omega
/-- what the waiting presses bring -/
def q_w : List q_P → Nat → Int
  | [], _ => 0
  | p :: L, c => (q_b p c : Int) + q_w L c
theorem q_w_ex {c q : Nat} : ∀ {L : List q_P}, q_w L q < q_w L c → ∃ p, p ∈ L ∧ q_b p q < q_b p c
  | [], h => by simp [q_w] at h
  | p :: L, h => by
    unfold q_w at h
    by_cases e : q_b p q < q_b p c
    · exact ⟨p, List.mem_cons_self, e⟩
    · obtain ⟨p', h1, h2⟩ := q_w_ex (L := L) (c := c) (q := q) (by omega)
      exact ⟨p', List.mem_cons_of_mem _ h1, h2⟩
theorem q_w_nn {c : Nat} : ∀ {L : List q_P}, 0 ≤ q_w L c
  | [] => by simp [q_w]
  | p :: L => by
    unfold q_w
    have := q_w_nn (c := c) (L := L)
    omega
theorem q_w_0 {c : Nat} : ∀ {L : List q_P}, (∀ p, p ∈ L → q_cov p.1 p.2.1 c = false) → q_w L c = 0
  | [], _ => rfl
  | p :: L, h => by
    unfold q_w
    rw [q_b_0 (h p List.mem_cons_self), q_w_0 (fun p' h' => h p' (List.mem_cons_of_mem _ h'))]
    rfl
/-- no one neighbour beats a peak -/
def q_adj (c o : Nat) : Prop := c / 8 ≤ o / 8 + 1 ∧ o / 8 ≤ c / 8 + 1 ∧ c % 8 ≤ o % 8 + 1 ∧ o % 8 ≤ c % 8 + 1
def q_Pk (sg : Nat → Int) (pk : Nat → Bool) : Prop := ∀ c, c < 48 → pk c = true → 20 ≤ sg c ∧ ∀ o, o < 48 → q_adj c o → sg o < sg c ∨ (sg o = sg c ∧ c ≤ o)
def q_n (pk : Nat → Bool) : Nat → Nat
  | 0 => 0
  | k + 1 => q_n pk k + (pk k).toNat
theorem q_n_len {pk : Nat → Bool} : ∀ {k : Nat}, ((List.range k).filter pk).length = q_n pk k
  | 0 => rfl
  | k + 1 => by
    rw [List.range_succ, List.filter_append, List.length_append, q_n_len]
    rw [show q_n pk (k + 1) = q_n pk k + (pk k).toNat from rfl]
    cases e : pk k <;> simp [e]
section Pk
variable {sg : Nat → Int} {pk : Nat → Bool}
theorem q_two (h : q_Pk sg pk) {c o : Nat} (hc : c < 48) (ho : o < 48) (ha : q_adj c o) (hn : c ≠ o) : (pk c).toNat + (pk o).toNat ≤ 1 := by
  cases e1 : pk c
  · have := Bool.toNat_le (pk o); simp; omega
  · cases e2 : pk o
    · simp
    · have h1 := (h c hc e1).2 o ho ha
      have h2 := (h o ho e2).2 c hc ⟨ha.2.1, ha.1, ha.2.2.2, ha.2.2.1⟩
      exfalso
      omega
def q_T (pk : Nat → Bool) (a : Nat) : Nat := (pk a).toNat + (pk (a + 1)).toNat + (pk (a + 8)).toNat + (pk (a + 9)).toNat
theorem q_T_le (h : q_Pk sg pk) {a : Nat} (ha : a + 9 < 48) (h8 : a % 8 < 7) : q_T pk a ≤ 1 := by
  unfold q_T
  have e1 := q_two h (c := a) (o := a + 1) (by omega) (by omega) (by unfold q_adj; omega) (by omega)
  have e2 := q_two h (c := a) (o := a + 8) (by omega) (by omega) (by unfold q_adj; omega) (by omega)
  have e3 := q_two h (c := a) (o := a + 9) (by omega) (by omega) (by unfold q_adj; omega) (by omega)
  have e4 := q_two h (c := a + 1) (o := a + 8) (by omega) (by omega) (by unfold q_adj; omega) (by omega)
  have e5 := q_two h (c := a + 1) (o := a + 9) (by omega) (by omega) (by unfold q_adj; omega) (by omega)
  have e6 := q_two h (c := a + 8) (o := a + 9) (by omega) (by omega) (by unfold q_adj; omega) (by omega)
  omega
theorem q_T_sum : q_n pk 48 = q_T pk 0 + q_T pk 2 + q_T pk 4 + q_T pk 6 + q_T pk 16 + q_T pk 18 + q_T pk 20 + q_T pk 22 + q_T pk 32 + q_T pk 34 + q_T pk 36 + q_T pk 38 := by
  simp only [q_n, q_T, Nat.reduceAdd]
  omega
def q_in (a c : Nat) : Prop := c = a ∨ c = a + 1 ∨ c = a + 8 ∨ c = a + 9
theorem q_T_ex {a : Nat} (h : 1 ≤ q_T pk a) : ∃ c, q_in a c ∧ pk c = true := by
  unfold q_T at h
  cases e1 : pk a
  · cases e2 : pk (a + 1)
    · cases e3 : pk (a + 8)
      · cases e4 : pk (a + 9)
        · simp [e1, e2, e3, e4] at h
        · exact ⟨_, Or.inr (Or.inr (Or.inr rfl)), e4⟩
      · exact ⟨_, Or.inr (Or.inr (Or.inl rfl)), e3⟩
    · exact ⟨_, Or.inr (Or.inl rfl), e2⟩
  · exact ⟨_, Or.inl rfl, e1⟩
/-- two peaks of one tile row in different tiles are two columns apart -/
theorem q_gap (h : q_Pk sg pk) {a d c o : Nat} (ha : a = 0 ∨ a = 2 ∨ a = 4 ∨ a = 6 ∨ a = 32 ∨ a = 34 ∨ a = 36 ∨ a = 38) (hd : d = 2 ∨ d = 4 ∨ d = 6) (h6 : a % 8 + d ≤ 6) (hc : q_in a c) (ho : q_in (a + d) o) (e1 : pk c = true) (e2 : pk o = true) : c % 8 + 2 ≤ o % 8 ∧ c < 48 ∧ o < 48 := by
  unfold q_in at hc ho
  have h1 : c < 48 := by omega
  have h2 : o < 48 := by omega
  refine ⟨?_, h1, h2⟩
  by_cases g : c % 8 + 2 ≤ o % 8
  · exact g
  · have := q_two h h1 h2 (by unfold q_adj; omega) (by omega)
    rw [e1, e2] at this
    simp at this
end Pk
/-! counting presses -/
theorem q_cnt3 {P Q R G : q_P → Bool} {d : Nat} : ∀ {L : List q_P}, (∀ p, p ∈ L → (P p).toNat + (Q p).toNat + (R p).toNat ≤ d * (G p).toNat) → L.countP P + L.countP Q + L.countP R ≤ d * L.countP G
  | [], _ => by simp
  | p :: L, h => by
    have h1 := h p List.mem_cons_self
    have h2 := q_cnt3 (L := L) (fun p' h' => h p' (List.mem_cons_of_mem _ h'))
    simp only [List.countP_cons]
    have f1 : ∀ x : Bool, (if x = true then 1 else 0) = x.toNat := by intro x; cases x <;> rfl
    rw [f1, f1, f1, f1, Nat.mul_add]
    omega
theorem q_pos {P : q_P → Bool} {L : List q_P} (h : ∃ p, p ∈ L ∧ P p = true) : 1 ≤ L.countP P := List.countP_pos_iff.mpr h
/-! a tile row (base cell r = 0 or 32) and the presses that can serve it -/
def q_G (r : Nat) (p : q_P) : Bool := if r = 0 then decide (p.2.1 ≤ 2) else !decide (p.2.1 ≤ 2)
def q_S (c : Nat) (p : q_P) : Bool := q_cov p.1 p.2.1 c || q_cov p.1 p.2.1 (c - 1)
def q_U (c : Nat) (p : q_P) : Bool := q_up p.1 p.2.1 c (c - 1)
def q_C (c : Nat) (p : q_P) : Bool := q_cov p.1 p.2.1 c
theorem q_S_imp {c : Nat} {p : q_P} (hx : c % 8 ≠ 0) (h : q_S c p = true) : p.1 ≤ c % 8 + 1 ∧ c % 8 ≤ p.1 + 2 ∧ c / 8 ≤ p.2.1 + 1 ∧ p.2.1 ≤ c / 8 + 1 := by
  unfold q_S at h
  rw [Bool.or_eq_true, q_cov_iff, q_cov_iff] at h
  omega
theorem q_U_imp {c : Nat} {p : q_P} (hx : c % 8 ≠ 0) (h : q_U c p = true) : p.1 ≤ c % 8 + 1 ∧ c % 8 ≤ p.1 ∧ c / 8 ≤ p.2.1 + 1 ∧ p.2.1 ≤ c / 8 + 1 := by
  unfold q_U at h
  rw [q_up_iff, q_cov_iff] at h
  obtain ⟨h1, h2⟩ := h
  have e : (c - 1) % 8 = c % 8 - 1 := by omega
  have e2 : (c - 1) / 8 = c / 8 := by omega
  rcases h2 with h2 | h2
  · have h3 : ¬ (q_cov p.1 p.2.1 (c - 1) = true) := by rw [h2]; decide
    rw [q_cov_iff] at h3
    omega
  · unfold q_d at h2
    rw [e, e2] at h2
    refine ⟨by omega, ?_, by omega, by omega⟩
    by_cases g : c % 8 ≤ p.1
    · exact g
    · exfalso
      by_cases g2 : c % 8 - 1 = p.1
      · rw [if_pos g2, if_neg (show ¬ c % 8 = p.1 by omega)] at h2
        omega
      · rw [if_neg g2, if_neg (show ¬ c % 8 = p.1 by omega)] at h2
        omega
theorem q_C_imp {c : Nat} {p : q_P} (h : q_C c p = true) : p.1 ≤ c % 8 + 1 ∧ c % 8 ≤ p.1 + 1 ∧ c / 8 ≤ p.2.1 + 1 ∧ p.2.1 ≤ c / 8 + 1 := by
  unfold q_C at h
  rw [q_cov_iff] at h
  omega
theorem q_bt {P Q R G : Bool} {d : Nat} (hP : P = true → G = true) (hQ : Q = true → G = true) (hR : R = true → G = true) (h : G = true → P.toNat + Q.toNat + R.toNat ≤ d) : P.toNat + Q.toNat + R.toNat ≤ d * G.toNat := by
  cases G
  · cases P
    · cases Q
      · cases R
        · simp
        · exact absurd (hR rfl) (by decide)
      · exact absurd (hQ rfl) (by decide)
    · exact absurd (hP rfl) (by decide)
  · simpa using h rfl
theorem q_not3 {P Q R : Bool} (h : P = true → R = true → False) : P.toNat + Q.toNat + R.toNat ≤ 2 := by
  revert h
  cases P <;> cases Q <;> cases R <;> simp
theorem q_not2 {P Q R : Bool} (h : P = true → R = true → False) (h1 : P = true → Q = true → False) (h2 : Q = true → R = true → False) : P.toNat + Q.toNat + R.toNat ≤ 1 := by
  revert h h1 h2
  cases P <;> cases Q <;> cases R <;> simp
/-- c lies in the tile row r -/
def q_ir (r c : Nat) : Prop := r ≤ c ∧ c < r + 16
theorem q_G_of {r c : Nat} {p : q_P} (hr : r = 0 ∨ r = 32) (hc : q_ir r c) (h : c / 8 ≤ p.2.1 + 1 ∧ p.2.1 ≤ c / 8 + 1) : q_G r p = true := by
  unfold q_ir at hc
  unfold q_G
  rcases hr with rfl | rfl
  · rw [if_pos rfl, decide_eq_true_eq]; omega
  · rw [if_neg (by decide), Bool.not_eq_true', decide_eq_false_iff_not]; omega
/-- three peaks' supporters -/
theorem q_three {A C : List q_P} {r c1 c2 c3 : Nat} (hr : r = 0 ∨ r = 32) (i1 : q_ir r c1) (i2 : q_ir r c2) (i3 : q_ir r c3) (h0 : c1 % 8 ≠ 0) (g1 : c1 % 8 + 2 ≤ c2 % 8) (g2 : c2 % 8 + 2 ≤ c3 % 8)
    (s1 : (∃ p, p ∈ A ∧ q_S c1 p = true) ∨ ∃ p, p ∈ C ∧ q_U c1 p = true) (s2 : (∃ p, p ∈ A ∧ q_S c2 p = true) ∨ ∃ p, p ∈ C ∧ q_U c2 p = true) (s3 : (∃ p, p ∈ A ∧ q_S c3 p = true) ∨ ∃ p, p ∈ C ∧ q_U c3 p = true) : 3 ≤ 2 * A.countP (q_G r) + C.countP (q_G r) := by
  have hA := q_cnt3 (L := A) (P := q_S c1) (Q := q_S c2) (R := q_S c3) (G := q_G r) (d := 2) (fun p _ => by
    refine q_bt (fun h => q_G_of hr i1 (q_S_imp (by omega) h).2.2) (fun h => q_G_of hr i2 (q_S_imp (by omega) h).2.2) (fun h => q_G_of hr i3 (q_S_imp (by omega) h).2.2) (fun _ => q_not3 fun a b => ?_)
    have a2 := q_S_imp (by omega) a
    have b2 := q_S_imp (by omega) b
    omega)
  have hC := q_cnt3 (L := C) (P := q_U c1) (Q := q_U c2) (R := q_U c3) (G := q_G r) (d := 1) (fun p _ => by
    refine q_bt (fun h => q_G_of hr i1 (q_U_imp (by omega) h).2.2) (fun h => q_G_of hr i2 (q_U_imp (by omega) h).2.2) (fun h => q_G_of hr i3 (q_U_imp (by omega) h).2.2) (fun _ => q_not2 (fun a b => ?_) (fun a b => ?_) (fun a b => ?_))
    all_goals
      have a2 := q_U_imp (by omega) a
      have b2 := q_U_imp (by omega) b
      omega)
  have t1 : 1 ≤ A.countP (q_S c1) + C.countP (q_U c1) := by
    rcases s1 with h | h
    · have := q_pos h; omega
    · have := q_pos h; omega
  have t2 : 1 ≤ A.countP (q_S c2) + C.countP (q_U c2) := by
    rcases s2 with h | h
    · have := q_pos h; omega
    · have := q_pos h; omega
  have t3 : 1 ≤ A.countP (q_S c3) + C.countP (q_U c3) := by
    rcases s3 with h | h
    · have := q_pos h; omega
    · have := q_pos h; omega
  omega
theorem q_one {A C : List q_P} {r c : Nat} (hr : r = 0 ∨ r = 32) (i1 : q_ir r c) (h0 : c % 8 ≠ 0) (s1 : (∃ p, p ∈ A ∧ q_S c p = true) ∨ ∃ p, p ∈ C ∧ q_U c p = true) : 1 ≤ A.countP (q_G r) + C.countP (q_G r) := by
  rcases s1 with ⟨p, h1, h2⟩ | ⟨p, h1, h2⟩
  · have := q_pos ⟨p, h1, q_G_of hr i1 (q_S_imp h0 h2).2.2⟩
    omega
  · have := q_pos ⟨p, h1, q_G_of hr i1 (q_U_imp h0 h2).2.2⟩
    omega
/-- two far peaks that waiting presses cover -/
theorem q_cold {C : List q_P} {r c0 c3 : Nat} (hr : r = 0 ∨ r = 32) (i0 : q_ir r c0) (i3 : q_ir r c3) (g : c0 % 8 + 3 ≤ c3 % 8) (s0 : ∃ p, p ∈ C ∧ q_C c0 p = true) (s3 : ∃ p, p ∈ C ∧ q_C c3 p = true) : 2 ≤ C.countP (q_G r) := by
  have hC := q_cnt3 (L := C) (P := q_C c0) (Q := fun _ => false) (R := q_C c3) (G := q_G r) (d := 1) (fun p _ => by
    refine q_bt (fun h => q_G_of hr i0 (q_C_imp h).2.2) (fun h => by cases h) (fun h => q_G_of hr i3 (q_C_imp h).2.2) (fun _ => q_not2 (fun a b => ?_) (fun a b => by cases b) (fun a b => by cases a))
    have a2 := q_C_imp a
    have b2 := q_C_imp b
    omega)
  have t1 := q_pos s0
  have t3 := q_pos s3
  omega
theorem q_len {A : List q_P} : A.length = A.countP (q_G 0) + A.countP (q_G 32) := by
  have h := List.length_eq_countP_add_countP (q_G 0) (l := A)
  rw [h]
  congr 1
  apply List.countP_congr
  intro p _
  unfold q_G
  simp
/-! the state that calls lead to: presses ahead of the latest frame (A), waiting ones (C), frames, noises, heats, wipes -/
def q_off (L : List q_P) (c : Nat) : Prop := ∀ p, p ∈ L → q_cov p.1 p.2.1 c = false
def q_al (A : List q_P) (b : Nat → Int) : Prop := ∀ c, c < 48 → 0 ≤ b c ∧ (q_off A c → b c = 0)
def q_be (b : Nat → Int) (h : Int) : Prop := ∀ c, c < 48 → h - b c ≤ 19
def q_ga (b : Nat → Int) : Prop := ∀ c, c < 48 → c % 8 ≠ 0 → b c = b (c - 1)
def q_fin (L : List q_P) : Prop := ∀ p, p ∈ L → p.1 < 8 ∧ p.2.1 < 6
def q_Inv (A C : List q_P) (f k hc wp : Nat) (w b : Nat → Int) (h : Int) : Prop :=
  (q_fin A ∧ q_fin C) ∧
  (∃ v : Nat → Int, ∃ N : List Nat, N.length ≤ k ∧ (∀ y, y ∉ N → v y = 0) ∧ ∀ c, c < 48 → w c = q_w C c + v (c / 8)) ∧
  (∀ c, c < 48 → c % 8 ≠ 0 → q_off A c → q_off A (c - 1) → b c = b (c - 1)) ∧
  (hc = 0 → h = 0) ∧
  (hc = 0 → ∀ c, c < 48 → -(4 * (f : Int)) ≤ b c) ∧
  (k = 0 → wp = 0 → f ≤ 1 → hc ≤ 1 → (f = 0 → ∀ c, c < 48 → b c = 0) ∧ (q_al A b ∨ (hc = 1 ∧ q_be b h) ∨ (hc = 1 ∧ q_ga b)))
section Inv
variable {A C : List q_P} {f k hc wp : Nat} {w b sg : Nat → Int} {h : Int} {pk : Nat → Bool}
theorem q_noff {c : Nat} (g : ¬ q_off A c) : ∃ p, p ∈ A ∧ q_cov p.1 p.2.1 c = true := by
  refine Classical.byContradiction fun hn => g fun p hp => ?_
  cases e : q_cov p.1 p.2.1 c
  · rfl
  · exact absurd ⟨p, hp, e⟩ hn
/-- a peak with a left neighbour has a supporter -/
theorem q_sup (hI : q_Inv A C f k hc wp w b h) (hs : ∀ c, c < 48 → sg c = h + w c - b c) (hP : q_Pk sg pk) {c : Nat} (hc48 : c < 48) (hx : c % 8 ≠ 0) (e : pk c = true) : ((∃ p, p ∈ A ∧ q_S c p = true) ∧ ¬ q_ga b) ∨ ∃ p, p ∈ C ∧ q_U c p = true := by
  obtain ⟨-, ⟨v, N, -, -, hw⟩, hB, -⟩ := hI
  have h1 := (hP c hc48 e).2 (c - 1) (by omega) (by unfold q_adj; omega)
  have h2 : sg (c - 1) < sg c := by omega
  rw [hs c hc48, hs (c - 1) (by omega), hw c hc48, hw (c - 1) (by omega), show (c - 1) / 8 = c / 8 by omega] at h2
  by_cases g : q_w C (c - 1) < q_w C c
  · obtain ⟨p, p1, p2⟩ := q_w_ex g
    exact Or.inr ⟨p, p1, q_b_up p2⟩
  · have hb : b c ≠ b (c - 1) := by omega
    refine Or.inl ⟨?_, fun hg => hb (hg c hc48 hx)⟩
    by_cases o1 : q_off A c
    · by_cases o2 : q_off A (c - 1)
      · exact absurd (hB c hc48 hx o1 o2) hb
      · obtain ⟨p, p1, p2⟩ := q_noff o2
        exact ⟨p, p1, by unfold q_S; rw [p2, Bool.or_true]⟩
    · obtain ⟨p, p1, p2⟩ := q_noff o1
      exact ⟨p, p1, by unfold q_S; rw [p2, Bool.true_or]⟩
/-- all four peaks of the tile row r -/
def q_four (pk : Nat → Bool) (r c0 c1 c2 c3 : Nat) : Prop := (q_in r c0 ∧ pk c0 = true) ∧ (q_in (r + 2) c1 ∧ pk c1 = true) ∧ (q_in (r + 4) c2 ∧ pk c2 = true) ∧ (q_in (r + 6) c3 ∧ pk c3 = true)
theorem q_four_of {r : Nat} (h0 : 1 ≤ q_T pk r) (h1 : 1 ≤ q_T pk (r + 2)) (h2 : 1 ≤ q_T pk (r + 4)) (h3 : 1 ≤ q_T pk (r + 6)) : ∃ c0 c1 c2 c3, q_four pk r c0 c1 c2 c3 := by
  obtain ⟨c0, a0, b0⟩ := q_T_ex h0
  obtain ⟨c1, a1, b1⟩ := q_T_ex h1
  obtain ⟨c2, a2, b2⟩ := q_T_ex h2
  obtain ⟨c3, a3, b3⟩ := q_T_ex h3
  exact ⟨c0, c1, c2, c3, ⟨a0, b0⟩, ⟨a1, b1⟩, ⟨a2, b2⟩, a3, b3⟩
theorem q_four_facts (hP : q_Pk sg pk) {r c0 c1 c2 c3 : Nat} (hr : r = 0 ∨ r = 32) (F : q_four pk r c0 c1 c2 c3) : (q_ir r c0 ∧ q_ir r c1 ∧ q_ir r c2 ∧ q_ir r c3) ∧ c1 % 8 ≠ 0 ∧ c1 % 8 + 2 ≤ c2 % 8 ∧ c2 % 8 + 2 ≤ c3 % 8 ∧ c0 % 8 + 3 ≤ c3 % 8 := by
  obtain ⟨⟨a0, b0⟩, ⟨a1, b1⟩, ⟨a2, b2⟩, a3, b3⟩ := F
  have g1 := q_gap hP (a := r + 2) (d := 2) (by omega) (by omega) (by omega) a1 (show q_in (r + 2 + 2) c2 from a2) b1 b2
  have g2 := q_gap hP (a := r + 4) (d := 2) (by omega) (by omega) (by omega) a2 (show q_in (r + 4 + 2) c3 from a3) b2 b3
  unfold q_in at a0 a1 a2 a3
  unfold q_ir
  omega
/-- what serves a whole tile row -/
theorem q_serve (hI : q_Inv A C f k hc wp w b h) (hs : ∀ c, c < 48 → sg c = h + w c - b c) (hP : q_Pk sg pk) {r c0 c1 c2 c3 : Nat} (hr : r = 0 ∨ r = 32) (F : q_four pk r c0 c1 c2 c3) :
    3 ≤ 2 * A.countP (q_G r) + C.countP (q_G r) ∧ (q_ga b → 3 ≤ C.countP (q_G r)) ∧ ((∀ c, c < 48 → q_ir r c → q_off C c → sg c < 20) → 2 ≤ C.countP (q_G r)) := by
  obtain ⟨⟨i0, i1, i2, i3⟩, x1, g1, g2, g3⟩ := q_four_facts hP hr F
  obtain ⟨⟨a0, b0⟩, ⟨a1, b1⟩, ⟨a2, b2⟩, a3, b3⟩ := F
  have l : ∀ {c}, q_ir r c → c < 48 := by intro c hc; unfold q_ir at hc; omega
  have s1 := q_sup hI hs hP (l i1) x1 b1
  have s2 := q_sup hI hs hP (l i2) (by omega) b2
  have s3 := q_sup hI hs hP (l i3) (by omega) b3
  refine ⟨q_three hr i1 i2 i3 x1 g1 g2 (s1.imp And.left id) (s2.imp And.left id) (s3.imp And.left id), fun hg => ?_, fun hn => ?_⟩
  · have z : ∀ {P Q R : Prop}, (P ∧ ¬ q_ga b) ∨ R → (Q ∨ R) := fun q => q.elim (fun q => absurd hg q.2) Or.inr
    have := q_three (A := []) (C := C) hr i1 i2 i3 x1 g1 g2 (z s1) (z s2) (z s3)
    simpa using this
  · have cov : ∀ {c}, q_ir r c → pk c = true → ∃ p, p ∈ C ∧ q_C c p = true := by
      intro c hc e
      refine q_noff fun ho => ?_
      have h1 := hn c (l hc) hc ho
      have h2 := (hP c (l hc) e).1
      omega
    exact q_cold hr i0 i3 g3 (cov i0 b0) (cov i3 b3)
end Inv
/-! two presses for each of the tile rows 0 and 2, at least one of each ahead of the frame: never -/
theorem q_su_A {p : q_P} {c q : Nat} (h : p.1 < 8 ∧ p.2.1 < 6) (e : q_cov p.1 p.2.1 q = true) : q_su (8 * p.2.1 + p.1) c q = true := by
  unfold q_su
  rw [if_pos (by omega), show (8 * p.2.1 + p.1) % 8 = p.1 by omega, show (8 * p.2.1 + p.1) / 8 = p.2.1 by omega]
  exact e
theorem q_su_C {p : q_P} {c q : Nat} (h : p.1 < 8 ∧ p.2.1 < 6) (e : q_up p.1 p.2.1 c q = true) : q_su (8 * p.2.1 + p.1 + 48) c q = true := by
  unfold q_su
  rw [if_neg (by omega), show (8 * p.2.1 + p.1 + 48) % 8 = p.1 by omega, show (8 * p.2.1 + p.1 + 48) / 8 - 6 = p.2.1 by omega]
  exact e
theorem q_cell_of {t u c : Nat} (hs : ∀ q, q_pre c q = true → q_su t c q = true ∨ q_su u c q = true) : q_cell t u c = true := by
  have hp : ∀ q, q < c → c / 8 ≤ q / 8 + 1 → c % 8 ≤ q % 8 + 1 → q % 8 ≤ c % 8 + 1 → (q_su t c q || q_su u c q) = true := by
    intro q h1 h2 h3 h4
    rw [Bool.or_eq_true]
    refine hs q ?_
    unfold q_pre
    simp only [Bool.and_eq_true, decide_eq_true_eq]
    exact ⟨⟨⟨h1, h2⟩, h3⟩, h4⟩
  unfold q_cell
  simp only [Bool.and_eq_true]
  refine ⟨⟨⟨?_, ?_⟩, ?_⟩, ?_⟩
  · by_cases e : c % 8 = 0
    · simp [e]
    · rw [Bool.or_assoc, hp (c - 1) (by omega) (by omega) (by omega) (by omega), Bool.or_true]
  · by_cases e : c % 8 = 0
    · simp [e]
    · by_cases e2 : c / 8 = 0
      · simp [e2]
      · rw [Bool.or_assoc, hp (c - 9) (by omega) (by omega) (by omega) (by omega), Bool.or_true]
  · by_cases e2 : c / 8 = 0
    · simp [e2]
    · rw [Bool.or_assoc, hp (c - 8) (by omega) (by omega) (by omega) (by omega), Bool.or_true]
  · by_cases e : c % 8 = 7
    · simp [e]
    · by_cases e2 : c / 8 = 0
      · simp [e2]
      · rw [Bool.or_assoc, hp (c - 7) (by omega) (by omega) (by omega) (by omega), Bool.or_true]
theorem q_tile_of {t u a c : Nat} (h : q_in a c) (e : q_cell t u c = true) : q_tile t u a = true := by
  unfold q_tile
  rcases h with rfl | rfl | rfl | rfl <;> simp [e]
theorem q_row_of {t u r c0 c1 c2 c3 : Nat} {pk : Nat → Bool} (F : q_four pk r c0 c1 c2 c3) (hs : ∀ c, pk c = true → q_ir r c → ∀ q, q_pre c q = true → q_su t c q = true ∨ q_su u c q = true) (ir : q_ir r c0 ∧ q_ir r c1 ∧ q_ir r c2 ∧ q_ir r c3) : q_row t u r = true := by
  obtain ⟨⟨a0, b0⟩, ⟨a1, b1⟩, ⟨a2, b2⟩, a3, b3⟩ := F
  unfold q_row
  rw [q_tile_of a0 (q_cell_of (hs _ b0 ir.1)), q_tile_of a1 (q_cell_of (hs _ b1 ir.2.1)), q_tile_of a2 (q_cell_of (hs _ b2 ir.2.2.1)), q_tile_of a3 (q_cell_of (hs _ b3 ir.2.2.2))]
  rfl
section Pair
variable {AG CG : List q_P} {r c0 c1 c2 c3 : Nat} {pk : Nat → Bool}
theorem q_pair (F : q_four pk r c0 c1 c2 c3) (ir : q_ir r c0 ∧ q_ir r c1 ∧ q_ir r c2 ∧ q_ir r c3) (hl : AG.length + CG.length = 2) (h1 : 1 ≤ AG.length) (fA : q_fin AG) (fC : q_fin CG)
    (hs : ∀ c, pk c = true → q_ir r c → ∀ q, q_pre c q = true → (∃ p, p ∈ AG ∧ q_cov p.1 p.2.1 q = true) ∨ ∃ p, p ∈ CG ∧ q_up p.1 p.2.1 c q = true) :
    (∃ p p', AG = [p, p'] ∧ q_row (8 * p.2.1 + p.1) (8 * p'.2.1 + p'.1) r = true) ∨ ∃ p p', AG = [p] ∧ CG = [p'] ∧ q_row (8 * p.2.1 + p.1) (8 * p'.2.1 + p'.1 + 48) r = true := by
  match AG, CG, hl, h1, fA, fC, hs with
  | [p], [p'], _, _, fA, fC, hs =>
    refine Or.inr ⟨p, p', rfl, rfl, q_row_of F (fun c e hc q hq => ?_) ir⟩
    rcases hs c e hc q hq with ⟨a, a1, a2⟩ | ⟨a, a1, a2⟩
    · rw [List.mem_singleton] at a1
      subst a1
      exact Or.inl (q_su_A (fA _ List.mem_cons_self) a2)
    · rw [List.mem_singleton] at a1
      subst a1
      exact Or.inr (q_su_C (fC _ List.mem_cons_self) a2)
  | [p, p'], [], _, _, fA, fC, hs =>
    refine Or.inl ⟨p, p', rfl, q_row_of F (fun c e hc q hq => ?_) ir⟩
    rcases hs c e hc q hq with ⟨a, a1, a2⟩ | ⟨a, a1, a2⟩
    · rcases List.mem_cons.mp a1 with a1 | a1
      · subst a1
        exact Or.inl (q_su_A (fA _ List.mem_cons_self) a2)
      · rw [List.mem_singleton] at a1
        subst a1
        exact Or.inr (q_su_A (fA _ (List.mem_cons_of_mem _ List.mem_cons_self)) a2)
    · cases a1
  | [], _, _, h1, _, _, _ => simp at h1
  | [p], [], hl, _, _, _, _ => simp at hl
  | [p], _ :: _ :: _, hl, _, _, _, _ => simp at hl; omega
  | _ :: _ :: _ :: _, _, hl, _, _, _, _ => simp at hl; omega
  | [p, p'], _ :: _, hl, _, _, _, _ => simp at hl
end Pair
section Fin
variable {A C : List q_P} {f k hc wp : Nat} {w b sg : Nat → Int} {h : Int} {pk : Nat → Bool}
theorem q_sup2 (hI : q_Inv A C f 0 hc wp w b h) (ha : q_al A b) (hs : ∀ c, c < 48 → sg c = h + w c - b c) (hP : q_Pk sg pk) {c q : Nat} (hc48 : c < 48) (e : pk c = true) (hq : q_pre c q = true) : (∃ p, p ∈ A ∧ q_cov p.1 p.2.1 q = true) ∨ ∃ p, p ∈ C ∧ q_up p.1 p.2.1 c q = true := by
  obtain ⟨-, ⟨v, N, hN, hv, hw⟩, -⟩ := hI
  have hv0 : ∀ y, v y = 0 := by
    intro y
    refine hv y ?_
    rw [List.length_eq_zero_iff.mp (by omega : N.length = 0)]
    simp
  unfold q_pre at hq
  simp only [Bool.and_eq_true, decide_eq_true_eq] at hq
  have h1 := (hP c hc48 e).2 q (by omega) (by unfold q_adj; omega)
  have h2 : sg q < sg c := by omega
  by_cases o : q_off A q
  · refine Or.inr ?_
    rw [hs c hc48, hs q (by omega), hw c hc48, hw q (by omega), hv0, hv0, (ha q (by omega)).2 o] at h2
    have h3 := (ha c hc48).1
    obtain ⟨p, p1, p2⟩ := q_w_ex (L := C) (c := c) (q := q) (by omega)
    exact ⟨p, p1, q_b_up p2⟩
  · exact Or.inl (q_noff o)
theorem q_G0 {p : q_P} : q_G 0 p = true ↔ p.2.1 ≤ 2 := by
  unfold q_G
  simp
theorem q_G32 {p : q_P} : q_G 32 p = true ↔ 3 ≤ p.2.1 := by
  unfold q_G
  simp
  omega
theorem q_never (hI : q_Inv A C f 0 hc wp w b h) (ha : q_al A b) (hs : ∀ c, c < 48 → sg c = h + w c - b c) (hP : q_Pk sg pk) {c0 c1 c2 c3 d0 d1 d2 d3 : Nat} (F : q_four pk 0 c0 c1 c2 c3) (F2 : q_four pk 32 d0 d1 d2 d3)
    (n1 : A.countP (q_G 0) + C.countP (q_G 0) = 2) (n2 : A.countP (q_G 32) + C.countP (q_G 32) = 2) (m1 : 1 ≤ A.countP (q_G 0)) (m2 : 1 ≤ A.countP (q_G 32)) : False := by
  have ir := (q_four_facts hP (Or.inl rfl) F).1
  have ir2 := (q_four_facts hP (Or.inr rfl) F2).1
  have fA := hI.1.1
  have fC := hI.1.2
  rw [List.countP_eq_length_filter, List.countP_eq_length_filter] at n1 n2
  rw [List.countP_eq_length_filter] at m1 m2
  have ff : ∀ {L : List q_P} {r}, q_fin L → q_fin (L.filter (q_G r)) := fun hL p hp => hL p (List.mem_filter.mp hp).1
  have h1 := q_pair F ir n1 m1 (ff fA) (ff fC) (fun c e hc q hq => by
    unfold q_ir at hc
    have hq2 := hq
    unfold q_pre at hq2
    simp only [Bool.and_eq_true, decide_eq_true_eq] at hq2
    rcases q_sup2 hI ha hs hP (by omega) e hq with ⟨p, p1, p2⟩ | ⟨p, p1, p2⟩
    · refine Or.inl ⟨p, List.mem_filter.mpr ⟨p1, q_G0.mpr ?_⟩, p2⟩
      rw [q_cov_iff] at p2
      omega
    · refine Or.inr ⟨p, List.mem_filter.mpr ⟨p1, q_G0.mpr ?_⟩, p2⟩
      have p3 := q_cov_iff.mp (q_up_iff.mp p2).1
      omega)
  have k1 : ∀ p, p ∈ A → p.2.1 ≤ 2 → p.2.1 ≤ 1 := by
    intro p hp hy
    have hm : p ∈ A.filter (q_G 0) := List.mem_filter.mpr ⟨hp, q_G0.mpr hy⟩
    rcases h1 with ⟨a, a', e, er⟩ | ⟨a, a', e, e', er⟩
    · have ma : a ∈ A ∧ q_G 0 a = true := List.mem_filter.mp (by rw [e]; exact List.mem_cons_self)
      have ma' : a' ∈ A ∧ q_G 0 a' = true := List.mem_filter.mp (by rw [e]; exact List.mem_cons_of_mem _ List.mem_cons_self)
      have b1 := q_G0.mp ma.2
      have b2 := q_G0.mp ma'.2
      have b3 := fA a ma.1
      have b4 := fA a' ma'.1
      have ch := q_all_at (q_all_at q_ok1 (i := 8 * a.2.1 + a.1) (by omega) (by omega)) (i := 8 * a'.2.1 + a'.1) (by omega) (by omega)
      rw [er] at ch
      simp at ch
      rw [e] at hm
      rcases List.mem_cons.mp hm with hm | hm
      · subst hm; omega
      · rw [List.mem_singleton] at hm
        subst hm
        omega
    · have ma : a ∈ A ∧ q_G 0 a = true := List.mem_filter.mp (by rw [e]; exact List.mem_cons_self)
      have ma' : a' ∈ C ∧ q_G 0 a' = true := List.mem_filter.mp (by rw [e']; exact List.mem_cons_self)
      have b1 := q_G0.mp ma.2
      have b2 := q_G0.mp ma'.2
      have b3 := fA a ma.1
      have b4 := fC a' ma'.1
      have ch := q_all_at (q_all_at q_ok1 (i := 8 * a.2.1 + a.1) (by omega) (by omega)) (i := 8 * a'.2.1 + a'.1) (by omega) (by omega)
      rw [er] at ch
      simp at ch
      rw [e] at hm
      rw [List.mem_singleton] at hm
      subst hm
      omega
  have h2 := q_pair F2 ir2 n2 m2 (ff fA) (ff fC) (fun c e hc q hq => by
    unfold q_ir at hc
    have hq2 := hq
    unfold q_pre at hq2
    simp only [Bool.and_eq_true, decide_eq_true_eq] at hq2
    rcases q_sup2 hI ha hs hP (by omega) e hq with ⟨p, p1, p2⟩ | ⟨p, p1, p2⟩
    · refine Or.inl ⟨p, List.mem_filter.mpr ⟨p1, q_G32.mpr ?_⟩, p2⟩
      rw [q_cov_iff] at p2
      have := k1 p p1
      omega
    · refine Or.inr ⟨p, List.mem_filter.mpr ⟨p1, q_G32.mpr ?_⟩, p2⟩
      have p3 := q_cov_iff.mp (q_up_iff.mp p2).1
      omega)
  rcases h2 with ⟨a, a', e, er⟩ | ⟨a, a', e, e', er⟩
  · have ma : a ∈ A ∧ q_G 32 a = true := List.mem_filter.mp (by rw [e]; exact List.mem_cons_self)
    have ma' : a' ∈ A ∧ q_G 32 a' = true := List.mem_filter.mp (by rw [e]; exact List.mem_cons_of_mem _ List.mem_cons_self)
    have b1 := q_G32.mp ma.2
    have b2 := q_G32.mp ma'.2
    have b3 := fA a ma.1
    have b4 := fA a' ma'.1
    have ch := q_all_at (q_all_at q_ok2 (i := 8 * a.2.1 + a.1) (by omega) (by omega)) (i := 8 * a'.2.1 + a'.1) (by omega) (by omega)
    rw [er] at ch
    simp at ch
  · have ma : a ∈ A ∧ q_G 32 a = true := List.mem_filter.mp (by rw [e]; exact List.mem_cons_self)
    have ma' : a' ∈ C ∧ q_G 32 a' = true := List.mem_filter.mp (by rw [e']; exact List.mem_cons_self)
    have b1 := q_G32.mp ma.2
    have b2 := q_G32.mp ma'.2
    have b3 := fA a ma.1
    have b4 := fC a' ma'.1
    have ch := q_all_at (q_all_at q_ok2 (i := 8 * a.2.1 + a.1) (by omega) (by omega)) (i := 8 * a'.2.1 + a'.1) (by omega) (by omega)
    rw [er] at ch
    simp at ch
end Fin
section Main
variable {A C : List q_P} {f k hc wp : Nat} {w b sg : Nat → Int} {h : Int} {pk : Nat → Bool}
/-- where no press waits, and no noise was in the row, nothing is touched: without heat -/
theorem q_cool (hI : q_Inv A C f k hc wp w b h) (hs : ∀ c, c < 48 → sg c = h + w c - b c) (h0 : hc = 0) (hf : f ≤ 4) (hk : k ≤ 1) :
    (∀ c, c < 48 → q_ir 0 c → q_off C c → sg c < 20) ∨ (∀ c, c < 48 → q_ir 32 c → q_off C c → sg c < 20) := by
  obtain ⟨-, ⟨v, N, hN, hv, hw⟩, -, hh, hb, -⟩ := hI
  have key : ∀ r, (∀ c, q_ir r c → v (c / 8) = 0) → ∀ c, c < 48 → q_ir r c → q_off C c → sg c < 20 := by
    intro r hr c hc48 hc2 ho
    have := hb h0 c hc48
    rw [hs c hc48, hw c hc48, hh h0, q_w_0 ho, hr c hc2]
    omega
  have hN1 : N.length ≤ 1 := by omega
  match N, hN1, hv with
  | [], _, hv => exact Or.inl (key 0 fun c _ => hv _ (by simp))
  | [y], _, hv =>
    by_cases e : y ≤ 1
    · refine Or.inr (key 32 fun c hc2 => hv _ ?_)
      unfold q_ir at hc2
      rw [List.mem_singleton]
      omega
    · refine Or.inl (key 0 fun c hc2 => hv _ ?_)
      unfold q_ir at hc2
      rw [List.mem_singleton]
      omega
  | _ :: _ :: _, hN1, _ => simp at hN1
theorem q_cool0 (hI : q_Inv A C f 0 hc wp w b h) (hs : ∀ c, c < 48 → sg c = h + w c - b c) (hq : ∀ c, c < 48 → h - b c ≤ 19) (r : Nat) : ∀ c, c < 48 → q_ir r c → q_off C c → sg c < 20 := by
  obtain ⟨-, ⟨v, N, hN, hv, hw⟩, -⟩ := hI
  intro c hc48 _ ho
  have hv0 : v (c / 8) = 0 := by
    refine hv _ ?_
    rw [List.length_eq_zero_iff.mp (by omega : N.length = 0)]
    simp
  have := hq c hc48
  rw [hs c hc48, hw c hc48, q_w_0 ho, hv0]
  omega
theorem q_12 (hI : q_Inv A C f k hc wp w b h) (hs : ∀ c, c < 48 → sg c = h + w c - b c) (hP : q_Pk sg pk) (hn : A.length + C.length + f + k + hc + wp ≤ 6) (hf : 1 ≤ f) : q_n pk 48 ≤ 11 := by
  refine Nat.le_of_not_lt fun hlt => ?_
  rw [q_T_sum] at hlt
  have t := fun a h1 h2 => q_T_le hP (a := a) h1 h2
  have t0 := t 0 (by omega) (by omega)
  have t1 := t 2 (by omega) (by omega)
  have t2 := t 4 (by omega) (by omega)
  have t3 := t 6 (by omega) (by omega)
  have t4 := t 16 (by omega) (by omega)
  have t5 := t 18 (by omega) (by omega)
  have t6 := t 20 (by omega) (by omega)
  have t7 := t 22 (by omega) (by omega)
  have t8 := t 32 (by omega) (by omega)
  have t9 := t 34 (by omega) (by omega)
  have t10 := t 36 (by omega) (by omega)
  have t11 := t 38 (by omega) (by omega)
  obtain ⟨c0, c1, c2, c3, F⟩ := q_four_of (pk := pk) (r := 0) (by omega) (show 1 ≤ q_T pk 2 by omega) (show 1 ≤ q_T pk 4 by omega) (show 1 ≤ q_T pk 6 by omega)
  obtain ⟨d0, d1, d2, d3, F2⟩ := q_four_of (pk := pk) (r := 32) (by omega) (show 1 ≤ q_T pk 34 by omega) (show 1 ≤ q_T pk 36 by omega) (show 1 ≤ q_T pk 38 by omega)
  obtain ⟨u1, u2, u3⟩ := q_serve hI hs hP (Or.inl rfl) F
  obtain ⟨v1, v2, v3⟩ := q_serve hI hs hP (Or.inr rfl) F2
  have lA := q_len (A := A)
  have lC := q_len (A := C)
  by_cases h0 : hc = 0
  · rcases q_cool hI hs h0 (by omega) (by omega) with g | g
    · have u4 := u3 g
      by_cases hk : k = 0
      · subst hk
        have hh := hI.2.2.2.1 h0
        have hb := hI.2.2.2.2.1 h0
        have v4 := v3 (q_cool0 hI hs (fun c hc => by have := hb c hc; omega) 32)
        omega
      · omega
    · have v4 := v3 g
      by_cases hk : k = 0
      · subst hk
        have hh := hI.2.2.2.1 h0
        have hb := hI.2.2.2.2.1 h0
        have u4 := u3 (q_cool0 hI hs (fun c hc => by have := hb c hc; omega) 0)
        omega
      · omega
  · have hk : k = 0 := by omega
    subst hk
    rcases (hI.2.2.2.2.2 rfl (by omega) (by omega) (by omega)).2 with g | ⟨-, g⟩ | ⟨-, g⟩
    · exact q_never hI g hs hP F F2 (by omega) (by omega) (by omega) (by omega)
    · have u4 := u3 (q_cool0 hI hs g 0)
      have v4 := v3 (q_cool0 hI hs g 32)
      omega
    · have u4 := u2 g
      have v4 := v2 g
      omega
/-- a tile row with three peaks at least wants one press at least -/
theorem q_serve1 (hI : q_Inv A C f k hc wp w b h) (hs : ∀ c, c < 48 → sg c = h + w c - b c) (hP : q_Pk sg pk) {r : Nat} (hr : r = 0 ∨ r = 32) (t : 1 ≤ q_T pk (r + 2) ∨ 1 ≤ q_T pk (r + 4)) : 1 ≤ A.countP (q_G r) + C.countP (q_G r) := by
  rcases t with t | t
  · obtain ⟨c, a, e⟩ := q_T_ex t
    unfold q_in at a
    exact q_one hr (by unfold q_ir; omega) (by omega) ((q_sup hI hs hP (by omega) (by omega) e).imp And.left id)
  · obtain ⟨c, a, e⟩ := q_T_ex t
    unfold q_in at a
    exact q_one hr (by unfold q_ir; omega) (by omega) ((q_sup hI hs hP (by omega) (by omega) e).imp And.left id)
theorem q_11 (hI : q_Inv A C f k hc wp w b h) (hs : ∀ c, c < 48 → sg c = h + w c - b c) (hP : q_Pk sg pk) (hn : A.length + C.length + f + k + hc + wp ≤ 4) (hf : 1 ≤ f) : q_n pk 48 ≤ 10 := by
  refine Nat.le_of_not_lt fun hlt => ?_
  rw [q_T_sum] at hlt
  have t := fun a h1 h2 => q_T_le hP (a := a) h1 h2
  have t0 := t 0 (by omega) (by omega)
  have t1 := t 2 (by omega) (by omega)
  have t2 := t 4 (by omega) (by omega)
  have t3 := t 6 (by omega) (by omega)
  have t4 := t 16 (by omega) (by omega)
  have t5 := t 18 (by omega) (by omega)
  have t6 := t 20 (by omega) (by omega)
  have t7 := t 22 (by omega) (by omega)
  have t8 := t 32 (by omega) (by omega)
  have t9 := t 34 (by omega) (by omega)
  have t10 := t 36 (by omega) (by omega)
  have t11 := t 38 (by omega) (by omega)
  have lA := q_len (A := A)
  have lC := q_len (A := C)
  have w0 := q_serve1 hI hs hP (r := 0) (Or.inl rfl) (show 1 ≤ q_T pk 2 ∨ 1 ≤ q_T pk 4 by omega)
  have w2 := q_serve1 hI hs hP (r := 32) (Or.inr rfl) (show 1 ≤ q_T pk 34 ∨ 1 ≤ q_T pk 36 by omega)
  by_cases q : q_T pk 0 + q_T pk 2 + q_T pk 4 + q_T pk 6 = 4
  · obtain ⟨c0, c1, c2, c3, F⟩ := q_four_of (pk := pk) (r := 0) (by omega) (show 1 ≤ q_T pk 2 by omega) (show 1 ≤ q_T pk 4 by omega) (show 1 ≤ q_T pk 6 by omega)
    obtain ⟨u1, u2, u3⟩ := q_serve hI hs hP (Or.inl rfl) F
    have h0 : hc = 0 := by omega
    have hk : k = 0 := by omega
    subst hk
    have hh := hI.2.2.2.1 h0
    have hb := hI.2.2.2.2.1 h0
    have u4 := u3 (q_cool0 hI hs (fun c hc => by have := hb c hc; omega) 0)
    omega
  · obtain ⟨c0, c1, c2, c3, F⟩ := q_four_of (pk := pk) (r := 32) (by omega) (show 1 ≤ q_T pk 34 by omega) (show 1 ≤ q_T pk 36 by omega) (show 1 ≤ q_T pk 38 by omega)
    obtain ⟨u1, u2, u3⟩ := q_serve hI hs hP (Or.inr rfl) F
    have h0 : hc = 0 := by omega
    have hk : k = 0 := by omega
    subst hk
    have hh := hI.2.2.2.1 h0
    have hb := hI.2.2.2.2.1 h0
    have u4 := u3 (q_cool0 hI hs (fun c hc => by have := hb c hc; omega) 32)
    omega
/-- no more than one peak a tile -/
theorem q_le12 (hP : q_Pk sg pk) : q_n pk 48 ≤ 12 := by
  rw [q_T_sum]
  have t := fun a h1 h2 => q_T_le hP (a := a) h1 h2
  have t0 := t 0 (by omega) (by omega)
  have t1 := t 2 (by omega) (by omega)
  have t2 := t 4 (by omega) (by omega)
  have t3 := t 6 (by omega) (by omega)
  have t4 := t 16 (by omega) (by omega)
  have t5 := t 18 (by omega) (by omega)
  have t6 := t 20 (by omega) (by omega)
  have t7 := t 22 (by omega) (by omega)
  have t8 := t 32 (by omega) (by omega)
  have t9 := t 34 (by omega) (by omega)
  have t10 := t 36 (by omega) (by omega)
  have t11 := t 38 (by omega) (by omega)
  omega
end Main
/-! the calls' steps -/
def q_step (s : Int) : Int := if -10 < s then (if s < 10 then (if 0 < s then 1 else if s = 0 then 0 else -1) else 4) else -4
theorem q_step_ge {s : Int} : -4 ≤ q_step s := by unfold q_step; omega
theorem q_step_nn {s : Int} (h : 0 ≤ s) : 0 ≤ q_step s := by unfold q_step; omega
theorem q_step_0 : q_step 0 = 0 := rfl
section Steps
variable {A C : List q_P} {f k hc wp : Nat} {w b w' b' : Nat → Int} {h : Int}
theorem q_Inv_init (hw : ∀ c, c < 48 → w c = 0) (hb : ∀ c, c < 48 → b c = 0) : q_Inv [] [] 0 0 0 0 w b 0 := by
  refine ⟨⟨fun p hp => by simp at hp, fun p hp => by simp at hp⟩, ⟨fun _ => 0, [], by simp, fun _ _ => rfl, fun c hc => ?_⟩, fun c hc hx _ _ => ?_, fun _ => rfl, fun _ c hc => ?_, fun _ _ _ _ => ⟨fun _ => hb, Or.inl fun c hc => ⟨?_, fun _ => hb c hc⟩⟩⟩
  · rw [hw c hc]; rfl
  · rw [hb c hc, hb (c - 1) (by omega)]
  · rw [hb c hc]; decide
  · rw [hb c hc]; decide
theorem q_Inv_press (hI : q_Inv A C f k hc wp w b h) {p : q_P} (hp : p.1 < 8 ∧ p.2.1 < 6) (hw : ∀ c, c < 48 → w' c = w c + (q_b p c : Int)) : q_Inv A (p :: C) f k hc wp w' b h := by
  obtain ⟨⟨h1, h2⟩, ⟨v, N, hN, hv, hq⟩, h4⟩ := hI
  refine ⟨⟨h1, fun p' hp' => ?_⟩, ⟨v, N, hN, hv, fun c hc => ?_⟩, h4⟩
  · rcases List.mem_cons.mp hp' with e | e
    · rw [e]; exact hp
    · exact h2 p' e
  · rw [hw c hc, hq c hc, show q_w (p :: C) c = (q_b p c : Int) + q_w C c from rfl]
    omega
theorem q_Inv_noise (hI : q_Inv A C f k hc wp w b h) {y : Nat} {mu : Int} (hw : ∀ c, c < 48 → w' c = if c / 8 = y then w c + mu else w c) : q_Inv A C f (k + 1) hc wp w' b h := by
  obtain ⟨h1, ⟨v, N, hN, hv, hq⟩, h3, h4, h5, h6⟩ := hI
  refine ⟨h1, ⟨fun z => if z = y then v z + mu else v z, y :: N, by simp; omega, fun z hz => ?_, fun c hc => ?_⟩, h3, h4, h5, fun e => by omega⟩
  · rw [List.mem_cons, not_or] at hz
    show (if z = y then v z + mu else v z) = 0
    rw [if_neg hz.1]
    exact hv z hz.2
  · rw [hw c hc, hq c hc]
    show _ = q_w C c + (if c / 8 = y then v (c / 8) + mu else v (c / 8))
    split <;> omega
theorem q_Inv_heat (hI : q_Inv A C f k hc wp w b h) {h' : Int} : q_Inv A C f k (hc + 1) wp w b h' := by
  obtain ⟨h1, h2, h3, h4, h5, h6⟩ := hI
  refine ⟨h1, h2, h3, fun e => by omega, fun e => by omega, fun a1 a2 a3 a4 => ?_⟩
  obtain ⟨g1, g2⟩ := h6 a1 a2 a3 (by omega)
  refine ⟨g1, ?_⟩
  rcases g2 with g | ⟨e, -⟩ | ⟨e, -⟩
  · exact Or.inl g
  · omega
  · omega
theorem q_off_app {L M : List q_P} {c : Nat} : q_off (L ++ M) c → q_off L c ∧ q_off M c := fun g => ⟨fun p hp => g p (List.mem_append_left _ hp), fun p hp => g p (List.mem_append_right _ hp)⟩
theorem q_fin_app {L M : List q_P} (hL : q_fin L) (hM : q_fin M) : q_fin (L ++ M) := fun p hp => (List.mem_append.mp hp).elim (hL p) (hM p)
theorem q_Inv_wipe (hI : q_Inv A C f k hc wp w b h) (hw : ∀ c, c < 48 → w' c = 0) (hb : ∀ c, c < 48 → b' c = h) : q_Inv (C ++ A) [] f k hc (wp + 1) w' b' h := by
  obtain ⟨⟨h1, h2⟩, -, h3, h4, h5, h6⟩ := hI
  refine ⟨⟨q_fin_app h2 h1, fun p hp => by simp at hp⟩, ⟨fun _ => 0, [], by simp, fun _ _ => rfl, fun c hc => ?_⟩, fun c hc hx _ _ => ?_, h4, fun e c hc => ?_, fun _ e => by omega⟩
  · rw [hw c hc]; rfl
  · rw [hb c hc, hb (c - 1) (by omega)]
  · rw [hb c hc, h4 e]; omega
theorem q_Inv_frame (hI : q_Inv A C f k hc wp w b h) {sg d : Nat → Int} (hs : ∀ c, c < 48 → sg c = h + w c - b c) (hw : ∀ c, c < 48 → w' c = 0) (hb : ∀ c, c < 48 → b' c = b c + d c)
    (d1 : ∀ c, c < 48 → sg c < 20 → d c = q_step (sg c)) (d2 : ∀ c, c < 48 → 20 ≤ sg c → d c = 0 ∨ d c = 4) (d3 : ∀ c, c < 48 → c % 8 ≠ 0 → 20 ≤ sg c → 20 ≤ sg (c - 1) → d c = d (c - 1)) : q_Inv (C ++ A) [] (f + 1) k hc wp w' b' h := by
  obtain ⟨⟨h1, h2⟩, ⟨v, N, hN, hv, hq⟩, h3, h4, h5, h6⟩ := hI
  have dg : ∀ c, c < 48 → -4 ≤ d c := by
    intro c hc
    by_cases e : sg c < 20
    · rw [d1 c hc e]; exact q_step_ge
    · rcases d2 c hc (by omega) with g | g <;> omega
  have dn : ∀ c, c < 48 → 0 ≤ sg c → 0 ≤ d c := by
    intro c hc h0
    by_cases e : sg c < 20
    · rw [d1 c hc e]; exact q_step_nn h0
    · rcases d2 c hc (by omega) with g | g <;> omega
  refine ⟨⟨q_fin_app h2 h1, fun p hp => by simp at hp⟩, ⟨fun _ => 0, [], by simp, fun _ _ => rfl, fun c hc => by rw [hw c hc]; rfl⟩, fun c hc hx o1 o2 => ?_, h4, fun e c hc => ?_, fun a1 a2 a3 a4 => ⟨fun e => by omega, ?_⟩⟩
  · obtain ⟨p1, p2⟩ := q_off_app o1
    obtain ⟨r1, r2⟩ := q_off_app o2
    have e1 := h3 c hc hx p2 r2
    have e2 : sg c = sg (c - 1) := by
      rw [hs c hc, hs (c - 1) (by omega), hq c hc, hq (c - 1) (by omega), q_w_0 p1, q_w_0 r1, e1, show (c - 1) / 8 = c / 8 by omega]
    have e3 : d c = d (c - 1) := by
      by_cases g : sg c < 20
      · rw [d1 c hc g, d1 (c - 1) (by omega) (by omega), e2]
      · exact d3 c hc hx (by omega) (by omega)
    rw [hb c hc, hb (c - 1) (by omega), e1, e3]
  · have := h5 e c hc
    have := dg c hc
    rw [hb c hc]
    omega
  · have f0 : f = 0 := by omega
    subst f0
    have b0 := (h6 a1 a2 (by omega) a4).1 rfl
    have v0 : ∀ y, v y = 0 := by
      intro y
      refine hv y ?_
      rw [List.length_eq_zero_iff.mp (by omega : N.length = 0)]
      simp
    have s0 : ∀ c, c < 48 → sg c = h + q_w C c := by
      intro c hc
      rw [hs c hc, hq c hc, b0 c hc, v0]
      omega
    by_cases c0 : hc = 0
    · have hh := h4 c0
      refine Or.inl fun c hc => ⟨?_, fun o => ?_⟩
      · have := dn c hc (by rw [s0 c hc, hh]; have := q_w_nn (c := c) (L := C); omega)
        rw [hb c hc, b0 c hc]
        omega
      · have e := s0 c hc
        rw [q_w_0 (q_off_app o).1, hh] at e
        rw [hb c hc, b0 c hc, d1 c hc (by omega), e]
        rfl
    · have c1 : hc = 1 := by omega
      by_cases g : h ≤ 19
      · refine Or.inr (Or.inl ⟨c1, fun c hc => ?_⟩)
        have := q_w_nn (c := c) (L := C)
        have e := s0 c hc
        rw [hb c hc, b0 c hc]
        by_cases g2 : 0 ≤ h
        · have := dn c hc (by omega)
          omega
        · have := dg c hc
          omega
      · refine Or.inr (Or.inr ⟨c1, fun c hc hx => ?_⟩)
        have q1 := q_w_nn (c := c) (L := C)
        have q2 := q_w_nn (c := c - 1) (L := C)
        have e1 := s0 c hc
        have e2 := s0 (c - 1) (by omega)
        rw [hb c hc, b0 c hc, hb (c - 1) (by omega), b0 (c - 1) (by omega), d3 c hc hx (by omega) (by omega)]
end Steps
