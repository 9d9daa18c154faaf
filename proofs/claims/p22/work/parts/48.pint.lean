/-! ===== sheets of Int32 under the calls ===== -/
theorem q_add {a b : Int32} (h1 : -2147483648 ≤ a.toInt + b.toInt) (h2 : a.toInt + b.toInt < 2147483648) : (a + b).toInt = a.toInt + b.toInt := by
  rw [Int32.toInt_add, Int.bmod_eq_of_le (by omega) (by omega)]
theorem q_sub {a b : Int32} (h1 : -2147483648 ≤ a.toInt - b.toInt) (h2 : a.toInt - b.toInt < 2147483648) : (a - b).toInt = a.toInt - b.toInt := by
  rw [Int32.toInt_sub, Int.bmod_eq_of_le (by omega) (by omega)]
set_option maxRecDepth 100000 in
theorem q_shifts : ∀ S : Nat, S < 201 → ((nI S >>> ((0 + 0 : Int32) &&& 31)).toInt = ((S >>> (0 + 0) : Nat) : Int) ∧ (nI S >>> ((0 + 1 : Int32) &&& 31)).toInt = ((S >>> (0 + 1) : Nat) : Int)) ∧ (nI S >>> ((1 + 0 : Int32) &&& 31)).toInt = ((S >>> (1 + 0) : Nat) : Int) ∧ (nI S >>> ((1 + 1 : Int32) &&& 31)).toInt = ((S >>> (1 + 1) : Nat) : Int) := by decide +kernel
theorem q_pr {S x y j : Nat} (hS : S ≤ 200) : (m_pr (nI S) x y j).toInt = ((S >>> q_d x y j : Nat) : Int) := by
  obtain ⟨⟨h1, h2⟩, h3, h4⟩ := q_shifts S (by omega)
  unfold m_pr q_d
  by_cases a : j / 8 = y
  · by_cases b : j % 8 = x
    · rw [if_pos a, if_pos b, if_pos b, if_pos a]; exact h1
    · rw [if_pos a, if_neg b, if_neg b, if_pos a]; exact h2
  · by_cases b : j % 8 = x
    · rw [if_neg a, if_pos b, if_pos b, if_neg a]; exact h3
    · rw [if_neg a, if_neg b, if_neg b, if_neg a]; exact h4
theorem q_b_le {p : q_P} {c : Nat} : q_b p c ≤ p.2.2 := by
  unfold q_b
  split
  · rw [Nat.shiftRight_eq_div_pow]
    exact Nat.div_le_self _ _
  · omega
def q_Sh (T : Nat) (A C : List q_P) (f k hc wp : Nat) (w b : Nat → Int32) (h : Int32) : Prop :=
  q_Inv A C f k hc wp (fun c => (w c).toInt) (fun c => (b c).toInt) h.toInt ∧ (∀ c, c < 48 → (-(200 * (T : Int)) ≤ (w c).toInt ∧ (w c).toInt ≤ 200 * (T : Int)) ∧ -(4 * (T : Int) + 30) ≤ (b c).toInt ∧ (b c).toInt ≤ 4 * (T : Int) + 30) ∧ -30 ≤ h.toInt ∧ h.toInt ≤ 30
theorem q_Pk_of (sig : Nat → Int32) : q_Pk (fun c => (sig c).toInt) (m_isPk sig) := by
  intro c hc e
  unfold m_isPk at e
  rw [Bool.and_eq_true, decide_eq_true_eq, m_sum_iff] at e
  refine ⟨Int32.le_iff_toInt_le.mp e.1, fun o ho ha => ?_⟩
  have h1 := e.2 o ho ha
  unfold m_beat at h1
  rw [not_or] at h1
  have h2 := Int32.le_iff_toInt_le.mp (Int32.not_lt.mp h1.1)
  show (sig o).toInt < (sig c).toInt ∨ ((sig o).toInt = (sig c).toInt ∧ c ≤ o)
  by_cases q : sig o = sig c
  · refine Or.inr ⟨by rw [q], ?_⟩
    by_cases g : o < c
    · exact absurd ⟨q, g⟩ h1.2
    · omega
  · have : (sig o).toInt ≠ (sig c).toInt := fun g => q (Int32.toInt_inj.mp g)
    omega
section Shi
variable {T : Nat} {A C : List q_P} {f k hc wp : Nat} {w b : Nat → Int32} {h : Int32}
theorem q_Sh_sg (hS : q_Sh T A C f k hc wp w b h) (hT : T ≤ 1000) : ∀ c, c < 48 → (h + w c - b c).toInt = h.toInt + (w c).toInt - (b c).toInt := by
  intro c hc
  obtain ⟨-, h2, h3, h4⟩ := hS
  have := h2 c hc
  have e : (h + w c).toInt = h.toInt + (w c).toInt := q_add (by omega) (by omega)
  rw [q_sub (by omega) (by omega), e]
theorem q_len_n (sig : Nat → Int32) : (m_pks sig 48).length = q_n (m_isPk sig) 48 := q_n_len
theorem q_le11 (hS : q_Sh T A C f k hc wp w b h) (hT : T ≤ 1000) (hn : A.length + C.length + f + k + hc + wp ≤ 6) (hf : 1 ≤ f) : (m_pks (fun j => h + w j - b j) 48).length ≤ 11 := by
  rw [q_len_n]
  exact q_12 hS.1 (q_Sh_sg hS hT) (q_Pk_of _) hn hf
theorem q_le10 (hS : q_Sh T A C f k hc wp w b h) (hT : T ≤ 1000) (hn : A.length + C.length + f + k + hc + wp ≤ 4) (hf : 1 ≤ f) : (m_pks (fun j => h + w j - b j) 48).length ≤ 10 := by
  rw [q_len_n]
  exact q_11 hS.1 (q_Sh_sg hS hT) (q_Pk_of _) hn hf
theorem q_le12s (sig : Nat → Int32) : (m_pks sig 48).length ≤ 12 := by
  rw [q_len_n]
  exact q_le12 (q_Pk_of _)
theorem q_Sh_init : q_Sh 0 [] [] 0 0 0 0 (fun _ => 0) (fun _ => 0) 0 := by
  refine ⟨q_Inv_init (fun _ _ => rfl) (fun _ _ => rfl), fun c hc => ?_, by decide, by decide⟩
  show (-(200 * ((0 : Nat) : Int)) ≤ (0 : Int32).toInt ∧ (0 : Int32).toInt ≤ 200 * ((0 : Nat) : Int)) ∧ -(4 * ((0 : Nat) : Int) + 30) ≤ (0 : Int32).toInt ∧ (0 : Int32).toInt ≤ 4 * ((0 : Nat) : Int) + 30
  decide
theorem q_Sh.up (hS : q_Sh T A C f k hc wp w b h) : q_Sh (T + 1) A C f k hc wp w b h := by
  refine ⟨hS.1, fun c hc => ?_, hS.2.2⟩
  have := hS.2.1 c hc
  omega
theorem q_Sh_press (hS : q_Sh T A C f k hc wp w b h) (hT : T ≤ 1000) {x y S : Nat} (hx : x < 8) (hy : y < 6) (h200 : S ≤ 200) : q_Sh (T + 1) A ((x, y, S) :: C) f k hc wp (m_press w (nI S) x y) b h := by
  have key : ∀ c, c < 48 → (m_press w (nI S) x y c).toInt = (w c).toInt + (q_b (x, y, S) c : Int) := by
    intro c hc
    have hb := (hS.2.1 c hc).1
    have hl := q_b_le (p := (x, y, S)) (c := c)
    have hl2 : q_b (x, y, S) c ≤ 200 := Nat.le_trans hl h200
    unfold m_press m_pressTo
    by_cases e : q_cov x y c = true
    · have e2 := q_cov_iff.mp e
      rw [if_pos (by omega)]
      have e3 : q_b (x, y, S) c = S >>> q_d x y c := by unfold q_b; rw [if_pos e]
      have e4 := q_pr (x := x) (y := y) (j := c) h200
      rw [← e3] at e4
      rw [q_add (by omega) (by omega), e4]
    · have e2 : ¬ _ := fun g => e (q_cov_iff.mpr g)
      rw [if_neg (by omega), q_b_0 (by simpa using e)]
      simp
  refine ⟨q_Inv_press hS.1 ⟨hx, hy⟩ key, fun c hc => ?_, hS.2.2⟩
  have := hS.2.1 c hc
  have hl := q_b_le (p := (x, y, S)) (c := c)
  have hl2 : q_b (x, y, S) c ≤ 200 := Nat.le_trans hl h200
  rw [key c hc]
  omega
theorem q_Sh_noise (hS : q_Sh T A C f k hc wp w b h) (hT : T ≤ 1000) {y : Nat} {mu : Int32} (h1 : -40 ≤ mu.toInt) (h2 : mu.toInt ≤ 40) : q_Sh (T + 1) A C f (k + 1) hc wp (fun j => if j / 8 = y then w j + mu else w j) b h := by
  have key : ∀ c, c < 48 → ((fun j => if j / 8 = y then w j + mu else w j) c).toInt = if c / 8 = y then (w c).toInt + mu.toInt else (w c).toInt := by
    intro c hc
    have hb := (hS.2.1 c hc).1
    show (if c / 8 = y then w c + mu else w c).toInt = _
    split
    · rw [q_add (by omega) (by omega)]
    · rfl
  refine ⟨q_Inv_noise hS.1 key, fun c hc => ?_, hS.2.2⟩
  have := hS.2.1 c hc
  rw [key c hc]
  split <;> omega
theorem q_Sh_heat (hS : q_Sh T A C f k hc wp w b h) {h' : Int32} (h1 : -30 ≤ h'.toInt) (h2 : h'.toInt ≤ 30) : q_Sh (T + 1) A C f k (hc + 1) wp w b h' := ⟨q_Inv_heat hS.1, hS.up.2.1, h1, h2⟩
theorem q_Sh_wipe (hS : q_Sh T A C f k hc wp w b h) : q_Sh (T + 1) (C ++ A) [] f k hc (wp + 1) (fun _ => 0) (fun _ => h) h := by
  refine ⟨q_Inv_wipe hS.1 (fun _ _ => rfl) (fun _ _ => rfl), fun c hc => ?_, hS.2.2⟩
  have := hS.2.2
  show (-(200 * ((T + 1 : Nat) : Int)) ≤ (0 : Int32).toInt ∧ (0 : Int32).toInt ≤ _) ∧ -(4 * ((T + 1 : Nat) : Int) + 30) ≤ h.toInt ∧ h.toInt ≤ _
  rw [show (0 : Int32).toInt = 0 from rfl]
  omega
theorem q_m_step {s : Int32} : (m_step s).toInt = q_step s.toInt := by
  have e : ∀ {a b : Int32}, a < b ↔ a.toInt < b.toInt := Int32.lt_iff_toInt_lt
  have e2 : ∀ {a b : Int32}, a ≤ b ↔ a.toInt ≤ b.toInt := Int32.le_iff_toInt_le
  unfold m_step m_cmp q_step
  simp only [e, e2]
  rw [show (-10 : Int32).toInt = -10 from rfl, show (10 : Int32).toInt = 10 from rfl, show (0 : Int32).toInt = 0 from rfl]
  by_cases a : -10 < s.toInt
  · rw [if_pos a, if_pos a]
    by_cases b : s.toInt < 10
    · rw [if_pos b, if_pos b]
      by_cases c : 0 < s.toInt
      · rw [if_pos c, if_pos (by omega), if_neg (fun g => by rw [g] at c; exact absurd c (by decide))]
        rfl
      · rw [if_neg c]
        by_cases d : s.toInt = 0
        · have : s = 0 := Int32.toInt_inj.mp (by rw [d]; rfl)
          rw [if_pos (by omega), if_pos this, if_pos d]
          rfl
        · rw [if_neg (by omega), if_neg d]
          rfl
    · rw [if_neg b, if_neg b]
      rfl
  · rw [if_neg a, if_neg a]
    rfl
theorem q_Sh_frame (hS : q_Sh T A C f k hc wp w b h) (hT : T ≤ 1000) : q_Sh (T + 1) (C ++ A) [] (f + 1) k hc wp (fun _ => 0) (m_settle (fun j => h + w j - b j) (m_reg (fun j => h + w j - b j)) b) h := by
  have sg := q_Sh_sg hS hT
  generalize hsig : (fun j => h + w j - b j) = sig
  have sg2 : ∀ c, c < 48 → (sig c).toInt = h.toInt + (w c).toInt - (b c).toInt := by
    intro c hc
    rw [← hsig]
    exact sg c hc
  have t20 : ∀ c, 20 ≤ sig c ↔ 20 ≤ (sig c).toInt := fun c => Int32.le_iff_toInt_le
  have key : ∀ c, c < 48 → (m_settle sig (m_reg sig) b c).toInt = (b c).toInt + (if 20 ≤ sig c ∧ m_reg sig c ≤ 14 then 0 else q_step (sig c).toInt) := by
    intro c hc
    have hb := (hS.2.1 c hc).2
    unfold m_settle
    split
    · simp
    · have e := q_m_step (s := sig c)
      have e1 := q_step_ge (s := (sig c).toInt)
      have e2 : q_step (sig c).toInt ≤ 4 := by unfold q_step; omega
      rw [q_add (by omega) (by omega), e]
  refine ⟨q_Inv_frame hS.1 (sg := fun c => (sig c).toInt) (d := fun c => if 20 ≤ sig c ∧ m_reg sig c ≤ 14 then 0 else q_step (sig c).toInt) sg2 (fun _ _ => rfl) key (fun c hc e => ?_) (fun c hc e => ?_) (fun c hc hx e1 e2 => ?_), fun c hc => ?_, hS.2.2⟩
  · have e : (sig c).toInt < 20 := e
    have : ¬ (20 ≤ sig c ∧ m_reg sig c ≤ 14) := fun g => by have := (t20 c).mp g.1; omega
    show (if 20 ≤ sig c ∧ m_reg sig c ≤ 14 then 0 else q_step (sig c).toInt) = _
    rw [if_neg this]
  · have e : 20 ≤ (sig c).toInt := e
    show (if 20 ≤ sig c ∧ m_reg sig c ≤ 14 then 0 else q_step (sig c).toInt) = 0 ∨ (if 20 ≤ sig c ∧ m_reg sig c ≤ 14 then 0 else q_step (sig c).toInt) = 4
    split
    · exact Or.inl rfl
    · refine Or.inr ?_
      unfold q_step
      rw [if_pos (by omega), if_neg (by omega)]
  · have e1 : 20 ≤ (sig c).toInt := e1
    have e2 : 20 ≤ (sig (c - 1)).toInt := e2
    have hr := q_reg_row c hc hx ((t20 c).mpr e1) ((t20 _).mpr e2)
    have f1 : q_step (sig c).toInt = 4 := by unfold q_step; rw [if_pos (by omega), if_neg (by omega)]
    have f2 : q_step (sig (c - 1)).toInt = 4 := by unfold q_step; rw [if_pos (by omega), if_neg (by omega)]
    have g1 := (t20 c).mpr e1
    have g2 := (t20 (c - 1)).mpr e2
    show (if 20 ≤ sig c ∧ m_reg sig c ≤ 14 then 0 else q_step (sig c).toInt) = (if 20 ≤ sig (c - 1) ∧ m_reg sig (c - 1) ≤ 14 then 0 else q_step (sig (c - 1)).toInt)
    rw [f1, f2, hr]
    simp only [g1, g2, true_and]
  · have := hS.2.1 c hc
    have e1 := q_step_ge (s := (sig c).toInt)
    have e2 : q_step (sig c).toInt ≤ 4 := by unfold q_step; omega
    show (-(200 * ((T + 1 : Nat) : Int)) ≤ (0 : Int32).toInt ∧ (0 : Int32).toInt ≤ _) ∧ _
    rw [show (0 : Int32).toInt = 0 from rfl, key c hc]
    split <;> omega
end Shi
