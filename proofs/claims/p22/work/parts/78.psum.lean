/-! ===== the trials' sum once more: only a press that lies on an empty tile fills it ===== -/
section PSum
variable {T : Nat} {A C : List q_P} {f k hc wp : Nat} {w b : Nat → Int32} {h : Int32}
theorem q_press_key (hS : q_Sh T A C f k hc wp w b h) (hT : T ≤ 1000) {x y S : Nat} (hx : x < 8) (hy : y < 6) (h200 : S ≤ 200) : ∀ c, c < 48 → (m_press w (nI S) x y c).toInt = (w c).toInt + (q_b (x, y, S) c : Int) := by
  intro c hc
  have hb := (hS.2.1 c hc).1
  have hl := q_b_le (p := (x, y, S)) (c := c)
  have hl2 : q_b (x, y, S) c ≤ 200 := Nat.le_trans hl h200
  unfold m_press m_pressTo
  by_cases e : q_cov x y c = true
  · have e2 := q_cov_iff.mp e
    rw [if_pos (by omega)]
    have e3 : q_b (x, y, S) c = S >>> q_d x y c := by unfold q_b; rw [if_pos e]
    have e4 := q_pr (x := x) (y := y) (j := c) h200
    rw [← e3] at e4
    rw [q_add (by omega) (by omega), e4]
  · have e2 : ¬ _ := fun g => e (q_cov_iff.mpr g)
    rw [if_neg (by omega), q_b_0 (by simpa using e)]
    simp
theorem q_tr_on2 {s : Int32} {x y j : Nat} (hn : ¬ (y ≤ j / 8 + 1 ∧ j / 8 ≤ y + 1 ∧ x ≤ j % 8 + 1 ∧ j % 8 ≤ x + 1)) : m_press w s x y j = w j := by
  unfold m_press m_pressTo
  rw [if_neg (fun g => hn g.2)]
/-- raising others makes no peak -/
theorem q_isPk_up {s1 s2 : Nat → Int32} {c : Nat} (hcc : s1 c = s2 c) (hle : ∀ o, o < 48 → (s1 o).toInt ≤ (s2 o).toInt) (hp : m_isPk s2 c = true) : m_isPk s1 c = true := by
  rw [q_isPk_iff] at hp ⊢
  rw [hcc]
  refine ⟨hp.1, fun o ho ha hb => hp.2 o ho ha ?_⟩
  have := hle o ho
  unfold m_beat at hb ⊢
  rw [hcc] at hb
  rw [Int32.lt_iff_toInt_lt] at hb ⊢
  rw [← Int32.toInt_inj] at hb ⊢
  omega
def q_near (a c : Nat) : Bool := decide (c / 8 ≤ a / 8 + 2) && decide (a / 8 ≤ c / 8 + 1) && decide (c % 8 ≤ a % 8 + 2) && decide (a % 8 ≤ c % 8 + 1)
theorem q_near_sum : ∀ a ∈ [0, 2, 4, 6, 16, 18, 20, 22, 32, 34, 36, 38], m_S (fun c => if q_near a c = true then 12 else 11) 48 ≤ 544 := by decide +kernel
theorem q_sum6' (hS : q_Sh T A C f k hc wp w b h) (hT : T < 1000) (hf : 1 ≤ f) (hn : A.length + C.length + f + k + hc + wp ≤ 6) {S : Nat} (h200 : S ≤ 200) : m_S (q_tr w b h (nI S)) 48 ≤ 544 := by
  have h11 := q_le11 hS (by omega) hn hf
  rw [q_len_n, q_T_sum] at h11
  have sg := q_Sh_sg hS (by omega)
  -- a tile where there is no peak
  obtain ⟨a, ha, h0⟩ : ∃ a ∈ [0, 2, 4, 6, 16, 18, 20, 22, 32, 34, 36, 38], q_T (m_isPk (fun j => h + w j - b j)) a = 0 := by
    refine Classical.byContradiction fun g => ?_
    have g2 : ∀ a ∈ [0, 2, 4, 6, 16, 18, 20, 22, 32, 34, 36, 38], 1 ≤ q_T (m_isPk (fun j => h + w j - b j)) a := fun a ha => by
      rcases Nat.eq_zero_or_pos (q_T (m_isPk (fun j => h + w j - b j)) a) with e | e
      · exact absurd ⟨a, ha, e⟩ g
      · exact e
    have t0 := g2 0 (by decide)
    have t1 := g2 2 (by decide)
    have t2 := g2 4 (by decide)
    have t3 := g2 6 (by decide)
    have t4 := g2 16 (by decide)
    have t5 := g2 18 (by decide)
    have t6 := g2 20 (by decide)
    have t7 := g2 22 (by decide)
    have t8 := g2 32 (by decide)
    have t9 := g2 34 (by decide)
    have t10 := g2 36 (by decide)
    have t11 := g2 38 (by decide)
    omega
  have ha8 : a + 9 < 48 ∧ a % 8 < 7 := (show ∀ a ∈ [0, 2, 4, 6, 16, 18, 20, 22, 32, 34, 36, 38], a + 9 < 48 ∧ a % 8 < 7 by decide) a ha
  refine Nat.le_trans (m_S_le (h := fun c => if q_near a c = true then 12 else 11) fun c hc => ?_) (q_near_sum a ha)
  split
  · exact q_tr12 c
  · rename_i hfar
    unfold q_tr
    rw [q_len_n, q_T_sum]
    have key := q_press_key hS (by omega) (x := c % 8) (y := c / 8) (S := S) (by omega) (by omega) h200
    have sgp := q_Sh_sg (q_Sh_press hS (by omega) (x := c % 8) (y := c / 8) (S := S) (by omega) (by omega) h200) (by omega)
    generalize hsp : (fun j => h + m_press w (nI S) (c % 8) (c / 8) j - b j) = sp
    have hle : ∀ o, o < 48 → ((fun j => h + w j - b j) o).toInt ≤ (sp o).toInt := fun o ho => by
      rw [← hsp]
      show (h + w o - b o).toInt ≤ (h + m_press w (nI S) (c % 8) (c / 8) o - b o).toInt
      rw [sg o ho, sgp o ho, key o ho]
      omega
    have same : ∀ x, (x = a ∨ x = a + 1 ∨ x = a + 8 ∨ x = a + 9) → (m_isPk sp x).toNat ≤ (m_isPk (fun j => h + w j - b j) x).toNat := by
      intro x hx
      have e : (fun j => h + w j - b j) x = sp x := by
        rw [← hsp]
        show h + w x - b x = h + m_press w (nI S) (c % 8) (c / 8) x - b x
        rw [q_tr_on2 ?_]
        unfold q_near at hfar
        simp only [Bool.and_eq_true, decide_eq_true_eq] at hfar
        omega
      cases hp : m_isPk sp x
      · exact Nat.zero_le _
      · rw [q_isPk_up e hle hp]
        exact Nat.le_refl _
    have z : q_T (m_isPk sp) a = 0 := by
      have e1 := same a (by omega)
      have e2 := same (a + 1) (by omega)
      have e3 := same (a + 8) (by omega)
      have e4 := same (a + 9) (by omega)
      unfold q_T at h0 ⊢
      omega
    have u := fun a p q => q_T_le (q_Pk_of sp) (a := a) p q
    have u0 := u 0 (by omega) (by omega)
    have u1 := u 2 (by omega) (by omega)
    have u2 := u 4 (by omega) (by omega)
    have u3 := u 6 (by omega) (by omega)
    have u4 := u 16 (by omega) (by omega)
    have u5 := u 18 (by omega) (by omega)
    have u6 := u 20 (by omega) (by omega)
    have u7 := u 22 (by omega) (by omega)
    have u8 := u 32 (by omega) (by omega)
    have u9 := u 34 (by omega) (by omega)
    have u10 := u 36 (by omega) (by omega)
    have u11 := u 38 (by omega) (by omega)
    simp only [List.mem_cons, List.not_mem_nil, or_false] at ha
    rcases ha with rfl | rfl | rfl | rfl | rfl | rfl | rfl | rfl | rfl | rfl | rfl | rfl <;> omega
end PSum
