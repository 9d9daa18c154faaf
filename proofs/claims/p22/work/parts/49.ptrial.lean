/-! ===== the peaks of all trials together ===== -/
theorem q_isPk_iff {sig : Nat → Int32} {c : Nat} : m_isPk sig c = true ↔ 20 ≤ sig c ∧ m_Sum sig c := by
  unfold m_isPk
  rw [Bool.and_eq_true, decide_eq_true_eq, m_sum_iff]
theorem q_isPk_on {s1 s2 : Nat → Int32} {c : Nat} (hc : c < 48) (h : ∀ o, o < 48 → m_adj c o → s1 o = s2 o) : m_isPk s1 c = m_isPk s2 c := by
  have hcc := h c hc (by unfold m_adj; omega)
  rw [Bool.eq_iff_iff, q_isPk_iff, q_isPk_iff, hcc]
  unfold m_Sum m_beat
  constructor
  · rintro ⟨g1, g2⟩
    refine ⟨g1, fun o ho ha => ?_⟩
    have := g2 o ho ha
    rw [hcc, h o ho ha] at this
    exact this
  · rintro ⟨g1, g2⟩
    refine ⟨g1, fun o ho ha => ?_⟩
    have := g2 o ho ha
    rw [← h o ho ha] at this
    rw [hcc]
    exact this
theorem q_zones {sg1 sg2 : Nat → Int} {pk pk1 pk2 : Nat → Bool} (h1 : q_Pk sg1 pk1) (h2 : q_Pk sg2 pk2) (e1 : ∀ c, c < 48 → 4 ≤ c % 8 → pk1 c = pk c) (e2 : ∀ c, c < 48 → c % 8 ≤ 3 → pk2 c = pk c) (n1 : 12 ≤ q_n pk1 48) (n2 : 12 ≤ q_n pk2 48) : 12 ≤ q_n pk 48 := by
  rw [q_T_sum] at n1 n2 ⊢
  have t := fun a p q => q_T_le h1 (a := a) p q
  have u := fun a p q => q_T_le h2 (a := a) p q
  have f1 : ∀ a, a + 9 < 48 → 4 ≤ a % 8 → a % 8 ≤ 6 → q_T pk1 a = q_T pk a := by
    intro a p q r
    unfold q_T
    rw [e1 a (by omega) (by omega), e1 (a + 1) (by omega) (by omega), e1 (a + 8) (by omega) (by omega), e1 (a + 9) (by omega) (by omega)]
  have f2 : ∀ a, a + 9 < 48 → a % 8 ≤ 2 → q_T pk2 a = q_T pk a := by
    intro a p q
    unfold q_T
    rw [e2 a (by omega) (by omega), e2 (a + 1) (by omega) (by omega), e2 (a + 8) (by omega) (by omega), e2 (a + 9) (by omega) (by omega)]
  rw [f1 4 (by omega) (by omega) (by omega), f1 6 (by omega) (by omega) (by omega), f1 20 (by omega) (by omega) (by omega), f1 22 (by omega) (by omega) (by omega), f1 36 (by omega) (by omega) (by omega), f1 38 (by omega) (by omega) (by omega)] at n1
  rw [f2 0 (by omega) (by omega), f2 2 (by omega) (by omega), f2 16 (by omega) (by omega), f2 18 (by omega) (by omega), f2 32 (by omega) (by omega), f2 34 (by omega) (by omega)] at n2
  have t0 := t 0 (by omega) (by omega)
  have t1 := t 2 (by omega) (by omega)
  have t2 := t 4 (by omega) (by omega)
  have t3 := t 6 (by omega) (by omega)
  have t4 := t 16 (by omega) (by omega)
  have t5 := t 18 (by omega) (by omega)
  have t6 := t 20 (by omega) (by omega)
  have t7 := t 22 (by omega) (by omega)
  have t8 := t 32 (by omega) (by omega)
  have t9 := t 34 (by omega) (by omega)
  have t10 := t 36 (by omega) (by omega)
  have t11 := t 38 (by omega) (by omega)
  have u0 := u 0 (by omega) (by omega)
  have u1 := u 2 (by omega) (by omega)
  have u2 := u 4 (by omega) (by omega)
  have u3 := u 6 (by omega) (by omega)
  have u4 := u 16 (by omega) (by omega)
  have u5 := u 18 (by omega) (by omega)
  have u6 := u 20 (by omega) (by omega)
  have u7 := u 22 (by omega) (by omega)
  have u8 := u 32 (by omega) (by omega)
  have u9 := u 34 (by omega) (by omega)
  have u10 := u 36 (by omega) (by omega)
  have u11 := u 38 (by omega) (by omega)
  rw [f1 4 (by omega) (by omega) (by omega)] at t2
  rw [f1 6 (by omega) (by omega) (by omega)] at t3
  rw [f1 20 (by omega) (by omega) (by omega)] at t6
  rw [f1 22 (by omega) (by omega) (by omega)] at t7
  rw [f1 36 (by omega) (by omega) (by omega)] at t10
  rw [f1 38 (by omega) (by omega) (by omega)] at t11
  rw [f2 0 (by omega) (by omega)] at u0
  rw [f2 2 (by omega) (by omega)] at u1
  rw [f2 16 (by omega) (by omega)] at u4
  rw [f2 18 (by omega) (by omega)] at u5
  rw [f2 32 (by omega) (by omega)] at u8
  rw [f2 34 (by omega) (by omega)] at u9
  omega
/-- the peaks with a press tried at the cell c -/
def q_tr (w b : Nat → Int32) (h s : Int32) (c : Nat) : Nat := (m_pks (fun j => h + m_press w s (c % 8) (c / 8) j - b j) 48).length
section Tri
variable {T : Nat} {A C : List q_P} {f k hc wp S : Nat} {w b : Nat → Int32} {h : Int32}
theorem q_tr_on {s : Int32} {c j : Nat} (hn : j % 8 + 1 < c % 8 ∨ c % 8 + 1 < j % 8) : m_press w s (c % 8) (c / 8) j = w j := by
  unfold m_press m_pressTo
  rw [if_neg (by omega)]
theorem q_tr12 (c : Nat) {s : Int32} : q_tr w b h s c ≤ 12 := q_le12s _
theorem q_tr11 (hS : q_Sh T A C f k hc wp w b h) (hT : T < 1000) (hf : 1 ≤ f) (hn : A.length + C.length + f + k + hc + wp ≤ 5) (h200 : S ≤ 200) {c : Nat} (hc : c < 48) : q_tr w b h (nI S) c ≤ 11 :=
  q_le11 (q_Sh_press hS (by omega) (x := c % 8) (y := c / 8) (by omega) (by omega) h200) (by omega) (by rw [List.length_cons]; omega) hf
theorem q_tr10 (hS : q_Sh T A C f k hc wp w b h) (hT : T < 1000) (hf : 1 ≤ f) (hn : A.length + C.length + f + k + hc + wp ≤ 3) (h200 : S ≤ 200) {c : Nat} (hc : c < 48) : q_tr w b h (nI S) c ≤ 10 :=
  q_le10 (q_Sh_press hS (by omega) (x := c % 8) (y := c / 8) (by omega) (by omega) h200) (by omega) (by rw [List.length_cons]; omega) hf
theorem q_sum12 {s : Int32} : m_S (q_tr w b h s) 48 ≤ 576 := by
  refine Nat.le_trans (m_S_le (h := fun _ => 12) fun j _ => q_tr12 j) ?_
  rw [m_S_const]
  decide
theorem q_sum11 (hS : q_Sh T A C f k hc wp w b h) (hT : T < 1000) (hf : 1 ≤ f) (hn : A.length + C.length + f + k + hc + wp ≤ 5) (h200 : S ≤ 200) : m_S (q_tr w b h (nI S)) 48 ≤ 528 := by
  refine Nat.le_trans (m_S_le (h := fun _ => 11) fun j hj => q_tr11 hS hT hf hn h200 hj) ?_
  rw [m_S_const]
  decide
theorem q_sum10 (hS : q_Sh T A C f k hc wp w b h) (hT : T < 1000) (hf : 1 ≤ f) (hn : A.length + C.length + f + k + hc + wp ≤ 3) (h200 : S ≤ 200) : m_S (q_tr w b h (nI S)) 48 ≤ 480 := by
  refine Nat.le_trans (m_S_le (h := fun _ => 10) fun j hj => q_tr10 hS hT hf hn h200 hj) ?_
  rw [m_S_const]
  decide
theorem q_sum6 (hS : q_Sh T A C f k hc wp w b h) (hT : T < 1000) (hf : 1 ≤ f) (hn : A.length + C.length + f + k + hc + wp ≤ 6) {s : Int32} : m_S (q_tr w b h s) 48 ≤ 564 := by
  have h11 := q_le11 hS (by omega) hn hf
  rw [q_len_n] at h11
  have hz : ∀ c1 c2, c1 % 8 ≤ 1 → 6 ≤ c2 % 8 → 12 ≤ q_tr w b h s c1 → 12 ≤ q_tr w b h s c2 → False := by
    intro c1 c2 x1 x2 n1 n2
    unfold q_tr at n1 n2
    rw [q_len_n] at n1 n2
    have := q_zones (pk := m_isPk (fun j => h + w j - b j)) (q_Pk_of _) (q_Pk_of _) (fun c hc48 hx => q_isPk_on hc48 fun o ho ha => ?_) (fun c hc48 hx => q_isPk_on hc48 fun o ho ha => ?_) n1 n2
    · omega
    · unfold m_adj at ha
      show h + m_press w s (c1 % 8) (c1 / 8) o - b o = _
      rw [q_tr_on (by omega)]
    · unfold m_adj at ha
      show h + m_press w s (c2 % 8) (c2 / 8) o - b o = _
      rw [q_tr_on (by omega)]
  have h12 : ∀ c, q_tr w b h s c ≤ 12 := fun c => q_tr12 c
  by_cases q : ∀ c, c % 8 ≤ 1 → q_tr w b h s c ≤ 11
  · refine Nat.le_trans (m_S_le (h := fun c => if c % 8 ≤ 1 then 11 else 12) fun j _ => ?_) (by decide)
    split
    · exact q j (by assumption)
    · exact h12 j
  · obtain ⟨c1, hc1⟩ := Classical.not_forall.mp q
    have x1 : c1 % 8 ≤ 1 := Classical.byContradiction fun g => hc1 fun g2 => absurd g2 g
    have n1 : 12 ≤ q_tr w b h s c1 := Classical.byContradiction fun g => hc1 fun _ => by omega
    refine Nat.le_trans (m_S_le (h := fun c => if 6 ≤ c % 8 then 11 else 12) fun j _ => ?_) (by decide)
    split
    · rename_i g
      refine Classical.byContradiction fun g2 => hz c1 j x1 g n1 (by omega)
    · exact h12 j
end Tri
