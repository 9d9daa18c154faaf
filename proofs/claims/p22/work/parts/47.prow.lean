/-! ===== one region has one size along a row; sheets of Int32 ===== -/
def q_Z (r : m_R) : Nat := m_S (fun x => if r.1 x = 0 then 1 else 0) 48
def q_Q (reg : Nat → Int32) (r : m_R) : Prop := r.2.length + q_Z r ≤ 48 ∧ (∀ x, x ∈ r.2 → x < 48 ∧ r.1 x ≠ 0 ∧ reg x = 0) ∧ ∀ x, x ∉ r.2 → r.1 x = reg x
def q_cl (sig : Nat → Int32) (r : m_R) (k : Nat) : Prop := ∀ j, j < k → ∀ o, (m_left (r.2.getD j 0) = some o ∨ m_right (r.2.getD j 0) = some o) → o < 48 → 20 ≤ sig o → r.1 o ≠ 0
section Row
variable {sig reg : Nat → Int32} {r : m_R}
theorem q_Z_up {c : Nat} (hc : c < 48) (h0 : r.1 c = 0) : q_Z (va_up r.1 c 1, r.2 ++ [c]) + 1 = q_Z r := by
  unfold q_Z
  rw [← m_S_up (g := fun x => if va_up r.1 c 1 x = 0 then 1 else 0) (k := c) (d := 1) hc]
  refine m_S_congr fun j _ => ?_
  by_cases e : j = c
  · subst e
    rw [am_up_eq]
    show (if va_up r.1 j 1 j = 0 then 1 else 0) + 1 = _
    rw [am_up_eq, if_neg (by decide), h0]
    rfl
  · rw [am_up_ne e]
    show (if va_up r.1 c 1 j = 0 then 1 else 0) = _
    rw [am_up_ne e]
theorem q_Q_lt {c : Nat} (h : q_Q reg r) (hc : c < 48) (h0 : r.1 c = 0) : r.2.length < 48 := by
  have := q_Z_up (r := r) hc h0
  have := h.1
  omega
theorem q_Q_try {c : Nat} (h : q_Q reg r) (hc : c < 48) : q_Q reg (m_try sig c r) := by
  unfold m_try
  split
  · rename_i q
    obtain ⟨h1, h2, h3⟩ := h
    have hn : c ∉ r.2 := fun hm => (h2 c hm).2.1 q.2.2
    refine ⟨?_, fun x hx => ?_, fun x hx => ?_⟩
    · have := q_Z_up (r := r) hc q.2.2
      rw [List.length_append]
      simp only [List.length_cons, List.length_nil]
      omega
    · show x < 48 ∧ va_up r.1 c 1 x ≠ 0 ∧ reg x = 0
      by_cases e : x = c
      · subst e
        rw [am_up_eq]
        exact ⟨hc, by decide, (h3 x hn).symm.trans q.2.2⟩
      · rw [am_up_ne e]
        rcases List.mem_append.mp hx with hx | hx
        · exact h2 x hx
        · exact absurd (List.mem_singleton.mp hx) e
    · have e : x ≠ c := fun e => hx (List.mem_append_right _ (List.mem_singleton.mpr e))
      show va_up r.1 c 1 x = reg x
      rw [am_up_ne e]
      exact h3 x fun hm => hx (List.mem_append_left _ hm)
  · exact h
theorem q_Q_tryO {c : Option Nat} (h : q_Q reg r) (hc : ∀ x, c = some x → x < 48) : q_Q reg (m_tryO sig c r) := by
  cases c with
  | none => exact h
  | some c => exact q_Q_try h (hc c rfl)
theorem q_try_ne {c : Nat} (h : q_Q reg r) (hc : c < 48) (ht : 20 ≤ sig c) : (m_try sig c r).1 c ≠ 0 := by
  unfold m_try
  by_cases e : r.1 c = 0
  · rw [if_pos ⟨q_Q_lt h hc e, ht, e⟩]
    show va_up r.1 c 1 c ≠ 0
    rw [am_up_eq]
    decide
  · rw [if_neg (fun q => e q.2.2)]
    exact e
theorem q_tryO_ne {c : Option Nat} {o : Nat} (h : q_Q reg r) (hc : c = some o) (ho : o < 48) (ht : 20 ≤ sig o) : (m_tryO sig c r).1 o ≠ 0 := by
  subst hc
  exact q_try_ne h ho ht
theorem q_try_len {c : Nat} : r.2.length ≤ (m_try sig c r).2.length ∧ ∀ j, j < r.2.length → (m_try sig c r).2.getD j 0 = r.2.getD j 0 := by
  unfold m_try
  split
  · refine ⟨by simp, fun j hj => ?_⟩
    simp only [List.getD_eq_getElem?_getD, List.getElem?_append_left hj]
  · exact ⟨Nat.le_refl _, fun j _ => rfl⟩
theorem q_tryO_len {c : Option Nat} : r.2.length ≤ (m_tryO sig c r).2.length ∧ ∀ j, j < r.2.length → (m_tryO sig c r).2.getD j 0 = r.2.getD j 0 := by
  cases c with
  | none => exact ⟨Nat.le_refl _, fun j _ => rfl⟩
  | some c => exact q_try_len
theorem q_exp_len {c : Nat} : r.2.length ≤ (m_exp sig c r).2.length ∧ ∀ j, j < r.2.length → (m_exp sig c r).2.getD j 0 = r.2.getD j 0 := by
  unfold m_exp
  have a1 := q_tryO_len (sig := sig) (r := r) (c := m_left c)
  have a2 := q_tryO_len (sig := sig) (r := m_tryO sig (m_left c) r) (c := m_right c)
  have a3 := q_tryO_len (sig := sig) (r := m_tryO sig (m_right c) (m_tryO sig (m_left c) r)) (c := m_up c)
  have a4 := q_tryO_len (sig := sig) (r := m_tryO sig (m_up c) (m_tryO sig (m_right c) (m_tryO sig (m_left c) r))) (c := m_down c)
  refine ⟨by omega, fun j hj => ?_⟩
  rw [a4.2 j (by omega), a3.2 j (by omega), a2.2 j (by omega), a1.2 j hj]
theorem q_Q_exp {c : Nat} (h : q_Q reg r) (hc : c < 48) : q_Q reg (m_exp sig c r) ∧ ∀ o, (m_left c = some o ∨ m_right c = some o) → o < 48 → 20 ≤ sig o → (m_exp sig c r).1 o ≠ 0 := by
  unfold m_exp
  have b1 := q_Q_tryO (sig := sig) (c := m_left c) h (fun _ q => m_left_lt hc q)
  have b2 := q_Q_tryO (sig := sig) (c := m_right c) b1 (fun _ q => m_right_lt hc q)
  have b3 := q_Q_tryO (sig := sig) (c := m_up c) b2 (fun _ q => m_up_lt hc q)
  have b4 := q_Q_tryO (sig := sig) (c := m_down c) b3 (fun _ q => m_down_lt hc q)
  refine ⟨b4, fun o ho h48 ht => ?_⟩
  rcases ho with ho | ho
  · exact m_tryO_sub.1 (m_tryO_sub.1 (m_tryO_sub.1 (q_tryO_ne h ho h48 ht)))
  · exact m_tryO_sub.1 (m_tryO_sub.1 (q_tryO_ne b1 ho h48 ht))
theorem q_bfs_cl : ∀ (d k : Nat) (r : m_R), k + d = 48 → k ≤ r.2.length → q_Q reg r → q_cl sig r k → q_Q reg (m_bfs sig d k r) ∧ q_cl sig (m_bfs sig d k r) (m_bfs sig d k r).2.length
  | 0, k, r, hk, hl, hQ, hc => by
    have := hQ.1
    exact ⟨hQ, fun j hj => hc j (by unfold m_bfs at hj; omega)⟩
  | d + 1, k, r, hk, hl, hQ, hc => by
    unfold m_bfs
    by_cases q : k < r.2.length
    · rw [if_pos q]
      have hm : r.2.getD k 0 ∈ r.2 := by
        rw [List.getD_eq_getElem?_getD, List.getElem?_eq_getElem q]
        exact List.getElem_mem q
      obtain ⟨e1, e2⟩ := q_Q_exp (sig := sig) hQ (hQ.2.1 _ hm).1
      obtain ⟨l1, l2⟩ := q_exp_len (sig := sig) (r := r) (c := r.2.getD k 0)
      refine q_bfs_cl d (k + 1) _ (by omega) (by omega) e1 fun j hj o ho h48 ht => ?_
      rw [l2 j (by omega)] at ho
      by_cases e : j = k
      · subst e
        exact e2 o ho h48 ht
      · exact m_exp_sub.1 (hc j (by omega) o ho h48 ht)
    · rw [if_neg q]
      exact ⟨hQ, fun j hj => hc j (by omega)⟩
def q_rows (sig reg : Nat → Int32) : Prop := ∀ c, c < 48 → c % 8 ≠ 0 → 20 ≤ sig c → 20 ≤ sig (c - 1) → reg c = reg (c - 1)
theorem q_region_row {s : Nat} (hs : s < 48) (h : q_rows sig reg) : q_rows sig (m_region sig s reg) := by
  have z0 : q_Q reg ((reg, []) : m_R) := by
    refine ⟨?_, fun x hx => by simp at hx, fun x _ => rfl⟩
    show 0 + m_S (fun x => if reg x = 0 then 1 else 0) 48 ≤ 48
    have := m_S_le (N := 48) (g := fun x => if reg x = 0 then 1 else 0) (h := fun _ => 1) (fun j _ => by show (if reg j = 0 then 1 else 0) ≤ 1; split <;> omega)
    rw [m_S_const] at this
    omega
  obtain ⟨⟨-, g2, g3⟩, g4⟩ := q_bfs_cl (sig := sig) 48 0 _ (by omega) (by omega) (q_Q_try (sig := sig) z0 hs) (fun j hj => by omega)
  intro c hc hx t1 t2
  unfold m_region
  generalize m_bfs sig 48 0 (m_try sig s (reg, [])) = r at g2 g3 g4
  have cl : ∀ x o, x ∈ r.2 → (m_left x = some o ∨ m_right x = some o) → o < 48 → 20 ≤ sig o → r.1 o ≠ 0 := by
    intro x o hx ho h48 ht
    obtain ⟨j, hj, e⟩ := List.mem_iff_getElem.mp hx
    refine g4 j hj o ?_ h48 ht
    rw [List.getD_eq_getElem?_getD, List.getElem?_eq_getElem hj, e]
    exact ho
  by_cases q1 : c ∈ r.2
  · by_cases q2 : c - 1 ∈ r.2
    · rw [if_pos q1, if_pos q2]
    · exfalso
      refine cl c (c - 1) q1 (Or.inl ?_) (by omega) t2 ?_
      · unfold m_left
        rw [if_neg hx]
      · rw [g3 _ q2, ← h c hc hx t1 t2]
        exact (g2 c q1).2.2
  · by_cases q2 : c - 1 ∈ r.2
    · exfalso
      refine cl (c - 1) c q2 (Or.inr ?_) hc t1 ?_
      · unfold m_right
        rw [if_neg (by omega), show c - 1 + 1 = c by omega]
      · rw [g3 _ q1, h c hc hx t1 t2]
        exact (g2 _ q2).2.2
    · rw [if_neg q1, if_neg q2, g3 _ q1, g3 _ q2]
      exact h c hc hx t1 t2
theorem q_regs_row : ∀ k : Nat, k ≤ 48 → q_rows sig (m_regs sig k)
  | 0, _ => fun c _ _ _ _ => rfl
  | k + 1, hk => by
    unfold m_regs
    split
    · exact q_region_row (by omega) (q_regs_row k (by omega))
    · exact q_regs_row k (by omega)
theorem q_reg_row : q_rows sig (m_reg sig) := q_regs_row 48 (Nat.le_refl _)
end Row
