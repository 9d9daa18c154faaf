/-! ===== regions, peaks, places, hum ===== -/
abbrev m_R : Type := (Nat → Int32) × List Nat
def m_try (sig : Nat → Int32) (c : Nat) (r : m_R) : m_R := if r.2.length < 48 ∧ 20 ≤ sig c ∧ r.1 c = 0 then (va_up r.1 c 1, r.2 ++ [c]) else r
def m_tryO (sig : Nat → Int32) (c : Option Nat) (r : m_R) : m_R := match c with
  | none => r
  | some c => m_try sig c r
def m_left (c : Nat) : Option Nat := if c % 8 = 0 then none else some (c - 1)
def m_right (c : Nat) : Option Nat := if c % 8 = 7 then none else some (c + 1)
def m_up (c : Nat) : Option Nat := if c / 8 = 0 then none else some (c - 8)
def m_down (c : Nat) : Option Nat := if c / 8 = 5 then none else some (c + 8)
def m_exp (sig : Nat → Int32) (c : Nat) (r : m_R) : m_R := m_tryO sig (m_down c) (m_tryO sig (m_up c) (m_tryO sig (m_right c) (m_tryO sig (m_left c) r)))
def m_bfs (sig : Nat → Int32) : Nat → Nat → m_R → m_R
  | 0, _, r => r
  | d + 1, k, r => if k < r.2.length then m_bfs sig d (k + 1) (m_exp sig (r.2.getD k 0) r) else r
def m_region (sig : Nat → Int32) (s : Nat) (reg : Nat → Int32) : Nat → Int32 := fun c => if c ∈ (m_bfs sig 48 0 (m_try sig s (reg, []))).2 then nI (m_bfs sig 48 0 (m_try sig s (reg, []))).2.length else (m_bfs sig 48 0 (m_try sig s (reg, []))).1 c
def m_regs (sig : Nat → Int32) : Nat → Nat → Int32
  | 0 => fun _ => 0
  | k + 1 => if 20 ≤ sig k ∧ m_regs sig k k = 0 then m_region sig k (m_regs sig k) else m_regs sig k
/-- a queue that is well: cells, at most 48, all touched -/
def m_ok (sig : Nat → Int32) (r : m_R) : Prop := r.2.length ≤ 48 ∧ (∀ c ∈ r.2, c < 48 ∧ 20 ≤ sig c) ∧ ∀ c, c < 48 → r.1 c = 0 ∨ (20 ≤ sig c ∧ ∃ j : Nat, 1 ≤ j ∧ j ≤ 48 ∧ r.1 c = nI j)
theorem m_ok_try {sig : Nat → Int32} {c : Nat} {r : m_R} (h : m_ok sig r) (hc : c < 48) : m_ok sig (m_try sig c r) := by
  unfold m_try
  split
  · rename_i q
    refine ⟨by simp; omega, fun x hx => ?_, fun x hx => ?_⟩
    · rcases List.mem_append.mp hx with hx | hx
      · exact h.2.1 x hx
      · rw [List.mem_singleton.mp hx]
        exact ⟨hc, q.2.1⟩
    · by_cases e : x = c
      · subst e
        exact Or.inr ⟨q.2.1, 1, by omega, by omega, am_up_eq⟩
      · show va_up r.1 c 1 x = 0 ∨ _
        rw [show ((va_up r.1 c 1, r.2 ++ [c]) : m_R).1 x = r.1 x from am_up_ne e, am_up_ne e]
        exact h.2.2 x hx
  · exact h
theorem m_ok_tryO {sig : Nat → Int32} {c : Option Nat} {r : m_R} (h : m_ok sig r) (hc : ∀ x, c = some x → x < 48) : m_ok sig (m_tryO sig c r) := by
  cases c with
  | none => exact h
  | some c => exact m_ok_try h (hc c rfl)
theorem m_left_lt {c x : Nat} (hc : c < 48) (h : m_left c = some x) : x < 48 := by
  unfold m_left at h
  split at h <;> simp at h
  omega
theorem m_right_lt {c x : Nat} (hc : c < 48) (h : m_right c = some x) : x < 48 := by
  unfold m_right at h
  split at h <;> simp at h
  omega
theorem m_up_lt {c x : Nat} (hc : c < 48) (h : m_up c = some x) : x < 48 := by
  unfold m_up at h
  split at h <;> simp at h
  omega
theorem m_down_lt {c x : Nat} (hc : c < 48) (h : m_down c = some x) : x < 48 := by
  unfold m_down at h
  split at h <;> simp at h
  omega
theorem m_ok_exp {sig : Nat → Int32} {c : Nat} {r : m_R} (h : m_ok sig r) (hc : c < 48) : m_ok sig (m_exp sig c r) :=
  m_ok_tryO (m_ok_tryO (m_ok_tryO (m_ok_tryO h (fun _ q => m_left_lt hc q)) (fun _ q => m_right_lt hc q)) (fun _ q => m_up_lt hc q)) (fun _ q => m_down_lt hc q)
theorem m_ok_get {sig : Nat → Int32} {r : m_R} (h : m_ok sig r) {k : Nat} (hk : k < r.2.length) : r.2.getD k 0 < 48 ∧ 20 ≤ sig (r.2.getD k 0) := by
  have : r.2.getD k 0 ∈ r.2 := by
    rw [List.getD_eq_getElem?_getD, List.getElem?_eq_getElem hk]
    exact List.getElem_mem hk
  exact h.2.1 _ this
theorem m_ok_bfs {sig : Nat → Int32} : ∀ (d k : Nat) (r : m_R), m_ok sig r → m_ok sig (m_bfs sig d k r)
  | 0, _, _, h => h
  | d + 1, k, r, h => by
    unfold m_bfs
    split
    · rename_i q
      exact m_ok_bfs d (k + 1) _ (m_ok_exp h (m_ok_get h q).1)
    · exact h
/-- what was noted stays noted -/
theorem m_try_sub {sig : Nat → Int32} {c x : Nat} {r : m_R} : (r.1 x ≠ 0 → (m_try sig c r).1 x ≠ 0) ∧ (x ∈ r.2 → x ∈ (m_try sig c r).2) := by
  unfold m_try
  split
  · refine ⟨fun h => ?_, fun h => List.mem_append_left _ h⟩
    by_cases e : x = c
    · subst e
      show va_up r.1 x 1 x ≠ 0
      rw [am_up_eq]
      decide
    · show va_up r.1 c 1 x ≠ 0
      rw [am_up_ne e]
      exact h
  · exact ⟨id, id⟩
theorem m_tryO_sub {sig : Nat → Int32} {c : Option Nat} {x : Nat} {r : m_R} : (r.1 x ≠ 0 → (m_tryO sig c r).1 x ≠ 0) ∧ (x ∈ r.2 → x ∈ (m_tryO sig c r).2) := by
  cases c with
  | none => exact ⟨id, id⟩
  | some c => exact m_try_sub
theorem m_exp_sub {sig : Nat → Int32} {c x : Nat} {r : m_R} : (r.1 x ≠ 0 → (m_exp sig c r).1 x ≠ 0) ∧ (x ∈ r.2 → x ∈ (m_exp sig c r).2) :=
  ⟨fun h => m_tryO_sub.1 (m_tryO_sub.1 (m_tryO_sub.1 (m_tryO_sub.1 h))), fun h => m_tryO_sub.2 (m_tryO_sub.2 (m_tryO_sub.2 (m_tryO_sub.2 h)))⟩
theorem m_bfs_sub {sig : Nat → Int32} : ∀ (d k x : Nat) (r : m_R), (r.1 x ≠ 0 → (m_bfs sig d k r).1 x ≠ 0) ∧ (x ∈ r.2 → x ∈ (m_bfs sig d k r).2)
  | 0, _, _, _ => ⟨id, id⟩
  | d + 1, k, x, r => by
    unfold m_bfs
    split
    · exact ⟨fun h => (m_bfs_sub d (k + 1) x _).1 (m_exp_sub.1 h), fun h => (m_bfs_sub d (k + 1) x _).2 (m_exp_sub.2 h)⟩
    · exact ⟨id, id⟩
def m_rok (sig reg : Nat → Int32) : Prop := ∀ c, c < 48 → reg c = 0 ∨ (20 ≤ sig c ∧ ∃ j : Nat, 1 ≤ j ∧ j ≤ 48 ∧ reg c = nI j)
theorem m_region_ok {sig reg : Nat → Int32} {s : Nat} (hs : s < 48) (h20 : 20 ≤ sig s) (h0 : reg s = 0) (h : m_rok sig reg) : m_rok sig (m_region sig s reg) ∧ m_region sig s reg s ≠ 0 ∧ ∀ x, reg x ≠ 0 → m_region sig s reg x ≠ 0 := by
  have h1 : m_ok sig (reg, []) := ⟨by simp, (fun c hc => by cases hc), h⟩
  have h2 := m_ok_try (sig := sig) (c := s) h1 hs
  have h3 := m_ok_bfs 48 0 _ h2
  have hs2 : s ∈ (m_try sig s (reg, [])).2 := by
    unfold m_try
    rw [if_pos ⟨by simp, h20, h0⟩]
    simp
  have hs3 := (m_bfs_sub (sig := sig) 48 0 s _).2 hs2
  have hlen : 1 ≤ (m_bfs sig 48 0 (m_try sig s (reg, []))).2.length := by
    cases hq : (m_bfs sig 48 0 (m_try sig s (reg, []))).2 with
    | nil => rw [hq] at hs3; cases hs3
    | cons _ _ => simp
  refine ⟨fun c hc => ?_, ?_, fun x hx => ?_⟩
  · unfold m_region
    split
    · rename_i q
      exact Or.inr ⟨(h3.2.1 c q).2, _, hlen, h3.1, rfl⟩
    · exact h3.2.2 c hc
  · unfold m_region
    rw [if_pos hs3]
    exact nI_ne0 (by omega) (by have := h3.1; omega)
  · unfold m_region
    split
    · exact nI_ne0 (by omega) (by have := h3.1; omega)
    · exact (m_bfs_sub 48 0 x _).1 (m_try_sub.1 hx)
theorem m_regs_ok {sig : Nat → Int32} : ∀ k : Nat, k ≤ 48 → m_rok sig (m_regs sig k) ∧ ∀ c, c < k → 20 ≤ sig c → m_regs sig k c ≠ 0
  | 0, _ => ⟨fun c _ => Or.inl rfl, fun c hc => by omega⟩
  | k + 1, hk => by
    obtain ⟨h1, h2⟩ := m_regs_ok (sig := sig) k (by omega)
    unfold m_regs
    split
    · rename_i q
      obtain ⟨g1, g2, g3⟩ := m_region_ok (by omega) q.1 q.2 h1
      refine ⟨g1, fun c hc h20 => ?_⟩
      by_cases e : c = k
      · subst e; exact g2
      · exact g3 c (h2 c (by omega) h20)
    · rename_i q
      refine ⟨h1, fun c hc h20 => ?_⟩
      by_cases e : c = k
      · subst e
        exact fun h => q ⟨h20, h⟩
      · exact h2 c (by omega) h20
/-- how many cells each region has, by cell -/
def m_reg (sig : Nat → Int32) : Nat → Int32 := m_regs sig 48
theorem m_reg_spec {sig : Nat → Int32} {c : Nat} (hc : c < 48) : (20 ≤ sig c → ∃ j : Nat, 1 ≤ j ∧ j ≤ 48 ∧ m_reg sig c = nI j) ∧ (¬ 20 ≤ sig c → m_reg sig c = 0) := by
  obtain ⟨h1, h2⟩ := m_regs_ok (sig := sig) 48 (Nat.le_refl _)
  rcases h1 c hc with h | ⟨h, j, a1, a2, a3⟩
  · exact ⟨fun q => absurd h (h2 c hc q), fun _ => h⟩
  · exact ⟨fun _ => ⟨j, a1, a2, a3⟩, fun q => absurd h q⟩
/-- the eight around a cell and itself -/
def m_adj (c o : Nat) : Prop := c / 8 ≤ o / 8 + 1 ∧ o / 8 ≤ c / 8 + 1 ∧ c % 8 ≤ o % 8 + 1 ∧ o % 8 ≤ c % 8 + 1
def m_beat (sig : Nat → Int32) (c o : Nat) : Prop := sig c < sig o ∨ (sig o = sig c ∧ o < c)
def m_Sum (sig : Nat → Int32) (c : Nat) : Prop := ∀ o, o < 48 → m_adj c o → ¬ m_beat sig c o
def m_sum (sig : Nat → Int32) (c : Nat) : Bool := (List.range 48).all fun o => !(decide (c / 8 ≤ o / 8 + 1) && decide (o / 8 ≤ c / 8 + 1) && decide (c % 8 ≤ o % 8 + 1) && decide (o % 8 ≤ c % 8 + 1) && (decide (sig c < sig o) || (decide (sig o = sig c) && decide (o < c))))
theorem m_sum_iff {sig : Nat → Int32} {c : Nat} : m_sum sig c = true ↔ m_Sum sig c := by
  unfold m_sum m_Sum m_adj m_beat
  rw [List.all_eq_true]
  constructor
  · intro h o ho ha hb
    have := h o (List.mem_range.mpr ho)
    simp [ha.1, ha.2.1, ha.2.2.1, ha.2.2.2] at this
    rcases hb with hb | hb
    · exact absurd hb (Int32.not_lt.mpr this.1)
    · rcases this.2 with h1 | h1
      · exact h1 hb.1
      · have := hb.2; omega
  · intro h o ho
    have := h o (List.mem_range.mp ho)
    simp only [Bool.not_eq_true', Bool.and_eq_false_iff, Bool.or_eq_false_iff, decide_eq_false_iff_not, not_or, not_and] at this ⊢
    by_cases h1 : c / 8 ≤ o / 8 + 1
    · by_cases h2 : o / 8 ≤ c / 8 + 1
      · by_cases h3 : c % 8 ≤ o % 8 + 1
        · by_cases h4 : o % 8 ≤ c % 8 + 1
          · obtain ⟨b1, b2⟩ := this ⟨h1, h2, h3, h4⟩
            refine Or.inr ⟨b1, ?_⟩
            by_cases e : sig o = sig c
            · exact Or.inr (b2 e)
            · exact Or.inl e
          · exact Or.inl (Or.inr h4)
        · exact Or.inl (Or.inl (Or.inr h3))
      · exact Or.inl (Or.inl (Or.inl (Or.inr h2)))
    · exact Or.inl (Or.inl (Or.inl (Or.inl h1)))
def m_isPk (sig : Nat → Int32) (c : Nat) : Bool := decide (20 ≤ sig c) && m_sum sig c
def m_pks (sig : Nat → Int32) (k : Nat) : List Nat := (List.range k).filter (m_isPk sig)
theorem m_pks_succ {sig : Nat → Int32} {k : Nat} : m_pks sig (k + 1) = if m_isPk sig k = true then m_pks sig k ++ [k] else m_pks sig k := by
  unfold m_pks
  rw [List.range_succ, List.filter_append]
  split
  · rename_i h; simp [h]
  · rename_i h; simp [h]
theorem m_pks_len {sig : Nat → Int32} {k : Nat} : (m_pks sig k).length ≤ k := by
  unfold m_pks
  exact Nat.le_trans (List.length_filter_le _ _) (by simp)
theorem m_pks_mem {sig : Nat → Int32} {k c : Nat} : c ∈ m_pks sig k ↔ c < k ∧ m_isPk sig c = true := by
  unfold m_pks
  rw [List.mem_filter, List.mem_range]
/-- sums over the cells -/
def m_S (g : Nat → Nat) : Nat → Nat
  | 0 => 0
  | k + 1 => m_S g k + g k
theorem m_S_up {g : Nat → Nat} {k d : Nat} : ∀ {N : Nat}, k < N → m_S (va_up g k (g k + d)) N = m_S g N + d
  | 0, h => by omega
  | N + 1, h => by
    unfold m_S
    by_cases e : k = N
    · subst e
      rw [am_up_eq]
      have : ∀ M, M ≤ k → m_S (va_up g k (g k + d)) M = m_S g M := by
        intro M
        induction M with
        | zero => intro _; rfl
        | succ M ih => intro hM; unfold m_S; rw [ih (by omega), am_up_ne (by omega)]
      rw [this k (Nat.le_refl _)]
      omega
    · rw [m_S_up (N := N) (by omega), am_up_ne (by omega)]
      omega
theorem m_S_congr {g h : Nat → Nat} : ∀ {N : Nat}, (∀ j, j < N → g j = h j) → m_S g N = m_S h N
  | 0, _ => rfl
  | N + 1, e => by
    unfold m_S
    rw [m_S_congr (N := N) (fun j hj => e j (by omega)), e N (by omega)]
theorem m_S_le {g h : Nat → Nat} : ∀ {N : Nat}, (∀ j, j < N → g j ≤ h j) → m_S g N ≤ m_S h N
  | 0, _ => Nat.le_refl _
  | N + 1, e => by
    unfold m_S
    exact Nat.add_le_add (m_S_le (N := N) (fun j hj => e j (by omega))) (e N (by omega))
theorem m_S_const {b : Nat} : ∀ {N : Nat}, m_S (fun _ => b) N = N * b
  | 0 => by simp [m_S]
  | N + 1 => by unfold m_S; rw [m_S_const (N := N), Nat.succ_mul]
theorem m_S_mul {g : Nat → Nat} {b : Nat} : ∀ {N : Nat}, m_S (fun j => b * g j) N = b * m_S g N
  | 0 => by simp [m_S]
  | N + 1 => by unfold m_S; rw [m_S_mul (N := N), Nat.mul_add]
theorem m_S_one {g : Nat → Nat} {k : Nat} : ∀ {N : Nat}, k < N → g k ≤ m_S g N
  | 0, h => by omega
  | N + 1, h => by
    unfold m_S
    by_cases e : k = N
    · subst e; omega
    · have := m_S_one (g := g) (N := N) (k := k) (by omega); omega
/-- a signal where it is above 0 -/
def m_sp (sig : Nat → Int32) (o : Nat) : Nat := (sig o).toInt.toNat
def m_bef (r c o : Nat) : Prop := o / 8 < r ∨ (o / 8 = r ∧ o % 8 < c)
/-- the weight of the neighbours ahead of (r, c), and their moment -/
def m_wtF (sig : Nat → Int32) (x y r c : Nat) : Nat → Nat := fun o => if (o / 8 < r ∨ (o / 8 = r ∧ o % 8 < c)) ∧ y ≤ o / 8 + 1 ∧ o / 8 ≤ y + 1 ∧ x ≤ o % 8 + 1 ∧ o % 8 ≤ x + 1 then m_sp sig o else 0
def m_moF (sig : Nat → Int32) (isY : Bool) (x y r c : Nat) : Nat → Nat := fun o => if (o / 8 < r ∨ (o / 8 = r ∧ o % 8 < c)) ∧ y ≤ o / 8 + 1 ∧ o / 8 ≤ y + 1 ∧ x ≤ o % 8 + 1 ∧ o % 8 ≤ x + 1 then 16 * m_sp sig o * (if isY then o / 8 else o % 8) else 0
def m_wt (sig : Nat → Int32) (x y r c : Nat) : Nat := m_S (m_wtF sig x y r c) 48
def m_mo (sig : Nat → Int32) (isY : Bool) (x y r c : Nat) : Nat := m_S (m_moF sig isY x y r c) 48
def m_placeN (sig : Nat → Int32) (c : Nat) (isY : Bool) : Nat := if 0 < m_wt sig (c % 8) (c / 8) 6 0 then (m_mo sig isY (c % 8) (c / 8) 6 0 + m_wt sig (c % 8) (c / 8) 6 0) / (2 * m_wt sig (c % 8) (c / 8) 6 0) else 0
theorem m_wtF_step {sig : Nat → Int32} {x y r c : Nat} (hr : y ≤ r + 1) (hr2 : r ≤ y + 1) (hc : x ≤ c + 1) (hc2 : c ≤ x + 1) (hc8 : c < 8) : m_wtF sig x y r (c + 1) = va_up (m_wtF sig x y r c) (8 * r + c) (m_wtF sig x y r c (8 * r + c) + m_sp sig (8 * r + c)) := by
  have e1 : (8 * r + c) / 8 = r := by omega
  have e2 : (8 * r + c) % 8 = c := by omega
  funext j
  by_cases e : j = 8 * r + c
  · subst e
    rw [am_up_eq]
    unfold m_wtF
    have hn : ¬ ((r < r ∨ r = r ∧ c < c) ∧ y ≤ r + 1 ∧ r ≤ y + 1 ∧ x ≤ c + 1 ∧ c ≤ x + 1) := by omega
    have hp : (r < r ∨ r = r ∧ c < c + 1) ∧ y ≤ r + 1 ∧ r ≤ y + 1 ∧ x ≤ c + 1 ∧ c ≤ x + 1 := by omega
    rw [e1, e2, if_neg hn, if_pos hp]
    omega
  · rw [am_up_ne e]
    unfold m_wtF
    exact am_cond (by omega)
theorem m_moF_step {sig : Nat → Int32} {isY : Bool} {x y r c : Nat} (hr : y ≤ r + 1) (hr2 : r ≤ y + 1) (hc : x ≤ c + 1) (hc2 : c ≤ x + 1) (hc8 : c < 8) : m_moF sig isY x y r (c + 1) = va_up (m_moF sig isY x y r c) (8 * r + c) (m_moF sig isY x y r c (8 * r + c) + 16 * m_sp sig (8 * r + c) * (if isY then r else c)) := by
  have e1 : (8 * r + c) / 8 = r := by omega
  have e2 : (8 * r + c) % 8 = c := by omega
  funext j
  by_cases e : j = 8 * r + c
  · subst e
    rw [am_up_eq]
    unfold m_moF
    have hn : ¬ ((r < r ∨ r = r ∧ c < c) ∧ y ≤ r + 1 ∧ r ≤ y + 1 ∧ x ≤ c + 1 ∧ c ≤ x + 1) := by omega
    have hp : (r < r ∨ r = r ∧ c < c + 1) ∧ y ≤ r + 1 ∧ r ≤ y + 1 ∧ x ≤ c + 1 ∧ c ≤ x + 1 := by omega
    rw [e1, e2, if_neg hn, if_pos hp]
    omega
  · rw [am_up_ne e]
    unfold m_moF
    exact am_cond (by omega)
theorem m_wt_step {sig : Nat → Int32} {x y r c : Nat} (hr : y ≤ r + 1) (hr2 : r ≤ y + 1) (hc : x ≤ c + 1) (hc2 : c ≤ x + 1) (hc8 : c < 8) (hr6 : r < 6) : m_wt sig x y r (c + 1) = m_wt sig x y r c + m_sp sig (8 * r + c) := by
  unfold m_wt
  rw [m_wtF_step hr hr2 hc hc2 hc8, m_S_up (by omega)]
theorem m_mo_step {sig : Nat → Int32} {isY : Bool} {x y r c : Nat} (hr : y ≤ r + 1) (hr2 : r ≤ y + 1) (hc : x ≤ c + 1) (hc2 : c ≤ x + 1) (hc8 : c < 8) (hr6 : r < 6) : m_mo sig isY x y r (c + 1) = m_mo sig isY x y r c + 16 * m_sp sig (8 * r + c) * (if isY then r else c) := by
  unfold m_mo
  rw [m_moF_step hr hr2 hc hc2 hc8, m_S_up (by omega)]
theorem m_wt_row {sig : Nat → Int32} {x y r : Nat} : m_wt sig x y r (min (x + 1) 7 + 1) = m_wt sig x y (r + 1) 0 :=
  m_S_congr fun j _ => by unfold m_wtF; exact am_cond (by have : j % 8 < 8 := Nat.mod_lt _ (by decide); omega)
theorem m_mo_row {sig : Nat → Int32} {isY : Bool} {x y r : Nat} : m_mo sig isY x y r (min (x + 1) 7 + 1) = m_mo sig isY x y (r + 1) 0 :=
  m_S_congr fun j _ => by unfold m_moF; exact am_cond (by have : j % 8 < 8 := Nat.mod_lt _ (by decide); omega)
theorem m_wt_col {sig : Nat → Int32} {x y r : Nat} : m_wt sig x y r (x - 1) = m_wt sig x y r 0 := m_S_congr fun j _ => by unfold m_wtF; exact am_cond (by omega)
theorem m_mo_col {sig : Nat → Int32} {isY : Bool} {x y r : Nat} : m_mo sig isY x y r (x - 1) = m_mo sig isY x y r 0 := m_S_congr fun j _ => by unfold m_moF; exact am_cond (by omega)
theorem m_wt_end {sig : Nat → Int32} {x y : Nat} : m_wt sig x y (min (y + 1) 5 + 1) 0 = m_wt sig x y 6 0 := m_S_congr fun j hj => by unfold m_wtF; exact am_cond (by omega)
theorem m_mo_end {sig : Nat → Int32} {isY : Bool} {x y : Nat} : m_mo sig isY x y (min (y + 1) 5 + 1) 0 = m_mo sig isY x y 6 0 := m_S_congr fun j hj => by unfold m_moF; exact am_cond (by omega)
theorem m_wt_start {sig : Nat → Int32} {x y : Nat} : m_wt sig x y (y - 1) 0 = 0 := by
  have : m_wt sig x y (y - 1) 0 = m_S (fun _ => 0) 48 := m_S_congr fun j _ => by unfold m_wtF; rw [if_neg (by omega)]
  rw [this, m_S_const]
theorem m_mo_start {sig : Nat → Int32} {isY : Bool} {x y : Nat} : m_mo sig isY x y (y - 1) 0 = 0 := by
  have : m_mo sig isY x y (y - 1) 0 = m_S (fun _ => 0) 48 := m_S_congr fun j _ => by unfold m_moF; rw [if_neg (by omega)]
  rw [this, m_S_const]
theorem m_sp_lt {sig : Nat → Int32} {o : Nat} : m_sp sig o < 2 ^ 31 := by
  unfold m_sp
  have := (sig o).toInt_lt
  omega
theorem m_wt_lt {sig : Nat → Int32} {x y r c : Nat} : m_wt sig x y r c ≤ 48 * 2 ^ 31 := by
  refine Nat.le_trans (m_S_le (h := fun _ => 2 ^ 31) fun j _ => ?_) (by rw [m_S_const]; decide)
  unfold m_wtF
  split
  · exact Nat.le_of_lt m_sp_lt
  · omega
theorem m_mo_lt {sig : Nat → Int32} {isY : Bool} {x y r c : Nat} : m_mo sig isY x y r c ≤ 48 * (16 * 2 ^ 31 * 8) := by
  refine Nat.le_trans (m_S_le (h := fun _ => 16 * 2 ^ 31 * 8) fun j hj => ?_) (by rw [m_S_const]; decide)
  unfold m_moF
  split
  · refine Nat.mul_le_mul (Nat.mul_le_mul_left _ (Nat.le_of_lt m_sp_lt)) ?_
    split <;> omega
  · omega
theorem m_moF_ge {sig : Nat → Int32} {isY : Bool} {x y r c j t : Nat} (h : y ≤ j / 8 + 1 → j / 8 ≤ y + 1 → x ≤ j % 8 + 1 → j % 8 ≤ x + 1 → t ≤ (if isY then j / 8 else j % 8)) : 16 * t * m_wtF sig x y r c j ≤ m_moF sig isY x y r c j := by
  unfold m_wtF m_moF
  by_cases q : (j / 8 < r ∨ (j / 8 = r ∧ j % 8 < c)) ∧ y ≤ j / 8 + 1 ∧ j / 8 ≤ y + 1 ∧ x ≤ j % 8 + 1 ∧ j % 8 ≤ x + 1
  · rw [if_pos q, if_pos q, Nat.mul_right_comm]
    exact Nat.mul_le_mul_left _ (h q.2.1 q.2.2.1 q.2.2.2.1 q.2.2.2.2)
  · rw [if_neg q, if_neg q]
    exact Nat.le_refl _
theorem m_moF_le {sig : Nat → Int32} {isY : Bool} {x y r c j t : Nat} (h : y ≤ j / 8 + 1 → j / 8 ≤ y + 1 → x ≤ j % 8 + 1 → j % 8 ≤ x + 1 → (if isY then j / 8 else j % 8) ≤ t) : m_moF sig isY x y r c j ≤ 16 * t * m_wtF sig x y r c j := by
  unfold m_wtF m_moF
  by_cases q : (j / 8 < r ∨ (j / 8 = r ∧ j % 8 < c)) ∧ y ≤ j / 8 + 1 ∧ j / 8 ≤ y + 1 ∧ x ≤ j % 8 + 1 ∧ j % 8 ≤ x + 1
  · rw [if_pos q, if_pos q, Nat.mul_right_comm 16 t]
    exact Nat.mul_le_mul_left _ (h q.2.1 q.2.2.1 q.2.2.2.1 q.2.2.2.2)
  · rw [if_neg q, if_neg q]
    exact Nat.le_refl _
/-- a place lies within a cell's width of its cell, and on the glass -/
theorem m_place_spec {sig : Nat → Int32} {c : Nat} {isY : Bool} (hc : c < 48) (h20 : 20 ≤ sig c) : 8 * (if isY then c / 8 else c % 8) ≤ m_placeN sig c isY + 8 ∧ m_placeN sig c isY ≤ 8 * (if isY then c / 8 else c % 8) + 8 ∧ m_placeN sig c isY ≤ 8 * (if isY then 5 else 7) := by
  have hw : 20 ≤ m_wt sig (c % 8) (c / 8) 6 0 := by
    have h1 := m_S_one (g := m_wtF sig (c % 8) (c / 8) 6 0) (N := 48) hc
    have h2 : m_wtF sig (c % 8) (c / 8) 6 0 c = m_sp sig c := by
      unfold m_wtF
      rw [if_pos (by omega)]
    have h3 : (20 : Int) ≤ (sig c).toInt := Int32.le_iff_toInt_le.mp h20
    unfold m_wt
    rw [h2] at h1
    unfold m_sp at h1
    omega
  have hlo : 16 * ((if isY then c / 8 else c % 8) - 1) * m_wt sig (c % 8) (c / 8) 6 0 ≤ m_mo sig isY (c % 8) (c / 8) 6 0 := by
    unfold m_wt m_mo
    rw [← m_S_mul]
    exact m_S_le fun j hj => m_moF_ge (fun h1 h2 h3 h4 => by cases isY <;> simp <;> omega)
  have hhi : m_mo sig isY (c % 8) (c / 8) 6 0 ≤ 16 * ((if isY then c / 8 else c % 8) + 1) * m_wt sig (c % 8) (c / 8) 6 0 := by
    unfold m_wt m_mo
    rw [← m_S_mul]
    exact m_S_le fun j hj => m_moF_le (fun h1 h2 h3 h4 => by cases isY <;> simp <;> omega)
  have hhi2 : m_mo sig isY (c % 8) (c / 8) 6 0 ≤ 16 * (if isY then 5 else 7) * m_wt sig (c % 8) (c / 8) 6 0 := by
    unfold m_wt m_mo
    rw [← m_S_mul]
    exact m_S_le fun j hj => m_moF_le (fun h1 h2 h3 h4 => by cases isY <;> simp <;> omega)
  unfold m_placeN
  have hw0 : 0 < m_wt sig (c % 8) (c / 8) 6 0 := by omega
  rw [if_pos hw0]
  clear hw0
  generalize m_wt sig (c % 8) (c / 8) 6 0 = w at hw hlo hhi hhi2 ⊢
  generalize m_mo sig isY (c % 8) (c / 8) 6 0 = mo at hlo hhi hhi2 ⊢
  generalize (if isY = true then c / 8 else c % 8) = z at hlo hhi ⊢
  generalize (if isY = true then 5 else 7) = t at hhi2 ⊢
  refine ⟨?_, ?_, ?_⟩
  · have : 8 * (z - 1) ≤ (mo + w) / (2 * w) := by
      rw [Nat.le_div_iff_mul_le (by omega)]
      have : 8 * (z - 1) * (2 * w) = 16 * (z - 1) * w := by rw [← Nat.mul_assoc, Nat.mul_right_comm 8 (z - 1) 2]
      omega
    omega
  · have : (mo + w) / (2 * w) < 8 * z + 9 := by
      rw [Nat.div_lt_iff_lt_mul (by omega)]
      have e : (8 * z + 9) * (2 * w) = 16 * (z + 1) * w + 2 * w := by
        rw [show 8 * z + 9 = 8 * (z + 1) + 1 by omega, Nat.add_mul, Nat.one_mul, ← Nat.mul_assoc, Nat.mul_right_comm 8 (z + 1) 2]
      omega
    omega
  · have : (mo + w) / (2 * w) < 8 * t + 1 := by
      rw [Nat.div_lt_iff_lt_mul (by omega)]
      have e : (8 * t + 1) * (2 * w) = 16 * t * w + 2 * w := by
        rw [Nat.add_mul, Nat.one_mul, ← Nat.mul_assoc, Nat.mul_right_comm 8 t 2]
      omega
    omega
/-- the hum -/
def m_huF (sig : Nat → Int32) : Nat → Nat := fun o => if 20 ≤ sig o then 0 else (sig o).toInt.natAbs
def m_caF (sig : Nat → Int32) : Nat → Nat := fun o => if 20 ≤ sig o then 0 else 1
def m_hum (sig : Nat → Int32) : Int32 := if 0 < m_S (m_caF sig) 48 then nI (m_S (m_huF sig) 48 / m_S (m_caF sig) 48) else 0
def m_tc (sig : Nat → Int32) (c : Nat) : Int32 := if sig c < 20 then 0 else 1
def m_Pic (f : Nat → am_C) (i : Nat) (sig reg pc px py chn : Nat → Int32) (pk hm : Int32) : Prop := f i = .inr (5, [.ref (i + 1), .ref (i + 2), .ref (i + 3), .ref (i + 4), .ref (i + 5), .ref (i + 6), .int pk, .int hm]) ∧ f (i + 1) = .inl (0, 48, .inl sig) ∧ f (i + 2) = .inl (0, 48, .inl reg) ∧ f (i + 3) = .inl (0, 48, .inl pc) ∧ f (i + 4) = .inl (0, 48, .inl px) ∧ f (i + 5) = .inl (0, 48, .inl py) ∧ f (i + 6) = .inl (0, 48, .inl chn)
/-- the chain holds the queue -/
def m_chn (chn : Nat → Int32) (q : List Nat) : Prop := ∀ j, j < q.length → chn j = nI (q.getD j 0)
theorem m_chn_push {chn : Nat → Int32} {q : List Nat} {c : Nat} (h : m_chn chn q) : m_chn (va_up chn q.length (nI c)) (q ++ [c]) := by
  intro j hj
  simp at hj
  by_cases e : j = q.length
  · subst e
    rw [am_up_eq]
    simp
  · rw [am_up_ne e, h j (by omega)]
    simp [List.getElem?_append_left (show j < q.length by omega)]
/-- what link is called with: a cell, or none -/
def m_at (x y : Int32) (c : Option Nat) : Prop := (∃ a b : Nat, a < 8 ∧ b < 6 ∧ x = nI a ∧ y = nI b ∧ c = some (8 * b + a)) ∨ (c = none ∧ (x < 0 ∨ 8 ≤ x ∨ y < 0 ∨ 6 ≤ y))
theorem m_Pic.rc {f : Nat → am_C} {i : Nat} {sig reg pc px py chn : Nat → Int32} {pk hm : Int32} (h : m_Pic f i sig reg pc px py chn pk hm) (reg' chn' : Nat → Int32) : m_Pic (va_up (va_up f (i + 2) (.inl (0, 48, .inl reg'))) (i + 6) (.inl (0, 48, .inl chn'))) i sig reg' pc px py chn' pk hm := by
  obtain ⟨h0, h1, h2, h3, h4, h5, h6⟩ := h
  exact ⟨am_un (by omega) (am_un (by omega) h0), am_un (by omega) (am_un (by omega) h1), am_un (by omega) am_ue, am_un (by omega) (am_un (by omega) h3), am_un (by omega) (am_un (by omega) h4), am_un (by omega) (am_un (by omega) h5), am_ue⟩
theorem m_at_in {a b : Nat} (ha : a < 8) (hb : b < 6) : m_at (nI a) (nI b) (some (8 * b + a)) := Or.inl ⟨a, b, ha, hb, rfl, rfl, rfl⟩
theorem m_at_left {c : Nat} (hc : c < 48) : m_at (nI (c % 8) - 1) (nI (c / 8)) (m_left c) := by
  unfold m_left
  split
  · rename_i h
    rw [h]
    exact Or.inr ⟨rfl, Or.inl (by decide)⟩
  · rename_i h
    refine Or.inl ⟨c % 8 - 1, c / 8, by omega, by omega, ?_, rfl, ?_⟩
    · rw [show nI (c % 8) = nI (c % 8 - 1 + 1) by rw [Nat.sub_add_cancel (by omega)], nI_pred]
    · congr 1; omega
theorem m_at_right {c : Nat} (hc : c < 48) : m_at (nI (c % 8) + 1) (nI (c / 8)) (m_right c) := by
  unfold m_right
  rw [nI_1]
  split
  · rename_i h
    rw [h]
    exact Or.inr ⟨rfl, Or.inr (Or.inl (by decide))⟩
  · rename_i h
    exact Or.inl ⟨c % 8 + 1, c / 8, by omega, by omega, rfl, rfl, by congr 1; omega⟩
theorem m_at_up {c : Nat} (hc : c < 48) : m_at (nI (c % 8)) (nI (c / 8) - 1) (m_up c) := by
  unfold m_up
  split
  · rename_i h
    rw [h]
    exact Or.inr ⟨rfl, Or.inr (Or.inr (Or.inl (by decide)))⟩
  · rename_i h
    refine Or.inl ⟨c % 8, c / 8 - 1, by omega, by omega, rfl, ?_, ?_⟩
    · rw [show nI (c / 8) = nI (c / 8 - 1 + 1) by rw [Nat.sub_add_cancel (by omega)], nI_pred]
    · congr 1; omega
theorem m_at_down {c : Nat} (hc : c < 48) : m_at (nI (c % 8)) (nI (c / 8) + 1) (m_down c) := by
  unfold m_down
  rw [nI_1]
  split
  · rename_i h
    rw [h]
    exact Or.inr ⟨rfl, Or.inr (Or.inr (Or.inr (by decide)))⟩
  · rename_i h
    exact Or.inl ⟨c % 8, c / 8 + 1, by omega, by omega, rfl, rfl, by congr 1; omega⟩
theorem am_rem8 {c : Nat} (h : c < 2 ^ 31) : nI c - nI c / 8 * 8 = nI (c % 8) := pk_rem h (by decide) (by decide)
theorem am_div8 {c : Nat} (h : c < 2 ^ 31) : nI c / 8 = nI (c / 8) := pk_div h (by decide) (by decide)
theorem m_take_in {q : List Nat} {k c : Nat} (hk : k < q.length) : c ∈ q.take (k + 1) ↔ c ∈ q.take k ∨ c = q.getD k 0 := by
  rw [List.take_succ, List.mem_append, List.getElem?_eq_getElem hk, List.getD_eq_getElem?_getD, List.getElem?_eq_getElem hk]
  simp
