/-! ===== what the class's objects look like in the world ===== -/
def m_rf (N a : Nat) : Nat → Option Nat := fun k => if k < N then some (a + 2 * k) else none
def m_Pr (f : Nat → am_C) (q : Nat) (le we : Nat → Int64) (be : Int64) : Prop := f q = .inr (4, [.ref (q + 1), .ref (q + 2), .long be]) ∧ f (q + 1) = .inl (1, 32, .inr (.inl le)) ∧ f (q + 2) = .inl (1, 5, .inr (.inl we))
def m_Ar (f : Nat → am_C) (a : Nat) (l r t b : Int32) (c : Nat → Int32) : Prop := f a = .inr (0, [.int l, .int r, .int t, .int b, .ref (a + 1)]) ∧ f (a + 1) = .inl (0, 4, .inl c)
def m_Co (f : Nat → am_C) (c : Nat) (th mt lx ly fr mi cl ar : Int32) (x y dx dy mo fx fy : UInt32) (fa : Nat → UInt32) : Prop := f c = .inr (2, [.int th, .int mt, .int lx, .int ly, .int fr, .int mi, .int cl, .int ar, .float x, .float y, .float dx, .float dy, .float mo, .float fx, .float fy, .ref (c + 1)]) ∧ f (c + 1) = .inl (2, 5, .inr (.inr (.inl fa)))
def m_CoF (f : Nat → am_C) (c : Nat) : Prop := m_Co f c 0 0 0 0 0 0 0 0 0 0 0 0 0 0 0 (fun _ => 0)
def m_ArF (f : Nat → am_C) (a : Nat) : Prop := m_Ar f a 0 0 0 0 (fun _ => 0)
def m_AsF (f : Nat → am_C) (a : Nat) : Prop := f a = .inr (1, [.ref (a + 1), .int 0]) ∧ f (a + 1) = .inl (4, 4, .inr (.inr (.inr (.inr (m_rf 4 (a + 2)))))) ∧ ∀ k, k < 4 → m_ArF f (a + 2 + 2 * k)
def m_HaF (f : Nat → am_C) (h a : Nat) : Prop := f h = .inr (3, [.ref (h + 1), .ref a, .int 0, .int 0, .int 0]) ∧ f (h + 1) = .inl (5, 5, .inr (.inr (.inr (.inr (m_rf 5 (h + 2)))))) ∧ ∀ k, k < 5 → m_CoF f (h + 2 + 2 * k)
section On
variable {f f' : Nat → am_C}
theorem m_Sh.on {j : Nat} {w bs : Nat → Int32} {ht : Int32} (h : m_Sh f j w bs ht) (e : ∀ x, j ≤ x → x ≤ j + 2 → f' x = f x) : m_Sh f' j w bs ht := ⟨(e _ (by omega) (by omega)).trans h.1, (e _ (by omega) (by omega)).trans h.2.1, (e _ (by omega) (by omega)).trans h.2.2⟩
theorem m_Pr.on {j : Nat} {le we : Nat → Int64} {be : Int64} (h : m_Pr f j le we be) (e : ∀ x, j ≤ x → x ≤ j + 2 → f' x = f x) : m_Pr f' j le we be := ⟨(e _ (by omega) (by omega)).trans h.1, (e _ (by omega) (by omega)).trans h.2.1, (e _ (by omega) (by omega)).trans h.2.2⟩
theorem m_Pic.on {i : Nat} {sig reg pc px py chn : Nat → Int32} {pk hm : Int32} (h : m_Pic f i sig reg pc px py chn pk hm) (e : ∀ x, i ≤ x → x ≤ i + 6 → f' x = f x) : m_Pic f' i sig reg pc px py chn pk hm := by
  obtain ⟨h0, h1, h2, h3, h4, h5, h6⟩ := h
  exact ⟨(e _ (by omega) (by omega)).trans h0, (e _ (by omega) (by omega)).trans h1, (e _ (by omega) (by omega)).trans h2, (e _ (by omega) (by omega)).trans h3, (e _ (by omega) (by omega)).trans h4, (e _ (by omega) (by omega)).trans h5, (e _ (by omega) (by omega)).trans h6⟩
theorem m_Look.on {i : Nat} {sig : Nat → Int32} (h : m_Look f i sig) (e : ∀ x, i ≤ x → x ≤ i + 6 → f' x = f x) : m_Look f' i sig := by
  obtain ⟨pc, px, py, chn, h1, h2⟩ := h
  exact ⟨pc, px, py, chn, h1.on e, h2⟩
theorem m_Ar.on {a : Nat} {l r t b : Int32} {c : Nat → Int32} (h : m_Ar f a l r t b c) (e : ∀ x, a ≤ x → x ≤ a + 1 → f' x = f x) : m_Ar f' a l r t b c := ⟨(e _ (by omega) (by omega)).trans h.1, (e _ (by omega) (by omega)).trans h.2⟩
theorem m_Co.on {c : Nat} {th mt lx ly fr mi cl ar : Int32} {x y dx dy mo fx fy : UInt32} {fa : Nat → UInt32} (h : m_Co f c th mt lx ly fr mi cl ar x y dx dy mo fx fy fa) (e : ∀ x, c ≤ x → x ≤ c + 1 → f' x = f x) : m_Co f' c th mt lx ly fr mi cl ar x y dx dy mo fx fy fa := ⟨(e _ (by omega) (by omega)).trans h.1, (e _ (by omega) (by omega)).trans h.2⟩
theorem m_AsF.on {a : Nat} (h : m_AsF f a) (e : ∀ x, a ≤ x → x ≤ a + 9 → f' x = f x) : m_AsF f' a := ⟨(e _ (by omega) (by omega)).trans h.1, (e _ (by omega) (by omega)).trans h.2.1, fun k hk => m_Ar.on (h.2.2 k hk) fun x h1 h2 => e x (by omega) (by omega)⟩
theorem m_HaF.on {h a : Nat} (hh : m_HaF f h a) (e : ∀ x, h ≤ x → x ≤ h + 11 → f' x = f x) : m_HaF f' h a := ⟨(e _ (by omega) (by omega)).trans hh.1, (e _ (by omega) (by omega)).trans hh.2.1, fun k hk => m_Co.on (hh.2.2 k hk) fun x h1 h2 => e x (by omega) (by omega)⟩
end On
theorem m_rf_at {N a k : Nat} (h : k < N) : m_rf N a k = some (a + 2 * k) := if_pos h
theorem m_rf_up {a k : Nat} : va_up (m_rf k a) k (some (a + 2 * k)) = m_rf (k + 1) a := by
  funext x
  unfold va_up m_rf
  by_cases e : x = k
  · subst e; simp
  · rw [if_neg e]
    by_cases c : x < k
    · rw [if_pos c, if_pos (by omega)]
    · rw [if_neg c, if_neg (by omega)]
/-- the glass: Palmward and all that it is made of -/
def m_Gl (f : Nat → am_C) (p : Nat) (w bs : Nat → Int32) (ht : Int32) (w2 bs2 : Nat → Int32) (ht2 : Int32) (di li ta to : Int32) : Prop :=
  f p = .inr (7, [.ref (p + 1), .ref (p + 4), .ref (p + 11), .ref (p + 14), .ref (p + 21), .ref (p + 24), .ref (p + 34), .int di, .int li, .int ta, .int to]) ∧ m_Sh f (p + 1) w bs ht ∧ m_Sh f (p + 11) w2 bs2 ht2
theorem m_pks_0 : m_pks (fun _ => 0) 48 = [] := by
  unfold m_pks
  rw [List.filter_eq_nil_iff]
  intro x _ h
  unfold m_isPk at h
  simp only [Bool.and_eq_true, decide_eq_true_eq] at h
  exact absurd h.1 (by decide)
theorem m_reg_0 : m_reg (fun _ => 0) = fun _ => 0 := by
  have h : ∀ k, m_regs (fun _ => 0) k = fun _ => 0 := by
    intro k
    induction k with
    | zero => rfl
    | succ k ih =>
      have : m_regs (fun _ => 0) (k + 1) = if 20 ≤ (0 : Int32) ∧ m_regs (fun _ => 0) k k = 0 then m_region (fun _ => 0) k (m_regs (fun _ => 0) k) else m_regs (fun _ => 0) k := rfl
      rw [this, if_neg (fun z => absurd z.1 (by decide)), ih]
  exact h 48
theorem m_hum_0 : m_hum (fun _ => 0) = 0 := by
  have e1 : m_S (m_huF (fun _ => 0)) 48 = 0 := by
    rw [show m_huF (fun _ => 0) = fun _ => 0 from by funext x; unfold m_huF; rw [if_neg (show ¬ (20 : Int32) ≤ 0 by decide)]; rfl, m_S_const]
  unfold m_hum
  rw [e1]
  split
  · rw [Nat.zero_div]; rfl
  · rfl
theorem m_Look_0 {f : Nat → am_C} {i : Nat} (h : m_Pic f i (fun _ => 0) (fun _ => 0) (fun _ => 0) (fun _ => 0) (fun _ => 0) (fun _ => 0) 0 0) : m_Look f i (fun _ => 0) :=
  ⟨_, _, _, _, by rw [m_reg_0, m_pks_0, m_hum_0]; exact h, by rw [m_pks_0]; intro j hj; simp at hj⟩
