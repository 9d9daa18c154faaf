/-! ===== the reference in any state: its list, its heap ===== -/
section RHeap
variable {G : Nat → m_K}
variable {m l n el a N : Nat} {f : Nat → am_C} {R : Nat → Option Nat}
theorem s_ckIx {k N : Nat} (hk : k < N) (hN : N < 2 ^ 31) : AM mJ3_checkIndex_8e157 0 0 [.int (nI k), .int (nI N), .null] n f (am_is (some (.int (nI k))) n f) := by
  show AW mJ3_checkIndex_8e157 0 0 0 [some (.int (nI k)), some (.int (nI N)), some .null] [] n f _
  refine am_iload_n 0 dJ3_checkIndex_8e157_0 rfl ?_
  refine am_if_lt 1 9 dJ3_checkIndex_8e157_1 rfl (fun c1 => absurd c1 (nI_pos (by omega))) (fun c1 => ?_)
  refine am_iload_n 4 dJ3_checkIndex_8e157_4 rfl ?_
  refine am_iload_n 5 dJ3_checkIndex_8e157_5 rfl ?_
  refine am_icmp_lt 6 16 dJ3_checkIndex_8e157_6 rfl (fun c6 => ?_) (fun c6 => absurd (nI_lt hk hN) c6)
  refine am_iload_n 16 dJ3_checkIndex_8e157_16 rfl ?_
  exact am_ireturn 17 dJ3_checkIndex_8e157_17 rfl rfl ⟨rfl, rfl, rfl⟩
theorem s_ckIx2 {k N : Nat} (hk : k < N) (hN : N < 2 ^ 31) : AM mJ15_checkIndex_7cf53 0 0 [.int (nI k), .int (nI N)] n f (am_is (some (.int (nI k))) n f) := by
  show AW mJ15_checkIndex_7cf53 0 0 0 [some (.int (nI k)), some (.int (nI N))] [] n f _
  refine am_iload_n 0 dJ15_checkIndex_7cf53_0 rfl ?_
  refine am_iload_n 1 dJ15_checkIndex_7cf53_1 rfl ?_
  refine am_null 2 dJ15_checkIndex_7cf53_2 ?_
  refine am_S3 3 (mc' := 0) (ms' := 0) (rc := 0) (rs := 0) dJ15_checkIndex_7cf53_3 lJ15_105 ⟨by decide, by decide⟩ (Nat.le_of_ble_eq_true rfl) (Nat.le_of_ble_eq_true rfl) (s_ckIx hk hN) ?_
  refine am_is_ct ?_
  exact am_ireturn 6 dJ15_checkIndex_7cf53_6 rfl rfl ⟨rfl, rfl, rfl⟩
theorem s_elData {mc : Value} {sz : Value} {k : Nat} (h : f l = .inr (13, [mc, .ref el, sz])) (he : f el = .inl (8, 10, .inr (.inr (.inr (.inr R))))) (hk : k < 10) (hR : R k = some a) : AM mJx4a65c_elementData_915e3 0 0 [.ref l, .int (nI k)] n f (am_is (some (.ref a)) n f) := by
  show AW mJx4a65c_elementData_915e3 0 0 0 [some (.ref l), some (.int (nI k))] [] n f _
  refine am_aload_n 0 dJx4a65c_elementData_915e3_0 rfl ?_
  refine am_getfield 1 dJx4a65c_elementData_915e3_1 fJx4a65c_9 (by repeat (first | assumption | exact am_ue | refine am_un (by first | assumption | decide | omega) ?_)) rfl ?_
  refine am_iload_n 4 dJx4a65c_elementData_915e3_4 rfl ?_
  refine am_aaload 5 dJx4a65c_elementData_915e3_5 rfl (by repeat (first | assumption | exact am_ue | refine am_un (by first | assumption | decide | omega) ?_)) (am_ix hk (by decide)) ?_
  rw [nI_clamp (n := k) (by omega), hR, show va_rf (some a) = Value.ref a from rfl]
  exact am_areturn 6 dJx4a65c_elementData_915e3_6 rfl (Or.inl ⟨_, rfl⟩) ⟨rfl, rfl, rfl⟩
theorem s_get {mc : Value} {sz k : Nat} (h : f l = .inr (13, [mc, .ref el, .int (nI sz)])) (he : f el = .inl (8, 10, .inr (.inr (.inr (.inr R))))) (hk : k < sz) (hs : sz ≤ 10) (hR : R k = some a) : AM mJx4a65c_get_915e3 0 0 [.ref l, .int (nI k)] n f (am_is (some (.ref a)) n f) := by
  show AW mJx4a65c_get_915e3 0 0 0 [some (.ref l), some (.int (nI k))] [] n f _
  refine am_iload_n 0 dJx4a65c_get_915e3_0 rfl ?_
  refine am_aload_n 1 dJx4a65c_get_915e3_1 rfl ?_
  refine am_getfield 2 dJx4a65c_get_915e3_2 fJx4a65c_48 (by repeat (first | assumption | exact am_ue | refine am_un (by first | assumption | decide | omega) ?_)) rfl ?_
  refine am_S2 5 (mc' := 0) (ms' := 0) (rc := 0) (rs := 0) dJx4a65c_get_915e3_5 lJx4a65c_118 ⟨by decide, by decide⟩ (Nat.le_of_ble_eq_true rfl) (Nat.le_of_ble_eq_true rfl) (s_ckIx2 hk (by omega)) ?_
  refine am_is_ct ?_
  refine am_pop 8 dJx4a65c_get_915e3_8 rfl ?_
  refine am_aload_n 9 dJx4a65c_get_915e3_9 rfl ?_
  refine am_iload_n 10 dJx4a65c_get_915e3_10 rfl ?_
  refine am_V1 11 (mc' := 0) (ms' := 0) (rc := 0) (rs := 0) dJx4a65c_get_915e3_11 lJx4a65c_123 ⟨by decide, by decide⟩ h (Nat.le_of_ble_eq_true rfl) (Nat.le_of_ble_eq_true rfl) (s_elData h he (by omega) hR) ?_
  refine am_is_ct ?_
  exact am_areturn 14 dJx4a65c_get_915e3_14 rfl (Or.inl ⟨_, rfl⟩) ⟨rfl, rfl, rfl⟩
/-- what is known of a contact: its latest place, its misses, where it is -/
def x_eq (a b : m_K) : Prop := a.1 2 = b.1 2 ∧ a.1 3 = b.1 3 ∧ a.1 5 = b.1 5 ∧ a.2.1 0 = b.2.1 0 ∧ a.2.1 1 = b.2.1 1
/-! what lies where: 1 a contact, 2 its distances, 3 an area, 4 its counts; 0 anything else -/
def r_ty (m n sz : Nat) (G : Nat → m_K) (κ : Nat → Nat) (f : Nat → am_C) : Prop := ∀ x, (κ x ≠ 0 → m + 5 ≤ x ∧ x < n) ∧
  (κ x = 1 → ∃ (ap cl : Nat) (kk : m_K), f x = .inr (9, r_kF ap kk) ∧ κ ap = 2 ∧ m_kOk kk ∧ (kk.1 7 = -1 ∨ ∃ k, k < sz ∧ kk.1 7 = nI k) ∧ cl ≤ 3 ∧ kk.1 6 = nI cl ∧ kk = G x ∧ ap = x + 1) ∧
  (κ x = 2 → ∃ g : Nat → UInt32, f x = .inl (2, 5, .inr (.inr (.inl g))) ∧ (∀ j, j < 5 → fB (g j) 0 112) ∧ g = (G x).2.2) ∧
  (κ x = 3 → ∃ (p q r s : Int32) (y : Nat), f x = .inr (8, [.int p, .int q, .int r, .int s, .ref y]) ∧ κ y = 4) ∧
  (κ x = 4 → ∃ g : Nat → Int32, f x = .inl (0, 4, .inl g))
/-- a cell of a kind, changed within its kind -/
theorem r_ty.put {sz : Nat} {κ : Nat → Nat} {x : Nat} {X : am_C} (h : r_ty m n sz G κ f)
    (h1 : κ x = 1 → ∃ (ap cl : Nat) (kk : m_K), X = .inr (9, r_kF ap kk) ∧ κ ap = 2 ∧ m_kOk kk ∧ (kk.1 7 = -1 ∨ ∃ k, k < sz ∧ kk.1 7 = nI k) ∧ cl ≤ 3 ∧ kk.1 6 = nI cl ∧ kk = G x ∧ ap = x + 1)
    (h2 : κ x = 2 → ∃ g : Nat → UInt32, X = .inl (2, 5, .inr (.inr (.inl g))) ∧ (∀ j, j < 5 → fB (g j) 0 112) ∧ g = (G x).2.2)
    (h3 : κ x = 3 → ∃ (p q r s : Int32) (y : Nat), X = .inr (8, [.int p, .int q, .int r, .int s, .ref y]) ∧ κ y = 4)
    (h4 : κ x = 4 → ∃ g : Nat → Int32, X = .inl (0, 4, .inl g)) : r_ty m n sz G κ (va_up f x X) := by
  intro z
  by_cases e : z = x
  · subst e
    rw [am_up_eq]
    exact ⟨(h z).1, h1, h2, h3, h4⟩
  · rw [am_up_ne e]
    exact h z
/-- the same where nothing of a kind has changed; more is there -/
theorem r_ty.on {sz n' : Nat} {κ : Nat → Nat} {f' : Nat → am_C} (h : r_ty m n sz G κ f) (hn : n ≤ n') (e : ∀ x, κ x ≠ 0 → f' x = f x) : r_ty m n' sz G κ f' := by
  intro z
  obtain ⟨h0, h1, h2, h3, h4⟩ := h z
  refine ⟨fun q => ⟨(h0 q).1, Nat.lt_of_lt_of_le (h0 q).2 hn⟩, fun q => ?_, fun q => ?_, fun q => ?_, fun q => ?_⟩
  · rw [e z (by omega)]; exact h1 q
  · rw [e z (by omega)]; exact h2 q
  · rw [e z (by omega)]; exact h3 q
  · rw [e z (by omega)]; exact h4 q
theorem r_ty.ghost {sz : Nat} {κ : Nat → Nat} {G2 : Nat → m_K} (h : r_ty m n sz G κ f) (e : ∀ x, m + 5 ≤ x → G2 x = G x) : r_ty m n sz G2 κ f := by
  intro z
  obtain ⟨h0, h1, h2, h3, h4⟩ := h z
  refine ⟨h0, fun q => ?_, fun q => ?_, h3, h4⟩
  · rw [e z (h0 (by omega)).1]; exact h1 q
  · rw [e z (h0 (by omega)).1]; exact h2 q
end RHeap
