/-! ===== the reference in any state: what is counted ===== -/
section RCount
variable {G : Nat → m_K}
variable {m n sz : Nat} {f : Nat → am_C} {κ : Nat → Nat}
theorem r_nm1 {k : Nat} (h : k < 2 ^ 31) : ¬ nI k = -1 := fun z => by
  have e := congrArg Int32.toInt z
  rw [nI_toInt h, show (-1 : Int32).toInt = -1 from rfl] at e
  omega
def r_ar (f : Nat → am_C) (m n sz : Nat) (κ : Nat → Nat) : Prop := sz ≤ 4 ∧ m + 5 ≤ n ∧ ∃ (el : Nat) (mc : Int32) (R : Nat → Option Nat), f (m + 4) = .inr (13, [.int mc, .ref el, .int (nI sz)]) ∧ (sz = 0 → mc = 0 ∧ el = 1) ∧ (0 < sz → (m + 5 ≤ el ∧ el < n) ∧ κ el = 0 ∧ f el = .inl (8, 10, .inr (.inr (.inr (.inr R)))) ∧ ∀ k, k < sz → ∃ a, R k = some a ∧ κ a = 3)
theorem s_rcount {c j : Nat} {by1 : Int32} {a0 a1 a2 a3 a4 a5 a6 : Value} {r : List Value} (h0 : f m = .inr (12, a0 :: a1 :: a2 :: a3 :: a4 :: a5 :: a6 :: .ref (m + 4) :: r)) (har : r_ar f m n sz κ) (hty : r_ty m n sz G κ f) (hc : κ c = 1) (hj : j ≤ 3) : AM mX12_count 0 0 [.ref m, .ref c, .int (nI j), .int by1] n f (fun o n' f' => o = .inl none ∧ n = n' ∧ r_ty m n sz G κ f' ∧ ∀ x, κ x ≠ 4 → f' x = f x) := by
  obtain ⟨ap, cl, kk, g0, g1, g2, g3, g4, g5⟩ := (hty c).2.1 hc
  unfold r_kF at g0
  show AW mX12_count 0 0 0 [some (.ref m), some (.ref c), some (.int (nI j)), some (.int by1)] [] n f _
  rcases g3 with e | ⟨k, hk, e⟩
  · rw [e] at g0
    refine am_aload_n 0 dX12_count_0 rfl ?_
    refine am_getfield 1 dX12_count_1 fX12_99 (by repeat (first | assumption | exact am_ue | refine am_un (by first | assumption | decide | omega) ?_)) rfl ?_
    refine am_iconst 4 (v := (-1)) dX12_count_4 (by decide) ?_
    refine am_icmp_eq 5 31 dX12_count_5 rfl (fun c5 => ?_) (fun c5 => absurd (by decide) c5)
    refine am_return 31 dX12_count_31 rfl ?_
    exact ⟨rfl, rfl, hty, fun _ _ => rfl⟩
  · rw [e] at g0
    obtain ⟨hs4, -, el, mc, R, l0, -, l1⟩ := har
    obtain ⟨-, l2, l3, l4⟩ := l1 (by omega)
    obtain ⟨a, l5, l6⟩ := l4 k hk
    obtain ⟨p, q, rr, s, y, b0, b1⟩ := (hty a).2.2.2.1 l6
    obtain ⟨g, b2⟩ := (hty y).2.2.2.2 b1
    refine am_aload_n 0 dX12_count_0 rfl ?_
    refine am_getfield 1 dX12_count_1 fX12_99 (by repeat (first | assumption | exact am_ue | refine am_un (by first | assumption | decide | omega) ?_)) rfl ?_
    refine am_iconst 4 (v := (-1)) dX12_count_4 (by decide) ?_
    refine am_icmp_eq 5 31 dX12_count_5 rfl (fun c5 => absurd c5 (r_nm1 (by omega))) (fun c5 => ?_)
    refine am_aload_n 8 dX12_count_8 rfl ?_
    refine am_getfield 9 dX12_count_9 fX12_36 (by repeat (first | assumption | exact am_ue | refine am_un (by first | assumption | decide | omega) ?_)) rfl ?_
    refine am_aload_n 12 dX12_count_12 rfl ?_
    refine am_getfield 13 dX12_count_13 fX12_99 (by repeat (first | assumption | exact am_ue | refine am_un (by first | assumption | decide | omega) ?_)) rfl ?_
    refine am_V1 16 (mc' := 0) (ms' := 0) (rc := 0) (rs := 0) dX12_count_16 lX12_102 ⟨by decide, by decide⟩ l0 (Nat.le_of_ble_eq_true rfl) (Nat.le_of_ble_eq_true rfl) (s_get l0 l3 hk (by omega) l5) ?_
    refine am_is_ct ?_
    refine am_cast 19 dX12_count_19 cX12_66 rfl rfl (by repeat (first | assumption | exact am_ue | refine am_un (by first | assumption | decide | omega) ?_)) ?_
    refine am_getfield 22 dX12_count_22 fX12_106 (by repeat (first | assumption | exact am_ue | refine am_un (by first | assumption | decide | omega) ?_)) rfl ?_
    refine am_iload_n 25 dX12_count_25 rfl ?_
    refine am_dup2 26 dX12_count_26 rfl rfl ?_
    refine am_iaload 27 dX12_count_27 rfl (by repeat (first | assumption | exact am_ue | refine am_un (by first | assumption | decide | omega) ?_)) (am_ix (show j < 4 by omega) (by decide)) ?_
    refine am_iload_n 28 dX12_count_28 rfl ?_
    refine am_iadd 29 dX12_count_29 ?_
    refine am_iastore 30 dX12_count_30 rfl (by repeat (first | assumption | exact am_ue | refine am_un (by first | assumption | decide | omega) ?_)) (am_ix (show j < 4 by omega) (by decide)) ?_
    refine am_return 31 dX12_count_31 rfl ?_
    refine ⟨rfl, rfl, hty.put (fun z => by omega) (fun z => by omega) (fun z => by omega) (fun _ => ⟨_, rfl⟩), fun x hx => am_up_ne (fun z => hx (by rw [z]; exact b1))⟩
end RCount
