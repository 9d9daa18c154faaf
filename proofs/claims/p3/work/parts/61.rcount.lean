/-! ===== the reference in any state: what is counted ===== -/
section RCount
variable {m n sz : Nat} {f : Nat → am_C} {κ : Nat → Nat}
theorem r_nm1 {k : Nat} (h : k < 2 ^ 31) : ¬ nI k = -1 := fun z => by
  have e := congrArg Int32.toInt z
  rw [nI_toInt h, show (-1 : Int32).toInt = -1 from rfl] at e
  omega
def r_ar (f : Nat → am_C) (m sz : Nat) (κ : Nat → Nat) : Prop := sz ≤ 4 ∧ ∃ (el : Nat) (mc : Value) (R : Nat → Option Nat), f (m + 4) = .inr (13, [mc, .ref el, .int (nI sz)]) ∧ (0 < sz → κ el = 0 ∧ f el = .inl (8, 10, .inr (.inr (.inr (.inr R)))) ∧ ∀ k, k < sz → ∃ a, R k = some a ∧ κ a = 3)
theorem s_rcount {c j : Nat} {by1 : Int32} {a0 a1 a2 a3 a4 a5 a6 : Value} {r : List Value} (h0 : f m = .inr (12, a0 :: a1 :: a2 :: a3 :: a4 :: a5 :: a6 :: .ref (m + 4) :: r)) (har : r_ar f m sz κ) (hty : r_ty m n sz κ f) (hc : κ c = 1) (hj : j ≤ 3) : AM mX12_count 0 0 [.ref m, .ref c, .int (nI j), .int by1] n f (fun o n' f' => o = .inl none ∧ n = n' ∧ r_ty m n sz κ f' ∧ ∀ x, κ x ≠ 4 → f' x = f x) := by
  obtain ⟨ap, cl, kk, g0, g1, g2, g3, g4, g5⟩ := (hty c).2.1 hc
  unfold r_kF at g0
  show AW mX12_count 0 0 0 [some (.ref m), some (.ref c), some (.int (nI j)), some (.int by1)] [] n f _
  rcases g3 with e | ⟨k, hk, e⟩
  · rw [e] at g0
    refine am_aload_n 0 dX12_count_0 rfl ?_
    refine am_getfield 1 dX12_count_1 fX12_99 (by repeat (first | assumption | exact am_ue | refine am_un (by first | assumption | decide | omega) ?_)) rfl ?_
    refine am_iconst 4 (v := (-1)) dX12_count_4 (by decide) ?_
    refine am_icmp_eq 5 31 dX12_count_5 rfl (fun c5 => ?_) (fun c5 => absurd (by decide) c5)
    refine am_return 31 dX12_count_31 rfl ?_
    exact ⟨rfl, rfl, hty, fun _ _ => rfl⟩
  · rw [e] at g0
    obtain ⟨hs4, el, mc, R, l0, l1⟩ := har
    obtain ⟨l2, l3, l4⟩ := l1 (by omega)
    obtain ⟨a, l5, l6⟩ := l4 k hk
    obtain ⟨p, q, rr, s, y, b0, b1⟩ := (hty a).2.2.2.1 l6
    obtain ⟨g, b2⟩ := (hty y).2.2.2.2 b1
    refine am_aload_n 0 dX12_count_0 rfl ?_
    refine am_getfield 1 dX12_count_1 fX12_99 (by repeat (first | assumption | exact am_ue | refine am_un (by first | assumption | decide | omega) ?_)) rfl ?_
    refine am_iconst 4 (v := (-1)) dX12_count_4 (by decide) ?_
    refine am_icmp_eq 5 31 dX12_count_5 rfl (fun c5 => absurd c5 (r_nm1 (by omega))) (fun c5 => ?_)
    refine am_aload_n 8 dX12_count_8 rfl ?_
    refine am_getfield 9 dX12_count_9 fX12_36 (by repeat (first | assumption | exact am_ue | refine am_un (by first | assumption | decide | omega) ?_)) rfl ?_
    refine am_aload_n 12 dX12_count_12 rfl ?_
    refine am_getfield 13 dX12_count_13 fX12_99 (by repeat (first | assumption | exact am_ue | refine am_un (by first | assumption | decide | omega) ?_)) rfl ?_
    refine am_V1 16 (mc' := 0) (ms' := 0) (rc := 0) (rs := 0) dX12_count_16 lX12_102 ⟨by decide, by decide⟩ l0 (Nat.le_of_ble_eq_true rfl) (Nat.le_of_ble_eq_true rfl) (s_get l0 l3 hk (by omega) l5) ?_
    refine am_is_ct ?_
    refine am_cast 19 dX12_count_19 cX12_66 rfl rfl (by repeat (first | assumption | exact am_ue | refine am_un (by first | assumption | decide | omega) ?_)) ?_
    refine am_getfield 22 dX12_count_22 fX12_106 (by repeat (first | assumption | exact am_ue | refine am_un (by first | assumption | decide | omega) ?_)) rfl ?_
    refine am_iload_n 25 dX12_count_25 rfl ?_
    refine am_dup2 26 dX12_count_26 rfl rfl ?_
    refine am_iaload 27 dX12_count_27 rfl (by repeat (first | assumption | exact am_ue | refine am_un (by first | assumption | decide | omega) ?_)) (am_ix (show j < 4 by omega) (by decide)) ?_
    refine am_iload_n 28 dX12_count_28 rfl ?_
    refine am_iadd 29 dX12_count_29 ?_
    refine am_iastore 30 dX12_count_30 rfl (by repeat (first | assumption | exact am_ue | refine am_un (by first | assumption | decide | omega) ?_)) (am_ix (show j < 4 by omega) (by decide)) ?_
    refine am_return 31 dX12_count_31 rfl ?_
    refine ⟨rfl, rfl, hty.put (fun z => by omega) (fun z => by omega) (fun z => by omega) (fun _ => ⟨_, rfl⟩), fun x hx => am_up_ne (fun z => hx (by rw [z]; exact b1))⟩
/-- the model's own cell -/
def r_m12 (m : Nat) (th h di li ta to be lf ca : Int32) : am_C := .inr (12, [.int th, .ref (m + 1), .ref (m + 2), .int h, .int di, .int li, .ref (m + 3), .ref (m + 4), .int ta, .int to, .int be, .int lf, .int ca])
def r_cs (f : Nat → am_C) (m : Nat) (κ : Nat → Nat) (cs : Nat → Option Nat) : Prop := f (m + 3) = .inl (7, 5, .inr (.inr (.inr (.inr cs)))) ∧ ∀ k, k < 5 → ∀ c, cs k = some c → κ c = 1
theorem s_rcancel {k c : Nat} {th h di li ta to be lf ca : Int32} {cs : Nat → Option Nat} (h0 : f m = r_m12 m th h di li ta to be lf ca) (hcs : r_cs f m κ cs) (har : r_ar f m sz κ) (hty : r_ty m n sz κ f) (hk : k < 5) (hc : cs k = some c) : AM mX12_cancel 0 0 [.ref m, .int (nI k)] n f (fun o n' f' => o = .inl none ∧ n = n' ∧ f' m = r_m12 m th h di li ta to be lf (ca + 1) ∧ r_cs f' m κ (va_up cs k none) ∧ r_ty m n sz κ f' ∧ ∀ x, x ≠ m → x ≠ m + 3 → κ x ≠ 4 → f' x = f x) := by
  obtain ⟨c3, cw⟩ := hcs
  have hc1 := cw k hk c hc
  obtain ⟨ap, cl, kk, g0, g1, g2, g3, g4, g5⟩ := (hty c).2.1 hc1
  have k0 : ∀ x, x < m + 5 → κ x = 0 := fun x hx => Classical.byContradiction fun q => by have := ((hty x).1 q).1; omega
  have hcw : ∀ j, j < 5 → ∀ c, va_up cs k none j = some c → κ c = 1 := by
    intro j hj c' hc'
    by_cases e : j = k
    · rw [e, am_up_eq] at hc'; cases hc'
    · rw [am_up_ne e] at hc'; exact cw j hj c' hc'
  have hend : ∀ f1 : Nat → am_C, f1 m = r_m12 m th h di li ta to be lf ca → f1 (m + 3) = .inl (7, 5, .inr (.inr (.inr (.inr cs)))) → r_ty m n sz κ f1 → (∀ x, κ x ≠ 4 → f1 x = f x) → AW mX12_cancel 0 0 32 [some (.ref m), some (.int (nI k))] [] n f1 (fun o n' f' => o = .inl none ∧ n = n' ∧ f' m = r_m12 m th h di li ta to be lf (ca + 1) ∧ r_cs f' m κ (va_up cs k none) ∧ r_ty m n sz κ f' ∧ ∀ x, x ≠ m → x ≠ m + 3 → κ x ≠ 4 → f' x = f x) := by
    intro f1 e0 e3 et ex
    unfold r_m12 at e0
    refine am_aload_n 32 dX12_cancel_32 rfl ?_
    refine am_getfield 33 dX12_cancel_33 fX12_29 (by repeat (first | assumption | exact am_ue | refine am_un (by first | assumption | decide | omega) ?_)) rfl ?_
    refine am_iload_n 36 dX12_cancel_36 rfl ?_
    refine am_null 37 dX12_cancel_37 ?_
    refine am_aastore 38 dX12_cancel_38 rfl (by repeat (first | assumption | exact am_ue | refine am_un (by first | assumption | decide | omega) ?_)) trivial rfl (am_ix hk (by decide)) ?_
    refine am_aload_n 39 dX12_cancel_39 rfl ?_
    refine am_dup 40 dX12_cancel_40 rfl ?_
    refine am_getfield 41 dX12_cancel_41 fX12_116 (by repeat (first | assumption | exact am_ue | refine am_un (by first | assumption | decide | omega) ?_)) rfl ?_
    refine am_iconst 44 (v := 1) dX12_cancel_44 (by decide) ?_
    refine am_iadd 45 dX12_cancel_45 ?_
    refine am_putfield 46 dX12_cancel_46 pX12_116 (by repeat (first | assumption | exact am_ue | refine am_un (by first | assumption | decide | omega) ?_)) rfl rfl (Nat.le_of_ble_eq_true rfl) ?_
    refine am_return 49 dX12_cancel_49 rfl ?_
    refine ⟨rfl, rfl, am_ue, ⟨am_un (by omega) am_ue, hcw⟩, et.on (Nat.le_refl _) (fun x hx => ?_), fun x h1 h2 h3 => ?_⟩
    · rw [am_up_ne (fun z => hx (by rw [z]; exact k0 m (by omega))), am_up_ne (fun z => hx (by rw [z]; exact k0 (m + 3) (by omega)))]
    · rw [am_up_ne h1, am_up_ne h2]; exact ex x h3
  unfold r_kF at g0
  have h0' := h0
  unfold r_m12 at h0
  by_cases e : kk.1 6 = 0
  · refine am_aload_n 0 dX12_cancel_0 rfl ?_
    refine am_getfield 1 dX12_cancel_1 fX12_29 (by repeat (first | assumption | exact am_ue | refine am_un (by first | assumption | decide | omega) ?_)) rfl ?_
    refine am_iload_n 4 dX12_cancel_4 rfl ?_
    refine am_aaload 5 dX12_cancel_5 rfl (by repeat (first | assumption | exact am_ue | refine am_un (by first | assumption | decide | omega) ?_)) (am_ix hk (by decide)) ?_
    rw [nI_clamp (n := k) (by omega), hc, show va_rf (some c) = Value.ref c from rfl]
    refine am_getfield 6 dX12_cancel_6 fX12_109 (by repeat (first | assumption | exact am_ue | refine am_un (by first | assumption | decide | omega) ?_)) rfl ?_
    refine am_if_eq 9 32 dX12_cancel_9 rfl (fun c9 => ?_) (fun c9 => absurd e c9)
    exact hend f h0' c3 hty (fun _ _ => rfl)
  · have hcc : AM mX12_count 0 0 [.ref m, .ref c, .int (kk.1 6), .int (-1)] n f _ := by rw [g5]; exact s_rcount (j := cl) (by1 := -1) h0 har hty hc1 g4
    refine am_aload_n 0 dX12_cancel_0 rfl ?_
    refine am_getfield 1 dX12_cancel_1 fX12_29 (by repeat (first | assumption | exact am_ue | refine am_un (by first | assumption | decide | omega) ?_)) rfl ?_
    refine am_iload_n 4 dX12_cancel_4 rfl ?_
    refine am_aaload 5 dX12_cancel_5 rfl (by repeat (first | assumption | exact am_ue | refine am_un (by first | assumption | decide | omega) ?_)) (am_ix hk (by decide)) ?_
    rw [nI_clamp (n := k) (by omega), hc, show va_rf (some c) = Value.ref c from rfl]
    refine am_getfield 6 dX12_cancel_6 fX12_109 (by repeat (first | assumption | exact am_ue | refine am_un (by first | assumption | decide | omega) ?_)) rfl ?_
    refine am_if_eq 9 32 dX12_cancel_9 rfl (fun c9 => absurd c9 e) (fun c9 => ?_)
    refine am_aload_n 12 dX12_cancel_12 rfl ?_
    refine am_aload_n 13 dX12_cancel_13 rfl ?_
    refine am_getfield 14 dX12_cancel_14 fX12_29 (by repeat (first | assumption | exact am_ue | refine am_un (by first | assumption | decide | omega) ?_)) rfl ?_
    refine am_iload_n 17 dX12_cancel_17 rfl ?_
    refine am_aaload 18 dX12_cancel_18 rfl (by repeat (first | assumption | exact am_ue | refine am_un (by first | assumption | decide | omega) ?_)) (am_ix hk (by decide)) ?_
    rw [nI_clamp (n := k) (by omega), hc, show va_rf (some c) = Value.ref c from rfl]
    refine am_aload_n 19 dX12_cancel_19 rfl ?_
    refine am_getfield 20 dX12_cancel_20 fX12_29 (by repeat (first | assumption | exact am_ue | refine am_un (by first | assumption | decide | omega) ?_)) rfl ?_
    refine am_iload_n 23 dX12_cancel_23 rfl ?_
    refine am_aaload 24 dX12_cancel_24 rfl (by repeat (first | assumption | exact am_ue | refine am_un (by first | assumption | decide | omega) ?_)) (am_ix hk (by decide)) ?_
    rw [nI_clamp (n := k) (by omega), hc, show va_rf (some c) = Value.ref c from rfl]
    refine am_getfield 25 dX12_cancel_25 fX12_109 (by repeat (first | assumption | exact am_ue | refine am_un (by first | assumption | decide | omega) ?_)) rfl ?_
    refine am_iconst 28 (v := (-1)) dX12_cancel_28 (by decide) ?_
    refine am_V3 29 (mc' := 0) (ms' := 0) (rc := 0) (rs := 0) dX12_cancel_29 lX12_112 ⟨by decide, by decide⟩ h0 (Nat.le_of_ble_eq_true rfl) (Nat.le_of_ble_eq_true rfl) (hcc) ?_
    rintro o n' f1 ⟨rfl, rfl, ht, ex⟩
    refine am_ctI ?_
    exact hend f1 ((ex m (by rw [k0 m (by omega)]; decide)).trans h0') ((ex _ (by rw [k0 (m + 3) (by omega)]; decide)).trans c3) ht ex
end RCount
