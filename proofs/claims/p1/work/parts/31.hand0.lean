/-! ===== on a new object: no contacts, no areas, no peaks ===== -/
section Hand0
theorem m_small (N : Nat) {v y : Int32} (hv : v = nI N) (hN : N < 2 ^ 31) (h0 : ¬ y < 0) (h1 : ¬ v ≤ y) : ∃ k : Nat, k < N ∧ y = nI k := by
  subst hv
  have h2 := Int32.le_iff_toInt_le.mp (Int32.not_lt.mp h0)
  have h3 := Int32.lt_iff_toInt_lt.mp (Int32.not_le.mp h1)
  rw [nI_toInt hN] at h3
  rw [show (0 : Int32).toInt = 0 from rfl] at h2
  exact ⟨y.toInt.toNat, by omega, Int32.toInt_inj.mp (by rw [nI_toInt (by omega)]; omega)⟩
variable {h a q i n : Nat} {f : Nat → am_C} {le we : Nat → Int64} {be : Int64} {d : Int32} {r1 r2 r3 r4 r5 r6 : Value} {hm : Int32}
theorem s_has0 {x : Int32} (hh : m_HaF f h a) : AM mX3_has 0 0 [.ref h, .int x] n f (am_is (some (.int 0)) n f) := by
  show AW mX3_has 0 0 0 [some (.ref h), some (.int x)] [] n f _
  refine am_iload_n 0 dX3_has_0 rfl ?_
  refine am_if_lt 1 25 dX3_has_1 rfl (fun c1 => ?_) (fun c1 => ?_)
  · refine am_iconst 25 (v := 0) dX3_has_25 (by decide) ?_
    exact am_ireturn 26 dX3_has_26 rfl rfl ⟨rfl, rfl, rfl⟩
  · refine am_iload_n 4 dX3_has_4 rfl ?_
    refine am_iconst 5 (v := 5) dX3_has_5 (by decide) ?_
    refine am_icmp_ge 6 25 dX3_has_6 rfl (fun c6 => ?_) (fun c6 => ?_)
    · refine am_iconst 25 (v := 0) dX3_has_25 (by decide) ?_
      exact am_ireturn 26 dX3_has_26 rfl rfl ⟨rfl, rfl, rfl⟩
    · obtain ⟨k, hk, rfl⟩ := m_small 5 rfl (by decide) c1 c6
      refine am_aload_n 9 dX3_has_9 rfl ?_
      refine am_getfield 10 dX3_has_10 fX3_11 (by first | exact hh.1 | exact hh.2.1 | exact hc | assumption) rfl ?_
      refine am_iload_n 13 dX3_has_13 rfl ?_
      refine am_aaload 14 dX3_has_14 rfl (by first | exact hh.1 | exact hh.2.1 | exact hc | assumption) (am_ix hk (by decide)) ?_
      rw [nI_clamp (n := k) (by omega), m_rf_at hk, show va_rf (some (h + 2 + 2 * k)) = Value.ref (h + 2 + 2 * k) from rfl]
      have hc := (hh.2.2 k hk).1
      refine am_getfield 15 dX3_has_15 fX3_22 (by first | exact hh.1 | exact hh.2.1 | exact hc | assumption) rfl ?_
      refine am_if_eq 18 25 dX3_has_18 rfl (fun c18 => ?_) (fun c18 => absurd rfl c18)
      refine am_iconst 25 (v := 0) dX3_has_25 (by decide) ?_
      exact am_ireturn 26 dX3_has_26 rfl rfl ⟨rfl, rfl, rfl⟩
theorem s_countContacts0 (hh : m_HaF f h a) : AM mX3_countContacts 0 0 [.ref h] n f (am_is (some (.int 0)) n f) := by
  show AW mX3_countContacts 0 0 0 [some (.ref h), none, none] [] n f _
  refine am_iconst 0 (v := 0) dX3_countContacts_0 (by decide) ?_
  refine am_istore_n 1 dX3_countContacts_1 (by decide) ?_
  refine am_iconst 2 (v := 0) dX3_countContacts_2 (by decide) ?_
  refine am_istore_n 3 dX3_countContacts_3 (by decide) ?_
  refine am_for 5 (fun _ (_ : Unit) => True) (fun k _ => AW mX3_countContacts 0 0 4 [some (.ref h), some (.int 0), some (.int (nI k))] [] n f _) ?_ ?_ 0 () (by omega) trivial
  · rintro ⟨⟩ -
    refine am_iload_n 4 dX3_countContacts_4 rfl ?_
    refine am_iconst 5 (v := 5) dX3_countContacts_5 (by decide) ?_
    refine am_icmp_ge 6 35 dX3_countContacts_6 rfl (fun c6 => ?_) (fun c6 => absurd (by decide) c6)
    refine am_iload_n 35 dX3_countContacts_35 rfl ?_
    exact am_ireturn 36 dX3_countContacts_36 rfl rfl ⟨rfl, rfl, rfl⟩
  · rintro k ⟨⟩ hk - ih
    refine am_iload_n 4 dX3_countContacts_4 rfl ?_
    refine am_iconst 5 (v := 5) dX3_countContacts_5 (by decide) ?_
    refine am_icmp_ge 6 35 dX3_countContacts_6 rfl (fun c6 => absurd c6 (nI_ge hk (by decide))) (fun c6 => ?_)
    refine am_iload_n 9 dX3_countContacts_9 rfl ?_
    refine am_aload_n 10 dX3_countContacts_10 rfl ?_
    refine am_getfield 11 dX3_countContacts_11 fX3_11 (by first | exact hh.1 | exact hh.2.1 | exact hc | assumption) rfl ?_
    refine am_iload_n 14 dX3_countContacts_14 rfl ?_
    refine am_aaload 15 dX3_countContacts_15 rfl (by first | exact hh.1 | exact hh.2.1 | exact hc | assumption) (am_ix hk (by decide)) ?_
    rw [nI_clamp (n := k) (by omega), m_rf_at hk, show va_rf (some (h + 2 + 2 * k)) = Value.ref (h + 2 + 2 * k) from rfl]
    have hc := (hh.2.2 k hk).1
    refine am_getfield 16 dX3_countContacts_16 fX3_22 (by first | exact hh.1 | exact hh.2.1 | exact hc | assumption) rfl ?_
    refine am_if_eq 19 26 dX3_countContacts_19 rfl (fun c19 => ?_) (fun c19 => absurd rfl c19)
    refine am_iconst 26 (v := 0) dX3_countContacts_26 (by decide) ?_
    refine am_iadd 27 dX3_countContacts_27 ?_
    rw [show (0 : Int32) + 0 = 0 from rfl]
    refine am_istore_n 28 dX3_countContacts_28 (by decide) ?_
    refine am_iinc 29 (v := nI (k + 1)) dX3_countContacts_29 rfl (nI_1 (k)) (by decide) ?_
    refine am_goto 32 (tgt := 4) dX3_countContacts_32 rfl ?_
    exact ih () trivial
theorem s_cancelAll0 (hh : m_HaF f h a) : AM mX3_cancelAll 0 0 [.ref h] n f (am_is none n f) := by
  show AW mX3_cancelAll 0 0 0 [some (.ref h), none] [] n f _
  refine am_iconst 0 (v := 0) dX3_cancelAll_0 (by decide) ?_
  refine am_istore_n 1 dX3_cancelAll_1 (by decide) ?_
  refine am_for 5 (fun _ (_ : Unit) => True) (fun k _ => AW mX3_cancelAll 0 0 2 [some (.ref h), some (.int (nI k))] [] n f _) ?_ ?_ 0 () (by omega) trivial
  · rintro ⟨⟩ -
    refine am_iload_n 2 dX3_cancelAll_2 rfl ?_
    refine am_iconst 3 (v := 5) dX3_cancelAll_3 (by decide) ?_
    refine am_icmp_ge 4 35 dX3_cancelAll_4 rfl (fun c4 => ?_) (fun c4 => absurd (by decide) c4)
    exact am_return 35 dX3_cancelAll_35 rfl ⟨rfl, rfl, rfl⟩
  · rintro k ⟨⟩ hk - ih
    refine am_iload_n 2 dX3_cancelAll_2 rfl ?_
    refine am_iconst 3 (v := 5) dX3_cancelAll_3 (by decide) ?_
    refine am_icmp_ge 4 35 dX3_cancelAll_4 rfl (fun c4 => absurd c4 (nI_ge hk (by decide))) (fun c4 => ?_)
    refine am_aload_n 7 dX3_cancelAll_7 rfl ?_
    refine am_getfield 8 dX3_cancelAll_8 fX3_11 (by first | exact hh.1 | exact hh.2.1 | exact hc | assumption) rfl ?_
    refine am_iload_n 11 dX3_cancelAll_11 rfl ?_
    refine am_aaload 12 dX3_cancelAll_12 rfl (by first | exact hh.1 | exact hh.2.1 | exact hc | assumption) (am_ix hk (by decide)) ?_
    rw [nI_clamp (n := k) (by omega), m_rf_at hk, show va_rf (some (h + 2 + 2 * k)) = Value.ref (h + 2 + 2 * k) from rfl]
    have hc := (hh.2.2 k hk).1
    refine am_getfield 13 dX3_cancelAll_13 fX3_22 (by first | exact hh.1 | exact hh.2.1 | exact hc | assumption) rfl ?_
    refine am_if_eq 16 29 dX3_cancelAll_16 rfl (fun c16 => ?_) (fun c16 => absurd rfl c16)
    refine am_iinc 29 (v := nI (k + 1)) dX3_cancelAll_29 rfl (nI_1 (k)) (by decide) ?_
    refine am_goto 32 (tgt := 2) dX3_cancelAll_32 rfl ?_
    exact ih () trivial
theorem s_canClaim0 {c : Nat} (hc : m_CoF f c) : AM mX2_canClaim 0 0 [.ref c] n f (am_is (some (.int 0)) n f) := by
  have h0 := hc.1
  show AW mX2_canClaim 0 0 0 [some (.ref c)] [] n f _
  refine am_aload_n 0 dX2_canClaim_0 rfl ?_
  refine am_getfield 1 dX2_canClaim_1 fX2_15 (by repeat (first | assumption | exact am_ue | refine am_un (by first | assumption | decide | omega) ?_)) rfl ?_
  refine am_if_eq 4 25 dX2_canClaim_4 rfl (fun c4 => ?_) (fun c4 => absurd rfl c4)
  refine am_iconst 25 (v := 0) dX2_canClaim_25 (by decide) ?_
  exact am_ireturn 26 dX2_canClaim_26 rfl rfl ⟨rfl, rfl, rfl⟩
theorem s_digitOf {x : Int32} : AM mX4_digitOf 0 0 [.int x] n f (am_is (some (.int (6 * (4 - x)))) n f) := by
  show AW mX4_digitOf 0 0 0 [some (.int x)] [] n f _
  refine am_bipush 0 (v := 6) dX4_digitOf_0 (by decide) ?_
  refine am_iconst 2 (v := 4) dX4_digitOf_2 (by decide) ?_
  refine am_iload_n 3 dX4_digitOf_3 rfl ?_
  refine am_isub 4 dX4_digitOf_4 ?_
  refine am_imul 5 dX4_digitOf_5 ?_
  exact am_ireturn 6 dX4_digitOf_6 rfl rfl ⟨rfl, rfl, rfl⟩
theorem s_weightOfRest {s : Int32} : AM mX4_weightOfRest 0 0 [.int s] n f (fun o n' f' => ∃ v, o = .inl (some (.long v)) ∧ n' = n ∧ f' = f) := by
  show AW mX4_weightOfRest 0 0 0 [some (.int s), none, none, none] [] n f _
  refine am_lconst 0 (v := 0) dX4_weightOfRest_0 rfl ?_
  refine am_lstore_n 1 dX4_weightOfRest_1 (by decide) ?_
  refine am_iconst 2 (v := 0) dX4_weightOfRest_2 (by decide) ?_
  refine am_istore_n 3 dX4_weightOfRest_3 (by decide) ?_
  refine am_for 5 (fun _ (_ : Int64) => True) (fun k w => AW mX4_weightOfRest 0 0 4 [some (.int s), some (.long w), none, some (.int (nI k))] [] n f _) ?_ ?_ 0 0 (by omega) trivial
  · rintro w -
    refine am_iload_n 4 dX4_weightOfRest_4 rfl ?_
    refine am_iconst 5 (v := 5) dX4_weightOfRest_5 (by decide) ?_
    refine am_icmp_ge 6 38 dX4_weightOfRest_6 rfl (fun c6 => ?_) (fun c6 => absurd (by decide) c6)
    refine am_lload_n 38 dX4_weightOfRest_38 rfl ?_
    refine am_lreturn 39 dX4_weightOfRest_39 rfl ?_
    exact ⟨_, rfl, rfl, rfl⟩
  · rintro k w hk - ih
    refine am_iload_n 4 dX4_weightOfRest_4 rfl ?_
    refine am_iconst 5 (v := 5) dX4_weightOfRest_5 (by decide) ?_
    refine am_icmp_ge 6 38 dX4_weightOfRest_6 rfl (fun c6 => absurd c6 (nI_ge hk (by decide))) (fun c6 => ?_)
    refine am_iload_n 9 dX4_weightOfRest_9 rfl ?_
    refine am_iconst 10 (v := 1) dX4_weightOfRest_10 (by decide) ?_
    refine am_iload_n 11 dX4_weightOfRest_11 rfl ?_
    refine am_ishl 12 dX4_weightOfRest_12 ?_
    refine am_iand 13 dX4_weightOfRest_13 ?_
    refine am_if_ne 14 32 dX4_weightOfRest_14 rfl (fun c14 => ?_) (fun c14 => ?_)
    · refine am_iinc 32 (v := nI (k + 1)) dX4_weightOfRest_32 rfl (nI_1 (k)) (by decide) ?_
      refine am_goto 35 (tgt := 4) dX4_weightOfRest_35 rfl ?_
      exact ih _ trivial
    · refine am_lload_n 17 dX4_weightOfRest_17 rfl ?_
      refine am_ldc2 18 dX4_weightOfRest_18 kX4_72 ?_
      refine am_ldc2 21 dX4_weightOfRest_21 kX4_74 ?_
      refine am_iload_n 24 dX4_weightOfRest_24 rfl ?_
      refine am_S1 25 (mc' := 0) (ms' := 0) (rc := 0) (rs := 0) dX4_weightOfRest_25 lX4_47 ⟨by decide, by decide⟩ (Nat.le_of_ble_eq_true rfl) (Nat.le_of_ble_eq_true rfl) (s_digitOf) ?_
      refine am_is_ct ?_
      refine am_lshl 28 dX4_weightOfRest_28 ?_
      refine am_ladd 29 dX4_weightOfRest_29 ?_
      refine am_ladd 30 dX4_weightOfRest_30 ?_
      refine am_lstore_n 31 dX4_weightOfRest_31 (by decide) ?_
      refine am_iinc 32 (v := nI (k + 1)) dX4_weightOfRest_32 rfl (nI_1 (k)) (by decide) ?_
      refine am_goto 35 (tgt := 4) dX4_weightOfRest_35 rfl ?_
      exact ih _ trivial
theorem s_peakOf0 {x : Int32} (hq : f q = .inr (4, [.ref (q + 1), .ref (q + 2), .long be])) : AM mX4_peakOf 0 0 [.ref q, .int x] n f (fun o n' f' => ∃ v, o = .inl (some (.int v)) ∧ n' = n ∧ f' = f) := by
  show AW mX4_peakOf 0 0 0 [some (.ref q), some (.int x), none] [] n f _
  refine am_aload_n 0 dX4_peakOf_0 rfl ?_
  refine am_getfield 1 dX4_peakOf_1 fX4_33 (by repeat (first | assumption | exact am_ue | refine am_un (by first | assumption | decide | omega) ?_)) rfl ?_
  refine am_iload_n 4 dX4_peakOf_4 rfl ?_
  refine am_S1 5 (mc' := 0) (ms' := 0) (rc := 0) (rs := 0) dX4_peakOf_5 lX4_47 ⟨by decide, by decide⟩ (Nat.le_of_ble_eq_true rfl) (Nat.le_of_ble_eq_true rfl) (s_digitOf) ?_
  refine am_is_ct ?_
  refine am_lshr 8 dX4_peakOf_8 ?_
  refine am_l2i 9 dX4_peakOf_9 ?_
  refine am_bipush 10 (v := 63) dX4_peakOf_10 (by decide) ?_
  refine am_iand 12 dX4_peakOf_12 ?_
  refine am_istore_n 13 dX4_peakOf_13 (by decide) ?_
  refine am_iload_n 14 dX4_peakOf_14 rfl ?_
  refine am_bipush 15 (v := 63) dX4_peakOf_15 (by decide) ?_
  refine am_icmp_ne 17 24 dX4_peakOf_17 rfl (fun c17 => ?_) (fun c17 => ?_)
  · refine am_iload_n 24 dX4_peakOf_24 rfl ?_
    refine am_ireturn 25 dX4_peakOf_25 rfl rfl ?_
    exact ⟨_, rfl, rfl, rfl⟩
  · refine am_iconst 20 (v := (-1)) dX4_peakOf_20 (by decide) ?_
    refine am_goto 21 (tgt := 25) dX4_peakOf_21 rfl ?_
    refine am_ireturn 25 dX4_peakOf_25 rfl rfl ?_
    exact ⟨_, rfl, rfl, rfl⟩
def m_prU (f : Nat → am_C) (q : Nat) (le : Nat → Int64) (be : Int64) : Nat → am_C := va_up (va_up f (q + 1) (.inl (1, 32, .inr (.inl le)))) q (.inr (4, [.ref (q + 1), .ref (q + 2), .long be]))
theorem m_prU_0 : m_prU f q le be q = .inr (4, [.ref (q + 1), .ref (q + 2), .long be]) := am_ue
theorem m_prU_1 : m_prU f q le be (q + 1) = .inl (1, 32, .inr (.inl le)) := am_un (by omega) am_ue
theorem m_prU_x {x : Nat} (h : x < q ∨ q + 1 < x) : m_prU f q le be x = f x := by
  unfold m_prU
  rw [am_up_ne (by omega), am_up_ne (by omega)]
theorem m_prU_b {b : Int64} : va_up (m_prU f q le be) q (.inr (4, [.ref (q + 1), .ref (q + 2), .long b])) = m_prU f q le b := by
  unfold m_prU
  rw [am_uu]
theorem m_prU_l {g : Nat → Int64} : va_up (m_prU f q le be) (q + 1) (.inl (1, 32, .inr (.inl g))) = m_prU f q g be := by
  unfold m_prU
  rw [am_us (i := q) (j := q + 1) (by omega), am_uu]
theorem m_Pr.u (h : m_Pr f q le we be) : f = m_prU f q le be := by
  unfold m_prU
  rw [am_self h.2.1, am_self h.1]
theorem s_pair0 {cs : Nat} (hq : m_Pr f q le we be) (hp : f i = .inr (5, [r1, r2, r3, r4, r5, r6, .int 0, .int hm])) (hi : i < q ∨ q + 2 < i) : AM mX4_pair 0 0 [.ref q, .ref i, .ref cs] n f (fun o n' f' => o = .inl none ∧ n' = n ∧ (∃ le' be', m_Pr f' q le' we be') ∧ ∀ x, (x < q ∨ q + 2 < x) → f' x = f x) := by
  show AW mX4_pair 0 0 0 [some (.ref q), some (.ref i), some (.ref cs), none, none] [] n f _
  rw [hq.u]
  have hi2 : ∀ (le' : Nat → Int64) (be' : Int64), m_prU f q le' be' i = .inr (5, [r1, r2, r3, r4, r5, r6, .int 0, .int hm]) := fun _ _ => (m_prU_x (by omega)).trans hp
  generalize hQ : (fun (o : Option Value ⊕ Nat) (n' : Nat) (f' : Nat → am_C) => o = .inl none ∧ n' = n ∧ (∃ le' be', m_Pr f' q le' we be') ∧ ∀ x, (x < q ∨ q + 2 < x) → f' x = m_prU f q le be x) = Q
  refine am_aload_n 0 dX4_pair_0 rfl ?_
  refine am_getfield 1 dX4_pair_1 fX4_11 (by first | exact m_prU_0 | exact m_prU_1 | exact hi2 _ _) rfl ?_
  refine am_iconst 4 (v := 0) dX4_pair_4 (by decide) ?_
  refine am_lconst 5 (v := 0) dX4_pair_5 rfl ?_
  refine am_lastore 6 dX4_pair_6 rfl (by first | exact m_prU_0 | exact m_prU_1 | exact hi2 _ _) (am_ix (c := 0) (by decide) (by decide)) ?_
  rw [m_prU_l]
  refine am_iconst 7 (v := 1) dX4_pair_7 (by decide) ?_
  refine am_istore_n 8 dX4_pair_8 (by decide) ?_
  refine am_for 32 (fun _ (_ : Nat → Int64) => True) (fun k le' => AW mX4_pair 0 0 9 [some (.ref q), some (.ref i), some (.ref cs), some (.int (nI k)), none] [] n (m_prU f q le' be) Q) ?_ ?_ 1 _ (by omega) trivial
  · rintro le1 -
    refine am_iload_n 9 dX4_pair_9 rfl ?_
    refine am_bipush 10 (v := 32) dX4_pair_10 (by decide) ?_
    refine am_icmp_ge 12 30 dX4_pair_12 rfl (fun c12 => ?_) (fun c12 => absurd (by decide) c12)
    refine am_iconst 30 (v := 0) dX4_pair_30 (by decide) ?_
    refine am_istore_n 31 dX4_pair_31 (by decide) ?_
    refine am_iload_n 32 dX4_pair_32 rfl ?_
    refine am_aload_n 33 dX4_pair_33 rfl ?_
    refine am_getfield 34 dX4_pair_34 fX4_20 (by first | exact m_prU_0 | exact m_prU_1 | exact hi2 _ _) rfl ?_
    refine am_icmp_ge 37 83 dX4_pair_37 rfl (fun c37 => ?_) (fun c37 => absurd (Int32.le_refl _) c37)
    refine am_aload_n 83 dX4_pair_83 rfl ?_
    refine am_ldc2 84 dX4_pair_84 kX4_18 ?_
    refine am_putfield 87 dX4_pair_87 pX4_33 (by first | exact m_prU_0 | exact m_prU_1 | exact hi2 _ _) rfl rfl (Nat.le_of_ble_eq_true rfl) ?_
    rw [show ∀ b : Int64, List.set [Value.ref (q + 1), .ref (q + 2), .long be] 2 (.long b) = [.ref (q + 1), .ref (q + 2), .long b] from fun _ => rfl, m_prU_b]
    refine am_iconst 90 (v := 0) dX4_pair_90 (by decide) ?_
    refine am_istore_n 91 dX4_pair_91 (by decide) ?_
    refine am_for 32 (fun _ (_ : Int64) => True) (fun k b' => AW mX4_pair 0 0 92 [some (.ref q), some (.ref i), some (.ref cs), some (.int (nI k)), none] [] n (m_prU f q le1 b') Q) ?_ ?_ 0 _ (by omega) trivial
    · rintro b1 -
      refine am_iload_n 92 dX4_pair_92 rfl ?_
      refine am_bipush 93 (v := 32) dX4_pair_93 (by decide) ?_
      refine am_icmp_ge 95 126 dX4_pair_95 rfl (fun c95 => ?_) (fun c95 => absurd (by decide) c95)
      refine am_return 126 dX4_pair_126 rfl ?_
      subst hQ
      exact ⟨rfl, rfl, ⟨le1, b1, m_prU_0, m_prU_1, (m_prU_x (by omega)).trans hq.2.2⟩, fun x hx => (m_prU_x (by omega)).trans (m_prU_x (by omega)).symm⟩
    · rintro k b1 hk - ih
      refine am_iload_n 92 dX4_pair_92 rfl ?_
      refine am_bipush 93 (v := 32) dX4_pair_93 (by decide) ?_
      refine am_icmp_ge 95 126 dX4_pair_95 rfl (fun c95 => absurd c95 (nI_ge hk (by decide))) (fun c95 => ?_)
      refine am_aload_n 98 dX4_pair_98 rfl ?_
      refine am_aload_n 99 dX4_pair_99 rfl ?_
      refine am_getfield 100 dX4_pair_100 fX4_33 (by first | exact m_prU_0 | exact m_prU_1 | exact hi2 _ _) rfl ?_
      refine am_aload_n 103 dX4_pair_103 rfl ?_
      refine am_getfield 104 dX4_pair_104 fX4_11 (by first | exact m_prU_0 | exact m_prU_1 | exact hi2 _ _) rfl ?_
      refine am_iload_n 107 dX4_pair_107 rfl ?_
      refine am_laload 108 dX4_pair_108 rfl (by first | exact m_prU_0 | exact m_prU_1 | exact hi2 _ _) (am_ix hk (by decide)) ?_
      refine am_iload_n 109 dX4_pair_109 rfl ?_
      refine am_S1 110 (mc' := 0) (ms' := 0) (rc := 0) (rs := 0) dX4_pair_110 lX4_37 ⟨by decide, by decide⟩ (Nat.le_of_ble_eq_true rfl) (Nat.le_of_ble_eq_true rfl) (s_weightOfRest) ?_
      rintro o n' f' ⟨v, rfl, rfl, rfl⟩
      show AW mX4_pair 0 0 113 [some (.ref q), some (.ref i), some (.ref cs), some (.int (nI k)), none] [.long v, .long (le1 (nI k).toNatClampNeg), .long b1, .ref q] n' _ Q
      refine am_ladd 113 dX4_pair_113 ?_
      refine am_minL 114 dX4_pair_114 jX4_41 (by decide) (Nat.le_of_ble_eq_true rfl) ?_
      refine am_putfield 117 dX4_pair_117 pX4_33 (by first | exact m_prU_0 | exact m_prU_1 | exact hi2 _ _) rfl rfl (Nat.le_of_ble_eq_true rfl) ?_
      rw [show ∀ b : Int64, List.set [Value.ref (q + 1), .ref (q + 2), .long b1] 2 (.long b) = [.ref (q + 1), .ref (q + 2), .long b] from fun _ => rfl, m_prU_b]
      refine am_iinc 120 (v := nI (k + 1)) dX4_pair_120 rfl (nI_1 (k)) (by decide) ?_
      refine am_goto 123 (tgt := 92) dX4_pair_123 rfl ?_
      exact ih _ trivial
  · rintro k le1 hk - ih
    refine am_iload_n 9 dX4_pair_9 rfl ?_
    refine am_bipush 10 (v := 32) dX4_pair_10 (by decide) ?_
    refine am_icmp_ge 12 30 dX4_pair_12 rfl (fun c12 => absurd c12 (nI_ge hk (by decide))) (fun c12 => ?_)
    refine am_aload_n 15 dX4_pair_15 rfl ?_
    refine am_getfield 16 dX4_pair_16 fX4_11 (by first | exact m_prU_0 | exact m_prU_1 | exact hi2 _ _) rfl ?_
    refine am_iload_n 19 dX4_pair_19 rfl ?_
    refine am_ldc2 20 dX4_pair_20 kX4_18 ?_
    refine am_lastore 23 dX4_pair_23 rfl (by first | exact m_prU_0 | exact m_prU_1 | exact hi2 _ _) (am_ix hk (by decide)) ?_
    rw [m_prU_l]
    refine am_iinc 24 (v := nI (k + 1)) dX4_pair_24 rfl (nI_1 (k)) (by decide) ?_
    refine am_goto 27 (tgt := 9) dX4_pair_27 rfl ?_
    exact ih _ trivial
theorem s_followMatched0 (hh : m_HaF f h a) (hq : f q = .inr (4, [.ref (q + 1), .ref (q + 2), .long be])) (hp : f i = .inr (5, [r1, r2, r3, r4, r5, r6, .int 0, .int hm])) : AM mX3_followMatched 0 0 [.ref h, .ref i, .ref q, .int d] n f (am_is none n f) := by
  show AW mX3_followMatched 0 0 0 [some (.ref h), some (.ref i), some (.ref q), some (.int d), none, none] [] n f _
  refine am_iconst 0 (v := 0) dX3_followMatched_0 (by decide) ?_
  refine am_istore 1 dX3_followMatched_1 (by decide) ?_
  refine am_for 5 (fun _ (_ : Option Value) => True) (fun k z => AW mX3_followMatched 0 0 3 [some (.ref h), some (.ref i), some (.ref q), some (.int d), some (.int (nI k)), z] [] n f _) ?_ ?_ 0 _ (by omega) trivial
  · rintro z -
    refine am_iload 3 dX3_followMatched_3 rfl ?_
    refine am_iconst 5 (v := 5) dX3_followMatched_5 (by decide) ?_
    refine am_icmp_ge 6 101 dX3_followMatched_6 rfl (fun c6 => ?_) (fun c6 => absurd (by decide) c6)
    exact am_return 101 dX3_followMatched_101 rfl ⟨rfl, rfl, rfl⟩
  · rintro k z hk - ih
    refine am_iload 3 dX3_followMatched_3 rfl ?_
    refine am_iconst 5 (v := 5) dX3_followMatched_5 (by decide) ?_
    refine am_icmp_ge 6 101 dX3_followMatched_6 rfl (fun c6 => absurd c6 (nI_ge hk (by decide))) (fun c6 => ?_)
    refine am_aload_n 9 dX3_followMatched_9 rfl ?_
    refine am_iload 10 dX3_followMatched_10 rfl ?_
    refine am_V1 12 (mc' := 0) (ms' := 0) (rc := 0) (rs := 0) dX3_followMatched_12 lX3_64 ⟨by decide, by decide⟩ (by repeat (first | assumption | exact am_ue | refine am_un (by first | assumption | decide | omega) ?_)) (Nat.le_of_ble_eq_true rfl) (Nat.le_of_ble_eq_true rfl) (s_peakOf0 hq) ?_
    rintro o n' f' ⟨v, rfl, rfl, rfl⟩
    show AW mX3_followMatched 0 0 15 [some (.ref h), some (.ref i), some (.ref q), some (.int d), some (.int (nI k)), z] [.int v] n' _ _
    refine am_istore 15 dX3_followMatched_15 (by decide) ?_
    refine am_iload 17 dX3_followMatched_17 rfl ?_
    refine am_if_lt 19 95 dX3_followMatched_19 rfl (fun c19 => ?_) (fun c19 => ?_)
    · refine am_iinc 95 (v := nI (k + 1)) dX3_followMatched_95 rfl (nI_1 (k)) (by decide) ?_
      refine am_goto 98 (tgt := 3) dX3_followMatched_98 rfl ?_
      exact ih _ trivial
    · refine am_iload 22 dX3_followMatched_22 rfl ?_
      refine am_aload_n 24 dX3_followMatched_24 rfl ?_
      refine am_getfield 25 dX3_followMatched_25 fX3_70 (by repeat (first | assumption | exact am_ue | refine am_un (by first | assumption | decide | omega) ?_)) rfl ?_
      refine am_icmp_ge 28 95 dX3_followMatched_28 rfl (fun c28 => ?_) (fun c28 => False.elim (c28 (Int32.not_lt.mp c19)))
      refine am_iinc 95 (v := nI (k + 1)) dX3_followMatched_95 rfl (nI_1 (k)) (by decide) ?_
      refine am_goto 98 (tgt := 3) dX3_followMatched_98 rfl ?_
      exact ih _ trivial
theorem s_missUnmatched0 (hh : m_HaF f h a) : AM mX3_missUnmatched 0 0 [.ref h, .ref q] n f (am_is none n f) := by
  show AW mX3_missUnmatched 0 0 0 [some (.ref h), some (.ref q), none, none] [] n f _
  refine am_iconst 0 (v := 0) dX3_missUnmatched_0 (by decide) ?_
  refine am_istore_n 1 dX3_missUnmatched_1 (by decide) ?_
  refine am_for 5 (fun _ (_ : Option Value) => True) (fun k z => AW mX3_missUnmatched 0 0 2 [some (.ref h), some (.ref q), some (.int (nI k)), z] [] n f _) ?_ ?_ 0 _ (by omega) trivial
  · rintro z -
    refine am_iload_n 2 dX3_missUnmatched_2 rfl ?_
    refine am_iconst 3 (v := 5) dX3_missUnmatched_3 (by decide) ?_
    refine am_icmp_ge 4 53 dX3_missUnmatched_4 rfl (fun c4 => ?_) (fun c4 => absurd (by decide) c4)
    exact am_return 53 dX3_missUnmatched_53 rfl ⟨rfl, rfl, rfl⟩
  · rintro k z hk - ih
    refine am_iload_n 2 dX3_missUnmatched_2 rfl ?_
    refine am_iconst 3 (v := 5) dX3_missUnmatched_3 (by decide) ?_
    refine am_icmp_ge 4 53 dX3_missUnmatched_4 rfl (fun c4 => absurd c4 (nI_ge hk (by decide))) (fun c4 => ?_)
    refine am_aload_n 7 dX3_missUnmatched_7 rfl ?_
    refine am_getfield 8 dX3_missUnmatched_8 fX3_11 (by first | exact hh.1 | exact hh.2.1 | exact hc | assumption) rfl ?_
    refine am_iload_n 11 dX3_missUnmatched_11 rfl ?_
    refine am_aaload 12 dX3_missUnmatched_12 rfl (by first | exact hh.1 | exact hh.2.1 | exact hc | assumption) (am_ix hk (by decide)) ?_
    rw [nI_clamp (n := k) (by omega), m_rf_at hk, show va_rf (some (h + 2 + 2 * k)) = Value.ref (h + 2 + 2 * k) from rfl]
    have hc := (hh.2.2 k hk).1
    refine am_astore_n 13 dX3_missUnmatched_13 (by decide) ?_
    refine am_aload_n 14 dX3_missUnmatched_14 rfl ?_
    refine am_getfield 15 dX3_missUnmatched_15 fX3_22 (by first | exact hh.1 | exact hh.2.1 | exact hc | assumption) rfl ?_
    refine am_if_eq 18 47 dX3_missUnmatched_18 rfl (fun c18 => ?_) (fun c18 => absurd rfl c18)
    refine am_iinc 47 (v := nI (k + 1)) dX3_missUnmatched_47 rfl (nI_1 (k)) (by decide) ?_
    refine am_goto 50 (tgt := 2) dX3_missUnmatched_50 rfl ?_
    exact ih _ trivial
theorem s_beginUnmatched0 (hp : f i = .inr (5, [r1, r2, r3, r4, r5, r6, .int 0, .int hm])) : AM mX3_beginUnmatched 0 0 [.ref h, .ref i, .ref q] n f (am_is none n f) := by
  show AW mX3_beginUnmatched 0 0 0 [some (.ref h), some (.ref i), some (.ref q), none, none, none] [] n f _
  refine am_iconst 0 (v := 0) dX3_beginUnmatched_0 (by decide) ?_
  refine am_istore_n 1 dX3_beginUnmatched_1 (by decide) ?_
  refine am_iload_n 2 dX3_beginUnmatched_2 rfl ?_
  refine am_aload_n 3 dX3_beginUnmatched_3 rfl ?_
  refine am_getfield 4 dX3_beginUnmatched_4 fX3_70 (by repeat (first | assumption | exact am_ue | refine am_un (by first | assumption | decide | omega) ?_)) rfl ?_
  refine am_icmp_ge 7 99 dX3_beginUnmatched_7 rfl (fun c7 => ?_) (fun c7 => absurd (Int32.le_refl _) c7)
  exact am_return 99 dX3_beginUnmatched_99 rfl ⟨rfl, rfl, rfl⟩
theorem s_claimPinches0 (hh : m_HaF f h a) : AM mX3_claimPinches 0 0 [.ref h] n f (am_is none n f) := by
  show AW mX3_claimPinches 0 0 0 [some (.ref h), none, none] [] n f _
  refine am_iconst 0 (v := 0) dX3_claimPinches_0 (by decide) ?_
  refine am_istore_n 1 dX3_claimPinches_1 (by decide) ?_
  refine am_for 5 (fun _ (_ : Option Value) => True) (fun k z => AW mX3_claimPinches 0 0 2 [some (.ref h), some (.int (nI k)), z] [] n f _) ?_ ?_ 0 _ (by omega) trivial
  · rintro z -
    refine am_iload_n 2 dX3_claimPinches_2 rfl ?_
    refine am_iconst 3 (v := 5) dX3_claimPinches_3 (by decide) ?_
    refine am_icmp_ge 4 83 dX3_claimPinches_4 rfl (fun c4 => ?_) (fun c4 => absurd (by decide) c4)
    exact am_return 83 dX3_claimPinches_83 rfl ⟨rfl, rfl, rfl⟩
  · rintro k z hk - ih
    refine am_iload_n 2 dX3_claimPinches_2 rfl ?_
    refine am_iconst 3 (v := 5) dX3_claimPinches_3 (by decide) ?_
    refine am_icmp_ge 4 83 dX3_claimPinches_4 rfl (fun c4 => absurd c4 (nI_ge hk (by decide))) (fun c4 => ?_)
    refine am_iload_n 7 dX3_claimPinches_7 rfl ?_
    refine am_iconst 8 (v := 1) dX3_claimPinches_8 (by decide) ?_
    refine am_iadd 9 dX3_claimPinches_9 ?_
    rw [nI_1]
    refine am_istore_n 10 dX3_claimPinches_10 (by decide) ?_
    refine am_for 5 (fun _ (_ : Unit) => True) (fun j _ => AW mX3_claimPinches 0 0 11 [some (.ref h), some (.int (nI k)), some (.int (nI j))] [] n f _) ?_ ?_ (k + 1) () (by omega) trivial
    · rintro ⟨⟩ -
      refine am_iload_n 11 dX3_claimPinches_11 rfl ?_
      refine am_iconst 12 (v := 5) dX3_claimPinches_12 (by decide) ?_
      refine am_icmp_ge 13 77 dX3_claimPinches_13 rfl (fun c13 => ?_) (fun c13 => absurd (by decide) c13)
      refine am_iinc 77 (v := nI (k + 1)) dX3_claimPinches_77 rfl (nI_1 (k)) (by decide) ?_
      refine am_goto 80 (tgt := 2) dX3_claimPinches_80 rfl ?_
      exact ih _ trivial
    · rintro j ⟨⟩ hj - ih2
      refine am_iload_n 11 dX3_claimPinches_11 rfl ?_
      refine am_iconst 12 (v := 5) dX3_claimPinches_12 (by decide) ?_
      refine am_icmp_ge 13 77 dX3_claimPinches_13 rfl (fun c13 => absurd c13 (nI_ge hj (by decide))) (fun c13 => ?_)
      refine am_aload_n 16 dX3_claimPinches_16 rfl ?_
      refine am_getfield 17 dX3_claimPinches_17 fX3_11 (by first | exact hh.1 | exact hh.2.1 | exact hc | assumption) rfl ?_
      refine am_iload_n 20 dX3_claimPinches_20 rfl ?_
      refine am_aaload 21 dX3_claimPinches_21 rfl (by first | exact hh.1 | exact hh.2.1 | exact hc | assumption) (am_ix hk (by decide)) ?_
      rw [nI_clamp (n := k) (by omega), m_rf_at hk, show va_rf (some (h + 2 + 2 * k)) = Value.ref (h + 2 + 2 * k) from rfl]
      have hc := (hh.2.2 k hk).1
      refine am_V0 22 (mc' := 0) (ms' := 0) (rc := 0) (rs := 0) dX3_claimPinches_22 lX3_136 ⟨by decide, by decide⟩ (by first | exact hh.1 | exact hh.2.1 | exact hc | assumption) (Nat.le_of_ble_eq_true rfl) (Nat.le_of_ble_eq_true rfl) (s_canClaim0 (hh.2.2 k hk)) ?_
      refine am_is_ct ?_
      refine am_if_eq 25 71 dX3_claimPinches_25 rfl (fun c25 => ?_) (fun c25 => absurd rfl c25)
      refine am_iinc 71 (v := nI (j + 1)) dX3_claimPinches_71 rfl (nI_1 (j)) (by decide) ?_
      refine am_goto 74 (tgt := 11) dX3_claimPinches_74 rfl ?_
      exact ih2 () trivial
theorem s_claimAlone0 (hh : m_HaF f h a) : AM mX3_claimAlone 0 0 [.ref h] n f (am_is none n f) := by
  show AW mX3_claimAlone 0 0 0 [some (.ref h), none, none] [] n f _
  refine am_iconst 0 (v := 0) dX3_claimAlone_0 (by decide) ?_
  refine am_istore_n 1 dX3_claimAlone_1 (by decide) ?_
  refine am_for 5 (fun _ (_ : Option Value) => True) (fun k z => AW mX3_claimAlone 0 0 2 [some (.ref h), some (.int (nI k)), z] [] n f _) ?_ ?_ 0 _ (by omega) trivial
  · rintro z -
    refine am_iload_n 2 dX3_claimAlone_2 rfl ?_
    refine am_iconst 3 (v := 5) dX3_claimAlone_3 (by decide) ?_
    refine am_icmp_ge 4 68 dX3_claimAlone_4 rfl (fun c4 => ?_) (fun c4 => absurd (by decide) c4)
    exact am_return 68 dX3_claimAlone_68 rfl ⟨rfl, rfl, rfl⟩
  · rintro k z hk - ih
    refine am_iload_n 2 dX3_claimAlone_2 rfl ?_
    refine am_iconst 3 (v := 5) dX3_claimAlone_3 (by decide) ?_
    refine am_icmp_ge 4 68 dX3_claimAlone_4 rfl (fun c4 => absurd c4 (nI_ge hk (by decide))) (fun c4 => ?_)
    refine am_aload_n 7 dX3_claimAlone_7 rfl ?_
    refine am_getfield 8 dX3_claimAlone_8 fX3_11 (by first | exact hh.1 | exact hh.2.1 | exact hc | assumption) rfl ?_
    refine am_iload_n 11 dX3_claimAlone_11 rfl ?_
    refine am_aaload 12 dX3_claimAlone_12 rfl (by first | exact hh.1 | exact hh.2.1 | exact hc | assumption) (am_ix hk (by decide)) ?_
    rw [nI_clamp (n := k) (by omega), m_rf_at hk, show va_rf (some (h + 2 + 2 * k)) = Value.ref (h + 2 + 2 * k) from rfl]
    have hc := (hh.2.2 k hk).1
    refine am_astore_n 13 dX3_claimAlone_13 (by decide) ?_
    refine am_aload_n 14 dX3_claimAlone_14 rfl ?_
    refine am_V0 15 (mc' := 0) (ms' := 0) (rc := 0) (rs := 0) dX3_claimAlone_15 lX3_136 ⟨by decide, by decide⟩ (by first | exact hh.1 | exact hh.2.1 | exact hc | assumption) (Nat.le_of_ble_eq_true rfl) (Nat.le_of_ble_eq_true rfl) (s_canClaim0 (hh.2.2 k hk)) ?_
    refine am_is_ct ?_
    refine am_if_eq 18 40 dX3_claimAlone_18 rfl (fun c18 => ?_) (fun c18 => absurd rfl c18)
    refine am_aload_n 40 dX3_claimAlone_40 rfl ?_
    refine am_V0 41 (mc' := 0) (ms' := 0) (rc := 0) (rs := 0) dX3_claimAlone_41 lX3_136 ⟨by decide, by decide⟩ (by first | exact hh.1 | exact hh.2.1 | exact hc | assumption) (Nat.le_of_ble_eq_true rfl) (Nat.le_of_ble_eq_true rfl) (s_canClaim0 (hh.2.2 k hk)) ?_
    refine am_is_ct ?_
    refine am_if_eq 44 62 dX3_claimAlone_44 rfl (fun c44 => ?_) (fun c44 => absurd rfl c44)
    refine am_iinc 62 (v := nI (k + 1)) dX3_claimAlone_62 rfl (nI_1 (k)) (by decide) ?_
    refine am_goto 65 (tgt := 2) dX3_claimAlone_65 rfl ?_
    exact ih _ trivial
theorem s_take0 (hh : m_HaF f h a) (hq : f q = .inr (4, [.ref (q + 1), .ref (q + 2), .long be])) (hp : f i = .inr (5, [r1, r2, r3, r4, r5, r6, .int 0, .int hm])) : AM mX3_take 0 0 [.ref h, .ref i, .ref q, .int d] n f (am_is none n f) := by
  show AW mX3_take 0 0 0 [some (.ref h), some (.ref i), some (.ref q), some (.int d)] [] n f _
  refine am_aload_n 0 dX3_take_0 rfl ?_
  refine am_aload_n 1 dX3_take_1 rfl ?_
  refine am_aload_n 2 dX3_take_2 rfl ?_
  refine am_iload_n 3 dX3_take_3 rfl ?_
  refine am_V3 4 (mc' := 0) (ms' := 0) (rc := 0) (rs := 0) dX3_take_4 lX3_30 ⟨by decide, by decide⟩ (by first | exact hh.1 | exact hh.2.1 | exact hc | assumption) (Nat.le_of_ble_eq_true rfl) (Nat.le_of_ble_eq_true rfl) (s_followMatched0 hh hq hp) ?_
  refine am_is_ct ?_
  refine am_aload_n 7 dX3_take_7 rfl ?_
  refine am_aload_n 8 dX3_take_8 rfl ?_
  refine am_V1 9 (mc' := 0) (ms' := 0) (rc := 0) (rs := 0) dX3_take_9 lX3_34 ⟨by decide, by decide⟩ (by first | exact hh.1 | exact hh.2.1 | exact hc | assumption) (Nat.le_of_ble_eq_true rfl) (Nat.le_of_ble_eq_true rfl) (s_missUnmatched0 hh) ?_
  refine am_is_ct ?_
  refine am_aload_n 12 dX3_take_12 rfl ?_
  refine am_aload_n 13 dX3_take_13 rfl ?_
  refine am_aload_n 14 dX3_take_14 rfl ?_
  refine am_V2 15 (mc' := 0) (ms' := 0) (rc := 0) (rs := 0) dX3_take_15 lX3_38 ⟨by decide, by decide⟩ (by first | exact hh.1 | exact hh.2.1 | exact hc | assumption) (Nat.le_of_ble_eq_true rfl) (Nat.le_of_ble_eq_true rfl) (s_beginUnmatched0 hp) ?_
  refine am_is_ct ?_
  refine am_aload_n 18 dX3_take_18 rfl ?_
  refine am_V0 19 (mc' := 0) (ms' := 0) (rc := 0) (rs := 0) dX3_take_19 lX3_42 ⟨by decide, by decide⟩ (by first | exact hh.1 | exact hh.2.1 | exact hc | assumption) (Nat.le_of_ble_eq_true rfl) (Nat.le_of_ble_eq_true rfl) (s_claimPinches0 hh) ?_
  refine am_is_ct ?_
  refine am_aload_n 22 dX3_take_22 rfl ?_
  refine am_V0 23 (mc' := 0) (ms' := 0) (rc := 0) (rs := 0) dX3_take_23 lX3_45 ⟨by decide, by decide⟩ (by first | exact hh.1 | exact hh.2.1 | exact hc | assumption) (Nat.le_of_ble_eq_true rfl) (Nat.le_of_ble_eq_true rfl) (s_claimAlone0 hh) ?_
  refine am_is_ct ?_
  exact am_return 26 dX3_take_26 rfl ⟨rfl, rfl, rfl⟩
theorem s_tell0 {l r t b : Int32} {s : Nat} (hs : m_AsF f s) : AM mX1_tell 0 0 [.ref s, .int l, .int r, .int t, .int b] n f (fun o n' f' => o = .inl (some (.int 0)) ∧ n' = n ∧ ∀ x, (x < s ∨ s + 9 < x) → f' x = f x) := by
  have h0 := hs.1
  have h1 := hs.2.1
  have h2 := (hs.2.2 0 (by decide)).1
  show AW mX1_tell 0 0 0 [some (.ref s), some (.int l), some (.int r), some (.int t), some (.int b), none] [] n f _
  refine am_aload_n 0 dX1_tell_0 rfl ?_
  refine am_getfield 1 dX1_tell_1 fX1_18 (by repeat (first | assumption | exact am_ue | refine am_un (by first | assumption | decide | omega) ?_)) rfl ?_
  refine am_iconst 4 (v := 4) dX1_tell_4 (by decide) ?_
  refine am_icmp_lt 5 10 dX1_tell_5 rfl (fun c5 => ?_) (fun c5 => absurd (by decide) c5)
  refine am_aload_n 10 dX1_tell_10 rfl ?_
  refine am_getfield 11 dX1_tell_11 fX1_11 (by repeat (first | assumption | exact am_ue | refine am_un (by first | assumption | decide | omega) ?_)) rfl ?_
  refine am_aload_n 14 dX1_tell_14 rfl ?_
  refine am_getfield 15 dX1_tell_15 fX1_18 (by repeat (first | assumption | exact am_ue | refine am_un (by first | assumption | decide | omega) ?_)) rfl ?_
  refine am_aaload 18 dX1_tell_18 rfl (by repeat (first | assumption | exact am_ue | refine am_un (by first | assumption | decide | omega) ?_)) (am_ix (c := 0) (by decide) (by decide)) ?_
  rw [show (0 : Int32).toNatClampNeg = 0 from rfl, m_rf_at (by decide), show va_rf (some (s + 2 + 2 * 0)) = Value.ref (s + 2 + 2 * 0) from rfl]
  refine am_astore 19 dX1_tell_19 (by decide) ?_
  refine am_aload 21 dX1_tell_21 rfl ?_
  refine am_iload_n 23 dX1_tell_23 rfl ?_
  refine am_putfield 24 dX1_tell_24 pX1_22 (by repeat (first | assumption | exact am_ue | refine am_un (by first | assumption | decide | omega) ?_)) rfl rfl (Nat.le_of_ble_eq_true rfl) ?_
  refine am_aload 27 dX1_tell_27 rfl ?_
  refine am_iload_n 29 dX1_tell_29 rfl ?_
  refine am_putfield 30 dX1_tell_30 pX1_25 (by repeat (first | assumption | exact am_ue | refine am_un (by first | assumption | decide | omega) ?_)) rfl rfl (Nat.le_of_ble_eq_true rfl) ?_
  refine am_aload 33 dX1_tell_33 rfl ?_
  refine am_iload_n 35 dX1_tell_35 rfl ?_
  refine am_putfield 36 dX1_tell_36 pX1_28 (by repeat (first | assumption | exact am_ue | refine am_un (by first | assumption | decide | omega) ?_)) rfl rfl (Nat.le_of_ble_eq_true rfl) ?_
  refine am_aload 39 dX1_tell_39 rfl ?_
  refine am_iload 41 dX1_tell_41 rfl ?_
  refine am_putfield 43 dX1_tell_43 pX1_31 (by repeat (first | assumption | exact am_ue | refine am_un (by first | assumption | decide | omega) ?_)) rfl rfl (Nat.le_of_ble_eq_true rfl) ?_
  refine am_aload_n 46 dX1_tell_46 rfl ?_
  refine am_dup 47 dX1_tell_47 rfl ?_
  refine am_getfield 48 dX1_tell_48 fX1_18 (by repeat (first | assumption | exact am_ue | refine am_un (by first | assumption | decide | omega) ?_)) rfl ?_
  refine am_iconst 51 (v := 1) dX1_tell_51 (by decide) ?_
  refine am_iadd 52 dX1_tell_52 ?_
  refine am_putfield 53 dX1_tell_53 pX1_18 (by repeat (first | assumption | exact am_ue | refine am_un (by first | assumption | decide | omega) ?_)) rfl rfl (Nat.le_of_ble_eq_true rfl) ?_
  refine am_aload_n 56 dX1_tell_56 rfl ?_
  refine am_getfield 57 dX1_tell_57 fX1_18 (by repeat (first | assumption | exact am_ue | refine am_un (by first | assumption | decide | omega) ?_)) rfl ?_
  refine am_iconst 60 (v := 1) dX1_tell_60 (by decide) ?_
  refine am_isub 61 dX1_tell_61 ?_
  refine am_ireturn 62 dX1_tell_62 rfl rfl ?_
  exact ⟨rfl, rfl, fun x hx => by repeat rw [am_up_ne (by omega)]⟩
end Hand0
