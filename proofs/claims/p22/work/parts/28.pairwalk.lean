/-! ===== the pairing's methods ===== -/
def m_pS (f : Nat → am_C) (q : Nat) (le we : Nat → Int64) (be : Int64) : Nat → am_C := va_up (va_up (va_up f (q + 1) (.inl (1, 32, .inr (.inl le)))) (q + 2) (.inl (1, 5, .inr (.inl we)))) q (.inr (4, [.ref (q + 1), .ref (q + 2), .long be]))
def m_sqs (κ : m_K) (X Y : Int32) : Int64 := (X - κ.1 2).toInt64 * (X - κ.1 2).toInt64 + (Y - κ.1 3).toInt64 * (Y - κ.1 3).toInt64
def m_wgt (κ : m_K) (name : Nat) (X Y : Int32) (k : Nat) : Int64 := if κ.1 0 ≠ 0 ∧ m_sqs κ X Y ≤ 256 then (m_sqs κ X Y <<< ((30 : Int32).toInt64 &&& 63)) + ((nI k).toInt64 <<< ((6 * (4 - nI name)).toInt64 &&& 63)) else m_IMP
section PairW
variable {q i n c : Nat} {f : Nat → am_C} {le we : Nat → Int64} {be : Int64} {κ : m_K} {sig reg pc px py chn : Nat → Int32} {pk hm : Int32}
theorem m_pS_0 : m_pS f q le we be q = .inr (4, [.ref (q + 1), .ref (q + 2), .long be]) := am_ue
theorem m_pS_1 : m_pS f q le we be (q + 1) = .inl (1, 32, .inr (.inl le)) := am_un (by omega) (am_un (by omega) am_ue)
theorem m_pS_2 : m_pS f q le we be (q + 2) = .inl (1, 5, .inr (.inl we)) := am_un (by omega) am_ue
theorem m_pS_x {x : Nat} (h : x < q ∨ q + 2 < x) : m_pS f q le we be x = f x := by
  unfold m_pS
  rw [am_up_ne (by omega), am_up_ne (by omega), am_up_ne (by omega)]
theorem m_pS_b {b : Int64} : va_up (m_pS f q le we be) q (.inr (4, [.ref (q + 1), .ref (q + 2), .long b])) = m_pS f q le we b := by
  unfold m_pS
  rw [am_uu]
theorem m_pS_l {g : Nat → Int64} : va_up (m_pS f q le we be) (q + 1) (.inl (1, 32, .inr (.inl g))) = m_pS f q g we be := by
  unfold m_pS
  rw [am_us (i := q) (j := q + 1) (by omega), am_us (i := q + 2) (j := q + 1) (by omega), am_uu]
theorem m_pS_w {g : Nat → Int64} : va_up (m_pS f q le we be) (q + 2) (.inl (1, 5, .inr (.inl g))) = m_pS f q le g be := by
  unfold m_pS
  rw [am_us (i := q) (j := q + 2) (by omega), am_uu]
theorem m_Pr.s (h : m_Pr f q le we be) : f = m_pS f q le we be := by
  unfold m_pS
  rw [am_self h.2.1, am_self h.2.2, am_self h.1]
theorem m_pS_Pr : m_Pr (m_pS f q le we be) q le we be := ⟨m_pS_0, m_pS_1, m_pS_2⟩
theorem m_pos {m : Nat} (h : 0 < m) (hm : m < 2 ^ 31) : ¬ nI m ≤ 0 := fun z => absurd ((nI_leI (b := 0) hm (by decide)).mp z) (by omega)
theorem m_dec {k : Nat} (h : k < 31) : nI (31 - k) + (-1) = nI (31 - (k + 1)) := by
  have : ∀ k, k < 31 → nI (31 - k) + (-1) = nI (31 - (k + 1)) := by decide
  exact this k h
theorem s_dig {x : Int32} : AM mX4_digitOf 0 0 [.int x] n f (am_is (some (.int (6 * (4 - x)))) n f) := by
  show AW mX4_digitOf 0 0 0 [some (.int x)] [] n f _
  refine am_bipush 0 (v := 6) dX4_digitOf_0 (by decide) ?_
  refine am_iconst 2 (v := 4) dX4_digitOf_2 (by decide) ?_
  refine am_iload_n 3 dX4_digitOf_3 rfl ?_
  refine am_isub 4 dX4_digitOf_4 ?_
  refine am_imul 5 dX4_digitOf_5 ?_
  exact am_ireturn 6 dX4_digitOf_6 rfl rfl ⟨rfl, rfl, rfl⟩
theorem s_peakOf {x : Nat} (hq : f q = .inr (4, [.ref (q + 1), .ref (q + 2), .long be])) : AM mX4_peakOf 0 0 [.ref q, .int (nI x)] n f (am_is (some (.int (m_pk be x))) n f) := by
  show AW mX4_peakOf 0 0 0 [some (.ref q), some (.int (nI x)), none] [] n f _
  refine am_aload_n 0 dX4_peakOf_0 rfl ?_
  refine am_getfield 1 dX4_peakOf_1 fX4_33 (by repeat (first | assumption | exact am_ue | refine am_un (by first | assumption | decide | omega) ?_)) rfl ?_
  refine am_iload_n 4 dX4_peakOf_4 rfl ?_
  refine am_S1 5 (mc' := 0) (ms' := 0) (rc := 0) (rs := 0) dX4_peakOf_5 lX4_47 ⟨by decide, by decide⟩ (Nat.le_of_ble_eq_true rfl) (Nat.le_of_ble_eq_true rfl) (s_dig) ?_
  refine am_is_ct ?_
  refine am_lshr 8 dX4_peakOf_8 ?_
  refine am_l2i 9 dX4_peakOf_9 ?_
  refine am_bipush 10 (v := 63) dX4_peakOf_10 (by decide) ?_
  refine am_iand 12 dX4_peakOf_12 ?_
  refine am_istore_n 13 dX4_peakOf_13 (by decide) ?_
  refine am_iload_n 14 dX4_peakOf_14 rfl ?_
  refine am_bipush 15 (v := 63) dX4_peakOf_15 (by decide) ?_
  refine am_icmp_ne 17 24 dX4_peakOf_17 rfl (fun c17 => ?_) (fun c17 => ?_)
  · unfold m_pk
    rw [if_neg c17]
    refine am_iload_n 24 dX4_peakOf_24 rfl ?_
    exact am_ireturn 25 dX4_peakOf_25 rfl rfl ⟨rfl, rfl, rfl⟩
  · unfold m_pk
    rw [if_pos c17]
    refine am_iconst 20 (v := (-1)) dX4_peakOf_20 (by decide) ?_
    refine am_goto 21 (tgt := 25) dX4_peakOf_21 rfl ?_
    exact am_ireturn 25 dX4_peakOf_25 rfl rfl ⟨rfl, rfl, rfl⟩
theorem s_weightOf {name k : Nat} (hK : m_kC f c κ) (hp : m_Pic f i sig reg pc px py chn pk hm) (hk : k < 48) : AM mX4_weightOf 0 0 [.ref c, .int (nI name), .ref i, .int (nI k)] n f (am_is (some (.long (m_wgt κ name (px k) (py k) k))) n f) := by
  show AW mX4_weightOf 0 0 0 [some (.ref c), some (.int (nI name)), some (.ref i), some (.int (nI k)), none, none, none, none, none, none] [] n f _
  have h0 := hK.1
  obtain ⟨p0, p1, p2, p3, p4, p5, p6⟩ := hp
  refine am_aload_n 0 dX4_weightOf_0 rfl ?_
  refine am_getfield 1 dX4_weightOf_1 fX4_51 (by repeat (first | assumption | exact am_ue | refine am_un (by first | assumption | decide | omega) ?_)) rfl ?_
  refine am_iload_n 4 dX4_weightOf_4 rfl ?_
  refine am_iaload 5 dX4_weightOf_5 rfl (by repeat (first | assumption | exact am_ue | refine am_un (by first | assumption | decide | omega) ?_)) (am_ix hk (by decide)) ?_
  rw [nI_clamp (n := k) (by omega)]
  refine am_aload_n 6 dX4_weightOf_6 rfl ?_
  refine am_getfield 7 dX4_weightOf_7 fX4_55 (by repeat (first | assumption | exact am_ue | refine am_un (by first | assumption | decide | omega) ?_)) rfl ?_
  refine am_isub 10 dX4_weightOf_10 ?_
  refine am_i2l 11 dX4_weightOf_11 ?_
  refine am_lstore 12 dX4_weightOf_12 (by decide) ?_
  refine am_aload_n 14 dX4_weightOf_14 rfl ?_
  refine am_getfield 15 dX4_weightOf_15 fX4_60 (by repeat (first | assumption | exact am_ue | refine am_un (by first | assumption | decide | omega) ?_)) rfl ?_
  refine am_iload_n 18 dX4_weightOf_18 rfl ?_
  refine am_iaload 19 dX4_weightOf_19 rfl (by repeat (first | assumption | exact am_ue | refine am_un (by first | assumption | decide | omega) ?_)) (am_ix hk (by decide)) ?_
  rw [nI_clamp (n := k) (by omega)]
  refine am_aload_n 20 dX4_weightOf_20 rfl ?_
  refine am_getfield 21 dX4_weightOf_21 fX4_63 (by repeat (first | assumption | exact am_ue | refine am_un (by first | assumption | decide | omega) ?_)) rfl ?_
  refine am_isub 24 dX4_weightOf_24 ?_
  refine am_i2l 25 dX4_weightOf_25 ?_
  refine am_lstore 26 dX4_weightOf_26 (by decide) ?_
  refine am_lload 28 dX4_weightOf_28 rfl ?_
  refine am_lload 30 dX4_weightOf_30 rfl ?_
  refine am_lmul 32 dX4_weightOf_32 ?_
  refine am_lload 33 dX4_weightOf_33 rfl ?_
  refine am_lload 35 dX4_weightOf_35 rfl ?_
  refine am_lmul 37 dX4_weightOf_37 ?_
  refine am_ladd 38 dX4_weightOf_38 ?_
  refine am_lstore 39 dX4_weightOf_39 (by decide) ?_
  refine am_aload_n 41 dX4_weightOf_41 rfl ?_
  refine am_getfield 42 dX4_weightOf_42 fX4_66 (by repeat (first | assumption | exact am_ue | refine am_un (by first | assumption | decide | omega) ?_)) rfl ?_
  refine am_if_eq 45 57 dX4_weightOf_45 rfl (fun c45 => ?_) (fun c45 => ?_)
  · unfold m_wgt
    rw [if_neg (fun z => z.1 c45)]
    refine am_ldc2 57 dX4_weightOf_57 kX4_18 ?_
    exact am_lreturn 60 dX4_weightOf_60 rfl ⟨rfl, rfl, rfl⟩
  · refine am_lload 48 dX4_weightOf_48 rfl ?_
    refine am_ldc2 50 dX4_weightOf_50 kX4_70 ?_
    refine am_lcmp 53 dX4_weightOf_53 ?_
    refine am_if_le 54 61 dX4_weightOf_54 rfl (fun c54 => ?_) (fun c54 => ?_)
    · unfold m_wgt
      rw [if_pos ⟨c45, (lg_cmp_le _ _).mp c54⟩]
      refine am_lload 61 dX4_weightOf_61 rfl ?_
      refine am_bipush 63 (v := 30) dX4_weightOf_63 (by decide) ?_
      refine am_lshl 65 dX4_weightOf_65 ?_
      refine am_iload_n 66 dX4_weightOf_66 rfl ?_
      refine am_i2l 67 dX4_weightOf_67 ?_
      refine am_iload_n 68 dX4_weightOf_68 rfl ?_
      refine am_S1 69 (mc' := 0) (ms' := 0) (rc := 0) (rs := 0) dX4_weightOf_69 lX4_47 ⟨by decide, by decide⟩ (Nat.le_of_ble_eq_true rfl) (Nat.le_of_ble_eq_true rfl) (s_dig) ?_
      refine am_is_ct ?_
      refine am_lshl 72 dX4_weightOf_72 ?_
      refine am_ladd 73 dX4_weightOf_73 ?_
      exact am_lreturn 74 dX4_weightOf_74 rfl ⟨rfl, rfl, rfl⟩
    · unfold m_wgt
      rw [if_neg (fun z => c54 ((lg_cmp_le _ _).mpr z.2))]
      refine am_ldc2 57 dX4_weightOf_57 kX4_18 ?_
      exact am_lreturn 60 dX4_weightOf_60 rfl ⟨rfl, rfl, rfl⟩
theorem m_rest_up : ∀ k, k < 5 → (63 : Int64) <<< ((6 * (4 - nI k)).toInt64 &&& 63) = lN (63 * m_dg k) := by decide +kernel
theorem s_rest {s : Nat} (hs : s < 32) : AM mX4_weightOfRest 0 0 [.int (nI s)] n f (am_is (some (.long (lN (m_rest s 5)))) n f) := by
  show AW mX4_weightOfRest 0 0 0 [some (.int (nI s)), none, none, none] [] n f _
  refine am_lconst 0 (v := 0) dX4_weightOfRest_0 rfl ?_
  refine am_lstore_n 1 dX4_weightOfRest_1 (by decide) ?_
  refine am_iconst 2 (v := 0) dX4_weightOfRest_2 (by decide) ?_
  refine am_istore_n 3 dX4_weightOfRest_3 (by decide) ?_
  refine am_for 5 (fun k (w : Int64) => w = lN (m_rest s k)) (fun k w => AW mX4_weightOfRest 0 0 4 [some (.int (nI s)), some (.long w), none, some (.int (nI k))] [] n f _) ?_ ?_ 0 0 (by omega) rfl
  · rintro w rfl
    refine am_iload_n 4 dX4_weightOfRest_4 rfl ?_
    refine am_iconst 5 (v := 5) dX4_weightOfRest_5 (by decide) ?_
    refine am_icmp_ge 6 38 dX4_weightOfRest_6 rfl (fun c6 => ?_) (fun c6 => absurd (by decide) c6)
    refine am_lload_n 38 dX4_weightOfRest_38 rfl ?_
    exact am_lreturn 39 dX4_weightOfRest_39 rfl ⟨rfl, rfl, rfl⟩
  · rintro k w hk rfl ih
    have hb := m_bit_32 s hs k hk
    have hu := m_rest_up k hk
    have e1 : s.testBit k = true → m_rest s (k + 1) = m_rest s k := fun h => by
      show m_rest s k + _ = _
      rw [if_pos h]
      rfl
    have e2 : ¬ s.testBit k = true → lN (m_rest s k) + (17592186044416 + lN (63 * m_dg k)) = lN (m_rest s (k + 1)) := fun h => by
      show _ = lN (m_rest s k + _)
      rw [if_neg h, ← lN_add, ← lN_add]
      rfl
    refine am_iload_n 4 dX4_weightOfRest_4 rfl ?_
    refine am_iconst 5 (v := 5) dX4_weightOfRest_5 (by decide) ?_
    refine am_icmp_ge 6 38 dX4_weightOfRest_6 rfl (fun c6 => absurd c6 (nI_ge hk (by decide))) (fun c6 => ?_)
    refine am_iload_n 9 dX4_weightOfRest_9 rfl ?_
    refine am_iconst 10 (v := 1) dX4_weightOfRest_10 (by decide) ?_
    refine am_iload_n 11 dX4_weightOfRest_11 rfl ?_
    refine am_ishl 12 dX4_weightOfRest_12 ?_
    refine am_iand 13 dX4_weightOfRest_13 ?_
    refine am_if_ne 14 32 dX4_weightOfRest_14 rfl (fun c14 => ?_) (fun c14 => ?_)
    · have hb1 : s.testBit k = true := by
        cases h : s.testBit k
        · exact absurd (hb.mpr h) c14
        · rfl
      refine am_iinc 32 (v := nI (k + 1)) dX4_weightOfRest_32 rfl (nI_1 (k)) (by decide) ?_
      refine am_goto 35 (tgt := 4) dX4_weightOfRest_35 rfl ?_
      exact ih _ (by first | rw [e1 (by first | exact hb1 | simpa using hb1)] | exact e2 hb2)
    · have hb2 : ¬ s.testBit k = true := fun h => by
        rw [hb.mp c14] at h
        cases h
      refine am_lload_n 17 dX4_weightOfRest_17 rfl ?_
      refine am_ldc2 18 dX4_weightOfRest_18 kX4_72 ?_
      refine am_ldc2 21 dX4_weightOfRest_21 kX4_74 ?_
      refine am_iload_n 24 dX4_weightOfRest_24 rfl ?_
      refine am_S1 25 (mc' := 0) (ms' := 0) (rc := 0) (rs := 0) dX4_weightOfRest_25 lX4_47 ⟨by decide, by decide⟩ (Nat.le_of_ble_eq_true rfl) (Nat.le_of_ble_eq_true rfl) (s_dig) ?_
      refine am_is_ct ?_
      refine am_lshl 28 dX4_weightOfRest_28 ?_
      rw [hu]
      refine am_ladd 29 dX4_weightOfRest_29 ?_
      refine am_ladd 30 dX4_weightOfRest_30 ?_
      refine am_lstore_n 31 dX4_weightOfRest_31 (by decide) ?_
      refine am_iinc 32 (v := nI (k + 1)) dX4_weightOfRest_32 rfl (nI_1 (k)) (by decide) ?_
      refine am_goto 35 (tgt := 4) dX4_weightOfRest_35 rfl ?_
      exact ih _ (by first | rw [e1 (by first | exact hb1 | simpa using hb1)] | exact e2 hb2)
theorem m_off_skip {set name : Nat} {le : Nat → Int64} (h : ¬ (m_sm set name ≠ set ∧ we name < m_IMP ∧ le (m_sm set name) < m_IMP)) : m_offS we set name le = le := by
  unfold m_offS
  rw [if_neg h]
theorem m_off_take {set name : Nat} {le : Nat → Int64} (h : m_sm set name ≠ set ∧ we name < m_IMP ∧ le (m_sm set name) < m_IMP) : m_offS we set name le = va_up le set (if le (m_sm set name) + we name < le set then le (m_sm set name) + we name else le set) := by
  unfold m_offS
  rw [if_pos h]
set_option maxHeartbeats 1000000 in
theorem s_offerPeak : AM mX4_offerPeak 0 0 [.ref q] n (m_pS f q le we be) (am_is none n (m_pS f q (m_off we 31 le) we be)) := by
  show AW mX4_offerPeak 0 0 0 [some (.ref q), none, none, none] [] n _ _
  generalize hQ : am_is none n (m_pS f q (m_off we 31 le) we be) = Q
  refine am_bipush 0 (v := 31) dX4_offerPeak_0 (by decide) ?_
  refine am_istore_n 2 dX4_offerPeak_2 (by decide) ?_
  refine am_for 31 (fun j (s : (Nat → Int64) × Option Value × Option Value) => s.1 = m_off we j le) (fun j s => AW mX4_offerPeak 0 0 3 [some (.ref q), some (.int (nI (31 - j))), s.2.1, s.2.2] [] n (m_pS f q s.1 we be) Q) ?_ ?_ 0 (le, none, none) (by omega) rfl
  · rintro ⟨g, z2, z3⟩ rfl
    show AW mX4_offerPeak 0 0 3 [some (.ref q), some (.int (nI (31 - 31))), z2, z3] [] n (m_pS f q (m_off we 31 le) we be) Q
    refine am_iload_n 3 dX4_offerPeak_3 rfl ?_
    refine am_if_le 4 93 dX4_offerPeak_4 rfl (fun c4 => ?_) (fun c4 => absurd (by decide) c4)
    refine am_return 93 dX4_offerPeak_93 rfl ?_
    subst hQ
    exact ⟨rfl, rfl, rfl⟩
  · rintro j ⟨g, z2, z3⟩ hj rfl ih
    show AW mX4_offerPeak 0 0 3 [some (.ref q), some (.int (nI (31 - j))), z2, z3] [] n (m_pS f q (m_off we j le) we be) Q
    generalize hg : m_off we j le = g
    have ih2 : ∀ z2 z3, AW mX4_offerPeak 0 0 3 [some (.ref q), some (.int (nI (31 - (j + 1)))), z2, z3] [] n (m_pS f q (m_offN we (31 - j) 5 g) we be) Q := fun z2 z3 => ih (_, z2, z3) (by subst hg; rfl)
    have hs32 : 31 - j < 32 := by omega
    have hpos : ¬ nI (31 - j) ≤ 0 := m_pos (by omega) (by omega)
    have hdec := m_dec hj
    generalize 31 - j = set at *
    refine am_iload_n 3 dX4_offerPeak_3 rfl ?_
    refine am_if_le 4 93 dX4_offerPeak_4 rfl (fun c4 => absurd c4 hpos) (fun c4 => ?_)
    refine am_iconst 7 (v := 0) dX4_offerPeak_7 (by decide) ?_
    refine am_istore_n 8 dX4_offerPeak_8 (by decide) ?_
    refine am_for 5 (fun k (s : (Nat → Int64) × Option Value) => s.1 = m_offN we set k g) (fun k s => AW mX4_offerPeak 0 0 9 [some (.ref q), some (.int (nI set)), some (.int (nI k)), s.2] [] n (m_pS f q s.1 we be) Q) ?_ ?_ 0 (g, z3) (by omega) rfl
    · rintro ⟨g2, z4⟩ rfl
      show AW mX4_offerPeak 0 0 9 [some (.ref q), some (.int (nI set)), some (.int (nI 5)), z4] [] n (m_pS f q (m_offN we set 5 g) we be) Q
      refine am_iload_n 9 dX4_offerPeak_9 rfl ?_
      refine am_iconst 10 (v := 5) dX4_offerPeak_10 (by decide) ?_
      refine am_icmp_ge 11 87 dX4_offerPeak_11 rfl (fun c11 => ?_) (fun c11 => absurd (by decide) c11)
      refine am_iinc 87 (v := nI (31 - (j + 1))) dX4_offerPeak_87 rfl hdec (by decide) ?_
      refine am_goto 90 (tgt := 3) dX4_offerPeak_90 rfl ?_
      exact ih2 _ _
    · rintro k ⟨g2, z4⟩ hk rfl ih3
      show AW mX4_offerPeak 0 0 9 [some (.ref q), some (.int (nI set)), some (.int (nI k)), z4] [] n (m_pS f q (m_offN we set k g) we be) Q
      generalize hg2 : m_offN we set k g = g2
      have ih4 : ∀ z4 g3, g3 = m_offS we set k g2 → AW mX4_offerPeak 0 0 9 [some (.ref q), some (.int (nI set)), some (.int (nI (k + 1))), z4] [] n (m_pS f q g3 we be) Q := fun z4 g3 h => ih3 (g3, z4) (by subst hg2; exact h)
      obtain ⟨a1, a2, -⟩ := m_sm_32 set hs32 k hk
      refine am_iload_n 9 dX4_offerPeak_9 rfl ?_
      refine am_iconst 10 (v := 5) dX4_offerPeak_10 (by decide) ?_
      refine am_icmp_ge 11 87 dX4_offerPeak_11 rfl (fun c11 => absurd c11 (nI_ge hk (by decide))) (fun c11 => ?_)
      refine am_iload_n 14 dX4_offerPeak_14 rfl ?_
      refine am_iconst 15 (v := 1) dX4_offerPeak_15 (by decide) ?_
      refine am_iload_n 16 dX4_offerPeak_16 rfl ?_
      refine am_ishl 17 dX4_offerPeak_17 ?_
      refine am_iconst 18 (v := (-1)) dX4_offerPeak_18 (by decide) ?_
      refine am_ixor 19 dX4_offerPeak_19 ?_
      refine am_iand 20 dX4_offerPeak_20 ?_
      rw [a1]
      refine am_istore_n 21 dX4_offerPeak_21 (by decide) ?_
      refine am_iload_n 22 dX4_offerPeak_22 rfl ?_
      refine am_iload_n 23 dX4_offerPeak_23 rfl ?_
      refine am_icmp_eq 24 81 dX4_offerPeak_24 rfl (fun c24 => ?_) (fun c24 => ?_)
      · have he : g2 = m_offS we set k g2 := (m_off_skip fun z => z.1 ((nI_eq (by omega) (by omega)).mp c24)).symm
        refine am_iinc 81 (v := nI (k + 1)) dX4_offerPeak_81 rfl (nI_1 (k)) (by decide) ?_
        refine am_goto 84 (tgt := 9) dX4_offerPeak_84 rfl ?_
        exact ih4 _ _ he
      · refine am_aload_n 27 dX4_offerPeak_27 rfl ?_
        refine am_getfield 28 dX4_offerPeak_28 fX4_15 (by first | exact m_pS_0 | exact m_pS_1 | exact m_pS_2 | assumption) rfl ?_
        refine am_iload_n 31 dX4_offerPeak_31 rfl ?_
        refine am_laload 32 dX4_offerPeak_32 rfl (by first | exact m_pS_0 | exact m_pS_1 | exact m_pS_2 | assumption) (am_ix hk (by decide)) ?_
        rw [nI_clamp (n := k) (by omega)]
        refine am_ldc2 33 dX4_offerPeak_33 kX4_18 ?_
        refine am_lcmp 36 dX4_offerPeak_36 ?_
        refine am_if_ge 37 81 dX4_offerPeak_37 rfl (fun c37 => ?_) (fun c37 => ?_)
        · have he : g2 = m_offS we set k g2 := (m_off_skip fun z => absurd z.2.1 (Int64.not_lt.mpr ((lg_cmp_ge _ _).mp c37))).symm
          refine am_iinc 81 (v := nI (k + 1)) dX4_offerPeak_81 rfl (nI_1 (k)) (by decide) ?_
          refine am_goto 84 (tgt := 9) dX4_offerPeak_84 rfl ?_
          exact ih4 _ _ he
        · refine am_aload_n 40 dX4_offerPeak_40 rfl ?_
          refine am_getfield 41 dX4_offerPeak_41 fX4_11 (by first | exact m_pS_0 | exact m_pS_1 | exact m_pS_2 | assumption) rfl ?_
          refine am_iload_n 44 dX4_offerPeak_44 rfl ?_
          refine am_laload 45 dX4_offerPeak_45 rfl (by first | exact m_pS_0 | exact m_pS_1 | exact m_pS_2 | assumption) (am_ix a2 (by decide)) ?_
          rw [nI_clamp (n := m_sm set k) (by omega)]
          refine am_ldc2 46 dX4_offerPeak_46 kX4_18 ?_
          refine am_lcmp 49 dX4_offerPeak_49 ?_
          refine am_if_ge 50 81 dX4_offerPeak_50 rfl (fun c50 => ?_) (fun c50 => ?_)
          · have he : g2 = m_offS we set k g2 := (m_off_skip fun z => absurd z.2.2 (Int64.not_lt.mpr ((lg_cmp_ge _ _).mp c50))).symm
            refine am_iinc 81 (v := nI (k + 1)) dX4_offerPeak_81 rfl (nI_1 (k)) (by decide) ?_
            refine am_goto 84 (tgt := 9) dX4_offerPeak_84 rfl ?_
            exact ih4 _ _ he
          · have he := (m_off_take (we := we) (set := set) (name := k) (le := g2) ⟨fun z => c24 (by rw [z]), Int64.not_le.mp fun z => c37 ((lg_cmp_ge _ _).mpr z), Int64.not_le.mp fun z => c50 ((lg_cmp_ge _ _).mpr z)⟩).symm
            refine am_aload_n 53 dX4_offerPeak_53 rfl ?_
            refine am_getfield 54 dX4_offerPeak_54 fX4_11 (by first | exact m_pS_0 | exact m_pS_1 | exact m_pS_2 | assumption) rfl ?_
            refine am_iload_n 57 dX4_offerPeak_57 rfl ?_
            refine am_aload_n 58 dX4_offerPeak_58 rfl ?_
            refine am_getfield 59 dX4_offerPeak_59 fX4_11 (by first | exact m_pS_0 | exact m_pS_1 | exact m_pS_2 | assumption) rfl ?_
            refine am_iload_n 62 dX4_offerPeak_62 rfl ?_
            refine am_laload 63 dX4_offerPeak_63 rfl (by first | exact m_pS_0 | exact m_pS_1 | exact m_pS_2 | assumption) (am_ix hs32 (by decide)) ?_
            rw [nI_clamp (n := set) (by omega)]
            refine am_aload_n 64 dX4_offerPeak_64 rfl ?_
            refine am_getfield 65 dX4_offerPeak_65 fX4_11 (by first | exact m_pS_0 | exact m_pS_1 | exact m_pS_2 | assumption) rfl ?_
            refine am_iload_n 68 dX4_offerPeak_68 rfl ?_
            refine am_laload 69 dX4_offerPeak_69 rfl (by first | exact m_pS_0 | exact m_pS_1 | exact m_pS_2 | assumption) (am_ix a2 (by decide)) ?_
            rw [nI_clamp (n := m_sm set k) (by omega)]
            refine am_aload_n 70 dX4_offerPeak_70 rfl ?_
            refine am_getfield 71 dX4_offerPeak_71 fX4_15 (by first | exact m_pS_0 | exact m_pS_1 | exact m_pS_2 | assumption) rfl ?_
            refine am_iload_n 74 dX4_offerPeak_74 rfl ?_
            refine am_laload 75 dX4_offerPeak_75 rfl (by first | exact m_pS_0 | exact m_pS_1 | exact m_pS_2 | assumption) (am_ix hk (by decide)) ?_
            rw [nI_clamp (n := k) (by omega)]
            refine am_ladd 76 dX4_offerPeak_76 ?_
            refine am_minL 77 dX4_offerPeak_77 jX4_41 (by decide) (Nat.le_of_ble_eq_true rfl) ?_
            refine am_lastore 80 dX4_offerPeak_80 rfl (by first | exact m_pS_0 | exact m_pS_1 | exact m_pS_2 | assumption) (am_ix hs32 (by decide)) ?_
            rw [nI_clamp (n := set) (by omega), m_pS_l]
            refine am_iinc 81 (v := nI (k + 1)) dX4_offerPeak_81 rfl (nI_1 (k)) (by decide) ?_
            refine am_goto 84 (tgt := 9) dX4_offerPeak_84 rfl ?_
            exact ih4 _ _ he
end PairW
