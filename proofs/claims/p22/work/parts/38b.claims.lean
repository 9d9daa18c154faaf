/-! ===== claims ===== -/
/-- the same but for the claims -/
def m_cm (K K' : Nat → m_K) : Prop := ∀ j, j < 5 → (∀ i, i ≠ 6 → (K' j).1 i = (K j).1 i) ∧ (K' j).2 = (K j).2
theorem m_cm.up {K K' : Nat → m_K} {k kd : Nat} (h : m_cm K K') (hk : k < 5) : m_cm K (va_up K' k (m_claim (K' k) kd)) := by
  intro j hj
  by_cases e : j = k
  · subst e
    rw [am_up_eq]
    refine ⟨fun i hi => ?_, (h j hj).2⟩
    show va_up (K' j).1 6 (nI kd) i = _
    rw [am_up_ne hi]
    exact (h j hj).1 i hi
  · rw [am_up_ne e]
    exact h j hj
def m_Hs (f : Nat → am_C) (h s told T : Nat) (A : Nat → Nat → Int32) (K : Nat → m_K) (be li ca : Nat) : Prop := ∃ K' C', m_Ha f h s K' be li ca ∧ m_As f s told A C' ∧ m_Inv told T K' be li ca C' ∧ m_cm K K'
section Cla
variable {h s told T be li ca n : Nat} {A : Nat → Nat → Int32} {C : Nat → Nat → Nat} {f : Nat → am_C} {K : Nat → m_K}
theorem s_isPinch {m k : Nat} (hm : m < 5) (hk : k < 5) (hh : m_Ha f h s K be li ca) (hok : ∀ j, j < 5 → m_kOk (K j)) : AM mX3_isPinch 0 0 [.ref h, .int (nI m), .int (nI k)] n f (fun o n' f' => n = n' ∧ f = f' ∧ ∃ v, o = .inl (some (.int v))) := by
  show AW mX3_isPinch 0 0 0 [some (.ref h), some (.int (nI m)), some (.int (nI k)), none] [] n f _
  have hkC := hh.2.2 k hk
  have hmC := hh.2.2 m hm
  have hcm := hmC.1
  have hca := hmC.2
  have h0 := hh.1
  have h1' := hh.2.1
  obtain ⟨d1, d2, d3⟩ := f_dist (hok m hm).1 (hok m hm).2.1 (hok k hk).1 (hok k hk).2.1
  have d4 := (hok m hm).2.2.2.2.2.2.2.1 k hk
  have d5 := fB_sub d3 d4 (by decide) (by decide) (by decide)
  refine am_aload_n 0 dX3_isPinch_0 rfl ?_
  refine am_getfield 1 dX3_isPinch_1 fX3_11 (by repeat (first | assumption | exact am_ue | refine am_un (by first | assumption | decide | omega) ?_)) rfl ?_
  refine am_iload_n 4 dX3_isPinch_4 rfl ?_
  refine am_aaload 5 dX3_isPinch_5 rfl (by repeat (first | assumption | exact am_ue | refine am_un (by first | assumption | decide | omega) ?_)) (am_ix hm (by decide)) ?_
  rw [nI_clamp (n := m) (by omega), m_rf_at (by omega), show va_rf (some (h + 2 + 2 * m)) = Value.ref (h + 2 + 2 * m) from rfl]
  refine am_aload_n 6 dX3_isPinch_6 rfl ?_
  refine am_getfield 7 dX3_isPinch_7 fX3_11 (by repeat (first | assumption | exact am_ue | refine am_un (by first | assumption | decide | omega) ?_)) rfl ?_
  refine am_iload_n 10 dX3_isPinch_10 rfl ?_
  refine am_aaload 11 dX3_isPinch_11 rfl (by repeat (first | assumption | exact am_ue | refine am_un (by first | assumption | decide | omega) ?_)) (am_ix hk (by decide)) ?_
  rw [nI_clamp (n := k) (by omega), m_rf_at (by omega), show va_rf (some (h + 2 + 2 * k)) = Value.ref (h + 2 + 2 * k) from rfl]
  refine am_V1 12 (mc' := 0) (ms' := 0) (rc := 0) (rs := 0) dX3_isPinch_12 lX3_128 ⟨by decide, by decide⟩ (by repeat (first | assumption | exact am_ue | refine am_un (by first | assumption | decide | omega) ?_)) (Nat.le_of_ble_eq_true rfl) (Nat.le_of_ble_eq_true rfl) (s_distanceTo hmC hkC (hok m hm) (hok k hk)) ?_
  refine am_is_ct ?_
  refine am_fstore_n 15 dX3_isPinch_15 (by decide) ?_
  refine am_fload_n 16 dX3_isPinch_16 rfl ?_
  refine am_aload_n 17 dX3_isPinch_17 rfl ?_
  refine am_getfield 18 dX3_isPinch_18 fX3_11 (by repeat (first | assumption | exact am_ue | refine am_un (by first | assumption | decide | omega) ?_)) rfl ?_
  refine am_iload_n 21 dX3_isPinch_21 rfl ?_
  refine am_aaload 22 dX3_isPinch_22 rfl (by repeat (first | assumption | exact am_ue | refine am_un (by first | assumption | decide | omega) ?_)) (am_ix hm (by decide)) ?_
  rw [nI_clamp (n := m) (by omega), m_rf_at (by omega), show va_rf (some (h + 2 + 2 * m)) = Value.ref (h + 2 + 2 * m) from rfl]
  refine am_getfield 23 dX3_isPinch_23 fX3_132 (by repeat (first | assumption | exact am_ue | refine am_un (by first | assumption | decide | omega) ?_)) rfl ?_
  refine am_iload_n 26 dX3_isPinch_26 rfl ?_
  refine am_faload 27 dX3_isPinch_27 rfl (by repeat (first | assumption | exact am_ue | refine am_un (by first | assumption | decide | omega) ?_)) (am_ix hk (by decide)) ?_
  rw [nI_clamp (n := k) (by omega)]
  refine am_fsub 28 dX3_isPinch_28 (f_n32 d5.1) ?_
  refine am_SN1 29 (mc' := 0) (ms' := 0) (rc := 0) (rs := 0) dX3_isPinch_29 lX3_147 ⟨by decide, by decide⟩ (Nat.le_of_ble_eq_true rfl) (Nat.le_of_ble_eq_true rfl) (s_withoutSign) ?_
  rintro o n' f' ⟨rfl, rfl, rfl⟩
  refine ⟨_, rfl, ?_⟩
  refine am_ldcf 32 dX3_isPinch_32 kX3_151 ?_
  refine am_fcmp 34 dX3_isPinch_34 ?_
  refine am_if_le 35 42 dX3_isPinch_35 rfl (fun c35 => ?_) (fun c35 => ?_)
  · refine am_iconst 42 (v := 0) dX3_isPinch_42 (by decide) ?_
    refine am_ireturn 43 dX3_isPinch_43 rfl rfl ?_
    exact ⟨rfl, rfl, _, rfl⟩
  · refine am_iconst 38 (v := 1) dX3_isPinch_38 (by decide) ?_
    refine am_goto 39 (tgt := 43) dX3_isPinch_39 rfl ?_
    refine am_ireturn 43 dX3_isPinch_43 rfl rfl ?_
    exact ⟨rfl, rfl, _, rfl⟩
set_option maxHeartbeats 2000000 in
theorem s_claimPinches (hh : m_Ha f h s K be li ca) (hS : m_As f s told A C) (hI : m_Inv told T K be li ca C) (hd : s + 9 < h ∨ h + 11 < s) : AM mX3_claimPinches 0 0 [.ref h] n f (fun o n' f' => o = .inl none ∧ n' = n ∧ m_Hs f' h s told T A K be li ca ∧ ∀ x, (x < s ∨ s + 9 < x) → (x < h ∨ h + 11 < x) → f' x = f x) := by
  show AW mX3_claimPinches 0 0 0 [some (.ref h), none, none] [] n f _
  have ht := hS.2.2.1
  generalize hQ : (fun (o : Option Value ⊕ Nat) (n' : Nat) (f' : Nat → am_C) => o = .inl none ∧ n' = n ∧ m_Hs f' h s told T A K be li ca ∧ ∀ x, (x < s ∨ s + 9 < x) → (x < h ∨ h + 11 < x) → f' x = f x) = Q
  refine am_iconst 0 (v := 0) dX3_claimPinches_0 (by decide) ?_
  refine am_istore_n 1 dX3_claimPinches_1 (by decide) ?_
  refine am_for 5 (fun k (st : (Nat → am_C) × Option Value) => m_Hs st.1 h s told T A K be li ca ∧ ∀ x, (x < s ∨ s + 9 < x) → (x < h ∨ h + 11 < x) → st.1 x = f x) (fun k st => AW mX3_claimPinches 0 0 2 [some (.ref h), some (.int (nI k)), st.2] [] n st.1 Q) ?_ ?_ 0 (f, none) (by omega) ⟨⟨K, C, hh, hS, hI, fun j hj => ⟨fun _ _ => rfl, rfl⟩⟩, fun _ _ _ => rfl⟩
  · rintro ⟨g, z5⟩ ⟨g1, g3⟩
    show AW mX3_claimPinches 0 0 2 [some (.ref h), some (.int (nI 5)), z5] [] n g Q
    refine am_iload_n 2 dX3_claimPinches_2 rfl ?_
    refine am_iconst 3 (v := 5) dX3_claimPinches_3 (by decide) ?_
    refine am_icmp_ge 4 83 dX3_claimPinches_4 rfl (fun c4 => ?_) (fun c4 => absurd (by decide) c4)
    refine am_return 83 dX3_claimPinches_83 rfl ?_
    subst hQ
    exact ⟨rfl, rfl, g1, g3⟩
  · rintro m ⟨g, z5⟩ hm ⟨g1, g4⟩ ih
    show AW mX3_claimPinches 0 0 2 [some (.ref h), some (.int (nI m)), z5] [] n g Q
    have hk := hm
    refine am_iload_n 2 dX3_claimPinches_2 rfl ?_
    refine am_iconst 3 (v := 5) dX3_claimPinches_3 (by decide) ?_
    refine am_icmp_ge 4 83 dX3_claimPinches_4 rfl (fun c4 => absurd c4 (nI_ge hk (by decide))) (fun c4 => ?_)
    refine am_iload_n 7 dX3_claimPinches_7 rfl ?_
    refine am_iconst 8 (v := 1) dX3_claimPinches_8 (by decide) ?_
    refine am_iadd 9 dX3_claimPinches_9 ?_
    rw [nI_1]
    refine am_istore_n 10 dX3_claimPinches_10 (by decide) ?_
    refine am_for 5 (fun k (st : Nat → am_C) => m < k ∧ m_Hs st h s told T A K be li ca ∧ ∀ x, (x < s ∨ s + 9 < x) → (x < h ∨ h + 11 < x) → st x = f x) (fun k st => AW mX3_claimPinches 0 0 11 [some (.ref h), some (.int (nI m)), some (.int (nI k))] [] n st Q) ?_ ?_ (m + 1) g (by omega) ⟨by omega, g1, g4⟩
    · rintro g2 ⟨-, q1, q2⟩
      refine am_iload_n 11 dX3_claimPinches_11 rfl ?_
      refine am_iconst 12 (v := 5) dX3_claimPinches_12 (by decide) ?_
      refine am_icmp_ge 13 77 dX3_claimPinches_13 rfl (fun c13 => ?_) (fun c13 => absurd (by decide) c13)
      refine am_iinc 77 (v := nI (m + 1)) dX3_claimPinches_77 rfl (nI_1 (m)) (by decide) ?_
      refine am_goto 80 (tgt := 2) dX3_claimPinches_80 rfl ?_
      exact ih (g2, _) ⟨q1, q2⟩
    · rintro k g2 hk ⟨hmk, ⟨K1, C1, q1, q2, q3, q4⟩, q5⟩ ih2
      have nx : ∀ g3, m_Hs g3 h s told T A K be li ca → (∀ x, (x < s ∨ s + 9 < x) → (x < h ∨ h + 11 < x) → g3 x = f x) → AW mX3_claimPinches 0 0 11 [some (.ref h), some (.int (nI m)), some (.int (nI (k + 1)))] [] n g3 Q := fun g3 a b => ih2 g3 ⟨by omega, a, b⟩
      clear ih ih2
      have hkC := q1.2.2 k hk
      have hmC := q1.2.2 m hm
      have hcK := hkC.1
      have hcM := hmC.1
      have h0 := q1.1
      have h1' := q1.2.1
      have hok : ∀ j, j < 5 → m_kOk (K1 j) := fun j hj => (q3.1 j hj).1
      by_cases b1 : (K1 m).1 0 ≠ 0 ∧ (K1 m).1 1 ≠ 0 ∧ (K1 m).1 6 = 0
      · by_cases b2 : (K1 k).1 0 ≠ 0 ∧ (K1 k).1 1 ≠ 0 ∧ (K1 k).1 6 = 0
        · have har := ((q3.1 m hm).2.2 b1.1).2.2.1
          have har2 := ((q3.1 k hk).2.2 b2.1).2.2.1
          refine am_iload_n 11 dX3_claimPinches_11 rfl ?_
          refine am_iconst 12 (v := 5) dX3_claimPinches_12 (by decide) ?_
          refine am_icmp_ge 13 77 dX3_claimPinches_13 rfl (fun c13 => absurd c13 (nI_ge hk (by decide))) (fun c13 => ?_)
          refine am_aload_n 16 dX3_claimPinches_16 rfl ?_
          refine am_getfield 17 dX3_claimPinches_17 fX3_11 (by repeat (first | assumption | exact am_ue | refine am_un (by first | assumption | decide | omega) ?_)) rfl ?_
          refine am_iload_n 20 dX3_claimPinches_20 rfl ?_
          refine am_aaload 21 dX3_claimPinches_21 rfl (by repeat (first | assumption | exact am_ue | refine am_un (by first | assumption | decide | omega) ?_)) (am_ix hm (by decide)) ?_
          rw [nI_clamp (n := m) (by omega), m_rf_at (by omega), show va_rf (some (h + 2 + 2 * m)) = Value.ref (h + 2 + 2 * m) from rfl]
          refine am_V0 22 (mc' := 0) (ms' := 0) (rc := 0) (rs := 0) dX3_claimPinches_22 lX3_136 ⟨by decide, by decide⟩ (by repeat (first | assumption | exact am_ue | refine am_un (by first | assumption | decide | omega) ?_)) (Nat.le_of_ble_eq_true rfl) (Nat.le_of_ble_eq_true rfl) (s_canClaim hmC) ?_
          refine am_is_ct ?_
          rw [if_pos b1]
          refine am_if_eq 25 71 dX3_claimPinches_25 rfl (fun c25 => absurd c25 (by decide)) (fun c25 => ?_)
          refine am_aload_n 28 dX3_claimPinches_28 rfl ?_
          refine am_getfield 29 dX3_claimPinches_29 fX3_11 (by repeat (first | assumption | exact am_ue | refine am_un (by first | assumption | decide | omega) ?_)) rfl ?_
          refine am_iload_n 32 dX3_claimPinches_32 rfl ?_
          refine am_aaload 33 dX3_claimPinches_33 rfl (by repeat (first | assumption | exact am_ue | refine am_un (by first | assumption | decide | omega) ?_)) (am_ix hk (by decide)) ?_
          rw [nI_clamp (n := k) (by omega), m_rf_at (by omega), show va_rf (some (h + 2 + 2 * k)) = Value.ref (h + 2 + 2 * k) from rfl]
          refine am_V0 34 (mc' := 0) (ms' := 0) (rc := 0) (rs := 0) dX3_claimPinches_34 lX3_136 ⟨by decide, by decide⟩ (by repeat (first | assumption | exact am_ue | refine am_un (by first | assumption | decide | omega) ?_)) (Nat.le_of_ble_eq_true rfl) (Nat.le_of_ble_eq_true rfl) (s_canClaim hkC) ?_
          refine am_is_ct ?_
          rw [if_pos b2]
          refine am_if_eq 37 71 dX3_claimPinches_37 rfl (fun c37 => absurd c37 (by decide)) (fun c37 => ?_)
          refine am_aload_n 40 dX3_claimPinches_40 rfl ?_
          refine am_iload_n 41 dX3_claimPinches_41 rfl ?_
          refine am_iload_n 42 dX3_claimPinches_42 rfl ?_
          refine am_V2 43 (mc' := 0) (ms' := 0) (rc := 0) (rs := 0) dX3_claimPinches_43 lX3_140 ⟨by decide, by decide⟩ (by repeat (first | assumption | exact am_ue | refine am_un (by first | assumption | decide | omega) ?_)) (Nat.le_of_ble_eq_true rfl) (Nat.le_of_ble_eq_true rfl) (s_isPinch hm hk q1 hok) ?_
          rintro o n' f1 ⟨rfl, rfl, v, rfl⟩
          refine am_ctI ?_
          refine am_if_eq 46 71 dX3_claimPinches_46 rfl (fun c46 => ?_) (fun c46 => ?_)
          · refine am_iinc 71 (v := nI (k + 1)) dX3_claimPinches_71 rfl (nI_1 (k)) (by decide) ?_
            refine am_goto 74 (tgt := 11) dX3_claimPinches_74 rfl ?_
            first | exact nx2 | exact nx _ ⟨K1, C1, q1, q2, q3, q4⟩ q5
          · refine am_aload_n 49 dX3_claimPinches_49 rfl ?_
            refine am_aload_n 50 dX3_claimPinches_50 rfl ?_
            refine am_getfield 51 dX3_claimPinches_51 fX3_11 (by repeat (first | assumption | exact am_ue | refine am_un (by first | assumption | decide | omega) ?_)) rfl ?_
            refine am_iload_n 54 dX3_claimPinches_54 rfl ?_
            refine am_aaload 55 dX3_claimPinches_55 rfl (by repeat (first | assumption | exact am_ue | refine am_un (by first | assumption | decide | omega) ?_)) (am_ix hm (by decide)) ?_
            rw [nI_clamp (n := m) (by omega), m_rf_at (by omega), show va_rf (some (h + 2 + 2 * m)) = Value.ref (h + 2 + 2 * m) from rfl]
            refine am_iconst 56 (v := 1) dX3_claimPinches_56 (by decide) ?_
            refine am_V2 57 (mc' := 0) (ms' := 0) (rc := 0) (rs := 0) dX3_claimPinches_57 lX3_144 ⟨by decide, by decide⟩ (by repeat (first | assumption | exact am_ue | refine am_un (by first | assumption | decide | omega) ?_)) (Nat.le_of_ble_eq_true rfl) (Nat.le_of_ble_eq_true rfl) (s_claim hm (by decide) q1 q2 hd har) ?_
            rintro o n' f1 ⟨rfl, rfl, r1, ⟨C2, r2, r3⟩, r4⟩
            refine am_ctI ?_
            have i2 := m_Inv.claim q3 ht hm b1.1 b1.2.2 (by decide) (by decide) r3 har
            have e2 : va_up K1 m (m_claim (K1 m) 1) k = K1 k := am_up_ne (by omega)
            have h0b := r1.1
            have h1b := r1.2.1
            refine am_aload_n 60 dX3_claimPinches_60 rfl ?_
            refine am_aload_n 61 dX3_claimPinches_61 rfl ?_
            refine am_getfield 62 dX3_claimPinches_62 fX3_11 (by repeat (first | assumption | exact am_ue | refine am_un (by first | assumption | decide | omega) ?_)) rfl ?_
            refine am_iload_n 65 dX3_claimPinches_65 rfl ?_
            refine am_aaload 66 dX3_claimPinches_66 rfl (by repeat (first | assumption | exact am_ue | refine am_un (by first | assumption | decide | omega) ?_)) (am_ix hk (by decide)) ?_
            rw [nI_clamp (n := k) (by omega), m_rf_at (by omega), show va_rf (some (h + 2 + 2 * k)) = Value.ref (h + 2 + 2 * k) from rfl]
            refine am_iconst 67 (v := 1) dX3_claimPinches_67 (by decide) ?_
            refine am_V2 68 (mc' := 0) (ms' := 0) (rc := 0) (rs := 0) dX3_claimPinches_68 lX3_144 ⟨by decide, by decide⟩ (by repeat (first | assumption | exact am_ue | refine am_un (by first | assumption | decide | omega) ?_)) (Nat.le_of_ble_eq_true rfl) (Nat.le_of_ble_eq_true rfl) (s_claim hk (by decide) r1 r2 hd (by rw [e2]; exact har2)) ?_
            rintro o n' f2 ⟨rfl, rfl, t1, ⟨C3, t2, t3⟩, t4⟩
            refine am_ctI ?_
            have i3 := m_Inv.claim i2 ht hk (by rw [e2]; exact b2.1) (by rw [e2]; exact b2.2.2) (by decide) (by decide) t3 (by rw [e2]; exact har2)
            have nx2 := nx f2 ⟨_, C3, t1, t2, i3, (q4.up hm).up hk⟩ fun x a b => (t4 x a b).trans ((r4 x a b).trans (q5 x a b))
            refine am_iinc 71 (v := nI (k + 1)) dX3_claimPinches_71 rfl (nI_1 (k)) (by decide) ?_
            refine am_goto 74 (tgt := 11) dX3_claimPinches_74 rfl ?_
            first | exact nx2 | exact nx _ ⟨K1, C1, q1, q2, q3, q4⟩ q5
        · refine am_iload_n 11 dX3_claimPinches_11 rfl ?_
          refine am_iconst 12 (v := 5) dX3_claimPinches_12 (by decide) ?_
          refine am_icmp_ge 13 77 dX3_claimPinches_13 rfl (fun c13 => absurd c13 (nI_ge hk (by decide))) (fun c13 => ?_)
          refine am_aload_n 16 dX3_claimPinches_16 rfl ?_
          refine am_getfield 17 dX3_claimPinches_17 fX3_11 (by repeat (first | assumption | exact am_ue | refine am_un (by first | assumption | decide | omega) ?_)) rfl ?_
          refine am_iload_n 20 dX3_claimPinches_20 rfl ?_
          refine am_aaload 21 dX3_claimPinches_21 rfl (by repeat (first | assumption | exact am_ue | refine am_un (by first | assumption | decide | omega) ?_)) (am_ix hm (by decide)) ?_
          rw [nI_clamp (n := m) (by omega), m_rf_at (by omega), show va_rf (some (h + 2 + 2 * m)) = Value.ref (h + 2 + 2 * m) from rfl]
          refine am_V0 22 (mc' := 0) (ms' := 0) (rc := 0) (rs := 0) dX3_claimPinches_22 lX3_136 ⟨by decide, by decide⟩ (by repeat (first | assumption | exact am_ue | refine am_un (by first | assumption | decide | omega) ?_)) (Nat.le_of_ble_eq_true rfl) (Nat.le_of_ble_eq_true rfl) (s_canClaim hmC) ?_
          refine am_is_ct ?_
          rw [if_pos b1]
          refine am_if_eq 25 71 dX3_claimPinches_25 rfl (fun c25 => absurd c25 (by decide)) (fun c25 => ?_)
          refine am_aload_n 28 dX3_claimPinches_28 rfl ?_
          refine am_getfield 29 dX3_claimPinches_29 fX3_11 (by repeat (first | assumption | exact am_ue | refine am_un (by first | assumption | decide | omega) ?_)) rfl ?_
          refine am_iload_n 32 dX3_claimPinches_32 rfl ?_
          refine am_aaload 33 dX3_claimPinches_33 rfl (by repeat (first | assumption | exact am_ue | refine am_un (by first | assumption | decide | omega) ?_)) (am_ix hk (by decide)) ?_
          rw [nI_clamp (n := k) (by omega), m_rf_at (by omega), show va_rf (some (h + 2 + 2 * k)) = Value.ref (h + 2 + 2 * k) from rfl]
          refine am_V0 34 (mc' := 0) (ms' := 0) (rc := 0) (rs := 0) dX3_claimPinches_34 lX3_136 ⟨by decide, by decide⟩ (by repeat (first | assumption | exact am_ue | refine am_un (by first | assumption | decide | omega) ?_)) (Nat.le_of_ble_eq_true rfl) (Nat.le_of_ble_eq_true rfl) (s_canClaim hkC) ?_
          refine am_is_ct ?_
          rw [if_neg b2]
          refine am_if_eq 37 71 dX3_claimPinches_37 rfl (fun c37 => ?_) (fun c37 => absurd rfl c37)
          refine am_iinc 71 (v := nI (k + 1)) dX3_claimPinches_71 rfl (nI_1 (k)) (by decide) ?_
          refine am_goto 74 (tgt := 11) dX3_claimPinches_74 rfl ?_
          exact nx _ ⟨K1, C1, q1, q2, q3, q4⟩ q5
      · refine am_iload_n 11 dX3_claimPinches_11 rfl ?_
        refine am_iconst 12 (v := 5) dX3_claimPinches_12 (by decide) ?_
        refine am_icmp_ge 13 77 dX3_claimPinches_13 rfl (fun c13 => absurd c13 (nI_ge hk (by decide))) (fun c13 => ?_)
        refine am_aload_n 16 dX3_claimPinches_16 rfl ?_
        refine am_getfield 17 dX3_claimPinches_17 fX3_11 (by repeat (first | assumption | exact am_ue | refine am_un (by first | assumption | decide | omega) ?_)) rfl ?_
        refine am_iload_n 20 dX3_claimPinches_20 rfl ?_
        refine am_aaload 21 dX3_claimPinches_21 rfl (by repeat (first | assumption | exact am_ue | refine am_un (by first | assumption | decide | omega) ?_)) (am_ix hm (by decide)) ?_
        rw [nI_clamp (n := m) (by omega), m_rf_at (by omega), show va_rf (some (h + 2 + 2 * m)) = Value.ref (h + 2 + 2 * m) from rfl]
        refine am_V0 22 (mc' := 0) (ms' := 0) (rc := 0) (rs := 0) dX3_claimPinches_22 lX3_136 ⟨by decide, by decide⟩ (by repeat (first | assumption | exact am_ue | refine am_un (by first | assumption | decide | omega) ?_)) (Nat.le_of_ble_eq_true rfl) (Nat.le_of_ble_eq_true rfl) (s_canClaim hmC) ?_
        refine am_is_ct ?_
        rw [if_neg b1]
        refine am_if_eq 25 71 dX3_claimPinches_25 rfl (fun c25 => ?_) (fun c25 => absurd rfl c25)
        refine am_iinc 71 (v := nI (k + 1)) dX3_claimPinches_71 rfl (nI_1 (k)) (by decide) ?_
        refine am_goto 74 (tgt := 11) dX3_claimPinches_74 rfl ?_
        exact nx _ ⟨K1, C1, q1, q2, q3, q4⟩ q5
set_option maxHeartbeats 2000000 in
theorem s_claimAlone (hh : m_Ha f h s K be li ca) (hS : m_As f s told A C) (hI : m_Inv told T K be li ca C) (hd : s + 9 < h ∨ h + 11 < s) : AM mX3_claimAlone 0 0 [.ref h] n f (fun o n' f' => o = .inl none ∧ n' = n ∧ m_Hs f' h s told T A K be li ca ∧ ∀ x, (x < s ∨ s + 9 < x) → (x < h ∨ h + 11 < x) → f' x = f x) := by
  show AW mX3_claimAlone 0 0 0 [some (.ref h), none, none] [] n f _
  have ht := hS.2.2.1
  generalize hQ : (fun (o : Option Value ⊕ Nat) (n' : Nat) (f' : Nat → am_C) => o = .inl none ∧ n' = n ∧ m_Hs f' h s told T A K be li ca ∧ ∀ x, (x < s ∨ s + 9 < x) → (x < h ∨ h + 11 < x) → f' x = f x) = Q
  refine am_iconst 0 (v := 0) dX3_claimAlone_0 (by decide) ?_
  refine am_istore_n 1 dX3_claimAlone_1 (by decide) ?_
  refine am_for 5 (fun k (st : (Nat → am_C) × Option Value) => m_Hs st.1 h s told T A K be li ca ∧ ∀ x, (x < s ∨ s + 9 < x) → (x < h ∨ h + 11 < x) → st.1 x = f x) (fun k st => AW mX3_claimAlone 0 0 2 [some (.ref h), some (.int (nI k)), st.2] [] n st.1 Q) ?_ ?_ 0 (f, none) (by omega) ⟨⟨K, C, hh, hS, hI, fun j hj => ⟨fun _ _ => rfl, rfl⟩⟩, fun _ _ _ => rfl⟩
  · rintro ⟨g, z5⟩ ⟨g1, g3⟩
    show AW mX3_claimAlone 0 0 2 [some (.ref h), some (.int (nI 5)), z5] [] n g Q
    refine am_iload_n 2 dX3_claimAlone_2 rfl ?_
    refine am_iconst 3 (v := 5) dX3_claimAlone_3 (by decide) ?_
    refine am_icmp_ge 4 68 dX3_claimAlone_4 rfl (fun c4 => ?_) (fun c4 => absurd (by decide) c4)
    refine am_return 68 dX3_claimAlone_68 rfl ?_
    subst hQ
    exact ⟨rfl, rfl, g1, g3⟩
  · rintro k ⟨g, z5⟩ hk ⟨⟨K1, C1, q1, q2, q3, q4⟩, q5⟩ ih
    show AW mX3_claimAlone 0 0 2 [some (.ref h), some (.int (nI k)), z5] [] n g Q
    have nx : ∀ z g3, m_Hs g3 h s told T A K be li ca → (∀ x, (x < s ∨ s + 9 < x) → (x < h ∨ h + 11 < x) → g3 x = f x) → AW mX3_claimAlone 0 0 2 [some (.ref h), some (.int (nI (k + 1))), z] [] n g3 Q := fun z g3 a b => ih (g3, z) ⟨a, b⟩
    clear ih
    have hkC := q1.2.2 k hk
    have hc := hkC.1
    have h0 := q1.1
    have h1' := q1.2.1
    by_cases b1 : (K1 k).1 0 ≠ 0 ∧ (K1 k).1 1 ≠ 0 ∧ (K1 k).1 6 = 0
    · have har := ((q3.1 k hk).2.2 b1.1).2.2.1
      have fin : ∀ kd, 1 ≤ kd → kd < 4 → ∀ z f1, (m_Ha f1 h s (va_up K1 k (m_claim (K1 k) kd)) be li ca ∧ (∃ C', m_As f1 s told A C' ∧ m_Ct C1 C' ((K1 k).1 7) kd true) ∧ ∀ x, (x < s ∨ s + 9 < x) → (x < h ∨ h + 11 < x) → f1 x = g x) → AW mX3_claimAlone 0 0 2 [some (.ref h), some (.int (nI (k + 1))), z] [] n f1 Q := by
        rintro kd k1 k2 z f1 ⟨r1, ⟨C2, r2, r3⟩, r4⟩
        exact nx z f1 ⟨_, C2, r1, r2, m_Inv.claim q3 ht hk b1.1 b1.2.2 k1 k2 r3 har, q4.up hk⟩ fun x a b => (r4 x a b).trans (q5 x a b)
      refine am_iload_n 2 dX3_claimAlone_2 rfl ?_
      refine am_iconst 3 (v := 5) dX3_claimAlone_3 (by decide) ?_
      refine am_icmp_ge 4 68 dX3_claimAlone_4 rfl (fun c4 => absurd c4 (nI_ge hk (by decide))) (fun c4 => ?_)
      refine am_aload_n 7 dX3_claimAlone_7 rfl ?_
      refine am_getfield 8 dX3_claimAlone_8 fX3_11 (by repeat (first | assumption | exact am_ue | refine am_un (by first | assumption | decide | omega) ?_)) rfl ?_
      refine am_iload_n 11 dX3_claimAlone_11 rfl ?_
      refine am_aaload 12 dX3_claimAlone_12 rfl (by repeat (first | assumption | exact am_ue | refine am_un (by first | assumption | decide | omega) ?_)) (am_ix hk (by decide)) ?_
      rw [nI_clamp (n := k) (by omega), m_rf_at (by omega), show va_rf (some (h + 2 + 2 * k)) = Value.ref (h + 2 + 2 * k) from rfl]
      refine am_astore_n 13 dX3_claimAlone_13 (by decide) ?_
      refine am_aload_n 14 dX3_claimAlone_14 rfl ?_
      refine am_V0 15 (mc' := 0) (ms' := 0) (rc := 0) (rs := 0) dX3_claimAlone_15 lX3_136 ⟨by decide, by decide⟩ (by repeat (first | assumption | exact am_ue | refine am_un (by first | assumption | decide | omega) ?_)) (Nat.le_of_ble_eq_true rfl) (Nat.le_of_ble_eq_true rfl) (s_canClaim hkC) ?_
      refine am_is_ct ?_
      rw [if_pos b1]
      refine am_if_eq 18 40 dX3_claimAlone_18 rfl (fun c18 => absurd c18 (by decide)) (fun c18 => ?_)
      refine am_aload_n 21 dX3_claimAlone_21 rfl ?_
      refine am_getfield 22 dX3_claimAlone_22 fX3_152 (by repeat (first | assumption | exact am_ue | refine am_un (by first | assumption | decide | omega) ?_)) rfl ?_
      refine am_ldcf 25 dX3_claimAlone_25 kX3_156 ?_
      refine am_fcmp 27 dX3_claimAlone_27 ?_
      refine am_if_le 28 40 dX3_claimAlone_28 rfl (fun c28 => ?_) (fun c28 => ?_)
      · refine am_aload_n 40 dX3_claimAlone_40 rfl ?_
        refine am_V0 41 (mc' := 0) (ms' := 0) (rc := 0) (rs := 0) dX3_claimAlone_41 lX3_136 ⟨by decide, by decide⟩ (by repeat (first | assumption | exact am_ue | refine am_un (by first | assumption | decide | omega) ?_)) (Nat.le_of_ble_eq_true rfl) (Nat.le_of_ble_eq_true rfl) (s_canClaim hkC) ?_
        refine am_is_ct ?_
        rw [if_pos b1]
        refine am_if_eq 44 62 dX3_claimAlone_44 rfl (fun c44 => absurd c44 (by decide)) (fun c44 => ?_)
        refine am_aload_n 47 dX3_claimAlone_47 rfl ?_
        refine am_getfield 48 dX3_claimAlone_48 fX3_101 (by repeat (first | assumption | exact am_ue | refine am_un (by first | assumption | decide | omega) ?_)) rfl ?_
        refine am_bipush 51 (v := 8) dX3_claimAlone_51 (by decide) ?_
        refine am_icmp_lt 53 62 dX3_claimAlone_53 rfl (fun c53 => ?_) (fun c53 => ?_)
        · refine am_iinc 62 (v := nI (k + 1)) dX3_claimAlone_62 rfl (nI_1 (k)) (by decide) ?_
          refine am_goto 65 (tgt := 2) dX3_claimAlone_65 rfl ?_
          first | exact fin 2 (by decide) (by decide) _ _ r | exact fin 3 (by decide) (by decide) _ _ r | exact nx _ _ ⟨K1, C1, q1, q2, q3, q4⟩ q5
        · refine am_aload_n 56 dX3_claimAlone_56 rfl ?_
          refine am_aload_n 57 dX3_claimAlone_57 rfl ?_
          refine am_iconst 58 (v := 3) dX3_claimAlone_58 (by decide) ?_
          refine am_V2 59 (mc' := 0) (ms' := 0) (rc := 0) (rs := 0) dX3_claimAlone_59 lX3_144 ⟨by decide, by decide⟩ (by repeat (first | assumption | exact am_ue | refine am_un (by first | assumption | decide | omega) ?_)) (Nat.le_of_ble_eq_true rfl) (Nat.le_of_ble_eq_true rfl) (s_claim (kd := 3) hk (by decide) q1 q2 hd har) ?_
          rintro o n' f1 ⟨rfl, rfl, r⟩
          refine am_ctI ?_
          refine am_iinc 62 (v := nI (k + 1)) dX3_claimAlone_62 rfl (nI_1 (k)) (by decide) ?_
          refine am_goto 65 (tgt := 2) dX3_claimAlone_65 rfl ?_
          first | exact fin 2 (by decide) (by decide) _ _ r | exact fin 3 (by decide) (by decide) _ _ r | exact nx _ _ ⟨K1, C1, q1, q2, q3, q4⟩ q5
      · refine am_aload_n 31 dX3_claimAlone_31 rfl ?_
        refine am_aload_n 32 dX3_claimAlone_32 rfl ?_
        refine am_iconst 33 (v := 2) dX3_claimAlone_33 (by decide) ?_
        refine am_V2 34 (mc' := 0) (ms' := 0) (rc := 0) (rs := 0) dX3_claimAlone_34 lX3_144 ⟨by decide, by decide⟩ (by repeat (first | assumption | exact am_ue | refine am_un (by first | assumption | decide | omega) ?_)) (Nat.le_of_ble_eq_true rfl) (Nat.le_of_ble_eq_true rfl) (s_claim (kd := 2) hk (by decide) q1 q2 hd har) ?_
        rintro o n' f1 ⟨rfl, rfl, r⟩
        refine am_ctI ?_
        refine am_goto 37 (tgt := 62) dX3_claimAlone_37 rfl ?_
        refine am_iinc 62 (v := nI (k + 1)) dX3_claimAlone_62 rfl (nI_1 (k)) (by decide) ?_
        refine am_goto 65 (tgt := 2) dX3_claimAlone_65 rfl ?_
        first | exact fin 2 (by decide) (by decide) _ _ r | exact fin 3 (by decide) (by decide) _ _ r | exact nx _ _ ⟨K1, C1, q1, q2, q3, q4⟩ q5
    · refine am_iload_n 2 dX3_claimAlone_2 rfl ?_
      refine am_iconst 3 (v := 5) dX3_claimAlone_3 (by decide) ?_
      refine am_icmp_ge 4 68 dX3_claimAlone_4 rfl (fun c4 => absurd c4 (nI_ge hk (by decide))) (fun c4 => ?_)
      refine am_aload_n 7 dX3_claimAlone_7 rfl ?_
      refine am_getfield 8 dX3_claimAlone_8 fX3_11 (by repeat (first | assumption | exact am_ue | refine am_un (by first | assumption | decide | omega) ?_)) rfl ?_
      refine am_iload_n 11 dX3_claimAlone_11 rfl ?_
      refine am_aaload 12 dX3_claimAlone_12 rfl (by repeat (first | assumption | exact am_ue | refine am_un (by first | assumption | decide | omega) ?_)) (am_ix hk (by decide)) ?_
      rw [nI_clamp (n := k) (by omega), m_rf_at (by omega), show va_rf (some (h + 2 + 2 * k)) = Value.ref (h + 2 + 2 * k) from rfl]
      refine am_astore_n 13 dX3_claimAlone_13 (by decide) ?_
      refine am_aload_n 14 dX3_claimAlone_14 rfl ?_
      refine am_V0 15 (mc' := 0) (ms' := 0) (rc := 0) (rs := 0) dX3_claimAlone_15 lX3_136 ⟨by decide, by decide⟩ (by repeat (first | assumption | exact am_ue | refine am_un (by first | assumption | decide | omega) ?_)) (Nat.le_of_ble_eq_true rfl) (Nat.le_of_ble_eq_true rfl) (s_canClaim hkC) ?_
      refine am_is_ct ?_
      rw [if_neg b1]
      refine am_if_eq 18 40 dX3_claimAlone_18 rfl (fun c18 => ?_) (fun c18 => absurd rfl c18)
      refine am_aload_n 40 dX3_claimAlone_40 rfl ?_
      refine am_V0 41 (mc' := 0) (ms' := 0) (rc := 0) (rs := 0) dX3_claimAlone_41 lX3_136 ⟨by decide, by decide⟩ (by repeat (first | assumption | exact am_ue | refine am_un (by first | assumption | decide | omega) ?_)) (Nat.le_of_ble_eq_true rfl) (Nat.le_of_ble_eq_true rfl) (s_canClaim hkC) ?_
      refine am_is_ct ?_
      rw [if_neg b1]
      refine am_if_eq 44 62 dX3_claimAlone_44 rfl (fun c44 => ?_) (fun c44 => absurd rfl c44)
      refine am_iinc 62 (v := nI (k + 1)) dX3_claimAlone_62 rfl (nI_1 (k)) (by decide) ?_
      refine am_goto 65 (tgt := 2) dX3_claimAlone_65 rfl ?_
      exact nx _ _ ⟨K1, C1, q1, q2, q3, q4⟩ q5
end Cla
