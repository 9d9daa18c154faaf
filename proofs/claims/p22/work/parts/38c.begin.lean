/-! ===== peaks that nobody follows begin contacts; the frame's whole taking ===== -/
/-- those that were there are as they were, their apart arrays excepted -/
def m_bg (K K' : Nat → m_K) : Prop := ∀ j, j < 5 → (K j).1 0 ≠ 0 → (K' j).1 = (K j).1 ∧ (K' j).2.1 = (K j).2.1
section Beg
variable {h s told T be li ca n i q : Nat} {A : Nat → Nat → Int32} {C : Nat → Nat → Nat} {f : Nat → am_C} {K : Nat → m_K} {sig : Nat → Int32} {bst : Int64}
theorem m_dn : ∀ t, t ≤ 4 → ∀ j, j < t → nI (t - j) - 1 = nI (t - j - 1) ∧ nI (t - j) - 1 + (-1) = nI (t - (j + 1)) - 1 := by decide
theorem s_latestAt {c : Int32} (hS : m_As f s told A C) : AM mX1_latestAt 0 0 [.ref s, .int c] n f (fun o n' f' => n = n' ∧ f = f' ∧ ∃ v, o = .inl (some (.int v)) ∧ (v = -1 ∨ ∃ a, a < told ∧ v = nI a)) := by
  show AW mX1_latestAt 0 0 0 [some (.ref s), some (.int c), none] [] n f _
  obtain ⟨h0, h1, ht, hA⟩ := hS
  refine am_aload_n 0 dX1_latestAt_0 rfl ?_
  refine am_getfield 1 dX1_latestAt_1 fX1_18 (by repeat (first | assumption | exact am_ue | refine am_un (by first | assumption | decide | omega) ?_)) rfl ?_
  refine am_iconst 4 (v := 1) dX1_latestAt_4 (by decide) ?_
  refine am_isub 5 dX1_latestAt_5 ?_
  refine am_istore_n 6 dX1_latestAt_6 (by decide) ?_
  refine am_for told (fun j (x : Int32) => x = nI (told - j) - 1) (fun j x => AW mX1_latestAt 0 0 7 [some (.ref s), some (.int c), some (.int x)] [] n f _) ?_ ?_ 0 (nI told - 1) (by omega) rfl
  · rintro x rfl
    rw [Nat.sub_self]
    refine am_iload_n 7 dX1_latestAt_7 rfl ?_
    refine am_if_lt 8 39 dX1_latestAt_8 rfl (fun c8 => ?_) (fun c8 => absurd (by decide) c8)
    refine am_iconst 39 (v := (-1)) dX1_latestAt_39 (by decide) ?_
    refine am_ireturn 40 dX1_latestAt_40 rfl rfl ?_
    exact ⟨rfl, rfl, -1, rfl, Or.inl rfl⟩
  · rintro j x hj rfl ih
    obtain ⟨e1, e2⟩ := m_dn told ht j hj
    have hjj : told - j - 1 < 4 := by omega
    have hA2 := hA _ hjj
    have hA20 := hA2.1
    have n1 : ¬ nI (told - j - 1) < 0 := fun z => absurd ((nI_ltI (b := 0) (by omega) (by decide)).mp z) (by omega)
    rw [e1] at e2
    rw [e1]
    refine am_iload_n 7 dX1_latestAt_7 rfl ?_
    refine am_if_lt 8 39 dX1_latestAt_8 rfl (fun c8 => absurd c8 n1) (fun c8 => ?_)
    refine am_aload_n 11 dX1_latestAt_11 rfl ?_
    refine am_getfield 12 dX1_latestAt_12 fX1_11 (by repeat (first | assumption | exact am_ue | refine am_un (by first | assumption | decide | omega) ?_)) rfl ?_
    refine am_iload_n 15 dX1_latestAt_15 rfl ?_
    refine am_aaload 16 dX1_latestAt_16 rfl (by repeat (first | assumption | exact am_ue | refine am_un (by first | assumption | decide | omega) ?_)) (am_ix hjj (by decide)) ?_
    rw [nI_clamp (n := (told - j - 1)) (by omega), m_rf_at (by omega), show va_rf (some (s + 2 + 2 * (told - j - 1))) = Value.ref (s + 2 + 2 * (told - j - 1)) from rfl]
    refine am_iload_n 17 dX1_latestAt_17 rfl ?_
    refine am_bipush 18 (v := 8) dX1_latestAt_18 (by decide) ?_
    refine am_irem 20 dX1_latestAt_20 (by decide) ?_
    refine am_iload_n 21 dX1_latestAt_21 rfl ?_
    refine am_bipush 22 (v := 8) dX1_latestAt_22 (by decide) ?_
    refine am_idiv 24 dX1_latestAt_24 (by decide) ?_
    refine am_V2 25 (mc' := 0) (ms' := 0) (rc := 0) (rs := 0) dX1_latestAt_25 lX1_34 ⟨by decide, by decide⟩ (by repeat (first | assumption | exact am_ue | refine am_un (by first | assumption | decide | omega) ?_)) (Nat.le_of_ble_eq_true rfl) (Nat.le_of_ble_eq_true rfl) (s_holds hA2) ?_
    refine am_is_ct ?_
    refine am_if_eq 28 33 dX1_latestAt_28 rfl (fun c28 => ?_) (fun c28 => ?_)
    · refine am_iinc 33 (v := nI (told - (j + 1)) - 1) dX1_latestAt_33 rfl e2 (by decide) ?_
      refine am_goto 36 (tgt := 7) dX1_latestAt_36 rfl ?_
      exact ih _ rfl
    · refine am_iload_n 31 dX1_latestAt_31 rfl ?_
      refine am_ireturn 32 dX1_latestAt_32 rfl rfl ?_
      exact ⟨rfl, rfl, _, rfl, Or.inr ⟨told - j - 1, by omega, rfl⟩⟩
theorem s_isMatchedBy {k : Int32} (hq : f q = .inr (4, [.ref (q + 1), .ref (q + 2), .long bst])) : AM mX3_isMatchedBy 0 0 [.ref q, .int k] n f (fun o n' f' => n = n' ∧ f = f' ∧ ∃ v, o = .inl (some (.int v))) := by
  show AW mX3_isMatchedBy 0 0 0 [some (.ref q), some (.int k), none] [] n f _
  refine am_iconst 0 (v := 0) dX3_isMatchedBy_0 (by decide) ?_
  refine am_istore_n 1 dX3_isMatchedBy_1 (by decide) ?_
  refine am_for 5 (fun _ (_ : Unit) => True) (fun j _ => AW mX3_isMatchedBy 0 0 2 [some (.ref q), some (.int k), some (.int (nI j))] [] n f _) ?_ ?_ 0 () (by omega) trivial
  · rintro ⟨⟩ -
    refine am_iload_n 2 dX3_isMatchedBy_2 rfl ?_
    refine am_iconst 3 (v := 5) dX3_isMatchedBy_3 (by decide) ?_
    refine am_icmp_ge 4 24 dX3_isMatchedBy_4 rfl (fun c4 => ?_) (fun c4 => absurd (by decide) c4)
    refine am_iconst 24 (v := 0) dX3_isMatchedBy_24 (by decide) ?_
    refine am_ireturn 25 dX3_isMatchedBy_25 rfl rfl ?_
    exact ⟨rfl, rfl, _, rfl⟩
  · rintro j ⟨⟩ hk - ih
    refine am_iload_n 2 dX3_isMatchedBy_2 rfl ?_
    refine am_iconst 3 (v := 5) dX3_isMatchedBy_3 (by decide) ?_
    refine am_icmp_ge 4 24 dX3_isMatchedBy_4 rfl (fun c4 => absurd c4 (nI_ge hk (by decide))) (fun c4 => ?_)
    refine am_aload_n 7 dX3_isMatchedBy_7 rfl ?_
    refine am_iload_n 8 dX3_isMatchedBy_8 rfl ?_
    refine am_V1 9 (mc' := 0) (ms' := 0) (rc := 0) (rs := 0) dX3_isMatchedBy_9 lX3_64 ⟨by decide, by decide⟩ (by repeat (first | assumption | exact am_ue | refine am_un (by first | assumption | decide | omega) ?_)) (Nat.le_of_ble_eq_true rfl) (Nat.le_of_ble_eq_true rfl) (s_peakOf hq) ?_
    refine am_is_ct ?_
    refine am_iload_n 12 dX3_isMatchedBy_12 rfl ?_
    refine am_icmp_ne 13 18 dX3_isMatchedBy_13 rfl (fun c13 => ?_) (fun c13 => ?_)
    · refine am_iinc 18 (v := nI (j + 1)) dX3_isMatchedBy_18 rfl (nI_1 (j)) (by decide) ?_
      refine am_goto 21 (tgt := 2) dX3_isMatchedBy_21 rfl ?_
      exact ih () trivial
    · refine am_iconst 16 (v := 1) dX3_isMatchedBy_16 (by decide) ?_
      refine am_ireturn 17 dX3_isMatchedBy_17 rfl rfl ?_
      exact ⟨rfl, rfl, _, rfl⟩
set_option maxHeartbeats 2000000 in
theorem s_beginUnmatched (hh : m_Ha f h s K be li ca) (hS : m_As f s told A C) (hI : m_Inv told T K be li ca C) (hq : f q = .inr (4, [.ref (q + 1), .ref (q + 2), .long bst])) (hL : m_Look f i sig) (hd : s + 9 < h ∨ h + 11 < s) (hd2 : q < h ∨ h + 11 < q) (hd3 : i + 6 < h ∨ h + 11 < i) : AM mX3_beginUnmatched 0 0 [.ref h, .ref i, .ref q] n f (fun o n' f' => o = .inl none ∧ n' = n ∧ (∃ K' be', m_Ha f' h s K' be' li ca ∧ be' ≤ be + 48 ∧ m_Inv told T K' be' li ca C ∧ m_bg K K') ∧ ∀ x, (x < h ∨ h + 11 < x) → f' x = f x) := by
  show AW mX3_beginUnmatched 0 0 0 [some (.ref h), some (.ref i), some (.ref q), none, none, none] [] n f _
  have hP := m_pks_len (sig := sig) (k := 48)
  have ht := hS.2.2.1
  generalize hQ : (fun (o : Option Value ⊕ Nat) (n' : Nat) (f' : Nat → am_C) => o = .inl none ∧ n' = n ∧ (∃ K' be', m_Ha f' h s K' be' li ca ∧ be' ≤ be + 48 ∧ m_Inv told T K' be' li ca C ∧ m_bg K K') ∧ ∀ x, (x < h ∨ h + 11 < x) → f' x = f x) = Q
  refine am_iconst 0 (v := 0) dX3_beginUnmatched_0 (by decide) ?_
  refine am_istore_n 1 dX3_beginUnmatched_1 (by decide) ?_
  refine am_for (m_pks sig 48).length (fun k (st : (Nat → am_C) × Option Value × Option Value) => (∃ K' be', m_Ha st.1 h s K' be' li ca ∧ be' ≤ be + k ∧ m_Inv told T K' be' li ca C ∧ m_bg K K') ∧ ∀ x, (x < h ∨ h + 11 < x) → st.1 x = f x) (fun k st => AW mX3_beginUnmatched 0 0 2 [some (.ref h), some (.ref i), some (.ref q), some (.int (nI k)), st.2.1, st.2.2] [] n st.1 Q) ?_ ?_ 0 (f, none, none) (by omega) ⟨⟨K, be, hh, by omega, hI, fun j hj _ => ⟨rfl, rfl⟩⟩, fun _ _ => rfl⟩
  · rintro ⟨g, z4, z5⟩ ⟨⟨K1, b1, g1, g2, g3, g5⟩, g4⟩
    show AW mX3_beginUnmatched 0 0 2 [some (.ref h), some (.ref i), some (.ref q), some (.int (nI (m_pks sig 48).length)), z4, z5] [] n g Q
    obtain ⟨pc, px, py, chn, ⟨p0, p1, p2, p3, p4, p5, p6⟩, hok⟩ := hL.on (f' := g) fun x a b => g4 x (by omega)
    refine am_iload_n 2 dX3_beginUnmatched_2 rfl ?_
    refine am_aload_n 3 dX3_beginUnmatched_3 rfl ?_
    refine am_getfield 4 dX3_beginUnmatched_4 fX3_70 (by repeat (first | assumption | exact am_ue | refine am_un (by first | assumption | decide | omega) ?_)) rfl ?_
    refine am_icmp_ge 7 99 dX3_beginUnmatched_7 rfl (fun c7 => ?_) (fun c7 => absurd (Int32.le_refl _) c7)
    refine am_return 99 dX3_beginUnmatched_99 rfl ?_
    subst hQ
    exact ⟨rfl, rfl, ⟨K1, b1, g1, by omega, g3, g5⟩, g4⟩
  · rintro k ⟨g, z4, z5⟩ hkP ⟨⟨K1, b1, g1, g2, g3, g5⟩, g4⟩ ih
    show AW mX3_beginUnmatched 0 0 2 [some (.ref h), some (.ref i), some (.ref q), some (.int (nI k)), z4, z5] [] n g Q
    have hLL := hL.on (f' := g) fun x a b => g4 x (by omega)
    have hq1 := (g4 q hd2).trans hq
    have hS1 : m_As g s told A C := hS.on fun x a b => g4 x (by omega)
    have hs0 := hS1.1
    obtain ⟨c48, c20⟩ := m_pks48 hkP
    obtain ⟨pc, px, py, chn, ⟨p0, p1, p2, p3, p4, p5, p6⟩, hok⟩ := hLL
    have hLL := hL.on (f' := g) fun x a b => g4 x (by omega)
    obtain ⟨x1, x2, x3⟩ := hok k hkP
    have px56 := (m_place_spec (isY := false) c48 c20).2.2
    have py40 := (m_place_spec (isY := true) c48 c20).2.2
    simp only [if_true, Bool.false_eq_true, if_false] at px56 py40
    have nx : ∀ z z' g', (∃ K' be', m_Ha g' h s K' be' li ca ∧ be' ≤ be + (k + 1) ∧ m_Inv told T K' be' li ca C ∧ m_bg K K') → (∀ x, (x < h ∨ h + 11 < x) → g' x = f x) → AW mX3_beginUnmatched 0 0 2 [some (.ref h), some (.ref i), some (.ref q), some (.int (nI (k + 1))), z, z'] [] n g' Q := fun z z' g' a b => ih (g', z, z') ⟨a, b⟩
    have skip := fun z z' => nx z z' g ⟨K1, b1, g1, by omega, g3, g5⟩ g4
    clear ih
    have h0 := g1.1
    have h1' := g1.2.1
    refine am_iload_n 2 dX3_beginUnmatched_2 rfl ?_
    refine am_aload_n 3 dX3_beginUnmatched_3 rfl ?_
    refine am_getfield 4 dX3_beginUnmatched_4 fX3_70 (by repeat (first | assumption | exact am_ue | refine am_un (by first | assumption | decide | omega) ?_)) rfl ?_
    refine am_icmp_ge 7 99 dX3_beginUnmatched_7 rfl (fun c7 => absurd c7 (nI_ge hkP (by omega))) (fun c7 => ?_)
    refine am_aload_n 10 dX3_beginUnmatched_10 rfl ?_
    refine am_V0 11 (mc' := 0) (ms' := 0) (rc := 0) (rs := 0) dX3_beginUnmatched_11 lX3_104 ⟨by decide, by decide⟩ (by repeat (first | assumption | exact am_ue | refine am_un (by first | assumption | decide | omega) ?_)) (Nat.le_of_ble_eq_true rfl) (Nat.le_of_ble_eq_true rfl) (s_freeName g1) ?_
    rintro o n' f1 ⟨rfl, rfl, ⟨rfl, -⟩ | ⟨m, hm, hfree, rfl⟩⟩
    · refine am_ctI ?_
      show AW mX3_beginUnmatched 0 0 14 [some (.ref h), some (.ref i), some (.ref q), some (.int (nI k)), z4, z5] [.int (-1)] _ _ Q
      refine am_istore 14 dX3_beginUnmatched_14 (by decide) ?_
      refine am_iload 16 dX3_beginUnmatched_16 rfl ?_
      refine am_iconst 18 (v := (-1)) dX3_beginUnmatched_18 (by decide) ?_
      refine am_icmp_eq 19 93 dX3_beginUnmatched_19 rfl (fun c19 => ?_) (fun c19 => absurd rfl c19)
      refine am_iinc 93 (v := nI (k + 1)) dX3_beginUnmatched_93 rfl (nI_1 (k)) (by decide) ?_
      refine am_goto 96 (tgt := 2) dX3_beginUnmatched_96 rfl ?_
      exact skip _ _
    · refine am_ctI ?_
      show AW mX3_beginUnmatched 0 0 14 [some (.ref h), some (.ref i), some (.ref q), some (.int (nI k)), z4, z5] [.int (nI m)] _ _ Q
      have hmC := g1.2.2 m hm
      have hcM := hmC.1
      have nm : ¬ nI m = -1 := fun z => m_nIm hm z.symm
      have bgf : ∀ κ K2, m_ap (va_up K1 m κ) K2 → m_bg K K2 := by
        intro κ K2 r2 j hj hth
        obtain ⟨e1, e2⟩ := g5 j hj hth
        have hjm : j ≠ m := fun z => hth (by rw [← e1, z]; exact hfree)
        obtain ⟨t1, t2, -⟩ := r2 j hj
        rw [am_up_ne hjm] at t1 t2
        exact ⟨t1.trans e1, t2.trans e2⟩
      by_cases hp : 14 < m_reg sig ((m_pks sig 48).getD k 0)
      · refine am_istore 14 dX3_beginUnmatched_14 (by decide) ?_
        refine am_iload 16 dX3_beginUnmatched_16 rfl ?_
        refine am_iconst 18 (v := (-1)) dX3_beginUnmatched_18 (by decide) ?_
        refine am_icmp_eq 19 93 dX3_beginUnmatched_19 rfl (fun c19 => absurd c19 nm) (fun c19 => ?_)
        refine am_aload_n 22 dX3_beginUnmatched_22 rfl ?_
        refine am_iload_n 23 dX3_beginUnmatched_23 rfl ?_
        refine am_V1 24 (mc' := 0) (ms' := 0) (rc := 0) (rs := 0) dX3_beginUnmatched_24 lX3_75 ⟨by decide, by decide⟩ (by repeat (first | assumption | exact am_ue | refine am_un (by first | assumption | decide | omega) ?_)) (Nat.le_of_ble_eq_true rfl) (Nat.le_of_ble_eq_true rfl) (s_isPalm hLL hkP) ?_
        refine am_is_ct ?_
        rw [if_pos hp]
        refine am_if_ne 27 93 dX3_beginUnmatched_27 rfl (fun c27 => ?_) (fun c27 => absurd c27 (by decide))
        refine am_iinc 93 (v := nI (k + 1)) dX3_beginUnmatched_93 rfl (nI_1 (k)) (by decide) ?_
        refine am_goto 96 (tgt := 2) dX3_beginUnmatched_96 rfl ?_
        exact skip _ _
      · refine am_istore 14 dX3_beginUnmatched_14 (by decide) ?_
        refine am_iload 16 dX3_beginUnmatched_16 rfl ?_
        refine am_iconst 18 (v := (-1)) dX3_beginUnmatched_18 (by decide) ?_
        refine am_icmp_eq 19 93 dX3_beginUnmatched_19 rfl (fun c19 => absurd c19 nm) (fun c19 => ?_)
        refine am_aload_n 22 dX3_beginUnmatched_22 rfl ?_
        refine am_iload_n 23 dX3_beginUnmatched_23 rfl ?_
        refine am_V1 24 (mc' := 0) (ms' := 0) (rc := 0) (rs := 0) dX3_beginUnmatched_24 lX3_75 ⟨by decide, by decide⟩ (by repeat (first | assumption | exact am_ue | refine am_un (by first | assumption | decide | omega) ?_)) (Nat.le_of_ble_eq_true rfl) (Nat.le_of_ble_eq_true rfl) (s_isPalm hLL hkP) ?_
        refine am_is_ct ?_
        rw [if_neg hp]
        refine am_if_ne 27 93 dX3_beginUnmatched_27 rfl (fun c27 => absurd c27 (fun z => z rfl)) (fun c27 => ?_)
        refine am_aload_n 30 dX3_beginUnmatched_30 rfl ?_
        refine am_iload_n 31 dX3_beginUnmatched_31 rfl ?_
        refine am_S2 32 (mc' := 0) (ms' := 0) (rc := 0) (rs := 0) dX3_beginUnmatched_32 lX3_108 ⟨by decide, by decide⟩ (Nat.le_of_ble_eq_true rfl) (Nat.le_of_ble_eq_true rfl) (s_isMatchedBy hq1) ?_
        rintro o n' f1 ⟨rfl, rfl, v, rfl⟩
        refine am_ctI ?_
        refine am_if_ne 35 93 dX3_beginUnmatched_35 rfl (fun c35 => ?_) (fun c35 => ?_)
        · refine am_iinc 93 (v := nI (k + 1)) dX3_beginUnmatched_93 rfl (nI_1 (k)) (by decide) ?_
          refine am_goto 96 (tgt := 2) dX3_beginUnmatched_96 rfl ?_
          first | exact fin2 _ _ | exact skip _ _
        · refine am_aload_n 38 dX3_beginUnmatched_38 rfl ?_
          refine am_getfield 39 dX3_beginUnmatched_39 fX3_17 (by repeat (first | assumption | exact am_ue | refine am_un (by first | assumption | decide | omega) ?_)) rfl ?_
          refine am_aload_n 42 dX3_beginUnmatched_42 rfl ?_
          refine am_getfield 43 dX3_beginUnmatched_43 fX3_112 (by repeat (first | assumption | exact am_ue | refine am_un (by first | assumption | decide | omega) ?_)) rfl ?_
          refine am_iload_n 46 dX3_beginUnmatched_46 rfl ?_
          refine am_iaload 47 dX3_beginUnmatched_47 rfl (by repeat (first | assumption | exact am_ue | refine am_un (by first | assumption | decide | omega) ?_)) (am_ix (c := k) (by omega) (by decide)) ?_
          refine am_V1 48 (mc' := 0) (ms' := 0) (rc := 0) (rs := 0) dX3_beginUnmatched_48 lX3_115 ⟨by decide, by decide⟩ (by repeat (first | assumption | exact am_ue | refine am_un (by first | assumption | decide | omega) ?_)) (Nat.le_of_ble_eq_true rfl) (Nat.le_of_ble_eq_true rfl) (s_latestAt hS1) ?_
          rintro o n' f1 ⟨rfl, rfl, ar, rfl, har⟩
          refine am_ctI ?_
          refine am_istore 51 dX3_beginUnmatched_51 (by decide) ?_
          refine am_aload_n 53 dX3_beginUnmatched_53 rfl ?_
          refine am_getfield 54 dX3_beginUnmatched_54 fX3_11 (by repeat (first | assumption | exact am_ue | refine am_un (by first | assumption | decide | omega) ?_)) rfl ?_
          refine am_iload 57 dX3_beginUnmatched_57 rfl ?_
          refine am_aaload 59 dX3_beginUnmatched_59 rfl (by repeat (first | assumption | exact am_ue | refine am_un (by first | assumption | decide | omega) ?_)) (am_ix hm (by decide)) ?_
          rw [nI_clamp (n := m) (by omega), m_rf_at (by omega), show va_rf (some (h + 2 + 2 * m)) = Value.ref (h + 2 + 2 * m) from rfl]
          refine am_aload_n 60 dX3_beginUnmatched_60 rfl ?_
          refine am_getfield 61 dX3_beginUnmatched_61 fX3_79 (by repeat (first | assumption | exact am_ue | refine am_un (by first | assumption | decide | omega) ?_)) rfl ?_
          refine am_iload_n 64 dX3_beginUnmatched_64 rfl ?_
          refine am_iaload 65 dX3_beginUnmatched_65 rfl (by repeat (first | assumption | exact am_ue | refine am_un (by first | assumption | decide | omega) ?_)) (am_ix (c := k) (by omega) (by decide)) ?_
          rw [nI_clamp (n := k) (by omega), x2]
          refine am_aload_n 66 dX3_beginUnmatched_66 rfl ?_
          refine am_getfield 67 dX3_beginUnmatched_67 fX3_83 (by repeat (first | assumption | exact am_ue | refine am_un (by first | assumption | decide | omega) ?_)) rfl ?_
          refine am_iload_n 70 dX3_beginUnmatched_70 rfl ?_
          refine am_iaload 71 dX3_beginUnmatched_71 rfl (by repeat (first | assumption | exact am_ue | refine am_un (by first | assumption | decide | omega) ?_)) (am_ix (c := k) (by omega) (by decide)) ?_
          rw [nI_clamp (n := k) (by omega), x3]
          refine am_iload 72 dX3_beginUnmatched_72 rfl ?_
          refine am_V3 74 (mc' := 0) (ms' := 0) (rc := 0) (rs := 0) dX3_beginUnmatched_74 lX3_118 ⟨by decide, by decide⟩ (by repeat (first | assumption | exact am_ue | refine am_un (by first | assumption | decide | omega) ?_)) (Nat.le_of_ble_eq_true rfl) (Nat.le_of_ble_eq_true rfl) (s_beginAt hmC) ?_
          refine am_is_ct ?_
          have gH := g1.con hm (κ := m_begin (K1 m) (nI (m_placeN sig ((m_pks sig 48).getD k 0) false)) (nI (m_placeN sig ((m_pks sig 48).getD k 0) true)) ar) rfl
          have gO := gH.own (be' := b1 + 1) (li' := li) (ca' := ca)
          have h0b := gH.1
          have iB := m_Inv.begin (px := m_placeN sig ((m_pks sig 48).getD k 0) false) (py := m_placeN sig ((m_pks sig 48).getD k 0) true) g3 ht hm hfree (by omega) (by omega) har
          refine am_aload_n 77 dX3_beginUnmatched_77 rfl ?_
          refine am_dup 78 dX3_beginUnmatched_78 rfl ?_
          refine am_getfield 79 dX3_beginUnmatched_79 fX3_121 (by repeat (first | assumption | exact am_ue | refine am_un (by first | assumption | decide | omega) ?_)) rfl ?_
          refine am_iconst 82 (v := 1) dX3_beginUnmatched_82 (by decide) ?_
          refine am_iadd 83 dX3_beginUnmatched_83 ?_
          rw [nI_1]
          refine am_putfield 84 dX3_beginUnmatched_84 pX3_121 (by repeat (first | assumption | exact am_ue | refine am_un (by first | assumption | decide | omega) ?_)) rfl rfl (Nat.le_of_ble_eq_true rfl) ?_
          rw [show List.set [Value.ref (h + 1), .ref s, .int (nI b1), .int (nI li), .int (nI ca)] 2 (.int (nI (b1 + 1))) = [.ref (h + 1), .ref s, .int (nI (b1 + 1)), .int (nI li), .int (nI ca)] from rfl]
          refine am_aload_n 87 dX3_beginUnmatched_87 rfl ?_
          refine am_iload 88 dX3_beginUnmatched_88 rfl ?_
          refine am_V1 90 (mc' := 0) (ms' := 0) (rc := 0) (rs := 0) dX3_beginUnmatched_90 lX3_124 ⟨by decide, by decide⟩ (by repeat (first | assumption | exact am_ue | refine am_un (by first | assumption | decide | omega) ?_)) (Nat.le_of_ble_eq_true rfl) (Nat.le_of_ble_eq_true rfl) (s_rememberApart hm gO (fun j hj => (iB.1 j hj).1)) ?_
          rintro o n' f2 ⟨rfl, rfl, ⟨K2, r1, r2⟩, r3⟩
          refine am_ctI ?_
          have fin2 := fun z z' => nx z z' f2 ⟨K2, b1 + 1, r1, by omega, iB.ap r2, bgf _ _ r2⟩ fun x hx => (r3 x hx).trans ((am_up_ne (by omega)).trans ((am_up_ne (by omega)).trans (g4 x hx)))
          refine am_iinc 93 (v := nI (k + 1)) dX3_beginUnmatched_93 rfl (nI_1 (k)) (by decide) ?_
          refine am_goto 96 (tgt := 2) dX3_beginUnmatched_96 rfl ?_
          first | exact fin2 _ _ | exact skip _ _
end Beg
