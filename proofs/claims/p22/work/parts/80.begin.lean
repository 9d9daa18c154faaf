/-! ===== peaks that nobody follows begin contacts: which, and where ===== -/
section BegX
variable {h s told T be li ca n i q : Nat} {A : Nat → Nat → Int32} {C : Nat → Nat → Nat} {f : Nat → am_C} {K : Nat → m_K} {sig : Nat → Int32} {bst : Int64}
theorem s_freeNameX (hh : m_Ha f h s K be li ca) : AM mX3_freeName 0 0 [.ref h] n f (fun o n' f' => n = n' ∧ f = f' ∧ ((o = .inl (some (.int (-1))) ∧ ∀ k, k < 5 → (K k).1 0 ≠ 0) ∨ ∃ k, k < 5 ∧ (K k).1 0 = 0 ∧ (∀ j, j < k → (K j).1 0 ≠ 0) ∧ o = .inl (some (.int (nI k))))) := by
  show AW mX3_freeName 0 0 0 [some (.ref h), none] [] n f _
  have hh2 := hh
  obtain ⟨h0, h1, hK⟩ := hh
  refine am_iconst 0 (v := 0) dX3_freeName_0 (by decide) ?_
  refine am_istore_n 1 dX3_freeName_1 (by decide) ?_
  refine am_for 5 (fun k (_ : Unit) => ∀ j, j < k → (K j).1 0 ≠ 0) (fun k _ => AW mX3_freeName 0 0 2 [some (.ref h), some (.int (nI k))] [] n f _) ?_ ?_ 0 () (by omega) (fun j hj => absurd hj (by omega))
  · rintro ⟨⟩ hall
    refine am_iload_n 2 dX3_freeName_2 rfl ?_
    refine am_iconst 3 (v := 5) dX3_freeName_3 (by decide) ?_
    refine am_icmp_ge 4 27 dX3_freeName_4 rfl (fun c4 => ?_) (fun c4 => absurd (by decide) c4)
    refine am_iconst 27 (v := (-1)) dX3_freeName_27 (by decide) ?_
    refine am_ireturn 28 dX3_freeName_28 rfl rfl ?_
    exact ⟨rfl, rfl, Or.inl ⟨rfl, hall⟩⟩
  · rintro k ⟨⟩ hk hall ih
    have hc := (hK k hk).1
    refine am_iload_n 2 dX3_freeName_2 rfl ?_
    refine am_iconst 3 (v := 5) dX3_freeName_3 (by decide) ?_
    refine am_icmp_ge 4 27 dX3_freeName_4 rfl (fun c4 => absurd c4 (nI_ge hk (by decide))) (fun c4 => ?_)
    refine am_aload_n 7 dX3_freeName_7 rfl ?_
    refine am_getfield 8 dX3_freeName_8 fX3_11 (by repeat (first | assumption | exact am_ue | refine am_un (by first | assumption | decide | omega) ?_)) rfl ?_
    refine am_iload_n 11 dX3_freeName_11 rfl ?_
    refine am_aaload 12 dX3_freeName_12 rfl (by repeat (first | assumption | exact am_ue | refine am_un (by first | assumption | decide | omega) ?_)) (am_ix hk (by decide)) ?_
    rw [nI_clamp (n := k) (by omega), m_rf_at (by omega), show va_rf (some (h + 2 + 2 * k)) = Value.ref (h + 2 + 2 * k) from rfl]
    refine am_getfield 13 dX3_freeName_13 fX3_22 (by repeat (first | assumption | exact am_ue | refine am_un (by first | assumption | decide | omega) ?_)) rfl ?_
    refine am_if_ne 16 21 dX3_freeName_16 rfl (fun c16 => ?_) (fun c16 => ?_)
    · refine am_iinc 21 (v := nI (k + 1)) dX3_freeName_21 rfl (nI_1 (k)) (by decide) ?_
      refine am_goto 24 (tgt := 2) dX3_freeName_24 rfl ?_
      refine ih () fun j hj => ?_
      by_cases e : j = k
      · subst e; exact c16
      · exact hall j (by omega)
    · refine am_iload_n 19 dX3_freeName_19 rfl ?_
      refine am_ireturn 20 dX3_freeName_20 rfl rfl ?_
      exact ⟨rfl, rfl, Or.inr ⟨k, hk, c16, hall, rfl⟩⟩
theorem s_isMatchedByX {k : Nat} (hq : f q = .inr (4, [.ref (q + 1), .ref (q + 2), .long bst])) : AM mX3_isMatchedBy 0 0 [.ref q, .int (nI k)] n f (fun o n' f' => n = n' ∧ f = f' ∧ ∃ v, o = .inl (some (.int v)) ∧ (v = 0 ↔ ∀ j, j < 5 → m_pk bst j ≠ nI k)) := by
  show AW mX3_isMatchedBy 0 0 0 [some (.ref q), some (.int (nI k)), none] [] n f _
  refine am_iconst 0 (v := 0) dX3_isMatchedBy_0 (by decide) ?_
  refine am_istore_n 1 dX3_isMatchedBy_1 (by decide) ?_
  refine am_for 5 (fun j (_ : Unit) => ∀ i, i < j → m_pk bst i ≠ nI k) (fun j _ => AW mX3_isMatchedBy 0 0 2 [some (.ref q), some (.int (nI k)), some (.int (nI j))] [] n f _) ?_ ?_ 0 () (by omega) (fun i hi => absurd hi (Nat.not_lt_zero i))
  · rintro ⟨⟩ hall
    refine am_iload_n 2 dX3_isMatchedBy_2 rfl ?_
    refine am_iconst 3 (v := 5) dX3_isMatchedBy_3 (by decide) ?_
    refine am_icmp_ge 4 24 dX3_isMatchedBy_4 rfl (fun c4 => ?_) (fun c4 => absurd (by decide) c4)
    refine am_iconst 24 (v := 0) dX3_isMatchedBy_24 (by decide) ?_
    refine am_ireturn 25 dX3_isMatchedBy_25 rfl rfl ?_
    exact ⟨rfl, rfl, _, rfl, fun _ => hall, fun _ => rfl⟩
  · rintro j ⟨⟩ hk hall ih
    refine am_iload_n 2 dX3_isMatchedBy_2 rfl ?_
    refine am_iconst 3 (v := 5) dX3_isMatchedBy_3 (by decide) ?_
    refine am_icmp_ge 4 24 dX3_isMatchedBy_4 rfl (fun c4 => absurd c4 (nI_ge hk (by decide))) (fun c4 => ?_)
    refine am_aload_n 7 dX3_isMatchedBy_7 rfl ?_
    refine am_iload_n 8 dX3_isMatchedBy_8 rfl ?_
    refine am_V1 9 (mc' := 0) (ms' := 0) (rc := 0) (rs := 0) dX3_isMatchedBy_9 lX3_64 ⟨by decide, by decide⟩ (by repeat (first | assumption | exact am_ue | refine am_un (by first | assumption | decide | omega) ?_)) (Nat.le_of_ble_eq_true rfl) (Nat.le_of_ble_eq_true rfl) (s_peakOf hq) ?_
    refine am_is_ct ?_
    refine am_iload_n 12 dX3_isMatchedBy_12 rfl ?_
    refine am_icmp_ne 13 18 dX3_isMatchedBy_13 rfl (fun c13 => ?_) (fun c13 => ?_)
    · refine am_iinc 18 (v := nI (j + 1)) dX3_isMatchedBy_18 rfl (nI_1 (j)) (by decide) ?_
      refine am_goto 21 (tgt := 2) dX3_isMatchedBy_21 rfl ?_
      refine ih () fun i hi => ?_
      by_cases e : i = j
      · rw [e]; exact c13
      · exact hall i (by omega)
    · refine am_iconst 16 (v := 1) dX3_isMatchedBy_16 (by decide) ?_
      refine am_ireturn 17 dX3_isMatchedBy_17 rfl rfl ?_
      exact ⟨rfl, rfl, _, rfl, fun z => absurd z (by decide), fun z => absurd c13 (z j hk)⟩
set_option maxHeartbeats 2000000 in
theorem s_beginX (hh : m_Ha f h s K be li ca) (hS : m_As f s told A C) (hI : m_Inv told T K be li ca C) (hq : f q = .inr (4, [.ref (q + 1), .ref (q + 2), .long bst])) (hL : m_Look f i sig) (hd : s + 9 < h ∨ h + 11 < s) (hd2 : q < h ∨ h + 11 < q) (hd3 : i + 6 < h ∨ h + 11 < i) : AM mX3_beginUnmatched 0 0 [.ref h, .ref i, .ref q] n f (fun o n' f' => o = .inl none ∧ n' = n ∧ (∃ K' be', m_Ha f' h s K' be' li ca ∧ be' ≤ be + 48 ∧ m_Inv told T K' be' li ca C ∧ m_bg K K' ∧ x_eqs (x_bN sig bst K (m_pks sig 48).length) K') ∧ ∀ x, (x < h ∨ h + 11 < x) → f' x = f x) := by
  show AW mX3_beginUnmatched 0 0 0 [some (.ref h), some (.ref i), some (.ref q), none, none, none] [] n f _
  have hP := m_pks_len (sig := sig) (k := 48)
  have ht := hS.2.2.1
  generalize hQ : (fun (o : Option Value ⊕ Nat) (n' : Nat) (f' : Nat → am_C) => o = .inl none ∧ n' = n ∧ (∃ K' be', m_Ha f' h s K' be' li ca ∧ be' ≤ be + 48 ∧ m_Inv told T K' be' li ca C ∧ m_bg K K' ∧ x_eqs (x_bN sig bst K (m_pks sig 48).length) K') ∧ ∀ x, (x < h ∨ h + 11 < x) → f' x = f x) = Q
  refine am_iconst 0 (v := 0) dX3_beginUnmatched_0 (by decide) ?_
  refine am_istore_n 1 dX3_beginUnmatched_1 (by decide) ?_
  refine am_for (m_pks sig 48).length (fun k (st : (Nat → am_C) × Option Value × Option Value) => (∃ K' be', m_Ha st.1 h s K' be' li ca ∧ be' ≤ be + k ∧ m_Inv told T K' be' li ca C ∧ m_bg K K' ∧ x_eqs (x_bN sig bst K k) K') ∧ ∀ x, (x < h ∨ h + 11 < x) → st.1 x = f x) (fun k st => AW mX3_beginUnmatched 0 0 2 [some (.ref h), some (.ref i), some (.ref q), some (.int (nI k)), st.2.1, st.2.2] [] n st.1 Q) ?_ ?_ 0 (f, none, none) (by omega) ⟨⟨K, be, hh, by omega, hI, fun j hj _ => ⟨rfl, rfl⟩, x_eqs.refl⟩, fun _ _ => rfl⟩
  · rintro ⟨g, z4, z5⟩ ⟨⟨K1, b1, g1, g2, g3, g5, g6⟩, g4⟩
    show AW mX3_beginUnmatched 0 0 2 [some (.ref h), some (.ref i), some (.ref q), some (.int (nI (m_pks sig 48).length)), z4, z5] [] n g Q
    obtain ⟨pc, px, py, chn, ⟨p0, p1, p2, p3, p4, p5, p6⟩, hok⟩ := hL.on (f' := g) fun x a b => g4 x (by omega)
    refine am_iload_n 2 dX3_beginUnmatched_2 rfl ?_
    refine am_aload_n 3 dX3_beginUnmatched_3 rfl ?_
    refine am_getfield 4 dX3_beginUnmatched_4 fX3_70 (by repeat (first | assumption | exact am_ue | refine am_un (by first | assumption | decide | omega) ?_)) rfl ?_
    refine am_icmp_ge 7 99 dX3_beginUnmatched_7 rfl (fun c7 => ?_) (fun c7 => absurd (Int32.le_refl _) c7)
    refine am_return 99 dX3_beginUnmatched_99 rfl ?_
    subst hQ
    exact ⟨rfl, rfl, ⟨K1, b1, g1, by omega, g3, g5, g6⟩, g4⟩
  · rintro k ⟨g, z4, z5⟩ hkP ⟨⟨K1, b1, g1, g2, g3, g5, g6⟩, g4⟩ ih
    show AW mX3_beginUnmatched 0 0 2 [some (.ref h), some (.ref i), some (.ref q), some (.int (nI k)), z4, z5] [] n g Q
    have hLL := hL.on (f' := g) fun x a b => g4 x (by omega)
    have hq1 := (g4 q hd2).trans hq
    have hS1 : m_As g s told A C := hS.on fun x a b => g4 x (by omega)
    have hs0 := hS1.1
    obtain ⟨c48, c20⟩ := m_pks48 hkP
    obtain ⟨pc, px, py, chn, ⟨p0, p1, p2, p3, p4, p5, p6⟩, hok⟩ := hLL
    have hLL := hL.on (f' := g) fun x a b => g4 x (by omega)
    obtain ⟨x1, x2, x3⟩ := hok k hkP
    have px56 := (m_place_spec (isY := false) c48 c20).2.2
    have py40 := (m_place_spec (isY := true) c48 c20).2.2
    simp only [if_true, Bool.false_eq_true, if_false] at px56 py40
    have nx : ∀ z z' g', (∃ K' be', m_Ha g' h s K' be' li ca ∧ be' ≤ be + (k + 1) ∧ m_Inv told T K' be' li ca C ∧ m_bg K K' ∧ x_eqs (x_bN sig bst K (k + 1)) K') → (∀ x, (x < h ∨ h + 11 < x) → g' x = f x) → AW mX3_beginUnmatched 0 0 2 [some (.ref h), some (.ref i), some (.ref q), some (.int (nI (k + 1))), z, z'] [] n g' Q := fun z z' g' a b => ih (g', z, z') ⟨a, b⟩
    have skip := fun (e : x_eqs (x_bN sig bst K (k + 1)) K1) z z' => nx z z' g ⟨K1, b1, g1, by omega, g3, g5, e⟩ g4
    have hno : ¬ (x_nb sig bst k ∧ x_ff (x_bN sig bst K k) < 5) → x_eqs (x_bN sig bst K (k + 1)) K1 := fun z => by
      show x_eqs (x_b1 sig bst (x_bN sig bst K k) k) K1
      rw [x_b1_no z]
      exact g6
    have hff := x_ff_eqs g6
    clear ih
    have h0 := g1.1
    have h1' := g1.2.1
    refine am_iload_n 2 dX3_beginUnmatched_2 rfl ?_
    refine am_aload_n 3 dX3_beginUnmatched_3 rfl ?_
    refine am_getfield 4 dX3_beginUnmatched_4 fX3_70 (by repeat (first | assumption | exact am_ue | refine am_un (by first | assumption | decide | omega) ?_)) rfl ?_
    refine am_icmp_ge 7 99 dX3_beginUnmatched_7 rfl (fun c7 => absurd c7 (nI_ge hkP (by omega))) (fun c7 => ?_)
    refine am_aload_n 10 dX3_beginUnmatched_10 rfl ?_
    refine am_V0 11 (mc' := 0) (ms' := 0) (rc := 0) (rs := 0) dX3_beginUnmatched_11 lX3_104 ⟨by decide, by decide⟩ (by repeat (first | assumption | exact am_ue | refine am_un (by first | assumption | decide | omega) ?_)) (Nat.le_of_ble_eq_true rfl) (Nat.le_of_ble_eq_true rfl) (s_freeNameX g1) ?_
    rintro o n' f1 ⟨rfl, rfl, ⟨rfl, hfull⟩ | ⟨m, hm, hfree, hbef, rfl⟩⟩
    · refine am_ctI ?_
      show AW mX3_beginUnmatched 0 0 14 [some (.ref h), some (.ref i), some (.ref q), some (.int (nI k)), z4, z5] [.int (-1)] _ _ Q
      refine am_istore 14 dX3_beginUnmatched_14 (by decide) ?_
      refine am_iload 16 dX3_beginUnmatched_16 rfl ?_
      refine am_iconst 18 (v := (-1)) dX3_beginUnmatched_18 (by decide) ?_
      refine am_icmp_eq 19 93 dX3_beginUnmatched_19 rfl (fun c19 => ?_) (fun c19 => absurd rfl c19)
      refine am_iinc 93 (v := nI (k + 1)) dX3_beginUnmatched_93 rfl (nI_1 (k)) (by decide) ?_
      refine am_goto 96 (tgt := 2) dX3_beginUnmatched_96 rfl ?_
      exact skip (hno fun z => by rw [hff, x_ff_5 hfull] at z; omega) _ _
    · refine am_ctI ?_
      show AW mX3_beginUnmatched 0 0 14 [some (.ref h), some (.ref i), some (.ref q), some (.int (nI k)), z4, z5] [.int (nI m)] _ _ Q
      have hmC := g1.2.2 m hm
      have hcM := hmC.1
      have nm : ¬ nI m = -1 := fun z => m_nIm hm z.symm
      have bgf : ∀ κ K2, m_ap (va_up K1 m κ) K2 → m_bg K K2 := by
        intro κ K2 r2 j hj hth
        obtain ⟨e1, e2⟩ := g5 j hj hth
        have hjm : j ≠ m := fun z => hth (by rw [← e1, z]; exact hfree)
        obtain ⟨t1, t2, -⟩ := r2 j hj
        rw [am_up_ne hjm] at t1 t2
        exact ⟨t1.trans e1, t2.trans e2⟩
      have hyes : x_nb sig bst k → ∀ ar K2, m_ap (va_up K1 m (m_begin (K1 m) (nI (m_placeN sig ((m_pks sig 48).getD k 0) false)) (nI (m_placeN sig ((m_pks sig 48).getD k 0) true)) ar)) K2 → x_eqs (x_bN sig bst K (k + 1)) K2 := by
        intro nb ar K2 r2
        have e : x_ff (x_bN sig bst K k) = m := hff.trans (x_ff_at hm hfree hbef)
        show x_eqs (x_b1 sig bst (x_bN sig bst K k) k) K2
        rw [x_b1_yes nb (by omega), e]
        have u := g6.up (j := m) (κ := m_begin (x_bN sig bst K k m) (nI (m_placeN sig ((m_pks sig 48).getD k 0) false)) (nI (m_placeN sig ((m_pks sig 48).getD k 0) true)) 0) (κ' := m_begin (K1 m) (nI (m_placeN sig ((m_pks sig 48).getD k 0) false)) (nI (m_placeN sig ((m_pks sig 48).getD k 0) true)) ar) (fun z => by cases z) (fun z => by cases z) x_begin
        intro j hj
        obtain ⟨t1, t2, -⟩ := r2 j hj
        obtain ⟨u1, u2⟩ := u j hj
        unfold x_eq at u2 ⊢
        rw [t1, t2]
        exact ⟨u1, u2⟩
      by_cases hp : 14 < m_reg sig ((m_pks sig 48).getD k 0)
      · refine am_istore 14 dX3_beginUnmatched_14 (by decide) ?_
        refine am_iload 16 dX3_beginUnmatched_16 rfl ?_
        refine am_iconst 18 (v := (-1)) dX3_beginUnmatched_18 (by decide) ?_
        refine am_icmp_eq 19 93 dX3_beginUnmatched_19 rfl (fun c19 => absurd c19 nm) (fun c19 => ?_)
        refine am_aload_n 22 dX3_beginUnmatched_22 rfl ?_
        refine am_iload_n 23 dX3_beginUnmatched_23 rfl ?_
        refine am_V1 24 (mc' := 0) (ms' := 0) (rc := 0) (rs := 0) dX3_beginUnmatched_24 lX3_75 ⟨by decide, by decide⟩ (by repeat (first | assumption | exact am_ue | refine am_un (by first | assumption | decide | omega) ?_)) (Nat.le_of_ble_eq_true rfl) (Nat.le_of_ble_eq_true rfl) (s_isPalm hLL hkP) ?_
        refine am_is_ct ?_
        rw [if_pos hp]
        refine am_if_ne 27 93 dX3_beginUnmatched_27 rfl (fun c27 => ?_) (fun c27 => absurd c27 (by decide))
        refine am_iinc 93 (v := nI (k + 1)) dX3_beginUnmatched_93 rfl (nI_1 (k)) (by decide) ?_
        refine am_goto 96 (tgt := 2) dX3_beginUnmatched_96 rfl ?_
        exact skip (hno fun z => z.1.2 hp) _ _
      · refine am_istore 14 dX3_beginUnmatched_14 (by decide) ?_
        refine am_iload 16 dX3_beginUnmatched_16 rfl ?_
        refine am_iconst 18 (v := (-1)) dX3_beginUnmatched_18 (by decide) ?_
        refine am_icmp_eq 19 93 dX3_beginUnmatched_19 rfl (fun c19 => absurd c19 nm) (fun c19 => ?_)
        refine am_aload_n 22 dX3_beginUnmatched_22 rfl ?_
        refine am_iload_n 23 dX3_beginUnmatched_23 rfl ?_
        refine am_V1 24 (mc' := 0) (ms' := 0) (rc := 0) (rs := 0) dX3_beginUnmatched_24 lX3_75 ⟨by decide, by decide⟩ (by repeat (first | assumption | exact am_ue | refine am_un (by first | assumption | decide | omega) ?_)) (Nat.le_of_ble_eq_true rfl) (Nat.le_of_ble_eq_true rfl) (s_isPalm hLL hkP) ?_
        refine am_is_ct ?_
        rw [if_neg hp]
        refine am_if_ne 27 93 dX3_beginUnmatched_27 rfl (fun c27 => absurd c27 (fun z => z rfl)) (fun c27 => ?_)
        refine am_aload_n 30 dX3_beginUnmatched_30 rfl ?_
        refine am_iload_n 31 dX3_beginUnmatched_31 rfl ?_
        refine am_S2 32 (mc' := 0) (ms' := 0) (rc := 0) (rs := 0) dX3_beginUnmatched_32 lX3_108 ⟨by decide, by decide⟩ (Nat.le_of_ble_eq_true rfl) (Nat.le_of_ble_eq_true rfl) (s_isMatchedByX (k := k) hq1) ?_
        rintro o n' f1 ⟨rfl, rfl, v, rfl, hv⟩
        refine am_ctI ?_
        refine am_if_ne 35 93 dX3_beginUnmatched_35 rfl (fun c35 => ?_) (fun c35 => ?_)
        · refine am_iinc 93 (v := nI (k + 1)) dX3_beginUnmatched_93 rfl (nI_1 (k)) (by decide) ?_
          refine am_goto 96 (tgt := 2) dX3_beginUnmatched_96 rfl ?_
          first | exact fin2 _ _ | exact skip (hno fun z => c35 (hv.mpr z.1.1)) _ _
        · refine am_aload_n 38 dX3_beginUnmatched_38 rfl ?_
          refine am_getfield 39 dX3_beginUnmatched_39 fX3_17 (by repeat (first | assumption | exact am_ue | refine am_un (by first | assumption | decide | omega) ?_)) rfl ?_
          refine am_aload_n 42 dX3_beginUnmatched_42 rfl ?_
          refine am_getfield 43 dX3_beginUnmatched_43 fX3_112 (by repeat (first | assumption | exact am_ue | refine am_un (by first | assumption | decide | omega) ?_)) rfl ?_
          refine am_iload_n 46 dX3_beginUnmatched_46 rfl ?_
          refine am_iaload 47 dX3_beginUnmatched_47 rfl (by repeat (first | assumption | exact am_ue | refine am_un (by first | assumption | decide | omega) ?_)) (am_ix (c := k) (by omega) (by decide)) ?_
          refine am_V1 48 (mc' := 0) (ms' := 0) (rc := 0) (rs := 0) dX3_beginUnmatched_48 lX3_115 ⟨by decide, by decide⟩ (by repeat (first | assumption | exact am_ue | refine am_un (by first | assumption | decide | omega) ?_)) (Nat.le_of_ble_eq_true rfl) (Nat.le_of_ble_eq_true rfl) (s_latestAt hS1) ?_
          rintro o n' f1 ⟨rfl, rfl, ar, rfl, har⟩
          refine am_ctI ?_
          refine am_istore 51 dX3_beginUnmatched_51 (by decide) ?_
          refine am_aload_n 53 dX3_beginUnmatched_53 rfl ?_
          refine am_getfield 54 dX3_beginUnmatched_54 fX3_11 (by repeat (first | assumption | exact am_ue | refine am_un (by first | assumption | decide | omega) ?_)) rfl ?_
          refine am_iload 57 dX3_beginUnmatched_57 rfl ?_
          refine am_aaload 59 dX3_beginUnmatched_59 rfl (by repeat (first | assumption | exact am_ue | refine am_un (by first | assumption | decide | omega) ?_)) (am_ix hm (by decide)) ?_
          rw [nI_clamp (n := m) (by omega), m_rf_at (by omega), show va_rf (some (h + 2 + 2 * m)) = Value.ref (h + 2 + 2 * m) from rfl]
          refine am_aload_n 60 dX3_beginUnmatched_60 rfl ?_
          refine am_getfield 61 dX3_beginUnmatched_61 fX3_79 (by repeat (first | assumption | exact am_ue | refine am_un (by first | assumption | decide | omega) ?_)) rfl ?_
          refine am_iload_n 64 dX3_beginUnmatched_64 rfl ?_
          refine am_iaload 65 dX3_beginUnmatched_65 rfl (by repeat (first | assumption | exact am_ue | refine am_un (by first | assumption | decide | omega) ?_)) (am_ix (c := k) (by omega) (by decide)) ?_
          rw [nI_clamp (n := k) (by omega), x2]
          refine am_aload_n 66 dX3_beginUnmatched_66 rfl ?_
          refine am_getfield 67 dX3_beginUnmatched_67 fX3_83 (by repeat (first | assumption | exact am_ue | refine am_un (by first | assumption | decide | omega) ?_)) rfl ?_
          refine am_iload_n 70 dX3_beginUnmatched_70 rfl ?_
          refine am_iaload 71 dX3_beginUnmatched_71 rfl (by repeat (first | assumption | exact am_ue | refine am_un (by first | assumption | decide | omega) ?_)) (am_ix (c := k) (by omega) (by decide)) ?_
          rw [nI_clamp (n := k) (by omega), x3]
          refine am_iload 72 dX3_beginUnmatched_72 rfl ?_
          refine am_V3 74 (mc' := 0) (ms' := 0) (rc := 0) (rs := 0) dX3_beginUnmatched_74 lX3_118 ⟨by decide, by decide⟩ (by repeat (first | assumption | exact am_ue | refine am_un (by first | assumption | decide | omega) ?_)) (Nat.le_of_ble_eq_true rfl) (Nat.le_of_ble_eq_true rfl) (s_beginAt hmC) ?_
          refine am_is_ct ?_
          have gH := g1.con hm (κ := m_begin (K1 m) (nI (m_placeN sig ((m_pks sig 48).getD k 0) false)) (nI (m_placeN sig ((m_pks sig 48).getD k 0) true)) ar) rfl
          have gO := gH.own (be' := b1 + 1) (li' := li) (ca' := ca)
          have h0b := gH.1
          have iB := m_Inv.begin (px := m_placeN sig ((m_pks sig 48).getD k 0) false) (py := m_placeN sig ((m_pks sig 48).getD k 0) true) g3 ht hm hfree (by omega) (by omega) har
          refine am_aload_n 77 dX3_beginUnmatched_77 rfl ?_
          refine am_dup 78 dX3_beginUnmatched_78 rfl ?_
          refine am_getfield 79 dX3_beginUnmatched_79 fX3_121 (by repeat (first | assumption | exact am_ue | refine am_un (by first | assumption | decide | omega) ?_)) rfl ?_
          refine am_iconst 82 (v := 1) dX3_beginUnmatched_82 (by decide) ?_
          refine am_iadd 83 dX3_beginUnmatched_83 ?_
          rw [nI_1]
          refine am_putfield 84 dX3_beginUnmatched_84 pX3_121 (by repeat (first | assumption | exact am_ue | refine am_un (by first | assumption | decide | omega) ?_)) rfl rfl (Nat.le_of_ble_eq_true rfl) ?_
          rw [show List.set [Value.ref (h + 1), .ref s, .int (nI b1), .int (nI li), .int (nI ca)] 2 (.int (nI (b1 + 1))) = [.ref (h + 1), .ref s, .int (nI (b1 + 1)), .int (nI li), .int (nI ca)] from rfl]
          refine am_aload_n 87 dX3_beginUnmatched_87 rfl ?_
          refine am_iload 88 dX3_beginUnmatched_88 rfl ?_
          refine am_V1 90 (mc' := 0) (ms' := 0) (rc := 0) (rs := 0) dX3_beginUnmatched_90 lX3_124 ⟨by decide, by decide⟩ (by repeat (first | assumption | exact am_ue | refine am_un (by first | assumption | decide | omega) ?_)) (Nat.le_of_ble_eq_true rfl) (Nat.le_of_ble_eq_true rfl) (s_rememberApart hm gO (fun j hj => (iB.1 j hj).1)) ?_
          rintro o n' f2 ⟨rfl, rfl, ⟨K2, r1, r2⟩, r3⟩
          refine am_ctI ?_
          have fin2 := fun z z' => nx z z' f2 ⟨K2, b1 + 1, r1, by omega, iB.ap r2, bgf _ _ r2, hyes ⟨hv.mp c35, hp⟩ _ _ r2⟩ fun x hx => (r3 x hx).trans ((am_up_ne (by omega)).trans ((am_up_ne (by omega)).trans (g4 x hx)))
          refine am_iinc 93 (v := nI (k + 1)) dX3_beginUnmatched_93 rfl (nI_1 (k)) (by decide) ?_
          refine am_goto 96 (tgt := 2) dX3_beginUnmatched_96 rfl ?_
          first | exact fin2 _ _ | exact skip (hno fun z => c35 (hv.mpr z.1.1)) _ _
end BegX
