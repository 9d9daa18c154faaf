/-! ===== those that no peak matches are missed, or lifted ===== -/
def m_mis (bst : Int64) (K : Nat → m_K) (j : Nat) : m_K := if (K j).1 0 ≠ 0 ∧ m_pk bst j = -1 then (if (K j).1 5 = 0 then m_miss (K j) else m_gone (m_miss (K j))) else K j
theorem m_one.miss {told T : Nat} {κ : m_K} (h : m_one told T κ) (e5 : κ.1 5 = 0) : m_one told T (m_miss κ) := by
  refine ⟨m_miss_ok h.1, h.2.1, fun z => ?_⟩
  obtain ⟨r1, -, r3, r4⟩ := h.2.2 z
  refine ⟨r1, Or.inr ?_, r3, r4⟩
  show κ.1 5 + 1 = 1
  rw [e5]
  rfl
section Mis
variable {h s told T be li ca n q : Nat} {A : Nat → Nat → Int32} {C : Nat → Nat → Nat} {f : Nat → am_C} {K : Nat → m_K} {bst : Int64}
theorem m_mis_in {k : Nat} : (fun j => if j < k + 1 then m_mis bst K j else K j) = va_up (fun j => if j < k then m_mis bst K j else K j) k (m_mis bst K k) := by
  funext j
  by_cases e : j = k
  · subst e
    rw [am_up_eq]
    exact if_pos (Nat.lt_succ_self _)
  · rw [am_up_ne e]
    show (if j < k + 1 then _ else _) = if j < k then _ else _
    by_cases e2 : j < k
    · rw [if_pos e2, if_pos (by omega)]
    · rw [if_neg e2, if_neg (by omega)]
set_option maxHeartbeats 2000000 in
theorem s_missUnmatched (hh : m_Ha f h s K be li ca) (hS : m_As f s told A C) (hI : m_Inv told T K be li ca C) (hq : f q = .inr (4, [.ref (q + 1), .ref (q + 2), .long bst])) (hd : s + 9 < h ∨ h + 11 < s) (hd2 : (q < s ∨ s + 9 < q) ∧ (q < h ∨ h + 11 < q)) : AM mX3_missUnmatched 0 0 [.ref h, .ref q] n f (fun o n' f' => o = .inl none ∧ n' = n ∧ (∃ li' C', m_Ha f' h s (fun j => if j < 5 then m_mis bst K j else K j) be li' ca ∧ m_As f' s told A C' ∧ m_Inv told T (fun j => if j < 5 then m_mis bst K j else K j) be li' ca C') ∧ ∀ x, (x < s ∨ s + 9 < x) → (x < h ∨ h + 11 < x) → f' x = f x) := by
  show AW mX3_missUnmatched 0 0 0 [some (.ref h), some (.ref q), none, none] [] n f _
  generalize hQ : (fun (o : Option Value ⊕ Nat) (n' : Nat) (f' : Nat → am_C) => o = .inl none ∧ n' = n ∧ (∃ li' C', m_Ha f' h s (fun j => if j < 5 then m_mis bst K j else K j) be li' ca ∧ m_As f' s told A C' ∧ m_Inv told T (fun j => if j < 5 then m_mis bst K j else K j) be li' ca C') ∧ ∀ x, (x < s ∨ s + 9 < x) → (x < h ∨ h + 11 < x) → f' x = f x) = Q
  refine am_iconst 0 (v := 0) dX3_missUnmatched_0 (by decide) ?_
  refine am_istore_n 1 dX3_missUnmatched_1 (by decide) ?_
  refine am_for 5 (fun k (st : (Nat → am_C) × Option Value) => (∃ li' C', m_Ha st.1 h s (fun j => if j < k then m_mis bst K j else K j) be li' ca ∧ m_As st.1 s told A C' ∧ m_Inv told T (fun j => if j < k then m_mis bst K j else K j) be li' ca C') ∧ ∀ x, (x < s ∨ s + 9 < x) → (x < h ∨ h + 11 < x) → st.1 x = f x) (fun k st => AW mX3_missUnmatched 0 0 2 [some (.ref h), some (.ref q), some (.int (nI k)), st.2] [] n st.1 Q) ?_ ?_ 0 (f, none) (by omega) ⟨⟨li, C, hh, hS, hI⟩, fun _ _ _ => rfl⟩
  · rintro ⟨g, z5⟩ ⟨g1, g3⟩
    show AW mX3_missUnmatched 0 0 2 [some (.ref h), some (.ref q), some (.int (nI 5)), z5] [] n g Q
    refine am_iload_n 2 dX3_missUnmatched_2 rfl ?_
    refine am_iconst 3 (v := 5) dX3_missUnmatched_3 (by decide) ?_
    refine am_icmp_ge 4 53 dX3_missUnmatched_4 rfl (fun c4 => ?_) (fun c4 => absurd (by decide) c4)
    refine am_return 53 dX3_missUnmatched_53 rfl ?_
    subst hQ
    exact ⟨rfl, rfl, g1, g3⟩
  · rintro k ⟨g, z5⟩ hk ⟨⟨l1, C1, g1, g2, g3⟩, g4⟩ ih
    show AW mX3_missUnmatched 0 0 2 [some (.ref h), some (.ref q), some (.int (nI k)), z5] [] n g Q
    have hq1 := (g4 q hd2.1 hd2.2).trans hq
    have hKk : (fun j => if j < k then m_mis bst K j else K j) k = K k := if_neg (Nat.lt_irrefl k)
    have hone := hI.1 k hk
    have hkC := g1.2.2 k hk
    rw [hKk] at hkC
    have hc := hkC.1
    have h0 := g1.1
    have h1' := g1.2.1
    have next : ∀ κ, m_mis bst K k = κ → ∀ z g' l' C', m_Ha g' h s (va_up (fun j => if j < k then m_mis bst K j else K j) k κ) be l' ca → m_As g' s told A C' → m_Inv told T (va_up (fun j => if j < k then m_mis bst K j else K j) k κ) be l' ca C' → (∀ x, (x < s ∨ s + 9 < x) → (x < h ∨ h + 11 < x) → g' x = f x) → AW mX3_missUnmatched 0 0 2 [some (.ref h), some (.ref q), some (.int (nI (k + 1))), z] [] n g' Q := by
      rintro κ rfl z g' l' C' a1 a2 a3 a4
      exact ih (g', z) ⟨⟨l', C', by rw [m_mis_in]; exact a1, a2, by rw [m_mis_in]; exact a3⟩, a4⟩
    clear ih
    generalize (fun j => if j < k then m_mis bst K j else K j) = F at *
    have eF : va_up F k (K k) = F := am_self hKk
    by_cases hth : (K k).1 0 = 0
    · have fin := fun z => next _ (if_neg (fun z => z.1 hth)) z g l1 C1 (by rw [eF]; exact g1) g2 (by rw [eF]; exact g3) g4
      refine am_iload_n 2 dX3_missUnmatched_2 rfl ?_
      refine am_iconst 3 (v := 5) dX3_missUnmatched_3 (by decide) ?_
      refine am_icmp_ge 4 53 dX3_missUnmatched_4 rfl (fun c4 => absurd c4 (nI_ge hk (by decide))) (fun c4 => ?_)
      refine am_aload_n 7 dX3_missUnmatched_7 rfl ?_
      refine am_getfield 8 dX3_missUnmatched_8 fX3_11 (by repeat (first | assumption | exact am_ue | refine am_un (by first | assumption | decide | omega) ?_)) rfl ?_
      refine am_iload_n 11 dX3_missUnmatched_11 rfl ?_
      refine am_aaload 12 dX3_missUnmatched_12 rfl (by repeat (first | assumption | exact am_ue | refine am_un (by first | assumption | decide | omega) ?_)) (am_ix hk (by decide)) ?_
      rw [nI_clamp (n := k) (by omega), m_rf_at (by omega), show va_rf (some (h + 2 + 2 * k)) = Value.ref (h + 2 + 2 * k) from rfl]
      refine am_astore_n 13 dX3_missUnmatched_13 (by decide) ?_
      refine am_aload_n 14 dX3_missUnmatched_14 rfl ?_
      refine am_getfield 15 dX3_missUnmatched_15 fX3_22 (by repeat (first | assumption | exact am_ue | refine am_un (by first | assumption | decide | omega) ?_)) rfl ?_
      refine am_if_eq 18 47 dX3_missUnmatched_18 rfl (fun c18 => ?_) (fun c18 => absurd hth c18)
      refine am_iinc 47 (v := nI (k + 1)) dX3_missUnmatched_47 rfl (nI_1 (k)) (by decide) ?_
      refine am_goto 50 (tgt := 2) dX3_missUnmatched_50 rfl ?_
      exact fin _
    · by_cases hpk : m_pk bst k = -1
      · obtain ⟨r1, r2, har, cl, hcl, e6⟩ := hone.2.2 hth
        have gm := g1.con hk (κ := m_miss (F k)) rfl
        rw [hKk] at gm
        have gS : m_As (va_up g (h + 2 + 2 * k) (.inr (2, m_kF (h + 2 + 2 * k) (m_miss (K k))))) s told A C1 := g2.on fun x a b => am_up_ne (by omega)
        have hcm := (gm.2.2 k hk).1
        rw [am_up_eq] at hcm
        rcases r2 with r2 | r2
        · have fin := fun z => next _ ((if_pos ⟨hth, hpk⟩).trans (if_pos r2)) z _ l1 C1 gm gS (m_Inv.same g3 hk (hone.miss r2) (by rw [hKk]; rfl) (by rw [hKk]; rfl) (by rw [hKk]; rfl)) fun x a b => (am_up_ne (by omega)).trans (g4 x a b)
          have e5 : (m_miss (K k)).1 5 = 1 := by
            show (K k).1 5 + 1 = 1
            rw [r2]
            rfl
          refine am_iload_n 2 dX3_missUnmatched_2 rfl ?_
          refine am_iconst 3 (v := 5) dX3_missUnmatched_3 (by decide) ?_
          refine am_icmp_ge 4 53 dX3_missUnmatched_4 rfl (fun c4 => absurd c4 (nI_ge hk (by decide))) (fun c4 => ?_)
          refine am_aload_n 7 dX3_missUnmatched_7 rfl ?_
          refine am_getfield 8 dX3_missUnmatched_8 fX3_11 (by repeat (first | assumption | exact am_ue | refine am_un (by first | assumption | decide | omega) ?_)) rfl ?_
          refine am_iload_n 11 dX3_missUnmatched_11 rfl ?_
          refine am_aaload 12 dX3_missUnmatched_12 rfl (by repeat (first | assumption | exact am_ue | refine am_un (by first | assumption | decide | omega) ?_)) (am_ix hk (by decide)) ?_
          rw [nI_clamp (n := k) (by omega), m_rf_at (by omega), show va_rf (some (h + 2 + 2 * k)) = Value.ref (h + 2 + 2 * k) from rfl]
          refine am_astore_n 13 dX3_missUnmatched_13 (by decide) ?_
          refine am_aload_n 14 dX3_missUnmatched_14 rfl ?_
          refine am_getfield 15 dX3_missUnmatched_15 fX3_22 (by repeat (first | assumption | exact am_ue | refine am_un (by first | assumption | decide | omega) ?_)) rfl ?_
          refine am_if_eq 18 47 dX3_missUnmatched_18 rfl (fun c18 => absurd c18 hth) (fun c18 => ?_)
          refine am_aload_n 21 dX3_missUnmatched_21 rfl ?_
          refine am_iload_n 22 dX3_missUnmatched_22 rfl ?_
          refine am_V1 23 (mc' := 0) (ms' := 0) (rc := 0) (rs := 0) dX3_missUnmatched_23 lX3_64 ⟨by decide, by decide⟩ (by repeat (first | assumption | exact am_ue | refine am_un (by first | assumption | decide | omega) ?_)) (Nat.le_of_ble_eq_true rfl) (Nat.le_of_ble_eq_true rfl) (s_peakOf hq1) ?_
          refine am_is_ct ?_
          rw [hpk]
          refine am_iconst 26 (v := (-1)) dX3_missUnmatched_26 (by decide) ?_
          refine am_icmp_ne 27 47 dX3_missUnmatched_27 rfl (fun c27 => absurd c27 (fun z => z rfl)) (fun c27 => ?_)
          refine am_aload_n 30 dX3_missUnmatched_30 rfl ?_
          refine am_V0 31 (mc' := 0) (ms' := 0) (rc := 0) (rs := 0) dX3_missUnmatched_31 lX3_89 ⟨by decide, by decide⟩ (by repeat (first | assumption | exact am_ue | refine am_un (by first | assumption | decide | omega) ?_)) (Nat.le_of_ble_eq_true rfl) (Nat.le_of_ble_eq_true rfl) (s_miss hkC) ?_
          refine am_is_ct ?_
          refine am_aload_n 34 dX3_missUnmatched_34 rfl ?_
          refine am_getfield 35 dX3_missUnmatched_35 fX3_92 (by repeat (first | assumption | exact am_ue | refine am_un (by first | assumption | decide | omega) ?_)) rfl ?_
          rw [e5]
          refine am_iconst 38 (v := 2) dX3_missUnmatched_38 (by decide) ?_
          refine am_icmp_lt 39 47 dX3_missUnmatched_39 rfl (fun c39 => ?_) (fun c39 => absurd (by decide) c39)
          refine am_iinc 47 (v := nI (k + 1)) dX3_missUnmatched_47 rfl (nI_1 (k)) (by decide) ?_
          refine am_goto 50 (tgt := 2) dX3_missUnmatched_50 rfl ?_
          exact fin _
        · have e5 : (m_miss (K k)).1 5 = 2 := by
            show (K k).1 5 + 1 = 2
            rw [r2]
            rfl
          have e6m : (va_up F k (m_miss (K k)) k).1 6 = nI cl := by
            rw [am_up_eq]
            exact e6
          have harm : (va_up F k (m_miss (K k)) k).1 7 = -1 ∨ ∃ a, a < told ∧ (va_up F k (m_miss (K k)) k).1 7 = nI a := by
            rw [am_up_eq]
            exact har
          have harF : (F k).1 7 = -1 ∨ ∃ a, a < told ∧ (F k).1 7 = nI a := by
            rw [hKk]
            exact har
          have eg : va_up (va_up F k (m_miss (K k))) k (m_gone (va_up F k (m_miss (K k)) k)) = va_up F k (m_gone (m_miss (K k))) := by rw [am_uu, am_up_eq]
          have inv : ∀ C', (C' = C1 ∨ (cl = 0 ∧ m_Ct C1 C' ((va_up F k (m_miss (K k)) k).1 7) 0 true)) → m_Inv told T (va_up F k (m_gone (m_miss (K k)))) be (l1 + 1) ca C' := fun C' hC => by
            have hC2 : C' = C1 ∨ (cl = 0 ∧ m_Ct C1 C' ((F k).1 7) 0 true) := by
              rw [am_up_eq] at hC
              rw [hKk]
              exact hC
            have a := m_Inv.lift (cl := cl) g3 hS.2.2.1 hk (by rw [hKk]; exact hth) hC2 harF
            have b := m_Inv.same (κ := m_gone (m_miss (K k))) a hk ⟨m_miss_ok hone.1, Or.inl rfl, fun z => absurd rfl z⟩ (by rw [am_up_eq]; rfl) (by rw [am_up_eq, hKk]; rfl) (by rw [am_up_eq, hKk]; rfl)
            rwa [am_uu] at b
          have r20 : ¬ (K k).1 5 = 0 := by rw [r2]; decide
          refine am_iload_n 2 dX3_missUnmatched_2 rfl ?_
          refine am_iconst 3 (v := 5) dX3_missUnmatched_3 (by decide) ?_
          refine am_icmp_ge 4 53 dX3_missUnmatched_4 rfl (fun c4 => absurd c4 (nI_ge hk (by decide))) (fun c4 => ?_)
          refine am_aload_n 7 dX3_missUnmatched_7 rfl ?_
          refine am_getfield 8 dX3_missUnmatched_8 fX3_11 (by repeat (first | assumption | exact am_ue | refine am_un (by first | assumption | decide | omega) ?_)) rfl ?_
          refine am_iload_n 11 dX3_missUnmatched_11 rfl ?_
          refine am_aaload 12 dX3_missUnmatched_12 rfl (by repeat (first | assumption | exact am_ue | refine am_un (by first | assumption | decide | omega) ?_)) (am_ix hk (by decide)) ?_
          rw [nI_clamp (n := k) (by omega), m_rf_at (by omega), show va_rf (some (h + 2 + 2 * k)) = Value.ref (h + 2 + 2 * k) from rfl]
          refine am_astore_n 13 dX3_missUnmatched_13 (by decide) ?_
          refine am_aload_n 14 dX3_missUnmatched_14 rfl ?_
          refine am_getfield 15 dX3_missUnmatched_15 fX3_22 (by repeat (first | assumption | exact am_ue | refine am_un (by first | assumption | decide | omega) ?_)) rfl ?_
          refine am_if_eq 18 47 dX3_missUnmatched_18 rfl (fun c18 => absurd c18 hth) (fun c18 => ?_)
          refine am_aload_n 21 dX3_missUnmatched_21 rfl ?_
          refine am_iload_n 22 dX3_missUnmatched_22 rfl ?_
          refine am_V1 23 (mc' := 0) (ms' := 0) (rc := 0) (rs := 0) dX3_missUnmatched_23 lX3_64 ⟨by decide, by decide⟩ (by repeat (first | assumption | exact am_ue | refine am_un (by first | assumption | decide | omega) ?_)) (Nat.le_of_ble_eq_true rfl) (Nat.le_of_ble_eq_true rfl) (s_peakOf hq1) ?_
          refine am_is_ct ?_
          rw [hpk]
          refine am_iconst 26 (v := (-1)) dX3_missUnmatched_26 (by decide) ?_
          refine am_icmp_ne 27 47 dX3_missUnmatched_27 rfl (fun c27 => absurd c27 (fun z => z rfl)) (fun c27 => ?_)
          refine am_aload_n 30 dX3_missUnmatched_30 rfl ?_
          refine am_V0 31 (mc' := 0) (ms' := 0) (rc := 0) (rs := 0) dX3_missUnmatched_31 lX3_89 ⟨by decide, by decide⟩ (by repeat (first | assumption | exact am_ue | refine am_un (by first | assumption | decide | omega) ?_)) (Nat.le_of_ble_eq_true rfl) (Nat.le_of_ble_eq_true rfl) (s_miss hkC) ?_
          refine am_is_ct ?_
          refine am_aload_n 34 dX3_missUnmatched_34 rfl ?_
          refine am_getfield 35 dX3_missUnmatched_35 fX3_92 (by repeat (first | assumption | exact am_ue | refine am_un (by first | assumption | decide | omega) ?_)) rfl ?_
          rw [e5]
          refine am_iconst 38 (v := 2) dX3_missUnmatched_38 (by decide) ?_
          refine am_icmp_lt 39 47 dX3_missUnmatched_39 rfl (fun c39 => absurd c39 (by decide)) (fun c39 => ?_)
          refine am_aload_n 42 dX3_missUnmatched_42 rfl ?_
          refine am_aload_n 43 dX3_missUnmatched_43 rfl ?_
          refine am_V1 44 (mc' := 0) (ms' := 0) (rc := 0) (rs := 0) dX3_missUnmatched_44 lX3_95 ⟨by decide, by decide⟩ (by repeat (first | assumption | exact am_ue | refine am_un (by first | assumption | decide | omega) ?_)) (Nat.le_of_ble_eq_true rfl) (Nat.le_of_ble_eq_true rfl) (s_lift hk hcl gm gS hd e6m harm) ?_
          rintro o n' f1 ⟨rfl, rfl, q1, ⟨C', q2, q3⟩, q4⟩
          refine am_ctI ?_
          refine am_iinc 47 (v := nI (k + 1)) dX3_missUnmatched_47 rfl (nI_1 (k)) (by decide) ?_
          refine am_goto 50 (tgt := 2) dX3_missUnmatched_50 rfl ?_
          exact next _ ((if_pos ⟨hth, hpk⟩).trans (if_neg r20)) _ f1 _ C' (by rw [← eg]; exact q1) q2 (inv C' q3) fun x a b => (q4 x a b).trans ((am_up_ne (by omega)).trans (g4 x a b))
      · have fin := fun z => next _ (if_neg (fun z => hpk z.2)) z g l1 C1 (by rw [eF]; exact g1) g2 (by rw [eF]; exact g3) g4
        refine am_iload_n 2 dX3_missUnmatched_2 rfl ?_
        refine am_iconst 3 (v := 5) dX3_missUnmatched_3 (by decide) ?_
        refine am_icmp_ge 4 53 dX3_missUnmatched_4 rfl (fun c4 => absurd c4 (nI_ge hk (by decide))) (fun c4 => ?_)
        refine am_aload_n 7 dX3_missUnmatched_7 rfl ?_
        refine am_getfield 8 dX3_missUnmatched_8 fX3_11 (by repeat (first | assumption | exact am_ue | refine am_un (by first | assumption | decide | omega) ?_)) rfl ?_
        refine am_iload_n 11 dX3_missUnmatched_11 rfl ?_
        refine am_aaload 12 dX3_missUnmatched_12 rfl (by repeat (first | assumption | exact am_ue | refine am_un (by first | assumption | decide | omega) ?_)) (am_ix hk (by decide)) ?_
        rw [nI_clamp (n := k) (by omega), m_rf_at (by omega), show va_rf (some (h + 2 + 2 * k)) = Value.ref (h + 2 + 2 * k) from rfl]
        refine am_astore_n 13 dX3_missUnmatched_13 (by decide) ?_
        refine am_aload_n 14 dX3_missUnmatched_14 rfl ?_
        refine am_getfield 15 dX3_missUnmatched_15 fX3_22 (by repeat (first | assumption | exact am_ue | refine am_un (by first | assumption | decide | omega) ?_)) rfl ?_
        refine am_if_eq 18 47 dX3_missUnmatched_18 rfl (fun c18 => absurd c18 hth) (fun c18 => ?_)
        refine am_aload_n 21 dX3_missUnmatched_21 rfl ?_
        refine am_iload_n 22 dX3_missUnmatched_22 rfl ?_
        refine am_V1 23 (mc' := 0) (ms' := 0) (rc := 0) (rs := 0) dX3_missUnmatched_23 lX3_64 ⟨by decide, by decide⟩ (by repeat (first | assumption | exact am_ue | refine am_un (by first | assumption | decide | omega) ?_)) (Nat.le_of_ble_eq_true rfl) (Nat.le_of_ble_eq_true rfl) (s_peakOf hq1) ?_
        refine am_is_ct ?_
        refine am_iconst 26 (v := (-1)) dX3_missUnmatched_26 (by decide) ?_
        refine am_icmp_ne 27 47 dX3_missUnmatched_27 rfl (fun c27 => ?_) (fun c27 => absurd c27 hpk)
        refine am_iinc 47 (v := nI (k + 1)) dX3_missUnmatched_47 rfl (nI_1 (k)) (by decide) ?_
        refine am_goto 50 (tgt := 2) dX3_missUnmatched_50 rfl ?_
        exact fin _
end Mis
