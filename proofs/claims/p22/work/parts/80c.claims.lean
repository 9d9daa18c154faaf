/-! ===== begun, apart, claimed, all cancelled: to the letter ===== -/
section YCla
variable {h s told T n i q d : Nat} {A : Nat → Nat → Int32} {C : Nat → Nat → Nat} {f : Nat → am_C} {S : y_H} {sig : Nat → Int32} {bst : Int64} {be li ca : Nat} {K : Nat → m_K}
theorem s_latestAtY {c : Nat} (hc : c < 48) (hS : m_As f s told A C) : AM mX1_latestAt 0 0 [.ref s, .int (nI c)] n f (am_is (some (.int (y_ar A c told))) n f) := by
  show AW mX1_latestAt 0 0 0 [some (.ref s), some (.int (nI c)), none] [] n f _
  obtain ⟨h0, h1, ht, hA⟩ := hS
  refine am_aload_n 0 dX1_latestAt_0 rfl ?_
  refine am_getfield 1 dX1_latestAt_1 fX1_18 (by repeat (first | assumption | exact am_ue | refine am_un (by first | assumption | decide | omega) ?_)) rfl ?_
  refine am_iconst 4 (v := 1) dX1_latestAt_4 (by decide) ?_
  refine am_isub 5 dX1_latestAt_5 ?_
  refine am_istore_n 6 dX1_latestAt_6 (by decide) ?_
  refine am_for told (fun j (x : Int32) => x = nI (told - j) - 1 ∧ y_ar A c told = y_ar A c (told - j)) (fun j x => AW mX1_latestAt 0 0 7 [some (.ref s), some (.int (nI c)), some (.int x)] [] n f _) ?_ ?_ 0 (nI told - 1) (by omega) ⟨rfl, rfl⟩
  · rintro x ⟨rfl, e⟩
    rw [Nat.sub_self] at e ⊢
    refine am_iload_n 7 dX1_latestAt_7 rfl ?_
    refine am_if_lt 8 39 dX1_latestAt_8 rfl (fun c8 => ?_) (fun c8 => absurd (by decide) c8)
    refine am_iconst 39 (v := (-1)) dX1_latestAt_39 (by decide) ?_
    refine am_ireturn 40 dX1_latestAt_40 rfl rfl ?_
    exact ⟨by rw [e]; rfl, rfl, rfl⟩
  · rintro j x hj ⟨rfl, e⟩ ih
    obtain ⟨e1, e2⟩ := m_dn told ht j hj
    have hjj : told - j - 1 < 4 := by omega
    have hA2 := hA _ hjj
    have hA20 := hA2.1
    have n1 : ¬ nI (told - j - 1) < 0 := fun z => absurd ((nI_ltI (b := 0) (by omega) (by decide)).mp z) (by omega)
    rw [e1] at e2
    rw [e1]
    rw [show told - j = (told - j - 1) + 1 by omega] at e
    by_cases hol : A (told - j - 1) 0 ≤ nI (c % 8) ∧ nI (c % 8) ≤ A (told - j - 1) 1 ∧ A (told - j - 1) 2 ≤ nI (c / 8) ∧ nI (c / 8) ≤ A (told - j - 1) 3
    · have e3 : y_ar A c told = nI (told - j - 1) := e.trans (if_pos hol)
      refine am_iload_n 7 dX1_latestAt_7 rfl ?_
      refine am_if_lt 8 39 dX1_latestAt_8 rfl (fun c8 => absurd c8 n1) (fun c8 => ?_)
      refine am_aload_n 11 dX1_latestAt_11 rfl ?_
      refine am_getfield 12 dX1_latestAt_12 fX1_11 (by repeat (first | assumption | exact am_ue | refine am_un (by first | assumption | decide | omega) ?_)) rfl ?_
      refine am_iload_n 15 dX1_latestAt_15 rfl ?_
      refine am_aaload 16 dX1_latestAt_16 rfl (by repeat (first | assumption | exact am_ue | refine am_un (by first | assumption | decide | omega) ?_)) (am_ix hjj (by decide)) ?_
      rw [nI_clamp (n := (told - j - 1)) (by omega), m_rf_at (by omega), show va_rf (some (s + 2 + 2 * (told - j - 1))) = Value.ref (s + 2 + 2 * (told - j - 1)) from rfl]
      refine am_iload_n 17 dX1_latestAt_17 rfl ?_
      refine am_bipush 18 (v := 8) dX1_latestAt_18 (by decide) ?_
      refine am_irem 20 dX1_latestAt_20 (by decide) ?_
      rw [am_rem8 (by omega)]
      refine am_iload_n 21 dX1_latestAt_21 rfl ?_
      refine am_bipush 22 (v := 8) dX1_latestAt_22 (by decide) ?_
      refine am_idiv 24 dX1_latestAt_24 (by decide) ?_
      rw [am_div8 (by omega)]
      refine am_V2 25 (mc' := 0) (ms' := 0) (rc := 0) (rs := 0) dX1_latestAt_25 lX1_34 ⟨by decide, by decide⟩ (by repeat (first | assumption | exact am_ue | refine am_un (by first | assumption | decide | omega) ?_)) (Nat.le_of_ble_eq_true rfl) (Nat.le_of_ble_eq_true rfl) (s_holds hA2) ?_
      refine am_is_ct ?_
      rw [if_pos hol]
      refine am_if_eq 28 33 dX1_latestAt_28 rfl (fun c28 => absurd c28 (by decide)) (fun c28 => ?_)
      refine am_iload_n 31 dX1_latestAt_31 rfl ?_
      refine am_ireturn 32 dX1_latestAt_32 rfl rfl ?_
      exact ⟨by rw [e3], rfl, rfl⟩
    · have e3 : y_ar A c told = y_ar A c (told - (j + 1)) := e.trans (if_neg hol)
      refine am_iload_n 7 dX1_latestAt_7 rfl ?_
      refine am_if_lt 8 39 dX1_latestAt_8 rfl (fun c8 => absurd c8 n1) (fun c8 => ?_)
      refine am_aload_n 11 dX1_latestAt_11 rfl ?_
      refine am_getfield 12 dX1_latestAt_12 fX1_11 (by repeat (first | assumption | exact am_ue | refine am_un (by first | assumption | decide | omega) ?_)) rfl ?_
      refine am_iload_n 15 dX1_latestAt_15 rfl ?_
      refine am_aaload 16 dX1_latestAt_16 rfl (by repeat (first | assumption | exact am_ue | refine am_un (by first | assumption | decide | omega) ?_)) (am_ix hjj (by decide)) ?_
      rw [nI_clamp (n := (told - j - 1)) (by omega), m_rf_at (by omega), show va_rf (some (s + 2 + 2 * (told - j - 1))) = Value.ref (s + 2 + 2 * (told - j - 1)) from rfl]
      refine am_iload_n 17 dX1_latestAt_17 rfl ?_
      refine am_bipush 18 (v := 8) dX1_latestAt_18 (by decide) ?_
      refine am_irem 20 dX1_latestAt_20 (by decide) ?_
      rw [am_rem8 (by omega)]
      refine am_iload_n 21 dX1_latestAt_21 rfl ?_
      refine am_bipush 22 (v := 8) dX1_latestAt_22 (by decide) ?_
      refine am_idiv 24 dX1_latestAt_24 (by decide) ?_
      rw [am_div8 (by omega)]
      refine am_V2 25 (mc' := 0) (ms' := 0) (rc := 0) (rs := 0) dX1_latestAt_25 lX1_34 ⟨by decide, by decide⟩ (by repeat (first | assumption | exact am_ue | refine am_un (by first | assumption | decide | omega) ?_)) (Nat.le_of_ble_eq_true rfl) (Nat.le_of_ble_eq_true rfl) (s_holds hA2) ?_
      refine am_is_ct ?_
      rw [if_neg hol]
      refine am_if_eq 28 33 dX1_latestAt_28 rfl (fun c28 => ?_) (fun c28 => absurd rfl c28)
      refine am_iinc 33 (v := nI (told - (j + 1)) - 1) dX1_latestAt_33 rfl e2 (by decide) ?_
      refine am_goto 36 (tgt := 7) dX1_latestAt_36 rfl ?_
      exact ih _ ⟨rfl, e3⟩
set_option maxHeartbeats 2000000 in
theorem s_rememberY {m : Nat} (hm : m < 5) (hh : m_Ha f h s K be li ca) (hok : ∀ j, j < 5 → m_kOk (K j)) : AM mX3_rememberApart 0 0 [.ref h, .int (nI m)] n f (fun o n' f' => o = .inl none ∧ n' = n ∧ m_Ha f' h s (y_it (y_rem m) K 5) be li ca ∧ m_ap K (y_it (y_rem m) K 5) ∧ ∀ x, (x < h ∨ h + 11 < x) → f' x = f x) := by
  show AW mX3_rememberApart 0 0 0 [some (.ref h), some (.int (nI m)), none, none] [] n f _
  generalize hQ : (fun (o : Option Value ⊕ Nat) (n' : Nat) (f' : Nat → am_C) => o = .inl none ∧ n' = n ∧ m_Ha f' h s (y_it (y_rem m) K 5) be li ca ∧ m_ap K (y_it (y_rem m) K 5) ∧ ∀ x, (x < h ∨ h + 11 < x) → f' x = f x) = Q
  refine am_iconst 0 (v := 0) dX3_rememberApart_0 (by decide) ?_
  refine am_istore_n 1 dX3_rememberApart_1 (by decide) ?_
  refine am_for 5 (fun k (st : (Nat → am_C) × Option Value) => m_Ha st.1 h s (y_it (y_rem m) K k) be li ca ∧ m_ap K (y_it (y_rem m) K k) ∧ ∀ x, (x < h ∨ h + 11 < x) → st.1 x = f x) (fun k st => AW mX3_rememberApart 0 0 2 [some (.ref h), some (.int (nI m)), some (.int (nI k)), st.2] [] n st.1 Q) ?_ ?_ 0 (f, none) (by omega) ⟨hh, fun j hj => ⟨rfl, rfl, hok j hj⟩, fun _ _ => rfl⟩
  · rintro ⟨g, z5⟩ ⟨g1, g2, g3⟩
    show AW mX3_rememberApart 0 0 2 [some (.ref h), some (.int (nI m)), some (.int (nI 5)), z5] [] n g Q
    refine am_iload_n 2 dX3_rememberApart_2 rfl ?_
    refine am_iconst 3 (v := 5) dX3_rememberApart_3 (by decide) ?_
    refine am_icmp_ge 4 65 dX3_rememberApart_4 rfl (fun c4 => ?_) (fun c4 => absurd (by decide) c4)
    refine am_return 65 dX3_rememberApart_65 rfl ?_
    subst hQ
    exact ⟨rfl, rfl, g1, g2, g3⟩
  · rintro k ⟨g, z5⟩ hk ⟨g1, g2, g4⟩ ih
    show AW mX3_rememberApart 0 0 2 [some (.ref h), some (.int (nI m)), some (.int (nI k)), z5] [] n g Q
    have g1 : m_Ha g h s (y_it (y_rem m) K k) be li ca := g1
    have ih : ∀ g' z, m_Ha g' h s (y_rem m (y_it (y_rem m) K k) k) be li ca → m_ap K (y_rem m (y_it (y_rem m) K k) k) → (∀ x, (x < h ∨ h + 11 < x) → g' x = f x) → AW mX3_rememberApart 0 0 2 [some (.ref h), some (.int (nI m)), some (.int (nI (k + 1))), z] [] n g' Q := fun g' z a b c => ih (g', z) ⟨a, b, c⟩
    generalize y_it (y_rem m) K k = K1 at *
    have hkC := g1.2.2 k hk
    have hmC := g1.2.2 m hm
    have hc := hkC.1
    have hcm := hmC.1
    have h0 := g1.1
    have h1' := g1.2.1
    obtain ⟨-, -, d3⟩ := f_dist (g2 m hm).2.2.1 (g2 m hm).2.2.2.1 (g2 k hk).2.2.1 (g2 k hk).2.2.2.1
    by_cases hth : (K1 k).1 0 = 0
    · have ih2 := fun z => ih g z (by rw [show y_rem m K1 k = K1 from if_neg fun z => z hth]; exact g1) (by rw [show y_rem m K1 k = K1 from if_neg fun z => z hth]; exact g2) g4
      refine am_iload_n 2 dX3_rememberApart_2 rfl ?_
      refine am_iconst 3 (v := 5) dX3_rememberApart_3 (by decide) ?_
      refine am_icmp_ge 4 65 dX3_rememberApart_4 rfl (fun c4 => absurd c4 (nI_ge hk (by decide))) (fun c4 => ?_)
      refine am_aload_n 7 dX3_rememberApart_7 rfl ?_
      refine am_getfield 8 dX3_rememberApart_8 fX3_11 (by repeat (first | assumption | exact am_ue | refine am_un (by first | assumption | decide | omega) ?_)) rfl ?_
      refine am_iload_n 11 dX3_rememberApart_11 rfl ?_
      refine am_aaload 12 dX3_rememberApart_12 rfl (by repeat (first | assumption | exact am_ue | refine am_un (by first | assumption | decide | omega) ?_)) (am_ix hk (by decide)) ?_
      rw [nI_clamp (n := k) (by omega), m_rf_at (by omega), show va_rf (some (h + 2 + 2 * k)) = Value.ref (h + 2 + 2 * k) from rfl]
      refine am_getfield 13 dX3_rememberApart_13 fX3_22 (by repeat (first | assumption | exact am_ue | refine am_un (by first | assumption | decide | omega) ?_)) rfl ?_
      refine am_if_eq 16 59 dX3_rememberApart_16 rfl (fun c16 => ?_) (fun c16 => absurd hth c16)
      refine am_iinc 59 (v := nI (k + 1)) dX3_rememberApart_59 rfl (nI_1 (k)) (by decide) ?_
      refine am_goto 62 (tgt := 2) dX3_rememberApart_62 rfl ?_
      exact ih2 _
    · have er : y_rem m K1 k = _ := if_pos hth
      have A1 := g1.arr (fa := va_up (K1 m).2.2 k (m_dist ((K1 m).2.1 0) ((K1 m).2.1 1) ((K1 k).2.1 0) ((K1 k).2.1 1))) hm
      have P1 := g2.arr (i := k) hm d3
      have A2 := A1.arr (fa := va_up (va_up K1 m (m_fa (K1 m) (va_up (K1 m).2.2 k (m_dist ((K1 m).2.1 0) ((K1 m).2.1 1) ((K1 k).2.1 0) ((K1 k).2.1 1)))) k).2.2 m (m_dist ((K1 m).2.1 0) ((K1 m).2.1 1) ((K1 k).2.1 0) ((K1 k).2.1 1))) hk
      have P2 := P1.arr (i := m) hk d3
      have hca := hmC.2
      have hcb := (A1.2.2 k hk).2
      have hc1 := (A1.2.2 k hk).1
      have h01 := A1.1
      have h11 := A1.2.1
      rw [er] at ih
      generalize hv : m_dist ((K1 m).2.1 0) ((K1 m).2.1 1) ((K1 k).2.1 0) ((K1 k).2.1 1) = v at *
      refine am_iload_n 2 dX3_rememberApart_2 rfl ?_
      refine am_iconst 3 (v := 5) dX3_rememberApart_3 (by decide) ?_
      refine am_icmp_ge 4 65 dX3_rememberApart_4 rfl (fun c4 => absurd c4 (nI_ge hk (by decide))) (fun c4 => ?_)
      refine am_aload_n 7 dX3_rememberApart_7 rfl ?_
      refine am_getfield 8 dX3_rememberApart_8 fX3_11 (by repeat (first | assumption | exact am_ue | refine am_un (by first | assumption | decide | omega) ?_)) rfl ?_
      refine am_iload_n 11 dX3_rememberApart_11 rfl ?_
      refine am_aaload 12 dX3_rememberApart_12 rfl (by repeat (first | assumption | exact am_ue | refine am_un (by first | assumption | decide | omega) ?_)) (am_ix hk (by decide)) ?_
      rw [nI_clamp (n := k) (by omega), m_rf_at (by omega), show va_rf (some (h + 2 + 2 * k)) = Value.ref (h + 2 + 2 * k) from rfl]
      refine am_getfield 13 dX3_rememberApart_13 fX3_22 (by repeat (first | assumption | exact am_ue | refine am_un (by first | assumption | decide | omega) ?_)) rfl ?_
      refine am_if_eq 16 59 dX3_rememberApart_16 rfl (fun c16 => absurd c16 hth) (fun c16 => ?_)
      refine am_aload_n 19 dX3_rememberApart_19 rfl ?_
      refine am_getfield 20 dX3_rememberApart_20 fX3_11 (by repeat (first | assumption | exact am_ue | refine am_un (by first | assumption | decide | omega) ?_)) rfl ?_
      refine am_iload_n 23 dX3_rememberApart_23 rfl ?_
      refine am_aaload 24 dX3_rememberApart_24 rfl (by repeat (first | assumption | exact am_ue | refine am_un (by first | assumption | decide | omega) ?_)) (am_ix hm (by decide)) ?_
      rw [nI_clamp (n := m) (by omega), m_rf_at (by omega), show va_rf (some (h + 2 + 2 * m)) = Value.ref (h + 2 + 2 * m) from rfl]
      refine am_aload_n 25 dX3_rememberApart_25 rfl ?_
      refine am_getfield 26 dX3_rememberApart_26 fX3_11 (by repeat (first | assumption | exact am_ue | refine am_un (by first | assumption | decide | omega) ?_)) rfl ?_
      refine am_iload_n 29 dX3_rememberApart_29 rfl ?_
      refine am_aaload 30 dX3_rememberApart_30 rfl (by repeat (first | assumption | exact am_ue | refine am_un (by first | assumption | decide | omega) ?_)) (am_ix hk (by decide)) ?_
      rw [nI_clamp (n := k) (by omega), m_rf_at (by omega), show va_rf (some (h + 2 + 2 * k)) = Value.ref (h + 2 + 2 * k) from rfl]
      refine am_V1 31 (mc' := 0) (ms' := 0) (rc := 0) (rs := 0) dX3_rememberApart_31 lX3_128 ⟨by decide, by decide⟩ (by repeat (first | assumption | exact am_ue | refine am_un (by first | assumption | decide | omega) ?_)) (Nat.le_of_ble_eq_true rfl) (Nat.le_of_ble_eq_true rfl) (s_distanceTo hmC hkC (g2 m hm).2.2 (g2 k hk).2.2) ?_
      refine am_is_ct ?_
      rw [hv]
      refine am_fstore_n 34 dX3_rememberApart_34 (by decide) ?_
      refine am_aload_n 35 dX3_rememberApart_35 rfl ?_
      refine am_getfield 36 dX3_rememberApart_36 fX3_11 (by repeat (first | assumption | exact am_ue | refine am_un (by first | assumption | decide | omega) ?_)) rfl ?_
      refine am_iload_n 39 dX3_rememberApart_39 rfl ?_
      refine am_aaload 40 dX3_rememberApart_40 rfl (by repeat (first | assumption | exact am_ue | refine am_un (by first | assumption | decide | omega) ?_)) (am_ix hm (by decide)) ?_
      rw [nI_clamp (n := m) (by omega), m_rf_at (by omega), show va_rf (some (h + 2 + 2 * m)) = Value.ref (h + 2 + 2 * m) from rfl]
      refine am_getfield 41 dX3_rememberApart_41 fX3_132 (by repeat (first | assumption | exact am_ue | refine am_un (by first | assumption | decide | omega) ?_)) rfl ?_
      refine am_iload_n 44 dX3_rememberApart_44 rfl ?_
      refine am_fload_n 45 dX3_rememberApart_45 rfl ?_
      refine am_fastore 46 dX3_rememberApart_46 rfl (by repeat (first | assumption | exact am_ue | refine am_un (by first | assumption | decide | omega) ?_)) (am_ix hk (by decide)) ?_
      rw [nI_clamp (n := k) (by omega)]
      refine am_aload_n 47 dX3_rememberApart_47 rfl ?_
      refine am_getfield 48 dX3_rememberApart_48 fX3_11 (by repeat (first | assumption | exact am_ue | refine am_un (by first | assumption | decide | omega) ?_)) rfl ?_
      refine am_iload_n 51 dX3_rememberApart_51 rfl ?_
      refine am_aaload 52 dX3_rememberApart_52 rfl (by repeat (first | assumption | exact am_ue | refine am_un (by first | assumption | decide | omega) ?_)) (am_ix hk (by decide)) ?_
      rw [nI_clamp (n := k) (by omega), m_rf_at (by omega), show va_rf (some (h + 2 + 2 * k)) = Value.ref (h + 2 + 2 * k) from rfl]
      refine am_getfield 53 dX3_rememberApart_53 fX3_132 (by repeat (first | assumption | exact am_ue | refine am_un (by first | assumption | decide | omega) ?_)) rfl ?_
      refine am_iload_n 56 dX3_rememberApart_56 rfl ?_
      refine am_fload_n 57 dX3_rememberApart_57 rfl ?_
      refine am_fastore 58 dX3_rememberApart_58 rfl (by repeat (first | assumption | exact am_ue | refine am_un (by first | assumption | decide | omega) ?_)) (am_ix hm (by decide)) ?_
      rw [nI_clamp (n := m) (by omega)]
      refine am_iinc 59 (v := nI (k + 1)) dX3_rememberApart_59 rfl (nI_1 (k)) (by decide) ?_
      refine am_goto 62 (tgt := 2) dX3_rememberApart_62 rfl ?_
      exact ih _ _ A2 P2 fun x hx => (am_up_ne (by omega)).trans ((am_up_ne (by omega)).trans (g4 x hx))
theorem y_beg_be {k : Nat} : y_be (y_beg sig bst A told S k) ≤ y_be S + 1 := by
  unfold y_beg
  split
  · exact Nat.le_refl _
  · exact Nat.le_succ _
set_option maxHeartbeats 2000000 in
theorem s_beginY (hS : y_St f h s told A T S) (hq : f q = .inr (4, [.ref (q + 1), .ref (q + 2), .long bst])) (hL : m_Look f i sig) (hd : s + 9 < h ∨ h + 11 < s) (hd2 : q < h ∨ h + 11 < q) (hd3 : i + 6 < h ∨ h + 11 < i) : AM mX3_beginUnmatched 0 0 [.ref h, .ref i, .ref q] n f (fun o n' f' => o = .inl none ∧ n' = n ∧ y_St f' h s told A T (y_it (y_beg sig bst A told) S (m_pks sig 48).length) ∧ y_be (y_it (y_beg sig bst A told) S (m_pks sig 48).length) ≤ y_be S + 48 ∧ ∀ x, (x < h ∨ h + 11 < x) → f' x = f x) := by
  show AW mX3_beginUnmatched 0 0 0 [some (.ref h), some (.ref i), some (.ref q), none, none, none] [] n f _
  have hP := m_pks_len (sig := sig) (k := 48)
  have ht := hS.2.1.2.2.1
  generalize hQ : (fun (o : Option Value ⊕ Nat) (n' : Nat) (f' : Nat → am_C) => o = .inl none ∧ n' = n ∧ y_St f' h s told A T (y_it (y_beg sig bst A told) S (m_pks sig 48).length) ∧ y_be (y_it (y_beg sig bst A told) S (m_pks sig 48).length) ≤ y_be S + 48 ∧ ∀ x, (x < h ∨ h + 11 < x) → f' x = f x) = Q
  refine am_iconst 0 (v := 0) dX3_beginUnmatched_0 (by decide) ?_
  refine am_istore_n 1 dX3_beginUnmatched_1 (by decide) ?_
  refine am_for (m_pks sig 48).length (fun k (st : (Nat → am_C) × Option Value × Option Value) => y_St st.1 h s told A T (y_it (y_beg sig bst A told) S k) ∧ y_be (y_it (y_beg sig bst A told) S k) ≤ y_be S + k ∧ ∀ x, (x < h ∨ h + 11 < x) → st.1 x = f x) (fun k st => AW mX3_beginUnmatched 0 0 2 [some (.ref h), some (.ref i), some (.ref q), some (.int (nI k)), st.2.1, st.2.2] [] n st.1 Q) ?_ ?_ 0 (f, none, none) (by omega) ⟨hS, Nat.le_refl _, fun _ _ => rfl⟩
  · rintro ⟨g, z4, z5⟩ ⟨g1, g2, g4⟩
    show AW mX3_beginUnmatched 0 0 2 [some (.ref h), some (.ref i), some (.ref q), some (.int (nI (m_pks sig 48).length)), z4, z5] [] n g Q
    have g1' := g1.1.1
    obtain ⟨pc, px, py, chn, ⟨p0, p1, p2, p3, p4, p5, p6⟩, hok⟩ := hL.on (f' := g) fun x a b => g4 x (by omega)
    refine am_iload_n 2 dX3_beginUnmatched_2 rfl ?_
    refine am_aload_n 3 dX3_beginUnmatched_3 rfl ?_
    refine am_getfield 4 dX3_beginUnmatched_4 fX3_70 (by repeat (first | assumption | exact am_ue | refine am_un (by first | assumption | decide | omega) ?_)) rfl ?_
    refine am_icmp_ge 7 99 dX3_beginUnmatched_7 rfl (fun c7 => ?_) (fun c7 => absurd (Int32.le_refl _) c7)
    refine am_return 99 dX3_beginUnmatched_99 rfl ?_
    subst hQ
    exact ⟨rfl, rfl, g1, by omega, g4⟩
  · rintro k ⟨g, z4, z5⟩ hkP ⟨gS, gb, g4⟩ ih
    show AW mX3_beginUnmatched 0 0 2 [some (.ref h), some (.ref i), some (.ref q), some (.int (nI k)), z4, z5] [] n g Q
    have gS : y_St g h s told A T (y_it (y_beg sig bst A told) S k) := gS
    have gb : y_be (y_it (y_beg sig bst A told) S k) ≤ y_be S + k := gb
    have hLL := hL.on (f' := g) fun x a b => g4 x (by omega)
    have hq1 := (g4 q hd2).trans hq
    obtain ⟨c48, c20⟩ := m_pks48 hkP
    obtain ⟨pc, px, py, chn, ⟨p0, p1, p2, p3, p4, p5, p6⟩, hok⟩ := hLL
    have hLL := hL.on (f' := g) fun x a b => g4 x (by omega)
    obtain ⟨x1, x2, x3⟩ := hok k hkP
    have px56 := (m_place_spec (isY := false) c48 c20).2.2
    have py40 := (m_place_spec (isY := true) c48 c20).2.2
    simp only [if_true, Bool.false_eq_true, if_false] at px56 py40
    have nx : ∀ z z' g', y_St g' h s told A T (y_beg sig bst A told (y_it (y_beg sig bst A told) S k) k) → (∀ x, (x < h ∨ h + 11 < x) → g' x = f x) → AW mX3_beginUnmatched 0 0 2 [some (.ref h), some (.ref i), some (.ref q), some (.int (nI (k + 1))), z, z'] [] n g' Q := fun z z' g' a b => ih (g', z, z') ⟨a, Nat.le_trans y_beg_be (by omega), b⟩
    clear ih
    generalize y_it (y_beg sig bst A told) S k = S1 at *
    obtain ⟨g1, g2, g3⟩ := id gS
    have hs0 := g2.1
    have skip := fun (e : ¬ (x_nb sig bst k ∧ x_ff (y_K S1) < 5)) z z' => nx z z' g (by rw [y_beg_no e]; exact gS) g4
    have h0 := g1.1
    have h1' := g1.2.1
    refine am_iload_n 2 dX3_beginUnmatched_2 rfl ?_
    refine am_aload_n 3 dX3_beginUnmatched_3 rfl ?_
    refine am_getfield 4 dX3_beginUnmatched_4 fX3_70 (by repeat (first | assumption | exact am_ue | refine am_un (by first | assumption | decide | omega) ?_)) rfl ?_
    refine am_icmp_ge 7 99 dX3_beginUnmatched_7 rfl (fun c7 => absurd c7 (nI_ge hkP (by omega))) (fun c7 => ?_)
    refine am_aload_n 10 dX3_beginUnmatched_10 rfl ?_
    refine am_V0 11 (mc' := 0) (ms' := 0) (rc := 0) (rs := 0) dX3_beginUnmatched_11 lX3_104 ⟨by decide, by decide⟩ (by repeat (first | assumption | exact am_ue | refine am_un (by first | assumption | decide | omega) ?_)) (Nat.le_of_ble_eq_true rfl) (Nat.le_of_ble_eq_true rfl) (s_freeNameX g1) ?_
    rintro o n' f1 ⟨rfl, rfl, ⟨rfl, hfull⟩ | ⟨m, hm, hfree, hbef, rfl⟩⟩
    · refine am_ctI ?_
      show AW mX3_beginUnmatched 0 0 14 [some (.ref h), some (.ref i), some (.ref q), some (.int (nI k)), z4, z5] [.int (-1)] _ _ Q
      refine am_istore 14 dX3_beginUnmatched_14 (by decide) ?_
      refine am_iload 16 dX3_beginUnmatched_16 rfl ?_
      refine am_iconst 18 (v := (-1)) dX3_beginUnmatched_18 (by decide) ?_
      refine am_icmp_eq 19 93 dX3_beginUnmatched_19 rfl (fun c19 => ?_) (fun c19 => absurd rfl c19)
      refine am_iinc 93 (v := nI (k + 1)) dX3_beginUnmatched_93 rfl (nI_1 (k)) (by decide) ?_
      refine am_goto 96 (tgt := 2) dX3_beginUnmatched_96 rfl ?_
      exact skip (fun z => by rw [x_ff_5 hfull] at z; omega) _ _
    · refine am_ctI ?_
      show AW mX3_beginUnmatched 0 0 14 [some (.ref h), some (.ref i), some (.ref q), some (.int (nI k)), z4, z5] [.int (nI m)] _ _ Q
      have hmC := g1.2.2 m hm
      have hcM := hmC.1
      have nm : ¬ nI m = -1 := fun z => m_nIm hm z.symm
      have ef := x_ff_at hm hfree hbef
      by_cases hp : 14 < m_reg sig ((m_pks sig 48).getD k 0)
      · refine am_istore 14 dX3_beginUnmatched_14 (by decide) ?_
        refine am_iload 16 dX3_beginUnmatched_16 rfl ?_
        refine am_iconst 18 (v := (-1)) dX3_beginUnmatched_18 (by decide) ?_
        refine am_icmp_eq 19 93 dX3_beginUnmatched_19 rfl (fun c19 => absurd c19 nm) (fun c19 => ?_)
        refine am_aload_n 22 dX3_beginUnmatched_22 rfl ?_
        refine am_iload_n 23 dX3_beginUnmatched_23 rfl ?_
        refine am_V1 24 (mc' := 0) (ms' := 0) (rc := 0) (rs := 0) dX3_beginUnmatched_24 lX3_75 ⟨by decide, by decide⟩ (by repeat (first | assumption | exact am_ue | refine am_un (by first | assumption | decide | omega) ?_)) (Nat.le_of_ble_eq_true rfl) (Nat.le_of_ble_eq_true rfl) (s_isPalm hLL hkP) ?_
        refine am_is_ct ?_
        rw [if_pos hp]
        refine am_if_ne 27 93 dX3_beginUnmatched_27 rfl (fun c27 => ?_) (fun c27 => absurd c27 (by decide))
        refine am_iinc 93 (v := nI (k + 1)) dX3_beginUnmatched_93 rfl (nI_1 (k)) (by decide) ?_
        refine am_goto 96 (tgt := 2) dX3_beginUnmatched_96 rfl ?_
        exact skip (fun z => z.1.2 hp) _ _
      · have har := y_ar_in (A := A) (c := (m_pks sig 48).getD k 0) told
        refine am_istore 14 dX3_beginUnmatched_14 (by decide) ?_
        refine am_iload 16 dX3_beginUnmatched_16 rfl ?_
        refine am_iconst 18 (v := (-1)) dX3_beginUnmatched_18 (by decide) ?_
        refine am_icmp_eq 19 93 dX3_beginUnmatched_19 rfl (fun c19 => absurd c19 nm) (fun c19 => ?_)
        refine am_aload_n 22 dX3_beginUnmatched_22 rfl ?_
        refine am_iload_n 23 dX3_beginUnmatched_23 rfl ?_
        refine am_V1 24 (mc' := 0) (ms' := 0) (rc := 0) (rs := 0) dX3_beginUnmatched_24 lX3_75 ⟨by decide, by decide⟩ (by repeat (first | assumption | exact am_ue | refine am_un (by first | assumption | decide | omega) ?_)) (Nat.le_of_ble_eq_true rfl) (Nat.le_of_ble_eq_true rfl) (s_isPalm hLL hkP) ?_
        refine am_is_ct ?_
        rw [if_neg hp]
        refine am_if_ne 27 93 dX3_beginUnmatched_27 rfl (fun c27 => absurd c27 (fun z => z rfl)) (fun c27 => ?_)
        refine am_aload_n 30 dX3_beginUnmatched_30 rfl ?_
        refine am_iload_n 31 dX3_beginUnmatched_31 rfl ?_
        refine am_S2 32 (mc' := 0) (ms' := 0) (rc := 0) (rs := 0) dX3_beginUnmatched_32 lX3_108 ⟨by decide, by decide⟩ (Nat.le_of_ble_eq_true rfl) (Nat.le_of_ble_eq_true rfl) (s_isMatchedByX (k := k) hq1) ?_
        rintro o n' f1 ⟨rfl, rfl, v, rfl, hv⟩
        refine am_ctI ?_
        refine am_if_ne 35 93 dX3_beginUnmatched_35 rfl (fun c35 => ?_) (fun c35 => ?_)
        · refine am_iinc 93 (v := nI (k + 1)) dX3_beginUnmatched_93 rfl (nI_1 (k)) (by decide) ?_
          refine am_goto 96 (tgt := 2) dX3_beginUnmatched_96 rfl ?_
          first | exact fin2 _ _ | exact skip (fun z => c35 (hv.mpr z.1.1)) _ _
        · refine am_aload_n 38 dX3_beginUnmatched_38 rfl ?_
          refine am_getfield 39 dX3_beginUnmatched_39 fX3_17 (by repeat (first | assumption | exact am_ue | refine am_un (by first | assumption | decide | omega) ?_)) rfl ?_
          refine am_aload_n 42 dX3_beginUnmatched_42 rfl ?_
          refine am_getfield 43 dX3_beginUnmatched_43 fX3_112 (by repeat (first | assumption | exact am_ue | refine am_un (by first | assumption | decide | omega) ?_)) rfl ?_
          refine am_iload_n 46 dX3_beginUnmatched_46 rfl ?_
          refine am_iaload 47 dX3_beginUnmatched_47 rfl (by repeat (first | assumption | exact am_ue | refine am_un (by first | assumption | decide | omega) ?_)) (am_ix (c := k) (by omega) (by decide)) ?_
          rw [nI_clamp (n := k) (by omega), x1]
          refine am_V1 48 (mc' := 0) (ms' := 0) (rc := 0) (rs := 0) dX3_beginUnmatched_48 lX3_115 ⟨by decide, by decide⟩ (by repeat (first | assumption | exact am_ue | refine am_un (by first | assumption | decide | omega) ?_)) (Nat.le_of_ble_eq_true rfl) (Nat.le_of_ble_eq_true rfl) (s_latestAtY c48 g2) ?_
          refine am_is_ct ?_
          generalize hgar : y_ar A ((m_pks sig 48).getD k 0) told = ar at har
          refine am_istore 51 dX3_beginUnmatched_51 (by decide) ?_
          refine am_aload_n 53 dX3_beginUnmatched_53 rfl ?_
          refine am_getfield 54 dX3_beginUnmatched_54 fX3_11 (by repeat (first | assumption | exact am_ue | refine am_un (by first | assumption | decide | omega) ?_)) rfl ?_
          refine am_iload 57 dX3_beginUnmatched_57 rfl ?_
          refine am_aaload 59 dX3_beginUnmatched_59 rfl (by repeat (first | assumption | exact am_ue | refine am_un (by first | assumption | decide | omega) ?_)) (am_ix hm (by decide)) ?_
          rw [nI_clamp (n := m) (by omega), m_rf_at (by omega), show va_rf (some (h + 2 + 2 * m)) = Value.ref (h + 2 + 2 * m) from rfl]
          refine am_aload_n 60 dX3_beginUnmatched_60 rfl ?_
          refine am_getfield 61 dX3_beginUnmatched_61 fX3_79 (by repeat (first | assumption | exact am_ue | refine am_un (by first | assumption | decide | omega) ?_)) rfl ?_
          refine am_iload_n 64 dX3_beginUnmatched_64 rfl ?_
          refine am_iaload 65 dX3_beginUnmatched_65 rfl (by repeat (first | assumption | exact am_ue | refine am_un (by first | assumption | decide | omega) ?_)) (am_ix (c := k) (by omega) (by decide)) ?_
          rw [nI_clamp (n := k) (by omega), x2]
          refine am_aload_n 66 dX3_beginUnmatched_66 rfl ?_
          refine am_getfield 67 dX3_beginUnmatched_67 fX3_83 (by repeat (first | assumption | exact am_ue | refine am_un (by first | assumption | decide | omega) ?_)) rfl ?_
          refine am_iload_n 70 dX3_beginUnmatched_70 rfl ?_
          refine am_iaload 71 dX3_beginUnmatched_71 rfl (by repeat (first | assumption | exact am_ue | refine am_un (by first | assumption | decide | omega) ?_)) (am_ix (c := k) (by omega) (by decide)) ?_
          rw [nI_clamp (n := k) (by omega), x3]
          refine am_iload 72 dX3_beginUnmatched_72 rfl ?_
          refine am_V3 74 (mc' := 0) (ms' := 0) (rc := 0) (rs := 0) dX3_beginUnmatched_74 lX3_118 ⟨by decide, by decide⟩ (by repeat (first | assumption | exact am_ue | refine am_un (by first | assumption | decide | omega) ?_)) (Nat.le_of_ble_eq_true rfl) (Nat.le_of_ble_eq_true rfl) (s_beginAt hmC) ?_
          refine am_is_ct ?_
          have gH := g1.con hm (κ := m_begin (y_K S1 m) (nI (m_placeN sig ((m_pks sig 48).getD k 0) false)) (nI (m_placeN sig ((m_pks sig 48).getD k 0) true)) ar) rfl
          have gO := gH.own (be' := y_be S1 + 1) (li' := y_li S1) (ca' := y_ca S1)
          have h0b := gH.1
          have iB := m_Inv.begin (px := m_placeN sig ((m_pks sig 48).getD k 0) false) (py := m_placeN sig ((m_pks sig 48).getD k 0) true) g3 ht hm hfree (by omega) (by omega) har
          refine am_aload_n 77 dX3_beginUnmatched_77 rfl ?_
          refine am_dup 78 dX3_beginUnmatched_78 rfl ?_
          refine am_getfield 79 dX3_beginUnmatched_79 fX3_121 (by repeat (first | assumption | exact am_ue | refine am_un (by first | assumption | decide | omega) ?_)) rfl ?_
          refine am_iconst 82 (v := 1) dX3_beginUnmatched_82 (by decide) ?_
          refine am_iadd 83 dX3_beginUnmatched_83 ?_
          rw [nI_1]
          refine am_putfield 84 dX3_beginUnmatched_84 pX3_121 (by repeat (first | assumption | exact am_ue | refine am_un (by first | assumption | decide | omega) ?_)) rfl rfl (Nat.le_of_ble_eq_true rfl) ?_
          rw [show List.set [Value.ref (h + 1), .ref s, .int (nI (y_be S1)), .int (nI (y_li S1)), .int (nI (y_ca S1))] 2 (.int (nI (y_be S1 + 1))) = [.ref (h + 1), .ref s, .int (nI (y_be S1 + 1)), .int (nI (y_li S1)), .int (nI (y_ca S1))] from rfl]
          refine am_aload_n 87 dX3_beginUnmatched_87 rfl ?_
          refine am_iload 88 dX3_beginUnmatched_88 rfl ?_
          refine am_V1 90 (mc' := 0) (ms' := 0) (rc := 0) (rs := 0) dX3_beginUnmatched_90 lX3_124 ⟨by decide, by decide⟩ (by repeat (first | assumption | exact am_ue | refine am_un (by first | assumption | decide | omega) ?_)) (Nat.le_of_ble_eq_true rfl) (Nat.le_of_ble_eq_true rfl) (s_rememberY hm gO (fun j hj => (iB.1 j hj).1)) ?_
          rintro o n' f2 ⟨rfl, rfl, r1, r2, r3⟩
          refine am_ctI ?_
          have eB := y_beg_yes (A := A) (told := told) ⟨hv.mp c35, hp⟩ ef hm
          rw [hgar] at eB
          generalize va_up (y_K S1) m _ = K0 at r1 r2 iB eB
          generalize y_it (y_rem m) K0 5 = K2 at r1 r2 eB
          have fin2 := fun z z' => nx z z' f2 (by rw [eB]; exact ⟨r1, g2.on fun x a b => (r3 x (by omega)).trans ((am_up_ne (by omega)).trans (am_up_ne (by omega))), iB.ap r2⟩) fun x hx => (r3 x hx).trans ((am_up_ne (by omega)).trans ((am_up_ne (by omega)).trans (g4 x hx)))
          refine am_iinc 93 (v := nI (k + 1)) dX3_beginUnmatched_93 rfl (nI_1 (k)) (by decide) ?_
          refine am_goto 96 (tgt := 2) dX3_beginUnmatched_96 rfl ?_
          first | exact fin2 _ _ | exact skip (fun z => c35 (hv.mpr z.1.1)) _ _
theorem s_isPinchY {m k : Nat} (hm : m < 5) (hk : k < 5) (hh : m_Ha f h s K be li ca) (hok : ∀ j, j < 5 → m_kOk (K j)) : AM mX3_isPinch 0 0 [.ref h, .int (nI m), .int (nI k)] n f (fun o n' f' => n = n' ∧ f = f' ∧ ∃ v, o = .inl (some (.int v)) ∧ (v ≠ 0 ↔ y_pc K m k)) := by
  show AW mX3_isPinch 0 0 0 [some (.ref h), some (.int (nI m)), some (.int (nI k)), none] [] n f _
  have hkC := hh.2.2 k hk
  have hmC := hh.2.2 m hm
  have hcm := hmC.1
  have hca := hmC.2
  have h0 := hh.1
  have h1' := hh.2.1
  obtain ⟨d1, d2, d3⟩ := f_dist (hok m hm).1 (hok m hm).2.1 (hok k hk).1 (hok k hk).2.1
  have d4 := (hok m hm).2.2.2.2.2.2.2.1 k hk
  have d5 := fB_sub d3 d4 (by decide) (by decide) (by decide)
  refine am_aload_n 0 dX3_isPinch_0 rfl ?_
  refine am_getfield 1 dX3_isPinch_1 fX3_11 (by repeat (first | assumption | exact am_ue | refine am_un (by first | assumption | decide | omega) ?_)) rfl ?_
  refine am_iload_n 4 dX3_isPinch_4 rfl ?_
  refine am_aaload 5 dX3_isPinch_5 rfl (by repeat (first | assumption | exact am_ue | refine am_un (by first | assumption | decide | omega) ?_)) (am_ix hm (by decide)) ?_
  rw [nI_clamp (n := m) (by omega), m_rf_at (by omega), show va_rf (some (h + 2 + 2 * m)) = Value.ref (h + 2 + 2 * m) from rfl]
  refine am_aload_n 6 dX3_isPinch_6 rfl ?_
  refine am_getfield 7 dX3_isPinch_7 fX3_11 (by repeat (first | assumption | exact am_ue | refine am_un (by first | assumption | decide | omega) ?_)) rfl ?_
  refine am_iload_n 10 dX3_isPinch_10 rfl ?_
  refine am_aaload 11 dX3_isPinch_11 rfl (by repeat (first | assumption | exact am_ue | refine am_un (by first | assumption | decide | omega) ?_)) (am_ix hk (by decide)) ?_
  rw [nI_clamp (n := k) (by omega), m_rf_at (by omega), show va_rf (some (h + 2 + 2 * k)) = Value.ref (h + 2 + 2 * k) from rfl]
  refine am_V1 12 (mc' := 0) (ms' := 0) (rc := 0) (rs := 0) dX3_isPinch_12 lX3_128 ⟨by decide, by decide⟩ (by repeat (first | assumption | exact am_ue | refine am_un (by first | assumption | decide | omega) ?_)) (Nat.le_of_ble_eq_true rfl) (Nat.le_of_ble_eq_true rfl) (s_distanceTo hmC hkC (hok m hm) (hok k hk)) ?_
  refine am_is_ct ?_
  refine am_fstore_n 15 dX3_isPinch_15 (by decide) ?_
  refine am_fload_n 16 dX3_isPinch_16 rfl ?_
  refine am_aload_n 17 dX3_isPinch_17 rfl ?_
  refine am_getfield 18 dX3_isPinch_18 fX3_11 (by repeat (first | assumption | exact am_ue | refine am_un (by first | assumption | decide | omega) ?_)) rfl ?_
  refine am_iload_n 21 dX3_isPinch_21 rfl ?_
  refine am_aaload 22 dX3_isPinch_22 rfl (by repeat (first | assumption | exact am_ue | refine am_un (by first | assumption | decide | omega) ?_)) (am_ix hm (by decide)) ?_
  rw [nI_clamp (n := m) (by omega), m_rf_at (by omega), show va_rf (some (h + 2 + 2 * m)) = Value.ref (h + 2 + 2 * m) from rfl]
  refine am_getfield 23 dX3_isPinch_23 fX3_132 (by repeat (first | assumption | exact am_ue | refine am_un (by first | assumption | decide | omega) ?_)) rfl ?_
  refine am_iload_n 26 dX3_isPinch_26 rfl ?_
  refine am_faload 27 dX3_isPinch_27 rfl (by repeat (first | assumption | exact am_ue | refine am_un (by first | assumption | decide | omega) ?_)) (am_ix hk (by decide)) ?_
  rw [nI_clamp (n := k) (by omega)]
  refine am_fsub 28 dX3_isPinch_28 (f_n32 d5.1) ?_
  refine am_SN1 29 (mc' := 0) (ms' := 0) (rc := 0) (rs := 0) dX3_isPinch_29 lX3_147 ⟨by decide, by decide⟩ (Nat.le_of_ble_eq_true rfl) (Nat.le_of_ble_eq_true rfl) (s_withoutSign) ?_
  rintro o n' f' ⟨rfl, rfl, rfl⟩
  refine ⟨_, rfl, ?_⟩
  refine am_ldcf 32 dX3_isPinch_32 kX3_151 ?_
  refine am_fcmp 34 dX3_isPinch_34 ?_
  refine am_if_le 35 42 dX3_isPinch_35 rfl (fun c35 => ?_) (fun c35 => ?_)
  · refine am_iconst 42 (v := 0) dX3_isPinch_42 (by decide) ?_
    refine am_ireturn 43 dX3_isPinch_43 rfl rfl ?_
    first | exact ⟨rfl, rfl, _, rfl, fun z => absurd rfl z, fun z => absurd c35 z⟩ | exact ⟨rfl, rfl, _, rfl, fun _ => c35, fun _ => by decide⟩
  · refine am_iconst 38 (v := 1) dX3_isPinch_38 (by decide) ?_
    refine am_goto 39 (tgt := 43) dX3_isPinch_39 rfl ?_
    refine am_ireturn 43 dX3_isPinch_43 rfl rfl ?_
    first | exact ⟨rfl, rfl, _, rfl, fun z => absurd rfl z, fun z => absurd c35 z⟩ | exact ⟨rfl, rfl, _, rfl, fun _ => c35, fun _ => by decide⟩
/-- a claim, to the letter -/
theorem y_St.one {k kd : Nat} {f' : Nat → am_C} {C' : Nat → Nat → Nat} (a : y_St f h s told A T S) (hk : k < 5) (hcl : y_cl (y_K S k)) (h1 : 1 ≤ kd) (h4 : kd < 4) (r1 : m_Ha f' h s (va_up (y_K S) k (m_claim (y_K S k) kd)) (y_be S) (y_li S) (y_ca S)) (r2 : m_As f' s told A C') (r3 : m_Ct (y_C S) C' ((y_K S k).1 7) kd true) : y_St f' h s told A T (y_one S k kd) := by
  have har := ((a.2.2.1 k hk).2.2 hcl.1).2.2.1
  have iv := m_Inv.claim a.2.2 a.2.1.2.2.1 hk hcl.1 hcl.2.2 h1 h4 r3 har
  obtain rfl := y_ct_of r3
  exact ⟨r1, r2, iv⟩
set_option maxHeartbeats 2000000 in
theorem s_pinchY (hS : y_St f h s told A T S) (hd : s + 9 < h ∨ h + 11 < s) : AM mX3_claimPinches 0 0 [.ref h] n f (fun o n' f' => o = .inl none ∧ n' = n ∧ y_St f' h s told A T (y_it y_pin S 5) ∧ ∀ x, (x < s ∨ s + 9 < x) → (x < h ∨ h + 11 < x) → f' x = f x) := by
  show AW mX3_claimPinches 0 0 0 [some (.ref h), none, none] [] n f _
  generalize hQ : (fun (o : Option Value ⊕ Nat) (n' : Nat) (f' : Nat → am_C) => o = .inl none ∧ n' = n ∧ y_St f' h s told A T (y_it y_pin S 5) ∧ ∀ x, (x < s ∨ s + 9 < x) → (x < h ∨ h + 11 < x) → f' x = f x) = Q
  refine am_iconst 0 (v := 0) dX3_claimPinches_0 (by decide) ?_
  refine am_istore_n 1 dX3_claimPinches_1 (by decide) ?_
  refine am_for 5 (fun k (st : (Nat → am_C) × Option Value) => y_St st.1 h s told A T (y_it y_pin S k) ∧ ∀ x, (x < s ∨ s + 9 < x) → (x < h ∨ h + 11 < x) → st.1 x = f x) (fun k st => AW mX3_claimPinches 0 0 2 [some (.ref h), some (.int (nI k)), st.2] [] n st.1 Q) ?_ ?_ 0 (f, none) (by omega) ⟨hS, fun _ _ _ => rfl⟩
  · rintro ⟨g, z5⟩ ⟨g1, g3⟩
    show AW mX3_claimPinches 0 0 2 [some (.ref h), some (.int (nI 5)), z5] [] n g Q
    refine am_iload_n 2 dX3_claimPinches_2 rfl ?_
    refine am_iconst 3 (v := 5) dX3_claimPinches_3 (by decide) ?_
    refine am_icmp_ge 4 83 dX3_claimPinches_4 rfl (fun c4 => ?_) (fun c4 => absurd (by decide) c4)
    refine am_return 83 dX3_claimPinches_83 rfl ?_
    subst hQ
    exact ⟨rfl, rfl, g1, g3⟩
  · rintro m ⟨g, z5⟩ hm ⟨g1, g4⟩ ih
    show AW mX3_claimPinches 0 0 2 [some (.ref h), some (.int (nI m)), z5] [] n g Q
    have g1 : y_St g h s told A T (y_it y_pin S m) := g1
    have ih : ∀ g' z, y_St g' h s told A T (y_it (y_pin2 m) (y_it y_pin S m) 5) → (∀ x, (x < s ∨ s + 9 < x) → (x < h ∨ h + 11 < x) → g' x = f x) → AW mX3_claimPinches 0 0 2 [some (.ref h), some (.int (nI (m + 1))), z] [] n g' Q := fun g' z a b => ih (g', z) ⟨a, b⟩
    generalize y_it y_pin S m = S0 at *
    have hk := hm
    refine am_iload_n 2 dX3_claimPinches_2 rfl ?_
    refine am_iconst 3 (v := 5) dX3_claimPinches_3 (by decide) ?_
    refine am_icmp_ge 4 83 dX3_claimPinches_4 rfl (fun c4 => absurd c4 (nI_ge hk (by decide))) (fun c4 => ?_)
    refine am_iload_n 7 dX3_claimPinches_7 rfl ?_
    refine am_iconst 8 (v := 1) dX3_claimPinches_8 (by decide) ?_
    refine am_iadd 9 dX3_claimPinches_9 ?_
    rw [nI_1]
    refine am_istore_n 10 dX3_claimPinches_10 (by decide) ?_
    refine am_for 5 (fun k (st : Nat → am_C) => m < k ∧ y_St st h s told A T (y_it (y_pin2 m) S0 k) ∧ ∀ x, (x < s ∨ s + 9 < x) → (x < h ∨ h + 11 < x) → st x = f x) (fun k st => AW mX3_claimPinches 0 0 11 [some (.ref h), some (.int (nI m)), some (.int (nI k))] [] n st Q) ?_ ?_ (m + 1) g (by omega) ⟨by omega, by rw [y_pin2_low _ (Nat.le_refl _)]; exact g1, g4⟩
    · rintro g2 ⟨-, q1, q2⟩
      refine am_iload_n 11 dX3_claimPinches_11 rfl ?_
      refine am_iconst 12 (v := 5) dX3_claimPinches_12 (by decide) ?_
      refine am_icmp_ge 13 77 dX3_claimPinches_13 rfl (fun c13 => ?_) (fun c13 => absurd (by decide) c13)
      refine am_iinc 77 (v := nI (m + 1)) dX3_claimPinches_77 rfl (nI_1 (m)) (by decide) ?_
      refine am_goto 80 (tgt := 2) dX3_claimPinches_80 rfl ?_
      exact ih g2 _ q1 q2
    · rintro k g2 hk ⟨hmk, qS, q5⟩ ih2
      have nx : ∀ g3, y_St g3 h s told A T (y_pin2 m (y_it (y_pin2 m) S0 k) k) → (∀ x, (x < s ∨ s + 9 < x) → (x < h ∨ h + 11 < x) → g3 x = f x) → AW mX3_claimPinches 0 0 11 [some (.ref h), some (.int (nI m)), some (.int (nI (k + 1)))] [] n g3 Q := fun g3 a b => ih2 g3 ⟨by omega, a, b⟩
      clear ih ih2
      generalize y_it (y_pin2 m) S0 k = S1 at *
      obtain ⟨q1, q2, q3⟩ := id qS
      have skip := fun (e : ¬ (m < k ∧ y_cl (y_K S1 m) ∧ y_cl (y_K S1 k) ∧ y_pc (y_K S1) m k)) => nx g2 (by rw [y_pin2_no e]; exact qS) q5
      have hkC := q1.2.2 k hk
      have hmC := q1.2.2 m hm
      have hcK := hkC.1
      have hcM := hmC.1
      have h0 := q1.1
      have h1' := q1.2.1
      have hok : ∀ j, j < 5 → m_kOk (y_K S1 j) := fun j hj => (q3.1 j hj).1
      by_cases b1 : (y_K S1 m).1 0 ≠ 0 ∧ (y_K S1 m).1 1 ≠ 0 ∧ (y_K S1 m).1 6 = 0
      · by_cases b2 : (y_K S1 k).1 0 ≠ 0 ∧ (y_K S1 k).1 1 ≠ 0 ∧ (y_K S1 k).1 6 = 0
        · have har := ((q3.1 m hm).2.2 b1.1).2.2.1
          have har2 := ((q3.1 k hk).2.2 b2.1).2.2.1
          refine am_iload_n 11 dX3_claimPinches_11 rfl ?_
          refine am_iconst 12 (v := 5) dX3_claimPinches_12 (by decide) ?_
          refine am_icmp_ge 13 77 dX3_claimPinches_13 rfl (fun c13 => absurd c13 (nI_ge hk (by decide))) (fun c13 => ?_)
          refine am_aload_n 16 dX3_claimPinches_16 rfl ?_
          refine am_getfield 17 dX3_claimPinches_17 fX3_11 (by repeat (first | assumption | exact am_ue | refine am_un (by first | assumption | decide | omega) ?_)) rfl ?_
          refine am_iload_n 20 dX3_claimPinches_20 rfl ?_
          refine am_aaload 21 dX3_claimPinches_21 rfl (by repeat (first | assumption | exact am_ue | refine am_un (by first | assumption | decide | omega) ?_)) (am_ix hm (by decide)) ?_
          rw [nI_clamp (n := m) (by omega), m_rf_at (by omega), show va_rf (some (h + 2 + 2 * m)) = Value.ref (h + 2 + 2 * m) from rfl]
          refine am_V0 22 (mc' := 0) (ms' := 0) (rc := 0) (rs := 0) dX3_claimPinches_22 lX3_136 ⟨by decide, by decide⟩ (by repeat (first | assumption | exact am_ue | refine am_un (by first | assumption | decide | omega) ?_)) (Nat.le_of_ble_eq_true rfl) (Nat.le_of_ble_eq_true rfl) (s_canClaim hmC) ?_
          refine am_is_ct ?_
          rw [if_pos b1]
          refine am_if_eq 25 71 dX3_claimPinches_25 rfl (fun c25 => absurd c25 (by decide)) (fun c25 => ?_)
          refine am_aload_n 28 dX3_claimPinches_28 rfl ?_
          refine am_getfield 29 dX3_claimPinches_29 fX3_11 (by repeat (first | assumption | exact am_ue | refine am_un (by first | assumption | decide | omega) ?_)) rfl ?_
          refine am_iload_n 32 dX3_claimPinches_32 rfl ?_
          refine am_aaload 33 dX3_claimPinches_33 rfl (by repeat (first | assumption | exact am_ue | refine am_un (by first | assumption | decide | omega) ?_)) (am_ix hk (by decide)) ?_
          rw [nI_clamp (n := k) (by omega), m_rf_at (by omega), show va_rf (some (h + 2 + 2 * k)) = Value.ref (h + 2 + 2 * k) from rfl]
          refine am_V0 34 (mc' := 0) (ms' := 0) (rc := 0) (rs := 0) dX3_claimPinches_34 lX3_136 ⟨by decide, by decide⟩ (by repeat (first | assumption | exact am_ue | refine am_un (by first | assumption | decide | omega) ?_)) (Nat.le_of_ble_eq_true rfl) (Nat.le_of_ble_eq_true rfl) (s_canClaim hkC) ?_
          refine am_is_ct ?_
          rw [if_pos b2]
          refine am_if_eq 37 71 dX3_claimPinches_37 rfl (fun c37 => absurd c37 (by decide)) (fun c37 => ?_)
          refine am_aload_n 40 dX3_claimPinches_40 rfl ?_
          refine am_iload_n 41 dX3_claimPinches_41 rfl ?_
          refine am_iload_n 42 dX3_claimPinches_42 rfl ?_
          refine am_V2 43 (mc' := 0) (ms' := 0) (rc := 0) (rs := 0) dX3_claimPinches_43 lX3_140 ⟨by decide, by decide⟩ (by repeat (first | assumption | exact am_ue | refine am_un (by first | assumption | decide | omega) ?_)) (Nat.le_of_ble_eq_true rfl) (Nat.le_of_ble_eq_true rfl) (s_isPinchY hm hk q1 hok) ?_
          rintro o n' f1 ⟨rfl, rfl, v, rfl, hv⟩
          refine am_ctI ?_
          refine am_if_eq 46 71 dX3_claimPinches_46 rfl (fun c46 => ?_) (fun c46 => ?_)
          · refine am_iinc 71 (v := nI (k + 1)) dX3_claimPinches_71 rfl (nI_1 (k)) (by decide) ?_
            refine am_goto 74 (tgt := 11) dX3_claimPinches_74 rfl ?_
            first | exact nx2 | exact skip (fun z => (hv.mpr z.2.2.2) c46)
          · refine am_aload_n 49 dX3_claimPinches_49 rfl ?_
            refine am_aload_n 50 dX3_claimPinches_50 rfl ?_
            refine am_getfield 51 dX3_claimPinches_51 fX3_11 (by repeat (first | assumption | exact am_ue | refine am_un (by first | assumption | decide | omega) ?_)) rfl ?_
            refine am_iload_n 54 dX3_claimPinches_54 rfl ?_
            refine am_aaload 55 dX3_claimPinches_55 rfl (by repeat (first | assumption | exact am_ue | refine am_un (by first | assumption | decide | omega) ?_)) (am_ix hm (by decide)) ?_
            rw [nI_clamp (n := m) (by omega), m_rf_at (by omega), show va_rf (some (h + 2 + 2 * m)) = Value.ref (h + 2 + 2 * m) from rfl]
            refine am_iconst 56 (v := 1) dX3_claimPinches_56 (by decide) ?_
            refine am_V2 57 (mc' := 0) (ms' := 0) (rc := 0) (rs := 0) dX3_claimPinches_57 lX3_144 ⟨by decide, by decide⟩ (by repeat (first | assumption | exact am_ue | refine am_un (by first | assumption | decide | omega) ?_)) (Nat.le_of_ble_eq_true rfl) (Nat.le_of_ble_eq_true rfl) (s_claim hm (by decide) q1 q2 hd har) ?_
            rintro o n' f1 ⟨rfl, rfl, r1, ⟨C2, r2, r3⟩, r4⟩
            refine am_ctI ?_
            have S2 := qS.one hm b1 (by decide) (by decide) r1 r2 r3
            have e2 : y_K (y_one S1 m 1) k = y_K S1 k := am_up_ne (by omega)
            have h0b := S2.1.1
            have h1b := S2.1.2.1
            have s21 := S2.1
            have s22 := S2.2.1
            refine am_aload_n 60 dX3_claimPinches_60 rfl ?_
            refine am_aload_n 61 dX3_claimPinches_61 rfl ?_
            refine am_getfield 62 dX3_claimPinches_62 fX3_11 (by repeat (first | assumption | exact am_ue | refine am_un (by first | assumption | decide | omega) ?_)) rfl ?_
            refine am_iload_n 65 dX3_claimPinches_65 rfl ?_
            refine am_aaload 66 dX3_claimPinches_66 rfl (by repeat (first | assumption | exact am_ue | refine am_un (by first | assumption | decide | omega) ?_)) (am_ix hk (by decide)) ?_
            rw [nI_clamp (n := k) (by omega), m_rf_at (by omega), show va_rf (some (h + 2 + 2 * k)) = Value.ref (h + 2 + 2 * k) from rfl]
            refine am_iconst 67 (v := 1) dX3_claimPinches_67 (by decide) ?_
            refine am_V2 68 (mc' := 0) (ms' := 0) (rc := 0) (rs := 0) dX3_claimPinches_68 lX3_144 ⟨by decide, by decide⟩ (by repeat (first | assumption | exact am_ue | refine am_un (by first | assumption | decide | omega) ?_)) (Nat.le_of_ble_eq_true rfl) (Nat.le_of_ble_eq_true rfl) (s_claim hk (by decide) s21 s22 hd (by rw [e2]; exact har2)) ?_
            rintro o n' f2 ⟨rfl, rfl, t1, ⟨C3, t2, t3⟩, t4⟩
            refine am_ctI ?_
            have S3 := S2.one hk (by rw [e2]; exact b2) (by decide) (by decide) t1 t2 t3
            have nx2 := nx f2 (by rw [y_pin2_yes ⟨hmk, b1, b2, hv.mp c46⟩]; exact S3) fun x a b => (t4 x a b).trans ((r4 x a b).trans (q5 x a b))
            refine am_iinc 71 (v := nI (k + 1)) dX3_claimPinches_71 rfl (nI_1 (k)) (by decide) ?_
            refine am_goto 74 (tgt := 11) dX3_claimPinches_74 rfl ?_
            first | exact nx2 | exact skip (fun z => (hv.mpr z.2.2.2) c46)
        · refine am_iload_n 11 dX3_claimPinches_11 rfl ?_
          refine am_iconst 12 (v := 5) dX3_claimPinches_12 (by decide) ?_
          refine am_icmp_ge 13 77 dX3_claimPinches_13 rfl (fun c13 => absurd c13 (nI_ge hk (by decide))) (fun c13 => ?_)
          refine am_aload_n 16 dX3_claimPinches_16 rfl ?_
          refine am_getfield 17 dX3_claimPinches_17 fX3_11 (by repeat (first | assumption | exact am_ue | refine am_un (by first | assumption | decide | omega) ?_)) rfl ?_
          refine am_iload_n 20 dX3_claimPinches_20 rfl ?_
          refine am_aaload 21 dX3_claimPinches_21 rfl (by repeat (first | assumption | exact am_ue | refine am_un (by first | assumption | decide | omega) ?_)) (am_ix hm (by decide)) ?_
          rw [nI_clamp (n := m) (by omega), m_rf_at (by omega), show va_rf (some (h + 2 + 2 * m)) = Value.ref (h + 2 + 2 * m) from rfl]
          refine am_V0 22 (mc' := 0) (ms' := 0) (rc := 0) (rs := 0) dX3_claimPinches_22 lX3_136 ⟨by decide, by decide⟩ (by repeat (first | assumption | exact am_ue | refine am_un (by first | assumption | decide | omega) ?_)) (Nat.le_of_ble_eq_true rfl) (Nat.le_of_ble_eq_true rfl) (s_canClaim hmC) ?_
          refine am_is_ct ?_
          rw [if_pos b1]
          refine am_if_eq 25 71 dX3_claimPinches_25 rfl (fun c25 => absurd c25 (by decide)) (fun c25 => ?_)
          refine am_aload_n 28 dX3_claimPinches_28 rfl ?_
          refine am_getfield 29 dX3_claimPinches_29 fX3_11 (by repeat (first | assumption | exact am_ue | refine am_un (by first | assumption | decide | omega) ?_)) rfl ?_
          refine am_iload_n 32 dX3_claimPinches_32 rfl ?_
          refine am_aaload 33 dX3_claimPinches_33 rfl (by repeat (first | assumption | exact am_ue | refine am_un (by first | assumption | decide | omega) ?_)) (am_ix hk (by decide)) ?_
          rw [nI_clamp (n := k) (by omega), m_rf_at (by omega), show va_rf (some (h + 2 + 2 * k)) = Value.ref (h + 2 + 2 * k) from rfl]
          refine am_V0 34 (mc' := 0) (ms' := 0) (rc := 0) (rs := 0) dX3_claimPinches_34 lX3_136 ⟨by decide, by decide⟩ (by repeat (first | assumption | exact am_ue | refine am_un (by first | assumption | decide | omega) ?_)) (Nat.le_of_ble_eq_true rfl) (Nat.le_of_ble_eq_true rfl) (s_canClaim hkC) ?_
          refine am_is_ct ?_
          rw [if_neg b2]
          refine am_if_eq 37 71 dX3_claimPinches_37 rfl (fun c37 => ?_) (fun c37 => absurd rfl c37)
          refine am_iinc 71 (v := nI (k + 1)) dX3_claimPinches_71 rfl (nI_1 (k)) (by decide) ?_
          refine am_goto 74 (tgt := 11) dX3_claimPinches_74 rfl ?_
          exact skip (fun z => b2 z.2.2.1)
      · refine am_iload_n 11 dX3_claimPinches_11 rfl ?_
        refine am_iconst 12 (v := 5) dX3_claimPinches_12 (by decide) ?_
        refine am_icmp_ge 13 77 dX3_claimPinches_13 rfl (fun c13 => absurd c13 (nI_ge hk (by decide))) (fun c13 => ?_)
        refine am_aload_n 16 dX3_claimPinches_16 rfl ?_
        refine am_getfield 17 dX3_claimPinches_17 fX3_11 (by repeat (first | assumption | exact am_ue | refine am_un (by first | assumption | decide | omega) ?_)) rfl ?_
        refine am_iload_n 20 dX3_claimPinches_20 rfl ?_
        refine am_aaload 21 dX3_claimPinches_21 rfl (by repeat (first | assumption | exact am_ue | refine am_un (by first | assumption | decide | omega) ?_)) (am_ix hm (by decide)) ?_
        rw [nI_clamp (n := m) (by omega), m_rf_at (by omega), show va_rf (some (h + 2 + 2 * m)) = Value.ref (h + 2 + 2 * m) from rfl]
        refine am_V0 22 (mc' := 0) (ms' := 0) (rc := 0) (rs := 0) dX3_claimPinches_22 lX3_136 ⟨by decide, by decide⟩ (by repeat (first | assumption | exact am_ue | refine am_un (by first | assumption | decide | omega) ?_)) (Nat.le_of_ble_eq_true rfl) (Nat.le_of_ble_eq_true rfl) (s_canClaim hmC) ?_
        refine am_is_ct ?_
        rw [if_neg b1]
        refine am_if_eq 25 71 dX3_claimPinches_25 rfl (fun c25 => ?_) (fun c25 => absurd rfl c25)
        refine am_iinc 71 (v := nI (k + 1)) dX3_claimPinches_71 rfl (nI_1 (k)) (by decide) ?_
        refine am_goto 74 (tgt := 11) dX3_claimPinches_74 rfl ?_
        exact skip (fun z => b1 z.2.1)
set_option maxHeartbeats 2000000 in
theorem s_aloneY (hS : y_St f h s told A T S) (hd : s + 9 < h ∨ h + 11 < s) : AM mX3_claimAlone 0 0 [.ref h] n f (fun o n' f' => o = .inl none ∧ n' = n ∧ y_St f' h s told A T (y_it y_alo S 5) ∧ ∀ x, (x < s ∨ s + 9 < x) → (x < h ∨ h + 11 < x) → f' x = f x) := by
  show AW mX3_claimAlone 0 0 0 [some (.ref h), none, none] [] n f _
  generalize hQ : (fun (o : Option Value ⊕ Nat) (n' : Nat) (f' : Nat → am_C) => o = .inl none ∧ n' = n ∧ y_St f' h s told A T (y_it y_alo S 5) ∧ ∀ x, (x < s ∨ s + 9 < x) → (x < h ∨ h + 11 < x) → f' x = f x) = Q
  refine am_iconst 0 (v := 0) dX3_claimAlone_0 (by decide) ?_
  refine am_istore_n 1 dX3_claimAlone_1 (by decide) ?_
  refine am_for 5 (fun k (st : (Nat → am_C) × Option Value) => y_St st.1 h s told A T (y_it y_alo S k) ∧ ∀ x, (x < s ∨ s + 9 < x) → (x < h ∨ h + 11 < x) → st.1 x = f x) (fun k st => AW mX3_claimAlone 0 0 2 [some (.ref h), some (.int (nI k)), st.2] [] n st.1 Q) ?_ ?_ 0 (f, none) (by omega) ⟨hS, fun _ _ _ => rfl⟩
  · rintro ⟨g, z5⟩ ⟨g1, g3⟩
    show AW mX3_claimAlone 0 0 2 [some (.ref h), some (.int (nI 5)), z5] [] n g Q
    refine am_iload_n 2 dX3_claimAlone_2 rfl ?_
    refine am_iconst 3 (v := 5) dX3_claimAlone_3 (by decide) ?_
    refine am_icmp_ge 4 68 dX3_claimAlone_4 rfl (fun c4 => ?_) (fun c4 => absurd (by decide) c4)
    refine am_return 68 dX3_claimAlone_68 rfl ?_
    subst hQ
    exact ⟨rfl, rfl, g1, g3⟩
  · rintro k ⟨g, z5⟩ hk ⟨gS, q5⟩ ih
    show AW mX3_claimAlone 0 0 2 [some (.ref h), some (.int (nI k)), z5] [] n g Q
    have gS : y_St g h s told A T (y_it y_alo S k) := gS
    have nx : ∀ z g3, y_St g3 h s told A T (y_alo (y_it y_alo S k) k) → (∀ x, (x < s ∨ s + 9 < x) → (x < h ∨ h + 11 < x) → g3 x = f x) → AW mX3_claimAlone 0 0 2 [some (.ref h), some (.int (nI (k + 1))), z] [] n g3 Q := fun z g3 a b => ih (g3, z) ⟨a, b⟩
    clear ih
    generalize y_it y_alo S k = S1 at *
    obtain ⟨q1, q2, q3⟩ := id gS
    have hkC := q1.2.2 k hk
    have hc := hkC.1
    have h0 := q1.1
    have h1' := q1.2.1
    by_cases b1 : (y_K S1 k).1 0 ≠ 0 ∧ (y_K S1 k).1 1 ≠ 0 ∧ (y_K S1 k).1 6 = 0
    · have har := ((q3.1 k hk).2.2 b1.1).2.2.1
      have fin : ∀ kd, 1 ≤ kd → kd < 4 → y_alo S1 k = y_one S1 k kd → ∀ z f1, (m_Ha f1 h s (va_up (y_K S1) k (m_claim (y_K S1 k) kd)) (y_be S1) (y_li S1) (y_ca S1) ∧ (∃ C', m_As f1 s told A C' ∧ m_Ct (y_C S1) C' ((y_K S1 k).1 7) kd true) ∧ ∀ x, (x < s ∨ s + 9 < x) → (x < h ∨ h + 11 < x) → f1 x = g x) → AW mX3_claimAlone 0 0 2 [some (.ref h), some (.int (nI (k + 1))), z] [] n f1 Q := by
        rintro kd k1 k2 e z f1 ⟨r1, ⟨C2, r2, r3⟩, r4⟩
        exact nx z f1 (by rw [e]; exact gS.one hk b1 k1 k2 r1 r2 r3) fun x a b => (r4 x a b).trans (q5 x a b)
      refine am_iload_n 2 dX3_claimAlone_2 rfl ?_
      refine am_iconst 3 (v := 5) dX3_claimAlone_3 (by decide) ?_
      refine am_icmp_ge 4 68 dX3_claimAlone_4 rfl (fun c4 => absurd c4 (nI_ge hk (by decide))) (fun c4 => ?_)
      refine am_aload_n 7 dX3_claimAlone_7 rfl ?_
      refine am_getfield 8 dX3_claimAlone_8 fX3_11 (by repeat (first | assumption | exact am_ue | refine am_un (by first | assumption | decide | omega) ?_)) rfl ?_
      refine am_iload_n 11 dX3_claimAlone_11 rfl ?_
      refine am_aaload 12 dX3_claimAlone_12 rfl (by repeat (first | assumption | exact am_ue | refine am_un (by first | assumption | decide | omega) ?_)) (am_ix hk (by decide)) ?_
      rw [nI_clamp (n := k) (by omega), m_rf_at (by omega), show va_rf (some (h + 2 + 2 * k)) = Value.ref (h + 2 + 2 * k) from rfl]
      refine am_astore_n 13 dX3_claimAlone_13 (by decide) ?_
      refine am_aload_n 14 dX3_claimAlone_14 rfl ?_
      refine am_V0 15 (mc' := 0) (ms' := 0) (rc := 0) (rs := 0) dX3_claimAlone_15 lX3_136 ⟨by decide, by decide⟩ (by repeat (first | assumption | exact am_ue | refine am_un (by first | assumption | decide | omega) ?_)) (Nat.le_of_ble_eq_true rfl) (Nat.le_of_ble_eq_true rfl) (s_canClaim hkC) ?_
      refine am_is_ct ?_
      rw [if_pos b1]
      refine am_if_eq 18 40 dX3_claimAlone_18 rfl (fun c18 => absurd c18 (by decide)) (fun c18 => ?_)
      refine am_aload_n 21 dX3_claimAlone_21 rfl ?_
      refine am_getfield 22 dX3_claimAlone_22 fX3_152 (by repeat (first | assumption | exact am_ue | refine am_un (by first | assumption | decide | omega) ?_)) rfl ?_
      refine am_ldcf 25 dX3_claimAlone_25 kX3_156 ?_
      refine am_fcmp 27 dX3_claimAlone_27 ?_
      refine am_if_le 28 40 dX3_claimAlone_28 rfl (fun c28 => ?_) (fun c28 => ?_)
      · refine am_aload_n 40 dX3_claimAlone_40 rfl ?_
        refine am_V0 41 (mc' := 0) (ms' := 0) (rc := 0) (rs := 0) dX3_claimAlone_41 lX3_136 ⟨by decide, by decide⟩ (by repeat (first | assumption | exact am_ue | refine am_un (by first | assumption | decide | omega) ?_)) (Nat.le_of_ble_eq_true rfl) (Nat.le_of_ble_eq_true rfl) (s_canClaim hkC) ?_
        refine am_is_ct ?_
        rw [if_pos b1]
        refine am_if_eq 44 62 dX3_claimAlone_44 rfl (fun c44 => absurd c44 (by decide)) (fun c44 => ?_)
        refine am_aload_n 47 dX3_claimAlone_47 rfl ?_
        refine am_getfield 48 dX3_claimAlone_48 fX3_101 (by repeat (first | assumption | exact am_ue | refine am_un (by first | assumption | decide | omega) ?_)) rfl ?_
        refine am_bipush 51 (v := 8) dX3_claimAlone_51 (by decide) ?_
        refine am_icmp_lt 53 62 dX3_claimAlone_53 rfl (fun c53 => ?_) (fun c53 => ?_)
        · refine am_iinc 62 (v := nI (k + 1)) dX3_claimAlone_62 rfl (nI_1 (k)) (by decide) ?_
          refine am_goto 65 (tgt := 2) dX3_claimAlone_65 rfl ?_
          first | exact fin 2 (by decide) (by decide) ((if_pos b1).trans (if_pos c28)) _ _ r | exact fin 3 (by decide) (by decide) ((if_pos b1).trans ((if_neg fun z => z c28).trans (if_pos (Int32.not_lt.mp c53)))) _ _ r | exact nx _ _ (by rw [show y_alo S1 k = S1 from (if_pos b1).trans ((if_neg fun z => z c28).trans (if_neg (Int32.not_le.mpr c53)))]; exact gS) q5
        · refine am_aload_n 56 dX3_claimAlone_56 rfl ?_
          refine am_aload_n 57 dX3_claimAlone_57 rfl ?_
          refine am_iconst 58 (v := 3) dX3_claimAlone_58 (by decide) ?_
          refine am_V2 59 (mc' := 0) (ms' := 0) (rc := 0) (rs := 0) dX3_claimAlone_59 lX3_144 ⟨by decide, by decide⟩ (by repeat (first | assumption | exact am_ue | refine am_un (by first | assumption | decide | omega) ?_)) (Nat.le_of_ble_eq_true rfl) (Nat.le_of_ble_eq_true rfl) (s_claim (kd := 3) hk (by decide) q1 q2 hd har) ?_
          rintro o n' f1 ⟨rfl, rfl, r⟩
          refine am_ctI ?_
          refine am_iinc 62 (v := nI (k + 1)) dX3_claimAlone_62 rfl (nI_1 (k)) (by decide) ?_
          refine am_goto 65 (tgt := 2) dX3_claimAlone_65 rfl ?_
          first | exact fin 2 (by decide) (by decide) ((if_pos b1).trans (if_pos c28)) _ _ r | exact fin 3 (by decide) (by decide) ((if_pos b1).trans ((if_neg fun z => z c28).trans (if_pos (Int32.not_lt.mp c53)))) _ _ r | exact nx _ _ (by rw [show y_alo S1 k = S1 from (if_pos b1).trans ((if_neg fun z => z c28).trans (if_neg (Int32.not_le.mpr c53)))]; exact gS) q5
      · refine am_aload_n 31 dX3_claimAlone_31 rfl ?_
        refine am_aload_n 32 dX3_claimAlone_32 rfl ?_
        refine am_iconst 33 (v := 2) dX3_claimAlone_33 (by decide) ?_
        refine am_V2 34 (mc' := 0) (ms' := 0) (rc := 0) (rs := 0) dX3_claimAlone_34 lX3_144 ⟨by decide, by decide⟩ (by repeat (first | assumption | exact am_ue | refine am_un (by first | assumption | decide | omega) ?_)) (Nat.le_of_ble_eq_true rfl) (Nat.le_of_ble_eq_true rfl) (s_claim (kd := 2) hk (by decide) q1 q2 hd har) ?_
        rintro o n' f1 ⟨rfl, rfl, r⟩
        refine am_ctI ?_
        refine am_goto 37 (tgt := 62) dX3_claimAlone_37 rfl ?_
        refine am_iinc 62 (v := nI (k + 1)) dX3_claimAlone_62 rfl (nI_1 (k)) (by decide) ?_
        refine am_goto 65 (tgt := 2) dX3_claimAlone_65 rfl ?_
        first | exact fin 2 (by decide) (by decide) ((if_pos b1).trans (if_pos c28)) _ _ r | exact fin 3 (by decide) (by decide) ((if_pos b1).trans ((if_neg fun z => z c28).trans (if_pos (Int32.not_lt.mp c53)))) _ _ r | exact nx _ _ (by rw [show y_alo S1 k = S1 from (if_pos b1).trans ((if_neg fun z => z c28).trans (if_neg (Int32.not_le.mpr c53)))]; exact gS) q5
    · refine am_iload_n 2 dX3_claimAlone_2 rfl ?_
      refine am_iconst 3 (v := 5) dX3_claimAlone_3 (by decide) ?_
      refine am_icmp_ge 4 68 dX3_claimAlone_4 rfl (fun c4 => absurd c4 (nI_ge hk (by decide))) (fun c4 => ?_)
      refine am_aload_n 7 dX3_claimAlone_7 rfl ?_
      refine am_getfield 8 dX3_claimAlone_8 fX3_11 (by repeat (first | assumption | exact am_ue | refine am_un (by first | assumption | decide | omega) ?_)) rfl ?_
      refine am_iload_n 11 dX3_claimAlone_11 rfl ?_
      refine am_aaload 12 dX3_claimAlone_12 rfl (by repeat (first | assumption | exact am_ue | refine am_un (by first | assumption | decide | omega) ?_)) (am_ix hk (by decide)) ?_
      rw [nI_clamp (n := k) (by omega), m_rf_at (by omega), show va_rf (some (h + 2 + 2 * k)) = Value.ref (h + 2 + 2 * k) from rfl]
      refine am_astore_n 13 dX3_claimAlone_13 (by decide) ?_
      refine am_aload_n 14 dX3_claimAlone_14 rfl ?_
      refine am_V0 15 (mc' := 0) (ms' := 0) (rc := 0) (rs := 0) dX3_claimAlone_15 lX3_136 ⟨by decide, by decide⟩ (by repeat (first | assumption | exact am_ue | refine am_un (by first | assumption | decide | omega) ?_)) (Nat.le_of_ble_eq_true rfl) (Nat.le_of_ble_eq_true rfl) (s_canClaim hkC) ?_
      refine am_is_ct ?_
      rw [if_neg b1]
      refine am_if_eq 18 40 dX3_claimAlone_18 rfl (fun c18 => ?_) (fun c18 => absurd rfl c18)
      refine am_aload_n 40 dX3_claimAlone_40 rfl ?_
      refine am_V0 41 (mc' := 0) (ms' := 0) (rc := 0) (rs := 0) dX3_claimAlone_41 lX3_136 ⟨by decide, by decide⟩ (by repeat (first | assumption | exact am_ue | refine am_un (by first | assumption | decide | omega) ?_)) (Nat.le_of_ble_eq_true rfl) (Nat.le_of_ble_eq_true rfl) (s_canClaim hkC) ?_
      refine am_is_ct ?_
      rw [if_neg b1]
      refine am_if_eq 44 62 dX3_claimAlone_44 rfl (fun c44 => ?_) (fun c44 => absurd rfl c44)
      refine am_iinc 62 (v := nI (k + 1)) dX3_claimAlone_62 rfl (nI_1 (k)) (by decide) ?_
      refine am_goto 65 (tgt := 2) dX3_claimAlone_65 rfl ?_
      exact nx _ _ (by rw [show y_alo S1 k = S1 from if_neg b1]; exact gS) q5
set_option maxHeartbeats 2000000 in
theorem s_cancelAllY (hS : y_St f h s told A T S) (hB : y_be S < 2 ^ 31) (hd : s + 9 < h ∨ h + 11 < s) : AM mX3_cancelAll 0 0 [.ref h] n f (fun o n' f' => o = .inl none ∧ n' = n ∧ y_St f' h s told A T (y_it y_wip S 5) ∧ ∀ x, (x < s ∨ s + 9 < x) → (x < h ∨ h + 11 < x) → f' x = f x) := by
  show AW mX3_cancelAll 0 0 0 [some (.ref h), none] [] n f _
  generalize hQ : (fun (o : Option Value ⊕ Nat) (n' : Nat) (f' : Nat → am_C) => o = .inl none ∧ n' = n ∧ y_St f' h s told A T (y_it y_wip S 5) ∧ ∀ x, (x < s ∨ s + 9 < x) → (x < h ∨ h + 11 < x) → f' x = f x) = Q
  refine am_iconst 0 (v := 0) dX3_cancelAll_0 (by decide) ?_
  refine am_istore_n 1 dX3_cancelAll_1 (by decide) ?_
  refine am_for 5 (fun k (g : Nat → am_C) => y_St g h s told A T (y_it y_wip S k) ∧ y_be (y_it y_wip S k) = y_be S ∧ ∀ x, (x < s ∨ s + 9 < x) → (x < h ∨ h + 11 < x) → g x = f x) (fun k g => AW mX3_cancelAll 0 0 2 [some (.ref h), some (.int (nI k))] [] n g Q) ?_ ?_ 0 f (by omega) ⟨hS, rfl, fun _ _ _ => rfl⟩
  · rintro g ⟨g1, -, g3⟩
    refine am_iload_n 2 dX3_cancelAll_2 rfl ?_
    refine am_iconst 3 (v := 5) dX3_cancelAll_3 (by decide) ?_
    refine am_icmp_ge 4 35 dX3_cancelAll_4 rfl (fun c4 => ?_) (fun c4 => absurd (by decide) c4)
    refine am_return 35 dX3_cancelAll_35 rfl ?_
    subst hQ
    exact ⟨rfl, rfl, g1, g3⟩
  · rintro k g hk ⟨gS, gb, g4⟩ ih
    have nx : ∀ g3, y_St g3 h s told A T (y_wip (y_it y_wip S k) k) → (∀ x, (x < s ∨ s + 9 < x) → (x < h ∨ h + 11 < x) → g3 x = f x) → AW mX3_cancelAll 0 0 2 [some (.ref h), some (.int (nI (k + 1)))] [] n g3 Q := fun g3 a b => ih g3 ⟨a, by
      rw [← gb]
      show y_be (y_wip (y_it y_wip S k) k) = _
      unfold y_wip
      split <;> rfl, b⟩
    clear ih
    generalize y_it y_wip S k = S1 at *
    obtain ⟨g1, g2, g3⟩ := id gS
    have hkC := g1.2.2 k hk
    have hc := hkC.1
    have h0 := g1.1
    have h1' := g1.2.1
    by_cases hth : (y_K S1 k).1 0 = 0
    · have fin := nx g (by rw [show y_wip S1 k = S1 from if_neg fun z => z hth]; exact gS) g4
      refine am_iload_n 2 dX3_cancelAll_2 rfl ?_
      refine am_iconst 3 (v := 5) dX3_cancelAll_3 (by decide) ?_
      refine am_icmp_ge 4 35 dX3_cancelAll_4 rfl (fun c4 => absurd c4 (nI_ge hk (by decide))) (fun c4 => ?_)
      refine am_aload_n 7 dX3_cancelAll_7 rfl ?_
      refine am_getfield 8 dX3_cancelAll_8 fX3_11 (by repeat (first | assumption | exact am_ue | refine am_un (by first | assumption | decide | omega) ?_)) rfl ?_
      refine am_iload_n 11 dX3_cancelAll_11 rfl ?_
      refine am_aaload 12 dX3_cancelAll_12 rfl (by repeat (first | assumption | exact am_ue | refine am_un (by first | assumption | decide | omega) ?_)) (am_ix hk (by decide)) ?_
      rw [nI_clamp (n := k) (by omega), m_rf_at (by omega), show va_rf (some (h + 2 + 2 * k)) = Value.ref (h + 2 + 2 * k) from rfl]
      refine am_getfield 13 dX3_cancelAll_13 fX3_22 (by repeat (first | assumption | exact am_ue | refine am_un (by first | assumption | decide | omega) ?_)) rfl ?_
      refine am_if_eq 16 29 dX3_cancelAll_16 rfl (fun c16 => ?_) (fun c16 => absurd hth c16)
      refine am_iinc 29 (v := nI (k + 1)) dX3_cancelAll_29 rfl (nI_1 (k)) (by decide) ?_
      refine am_goto 32 (tgt := 2) dX3_cancelAll_32 rfl ?_
      exact fin
    · obtain ⟨-, -, har, cl, hcl, e6⟩ := (g3.1 k hk).2.2 hth
      have haF := gS.area (by omega) hk hth e6 hcl
      have fin : ∀ f1 C', m_Ha f1 h s (va_up (y_K S1) k (m_gone (y_K S1 k))) (y_be S1) (y_li S1) (y_ca S1 + 1) → m_As f1 s told A C' → ((cl = 0 ∧ C' = y_C S1) ∨ (cl ≠ 0 ∧ m_Ct (y_C S1) C' ((y_K S1 k).1 7) cl false)) → (∀ x, (x < s ∨ s + 9 < x) → (x < h ∨ h + 11 < x) → f1 x = g x) → AW mX3_cancelAll 0 0 2 [some (.ref h), some (.int (nI (k + 1)))] [] n f1 Q := by
        intro f1 C' q1 q2 q3 q4
        have iv := m_Inv.cancel g3 g2.2.2.1 hk hth hcl e6 q3
        obtain rfl := y_can_of hcl e6 q3
        exact nx f1 (by rw [show y_wip S1 k = _ from if_pos hth]; exact ⟨q1, q2, iv⟩) fun x a b => (q4 x a b).trans (g4 x a b)
      refine am_iload_n 2 dX3_cancelAll_2 rfl ?_
      refine am_iconst 3 (v := 5) dX3_cancelAll_3 (by decide) ?_
      refine am_icmp_ge 4 35 dX3_cancelAll_4 rfl (fun c4 => absurd c4 (nI_ge hk (by decide))) (fun c4 => ?_)
      refine am_aload_n 7 dX3_cancelAll_7 rfl ?_
      refine am_getfield 8 dX3_cancelAll_8 fX3_11 (by repeat (first | assumption | exact am_ue | refine am_un (by first | assumption | decide | omega) ?_)) rfl ?_
      refine am_iload_n 11 dX3_cancelAll_11 rfl ?_
      refine am_aaload 12 dX3_cancelAll_12 rfl (by repeat (first | assumption | exact am_ue | refine am_un (by first | assumption | decide | omega) ?_)) (am_ix hk (by decide)) ?_
      rw [nI_clamp (n := k) (by omega), m_rf_at (by omega), show va_rf (some (h + 2 + 2 * k)) = Value.ref (h + 2 + 2 * k) from rfl]
      refine am_getfield 13 dX3_cancelAll_13 fX3_22 (by repeat (first | assumption | exact am_ue | refine am_un (by first | assumption | decide | omega) ?_)) rfl ?_
      refine am_if_eq 16 29 dX3_cancelAll_16 rfl (fun c16 => absurd c16 hth) (fun c16 => ?_)
      refine am_aload_n 19 dX3_cancelAll_19 rfl ?_
      refine am_aload_n 20 dX3_cancelAll_20 rfl ?_
      refine am_getfield 21 dX3_cancelAll_21 fX3_11 (by repeat (first | assumption | exact am_ue | refine am_un (by first | assumption | decide | omega) ?_)) rfl ?_
      refine am_iload_n 24 dX3_cancelAll_24 rfl ?_
      refine am_aaload 25 dX3_cancelAll_25 rfl (by repeat (first | assumption | exact am_ue | refine am_un (by first | assumption | decide | omega) ?_)) (am_ix hk (by decide)) ?_
      rw [nI_clamp (n := k) (by omega), m_rf_at (by omega), show va_rf (some (h + 2 + 2 * k)) = Value.ref (h + 2 + 2 * k) from rfl]
      refine am_V1 26 (mc' := 0) (ms' := 0) (rc := 0) (rs := 0) dX3_cancelAll_26 lX3_48 ⟨by decide, by decide⟩ (by repeat (first | assumption | exact am_ue | refine am_un (by first | assumption | decide | omega) ?_)) (Nat.le_of_ble_eq_true rfl) (Nat.le_of_ble_eq_true rfl) (s_cancel hk hcl g1 g2 hd e6 haF) ?_
      rintro o n' f1 ⟨rfl, rfl, q1, ⟨C', q2, q3⟩, q4⟩
      refine am_ctI ?_
      refine am_iinc 29 (v := nI (k + 1)) dX3_cancelAll_29 rfl (nI_1 (k)) (by decide) ?_
      refine am_goto 32 (tgt := 2) dX3_cancelAll_32 rfl ?_
      exact fin f1 C' q1 q2 q3 q4
theorem y_pin_be : ∀ k, y_be (y_it y_pin S k) = y_be S
  | 0 => rfl
  | k + 1 => by
    have two : ∀ (S1 : y_H) m j, y_be (y_it (y_pin2 m) S1 j) = y_be S1 := by
      intro S1 m j
      induction j with
      | zero => rfl
      | succ j ih =>
        show y_be (y_pin2 m (y_it (y_pin2 m) S1 j) j) = _
        rw [← ih]
        unfold y_pin2
        split <;> rfl
    show y_be (y_it (y_pin2 k) (y_it y_pin S k) 5) = _
    rw [two, y_pin_be k]
theorem y_alo_be : ∀ k, y_be (y_it y_alo S k) = y_be S
  | 0 => rfl
  | k + 1 => by
    show y_be (y_alo (y_it y_alo S k) k) = _
    rw [← y_alo_be k]
    unfold y_alo
    repeat' split
    all_goals rfl
set_option maxHeartbeats 2000000 in
theorem s_takeY (hS : y_St f h s told A T S) (hB : y_be S < 2 ^ 31) (hq : f q = .inr (4, [.ref (q + 1), .ref (q + 2), .long bst])) (hL : m_Look f i sig) (hb : m_bOk (fun j => (y_K S j).1 0 ≠ 0) (m_pks sig 48).length bst) (h1 : 1 ≤ d) (h2 : d ≤ 4) (hd : s + 9 < h ∨ h + 11 < s) (hd2 : (q < s ∨ s + 9 < q) ∧ (q < h ∨ h + 11 < q)) (hd3 : (i + 6 < s ∨ s + 9 < i) ∧ (i + 6 < h ∨ h + 11 < i)) : AM mX3_take 0 0 [.ref h, .ref i, .ref q, .int (nI d)] n f (fun o n' f' => o = .inl none ∧ n' = n ∧ y_St f' h s told A (T + 1) (y_take sig bst d A told S) ∧ y_be (y_take sig bst d A told S) ≤ y_be S + 48 ∧ ∀ x, (x < s ∨ s + 9 < x) → (x < h ∨ h + 11 < x) → f' x = f x) := by
  show AW mX3_take 0 0 0 [some (.ref h), some (.ref i), some (.ref q), some (.int (nI d))] [] n f _
  have h0 := hS.1.1
  refine am_aload_n 0 dX3_take_0 rfl ?_
  refine am_aload_n 1 dX3_take_1 rfl ?_
  refine am_aload_n 2 dX3_take_2 rfl ?_
  refine am_iload_n 3 dX3_take_3 rfl ?_
  refine am_V3 4 (mc' := 0) (ms' := 0) (rc := 0) (rs := 0) dX3_take_4 lX3_30 ⟨by decide, by decide⟩ (by repeat (first | assumption | exact am_ue | refine am_un (by first | assumption | decide | omega) ?_)) (Nat.le_of_ble_eq_true rfl) (Nat.le_of_ble_eq_true rfl) (s_followY hS hB hq hL hb h1 h2 hd hd2 hd3) ?_
  rintro o n' f1 ⟨rfl, rfl, a1, a4⟩
  refine am_ctI ?_
  have ha0 := a1.1.1
  have q1 := (a4 q hd2.1 hd2.2).trans hq
  have L1 := hL.on (f' := f1) fun x a b => a4 x (by omega) (by omega)
  refine am_aload_n 7 dX3_take_7 rfl ?_
  refine am_aload_n 8 dX3_take_8 rfl ?_
  refine am_V1 9 (mc' := 0) (ms' := 0) (rc := 0) (rs := 0) dX3_take_9 lX3_34 ⟨by decide, by decide⟩ (by repeat (first | assumption | exact am_ue | refine am_un (by first | assumption | decide | omega) ?_)) (Nat.le_of_ble_eq_true rfl) (Nat.le_of_ble_eq_true rfl) (s_missY a1 q1 hd hd2) ?_
  rintro o n' f2 ⟨rfl, rfl, b1, b4⟩
  refine am_ctI ?_
  have hb0 := b1.1.1
  have q2 := (b4 q hd2.1 hd2.2).trans q1
  have L2 := L1.on (f' := f2) fun x a b => b4 x (by omega) (by omega)
  refine am_aload_n 12 dX3_take_12 rfl ?_
  refine am_aload_n 13 dX3_take_13 rfl ?_
  refine am_aload_n 14 dX3_take_14 rfl ?_
  refine am_V2 15 (mc' := 0) (ms' := 0) (rc := 0) (rs := 0) dX3_take_15 lX3_38 ⟨by decide, by decide⟩ (by repeat (first | assumption | exact am_ue | refine am_un (by first | assumption | decide | omega) ?_)) (Nat.le_of_ble_eq_true rfl) (Nat.le_of_ble_eq_true rfl) (s_beginY b1 q2 L2 hd hd2.2 hd3.2) ?_
  rintro o n' f3 ⟨rfl, rfl, c1, c2, c4⟩
  refine am_ctI ?_
  have hc0 := c1.1.1
  refine am_aload_n 18 dX3_take_18 rfl ?_
  refine am_V0 19 (mc' := 0) (ms' := 0) (rc := 0) (rs := 0) dX3_take_19 lX3_42 ⟨by decide, by decide⟩ (by repeat (first | assumption | exact am_ue | refine am_un (by first | assumption | decide | omega) ?_)) (Nat.le_of_ble_eq_true rfl) (Nat.le_of_ble_eq_true rfl) (s_pinchY c1 hd) ?_
  rintro o n' f4 ⟨rfl, rfl, d1, d4⟩
  refine am_ctI ?_
  have hd0 := d1.1.1
  refine am_aload_n 22 dX3_take_22 rfl ?_
  refine am_V0 23 (mc' := 0) (ms' := 0) (rc := 0) (rs := 0) dX3_take_23 lX3_45 ⟨by decide, by decide⟩ (by repeat (first | assumption | exact am_ue | refine am_un (by first | assumption | decide | omega) ?_)) (Nat.le_of_ble_eq_true rfl) (Nat.le_of_ble_eq_true rfl) (s_aloneY d1 hd) ?_
  rintro o n' f5 ⟨rfl, rfl, e1, e4⟩
  refine am_ctI ?_
  refine am_return 26 dX3_take_26 rfl ?_
  refine ⟨rfl, rfl, e1, ?_, fun x a b => (e4 x a b).trans ((d4 x a b).trans ((c4 x b).trans ((b4 x a b).trans (a4 x a b))))⟩
  unfold y_take
  rw [y_alo_be, y_pin_be]
  refine Nat.le_trans c2 ?_
  rw [y_mis_be, y_fol_be]
  exact Nat.le_refl _
end YCla
