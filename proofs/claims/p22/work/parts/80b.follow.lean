/-! ===== the hand in a frame, to the letter: followed, missed ===== -/
section YFol
variable {h s told T n i q d : Nat} {A : Nat → Nat → Int32} {f : Nat → am_C} {S : y_H} {sig : Nat → Int32} {bst : Int64}
/-- hand and areas, as they are in the state S -/
def y_St (f : Nat → am_C) (h s told : Nat) (A : Nat → Nat → Int32) (T : Nat) (S : y_H) : Prop := m_Ha f h s (y_K S) (y_be S) (y_li S) (y_ca S) ∧ m_As f s told A (y_C S) ∧ m_Inv told T (y_K S) (y_be S) (y_li S) (y_ca S) (y_C S)
theorem y_St.on {f' : Nat → am_C} (a : y_St f h s told A T S) (e1 : ∀ x, h ≤ x → x ≤ h + 11 → f' x = f x) (e2 : ∀ x, s ≤ x → x ≤ s + 9 → f' x = f x) : y_St f' h s told A T S := ⟨a.1.on e1, a.2.1.on e2, a.2.2⟩
theorem y_St.area {k : Nat} {cl : Nat} (a : y_St f h s told A T S) (hB : y_be S < 2 ^ 31) (hk : k < 5) (hth : (y_K S k).1 0 ≠ 0) (e6 : (y_K S k).1 6 = nI cl) (hcl : cl < 4) : cl = 0 ∨ (y_K S k).1 7 = -1 ∨ ∃ a, a < told ∧ (y_K S k).1 7 = nI a ∧ 0 < y_C S a cl ∧ y_C S a cl < 2 ^ 31 := by
  obtain ⟨-, -, har, -⟩ := (a.2.2.1 k hk).2.2 hth
  rcases Nat.eq_zero_or_pos cl with z | z
  · exact Or.inl z
  · rcases har with z2 | ⟨b, z2, z3⟩
    · exact Or.inr (Or.inl z2)
    · obtain ⟨q1, q2⟩ := m_Inv.pos a.2.2 hk hth e6 z hcl z2 z3
      exact Or.inr (Or.inr ⟨b, z2, z3, q1, by omega⟩)
set_option maxHeartbeats 2000000 in
theorem s_followY (hS : y_St f h s told A T S) (hB : y_be S < 2 ^ 31) (hq : f q = .inr (4, [.ref (q + 1), .ref (q + 2), .long bst])) (hL : m_Look f i sig) (hb : m_bOk (fun j => (y_K S j).1 0 ≠ 0) (m_pks sig 48).length bst) (h1 : 1 ≤ d) (h2 : d ≤ 4) (hd : s + 9 < h ∨ h + 11 < s) (hd2 : (q < s ∨ s + 9 < q) ∧ (q < h ∨ h + 11 < q)) (hd3 : (i + 6 < s ∨ s + 9 < i) ∧ (i + 6 < h ∨ h + 11 < i)) : AM mX3_followMatched 0 0 [.ref h, .ref i, .ref q, .int (nI d)] n f (fun o n' f' => o = .inl none ∧ n' = n ∧ y_St f' h s told A (T + 1) (y_it (y_fol sig bst d) S 5) ∧ ∀ x, (x < s ∨ s + 9 < x) → (x < h ∨ h + 11 < x) → f' x = f x) := by
  show AW mX3_followMatched 0 0 0 [some (.ref h), some (.ref i), some (.ref q), some (.int (nI d)), none, none] [] n f _
  have hP := m_pks_len (sig := sig) (k := 48)
  generalize hQ : (fun (o : Option Value ⊕ Nat) (n' : Nat) (f' : Nat → am_C) => o = .inl none ∧ n' = n ∧ y_St f' h s told A (T + 1) (y_it (y_fol sig bst d) S 5) ∧ ∀ x, (x < s ∨ s + 9 < x) → (x < h ∨ h + 11 < x) → f' x = f x) = Q
  refine am_iconst 0 (v := 0) dX3_followMatched_0 (by decide) ?_
  refine am_istore 1 dX3_followMatched_1 (by decide) ?_
  refine am_for 5 (fun k (st : (Nat → am_C) × Option Value) => y_St st.1 h s told A (T + 1) (y_it (y_fol sig bst d) S k) ∧ ∀ x, (x < s ∨ s + 9 < x) → (x < h ∨ h + 11 < x) → st.1 x = f x) (fun k st => AW mX3_followMatched 0 0 3 [some (.ref h), some (.ref i), some (.ref q), some (.int (nI d)), some (.int (nI k)), st.2] [] n st.1 Q) ?_ ?_ 0 (f, none) (by omega) ⟨⟨hS.1, hS.2.1, hS.2.2.up⟩, fun _ _ _ => rfl⟩
  · rintro ⟨g, z5⟩ ⟨g1, g3⟩
    show AW mX3_followMatched 0 0 3 [some (.ref h), some (.ref i), some (.ref q), some (.int (nI d)), some (.int (nI 5)), z5] [] n g Q
    refine am_iload 3 dX3_followMatched_3 rfl ?_
    refine am_iconst 5 (v := 5) dX3_followMatched_5 (by decide) ?_
    refine am_icmp_ge 6 101 dX3_followMatched_6 rfl (fun c6 => ?_) (fun c6 => absurd (by decide) c6)
    refine am_return 101 dX3_followMatched_101 rfl ?_
    subst hQ
    exact ⟨rfl, rfl, g1, g3⟩
  · rintro k ⟨g, z5⟩ hk ⟨gS, g4⟩ ih
    show AW mX3_followMatched 0 0 3 [some (.ref h), some (.ref i), some (.ref q), some (.int (nI d)), some (.int (nI k)), z5] [] n g Q
    have gS : y_St g h s told A (T + 1) (y_it (y_fol sig bst d) S k) := gS
    have hq1 := (g4 q hd2.1 hd2.2).trans hq
    have hL1 : m_Look g i sig := hL.on fun x a b => g4 x (by omega) (by omega)
    have hKk : y_K (y_it (y_fol sig bst d) S k) k = y_K S k := y_fol_at k (Nat.le_refl _)
    have hone := hS.2.2.1 k hk
    have hB1 : y_be (y_it (y_fol sig bst d) S k) < 2 ^ 31 := by rw [y_fol_be]; exact hB
    have next : ∀ z g', y_St g' h s told A (T + 1) (y_fol sig bst d (y_it (y_fol sig bst d) S k) k) → (∀ x, (x < s ∨ s + 9 < x) → (x < h ∨ h + 11 < x) → g' x = f x) → AW mX3_followMatched 0 0 3 [some (.ref h), some (.ref i), some (.ref q), some (.int (nI d)), some (.int (nI (k + 1))), z] [] n g' Q := fun z g' a b => ih (g', z) ⟨a, b⟩
    clear ih
    generalize y_it (y_fol sig bst d) S k = S1 at *
    have hc := (gS.1.2.2 k hk).1
    have h0 := gS.1.1
    have h1' := gS.1.2.1
    rcases m_pk_ok hb (by omega) hk with e | ⟨kk, hkk, hth, e⟩
    · have ef : y_fol sig bst d S1 k = S1 := if_neg (fun z => z.2 e)
      have fin := fun z => next z g (by rw [ef]; exact gS) g4
      refine am_iload 3 dX3_followMatched_3 rfl ?_
      refine am_iconst 5 (v := 5) dX3_followMatched_5 (by decide) ?_
      refine am_icmp_ge 6 101 dX3_followMatched_6 rfl (fun c6 => absurd c6 (nI_ge hk (by decide))) (fun c6 => ?_)
      refine am_aload_n 9 dX3_followMatched_9 rfl ?_
      refine am_iload 10 dX3_followMatched_10 rfl ?_
      refine am_V1 12 (mc' := 0) (ms' := 0) (rc := 0) (rs := 0) dX3_followMatched_12 lX3_64 ⟨by decide, by decide⟩ (by repeat (first | assumption | exact am_ue | refine am_un (by first | assumption | decide | omega) ?_)) (Nat.le_of_ble_eq_true rfl) (Nat.le_of_ble_eq_true rfl) (s_peakOf hq1) ?_
      refine am_is_ct ?_
      rw [e]
      refine am_istore 15 dX3_followMatched_15 (by decide) ?_
      refine am_iload 17 dX3_followMatched_17 rfl ?_
      refine am_if_lt 19 95 dX3_followMatched_19 rfl (fun c19 => ?_) (fun c19 => absurd (by decide) c19)
      refine am_iinc 95 (v := nI (k + 1)) dX3_followMatched_95 rfl (nI_1 (k)) (by decide) ?_
      refine am_goto 98 (tgt := 3) dX3_followMatched_98 rfl ?_
      exact fin _
    · have e2 : m_pkc sig (m_pk bst k) = (m_pks sig 48).getD kk 0 := by
        unfold m_pkc
        rw [e, nI_clamp (by omega)]
      have n1 : ¬ nI kk < 0 := fun z => absurd ((nI_ltI (b := 0) (by omega) (by decide)).mp z) (by omega)
      have n2 : nI kk ≠ -1 := fun z => n1 (by rw [z]; decide)
      obtain ⟨c48, c20⟩ := m_pks48 hkk
      have hLL := hL1
      obtain ⟨pc, px, py, chn, ⟨p0, p1, p2, p3, p4, p5, p6⟩, hok⟩ := hL1
      obtain ⟨-, x2, x3⟩ := hok kk hkk
      have px56 := (m_place_spec (isY := false) c48 c20).2.2
      have py40 := (m_place_spec (isY := true) c48 c20).2.2
      simp only [if_true, Bool.false_eq_true, if_false] at px56 py40
      have hthF : (y_K S1 k).1 0 ≠ 0 := by rw [hKk]; exact hth
      have hpkn : m_pk bst k ≠ -1 := by rw [e]; exact n2
      by_cases hp : 14 < m_reg sig ((m_pks sig 48).getD kk 0)
      · obtain ⟨-, -, har, cl, hcl, e6⟩ := hone.2.2 hth
        have e6F : (y_K S1 k).1 6 = nI cl := by rw [hKk]; exact e6
        have ef : y_fol sig bst d S1 k = (va_up (y_K S1) k (m_gone (y_K S1 k)), y_can (y_C S1) (y_K S1 k), y_be S1, y_li S1, y_ca S1 + 1, y_t S1) := (if_pos ⟨hthF, hpkn⟩).trans (if_pos (by rw [e2]; exact hp))
        have haF := gS.area hB1 hk hthF e6F hcl
        have fin : ∀ z f1 C', m_Ha f1 h s (va_up (y_K S1) k (m_gone (y_K S1 k))) (y_be S1) (y_li S1) (y_ca S1 + 1) → m_As f1 s told A C' → ((cl = 0 ∧ C' = y_C S1) ∨ (cl ≠ 0 ∧ m_Ct (y_C S1) C' ((y_K S1 k).1 7) cl false)) → (∀ x, (x < s ∨ s + 9 < x) → (x < h ∨ h + 11 < x) → f1 x = g x) → AW mX3_followMatched 0 0 3 [some (.ref h), some (.ref i), some (.ref q), some (.int (nI d)), some (.int (nI (k + 1))), z] [] n f1 Q := by
          intro z f1 C' q1 q2 q3 q4
          have iv := m_Inv.cancel gS.2.2 gS.2.1.2.2.1 hk hthF hcl e6F q3
          obtain rfl := y_can_of hcl e6F q3
          exact next z f1 (by rw [ef]; exact ⟨q1, q2, iv⟩) fun x a b => (q4 x a b).trans (g4 x a b)
        have gS1 := gS.1
        have gS2 := gS.2.1
        refine am_iload 3 dX3_followMatched_3 rfl ?_
        refine am_iconst 5 (v := 5) dX3_followMatched_5 (by decide) ?_
        refine am_icmp_ge 6 101 dX3_followMatched_6 rfl (fun c6 => absurd c6 (nI_ge hk (by decide))) (fun c6 => ?_)
        refine am_aload_n 9 dX3_followMatched_9 rfl ?_
        refine am_iload 10 dX3_followMatched_10 rfl ?_
        refine am_V1 12 (mc' := 0) (ms' := 0) (rc := 0) (rs := 0) dX3_followMatched_12 lX3_64 ⟨by decide, by decide⟩ (by repeat (first | assumption | exact am_ue | refine am_un (by first | assumption | decide | omega) ?_)) (Nat.le_of_ble_eq_true rfl) (Nat.le_of_ble_eq_true rfl) (s_peakOf hq1) ?_
        refine am_is_ct ?_
        rw [e]
        refine am_istore 15 dX3_followMatched_15 (by decide) ?_
        refine am_iload 17 dX3_followMatched_17 rfl ?_
        refine am_if_lt 19 95 dX3_followMatched_19 rfl (fun c19 => absurd c19 n1) (fun c19 => ?_)
        refine am_iload 22 dX3_followMatched_22 rfl ?_
        refine am_aload_n 24 dX3_followMatched_24 rfl ?_
        refine am_getfield 25 dX3_followMatched_25 fX3_70 (by repeat (first | assumption | exact am_ue | refine am_un (by first | assumption | decide | omega) ?_)) rfl ?_
        refine am_icmp_ge 28 95 dX3_followMatched_28 rfl (fun c28 => absurd c28 (nI_ge hkk (by omega))) (fun c28 => ?_)
        refine am_aload_n 31 dX3_followMatched_31 rfl ?_
        refine am_getfield 32 dX3_followMatched_32 fX3_11 (by repeat (first | assumption | exact am_ue | refine am_un (by first | assumption | decide | omega) ?_)) rfl ?_
        refine am_iload 35 dX3_followMatched_35 rfl ?_
        refine am_aaload 37 dX3_followMatched_37 rfl (by repeat (first | assumption | exact am_ue | refine am_un (by first | assumption | decide | omega) ?_)) (am_ix hk (by decide)) ?_
        rw [nI_clamp (n := k) (by omega), m_rf_at (by omega), show va_rf (some (h + 2 + 2 * k)) = Value.ref (h + 2 + 2 * k) from rfl]
        refine am_getfield 38 dX3_followMatched_38 fX3_22 (by repeat (first | assumption | exact am_ue | refine am_un (by first | assumption | decide | omega) ?_)) rfl ?_
        refine am_if_ne 41 47 dX3_followMatched_41 rfl (fun c41 => ?_) (fun c41 => absurd c41 hthF)
        refine am_aload_n 47 dX3_followMatched_47 rfl ?_
        refine am_iload 48 dX3_followMatched_48 rfl ?_
        refine am_V1 50 (mc' := 0) (ms' := 0) (rc := 0) (rs := 0) dX3_followMatched_50 lX3_75 ⟨by decide, by decide⟩ (by repeat (first | assumption | exact am_ue | refine am_un (by first | assumption | decide | omega) ?_)) (Nat.le_of_ble_eq_true rfl) (Nat.le_of_ble_eq_true rfl) (s_isPalm hLL hkk) ?_
        refine am_is_ct ?_
        rw [if_pos hp]
        refine am_if_eq 53 70 dX3_followMatched_53 rfl (fun c53 => absurd c53 (by decide)) (fun c53 => ?_)
        refine am_aload_n 56 dX3_followMatched_56 rfl ?_
        refine am_aload_n 57 dX3_followMatched_57 rfl ?_
        refine am_getfield 58 dX3_followMatched_58 fX3_11 (by repeat (first | assumption | exact am_ue | refine am_un (by first | assumption | decide | omega) ?_)) rfl ?_
        refine am_iload 61 dX3_followMatched_61 rfl ?_
        refine am_aaload 63 dX3_followMatched_63 rfl (by repeat (first | assumption | exact am_ue | refine am_un (by first | assumption | decide | omega) ?_)) (am_ix hk (by decide)) ?_
        rw [nI_clamp (n := k) (by omega), m_rf_at (by omega), show va_rf (some (h + 2 + 2 * k)) = Value.ref (h + 2 + 2 * k) from rfl]
        refine am_V1 64 (mc' := 0) (ms' := 0) (rc := 0) (rs := 0) dX3_followMatched_64 lX3_48 ⟨by decide, by decide⟩ (by repeat (first | assumption | exact am_ue | refine am_un (by first | assumption | decide | omega) ?_)) (Nat.le_of_ble_eq_true rfl) (Nat.le_of_ble_eq_true rfl) (s_cancel hk hcl gS1 gS2 hd e6F haF) ?_
        rintro o n' f1 ⟨rfl, rfl, q1, ⟨C', q2, q3⟩, q4⟩
        refine am_ctI ?_
        refine am_goto 67 (tgt := 95) dX3_followMatched_67 rfl ?_
        refine am_iinc 95 (v := nI (k + 1)) dX3_followMatched_95 rfl (nI_1 (k)) (by decide) ?_
        refine am_goto 98 (tgt := 3) dX3_followMatched_98 rfl ?_
        exact fin _ f1 C' q1 q2 q3 q4
      · have ef : y_fol sig bst d S1 k = (va_up (y_K S1) k (m_move (y_K S1 k) (nI (m_placeN sig ((m_pks sig 48).getD kk 0) false)) (nI (m_placeN sig ((m_pks sig 48).getD kk 0) true)) (nI d)), y_C S1, y_be S1, y_li S1, y_ca S1, y_t S1) := by
          refine (if_pos ⟨hthF, hpkn⟩).trans ?_
          rw [if_neg (by rw [e2]; exact hp), e2]
        have hkC := gS.1.2.2 k hk
        have honeF : m_one told T (y_K S1 k) := by rw [hKk]; exact hone
        have fin := fun z => next z _ (by rw [ef]; exact ⟨gS.1.con hk rfl, gS.2.1.on fun x a b => am_up_ne (by omega), m_Inv.same gS.2.2 hk (honeF.move hthF (px := m_placeN sig ((m_pks sig 48).getD kk 0) false) (py := m_placeN sig ((m_pks sig 48).getD kk 0) true) (by omega) (by omega) h1 h2) rfl rfl rfl⟩) fun x a b => (am_up_ne (by omega)).trans (g4 x a b)
        refine am_iload 3 dX3_followMatched_3 rfl ?_
        refine am_iconst 5 (v := 5) dX3_followMatched_5 (by decide) ?_
        refine am_icmp_ge 6 101 dX3_followMatched_6 rfl (fun c6 => absurd c6 (nI_ge hk (by decide))) (fun c6 => ?_)
        refine am_aload_n 9 dX3_followMatched_9 rfl ?_
        refine am_iload 10 dX3_followMatched_10 rfl ?_
        refine am_V1 12 (mc' := 0) (ms' := 0) (rc := 0) (rs := 0) dX3_followMatched_12 lX3_64 ⟨by decide, by decide⟩ (by repeat (first | assumption | exact am_ue | refine am_un (by first | assumption | decide | omega) ?_)) (Nat.le_of_ble_eq_true rfl) (Nat.le_of_ble_eq_true rfl) (s_peakOf hq1) ?_
        refine am_is_ct ?_
        rw [e]
        refine am_istore 15 dX3_followMatched_15 (by decide) ?_
        refine am_iload 17 dX3_followMatched_17 rfl ?_
        refine am_if_lt 19 95 dX3_followMatched_19 rfl (fun c19 => absurd c19 n1) (fun c19 => ?_)
        refine am_iload 22 dX3_followMatched_22 rfl ?_
        refine am_aload_n 24 dX3_followMatched_24 rfl ?_
        refine am_getfield 25 dX3_followMatched_25 fX3_70 (by repeat (first | assumption | exact am_ue | refine am_un (by first | assumption | decide | omega) ?_)) rfl ?_
        refine am_icmp_ge 28 95 dX3_followMatched_28 rfl (fun c28 => absurd c28 (nI_ge hkk (by omega))) (fun c28 => ?_)
        refine am_aload_n 31 dX3_followMatched_31 rfl ?_
        refine am_getfield 32 dX3_followMatched_32 fX3_11 (by repeat (first | assumption | exact am_ue | refine am_un (by first | assumption | decide | omega) ?_)) rfl ?_
        refine am_iload 35 dX3_followMatched_35 rfl ?_
        refine am_aaload 37 dX3_followMatched_37 rfl (by repeat (first | assumption | exact am_ue | refine am_un (by first | assumption | decide | omega) ?_)) (am_ix hk (by decide)) ?_
        rw [nI_clamp (n := k) (by omega), m_rf_at (by omega), show va_rf (some (h + 2 + 2 * k)) = Value.ref (h + 2 + 2 * k) from rfl]
        refine am_getfield 38 dX3_followMatched_38 fX3_22 (by repeat (first | assumption | exact am_ue | refine am_un (by first | assumption | decide | omega) ?_)) rfl ?_
        refine am_if_ne 41 47 dX3_followMatched_41 rfl (fun c41 => ?_) (fun c41 => absurd c41 hthF)
        refine am_aload_n 47 dX3_followMatched_47 rfl ?_
        refine am_iload 48 dX3_followMatched_48 rfl ?_
        refine am_V1 50 (mc' := 0) (ms' := 0) (rc := 0) (rs := 0) dX3_followMatched_50 lX3_75 ⟨by decide, by decide⟩ (by repeat (first | assumption | exact am_ue | refine am_un (by first | assumption | decide | omega) ?_)) (Nat.le_of_ble_eq_true rfl) (Nat.le_of_ble_eq_true rfl) (s_isPalm hLL hkk) ?_
        refine am_is_ct ?_
        rw [if_neg hp]
        refine am_if_eq 53 70 dX3_followMatched_53 rfl (fun c53 => ?_) (fun c53 => absurd rfl c53)
        refine am_aload_n 70 dX3_followMatched_70 rfl ?_
        refine am_getfield 71 dX3_followMatched_71 fX3_11 (by repeat (first | assumption | exact am_ue | refine am_un (by first | assumption | decide | omega) ?_)) rfl ?_
        refine am_iload 74 dX3_followMatched_74 rfl ?_
        refine am_aaload 76 dX3_followMatched_76 rfl (by repeat (first | assumption | exact am_ue | refine am_un (by first | assumption | decide | omega) ?_)) (am_ix hk (by decide)) ?_
        rw [nI_clamp (n := k) (by omega), m_rf_at (by omega), show va_rf (some (h + 2 + 2 * k)) = Value.ref (h + 2 + 2 * k) from rfl]
        refine am_aload_n 77 dX3_followMatched_77 rfl ?_
        refine am_getfield 78 dX3_followMatched_78 fX3_79 (by repeat (first | assumption | exact am_ue | refine am_un (by first | assumption | decide | omega) ?_)) rfl ?_
        refine am_iload 81 dX3_followMatched_81 rfl ?_
        refine am_iaload 83 dX3_followMatched_83 rfl (by repeat (first | assumption | exact am_ue | refine am_un (by first | assumption | decide | omega) ?_)) (am_ix (c := kk) (by omega) (by decide)) ?_
        rw [nI_clamp (n := kk) (by omega), x2]
        refine am_aload_n 84 dX3_followMatched_84 rfl ?_
        refine am_getfield 85 dX3_followMatched_85 fX3_83 (by repeat (first | assumption | exact am_ue | refine am_un (by first | assumption | decide | omega) ?_)) rfl ?_
        refine am_iload 88 dX3_followMatched_88 rfl ?_
        refine am_iaload 90 dX3_followMatched_90 rfl (by repeat (first | assumption | exact am_ue | refine am_un (by first | assumption | decide | omega) ?_)) (am_ix (c := kk) (by omega) (by decide)) ?_
        rw [nI_clamp (n := kk) (by omega), x3]
        refine am_iload_n 91 dX3_followMatched_91 rfl ?_
        refine am_V3 92 (mc' := 0) (ms' := 0) (rc := 0) (rs := 0) dX3_followMatched_92 lX3_86 ⟨by decide, by decide⟩ (by repeat (first | assumption | exact am_ue | refine am_un (by first | assumption | decide | omega) ?_)) (Nat.le_of_ble_eq_true rfl) (Nat.le_of_ble_eq_true rfl) (s_moveTo hkC honeF.1 (by omega) (by omega) h1 h2) ?_
        refine am_is_ct ?_
        refine am_iinc 95 (v := nI (k + 1)) dX3_followMatched_95 rfl (nI_1 (k)) (by decide) ?_
        refine am_goto 98 (tgt := 3) dX3_followMatched_98 rfl ?_
        exact fin _
/-- one is lifted, its tap counted if it is one -/
theorem s_liftY {be li ca k cl : Nat} {K : Nat → m_K} {C : Nat → Nat → Nat} (hk : k < 5) (hcl : cl < 4) (hh : m_Ha f h s K be li ca) (hS : m_As f s told A C) (hd : s + 9 < h ∨ h + 11 < s) (e6 : (K k).1 6 = nI cl) (ha : (K k).1 7 = -1 ∨ ∃ a, a < told ∧ (K k).1 7 = nI a) : AM mX3_lift 0 0 [.ref h, .ref (h + 2 + 2 * k)] n f (fun o n' f' => o = .inl none ∧ n' = n ∧ m_Ha f' h s (va_up K k (m_gone (K k))) be (li + 1) ca ∧ m_As f' s told A (y_tap C (K k)) ∧ (y_tap C (K k) = C ∨ (cl = 0 ∧ m_Ct C (y_tap C (K k)) ((K k).1 7) 0 true)) ∧ ∀ x, (x < s ∨ s + 9 < x) → (x < h ∨ h + 11 < x) → f' x = f x) := by
  show AW mX3_lift 0 0 0 [some (.ref h), some (.ref (h + 2 + 2 * k))] [] n f _
  have hc := (hh.2.2 k hk).1
  have hh1 := hh.con hk (κ := m_gone (K k)) rfl
  have hh2 := hh1.own (be' := be) (li' := li + 1) (ca' := ca)
  have h1 := hh1.1
  have h2 := hh2.1
  have hc2 := (hh2.2.2 k hk).1
  rw [am_up_eq] at hc2
  have hS2 : m_As (va_up (va_up f (h + 2 + 2 * k) (.inr (2, m_kF (h + 2 + 2 * k) (m_gone (K k))))) h (.inr (3, [.ref (h + 1), .ref s, .int (nI be), .int (nI (li + 1)), .int (nI ca)]))) s told A C := hS.on fun x a b => (am_up_ne (by omega)).trans (am_up_ne (by omega))
  have e62 : (m_gone (K k)).1 6 = nI cl := e6
  have e4 : (m_gone (K k)).1 4 = (K k).1 4 := rfl
  have hs0 := hS2.1
  have no : ¬ ((K k).1 6 = 0 ∧ (K k).1 4 ≤ 4) → y_tap C (K k) = C := fun z => if_neg z
  have yes : ((K k).1 6 = 0 ∧ (K k).1 4 ≤ 4) → y_tap C (K k) = y_ct C ((K k).1 7) 0 true := fun z => if_pos z
  refine am_aload_n 0 dX3_lift_0 rfl ?_
  refine am_iconst 1 (v := 0) dX3_lift_1 (by decide) ?_
  refine am_putfield 2 dX3_lift_2 pX3_22 (by repeat (first | assumption | exact am_ue | refine am_un (by first | assumption | decide | omega) ?_)) rfl rfl (Nat.le_of_ble_eq_true rfl) ?_
  rw [show List.set (m_kF (h + 2 + 2 * k) (K k)) 0 (.int 0) = m_kF (h + 2 + 2 * k) (m_gone (K k)) from rfl]
  refine am_aload_n 5 dX3_lift_5 rfl ?_
  refine am_dup 6 dX3_lift_6 rfl ?_
  refine am_getfield 7 dX3_lift_7 fX3_98 (by repeat (first | assumption | exact am_ue | refine am_un (by first | assumption | decide | omega) ?_)) rfl ?_
  refine am_iconst 10 (v := 1) dX3_lift_10 (by decide) ?_
  refine am_iadd 11 dX3_lift_11 ?_
  rw [nI_1]
  refine am_putfield 12 dX3_lift_12 pX3_98 (by repeat (first | assumption | exact am_ue | refine am_un (by first | assumption | decide | omega) ?_)) rfl rfl (Nat.le_of_ble_eq_true rfl) ?_
  rw [show List.set [Value.ref (h + 1), .ref s, .int (nI be), .int (nI li), .int (nI ca)] 3 (.int (nI (li + 1))) = [.ref (h + 1), .ref s, .int (nI be), .int (nI (li + 1)), .int (nI ca)] from rfl]
  refine am_aload_n 15 dX3_lift_15 rfl ?_
  refine am_getfield 16 dX3_lift_16 fX3_55 (by repeat (first | assumption | exact am_ue | refine am_un (by first | assumption | decide | omega) ?_)) rfl ?_
  rw [e62]
  refine am_if_ne 19 43 dX3_lift_19 rfl (fun c19 => ?_) (fun c19 => ?_)
  · have e0 := no fun z => c19 (e6.symm.trans z.1)
    refine am_return 43 dX3_lift_43 rfl ?_
    first | exact ⟨rfl, rfl, hh2, by rw [e0]; exact hS2, Or.inl e0, fun x a b => (am_up_ne (by omega)).trans (am_up_ne (by omega))⟩ | exact ⟨rfl, rfl, hh2.on fun x a b => q3 x (by omega), by rw [e1]; exact q1, Or.inr ⟨z0, by rw [e1]; exact q2⟩, fun x a b => (q3 x a).trans ((am_up_ne (by omega)).trans (am_up_ne (by omega)))⟩
  · have z0 : cl = 0 := (nI_eq (b := 0) (by omega) (by decide)).mp c19
    refine am_aload_n 22 dX3_lift_22 rfl ?_
    refine am_getfield 23 dX3_lift_23 fX3_101 (by repeat (first | assumption | exact am_ue | refine am_un (by first | assumption | decide | omega) ?_)) rfl ?_
    refine am_iconst 26 (v := 4) dX3_lift_26 (by decide) ?_
    refine am_icmp_gt 27 43 dX3_lift_27 rfl (fun c27 => ?_) (fun c27 => ?_)
    · have e0 := no fun z => Int32.not_lt.mpr z.2 c27
      refine am_return 43 dX3_lift_43 rfl ?_
      first | exact ⟨rfl, rfl, hh2, by rw [e0]; exact hS2, Or.inl e0, fun x a b => (am_up_ne (by omega)).trans (am_up_ne (by omega))⟩ | exact ⟨rfl, rfl, hh2.on fun x a b => q3 x (by omega), by rw [e1]; exact q1, Or.inr ⟨z0, by rw [e1]; exact q2⟩, fun x a b => (q3 x a).trans ((am_up_ne (by omega)).trans (am_up_ne (by omega)))⟩
    · have e1 := yes ⟨e6.trans c19, Int32.not_lt.mp c27⟩
      refine am_aload_n 30 dX3_lift_30 rfl ?_
      refine am_getfield 31 dX3_lift_31 fX3_17 (by repeat (first | assumption | exact am_ue | refine am_un (by first | assumption | decide | omega) ?_)) rfl ?_
      refine am_aload_n 34 dX3_lift_34 rfl ?_
      refine am_getfield 35 dX3_lift_35 fX3_26 (by repeat (first | assumption | exact am_ue | refine am_un (by first | assumption | decide | omega) ?_)) rfl ?_
      refine am_iconst 38 (v := 0) dX3_lift_38 (by decide) ?_
      refine am_iconst 39 (v := 1) dX3_lift_39 (by decide) ?_
      refine am_V3 40 (mc' := 0) (ms' := 0) (rc := 0) (rs := 0) dX3_lift_40 lX3_58 ⟨by decide, by decide⟩ (by repeat (first | assumption | exact am_ue | refine am_un (by first | assumption | decide | omega) ?_)) (Nat.le_of_ble_eq_true rfl) (Nat.le_of_ble_eq_true rfl) (s_countU hS2 ha (by decide)) ?_
      rintro o n' f' ⟨rfl, rfl, ⟨C', q1, q2⟩, q3⟩
      refine am_ctI ?_
      obtain rfl := y_ct_of q2
      refine am_return 43 dX3_lift_43 rfl ?_
      first | exact ⟨rfl, rfl, hh2, by rw [e0]; exact hS2, Or.inl e0, fun x a b => (am_up_ne (by omega)).trans (am_up_ne (by omega))⟩ | exact ⟨rfl, rfl, hh2.on fun x a b => q3 x (by omega), by rw [e1]; exact q1, Or.inr ⟨z0, by rw [e1]; exact q2⟩, fun x a b => (q3 x a).trans ((am_up_ne (by omega)).trans (am_up_ne (by omega)))⟩
set_option maxHeartbeats 2000000 in
theorem s_missY (hS : y_St f h s told A T S) (hq : f q = .inr (4, [.ref (q + 1), .ref (q + 2), .long bst])) (hd : s + 9 < h ∨ h + 11 < s) (hd2 : (q < s ∨ s + 9 < q) ∧ (q < h ∨ h + 11 < q)) : AM mX3_missUnmatched 0 0 [.ref h, .ref q] n f (fun o n' f' => o = .inl none ∧ n' = n ∧ y_St f' h s told A T (y_it (y_mis bst) S 5) ∧ ∀ x, (x < s ∨ s + 9 < x) → (x < h ∨ h + 11 < x) → f' x = f x) := by
  show AW mX3_missUnmatched 0 0 0 [some (.ref h), some (.ref q), none, none] [] n f _
  generalize hQ : (fun (o : Option Value ⊕ Nat) (n' : Nat) (f' : Nat → am_C) => o = .inl none ∧ n' = n ∧ y_St f' h s told A T (y_it (y_mis bst) S 5) ∧ ∀ x, (x < s ∨ s + 9 < x) → (x < h ∨ h + 11 < x) → f' x = f x) = Q
  refine am_iconst 0 (v := 0) dX3_missUnmatched_0 (by decide) ?_
  refine am_istore_n 1 dX3_missUnmatched_1 (by decide) ?_
  refine am_for 5 (fun k (st : (Nat → am_C) × Option Value) => y_St st.1 h s told A T (y_it (y_mis bst) S k) ∧ ∀ x, (x < s ∨ s + 9 < x) → (x < h ∨ h + 11 < x) → st.1 x = f x) (fun k st => AW mX3_missUnmatched 0 0 2 [some (.ref h), some (.ref q), some (.int (nI k)), st.2] [] n st.1 Q) ?_ ?_ 0 (f, none) (by omega) ⟨hS, fun _ _ _ => rfl⟩
  · rintro ⟨g, z5⟩ ⟨g1, g3⟩
    show AW mX3_missUnmatched 0 0 2 [some (.ref h), some (.ref q), some (.int (nI 5)), z5] [] n g Q
    refine am_iload_n 2 dX3_missUnmatched_2 rfl ?_
    refine am_iconst 3 (v := 5) dX3_missUnmatched_3 (by decide) ?_
    refine am_icmp_ge 4 53 dX3_missUnmatched_4 rfl (fun c4 => ?_) (fun c4 => absurd (by decide) c4)
    refine am_return 53 dX3_missUnmatched_53 rfl ?_
    subst hQ
    exact ⟨rfl, rfl, g1, g3⟩
  · rintro k ⟨g, z5⟩ hk ⟨gS, g4⟩ ih
    show AW mX3_missUnmatched 0 0 2 [some (.ref h), some (.ref q), some (.int (nI k)), z5] [] n g Q
    have gS : y_St g h s told A T (y_it (y_mis bst) S k) := gS
    have hq1 := (g4 q hd2.1 hd2.2).trans hq
    have next : ∀ z g', y_St g' h s told A T (y_mis bst (y_it (y_mis bst) S k) k) → (∀ x, (x < s ∨ s + 9 < x) → (x < h ∨ h + 11 < x) → g' x = f x) → AW mX3_missUnmatched 0 0 2 [some (.ref h), some (.ref q), some (.int (nI (k + 1))), z] [] n g' Q := fun z g' a b => ih (g', z) ⟨a, b⟩
    clear ih
    generalize y_it (y_mis bst) S k = S1 at *
    obtain ⟨g1, g2, g3⟩ := id gS
    have hone := g3.1 k hk
    have hkC := g1.2.2 k hk
    have hc := hkC.1
    have h0 := g1.1
    have h1' := g1.2.1
    by_cases hth : (y_K S1 k).1 0 = 0
    · have fin := fun z => next z g (by rw [show y_mis bst S1 k = S1 from if_neg fun z => z.1 hth]; exact gS) g4
      refine am_iload_n 2 dX3_missUnmatched_2 rfl ?_
      refine am_iconst 3 (v := 5) dX3_missUnmatched_3 (by decide) ?_
      refine am_icmp_ge 4 53 dX3_missUnmatched_4 rfl (fun c4 => absurd c4 (nI_ge hk (by decide))) (fun c4 => ?_)
      refine am_aload_n 7 dX3_missUnmatched_7 rfl ?_
      refine am_getfield 8 dX3_missUnmatched_8 fX3_11 (by repeat (first | assumption | exact am_ue | refine am_un (by first | assumption | decide | omega) ?_)) rfl ?_
      refine am_iload_n 11 dX3_missUnmatched_11 rfl ?_
      refine am_aaload 12 dX3_missUnmatched_12 rfl (by repeat (first | assumption | exact am_ue | refine am_un (by first | assumption | decide | omega) ?_)) (am_ix hk (by decide)) ?_
      rw [nI_clamp (n := k) (by omega), m_rf_at (by omega), show va_rf (some (h + 2 + 2 * k)) = Value.ref (h + 2 + 2 * k) from rfl]
      refine am_astore_n 13 dX3_missUnmatched_13 (by decide) ?_
      refine am_aload_n 14 dX3_missUnmatched_14 rfl ?_
      refine am_getfield 15 dX3_missUnmatched_15 fX3_22 (by repeat (first | assumption | exact am_ue | refine am_un (by first | assumption | decide | omega) ?_)) rfl ?_
      refine am_if_eq 18 47 dX3_missUnmatched_18 rfl (fun c18 => ?_) (fun c18 => absurd hth c18)
      refine am_iinc 47 (v := nI (k + 1)) dX3_missUnmatched_47 rfl (nI_1 (k)) (by decide) ?_
      refine am_goto 50 (tgt := 2) dX3_missUnmatched_50 rfl ?_
      exact fin _
    · by_cases hpk : m_pk bst k = -1
      · obtain ⟨r1, r2, har, cl, hcl, e6⟩ := hone.2.2 hth
        have gm := g1.con hk (κ := m_miss (y_K S1 k)) rfl
        have gA : m_As (va_up g (h + 2 + 2 * k) (.inr (2, m_kF (h + 2 + 2 * k) (m_miss (y_K S1 k))))) s told A (y_C S1) := g2.on fun x a b => am_up_ne (by omega)
        have hcm := (gm.2.2 k hk).1
        rw [am_up_eq] at hcm
        rcases r2 with r2 | r2
        · have fin := fun z => next z _ (by rw [show y_mis bst S1 k = _ from (if_pos ⟨hth, hpk⟩).trans (if_pos r2)]; exact ⟨gm, gA, m_Inv.same g3 hk (hone.miss r2) rfl rfl rfl⟩) fun x a b => (am_up_ne (by omega)).trans (g4 x a b)
          have e5 : (m_miss (y_K S1 k)).1 5 = 1 := by
            show (y_K S1 k).1 5 + 1 = 1
            rw [r2]
            rfl
          refine am_iload_n 2 dX3_missUnmatched_2 rfl ?_
          refine am_iconst 3 (v := 5) dX3_missUnmatched_3 (by decide) ?_
          refine am_icmp_ge 4 53 dX3_missUnmatched_4 rfl (fun c4 => absurd c4 (nI_ge hk (by decide))) (fun c4 => ?_)
          refine am_aload_n 7 dX3_missUnmatched_7 rfl ?_
          refine am_getfield 8 dX3_missUnmatched_8 fX3_11 (by repeat (first | assumption | exact am_ue | refine am_un (by first | assumption | decide | omega) ?_)) rfl ?_
          refine am_iload_n 11 dX3_missUnmatched_11 rfl ?_
          refine am_aaload 12 dX3_missUnmatched_12 rfl (by repeat (first | assumption | exact am_ue | refine am_un (by first | assumption | decide | omega) ?_)) (am_ix hk (by decide)) ?_
          rw [nI_clamp (n := k) (by omega), m_rf_at (by omega), show va_rf (some (h + 2 + 2 * k)) = Value.ref (h + 2 + 2 * k) from rfl]
          refine am_astore_n 13 dX3_missUnmatched_13 (by decide) ?_
          refine am_aload_n 14 dX3_missUnmatched_14 rfl ?_
          refine am_getfield 15 dX3_missUnmatched_15 fX3_22 (by repeat (first | assumption | exact am_ue | refine am_un (by first | assumption | decide | omega) ?_)) rfl ?_
          refine am_if_eq 18 47 dX3_missUnmatched_18 rfl (fun c18 => absurd c18 hth) (fun c18 => ?_)
          refine am_aload_n 21 dX3_missUnmatched_21 rfl ?_
          refine am_iload_n 22 dX3_missUnmatched_22 rfl ?_
          refine am_V1 23 (mc' := 0) (ms' := 0) (rc := 0) (rs := 0) dX3_missUnmatched_23 lX3_64 ⟨by decide, by decide⟩ (by repeat (first | assumption | exact am_ue | refine am_un (by first | assumption | decide | omega) ?_)) (Nat.le_of_ble_eq_true rfl) (Nat.le_of_ble_eq_true rfl) (s_peakOf hq1) ?_
          refine am_is_ct ?_
          rw [hpk]
          refine am_iconst 26 (v := (-1)) dX3_missUnmatched_26 (by decide) ?_
          refine am_icmp_ne 27 47 dX3_missUnmatched_27 rfl (fun c27 => absurd c27 (fun z => z rfl)) (fun c27 => ?_)
          refine am_aload_n 30 dX3_missUnmatched_30 rfl ?_
          refine am_V0 31 (mc' := 0) (ms' := 0) (rc := 0) (rs := 0) dX3_missUnmatched_31 lX3_89 ⟨by decide, by decide⟩ (by repeat (first | assumption | exact am_ue | refine am_un (by first | assumption | decide | omega) ?_)) (Nat.le_of_ble_eq_true rfl) (Nat.le_of_ble_eq_true rfl) (s_miss hkC) ?_
          refine am_is_ct ?_
          refine am_aload_n 34 dX3_missUnmatched_34 rfl ?_
          refine am_getfield 35 dX3_missUnmatched_35 fX3_92 (by repeat (first | assumption | exact am_ue | refine am_un (by first | assumption | decide | omega) ?_)) rfl ?_
          rw [e5]
          refine am_iconst 38 (v := 2) dX3_missUnmatched_38 (by decide) ?_
          refine am_icmp_lt 39 47 dX3_missUnmatched_39 rfl (fun c39 => ?_) (fun c39 => absurd (by decide) c39)
          refine am_iinc 47 (v := nI (k + 1)) dX3_missUnmatched_47 rfl (nI_1 (k)) (by decide) ?_
          refine am_goto 50 (tgt := 2) dX3_missUnmatched_50 rfl ?_
          exact fin _
        · have e5 : (m_miss (y_K S1 k)).1 5 = 2 := by
            show (y_K S1 k).1 5 + 1 = 2
            rw [r2]
            rfl
          have e6m : (va_up (y_K S1) k (m_miss (y_K S1 k)) k).1 6 = nI cl := by
            rw [am_up_eq]
            exact e6
          have harm : (va_up (y_K S1) k (m_miss (y_K S1 k)) k).1 7 = -1 ∨ ∃ a, a < told ∧ (va_up (y_K S1) k (m_miss (y_K S1 k)) k).1 7 = nI a := by
            rw [am_up_eq]
            exact har
          have r20 : ¬ (y_K S1 k).1 5 = 0 := by rw [r2]; decide
          have ef : y_mis bst S1 k = (va_up (y_K S1) k (m_gone (m_miss (y_K S1 k))), y_tap (y_C S1) (y_K S1 k), y_be S1, y_li S1 + 1, y_ca S1, y_t S1) := (if_pos ⟨hth, hpk⟩).trans (if_neg r20)
          have fin : ∀ z f1, m_Ha f1 h s (va_up (va_up (y_K S1) k (m_miss (y_K S1 k))) k (m_gone (va_up (y_K S1) k (m_miss (y_K S1 k)) k))) (y_be S1) (y_li S1 + 1) (y_ca S1) → m_As f1 s told A (y_tap (y_C S1) (va_up (y_K S1) k (m_miss (y_K S1 k)) k)) → (y_tap (y_C S1) (va_up (y_K S1) k (m_miss (y_K S1 k)) k) = y_C S1 ∨ (cl = 0 ∧ m_Ct (y_C S1) (y_tap (y_C S1) (va_up (y_K S1) k (m_miss (y_K S1 k)) k)) ((va_up (y_K S1) k (m_miss (y_K S1 k)) k).1 7) 0 true)) → (∀ x, (x < s ∨ s + 9 < x) → (x < h ∨ h + 11 < x) → f1 x = (va_up g (h + 2 + 2 * k) (.inr (2, m_kF (h + 2 + 2 * k) (m_miss (y_K S1 k))))) x) → AW mX3_missUnmatched 0 0 2 [some (.ref h), some (.ref q), some (.int (nI (k + 1))), z] [] n f1 Q := by
            intro z f1 q1 q2 q3 q4
            rw [am_uu, am_up_eq] at q1
            rw [am_up_eq] at q2 q3
            have et : y_tap (y_C S1) (m_miss (y_K S1 k)) = y_tap (y_C S1) (y_K S1 k) := rfl
            rw [et] at q2 q3
            have a := m_Inv.lift (cl := cl) g3 g2.2.2.1 hk hth q3 har
            have b := m_Inv.same (κ := m_gone (m_miss (y_K S1 k))) a hk ⟨m_miss_ok hone.1, Or.inl rfl, fun z => absurd rfl z⟩ (by rw [am_up_eq]; rfl) (by rw [am_up_eq]; rfl) (by rw [am_up_eq]; rfl)
            rw [am_uu] at b
            exact next z f1 (by rw [ef]; exact ⟨q1, q2, b⟩) fun x a b => (q4 x a b).trans ((am_up_ne (by omega)).trans (g4 x a b))
          refine am_iload_n 2 dX3_missUnmatched_2 rfl ?_
          refine am_iconst 3 (v := 5) dX3_missUnmatched_3 (by decide) ?_
          refine am_icmp_ge 4 53 dX3_missUnmatched_4 rfl (fun c4 => absurd c4 (nI_ge hk (by decide))) (fun c4 => ?_)
          refine am_aload_n 7 dX3_missUnmatched_7 rfl ?_
          refine am_getfield 8 dX3_missUnmatched_8 fX3_11 (by repeat (first | assumption | exact am_ue | refine am_un (by first | assumption | decide | omega) ?_)) rfl ?_
          refine am_iload_n 11 dX3_missUnmatched_11 rfl ?_
          refine am_aaload 12 dX3_missUnmatched_12 rfl (by repeat (first | assumption | exact am_ue | refine am_un (by first | assumption | decide | omega) ?_)) (am_ix hk (by decide)) ?_
          rw [nI_clamp (n := k) (by omega), m_rf_at (by omega), show va_rf (some (h + 2 + 2 * k)) = Value.ref (h + 2 + 2 * k) from rfl]
          refine am_astore_n 13 dX3_missUnmatched_13 (by decide) ?_
          refine am_aload_n 14 dX3_missUnmatched_14 rfl ?_
          refine am_getfield 15 dX3_missUnmatched_15 fX3_22 (by repeat (first | assumption | exact am_ue | refine am_un (by first | assumption | decide | omega) ?_)) rfl ?_
          refine am_if_eq 18 47 dX3_missUnmatched_18 rfl (fun c18 => absurd c18 hth) (fun c18 => ?_)
          refine am_aload_n 21 dX3_missUnmatched_21 rfl ?_
          refine am_iload_n 22 dX3_missUnmatched_22 rfl ?_
          refine am_V1 23 (mc' := 0) (ms' := 0) (rc := 0) (rs := 0) dX3_missUnmatched_23 lX3_64 ⟨by decide, by decide⟩ (by repeat (first | assumption | exact am_ue | refine am_un (by first | assumption | decide | omega) ?_)) (Nat.le_of_ble_eq_true rfl) (Nat.le_of_ble_eq_true rfl) (s_peakOf hq1) ?_
          refine am_is_ct ?_
          rw [hpk]
          refine am_iconst 26 (v := (-1)) dX3_missUnmatched_26 (by decide) ?_
          refine am_icmp_ne 27 47 dX3_missUnmatched_27 rfl (fun c27 => absurd c27 (fun z => z rfl)) (fun c27 => ?_)
          refine am_aload_n 30 dX3_missUnmatched_30 rfl ?_
          refine am_V0 31 (mc' := 0) (ms' := 0) (rc := 0) (rs := 0) dX3_missUnmatched_31 lX3_89 ⟨by decide, by decide⟩ (by repeat (first | assumption | exact am_ue | refine am_un (by first | assumption | decide | omega) ?_)) (Nat.le_of_ble_eq_true rfl) (Nat.le_of_ble_eq_true rfl) (s_miss hkC) ?_
          refine am_is_ct ?_
          refine am_aload_n 34 dX3_missUnmatched_34 rfl ?_
          refine am_getfield 35 dX3_missUnmatched_35 fX3_92 (by repeat (first | assumption | exact am_ue | refine am_un (by first | assumption | decide | omega) ?_)) rfl ?_
          rw [e5]
          refine am_iconst 38 (v := 2) dX3_missUnmatched_38 (by decide) ?_
          refine am_icmp_lt 39 47 dX3_missUnmatched_39 rfl (fun c39 => absurd c39 (by decide)) (fun c39 => ?_)
          refine am_aload_n 42 dX3_missUnmatched_42 rfl ?_
          refine am_aload_n 43 dX3_missUnmatched_43 rfl ?_
          refine am_V1 44 (mc' := 0) (ms' := 0) (rc := 0) (rs := 0) dX3_missUnmatched_44 lX3_95 ⟨by decide, by decide⟩ (by repeat (first | assumption | exact am_ue | refine am_un (by first | assumption | decide | omega) ?_)) (Nat.le_of_ble_eq_true rfl) (Nat.le_of_ble_eq_true rfl) (s_liftY hk hcl gm gA hd e6m harm) ?_
          rintro o n' f1 ⟨rfl, rfl, q1, q2, q3, q4⟩
          refine am_ctI ?_
          refine am_iinc 47 (v := nI (k + 1)) dX3_missUnmatched_47 rfl (nI_1 (k)) (by decide) ?_
          refine am_goto 50 (tgt := 2) dX3_missUnmatched_50 rfl ?_
          exact fin _ f1 q1 q2 q3 q4
      · have fin := fun z => next z g (by rw [show y_mis bst S1 k = S1 from if_neg fun z => hpk z.2]; exact gS) g4
        refine am_iload_n 2 dX3_missUnmatched_2 rfl ?_
        refine am_iconst 3 (v := 5) dX3_missUnmatched_3 (by decide) ?_
        refine am_icmp_ge 4 53 dX3_missUnmatched_4 rfl (fun c4 => absurd c4 (nI_ge hk (by decide))) (fun c4 => ?_)
        refine am_aload_n 7 dX3_missUnmatched_7 rfl ?_
        refine am_getfield 8 dX3_missUnmatched_8 fX3_11 (by repeat (first | assumption | exact am_ue | refine am_un (by first | assumption | decide | omega) ?_)) rfl ?_
        refine am_iload_n 11 dX3_missUnmatched_11 rfl ?_
        refine am_aaload 12 dX3_missUnmatched_12 rfl (by repeat (first | assumption | exact am_ue | refine am_un (by first | assumption | decide | omega) ?_)) (am_ix hk (by decide)) ?_
        rw [nI_clamp (n := k) (by omega), m_rf_at (by omega), show va_rf (some (h + 2 + 2 * k)) = Value.ref (h + 2 + 2 * k) from rfl]
        refine am_astore_n 13 dX3_missUnmatched_13 (by decide) ?_
        refine am_aload_n 14 dX3_missUnmatched_14 rfl ?_
        refine am_getfield 15 dX3_missUnmatched_15 fX3_22 (by repeat (first | assumption | exact am_ue | refine am_un (by first | assumption | decide | omega) ?_)) rfl ?_
        refine am_if_eq 18 47 dX3_missUnmatched_18 rfl (fun c18 => absurd c18 hth) (fun c18 => ?_)
        refine am_aload_n 21 dX3_missUnmatched_21 rfl ?_
        refine am_iload_n 22 dX3_missUnmatched_22 rfl ?_
        refine am_V1 23 (mc' := 0) (ms' := 0) (rc := 0) (rs := 0) dX3_missUnmatched_23 lX3_64 ⟨by decide, by decide⟩ (by repeat (first | assumption | exact am_ue | refine am_un (by first | assumption | decide | omega) ?_)) (Nat.le_of_ble_eq_true rfl) (Nat.le_of_ble_eq_true rfl) (s_peakOf hq1) ?_
        refine am_is_ct ?_
        refine am_iconst 26 (v := (-1)) dX3_missUnmatched_26 (by decide) ?_
        refine am_icmp_ne 27 47 dX3_missUnmatched_27 rfl (fun c27 => ?_) (fun c27 => absurd c27 hpk)
        refine am_iinc 47 (v := nI (k + 1)) dX3_missUnmatched_47 rfl (nI_1 (k)) (by decide) ?_
        refine am_goto 50 (tgt := 2) dX3_missUnmatched_50 rfl ?_
        exact fin _
end YFol
