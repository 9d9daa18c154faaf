/-! ===== what holds of the hand at all times is kept by every step ===== -/
section YInv
variable {C C' : Nat → Nat → Nat} {ar : Int32} {kd cl : Nat} {up : Bool} {κ : m_K} {sig : Nat → Int32} {bst : Int64} {d told T : Nat} {A : Nat → Nat → Int32} {S : y_H} {K : Nat → m_K}
def y_I (told T : Nat) (S : y_H) : Prop := m_Inv told T (y_K S) (y_be S) (y_li S) (y_ca S) (y_C S)
theorem y_ct_Ct (ht : told ≤ 4) (h : ar = -1 ∨ ∃ a, a < told ∧ ar = nI a) : m_Ct C (y_ct C ar kd up) ar kd up := by
  rcases h with rfl | ⟨a, ha, rfl⟩
  · exact Or.inl ⟨rfl, if_pos rfl⟩
  · refine Or.inr ⟨a, by omega, rfl, ?_⟩
    unfold y_ct
    rw [if_neg (r_nm1 (k := a) (by omega)), nI_clamp (n := a) (by omega)]
theorem y_can_rel (ht : told ≤ 4) (hcl : cl < 4) (e6 : κ.1 6 = nI cl) (h : κ.1 7 = -1 ∨ ∃ a, a < told ∧ κ.1 7 = nI a) : (cl = 0 ∧ y_can C κ = C) ∨ (cl ≠ 0 ∧ m_Ct C (y_can C κ) (κ.1 7) cl false) := by
  by_cases q : cl = 0
  · exact Or.inl ⟨q, if_pos (by rw [e6, q]; rfl)⟩
  · refine Or.inr ⟨q, ?_⟩
    have e : y_can C κ = y_ct C (κ.1 7) cl false := by
      unfold y_can
      rw [if_neg (show ¬ κ.1 6 = 0 from fun z => q ((nI_eq (b := 0) (by omega) (by decide)).mp (e6.symm.trans z))), e6, nI_clamp (n := cl) (by omega)]
    rw [e]
    exact y_ct_Ct ht h
theorem y_tap_rel (ht : told ≤ 4) (hcl : cl < 4) (e6 : κ.1 6 = nI cl) (h : κ.1 7 = -1 ∨ ∃ a, a < told ∧ κ.1 7 = nI a) : y_tap C κ = C ∨ (cl = 0 ∧ m_Ct C (y_tap C κ) (κ.1 7) 0 true) := by
  by_cases q : κ.1 6 = 0 ∧ κ.1 4 ≤ 4
  · refine Or.inr ⟨(nI_eq (b := 0) (by omega) (by decide)).mp (e6.symm.trans q.1), ?_⟩
    rw [show y_tap C κ = y_ct C (κ.1 7) 0 true from if_pos q]
    exact y_ct_Ct ht h
  · exact Or.inl (if_neg q)
theorem y_I_fol (hI : y_I told T S) (ht : told ≤ 4) (hb : m_bOk (fun j => (y_K S j).1 0 ≠ 0) (m_pks sig 48).length bst) (hP : (m_pks sig 48).length ≤ 48) (h1 : 1 ≤ d) (h2 : d ≤ 4) : ∀ k, k ≤ 5 → y_I told (T + 1) (y_it (y_fol sig bst d) S k)
  | 0, _ => hI.up
  | k + 1, hk => by
    have ih := y_I_fol hI ht hb hP h1 h2 k (by omega)
    have hKk : y_K (y_it (y_fol sig bst d) S k) k = y_K S k := y_fol_at k (Nat.le_refl _)
    have hone := hI.1 k (by omega)
    show y_I told (T + 1) (y_fol sig bst d (y_it (y_fol sig bst d) S k) k)
    generalize y_it (y_fol sig bst d) S k = S1 at *
    rcases m_pk_ok hb (by omega) (show k < 5 by omega) with e | ⟨kk, hkk, hth, e⟩
    · rw [show y_fol sig bst d S1 k = S1 from if_neg fun z => z.2 e]
      exact ih
    · have e2 : m_pkc sig (m_pk bst k) = (m_pks sig 48).getD kk 0 := by
        unfold m_pkc
        rw [e, nI_clamp (n := kk) (by omega)]
      have hn : m_pk bst k ≠ -1 := by
        rw [e]
        exact r_nm1 (by omega)
      obtain ⟨c48, c20⟩ := m_pks48 hkk
      have px56 := (m_place_spec (isY := false) c48 c20).2.2
      have py40 := (m_place_spec (isY := true) c48 c20).2.2
      simp only [if_true, Bool.false_eq_true, if_false] at px56 py40
      have hthF : (y_K S1 k).1 0 ≠ 0 := by rw [hKk]; exact hth
      have honeF : m_one told T (y_K S1 k) := by rw [hKk]; exact hone
      obtain ⟨-, -, har, cl, hcl, e6⟩ := honeF.2.2 hthF
      by_cases hp : 14 < m_reg sig (m_pkc sig (m_pk bst k))
      · rw [show y_fol sig bst d S1 k = _ from (if_pos ⟨hthF, hn⟩).trans (if_pos hp)]
        exact m_Inv.cancel ih ht (by omega) hthF hcl e6 (y_can_rel ht hcl e6 har)
      · rw [show y_fol sig bst d S1 k = _ from (if_pos ⟨hthF, hn⟩).trans (if_neg hp), e2]
        exact m_Inv.same ih (by omega) (honeF.move hthF (px := m_placeN sig ((m_pks sig 48).getD kk 0) false) (py := m_placeN sig ((m_pks sig 48).getD kk 0) true) (by omega) (by omega) h1 h2) rfl rfl rfl
theorem y_I_mis (hI : y_I told T S) (ht : told ≤ 4) : ∀ k, k ≤ 5 → y_I told T (y_it (y_mis bst) S k)
  | 0, _ => hI
  | k + 1, hk => by
    have ih := y_I_mis hI ht k (by omega)
    show y_I told T (y_mis bst (y_it (y_mis bst) S k) k)
    generalize y_it (y_mis bst) S k = S1 at *
    have hone := ih.1 k (by omega)
    by_cases q : (y_K S1 k).1 0 ≠ 0 ∧ m_pk bst k = -1
    · obtain ⟨-, r2, har, cl, hcl, e6⟩ := hone.2.2 q.1
      by_cases r : (y_K S1 k).1 5 = 0
      · rw [show y_mis bst S1 k = _ from (if_pos q).trans (if_pos r)]
        exact m_Inv.same ih (by omega) (hone.miss r) rfl rfl rfl
      · rw [show y_mis bst S1 k = _ from (if_pos q).trans (if_neg r)]
        have a := m_Inv.lift (cl := cl) ih ht (show k < 5 by omega) q.1 (y_tap_rel ht hcl e6 har) har
        have b := m_Inv.same (κ := m_gone (m_miss (y_K S1 k))) a (show k < 5 by omega) ⟨m_miss_ok hone.1, Or.inl rfl, fun z => absurd rfl z⟩ (by rw [am_up_eq]; rfl) (by rw [am_up_eq]; rfl) (by rw [am_up_eq]; rfl)
        rw [am_uu] at b
        exact b
    · rw [show y_mis bst S1 k = S1 from if_neg q]
      exact ih
theorem y_rem_ap {m : Nat} (hm : m < 5) (hok : ∀ j, j < 5 → m_kOk (K j)) : ∀ k, k ≤ 5 → m_ap K (y_it (y_rem m) K k)
  | 0, _ => fun j hj => ⟨rfl, rfl, hok j hj⟩
  | k + 1, hk => by
    have ih := y_rem_ap hm hok k (by omega)
    show m_ap K (y_rem m (y_it (y_rem m) K k) k)
    generalize y_it (y_rem m) K k = K1 at *
    unfold y_rem
    split
    · obtain ⟨-, -, d3⟩ := f_dist (ih m hm).2.2.1 (ih m hm).2.2.2.1 (ih k (by omega)).2.2.1 (ih k (by omega)).2.2.2.1
      exact (ih.arr (i := k) hm d3).arr (i := m) (by omega) d3
    · exact ih
theorem y_beg_no {k : Nat} (hn : ¬ (x_nb sig bst k ∧ x_ff (y_K S) < 5)) : y_beg sig bst A told S k = S := if_neg hn
theorem y_beg_yes {k m : Nat} (hn : x_nb sig bst k) (hm : x_ff (y_K S) = m) (h5 : m < 5) : y_beg sig bst A told S k = (y_it (y_rem m) (va_up (y_K S) m (m_begin (y_K S m) (nI (m_placeN sig ((m_pks sig 48).getD k 0) false)) (nI (m_placeN sig ((m_pks sig 48).getD k 0) true)) (y_ar A ((m_pks sig 48).getD k 0) told))) 5, y_C S, y_be S + 1, y_li S, y_ca S, y_t S) := by
  subst hm
  exact if_pos ⟨hn, h5⟩
theorem x_ff_free (K : Nat → m_K) (h : x_ff K < 5) : (K (x_ff K)).1 0 = 0 ∧ ∀ j, j < x_ff K → (K j).1 0 ≠ 0 := by
  by_cases h0 : (K 0).1 0 = 0
  · rw [x_ff_at (by decide) h0 (fun j hj => absurd hj (by omega))]
    exact ⟨h0, fun j hj => absurd hj (by omega)⟩
  have g0 : ∀ j, j < 1 → (K j).1 0 ≠ 0 := fun j hj => by rw [show j = 0 by omega]; exact h0
  by_cases h1 : (K 1).1 0 = 0
  · rw [x_ff_at (by decide) h1 g0]
    exact ⟨h1, g0⟩
  have g1 : ∀ j, j < 2 → (K j).1 0 ≠ 0 := fun j hj => by
    rcases (show j < 1 ∨ j = 1 by omega) with q | rfl
    · exact g0 j q
    · exact h1
  by_cases h2 : (K 2).1 0 = 0
  · rw [x_ff_at (by decide) h2 g1]
    exact ⟨h2, g1⟩
  have g2 : ∀ j, j < 3 → (K j).1 0 ≠ 0 := fun j hj => by
    rcases (show j < 2 ∨ j = 2 by omega) with q | rfl
    · exact g1 j q
    · exact h2
  by_cases h3 : (K 3).1 0 = 0
  · rw [x_ff_at (by decide) h3 g2]
    exact ⟨h3, g2⟩
  have g3 : ∀ j, j < 4 → (K j).1 0 ≠ 0 := fun j hj => by
    rcases (show j < 3 ∨ j = 3 by omega) with q | rfl
    · exact g2 j q
    · exact h3
  by_cases h4 : (K 4).1 0 = 0
  · rw [x_ff_at (by decide) h4 g3]
    exact ⟨h4, g3⟩
  have g4 : ∀ j, j < 5 → (K j).1 0 ≠ 0 := fun j hj => by
    rcases (show j < 4 ∨ j = 4 by omega) with q | rfl
    · exact g3 j q
    · exact h4
  rw [x_ff_5 g4] at h
  omega
theorem y_I_beg (hI : y_I told T S) (ht : told ≤ 4) : ∀ k, k ≤ (m_pks sig 48).length → y_I told T (y_it (y_beg sig bst A told) S k)
  | 0, _ => hI
  | k + 1, hk => by
    have ih := y_I_beg hI ht k (by omega)
    show y_I told T (y_beg sig bst A told (y_it (y_beg sig bst A told) S k) k)
    generalize y_it (y_beg sig bst A told) S k = S1 at *
    by_cases q : x_nb sig bst k ∧ x_ff (y_K S1) < 5
    · obtain ⟨c48, c20⟩ := m_pks48 (sig := sig) (j := k) (by omega)
      have px56 := (m_place_spec (isY := false) c48 c20).2.2
      have py40 := (m_place_spec (isY := true) c48 c20).2.2
      simp only [if_true, Bool.false_eq_true, if_false] at px56 py40
      rw [y_beg_yes q.1 rfl q.2]
      have iB := m_Inv.begin (px := m_placeN sig ((m_pks sig 48).getD k 0) false) (py := m_placeN sig ((m_pks sig 48).getD k 0) true) ih ht q.2 (x_ff_free _ q.2).1 (by omega) (by omega) (y_ar_in (A := A) (c := (m_pks sig 48).getD k 0) told)
      generalize va_up (y_K S1) (x_ff (y_K S1)) _ = K0 at iB ⊢
      have ap := y_rem_ap (K := K0) q.2 (fun j hj => (iB.1 j hj).1) 5 (Nat.le_refl _)
      generalize y_it (y_rem (x_ff (y_K S1))) K0 5 = K2 at ap ⊢
      exact iB.ap ap
    · rw [y_beg_no q]
      exact ih
theorem y_I_one {k : Nat} (hI : y_I told T S) (ht : told ≤ 4) (hk : k < 5) (hcl : y_cl (y_K S k)) (h1 : 1 ≤ kd) (h4 : kd < 4) : y_I told T (y_one S k kd) := by
  have har := ((hI.1 k hk).2.2 hcl.1).2.2.1
  exact m_Inv.claim hI ht hk hcl.1 hcl.2.2 h1 h4 (y_ct_Ct ht har) har
theorem y_pin2_no {m k : Nat} (hn : ¬ (m < k ∧ y_cl (y_K S m) ∧ y_cl (y_K S k) ∧ y_pc (y_K S) m k)) : y_pin2 m S k = S := if_neg hn
theorem y_pin2_yes {m k : Nat} (hn : m < k ∧ y_cl (y_K S m) ∧ y_cl (y_K S k) ∧ y_pc (y_K S) m k) : y_pin2 m S k = y_one (y_one S m 1) k 1 := if_pos hn
theorem y_I_pin2 {m : Nat} (hI : y_I told T S) (ht : told ≤ 4) (hm : m < 5) : ∀ k, k ≤ 5 → y_I told T (y_it (y_pin2 m) S k)
  | 0, _ => hI
  | k + 1, hk => by
    have ih := y_I_pin2 hI ht hm k (by omega)
    show y_I told T (y_pin2 m (y_it (y_pin2 m) S k) k)
    generalize y_it (y_pin2 m) S k = S1 at *
    by_cases q : m < k ∧ y_cl (y_K S1 m) ∧ y_cl (y_K S1 k) ∧ y_pc (y_K S1) m k
    · rw [y_pin2_yes q]
      refine y_I_one (y_I_one ih ht hm q.2.1 (by decide) (by decide)) ht (by omega) ?_ (by decide) (by decide)
      rw [show y_K (y_one S1 m 1) k = y_K S1 k from am_up_ne (by omega)]
      exact q.2.2.1
    · rw [y_pin2_no q]
      exact ih
theorem y_I_pin (hI : y_I told T S) (ht : told ≤ 4) : ∀ k, k ≤ 5 → y_I told T (y_it y_pin S k)
  | 0, _ => hI
  | k + 1, hk => y_I_pin2 (y_I_pin hI ht k (by omega)) ht (by omega) 5 (Nat.le_refl _)
theorem y_I_alo (hI : y_I told T S) (ht : told ≤ 4) : ∀ k, k ≤ 5 → y_I told T (y_it y_alo S k)
  | 0, _ => hI
  | k + 1, hk => by
    have ih := y_I_alo hI ht k (by omega)
    show y_I told T (y_alo (y_it y_alo S k) k)
    generalize y_it y_alo S k = S1 at *
    unfold y_alo
    split
    · next hc =>
      split
      · exact y_I_one ih ht (by omega) hc (by decide) (by decide)
      · split
        · exact y_I_one ih ht (by omega) hc (by decide) (by decide)
        · exact ih
    · exact ih
theorem y_I_wip (hI : y_I told T S) (ht : told ≤ 4) : ∀ k, k ≤ 5 → y_I told T (y_it y_wip S k)
  | 0, _ => hI
  | k + 1, hk => by
    have ih := y_I_wip hI ht k (by omega)
    show y_I told T (y_wip (y_it y_wip S k) k)
    generalize y_it y_wip S k = S1 at *
    by_cases q : (y_K S1 k).1 0 ≠ 0
    · obtain ⟨-, -, har, cl, hcl, e6⟩ := (ih.1 k (by omega)).2.2 q
      rw [show y_wip S1 k = _ from if_pos q]
      exact m_Inv.cancel ih ht (by omega) q hcl e6 (y_can_rel ht hcl e6 har)
    · rw [show y_wip S1 k = S1 from if_neg q]
      exact ih
end YInv
