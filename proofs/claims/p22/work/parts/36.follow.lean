/-! ===== the hand in a frame: those with a peak follow it, those without are missed ===== -/
def m_pkc (sig : Nat → Int32) (v : Int32) : Nat := (m_pks sig 48).getD v.toNatClampNeg 0
/-- what becomes of a contact as the matched ones follow their peaks -/
def m_fol (sig : Nat → Int32) (bst : Int64) (d : Nat) (K : Nat → m_K) (j : Nat) : m_K := if (K j).1 0 ≠ 0 ∧ m_pk bst j ≠ -1 then (if 14 < m_reg sig (m_pkc sig (m_pk bst j)) then m_gone (K j) else m_move (K j) (nI (m_placeN sig (m_pkc sig (m_pk bst j)) false)) (nI (m_placeN sig (m_pkc sig (m_pk bst j)) true)) (nI d)) else K j
/-- is it a palm that it goes to -/
def m_pal (sig : Nat → Int32) (bst : Int64) (K : Nat → m_K) (j : Nat) : Nat := if (K j).1 0 ≠ 0 ∧ m_pk bst j ≠ -1 ∧ 14 < m_reg sig (m_pkc sig (m_pk bst j)) then 1 else 0
theorem m_one.up {told T : Nat} {κ : m_K} (h : m_one told T κ) : m_one told (T + 1) κ := ⟨h.1, h.2.1, fun z => by
  obtain ⟨⟨fr, a, b, c⟩, r⟩ := h.2.2 z
  exact ⟨⟨fr, a, by omega, c⟩, r⟩⟩
theorem m_Inv.up {told T be li ca : Nat} {K : Nat → m_K} {C : Nat → Nat → Nat} (h : m_Inv told T K be li ca C) : m_Inv told (T + 1) K be li ca C := ⟨fun k hk => (h.1 k hk).up, h.2⟩
theorem m_one.move {told T px py d : Nat} {κ : m_K} (h : m_one told T κ) (hth : κ.1 0 ≠ 0) (hx : px ≤ 56) (hy : py ≤ 56) (h1 : 1 ≤ d) (h2 : d ≤ 4) : m_one told (T + 1) (m_move κ (nI px) (nI py) (nI d)) := by
  obtain ⟨⟨fr, a, b, c⟩, -, r1, r2⟩ := h.2.2 hth
  refine ⟨m_move_ok h.1 hx hy h1 h2, h.2.1, fun _ => ⟨⟨fr + 1, by omega, by omega, ?_⟩, Or.inl rfl, r1, r2⟩⟩
  show κ.1 4 + 1 = nI (fr + 1)
  rw [c, nI_1]
section Fol
variable {h s told T be li ca n i q d : Nat} {A : Nat → Nat → Int32} {C : Nat → Nat → Nat} {f : Nat → am_C} {K : Nat → m_K} {sig : Nat → Int32} {bst : Int64}
theorem m_fol_in {k j : Nat} : (fun j => if j < k + 1 then m_fol sig bst d K j else K j) j = (va_up (fun j => if j < k then m_fol sig bst d K j else K j) k (m_fol sig bst d K k)) j := by
  by_cases e : j = k
  · subst e
    rw [am_up_eq]
    exact if_pos (Nat.lt_succ_self _)
  · rw [am_up_ne e]
    show (if j < k + 1 then _ else _) = if j < k then _ else _
    by_cases e2 : j < k
    · rw [if_pos e2, if_pos (by omega)]
    · rw [if_neg e2, if_neg (by omega)]
set_option maxHeartbeats 2000000 in
theorem s_followMatched (hh : m_Ha f h s K be li ca) (hS : m_As f s told A C) (hI : m_Inv told T K be li ca C) (hB : be < 2 ^ 31) (hq : f q = .inr (4, [.ref (q + 1), .ref (q + 2), .long bst])) (hL : m_Look f i sig) (hb : m_bOk (fun j => (K j).1 0 ≠ 0) (m_pks sig 48).length bst) (h1 : 1 ≤ d) (h2 : d ≤ 4) (hd : s + 9 < h ∨ h + 11 < s) (hd2 : (q < s ∨ s + 9 < q) ∧ (q < h ∨ h + 11 < q)) (hd3 : (i + 6 < s ∨ s + 9 < i) ∧ (i + 6 < h ∨ h + 11 < i)) : AM mX3_followMatched 0 0 [.ref h, .ref i, .ref q, .int (nI d)] n f (fun o n' f' => o = .inl none ∧ n' = n ∧ m_Ha f' h s (fun j => if j < 5 then m_fol sig bst d K j else K j) be li (ca + m_N (m_pal sig bst K) 5) ∧ (∃ C', m_As f' s told A C' ∧ m_Inv told (T + 1) (fun j => if j < 5 then m_fol sig bst d K j else K j) be li (ca + m_N (m_pal sig bst K) 5) C') ∧ ∀ x, (x < s ∨ s + 9 < x) → (x < h ∨ h + 11 < x) → f' x = f x) := by
  show AW mX3_followMatched 0 0 0 [some (.ref h), some (.ref i), some (.ref q), some (.int (nI d)), none, none] [] n f _
  have hP := m_pks_len (sig := sig) (k := 48)
  generalize hQ : (fun (o : Option Value ⊕ Nat) (n' : Nat) (f' : Nat → am_C) => o = .inl none ∧ n' = n ∧ m_Ha f' h s (fun j => if j < 5 then m_fol sig bst d K j else K j) be li (ca + m_N (m_pal sig bst K) 5) ∧ (∃ C', m_As f' s told A C' ∧ m_Inv told (T + 1) (fun j => if j < 5 then m_fol sig bst d K j else K j) be li (ca + m_N (m_pal sig bst K) 5) C') ∧ ∀ x, (x < s ∨ s + 9 < x) → (x < h ∨ h + 11 < x) → f' x = f x) = Q
  refine am_iconst 0 (v := 0) dX3_followMatched_0 (by decide) ?_
  refine am_istore 1 dX3_followMatched_1 (by decide) ?_
  refine am_for 5 (fun k (st : (Nat → am_C) × Option Value) => m_Ha st.1 h s (fun j => if j < k then m_fol sig bst d K j else K j) be li (ca + m_N (m_pal sig bst K) k) ∧ (∃ C', m_As st.1 s told A C' ∧ m_Inv told (T + 1) (fun j => if j < k then m_fol sig bst d K j else K j) be li (ca + m_N (m_pal sig bst K) k) C') ∧ ∀ x, (x < s ∨ s + 9 < x) → (x < h ∨ h + 11 < x) → st.1 x = f x) (fun k st => AW mX3_followMatched 0 0 3 [some (.ref h), some (.ref i), some (.ref q), some (.int (nI d)), some (.int (nI k)), st.2] [] n st.1 Q) ?_ ?_ 0 (f, none) (by omega) ⟨hh, ⟨C, hS, hI.up⟩, fun _ _ _ => rfl⟩
  · rintro ⟨g, z5⟩ ⟨g1, g2, g3⟩
    show AW mX3_followMatched 0 0 3 [some (.ref h), some (.ref i), some (.ref q), some (.int (nI d)), some (.int (nI 5)), z5] [] n g Q
    refine am_iload 3 dX3_followMatched_3 rfl ?_
    refine am_iconst 5 (v := 5) dX3_followMatched_5 (by decide) ?_
    refine am_icmp_ge 6 101 dX3_followMatched_6 rfl (fun c6 => ?_) (fun c6 => absurd (by decide) c6)
    refine am_return 101 dX3_followMatched_101 rfl ?_
    subst hQ
    exact ⟨rfl, rfl, g1, g2, g3⟩
  · rintro k ⟨g, z5⟩ hk ⟨g1, ⟨C1, g2, g3⟩, g4⟩ ih
    show AW mX3_followMatched 0 0 3 [some (.ref h), some (.ref i), some (.ref q), some (.int (nI d)), some (.int (nI k)), z5] [] n g Q
    have hq1 := (g4 q hd2.1 hd2.2).trans hq
    have hL1 : m_Look g i sig := hL.on fun x a b => g4 x (by omega) (by omega)
    have hKk : (fun j => if j < k then m_fol sig bst d K j else K j) k = K k := if_neg (Nat.lt_irrefl k)
    have hone := hI.1 k hk
    have hc := (g1.2.2 k hk).1
    rw [hKk] at hc
    have h0 := g1.1
    have h1' := g1.2.1
    have next : ∀ z g' , m_Ha g' h s (va_up (fun j => if j < k then m_fol sig bst d K j else K j) k (m_fol sig bst d K k)) be li (ca + m_N (m_pal sig bst K) k + m_pal sig bst K k) → (∃ C', m_As g' s told A C' ∧ m_Inv told (T + 1) (va_up (fun j => if j < k then m_fol sig bst d K j else K j) k (m_fol sig bst d K k)) be li (ca + m_N (m_pal sig bst K) k + m_pal sig bst K k) C') → (∀ x, (x < s ∨ s + 9 < x) → (x < h ∨ h + 11 < x) → g' x = f x) → AW mX3_followMatched 0 0 3 [some (.ref h), some (.ref i), some (.ref q), some (.int (nI d)), some (.int (nI (k + 1))), z] [] n g' Q := fun z g' a1 a2 a3 => ih (g', z) (by
      have e : (fun j => if j < k + 1 then m_fol sig bst d K j else K j) = va_up (fun j => if j < k then m_fol sig bst d K j else K j) k (m_fol sig bst d K k) := funext fun j => m_fol_in
      rw [e, show ca + m_N (m_pal sig bst K) (k + 1) = ca + m_N (m_pal sig bst K) k + m_pal sig bst K k from (Nat.add_assoc _ _ _).symm]
      exact ⟨a1, a2, a3⟩)
    have hF : ∀ κ, m_fol sig bst d K k = κ → ∀ pl, m_pal sig bst K k = pl → ∀ z g', m_Ha g' h s (va_up (fun j => if j < k then m_fol sig bst d K j else K j) k κ) be li (ca + m_N (m_pal sig bst K) k + pl) → (∃ C', m_As g' s told A C' ∧ m_Inv told (T + 1) (va_up (fun j => if j < k then m_fol sig bst d K j else K j) k κ) be li (ca + m_N (m_pal sig bst K) k + pl) C') → (∀ x, (x < s ∨ s + 9 < x) → (x < h ∨ h + 11 < x) → g' x = f x) → AW mX3_followMatched 0 0 3 [some (.ref h), some (.ref i), some (.ref q), some (.int (nI d)), some (.int (nI (k + 1))), z] [] n g' Q := by
      rintro κ rfl pl rfl
      exact next
    clear next ih
    generalize (fun j => if j < k then m_fol sig bst d K j else K j) = F at *
    generalize ca + m_N (m_pal sig bst K) k = ca1 at *
    rcases m_pk_ok hb (by omega) hk with e | ⟨kk, hkk, hth, e⟩
    · have ef : m_fol sig bst d K k = K k := if_neg (fun z => z.2 e)
      have ep : m_pal sig bst K k = 0 := if_neg (fun z => z.2.1 e)
      have eF : va_up F k (K k) = F := am_self hKk
      have fin := fun z => hF _ ef _ ep z g (by rw [eF]; exact g1) (by rw [eF]; exact ⟨C1, g2, g3⟩) g4
      refine am_iload 3 dX3_followMatched_3 rfl ?_
      refine am_iconst 5 (v := 5) dX3_followMatched_5 (by decide) ?_
      refine am_icmp_ge 6 101 dX3_followMatched_6 rfl (fun c6 => absurd c6 (nI_ge hk (by decide))) (fun c6 => ?_)
      refine am_aload_n 9 dX3_followMatched_9 rfl ?_
      refine am_iload 10 dX3_followMatched_10 rfl ?_
      refine am_V1 12 (mc' := 0) (ms' := 0) (rc := 0) (rs := 0) dX3_followMatched_12 lX3_64 ⟨by decide, by decide⟩ (by repeat (first | assumption | exact am_ue | refine am_un (by first | assumption | decide | omega) ?_)) (Nat.le_of_ble_eq_true rfl) (Nat.le_of_ble_eq_true rfl) (s_peakOf hq1) ?_
      refine am_is_ct ?_
      rw [e]
      refine am_istore 15 dX3_followMatched_15 (by decide) ?_
      refine am_iload 17 dX3_followMatched_17 rfl ?_
      refine am_if_lt 19 95 dX3_followMatched_19 rfl (fun c19 => ?_) (fun c19 => absurd (by decide) c19)
      refine am_iinc 95 (v := nI (k + 1)) dX3_followMatched_95 rfl (nI_1 (k)) (by decide) ?_
      refine am_goto 98 (tgt := 3) dX3_followMatched_98 rfl ?_
      exact fin _
    · have e2 : m_pkc sig (m_pk bst k) = (m_pks sig 48).getD kk 0 := by
        unfold m_pkc
        rw [e, nI_clamp (by omega)]
      have n1 : ¬ nI kk < 0 := fun z => absurd ((nI_ltI (b := 0) (by omega) (by decide)).mp z) (by omega)
      have n2 : nI kk ≠ -1 := fun z => n1 (by rw [z]; decide)
      obtain ⟨c48, c20⟩ := m_pks48 hkk
      have hLL := hL1
      obtain ⟨pc, px, py, chn, ⟨p0, p1, p2, p3, p4, p5, p6⟩, hok⟩ := hL1
      obtain ⟨-, x2, x3⟩ := hok kk hkk
      have px56 := (m_place_spec (isY := false) c48 c20).2.2
      have py40 := (m_place_spec (isY := true) c48 c20).2.2
      simp only [if_true, Bool.false_eq_true, if_false] at px56 py40
      by_cases hp : 14 < m_reg sig ((m_pks sig 48).getD kk 0)
      · obtain ⟨-, -, har, cl, hcl, e6⟩ := hone.2.2 hth
        have ef : m_fol sig bst d K k = m_gone (F k) := by
          rw [hKk]
          unfold m_fol
          rw [if_pos ⟨hth, by rw [e]; exact n2⟩, if_pos (by rw [e2]; exact hp)]
        have ep : m_pal sig bst K k = 1 := if_pos ⟨hth, by rw [e]; exact n2, by rw [e2]; exact hp⟩
        have e6F : (F k).1 6 = nI cl := by rw [hKk]; exact e6
        have hthF : (F k).1 0 ≠ 0 := by rw [hKk]; exact hth
        have haF : cl = 0 ∨ (F k).1 7 = -1 ∨ ∃ a, a < told ∧ (F k).1 7 = nI a ∧ 0 < C1 a cl ∧ C1 a cl < 2 ^ 31 := by
          rcases Nat.eq_zero_or_pos cl with z | z
          · exact Or.inl z
          · rcases har with z2 | ⟨a, z2, z3⟩
            · exact Or.inr (Or.inl (by rw [hKk]; exact z2))
            · obtain ⟨q1, q2⟩ := m_Inv.pos g3 hk hthF e6F z hcl z2 (by rw [hKk]; exact z3)
              exact Or.inr (Or.inr ⟨a, z2, by rw [hKk]; exact z3, q1, by omega⟩)
        refine am_iload 3 dX3_followMatched_3 rfl ?_
        refine am_iconst 5 (v := 5) dX3_followMatched_5 (by decide) ?_
        refine am_icmp_ge 6 101 dX3_followMatched_6 rfl (fun c6 => absurd c6 (nI_ge hk (by decide))) (fun c6 => ?_)
        refine am_aload_n 9 dX3_followMatched_9 rfl ?_
        refine am_iload 10 dX3_followMatched_10 rfl ?_
        refine am_V1 12 (mc' := 0) (ms' := 0) (rc := 0) (rs := 0) dX3_followMatched_12 lX3_64 ⟨by decide, by decide⟩ (by repeat (first | assumption | exact am_ue | refine am_un (by first | assumption | decide | omega) ?_)) (Nat.le_of_ble_eq_true rfl) (Nat.le_of_ble_eq_true rfl) (s_peakOf hq1) ?_
        refine am_is_ct ?_
        rw [e]
        refine am_istore 15 dX3_followMatched_15 (by decide) ?_
        refine am_iload 17 dX3_followMatched_17 rfl ?_
        refine am_if_lt 19 95 dX3_followMatched_19 rfl (fun c19 => absurd c19 n1) (fun c19 => ?_)
        refine am_iload 22 dX3_followMatched_22 rfl ?_
        refine am_aload_n 24 dX3_followMatched_24 rfl ?_
        refine am_getfield 25 dX3_followMatched_25 fX3_70 (by repeat (first | assumption | exact am_ue | refine am_un (by first | assumption | decide | omega) ?_)) rfl ?_
        refine am_icmp_ge 28 95 dX3_followMatched_28 rfl (fun c28 => absurd c28 (nI_ge hkk (by omega))) (fun c28 => ?_)
        refine am_aload_n 31 dX3_followMatched_31 rfl ?_
        refine am_getfield 32 dX3_followMatched_32 fX3_11 (by repeat (first | assumption | exact am_ue | refine am_un (by first | assumption | decide | omega) ?_)) rfl ?_
        refine am_iload 35 dX3_followMatched_35 rfl ?_
        refine am_aaload 37 dX3_followMatched_37 rfl (by repeat (first | assumption | exact am_ue | refine am_un (by first | assumption | decide | omega) ?_)) (am_ix hk (by decide)) ?_
        rw [nI_clamp (n := k) (by omega), m_rf_at (by omega), show va_rf (some (h + 2 + 2 * k)) = Value.ref (h + 2 + 2 * k) from rfl]
        refine am_getfield 38 dX3_followMatched_38 fX3_22 (by repeat (first | assumption | exact am_ue | refine am_un (by first | assumption | decide | omega) ?_)) rfl ?_
        refine am_if_ne 41 47 dX3_followMatched_41 rfl (fun c41 => ?_) (fun c41 => absurd c41 hth)
        refine am_aload_n 47 dX3_followMatched_47 rfl ?_
        refine am_iload 48 dX3_followMatched_48 rfl ?_
        refine am_V1 50 (mc' := 0) (ms' := 0) (rc := 0) (rs := 0) dX3_followMatched_50 lX3_75 ⟨by decide, by decide⟩ (by repeat (first | assumption | exact am_ue | refine am_un (by first | assumption | decide | omega) ?_)) (Nat.le_of_ble_eq_true rfl) (Nat.le_of_ble_eq_true rfl) (s_isPalm hLL hkk) ?_
        refine am_is_ct ?_
        rw [if_pos hp]
        refine am_if_eq 53 70 dX3_followMatched_53 rfl (fun c53 => absurd c53 (by decide)) (fun c53 => ?_)
        refine am_aload_n 56 dX3_followMatched_56 rfl ?_
        refine am_aload_n 57 dX3_followMatched_57 rfl ?_
        refine am_getfield 58 dX3_followMatched_58 fX3_11 (by repeat (first | assumption | exact am_ue | refine am_un (by first | assumption | decide | omega) ?_)) rfl ?_
        refine am_iload 61 dX3_followMatched_61 rfl ?_
        refine am_aaload 63 dX3_followMatched_63 rfl (by repeat (first | assumption | exact am_ue | refine am_un (by first | assumption | decide | omega) ?_)) (am_ix hk (by decide)) ?_
        rw [nI_clamp (n := k) (by omega), m_rf_at (by omega), show va_rf (some (h + 2 + 2 * k)) = Value.ref (h + 2 + 2 * k) from rfl]
        refine am_V1 64 (mc' := 0) (ms' := 0) (rc := 0) (rs := 0) dX3_followMatched_64 lX3_48 ⟨by decide, by decide⟩ (by repeat (first | assumption | exact am_ue | refine am_un (by first | assumption | decide | omega) ?_)) (Nat.le_of_ble_eq_true rfl) (Nat.le_of_ble_eq_true rfl) (s_cancel hk hcl g1 g2 hd e6F haF) ?_
        rintro o n' f1 ⟨rfl, rfl, q1, ⟨C', q2, q3⟩, q4⟩
        refine am_ctI ?_
        refine am_goto 67 (tgt := 95) dX3_followMatched_67 rfl ?_
        refine am_iinc 95 (v := nI (k + 1)) dX3_followMatched_95 rfl (nI_1 (k)) (by decide) ?_
        refine am_goto 98 (tgt := 3) dX3_followMatched_98 rfl ?_
        exact hF _ ef _ ep _ f1 q1 ⟨C', q2, m_Inv.cancel g3 hS.2.2.1 hk hthF hcl e6F q3⟩ fun x a b => (q4 x a b).trans (g4 x a b)
      · have ef : m_fol sig bst d K k = m_move (K k) (nI (m_placeN sig ((m_pks sig 48).getD kk 0) false)) (nI (m_placeN sig ((m_pks sig 48).getD kk 0) true)) (nI d) := by
          unfold m_fol
          rw [if_pos ⟨hth, by rw [e]; exact n2⟩, if_neg (by rw [e2]; exact hp), e2]
        have ep : m_pal sig bst K k = 0 := if_neg (fun z => hp (by have := z.2.2; rwa [e2] at this))
        have hkC := g1.2.2 k hk
        rw [hKk] at hkC
        refine am_iload 3 dX3_followMatched_3 rfl ?_
        refine am_iconst 5 (v := 5) dX3_followMatched_5 (by decide) ?_
        refine am_icmp_ge 6 101 dX3_followMatched_6 rfl (fun c6 => absurd c6 (nI_ge hk (by decide))) (fun c6 => ?_)
        refine am_aload_n 9 dX3_followMatched_9 rfl ?_
        refine am_iload 10 dX3_followMatched_10 rfl ?_
        refine am_V1 12 (mc' := 0) (ms' := 0) (rc := 0) (rs := 0) dX3_followMatched_12 lX3_64 ⟨by decide, by decide⟩ (by repeat (first | assumption | exact am_ue | refine am_un (by first | assumption | decide | omega) ?_)) (Nat.le_of_ble_eq_true rfl) (Nat.le_of_ble_eq_true rfl) (s_peakOf hq1) ?_
        refine am_is_ct ?_
        rw [e]
        refine am_istore 15 dX3_followMatched_15 (by decide) ?_
        refine am_iload 17 dX3_followMatched_17 rfl ?_
        refine am_if_lt 19 95 dX3_followMatched_19 rfl (fun c19 => absurd c19 n1) (fun c19 => ?_)
        refine am_iload 22 dX3_followMatched_22 rfl ?_
        refine am_aload_n 24 dX3_followMatched_24 rfl ?_
        refine am_getfield 25 dX3_followMatched_25 fX3_70 (by repeat (first | assumption | exact am_ue | refine am_un (by first | assumption | decide | omega) ?_)) rfl ?_
        refine am_icmp_ge 28 95 dX3_followMatched_28 rfl (fun c28 => absurd c28 (nI_ge hkk (by omega))) (fun c28 => ?_)
        refine am_aload_n 31 dX3_followMatched_31 rfl ?_
        refine am_getfield 32 dX3_followMatched_32 fX3_11 (by repeat (first | assumption | exact am_ue | refine am_un (by first | assumption | decide | omega) ?_)) rfl ?_
        refine am_iload 35 dX3_followMatched_35 rfl ?_
        refine am_aaload 37 dX3_followMatched_37 rfl (by repeat (first | assumption | exact am_ue | refine am_un (by first | assumption | decide | omega) ?_)) (am_ix hk (by decide)) ?_
        rw [nI_clamp (n := k) (by omega), m_rf_at (by omega), show va_rf (some (h + 2 + 2 * k)) = Value.ref (h + 2 + 2 * k) from rfl]
        refine am_getfield 38 dX3_followMatched_38 fX3_22 (by repeat (first | assumption | exact am_ue | refine am_un (by first | assumption | decide | omega) ?_)) rfl ?_
        refine am_if_ne 41 47 dX3_followMatched_41 rfl (fun c41 => ?_) (fun c41 => absurd c41 hth)
        refine am_aload_n 47 dX3_followMatched_47 rfl ?_
        refine am_iload 48 dX3_followMatched_48 rfl ?_
        refine am_V1 50 (mc' := 0) (ms' := 0) (rc := 0) (rs := 0) dX3_followMatched_50 lX3_75 ⟨by decide, by decide⟩ (by repeat (first | assumption | exact am_ue | refine am_un (by first | assumption | decide | omega) ?_)) (Nat.le_of_ble_eq_true rfl) (Nat.le_of_ble_eq_true rfl) (s_isPalm hLL hkk) ?_
        refine am_is_ct ?_
        rw [if_neg hp]
        refine am_if_eq 53 70 dX3_followMatched_53 rfl (fun c53 => ?_) (fun c53 => absurd rfl c53)
        refine am_aload_n 70 dX3_followMatched_70 rfl ?_
        refine am_getfield 71 dX3_followMatched_71 fX3_11 (by repeat (first | assumption | exact am_ue | refine am_un (by first | assumption | decide | omega) ?_)) rfl ?_
        refine am_iload 74 dX3_followMatched_74 rfl ?_
        refine am_aaload 76 dX3_followMatched_76 rfl (by repeat (first | assumption | exact am_ue | refine am_un (by first | assumption | decide | omega) ?_)) (am_ix hk (by decide)) ?_
        rw [nI_clamp (n := k) (by omega), m_rf_at (by omega), show va_rf (some (h + 2 + 2 * k)) = Value.ref (h + 2 + 2 * k) from rfl]
        refine am_aload_n 77 dX3_followMatched_77 rfl ?_
        refine am_getfield 78 dX3_followMatched_78 fX3_79 (by repeat (first | assumption | exact am_ue | refine am_un (by first | assumption | decide | omega) ?_)) rfl ?_
        refine am_iload 81 dX3_followMatched_81 rfl ?_
        refine am_iaload 83 dX3_followMatched_83 rfl (by repeat (first | assumption | exact am_ue | refine am_un (by first | assumption | decide | omega) ?_)) (am_ix (c := kk) (by omega) (by decide)) ?_
        rw [nI_clamp (n := kk) (by omega), x2]
        refine am_aload_n 84 dX3_followMatched_84 rfl ?_
        refine am_getfield 85 dX3_followMatched_85 fX3_83 (by repeat (first | assumption | exact am_ue | refine am_un (by first | assumption | decide | omega) ?_)) rfl ?_
        refine am_iload 88 dX3_followMatched_88 rfl ?_
        refine am_iaload 90 dX3_followMatched_90 rfl (by repeat (first | assumption | exact am_ue | refine am_un (by first | assumption | decide | omega) ?_)) (am_ix (c := kk) (by omega) (by decide)) ?_
        rw [nI_clamp (n := kk) (by omega), x3]
        refine am_iload_n 91 dX3_followMatched_91 rfl ?_
        refine am_V3 92 (mc' := 0) (ms' := 0) (rc := 0) (rs := 0) dX3_followMatched_92 lX3_86 ⟨by decide, by decide⟩ (by repeat (first | assumption | exact am_ue | refine am_un (by first | assumption | decide | omega) ?_)) (Nat.le_of_ble_eq_true rfl) (Nat.le_of_ble_eq_true rfl) (s_moveTo hkC hone.1 (by omega) (by omega) h1 h2) ?_
        refine am_is_ct ?_
        refine am_iinc 95 (v := nI (k + 1)) dX3_followMatched_95 rfl (nI_1 (k)) (by decide) ?_
        refine am_goto 98 (tgt := 3) dX3_followMatched_98 rfl ?_
        exact hF _ ef _ ep _ _ (g1.con hk (by rw [hKk]; rfl)) ⟨C1, g2.on fun x a b => am_up_ne (by omega), m_Inv.same g3 hk (hone.move hth (by omega) (by omega) h1 h2) (by rw [hKk]; rfl) (by rw [hKk]; rfl) (by rw [hKk]; rfl)⟩ fun x a b => (am_up_ne (by omega)).trans (g4 x a b)
end Fol
