/-! ===== all are cancelled; an area is told; counts; guesses ===== -/
section Mor
theorem m_sub1 {k : Nat} : nI (k + 1) - 1 = nI k := by
  rw [← nI_1, Int32.add_sub_cancel]
variable {h s told T be li ca n : Nat} {A : Nat → Nat → Int32} {C : Nat → Nat → Nat} {f : Nat → am_C} {K : Nat → m_K}
set_option maxHeartbeats 2000000 in
theorem s_cancelAll (hh : m_Ha f h s K be li ca) (hS : m_As f s told A C) (hI : m_Inv told T K be li ca C) (hB : be < 2 ^ 31) (hd : s + 9 < h ∨ h + 11 < s) : AM mX3_cancelAll 0 0 [.ref h] n f (fun o n' f' => o = .inl none ∧ n' = n ∧ (∃ K' ca' C', m_Ha f' h s K' be li ca' ∧ m_As f' s told A C' ∧ m_Inv told T K' be li ca' C' ∧ ∀ j, j < 5 → (K' j).1 0 = 0) ∧ ∀ x, (x < s ∨ s + 9 < x) → (x < h ∨ h + 11 < x) → f' x = f x) := by
  show AW mX3_cancelAll 0 0 0 [some (.ref h), none] [] n f _
  generalize hQ : (fun (o : Option Value ⊕ Nat) (n' : Nat) (f' : Nat → am_C) => o = .inl none ∧ n' = n ∧ (∃ K' ca' C', m_Ha f' h s K' be li ca' ∧ m_As f' s told A C' ∧ m_Inv told T K' be li ca' C' ∧ ∀ j, j < 5 → (K' j).1 0 = 0) ∧ ∀ x, (x < s ∨ s + 9 < x) → (x < h ∨ h + 11 < x) → f' x = f x) = Q
  refine am_iconst 0 (v := 0) dX3_cancelAll_0 (by decide) ?_
  refine am_istore_n 1 dX3_cancelAll_1 (by decide) ?_
  refine am_for 5 (fun k (g : Nat → am_C) => (∃ K' ca' C', m_Ha g h s K' be li ca' ∧ m_As g s told A C' ∧ m_Inv told T K' be li ca' C' ∧ ∀ j, j < k → (K' j).1 0 = 0) ∧ ∀ x, (x < s ∨ s + 9 < x) → (x < h ∨ h + 11 < x) → g x = f x) (fun k g => AW mX3_cancelAll 0 0 2 [some (.ref h), some (.int (nI k))] [] n g Q) ?_ ?_ 0 f (by omega) ⟨⟨K, ca, C, hh, hS, hI, fun j hj => absurd hj (by omega)⟩, fun _ _ _ => rfl⟩
  · rintro g ⟨g1, g3⟩
    refine am_iload_n 2 dX3_cancelAll_2 rfl ?_
    refine am_iconst 3 (v := 5) dX3_cancelAll_3 (by decide) ?_
    refine am_icmp_ge 4 35 dX3_cancelAll_4 rfl (fun c4 => ?_) (fun c4 => absurd (by decide) c4)
    refine am_return 35 dX3_cancelAll_35 rfl ?_
    subst hQ
    exact ⟨rfl, rfl, g1, g3⟩
  · rintro k g hk ⟨⟨K1, ca1, C1, g1, g2, g3, g5⟩, g4⟩ ih
    have hkC := g1.2.2 k hk
    have hc := hkC.1
    have h0 := g1.1
    have h1' := g1.2.1
    by_cases hth : (K1 k).1 0 = 0
    · have fin := ih g ⟨⟨K1, ca1, C1, g1, g2, g3, fun j hj => by
        by_cases e : j = k
        · rw [e]; exact hth
        · exact g5 j (by omega)⟩, g4⟩
      refine am_iload_n 2 dX3_cancelAll_2 rfl ?_
      refine am_iconst 3 (v := 5) dX3_cancelAll_3 (by decide) ?_
      refine am_icmp_ge 4 35 dX3_cancelAll_4 rfl (fun c4 => absurd c4 (nI_ge hk (by decide))) (fun c4 => ?_)
      refine am_aload_n 7 dX3_cancelAll_7 rfl ?_
      refine am_getfield 8 dX3_cancelAll_8 fX3_11 (by repeat (first | assumption | exact am_ue | refine am_un (by first | assumption | decide | omega) ?_)) rfl ?_
      refine am_iload_n 11 dX3_cancelAll_11 rfl ?_
      refine am_aaload 12 dX3_cancelAll_12 rfl (by repeat (first | assumption | exact am_ue | refine am_un (by first | assumption | decide | omega) ?_)) (am_ix hk (by decide)) ?_
      rw [nI_clamp (n := k) (by omega), m_rf_at (by omega), show va_rf (some (h + 2 + 2 * k)) = Value.ref (h + 2 + 2 * k) from rfl]
      refine am_getfield 13 dX3_cancelAll_13 fX3_22 (by repeat (first | assumption | exact am_ue | refine am_un (by first | assumption | decide | omega) ?_)) rfl ?_
      refine am_if_eq 16 29 dX3_cancelAll_16 rfl (fun c16 => ?_) (fun c16 => absurd hth c16)
      refine am_iinc 29 (v := nI (k + 1)) dX3_cancelAll_29 rfl (nI_1 (k)) (by decide) ?_
      refine am_goto 32 (tgt := 2) dX3_cancelAll_32 rfl ?_
      exact fin
    · obtain ⟨-, -, har, cl, hcl, e6⟩ := (g3.1 k hk).2.2 hth
      have haF : cl = 0 ∨ (K1 k).1 7 = -1 ∨ ∃ a, a < told ∧ (K1 k).1 7 = nI a ∧ 0 < C1 a cl ∧ C1 a cl < 2 ^ 31 := by
        rcases Nat.eq_zero_or_pos cl with z | z
        · exact Or.inl z
        · rcases har with z2 | ⟨a, z2, z3⟩
          · exact Or.inr (Or.inl z2)
          · obtain ⟨q1, q2⟩ := m_Inv.pos g3 hk hth e6 z hcl z2 z3
            exact Or.inr (Or.inr ⟨a, z2, z3, q1, by omega⟩)
      refine am_iload_n 2 dX3_cancelAll_2 rfl ?_
      refine am_iconst 3 (v := 5) dX3_cancelAll_3 (by decide) ?_
      refine am_icmp_ge 4 35 dX3_cancelAll_4 rfl (fun c4 => absurd c4 (nI_ge hk (by decide))) (fun c4 => ?_)
      refine am_aload_n 7 dX3_cancelAll_7 rfl ?_
      refine am_getfield 8 dX3_cancelAll_8 fX3_11 (by repeat (first | assumption | exact am_ue | refine am_un (by first | assumption | decide | omega) ?_)) rfl ?_
      refine am_iload_n 11 dX3_cancelAll_11 rfl ?_
      refine am_aaload 12 dX3_cancelAll_12 rfl (by repeat (first | assumption | exact am_ue | refine am_un (by first | assumption | decide | omega) ?_)) (am_ix hk (by decide)) ?_
      rw [nI_clamp (n := k) (by omega), m_rf_at (by omega), show va_rf (some (h + 2 + 2 * k)) = Value.ref (h + 2 + 2 * k) from rfl]
      refine am_getfield 13 dX3_cancelAll_13 fX3_22 (by repeat (first | assumption | exact am_ue | refine am_un (by first | assumption | decide | omega) ?_)) rfl ?_
      refine am_if_eq 16 29 dX3_cancelAll_16 rfl (fun c16 => absurd c16 hth) (fun c16 => ?_)
      refine am_aload_n 19 dX3_cancelAll_19 rfl ?_
      refine am_aload_n 20 dX3_cancelAll_20 rfl ?_
      refine am_getfield 21 dX3_cancelAll_21 fX3_11 (by repeat (first | assumption | exact am_ue | refine am_un (by first | assumption | decide | omega) ?_)) rfl ?_
      refine am_iload_n 24 dX3_cancelAll_24 rfl ?_
      refine am_aaload 25 dX3_cancelAll_25 rfl (by repeat (first | assumption | exact am_ue | refine am_un (by first | assumption | decide | omega) ?_)) (am_ix hk (by decide)) ?_
      rw [nI_clamp (n := k) (by omega), m_rf_at (by omega), show va_rf (some (h + 2 + 2 * k)) = Value.ref (h + 2 + 2 * k) from rfl]
      refine am_V1 26 (mc' := 0) (ms' := 0) (rc := 0) (rs := 0) dX3_cancelAll_26 lX3_48 ⟨by decide, by decide⟩ (by repeat (first | assumption | exact am_ue | refine am_un (by first | assumption | decide | omega) ?_)) (Nat.le_of_ble_eq_true rfl) (Nat.le_of_ble_eq_true rfl) (s_cancel hk hcl g1 g2 hd e6 haF) ?_
      rintro o n' f1 ⟨rfl, rfl, q1, ⟨C', q2, q3⟩, q4⟩
      refine am_ctI ?_
      refine am_iinc 29 (v := nI (k + 1)) dX3_cancelAll_29 rfl (nI_1 (k)) (by decide) ?_
      refine am_goto 32 (tgt := 2) dX3_cancelAll_32 rfl ?_
      refine ih f1 ⟨⟨_, _, C', q1, q2, m_Inv.cancel g3 hS.2.2.1 hk hth hcl e6 q3, fun j hj => ?_⟩, fun x a b => (q4 x a b).trans (g4 x a b)⟩
      by_cases e : j = k
      · subst e; rw [am_up_eq]; rfl
      · rw [am_up_ne e]; exact g5 j (by omega)
/-- one more area -/
theorem m_Inv.tell (hI : m_Inv told T K be li ca C) (ht : told < 4) : m_Inv (told + 1) T K be li ca C := by
  obtain ⟨h1, h2, h3, h4⟩ := hI
  refine ⟨fun k hk => ?_, h2, fun a ha => ?_, fun a ha => h4 a (by omega)⟩
  · obtain ⟨r1, r2, r3⟩ := h1 k hk
    refine ⟨r1, r2, fun z => ?_⟩
    obtain ⟨s1, s2, s3, s4⟩ := r3 z
    exact ⟨s1, s2, s3.imp id (fun ⟨a, q1, q2⟩ => ⟨a, by omega, q2⟩), s4⟩
  · by_cases e : a = told
    · subst e
      have z := h4 a (Nat.le_refl _)
      refine ⟨by rw [z]; exact Nat.zero_le _, fun kd _ _ => ?_⟩
      have e0 : m_N (m_cl K a kd) 5 = 0 := by
        refine Nat.le_zero.mp (Nat.le_trans (m_N_le (g' := fun _ => 0) fun j hj => ?_) (Nat.le_refl _))
        unfold m_cl
        rw [if_neg]
        · exact Nat.le_refl _
        · rintro ⟨q1, -, q3⟩
          rcases ((h1 j hj).2.2 q1).2.2.1 with q4 | ⟨b, q4, q5⟩
          · exact m_nIm (by omega) (q4.symm.trans q3)
          · have := m_nI4 (by omega) (by omega) (q5.symm.trans q3)
            omega
      rw [z, e0]
      omega
    · exact h3 a (by omega)
theorem s_tell {l r t b : Int32} (hS : m_As f s told A C) (ht : told < 4) : AM mX1_tell 0 0 [.ref s, .int l, .int r, .int t, .int b] n f (fun o n' f' => o = .inl (some (.int (nI told))) ∧ n' = n ∧ m_As f' s (told + 1) (va_up A told (fun j => match j with | 0 => l | 1 => r | 2 => t | _ => b)) C ∧ ∀ x, (x < s ∨ s + 9 < x) → f' x = f x) := by
  obtain ⟨h0, h1, ht4, hA⟩ := hS
  obtain ⟨h2, h3⟩ := hA told ht
  show AW mX1_tell 0 0 0 [some (.ref s), some (.int l), some (.int r), some (.int t), some (.int b), none] [] n f _
  refine am_aload_n 0 dX1_tell_0 rfl ?_
  refine am_getfield 1 dX1_tell_1 fX1_18 (by repeat (first | assumption | exact am_ue | refine am_un (by first | assumption | decide | omega) ?_)) rfl ?_
  refine am_iconst 4 (v := 4) dX1_tell_4 (by decide) ?_
  refine am_icmp_lt 5 10 dX1_tell_5 rfl (fun c5 => ?_) (fun c5 => absurd (nI_lt ht (by decide)) c5)
  refine am_aload_n 10 dX1_tell_10 rfl ?_
  refine am_getfield 11 dX1_tell_11 fX1_11 (by repeat (first | assumption | exact am_ue | refine am_un (by first | assumption | decide | omega) ?_)) rfl ?_
  refine am_aload_n 14 dX1_tell_14 rfl ?_
  refine am_getfield 15 dX1_tell_15 fX1_18 (by repeat (first | assumption | exact am_ue | refine am_un (by first | assumption | decide | omega) ?_)) rfl ?_
  refine am_aaload 18 dX1_tell_18 rfl (by repeat (first | assumption | exact am_ue | refine am_un (by first | assumption | decide | omega) ?_)) (am_ix ht (by decide)) ?_
  rw [nI_clamp (n := told) (by omega), m_rf_at (by omega), show va_rf (some (s + 2 + 2 * told)) = Value.ref (s + 2 + 2 * told) from rfl]
  refine am_astore 19 dX1_tell_19 (by decide) ?_
  refine am_aload 21 dX1_tell_21 rfl ?_
  refine am_iload_n 23 dX1_tell_23 rfl ?_
  refine am_putfield 24 dX1_tell_24 pX1_22 (by repeat (first | assumption | exact am_ue | refine am_un (by first | assumption | decide | omega) ?_)) rfl rfl (Nat.le_of_ble_eq_true rfl) ?_
  refine am_aload 27 dX1_tell_27 rfl ?_
  refine am_iload_n 29 dX1_tell_29 rfl ?_
  refine am_putfield 30 dX1_tell_30 pX1_25 (by repeat (first | assumption | exact am_ue | refine am_un (by first | assumption | decide | omega) ?_)) rfl rfl (Nat.le_of_ble_eq_true rfl) ?_
  refine am_aload 33 dX1_tell_33 rfl ?_
  refine am_iload_n 35 dX1_tell_35 rfl ?_
  refine am_putfield 36 dX1_tell_36 pX1_28 (by repeat (first | assumption | exact am_ue | refine am_un (by first | assumption | decide | omega) ?_)) rfl rfl (Nat.le_of_ble_eq_true rfl) ?_
  refine am_aload 39 dX1_tell_39 rfl ?_
  refine am_iload 41 dX1_tell_41 rfl ?_
  refine am_putfield 43 dX1_tell_43 pX1_31 (by repeat (first | assumption | exact am_ue | refine am_un (by first | assumption | decide | omega) ?_)) rfl rfl (Nat.le_of_ble_eq_true rfl) ?_
  refine am_aload_n 46 dX1_tell_46 rfl ?_
  refine am_dup 47 dX1_tell_47 rfl ?_
  refine am_getfield 48 dX1_tell_48 fX1_18 (by repeat (first | assumption | exact am_ue | refine am_un (by first | assumption | decide | omega) ?_)) rfl ?_
  refine am_iconst 51 (v := 1) dX1_tell_51 (by decide) ?_
  refine am_iadd 52 dX1_tell_52 ?_
  rw [nI_1]
  refine am_putfield 53 dX1_tell_53 pX1_18 (by repeat (first | assumption | exact am_ue | refine am_un (by first | assumption | decide | omega) ?_)) rfl rfl (Nat.le_of_ble_eq_true rfl) ?_
  refine am_aload_n 56 dX1_tell_56 rfl ?_
  refine am_getfield 57 dX1_tell_57 fX1_18 (by repeat (first | assumption | exact am_ue | refine am_un (by first | assumption | decide | omega) ?_)) rfl ?_
  refine am_iconst 60 (v := 1) dX1_tell_60 (by decide) ?_
  refine am_isub 61 dX1_tell_61 ?_
  rw [m_sub1]
  refine am_ireturn 62 dX1_tell_62 rfl rfl ?_
  refine ⟨rfl, rfl, ⟨am_ue, am_un (by omega) ?_, by omega, fun k hk => ?_⟩, fun x hx => by repeat rw [am_up_ne (by omega)]⟩
  · repeat (first | exact h1 | refine am_un (by omega) ?_)
  · by_cases e : k = told
    · subst e
      rw [am_up_eq]
      exact ⟨am_un (by omega) am_ue, by repeat (first | exact h3 | refine am_un (by omega) ?_)⟩
    · rw [am_up_ne e]
      exact (hA k hk).on fun x a b => by repeat rw [am_up_ne (by omega)]
theorem s_countOf {a kd : Nat} (hS : m_As f s told A C) (ha : a < told) (hk : kd < 4) : AM mX1_countOf 0 0 [.ref s, .int (nI a), .int (nI kd)] n f (am_is (some (.int (nI (C a kd)))) n f) := by
  show AW mX1_countOf 0 0 0 [some (.ref s), some (.int (nI a)), some (.int (nI kd))] [] n f _
  obtain ⟨h0, h1, ht, hA⟩ := hS
  have ha4 : a < 4 := by omega
  obtain ⟨g0, g1⟩ := hA a ha4
  have n1 : ¬ nI a < 0 := fun z => absurd ((nI_ltI (b := 0) (by omega) (by decide)).mp z) (by omega)
  have n2 : ¬ nI kd < 0 := fun z => absurd ((nI_ltI (b := 0) (by omega) (by decide)).mp z) (by omega)
  refine am_iload_n 0 dX1_countOf_0 rfl ?_
  refine am_if_lt 1 35 dX1_countOf_1 rfl (fun c1 => absurd c1 n1) (fun c1 => ?_)
  refine am_iload_n 4 dX1_countOf_4 rfl ?_
  refine am_aload_n 5 dX1_countOf_5 rfl ?_
  refine am_getfield 6 dX1_countOf_6 fX1_18 (by repeat (first | assumption | exact am_ue | refine am_un (by first | assumption | decide | omega) ?_)) rfl ?_
  refine am_icmp_ge 9 35 dX1_countOf_9 rfl (fun c9 => absurd c9 (nI_ge ha (by omega))) (fun c9 => ?_)
  refine am_iload_n 12 dX1_countOf_12 rfl ?_
  refine am_if_lt 13 35 dX1_countOf_13 rfl (fun c13 => absurd c13 n2) (fun c13 => ?_)
  refine am_iload_n 16 dX1_countOf_16 rfl ?_
  refine am_iconst 17 (v := 4) dX1_countOf_17 (by decide) ?_
  refine am_icmp_ge 18 35 dX1_countOf_18 rfl (fun c18 => absurd c18 (nI_ge hk (by decide))) (fun c18 => ?_)
  refine am_aload_n 21 dX1_countOf_21 rfl ?_
  refine am_getfield 22 dX1_countOf_22 fX1_11 (by repeat (first | assumption | exact am_ue | refine am_un (by first | assumption | decide | omega) ?_)) rfl ?_
  refine am_iload_n 25 dX1_countOf_25 rfl ?_
  refine am_aaload 26 dX1_countOf_26 rfl (by repeat (first | assumption | exact am_ue | refine am_un (by first | assumption | decide | omega) ?_)) (am_ix ha4 (by decide)) ?_
  rw [nI_clamp (n := a) (by omega), m_rf_at (by omega), show va_rf (some (s + 2 + 2 * a)) = Value.ref (s + 2 + 2 * a) from rfl]
  refine am_getfield 27 dX1_countOf_27 fX1_38 (by repeat (first | assumption | exact am_ue | refine am_un (by first | assumption | decide | omega) ?_)) rfl ?_
  refine am_iload_n 30 dX1_countOf_30 rfl ?_
  refine am_iaload 31 dX1_countOf_31 rfl (by repeat (first | assumption | exact am_ue | refine am_un (by first | assumption | decide | omega) ?_)) (am_ix hk (by decide)) ?_
  rw [nI_clamp (n := kd) (by omega)]
  refine am_goto 32 (tgt := 36) dX1_countOf_32 rfl ?_
  exact am_ireturn 36 dX1_countOf_36 rfl rfl ⟨rfl, rfl, rfl⟩
theorem s_guessAt {c a : Nat} {κ : m_K} {isY : Bool} (h : m_kC f c κ) (k : m_kOk κ) (ha : a ≤ 9) : AM mX2_guessAt 0 0 [.ref c, .int (nI a), .int (m_bi isY)] n f (am_is (some (.float (m_guess κ (nI a) isY))) n f) := by
  show AW mX2_guessAt 0 0 0 [some (.ref c), some (.int (nI a)), some (.int (m_bi isY)), none, none] [] n f _
  have h0 := h.1
  obtain ⟨b1, b2, b3⟩ := f_at9 (isY := isY) k ha
  have b4 := f_n32 b1.1
  cases isY
  · refine am_iload_n 0 dX2_guessAt_0 rfl ?_
    refine am_if_eq 1 19 dX2_guessAt_1 rfl (fun c1 => ?_) (fun c1 => absurd rfl c1)
    refine am_aload_n 19 dX2_guessAt_19 rfl ?_
    refine am_getfield 20 dX2_guessAt_20 fX2_41 (by repeat (first | assumption | exact am_ue | refine am_un (by first | assumption | decide | omega) ?_)) rfl ?_
    refine am_aload_n 23 dX2_guessAt_23 rfl ?_
    refine am_getfield 24 dX2_guessAt_24 fX2_48 (by repeat (first | assumption | exact am_ue | refine am_un (by first | assumption | decide | omega) ?_)) rfl ?_
    refine am_iload_n 27 dX2_guessAt_27 rfl ?_
    refine am_i2f 28 dX2_guessAt_28 ?_
    refine am_fmul 29 dX2_guessAt_29 b2 ?_
    refine am_fadd 30 dX2_guessAt_30 b4 ?_
    refine am_fstore_n 31 dX2_guessAt_31 (by decide) ?_
    refine am_iload_n 32 dX2_guessAt_32 rfl ?_
    refine am_if_eq 33 41 dX2_guessAt_33 rfl (fun c33 => ?_) (fun c33 => absurd rfl c33)
    refine am_ldcf 41 dX2_guessAt_41 kX2_69 ?_
    refine am_fstore 43 dX2_guessAt_43 (by decide) ?_
    refine am_fload_n 45 dX2_guessAt_45 rfl ?_
    refine am_fconst0 46 dX2_guessAt_46 ?_
    refine am_fcmp 47 dX2_guessAt_47 ?_
    refine am_if_ge 48 53 dX2_guessAt_48 rfl (fun c48 => ?_) (fun c48 => ?_)
    · have e : m_guess κ (nI a) false = (if Op.cmpValue (FP.fcmp (m_at9 κ (nI a) false) 1113587712) .l ≤ 0 then m_at9 κ (nI a) false else 1113587712) := if_pos c48
      refine am_fload_n 53 dX2_guessAt_53 rfl ?_
      refine am_fload 54 dX2_guessAt_54 rfl ?_
      refine am_fcmp 56 dX2_guessAt_56 ?_
      refine am_if_le 57 65 dX2_guessAt_57 rfl (fun c57 => ?_) (fun c57 => ?_)
      · rw [e.trans (if_pos c57)]
        refine am_fload_n 65 dX2_guessAt_65 rfl ?_
        exact am_freturn 66 dX2_guessAt_66 rfl ⟨rfl, rfl, rfl⟩
      · rw [e.trans (if_neg c57)]
        refine am_fload 60 dX2_guessAt_60 rfl ?_
        refine am_goto 62 (tgt := 66) dX2_guessAt_62 rfl ?_
        exact am_freturn 66 dX2_guessAt_66 rfl ⟨rfl, rfl, rfl⟩
    · have e : m_guess κ (nI a) false = FP.fconst0 := if_neg c48
      rw [e]
      refine am_fconst0 51 dX2_guessAt_51 ?_
      exact am_freturn 52 dX2_guessAt_52 rfl ⟨rfl, rfl, rfl⟩
  · refine am_iload_n 0 dX2_guessAt_0 rfl ?_
    refine am_if_eq 1 19 dX2_guessAt_1 rfl (fun c1 => absurd c1 (by decide)) (fun c1 => ?_)
    refine am_aload_n 4 dX2_guessAt_4 rfl ?_
    refine am_getfield 5 dX2_guessAt_5 fX2_45 (by repeat (first | assumption | exact am_ue | refine am_un (by first | assumption | decide | omega) ?_)) rfl ?_
    refine am_aload_n 8 dX2_guessAt_8 rfl ?_
    refine am_getfield 9 dX2_guessAt_9 fX2_51 (by repeat (first | assumption | exact am_ue | refine am_un (by first | assumption | decide | omega) ?_)) rfl ?_
    refine am_iload_n 12 dX2_guessAt_12 rfl ?_
    refine am_i2f 13 dX2_guessAt_13 ?_
    refine am_fmul 14 dX2_guessAt_14 b3 ?_
    refine am_fadd 15 dX2_guessAt_15 b4 ?_
    refine am_goto 16 (tgt := 31) dX2_guessAt_16 rfl ?_
    refine am_fstore_n 31 dX2_guessAt_31 (by decide) ?_
    refine am_iload_n 32 dX2_guessAt_32 rfl ?_
    refine am_if_eq 33 41 dX2_guessAt_33 rfl (fun c33 => absurd c33 (by decide)) (fun c33 => ?_)
    refine am_ldcf 36 dX2_guessAt_36 kX2_68 ?_
    refine am_goto 38 (tgt := 43) dX2_guessAt_38 rfl ?_
    refine am_fstore 43 dX2_guessAt_43 (by decide) ?_
    refine am_fload_n 45 dX2_guessAt_45 rfl ?_
    refine am_fconst0 46 dX2_guessAt_46 ?_
    refine am_fcmp 47 dX2_guessAt_47 ?_
    refine am_if_ge 48 53 dX2_guessAt_48 rfl (fun c48 => ?_) (fun c48 => ?_)
    · have e : m_guess κ (nI a) true = (if Op.cmpValue (FP.fcmp (m_at9 κ (nI a) true) 1109393408) .l ≤ 0 then m_at9 κ (nI a) true else 1109393408) := if_pos c48
      refine am_fload_n 53 dX2_guessAt_53 rfl ?_
      refine am_fload 54 dX2_guessAt_54 rfl ?_
      refine am_fcmp 56 dX2_guessAt_56 ?_
      refine am_if_le 57 65 dX2_guessAt_57 rfl (fun c57 => ?_) (fun c57 => ?_)
      · rw [e.trans (if_pos c57)]
        refine am_fload_n 65 dX2_guessAt_65 rfl ?_
        exact am_freturn 66 dX2_guessAt_66 rfl ⟨rfl, rfl, rfl⟩
      · rw [e.trans (if_neg c57)]
        refine am_fload 60 dX2_guessAt_60 rfl ?_
        refine am_goto 62 (tgt := 66) dX2_guessAt_62 rfl ?_
        exact am_freturn 66 dX2_guessAt_66 rfl ⟨rfl, rfl, rfl⟩
    · have e : m_guess κ (nI a) true = FP.fconst0 := if_neg c48
      rw [e]
      refine am_fconst0 51 dX2_guessAt_51 ?_
      exact am_freturn 52 dX2_guessAt_52 rfl ⟨rfl, rfl, rfl⟩
end Mor
