/-! ===== the hand: counts kept, contacts cancelled, lifted, claimed ===== -/
section Cnt
variable {s told n : Nat} {A : Nat → Nat → Int32} {C : Nat → Nat → Nat} {f : Nat → am_C}
/-- a contact outside all areas is counted nowhere -/
theorem s_count_out {kd more : Int32} (hS : m_As f s told A C) : AM mX1_count 0 0 [.ref s, .int (-1), .int kd, .int more] n f (am_is none n f) := by
  show AW mX1_count 0 0 0 [some (.ref s), some (.int (-1)), some (.int kd), some (.int more)] [] n f _
  refine am_iload_n 0 dX1_count_0 rfl ?_
  refine am_if_lt 1 36 dX1_count_1 rfl (fun c1 => ?_) (fun c1 => absurd (by decide) c1)
  exact am_return 36 dX1_count_36 rfl ⟨rfl, rfl, rfl⟩
theorem s_count {a kd v : Nat} {more : Int32} (hS : m_As f s told A C) (ha : a < told) (hk : kd < 4) (hv : nI (C a kd) + more = nI v) : AM mX1_count 0 0 [.ref s, .int (nI a), .int (nI kd), .int more] n f (fun o n' f' => o = .inl none ∧ n' = n ∧ m_As f' s told A (m_cu C a kd v) ∧ ∀ x, (x < s ∨ s + 9 < x) → f' x = f x) := by
  show AW mX1_count 0 0 0 [some (.ref s), some (.int (nI a)), some (.int (nI kd)), some (.int more)] [] n f _
  have hS2 := hS
  obtain ⟨h0, h1, ht, hA⟩ := hS
  have ha4 : a < 4 := by omega
  obtain ⟨g0, g1⟩ := hA a ha4
  have n1 : ¬ nI a < 0 := fun z => absurd ((nI_ltI (b := 0) (by omega) (by decide)).mp z) (by omega)
  have n2 : ¬ nI kd < 0 := fun z => absurd ((nI_ltI (b := 0) (by omega) (by decide)).mp z) (by omega)
  refine am_iload_n 0 dX1_count_0 rfl ?_
  refine am_if_lt 1 36 dX1_count_1 rfl (fun c1 => absurd c1 n1) (fun c1 => ?_)
  refine am_iload_n 4 dX1_count_4 rfl ?_
  refine am_aload_n 5 dX1_count_5 rfl ?_
  refine am_getfield 6 dX1_count_6 fX1_18 (by repeat (first | assumption | exact am_ue | refine am_un (by first | assumption | decide | omega) ?_)) rfl ?_
  refine am_icmp_ge 9 36 dX1_count_9 rfl (fun c9 => absurd c9 (nI_ge ha (by omega))) (fun c9 => ?_)
  refine am_iload_n 12 dX1_count_12 rfl ?_
  refine am_if_lt 13 36 dX1_count_13 rfl (fun c13 => absurd c13 n2) (fun c13 => ?_)
  refine am_iload_n 16 dX1_count_16 rfl ?_
  refine am_iconst 17 (v := 4) dX1_count_17 (by decide) ?_
  refine am_icmp_ge 18 36 dX1_count_18 rfl (fun c18 => absurd c18 (nI_ge hk (by decide))) (fun c18 => ?_)
  refine am_aload_n 21 dX1_count_21 rfl ?_
  refine am_getfield 22 dX1_count_22 fX1_11 (by repeat (first | assumption | exact am_ue | refine am_un (by first | assumption | decide | omega) ?_)) rfl ?_
  refine am_iload_n 25 dX1_count_25 rfl ?_
  refine am_aaload 26 dX1_count_26 rfl (by repeat (first | assumption | exact am_ue | refine am_un (by first | assumption | decide | omega) ?_)) (am_ix ha4 (by decide)) ?_
  rw [nI_clamp (n := a) (by omega), m_rf_at (by omega), show va_rf (some (s + 2 + 2 * a)) = Value.ref (s + 2 + 2 * a) from rfl]
  refine am_getfield 27 dX1_count_27 fX1_38 (by repeat (first | assumption | exact am_ue | refine am_un (by first | assumption | decide | omega) ?_)) rfl ?_
  refine am_iload_n 30 dX1_count_30 rfl ?_
  refine am_dup2 31 dX1_count_31 rfl rfl ?_
  refine am_iaload 32 dX1_count_32 rfl (by repeat (first | assumption | exact am_ue | refine am_un (by first | assumption | decide | omega) ?_)) (am_ix hk (by decide)) ?_
  rw [nI_clamp (n := kd) (by omega)]
  refine am_iload_n 33 dX1_count_33 rfl ?_
  refine am_iadd 34 dX1_count_34 ?_
  rw [hv]
  refine am_iastore 35 dX1_count_35 rfl (by repeat (first | assumption | exact am_ue | refine am_un (by first | assumption | decide | omega) ?_)) (am_ix hk (by decide)) ?_
  rw [nI_clamp (n := kd) (by omega)]
  refine am_return 36 dX1_count_36 rfl ?_
  refine ⟨rfl, rfl, ⟨am_un (by omega) h0, am_un (by omega) h1, ht, fun j hj => ?_⟩, fun x hx => am_up_ne (by omega)⟩
  by_cases e : j = a
  · subst e
    refine ⟨am_un (by omega) g0, ?_⟩
    rw [am_up_eq]
    congr 4
    funext i
    by_cases ei : i = kd
    · subst ei; rw [am_up_eq, m_cu_eq]
    · rw [am_up_ne ei, m_cu_ne (Or.inr ei)]
  · have hj2 := hA j hj
    have : (fun i => nI (m_cu C a kd v j i)) = fun i => nI (C j i) := by funext i; rw [m_cu_ne (Or.inl e)]
    rw [this]
    exact hj2.on fun x a b => am_up_ne (by omega)
end Cnt
section Cn2
variable {s told n h be li ca : Nat} {A : Nat → Nat → Int32} {C : Nat → Nat → Nat} {f : Nat → am_C} {K : Nat → m_K}
theorem s_countU {ar : Int32} {kd : Nat} (hS : m_As f s told A C) (ha : ar = -1 ∨ ∃ a, a < told ∧ ar = nI a) (hk : kd < 4) : AM mX1_count 0 0 [.ref s, .int ar, .int (nI kd), .int 1] n f (fun o n' f' => o = .inl none ∧ n' = n ∧ (∃ C', m_As f' s told A C' ∧ m_Ct C C' ar kd true) ∧ ∀ x, (x < s ∨ s + 9 < x) → f' x = f x) := by
  rcases ha with rfl | ⟨a, ha, rfl⟩
  · refine AW.mono ?_ (s_count_out hS)
    rintro o n' f' ⟨rfl, rfl, rfl⟩
    exact ⟨rfl, rfl, ⟨C, hS, Or.inl ⟨rfl, rfl⟩⟩, fun x _ => rfl⟩
  · refine AW.mono ?_ (s_count (v := C a kd + 1) hS ha hk (nI_1 _))
    rintro o n' f' ⟨rfl, rfl, h1, h2⟩
    exact ⟨rfl, rfl, ⟨_, h1, Or.inr ⟨a, by have := hS.2.2.1; omega, rfl, rfl⟩⟩, h2⟩
theorem s_countD {ar : Int32} {kd : Nat} (hS : m_As f s told A C) (ha : ar = -1 ∨ ∃ a, a < told ∧ ar = nI a ∧ 0 < C a kd ∧ C a kd < 2 ^ 31) (hk : kd < 4) : AM mX1_count 0 0 [.ref s, .int ar, .int (nI kd), .int (-1)] n f (fun o n' f' => o = .inl none ∧ n' = n ∧ (∃ C', m_As f' s told A C' ∧ m_Ct C C' ar kd false) ∧ ∀ x, (x < s ∨ s + 9 < x) → f' x = f x) := by
  rcases ha with rfl | ⟨a, ha, rfl, hp, hb⟩
  · refine AW.mono ?_ (s_count_out hS)
    rintro o n' f' ⟨rfl, rfl, rfl⟩
    exact ⟨rfl, rfl, ⟨C, hS, Or.inl ⟨rfl, rfl⟩⟩, fun x _ => rfl⟩
  · refine AW.mono ?_ (s_count (v := C a kd - 1) hS ha hk ?_)
    · rintro o n' f' ⟨rfl, rfl, h1, h2⟩
      exact ⟨rfl, rfl, ⟨_, h1, Or.inr ⟨a, by have := hS.2.2.1; omega, rfl, rfl⟩⟩, h2⟩
    · obtain ⟨v, hv⟩ : ∃ v, C a kd = v + 1 := ⟨C a kd - 1, by omega⟩
      rw [hv, Nat.add_sub_cancel, ← nI_1]
      show nI v + 1 + (-1) = nI v
      rw [Int32.add_assoc]
      show nI v + 0 = nI v
      exact Int32.add_zero _
theorem s_claim {k kd : Nat} (hk : k < 5) (hkd : kd < 4) (hh : m_Ha f h s K be li ca) (hS : m_As f s told A C) (hd : s + 9 < h ∨ h + 11 < s) (ha : (K k).1 7 = -1 ∨ ∃ a, a < told ∧ (K k).1 7 = nI a) : AM mX3_claim 0 0 [.ref h, .ref (h + 2 + 2 * k), .int (nI kd)] n f (fun o n' f' => o = .inl none ∧ n' = n ∧ m_Ha f' h s (va_up K k (m_claim (K k) kd)) be li ca ∧ (∃ C', m_As f' s told A C' ∧ m_Ct C C' ((K k).1 7) kd true) ∧ ∀ x, (x < s ∨ s + 9 < x) → (x < h ∨ h + 11 < x) → f' x = f x) := by
  show AW mX3_claim 0 0 0 [some (.ref h), some (.ref (h + 2 + 2 * k)), some (.int (nI kd))] [] n f _
  have hc := (hh.2.2 k hk).1
  have hh1 := hh.con hk (κ := m_claim (K k) kd) rfl
  have h1 := hh1.1
  have hS1 : m_As (va_up f (h + 2 + 2 * k) (.inr (2, m_kF (h + 2 + 2 * k) (m_claim (K k) kd)))) s told A C := hS.on fun x a b => am_up_ne (by omega)
  have hs0 := hS1.1
  have e7 : (m_claim (K k) kd).1 7 = (K k).1 7 := rfl
  refine am_aload_n 0 dX3_claim_0 rfl ?_
  refine am_iload_n 1 dX3_claim_1 rfl ?_
  refine am_putfield 2 dX3_claim_2 pX3_55 (by repeat (first | assumption | exact am_ue | refine am_un (by first | assumption | decide | omega) ?_)) rfl rfl (Nat.le_of_ble_eq_true rfl) ?_
  rw [show List.set (m_kF (h + 2 + 2 * k) (K k)) 6 (.int (nI kd)) = m_kF (h + 2 + 2 * k) (m_claim (K k) kd) from rfl]
  refine am_aload_n 5 dX3_claim_5 rfl ?_
  refine am_getfield 6 dX3_claim_6 fX3_17 (by repeat (first | assumption | exact am_ue | refine am_un (by first | assumption | decide | omega) ?_)) rfl ?_
  refine am_aload_n 9 dX3_claim_9 rfl ?_
  refine am_getfield 10 dX3_claim_10 fX3_26 (by repeat (first | assumption | exact am_ue | refine am_un (by first | assumption | decide | omega) ?_)) rfl ?_
  refine am_iload_n 13 dX3_claim_13 rfl ?_
  refine am_iconst 14 (v := 1) dX3_claim_14 (by decide) ?_
  refine am_V3 15 (mc' := 0) (ms' := 0) (rc := 0) (rs := 0) dX3_claim_15 lX3_58 ⟨by decide, by decide⟩ (by repeat (first | assumption | exact am_ue | refine am_un (by first | assumption | decide | omega) ?_)) (Nat.le_of_ble_eq_true rfl) (Nat.le_of_ble_eq_true rfl) (s_countU hS1 ha hkd) ?_
  rintro o n' f' ⟨rfl, rfl, ⟨C', q1, q2⟩, q3⟩
  refine am_ctI ?_
  refine am_return 18 dX3_claim_18 rfl ?_
  exact ⟨rfl, rfl, hh1.on fun x a b => q3 x (by omega), ⟨C', q1, q2⟩, fun x a b => (q3 x a).trans (am_up_ne (by omega))⟩
end Cn2
section Cn3
variable {s told n h be li ca : Nat} {A : Nat → Nat → Int32} {C : Nat → Nat → Nat} {f : Nat → am_C} {K : Nat → m_K}
/-- the hand's own counts changed -/
theorem m_Ha.own {be' li' ca' : Nat} (hh : m_Ha f h s K be li ca) : m_Ha (va_up f h (.inr (3, [.ref (h + 1), .ref s, .int (nI be'), .int (nI li'), .int (nI ca')]))) h s K be' li' ca' :=
  ⟨am_ue, am_un (by omega) hh.2.1, fun k hk => (hh.2.2 k hk).on fun x a b => am_up_ne (by omega)⟩
theorem s_cancel {k cl : Nat} (hk : k < 5) (hcl : cl < 4) (hh : m_Ha f h s K be li ca) (hS : m_As f s told A C) (hd : s + 9 < h ∨ h + 11 < s) (e6 : (K k).1 6 = nI cl) (ha : cl = 0 ∨ (K k).1 7 = -1 ∨ ∃ a, a < told ∧ (K k).1 7 = nI a ∧ 0 < C a cl ∧ C a cl < 2 ^ 31) : AM mX3_cancel 0 0 [.ref h, .ref (h + 2 + 2 * k)] n f (fun o n' f' => o = .inl none ∧ n' = n ∧ m_Ha f' h s (va_up K k (m_gone (K k))) be li (ca + 1) ∧ (∃ C', m_As f' s told A C' ∧ ((cl = 0 ∧ C' = C) ∨ (cl ≠ 0 ∧ m_Ct C C' ((K k).1 7) cl false))) ∧ ∀ x, (x < s ∨ s + 9 < x) → (x < h ∨ h + 11 < x) → f' x = f x) := by
  show AW mX3_cancel 0 0 0 [some (.ref h), some (.ref (h + 2 + 2 * k))] [] n f _
  have hc := (hh.2.2 k hk).1
  have hh1 := hh.con hk (κ := m_gone (K k)) rfl
  have hh2 := hh1.own (be' := be) (li' := li) (ca' := ca + 1)
  have h1 := hh1.1
  have h2 := hh2.1
  have hc2 := (hh2.2.2 k hk).1
  rw [am_up_eq] at hc2
  have hS2 : m_As (va_up (va_up f (h + 2 + 2 * k) (.inr (2, m_kF (h + 2 + 2 * k) (m_gone (K k))))) h (.inr (3, [.ref (h + 1), .ref s, .int (nI be), .int (nI li), .int (nI (ca + 1))]))) s told A C := hS.on fun x a b => (am_up_ne (by omega)).trans (am_up_ne (by omega))
  have e7 : (m_gone (K k)).1 7 = (K k).1 7 := rfl
  have e62 : (m_gone (K k)).1 6 = nI cl := e6
  have hs0 := hS2.1
  refine am_aload_n 0 dX3_cancel_0 rfl ?_
  refine am_iconst 1 (v := 0) dX3_cancel_1 (by decide) ?_
  refine am_putfield 2 dX3_cancel_2 pX3_22 (by repeat (first | assumption | exact am_ue | refine am_un (by first | assumption | decide | omega) ?_)) rfl rfl (Nat.le_of_ble_eq_true rfl) ?_
  rw [show List.set (m_kF (h + 2 + 2 * k) (K k)) 0 (.int 0) = m_kF (h + 2 + 2 * k) (m_gone (K k)) from rfl]
  refine am_aload_n 5 dX3_cancel_5 rfl ?_
  refine am_dup 6 dX3_cancel_6 rfl ?_
  refine am_getfield 7 dX3_cancel_7 fX3_52 (by repeat (first | assumption | exact am_ue | refine am_un (by first | assumption | decide | omega) ?_)) rfl ?_
  refine am_iconst 10 (v := 1) dX3_cancel_10 (by decide) ?_
  refine am_iadd 11 dX3_cancel_11 ?_
  rw [nI_1]
  refine am_putfield 12 dX3_cancel_12 pX3_52 (by repeat (first | assumption | exact am_ue | refine am_un (by first | assumption | decide | omega) ?_)) rfl rfl (Nat.le_of_ble_eq_true rfl) ?_
  rw [show List.set [Value.ref (h + 1), .ref s, .int (nI be), .int (nI li), .int (nI ca)] 4 (.int (nI (ca + 1))) = [.ref (h + 1), .ref s, .int (nI be), .int (nI li), .int (nI (ca + 1))] from rfl]
  refine am_aload_n 15 dX3_cancel_15 rfl ?_
  refine am_getfield 16 dX3_cancel_16 fX3_55 (by repeat (first | assumption | exact am_ue | refine am_un (by first | assumption | decide | omega) ?_)) rfl ?_
  rw [e62]
  refine am_if_eq 19 38 dX3_cancel_19 rfl (fun c19 => ?_) (fun c19 => ?_)
  · have z0 : cl = 0 := (nI_eq (b := 0) (by omega) (by decide)).mp c19
    refine am_return 38 dX3_cancel_38 rfl ?_
    first | exact ⟨rfl, rfl, hh2, ⟨C, hS2, Or.inl ⟨z0, rfl⟩⟩, fun x a b => (am_up_ne (by omega)).trans (am_up_ne (by omega))⟩ | exact ⟨rfl, rfl, hh2.on fun x a b => q3 x (by omega), ⟨C', q1, Or.inr ⟨z0, q2⟩⟩, fun x a b => (q3 x a).trans ((am_up_ne (by omega)).trans (am_up_ne (by omega)))⟩
  · have z0 : cl ≠ 0 := fun z => c19 (by rw [z]; rfl)
    refine am_aload_n 22 dX3_cancel_22 rfl ?_
    refine am_getfield 23 dX3_cancel_23 fX3_17 (by repeat (first | assumption | exact am_ue | refine am_un (by first | assumption | decide | omega) ?_)) rfl ?_
    refine am_aload_n 26 dX3_cancel_26 rfl ?_
    refine am_getfield 27 dX3_cancel_27 fX3_26 (by repeat (first | assumption | exact am_ue | refine am_un (by first | assumption | decide | omega) ?_)) rfl ?_
    refine am_aload_n 30 dX3_cancel_30 rfl ?_
    refine am_getfield 31 dX3_cancel_31 fX3_55 (by repeat (first | assumption | exact am_ue | refine am_un (by first | assumption | decide | omega) ?_)) rfl ?_
    rw [e62]
    refine am_iconst 34 (v := (-1)) dX3_cancel_34 (by decide) ?_
    refine am_V3 35 (mc' := 0) (ms' := 0) (rc := 0) (rs := 0) dX3_cancel_35 lX3_58 ⟨by decide, by decide⟩ (by repeat (first | assumption | exact am_ue | refine am_un (by first | assumption | decide | omega) ?_)) (Nat.le_of_ble_eq_true rfl) (Nat.le_of_ble_eq_true rfl) (s_countD hS2 (ha.resolve_left z0) hcl) ?_
    rintro o n' f' ⟨rfl, rfl, ⟨C', q1, q2⟩, q3⟩
    refine am_ctI ?_
    refine am_return 38 dX3_cancel_38 rfl ?_
    first | exact ⟨rfl, rfl, hh2, ⟨C, hS2, Or.inl ⟨z0, rfl⟩⟩, fun x a b => (am_up_ne (by omega)).trans (am_up_ne (by omega))⟩ | exact ⟨rfl, rfl, hh2.on fun x a b => q3 x (by omega), ⟨C', q1, Or.inr ⟨z0, q2⟩⟩, fun x a b => (q3 x a).trans ((am_up_ne (by omega)).trans (am_up_ne (by omega)))⟩
theorem s_lift {k cl : Nat} (hk : k < 5) (hcl : cl < 4) (hh : m_Ha f h s K be li ca) (hS : m_As f s told A C) (hd : s + 9 < h ∨ h + 11 < s) (e6 : (K k).1 6 = nI cl) (ha : (K k).1 7 = -1 ∨ ∃ a, a < told ∧ (K k).1 7 = nI a) : AM mX3_lift 0 0 [.ref h, .ref (h + 2 + 2 * k)] n f (fun o n' f' => o = .inl none ∧ n' = n ∧ m_Ha f' h s (va_up K k (m_gone (K k))) be (li + 1) ca ∧ (∃ C', m_As f' s told A C' ∧ (C' = C ∨ (cl = 0 ∧ m_Ct C C' ((K k).1 7) 0 true))) ∧ ∀ x, (x < s ∨ s + 9 < x) → (x < h ∨ h + 11 < x) → f' x = f x) := by
  show AW mX3_lift 0 0 0 [some (.ref h), some (.ref (h + 2 + 2 * k))] [] n f _
  have hc := (hh.2.2 k hk).1
  have hh1 := hh.con hk (κ := m_gone (K k)) rfl
  have hh2 := hh1.own (be' := be) (li' := li + 1) (ca' := ca)
  have h1 := hh1.1
  have h2 := hh2.1
  have hc2 := (hh2.2.2 k hk).1
  rw [am_up_eq] at hc2
  have hS2 : m_As (va_up (va_up f (h + 2 + 2 * k) (.inr (2, m_kF (h + 2 + 2 * k) (m_gone (K k))))) h (.inr (3, [.ref (h + 1), .ref s, .int (nI be), .int (nI (li + 1)), .int (nI ca)]))) s told A C := hS.on fun x a b => (am_up_ne (by omega)).trans (am_up_ne (by omega))
  have e62 : (m_gone (K k)).1 6 = nI cl := e6
  have hs0 := hS2.1
  refine am_aload_n 0 dX3_lift_0 rfl ?_
  refine am_iconst 1 (v := 0) dX3_lift_1 (by decide) ?_
  refine am_putfield 2 dX3_lift_2 pX3_22 (by repeat (first | assumption | exact am_ue | refine am_un (by first | assumption | decide | omega) ?_)) rfl rfl (Nat.le_of_ble_eq_true rfl) ?_
  rw [show List.set (m_kF (h + 2 + 2 * k) (K k)) 0 (.int 0) = m_kF (h + 2 + 2 * k) (m_gone (K k)) from rfl]
  refine am_aload_n 5 dX3_lift_5 rfl ?_
  refine am_dup 6 dX3_lift_6 rfl ?_
  refine am_getfield 7 dX3_lift_7 fX3_98 (by repeat (first | assumption | exact am_ue | refine am_un (by first | assumption | decide | omega) ?_)) rfl ?_
  refine am_iconst 10 (v := 1) dX3_lift_10 (by decide) ?_
  refine am_iadd 11 dX3_lift_11 ?_
  rw [nI_1]
  refine am_putfield 12 dX3_lift_12 pX3_98 (by repeat (first | assumption | exact am_ue | refine am_un (by first | assumption | decide | omega) ?_)) rfl rfl (Nat.le_of_ble_eq_true rfl) ?_
  rw [show List.set [Value.ref (h + 1), .ref s, .int (nI be), .int (nI li), .int (nI ca)] 3 (.int (nI (li + 1))) = [.ref (h + 1), .ref s, .int (nI be), .int (nI (li + 1)), .int (nI ca)] from rfl]
  refine am_aload_n 15 dX3_lift_15 rfl ?_
  refine am_getfield 16 dX3_lift_16 fX3_55 (by repeat (first | assumption | exact am_ue | refine am_un (by first | assumption | decide | omega) ?_)) rfl ?_
  rw [e62]
  refine am_if_ne 19 43 dX3_lift_19 rfl (fun c19 => ?_) (fun c19 => ?_)
  · refine am_return 43 dX3_lift_43 rfl ?_
    first | exact ⟨rfl, rfl, hh2, ⟨C, hS2, Or.inl rfl⟩, fun x a b => (am_up_ne (by omega)).trans (am_up_ne (by omega))⟩ | exact ⟨rfl, rfl, hh2.on fun x a b => q3 x (by omega), ⟨C', q1, Or.inr ⟨z0, q2⟩⟩, fun x a b => (q3 x a).trans ((am_up_ne (by omega)).trans (am_up_ne (by omega)))⟩
  · have z0 : cl = 0 := (nI_eq (b := 0) (by omega) (by decide)).mp c19
    refine am_aload_n 22 dX3_lift_22 rfl ?_
    refine am_getfield 23 dX3_lift_23 fX3_101 (by repeat (first | assumption | exact am_ue | refine am_un (by first | assumption | decide | omega) ?_)) rfl ?_
    refine am_iconst 26 (v := 4) dX3_lift_26 (by decide) ?_
    refine am_icmp_gt 27 43 dX3_lift_27 rfl (fun c27 => ?_) (fun c27 => ?_)
    · refine am_return 43 dX3_lift_43 rfl ?_
      first | exact ⟨rfl, rfl, hh2, ⟨C, hS2, Or.inl rfl⟩, fun x a b => (am_up_ne (by omega)).trans (am_up_ne (by omega))⟩ | exact ⟨rfl, rfl, hh2.on fun x a b => q3 x (by omega), ⟨C', q1, Or.inr ⟨z0, q2⟩⟩, fun x a b => (q3 x a).trans ((am_up_ne (by omega)).trans (am_up_ne (by omega)))⟩
    · refine am_aload_n 30 dX3_lift_30 rfl ?_
      refine am_getfield 31 dX3_lift_31 fX3_17 (by repeat (first | assumption | exact am_ue | refine am_un (by first | assumption | decide | omega) ?_)) rfl ?_
      refine am_aload_n 34 dX3_lift_34 rfl ?_
      refine am_getfield 35 dX3_lift_35 fX3_26 (by repeat (first | assumption | exact am_ue | refine am_un (by first | assumption | decide | omega) ?_)) rfl ?_
      refine am_iconst 38 (v := 0) dX3_lift_38 (by decide) ?_
      refine am_iconst 39 (v := 1) dX3_lift_39 (by decide) ?_
      refine am_V3 40 (mc' := 0) (ms' := 0) (rc := 0) (rs := 0) dX3_lift_40 lX3_58 ⟨by decide, by decide⟩ (by repeat (first | assumption | exact am_ue | refine am_un (by first | assumption | decide | omega) ?_)) (Nat.le_of_ble_eq_true rfl) (Nat.le_of_ble_eq_true rfl) (s_countU hS2 ha (by decide)) ?_
      rintro o n' f' ⟨rfl, rfl, ⟨C', q1, q2⟩, q3⟩
      refine am_ctI ?_
      refine am_return 43 dX3_lift_43 rfl ?_
      first | exact ⟨rfl, rfl, hh2, ⟨C, hS2, Or.inl rfl⟩, fun x a b => (am_up_ne (by omega)).trans (am_up_ne (by omega))⟩ | exact ⟨rfl, rfl, hh2.on fun x a b => q3 x (by omega), ⟨C', q1, Or.inr ⟨z0, q2⟩⟩, fun x a b => (q3 x a).trans ((am_up_ne (by omega)).trans (am_up_ne (by omega)))⟩
end Cn3
