/-! ===== areas and hand: what they hold, the small methods ===== -/
theorem am_ctI {M : am_M} {rc rs pc n : Nat} {L : List (Option Value)} {rest : List Value} {f : Nat → am_C} {P : am_P} {v : Option Value} (k : AW M rc rs (pc + 3) L (v.toList ++ rest) n f P) : am_ct M rc rs pc L rest P (.inl v) n f := k
/-- told, the areas' sides, their counts -/
def m_As (f : Nat → am_C) (s told : Nat) (A : Nat → Nat → Int32) (C : Nat → Nat → Nat) : Prop := f s = .inr (1, [.ref (s + 1), .int (nI told)]) ∧ f (s + 1) = .inl (4, 4, .inr (.inr (.inr (.inr (m_rf 4 (s + 2)))))) ∧ told ≤ 4 ∧ ∀ k, k < 4 → m_Ar f (s + 2 + 2 * k) (A k 0) (A k 1) (A k 2) (A k 3) (fun j => nI (C k j))
theorem m_As.on {f f' : Nat → am_C} {s told : Nat} {A : Nat → Nat → Int32} {C : Nat → Nat → Nat} (h : m_As f s told A C) (e : ∀ x, s ≤ x → x ≤ s + 9 → f' x = f x) : m_As f' s told A C :=
  ⟨(e _ (by omega) (by omega)).trans h.1, (e _ (by omega) (by omega)).trans h.2.1, h.2.2.1, fun k hk => (h.2.2.2 k hk).on fun x a b => e x (by omega) (by omega)⟩
/-- the contacts, the areas' place, began, lifted, cancelled -/
def m_Ha (f : Nat → am_C) (h s : Nat) (K : Nat → m_K) (be li ca : Nat) : Prop := f h = .inr (3, [.ref (h + 1), .ref s, .int (nI be), .int (nI li), .int (nI ca)]) ∧ f (h + 1) = .inl (5, 5, .inr (.inr (.inr (.inr (m_rf 5 (h + 2)))))) ∧ ∀ k, k < 5 → m_kC f (h + 2 + 2 * k) (K k)
theorem m_Ha.on {f f' : Nat → am_C} {h s be li ca : Nat} {K : Nat → m_K} (hh : m_Ha f h s K be li ca) (e : ∀ x, h ≤ x → x ≤ h + 11 → f' x = f x) : m_Ha f' h s K be li ca :=
  ⟨(e _ (by omega) (by omega)).trans hh.1, (e _ (by omega) (by omega)).trans hh.2.1, fun k hk => (hh.2.2 k hk).on fun x a b => e x (by omega) (by omega)⟩
/-- a contact's object changed, its apart array not -/
theorem m_Ha.con {f : Nat → am_C} {h s be li ca k : Nat} {K : Nat → m_K} {κ : m_K} (hh : m_Ha f h s K be li ca) (hk : k < 5) (e : κ.2.2 = (K k).2.2) : m_Ha (va_up f (h + 2 + 2 * k) (.inr (2, m_kF (h + 2 + 2 * k) κ))) h s (va_up K k κ) be li ca := by
  refine ⟨am_un (by omega) hh.1, am_un (by omega) hh.2.1, fun j hj => ?_⟩
  by_cases hjk : j = k
  · subst hjk
    rw [am_up_eq]
    exact ⟨am_ue, am_un (by omega) (by rw [e]; exact (hh.2.2 j hj).2)⟩
  · rw [am_up_ne hjk]
    exact (hh.2.2 j hj).on fun x a b => am_up_ne (by omega)
section Ar
variable {s told n h be li ca : Nat} {A : Nat → Nat → Int32} {C : Nat → Nat → Nat} {f : Nat → am_C} {K : Nat → m_K}
theorem s_holds {a : Nat} {l r t b x y : Int32} {c : Nat → Int32} (hA : m_Ar f a l r t b c) : AM mX0_holds 0 0 [.ref a, .int x, .int y] n f (am_is (some (.int (if l ≤ x ∧ x ≤ r ∧ t ≤ y ∧ y ≤ b then 1 else 0))) n f) := by
  show AW mX0_holds 0 0 0 [some (.ref a), some (.int x), some (.int y)] [] n f _
  have h0 := hA.1
  refine am_iload_n 0 dX0_holds_0 rfl ?_
  refine am_aload_n 1 dX0_holds_1 rfl ?_
  refine am_getfield 2 dX0_holds_2 fX0_15 (by repeat (first | assumption | exact am_ue | refine am_un (by first | assumption | decide | omega) ?_)) rfl ?_
  refine am_icmp_lt 5 36 dX0_holds_5 rfl (fun c5 => ?_) (fun c5 => ?_)
  · rw [if_neg (fun z => absurd z.1 (Int32.not_le.mpr c5))]
    refine am_iconst 36 (v := 0) dX0_holds_36 (by decide) ?_
    exact am_ireturn 37 dX0_holds_37 rfl rfl ⟨rfl, rfl, rfl⟩
  · refine am_iload_n 8 dX0_holds_8 rfl ?_
    refine am_aload_n 9 dX0_holds_9 rfl ?_
    refine am_getfield 10 dX0_holds_10 fX0_19 (by repeat (first | assumption | exact am_ue | refine am_un (by first | assumption | decide | omega) ?_)) rfl ?_
    refine am_icmp_gt 13 36 dX0_holds_13 rfl (fun c13 => ?_) (fun c13 => ?_)
    · rw [if_neg (fun z => absurd z.2.1 (Int32.not_le.mpr c13))]
      refine am_iconst 36 (v := 0) dX0_holds_36 (by decide) ?_
      exact am_ireturn 37 dX0_holds_37 rfl rfl ⟨rfl, rfl, rfl⟩
    · refine am_iload_n 16 dX0_holds_16 rfl ?_
      refine am_aload_n 17 dX0_holds_17 rfl ?_
      refine am_getfield 18 dX0_holds_18 fX0_22 (by repeat (first | assumption | exact am_ue | refine am_un (by first | assumption | decide | omega) ?_)) rfl ?_
      refine am_icmp_lt 21 36 dX0_holds_21 rfl (fun c21 => ?_) (fun c21 => ?_)
      · rw [if_neg (fun z => absurd z.2.2.1 (Int32.not_le.mpr c21))]
        refine am_iconst 36 (v := 0) dX0_holds_36 (by decide) ?_
        exact am_ireturn 37 dX0_holds_37 rfl rfl ⟨rfl, rfl, rfl⟩
      · refine am_iload_n 24 dX0_holds_24 rfl ?_
        refine am_aload_n 25 dX0_holds_25 rfl ?_
        refine am_getfield 26 dX0_holds_26 fX0_25 (by repeat (first | assumption | exact am_ue | refine am_un (by first | assumption | decide | omega) ?_)) rfl ?_
        refine am_icmp_gt 29 36 dX0_holds_29 rfl (fun c29 => ?_) (fun c29 => ?_)
        · rw [if_neg (fun z => absurd z.2.2.2 (Int32.not_le.mpr c29))]
          refine am_iconst 36 (v := 0) dX0_holds_36 (by decide) ?_
          exact am_ireturn 37 dX0_holds_37 rfl rfl ⟨rfl, rfl, rfl⟩
        · rw [if_pos ⟨Int32.not_lt.mp c5, Int32.not_lt.mp c13, Int32.not_lt.mp c21, Int32.not_lt.mp c29⟩]
          refine am_iconst 32 (v := 1) dX0_holds_32 (by decide) ?_
          refine am_goto 33 (tgt := 37) dX0_holds_33 rfl ?_
          exact am_ireturn 37 dX0_holds_37 rfl rfl ⟨rfl, rfl, rfl⟩
theorem s_has {x : Nat} (hx : x < 5) (hh : m_Ha f h s K be li ca) : AM mX3_has 0 0 [.ref h, .int (nI x)] n f (am_is (some (.int (if (K x).1 0 ≠ 0 then 1 else 0))) n f) := by
  show AW mX3_has 0 0 0 [some (.ref h), some (.int (nI x))] [] n f _
  have hc := (hh.2.2 x hx).1
  have g0 : ¬ nI x < 0 := fun z => absurd ((nI_ltI (b := 0) (by omega) (by decide)).mp z) (by omega)
  obtain ⟨h0, h1, -⟩ := hh
  refine am_iload_n 0 dX3_has_0 rfl ?_
  refine am_if_lt 1 25 dX3_has_1 rfl (fun c1 => absurd c1 g0) (fun c1 => ?_)
  refine am_iload_n 4 dX3_has_4 rfl ?_
  refine am_iconst 5 (v := 5) dX3_has_5 (by decide) ?_
  refine am_icmp_ge 6 25 dX3_has_6 rfl (fun c6 => absurd c6 (nI_ge hx (by decide))) (fun c6 => ?_)
  refine am_aload_n 9 dX3_has_9 rfl ?_
  refine am_getfield 10 dX3_has_10 fX3_11 (by repeat (first | assumption | exact am_ue | refine am_un (by first | assumption | decide | omega) ?_)) rfl ?_
  refine am_iload_n 13 dX3_has_13 rfl ?_
  refine am_aaload 14 dX3_has_14 rfl (by repeat (first | assumption | exact am_ue | refine am_un (by first | assumption | decide | omega) ?_)) (am_ix hx (by decide)) ?_
  rw [nI_clamp (n := x) (by omega), m_rf_at (by omega), show va_rf (some (h + 2 + 2 * x)) = Value.ref (h + 2 + 2 * x) from rfl]
  refine am_getfield 15 dX3_has_15 fX3_22 (by repeat (first | assumption | exact am_ue | refine am_un (by first | assumption | decide | omega) ?_)) rfl ?_
  refine am_if_eq 18 25 dX3_has_18 rfl (fun c18 => ?_) (fun c18 => ?_)
  · rw [if_neg (fun z => z c18)]
    refine am_iconst 25 (v := 0) dX3_has_25 (by decide) ?_
    exact am_ireturn 26 dX3_has_26 rfl rfl ⟨rfl, rfl, rfl⟩
  · rw [if_pos c18]
    refine am_iconst 21 (v := 1) dX3_has_21 (by decide) ?_
    refine am_goto 22 (tgt := 26) dX3_has_22 rfl ?_
    exact am_ireturn 26 dX3_has_26 rfl rfl ⟨rfl, rfl, rfl⟩
def m_th (K : Nat → m_K) (k : Nat) : Nat := if (K k).1 0 ≠ 0 then 1 else 0
def m_N (g : Nat → Nat) : Nat → Nat
  | 0 => 0
  | k + 1 => m_N g k + g k
theorem s_countContacts (hh : m_Ha f h s K be li ca) : AM mX3_countContacts 0 0 [.ref h] n f (am_is (some (.int (nI (m_N (m_th K) 5)))) n f) := by
  show AW mX3_countContacts 0 0 0 [some (.ref h), none, none] [] n f _
  have hh2 := hh
  obtain ⟨h0, h1, hK⟩ := hh
  refine am_iconst 0 (v := 0) dX3_countContacts_0 (by decide) ?_
  refine am_istore_n 1 dX3_countContacts_1 (by decide) ?_
  refine am_iconst 2 (v := 0) dX3_countContacts_2 (by decide) ?_
  refine am_istore_n 3 dX3_countContacts_3 (by decide) ?_
  refine am_for 5 (fun k (w : Int32) => w = nI (m_N (m_th K) k)) (fun k w => AW mX3_countContacts 0 0 4 [some (.ref h), some (.int w), some (.int (nI k))] [] n f _) ?_ ?_ 0 0 (by omega) rfl
  · rintro w rfl
    refine am_iload_n 4 dX3_countContacts_4 rfl ?_
    refine am_iconst 5 (v := 5) dX3_countContacts_5 (by decide) ?_
    refine am_icmp_ge 6 35 dX3_countContacts_6 rfl (fun c6 => ?_) (fun c6 => absurd (by decide) c6)
    refine am_iload_n 35 dX3_countContacts_35 rfl ?_
    exact am_ireturn 36 dX3_countContacts_36 rfl rfl ⟨rfl, rfl, rfl⟩
  · rintro k w hk rfl ih
    have hc := (hK k hk).1
    have e : ∀ b : Nat, b = m_th K k → nI (m_N (m_th K) k) + nI b = nI (m_N (m_th K) (k + 1)) := fun b hb => by
      rw [hb]
      exact nI_add _ _
    refine am_iload_n 4 dX3_countContacts_4 rfl ?_
    refine am_iconst 5 (v := 5) dX3_countContacts_5 (by decide) ?_
    refine am_icmp_ge 6 35 dX3_countContacts_6 rfl (fun c6 => absurd c6 (nI_ge hk (by decide))) (fun c6 => ?_)
    refine am_iload_n 9 dX3_countContacts_9 rfl ?_
    refine am_aload_n 10 dX3_countContacts_10 rfl ?_
    refine am_getfield 11 dX3_countContacts_11 fX3_11 (by repeat (first | assumption | exact am_ue | refine am_un (by first | assumption | decide | omega) ?_)) rfl ?_
    refine am_iload_n 14 dX3_countContacts_14 rfl ?_
    refine am_aaload 15 dX3_countContacts_15 rfl (by repeat (first | assumption | exact am_ue | refine am_un (by first | assumption | decide | omega) ?_)) (am_ix hk (by decide)) ?_
    rw [nI_clamp (n := k) (by omega), m_rf_at (by omega), show va_rf (some (h + 2 + 2 * k)) = Value.ref (h + 2 + 2 * k) from rfl]
    refine am_getfield 16 dX3_countContacts_16 fX3_22 (by repeat (first | assumption | exact am_ue | refine am_un (by first | assumption | decide | omega) ?_)) rfl ?_
    refine am_if_eq 19 26 dX3_countContacts_19 rfl (fun c19 => ?_) (fun c19 => ?_)
    · have e0 := e 0 (by unfold m_th; rw [if_neg (fun z => z c19)])
      refine am_iconst 26 (v := 0) dX3_countContacts_26 (by decide) ?_
      refine am_iadd 27 dX3_countContacts_27 ?_
      first | rw [show nI (m_N (m_th K) k) + (0 : Int32) = nI (m_N (m_th K) (k + 1)) from e0] | rw [show nI (m_N (m_th K) k) + (1 : Int32) = nI (m_N (m_th K) (k + 1)) from e0]
      refine am_istore_n 28 dX3_countContacts_28 (by decide) ?_
      refine am_iinc 29 (v := nI (k + 1)) dX3_countContacts_29 rfl (nI_1 (k)) (by decide) ?_
      refine am_goto 32 (tgt := 4) dX3_countContacts_32 rfl ?_
      exact ih _ rfl
    · have e0 := e 1 (by unfold m_th; rw [if_pos c19])
      refine am_iconst 22 (v := 1) dX3_countContacts_22 (by decide) ?_
      refine am_goto 23 (tgt := 27) dX3_countContacts_23 rfl ?_
      refine am_iadd 27 dX3_countContacts_27 ?_
      first | rw [show nI (m_N (m_th K) k) + (0 : Int32) = nI (m_N (m_th K) (k + 1)) from e0] | rw [show nI (m_N (m_th K) k) + (1 : Int32) = nI (m_N (m_th K) (k + 1)) from e0]
      refine am_istore_n 28 dX3_countContacts_28 (by decide) ?_
      refine am_iinc 29 (v := nI (k + 1)) dX3_countContacts_29 rfl (nI_1 (k)) (by decide) ?_
      refine am_goto 32 (tgt := 4) dX3_countContacts_32 rfl ?_
      exact ih _ rfl
def m_in (K : Nat → m_K) (a : Int32) (k : Nat) : Nat := if (K k).1 0 ≠ 0 ∧ (K k).1 7 = a then 1 else 0
theorem s_contactsIn {a : Int32} (hh : m_Ha f h s K be li ca) : AM mX3_contactsIn 0 0 [.ref h, .int a] n f (am_is (some (.int (nI (m_N (m_in K a) 5)))) n f) := by
  show AW mX3_contactsIn 0 0 0 [some (.ref h), some (.int a), none, none] [] n f _
  have hh2 := hh
  obtain ⟨h0, h1, hK⟩ := hh
  refine am_iconst 0 (v := 0) dX3_contactsIn_0 (by decide) ?_
  refine am_istore_n 1 dX3_contactsIn_1 (by decide) ?_
  refine am_iconst 2 (v := 0) dX3_contactsIn_2 (by decide) ?_
  refine am_istore_n 3 dX3_contactsIn_3 (by decide) ?_
  refine am_for 5 (fun k (w : Int32) => w = nI (m_N (m_in K a) k)) (fun k w => AW mX3_contactsIn 0 0 4 [some (.ref h), some (.int a), some (.int w), some (.int (nI k))] [] n f _) ?_ ?_ 0 0 (by omega) rfl
  · rintro w rfl
    refine am_iload_n 4 dX3_contactsIn_4 rfl ?_
    refine am_iconst 5 (v := 5) dX3_contactsIn_5 (by decide) ?_
    refine am_icmp_ge 6 48 dX3_contactsIn_6 rfl (fun c6 => ?_) (fun c6 => absurd (by decide) c6)
    refine am_iload_n 48 dX3_contactsIn_48 rfl ?_
    exact am_ireturn 49 dX3_contactsIn_49 rfl rfl ⟨rfl, rfl, rfl⟩
  · rintro k w hk rfl ih
    have hc := (hK k hk).1
    have e : ∀ b : Nat, b = m_in K a k → nI (m_N (m_in K a) k) + nI b = nI (m_N (m_in K a) (k + 1)) := fun b hb => by
      rw [hb]
      exact nI_add _ _
    refine am_iload_n 4 dX3_contactsIn_4 rfl ?_
    refine am_iconst 5 (v := 5) dX3_contactsIn_5 (by decide) ?_
    refine am_icmp_ge 6 48 dX3_contactsIn_6 rfl (fun c6 => absurd c6 (nI_ge hk (by decide))) (fun c6 => ?_)
    refine am_iload_n 9 dX3_contactsIn_9 rfl ?_
    refine am_aload_n 10 dX3_contactsIn_10 rfl ?_
    refine am_getfield 11 dX3_contactsIn_11 fX3_11 (by repeat (first | assumption | exact am_ue | refine am_un (by first | assumption | decide | omega) ?_)) rfl ?_
    refine am_iload_n 14 dX3_contactsIn_14 rfl ?_
    refine am_aaload 15 dX3_contactsIn_15 rfl (by repeat (first | assumption | exact am_ue | refine am_un (by first | assumption | decide | omega) ?_)) (am_ix hk (by decide)) ?_
    rw [nI_clamp (n := k) (by omega), m_rf_at (by omega), show va_rf (some (h + 2 + 2 * k)) = Value.ref (h + 2 + 2 * k) from rfl]
    refine am_getfield 16 dX3_contactsIn_16 fX3_22 (by repeat (first | assumption | exact am_ue | refine am_un (by first | assumption | decide | omega) ?_)) rfl ?_
    refine am_if_eq 19 39 dX3_contactsIn_19 rfl (fun c19 => ?_) (fun c19 => ?_)
    · have e0 := e 0 (by unfold m_in; rw [if_neg (fun z => z.1 c19)])
      refine am_iconst 39 (v := 0) dX3_contactsIn_39 (by decide) ?_
      refine am_iadd 40 dX3_contactsIn_40 ?_
      first | rw [show nI (m_N (m_in K a) k) + (0 : Int32) = nI (m_N (m_in K a) (k + 1)) from e0] | rw [show nI (m_N (m_in K a) k) + (1 : Int32) = nI (m_N (m_in K a) (k + 1)) from e0]
      refine am_istore_n 41 dX3_contactsIn_41 (by decide) ?_
      refine am_iinc 42 (v := nI (k + 1)) dX3_contactsIn_42 rfl (nI_1 (k)) (by decide) ?_
      refine am_goto 45 (tgt := 4) dX3_contactsIn_45 rfl ?_
      exact ih _ rfl
    · refine am_aload_n 22 dX3_contactsIn_22 rfl ?_
      refine am_getfield 23 dX3_contactsIn_23 fX3_11 (by repeat (first | assumption | exact am_ue | refine am_un (by first | assumption | decide | omega) ?_)) rfl ?_
      refine am_iload_n 26 dX3_contactsIn_26 rfl ?_
      refine am_aaload 27 dX3_contactsIn_27 rfl (by repeat (first | assumption | exact am_ue | refine am_un (by first | assumption | decide | omega) ?_)) (am_ix hk (by decide)) ?_
      rw [nI_clamp (n := k) (by omega), m_rf_at (by omega), show va_rf (some (h + 2 + 2 * k)) = Value.ref (h + 2 + 2 * k) from rfl]
      refine am_getfield 28 dX3_contactsIn_28 fX3_26 (by repeat (first | assumption | exact am_ue | refine am_un (by first | assumption | decide | omega) ?_)) rfl ?_
      refine am_iload_n 31 dX3_contactsIn_31 rfl ?_
      refine am_icmp_ne 32 39 dX3_contactsIn_32 rfl (fun c32 => ?_) (fun c32 => ?_)
      · have e0 := e 0 (by unfold m_in; rw [if_neg (fun z => c32 z.2)])
        refine am_iconst 39 (v := 0) dX3_contactsIn_39 (by decide) ?_
        refine am_iadd 40 dX3_contactsIn_40 ?_
        first | rw [show nI (m_N (m_in K a) k) + (0 : Int32) = nI (m_N (m_in K a) (k + 1)) from e0] | rw [show nI (m_N (m_in K a) k) + (1 : Int32) = nI (m_N (m_in K a) (k + 1)) from e0]
        refine am_istore_n 41 dX3_contactsIn_41 (by decide) ?_
        refine am_iinc 42 (v := nI (k + 1)) dX3_contactsIn_42 rfl (nI_1 (k)) (by decide) ?_
        refine am_goto 45 (tgt := 4) dX3_contactsIn_45 rfl ?_
        exact ih _ rfl
      · have e0 := e 1 (by unfold m_in; rw [if_pos ⟨c19, c32⟩])
        refine am_iconst 35 (v := 1) dX3_contactsIn_35 (by decide) ?_
        refine am_goto 36 (tgt := 40) dX3_contactsIn_36 rfl ?_
        refine am_iadd 40 dX3_contactsIn_40 ?_
        first | rw [show nI (m_N (m_in K a) k) + (0 : Int32) = nI (m_N (m_in K a) (k + 1)) from e0] | rw [show nI (m_N (m_in K a) k) + (1 : Int32) = nI (m_N (m_in K a) (k + 1)) from e0]
        refine am_istore_n 41 dX3_contactsIn_41 (by decide) ?_
        refine am_iinc 42 (v := nI (k + 1)) dX3_contactsIn_42 rfl (nI_1 (k)) (by decide) ?_
        refine am_goto 45 (tgt := 4) dX3_contactsIn_45 rfl ?_
        exact ih _ rfl
theorem s_freeName (hh : m_Ha f h s K be li ca) : AM mX3_freeName 0 0 [.ref h] n f (fun o n' f' => n = n' ∧ f = f' ∧ ((o = .inl (some (.int (-1))) ∧ ∀ k, k < 5 → (K k).1 0 ≠ 0) ∨ ∃ k, k < 5 ∧ (K k).1 0 = 0 ∧ o = .inl (some (.int (nI k))))) := by
  show AW mX3_freeName 0 0 0 [some (.ref h), none] [] n f _
  have hh2 := hh
  obtain ⟨h0, h1, hK⟩ := hh
  refine am_iconst 0 (v := 0) dX3_freeName_0 (by decide) ?_
  refine am_istore_n 1 dX3_freeName_1 (by decide) ?_
  refine am_for 5 (fun k (_ : Unit) => ∀ j, j < k → (K j).1 0 ≠ 0) (fun k _ => AW mX3_freeName 0 0 2 [some (.ref h), some (.int (nI k))] [] n f _) ?_ ?_ 0 () (by omega) (fun j hj => absurd hj (by omega))
  · rintro ⟨⟩ hall
    refine am_iload_n 2 dX3_freeName_2 rfl ?_
    refine am_iconst 3 (v := 5) dX3_freeName_3 (by decide) ?_
    refine am_icmp_ge 4 27 dX3_freeName_4 rfl (fun c4 => ?_) (fun c4 => absurd (by decide) c4)
    refine am_iconst 27 (v := (-1)) dX3_freeName_27 (by decide) ?_
    refine am_ireturn 28 dX3_freeName_28 rfl rfl ?_
    exact ⟨rfl, rfl, Or.inl ⟨rfl, hall⟩⟩
  · rintro k ⟨⟩ hk hall ih
    have hc := (hK k hk).1
    refine am_iload_n 2 dX3_freeName_2 rfl ?_
    refine am_iconst 3 (v := 5) dX3_freeName_3 (by decide) ?_
    refine am_icmp_ge 4 27 dX3_freeName_4 rfl (fun c4 => absurd c4 (nI_ge hk (by decide))) (fun c4 => ?_)
    refine am_aload_n 7 dX3_freeName_7 rfl ?_
    refine am_getfield 8 dX3_freeName_8 fX3_11 (by repeat (first | assumption | exact am_ue | refine am_un (by first | assumption | decide | omega) ?_)) rfl ?_
    refine am_iload_n 11 dX3_freeName_11 rfl ?_
    refine am_aaload 12 dX3_freeName_12 rfl (by repeat (first | assumption | exact am_ue | refine am_un (by first | assumption | decide | omega) ?_)) (am_ix hk (by decide)) ?_
    rw [nI_clamp (n := k) (by omega), m_rf_at (by omega), show va_rf (some (h + 2 + 2 * k)) = Value.ref (h + 2 + 2 * k) from rfl]
    refine am_getfield 13 dX3_freeName_13 fX3_22 (by repeat (first | assumption | exact am_ue | refine am_un (by first | assumption | decide | omega) ?_)) rfl ?_
    refine am_if_ne 16 21 dX3_freeName_16 rfl (fun c16 => ?_) (fun c16 => ?_)
    · refine am_iinc 21 (v := nI (k + 1)) dX3_freeName_21 rfl (nI_1 (k)) (by decide) ?_
      refine am_goto 24 (tgt := 2) dX3_freeName_24 rfl ?_
      refine ih () fun j hj => ?_
      by_cases e : j = k
      · subst e; exact c16
      · exact hall j (by omega)
    · refine am_iload_n 19 dX3_freeName_19 rfl ?_
      refine am_ireturn 20 dX3_freeName_20 rfl rfl ?_
      exact ⟨rfl, rfl, Or.inr ⟨k, hk, c16, rfl⟩⟩
end Ar
