/-! ===== the class's constructors ===== -/
section Init
variable {i n : Nat} {f : Nat → am_C}
theorem s_Sheet_init (h0 : f i = .inr (6, [.null, .null, .int 0])) : AM mX6_init 2 96 [.ref i] (i + 1) f (fun o n' f' => o = .inl none ∧ n' = i + 3 ∧ m_Sh f' i (fun _ => 0) (fun _ => 0) 0 ∧ ∀ x, x < i → f' x = f x) := by
  show AW mX6_init 2 96 0 [some (.ref i)] [] (i + 1) f _
  refine am_aload_n 0 dX6_init_0 rfl ?_
  refine am_OI 1 dX6_init_1 lX6_3 (by decide) (Nat.le_of_ble_eq_true rfl) ?_
  refine am_aload_n 4 dX6_init_4 rfl ?_
  refine am_bipush 5 (v := 48) dX6_init_5 (by decide) ?_
  refine am_newints 7 (t := 0) (N := 48) (rc := 1) (rs := 48) dX6_init_7 ac_int rfl (by decide) (by decide) (by decide) ?_
  refine am_putfinal 9 dX6_init_9 rfl qX6_9 (by repeat (first | assumption | exact am_ue | refine am_un (by first | assumption | decide | omega) ?_)) rfl rfl (Nat.le_of_ble_eq_true rfl) ?_
  refine am_aload_n 12 dX6_init_12 rfl ?_
  refine am_bipush 13 (v := 48) dX6_init_13 (by decide) ?_
  refine am_newints 15 (t := 0) (N := 48) (rc := 0) (rs := 0) dX6_init_15 ac_int rfl (by decide) (by decide) (by decide) ?_
  refine am_putfinal 17 dX6_init_17 rfl qX6_15 (by repeat (first | assumption | exact am_ue | refine am_un (by first | assumption | decide | omega) ?_)) rfl rfl (Nat.le_of_ble_eq_true rfl) ?_
  refine am_return 20 dX6_init_20 rfl ?_
  exact ⟨rfl, rfl, ⟨am_ue, am_un (by omega) (am_un (by omega) (am_un (by omega) am_ue)), am_un (by omega) am_ue⟩, fun x hx => by rw [am_up_ne (by omega), am_up_ne (by omega), am_up_ne (by omega), am_up_ne (by omega)]⟩
theorem s_Picture_init (h0 : f i = .inr (5, [.null, .null, .null, .null, .null, .null, .int 0, .int 0])) : AM mX5_init 6 288 [.ref i] (i + 1) f (fun o n' f' => o = .inl none ∧ n' = i + 7 ∧ m_Pic f' i (fun _ => 0) (fun _ => 0) (fun _ => 0) (fun _ => 0) (fun _ => 0) (fun _ => 0) 0 0 ∧ ∀ x, x < i → f' x = f x) := by
  show AW mX5_init 6 288 0 [some (.ref i)] [] (i + 1) f _
  refine am_aload_n 0 dX5_init_0 rfl ?_
  refine am_OI 1 dX5_init_1 lX5_3 (by decide) (Nat.le_of_ble_eq_true rfl) ?_
  refine am_aload_n 4 dX5_init_4 rfl ?_
  refine am_bipush 5 (v := 48) dX5_init_5 (by decide) ?_
  refine am_newints 7 (t := 0) (N := 48) (rc := 5) (rs := 240) dX5_init_7 ac_int rfl (by decide) (by decide) (by decide) ?_
  refine am_putfinal 9 dX5_init_9 rfl qX5_9 (by repeat (first | assumption | exact am_ue | refine am_un (by first | assumption | decide | omega) ?_)) rfl rfl (Nat.le_of_ble_eq_true rfl) ?_
  refine am_aload_n 12 dX5_init_12 rfl ?_
  refine am_bipush 13 (v := 48) dX5_init_13 (by decide) ?_
  refine am_newints 15 (t := 0) (N := 48) (rc := 4) (rs := 192) dX5_init_15 ac_int rfl (by decide) (by decide) (by decide) ?_
  refine am_putfinal 17 dX5_init_17 rfl qX5_15 (by repeat (first | assumption | exact am_ue | refine am_un (by first | assumption | decide | omega) ?_)) rfl rfl (Nat.le_of_ble_eq_true rfl) ?_
  refine am_aload_n 20 dX5_init_20 rfl ?_
  refine am_bipush 21 (v := 48) dX5_init_21 (by decide) ?_
  refine am_newints 23 (t := 0) (N := 48) (rc := 3) (rs := 144) dX5_init_23 ac_int rfl (by decide) (by decide) (by decide) ?_
  refine am_putfinal 25 dX5_init_25 rfl qX5_18 (by repeat (first | assumption | exact am_ue | refine am_un (by first | assumption | decide | omega) ?_)) rfl rfl (Nat.le_of_ble_eq_true rfl) ?_
  refine am_aload_n 28 dX5_init_28 rfl ?_
  refine am_bipush 29 (v := 48) dX5_init_29 (by decide) ?_
  refine am_newints 31 (t := 0) (N := 48) (rc := 2) (rs := 96) dX5_init_31 ac_int rfl (by decide) (by decide) (by decide) ?_
  refine am_putfinal 33 dX5_init_33 rfl qX5_21 (by repeat (first | assumption | exact am_ue | refine am_un (by first | assumption | decide | omega) ?_)) rfl rfl (Nat.le_of_ble_eq_true rfl) ?_
  refine am_aload_n 36 dX5_init_36 rfl ?_
  refine am_bipush 37 (v := 48) dX5_init_37 (by decide) ?_
  refine am_newints 39 (t := 0) (N := 48) (rc := 1) (rs := 48) dX5_init_39 ac_int rfl (by decide) (by decide) (by decide) ?_
  refine am_putfinal 41 dX5_init_41 rfl qX5_24 (by repeat (first | assumption | exact am_ue | refine am_un (by first | assumption | decide | omega) ?_)) rfl rfl (Nat.le_of_ble_eq_true rfl) ?_
  refine am_aload_n 44 dX5_init_44 rfl ?_
  refine am_bipush 45 (v := 48) dX5_init_45 (by decide) ?_
  refine am_newints 47 (t := 0) (N := 48) (rc := 0) (rs := 0) dX5_init_47 ac_int rfl (by decide) (by decide) (by decide) ?_
  refine am_putfinal 49 dX5_init_49 rfl qX5_27 (by repeat (first | assumption | exact am_ue | refine am_un (by first | assumption | decide | omega) ?_)) rfl rfl (Nat.le_of_ble_eq_true rfl) ?_
  refine am_return 52 dX5_init_52 rfl ?_
  refine ⟨rfl, rfl, ⟨am_ue, ?_, ?_, ?_, ?_, ?_, ?_⟩, fun x hx => by repeat rw [am_up_ne (by omega)]⟩
  all_goals repeat (first | exact am_ue | refine am_un (by omega) ?_)
theorem s_Pairing_init (h0 : f i = .inr (4, [.null, .null, .long 0])) : AM mX4_init 2 37 [.ref i] (i + 1) f (fun o n' f' => o = .inl none ∧ n' = i + 3 ∧ m_Pr f' i (fun _ => 0) (fun _ => 0) 0 ∧ ∀ x, x < i → f' x = f x) := by
  show AW mX4_init 2 37 0 [some (.ref i)] [] (i + 1) f _
  refine am_aload_n 0 dX4_init_0 rfl ?_
  refine am_OI 1 dX4_init_1 lX4_3 (by decide) (Nat.le_of_ble_eq_true rfl) ?_
  refine am_aload_n 4 dX4_init_4 rfl ?_
  refine am_bipush 5 (v := 32) dX4_init_5 (by decide) ?_
  refine am_newlongs 7 (t := 1) (N := 32) (rc := 1) (rs := 5) dX4_init_7 ac_long rfl (by decide) (by decide) (by decide) ?_
  refine am_putfinal 9 dX4_init_9 rfl qX4_11 (by repeat (first | assumption | exact am_ue | refine am_un (by first | assumption | decide | omega) ?_)) rfl rfl (Nat.le_of_ble_eq_true rfl) ?_
  refine am_aload_n 12 dX4_init_12 rfl ?_
  refine am_iconst 13 (v := 5) dX4_init_13 (by decide) ?_
  refine am_newlongs 14 (t := 1) (N := 5) (rc := 0) (rs := 0) dX4_init_14 ac_long rfl (by decide) (by decide) (by decide) ?_
  refine am_putfinal 16 dX4_init_16 rfl qX4_15 (by repeat (first | assumption | exact am_ue | refine am_un (by first | assumption | decide | omega) ?_)) rfl rfl (Nat.le_of_ble_eq_true rfl) ?_
  refine am_return 19 dX4_init_19 rfl ?_
  exact ⟨rfl, rfl, ⟨am_ue, am_un (by omega) (am_un (by omega) (am_un (by omega) am_ue)), am_un (by omega) am_ue⟩, fun x hx => by rw [am_up_ne (by omega), am_up_ne (by omega), am_up_ne (by omega), am_up_ne (by omega)]⟩
theorem s_Area_init (h0 : f i = .inr (0, [.int 0, .int 0, .int 0, .int 0, .null])) : AM mX0_init 1 4 [.ref i] (i + 1) f (fun o n' f' => o = .inl none ∧ n' = i + 2 ∧ m_ArF f' i ∧ ∀ x, x < i → f' x = f x) := by
  show AW mX0_init 1 4 0 [some (.ref i)] [] (i + 1) f _
  refine am_aload_n 0 dX0_init_0 rfl ?_
  refine am_OI 1 dX0_init_1 lX0_3 (by decide) (Nat.le_of_ble_eq_true rfl) ?_
  refine am_aload_n 4 dX0_init_4 rfl ?_
  refine am_iconst 5 (v := 4) dX0_init_5 (by decide) ?_
  refine am_newints 6 (t := 0) (N := 4) (rc := 0) (rs := 0) dX0_init_6 ac_int rfl (by decide) (by decide) (by decide) ?_
  refine am_putfinal 8 dX0_init_8 rfl qX0_9 (by repeat (first | assumption | exact am_ue | refine am_un (by first | assumption | decide | omega) ?_)) rfl rfl (Nat.le_of_ble_eq_true rfl) ?_
  refine am_return 11 dX0_init_11 rfl ?_
  exact ⟨rfl, rfl, ⟨am_ue, am_un (by omega) am_ue⟩, fun x hx => by rw [am_up_ne (by omega), am_up_ne (by omega)]⟩
theorem s_Contact_init (h0 : f i = .inr (2, [.int 0, .int 0, .int 0, .int 0, .int 0, .int 0, .int 0, .int 0, .float 0, .float 0, .float 0, .float 0, .float 0, .float 0, .float 0, .null])) : AM mX2_init 1 5 [.ref i] (i + 1) f (fun o n' f' => o = .inl none ∧ n' = i + 2 ∧ m_CoF f' i ∧ ∀ x, x < i → f' x = f x) := by
  show AW mX2_init 1 5 0 [some (.ref i)] [] (i + 1) f _
  refine am_aload_n 0 dX2_init_0 rfl ?_
  refine am_OI 1 dX2_init_1 lX2_3 (by decide) (Nat.le_of_ble_eq_true rfl) ?_
  refine am_aload_n 4 dX2_init_4 rfl ?_
  refine am_iconst 5 (v := 5) dX2_init_5 (by decide) ?_
  refine am_newfloats 6 (t := 2) (N := 5) (rc := 0) (rs := 0) dX2_init_6 ac_float rfl (by decide) (by decide) (by decide) ?_
  refine am_putfinal 8 dX2_init_8 rfl qX2_9 (by repeat (first | assumption | exact am_ue | refine am_un (by first | assumption | decide | omega) ?_)) rfl rfl (Nat.le_of_ble_eq_true rfl) ?_
  refine am_return 11 dX2_init_11 rfl ?_
  exact ⟨rfl, rfl, ⟨am_ue, am_un (by omega) am_ue⟩, fun x hx => by rw [am_up_ne (by omega), am_up_ne (by omega)]⟩
theorem s_Areas_init (h0 : f i = .inr (1, [.null, .int 0])) : AM mX1_init 9 40 [.ref i] (i + 1) f (fun o n' f' => o = .inl none ∧ n' = i + 10 ∧ m_AsF f' i ∧ ∀ x, x < i → f' x = f x) := by
  show AW mX1_init 9 40 0 [some (.ref i), none] [] (i + 1) f _
  refine am_aload_n 0 dX1_init_0 rfl ?_
  refine am_OI 1 dX1_init_1 lX1_3 (by decide) (Nat.le_of_ble_eq_true rfl) ?_
  refine am_aload_n 4 dX1_init_4 rfl ?_
  refine am_iconst 5 (v := 4) dX1_init_5 (by decide) ?_
  refine am_anewarray 6 (t := 4) (N := 4) (rc := 8) (rs := 36) dX1_init_6 cX1_9 (by decide) rfl (by decide) (by decide) (by decide) ?_
  refine am_putfinal 9 dX1_init_9 rfl qX1_11 (by repeat (first | assumption | exact am_ue | refine am_un (by first | assumption | decide | omega) ?_)) rfl rfl (Nat.le_of_ble_eq_true rfl) ?_
  refine am_iconst 12 (v := 0) dX1_init_12 (by decide) ?_
  refine am_istore_n 13 dX1_init_13 (by decide) ?_
  refine am_for 4 (fun k (g : Nat → am_C) => (g i = .inr (1, [.ref (i + 1), .int 0]) ∧ g (i + 1) = .inl (4, 4, .inr (.inr (.inr (.inr (m_rf k (i + 2))))))) ∧ (∀ z, z < k → m_ArF g (i + 2 + 2 * z)) ∧ ∀ x, x < i → g x = f x) (fun k g => AW mX1_init (2 * (4 - k)) (9 * (4 - k)) 14 [some (.ref i), some (.int (nI k))] [] (i + 2 + 2 * k) g _) ?_ ?_ 0 _ (by omega) ⟨⟨am_ue, am_un (by omega) am_ue⟩, fun z hz => by omega, fun x hx => by rw [am_up_ne (by omega), am_up_ne (by omega)]⟩
  · rintro g ⟨⟨g0, g1⟩, g2, g3⟩
    refine am_iload_n 14 dX1_init_14 rfl ?_
    refine am_iconst 15 (v := 4) dX1_init_15 (by decide) ?_
    refine am_icmp_ge 16 38 dX1_init_16 rfl (fun c16 => ?_) (fun c16 => absurd (by decide) c16)
    refine am_return 38 dX1_init_38 rfl ?_
    exact ⟨rfl, rfl, ⟨g0, g1, g2⟩, g3⟩
  · rintro k g hk ⟨⟨g0, g1⟩, g2, g3⟩ ih
    refine AW.more (rc := 1 + (2 * (4 - (k + 1))) + 1) (rs := 4 + (9 * (4 - (k + 1))) + 5) (by omega) (by omega) ?_
    refine am_iload_n 14 dX1_init_14 rfl ?_
    refine am_iconst 15 (v := 4) dX1_init_15 (by decide) ?_
    refine am_icmp_ge 16 38 dX1_init_16 rfl (fun c16 => absurd c16 (nI_ge hk (by decide))) (fun c16 => ?_)
    refine am_aload_n 19 dX1_init_19 rfl ?_
    refine am_getfield 20 dX1_init_20 fX1_11 (by repeat (first | assumption | exact am_ue | refine am_un (by first | assumption | decide | omega) ?_)) rfl ?_
    refine am_iload_n 23 dX1_init_23 rfl ?_
    refine am_new 24 (rc := 1 + (2 * (4 - (k + 1)))) (rs := 4 + (9 * (4 - (k + 1)))) dX1_init_24 nX1_9 ?_
    refine am_dup 27 dX1_init_27 rfl ?_
    refine am_IN0 28 (mc' := 1) (ms' := 4) (rc := 2 * (4 - (k + 1))) (rs := 9 * (4 - (k + 1))) dX1_init_28 lX1_17 ⟨by decide, by decide⟩ (Nat.le_of_ble_eq_true rfl) (Nat.le_of_ble_eq_true rfl) (s_Area_init am_ue) ?_
    rintro o n1 f1 ⟨rfl, hn, b2, b3⟩
    obtain rfl : n1 = i + 2 + 2 * (k + 1) := hn.trans (by omega)
    refine ⟨_, rfl, ?_⟩
    have b1 : f1 (i + 1) = .inl (4, 4, .inr (.inr (.inr (.inr (m_rf k (i + 2)))))) := by rw [b3 _ (by omega), am_up_ne (by omega)]; exact g1
    refine am_aastore 31 (t := 4) dX1_init_31 rfl (by repeat (first | assumption | exact am_ue | refine am_un (by first | assumption | decide | omega) ?_)) b2.1 rfl (am_ix hk (by decide)) ?_
    rw [nI_clamp (n := k) (by omega), m_rf_up]
    refine am_iinc 32 (v := nI (k + 1)) dX1_init_32 rfl (nI_1 (k)) (by decide) ?_
    refine am_goto 35 (tgt := 14) dX1_init_35 rfl ?_
    refine ih _ ⟨⟨?_, am_ue⟩, fun z hz => ?_, fun x hx => ?_⟩
    · rw [am_up_ne (by omega), b3 _ (by omega), am_up_ne (by omega)]; exact g0
    · by_cases e : z = k
      · subst e
        exact b2.on fun x h1 h2 => by rw [am_up_ne (by omega)]
      · exact (g2 z (by omega)).on fun x h1 h2 => by rw [am_up_ne (by omega), b3 _ (by omega), am_up_ne (by omega)]
    · rw [am_up_ne (by omega), b3 _ (by omega), am_up_ne (by omega)]; exact g3 x hx
theorem s_Hand_init {a : Nat} (h0 : f i = .inr (3, [.null, .null, .int 0, .int 0, .int 0])) (ha : a < i) : AM mX3_init 11 110 [.ref i, .ref a] (i + 1) f (fun o n' f' => o = .inl none ∧ n' = i + 12 ∧ m_HaF f' i a ∧ ∀ x, x < i → f' x = f x) := by
  show AW mX3_init 11 110 0 [some (.ref i), some (.ref a), none] [] (i + 1) f _
  refine am_aload_n 0 dX3_init_0 rfl ?_
  refine am_OI 1 dX3_init_1 lX3_3 (by decide) (Nat.le_of_ble_eq_true rfl) ?_
  refine am_aload_n 4 dX3_init_4 rfl ?_
  refine am_iconst 5 (v := 5) dX3_init_5 (by decide) ?_
  refine am_anewarray 6 (t := 5) (N := 5) (rc := 10) (rs := 105) dX3_init_6 cX3_9 (by decide) rfl (by decide) (by decide) (by decide) ?_
  refine am_putfinal 9 dX3_init_9 rfl qX3_11 (by repeat (first | assumption | exact am_ue | refine am_un (by first | assumption | decide | omega) ?_)) rfl rfl (Nat.le_of_ble_eq_true rfl) ?_
  refine am_aload_n 12 dX3_init_12 rfl ?_
  refine am_aload_n 13 dX3_init_13 rfl ?_
  refine am_putfinal 14 dX3_init_14 rfl qX3_17 (by repeat (first | assumption | exact am_ue | refine am_un (by first | assumption | decide | omega) ?_)) rfl rfl (Nat.le_of_ble_eq_true rfl) ?_
  refine am_iconst 17 (v := 0) dX3_init_17 (by decide) ?_
  refine am_istore_n 18 dX3_init_18 (by decide) ?_
  refine am_for 5 (fun k (g : Nat → am_C) => (g i = .inr (3, [.ref (i + 1), .ref a, .int 0, .int 0, .int 0]) ∧ g (i + 1) = .inl (5, 5, .inr (.inr (.inr (.inr (m_rf k (i + 2))))))) ∧ (∀ z, z < k → m_CoF g (i + 2 + 2 * z)) ∧ ∀ x, x < i → g x = f x) (fun k g => AW mX3_init (2 * (5 - k)) (21 * (5 - k)) 19 [some (.ref i), some (.ref a), some (.int (nI k))] [] (i + 2 + 2 * k) g _) ?_ ?_ 0 _ (by omega) ⟨⟨am_ue, am_un (by omega) (am_un (by omega) am_ue)⟩, fun z hz => by omega, fun x hx => by rw [am_up_ne (by omega), am_up_ne (by omega), am_up_ne (by omega)]⟩
  · rintro g ⟨⟨g0, g1⟩, g2, g3⟩
    refine am_iload_n 19 dX3_init_19 rfl ?_
    refine am_iconst 20 (v := 5) dX3_init_20 (by decide) ?_
    refine am_icmp_ge 21 43 dX3_init_21 rfl (fun c21 => ?_) (fun c21 => absurd (by decide) c21)
    refine am_return 43 dX3_init_43 rfl ?_
    exact ⟨rfl, rfl, ⟨g0, g1, g2⟩, g3⟩
  · rintro k g hk ⟨⟨g0, g1⟩, g2, g3⟩ ih
    refine AW.more (rc := 1 + (2 * (5 - (k + 1))) + 1) (rs := 5 + (21 * (5 - (k + 1))) + 16) (by omega) (by omega) ?_
    refine am_iload_n 19 dX3_init_19 rfl ?_
    refine am_iconst 20 (v := 5) dX3_init_20 (by decide) ?_
    refine am_icmp_ge 21 43 dX3_init_21 rfl (fun c21 => absurd c21 (nI_ge hk (by decide))) (fun c21 => ?_)
    refine am_aload_n 24 dX3_init_24 rfl ?_
    refine am_getfield 25 dX3_init_25 fX3_11 (by repeat (first | assumption | exact am_ue | refine am_un (by first | assumption | decide | omega) ?_)) rfl ?_
    refine am_iload_n 28 dX3_init_28 rfl ?_
    refine am_new 29 (rc := 1 + (2 * (5 - (k + 1)))) (rs := 5 + (21 * (5 - (k + 1)))) dX3_init_29 nX3_9 ?_
    refine am_dup 32 dX3_init_32 rfl ?_
    refine am_IN0 33 (mc' := 1) (ms' := 5) (rc := 2 * (5 - (k + 1))) (rs := 21 * (5 - (k + 1))) dX3_init_33 lX3_21 ⟨by decide, by decide⟩ (Nat.le_of_ble_eq_true rfl) (Nat.le_of_ble_eq_true rfl) (s_Contact_init am_ue) ?_
    rintro o n1 f1 ⟨rfl, hn, b2, b3⟩
    obtain rfl : n1 = i + 2 + 2 * (k + 1) := hn.trans (by omega)
    refine ⟨_, rfl, ?_⟩
    have b1 : f1 (i + 1) = .inl (5, 5, .inr (.inr (.inr (.inr (m_rf k (i + 2)))))) := by rw [b3 _ (by omega), am_up_ne (by omega)]; exact g1
    refine am_aastore 36 (t := 5) dX3_init_36 rfl (by repeat (first | assumption | exact am_ue | refine am_un (by first | assumption | decide | omega) ?_)) b2.1 rfl (am_ix hk (by decide)) ?_
    rw [nI_clamp (n := k) (by omega), m_rf_up]
    refine am_iinc 37 (v := nI (k + 1)) dX3_init_37 rfl (nI_1 (k)) (by decide) ?_
    refine am_goto 40 (tgt := 19) dX3_init_40 rfl ?_
    refine ih _ ⟨⟨?_, am_ue⟩, fun z hz => ?_, fun x hx => ?_⟩
    · rw [am_up_ne (by omega), b3 _ (by omega), am_up_ne (by omega)]; exact g0
    · by_cases e : z = k
      · subst e
        exact b2.on fun x h1 h2 => by rw [am_up_ne (by omega)]
      · exact (g2 z (by omega)).on fun x h1 h2 => by rw [am_up_ne (by omega), b3 _ (by omega), am_up_ne (by omega)]
    · rw [am_up_ne (by omega), b3 _ (by omega), am_up_ne (by omega)]; exact g3 x hx
end Init
