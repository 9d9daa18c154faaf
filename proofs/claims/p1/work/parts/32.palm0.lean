/-! ===== Palmward on a new object ===== -/
section Palm0
theorem am_ct_in {M : am_M} {rc rs pc n : Nat} {L : List (Option Value)} {rest : List Value} {f : Nat → am_C} {P : am_P} {v : Option Value} (k : AW M rc rs (pc + 3) L (v.toList ++ rest) n f P) : am_ct M rc rs pc L rest P (.inl v) n f := k
theorem am_ct_out {M : am_M} {rc rs pc n E : Nat} {L : List (Option Value)} {rest : List Value} {f : Nat → am_C} {P : am_P} (hh : am_hh M = []) (hP : P (.inr E) n f) : am_ct M rc rs pc L rest P (.inr E) n f := AX.out hh hP
def m_Fr (f : Nat → am_C) (p : Nat) : Prop := f p = .inr (7, [.ref (p + 1), .ref (p + 4), .ref (p + 11), .ref (p + 14), .ref (p + 21), .ref (p + 24), .ref (p + 34), .int 4, .int 12, .int 0, .int 0]) ∧ m_Sh f (p + 1) (fun _ => 0) (fun _ => 0) 0 ∧ m_Pic f (p + 4) (fun _ => 0) (fun _ => 0) (fun _ => 0) (fun _ => 0) (fun _ => 0) (fun _ => 0) 0 0 ∧ m_Sh f (p + 11) (fun _ => 0) (fun _ => 0) 0 ∧ m_Pic f (p + 14) (fun _ => 0) (fun _ => 0) (fun _ => 0) (fun _ => 0) (fun _ => 0) (fun _ => 0) 0 0 ∧ m_Pr f (p + 21) (fun _ => 0) (fun _ => 0) 0 ∧ m_AsF f (p + 24) ∧ m_HaF f (p + 34) (p + 24)
theorem m_Fr.on {f f' : Nat → am_C} {p : Nat} (h : m_Fr f p) (e : ∀ x, p ≤ x → x ≤ p + 45 → f' x = f x) : m_Fr f' p := by
  obtain ⟨h1, h2, h3, h4, h5, h6, h7, h8⟩ := h
  exact ⟨(e _ (by omega) (by omega)).trans h1, h2.on fun x a b => e x (by omega) (by omega), h3.on fun x a b => e x (by omega) (by omega), h4.on fun x a b => e x (by omega) (by omega), h5.on fun x a b => e x (by omega) (by omega), h6.on fun x a b => e x (by omega) (by omega), h7.on fun x a b => e x (by omega) (by omega), h8.on fun x a b => e x (by omega) (by omega)⟩
variable {p n : Nat} {f : Nat → am_C}
set_option maxRecDepth 100000 in
set_option maxHeartbeats 4000000 in
theorem s_Palmward_init (h0 : f p = .inr (7, [.null, .null, .null, .null, .null, .null, .null, .int 0, .int 0, .int 0, .int 0])) : AM mX7_init 45 987 [.ref p] (p + 1) f (fun o n' f' => o = .inl none ∧ n' = p + 46 ∧ m_Fr f' p ∧ ∀ x, x < p → f' x = f x) := by
  show AW mX7_init 45 987 0 [some (.ref p)] [] (p + 1) f _
  refine am_aload_n 0 dX7_init_0 rfl ?_
  refine am_OI 1 dX7_init_1 lX7_1 (by decide) (Nat.le_of_ble_eq_true rfl) ?_
  refine am_aload_n 4 dX7_init_4 rfl ?_
  refine am_new 5 (rc := 44) (rs := 984) (N := 3) dX7_init_5 nX7_7 ?_
  refine am_dup 8 dX7_init_8 rfl ?_
  refine am_IN0 9 (mc' := 2) (ms' := 96) (rc := 42) (rs := 888) dX7_init_9 lX7_9 ⟨by decide, by decide⟩ (Nat.le_of_ble_eq_true rfl) (Nat.le_of_ble_eq_true rfl) (s_Sheet_init am_ue) ?_
  rintro o n1 f1 ⟨rfl, hn, S1, hk1⟩
  obtain rfl : n1 = p + 4 := hn
  refine ⟨_, rfl, ?_⟩
  have a1 : f1 p = .inr (7, [.null, .null, .null, .null, .null, .null, .null, .int 0, .int 0, .int 0, .int 0]) := (hk1 p (by omega)).trans (am_un (by omega) h0)
  have e1 : ∀ x, x < p + 1 → x ≠ p → f1 x = f x := fun x h1 h2 => (hk1 x h1).trans (by rw [am_up_ne (by omega)])
  refine am_putfinal 12 dX7_init_12 rfl qX7_10 (by repeat (first | assumption | exact am_ue | refine am_un (by first | assumption | decide | omega) ?_)) rfl rfl (Nat.le_of_ble_eq_true rfl) ?_
  refine am_aload_n 15 dX7_init_15 rfl ?_
  refine am_new 16 (rc := 41) (rs := 880) (N := 8) dX7_init_16 nX7_16 ?_
  refine am_dup 19 dX7_init_19 rfl ?_
  refine am_IN0 20 (mc' := 6) (ms' := 288) (rc := 35) (rs := 592) dX7_init_20 lX7_18 ⟨by decide, by decide⟩ (Nat.le_of_ble_eq_true rfl) (Nat.le_of_ble_eq_true rfl) (s_Picture_init am_ue) ?_
  rintro o n2 f2 ⟨rfl, hn, S2, hk2⟩
  obtain rfl : n2 = p + 11 := hn
  refine ⟨_, rfl, ?_⟩
  have a2 : f2 p = .inr (7, [.ref (p + 1), .null, .null, .null, .null, .null, .null, .int 0, .int 0, .int 0, .int 0]) := (hk2 p (by omega)).trans (am_un (by omega) am_ue)
  have e2 : ∀ x, x < p + 4 → x ≠ p → f2 x = f1 x := fun x h1 h2 => (hk2 x h1).trans (by rw [am_up_ne (by omega), am_up_ne h2])
  have S1 : m_Sh f2 (p + 1) (fun _ => 0) (fun _ => 0) 0 := S1.on (fun x h1 h2 => e2 x (by omega) (by omega))
  refine am_putfinal 23 dX7_init_23 rfl qX7_19 (by repeat (first | assumption | exact am_ue | refine am_un (by first | assumption | decide | omega) ?_)) rfl rfl (Nat.le_of_ble_eq_true rfl) ?_
  refine am_aload_n 26 dX7_init_26 rfl ?_
  refine am_new 27 (rc := 34) (rs := 589) (N := 3) dX7_init_27 nX7_7 ?_
  refine am_dup 30 dX7_init_30 rfl ?_
  refine am_IN0 31 (mc' := 2) (ms' := 96) (rc := 32) (rs := 493) dX7_init_31 lX7_9 ⟨by decide, by decide⟩ (Nat.le_of_ble_eq_true rfl) (Nat.le_of_ble_eq_true rfl) (s_Sheet_init am_ue) ?_
  rintro o n3 f3 ⟨rfl, hn, S3, hk3⟩
  obtain rfl : n3 = p + 14 := hn
  refine ⟨_, rfl, ?_⟩
  have a3 : f3 p = .inr (7, [.ref (p + 1), .ref (p + 4), .null, .null, .null, .null, .null, .int 0, .int 0, .int 0, .int 0]) := (hk3 p (by omega)).trans (am_un (by omega) am_ue)
  have e3 : ∀ x, x < p + 11 → x ≠ p → f3 x = f2 x := fun x h1 h2 => (hk3 x h1).trans (by rw [am_up_ne (by omega), am_up_ne h2])
  have S1 : m_Sh f3 (p + 1) (fun _ => 0) (fun _ => 0) 0 := S1.on (fun x h1 h2 => e3 x (by omega) (by omega))
  have S2 : m_Pic f3 (p + 4) (fun _ => 0) (fun _ => 0) (fun _ => 0) (fun _ => 0) (fun _ => 0) (fun _ => 0) 0 0 := S2.on (fun x h1 h2 => e3 x (by omega) (by omega))
  refine am_putfinal 34 dX7_init_34 rfl qX7_23 (by repeat (first | assumption | exact am_ue | refine am_un (by first | assumption | decide | omega) ?_)) rfl rfl (Nat.le_of_ble_eq_true rfl) ?_
  refine am_aload_n 37 dX7_init_37 rfl ?_
  refine am_new 38 (rc := 31) (rs := 485) (N := 8) dX7_init_38 nX7_16 ?_
  refine am_dup 41 dX7_init_41 rfl ?_
  refine am_IN0 42 (mc' := 6) (ms' := 288) (rc := 25) (rs := 197) dX7_init_42 lX7_18 ⟨by decide, by decide⟩ (Nat.le_of_ble_eq_true rfl) (Nat.le_of_ble_eq_true rfl) (s_Picture_init am_ue) ?_
  rintro o n4 f4 ⟨rfl, hn, S4, hk4⟩
  obtain rfl : n4 = p + 21 := hn
  refine ⟨_, rfl, ?_⟩
  have a4 : f4 p = .inr (7, [.ref (p + 1), .ref (p + 4), .ref (p + 11), .null, .null, .null, .null, .int 0, .int 0, .int 0, .int 0]) := (hk4 p (by omega)).trans (am_un (by omega) am_ue)
  have e4 : ∀ x, x < p + 14 → x ≠ p → f4 x = f3 x := fun x h1 h2 => (hk4 x h1).trans (by rw [am_up_ne (by omega), am_up_ne h2])
  have S1 : m_Sh f4 (p + 1) (fun _ => 0) (fun _ => 0) 0 := S1.on (fun x h1 h2 => e4 x (by omega) (by omega))
  have S2 : m_Pic f4 (p + 4) (fun _ => 0) (fun _ => 0) (fun _ => 0) (fun _ => 0) (fun _ => 0) (fun _ => 0) 0 0 := S2.on (fun x h1 h2 => e4 x (by omega) (by omega))
  have S3 : m_Sh f4 (p + 11) (fun _ => 0) (fun _ => 0) 0 := S3.on (fun x h1 h2 => e4 x (by omega) (by omega))
  refine am_putfinal 45 dX7_init_45 rfl qX7_26 (by repeat (first | assumption | exact am_ue | refine am_un (by first | assumption | decide | omega) ?_)) rfl rfl (Nat.le_of_ble_eq_true rfl) ?_
  refine am_aload_n 48 dX7_init_48 rfl ?_
  refine am_new 49 (rc := 24) (rs := 194) (N := 3) dX7_init_49 nX7_29 ?_
  refine am_dup 52 dX7_init_52 rfl ?_
  refine am_IN0 53 (mc' := 2) (ms' := 37) (rc := 22) (rs := 157) dX7_init_53 lX7_31 ⟨by decide, by decide⟩ (Nat.le_of_ble_eq_true rfl) (Nat.le_of_ble_eq_true rfl) (s_Pairing_init am_ue) ?_
  rintro o n5 f5 ⟨rfl, hn, S5, hk5⟩
  obtain rfl : n5 = p + 24 := hn
  refine ⟨_, rfl, ?_⟩
  have a5 : f5 p = .inr (7, [.ref (p + 1), .ref (p + 4), .ref (p + 11), .ref (p + 14), .null, .null, .null, .int 0, .int 0, .int 0, .int 0]) := (hk5 p (by omega)).trans (am_un (by omega) am_ue)
  have e5 : ∀ x, x < p + 21 → x ≠ p → f5 x = f4 x := fun x h1 h2 => (hk5 x h1).trans (by rw [am_up_ne (by omega), am_up_ne h2])
  have S1 : m_Sh f5 (p + 1) (fun _ => 0) (fun _ => 0) 0 := S1.on (fun x h1 h2 => e5 x (by omega) (by omega))
  have S2 : m_Pic f5 (p + 4) (fun _ => 0) (fun _ => 0) (fun _ => 0) (fun _ => 0) (fun _ => 0) (fun _ => 0) 0 0 := S2.on (fun x h1 h2 => e5 x (by omega) (by omega))
  have S3 : m_Sh f5 (p + 11) (fun _ => 0) (fun _ => 0) 0 := S3.on (fun x h1 h2 => e5 x (by omega) (by omega))
  have S4 : m_Pic f5 (p + 14) (fun _ => 0) (fun _ => 0) (fun _ => 0) (fun _ => 0) (fun _ => 0) (fun _ => 0) 0 0 := S4.on (fun x h1 h2 => e5 x (by omega) (by omega))
  refine am_putfinal 56 dX7_init_56 rfl qX7_32 (by repeat (first | assumption | exact am_ue | refine am_un (by first | assumption | decide | omega) ?_)) rfl rfl (Nat.le_of_ble_eq_true rfl) ?_
  refine am_aload_n 59 dX7_init_59 rfl ?_
  refine am_new 60 (rc := 21) (rs := 155) (N := 2) dX7_init_60 nX7_36 ?_
  refine am_dup 63 dX7_init_63 rfl ?_
  refine am_I0 64 (mc' := 9) (ms' := 40) (rc := 12) (rs := 115) dX7_init_64 lX7_38 ⟨by decide, by decide⟩ (Nat.le_of_ble_eq_true rfl) (Nat.le_of_ble_eq_true rfl) (s_Areas_init am_ue) ?_
  rintro o n6 f6 ⟨rfl, hn, S6, hk6⟩
  obtain rfl : n6 = p + 34 := hn
  refine ⟨_, rfl, ?_⟩
  have a6 : f6 p = .inr (7, [.ref (p + 1), .ref (p + 4), .ref (p + 11), .ref (p + 14), .ref (p + 21), .null, .null, .int 0, .int 0, .int 0, .int 0]) := (hk6 p (by omega)).trans (am_un (by omega) am_ue)
  have e6 : ∀ x, x < p + 24 → x ≠ p → f6 x = f5 x := fun x h1 h2 => (hk6 x h1).trans (by rw [am_up_ne (by omega), am_up_ne h2])
  have S1 : m_Sh f6 (p + 1) (fun _ => 0) (fun _ => 0) 0 := S1.on (fun x h1 h2 => e6 x (by omega) (by omega))
  have S2 : m_Pic f6 (p + 4) (fun _ => 0) (fun _ => 0) (fun _ => 0) (fun _ => 0) (fun _ => 0) (fun _ => 0) 0 0 := S2.on (fun x h1 h2 => e6 x (by omega) (by omega))
  have S3 : m_Sh f6 (p + 11) (fun _ => 0) (fun _ => 0) 0 := S3.on (fun x h1 h2 => e6 x (by omega) (by omega))
  have S4 : m_Pic f6 (p + 14) (fun _ => 0) (fun _ => 0) (fun _ => 0) (fun _ => 0) (fun _ => 0) (fun _ => 0) 0 0 := S4.on (fun x h1 h2 => e6 x (by omega) (by omega))
  have S5 : m_Pr f6 (p + 21) (fun _ => 0) (fun _ => 0) 0 := S5.on (fun x h1 h2 => e6 x (by omega) (by omega))
  refine am_putfinal 67 dX7_init_67 rfl qX7_39 (by repeat (first | assumption | exact am_ue | refine am_un (by first | assumption | decide | omega) ?_)) rfl rfl (Nat.le_of_ble_eq_true rfl) ?_
  refine am_aload_n 70 dX7_init_70 rfl ?_
  refine am_new 71 (rc := 11) (rs := 110) (N := 5) dX7_init_71 nX7_43 ?_
  refine am_dup 74 dX7_init_74 rfl ?_
  refine am_aload_n 75 dX7_init_75 rfl ?_
  refine am_getfield 76 dX7_init_76 fX7_39 (by repeat (first | assumption | exact am_ue | refine am_un (by first | assumption | decide | omega) ?_)) rfl ?_
  refine am_I1 79 (mc' := 11) (ms' := 110) (rc := 0) (rs := 0) dX7_init_79 lX7_45 ⟨by decide, by decide⟩ (Nat.le_of_ble_eq_true rfl) (Nat.le_of_ble_eq_true rfl) (s_Hand_init am_ue (by omega)) ?_
  rintro o n7 f7 ⟨rfl, hn, S7, hk7⟩
  obtain rfl : n7 = p + 46 := hn
  refine ⟨_, rfl, ?_⟩
  have a7 : f7 p = .inr (7, [.ref (p + 1), .ref (p + 4), .ref (p + 11), .ref (p + 14), .ref (p + 21), .ref (p + 24), .null, .int 0, .int 0, .int 0, .int 0]) := (hk7 p (by omega)).trans (am_un (by omega) am_ue)
  have e7 : ∀ x, x < p + 34 → x ≠ p → f7 x = f6 x := fun x h1 h2 => (hk7 x h1).trans (by rw [am_up_ne (by omega), am_up_ne h2])
  have S1 : m_Sh f7 (p + 1) (fun _ => 0) (fun _ => 0) 0 := S1.on (fun x h1 h2 => e7 x (by omega) (by omega))
  have S2 : m_Pic f7 (p + 4) (fun _ => 0) (fun _ => 0) (fun _ => 0) (fun _ => 0) (fun _ => 0) (fun _ => 0) 0 0 := S2.on (fun x h1 h2 => e7 x (by omega) (by omega))
  have S3 : m_Sh f7 (p + 11) (fun _ => 0) (fun _ => 0) 0 := S3.on (fun x h1 h2 => e7 x (by omega) (by omega))
  have S4 : m_Pic f7 (p + 14) (fun _ => 0) (fun _ => 0) (fun _ => 0) (fun _ => 0) (fun _ => 0) (fun _ => 0) 0 0 := S4.on (fun x h1 h2 => e7 x (by omega) (by omega))
  have S5 : m_Pr f7 (p + 21) (fun _ => 0) (fun _ => 0) 0 := S5.on (fun x h1 h2 => e7 x (by omega) (by omega))
  have S6 : m_AsF f7 (p + 24) := S6.on (fun x h1 h2 => e7 x (by omega) (by omega))
  refine am_putfinal 82 dX7_init_82 rfl qX7_48 (by repeat (first | assumption | exact am_ue | refine am_un (by first | assumption | decide | omega) ?_)) rfl rfl (Nat.le_of_ble_eq_true rfl) ?_
  refine am_aload_n 85 dX7_init_85 rfl ?_
  refine am_iconst 86 (v := 4) dX7_init_86 (by decide) ?_
  refine am_putfield 87 dX7_init_87 pX7_52 (by repeat (first | assumption | exact am_ue | refine am_un (by first | assumption | decide | omega) ?_)) rfl rfl (Nat.le_of_ble_eq_true rfl) ?_
  refine am_aload_n 90 dX7_init_90 rfl ?_
  refine am_bipush 91 (v := 12) dX7_init_91 (by decide) ?_
  refine am_putfield 93 dX7_init_93 pX7_56 (by repeat (first | assumption | exact am_ue | refine am_un (by first | assumption | decide | omega) ?_)) rfl rfl (Nat.le_of_ble_eq_true rfl) ?_
  refine am_return 96 dX7_init_96 rfl ?_
  refine ⟨rfl, rfl, ⟨am_ue, S1.on ?_, S2.on ?_, S3.on ?_, S4.on ?_, S5.on ?_, S6.on ?_, S7.on ?_⟩, fun x hx => ?_⟩
  all_goals first | (intro x h1 h2; repeat rw [am_up_ne (by omega)]) | (repeat rw [am_up_ne (by omega)])
  rw [e7 x (by omega) (by omega), e6 x (by omega) (by omega), e5 x (by omega) (by omega), e4 x (by omega) (by omega), e3 x (by omega) (by omega), e2 x (by omega) (by omega), e1 x (by omega) (by omega)]
/-! what is refused -/
theorem s_checkRow {y : Int32} : AM mX7_checkRow 1 6 [.int y] n f (fun o n' f' => n = n' ∧ f = f' ∧ ((o = .inl none ∧ ∃ k, k < 6 ∧ y = nI k) ∨ (o = .inr 2 ∧ (y < 0 ∨ 6 ≤ y)))) := by
  show AW mX7_checkRow 1 6 0 [some (.int y)] [] n f _
  refine am_iload_n 0 dX7_checkRow_0 rfl ?_
  refine am_if_lt 1 10 dX7_checkRow_1 rfl (fun c1 => ?_) (fun c1 => ?_)
  · refine am_throw 10 rfl tX7_163_238 dX7_checkRow_10 dX7_checkRow_13 dX7_checkRow_14 dX7_checkRow_16 dX7_checkRow_19 (by decide) (by decide) ?_
    exact ⟨rfl, rfl, Or.inr ⟨rfl, by first | exact Or.inl c1 | exact Or.inr (Int32.not_lt.mp c7)⟩⟩
  · refine am_iload_n 4 dX7_checkRow_4 rfl ?_
    refine am_bipush 5 (v := 6) dX7_checkRow_5 (by decide) ?_
    refine am_icmp_lt 7 20 dX7_checkRow_7 rfl (fun c7 => ?_) (fun c7 => ?_)
    · refine am_return 20 dX7_checkRow_20 rfl ?_
      obtain ⟨k, hk, rfl⟩ := m_small 6 rfl (by decide) c1 (Int32.not_le.mpr c7)
      exact ⟨rfl, rfl, Or.inl ⟨rfl, k, hk, rfl⟩⟩
    · refine am_throw 10 rfl tX7_163_238 dX7_checkRow_10 dX7_checkRow_13 dX7_checkRow_14 dX7_checkRow_16 dX7_checkRow_19 (by decide) (by decide) ?_
      exact ⟨rfl, rfl, Or.inr ⟨rfl, by first | exact Or.inl c1 | exact Or.inr (Int32.not_lt.mp c7)⟩⟩
theorem s_checkCell {x y : Int32} : AM mX7_checkCell 1 6 [.int x, .int y] n f (fun o n' f' => n = n' ∧ f = f' ∧ ((o = .inl none ∧ ∃ j k, j < 8 ∧ k < 6 ∧ x = nI j ∧ y = nI k) ∨ (o = .inr 2 ∧ (x < 0 ∨ 8 ≤ x ∨ y < 0 ∨ 6 ≤ y)))) := by
  show AW mX7_checkCell 1 6 0 [some (.int x), some (.int y)] [] n f _
  refine am_iload_n 0 dX7_checkCell_0 rfl ?_
  refine am_if_lt 1 10 dX7_checkCell_1 rfl (fun c1 => ?_) (fun c1 => ?_)
  · refine am_throw 10 rfl tX7_163_236 dX7_checkCell_10 dX7_checkCell_13 dX7_checkCell_14 dX7_checkCell_16 dX7_checkCell_19 (by decide) (by decide) ?_
    exact ⟨rfl, rfl, Or.inr ⟨rfl, by first | exact Or.inl c1 | exact Or.inr (Or.inl (Int32.not_lt.mp c7))⟩⟩
  · refine am_iload_n 4 dX7_checkCell_4 rfl ?_
    refine am_bipush 5 (v := 8) dX7_checkCell_5 (by decide) ?_
    refine am_icmp_lt 7 20 dX7_checkCell_7 rfl (fun c7 => ?_) (fun c7 => ?_)
    · refine am_iload_n 20 dX7_checkCell_20 rfl ?_
      refine am_S1 21 (mc' := 1) (ms' := 6) (rc := 0) (rs := 0) dX7_checkCell_21 lX7_107 ⟨by decide, by decide⟩ (Nat.le_of_ble_eq_true rfl) (Nat.le_of_ble_eq_true rfl) (s_checkRow) ?_
      rintro o n' f' ⟨rfl, rfl, ⟨rfl, k, hk, rfl⟩ | ⟨rfl, hb⟩⟩
      rotate_left
      · exact am_ct_out rfl ⟨rfl, rfl, Or.inr ⟨rfl, Or.inr (Or.inr hb)⟩⟩
      obtain ⟨j, hj, rfl⟩ := m_small 8 rfl (by decide) c1 (Int32.not_le.mpr c7)
      refine am_ct_in ?_
      refine am_return 24 dX7_checkCell_24 rfl ?_
      exact ⟨rfl, rfl, Or.inl ⟨rfl, j, k, hj, hk, rfl, rfl⟩⟩
    · refine am_throw 10 rfl tX7_163_236 dX7_checkCell_10 dX7_checkCell_13 dX7_checkCell_14 dX7_checkCell_16 dX7_checkCell_19 (by decide) (by decide) ?_
      exact ⟨rfl, rfl, Or.inr ⟨rfl, by first | exact Or.inl c1 | exact Or.inr (Or.inl (Int32.not_lt.mp c7))⟩⟩
theorem s_checkStrength {s : Int32} : AM mX7_checkStrength 1 6 [.int s] n f (fun o n' f' => n = n' ∧ f = f' ∧ ((o = .inl none ∧ 1 ≤ s ∧ s ≤ 200) ∨ (o = .inr 0 ∧ ¬ (1 ≤ s ∧ s ≤ 200)))) := by
  show AW mX7_checkStrength 1 6 0 [some (.int s)] [] n f _
  refine am_iload_n 0 dX7_checkStrength_0 rfl ?_
  refine am_iconst 1 (v := 1) dX7_checkStrength_1 (by decide) ?_
  refine am_icmp_lt 2 12 dX7_checkStrength_2 rfl (fun c2 => ?_) (fun c2 => ?_)
  · refine am_throw 12 rfl tX7_59_240 dX7_checkStrength_12 dX7_checkStrength_15 dX7_checkStrength_16 dX7_checkStrength_18 dX7_checkStrength_21 (by decide) (by decide) ?_
    exact ⟨rfl, rfl, Or.inr ⟨rfl, fun z => by first | exact Int32.not_lt.mpr z.1 c2 | exact c9 z.2⟩⟩
  · refine am_iload_n 5 dX7_checkStrength_5 rfl ?_
    refine am_sipush 6 (v := 200) dX7_checkStrength_6 (by decide) ?_
    refine am_icmp_le 9 22 dX7_checkStrength_9 rfl (fun c9 => ?_) (fun c9 => ?_)
    · refine am_return 22 dX7_checkStrength_22 rfl ?_
      exact ⟨rfl, rfl, Or.inl ⟨rfl, Int32.not_lt.mp c2, c9⟩⟩
    · refine am_throw 12 rfl tX7_59_240 dX7_checkStrength_12 dX7_checkStrength_15 dX7_checkStrength_16 dX7_checkStrength_18 dX7_checkStrength_21 (by decide) (by decide) ?_
      exact ⟨rfl, rfl, Or.inr ⟨rfl, fun z => by first | exact Int32.not_lt.mpr z.1 c2 | exact c9 z.2⟩⟩
theorem s_checkWhat {w m : Int32} : AM mX7_checkWhat 1 6 [.int w, .int m] n f (fun o n' f' => n = n' ∧ f = f' ∧ ((o = .inl none ∧ 0 ≤ w ∧ w ≤ m) ∨ (o = .inr 0 ∧ ¬ (0 ≤ w ∧ w ≤ m)))) := by
  show AW mX7_checkWhat 1 6 0 [some (.int w), some (.int m)] [] n f _
  refine am_iload_n 0 dX7_checkWhat_0 rfl ?_
  refine am_if_lt 1 9 dX7_checkWhat_1 rfl (fun c1 => ?_) (fun c1 => ?_)
  · refine am_throw 9 rfl tX7_59_242 dX7_checkWhat_9 dX7_checkWhat_12 dX7_checkWhat_13 dX7_checkWhat_15 dX7_checkWhat_18 (by decide) (by decide) ?_
    exact ⟨rfl, rfl, Or.inr ⟨rfl, fun z => by first | exact Int32.not_lt.mpr z.1 c1 | exact c6 z.2⟩⟩
  · refine am_iload_n 4 dX7_checkWhat_4 rfl ?_
    refine am_iload_n 5 dX7_checkWhat_5 rfl ?_
    refine am_icmp_le 6 19 dX7_checkWhat_6 rfl (fun c6 => ?_) (fun c6 => ?_)
    · refine am_return 19 dX7_checkWhat_19 rfl ?_
      exact ⟨rfl, rfl, Or.inl ⟨rfl, Int32.not_lt.mp c1, c6⟩⟩
    · refine am_throw 9 rfl tX7_59_242 dX7_checkWhat_9 dX7_checkWhat_12 dX7_checkWhat_13 dX7_checkWhat_15 dX7_checkWhat_18 (by decide) (by decide) ?_
      exact ⟨rfl, rfl, Or.inr ⟨rfl, fun z => by first | exact Int32.not_lt.mpr z.1 c1 | exact c6 z.2⟩⟩
theorem s_checkName0 {x : Int32} (hF : m_Fr f p) : AM mX7_checkName 1 6 [.ref p, .int x] n f (am_th 2 n f) := by
  have h0 := hF.1
  have h8 := hF.2.2.2.2.2.2.2
  have h9 := h8.1
  show AW mX7_checkName 1 6 0 [some (.ref p), some (.int x)] [] n f _
  refine am_aload_n 0 dX7_checkName_0 rfl ?_
  refine am_getfield 1 dX7_checkName_1 fX7_48 (by repeat (first | assumption | exact am_ue | refine am_un (by first | assumption | decide | omega) ?_)) rfl ?_
  refine am_iload_n 4 dX7_checkName_4 rfl ?_
  refine am_V1 5 (mc' := 0) (ms' := 0) (rc := 1) (rs := 6) dX7_checkName_5 lX7_225 ⟨by decide, by decide⟩ (by repeat (first | assumption | exact am_ue | refine am_un (by first | assumption | decide | omega) ?_)) (Nat.le_of_ble_eq_true rfl) (Nat.le_of_ble_eq_true rfl) (s_has0 h8) ?_
  refine am_is_ct ?_
  refine am_if_ne 8 21 dX7_checkName_8 rfl (fun c8 => absurd c8 (fun z => z rfl)) (fun c8 => ?_)
  exact am_throw 11 rfl tX7_163_244 dX7_checkName_11 dX7_checkName_14 dX7_checkName_15 dX7_checkName_17 dX7_checkName_20 (by decide) (by decide) ⟨rfl, rfl, rfl⟩
/-! the calls -/
def m_ans (p n : Nat) (f : Nat → am_C) (o0 : Option Value ⊕ Nat) : am_P := fun o n' f' => o = o0 ∧ n' = n ∧ ∀ x, (x < p ∨ p + 45 < x) → f' x = f x
abbrev m_iv (v : Int32) : Option Value ⊕ Nat := .inl (some (.int v))
noncomputable def m_oArea (l r t b : Int32) : Option Value ⊕ Nat := if ¬ l < 0 ∧ ¬ r < l ∧ ¬ 8 ≤ r ∧ ¬ t < 0 ∧ ¬ b < t ∧ ¬ 6 ≤ b then m_iv 0 else .inr 0
theorem s_area0 {l r t b : Int32} (hF : m_Fr f p) : AM mX7_area 1 6 [.ref p, .int l, .int r, .int t, .int b] n f (m_ans p n f (m_oArea l r t b)) := by
  have h0 := hF.1
  have h7 := hF.2.2.2.2.2.2.1
  have h9 := h7.1
  show AW mX7_area 1 6 0 [some (.ref p), some (.int l), some (.int r), some (.int t), some (.int b)] [] n f _
  refine am_iload_n 0 dX7_area_0 rfl ?_
  refine am_if_lt 1 32 dX7_area_1 rfl (fun c1 => ?_) (fun c1 => ?_)
  · refine am_throw 32 rfl tX7_59_61 dX7_area_32 dX7_area_35 dX7_area_36 dX7_area_38 dX7_area_41 (by decide) (by decide) ?_
    refine ⟨?_, rfl, fun _ _ => rfl⟩
    unfold m_oArea
    rw [if_neg (fun z => by first | exact z.1 c1 | exact z.2.1 c6 | exact z.2.2.1 c12 | exact z.2.2.2.1 c16 | exact z.2.2.2.2.1 c22 | exact z.2.2.2.2.2 (Int32.not_lt.mp c29))]
  · refine am_iload_n 4 dX7_area_4 rfl ?_
    refine am_iload_n 5 dX7_area_5 rfl ?_
    refine am_icmp_lt 6 32 dX7_area_6 rfl (fun c6 => ?_) (fun c6 => ?_)
    · refine am_throw 32 rfl tX7_59_61 dX7_area_32 dX7_area_35 dX7_area_36 dX7_area_38 dX7_area_41 (by decide) (by decide) ?_
      refine ⟨?_, rfl, fun _ _ => rfl⟩
      unfold m_oArea
      rw [if_neg (fun z => by first | exact z.1 c1 | exact z.2.1 c6 | exact z.2.2.1 c12 | exact z.2.2.2.1 c16 | exact z.2.2.2.2.1 c22 | exact z.2.2.2.2.2 (Int32.not_lt.mp c29))]
    · refine am_iload_n 9 dX7_area_9 rfl ?_
      refine am_bipush 10 (v := 8) dX7_area_10 (by decide) ?_
      refine am_icmp_ge 12 32 dX7_area_12 rfl (fun c12 => ?_) (fun c12 => ?_)
      · refine am_throw 32 rfl tX7_59_61 dX7_area_32 dX7_area_35 dX7_area_36 dX7_area_38 dX7_area_41 (by decide) (by decide) ?_
        refine ⟨?_, rfl, fun _ _ => rfl⟩
        unfold m_oArea
        rw [if_neg (fun z => by first | exact z.1 c1 | exact z.2.1 c6 | exact z.2.2.1 c12 | exact z.2.2.2.1 c16 | exact z.2.2.2.2.1 c22 | exact z.2.2.2.2.2 (Int32.not_lt.mp c29))]
      · refine am_iload_n 15 dX7_area_15 rfl ?_
        refine am_if_lt 16 32 dX7_area_16 rfl (fun c16 => ?_) (fun c16 => ?_)
        · refine am_throw 32 rfl tX7_59_61 dX7_area_32 dX7_area_35 dX7_area_36 dX7_area_38 dX7_area_41 (by decide) (by decide) ?_
          refine ⟨?_, rfl, fun _ _ => rfl⟩
          unfold m_oArea
          rw [if_neg (fun z => by first | exact z.1 c1 | exact z.2.1 c6 | exact z.2.2.1 c12 | exact z.2.2.2.1 c16 | exact z.2.2.2.2.1 c22 | exact z.2.2.2.2.2 (Int32.not_lt.mp c29))]
        · refine am_iload 19 dX7_area_19 rfl ?_
          refine am_iload_n 21 dX7_area_21 rfl ?_
          refine am_icmp_lt 22 32 dX7_area_22 rfl (fun c22 => ?_) (fun c22 => ?_)
          · refine am_throw 32 rfl tX7_59_61 dX7_area_32 dX7_area_35 dX7_area_36 dX7_area_38 dX7_area_41 (by decide) (by decide) ?_
            refine ⟨?_, rfl, fun _ _ => rfl⟩
            unfold m_oArea
            rw [if_neg (fun z => by first | exact z.1 c1 | exact z.2.1 c6 | exact z.2.2.1 c12 | exact z.2.2.2.1 c16 | exact z.2.2.2.2.1 c22 | exact z.2.2.2.2.2 (Int32.not_lt.mp c29))]
          · refine am_iload 25 dX7_area_25 rfl ?_
            refine am_bipush 27 (v := 6) dX7_area_27 (by decide) ?_
            refine am_icmp_lt 29 42 dX7_area_29 rfl (fun c29 => ?_) (fun c29 => ?_)
            · refine am_aload_n 42 dX7_area_42 rfl ?_
              refine am_getfield 43 dX7_area_43 fX7_39 (by repeat (first | assumption | exact am_ue | refine am_un (by first | assumption | decide | omega) ?_)) rfl ?_
              refine am_getfield 46 dX7_area_46 fX7_66 (by repeat (first | assumption | exact am_ue | refine am_un (by first | assumption | decide | omega) ?_)) rfl ?_
              refine am_iconst 49 (v := 4) dX7_area_49 (by decide) ?_
              refine am_icmp_lt 50 63 dX7_area_50 rfl (fun c50 => ?_) (fun c50 => absurd (by decide) c50)
              refine am_aload_n 63 dX7_area_63 rfl ?_
              refine am_getfield 64 dX7_area_64 fX7_39 (by repeat (first | assumption | exact am_ue | refine am_un (by first | assumption | decide | omega) ?_)) rfl ?_
              refine am_iload_n 67 dX7_area_67 rfl ?_
              refine am_iload_n 68 dX7_area_68 rfl ?_
              refine am_iload_n 69 dX7_area_69 rfl ?_
              refine am_iload 70 dX7_area_70 rfl ?_
              refine am_V4 72 (mc' := 0) (ms' := 0) (rc := 1) (rs := 6) dX7_area_72 lX7_74 ⟨by decide, by decide⟩ (by repeat (first | assumption | exact am_ue | refine am_un (by first | assumption | decide | omega) ?_)) (Nat.le_of_ble_eq_true rfl) (Nat.le_of_ble_eq_true rfl) (s_tell0 h7) ?_
              rintro o n' f' ⟨rfl, rfl, he⟩
              refine am_ct_in ?_
              refine am_ireturn 75 dX7_area_75 rfl rfl ?_
              refine ⟨?_, rfl, fun x hx => he x (by omega)⟩
              unfold m_oArea
              rw [if_pos ⟨c1, c6, c12, c16, c22, Int32.not_le.mpr c29⟩]
            · refine am_throw 32 rfl tX7_59_61 dX7_area_32 dX7_area_35 dX7_area_36 dX7_area_38 dX7_area_41 (by decide) (by decide) ?_
              refine ⟨?_, rfl, fun _ _ => rfl⟩
              unfold m_oArea
              rw [if_neg (fun z => by first | exact z.1 c1 | exact z.2.1 c6 | exact z.2.2.1 c12 | exact z.2.2.2.1 c16 | exact z.2.2.2.2.1 c22 | exact z.2.2.2.2.2 (Int32.not_lt.mp c29))]
noncomputable def m_oDial (d : Int32) : Option Value ⊕ Nat := if 1 ≤ d ∧ d ≤ 4 then m_iv 4 else .inr 0
theorem s_dial0 {d : Int32} (hF : m_Fr f p) : AM mX7_dial 1 6 [.ref p, .int d] n f (m_ans p n f (m_oDial d)) := by
  have h0 := hF.1
  show AW mX7_dial 1 6 0 [some (.ref p), some (.int d), none] [] n f _
  refine am_iload_n 0 dX7_dial_0 rfl ?_
  refine am_iconst 1 (v := 1) dX7_dial_1 (by decide) ?_
  refine am_icmp_lt 2 10 dX7_dial_2 rfl (fun c2 => ?_) (fun c2 => ?_)
  · refine am_throw 10 rfl tX7_59_78 dX7_dial_10 dX7_dial_13 dX7_dial_14 dX7_dial_16 dX7_dial_19 (by decide) (by decide) ?_
    refine ⟨?_, rfl, fun _ _ => rfl⟩
    unfold m_oDial
    rw [if_neg (fun z => by first | exact Int32.not_lt.mpr z.1 c2 | exact c7 z.2)]
  · refine am_iload_n 5 dX7_dial_5 rfl ?_
    refine am_iconst 6 (v := 4) dX7_dial_6 (by decide) ?_
    refine am_icmp_le 7 20 dX7_dial_7 rfl (fun c7 => ?_) (fun c7 => ?_)
    · refine am_aload_n 20 dX7_dial_20 rfl ?_
      refine am_getfield 21 dX7_dial_21 fX7_52 (by repeat (first | assumption | exact am_ue | refine am_un (by first | assumption | decide | omega) ?_)) rfl ?_
      refine am_istore_n 24 dX7_dial_24 (by decide) ?_
      refine am_aload_n 25 dX7_dial_25 rfl ?_
      refine am_iload_n 26 dX7_dial_26 rfl ?_
      refine am_putfield 27 dX7_dial_27 pX7_52 (by repeat (first | assumption | exact am_ue | refine am_un (by first | assumption | decide | omega) ?_)) rfl rfl (Nat.le_of_ble_eq_true rfl) ?_
      refine am_iload_n 30 dX7_dial_30 rfl ?_
      refine am_ireturn 31 dX7_dial_31 rfl rfl ?_
      refine ⟨?_, rfl, fun x hx => by rw [am_up_ne (by omega)]⟩
      unfold m_oDial
      rw [if_pos ⟨Int32.not_lt.mp c2, c7⟩]
    · refine am_throw 10 rfl tX7_59_78 dX7_dial_10 dX7_dial_13 dX7_dial_14 dX7_dial_16 dX7_dial_19 (by decide) (by decide) ?_
      refine ⟨?_, rfl, fun _ _ => rfl⟩
      unfold m_oDial
      rw [if_neg (fun z => by first | exact Int32.not_lt.mpr z.1 c2 | exact c7 z.2)]
noncomputable def m_oLimit (d : Int32) : Option Value ⊕ Nat := if 1 ≤ d ∧ d ≤ 30 then m_iv 12 else .inr 0
theorem s_limit0 {d : Int32} (hF : m_Fr f p) : AM mX7_limit 1 6 [.ref p, .int d] n f (m_ans p n f (m_oLimit d)) := by
  have h0 := hF.1
  show AW mX7_limit 1 6 0 [some (.ref p), some (.int d), none] [] n f _
  refine am_iload_n 0 dX7_limit_0 rfl ?_
  refine am_iconst 1 (v := 1) dX7_limit_1 (by decide) ?_
  refine am_icmp_lt 2 11 dX7_limit_2 rfl (fun c2 => ?_) (fun c2 => ?_)
  · refine am_throw 11 rfl tX7_59_80 dX7_limit_11 dX7_limit_14 dX7_limit_15 dX7_limit_17 dX7_limit_20 (by decide) (by decide) ?_
    refine ⟨?_, rfl, fun _ _ => rfl⟩
    unfold m_oLimit
    rw [if_neg (fun z => by first | exact Int32.not_lt.mpr z.1 c2 | exact c8 z.2)]
  · refine am_iload_n 5 dX7_limit_5 rfl ?_
    refine am_bipush 6 (v := 30) dX7_limit_6 (by decide) ?_
    refine am_icmp_le 8 21 dX7_limit_8 rfl (fun c8 => ?_) (fun c8 => ?_)
    · refine am_aload_n 21 dX7_limit_21 rfl ?_
      refine am_getfield 22 dX7_limit_22 fX7_56 (by repeat (first | assumption | exact am_ue | refine am_un (by first | assumption | decide | omega) ?_)) rfl ?_
      refine am_istore_n 25 dX7_limit_25 (by decide) ?_
      refine am_aload_n 26 dX7_limit_26 rfl ?_
      refine am_iload_n 27 dX7_limit_27 rfl ?_
      refine am_putfield 28 dX7_limit_28 pX7_56 (by repeat (first | assumption | exact am_ue | refine am_un (by first | assumption | decide | omega) ?_)) rfl rfl (Nat.le_of_ble_eq_true rfl) ?_
      refine am_iload_n 31 dX7_limit_31 rfl ?_
      refine am_ireturn 32 dX7_limit_32 rfl rfl ?_
      refine ⟨?_, rfl, fun x hx => by rw [am_up_ne (by omega)]⟩
      unfold m_oLimit
      rw [if_pos ⟨Int32.not_lt.mp c2, c8⟩]
    · refine am_throw 11 rfl tX7_59_80 dX7_limit_11 dX7_limit_14 dX7_limit_15 dX7_limit_17 dX7_limit_20 (by decide) (by decide) ?_
      refine ⟨?_, rfl, fun _ _ => rfl⟩
      unfold m_oLimit
      rw [if_neg (fun z => by first | exact Int32.not_lt.mpr z.1 c2 | exact c8 z.2)]
end Palm0
