/-! ===== a new object: its constructor; it is a glass that nobody touches ===== -/
section Pin
def m_Fr (f : Nat → am_C) (p : Nat) : Prop := f p = .inr (7, [.ref (p + 1), .ref (p + 4), .ref (p + 11), .ref (p + 14), .ref (p + 21), .ref (p + 24), .ref (p + 34), .int 4, .int 12, .int 0, .int 0]) ∧ m_Sh f (p + 1) (fun _ => 0) (fun _ => 0) 0 ∧ m_Pic f (p + 4) (fun _ => 0) (fun _ => 0) (fun _ => 0) (fun _ => 0) (fun _ => 0) (fun _ => 0) 0 0 ∧ m_Sh f (p + 11) (fun _ => 0) (fun _ => 0) 0 ∧ m_Pic f (p + 14) (fun _ => 0) (fun _ => 0) (fun _ => 0) (fun _ => 0) (fun _ => 0) (fun _ => 0) 0 0 ∧ m_Pr f (p + 21) (fun _ => 0) (fun _ => 0) 0 ∧ m_AsF f (p + 24) ∧ m_HaF f (p + 34) (p + 24)
variable {p n : Nat} {f : Nat → am_C}
set_option maxRecDepth 100000 in
set_option maxHeartbeats 4000000 in
theorem s_Palmward_init (h0 : f p = .inr (7, [.null, .null, .null, .null, .null, .null, .null, .int 0, .int 0, .int 0, .int 0])) : AM mX7_init 45 987 [.ref p] (p + 1) f (fun o n' f' => o = .inl none ∧ n' = p + 46 ∧ m_Fr f' p ∧ ∀ x, x < p → f' x = f x) := by
  show AW mX7_init 45 987 0 [some (.ref p)] [] (p + 1) f _
  refine am_aload_n 0 dX7_init_0 rfl ?_
  refine am_OI 1 dX7_init_1 lX7_1 (by decide) (Nat.le_of_ble_eq_true rfl) ?_
  refine am_aload_n 4 dX7_init_4 rfl ?_
  refine am_new 5 (rc := 44) (rs := 984) (N := 3) dX7_init_5 nX7_7 ?_
  refine am_dup 8 dX7_init_8 rfl ?_
  refine am_IN0 9 (mc' := 2) (ms' := 96) (rc := 42) (rs := 888) dX7_init_9 lX7_9 ⟨by decide, by decide⟩ (Nat.le_of_ble_eq_true rfl) (Nat.le_of_ble_eq_true rfl) (s_Sheet_init am_ue) ?_
  rintro o n1 f1 ⟨rfl, hn, S1, hk1⟩
  obtain rfl : n1 = p + 4 := hn
  refine ⟨_, rfl, ?_⟩
  have a1 : f1 p = .inr (7, [.null, .null, .null, .null, .null, .null, .null, .int 0, .int 0, .int 0, .int 0]) := (hk1 p (by omega)).trans (am_un (by omega) h0)
  have e1 : ∀ x, x < p + 1 → x ≠ p → f1 x = f x := fun x h1 h2 => (hk1 x h1).trans (by rw [am_up_ne (by omega)])
  refine am_putfinal 12 dX7_init_12 rfl qX7_10 (by repeat (first | assumption | exact am_ue | refine am_un (by first | assumption | decide | omega) ?_)) rfl rfl (Nat.le_of_ble_eq_true rfl) ?_
  refine am_aload_n 15 dX7_init_15 rfl ?_
  refine am_new 16 (rc := 41) (rs := 880) (N := 8) dX7_init_16 nX7_16 ?_
  refine am_dup 19 dX7_init_19 rfl ?_
  refine am_IN0 20 (mc' := 6) (ms' := 288) (rc := 35) (rs := 592) dX7_init_20 lX7_18 ⟨by decide, by decide⟩ (Nat.le_of_ble_eq_true rfl) (Nat.le_of_ble_eq_true rfl) (s_Picture_init am_ue) ?_
  rintro o n2 f2 ⟨rfl, hn, S2, hk2⟩
  obtain rfl : n2 = p + 11 := hn
  refine ⟨_, rfl, ?_⟩
  have a2 : f2 p = .inr (7, [.ref (p + 1), .null, .null, .null, .null, .null, .null, .int 0, .int 0, .int 0, .int 0]) := (hk2 p (by omega)).trans (am_un (by omega) am_ue)
  have e2 : ∀ x, x < p + 4 → x ≠ p → f2 x = f1 x := fun x h1 h2 => (hk2 x h1).trans (by rw [am_up_ne (by omega), am_up_ne h2])
  have S1 : m_Sh f2 (p + 1) (fun _ => 0) (fun _ => 0) 0 := S1.on (fun x h1 h2 => e2 x (by omega) (by omega))
  refine am_putfinal 23 dX7_init_23 rfl qX7_19 (by repeat (first | assumption | exact am_ue | refine am_un (by first | assumption | decide | omega) ?_)) rfl rfl (Nat.le_of_ble_eq_true rfl) ?_
  refine am_aload_n 26 dX7_init_26 rfl ?_
  refine am_new 27 (rc := 34) (rs := 589) (N := 3) dX7_init_27 nX7_7 ?_
  refine am_dup 30 dX7_init_30 rfl ?_
  refine am_IN0 31 (mc' := 2) (ms' := 96) (rc := 32) (rs := 493) dX7_init_31 lX7_9 ⟨by decide, by decide⟩ (Nat.le_of_ble_eq_true rfl) (Nat.le_of_ble_eq_true rfl) (s_Sheet_init am_ue) ?_
  rintro o n3 f3 ⟨rfl, hn, S3, hk3⟩
  obtain rfl : n3 = p + 14 := hn
  refine ⟨_, rfl, ?_⟩
  have a3 : f3 p = .inr (7, [.ref (p + 1), .ref (p + 4), .null, .null, .null, .null, .null, .int 0, .int 0, .int 0, .int 0]) := (hk3 p (by omega)).trans (am_un (by omega) am_ue)
  have e3 : ∀ x, x < p + 11 → x ≠ p → f3 x = f2 x := fun x h1 h2 => (hk3 x h1).trans (by rw [am_up_ne (by omega), am_up_ne h2])
  have S1 : m_Sh f3 (p + 1) (fun _ => 0) (fun _ => 0) 0 := S1.on (fun x h1 h2 => e3 x (by omega) (by omega))
  have S2 : m_Pic f3 (p + 4) (fun _ => 0) (fun _ => 0) (fun _ => 0) (fun _ => 0) (fun _ => 0) (fun _ => 0) 0 0 := S2.on (fun x h1 h2 => e3 x (by omega) (by omega))
  refine am_putfinal 34 dX7_init_34 rfl qX7_23 (by repeat (first | assumption | exact am_ue | refine am_un (by first | assumption | decide | omega) ?_)) rfl rfl (Nat.le_of_ble_eq_true rfl) ?_
  refine am_aload_n 37 dX7_init_37 rfl ?_
  refine am_new 38 (rc := 31) (rs := 485) (N := 8) dX7_init_38 nX7_16 ?_
  refine am_dup 41 dX7_init_41 rfl ?_
  refine am_IN0 42 (mc' := 6) (ms' := 288) (rc := 25) (rs := 197) dX7_init_42 lX7_18 ⟨by decide, by decide⟩ (Nat.le_of_ble_eq_true rfl) (Nat.le_of_ble_eq_true rfl) (s_Picture_init am_ue) ?_
  rintro o n4 f4 ⟨rfl, hn, S4, hk4⟩
  obtain rfl : n4 = p + 21 := hn
  refine ⟨_, rfl, ?_⟩
  have a4 : f4 p = .inr (7, [.ref (p + 1), .ref (p + 4), .ref (p + 11), .null, .null, .null, .null, .int 0, .int 0, .int 0, .int 0]) := (hk4 p (by omega)).trans (am_un (by omega) am_ue)
  have e4 : ∀ x, x < p + 14 → x ≠ p → f4 x = f3 x := fun x h1 h2 => (hk4 x h1).trans (by rw [am_up_ne (by omega), am_up_ne h2])
  have S1 : m_Sh f4 (p + 1) (fun _ => 0) (fun _ => 0) 0 := S1.on (fun x h1 h2 => e4 x (by omega) (by omega))
  have S2 : m_Pic f4 (p + 4) (fun _ => 0) (fun _ => 0) (fun _ => 0) (fun _ => 0) (fun _ => 0) (fun _ => 0) 0 0 := S2.on (fun x h1 h2 => e4 x (by omega) (by omega))
  have S3 : m_Sh f4 (p + 11) (fun _ => 0) (fun _ => 0) 0 := S3.on (fun x h1 h2 => e4 x (by omega) (by omega))
  refine am_putfinal 45 dX7_init_45 rfl qX7_26 (by repeat (first | assumption | exact am_ue | refine am_un (by first | assumption | decide | omega) ?_)) rfl rfl (Nat.le_of_ble_eq_true rfl) ?_
  refine am_aload_n 48 dX7_init_48 rfl ?_
  refine am_new 49 (rc := 24) (rs := 194) (N := 3) dX7_init_49 nX7_29 ?_
  refine am_dup 52 dX7_init_52 rfl ?_
  refine am_IN0 53 (mc' := 2) (ms' := 37) (rc := 22) (rs := 157) dX7_init_53 lX7_31 ⟨by decide, by decide⟩ (Nat.le_of_ble_eq_true rfl) (Nat.le_of_ble_eq_true rfl) (s_Pairing_init am_ue) ?_
  rintro o n5 f5 ⟨rfl, hn, S5, hk5⟩
  obtain rfl : n5 = p + 24 := hn
  refine ⟨_, rfl, ?_⟩
  have a5 : f5 p = .inr (7, [.ref (p + 1), .ref (p + 4), .ref (p + 11), .ref (p + 14), .null, .null, .null, .int 0, .int 0, .int 0, .int 0]) := (hk5 p (by omega)).trans (am_un (by omega) am_ue)
  have e5 : ∀ x, x < p + 21 → x ≠ p → f5 x = f4 x := fun x h1 h2 => (hk5 x h1).trans (by rw [am_up_ne (by omega), am_up_ne h2])
  have S1 : m_Sh f5 (p + 1) (fun _ => 0) (fun _ => 0) 0 := S1.on (fun x h1 h2 => e5 x (by omega) (by omega))
  have S2 : m_Pic f5 (p + 4) (fun _ => 0) (fun _ => 0) (fun _ => 0) (fun _ => 0) (fun _ => 0) (fun _ => 0) 0 0 := S2.on (fun x h1 h2 => e5 x (by omega) (by omega))
  have S3 : m_Sh f5 (p + 11) (fun _ => 0) (fun _ => 0) 0 := S3.on (fun x h1 h2 => e5 x (by omega) (by omega))
  have S4 : m_Pic f5 (p + 14) (fun _ => 0) (fun _ => 0) (fun _ => 0) (fun _ => 0) (fun _ => 0) (fun _ => 0) 0 0 := S4.on (fun x h1 h2 => e5 x (by omega) (by omega))
  refine am_putfinal 56 dX7_init_56 rfl qX7_32 (by repeat (first | assumption | exact am_ue | refine am_un (by first | assumption | decide | omega) ?_)) rfl rfl (Nat.le_of_ble_eq_true rfl) ?_
  refine am_aload_n 59 dX7_init_59 rfl ?_
  refine am_new 60 (rc := 21) (rs := 155) (N := 2) dX7_init_60 nX7_36 ?_
  refine am_dup 63 dX7_init_63 rfl ?_
  refine am_I0 64 (mc' := 9) (ms' := 40) (rc := 12) (rs := 115) dX7_init_64 lX7_38 ⟨by decide, by decide⟩ (Nat.le_of_ble_eq_true rfl) (Nat.le_of_ble_eq_true rfl) (s_Areas_init am_ue) ?_
  rintro o n6 f6 ⟨rfl, hn, S6, hk6⟩
  obtain rfl : n6 = p + 34 := hn
  refine ⟨_, rfl, ?_⟩
  have a6 : f6 p = .inr (7, [.ref (p + 1), .ref (p + 4), .ref (p + 11), .ref (p + 14), .ref (p + 21), .null, .null, .int 0, .int 0, .int 0, .int 0]) := (hk6 p (by omega)).trans (am_un (by omega) am_ue)
  have e6 : ∀ x, x < p + 24 → x ≠ p → f6 x = f5 x := fun x h1 h2 => (hk6 x h1).trans (by rw [am_up_ne (by omega), am_up_ne h2])
  have S1 : m_Sh f6 (p + 1) (fun _ => 0) (fun _ => 0) 0 := S1.on (fun x h1 h2 => e6 x (by omega) (by omega))
  have S2 : m_Pic f6 (p + 4) (fun _ => 0) (fun _ => 0) (fun _ => 0) (fun _ => 0) (fun _ => 0) (fun _ => 0) 0 0 := S2.on (fun x h1 h2 => e6 x (by omega) (by omega))
  have S3 : m_Sh f6 (p + 11) (fun _ => 0) (fun _ => 0) 0 := S3.on (fun x h1 h2 => e6 x (by omega) (by omega))
  have S4 : m_Pic f6 (p + 14) (fun _ => 0) (fun _ => 0) (fun _ => 0) (fun _ => 0) (fun _ => 0) (fun _ => 0) 0 0 := S4.on (fun x h1 h2 => e6 x (by omega) (by omega))
  have S5 : m_Pr f6 (p + 21) (fun _ => 0) (fun _ => 0) 0 := S5.on (fun x h1 h2 => e6 x (by omega) (by omega))
  refine am_putfinal 67 dX7_init_67 rfl qX7_39 (by repeat (first | assumption | exact am_ue | refine am_un (by first | assumption | decide | omega) ?_)) rfl rfl (Nat.le_of_ble_eq_true rfl) ?_
  refine am_aload_n 70 dX7_init_70 rfl ?_
  refine am_new 71 (rc := 11) (rs := 110) (N := 5) dX7_init_71 nX7_43 ?_
  refine am_dup 74 dX7_init_74 rfl ?_
  refine am_aload_n 75 dX7_init_75 rfl ?_
  refine am_getfield 76 dX7_init_76 fX7_39 (by repeat (first | assumption | exact am_ue | refine am_un (by first | assumption | decide | omega) ?_)) rfl ?_
  refine am_I1 79 (mc' := 11) (ms' := 110) (rc := 0) (rs := 0) dX7_init_79 lX7_45 ⟨by decide, by decide⟩ (Nat.le_of_ble_eq_true rfl) (Nat.le_of_ble_eq_true rfl) (s_Hand_init am_ue (by omega)) ?_
  rintro o n7 f7 ⟨rfl, hn, S7, hk7⟩
  obtain rfl : n7 = p + 46 := hn
  refine ⟨_, rfl, ?_⟩
  have a7 : f7 p = .inr (7, [.ref (p + 1), .ref (p + 4), .ref (p + 11), .ref (p + 14), .ref (p + 21), .ref (p + 24), .null, .int 0, .int 0, .int 0, .int 0]) := (hk7 p (by omega)).trans (am_un (by omega) am_ue)
  have e7 : ∀ x, x < p + 34 → x ≠ p → f7 x = f6 x := fun x h1 h2 => (hk7 x h1).trans (by rw [am_up_ne (by omega), am_up_ne h2])
  have S1 : m_Sh f7 (p + 1) (fun _ => 0) (fun _ => 0) 0 := S1.on (fun x h1 h2 => e7 x (by omega) (by omega))
  have S2 : m_Pic f7 (p + 4) (fun _ => 0) (fun _ => 0) (fun _ => 0) (fun _ => 0) (fun _ => 0) (fun _ => 0) 0 0 := S2.on (fun x h1 h2 => e7 x (by omega) (by omega))
  have S3 : m_Sh f7 (p + 11) (fun _ => 0) (fun _ => 0) 0 := S3.on (fun x h1 h2 => e7 x (by omega) (by omega))
  have S4 : m_Pic f7 (p + 14) (fun _ => 0) (fun _ => 0) (fun _ => 0) (fun _ => 0) (fun _ => 0) (fun _ => 0) 0 0 := S4.on (fun x h1 h2 => e7 x (by omega) (by omega))
  have S5 : m_Pr f7 (p + 21) (fun _ => 0) (fun _ => 0) 0 := S5.on (fun x h1 h2 => e7 x (by omega) (by omega))
  have S6 : m_AsF f7 (p + 24) := S6.on (fun x h1 h2 => e7 x (by omega) (by omega))
  refine am_putfinal 82 dX7_init_82 rfl qX7_48 (by repeat (first | assumption | exact am_ue | refine am_un (by first | assumption | decide | omega) ?_)) rfl rfl (Nat.le_of_ble_eq_true rfl) ?_
  refine am_aload_n 85 dX7_init_85 rfl ?_
  refine am_iconst 86 (v := 4) dX7_init_86 (by decide) ?_
  refine am_putfield 87 dX7_init_87 pX7_52 (by repeat (first | assumption | exact am_ue | refine am_un (by first | assumption | decide | omega) ?_)) rfl rfl (Nat.le_of_ble_eq_true rfl) ?_
  refine am_aload_n 90 dX7_init_90 rfl ?_
  refine am_bipush 91 (v := 12) dX7_init_91 (by decide) ?_
  refine am_putfield 93 dX7_init_93 pX7_56 (by repeat (first | assumption | exact am_ue | refine am_un (by first | assumption | decide | omega) ?_)) rfl rfl (Nat.le_of_ble_eq_true rfl) ?_
  refine am_return 96 dX7_init_96 rfl ?_
  refine ⟨rfl, rfl, ⟨am_ue, S1.on ?_, S2.on ?_, S3.on ?_, S4.on ?_, S5.on ?_, S6.on ?_, S7.on ?_⟩, fun x hx => ?_⟩
  all_goals first | (intro x h1 h2; repeat rw [am_up_ne (by omega)]) | (repeat rw [am_up_ne (by omega)])
  rw [e7 x (by omega) (by omega), e6 x (by omega) (by omega), e5 x (by omega) (by omega), e4 x (by omega) (by omega), e3 x (by omega) (by omega), e2 x (by omega) (by omega), e1 x (by omega) (by omega)]
/-- nobody's contact -/
def m_K0 : m_K := (fun _ => 0, fun _ => 0, fun _ => 0)
def m_z0 : m_Z := ((fun _ => 0, fun _ => 0, 0), fun _ => m_K0, (0, 0, 0), (0, fun _ _ => 0, fun _ _ => 0), (4, 12, 0, 0))
theorem m_K0_ok : m_kOk m_K0 := by
  have h : ∀ {a b : Int}, a ≤ 0 → 0 ≤ b → fB (0 : UInt32) a b := fun ha hb => fB_0 ha hb
  exact ⟨h (by decide) (by decide), h (by decide) (by decide), h (by decide) (by decide), h (by decide) (by decide), h (by decide) (by decide), h (by decide) (by decide), h (by decide) (by decide), fun j _ => h (by decide) (by decide), 0, 0, by decide, by decide, rfl, rfl⟩
theorem m_Fr_G (h : m_Fr f p) : m_G f p 0 m_z0 := by
  obtain ⟨h0, h1, h2, h3, h4, h5, h6, h7⟩ := h
  have hsg : m_sg m_z0 = fun _ => 0 := by
    funext k
    show (0 : Int32) + 0 - 0 = 0
    decide
  refine ⟨h0, h1, ?_, ⟨⟨_, _, _, h3⟩, ⟨_, _, _, _, _, _, _, _, h4⟩, _, _, _, h5⟩, ⟨h6.1, h6.2.1, by decide, fun k hk => h6.2.2 k hk⟩, ⟨h7.1, h7.2.1, fun k hk => h7.2.2 k hk⟩, ⟨fun k hk => ⟨m_K0_ok, Or.inl rfl, fun q => absurd rfl q⟩, by decide, fun a ha => absurd ha (Nat.not_lt_zero _), fun a _ kd => rfl⟩, by decide, by decide, by decide, by decide, by decide⟩
  rw [hsg]
  exact m_Look_0 h2
end Pin
