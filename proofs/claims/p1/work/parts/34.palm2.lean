/-! ===== Palmward on a new object: frame, wipe, what is asked ===== -/
section Palm2
variable {p n : Nat} {f : Nat → am_C}
theorem m_small_le (N : Nat) {v y : Int32} (hv : v = nI N) (hN : N + 1 < 2 ^ 31) (h0 : 0 ≤ y) (h1 : y ≤ v) : ∃ k : Nat, k ≤ N ∧ y = nI k := by
  subst hv
  have h2 := Int32.le_iff_toInt_le.mp h0
  have h3 := Int32.le_iff_toInt_le.mp h1
  rw [nI_toInt (by omega)] at h3
  rw [show (0 : Int32).toInt = 0 from rfl] at h2
  exact ⟨y.toInt.toNat, by omega, Int32.toInt_inj.mp (by rw [nI_toInt (by omega)]; omega)⟩
theorem s_frame0 (hF : m_Fr f p) : AM mX7_frame 0 0 [.ref p] n f (m_ans p n f (m_iv 0)) := by
  obtain ⟨h0, h1, h2, -, -, h5, -, h7⟩ := hF
  have hp := h2.1
  show AW mX7_frame 0 0 0 [some (.ref p), none] [] n f _
  refine am_aload_n 0 dX7_frame_0 rfl ?_
  refine am_getfield 1 dX7_frame_1 fX7_19 (by repeat (first | assumption | exact am_ue | refine am_un (by first | assumption | decide | omega) ?_)) rfl ?_
  refine am_getfield 4 dX7_frame_4 fX7_115 (by repeat (first | assumption | exact am_ue | refine am_un (by first | assumption | decide | omega) ?_)) rfl ?_
  refine am_aload_n 7 dX7_frame_7 rfl ?_
  refine am_getfield 8 dX7_frame_8 fX7_56 (by repeat (first | assumption | exact am_ue | refine am_un (by first | assumption | decide | omega) ?_)) rfl ?_
  refine am_icmp_le 11 18 dX7_frame_11 rfl (fun c11 => ?_) (fun c11 => absurd (by decide) c11)
  refine am_iconst 18 (v := 0) dX7_frame_18 (by decide) ?_
  refine am_istore_n 19 dX7_frame_19 (by decide) ?_
  refine am_iload_n 20 dX7_frame_20 rfl ?_
  refine am_if_eq 21 37 dX7_frame_21 rfl (fun c21 => ?_) (fun c21 => absurd rfl c21)
  refine am_aload_n 37 dX7_frame_37 rfl ?_
  refine am_dup 38 dX7_frame_38 rfl ?_
  refine am_getfield 39 dX7_frame_39 fX7_121 (by repeat (first | assumption | exact am_ue | refine am_un (by first | assumption | decide | omega) ?_)) rfl ?_
  refine am_iconst 42 (v := 1) dX7_frame_42 (by decide) ?_
  refine am_iadd 43 dX7_frame_43 ?_
  refine am_putfield 44 dX7_frame_44 pX7_121 (by repeat (first | assumption | exact am_ue | refine am_un (by first | assumption | decide | omega) ?_)) rfl rfl (Nat.le_of_ble_eq_true rfl) ?_
  generalize hf1 : va_up f p _ = f1
  have a1 : f1 p = .inr (7, [.ref (p + 1), .ref (p + 4), .ref (p + 11), .ref (p + 14), .ref (p + 21), .ref (p + 24), .ref (p + 34), .int 4, .int 12, .int 1, .int 0]) := by rw [← hf1]; exact am_ue
  have e1 : ∀ x, x ≠ p → f1 x = f x := fun x hx => by rw [← hf1, am_up_ne hx]
  have k1 := h1.on (f' := f1) (fun x a b => e1 x (by omega))
  have k2 := h2.on (f' := f1) (fun x a b => e1 x (by omega))
  have k5 := h5.on (f' := f1) (fun x a b => e1 x (by omega))
  have k7 := h7.on (f' := f1) (fun x a b => e1 x (by omega))
  have k8 := k7.1
  refine am_aload_n 47 dX7_frame_47 rfl ?_
  refine am_getfield 48 dX7_frame_48 fX7_32 (by repeat (first | assumption | exact am_ue | refine am_un (by first | assumption | decide | omega) ?_)) rfl ?_
  refine am_aload_n 51 dX7_frame_51 rfl ?_
  refine am_getfield 52 dX7_frame_52 fX7_19 (by repeat (first | assumption | exact am_ue | refine am_un (by first | assumption | decide | omega) ?_)) rfl ?_
  refine am_aload_n 55 dX7_frame_55 rfl ?_
  refine am_getfield 56 dX7_frame_56 fX7_48 (by repeat (first | assumption | exact am_ue | refine am_un (by first | assumption | decide | omega) ?_)) rfl ?_
  refine am_getfield 59 dX7_frame_59 fX7_124 (by repeat (first | assumption | exact am_ue | refine am_un (by first | assumption | decide | omega) ?_)) rfl ?_
  refine am_V2 62 (mc' := 0) (ms' := 0) (rc := 0) (rs := 0) dX7_frame_62 lX7_128 ⟨by decide, by decide⟩ k5.1 (Nat.le_of_ble_eq_true rfl) (Nat.le_of_ble_eq_true rfl) (s_pair0 k5 k2.1 (by omega)) ?_
  rintro o n' f2 ⟨rfl, rfl, ⟨le', be', q5⟩, e2⟩
  have j0 : f2 p = .inr (7, [.ref (p + 1), .ref (p + 4), .ref (p + 11), .ref (p + 14), .ref (p + 21), .ref (p + 24), .ref (p + 34), .int 4, .int 12, .int 1, .int 0]) := (e2 p (by omega)).trans a1
  have j1 := k1.on (f' := f2) (fun x a b => e2 x (by omega))
  have j2 := k2.on (f' := f2) (fun x a b => e2 x (by omega))
  have j7 := k7.on (f' := f2) (fun x a b => e2 x (by omega))
  refine am_ct_in ?_
  refine am_aload_n 65 dX7_frame_65 rfl ?_
  refine am_getfield 66 dX7_frame_66 fX7_48 (by repeat (first | assumption | exact am_ue | refine am_un (by first | assumption | decide | omega) ?_)) rfl ?_
  refine am_aload_n 69 dX7_frame_69 rfl ?_
  refine am_getfield 70 dX7_frame_70 fX7_19 (by repeat (first | assumption | exact am_ue | refine am_un (by first | assumption | decide | omega) ?_)) rfl ?_
  refine am_aload_n 73 dX7_frame_73 rfl ?_
  refine am_getfield 74 dX7_frame_74 fX7_32 (by repeat (first | assumption | exact am_ue | refine am_un (by first | assumption | decide | omega) ?_)) rfl ?_
  refine am_aload_n 77 dX7_frame_77 rfl ?_
  refine am_getfield 78 dX7_frame_78 fX7_52 (by repeat (first | assumption | exact am_ue | refine am_un (by first | assumption | decide | omega) ?_)) rfl ?_
  refine am_V3 81 (mc' := 0) (ms' := 0) (rc := 0) (rs := 0) dX7_frame_81 lX7_132 ⟨by decide, by decide⟩ j7.1 (Nat.le_of_ble_eq_true rfl) (Nat.le_of_ble_eq_true rfl) (s_take0 j7 q5.1 j2.1) ?_
  refine am_is_ct ?_
  refine am_aload_n 84 dX7_frame_84 rfl ?_
  refine am_getfield 85 dX7_frame_85 fX7_10 (by repeat (first | assumption | exact am_ue | refine am_un (by first | assumption | decide | omega) ?_)) rfl ?_
  refine am_aload_n 88 dX7_frame_88 rfl ?_
  refine am_getfield 89 dX7_frame_89 fX7_19 (by repeat (first | assumption | exact am_ue | refine am_un (by first | assumption | decide | omega) ?_)) rfl ?_
  refine am_V1 92 (mc' := 0) (ms' := 0) (rc := 0) (rs := 0) dX7_frame_92 lX7_136 ⟨by decide, by decide⟩ j1.1 (Nat.le_of_ble_eq_true rfl) (Nat.le_of_ble_eq_true rfl) (s_settle j2 j1 (by omega)) ?_
  refine am_is_ct ?_
  refine am_aload_n 95 dX7_frame_95 rfl ?_
  refine am_getfield 96 dX7_frame_96 fX7_10 (am_un (by omega) j0) rfl ?_
  refine am_V0 99 (mc' := 0) (ms' := 0) (rc := 0) (rs := 0) dX7_frame_99 lX7_140 ⟨by decide, by decide⟩ (am_un (by omega) j1.1) (Nat.le_of_ble_eq_true rfl) (Nat.le_of_ble_eq_true rfl) (s_forgetWaits (am_un (by omega) j1.1) (am_un (by omega) j1.2.1) (by omega)) ?_
  refine am_is_ct ?_
  have g1 : m_Sh (va_up (va_up f2 (p + 1 + 2) (.inl (0, 48, .inl (m_settle (fun _ => 0) (fun _ => 0) (fun _ => 0))))) (p + 1 + 1) (.inl (0, 48, .inl (fun _ => 0)))) (p + 1) (fun _ => 0) (m_settle (fun _ => 0) (fun _ => 0) (fun _ => 0)) 0 := ⟨am_un (by omega) (am_un (by omega) j1.1), am_ue, am_un (by omega) am_ue⟩
  have g2 := j2.on (f' := (va_up (va_up f2 (p + 1 + 2) (.inl (0, 48, .inl (m_settle (fun _ => 0) (fun _ => 0) (fun _ => 0))))) (p + 1 + 1) (.inl (0, 48, .inl (fun _ => 0))))) (fun x a b => by rw [am_up_ne (by omega), am_up_ne (by omega)])
  refine am_aload_n 102 dX7_frame_102 rfl ?_
  refine am_getfield 103 dX7_frame_103 fX7_19 (am_un (by omega) (am_un (by omega) j0)) rfl ?_
  refine am_aload_n 106 dX7_frame_106 rfl ?_
  refine am_getfield 107 dX7_frame_107 fX7_10 (am_un (by omega) (am_un (by omega) j0)) rfl ?_
  refine am_V1 110 (mc' := 0) (ms' := 0) (rc := 0) (rs := 0) dX7_frame_110 lX7_87 ⟨by decide, by decide⟩ g2.1 (Nat.le_of_ble_eq_true rfl) (Nat.le_of_ble_eq_true rfl) (s_look g2 g1 (by omega)) ?_
  rintro o n' f' ⟨pc', px', py', chn', rfl, rfl, rfl, hok⟩
  refine am_ct_in ?_
  refine am_iload_n 113 dX7_frame_113 rfl ?_
  refine am_if_eq 114 122 dX7_frame_114 rfl (fun c114 => ?_) (fun c114 => absurd rfl c114)
  refine am_aload_n 122 dX7_frame_122 rfl ?_
  refine am_getfield 123 dX7_frame_123 fX7_48 ((m_put_out (by omega)).trans (am_un (by omega) (am_un (by omega) j0))) rfl ?_
  refine am_V0 126 (mc' := 0) (ms' := 0) (rc := 0) (rs := 0) dX7_frame_126 lX7_143 ⟨by decide, by decide⟩ ((m_put_out (by omega)).trans (am_un (by omega) (am_un (by omega) j7.1))) (Nat.le_of_ble_eq_true rfl) (Nat.le_of_ble_eq_true rfl) (s_countContacts0 (j7.on fun x a b => (m_put_out (by omega)).trans (by rw [am_up_ne (by omega), am_up_ne (by omega)]))) ?_
  refine am_is_ct ?_
  refine am_ireturn 129 dX7_frame_129 rfl rfl ?_
  exact ⟨rfl, rfl, fun x hx => by rw [m_put_out (by omega), am_up_ne (by omega), am_up_ne (by omega), e2 x (by omega), e1 x (by omega)]⟩
theorem s_wipe0 (hF : m_Fr f p) : AM mX7_wipe 0 0 [.ref p] n f (m_ans p n f (m_iv 0)) := by
  obtain ⟨h0, h1, h2, -, -, h5, -, h7⟩ := hF
  have hh := h7.1
  have hs := h1.1
  show AW mX7_wipe 0 0 0 [some (.ref p), none] [] n f _
  refine am_aload_n 0 dX7_wipe_0 rfl ?_
  refine am_getfield 1 dX7_wipe_1 fX7_48 (by repeat (first | assumption | exact am_ue | refine am_un (by first | assumption | decide | omega) ?_)) rfl ?_
  refine am_V0 4 (mc' := 0) (ms' := 0) (rc := 0) (rs := 0) dX7_wipe_4 lX7_143 ⟨by decide, by decide⟩ (by repeat (first | assumption | exact am_ue | refine am_un (by first | assumption | decide | omega) ?_)) (Nat.le_of_ble_eq_true rfl) (Nat.le_of_ble_eq_true rfl) (s_countContacts0 h7) ?_
  refine am_is_ct ?_
  refine am_istore_n 7 dX7_wipe_7 (by decide) ?_
  refine am_aload_n 8 dX7_wipe_8 rfl ?_
  refine am_getfield 9 dX7_wipe_9 fX7_48 (by repeat (first | assumption | exact am_ue | refine am_un (by first | assumption | decide | omega) ?_)) rfl ?_
  refine am_V0 12 (mc' := 0) (ms' := 0) (rc := 0) (rs := 0) dX7_wipe_12 lX7_147 ⟨by decide, by decide⟩ (by repeat (first | assumption | exact am_ue | refine am_un (by first | assumption | decide | omega) ?_)) (Nat.le_of_ble_eq_true rfl) (Nat.le_of_ble_eq_true rfl) (s_cancelAll0 h7) ?_
  refine am_is_ct ?_
  refine am_aload_n 15 dX7_wipe_15 rfl ?_
  refine am_getfield 16 dX7_wipe_16 fX7_10 (by repeat (first | assumption | exact am_ue | refine am_un (by first | assumption | decide | omega) ?_)) rfl ?_
  refine am_V0 19 (mc' := 0) (ms' := 0) (rc := 0) (rs := 0) dX7_wipe_19 lX7_150 ⟨by decide, by decide⟩ (by repeat (first | assumption | exact am_ue | refine am_un (by first | assumption | decide | omega) ?_)) (Nat.le_of_ble_eq_true rfl) (Nat.le_of_ble_eq_true rfl) (s_baseOnHeat h1.1 h1.2.2 (by omega)) ?_
  refine am_is_ct ?_
  refine am_aload_n 22 dX7_wipe_22 rfl ?_
  refine am_getfield 23 dX7_wipe_23 fX7_10 (am_un (by omega) h0) rfl ?_
  refine am_V0 26 (mc' := 0) (ms' := 0) (rc := 0) (rs := 0) dX7_wipe_26 lX7_140 ⟨by decide, by decide⟩ (am_un (by omega) h1.1) (Nat.le_of_ble_eq_true rfl) (Nat.le_of_ble_eq_true rfl) (s_forgetWaits (am_un (by omega) h1.1) (am_un (by omega) h1.2.1) (by omega)) ?_
  refine am_is_ct ?_
  have g1 : m_Sh (va_up (va_up f (p + 1 + 2) (.inl (0, 48, .inl (fun _ => 0)))) (p + 1 + 1) (.inl (0, 48, .inl (fun _ => 0)))) (p + 1) (fun _ => 0) (fun _ => 0) 0 := ⟨am_un (by omega) (am_un (by omega) h1.1), am_ue, am_un (by omega) am_ue⟩
  have g2 := h2.on (f' := (va_up (va_up f (p + 1 + 2) (.inl (0, 48, .inl (fun _ => 0)))) (p + 1 + 1) (.inl (0, 48, .inl (fun _ => 0))))) (fun x a b => by rw [am_up_ne (by omega), am_up_ne (by omega)])
  refine am_aload_n 29 dX7_wipe_29 rfl ?_
  refine am_getfield 30 dX7_wipe_30 fX7_19 (am_un (by omega) (am_un (by omega) h0)) rfl ?_
  refine am_aload_n 33 dX7_wipe_33 rfl ?_
  refine am_getfield 34 dX7_wipe_34 fX7_10 (am_un (by omega) (am_un (by omega) h0)) rfl ?_
  refine am_V1 37 (mc' := 0) (ms' := 0) (rc := 0) (rs := 0) dX7_wipe_37 lX7_87 ⟨by decide, by decide⟩ g2.1 (Nat.le_of_ble_eq_true rfl) (Nat.le_of_ble_eq_true rfl) (s_look g2 g1 (by omega)) ?_
  rintro o n' f' ⟨pc', px', py', chn', rfl, rfl, rfl, hok⟩
  refine am_ct_in ?_
  refine am_iload_n 40 dX7_wipe_40 rfl ?_
  refine am_ireturn 41 dX7_wipe_41 rfl rfl ?_
  exact ⟨rfl, rfl, fun x hx => by rw [m_put_out (by omega), am_up_ne (by omega), am_up_ne (by omega)]⟩
theorem m_tc00 {c : Nat} : m_tc (fun _ => 0) c = 0 := by
  show (if (0 : Int32) < 20 then (0 : Int32) else 1) = 0
  decide
theorem s_cellAnswer0 {c j : Nat} (hF : m_Fr f p) (hc : c < 48) (hj : j ≤ 4) : AM mX7_cellAnswer 0 0 [.ref p, .int (nI c), .int (nI j)] n f (am_is (some (.int 0)) n f) := by
  obtain ⟨h0, h1, h2, -⟩ := hF
  obtain ⟨p0, p1, p2, p3, p4, p5, p6⟩ := id h2
  have hs := h1.1
  have hs1 := h1.2.1
  have hs2 := h1.2.2
  show AW mX7_cellAnswer 0 0 0 [some (.ref p), some (.int (nI c)), some (.int (nI j))] [] n f _
  have hcs : j = 0 ∨ j = 1 ∨ j = 2 ∨ j = 3 ∨ j = 4 := by omega
  rcases hcs with rfl | rfl | rfl | rfl | rfl
  · refine am_iload_n 0 dX7_cellAnswer_0 rfl ?_
    refine am_tableIn 1 (off := 31) (tgt := 32) dX7_cellAnswer_1 (by decide) (by decide) rfl rfl ?_
    refine am_aload_n 32 dX7_cellAnswer_32 rfl ?_
    refine am_getfield 33 dX7_cellAnswer_33 fX7_10 (by repeat (first | assumption | exact am_ue | refine am_un (by first | assumption | decide | omega) ?_)) rfl ?_
    refine am_iload_n 36 dX7_cellAnswer_36 rfl ?_
    refine am_V1 37 (mc' := 0) (ms' := 0) (rc := 0) (rs := 0) dX7_cellAnswer_37 lX7_246 ⟨by decide, by decide⟩ (by repeat (first | assumption | exact am_ue | refine am_un (by first | assumption | decide | omega) ?_)) (Nat.le_of_ble_eq_true rfl) (Nat.le_of_ble_eq_true rfl) (s_chargeOf hs hs1 hc) ?_
    refine am_is_ct ?_
    refine am_ireturn 40 dX7_cellAnswer_40 rfl rfl ?_
    exact ⟨rfl, rfl, rfl⟩
  · refine am_iload_n 0 dX7_cellAnswer_0 rfl ?_
    refine am_tableIn 1 (off := 40) (tgt := 41) dX7_cellAnswer_1 (by decide) (by decide) rfl rfl ?_
    refine am_aload_n 41 dX7_cellAnswer_41 rfl ?_
    refine am_getfield 42 dX7_cellAnswer_42 fX7_10 (by repeat (first | assumption | exact am_ue | refine am_un (by first | assumption | decide | omega) ?_)) rfl ?_
    refine am_getfield 45 dX7_cellAnswer_45 fX7_249 (by repeat (first | assumption | exact am_ue | refine am_un (by first | assumption | decide | omega) ?_)) rfl ?_
    refine am_iload_n 48 dX7_cellAnswer_48 rfl ?_
    refine am_iaload 49 dX7_cellAnswer_49 rfl (by repeat (first | assumption | exact am_ue | refine am_un (by first | assumption | decide | omega) ?_)) (am_ix hc (by decide)) ?_
    exact am_ireturn 50 dX7_cellAnswer_50 rfl rfl ⟨rfl, rfl, rfl⟩
  · refine am_iload_n 0 dX7_cellAnswer_0 rfl ?_
    refine am_tableIn 1 (off := 50) (tgt := 51) dX7_cellAnswer_1 (by decide) (by decide) rfl rfl ?_
    refine am_aload_n 51 dX7_cellAnswer_51 rfl ?_
    refine am_getfield 52 dX7_cellAnswer_52 fX7_19 (by repeat (first | assumption | exact am_ue | refine am_un (by first | assumption | decide | omega) ?_)) rfl ?_
    refine am_getfield 55 dX7_cellAnswer_55 fX7_103 (by repeat (first | assumption | exact am_ue | refine am_un (by first | assumption | decide | omega) ?_)) rfl ?_
    refine am_iload_n 58 dX7_cellAnswer_58 rfl ?_
    refine am_iaload 59 dX7_cellAnswer_59 rfl (by repeat (first | assumption | exact am_ue | refine am_un (by first | assumption | decide | omega) ?_)) (am_ix hc (by decide)) ?_
    exact am_ireturn 60 dX7_cellAnswer_60 rfl rfl ⟨rfl, rfl, rfl⟩
  · refine am_iload_n 0 dX7_cellAnswer_0 rfl ?_
    refine am_tableIn 1 (off := 60) (tgt := 61) dX7_cellAnswer_1 (by decide) (by decide) rfl rfl ?_
    refine am_aload_n 61 dX7_cellAnswer_61 rfl ?_
    refine am_getfield 62 dX7_cellAnswer_62 fX7_19 (by repeat (first | assumption | exact am_ue | refine am_un (by first | assumption | decide | omega) ?_)) rfl ?_
    refine am_iload_n 65 dX7_cellAnswer_65 rfl ?_
    refine am_V1 66 (mc' := 0) (ms' := 0) (rc := 0) (rs := 0) dX7_cellAnswer_66 lX7_252 ⟨by decide, by decide⟩ (by repeat (first | assumption | exact am_ue | refine am_un (by first | assumption | decide | omega) ?_)) (Nat.le_of_ble_eq_true rfl) (Nat.le_of_ble_eq_true rfl) (s_isTouched h2 hc) ?_
    refine am_is_ct ?_
    refine am_if_eq 69 76 dX7_cellAnswer_69 rfl (fun c69 => ?_) (fun c69 => absurd m_tc00 c69)
    refine am_iconst 76 (v := 0) dX7_cellAnswer_76 (by decide) ?_
    exact am_ireturn 77 dX7_cellAnswer_77 rfl rfl ⟨rfl, rfl, rfl⟩
  · refine am_iload_n 0 dX7_cellAnswer_0 rfl ?_
    refine am_tableOut 1 (tgt := 78) dX7_cellAnswer_1 (by decide) rfl ?_
    refine am_aload_n 78 dX7_cellAnswer_78 rfl ?_
    refine am_getfield 79 dX7_cellAnswer_79 fX7_19 (by repeat (first | assumption | exact am_ue | refine am_un (by first | assumption | decide | omega) ?_)) rfl ?_
    refine am_getfield 82 dX7_cellAnswer_82 fX7_255 (by repeat (first | assumption | exact am_ue | refine am_un (by first | assumption | decide | omega) ?_)) rfl ?_
    refine am_iload_n 85 dX7_cellAnswer_85 rfl ?_
    refine am_iaload 86 dX7_cellAnswer_86 rfl (by repeat (first | assumption | exact am_ue | refine am_un (by first | assumption | decide | omega) ?_)) (am_ix hc (by decide)) ?_
    exact am_ireturn 87 dX7_cellAnswer_87 rfl rfl ⟨rfl, rfl, rfl⟩
noncomputable def m_oCell (x y w : Int32) : Option Value ⊕ Nat := if x < 0 ∨ 8 ≤ x ∨ y < 0 ∨ 6 ≤ y then .inr 2 else if 0 ≤ w ∧ w ≤ 4 then m_iv 0 else .inr 0
theorem s_ofCell0 {x y w : Int32} (hF : m_Fr f p) : AM mX7_ofCell 2 12 [.ref p, .int x, .int y, .int w] n f (m_ans p n f (m_oCell x y w)) := by
  have h0 := hF.1
  show AW mX7_ofCell 2 12 0 [some (.ref p), some (.int x), some (.int y), some (.int w)] [] n f _
  refine am_iload_n 0 dX7_ofCell_0 rfl ?_
  refine am_iload_n 1 dX7_ofCell_1 rfl ?_
  refine am_S2 2 (mc' := 1) (ms' := 6) (rc := 1) (rs := 6) dX7_ofCell_2 lX7_91 ⟨by decide, by decide⟩ (Nat.le_of_ble_eq_true rfl) (Nat.le_of_ble_eq_true rfl) (s_checkCell) ?_
  rintro o n' f' ⟨rfl, rfl, hcc⟩
  rcases hcc with ⟨rfl, j, k, hj, hk, rfl, rfl⟩ | ⟨rfl, hbad⟩
  rotate_left
  · exact am_ct_out rfl ⟨by unfold m_oCell; rw [if_pos hbad], rfl, fun _ _ => rfl⟩
  refine am_ct_in ?_
  refine am_iload_n 5 dX7_ofCell_5 rfl ?_
  refine am_iconst 6 (v := 4) dX7_ofCell_6 (by decide) ?_
  refine am_S2 7 (mc' := 1) (ms' := 6) (rc := 0) (rs := 0) dX7_ofCell_7 lX7_153 ⟨by decide, by decide⟩ (Nat.le_of_ble_eq_true rfl) (Nat.le_of_ble_eq_true rfl) (s_checkWhat) ?_
  rintro o n' f' ⟨rfl, rfl, hcc⟩
  rcases hcc with ⟨rfl, hs1, hs2⟩ | ⟨rfl, hbad⟩
  rotate_left
  · exact am_ct_out rfl ⟨by unfold m_oCell; rw [if_neg (by intro z; rcases z with z | z | z | z <;> first | exact m_nbad rfl (by decide) hj (Or.inl z) | exact m_nbad (N := 8) rfl (by decide) hj (Or.inr z) | exact m_nbad rfl (by decide) hk (Or.inl z) | exact m_nbad (N := 6) rfl (by decide) hk (Or.inr z)), if_neg hbad], rfl, fun _ _ => rfl⟩
  refine am_ct_in ?_
  obtain ⟨v, hv, rfl⟩ := m_small_le 4 rfl (by decide) hs1 hs2
  refine am_aload_n 10 dX7_ofCell_10 rfl ?_
  refine am_iload_n 11 dX7_ofCell_11 rfl ?_
  refine am_bipush 12 (v := 8) dX7_ofCell_12 (by decide) ?_
  refine am_imul 14 dX7_ofCell_14 ?_
  refine am_iload_n 15 dX7_ofCell_15 rfl ?_
  refine am_iadd 16 dX7_ofCell_16 ?_
  rw [am_cellN]
  refine am_iload_n 17 dX7_ofCell_17 rfl ?_
  refine am_V2 18 (mc' := 0) (ms' := 0) (rc := 0) (rs := 0) dX7_ofCell_18 lX7_156 ⟨by decide, by decide⟩ (by repeat (first | assumption | exact am_ue | refine am_un (by first | assumption | decide | omega) ?_)) (Nat.le_of_ble_eq_true rfl) (Nat.le_of_ble_eq_true rfl) (s_cellAnswer0 hF (by omega) hv) ?_
  refine am_is_ct ?_
  refine am_ireturn 21 dX7_ofCell_21 rfl rfl ?_
  refine ⟨?_, rfl, fun _ _ => rfl⟩
  unfold m_oCell
  rw [if_neg (by intro z; rcases z with z | z | z | z <;> first | exact m_nbad rfl (by decide) hj (Or.inl z) | exact m_nbad (N := 8) rfl (by decide) hj (Or.inr z) | exact m_nbad rfl (by decide) hk (Or.inl z) | exact m_nbad (N := 6) rfl (by decide) hk (Or.inr z)), if_pos ⟨hs1, hs2⟩]
theorem s_ofPeak0 {x w : Int32} (hF : m_Fr f p) : AM mX7_ofPeak 1 6 [.ref p, .int x, .int w] n f (m_ans p n f (.inr 2)) := by
  obtain ⟨h0, h1, h2, -⟩ := hF
  have hp := h2.1
  show AW mX7_ofPeak 1 6 0 [some (.ref p), some (.int x), some (.int w)] [] n f _
  refine am_iload_n 0 dX7_ofPeak_0 rfl ?_
  refine am_if_lt 1 15 dX7_ofPeak_1 rfl (fun c1 => ?_) (fun c1 => ?_)
  · refine am_throw 15 rfl tX7_163_165 dX7_ofPeak_15 dX7_ofPeak_18 dX7_ofPeak_19 dX7_ofPeak_21 dX7_ofPeak_24 (by decide) (by decide) ?_
    exact ⟨rfl, rfl, fun _ _ => rfl⟩
  · refine am_iload_n 4 dX7_ofPeak_4 rfl ?_
    refine am_aload_n 5 dX7_ofPeak_5 rfl ?_
    refine am_getfield 6 dX7_ofPeak_6 fX7_19 (by repeat (first | assumption | exact am_ue | refine am_un (by first | assumption | decide | omega) ?_)) rfl ?_
    refine am_getfield 9 dX7_ofPeak_9 fX7_160 (by repeat (first | assumption | exact am_ue | refine am_un (by first | assumption | decide | omega) ?_)) rfl ?_
    refine am_icmp_lt 12 25 dX7_ofPeak_12 rfl (fun c12 => absurd c12 c1) (fun c12 => ?_)
    refine am_throw 15 rfl tX7_163_165 dX7_ofPeak_15 dX7_ofPeak_18 dX7_ofPeak_19 dX7_ofPeak_21 dX7_ofPeak_24 (by decide) (by decide) ?_
    exact ⟨rfl, rfl, fun _ _ => rfl⟩
theorem s_ofArea0 {x w : Int32} (hF : m_Fr f p) : AM mX7_ofArea 1 6 [.ref p, .int x, .int w] n f (m_ans p n f (.inr 2)) := by
  obtain ⟨h0, h1, h2, -, -, -, h6, -⟩ := hF
  have hp := h6.1
  show AW mX7_ofArea 1 6 0 [some (.ref p), some (.int x), some (.int w)] [] n f _
  refine am_iload_n 0 dX7_ofArea_0 rfl ?_
  refine am_if_lt 1 15 dX7_ofArea_1 rfl (fun c1 => ?_) (fun c1 => ?_)
  · refine am_throw 15 rfl tX7_163_61 dX7_ofArea_15 dX7_ofArea_18 dX7_ofArea_19 dX7_ofArea_21 dX7_ofArea_24 (by decide) (by decide) ?_
    exact ⟨rfl, rfl, fun _ _ => rfl⟩
  · refine am_iload_n 4 dX7_ofArea_4 rfl ?_
    refine am_aload_n 5 dX7_ofArea_5 rfl ?_
    refine am_getfield 6 dX7_ofArea_6 fX7_39 (by repeat (first | assumption | exact am_ue | refine am_un (by first | assumption | decide | omega) ?_)) rfl ?_
    refine am_getfield 9 dX7_ofArea_9 fX7_66 (by repeat (first | assumption | exact am_ue | refine am_un (by first | assumption | decide | omega) ?_)) rfl ?_
    refine am_icmp_lt 12 25 dX7_ofArea_12 rfl (fun c12 => absurd c12 c1) (fun c12 => ?_)
    refine am_throw 15 rfl tX7_163_61 dX7_ofArea_15 dX7_ofArea_18 dX7_ofArea_19 dX7_ofArea_21 dX7_ofArea_24 (by decide) (by decide) ?_
    exact ⟨rfl, rfl, fun _ _ => rfl⟩
theorem s_ofContact0 {x w : Int32} (hF : m_Fr f p) : AM mX7_ofContact 1 6 [.ref p, .int x, .int w] n f (m_ans p n f (.inr 2)) := by
  have h0 := hF.1
  show AW mX7_ofContact 1 6 0 [some (.ref p), some (.int x), some (.int w)] [] n f _
  refine am_aload_n 0 dX7_ofContact_0 rfl ?_
  refine am_iload_n 1 dX7_ofContact_1 rfl ?_
  refine am_V1 2 (mc' := 1) (ms' := 6) (rc := 0) (rs := 0) dX7_ofContact_2 lX7_171 ⟨by decide, by decide⟩ (by repeat (first | assumption | exact am_ue | refine am_un (by first | assumption | decide | omega) ?_)) (Nat.le_of_ble_eq_true rfl) (Nat.le_of_ble_eq_true rfl) (s_checkName0 hF) ?_
  rintro o n' f' ⟨rfl, rfl, rfl⟩
  exact am_ct_out rfl ⟨rfl, rfl, fun _ _ => rfl⟩
theorem s_where0 {x w : Int32} (hF : m_Fr f p) : AM mX7_where 1 6 [.ref p, .int x, .int w] n f (m_ans p n f (.inr 2)) := by
  have h0 := hF.1
  show AW mX7_where 1 6 0 [some (.ref p), some (.int x), some (.int w)] [] n f _
  refine am_aload_n 0 dX7_where_0 rfl ?_
  refine am_iload_n 1 dX7_where_1 rfl ?_
  refine am_V1 2 (mc' := 1) (ms' := 6) (rc := 0) (rs := 0) dX7_where_2 lX7_171 ⟨by decide, by decide⟩ (by repeat (first | assumption | exact am_ue | refine am_un (by first | assumption | decide | omega) ?_)) (Nat.le_of_ble_eq_true rfl) (Nat.le_of_ble_eq_true rfl) (s_checkName0 hF) ?_
  rintro o n' f' ⟨rfl, rfl, rfl⟩
  exact am_ct_out rfl ⟨rfl, rfl, fun _ _ => rfl⟩
theorem s_apart0 {x w : Int32} (hF : m_Fr f p) : AM mX7_apart 1 6 [.ref p, .int x, .int w] n f (m_ans p n f (.inr 2)) := by
  have h0 := hF.1
  show AW mX7_apart 1 6 0 [some (.ref p), some (.int x), some (.int w)] [] n f _
  refine am_aload_n 0 dX7_apart_0 rfl ?_
  refine am_iload_n 1 dX7_apart_1 rfl ?_
  refine am_V1 2 (mc' := 1) (ms' := 6) (rc := 0) (rs := 0) dX7_apart_2 lX7_171 ⟨by decide, by decide⟩ (by repeat (first | assumption | exact am_ue | refine am_un (by first | assumption | decide | omega) ?_)) (Nat.le_of_ble_eq_true rfl) (Nat.le_of_ble_eq_true rfl) (s_checkName0 hF) ?_
  rintro o n' f' ⟨rfl, rfl, rfl⟩
  exact am_ct_out rfl ⟨rfl, rfl, fun _ _ => rfl⟩
theorem s_guess0 {x w b : Int32} (hF : m_Fr f p) : AM mX7_guess 1 6 [.ref p, .int x, .int w, .int b] n f (m_ans p n f (.inr 2)) := by
  have h0 := hF.1
  show AW mX7_guess 1 6 0 [some (.ref p), some (.int x), some (.int w), some (.int b)] [] n f _
  refine am_aload_n 0 dX7_guess_0 rfl ?_
  refine am_iload_n 1 dX7_guess_1 rfl ?_
  refine am_V1 2 (mc' := 1) (ms' := 6) (rc := 0) (rs := 0) dX7_guess_2 lX7_171 ⟨by decide, by decide⟩ (by repeat (first | assumption | exact am_ue | refine am_un (by first | assumption | decide | omega) ?_)) (Nat.le_of_ble_eq_true rfl) (Nat.le_of_ble_eq_true rfl) (s_checkName0 hF) ?_
  rintro o n' f' ⟨rfl, rfl, rfl⟩
  exact am_ct_out rfl ⟨rfl, rfl, fun _ _ => rfl⟩
theorem s_wouldMatch0 {x : Int32} (hF : m_Fr f p) : AM mX7_wouldMatch 1 6 [.ref p, .int x] n f (m_ans p n f (.inr 2)) := by
  have h0 := hF.1
  show AW mX7_wouldMatch 1 6 0 [some (.ref p), some (.int x)] [] n f _
  refine am_aload_n 0 dX7_wouldMatch_0 rfl ?_
  refine am_iload_n 1 dX7_wouldMatch_1 rfl ?_
  refine am_V1 2 (mc' := 1) (ms' := 6) (rc := 0) (rs := 0) dX7_wouldMatch_2 lX7_171 ⟨by decide, by decide⟩ (by repeat (first | assumption | exact am_ue | refine am_un (by first | assumption | decide | omega) ?_)) (Nat.le_of_ble_eq_true rfl) (Nat.le_of_ble_eq_true rfl) (s_checkName0 hF) ?_
  rintro o n' f' ⟨rfl, rfl, rfl⟩
  exact am_ct_out rfl ⟨rfl, rfl, fun _ _ => rfl⟩
theorem s_keepBy0 {x w : Int32} (hF : m_Fr f p) : AM mX7_keepBy 1 6 [.ref p, .int x, .int w] n f (m_ans p n f (.inr 2)) := by
  have h0 := hF.1
  show AW mX7_keepBy 1 6 0 [some (.ref p), some (.int x), some (.int w), none] [] n f _
  refine am_aload_n 0 dX7_keepBy_0 rfl ?_
  refine am_iload_n 1 dX7_keepBy_1 rfl ?_
  refine am_V1 2 (mc' := 1) (ms' := 6) (rc := 0) (rs := 0) dX7_keepBy_2 lX7_171 ⟨by decide, by decide⟩ (by repeat (first | assumption | exact am_ue | refine am_un (by first | assumption | decide | omega) ?_)) (Nat.le_of_ble_eq_true rfl) (Nat.le_of_ble_eq_true rfl) (s_checkName0 hF) ?_
  rintro o n' f' ⟨rfl, rfl, rfl⟩
  exact am_ct_out rfl ⟨rfl, rfl, fun _ _ => rfl⟩
theorem s_rowAnswer0 {y j : Nat} (hF : m_Fr f p) (hy : y < 6) (hj : j ≤ 2) : AM mX7_rowAnswer 0 0 [.ref p, .int (nI y), .int (nI j)] n f (am_is (some (.int 0)) n f) := by
  obtain ⟨h0, h1, h2, -⟩ := hF
  have hp := h2.1
  show AW mX7_rowAnswer 0 0 0 [some (.ref p), some (.int (nI y)), some (.int (nI j))] [] n f _
  have hcs : j = 0 ∨ j = 1 ∨ j = 2 := by omega
  rcases hcs with rfl | rfl | rfl
  · refine am_iload_n 0 dX7_rowAnswer_0 rfl ?_
    refine am_lookup 1 (off := 27) (tgt := 28) dX7_rowAnswer_1 (by decide) (by decide) rfl ?_
    refine am_aload_n 28 dX7_rowAnswer_28 rfl ?_
    refine am_getfield 29 dX7_rowAnswer_29 fX7_19 (by repeat (first | assumption | exact am_ue | refine am_un (by first | assumption | decide | omega) ?_)) rfl ?_
    refine am_iload_n 32 dX7_rowAnswer_32 rfl ?_
    refine am_V1 33 (mc' := 0) (ms' := 0) (rc := 0) (rs := 0) dX7_rowAnswer_33 lX7_307 ⟨by decide, by decide⟩ (by repeat (first | assumption | exact am_ue | refine am_un (by first | assumption | decide | omega) ?_)) (Nat.le_of_ble_eq_true rfl) (Nat.le_of_ble_eq_true rfl) (s_signalOfRow h2 hy) ?_
    refine am_is_ct ?_
    refine am_ireturn 36 dX7_rowAnswer_36 rfl rfl ?_
    exact ⟨rfl, rfl, rfl⟩
  · refine am_iload_n 0 dX7_rowAnswer_0 rfl ?_
    refine am_lookup 1 (off := 36) (tgt := 37) dX7_rowAnswer_1 (by decide) (by decide) rfl ?_
    refine am_aload_n 37 dX7_rowAnswer_37 rfl ?_
    refine am_getfield 38 dX7_rowAnswer_38 fX7_19 (by repeat (first | assumption | exact am_ue | refine am_un (by first | assumption | decide | omega) ?_)) rfl ?_
    refine am_iload_n 41 dX7_rowAnswer_41 rfl ?_
    refine am_V1 42 (mc' := 0) (ms' := 0) (rc := 0) (rs := 0) dX7_rowAnswer_42 lX7_310 ⟨by decide, by decide⟩ (by repeat (first | assumption | exact am_ue | refine am_un (by first | assumption | decide | omega) ?_)) (Nat.le_of_ble_eq_true rfl) (Nat.le_of_ble_eq_true rfl) (s_touchedInRow h2 hy) ?_
    refine am_is_ct ?_
    refine am_ireturn 45 dX7_rowAnswer_45 rfl rfl ?_
    refine ⟨?_, rfl, rfl⟩
    rw [show (fun x => m_tc (fun _ => 0) (8 * y + x)) = fun _ => (0 : Int32) from funext fun _ => m_tc00]
    rfl
  · refine am_iload_n 0 dX7_rowAnswer_0 rfl ?_
    refine am_lookup 1 (off := 45) (tgt := 46) dX7_rowAnswer_1 (by decide) (by decide) rfl ?_
    refine am_aload_n 46 dX7_rowAnswer_46 rfl ?_
    refine am_getfield 47 dX7_rowAnswer_47 fX7_19 (by repeat (first | assumption | exact am_ue | refine am_un (by first | assumption | decide | omega) ?_)) rfl ?_
    refine am_iload_n 50 dX7_rowAnswer_50 rfl ?_
    refine am_V1 51 (mc' := 0) (ms' := 0) (rc := 0) (rs := 0) dX7_rowAnswer_51 lX7_313 ⟨by decide, by decide⟩ (by repeat (first | assumption | exact am_ue | refine am_un (by first | assumption | decide | omega) ?_)) (Nat.le_of_ble_eq_true rfl) (Nat.le_of_ble_eq_true rfl) (s_peaksInRow (m_Look_0 h2) hy) ?_
    refine am_is_ct ?_
    refine am_ireturn 54 dX7_rowAnswer_54 rfl rfl ?_
    refine ⟨?_, rfl, rfl⟩
    rw [m_pks_0]
    rfl
noncomputable def m_oRow (y w : Int32) : Option Value ⊕ Nat := if y < 0 ∨ 6 ≤ y then .inr 2 else if 0 ≤ w ∧ w ≤ 2 then m_iv 0 else .inr 0
theorem s_ofRow0 {y w : Int32} (hF : m_Fr f p) : AM mX7_ofRow 2 12 [.ref p, .int y, .int w] n f (m_ans p n f (m_oRow y w)) := by
  have h0 := hF.1
  show AW mX7_ofRow 2 12 0 [some (.ref p), some (.int y), some (.int w)] [] n f _
  refine am_iload_n 0 dX7_ofRow_0 rfl ?_
  refine am_S1 1 (mc' := 1) (ms' := 6) (rc := 1) (rs := 6) dX7_ofRow_1 lX7_107 ⟨by decide, by decide⟩ (Nat.le_of_ble_eq_true rfl) (Nat.le_of_ble_eq_true rfl) (s_checkRow) ?_
  rintro o n' f' ⟨rfl, rfl, hcc⟩
  rcases hcc with ⟨rfl, k, hk, rfl⟩ | ⟨rfl, hbad⟩
  rotate_left
  · exact am_ct_out rfl ⟨by unfold m_oRow; rw [if_pos hbad], rfl, fun _ _ => rfl⟩
  refine am_ct_in ?_
  refine am_iload_n 4 dX7_ofRow_4 rfl ?_
  refine am_iconst 5 (v := 2) dX7_ofRow_5 (by decide) ?_
  refine am_S2 6 (mc' := 1) (ms' := 6) (rc := 0) (rs := 0) dX7_ofRow_6 lX7_153 ⟨by decide, by decide⟩ (Nat.le_of_ble_eq_true rfl) (Nat.le_of_ble_eq_true rfl) (s_checkWhat) ?_
  rintro o n' f' ⟨rfl, rfl, hcc⟩
  rcases hcc with ⟨rfl, hs1, hs2⟩ | ⟨rfl, hbad⟩
  rotate_left
  · exact am_ct_out rfl ⟨by unfold m_oRow; rw [if_neg (show ¬ (nI k < 0 ∨ 6 ≤ nI k) from m_nbad (N := 6) rfl (by decide) hk), if_neg hbad], rfl, fun _ _ => rfl⟩
  refine am_ct_in ?_
  obtain ⟨v, hv, rfl⟩ := m_small_le 2 rfl (by decide) hs1 hs2
  refine am_aload_n 9 dX7_ofRow_9 rfl ?_
  refine am_iload_n 10 dX7_ofRow_10 rfl ?_
  refine am_iload_n 11 dX7_ofRow_11 rfl ?_
  refine am_V2 12 (mc' := 0) (ms' := 0) (rc := 0) (rs := 0) dX7_ofRow_12 lX7_188 ⟨by decide, by decide⟩ (by repeat (first | assumption | exact am_ue | refine am_un (by first | assumption | decide | omega) ?_)) (Nat.le_of_ble_eq_true rfl) (Nat.le_of_ble_eq_true rfl) (s_rowAnswer0 hF hk hv) ?_
  refine am_is_ct ?_
  refine am_ireturn 15 dX7_ofRow_15 rfl rfl ?_
  refine ⟨?_, rfl, fun _ _ => rfl⟩
  unfold m_oRow
  rw [if_neg (show ¬ (nI k < 0 ∨ 6 ≤ nI k) from m_nbad (N := 6) rfl (by decide) hk), if_pos ⟨hs1, hs2⟩]
theorem s_manyAnswer0 {j : Nat} (hF : m_Fr f p) (hj : j ≤ 9) : AM mX7_manyAnswer 0 0 [.ref p, .int (nI j)] n f (am_is (some (.int 0)) n f) := by
  obtain ⟨h0, h1, h2, -, -, -, h6, h7⟩ := hF
  have hp := h2.1
  have hh := h7.1
  have ha := h6.1
  show AW mX7_manyAnswer 0 0 0 [some (.ref p), some (.int (nI j))] [] n f _
  have hcs : j = 0 ∨ j = 1 ∨ j = 2 ∨ j = 3 ∨ j = 4 ∨ j = 5 ∨ j = 6 ∨ j = 7 ∨ j = 8 ∨ j = 9 := by omega
  rcases hcs with rfl | rfl | rfl | rfl | rfl | rfl | rfl | rfl | rfl | rfl
  · refine am_iload_n 0 dX7_manyAnswer_0 rfl ?_
    refine am_tableIn 1 (off := 51) (tgt := 52) dX7_manyAnswer_1 (by decide) (by decide) rfl rfl ?_
    refine am_aload_n 52 dX7_manyAnswer_52 rfl ?_
    refine am_getfield 53 dX7_manyAnswer_53 fX7_121 (by repeat (first | assumption | exact am_ue | refine am_un (by first | assumption | decide | omega) ?_)) rfl ?_
    exact am_ireturn 56 dX7_manyAnswer_56 rfl rfl ⟨rfl, rfl, rfl⟩
  · refine am_iload_n 0 dX7_manyAnswer_0 rfl ?_
    refine am_tableIn 1 (off := 56) (tgt := 57) dX7_manyAnswer_1 (by decide) (by decide) rfl rfl ?_
    refine am_aload_n 57 dX7_manyAnswer_57 rfl ?_
    refine am_getfield 58 dX7_manyAnswer_58 fX7_118 (by repeat (first | assumption | exact am_ue | refine am_un (by first | assumption | decide | omega) ?_)) rfl ?_
    exact am_ireturn 61 dX7_manyAnswer_61 rfl rfl ⟨rfl, rfl, rfl⟩
  · refine am_iload_n 0 dX7_manyAnswer_0 rfl ?_
    refine am_tableIn 1 (off := 61) (tgt := 62) dX7_manyAnswer_1 (by decide) (by decide) rfl rfl ?_
    refine am_aload_n 62 dX7_manyAnswer_62 rfl ?_
    refine am_getfield 63 dX7_manyAnswer_63 fX7_48 (by repeat (first | assumption | exact am_ue | refine am_un (by first | assumption | decide | omega) ?_)) rfl ?_
    refine am_V0 66 (mc' := 0) (ms' := 0) (rc := 0) (rs := 0) dX7_manyAnswer_66 lX7_143 ⟨by decide, by decide⟩ (by repeat (first | assumption | exact am_ue | refine am_un (by first | assumption | decide | omega) ?_)) (Nat.le_of_ble_eq_true rfl) (Nat.le_of_ble_eq_true rfl) (s_countContacts0 h7) ?_
    refine am_is_ct ?_
    exact am_ireturn 69 dX7_manyAnswer_69 rfl rfl ⟨rfl, rfl, rfl⟩
  · refine am_iload_n 0 dX7_manyAnswer_0 rfl ?_
    refine am_tableIn 1 (off := 69) (tgt := 70) dX7_manyAnswer_1 (by decide) (by decide) rfl rfl ?_
    refine am_aload_n 70 dX7_manyAnswer_70 rfl ?_
    refine am_getfield 71 dX7_manyAnswer_71 fX7_48 (by repeat (first | assumption | exact am_ue | refine am_un (by first | assumption | decide | omega) ?_)) rfl ?_
    refine am_getfield 74 dX7_manyAnswer_74 fX7_322 (by repeat (first | assumption | exact am_ue | refine am_un (by first | assumption | decide | omega) ?_)) rfl ?_
    exact am_ireturn 77 dX7_manyAnswer_77 rfl rfl ⟨rfl, rfl, rfl⟩
  · refine am_iload_n 0 dX7_manyAnswer_0 rfl ?_
    refine am_tableIn 1 (off := 77) (tgt := 78) dX7_manyAnswer_1 (by decide) (by decide) rfl rfl ?_
    refine am_aload_n 78 dX7_manyAnswer_78 rfl ?_
    refine am_getfield 79 dX7_manyAnswer_79 fX7_48 (by repeat (first | assumption | exact am_ue | refine am_un (by first | assumption | decide | omega) ?_)) rfl ?_
    refine am_getfield 82 dX7_manyAnswer_82 fX7_325 (by repeat (first | assumption | exact am_ue | refine am_un (by first | assumption | decide | omega) ?_)) rfl ?_
    exact am_ireturn 85 dX7_manyAnswer_85 rfl rfl ⟨rfl, rfl, rfl⟩
  · refine am_iload_n 0 dX7_manyAnswer_0 rfl ?_
    refine am_tableIn 1 (off := 85) (tgt := 86) dX7_manyAnswer_1 (by decide) (by decide) rfl rfl ?_
    refine am_aload_n 86 dX7_manyAnswer_86 rfl ?_
    refine am_getfield 87 dX7_manyAnswer_87 fX7_48 (by repeat (first | assumption | exact am_ue | refine am_un (by first | assumption | decide | omega) ?_)) rfl ?_
    refine am_getfield 90 dX7_manyAnswer_90 fX7_328 (by repeat (first | assumption | exact am_ue | refine am_un (by first | assumption | decide | omega) ?_)) rfl ?_
    exact am_ireturn 93 dX7_manyAnswer_93 rfl rfl ⟨rfl, rfl, rfl⟩
  · refine am_iload_n 0 dX7_manyAnswer_0 rfl ?_
    refine am_tableIn 1 (off := 93) (tgt := 94) dX7_manyAnswer_1 (by decide) (by decide) rfl rfl ?_
    refine am_aload_n 94 dX7_manyAnswer_94 rfl ?_
    refine am_getfield 95 dX7_manyAnswer_95 fX7_39 (by repeat (first | assumption | exact am_ue | refine am_un (by first | assumption | decide | omega) ?_)) rfl ?_
    refine am_getfield 98 dX7_manyAnswer_98 fX7_66 (by repeat (first | assumption | exact am_ue | refine am_un (by first | assumption | decide | omega) ?_)) rfl ?_
    exact am_ireturn 101 dX7_manyAnswer_101 rfl rfl ⟨rfl, rfl, rfl⟩
  · refine am_iload_n 0 dX7_manyAnswer_0 rfl ?_
    refine am_tableIn 1 (off := 101) (tgt := 102) dX7_manyAnswer_1 (by decide) (by decide) rfl rfl ?_
    refine am_aload_n 102 dX7_manyAnswer_102 rfl ?_
    refine am_getfield 103 dX7_manyAnswer_103 fX7_19 (by repeat (first | assumption | exact am_ue | refine am_un (by first | assumption | decide | omega) ?_)) rfl ?_
    refine am_getfield 106 dX7_manyAnswer_106 fX7_115 (by repeat (first | assumption | exact am_ue | refine am_un (by first | assumption | decide | omega) ?_)) rfl ?_
    exact am_ireturn 109 dX7_manyAnswer_109 rfl rfl ⟨rfl, rfl, rfl⟩
  · refine am_iload_n 0 dX7_manyAnswer_0 rfl ?_
    refine am_tableIn 1 (off := 109) (tgt := 110) dX7_manyAnswer_1 (by decide) (by decide) rfl rfl ?_
    refine am_aload_n 110 dX7_manyAnswer_110 rfl ?_
    refine am_getfield 111 dX7_manyAnswer_111 fX7_19 (by repeat (first | assumption | exact am_ue | refine am_un (by first | assumption | decide | omega) ?_)) rfl ?_
    refine am_getfield 114 dX7_manyAnswer_114 fX7_160 (by repeat (first | assumption | exact am_ue | refine am_un (by first | assumption | decide | omega) ?_)) rfl ?_
    exact am_ireturn 117 dX7_manyAnswer_117 rfl rfl ⟨rfl, rfl, rfl⟩
  · refine am_iload_n 0 dX7_manyAnswer_0 rfl ?_
    refine am_tableOut 1 (tgt := 118) dX7_manyAnswer_1 (by decide) rfl ?_
    refine am_aload_n 118 dX7_manyAnswer_118 rfl ?_
    refine am_getfield 119 dX7_manyAnswer_119 fX7_19 (by repeat (first | assumption | exact am_ue | refine am_un (by first | assumption | decide | omega) ?_)) rfl ?_
    refine am_V0 122 (mc' := 0) (ms' := 0) (rc := 0) (rs := 0) dX7_manyAnswer_122 lX7_331 ⟨by decide, by decide⟩ (by repeat (first | assumption | exact am_ue | refine am_un (by first | assumption | decide | omega) ?_)) (Nat.le_of_ble_eq_true rfl) (Nat.le_of_ble_eq_true rfl) (s_countPalms (m_Look_0 h2)) ?_
    refine am_is_ct ?_
    refine am_ireturn 125 dX7_manyAnswer_125 rfl rfl ?_
    refine ⟨?_, rfl, rfl⟩
    rw [m_pks_0]
    rfl
noncomputable def m_oMany (w : Int32) : Option Value ⊕ Nat := if 0 ≤ w ∧ w ≤ 9 then m_iv 0 else .inr 0
theorem s_many0 {w : Int32} (hF : m_Fr f p) : AM mX7_many 1 6 [.ref p, .int w] n f (m_ans p n f (m_oMany w)) := by
  have h0 := hF.1
  show AW mX7_many 1 6 0 [some (.ref p), some (.int w)] [] n f _
  refine am_iload_n 0 dX7_many_0 rfl ?_
  refine am_bipush 1 (v := 9) dX7_many_1 (by decide) ?_
  refine am_S2 3 (mc' := 1) (ms' := 6) (rc := 0) (rs := 0) dX7_many_3 lX7_153 ⟨by decide, by decide⟩ (Nat.le_of_ble_eq_true rfl) (Nat.le_of_ble_eq_true rfl) (s_checkWhat) ?_
  rintro o n' f' ⟨rfl, rfl, hcc⟩
  rcases hcc with ⟨rfl, hs1, hs2⟩ | ⟨rfl, hbad⟩
  rotate_left
  · exact am_ct_out rfl ⟨by unfold m_oMany; rw [if_neg hbad], rfl, fun _ _ => rfl⟩
  refine am_ct_in ?_
  obtain ⟨v, hv, rfl⟩ := m_small_le 9 rfl (by decide) hs1 hs2
  refine am_aload_n 6 dX7_many_6 rfl ?_
  refine am_iload_n 7 dX7_many_7 rfl ?_
  refine am_V1 8 (mc' := 0) (ms' := 0) (rc := 0) (rs := 0) dX7_many_8 lX7_194 ⟨by decide, by decide⟩ (by repeat (first | assumption | exact am_ue | refine am_un (by first | assumption | decide | omega) ?_)) (Nat.le_of_ble_eq_true rfl) (Nat.le_of_ble_eq_true rfl) (s_manyAnswer0 hF hv) ?_
  refine am_is_ct ?_
  refine am_ireturn 11 dX7_many_11 rfl rfl ?_
  refine ⟨?_, rfl, fun _ _ => rfl⟩
  unfold m_oMany
  rw [if_pos ⟨hs1, hs2⟩]
theorem s_calmIn0 (hF : m_Fr f p) : AM mX7_calmIn 0 0 [.ref p] n f (m_ans p n f (m_iv 0)) := by
  obtain ⟨h0, h1, -, h3, h4, -⟩ := hF
  have hs := h3.1
  show AW mX7_calmIn 0 0 0 [some (.ref p), none] [] n f _
  have hcp := s_copyFrom (n := n) h3.1 h3.2.1 h3.2.2 h1.1 h1.2.1 h1.2.2 (by omega) (by omega) (by omega) (by omega) (by omega) (by omega) (by omega) (by omega) (by omega) (by omega) (by omega) (by omega) (by omega) (by omega) (by omega)
  have hsame : va_up (va_up (va_up f (p + 11) (.inr (6, [.ref (p + 11 + 1), .ref (p + 11 + 2), .int 0]))) (p + 11 + 1) (.inl (0, 48, .inl (fun _ => 0)))) (p + 11 + 2) (.inl (0, 48, .inl (fun _ => 0))) = f := by
    rw [am_self h3.1, am_self h3.2.1, am_self h3.2.2]
  rw [hsame] at hcp
  have hfg := s_forgetWaits (n := n) h3.1 h3.2.1 (by omega)
  rw [am_self h3.2.1] at hfg
  refine am_aload_n 0 dX7_calmIn_0 rfl ?_
  refine am_getfield 1 dX7_calmIn_1 fX7_23 (by repeat (first | assumption | exact am_ue | refine am_un (by first | assumption | decide | omega) ?_)) rfl ?_
  refine am_aload_n 4 dX7_calmIn_4 rfl ?_
  refine am_getfield 5 dX7_calmIn_5 fX7_10 (by repeat (first | assumption | exact am_ue | refine am_un (by first | assumption | decide | omega) ?_)) rfl ?_
  refine am_V1 8 (mc' := 0) (ms' := 0) (rc := 0) (rs := 0) dX7_calmIn_8 lX7_208 ⟨by decide, by decide⟩ (by repeat (first | assumption | exact am_ue | refine am_un (by first | assumption | decide | omega) ?_)) (Nat.le_of_ble_eq_true rfl) (Nat.le_of_ble_eq_true rfl) (hcp) ?_
  refine am_is_ct ?_
  refine am_aload_n 11 dX7_calmIn_11 rfl ?_
  refine am_getfield 12 dX7_calmIn_12 fX7_23 (by repeat (first | assumption | exact am_ue | refine am_un (by first | assumption | decide | omega) ?_)) rfl ?_
  refine am_V0 15 (mc' := 0) (ms' := 0) (rc := 0) (rs := 0) dX7_calmIn_15 lX7_140 ⟨by decide, by decide⟩ (by repeat (first | assumption | exact am_ue | refine am_un (by first | assumption | decide | omega) ?_)) (Nat.le_of_ble_eq_true rfl) (Nat.le_of_ble_eq_true rfl) (hfg) ?_
  refine am_is_ct ?_
  refine am_iconst 18 (v := 0) dX7_calmIn_18 (by decide) ?_
  refine am_istore_n 19 dX7_calmIn_19 (by decide) ?_
  refine am_iload_n 20 dX7_calmIn_20 rfl ?_
  refine am_bipush 21 (v := 60) dX7_calmIn_21 (by decide) ?_
  refine am_icmp_gt 23 66 dX7_calmIn_23 rfl (fun c23 => absurd c23 (by decide)) (fun c23 => ?_)
  refine am_aload_n 26 dX7_calmIn_26 rfl ?_
  refine am_getfield 27 dX7_calmIn_27 fX7_26 (by repeat (first | assumption | exact am_ue | refine am_un (by first | assumption | decide | omega) ?_)) rfl ?_
  refine am_aload_n 30 dX7_calmIn_30 rfl ?_
  refine am_getfield 31 dX7_calmIn_31 fX7_23 (by repeat (first | assumption | exact am_ue | refine am_un (by first | assumption | decide | omega) ?_)) rfl ?_
  refine am_V1 34 (mc' := 0) (ms' := 0) (rc := 0) (rs := 0) dX7_calmIn_34 lX7_87 ⟨by decide, by decide⟩ h4.1 (Nat.le_of_ble_eq_true rfl) (Nat.le_of_ble_eq_true rfl) (s_look h4 h3 (by omega)) ?_
  rintro o n' f' ⟨pc', px', py', chn', rfl, rfl, rfl, hok⟩
  refine am_ct_in ?_
  refine am_aload_n 37 dX7_calmIn_37 rfl ?_
  refine am_getfield 38 dX7_calmIn_38 fX7_26 ((m_put_out (by omega)).trans h0) rfl ?_
  refine am_V0 41 (mc' := 0) (ms' := 0) (rc := 0) (rs := 0) dX7_calmIn_41 lX7_211 ⟨by decide, by decide⟩ m_put_a0 (Nat.le_of_ble_eq_true rfl) (Nat.le_of_ble_eq_true rfl) (s_isCalm m_put_pic) ?_
  rintro o n' f' ⟨b, rfl, rfl, rfl, hb⟩
  have hbt : b = true := hb.mpr (fun k _ => rfl)
  subst hbt
  refine am_ct_in ?_
  refine am_if_eq 44 49 dX7_calmIn_44 rfl (fun c44 => absurd c44 (by decide)) (fun c44 => ?_)
  refine am_iload_n 47 dX7_calmIn_47 rfl ?_
  refine am_ireturn 48 dX7_calmIn_48 rfl rfl ?_
  exact ⟨rfl, rfl, fun x hx => by rw [m_put_out (by omega)]⟩
def m_dg : Nat → Int64
  | 0 => 58249
  | k + 1 => m_dg k * 31 + 0
theorem s_mixed {d v : Int64} : AM mX7_mixed 0 0 [.long d, .long v] n f (am_is (some (.long (d * 31 + v))) n f) := by
  show AW mX7_mixed 0 0 0 [some (.long d), none, some (.long v), none] [] n f _
  refine am_lload_n 0 dX7_mixed_0 rfl ?_
  refine am_ldc2 1 dX7_mixed_1 kX7_340 ?_
  refine am_lmul 4 dX7_mixed_4 ?_
  refine am_lload_n 5 dX7_mixed_5 rfl ?_
  refine am_ladd 6 dX7_mixed_6 ?_
  exact am_lreturn 7 dX7_mixed_7 rfl ⟨rfl, rfl, rfl⟩
theorem s_digest0 (hF : m_Fr f p) : AM mX7_digest 0 0 [.ref p] n f (m_ans p n f (.inl (some (.long (m_dg 125))))) := by
  have h0 := hF.1
  have h2 := hF.2.2.1
  have hp := h2.1
  have h6 := hF.2.2.2.2.2.2.1.1
  have h7 := hF.2.2.2.2.2.2.2
  have hh := h7.1
  show AW mX7_digest 0 0 0 [some (.ref p), none, none, none, none] [] n f _
  refine am_ldc2 0 dX7_digest_0 kX7_219 ?_
  refine am_lstore_n 3 dX7_digest_3 (by decide) ?_
  refine am_iconst 4 (v := 0) dX7_digest_4 (by decide) ?_
  refine am_istore_n 5 dX7_digest_5 (by decide) ?_
  refine am_for 10 (fun _ (_ : Unit) => True) (fun k _ => AW mX7_digest 0 0 6 [some (.ref p), some (.long (m_dg k)), none, some (.int (nI k)), none] [] n f _) ?_ ?_ 0 () (by omega) trivial
  · rintro ⟨⟩ -
    refine am_iload_n 6 dX7_digest_6 rfl ?_
    refine am_bipush 7 (v := 9) dX7_digest_7 (by decide) ?_
    refine am_icmp_gt 9 29 dX7_digest_9 rfl (fun c9 => ?_) (fun c9 => absurd (by decide) c9)
    refine am_iconst 29 (v := 0) dX7_digest_29 (by decide) ?_
    refine am_istore_n 30 dX7_digest_30 (by decide) ?_
    refine am_for 48 (fun _ (_ : Unit) => True) (fun k _ => AW mX7_digest 0 0 31 [some (.ref p), some (.long (m_dg (10 + 2 * k))), none, some (.int (nI k)), none] [] n f _) ?_ ?_ 0 () (by omega) trivial
    · rintro ⟨⟩ -
      refine am_iload_n 31 dX7_digest_31 rfl ?_
      refine am_bipush 32 (v := 48) dX7_digest_32 (by decide) ?_
      refine am_icmp_ge 34 67 dX7_digest_34 rfl (fun c34 => ?_) (fun c34 => absurd (by decide) c34)
      refine am_iconst 67 (v := 0) dX7_digest_67 (by decide) ?_
      refine am_istore_n 68 dX7_digest_68 (by decide) ?_
      refine am_iload_n 69 dX7_digest_69 rfl ?_
      refine am_aload_n 70 dX7_digest_70 rfl ?_
      refine am_getfield 71 dX7_digest_71 fX7_19 (by repeat (first | assumption | exact am_ue | refine am_un (by first | assumption | decide | omega) ?_)) rfl ?_
      refine am_getfield 74 dX7_digest_74 fX7_160 (by repeat (first | assumption | exact am_ue | refine am_un (by first | assumption | decide | omega) ?_)) rfl ?_
      refine am_icmp_ge 77 114 dX7_digest_77 rfl (fun c77 => ?_) (fun c77 => absurd (Int32.le_refl _) c77)
      refine am_iconst 114 (v := 0) dX7_digest_114 (by decide) ?_
      refine am_istore_n 115 dX7_digest_115 (by decide) ?_
      refine am_for 5 (fun _ (_ : Unit) => True) (fun k _ => AW mX7_digest 0 0 116 [some (.ref p), some (.long (m_dg (10 + 2 * 48))), none, some (.int (nI k)), none] [] n f _) ?_ ?_ 0 () (by omega) trivial
      · rintro ⟨⟩ -
        refine am_iload_n 116 dX7_digest_116 rfl ?_
        refine am_iconst 117 (v := 5) dX7_digest_117 (by decide) ?_
        refine am_icmp_ge 118 149 dX7_digest_118 rfl (fun c118 => ?_) (fun c118 => absurd (by decide) c118)
        refine am_iconst 149 (v := 0) dX7_digest_149 (by decide) ?_
        refine am_istore_n 150 dX7_digest_150 (by decide) ?_
        refine am_iload_n 151 dX7_digest_151 rfl ?_
        refine am_aload_n 152 dX7_digest_152 rfl ?_
        refine am_getfield 153 dX7_digest_153 fX7_39 (by repeat (first | assumption | exact am_ue | refine am_un (by first | assumption | decide | omega) ?_)) rfl ?_
        refine am_getfield 156 dX7_digest_156 fX7_66 (by repeat (first | assumption | exact am_ue | refine am_un (by first | assumption | decide | omega) ?_)) rfl ?_
        refine am_icmp_ge 159 196 dX7_digest_159 rfl (fun c159 => ?_) (fun c159 => absurd (Int32.le_refl _) c159)
        refine am_iconst 196 (v := 0) dX7_digest_196 (by decide) ?_
        refine am_istore_n 197 dX7_digest_197 (by decide) ?_
        refine am_for 6 (fun _ (_ : Option Value) => True) (fun k z => AW mX7_digest 0 0 198 [some (.ref p), some (.long (m_dg (106 + 3 * k))), none, some (.int (nI k)), z] [] n f _) ?_ ?_ 0 _ (by omega) trivial
        · rintro z -
          refine am_iload_n 198 dX7_digest_198 rfl ?_
          refine am_bipush 199 (v := 6) dX7_digest_199 (by decide) ?_
          refine am_icmp_ge 201 238 dX7_digest_201 rfl (fun c201 => ?_) (fun c201 => absurd (by decide) c201)
          refine am_lload_n 238 dX7_digest_238 rfl ?_
          refine am_aload_n 239 dX7_digest_239 rfl ?_
          refine am_V0 240 (mc' := 0) (ms' := 0) (rc := 0) (rs := 0) dX7_digest_240 lX7_233 ⟨by decide, by decide⟩ (by repeat (first | assumption | exact am_ue | refine am_un (by first | assumption | decide | omega) ?_)) (Nat.le_of_ble_eq_true rfl) (Nat.le_of_ble_eq_true rfl) (s_calmIn0 hF) ?_
          rintro o n' f' ⟨rfl, rfl, he⟩
          refine am_ct_in ?_
          refine am_i2l 243 dX7_digest_243 ?_
          refine am_S2 244 (mc' := 0) (ms' := 0) (rc := 0) (rs := 0) dX7_digest_244 lX7_221 ⟨by decide, by decide⟩ (Nat.le_of_ble_eq_true rfl) (Nat.le_of_ble_eq_true rfl) (s_mixed) ?_
          refine am_is_ct ?_
          refine am_lreturn 247 dX7_digest_247 rfl ?_
          exact ⟨rfl, rfl, he⟩
        · rintro k z hk - ih
          refine am_iload_n 198 dX7_digest_198 rfl ?_
          refine am_bipush 199 (v := 6) dX7_digest_199 (by decide) ?_
          refine am_icmp_ge 201 238 dX7_digest_201 rfl (fun c201 => absurd c201 (nI_ge hk (by decide))) (fun c201 => ?_)
          refine am_iconst 204 (v := 0) dX7_digest_204 (by decide) ?_
          refine am_istore 205 dX7_digest_205 (by decide) ?_
          refine am_for 3 (fun _ (_ : Unit) => True) (fun j _ => AW mX7_digest 0 0 207 [some (.ref p), some (.long (m_dg (106 + 3 * k + j))), none, some (.int (nI k)), some (.int (nI j))] [] n f _) ?_ ?_ 0 () (by omega) trivial
          · rintro ⟨⟩ -
            refine am_iload 207 dX7_digest_207 rfl ?_
            refine am_iconst 209 (v := 2) dX7_digest_209 (by decide) ?_
            refine am_icmp_gt 210 232 dX7_digest_210 rfl (fun c210 => ?_) (fun c210 => absurd (by decide) c210)
            refine am_iinc 232 (v := nI (k + 1)) dX7_digest_232 rfl (nI_1 (k)) (by decide) ?_
            refine am_goto 235 (tgt := 198) dX7_digest_235 rfl ?_
            exact ih _ trivial
          · rintro j ⟨⟩ hj - ih2
            refine am_iload 207 dX7_digest_207 rfl ?_
            refine am_iconst 209 (v := 2) dX7_digest_209 (by decide) ?_
            refine am_icmp_gt 210 232 dX7_digest_210 rfl (fun c210 => absurd c210 (nI_nlt (a := 2) (by omega) (by decide))) (fun c210 => ?_)
            refine am_lload_n 213 dX7_digest_213 rfl ?_
            refine am_aload_n 214 dX7_digest_214 rfl ?_
            refine am_iload_n 215 dX7_digest_215 rfl ?_
            refine am_iload 216 dX7_digest_216 rfl ?_
            refine am_V2 218 (mc' := 0) (ms' := 0) (rc := 0) (rs := 0) dX7_digest_218 lX7_188 ⟨by decide, by decide⟩ (by repeat (first | assumption | exact am_ue | refine am_un (by first | assumption | decide | omega) ?_)) (Nat.le_of_ble_eq_true rfl) (Nat.le_of_ble_eq_true rfl) (s_rowAnswer0 hF hk (j := j) (by omega)) ?_
            refine am_is_ct ?_
            refine am_i2l 221 dX7_digest_221 ?_
            refine am_S2 222 (mc' := 0) (ms' := 0) (rc := 0) (rs := 0) dX7_digest_222 lX7_221 ⟨by decide, by decide⟩ (Nat.le_of_ble_eq_true rfl) (Nat.le_of_ble_eq_true rfl) (s_mixed) ?_
            refine am_is_ct ?_
            refine am_lstore_n 225 dX7_digest_225 (by decide) ?_
            refine am_iinc 226 (v := nI (j + 1)) dX7_digest_226 rfl (nI_1 (j)) (by decide) ?_
            refine am_goto 229 (tgt := 207) dX7_digest_229 rfl ?_
            exact ih2 () trivial
      · rintro k ⟨⟩ hk - ih
        refine am_iload_n 116 dX7_digest_116 rfl ?_
        refine am_iconst 117 (v := 5) dX7_digest_117 (by decide) ?_
        refine am_icmp_ge 118 149 dX7_digest_118 rfl (fun c118 => absurd c118 (nI_ge hk (by decide))) (fun c118 => ?_)
        refine am_aload_n 121 dX7_digest_121 rfl ?_
        refine am_getfield 122 dX7_digest_122 fX7_48 (by repeat (first | assumption | exact am_ue | refine am_un (by first | assumption | decide | omega) ?_)) rfl ?_
        refine am_iload_n 125 dX7_digest_125 rfl ?_
        refine am_V1 126 (mc' := 0) (ms' := 0) (rc := 0) (rs := 0) dX7_digest_126 lX7_225 ⟨by decide, by decide⟩ (by repeat (first | assumption | exact am_ue | refine am_un (by first | assumption | decide | omega) ?_)) (Nat.le_of_ble_eq_true rfl) (Nat.le_of_ble_eq_true rfl) (s_has0 h7) ?_
        refine am_is_ct ?_
        refine am_if_eq 129 141 dX7_digest_129 rfl (fun c129 => ?_) (fun c129 => absurd rfl c129)
        refine am_lload_n 141 dX7_digest_141 rfl ?_
        refine am_lstore_n 142 dX7_digest_142 (by decide) ?_
        refine am_iinc 143 (v := nI (k + 1)) dX7_digest_143 rfl (nI_1 (k)) (by decide) ?_
        refine am_goto 146 (tgt := 116) dX7_digest_146 rfl ?_
        exact ih () trivial
    · rintro k ⟨⟩ hk - ih
      refine am_iload_n 31 dX7_digest_31 rfl ?_
      refine am_bipush 32 (v := 48) dX7_digest_32 (by decide) ?_
      refine am_icmp_ge 34 67 dX7_digest_34 rfl (fun c34 => absurd c34 (nI_ge hk (by decide))) (fun c34 => ?_)
      refine am_lload_n 37 dX7_digest_37 rfl ?_
      refine am_aload_n 38 dX7_digest_38 rfl ?_
      refine am_iload_n 39 dX7_digest_39 rfl ?_
      refine am_iconst 40 (v := 1) dX7_digest_40 (by decide) ?_
      refine am_V2 41 (mc' := 0) (ms' := 0) (rc := 0) (rs := 0) dX7_digest_41 lX7_156 ⟨by decide, by decide⟩ (by repeat (first | assumption | exact am_ue | refine am_un (by first | assumption | decide | omega) ?_)) (Nat.le_of_ble_eq_true rfl) (Nat.le_of_ble_eq_true rfl) (s_cellAnswer0 hF hk (j := 1) (by decide)) ?_
      refine am_is_ct ?_
      refine am_i2l 44 dX7_digest_44 ?_
      refine am_S2 45 (mc' := 0) (ms' := 0) (rc := 0) (rs := 0) dX7_digest_45 lX7_221 ⟨by decide, by decide⟩ (Nat.le_of_ble_eq_true rfl) (Nat.le_of_ble_eq_true rfl) (s_mixed) ?_
      refine am_is_ct ?_
      refine am_lstore_n 48 dX7_digest_48 (by decide) ?_
      refine am_lload_n 49 dX7_digest_49 rfl ?_
      refine am_aload_n 50 dX7_digest_50 rfl ?_
      refine am_iload_n 51 dX7_digest_51 rfl ?_
      refine am_iconst 52 (v := 2) dX7_digest_52 (by decide) ?_
      refine am_V2 53 (mc' := 0) (ms' := 0) (rc := 0) (rs := 0) dX7_digest_53 lX7_156 ⟨by decide, by decide⟩ (by repeat (first | assumption | exact am_ue | refine am_un (by first | assumption | decide | omega) ?_)) (Nat.le_of_ble_eq_true rfl) (Nat.le_of_ble_eq_true rfl) (s_cellAnswer0 hF hk (j := 2) (by decide)) ?_
      refine am_is_ct ?_
      refine am_i2l 56 dX7_digest_56 ?_
      refine am_S2 57 (mc' := 0) (ms' := 0) (rc := 0) (rs := 0) dX7_digest_57 lX7_221 ⟨by decide, by decide⟩ (Nat.le_of_ble_eq_true rfl) (Nat.le_of_ble_eq_true rfl) (s_mixed) ?_
      refine am_is_ct ?_
      refine am_lstore_n 60 dX7_digest_60 (by decide) ?_
      refine am_iinc 61 (v := nI (k + 1)) dX7_digest_61 rfl (nI_1 (k)) (by decide) ?_
      refine am_goto 64 (tgt := 31) dX7_digest_64 rfl ?_
      exact ih () trivial
  · rintro k ⟨⟩ hk - ih
    refine am_iload_n 6 dX7_digest_6 rfl ?_
    refine am_bipush 7 (v := 9) dX7_digest_7 (by decide) ?_
    refine am_icmp_gt 9 29 dX7_digest_9 rfl (fun c9 => absurd c9 (nI_nlt (a := 9) (by omega) (by decide))) (fun c9 => ?_)
    refine am_lload_n 12 dX7_digest_12 rfl ?_
    refine am_aload_n 13 dX7_digest_13 rfl ?_
    refine am_iload_n 14 dX7_digest_14 rfl ?_
    refine am_V1 15 (mc' := 0) (ms' := 0) (rc := 0) (rs := 0) dX7_digest_15 lX7_194 ⟨by decide, by decide⟩ (by repeat (first | assumption | exact am_ue | refine am_un (by first | assumption | decide | omega) ?_)) (Nat.le_of_ble_eq_true rfl) (Nat.le_of_ble_eq_true rfl) (s_manyAnswer0 hF (j := k) (by omega)) ?_
    refine am_is_ct ?_
    refine am_i2l 18 dX7_digest_18 ?_
    refine am_S2 19 (mc' := 0) (ms' := 0) (rc := 0) (rs := 0) dX7_digest_19 lX7_221 ⟨by decide, by decide⟩ (Nat.le_of_ble_eq_true rfl) (Nat.le_of_ble_eq_true rfl) (s_mixed) ?_
    refine am_is_ct ?_
    refine am_lstore_n 22 dX7_digest_22 (by decide) ?_
    refine am_iinc 23 (v := nI (k + 1)) dX7_digest_23 rfl (nI_1 (k)) (by decide) ?_
    refine am_goto 26 (tgt := 6) dX7_digest_26 rfl ?_
    exact ih () trivial
end Palm2
