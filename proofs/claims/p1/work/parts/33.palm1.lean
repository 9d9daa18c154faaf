/-! ===== Palmward on a new object: calls that look, and what is asked ===== -/
section Palm1
variable {p n : Nat} {f : Nat → am_C}
noncomputable def m_oHeat (d : Int32) : Option Value ⊕ Nat := if -30 ≤ d ∧ d ≤ 30 then m_iv 0 else .inr 0
theorem s_heat0 {d : Int32} (hF : m_Fr f p) : AM mX7_heat 1 6 [.ref p, .int d] n f (m_ans p n f (m_oHeat d)) := by
  obtain ⟨h0, h1, h2, -⟩ := hF
  have hs := h1.1
  show AW mX7_heat 1 6 0 [some (.ref p), some (.int d), none] [] n f _
  have hsh : m_Sh (va_up f (p + 1) (.inr (6, [.ref (p + 1 + 1), .ref (p + 1 + 2), .int d]))) (p + 1) (fun _ => 0) (fun _ => 0) d := ⟨am_ue, am_un (by omega) h1.2.1, am_un (by omega) h1.2.2⟩
  have hpi : m_Pic (va_up f (p + 1) (.inr (6, [.ref (p + 1 + 1), .ref (p + 1 + 2), .int d]))) (p + 4) (fun _ => 0) (fun _ => 0) (fun _ => 0) (fun _ => 0) (fun _ => 0) (fun _ => 0) 0 0 := h2.on fun x a b => am_up_ne (by omega)
  refine am_iload_n 0 dX7_heat_0 rfl ?_
  refine am_bipush 1 (v := (-30)) dX7_heat_1 (by decide) ?_
  refine am_icmp_lt 3 12 dX7_heat_3 rfl (fun c3 => ?_) (fun c3 => ?_)
  · refine am_throw 12 rfl tX7_59_82 dX7_heat_12 dX7_heat_15 dX7_heat_16 dX7_heat_18 dX7_heat_21 (by decide) (by decide) ?_
    refine ⟨?_, rfl, fun _ _ => rfl⟩
    unfold m_oHeat
    rw [if_neg (fun z => by first | exact Int32.not_lt.mpr z.1 c3 | exact c9 z.2)]
  · refine am_iload_n 6 dX7_heat_6 rfl ?_
    refine am_bipush 7 (v := 30) dX7_heat_7 (by decide) ?_
    refine am_icmp_le 9 22 dX7_heat_9 rfl (fun c9 => ?_) (fun c9 => ?_)
    · refine am_aload_n 22 dX7_heat_22 rfl ?_
      refine am_getfield 23 dX7_heat_23 fX7_10 (by first | assumption | exact am_un (by omega) h0 | exact (m_put_out (by omega)).trans (am_un (by omega) h0)) rfl ?_
      refine am_getfield 26 dX7_heat_26 fX7_84 (by first | assumption | exact am_un (by omega) h0 | exact (m_put_out (by omega)).trans (am_un (by omega) h0)) rfl ?_
      refine am_istore_n 29 dX7_heat_29 (by decide) ?_
      refine am_aload_n 30 dX7_heat_30 rfl ?_
      refine am_getfield 31 dX7_heat_31 fX7_10 (by first | assumption | exact am_un (by omega) h0 | exact (m_put_out (by omega)).trans (am_un (by omega) h0)) rfl ?_
      refine am_iload_n 34 dX7_heat_34 rfl ?_
      refine am_putfield 35 dX7_heat_35 pX7_84 (by first | assumption | exact am_un (by omega) h0 | exact (m_put_out (by omega)).trans (am_un (by omega) h0)) rfl rfl (Nat.le_of_ble_eq_true rfl) ?_
      rw [show List.set [Value.ref (p + 1 + 1), .ref (p + 1 + 2), .int 0] 2 (.int d) = [.ref (p + 1 + 1), .ref (p + 1 + 2), .int d] from rfl]
      refine am_aload_n 38 dX7_heat_38 rfl ?_
      refine am_getfield 39 dX7_heat_39 fX7_19 (by first | assumption | exact am_un (by omega) h0 | exact (m_put_out (by omega)).trans (am_un (by omega) h0)) rfl ?_
      refine am_aload_n 42 dX7_heat_42 rfl ?_
      refine am_getfield 43 dX7_heat_43 fX7_10 (am_un (by omega) h0) rfl ?_
      refine am_V1 46 (mc' := 0) (ms' := 0) (rc := 1) (rs := 6) dX7_heat_46 lX7_87 ⟨by decide, by decide⟩ hpi.1 (Nat.le_of_ble_eq_true rfl) (Nat.le_of_ble_eq_true rfl) (s_look hpi hsh (by omega)) ?_
      rintro o n' f' ⟨pc', px', py', chn', rfl, rfl, rfl, hok⟩
      refine am_ct_in ?_
      refine am_iload_n 49 dX7_heat_49 rfl ?_
      refine am_ireturn 50 dX7_heat_50 rfl rfl ?_
      refine ⟨?_, rfl, fun x hx => by rw [m_put_out (by omega), am_up_ne (by omega)]⟩
      unfold m_oHeat
      rw [if_pos ⟨Int32.not_lt.mp c3, c9⟩]
    · refine am_throw 12 rfl tX7_59_82 dX7_heat_12 dX7_heat_15 dX7_heat_16 dX7_heat_18 dX7_heat_21 (by decide) (by decide) ?_
      refine ⟨?_, rfl, fun _ _ => rfl⟩
      unfold m_oHeat
      rw [if_neg (fun z => by first | exact Int32.not_lt.mpr z.1 c3 | exact c9 z.2)]
theorem m_iadd0 (x : Int32) : 0 + x - 0 = x := by rw [Int32.sub_zero, Int32.zero_add]
theorem m_nbad {N : Nat} {v : Int32} (hv : v = nI N) (hN : N < 2 ^ 31) {k : Nat} (hk : k < N) : ¬ (nI k < 0 ∨ v ≤ nI k) := by
  subst hv
  rintro (h | h)
  · exact nI_pos (by omega) h
  · exact nI_ge hk hN h
theorem m_press0 {s : Int32} {j k : Nat} (hj : j < 8) (hk : k < 6) : m_press (fun _ => 0) s j k (8 * k + j) = s := by
  have e1 : (8 * k + j) / 8 = k := by omega
  have e2 : (8 * k + j) % 8 = j := by omega
  unfold m_press m_pressTo m_pr
  rw [e1, e2, if_pos (by omega), if_pos rfl, if_pos rfl, Int32.zero_add]
  show s >>> ((0 : Int32) &&& 31) = s
  rw [show ((0 : Int32) &&& 31) = 0 from rfl, Int32.shiftRight_zero]
noncomputable def m_oPress (x y s : Int32) : Option Value ⊕ Nat := if x < 0 ∨ 8 ≤ x ∨ y < 0 ∨ 6 ≤ y then .inr 2 else if 1 ≤ s ∧ s ≤ 200 then m_iv s else .inr 0
theorem s_press0 {x y s : Int32} (hF : m_Fr f p) : AM mX7_press 2 12 [.ref p, .int x, .int y, .int s] n f (m_ans p n f (m_oPress x y s)) := by
  obtain ⟨h0, h1, h2, -⟩ := hF
  have hs := h1.1
  show AW mX7_press 2 12 0 [some (.ref p), some (.int x), some (.int y), some (.int s)] [] n f _
  refine am_iload_n 0 dX7_press_0 rfl ?_
  refine am_iload_n 1 dX7_press_1 rfl ?_
  refine am_S2 2 (mc' := 1) (ms' := 6) (rc := 1) (rs := 6) dX7_press_2 lX7_91 ⟨by decide, by decide⟩ (Nat.le_of_ble_eq_true rfl) (Nat.le_of_ble_eq_true rfl) (s_checkCell) ?_
  rintro o n' f' ⟨rfl, rfl, hcc⟩
  rcases hcc with ⟨rfl, j, k, hj, hk, rfl, rfl⟩ | ⟨rfl, hbad⟩
  rotate_left
  · exact am_ct_out rfl ⟨by unfold m_oPress; rw [if_pos hbad], rfl, fun _ _ => rfl⟩
  refine am_ct_in ?_
  refine am_iload_n 5 dX7_press_5 rfl ?_
  refine am_S1 6 (mc' := 1) (ms' := 6) (rc := 0) (rs := 0) dX7_press_6 lX7_95 ⟨by decide, by decide⟩ (Nat.le_of_ble_eq_true rfl) (Nat.le_of_ble_eq_true rfl) (s_checkStrength) ?_
  rintro o n' f' ⟨rfl, rfl, hcc⟩
  rcases hcc with ⟨rfl, hs1, hs2⟩ | ⟨rfl, hbad⟩
  rotate_left
  · exact am_ct_out rfl ⟨by unfold m_oPress; rw [if_neg (by intro z; rcases z with z | z | z | z <;> first | exact m_nbad rfl (by decide) hj (Or.inl z) | exact m_nbad (N := 8) rfl (by decide) hj (Or.inr z) | exact m_nbad rfl (by decide) hk (Or.inl z) | exact m_nbad (N := 6) rfl (by decide) hk (Or.inr z)), if_neg hbad], rfl, fun _ _ => rfl⟩
  refine am_ct_in ?_
  refine am_aload_n 9 dX7_press_9 rfl ?_
  have g1 : m_Sh (va_up f (p + 1 + 1) (.inl (0, 48, .inl (m_press (fun _ => 0) s j k)))) (p + 1) (m_press (fun _ => 0) s j k) (fun _ => 0) 0 := ⟨am_un (by omega) h1.1, am_ue, am_un (by omega) h1.2.2⟩
  have g2 : m_Pic (va_up f (p + 1 + 1) (.inl (0, 48, .inl (m_press (fun _ => 0) s j k)))) (p + 4) (fun _ => 0) (fun _ => 0) (fun _ => 0) (fun _ => 0) (fun _ => 0) (fun _ => 0) 0 0 := h2.on fun x a b => am_up_ne (by omega)
  refine am_getfield 10 dX7_press_10 fX7_10 (by first | assumption | exact m_put_a0 | exact m_put_a1 | exact m_put_a2 | exact (m_put_out (by omega)).trans (am_un (by omega) h0) | exact (m_put_out (by omega)).trans h0 | exact am_un (by omega) h0) rfl ?_
  refine am_iload_n 13 dX7_press_13 rfl ?_
  refine am_iload_n 14 dX7_press_14 rfl ?_
  refine am_iload_n 15 dX7_press_15 rfl ?_
  refine am_V3 16 (mc' := 0) (ms' := 0) (rc := 0) (rs := 0) dX7_press_16 lX7_99 ⟨by decide, by decide⟩ (by first | assumption | exact m_put_a0 | exact m_put_a1 | exact m_put_a2 | exact (m_put_out (by omega)).trans (am_un (by omega) h0) | exact (m_put_out (by omega)).trans h0 | exact am_un (by omega) h0) (Nat.le_of_ble_eq_true rfl) (Nat.le_of_ble_eq_true rfl) (s_addPress h1.1 h1.2.1 (by omega) hj hk) ?_
  refine am_is_ct ?_
  refine am_aload_n 19 dX7_press_19 rfl ?_
  refine am_getfield 20 dX7_press_20 fX7_19 (by first | assumption | exact m_put_a0 | exact m_put_a1 | exact m_put_a2 | exact (m_put_out (by omega)).trans (am_un (by omega) h0) | exact (m_put_out (by omega)).trans h0 | exact am_un (by omega) h0) rfl ?_
  refine am_aload_n 23 dX7_press_23 rfl ?_
  refine am_getfield 24 dX7_press_24 fX7_10 (by first | assumption | exact m_put_a0 | exact m_put_a1 | exact m_put_a2 | exact (m_put_out (by omega)).trans (am_un (by omega) h0) | exact (m_put_out (by omega)).trans h0 | exact am_un (by omega) h0) rfl ?_
  refine am_V1 27 (mc' := 0) (ms' := 0) (rc := 0) (rs := 0) dX7_press_27 lX7_87 ⟨by decide, by decide⟩ g2.1 (Nat.le_of_ble_eq_true rfl) (Nat.le_of_ble_eq_true rfl) (s_look g2 g1 (by omega)) ?_
  rintro o n' f' ⟨pc', px', py', chn', rfl, rfl, rfl, hok⟩
  refine am_ct_in ?_
  refine am_aload_n 30 dX7_press_30 rfl ?_
  refine am_getfield 31 dX7_press_31 fX7_19 (by first | assumption | exact m_put_a0 | exact m_put_a1 | exact m_put_a2 | exact (m_put_out (by omega)).trans (am_un (by omega) h0) | exact (m_put_out (by omega)).trans h0 | exact am_un (by omega) h0) rfl ?_
  refine am_getfield 34 dX7_press_34 fX7_103 (by first | assumption | exact m_put_a0 | exact m_put_a1 | exact m_put_a2 | exact (m_put_out (by omega)).trans (am_un (by omega) h0) | exact (m_put_out (by omega)).trans h0 | exact am_un (by omega) h0) rfl ?_
  refine am_iload_n 37 dX7_press_37 rfl ?_
  refine am_bipush 38 (v := 8) dX7_press_38 (by decide) ?_
  refine am_imul 40 dX7_press_40 ?_
  refine am_iload_n 41 dX7_press_41 rfl ?_
  refine am_iadd 42 dX7_press_42 ?_
  rw [am_cellN]
  refine am_iaload 43 dX7_press_43 rfl (by first | assumption | exact m_put_a0 | exact m_put_a1 | exact m_put_a2 | exact (m_put_out (by omega)).trans (am_un (by omega) h0) | exact (m_put_out (by omega)).trans h0 | exact am_un (by omega) h0) (am_ix (by omega) (by decide)) ?_
  rw [nI_clamp (n := 8 * k + j) (by omega)]
  refine am_ireturn 44 dX7_press_44 rfl rfl ?_
  refine ⟨?_, rfl, fun x hx => by rw [m_put_out (by omega), am_up_ne (by omega)]⟩
  unfold m_oPress
  rw [if_neg (by intro z; rcases z with z | z | z | z <;> first | exact m_nbad rfl (by decide) hj (Or.inl z) | exact m_nbad (N := 8) rfl (by decide) hj (Or.inr z) | exact m_nbad rfl (by decide) hk (Or.inl z) | exact m_nbad (N := 6) rfl (by decide) hk (Or.inr z)), if_pos ⟨hs1, hs2⟩, m_press0 hj hk, m_iadd0]
noncomputable def m_oNoise (y u : Int32) : Option Value ⊕ Nat := if y < 0 ∨ 6 ≤ y then .inr 2 else if -40 ≤ u ∧ u ≤ 40 then m_iv (m_hum (fun x => if x / 8 = y.toInt.toNat then u else 0)) else .inr 0
theorem s_noise0 {y u : Int32} (hF : m_Fr f p) : AM mX7_noise 2 12 [.ref p, .int y, .int u] n f (m_ans p n f (m_oNoise y u)) := by
  obtain ⟨h0, h1, h2, -⟩ := hF
  have hs := h1.1
  show AW mX7_noise 2 12 0 [some (.ref p), some (.int y), some (.int u)] [] n f _
  refine am_iload_n 0 dX7_noise_0 rfl ?_
  refine am_S1 1 (mc' := 1) (ms' := 6) (rc := 1) (rs := 6) dX7_noise_1 lX7_107 ⟨by decide, by decide⟩ (Nat.le_of_ble_eq_true rfl) (Nat.le_of_ble_eq_true rfl) (s_checkRow) ?_
  rintro o n' f' ⟨rfl, rfl, hcc⟩
  rcases hcc with ⟨rfl, k, hk, rfl⟩ | ⟨rfl, hbad⟩
  rotate_left
  · exact am_ct_out rfl ⟨by unfold m_oNoise; rw [if_pos hbad], rfl, fun _ _ => rfl⟩
  refine am_ct_in ?_
  refine am_iload_n 4 dX7_noise_4 rfl ?_
  refine am_bipush 5 (v := (-40)) dX7_noise_5 (by decide) ?_
  refine am_icmp_lt 7 16 dX7_noise_7 rfl (fun c7 => ?_) (fun c7 => ?_)
  · refine am_throw 16 rfl tX7_59_110 dX7_noise_16 dX7_noise_19 dX7_noise_20 dX7_noise_22 dX7_noise_25 (by decide) (by decide) ?_
    refine ⟨?_, rfl, fun _ _ => rfl⟩
    unfold m_oNoise
    rw [if_neg (show ¬ (nI k < 0 ∨ 6 ≤ nI k) from m_nbad (N := 6) rfl (by decide) hk), if_neg (fun z => by first | exact Int32.not_lt.mpr z.1 c7 | exact c13 z.2)]
  · refine am_iload_n 10 dX7_noise_10 rfl ?_
    refine am_bipush 11 (v := 40) dX7_noise_11 (by decide) ?_
    refine am_icmp_le 13 26 dX7_noise_13 rfl (fun c13 => ?_) (fun c13 => ?_)
    · have g1 : m_Sh (va_up f (p + 1 + 1) (.inl (0, 48, .inl (fun x => if x / 8 = k then 0 + u else 0)))) (p + 1) (fun x => if x / 8 = k then 0 + u else 0) (fun _ => 0) 0 := ⟨am_un (by omega) h1.1, am_ue, am_un (by omega) h1.2.2⟩
      have g2 : m_Pic (va_up f (p + 1 + 1) (.inl (0, 48, .inl (fun x => if x / 8 = k then 0 + u else 0)))) (p + 4) (fun _ => 0) (fun _ => 0) (fun _ => 0) (fun _ => 0) (fun _ => 0) (fun _ => 0) 0 0 := h2.on fun x a b => am_up_ne (by omega)
      refine am_aload_n 26 dX7_noise_26 rfl ?_
      refine am_getfield 27 dX7_noise_27 fX7_10 (by first | assumption | exact m_put_a0 | exact m_put_a1 | exact m_put_a2 | exact (m_put_out (by omega)).trans (am_un (by omega) h0) | exact (m_put_out (by omega)).trans h0 | exact am_un (by omega) h0) rfl ?_
      refine am_iload_n 30 dX7_noise_30 rfl ?_
      refine am_iload_n 31 dX7_noise_31 rfl ?_
      refine am_V2 32 (mc' := 0) (ms' := 0) (rc := 1) (rs := 6) dX7_noise_32 lX7_112 ⟨by decide, by decide⟩ (by first | assumption | exact m_put_a0 | exact m_put_a1 | exact m_put_a2 | exact (m_put_out (by omega)).trans (am_un (by omega) h0) | exact (m_put_out (by omega)).trans h0 | exact am_un (by omega) h0) (Nat.le_of_ble_eq_true rfl) (Nat.le_of_ble_eq_true rfl) (s_addNoise h1.1 h1.2.1 (by omega) hk) ?_
      refine am_is_ct ?_
      refine am_aload_n 35 dX7_noise_35 rfl ?_
      refine am_getfield 36 dX7_noise_36 fX7_19 (by first | assumption | exact m_put_a0 | exact m_put_a1 | exact m_put_a2 | exact (m_put_out (by omega)).trans (am_un (by omega) h0) | exact (m_put_out (by omega)).trans h0 | exact am_un (by omega) h0) rfl ?_
      refine am_aload_n 39 dX7_noise_39 rfl ?_
      refine am_getfield 40 dX7_noise_40 fX7_10 (by first | assumption | exact m_put_a0 | exact m_put_a1 | exact m_put_a2 | exact (m_put_out (by omega)).trans (am_un (by omega) h0) | exact (m_put_out (by omega)).trans h0 | exact am_un (by omega) h0) rfl ?_
      refine am_V1 43 (mc' := 0) (ms' := 0) (rc := 1) (rs := 6) dX7_noise_43 lX7_87 ⟨by decide, by decide⟩ g2.1 (Nat.le_of_ble_eq_true rfl) (Nat.le_of_ble_eq_true rfl) (s_look g2 g1 (by omega)) ?_
      rintro o n' f' ⟨pc', px', py', chn', rfl, rfl, rfl, hok⟩
      refine am_ct_in ?_
      refine am_aload_n 46 dX7_noise_46 rfl ?_
      refine am_getfield 47 dX7_noise_47 fX7_19 (by first | assumption | exact m_put_a0 | exact m_put_a1 | exact m_put_a2 | exact (m_put_out (by omega)).trans (am_un (by omega) h0) | exact (m_put_out (by omega)).trans h0 | exact am_un (by omega) h0) rfl ?_
      refine am_getfield 50 dX7_noise_50 fX7_115 (by first | assumption | exact m_put_a0 | exact m_put_a1 | exact m_put_a2 | exact (m_put_out (by omega)).trans (am_un (by omega) h0) | exact (m_put_out (by omega)).trans h0 | exact am_un (by omega) h0) rfl ?_
      refine am_ireturn 53 dX7_noise_53 rfl rfl ?_
      refine ⟨?_, rfl, fun x hx => by rw [m_put_out (by omega), am_up_ne (by omega)]⟩
      unfold m_oNoise
      rw [if_neg (show ¬ (nI k < 0 ∨ 6 ≤ nI k) from m_nbad (N := 6) rfl (by decide) hk), if_pos ⟨Int32.not_lt.mp c7, c13⟩]
      have e9 : (fun x => (0 : Int32) + (if x / 8 = k then 0 + u else 0) - 0) = (fun x => if x / 8 = (nI k).toInt.toNat then u else 0) := by
        funext x
        rw [m_iadd0, nI_toInt (by omega), Int32.zero_add]
        rfl
      rw [e9]
    · refine am_throw 16 rfl tX7_59_110 dX7_noise_16 dX7_noise_19 dX7_noise_20 dX7_noise_22 dX7_noise_25 (by decide) (by decide) ?_
      refine ⟨?_, rfl, fun _ _ => rfl⟩
      unfold m_oNoise
      rw [if_neg (show ¬ (nI k < 0 ∨ 6 ≤ nI k) from m_nbad (N := 6) rfl (by decide) hk), if_neg (fun z => by first | exact Int32.not_lt.mpr z.1 c7 | exact c13 z.2)]
end Palm1
