/-! ===== the law's helpers on a new object ===== -/
section Help
variable {p n o9 : Nat} {f : Nat → am_C} {g : Nat → Int64} {v : Int32}
def l_ok (p q n : Nat) (f : Nat → am_C) (g : Nat → Int64) (x : Int64) : am_P := fun o n' f' => o = .inl (some (.int 0)) ∧ n' = n ∧ f' q = .inl (1, 1, .inr (.inl (va_up g 0 x))) ∧ ∀ y, (y < p ∨ p + 45 < y) → y ≠ q → f' y = f y
def l_bad (p n : Nat) (f : Nat → am_C) (c : Int32) : am_P := fun o n' f' => o = .inl (some (.int c)) ∧ n' = n ∧ ∀ y, (y < p ∨ p + 45 < y) → f' y = f y
theorem s_Larea_ok {l r t b : Int32} (hF : m_Fr f p) (hg : f o9 = .inl (1, 1, .inr (.inl g))) (ho : o9 < p ∨ p + 45 < o9) (hv : m_oArea l r t b = m_iv v) : AM mL_area 1 6 [.ref p, .int l, .int r, .int t, .int b, .ref o9] n f (l_ok p o9 n f g v.toInt64) := by
  have h0 := hF.1
  show AW mL_area 1 6 0 [some (.ref p), some (.int l), some (.int r), some (.int t), some (.int b), some (.ref o9), none] [] n f _
  refine am_aload 0 dL_area_0 rfl ?_
  refine am_iconst 2 (v := 0) dL_area_2 (by decide) ?_
  refine am_aload_n 3 dL_area_3 rfl ?_
  refine am_iload_n 4 dL_area_4 rfl ?_
  refine am_iload_n 5 dL_area_5 rfl ?_
  refine am_iload_n 6 dL_area_6 rfl ?_
  refine am_iload 7 dL_area_7 rfl ?_
  refine am_V4 9 (mc' := 1) (ms' := 6) (rc := 0) (rs := 0) dL_area_9 lL_7 ⟨by decide, by decide⟩ (by repeat (first | assumption | exact am_ue | refine am_un (by first | assumption | decide | omega) ?_)) (Nat.le_of_ble_eq_true rfl) (Nat.le_of_ble_eq_true rfl) (s_area0 hF) ?_
  rintro o n' f' ⟨e, rfl, he⟩
  rw [hv] at e
  subst e
  have hg2 := (he o9 ho).trans hg
  refine am_ct_in ?_
  refine am_i2l 12 dL_area_12 ?_
  refine am_lastore 13 dL_area_13 rfl hg2 (am_ix (c := 0) (by decide) (by decide)) ?_
  refine am_goto 14 (tgt := 25) dL_area_14 rfl ?_
  refine am_iconst 25 (v := 0) dL_area_25 (by decide) ?_
  refine am_ireturn 26 dL_area_26 rfl rfl ?_
  exact ⟨rfl, rfl, am_ue, fun y hy hne => (am_up_ne hne).trans (he y hy)⟩
theorem s_Larea_bad0 {l r t b : Int32} (hF : m_Fr f p) (hv : m_oArea l r t b = .inr 0) : AM mL_area 1 6 [.ref p, .int l, .int r, .int t, .int b, .ref o9] n f (l_bad p n f 1) := by
  have h0 := hF.1
  show AW mL_area 1 6 0 [some (.ref p), some (.int l), some (.int r), some (.int t), some (.int b), some (.ref o9), none] [] n f _
  refine am_aload 0 dL_area_0 rfl ?_
  refine am_iconst 2 (v := 0) dL_area_2 (by decide) ?_
  refine am_aload_n 3 dL_area_3 rfl ?_
  refine am_iload_n 4 dL_area_4 rfl ?_
  refine am_iload_n 5 dL_area_5 rfl ?_
  refine am_iload_n 6 dL_area_6 rfl ?_
  refine am_iload 7 dL_area_7 rfl ?_
  refine am_V4 9 (mc' := 1) (ms' := 6) (rc := 0) (rs := 0) dL_area_9 lL_7 ⟨by decide, by decide⟩ (by repeat (first | assumption | exact am_ue | refine am_un (by first | assumption | decide | omega) ?_)) (Nat.le_of_ble_eq_true rfl) (Nat.le_of_ble_eq_true rfl) (s_area0 hF) ?_
  rintro o n' f' ⟨e, rfl, he⟩
  rw [hv] at e
  subst e
  refine AX.catch [] (0, 14, 17, 13) [(0, 14, 21, 15)] rfl (by intro z hz; cases hz) (by decide) (by decide) cL_13 fc_0 dL_area_17 (by decide) ?_
  refine am_iconst 19 (v := 1) dL_area_19 (by decide) ?_
  refine am_ireturn 20 dL_area_20 rfl rfl ?_
  exact ⟨rfl, rfl, he⟩
theorem s_Ldial_ok {d : Int32} (hF : m_Fr f p) (hg : f o9 = .inl (1, 1, .inr (.inl g))) (ho : o9 < p ∨ p + 45 < o9) (hv : m_oDial d = m_iv v) : AM mL_dial 1 6 [.ref p, .int d, .ref o9] n f (l_ok p o9 n f g v.toInt64) := by
  have h0 := hF.1
  show AW mL_dial 1 6 0 [some (.ref p), some (.int d), some (.ref o9), none] [] n f _
  refine am_aload_n 0 dL_dial_0 rfl ?_
  refine am_iconst 1 (v := 0) dL_dial_1 (by decide) ?_
  refine am_aload_n 2 dL_dial_2 rfl ?_
  refine am_iload_n 3 dL_dial_3 rfl ?_
  refine am_V1 4 (mc' := 1) (ms' := 6) (rc := 0) (rs := 0) dL_dial_4 lL_17 ⟨by decide, by decide⟩ (by repeat (first | assumption | exact am_ue | refine am_un (by first | assumption | decide | omega) ?_)) (Nat.le_of_ble_eq_true rfl) (Nat.le_of_ble_eq_true rfl) (s_dial0 hF) ?_
  rintro o n' f' ⟨e, rfl, he⟩
  rw [hv] at e
  subst e
  have hg2 := (he o9 ho).trans hg
  refine am_ct_in ?_
  refine am_i2l 7 dL_dial_7 ?_
  refine am_lastore 8 dL_dial_8 rfl hg2 (am_ix (c := 0) (by decide) (by decide)) ?_
  refine am_goto 9 (tgt := 15) dL_dial_9 rfl ?_
  refine am_iconst 15 (v := 0) dL_dial_15 (by decide) ?_
  refine am_ireturn 16 dL_dial_16 rfl rfl ?_
  exact ⟨rfl, rfl, am_ue, fun y hy hne => (am_up_ne hne).trans (he y hy)⟩
theorem s_Ldial_bad0 {d : Int32} (hF : m_Fr f p) (hv : m_oDial d = .inr 0) : AM mL_dial 1 6 [.ref p, .int d, .ref o9] n f (l_bad p n f 1) := by
  have h0 := hF.1
  show AW mL_dial 1 6 0 [some (.ref p), some (.int d), some (.ref o9), none] [] n f _
  refine am_aload_n 0 dL_dial_0 rfl ?_
  refine am_iconst 1 (v := 0) dL_dial_1 (by decide) ?_
  refine am_aload_n 2 dL_dial_2 rfl ?_
  refine am_iload_n 3 dL_dial_3 rfl ?_
  refine am_V1 4 (mc' := 1) (ms' := 6) (rc := 0) (rs := 0) dL_dial_4 lL_17 ⟨by decide, by decide⟩ (by repeat (first | assumption | exact am_ue | refine am_un (by first | assumption | decide | omega) ?_)) (Nat.le_of_ble_eq_true rfl) (Nat.le_of_ble_eq_true rfl) (s_dial0 hF) ?_
  rintro o n' f' ⟨e, rfl, he⟩
  rw [hv] at e
  subst e
  refine AX.catch_n [] (0, 9, 12, 13) [] rfl (by intro z hz; cases hz) (by decide) (by decide) cL_13 fc_0 dL_dial_12 (by decide) ?_
  refine am_iconst 13 (v := 1) dL_dial_13 (by decide) ?_
  refine am_ireturn 14 dL_dial_14 rfl rfl ?_
  exact ⟨rfl, rfl, he⟩
theorem s_Llimit_ok {d : Int32} (hF : m_Fr f p) (hg : f o9 = .inl (1, 1, .inr (.inl g))) (ho : o9 < p ∨ p + 45 < o9) (hv : m_oLimit d = m_iv v) : AM mL_limit 1 6 [.ref p, .int d, .ref o9] n f (l_ok p o9 n f g v.toInt64) := by
  have h0 := hF.1
  show AW mL_limit 1 6 0 [some (.ref p), some (.int d), some (.ref o9), none] [] n f _
  refine am_aload_n 0 dL_limit_0 rfl ?_
  refine am_iconst 1 (v := 0) dL_limit_1 (by decide) ?_
  refine am_aload_n 2 dL_limit_2 rfl ?_
  refine am_iload_n 3 dL_limit_3 rfl ?_
  refine am_V1 4 (mc' := 1) (ms' := 6) (rc := 0) (rs := 0) dL_limit_4 lL_21 ⟨by decide, by decide⟩ (by repeat (first | assumption | exact am_ue | refine am_un (by first | assumption | decide | omega) ?_)) (Nat.le_of_ble_eq_true rfl) (Nat.le_of_ble_eq_true rfl) (s_limit0 hF) ?_
  rintro o n' f' ⟨e, rfl, he⟩
  rw [hv] at e
  subst e
  have hg2 := (he o9 ho).trans hg
  refine am_ct_in ?_
  refine am_i2l 7 dL_limit_7 ?_
  refine am_lastore 8 dL_limit_8 rfl hg2 (am_ix (c := 0) (by decide) (by decide)) ?_
  refine am_goto 9 (tgt := 15) dL_limit_9 rfl ?_
  refine am_iconst 15 (v := 0) dL_limit_15 (by decide) ?_
  refine am_ireturn 16 dL_limit_16 rfl rfl ?_
  exact ⟨rfl, rfl, am_ue, fun y hy hne => (am_up_ne hne).trans (he y hy)⟩
theorem s_Llimit_bad0 {d : Int32} (hF : m_Fr f p) (hv : m_oLimit d = .inr 0) : AM mL_limit 1 6 [.ref p, .int d, .ref o9] n f (l_bad p n f 1) := by
  have h0 := hF.1
  show AW mL_limit 1 6 0 [some (.ref p), some (.int d), some (.ref o9), none] [] n f _
  refine am_aload_n 0 dL_limit_0 rfl ?_
  refine am_iconst 1 (v := 0) dL_limit_1 (by decide) ?_
  refine am_aload_n 2 dL_limit_2 rfl ?_
  refine am_iload_n 3 dL_limit_3 rfl ?_
  refine am_V1 4 (mc' := 1) (ms' := 6) (rc := 0) (rs := 0) dL_limit_4 lL_21 ⟨by decide, by decide⟩ (by repeat (first | assumption | exact am_ue | refine am_un (by first | assumption | decide | omega) ?_)) (Nat.le_of_ble_eq_true rfl) (Nat.le_of_ble_eq_true rfl) (s_limit0 hF) ?_
  rintro o n' f' ⟨e, rfl, he⟩
  rw [hv] at e
  subst e
  refine AX.catch_n [] (0, 9, 12, 13) [] rfl (by intro z hz; cases hz) (by decide) (by decide) cL_13 fc_0 dL_limit_12 (by decide) ?_
  refine am_iconst 13 (v := 1) dL_limit_13 (by decide) ?_
  refine am_ireturn 14 dL_limit_14 rfl rfl ?_
  exact ⟨rfl, rfl, he⟩
theorem s_Lheat_ok {d : Int32} (hF : m_Fr f p) (hg : f o9 = .inl (1, 1, .inr (.inl g))) (ho : o9 < p ∨ p + 45 < o9) (hv : m_oHeat d = m_iv v) : AM mL_heat 1 6 [.ref p, .int d, .ref o9] n f (l_ok p o9 n f g v.toInt64) := by
  have h0 := hF.1
  show AW mL_heat 1 6 0 [some (.ref p), some (.int d), some (.ref o9), none] [] n f _
  refine am_aload_n 0 dL_heat_0 rfl ?_
  refine am_iconst 1 (v := 0) dL_heat_1 (by decide) ?_
  refine am_aload_n 2 dL_heat_2 rfl ?_
  refine am_iload_n 3 dL_heat_3 rfl ?_
  refine am_V1 4 (mc' := 1) (ms' := 6) (rc := 0) (rs := 0) dL_heat_4 lL_24 ⟨by decide, by decide⟩ (by repeat (first | assumption | exact am_ue | refine am_un (by first | assumption | decide | omega) ?_)) (Nat.le_of_ble_eq_true rfl) (Nat.le_of_ble_eq_true rfl) (s_heat0 hF) ?_
  rintro o n' f' ⟨e, rfl, he⟩
  rw [hv] at e
  subst e
  have hg2 := (he o9 ho).trans hg
  refine am_ct_in ?_
  refine am_i2l 7 dL_heat_7 ?_
  refine am_lastore 8 dL_heat_8 rfl hg2 (am_ix (c := 0) (by decide) (by decide)) ?_
  refine am_goto 9 (tgt := 15) dL_heat_9 rfl ?_
  refine am_iconst 15 (v := 0) dL_heat_15 (by decide) ?_
  refine am_ireturn 16 dL_heat_16 rfl rfl ?_
  exact ⟨rfl, rfl, am_ue, fun y hy hne => (am_up_ne hne).trans (he y hy)⟩
theorem s_Lheat_bad0 {d : Int32} (hF : m_Fr f p) (hv : m_oHeat d = .inr 0) : AM mL_heat 1 6 [.ref p, .int d, .ref o9] n f (l_bad p n f 1) := by
  have h0 := hF.1
  show AW mL_heat 1 6 0 [some (.ref p), some (.int d), some (.ref o9), none] [] n f _
  refine am_aload_n 0 dL_heat_0 rfl ?_
  refine am_iconst 1 (v := 0) dL_heat_1 (by decide) ?_
  refine am_aload_n 2 dL_heat_2 rfl ?_
  refine am_iload_n 3 dL_heat_3 rfl ?_
  refine am_V1 4 (mc' := 1) (ms' := 6) (rc := 0) (rs := 0) dL_heat_4 lL_24 ⟨by decide, by decide⟩ (by repeat (first | assumption | exact am_ue | refine am_un (by first | assumption | decide | omega) ?_)) (Nat.le_of_ble_eq_true rfl) (Nat.le_of_ble_eq_true rfl) (s_heat0 hF) ?_
  rintro o n' f' ⟨e, rfl, he⟩
  rw [hv] at e
  subst e
  refine AX.catch_n [] (0, 9, 12, 13) [] rfl (by intro z hz; cases hz) (by decide) (by decide) cL_13 fc_0 dL_heat_12 (by decide) ?_
  refine am_iconst 13 (v := 1) dL_heat_13 (by decide) ?_
  refine am_ireturn 14 dL_heat_14 rfl rfl ?_
  exact ⟨rfl, rfl, he⟩
theorem s_Lpress_ok {x y s : Int32} (hF : m_Fr f p) (hg : f o9 = .inl (1, 1, .inr (.inl g))) (ho : o9 < p ∨ p + 45 < o9) (hv : m_oPress x y s = m_iv v) : AM mL_press 2 12 [.ref p, .int x, .int y, .int s, .ref o9] n f (l_ok p o9 n f g v.toInt64) := by
  have h0 := hF.1
  show AW mL_press 2 12 0 [some (.ref p), some (.int x), some (.int y), some (.int s), some (.ref o9), none] [] n f _
  refine am_aload 0 dL_press_0 rfl ?_
  refine am_iconst 2 (v := 0) dL_press_2 (by decide) ?_
  refine am_aload_n 3 dL_press_3 rfl ?_
  refine am_iload_n 4 dL_press_4 rfl ?_
  refine am_iload_n 5 dL_press_5 rfl ?_
  refine am_iload_n 6 dL_press_6 rfl ?_
  refine am_V3 7 (mc' := 2) (ms' := 12) (rc := 0) (rs := 0) dL_press_7 lL_27 ⟨by decide, by decide⟩ (by repeat (first | assumption | exact am_ue | refine am_un (by first | assumption | decide | omega) ?_)) (Nat.le_of_ble_eq_true rfl) (Nat.le_of_ble_eq_true rfl) (s_press0 hF) ?_
  rintro o n' f' ⟨e, rfl, he⟩
  rw [hv] at e
  subst e
  have hg2 := (he o9 ho).trans hg
  refine am_ct_in ?_
  refine am_i2l 10 dL_press_10 ?_
  refine am_lastore 11 dL_press_11 rfl hg2 (am_ix (c := 0) (by decide) (by decide)) ?_
  refine am_goto 12 (tgt := 23) dL_press_12 rfl ?_
  refine am_iconst 23 (v := 0) dL_press_23 (by decide) ?_
  refine am_ireturn 24 dL_press_24 rfl rfl ?_
  exact ⟨rfl, rfl, am_ue, fun y hy hne => (am_up_ne hne).trans (he y hy)⟩
theorem s_Lpress_bad2 {x y s : Int32} (hF : m_Fr f p) (hv : m_oPress x y s = .inr 2) : AM mL_press 2 12 [.ref p, .int x, .int y, .int s, .ref o9] n f (l_bad p n f 1) := by
  have h0 := hF.1
  show AW mL_press 2 12 0 [some (.ref p), some (.int x), some (.int y), some (.int s), some (.ref o9), none] [] n f _
  refine am_aload 0 dL_press_0 rfl ?_
  refine am_iconst 2 (v := 0) dL_press_2 (by decide) ?_
  refine am_aload_n 3 dL_press_3 rfl ?_
  refine am_iload_n 4 dL_press_4 rfl ?_
  refine am_iload_n 5 dL_press_5 rfl ?_
  refine am_iload_n 6 dL_press_6 rfl ?_
  refine am_V3 7 (mc' := 2) (ms' := 12) (rc := 0) (rs := 0) dL_press_7 lL_27 ⟨by decide, by decide⟩ (by repeat (first | assumption | exact am_ue | refine am_un (by first | assumption | decide | omega) ?_)) (Nat.le_of_ble_eq_true rfl) (Nat.le_of_ble_eq_true rfl) (s_press0 hF) ?_
  rintro o n' f' ⟨e, rfl, he⟩
  rw [hv] at e
  subst e
  refine AX.catch [] (0, 12, 15, 31) [(0, 12, 19, 13)] rfl (by intro z hz; cases hz) (by decide) (by decide) cL_31 fc_2 dL_press_15 (by decide) ?_
  refine am_iconst 17 (v := 1) dL_press_17 (by decide) ?_
  refine am_ireturn 18 dL_press_18 rfl rfl ?_
  exact ⟨rfl, rfl, he⟩
theorem s_Lpress_bad0 {x y s : Int32} (hF : m_Fr f p) (hv : m_oPress x y s = .inr 0) : AM mL_press 2 12 [.ref p, .int x, .int y, .int s, .ref o9] n f (l_bad p n f 2) := by
  have h0 := hF.1
  show AW mL_press 2 12 0 [some (.ref p), some (.int x), some (.int y), some (.int s), some (.ref o9), none] [] n f _
  refine am_aload 0 dL_press_0 rfl ?_
  refine am_iconst 2 (v := 0) dL_press_2 (by decide) ?_
  refine am_aload_n 3 dL_press_3 rfl ?_
  refine am_iload_n 4 dL_press_4 rfl ?_
  refine am_iload_n 5 dL_press_5 rfl ?_
  refine am_iload_n 6 dL_press_6 rfl ?_
  refine am_V3 7 (mc' := 2) (ms' := 12) (rc := 0) (rs := 0) dL_press_7 lL_27 ⟨by decide, by decide⟩ (by repeat (first | assumption | exact am_ue | refine am_un (by first | assumption | decide | omega) ?_)) (Nat.le_of_ble_eq_true rfl) (Nat.le_of_ble_eq_true rfl) (s_press0 hF) ?_
  rintro o n' f' ⟨e, rfl, he⟩
  rw [hv] at e
  subst e
  refine AX.catch [(0, 12, 15, 31)] (0, 12, 19, 13) [] rfl (by intro z hz; rw [List.mem_singleton] at hz; subst hz; exact Or.inr ⟨by decide, "java/lang/IndexOutOfBoundsException", cL_31, by decide +kernel⟩) (by decide) (by decide) cL_13 fc_0 dL_press_19 (by decide) ?_
  refine am_iconst 21 (v := 2) dL_press_21 (by decide) ?_
  refine am_ireturn 22 dL_press_22 rfl rfl ?_
  exact ⟨rfl, rfl, he⟩
theorem s_Lnoise_ok {y u : Int32} (hF : m_Fr f p) (hg : f o9 = .inl (1, 1, .inr (.inl g))) (ho : o9 < p ∨ p + 45 < o9) (hv : m_oNoise y u = m_iv v) : AM mL_noise 2 12 [.ref p, .int y, .int u, .ref o9] n f (l_ok p o9 n f g v.toInt64) := by
  have h0 := hF.1
  show AW mL_noise 2 12 0 [some (.ref p), some (.int y), some (.int u), some (.ref o9), none] [] n f _
  refine am_aload_n 0 dL_noise_0 rfl ?_
  refine am_iconst 1 (v := 0) dL_noise_1 (by decide) ?_
  refine am_aload_n 2 dL_noise_2 rfl ?_
  refine am_iload_n 3 dL_noise_3 rfl ?_
  refine am_iload_n 4 dL_noise_4 rfl ?_
  refine am_V2 5 (mc' := 2) (ms' := 12) (rc := 0) (rs := 0) dL_noise_5 lL_33 ⟨by decide, by decide⟩ (by repeat (first | assumption | exact am_ue | refine am_un (by first | assumption | decide | omega) ?_)) (Nat.le_of_ble_eq_true rfl) (Nat.le_of_ble_eq_true rfl) (s_noise0 hF) ?_
  rintro o n' f' ⟨e, rfl, he⟩
  rw [hv] at e
  subst e
  have hg2 := (he o9 ho).trans hg
  refine am_ct_in ?_
  refine am_i2l 8 dL_noise_8 ?_
  refine am_lastore 9 dL_noise_9 rfl hg2 (am_ix (c := 0) (by decide) (by decide)) ?_
  refine am_goto 10 (tgt := 21) dL_noise_10 rfl ?_
  refine am_iconst 21 (v := 0) dL_noise_21 (by decide) ?_
  refine am_ireturn 22 dL_noise_22 rfl rfl ?_
  exact ⟨rfl, rfl, am_ue, fun y hy hne => (am_up_ne hne).trans (he y hy)⟩
theorem s_Lnoise_bad2 {y u : Int32} (hF : m_Fr f p) (hv : m_oNoise y u = .inr 2) : AM mL_noise 2 12 [.ref p, .int y, .int u, .ref o9] n f (l_bad p n f 1) := by
  have h0 := hF.1
  show AW mL_noise 2 12 0 [some (.ref p), some (.int y), some (.int u), some (.ref o9), none] [] n f _
  refine am_aload_n 0 dL_noise_0 rfl ?_
  refine am_iconst 1 (v := 0) dL_noise_1 (by decide) ?_
  refine am_aload_n 2 dL_noise_2 rfl ?_
  refine am_iload_n 3 dL_noise_3 rfl ?_
  refine am_iload_n 4 dL_noise_4 rfl ?_
  refine am_V2 5 (mc' := 2) (ms' := 12) (rc := 0) (rs := 0) dL_noise_5 lL_33 ⟨by decide, by decide⟩ (by repeat (first | assumption | exact am_ue | refine am_un (by first | assumption | decide | omega) ?_)) (Nat.le_of_ble_eq_true rfl) (Nat.le_of_ble_eq_true rfl) (s_noise0 hF) ?_
  rintro o n' f' ⟨e, rfl, he⟩
  rw [hv] at e
  subst e
  refine AX.catch [] (0, 10, 13, 31) [(0, 10, 17, 13)] rfl (by intro z hz; cases hz) (by decide) (by decide) cL_31 fc_2 dL_noise_13 (by decide) ?_
  refine am_iconst 15 (v := 1) dL_noise_15 (by decide) ?_
  refine am_ireturn 16 dL_noise_16 rfl rfl ?_
  exact ⟨rfl, rfl, he⟩
theorem s_Lnoise_bad0 {y u : Int32} (hF : m_Fr f p) (hv : m_oNoise y u = .inr 0) : AM mL_noise 2 12 [.ref p, .int y, .int u, .ref o9] n f (l_bad p n f 2) := by
  have h0 := hF.1
  show AW mL_noise 2 12 0 [some (.ref p), some (.int y), some (.int u), some (.ref o9), none] [] n f _
  refine am_aload_n 0 dL_noise_0 rfl ?_
  refine am_iconst 1 (v := 0) dL_noise_1 (by decide) ?_
  refine am_aload_n 2 dL_noise_2 rfl ?_
  refine am_iload_n 3 dL_noise_3 rfl ?_
  refine am_iload_n 4 dL_noise_4 rfl ?_
  refine am_V2 5 (mc' := 2) (ms' := 12) (rc := 0) (rs := 0) dL_noise_5 lL_33 ⟨by decide, by decide⟩ (by repeat (first | assumption | exact am_ue | refine am_un (by first | assumption | decide | omega) ?_)) (Nat.le_of_ble_eq_true rfl) (Nat.le_of_ble_eq_true rfl) (s_noise0 hF) ?_
  rintro o n' f' ⟨e, rfl, he⟩
  rw [hv] at e
  subst e
  refine AX.catch [(0, 10, 13, 31)] (0, 10, 17, 13) [] rfl (by intro z hz; rw [List.mem_singleton] at hz; subst hz; exact Or.inr ⟨by decide, "java/lang/IndexOutOfBoundsException", cL_31, by decide +kernel⟩) (by decide) (by decide) cL_13 fc_0 dL_noise_17 (by decide) ?_
  refine am_iconst 19 (v := 2) dL_noise_19 (by decide) ?_
  refine am_ireturn 20 dL_noise_20 rfl rfl ?_
  exact ⟨rfl, rfl, he⟩
theorem s_LofCell_ok {x y w : Int32} (hF : m_Fr f p) (hg : f o9 = .inl (1, 1, .inr (.inl g))) (ho : o9 < p ∨ p + 45 < o9) (hv : m_oCell x y w = m_iv v) : AM mL_ofCell 2 12 [.ref p, .int x, .int y, .int w, .ref o9] n f (l_ok p o9 n f g v.toInt64) := by
  have h0 := hF.1
  show AW mL_ofCell 2 12 0 [some (.ref p), some (.int x), some (.int y), some (.int w), some (.ref o9), none] [] n f _
  refine am_aload 0 dL_ofCell_0 rfl ?_
  refine am_iconst 2 (v := 0) dL_ofCell_2 (by decide) ?_
  refine am_aload_n 3 dL_ofCell_3 rfl ?_
  refine am_iload_n 4 dL_ofCell_4 rfl ?_
  refine am_iload_n 5 dL_ofCell_5 rfl ?_
  refine am_iload_n 6 dL_ofCell_6 rfl ?_
  refine am_V3 7 (mc' := 2) (ms' := 12) (rc := 0) (rs := 0) dL_ofCell_7 lL_37 ⟨by decide, by decide⟩ (by repeat (first | assumption | exact am_ue | refine am_un (by first | assumption | decide | omega) ?_)) (Nat.le_of_ble_eq_true rfl) (Nat.le_of_ble_eq_true rfl) (s_ofCell0 hF) ?_
  rintro o n' f' ⟨e, rfl, he⟩
  rw [hv] at e
  subst e
  have hg2 := (he o9 ho).trans hg
  refine am_ct_in ?_
  refine am_i2l 10 dL_ofCell_10 ?_
  refine am_lastore 11 dL_ofCell_11 rfl hg2 (am_ix (c := 0) (by decide) (by decide)) ?_
  refine am_goto 12 (tgt := 23) dL_ofCell_12 rfl ?_
  refine am_iconst 23 (v := 0) dL_ofCell_23 (by decide) ?_
  refine am_ireturn 24 dL_ofCell_24 rfl rfl ?_
  exact ⟨rfl, rfl, am_ue, fun y hy hne => (am_up_ne hne).trans (he y hy)⟩
theorem s_LofCell_bad2 {x y w : Int32} (hF : m_Fr f p) (hv : m_oCell x y w = .inr 2) : AM mL_ofCell 2 12 [.ref p, .int x, .int y, .int w, .ref o9] n f (l_bad p n f 1) := by
  have h0 := hF.1
  show AW mL_ofCell 2 12 0 [some (.ref p), some (.int x), some (.int y), some (.int w), some (.ref o9), none] [] n f _
  refine am_aload 0 dL_ofCell_0 rfl ?_
  refine am_iconst 2 (v := 0) dL_ofCell_2 (by decide) ?_
  refine am_aload_n 3 dL_ofCell_3 rfl ?_
  refine am_iload_n 4 dL_ofCell_4 rfl ?_
  refine am_iload_n 5 dL_ofCell_5 rfl ?_
  refine am_iload_n 6 dL_ofCell_6 rfl ?_
  refine am_V3 7 (mc' := 2) (ms' := 12) (rc := 0) (rs := 0) dL_ofCell_7 lL_37 ⟨by decide, by decide⟩ (by repeat (first | assumption | exact am_ue | refine am_un (by first | assumption | decide | omega) ?_)) (Nat.le_of_ble_eq_true rfl) (Nat.le_of_ble_eq_true rfl) (s_ofCell0 hF) ?_
  rintro o n' f' ⟨e, rfl, he⟩
  rw [hv] at e
  subst e
  refine AX.catch [] (0, 12, 15, 31) [(0, 12, 19, 13)] rfl (by intro z hz; cases hz) (by decide) (by decide) cL_31 fc_2 dL_ofCell_15 (by decide) ?_
  refine am_iconst 17 (v := 1) dL_ofCell_17 (by decide) ?_
  refine am_ireturn 18 dL_ofCell_18 rfl rfl ?_
  exact ⟨rfl, rfl, he⟩
theorem s_LofCell_bad0 {x y w : Int32} (hF : m_Fr f p) (hv : m_oCell x y w = .inr 0) : AM mL_ofCell 2 12 [.ref p, .int x, .int y, .int w, .ref o9] n f (l_bad p n f 2) := by
  have h0 := hF.1
  show AW mL_ofCell 2 12 0 [some (.ref p), some (.int x), some (.int y), some (.int w), some (.ref o9), none] [] n f _
  refine am_aload 0 dL_ofCell_0 rfl ?_
  refine am_iconst 2 (v := 0) dL_ofCell_2 (by decide) ?_
  refine am_aload_n 3 dL_ofCell_3 rfl ?_
  refine am_iload_n 4 dL_ofCell_4 rfl ?_
  refine am_iload_n 5 dL_ofCell_5 rfl ?_
  refine am_iload_n 6 dL_ofCell_6 rfl ?_
  refine am_V3 7 (mc' := 2) (ms' := 12) (rc := 0) (rs := 0) dL_ofCell_7 lL_37 ⟨by decide, by decide⟩ (by repeat (first | assumption | exact am_ue | refine am_un (by first | assumption | decide | omega) ?_)) (Nat.le_of_ble_eq_true rfl) (Nat.le_of_ble_eq_true rfl) (s_ofCell0 hF) ?_
  rintro o n' f' ⟨e, rfl, he⟩
  rw [hv] at e
  subst e
  refine AX.catch [(0, 12, 15, 31)] (0, 12, 19, 13) [] rfl (by intro z hz; rw [List.mem_singleton] at hz; subst hz; exact Or.inr ⟨by decide, "java/lang/IndexOutOfBoundsException", cL_31, by decide +kernel⟩) (by decide) (by decide) cL_13 fc_0 dL_ofCell_19 (by decide) ?_
  refine am_iconst 21 (v := 2) dL_ofCell_21 (by decide) ?_
  refine am_ireturn 22 dL_ofCell_22 rfl rfl ?_
  exact ⟨rfl, rfl, he⟩
theorem s_LofPeak_bad2 {x w : Int32} (hF : m_Fr f p) : AM mL_ofPeak 1 6 [.ref p, .int x, .int w, .ref o9] n f (l_bad p n f 1) := by
  have h0 := hF.1
  show AW mL_ofPeak 1 6 0 [some (.ref p), some (.int x), some (.int w), some (.ref o9), none] [] n f _
  refine am_aload_n 0 dL_ofPeak_0 rfl ?_
  refine am_iconst 1 (v := 0) dL_ofPeak_1 (by decide) ?_
  refine am_aload_n 2 dL_ofPeak_2 rfl ?_
  refine am_iload_n 3 dL_ofPeak_3 rfl ?_
  refine am_iload_n 4 dL_ofPeak_4 rfl ?_
  refine am_V2 5 (mc' := 1) (ms' := 6) (rc := 0) (rs := 0) dL_ofPeak_5 lL_40 ⟨by decide, by decide⟩ (by repeat (first | assumption | exact am_ue | refine am_un (by first | assumption | decide | omega) ?_)) (Nat.le_of_ble_eq_true rfl) (Nat.le_of_ble_eq_true rfl) (s_ofPeak0 hF) ?_
  rintro o n' f' ⟨e, rfl, he⟩
  subst e
  refine AX.catch [] (0, 10, 13, 31) [(0, 10, 17, 13)] rfl (by intro z hz; cases hz) (by decide) (by decide) cL_31 fc_2 dL_ofPeak_13 (by decide) ?_
  refine am_iconst 15 (v := 1) dL_ofPeak_15 (by decide) ?_
  refine am_ireturn 16 dL_ofPeak_16 rfl rfl ?_
  exact ⟨rfl, rfl, he⟩
theorem s_LofContact_bad2 {x w : Int32} (hF : m_Fr f p) : AM mL_ofContact 1 6 [.ref p, .int x, .int w, .ref o9] n f (l_bad p n f 1) := by
  have h0 := hF.1
  show AW mL_ofContact 1 6 0 [some (.ref p), some (.int x), some (.int w), some (.ref o9), none] [] n f _
  refine am_aload_n 0 dL_ofContact_0 rfl ?_
  refine am_iconst 1 (v := 0) dL_ofContact_1 (by decide) ?_
  refine am_aload_n 2 dL_ofContact_2 rfl ?_
  refine am_iload_n 3 dL_ofContact_3 rfl ?_
  refine am_iload_n 4 dL_ofContact_4 rfl ?_
  refine am_V2 5 (mc' := 1) (ms' := 6) (rc := 0) (rs := 0) dL_ofContact_5 lL_43 ⟨by decide, by decide⟩ (by repeat (first | assumption | exact am_ue | refine am_un (by first | assumption | decide | omega) ?_)) (Nat.le_of_ble_eq_true rfl) (Nat.le_of_ble_eq_true rfl) (s_ofContact0 hF) ?_
  rintro o n' f' ⟨e, rfl, he⟩
  subst e
  refine AX.catch [] (0, 10, 13, 31) [(0, 10, 17, 13)] rfl (by intro z hz; cases hz) (by decide) (by decide) cL_31 fc_2 dL_ofContact_13 (by decide) ?_
  refine am_iconst 15 (v := 1) dL_ofContact_15 (by decide) ?_
  refine am_ireturn 16 dL_ofContact_16 rfl rfl ?_
  exact ⟨rfl, rfl, he⟩
theorem s_Lwhere_bad2 {x w : Int32} (hF : m_Fr f p) : AM mL_where 1 6 [.ref p, .int x, .int w, .ref o9] n f (l_bad p n f 1) := by
  have h0 := hF.1
  show AW mL_where 1 6 0 [some (.ref p), some (.int x), some (.int w), some (.ref o9), none] [] n f _
  refine am_aload_n 0 dL_where_0 rfl ?_
  refine am_iconst 1 (v := 0) dL_where_1 (by decide) ?_
  refine am_aload_n 2 dL_where_2 rfl ?_
  refine am_iload_n 3 dL_where_3 rfl ?_
  refine am_iload_n 4 dL_where_4 rfl ?_
  refine am_V2 5 (mc' := 1) (ms' := 6) (rc := 0) (rs := 0) dL_where_5 lL_46 ⟨by decide, by decide⟩ (by repeat (first | assumption | exact am_ue | refine am_un (by first | assumption | decide | omega) ?_)) (Nat.le_of_ble_eq_true rfl) (Nat.le_of_ble_eq_true rfl) (s_where0 hF) ?_
  rintro o n' f' ⟨e, rfl, he⟩
  subst e
  refine AX.catch [] (0, 9, 12, 31) [(0, 9, 16, 13)] rfl (by intro z hz; cases hz) (by decide) (by decide) cL_31 fc_2 dL_where_12 (by decide) ?_
  refine am_iconst 14 (v := 1) dL_where_14 (by decide) ?_
  refine am_ireturn 15 dL_where_15 rfl rfl ?_
  exact ⟨rfl, rfl, he⟩
theorem s_Lapart_bad2 {x w : Int32} (hF : m_Fr f p) : AM mL_apart 1 6 [.ref p, .int x, .int w, .ref o9] n f (l_bad p n f 1) := by
  have h0 := hF.1
  show AW mL_apart 1 6 0 [some (.ref p), some (.int x), some (.int w), some (.ref o9), none] [] n f _
  refine am_aload_n 0 dL_apart_0 rfl ?_
  refine am_iconst 1 (v := 0) dL_apart_1 (by decide) ?_
  refine am_aload_n 2 dL_apart_2 rfl ?_
  refine am_iload_n 3 dL_apart_3 rfl ?_
  refine am_iload_n 4 dL_apart_4 rfl ?_
  refine am_V2 5 (mc' := 1) (ms' := 6) (rc := 0) (rs := 0) dL_apart_5 lL_50 ⟨by decide, by decide⟩ (by repeat (first | assumption | exact am_ue | refine am_un (by first | assumption | decide | omega) ?_)) (Nat.le_of_ble_eq_true rfl) (Nat.le_of_ble_eq_true rfl) (s_apart0 hF) ?_
  rintro o n' f' ⟨e, rfl, he⟩
  subst e
  refine AX.catch [] (0, 9, 12, 31) [] rfl (by intro z hz; cases hz) (by decide) (by decide) cL_31 fc_2 dL_apart_12 (by decide) ?_
  refine am_iconst 14 (v := 1) dL_apart_14 (by decide) ?_
  refine am_ireturn 15 dL_apart_15 rfl rfl ?_
  exact ⟨rfl, rfl, he⟩
theorem s_LofRow_ok {y w : Int32} (hF : m_Fr f p) (hg : f o9 = .inl (1, 1, .inr (.inl g))) (ho : o9 < p ∨ p + 45 < o9) (hv : m_oRow y w = m_iv v) : AM mL_ofRow 2 12 [.ref p, .int y, .int w, .ref o9] n f (l_ok p o9 n f g v.toInt64) := by
  have h0 := hF.1
  show AW mL_ofRow 2 12 0 [some (.ref p), some (.int y), some (.int w), some (.ref o9), none] [] n f _
  refine am_aload_n 0 dL_ofRow_0 rfl ?_
  refine am_iconst 1 (v := 0) dL_ofRow_1 (by decide) ?_
  refine am_aload_n 2 dL_ofRow_2 rfl ?_
  refine am_iload_n 3 dL_ofRow_3 rfl ?_
  refine am_iload_n 4 dL_ofRow_4 rfl ?_
  refine am_V2 5 (mc' := 2) (ms' := 12) (rc := 0) (rs := 0) dL_ofRow_5 lL_53 ⟨by decide, by decide⟩ (by repeat (first | assumption | exact am_ue | refine am_un (by first | assumption | decide | omega) ?_)) (Nat.le_of_ble_eq_true rfl) (Nat.le_of_ble_eq_true rfl) (s_ofRow0 hF) ?_
  rintro o n' f' ⟨e, rfl, he⟩
  rw [hv] at e
  subst e
  have hg2 := (he o9 ho).trans hg
  refine am_ct_in ?_
  refine am_i2l 8 dL_ofRow_8 ?_
  refine am_lastore 9 dL_ofRow_9 rfl hg2 (am_ix (c := 0) (by decide) (by decide)) ?_
  refine am_goto 10 (tgt := 21) dL_ofRow_10 rfl ?_
  refine am_iconst 21 (v := 0) dL_ofRow_21 (by decide) ?_
  refine am_ireturn 22 dL_ofRow_22 rfl rfl ?_
  exact ⟨rfl, rfl, am_ue, fun y hy hne => (am_up_ne hne).trans (he y hy)⟩
theorem s_LofRow_bad2 {y w : Int32} (hF : m_Fr f p) (hv : m_oRow y w = .inr 2) : AM mL_ofRow 2 12 [.ref p, .int y, .int w, .ref o9] n f (l_bad p n f 1) := by
  have h0 := hF.1
  show AW mL_ofRow 2 12 0 [some (.ref p), some (.int y), some (.int w), some (.ref o9), none] [] n f _
  refine am_aload_n 0 dL_ofRow_0 rfl ?_
  refine am_iconst 1 (v := 0) dL_ofRow_1 (by decide) ?_
  refine am_aload_n 2 dL_ofRow_2 rfl ?_
  refine am_iload_n 3 dL_ofRow_3 rfl ?_
  refine am_iload_n 4 dL_ofRow_4 rfl ?_
  refine am_V2 5 (mc' := 2) (ms' := 12) (rc := 0) (rs := 0) dL_ofRow_5 lL_53 ⟨by decide, by decide⟩ (by repeat (first | assumption | exact am_ue | refine am_un (by first | assumption | decide | omega) ?_)) (Nat.le_of_ble_eq_true rfl) (Nat.le_of_ble_eq_true rfl) (s_ofRow0 hF) ?_
  rintro o n' f' ⟨e, rfl, he⟩
  rw [hv] at e
  subst e
  refine AX.catch [] (0, 10, 13, 31) [(0, 10, 17, 13)] rfl (by intro z hz; cases hz) (by decide) (by decide) cL_31 fc_2 dL_ofRow_13 (by decide) ?_
  refine am_iconst 15 (v := 1) dL_ofRow_15 (by decide) ?_
  refine am_ireturn 16 dL_ofRow_16 rfl rfl ?_
  exact ⟨rfl, rfl, he⟩
theorem s_LofRow_bad0 {y w : Int32} (hF : m_Fr f p) (hv : m_oRow y w = .inr 0) : AM mL_ofRow 2 12 [.ref p, .int y, .int w, .ref o9] n f (l_bad p n f 2) := by
  have h0 := hF.1
  show AW mL_ofRow 2 12 0 [some (.ref p), some (.int y), some (.int w), some (.ref o9), none] [] n f _
  refine am_aload_n 0 dL_ofRow_0 rfl ?_
  refine am_iconst 1 (v := 0) dL_ofRow_1 (by decide) ?_
  refine am_aload_n 2 dL_ofRow_2 rfl ?_
  refine am_iload_n 3 dL_ofRow_3 rfl ?_
  refine am_iload_n 4 dL_ofRow_4 rfl ?_
  refine am_V2 5 (mc' := 2) (ms' := 12) (rc := 0) (rs := 0) dL_ofRow_5 lL_53 ⟨by decide, by decide⟩ (by repeat (first | assumption | exact am_ue | refine am_un (by first | assumption | decide | omega) ?_)) (Nat.le_of_ble_eq_true rfl) (Nat.le_of_ble_eq_true rfl) (s_ofRow0 hF) ?_
  rintro o n' f' ⟨e, rfl, he⟩
  rw [hv] at e
  subst e
  refine AX.catch [(0, 10, 13, 31)] (0, 10, 17, 13) [] rfl (by intro z hz; rw [List.mem_singleton] at hz; subst hz; exact Or.inr ⟨by decide, "java/lang/IndexOutOfBoundsException", cL_31, by decide +kernel⟩) (by decide) (by decide) cL_13 fc_0 dL_ofRow_17 (by decide) ?_
  refine am_iconst 19 (v := 2) dL_ofRow_19 (by decide) ?_
  refine am_ireturn 20 dL_ofRow_20 rfl rfl ?_
  exact ⟨rfl, rfl, he⟩
theorem s_LofArea_bad2 {x w : Int32} (hF : m_Fr f p) : AM mL_ofArea 1 6 [.ref p, .int x, .int w, .ref o9] n f (l_bad p n f 1) := by
  have h0 := hF.1
  show AW mL_ofArea 1 6 0 [some (.ref p), some (.int x), some (.int w), some (.ref o9), none] [] n f _
  refine am_aload_n 0 dL_ofArea_0 rfl ?_
  refine am_iconst 1 (v := 0) dL_ofArea_1 (by decide) ?_
  refine am_aload_n 2 dL_ofArea_2 rfl ?_
  refine am_iload_n 3 dL_ofArea_3 rfl ?_
  refine am_iload_n 4 dL_ofArea_4 rfl ?_
  refine am_V2 5 (mc' := 1) (ms' := 6) (rc := 0) (rs := 0) dL_ofArea_5 lL_56 ⟨by decide, by decide⟩ (by repeat (first | assumption | exact am_ue | refine am_un (by first | assumption | decide | omega) ?_)) (Nat.le_of_ble_eq_true rfl) (Nat.le_of_ble_eq_true rfl) (s_ofArea0 hF) ?_
  rintro o n' f' ⟨e, rfl, he⟩
  subst e
  refine AX.catch [] (0, 10, 13, 31) [(0, 10, 17, 13)] rfl (by intro z hz; cases hz) (by decide) (by decide) cL_31 fc_2 dL_ofArea_13 (by decide) ?_
  refine am_iconst 15 (v := 1) dL_ofArea_15 (by decide) ?_
  refine am_ireturn 16 dL_ofArea_16 rfl rfl ?_
  exact ⟨rfl, rfl, he⟩
theorem s_Lmany_ok {w : Int32} (hF : m_Fr f p) (hg : f o9 = .inl (1, 1, .inr (.inl g))) (ho : o9 < p ∨ p + 45 < o9) (hv : m_oMany w = m_iv v) : AM mL_many 1 6 [.ref p, .int w, .ref o9] n f (l_ok p o9 n f g v.toInt64) := by
  have h0 := hF.1
  show AW mL_many 1 6 0 [some (.ref p), some (.int w), some (.ref o9), none] [] n f _
  refine am_aload_n 0 dL_many_0 rfl ?_
  refine am_iconst 1 (v := 0) dL_many_1 (by decide) ?_
  refine am_aload_n 2 dL_many_2 rfl ?_
  refine am_iload_n 3 dL_many_3 rfl ?_
  refine am_V1 4 (mc' := 1) (ms' := 6) (rc := 0) (rs := 0) dL_many_4 lL_59 ⟨by decide, by decide⟩ (by repeat (first | assumption | exact am_ue | refine am_un (by first | assumption | decide | omega) ?_)) (Nat.le_of_ble_eq_true rfl) (Nat.le_of_ble_eq_true rfl) (s_many0 hF) ?_
  rintro o n' f' ⟨e, rfl, he⟩
  rw [hv] at e
  subst e
  have hg2 := (he o9 ho).trans hg
  refine am_ct_in ?_
  refine am_i2l 7 dL_many_7 ?_
  refine am_lastore 8 dL_many_8 rfl hg2 (am_ix (c := 0) (by decide) (by decide)) ?_
  refine am_goto 9 (tgt := 15) dL_many_9 rfl ?_
  refine am_iconst 15 (v := 0) dL_many_15 (by decide) ?_
  refine am_ireturn 16 dL_many_16 rfl rfl ?_
  exact ⟨rfl, rfl, am_ue, fun y hy hne => (am_up_ne hne).trans (he y hy)⟩
theorem s_Lmany_bad0 {w : Int32} (hF : m_Fr f p) (hv : m_oMany w = .inr 0) : AM mL_many 1 6 [.ref p, .int w, .ref o9] n f (l_bad p n f 1) := by
  have h0 := hF.1
  show AW mL_many 1 6 0 [some (.ref p), some (.int w), some (.ref o9), none] [] n f _
  refine am_aload_n 0 dL_many_0 rfl ?_
  refine am_iconst 1 (v := 0) dL_many_1 (by decide) ?_
  refine am_aload_n 2 dL_many_2 rfl ?_
  refine am_iload_n 3 dL_many_3 rfl ?_
  refine am_V1 4 (mc' := 1) (ms' := 6) (rc := 0) (rs := 0) dL_many_4 lL_59 ⟨by decide, by decide⟩ (by repeat (first | assumption | exact am_ue | refine am_un (by first | assumption | decide | omega) ?_)) (Nat.le_of_ble_eq_true rfl) (Nat.le_of_ble_eq_true rfl) (s_many0 hF) ?_
  rintro o n' f' ⟨e, rfl, he⟩
  rw [hv] at e
  subst e
  refine AX.catch_n [] (0, 9, 12, 13) [] rfl (by intro z hz; cases hz) (by decide) (by decide) cL_13 fc_0 dL_many_12 (by decide) ?_
  refine am_iconst 13 (v := 1) dL_many_13 (by decide) ?_
  refine am_ireturn 14 dL_many_14 rfl rfl ?_
  exact ⟨rfl, rfl, he⟩
theorem s_Lguess_bad2 {x w b : Int32} (hF : m_Fr f p) : AM mL_guess 1 6 [.ref p, .int x, .int w, .int b, .ref o9] n f (l_bad p n f 1) := by
  have h0 := hF.1
  show AW mL_guess 1 6 0 [some (.ref p), some (.int x), some (.int w), some (.int b), some (.ref o9), none] [] n f _
  refine am_aload 0 dL_guess_0 rfl ?_
  refine am_iconst 2 (v := 0) dL_guess_2 (by decide) ?_
  refine am_aload_n 3 dL_guess_3 rfl ?_
  refine am_iload_n 4 dL_guess_4 rfl ?_
  refine am_iload_n 5 dL_guess_5 rfl ?_
  refine am_iload_n 6 dL_guess_6 rfl ?_
  refine am_V3 7 (mc' := 1) (ms' := 6) (rc := 0) (rs := 0) dL_guess_7 lL_62 ⟨by decide, by decide⟩ (by repeat (first | assumption | exact am_ue | refine am_un (by first | assumption | decide | omega) ?_)) (Nat.le_of_ble_eq_true rfl) (Nat.le_of_ble_eq_true rfl) (s_guess0 hF) ?_
  rintro o n' f' ⟨e, rfl, he⟩
  subst e
  refine AX.catch [] (0, 11, 14, 31) [(0, 11, 18, 13)] rfl (by intro z hz; cases hz) (by decide) (by decide) cL_31 fc_2 dL_guess_14 (by decide) ?_
  refine am_iconst 16 (v := 1) dL_guess_16 (by decide) ?_
  refine am_ireturn 17 dL_guess_17 rfl rfl ?_
  exact ⟨rfl, rfl, he⟩
theorem s_LwouldMatch_bad2 {x : Int32} (hF : m_Fr f p) : AM mL_wouldMatch 1 6 [.ref p, .int x, .ref o9] n f (l_bad p n f 1) := by
  have h0 := hF.1
  show AW mL_wouldMatch 1 6 0 [some (.ref p), some (.int x), some (.ref o9), none] [] n f _
  refine am_aload_n 0 dL_wouldMatch_0 rfl ?_
  refine am_iconst 1 (v := 0) dL_wouldMatch_1 (by decide) ?_
  refine am_aload_n 2 dL_wouldMatch_2 rfl ?_
  refine am_iload_n 3 dL_wouldMatch_3 rfl ?_
  refine am_V1 4 (mc' := 1) (ms' := 6) (rc := 0) (rs := 0) dL_wouldMatch_4 lL_66 ⟨by decide, by decide⟩ (by repeat (first | assumption | exact am_ue | refine am_un (by first | assumption | decide | omega) ?_)) (Nat.le_of_ble_eq_true rfl) (Nat.le_of_ble_eq_true rfl) (s_wouldMatch0 hF) ?_
  rintro o n' f' ⟨e, rfl, he⟩
  subst e
  refine AX.catch_n [] (0, 9, 12, 31) [] rfl (by intro z hz; cases hz) (by decide) (by decide) cL_31 fc_2 dL_wouldMatch_12 (by decide) ?_
  refine am_iconst 13 (v := 1) dL_wouldMatch_13 (by decide) ?_
  refine am_ireturn 14 dL_wouldMatch_14 rfl rfl ?_
  exact ⟨rfl, rfl, he⟩
theorem s_LkeepBy_bad2 {x w : Int32} (hF : m_Fr f p) : AM mL_keepBy 1 6 [.ref p, .int x, .int w, .ref o9] n f (l_bad p n f 1) := by
  have h0 := hF.1
  show AW mL_keepBy 1 6 0 [some (.ref p), some (.int x), some (.int w), some (.ref o9), none] [] n f _
  refine am_aload_n 0 dL_keepBy_0 rfl ?_
  refine am_iconst 1 (v := 0) dL_keepBy_1 (by decide) ?_
  refine am_aload_n 2 dL_keepBy_2 rfl ?_
  refine am_iload_n 3 dL_keepBy_3 rfl ?_
  refine am_iload_n 4 dL_keepBy_4 rfl ?_
  refine am_V2 5 (mc' := 1) (ms' := 6) (rc := 0) (rs := 0) dL_keepBy_5 lL_69 ⟨by decide, by decide⟩ (by repeat (first | assumption | exact am_ue | refine am_un (by first | assumption | decide | omega) ?_)) (Nat.le_of_ble_eq_true rfl) (Nat.le_of_ble_eq_true rfl) (s_keepBy0 hF) ?_
  rintro o n' f' ⟨e, rfl, he⟩
  subst e
  refine AX.catch [] (0, 10, 13, 31) [(0, 10, 17, 13)] rfl (by intro z hz; cases hz) (by decide) (by decide) cL_31 fc_2 dL_keepBy_13 (by decide) ?_
  refine am_iconst 15 (v := 1) dL_keepBy_15 (by decide) ?_
  refine am_ireturn 16 dL_keepBy_16 rfl rfl ?_
  exact ⟨rfl, rfl, he⟩
end Help
