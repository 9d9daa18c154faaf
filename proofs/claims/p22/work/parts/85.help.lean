/-! ===== the law's helpers, in any state ===== -/
section Help3
variable {p n o9 rc rs : Nat} {f : Nat → am_C} {g : Nat → Int64} {gd : Nat → UInt64} {fs : List Value} {Pc : am_P}
theorem s_Harea {l r t b : Int32} (h0 : f p = .inr (7, fs)) (hs : AM mX7_area rc rs [.ref p, .int l, .int r, .int t, .int b] n f Pc) (hq : ∀ o1 n1 f1, Pc o1 n1 f1 → n1 = n ∧ f1 o9 = .inl (1, 1, .inr (.inl g)) ∧ ((∃ v, o1 = .inl (some (.int v))) ∨ o1 = .inr 0 ∨ o1 = .inr 1)) : AM mL_area rc rs [.ref p, .int l, .int r, .int t, .int b, .ref o9] n f (fun o n' f' => n' = n ∧ ∃ o1 f1, Pc o1 n f1 ∧ ((∃ v, o1 = .inl (some (.int v)) ∧ o = .inl (some (.int 0)) ∧ f' = va_up f1 o9 (.inl (1, 1, .inr (.inl (va_up g 0 v.toInt64))))) ∨ (o1 = .inr 0 ∧ o = .inl (some (.int 1)) ∧ f' = f1) ∨ (o1 = .inr 1 ∧ o = .inl (some (.int 2)) ∧ f' = f1))) := by
  show AW mL_area rc rs 0 [some (.ref p), some (.int l), some (.int r), some (.int t), some (.int b), some (.ref o9), none] [] n f _
  refine am_aload 0 dL_area_0 rfl ?_
  refine am_iconst 2 (v := 0) dL_area_2 (by decide) ?_
  refine am_aload_n 3 dL_area_3 rfl ?_
  refine am_iload_n 4 dL_area_4 rfl ?_
  refine am_iload_n 5 dL_area_5 rfl ?_
  refine am_iload_n 6 dL_area_6 rfl ?_
  refine am_iload 7 dL_area_7 rfl ?_
  refine am_V4 9 (mc' := rc) (ms' := rs) (rc := 0) (rs := 0) dL_area_9 lL_7 ⟨by decide, by decide⟩ h0 (Nat.le_of_ble_eq_true rfl) (Nat.le_of_ble_eq_true rfl) (hs) ?_
  rintro o1 n1 f1 hP
  obtain ⟨rfl, hg2, hc⟩ := hq _ _ _ hP
  rcases hc with ⟨v, rfl⟩ | rfl | rfl
  · refine am_ctI ?_
    refine am_i2l 12 dL_area_12 ?_
    refine am_lastore 13 dL_area_13 rfl hg2 (am_ix (c := 0) (by decide) (by decide)) ?_
    refine am_goto 14 (tgt := 25) dL_area_14 rfl ?_
    refine am_iconst 25 (v := 0) dL_area_25 (by decide) ?_
    refine am_ireturn 26 dL_area_26 rfl rfl ?_
    exact ⟨rfl, _, _, hP, Or.inl ⟨v, rfl, rfl, rfl⟩⟩
  · refine AX.catch [] (0, 14, 17, 13) [(0, 14, 21, 15)] rfl (by intro z hz; cases hz) (by decide) (by decide) cL_13 fc_0 dL_area_17 (by decide) ?_
    refine am_iconst 19 (v := 1) dL_area_19 (by decide) ?_
    refine am_ireturn 20 dL_area_20 rfl rfl ?_
    exact ⟨rfl, _, _, hP, Or.inr (Or.inl ⟨rfl, rfl, rfl⟩)⟩
  · refine AX.catch [(0, 14, 17, 13)] (0, 14, 21, 15) [] rfl (by intro z hz; rw [List.mem_singleton] at hz; subst hz; exact Or.inr ⟨by decide, "java/lang/IllegalArgumentException", cL_13, by decide +kernel⟩) (by decide) (by decide) cL_15 fc_1 dL_area_21 (by decide) ?_
    refine am_iconst 23 (v := 2) dL_area_23 (by decide) ?_
    refine am_ireturn 24 dL_area_24 rfl rfl ?_
    exact ⟨rfl, _, _, hP, Or.inr (Or.inr ⟨rfl, rfl, rfl⟩)⟩
theorem s_Hdial {d : Int32} (h0 : f p = .inr (7, fs)) (hs : AM mX7_dial rc rs [.ref p, .int d] n f Pc) (hq : ∀ o1 n1 f1, Pc o1 n1 f1 → n1 = n ∧ f1 o9 = .inl (1, 1, .inr (.inl g)) ∧ ((∃ v, o1 = .inl (some (.int v))) ∨ o1 = .inr 0)) : AM mL_dial rc rs [.ref p, .int d, .ref o9] n f (fun o n' f' => n' = n ∧ ∃ o1 f1, Pc o1 n f1 ∧ ((∃ v, o1 = .inl (some (.int v)) ∧ o = .inl (some (.int 0)) ∧ f' = va_up f1 o9 (.inl (1, 1, .inr (.inl (va_up g 0 v.toInt64))))) ∨ (o1 = .inr 0 ∧ o = .inl (some (.int 1)) ∧ f' = f1))) := by
  show AW mL_dial rc rs 0 [some (.ref p), some (.int d), some (.ref o9), none] [] n f _
  refine am_aload_n 0 dL_dial_0 rfl ?_
  refine am_iconst 1 (v := 0) dL_dial_1 (by decide) ?_
  refine am_aload_n 2 dL_dial_2 rfl ?_
  refine am_iload_n 3 dL_dial_3 rfl ?_
  refine am_V1 4 (mc' := rc) (ms' := rs) (rc := 0) (rs := 0) dL_dial_4 lL_17 ⟨by decide, by decide⟩ h0 (Nat.le_of_ble_eq_true rfl) (Nat.le_of_ble_eq_true rfl) (hs) ?_
  rintro o1 n1 f1 hP
  obtain ⟨rfl, hg2, hc⟩ := hq _ _ _ hP
  rcases hc with ⟨v, rfl⟩ | rfl
  · refine am_ctI ?_
    refine am_i2l 7 dL_dial_7 ?_
    refine am_lastore 8 dL_dial_8 rfl hg2 (am_ix (c := 0) (by decide) (by decide)) ?_
    refine am_goto 9 (tgt := 15) dL_dial_9 rfl ?_
    refine am_iconst 15 (v := 0) dL_dial_15 (by decide) ?_
    refine am_ireturn 16 dL_dial_16 rfl rfl ?_
    exact ⟨rfl, _, _, hP, Or.inl ⟨v, rfl, rfl, rfl⟩⟩
  · refine AX.catch_n [] (0, 9, 12, 13) [] rfl (by intro z hz; cases hz) (by decide) (by decide) cL_13 fc_0 dL_dial_12 (by decide) ?_
    refine am_iconst 13 (v := 1) dL_dial_13 (by decide) ?_
    refine am_ireturn 14 dL_dial_14 rfl rfl ?_
    exact ⟨rfl, _, _, hP, Or.inr ⟨rfl, rfl, rfl⟩⟩
theorem s_Hlimit {d : Int32} (h0 : f p = .inr (7, fs)) (hs : AM mX7_limit rc rs [.ref p, .int d] n f Pc) (hq : ∀ o1 n1 f1, Pc o1 n1 f1 → n1 = n ∧ f1 o9 = .inl (1, 1, .inr (.inl g)) ∧ ((∃ v, o1 = .inl (some (.int v))) ∨ o1 = .inr 0)) : AM mL_limit rc rs [.ref p, .int d, .ref o9] n f (fun o n' f' => n' = n ∧ ∃ o1 f1, Pc o1 n f1 ∧ ((∃ v, o1 = .inl (some (.int v)) ∧ o = .inl (some (.int 0)) ∧ f' = va_up f1 o9 (.inl (1, 1, .inr (.inl (va_up g 0 v.toInt64))))) ∨ (o1 = .inr 0 ∧ o = .inl (some (.int 1)) ∧ f' = f1))) := by
  show AW mL_limit rc rs 0 [some (.ref p), some (.int d), some (.ref o9), none] [] n f _
  refine am_aload_n 0 dL_limit_0 rfl ?_
  refine am_iconst 1 (v := 0) dL_limit_1 (by decide) ?_
  refine am_aload_n 2 dL_limit_2 rfl ?_
  refine am_iload_n 3 dL_limit_3 rfl ?_
  refine am_V1 4 (mc' := rc) (ms' := rs) (rc := 0) (rs := 0) dL_limit_4 lL_21 ⟨by decide, by decide⟩ h0 (Nat.le_of_ble_eq_true rfl) (Nat.le_of_ble_eq_true rfl) (hs) ?_
  rintro o1 n1 f1 hP
  obtain ⟨rfl, hg2, hc⟩ := hq _ _ _ hP
  rcases hc with ⟨v, rfl⟩ | rfl
  · refine am_ctI ?_
    refine am_i2l 7 dL_limit_7 ?_
    refine am_lastore 8 dL_limit_8 rfl hg2 (am_ix (c := 0) (by decide) (by decide)) ?_
    refine am_goto 9 (tgt := 15) dL_limit_9 rfl ?_
    refine am_iconst 15 (v := 0) dL_limit_15 (by decide) ?_
    refine am_ireturn 16 dL_limit_16 rfl rfl ?_
    exact ⟨rfl, _, _, hP, Or.inl ⟨v, rfl, rfl, rfl⟩⟩
  · refine AX.catch_n [] (0, 9, 12, 13) [] rfl (by intro z hz; cases hz) (by decide) (by decide) cL_13 fc_0 dL_limit_12 (by decide) ?_
    refine am_iconst 13 (v := 1) dL_limit_13 (by decide) ?_
    refine am_ireturn 14 dL_limit_14 rfl rfl ?_
    exact ⟨rfl, _, _, hP, Or.inr ⟨rfl, rfl, rfl⟩⟩
theorem s_Hheat {d : Int32} (h0 : f p = .inr (7, fs)) (hs : AM mX7_heat rc rs [.ref p, .int d] n f Pc) (hq : ∀ o1 n1 f1, Pc o1 n1 f1 → n1 = n ∧ f1 o9 = .inl (1, 1, .inr (.inl g)) ∧ ((∃ v, o1 = .inl (some (.int v))) ∨ o1 = .inr 0)) : AM mL_heat rc rs [.ref p, .int d, .ref o9] n f (fun o n' f' => n' = n ∧ ∃ o1 f1, Pc o1 n f1 ∧ ((∃ v, o1 = .inl (some (.int v)) ∧ o = .inl (some (.int 0)) ∧ f' = va_up f1 o9 (.inl (1, 1, .inr (.inl (va_up g 0 v.toInt64))))) ∨ (o1 = .inr 0 ∧ o = .inl (some (.int 1)) ∧ f' = f1))) := by
  show AW mL_heat rc rs 0 [some (.ref p), some (.int d), some (.ref o9), none] [] n f _
  refine am_aload_n 0 dL_heat_0 rfl ?_
  refine am_iconst 1 (v := 0) dL_heat_1 (by decide) ?_
  refine am_aload_n 2 dL_heat_2 rfl ?_
  refine am_iload_n 3 dL_heat_3 rfl ?_
  refine am_V1 4 (mc' := rc) (ms' := rs) (rc := 0) (rs := 0) dL_heat_4 lL_24 ⟨by decide, by decide⟩ h0 (Nat.le_of_ble_eq_true rfl) (Nat.le_of_ble_eq_true rfl) (hs) ?_
  rintro o1 n1 f1 hP
  obtain ⟨rfl, hg2, hc⟩ := hq _ _ _ hP
  rcases hc with ⟨v, rfl⟩ | rfl
  · refine am_ctI ?_
    refine am_i2l 7 dL_heat_7 ?_
    refine am_lastore 8 dL_heat_8 rfl hg2 (am_ix (c := 0) (by decide) (by decide)) ?_
    refine am_goto 9 (tgt := 15) dL_heat_9 rfl ?_
    refine am_iconst 15 (v := 0) dL_heat_15 (by decide) ?_
    refine am_ireturn 16 dL_heat_16 rfl rfl ?_
    exact ⟨rfl, _, _, hP, Or.inl ⟨v, rfl, rfl, rfl⟩⟩
  · refine AX.catch_n [] (0, 9, 12, 13) [] rfl (by intro z hz; cases hz) (by decide) (by decide) cL_13 fc_0 dL_heat_12 (by decide) ?_
    refine am_iconst 13 (v := 1) dL_heat_13 (by decide) ?_
    refine am_ireturn 14 dL_heat_14 rfl rfl ?_
    exact ⟨rfl, _, _, hP, Or.inr ⟨rfl, rfl, rfl⟩⟩
theorem s_Hpress {x y s : Int32} (h0 : f p = .inr (7, fs)) (hs : AM mX7_press rc rs [.ref p, .int x, .int y, .int s] n f Pc) (hq : ∀ o1 n1 f1, Pc o1 n1 f1 → n1 = n ∧ f1 o9 = .inl (1, 1, .inr (.inl g)) ∧ ((∃ v, o1 = .inl (some (.int v))) ∨ o1 = .inr 2 ∨ o1 = .inr 0)) : AM mL_press rc rs [.ref p, .int x, .int y, .int s, .ref o9] n f (fun o n' f' => n' = n ∧ ∃ o1 f1, Pc o1 n f1 ∧ ((∃ v, o1 = .inl (some (.int v)) ∧ o = .inl (some (.int 0)) ∧ f' = va_up f1 o9 (.inl (1, 1, .inr (.inl (va_up g 0 v.toInt64))))) ∨ (o1 = .inr 2 ∧ o = .inl (some (.int 1)) ∧ f' = f1) ∨ (o1 = .inr 0 ∧ o = .inl (some (.int 2)) ∧ f' = f1))) := by
  show AW mL_press rc rs 0 [some (.ref p), some (.int x), some (.int y), some (.int s), some (.ref o9), none] [] n f _
  refine am_aload 0 dL_press_0 rfl ?_
  refine am_iconst 2 (v := 0) dL_press_2 (by decide) ?_
  refine am_aload_n 3 dL_press_3 rfl ?_
  refine am_iload_n 4 dL_press_4 rfl ?_
  refine am_iload_n 5 dL_press_5 rfl ?_
  refine am_iload_n 6 dL_press_6 rfl ?_
  refine am_V3 7 (mc' := rc) (ms' := rs) (rc := 0) (rs := 0) dL_press_7 lL_27 ⟨by decide, by decide⟩ h0 (Nat.le_of_ble_eq_true rfl) (Nat.le_of_ble_eq_true rfl) (hs) ?_
  rintro o1 n1 f1 hP
  obtain ⟨rfl, hg2, hc⟩ := hq _ _ _ hP
  rcases hc with ⟨v, rfl⟩ | rfl | rfl
  · refine am_ctI ?_
    refine am_i2l 10 dL_press_10 ?_
    refine am_lastore 11 dL_press_11 rfl hg2 (am_ix (c := 0) (by decide) (by decide)) ?_
    refine am_goto 12 (tgt := 23) dL_press_12 rfl ?_
    refine am_iconst 23 (v := 0) dL_press_23 (by decide) ?_
    refine am_ireturn 24 dL_press_24 rfl rfl ?_
    exact ⟨rfl, _, _, hP, Or.inl ⟨v, rfl, rfl, rfl⟩⟩
  · refine AX.catch [] (0, 12, 15, 31) [(0, 12, 19, 13)] rfl (by intro z hz; cases hz) (by decide) (by decide) cL_31 fc_2 dL_press_15 (by decide) ?_
    refine am_iconst 17 (v := 1) dL_press_17 (by decide) ?_
    refine am_ireturn 18 dL_press_18 rfl rfl ?_
    exact ⟨rfl, _, _, hP, Or.inr (Or.inl ⟨rfl, rfl, rfl⟩)⟩
  · refine AX.catch [(0, 12, 15, 31)] (0, 12, 19, 13) [] rfl (by intro z hz; rw [List.mem_singleton] at hz; subst hz; exact Or.inr ⟨by decide, "java/lang/IndexOutOfBoundsException", cL_31, by decide +kernel⟩) (by decide) (by decide) cL_13 fc_0 dL_press_19 (by decide) ?_
    refine am_iconst 21 (v := 2) dL_press_21 (by decide) ?_
    refine am_ireturn 22 dL_press_22 rfl rfl ?_
    exact ⟨rfl, _, _, hP, Or.inr (Or.inr ⟨rfl, rfl, rfl⟩)⟩
theorem s_Hnoise {y u : Int32} (h0 : f p = .inr (7, fs)) (hs : AM mX7_noise rc rs [.ref p, .int y, .int u] n f Pc) (hq : ∀ o1 n1 f1, Pc o1 n1 f1 → n1 = n ∧ f1 o9 = .inl (1, 1, .inr (.inl g)) ∧ ((∃ v, o1 = .inl (some (.int v))) ∨ o1 = .inr 2 ∨ o1 = .inr 0)) : AM mL_noise rc rs [.ref p, .int y, .int u, .ref o9] n f (fun o n' f' => n' = n ∧ ∃ o1 f1, Pc o1 n f1 ∧ ((∃ v, o1 = .inl (some (.int v)) ∧ o = .inl (some (.int 0)) ∧ f' = va_up f1 o9 (.inl (1, 1, .inr (.inl (va_up g 0 v.toInt64))))) ∨ (o1 = .inr 2 ∧ o = .inl (some (.int 1)) ∧ f' = f1) ∨ (o1 = .inr 0 ∧ o = .inl (some (.int 2)) ∧ f' = f1))) := by
  show AW mL_noise rc rs 0 [some (.ref p), some (.int y), some (.int u), some (.ref o9), none] [] n f _
  refine am_aload_n 0 dL_noise_0 rfl ?_
  refine am_iconst 1 (v := 0) dL_noise_1 (by decide) ?_
  refine am_aload_n 2 dL_noise_2 rfl ?_
  refine am_iload_n 3 dL_noise_3 rfl ?_
  refine am_iload_n 4 dL_noise_4 rfl ?_
  refine am_V2 5 (mc' := rc) (ms' := rs) (rc := 0) (rs := 0) dL_noise_5 lL_33 ⟨by decide, by decide⟩ h0 (Nat.le_of_ble_eq_true rfl) (Nat.le_of_ble_eq_true rfl) (hs) ?_
  rintro o1 n1 f1 hP
  obtain ⟨rfl, hg2, hc⟩ := hq _ _ _ hP
  rcases hc with ⟨v, rfl⟩ | rfl | rfl
  · refine am_ctI ?_
    refine am_i2l 8 dL_noise_8 ?_
    refine am_lastore 9 dL_noise_9 rfl hg2 (am_ix (c := 0) (by decide) (by decide)) ?_
    refine am_goto 10 (tgt := 21) dL_noise_10 rfl ?_
    refine am_iconst 21 (v := 0) dL_noise_21 (by decide) ?_
    refine am_ireturn 22 dL_noise_22 rfl rfl ?_
    exact ⟨rfl, _, _, hP, Or.inl ⟨v, rfl, rfl, rfl⟩⟩
  · refine AX.catch [] (0, 10, 13, 31) [(0, 10, 17, 13)] rfl (by intro z hz; cases hz) (by decide) (by decide) cL_31 fc_2 dL_noise_13 (by decide) ?_
    refine am_iconst 15 (v := 1) dL_noise_15 (by decide) ?_
    refine am_ireturn 16 dL_noise_16 rfl rfl ?_
    exact ⟨rfl, _, _, hP, Or.inr (Or.inl ⟨rfl, rfl, rfl⟩)⟩
  · refine AX.catch [(0, 10, 13, 31)] (0, 10, 17, 13) [] rfl (by intro z hz; rw [List.mem_singleton] at hz; subst hz; exact Or.inr ⟨by decide, "java/lang/IndexOutOfBoundsException", cL_31, by decide +kernel⟩) (by decide) (by decide) cL_13 fc_0 dL_noise_17 (by decide) ?_
    refine am_iconst 19 (v := 2) dL_noise_19 (by decide) ?_
    refine am_ireturn 20 dL_noise_20 rfl rfl ?_
    exact ⟨rfl, _, _, hP, Or.inr (Or.inr ⟨rfl, rfl, rfl⟩)⟩
theorem s_HofCell {x y w : Int32} (h0 : f p = .inr (7, fs)) (hs : AM mX7_ofCell rc rs [.ref p, .int x, .int y, .int w] n f Pc) (hq : ∀ o1 n1 f1, Pc o1 n1 f1 → n1 = n ∧ f1 o9 = .inl (1, 1, .inr (.inl g)) ∧ ((∃ v, o1 = .inl (some (.int v))) ∨ o1 = .inr 2 ∨ o1 = .inr 0)) : AM mL_ofCell rc rs [.ref p, .int x, .int y, .int w, .ref o9] n f (fun o n' f' => n' = n ∧ ∃ o1 f1, Pc o1 n f1 ∧ ((∃ v, o1 = .inl (some (.int v)) ∧ o = .inl (some (.int 0)) ∧ f' = va_up f1 o9 (.inl (1, 1, .inr (.inl (va_up g 0 v.toInt64))))) ∨ (o1 = .inr 2 ∧ o = .inl (some (.int 1)) ∧ f' = f1) ∨ (o1 = .inr 0 ∧ o = .inl (some (.int 2)) ∧ f' = f1))) := by
  show AW mL_ofCell rc rs 0 [some (.ref p), some (.int x), some (.int y), some (.int w), some (.ref o9), none] [] n f _
  refine am_aload 0 dL_ofCell_0 rfl ?_
  refine am_iconst 2 (v := 0) dL_ofCell_2 (by decide) ?_
  refine am_aload_n 3 dL_ofCell_3 rfl ?_
  refine am_iload_n 4 dL_ofCell_4 rfl ?_
  refine am_iload_n 5 dL_ofCell_5 rfl ?_
  refine am_iload_n 6 dL_ofCell_6 rfl ?_
  refine am_V3 7 (mc' := rc) (ms' := rs) (rc := 0) (rs := 0) dL_ofCell_7 lL_37 ⟨by decide, by decide⟩ h0 (Nat.le_of_ble_eq_true rfl) (Nat.le_of_ble_eq_true rfl) (hs) ?_
  rintro o1 n1 f1 hP
  obtain ⟨rfl, hg2, hc⟩ := hq _ _ _ hP
  rcases hc with ⟨v, rfl⟩ | rfl | rfl
  · refine am_ctI ?_
    refine am_i2l 10 dL_ofCell_10 ?_
    refine am_lastore 11 dL_ofCell_11 rfl hg2 (am_ix (c := 0) (by decide) (by decide)) ?_
    refine am_goto 12 (tgt := 23) dL_ofCell_12 rfl ?_
    refine am_iconst 23 (v := 0) dL_ofCell_23 (by decide) ?_
    refine am_ireturn 24 dL_ofCell_24 rfl rfl ?_
    exact ⟨rfl, _, _, hP, Or.inl ⟨v, rfl, rfl, rfl⟩⟩
  · refine AX.catch [] (0, 12, 15, 31) [(0, 12, 19, 13)] rfl (by intro z hz; cases hz) (by decide) (by decide) cL_31 fc_2 dL_ofCell_15 (by decide) ?_
    refine am_iconst 17 (v := 1) dL_ofCell_17 (by decide) ?_
    refine am_ireturn 18 dL_ofCell_18 rfl rfl ?_
    exact ⟨rfl, _, _, hP, Or.inr (Or.inl ⟨rfl, rfl, rfl⟩)⟩
  · refine AX.catch [(0, 12, 15, 31)] (0, 12, 19, 13) [] rfl (by intro z hz; rw [List.mem_singleton] at hz; subst hz; exact Or.inr ⟨by decide, "java/lang/IndexOutOfBoundsException", cL_31, by decide +kernel⟩) (by decide) (by decide) cL_13 fc_0 dL_ofCell_19 (by decide) ?_
    refine am_iconst 21 (v := 2) dL_ofCell_21 (by decide) ?_
    refine am_ireturn 22 dL_ofCell_22 rfl rfl ?_
    exact ⟨rfl, _, _, hP, Or.inr (Or.inr ⟨rfl, rfl, rfl⟩)⟩
theorem s_HofPeak {x w : Int32} (h0 : f p = .inr (7, fs)) (hs : AM mX7_ofPeak rc rs [.ref p, .int x, .int w] n f Pc) (hq : ∀ o1 n1 f1, Pc o1 n1 f1 → n1 = n ∧ f1 o9 = .inl (1, 1, .inr (.inl g)) ∧ ((∃ v, o1 = .inl (some (.int v))) ∨ o1 = .inr 2 ∨ o1 = .inr 0)) : AM mL_ofPeak rc rs [.ref p, .int x, .int w, .ref o9] n f (fun o n' f' => n' = n ∧ ∃ o1 f1, Pc o1 n f1 ∧ ((∃ v, o1 = .inl (some (.int v)) ∧ o = .inl (some (.int 0)) ∧ f' = va_up f1 o9 (.inl (1, 1, .inr (.inl (va_up g 0 v.toInt64))))) ∨ (o1 = .inr 2 ∧ o = .inl (some (.int 1)) ∧ f' = f1) ∨ (o1 = .inr 0 ∧ o = .inl (some (.int 2)) ∧ f' = f1))) := by
  show AW mL_ofPeak rc rs 0 [some (.ref p), some (.int x), some (.int w), some (.ref o9), none] [] n f _
  refine am_aload_n 0 dL_ofPeak_0 rfl ?_
  refine am_iconst 1 (v := 0) dL_ofPeak_1 (by decide) ?_
  refine am_aload_n 2 dL_ofPeak_2 rfl ?_
  refine am_iload_n 3 dL_ofPeak_3 rfl ?_
  refine am_iload_n 4 dL_ofPeak_4 rfl ?_
  refine am_V2 5 (mc' := rc) (ms' := rs) (rc := 0) (rs := 0) dL_ofPeak_5 lL_40 ⟨by decide, by decide⟩ h0 (Nat.le_of_ble_eq_true rfl) (Nat.le_of_ble_eq_true rfl) (hs) ?_
  rintro o1 n1 f1 hP
  obtain ⟨rfl, hg2, hc⟩ := hq _ _ _ hP
  rcases hc with ⟨v, rfl⟩ | rfl | rfl
  · refine am_ctI ?_
    refine am_i2l 8 dL_ofPeak_8 ?_
    refine am_lastore 9 dL_ofPeak_9 rfl hg2 (am_ix (c := 0) (by decide) (by decide)) ?_
    refine am_goto 10 (tgt := 21) dL_ofPeak_10 rfl ?_
    refine am_iconst 21 (v := 0) dL_ofPeak_21 (by decide) ?_
    refine am_ireturn 22 dL_ofPeak_22 rfl rfl ?_
    exact ⟨rfl, _, _, hP, Or.inl ⟨v, rfl, rfl, rfl⟩⟩
  · refine AX.catch [] (0, 10, 13, 31) [(0, 10, 17, 13)] rfl (by intro z hz; cases hz) (by decide) (by decide) cL_31 fc_2 dL_ofPeak_13 (by decide) ?_
    refine am_iconst 15 (v := 1) dL_ofPeak_15 (by decide) ?_
    refine am_ireturn 16 dL_ofPeak_16 rfl rfl ?_
    exact ⟨rfl, _, _, hP, Or.inr (Or.inl ⟨rfl, rfl, rfl⟩)⟩
  · refine AX.catch [(0, 10, 13, 31)] (0, 10, 17, 13) [] rfl (by intro z hz; rw [List.mem_singleton] at hz; subst hz; exact Or.inr ⟨by decide, "java/lang/IndexOutOfBoundsException", cL_31, by decide +kernel⟩) (by decide) (by decide) cL_13 fc_0 dL_ofPeak_17 (by decide) ?_
    refine am_iconst 19 (v := 2) dL_ofPeak_19 (by decide) ?_
    refine am_ireturn 20 dL_ofPeak_20 rfl rfl ?_
    exact ⟨rfl, _, _, hP, Or.inr (Or.inr ⟨rfl, rfl, rfl⟩)⟩
theorem s_HofContact {x w : Int32} (h0 : f p = .inr (7, fs)) (hs : AM mX7_ofContact rc rs [.ref p, .int x, .int w] n f Pc) (hq : ∀ o1 n1 f1, Pc o1 n1 f1 → n1 = n ∧ f1 o9 = .inl (1, 1, .inr (.inl g)) ∧ ((∃ v, o1 = .inl (some (.int v))) ∨ o1 = .inr 2 ∨ o1 = .inr 0)) : AM mL_ofContact rc rs [.ref p, .int x, .int w, .ref o9] n f (fun o n' f' => n' = n ∧ ∃ o1 f1, Pc o1 n f1 ∧ ((∃ v, o1 = .inl (some (.int v)) ∧ o = .inl (some (.int 0)) ∧ f' = va_up f1 o9 (.inl (1, 1, .inr (.inl (va_up g 0 v.toInt64))))) ∨ (o1 = .inr 2 ∧ o = .inl (some (.int 1)) ∧ f' = f1) ∨ (o1 = .inr 0 ∧ o = .inl (some (.int 2)) ∧ f' = f1))) := by
  show AW mL_ofContact rc rs 0 [some (.ref p), some (.int x), some (.int w), some (.ref o9), none] [] n f _
  refine am_aload_n 0 dL_ofContact_0 rfl ?_
  refine am_iconst 1 (v := 0) dL_ofContact_1 (by decide) ?_
  refine am_aload_n 2 dL_ofContact_2 rfl ?_
  refine am_iload_n 3 dL_ofContact_3 rfl ?_
  refine am_iload_n 4 dL_ofContact_4 rfl ?_
  refine am_V2 5 (mc' := rc) (ms' := rs) (rc := 0) (rs := 0) dL_ofContact_5 lL_43 ⟨by decide, by decide⟩ h0 (Nat.le_of_ble_eq_true rfl) (Nat.le_of_ble_eq_true rfl) (hs) ?_
  rintro o1 n1 f1 hP
  obtain ⟨rfl, hg2, hc⟩ := hq _ _ _ hP
  rcases hc with ⟨v, rfl⟩ | rfl | rfl
  · refine am_ctI ?_
    refine am_i2l 8 dL_ofContact_8 ?_
    refine am_lastore 9 dL_ofContact_9 rfl hg2 (am_ix (c := 0) (by decide) (by decide)) ?_
    refine am_goto 10 (tgt := 21) dL_ofContact_10 rfl ?_
    refine am_iconst 21 (v := 0) dL_ofContact_21 (by decide) ?_
    refine am_ireturn 22 dL_ofContact_22 rfl rfl ?_
    exact ⟨rfl, _, _, hP, Or.inl ⟨v, rfl, rfl, rfl⟩⟩
  · refine AX.catch [] (0, 10, 13, 31) [(0, 10, 17, 13)] rfl (by intro z hz; cases hz) (by decide) (by decide) cL_31 fc_2 dL_ofContact_13 (by decide) ?_
    refine am_iconst 15 (v := 1) dL_ofContact_15 (by decide) ?_
    refine am_ireturn 16 dL_ofContact_16 rfl rfl ?_
    exact ⟨rfl, _, _, hP, Or.inr (Or.inl ⟨rfl, rfl, rfl⟩)⟩
  · refine AX.catch [(0, 10, 13, 31)] (0, 10, 17, 13) [] rfl (by intro z hz; rw [List.mem_singleton] at hz; subst hz; exact Or.inr ⟨by decide, "java/lang/IndexOutOfBoundsException", cL_31, by decide +kernel⟩) (by decide) (by decide) cL_13 fc_0 dL_ofContact_17 (by decide) ?_
    refine am_iconst 19 (v := 2) dL_ofContact_19 (by decide) ?_
    refine am_ireturn 20 dL_ofContact_20 rfl rfl ?_
    exact ⟨rfl, _, _, hP, Or.inr (Or.inr ⟨rfl, rfl, rfl⟩)⟩
theorem s_Hwhere {x w : Int32} (h0 : f p = .inr (7, fs)) (hs : AM mX7_where rc rs [.ref p, .int x, .int w] n f Pc) (hq : ∀ o1 n1 f1, Pc o1 n1 f1 → n1 = n ∧ f1 o9 = .inl (6, 1, .inr (.inr (.inr (.inl gd)))) ∧ ((∃ v, o1 = .inl (some (.double v))) ∨ o1 = .inr 2 ∨ o1 = .inr 0)) : AM mL_where rc rs [.ref p, .int x, .int w, .ref o9] n f (fun o n' f' => n' = n ∧ ∃ o1 f1, Pc o1 n f1 ∧ ((∃ v, o1 = .inl (some (.double v)) ∧ o = .inl (some (.int 0)) ∧ f' = va_up f1 o9 (.inl (6, 1, .inr (.inr (.inr (.inl (va_up gd 0 v))))))) ∨ (o1 = .inr 2 ∧ o = .inl (some (.int 1)) ∧ f' = f1) ∨ (o1 = .inr 0 ∧ o = .inl (some (.int 2)) ∧ f' = f1))) := by
  show AW mL_where rc rs 0 [some (.ref p), some (.int x), some (.int w), some (.ref o9), none] [] n f _
  refine am_aload_n 0 dL_where_0 rfl ?_
  refine am_iconst 1 (v := 0) dL_where_1 (by decide) ?_
  refine am_aload_n 2 dL_where_2 rfl ?_
  refine am_iload_n 3 dL_where_3 rfl ?_
  refine am_iload_n 4 dL_where_4 rfl ?_
  refine am_V2 5 (mc' := rc) (ms' := rs) (rc := 0) (rs := 0) dL_where_5 lL_46 ⟨by decide, by decide⟩ h0 (Nat.le_of_ble_eq_true rfl) (Nat.le_of_ble_eq_true rfl) (hs) ?_
  rintro o1 n1 f1 hP
  obtain ⟨rfl, hg2, hc⟩ := hq _ _ _ hP
  rcases hc with ⟨v, rfl⟩ | rfl | rfl
  · refine am_ctI ?_
    refine am_dastore 8 dL_where_8 rfl hg2 (am_ix (c := 0) (by decide) (by decide)) ?_
    refine am_goto 9 (tgt := 20) dL_where_9 rfl ?_
    refine am_iconst 20 (v := 0) dL_where_20 (by decide) ?_
    refine am_ireturn 21 dL_where_21 rfl rfl ?_
    exact ⟨rfl, _, _, hP, Or.inl ⟨v, rfl, rfl, rfl⟩⟩
  · refine AX.catch [] (0, 9, 12, 31) [(0, 9, 16, 13)] rfl (by intro z hz; cases hz) (by decide) (by decide) cL_31 fc_2 dL_where_12 (by decide) ?_
    refine am_iconst 14 (v := 1) dL_where_14 (by decide) ?_
    refine am_ireturn 15 dL_where_15 rfl rfl ?_
    exact ⟨rfl, _, _, hP, Or.inr (Or.inl ⟨rfl, rfl, rfl⟩)⟩
  · refine AX.catch [(0, 9, 12, 31)] (0, 9, 16, 13) [] rfl (by intro z hz; rw [List.mem_singleton] at hz; subst hz; exact Or.inr ⟨by decide, "java/lang/IndexOutOfBoundsException", cL_31, by decide +kernel⟩) (by decide) (by decide) cL_13 fc_0 dL_where_16 (by decide) ?_
    refine am_iconst 18 (v := 2) dL_where_18 (by decide) ?_
    refine am_ireturn 19 dL_where_19 rfl rfl ?_
    exact ⟨rfl, _, _, hP, Or.inr (Or.inr ⟨rfl, rfl, rfl⟩)⟩
theorem s_Hapart {x w : Int32} (h0 : f p = .inr (7, fs)) (hs : AM mX7_apart rc rs [.ref p, .int x, .int w] n f Pc) (hq : ∀ o1 n1 f1, Pc o1 n1 f1 → n1 = n ∧ f1 o9 = .inl (6, 1, .inr (.inr (.inr (.inl gd)))) ∧ ((∃ v, o1 = .inl (some (.double v))) ∨ o1 = .inr 2)) : AM mL_apart rc rs [.ref p, .int x, .int w, .ref o9] n f (fun o n' f' => n' = n ∧ ∃ o1 f1, Pc o1 n f1 ∧ ((∃ v, o1 = .inl (some (.double v)) ∧ o = .inl (some (.int 0)) ∧ f' = va_up f1 o9 (.inl (6, 1, .inr (.inr (.inr (.inl (va_up gd 0 v))))))) ∨ (o1 = .inr 2 ∧ o = .inl (some (.int 1)) ∧ f' = f1))) := by
  show AW mL_apart rc rs 0 [some (.ref p), some (.int x), some (.int w), some (.ref o9), none] [] n f _
  refine am_aload_n 0 dL_apart_0 rfl ?_
  refine am_iconst 1 (v := 0) dL_apart_1 (by decide) ?_
  refine am_aload_n 2 dL_apart_2 rfl ?_
  refine am_iload_n 3 dL_apart_3 rfl ?_
  refine am_iload_n 4 dL_apart_4 rfl ?_
  refine am_V2 5 (mc' := rc) (ms' := rs) (rc := 0) (rs := 0) dL_apart_5 lL_50 ⟨by decide, by decide⟩ h0 (Nat.le_of_ble_eq_true rfl) (Nat.le_of_ble_eq_true rfl) (hs) ?_
  rintro o1 n1 f1 hP
  obtain ⟨rfl, hg2, hc⟩ := hq _ _ _ hP
  rcases hc with ⟨v, rfl⟩ | rfl
  · refine am_ctI ?_
    refine am_dastore 8 dL_apart_8 rfl hg2 (am_ix (c := 0) (by decide) (by decide)) ?_
    refine am_goto 9 (tgt := 16) dL_apart_9 rfl ?_
    refine am_iconst 16 (v := 0) dL_apart_16 (by decide) ?_
    refine am_ireturn 17 dL_apart_17 rfl rfl ?_
    exact ⟨rfl, _, _, hP, Or.inl ⟨v, rfl, rfl, rfl⟩⟩
  · refine AX.catch [] (0, 9, 12, 31) [] rfl (by intro z hz; cases hz) (by decide) (by decide) cL_31 fc_2 dL_apart_12 (by decide) ?_
    refine am_iconst 14 (v := 1) dL_apart_14 (by decide) ?_
    refine am_ireturn 15 dL_apart_15 rfl rfl ?_
    exact ⟨rfl, _, _, hP, Or.inr ⟨rfl, rfl, rfl⟩⟩
theorem s_HofRow {y w : Int32} (h0 : f p = .inr (7, fs)) (hs : AM mX7_ofRow rc rs [.ref p, .int y, .int w] n f Pc) (hq : ∀ o1 n1 f1, Pc o1 n1 f1 → n1 = n ∧ f1 o9 = .inl (1, 1, .inr (.inl g)) ∧ ((∃ v, o1 = .inl (some (.int v))) ∨ o1 = .inr 2 ∨ o1 = .inr 0)) : AM mL_ofRow rc rs [.ref p, .int y, .int w, .ref o9] n f (fun o n' f' => n' = n ∧ ∃ o1 f1, Pc o1 n f1 ∧ ((∃ v, o1 = .inl (some (.int v)) ∧ o = .inl (some (.int 0)) ∧ f' = va_up f1 o9 (.inl (1, 1, .inr (.inl (va_up g 0 v.toInt64))))) ∨ (o1 = .inr 2 ∧ o = .inl (some (.int 1)) ∧ f' = f1) ∨ (o1 = .inr 0 ∧ o = .inl (some (.int 2)) ∧ f' = f1))) := by
  show AW mL_ofRow rc rs 0 [some (.ref p), some (.int y), some (.int w), some (.ref o9), none] [] n f _
  refine am_aload_n 0 dL_ofRow_0 rfl ?_
  refine am_iconst 1 (v := 0) dL_ofRow_1 (by decide) ?_
  refine am_aload_n 2 dL_ofRow_2 rfl ?_
  refine am_iload_n 3 dL_ofRow_3 rfl ?_
  refine am_iload_n 4 dL_ofRow_4 rfl ?_
  refine am_V2 5 (mc' := rc) (ms' := rs) (rc := 0) (rs := 0) dL_ofRow_5 lL_53 ⟨by decide, by decide⟩ h0 (Nat.le_of_ble_eq_true rfl) (Nat.le_of_ble_eq_true rfl) (hs) ?_
  rintro o1 n1 f1 hP
  obtain ⟨rfl, hg2, hc⟩ := hq _ _ _ hP
  rcases hc with ⟨v, rfl⟩ | rfl | rfl
  · refine am_ctI ?_
    refine am_i2l 8 dL_ofRow_8 ?_
    refine am_lastore 9 dL_ofRow_9 rfl hg2 (am_ix (c := 0) (by decide) (by decide)) ?_
    refine am_goto 10 (tgt := 21) dL_ofRow_10 rfl ?_
    refine am_iconst 21 (v := 0) dL_ofRow_21 (by decide) ?_
    refine am_ireturn 22 dL_ofRow_22 rfl rfl ?_
    exact ⟨rfl, _, _, hP, Or.inl ⟨v, rfl, rfl, rfl⟩⟩
  · refine AX.catch [] (0, 10, 13, 31) [(0, 10, 17, 13)] rfl (by intro z hz; cases hz) (by decide) (by decide) cL_31 fc_2 dL_ofRow_13 (by decide) ?_
    refine am_iconst 15 (v := 1) dL_ofRow_15 (by decide) ?_
    refine am_ireturn 16 dL_ofRow_16 rfl rfl ?_
    exact ⟨rfl, _, _, hP, Or.inr (Or.inl ⟨rfl, rfl, rfl⟩)⟩
  · refine AX.catch [(0, 10, 13, 31)] (0, 10, 17, 13) [] rfl (by intro z hz; rw [List.mem_singleton] at hz; subst hz; exact Or.inr ⟨by decide, "java/lang/IndexOutOfBoundsException", cL_31, by decide +kernel⟩) (by decide) (by decide) cL_13 fc_0 dL_ofRow_17 (by decide) ?_
    refine am_iconst 19 (v := 2) dL_ofRow_19 (by decide) ?_
    refine am_ireturn 20 dL_ofRow_20 rfl rfl ?_
    exact ⟨rfl, _, _, hP, Or.inr (Or.inr ⟨rfl, rfl, rfl⟩)⟩
theorem s_HofArea {x w : Int32} (h0 : f p = .inr (7, fs)) (hs : AM mX7_ofArea rc rs [.ref p, .int x, .int w] n f Pc) (hq : ∀ o1 n1 f1, Pc o1 n1 f1 → n1 = n ∧ f1 o9 = .inl (1, 1, .inr (.inl g)) ∧ ((∃ v, o1 = .inl (some (.int v))) ∨ o1 = .inr 2 ∨ o1 = .inr 0)) : AM mL_ofArea rc rs [.ref p, .int x, .int w, .ref o9] n f (fun o n' f' => n' = n ∧ ∃ o1 f1, Pc o1 n f1 ∧ ((∃ v, o1 = .inl (some (.int v)) ∧ o = .inl (some (.int 0)) ∧ f' = va_up f1 o9 (.inl (1, 1, .inr (.inl (va_up g 0 v.toInt64))))) ∨ (o1 = .inr 2 ∧ o = .inl (some (.int 1)) ∧ f' = f1) ∨ (o1 = .inr 0 ∧ o = .inl (some (.int 2)) ∧ f' = f1))) := by
  show AW mL_ofArea rc rs 0 [some (.ref p), some (.int x), some (.int w), some (.ref o9), none] [] n f _
  refine am_aload_n 0 dL_ofArea_0 rfl ?_
  refine am_iconst 1 (v := 0) dL_ofArea_1 (by decide) ?_
  refine am_aload_n 2 dL_ofArea_2 rfl ?_
  refine am_iload_n 3 dL_ofArea_3 rfl ?_
  refine am_iload_n 4 dL_ofArea_4 rfl ?_
  refine am_V2 5 (mc' := rc) (ms' := rs) (rc := 0) (rs := 0) dL_ofArea_5 lL_56 ⟨by decide, by decide⟩ h0 (Nat.le_of_ble_eq_true rfl) (Nat.le_of_ble_eq_true rfl) (hs) ?_
  rintro o1 n1 f1 hP
  obtain ⟨rfl, hg2, hc⟩ := hq _ _ _ hP
  rcases hc with ⟨v, rfl⟩ | rfl | rfl
  · refine am_ctI ?_
    refine am_i2l 8 dL_ofArea_8 ?_
    refine am_lastore 9 dL_ofArea_9 rfl hg2 (am_ix (c := 0) (by decide) (by decide)) ?_
    refine am_goto 10 (tgt := 21) dL_ofArea_10 rfl ?_
    refine am_iconst 21 (v := 0) dL_ofArea_21 (by decide) ?_
    refine am_ireturn 22 dL_ofArea_22 rfl rfl ?_
    exact ⟨rfl, _, _, hP, Or.inl ⟨v, rfl, rfl, rfl⟩⟩
  · refine AX.catch [] (0, 10, 13, 31) [(0, 10, 17, 13)] rfl (by intro z hz; cases hz) (by decide) (by decide) cL_31 fc_2 dL_ofArea_13 (by decide) ?_
    refine am_iconst 15 (v := 1) dL_ofArea_15 (by decide) ?_
    refine am_ireturn 16 dL_ofArea_16 rfl rfl ?_
    exact ⟨rfl, _, _, hP, Or.inr (Or.inl ⟨rfl, rfl, rfl⟩)⟩
  · refine AX.catch [(0, 10, 13, 31)] (0, 10, 17, 13) [] rfl (by intro z hz; rw [List.mem_singleton] at hz; subst hz; exact Or.inr ⟨by decide, "java/lang/IndexOutOfBoundsException", cL_31, by decide +kernel⟩) (by decide) (by decide) cL_13 fc_0 dL_ofArea_17 (by decide) ?_
    refine am_iconst 19 (v := 2) dL_ofArea_19 (by decide) ?_
    refine am_ireturn 20 dL_ofArea_20 rfl rfl ?_
    exact ⟨rfl, _, _, hP, Or.inr (Or.inr ⟨rfl, rfl, rfl⟩)⟩
theorem s_Hmany {w : Int32} (h0 : f p = .inr (7, fs)) (hs : AM mX7_many rc rs [.ref p, .int w] n f Pc) (hq : ∀ o1 n1 f1, Pc o1 n1 f1 → n1 = n ∧ f1 o9 = .inl (1, 1, .inr (.inl g)) ∧ ((∃ v, o1 = .inl (some (.int v))) ∨ o1 = .inr 0)) : AM mL_many rc rs [.ref p, .int w, .ref o9] n f (fun o n' f' => n' = n ∧ ∃ o1 f1, Pc o1 n f1 ∧ ((∃ v, o1 = .inl (some (.int v)) ∧ o = .inl (some (.int 0)) ∧ f' = va_up f1 o9 (.inl (1, 1, .inr (.inl (va_up g 0 v.toInt64))))) ∨ (o1 = .inr 0 ∧ o = .inl (some (.int 1)) ∧ f' = f1))) := by
  show AW mL_many rc rs 0 [some (.ref p), some (.int w), some (.ref o9), none] [] n f _
  refine am_aload_n 0 dL_many_0 rfl ?_
  refine am_iconst 1 (v := 0) dL_many_1 (by decide) ?_
  refine am_aload_n 2 dL_many_2 rfl ?_
  refine am_iload_n 3 dL_many_3 rfl ?_
  refine am_V1 4 (mc' := rc) (ms' := rs) (rc := 0) (rs := 0) dL_many_4 lL_59 ⟨by decide, by decide⟩ h0 (Nat.le_of_ble_eq_true rfl) (Nat.le_of_ble_eq_true rfl) (hs) ?_
  rintro o1 n1 f1 hP
  obtain ⟨rfl, hg2, hc⟩ := hq _ _ _ hP
  rcases hc with ⟨v, rfl⟩ | rfl
  · refine am_ctI ?_
    refine am_i2l 7 dL_many_7 ?_
    refine am_lastore 8 dL_many_8 rfl hg2 (am_ix (c := 0) (by decide) (by decide)) ?_
    refine am_goto 9 (tgt := 15) dL_many_9 rfl ?_
    refine am_iconst 15 (v := 0) dL_many_15 (by decide) ?_
    refine am_ireturn 16 dL_many_16 rfl rfl ?_
    exact ⟨rfl, _, _, hP, Or.inl ⟨v, rfl, rfl, rfl⟩⟩
  · refine AX.catch_n [] (0, 9, 12, 13) [] rfl (by intro z hz; cases hz) (by decide) (by decide) cL_13 fc_0 dL_many_12 (by decide) ?_
    refine am_iconst 13 (v := 1) dL_many_13 (by decide) ?_
    refine am_ireturn 14 dL_many_14 rfl rfl ?_
    exact ⟨rfl, _, _, hP, Or.inr ⟨rfl, rfl, rfl⟩⟩
theorem s_Hguess {x w b : Int32} (h0 : f p = .inr (7, fs)) (hs : AM mX7_guess rc rs [.ref p, .int x, .int w, .int b] n f Pc) (hq : ∀ o1 n1 f1, Pc o1 n1 f1 → n1 = n ∧ f1 o9 = .inl (6, 1, .inr (.inr (.inr (.inl gd)))) ∧ ((∃ v, o1 = .inl (some (.double v))) ∨ o1 = .inr 2 ∨ o1 = .inr 0)) : AM mL_guess rc rs [.ref p, .int x, .int w, .int b, .ref o9] n f (fun o n' f' => n' = n ∧ ∃ o1 f1, Pc o1 n f1 ∧ ((∃ v, o1 = .inl (some (.double v)) ∧ o = .inl (some (.int 0)) ∧ f' = va_up f1 o9 (.inl (6, 1, .inr (.inr (.inr (.inl (va_up gd 0 v))))))) ∨ (o1 = .inr 2 ∧ o = .inl (some (.int 1)) ∧ f' = f1) ∨ (o1 = .inr 0 ∧ o = .inl (some (.int 2)) ∧ f' = f1))) := by
  show AW mL_guess rc rs 0 [some (.ref p), some (.int x), some (.int w), some (.int b), some (.ref o9), none] [] n f _
  refine am_aload 0 dL_guess_0 rfl ?_
  refine am_iconst 2 (v := 0) dL_guess_2 (by decide) ?_
  refine am_aload_n 3 dL_guess_3 rfl ?_
  refine am_iload_n 4 dL_guess_4 rfl ?_
  refine am_iload_n 5 dL_guess_5 rfl ?_
  refine am_iload_n 6 dL_guess_6 rfl ?_
  refine am_V3 7 (mc' := rc) (ms' := rs) (rc := 0) (rs := 0) dL_guess_7 lL_62 ⟨by decide, by decide⟩ h0 (Nat.le_of_ble_eq_true rfl) (Nat.le_of_ble_eq_true rfl) (hs) ?_
  rintro o1 n1 f1 hP
  obtain ⟨rfl, hg2, hc⟩ := hq _ _ _ hP
  rcases hc with ⟨v, rfl⟩ | rfl | rfl
  · refine am_ctI ?_
    refine am_dastore 10 dL_guess_10 rfl hg2 (am_ix (c := 0) (by decide) (by decide)) ?_
    refine am_goto 11 (tgt := 22) dL_guess_11 rfl ?_
    refine am_iconst 22 (v := 0) dL_guess_22 (by decide) ?_
    refine am_ireturn 23 dL_guess_23 rfl rfl ?_
    exact ⟨rfl, _, _, hP, Or.inl ⟨v, rfl, rfl, rfl⟩⟩
  · refine AX.catch [] (0, 11, 14, 31) [(0, 11, 18, 13)] rfl (by intro z hz; cases hz) (by decide) (by decide) cL_31 fc_2 dL_guess_14 (by decide) ?_
    refine am_iconst 16 (v := 1) dL_guess_16 (by decide) ?_
    refine am_ireturn 17 dL_guess_17 rfl rfl ?_
    exact ⟨rfl, _, _, hP, Or.inr (Or.inl ⟨rfl, rfl, rfl⟩)⟩
  · refine AX.catch [(0, 11, 14, 31)] (0, 11, 18, 13) [] rfl (by intro z hz; rw [List.mem_singleton] at hz; subst hz; exact Or.inr ⟨by decide, "java/lang/IndexOutOfBoundsException", cL_31, by decide +kernel⟩) (by decide) (by decide) cL_13 fc_0 dL_guess_18 (by decide) ?_
    refine am_iconst 20 (v := 2) dL_guess_20 (by decide) ?_
    refine am_ireturn 21 dL_guess_21 rfl rfl ?_
    exact ⟨rfl, _, _, hP, Or.inr (Or.inr ⟨rfl, rfl, rfl⟩)⟩
theorem s_HwouldMatch {x : Int32} (h0 : f p = .inr (7, fs)) (hs : AM mX7_wouldMatch rc rs [.ref p, .int x] n f Pc) (hq : ∀ o1 n1 f1, Pc o1 n1 f1 → n1 = n ∧ f1 o9 = .inl (1, 1, .inr (.inl g)) ∧ ((∃ v, o1 = .inl (some (.int v))) ∨ o1 = .inr 2)) : AM mL_wouldMatch rc rs [.ref p, .int x, .ref o9] n f (fun o n' f' => n' = n ∧ ∃ o1 f1, Pc o1 n f1 ∧ ((∃ v, o1 = .inl (some (.int v)) ∧ o = .inl (some (.int 0)) ∧ f' = va_up f1 o9 (.inl (1, 1, .inr (.inl (va_up g 0 v.toInt64))))) ∨ (o1 = .inr 2 ∧ o = .inl (some (.int 1)) ∧ f' = f1))) := by
  show AW mL_wouldMatch rc rs 0 [some (.ref p), some (.int x), some (.ref o9), none] [] n f _
  refine am_aload_n 0 dL_wouldMatch_0 rfl ?_
  refine am_iconst 1 (v := 0) dL_wouldMatch_1 (by decide) ?_
  refine am_aload_n 2 dL_wouldMatch_2 rfl ?_
  refine am_iload_n 3 dL_wouldMatch_3 rfl ?_
  refine am_V1 4 (mc' := rc) (ms' := rs) (rc := 0) (rs := 0) dL_wouldMatch_4 lL_66 ⟨by decide, by decide⟩ h0 (Nat.le_of_ble_eq_true rfl) (Nat.le_of_ble_eq_true rfl) (hs) ?_
  rintro o1 n1 f1 hP
  obtain ⟨rfl, hg2, hc⟩ := hq _ _ _ hP
  rcases hc with ⟨v, rfl⟩ | rfl
  · refine am_ctI ?_
    refine am_i2l 7 dL_wouldMatch_7 ?_
    refine am_lastore 8 dL_wouldMatch_8 rfl hg2 (am_ix (c := 0) (by decide) (by decide)) ?_
    refine am_goto 9 (tgt := 15) dL_wouldMatch_9 rfl ?_
    refine am_iconst 15 (v := 0) dL_wouldMatch_15 (by decide) ?_
    refine am_ireturn 16 dL_wouldMatch_16 rfl rfl ?_
    exact ⟨rfl, _, _, hP, Or.inl ⟨v, rfl, rfl, rfl⟩⟩
  · refine AX.catch_n [] (0, 9, 12, 31) [] rfl (by intro z hz; cases hz) (by decide) (by decide) cL_31 fc_2 dL_wouldMatch_12 (by decide) ?_
    refine am_iconst 13 (v := 1) dL_wouldMatch_13 (by decide) ?_
    refine am_ireturn 14 dL_wouldMatch_14 rfl rfl ?_
    exact ⟨rfl, _, _, hP, Or.inr ⟨rfl, rfl, rfl⟩⟩
theorem s_HkeepBy {x w : Int32} (h0 : f p = .inr (7, fs)) (hs : AM mX7_keepBy rc rs [.ref p, .int x, .int w] n f Pc) (hq : ∀ o1 n1 f1, Pc o1 n1 f1 → n1 = n ∧ f1 o9 = .inl (1, 1, .inr (.inl g)) ∧ ((∃ v, o1 = .inl (some (.int v))) ∨ o1 = .inr 2 ∨ o1 = .inr 0)) : AM mL_keepBy rc rs [.ref p, .int x, .int w, .ref o9] n f (fun o n' f' => n' = n ∧ ∃ o1 f1, Pc o1 n f1 ∧ ((∃ v, o1 = .inl (some (.int v)) ∧ o = .inl (some (.int 0)) ∧ f' = va_up f1 o9 (.inl (1, 1, .inr (.inl (va_up g 0 v.toInt64))))) ∨ (o1 = .inr 2 ∧ o = .inl (some (.int 1)) ∧ f' = f1) ∨ (o1 = .inr 0 ∧ o = .inl (some (.int 2)) ∧ f' = f1))) := by
  show AW mL_keepBy rc rs 0 [some (.ref p), some (.int x), some (.int w), some (.ref o9), none] [] n f _
  refine am_aload_n 0 dL_keepBy_0 rfl ?_
  refine am_iconst 1 (v := 0) dL_keepBy_1 (by decide) ?_
  refine am_aload_n 2 dL_keepBy_2 rfl ?_
  refine am_iload_n 3 dL_keepBy_3 rfl ?_
  refine am_iload_n 4 dL_keepBy_4 rfl ?_
  refine am_V2 5 (mc' := rc) (ms' := rs) (rc := 0) (rs := 0) dL_keepBy_5 lL_69 ⟨by decide, by decide⟩ h0 (Nat.le_of_ble_eq_true rfl) (Nat.le_of_ble_eq_true rfl) (hs) ?_
  rintro o1 n1 f1 hP
  obtain ⟨rfl, hg2, hc⟩ := hq _ _ _ hP
  rcases hc with ⟨v, rfl⟩ | rfl | rfl
  · refine am_ctI ?_
    refine am_i2l 8 dL_keepBy_8 ?_
    refine am_lastore 9 dL_keepBy_9 rfl hg2 (am_ix (c := 0) (by decide) (by decide)) ?_
    refine am_goto 10 (tgt := 21) dL_keepBy_10 rfl ?_
    refine am_iconst 21 (v := 0) dL_keepBy_21 (by decide) ?_
    refine am_ireturn 22 dL_keepBy_22 rfl rfl ?_
    exact ⟨rfl, _, _, hP, Or.inl ⟨v, rfl, rfl, rfl⟩⟩
  · refine AX.catch [] (0, 10, 13, 31) [(0, 10, 17, 13)] rfl (by intro z hz; cases hz) (by decide) (by decide) cL_31 fc_2 dL_keepBy_13 (by decide) ?_
    refine am_iconst 15 (v := 1) dL_keepBy_15 (by decide) ?_
    refine am_ireturn 16 dL_keepBy_16 rfl rfl ?_
    exact ⟨rfl, _, _, hP, Or.inr (Or.inl ⟨rfl, rfl, rfl⟩)⟩
  · refine AX.catch [(0, 10, 13, 31)] (0, 10, 17, 13) [] rfl (by intro z hz; rw [List.mem_singleton] at hz; subst hz; exact Or.inr ⟨by decide, "java/lang/IndexOutOfBoundsException", cL_31, by decide +kernel⟩) (by decide) (by decide) cL_13 fc_0 dL_keepBy_17 (by decide) ?_
    refine am_iconst 19 (v := 2) dL_keepBy_19 (by decide) ?_
    refine am_ireturn 20 dL_keepBy_20 rfl rfl ?_
    exact ⟨rfl, _, _, hP, Or.inr (Or.inr ⟨rfl, rfl, rfl⟩)⟩
theorem s_Uarea {l r t b : Int32} (h0 : f p = .inr (7, fs)) (hs : AM mX7_area rc rs [.ref p, .int l, .int r, .int t, .int b] n f Pc) (hq : ∀ o1 n1 f1, Pc o1 n1 f1 → n1 = n ∧ f1 o9 = .inl (1, 1, .inr (.inl g)) ∧ ((∃ v, o1 = .inl (some (.int v))) ∨ o1 = .inr 0 ∨ o1 = .inr 1)) : AM mL_area rc rs [.ref p, .int l, .int r, .int t, .int b, .ref o9] n f (fun o n' f' => n' = n ∧ (∃ v, o = .inl (some (.int v))) ∧ ∃ o1 f1, Pc o1 n f1 ∧ (f' = f1 ∨ (∃ x, f' = va_up f1 o9 (.inl (1, 1, .inr (.inl x)))))) := by
  refine AW.mono ?_ (s_Harea h0 hs hq)
  rintro o n' f' ⟨rfl, o1, f1, hP, ⟨v, -, ho, hf⟩ | ⟨-, ho, hf⟩ | ⟨-, ho, hf⟩⟩
  · exact ⟨rfl, ⟨_, ho⟩, o1, f1, hP, Or.inr ⟨_, hf⟩⟩
  · exact ⟨rfl, ⟨_, ho⟩, o1, f1, hP, Or.inl hf⟩
  · exact ⟨rfl, ⟨_, ho⟩, o1, f1, hP, Or.inl hf⟩
theorem s_Udial {d : Int32} (h0 : f p = .inr (7, fs)) (hs : AM mX7_dial rc rs [.ref p, .int d] n f Pc) (hq : ∀ o1 n1 f1, Pc o1 n1 f1 → n1 = n ∧ f1 o9 = .inl (1, 1, .inr (.inl g)) ∧ ((∃ v, o1 = .inl (some (.int v))) ∨ o1 = .inr 0)) : AM mL_dial rc rs [.ref p, .int d, .ref o9] n f (fun o n' f' => n' = n ∧ (∃ v, o = .inl (some (.int v))) ∧ ∃ o1 f1, Pc o1 n f1 ∧ (f' = f1 ∨ (∃ x, f' = va_up f1 o9 (.inl (1, 1, .inr (.inl x)))))) := by
  refine AW.mono ?_ (s_Hdial h0 hs hq)
  rintro o n' f' ⟨rfl, o1, f1, hP, ⟨v, -, ho, hf⟩ | ⟨-, ho, hf⟩⟩
  · exact ⟨rfl, ⟨_, ho⟩, o1, f1, hP, Or.inr ⟨_, hf⟩⟩
  · exact ⟨rfl, ⟨_, ho⟩, o1, f1, hP, Or.inl hf⟩
theorem s_Ulimit {d : Int32} (h0 : f p = .inr (7, fs)) (hs : AM mX7_limit rc rs [.ref p, .int d] n f Pc) (hq : ∀ o1 n1 f1, Pc o1 n1 f1 → n1 = n ∧ f1 o9 = .inl (1, 1, .inr (.inl g)) ∧ ((∃ v, o1 = .inl (some (.int v))) ∨ o1 = .inr 0)) : AM mL_limit rc rs [.ref p, .int d, .ref o9] n f (fun o n' f' => n' = n ∧ (∃ v, o = .inl (some (.int v))) ∧ ∃ o1 f1, Pc o1 n f1 ∧ (f' = f1 ∨ (∃ x, f' = va_up f1 o9 (.inl (1, 1, .inr (.inl x)))))) := by
  refine AW.mono ?_ (s_Hlimit h0 hs hq)
  rintro o n' f' ⟨rfl, o1, f1, hP, ⟨v, -, ho, hf⟩ | ⟨-, ho, hf⟩⟩
  · exact ⟨rfl, ⟨_, ho⟩, o1, f1, hP, Or.inr ⟨_, hf⟩⟩
  · exact ⟨rfl, ⟨_, ho⟩, o1, f1, hP, Or.inl hf⟩
theorem s_Uheat {d : Int32} (h0 : f p = .inr (7, fs)) (hs : AM mX7_heat rc rs [.ref p, .int d] n f Pc) (hq : ∀ o1 n1 f1, Pc o1 n1 f1 → n1 = n ∧ f1 o9 = .inl (1, 1, .inr (.inl g)) ∧ ((∃ v, o1 = .inl (some (.int v))) ∨ o1 = .inr 0)) : AM mL_heat rc rs [.ref p, .int d, .ref o9] n f (fun o n' f' => n' = n ∧ (∃ v, o = .inl (some (.int v))) ∧ ∃ o1 f1, Pc o1 n f1 ∧ (f' = f1 ∨ (∃ x, f' = va_up f1 o9 (.inl (1, 1, .inr (.inl x)))))) := by
  refine AW.mono ?_ (s_Hheat h0 hs hq)
  rintro o n' f' ⟨rfl, o1, f1, hP, ⟨v, -, ho, hf⟩ | ⟨-, ho, hf⟩⟩
  · exact ⟨rfl, ⟨_, ho⟩, o1, f1, hP, Or.inr ⟨_, hf⟩⟩
  · exact ⟨rfl, ⟨_, ho⟩, o1, f1, hP, Or.inl hf⟩
theorem s_Upress {x y s : Int32} (h0 : f p = .inr (7, fs)) (hs : AM mX7_press rc rs [.ref p, .int x, .int y, .int s] n f Pc) (hq : ∀ o1 n1 f1, Pc o1 n1 f1 → n1 = n ∧ f1 o9 = .inl (1, 1, .inr (.inl g)) ∧ ((∃ v, o1 = .inl (some (.int v))) ∨ o1 = .inr 2 ∨ o1 = .inr 0)) : AM mL_press rc rs [.ref p, .int x, .int y, .int s, .ref o9] n f (fun o n' f' => n' = n ∧ (∃ v, o = .inl (some (.int v))) ∧ ∃ o1 f1, Pc o1 n f1 ∧ (f' = f1 ∨ (∃ x, f' = va_up f1 o9 (.inl (1, 1, .inr (.inl x)))))) := by
  refine AW.mono ?_ (s_Hpress h0 hs hq)
  rintro o n' f' ⟨rfl, o1, f1, hP, ⟨v, -, ho, hf⟩ | ⟨-, ho, hf⟩ | ⟨-, ho, hf⟩⟩
  · exact ⟨rfl, ⟨_, ho⟩, o1, f1, hP, Or.inr ⟨_, hf⟩⟩
  · exact ⟨rfl, ⟨_, ho⟩, o1, f1, hP, Or.inl hf⟩
  · exact ⟨rfl, ⟨_, ho⟩, o1, f1, hP, Or.inl hf⟩
theorem s_Unoise {y u : Int32} (h0 : f p = .inr (7, fs)) (hs : AM mX7_noise rc rs [.ref p, .int y, .int u] n f Pc) (hq : ∀ o1 n1 f1, Pc o1 n1 f1 → n1 = n ∧ f1 o9 = .inl (1, 1, .inr (.inl g)) ∧ ((∃ v, o1 = .inl (some (.int v))) ∨ o1 = .inr 2 ∨ o1 = .inr 0)) : AM mL_noise rc rs [.ref p, .int y, .int u, .ref o9] n f (fun o n' f' => n' = n ∧ (∃ v, o = .inl (some (.int v))) ∧ ∃ o1 f1, Pc o1 n f1 ∧ (f' = f1 ∨ (∃ x, f' = va_up f1 o9 (.inl (1, 1, .inr (.inl x)))))) := by
  refine AW.mono ?_ (s_Hnoise h0 hs hq)
  rintro o n' f' ⟨rfl, o1, f1, hP, ⟨v, -, ho, hf⟩ | ⟨-, ho, hf⟩ | ⟨-, ho, hf⟩⟩
  · exact ⟨rfl, ⟨_, ho⟩, o1, f1, hP, Or.inr ⟨_, hf⟩⟩
  · exact ⟨rfl, ⟨_, ho⟩, o1, f1, hP, Or.inl hf⟩
  · exact ⟨rfl, ⟨_, ho⟩, o1, f1, hP, Or.inl hf⟩
theorem s_UofCell {x y w : Int32} (h0 : f p = .inr (7, fs)) (hs : AM mX7_ofCell rc rs [.ref p, .int x, .int y, .int w] n f Pc) (hq : ∀ o1 n1 f1, Pc o1 n1 f1 → n1 = n ∧ f1 o9 = .inl (1, 1, .inr (.inl g)) ∧ ((∃ v, o1 = .inl (some (.int v))) ∨ o1 = .inr 2 ∨ o1 = .inr 0)) : AM mL_ofCell rc rs [.ref p, .int x, .int y, .int w, .ref o9] n f (fun o n' f' => n' = n ∧ (∃ v, o = .inl (some (.int v))) ∧ ∃ o1 f1, Pc o1 n f1 ∧ (f' = f1 ∨ (∃ x, f' = va_up f1 o9 (.inl (1, 1, .inr (.inl x)))))) := by
  refine AW.mono ?_ (s_HofCell h0 hs hq)
  rintro o n' f' ⟨rfl, o1, f1, hP, ⟨v, -, ho, hf⟩ | ⟨-, ho, hf⟩ | ⟨-, ho, hf⟩⟩
  · exact ⟨rfl, ⟨_, ho⟩, o1, f1, hP, Or.inr ⟨_, hf⟩⟩
  · exact ⟨rfl, ⟨_, ho⟩, o1, f1, hP, Or.inl hf⟩
  · exact ⟨rfl, ⟨_, ho⟩, o1, f1, hP, Or.inl hf⟩
theorem s_UofPeak {x w : Int32} (h0 : f p = .inr (7, fs)) (hs : AM mX7_ofPeak rc rs [.ref p, .int x, .int w] n f Pc) (hq : ∀ o1 n1 f1, Pc o1 n1 f1 → n1 = n ∧ f1 o9 = .inl (1, 1, .inr (.inl g)) ∧ ((∃ v, o1 = .inl (some (.int v))) ∨ o1 = .inr 2 ∨ o1 = .inr 0)) : AM mL_ofPeak rc rs [.ref p, .int x, .int w, .ref o9] n f (fun o n' f' => n' = n ∧ (∃ v, o = .inl (some (.int v))) ∧ ∃ o1 f1, Pc o1 n f1 ∧ (f' = f1 ∨ (∃ x, f' = va_up f1 o9 (.inl (1, 1, .inr (.inl x)))))) := by
  refine AW.mono ?_ (s_HofPeak h0 hs hq)
  rintro o n' f' ⟨rfl, o1, f1, hP, ⟨v, -, ho, hf⟩ | ⟨-, ho, hf⟩ | ⟨-, ho, hf⟩⟩
  · exact ⟨rfl, ⟨_, ho⟩, o1, f1, hP, Or.inr ⟨_, hf⟩⟩
  · exact ⟨rfl, ⟨_, ho⟩, o1, f1, hP, Or.inl hf⟩
  · exact ⟨rfl, ⟨_, ho⟩, o1, f1, hP, Or.inl hf⟩
theorem s_UofContact {x w : Int32} (h0 : f p = .inr (7, fs)) (hs : AM mX7_ofContact rc rs [.ref p, .int x, .int w] n f Pc) (hq : ∀ o1 n1 f1, Pc o1 n1 f1 → n1 = n ∧ f1 o9 = .inl (1, 1, .inr (.inl g)) ∧ ((∃ v, o1 = .inl (some (.int v))) ∨ o1 = .inr 2 ∨ o1 = .inr 0)) : AM mL_ofContact rc rs [.ref p, .int x, .int w, .ref o9] n f (fun o n' f' => n' = n ∧ (∃ v, o = .inl (some (.int v))) ∧ ∃ o1 f1, Pc o1 n f1 ∧ (f' = f1 ∨ (∃ x, f' = va_up f1 o9 (.inl (1, 1, .inr (.inl x)))))) := by
  refine AW.mono ?_ (s_HofContact h0 hs hq)
  rintro o n' f' ⟨rfl, o1, f1, hP, ⟨v, -, ho, hf⟩ | ⟨-, ho, hf⟩ | ⟨-, ho, hf⟩⟩
  · exact ⟨rfl, ⟨_, ho⟩, o1, f1, hP, Or.inr ⟨_, hf⟩⟩
  · exact ⟨rfl, ⟨_, ho⟩, o1, f1, hP, Or.inl hf⟩
  · exact ⟨rfl, ⟨_, ho⟩, o1, f1, hP, Or.inl hf⟩
theorem s_Uwhere {x w : Int32} (h0 : f p = .inr (7, fs)) (hs : AM mX7_where rc rs [.ref p, .int x, .int w] n f Pc) (hq : ∀ o1 n1 f1, Pc o1 n1 f1 → n1 = n ∧ f1 o9 = .inl (6, 1, .inr (.inr (.inr (.inl gd)))) ∧ ((∃ v, o1 = .inl (some (.double v))) ∨ o1 = .inr 2 ∨ o1 = .inr 0)) : AM mL_where rc rs [.ref p, .int x, .int w, .ref o9] n f (fun o n' f' => n' = n ∧ (∃ v, o = .inl (some (.int v))) ∧ ∃ o1 f1, Pc o1 n f1 ∧ (f' = f1 ∨ (∃ x, f' = va_up f1 o9 (.inl (6, 1, .inr (.inr (.inr (.inl x)))))))) := by
  refine AW.mono ?_ (s_Hwhere h0 hs hq)
  rintro o n' f' ⟨rfl, o1, f1, hP, ⟨v, -, ho, hf⟩ | ⟨-, ho, hf⟩ | ⟨-, ho, hf⟩⟩
  · exact ⟨rfl, ⟨_, ho⟩, o1, f1, hP, Or.inr ⟨_, hf⟩⟩
  · exact ⟨rfl, ⟨_, ho⟩, o1, f1, hP, Or.inl hf⟩
  · exact ⟨rfl, ⟨_, ho⟩, o1, f1, hP, Or.inl hf⟩
theorem s_Uapart {x w : Int32} (h0 : f p = .inr (7, fs)) (hs : AM mX7_apart rc rs [.ref p, .int x, .int w] n f Pc) (hq : ∀ o1 n1 f1, Pc o1 n1 f1 → n1 = n ∧ f1 o9 = .inl (6, 1, .inr (.inr (.inr (.inl gd)))) ∧ ((∃ v, o1 = .inl (some (.double v))) ∨ o1 = .inr 2)) : AM mL_apart rc rs [.ref p, .int x, .int w, .ref o9] n f (fun o n' f' => n' = n ∧ (∃ v, o = .inl (some (.int v))) ∧ ∃ o1 f1, Pc o1 n f1 ∧ (f' = f1 ∨ (∃ x, f' = va_up f1 o9 (.inl (6, 1, .inr (.inr (.inr (.inl x)))))))) := by
  refine AW.mono ?_ (s_Hapart h0 hs hq)
  rintro o n' f' ⟨rfl, o1, f1, hP, ⟨v, -, ho, hf⟩ | ⟨-, ho, hf⟩⟩
  · exact ⟨rfl, ⟨_, ho⟩, o1, f1, hP, Or.inr ⟨_, hf⟩⟩
  · exact ⟨rfl, ⟨_, ho⟩, o1, f1, hP, Or.inl hf⟩
theorem s_UofRow {y w : Int32} (h0 : f p = .inr (7, fs)) (hs : AM mX7_ofRow rc rs [.ref p, .int y, .int w] n f Pc) (hq : ∀ o1 n1 f1, Pc o1 n1 f1 → n1 = n ∧ f1 o9 = .inl (1, 1, .inr (.inl g)) ∧ ((∃ v, o1 = .inl (some (.int v))) ∨ o1 = .inr 2 ∨ o1 = .inr 0)) : AM mL_ofRow rc rs [.ref p, .int y, .int w, .ref o9] n f (fun o n' f' => n' = n ∧ (∃ v, o = .inl (some (.int v))) ∧ ∃ o1 f1, Pc o1 n f1 ∧ (f' = f1 ∨ (∃ x, f' = va_up f1 o9 (.inl (1, 1, .inr (.inl x)))))) := by
  refine AW.mono ?_ (s_HofRow h0 hs hq)
  rintro o n' f' ⟨rfl, o1, f1, hP, ⟨v, -, ho, hf⟩ | ⟨-, ho, hf⟩ | ⟨-, ho, hf⟩⟩
  · exact ⟨rfl, ⟨_, ho⟩, o1, f1, hP, Or.inr ⟨_, hf⟩⟩
  · exact ⟨rfl, ⟨_, ho⟩, o1, f1, hP, Or.inl hf⟩
  · exact ⟨rfl, ⟨_, ho⟩, o1, f1, hP, Or.inl hf⟩
theorem s_UofArea {x w : Int32} (h0 : f p = .inr (7, fs)) (hs : AM mX7_ofArea rc rs [.ref p, .int x, .int w] n f Pc) (hq : ∀ o1 n1 f1, Pc o1 n1 f1 → n1 = n ∧ f1 o9 = .inl (1, 1, .inr (.inl g)) ∧ ((∃ v, o1 = .inl (some (.int v))) ∨ o1 = .inr 2 ∨ o1 = .inr 0)) : AM mL_ofArea rc rs [.ref p, .int x, .int w, .ref o9] n f (fun o n' f' => n' = n ∧ (∃ v, o = .inl (some (.int v))) ∧ ∃ o1 f1, Pc o1 n f1 ∧ (f' = f1 ∨ (∃ x, f' = va_up f1 o9 (.inl (1, 1, .inr (.inl x)))))) := by
  refine AW.mono ?_ (s_HofArea h0 hs hq)
  rintro o n' f' ⟨rfl, o1, f1, hP, ⟨v, -, ho, hf⟩ | ⟨-, ho, hf⟩ | ⟨-, ho, hf⟩⟩
  · exact ⟨rfl, ⟨_, ho⟩, o1, f1, hP, Or.inr ⟨_, hf⟩⟩
  · exact ⟨rfl, ⟨_, ho⟩, o1, f1, hP, Or.inl hf⟩
  · exact ⟨rfl, ⟨_, ho⟩, o1, f1, hP, Or.inl hf⟩
theorem s_Umany {w : Int32} (h0 : f p = .inr (7, fs)) (hs : AM mX7_many rc rs [.ref p, .int w] n f Pc) (hq : ∀ o1 n1 f1, Pc o1 n1 f1 → n1 = n ∧ f1 o9 = .inl (1, 1, .inr (.inl g)) ∧ ((∃ v, o1 = .inl (some (.int v))) ∨ o1 = .inr 0)) : AM mL_many rc rs [.ref p, .int w, .ref o9] n f (fun o n' f' => n' = n ∧ (∃ v, o = .inl (some (.int v))) ∧ ∃ o1 f1, Pc o1 n f1 ∧ (f' = f1 ∨ (∃ x, f' = va_up f1 o9 (.inl (1, 1, .inr (.inl x)))))) := by
  refine AW.mono ?_ (s_Hmany h0 hs hq)
  rintro o n' f' ⟨rfl, o1, f1, hP, ⟨v, -, ho, hf⟩ | ⟨-, ho, hf⟩⟩
  · exact ⟨rfl, ⟨_, ho⟩, o1, f1, hP, Or.inr ⟨_, hf⟩⟩
  · exact ⟨rfl, ⟨_, ho⟩, o1, f1, hP, Or.inl hf⟩
theorem s_Uguess {x w b : Int32} (h0 : f p = .inr (7, fs)) (hs : AM mX7_guess rc rs [.ref p, .int x, .int w, .int b] n f Pc) (hq : ∀ o1 n1 f1, Pc o1 n1 f1 → n1 = n ∧ f1 o9 = .inl (6, 1, .inr (.inr (.inr (.inl gd)))) ∧ ((∃ v, o1 = .inl (some (.double v))) ∨ o1 = .inr 2 ∨ o1 = .inr 0)) : AM mL_guess rc rs [.ref p, .int x, .int w, .int b, .ref o9] n f (fun o n' f' => n' = n ∧ (∃ v, o = .inl (some (.int v))) ∧ ∃ o1 f1, Pc o1 n f1 ∧ (f' = f1 ∨ (∃ x, f' = va_up f1 o9 (.inl (6, 1, .inr (.inr (.inr (.inl x)))))))) := by
  refine AW.mono ?_ (s_Hguess h0 hs hq)
  rintro o n' f' ⟨rfl, o1, f1, hP, ⟨v, -, ho, hf⟩ | ⟨-, ho, hf⟩ | ⟨-, ho, hf⟩⟩
  · exact ⟨rfl, ⟨_, ho⟩, o1, f1, hP, Or.inr ⟨_, hf⟩⟩
  · exact ⟨rfl, ⟨_, ho⟩, o1, f1, hP, Or.inl hf⟩
  · exact ⟨rfl, ⟨_, ho⟩, o1, f1, hP, Or.inl hf⟩
theorem s_UwouldMatch {x : Int32} (h0 : f p = .inr (7, fs)) (hs : AM mX7_wouldMatch rc rs [.ref p, .int x] n f Pc) (hq : ∀ o1 n1 f1, Pc o1 n1 f1 → n1 = n ∧ f1 o9 = .inl (1, 1, .inr (.inl g)) ∧ ((∃ v, o1 = .inl (some (.int v))) ∨ o1 = .inr 2)) : AM mL_wouldMatch rc rs [.ref p, .int x, .ref o9] n f (fun o n' f' => n' = n ∧ (∃ v, o = .inl (some (.int v))) ∧ ∃ o1 f1, Pc o1 n f1 ∧ (f' = f1 ∨ (∃ x, f' = va_up f1 o9 (.inl (1, 1, .inr (.inl x)))))) := by
  refine AW.mono ?_ (s_HwouldMatch h0 hs hq)
  rintro o n' f' ⟨rfl, o1, f1, hP, ⟨v, -, ho, hf⟩ | ⟨-, ho, hf⟩⟩
  · exact ⟨rfl, ⟨_, ho⟩, o1, f1, hP, Or.inr ⟨_, hf⟩⟩
  · exact ⟨rfl, ⟨_, ho⟩, o1, f1, hP, Or.inl hf⟩
theorem s_UkeepBy {x w : Int32} (h0 : f p = .inr (7, fs)) (hs : AM mX7_keepBy rc rs [.ref p, .int x, .int w] n f Pc) (hq : ∀ o1 n1 f1, Pc o1 n1 f1 → n1 = n ∧ f1 o9 = .inl (1, 1, .inr (.inl g)) ∧ ((∃ v, o1 = .inl (some (.int v))) ∨ o1 = .inr 2 ∨ o1 = .inr 0)) : AM mL_keepBy rc rs [.ref p, .int x, .int w, .ref o9] n f (fun o n' f' => n' = n ∧ (∃ v, o = .inl (some (.int v))) ∧ ∃ o1 f1, Pc o1 n f1 ∧ (f' = f1 ∨ (∃ x, f' = va_up f1 o9 (.inl (1, 1, .inr (.inl x)))))) := by
  refine AW.mono ?_ (s_HkeepBy h0 hs hq)
  rintro o n' f' ⟨rfl, o1, f1, hP, ⟨v, -, ho, hf⟩ | ⟨-, ho, hf⟩ | ⟨-, ho, hf⟩⟩
  · exact ⟨rfl, ⟨_, ho⟩, o1, f1, hP, Or.inr ⟨_, hf⟩⟩
  · exact ⟨rfl, ⟨_, ho⟩, o1, f1, hP, Or.inl hf⟩
  · exact ⟨rfl, ⟨_, ho⟩, o1, f1, hP, Or.inl hf⟩
end Help3
