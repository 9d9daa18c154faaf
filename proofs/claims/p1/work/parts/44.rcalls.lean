/-! ===== the reference's calls on a new object ===== -/
section RCalls
def r_ans (m n : Nat) (f : Nat → am_C) (v : Value) (th : Int32) : am_P := fun o n' f' => o = .inl (some v) ∧ n ≤ n' ∧ (∃ rest, f' m = .inr (12, .int th :: rest)) ∧ ∀ x, (x < m ∨ (m + 4 < x ∧ x < n)) → f' x = f x
variable {m n : Nat} {f : Nat → am_C} {th : Int32}
theorem s_rdial_t {d : Int32} (h : r_Mo f m th (fun _ => 0)) (hd : 1 ≤ d ∧ d ≤ 4) : AM mX12_dial 0 0 [.ref m, .int d] n f (r_ans m n f (.int 4) 0) := by
  show AW mX12_dial 0 0 0 [some (.ref m), some (.int d), none] [] n f _
  refine am_aload_n 0 dX12_dial_0 rfl ?_
  refine am_iload_n 1 dX12_dial_1 rfl ?_
  refine am_iconst 2 (v := 1) dX12_dial_2 (by decide) ?_
  refine am_iconst 3 (v := 4) dX12_dial_3 (by decide) ?_
  refine am_S3 4 (mc' := 0) (ms' := 0) (rc := 0) (rs := 0) dX12_dial_4 lX12_3 ⟨by decide, by decide⟩ (Nat.le_of_ble_eq_true rfl) (Nat.le_of_ble_eq_true rfl) (s_isIn_t hd.1 hd.2) ?_
  refine am_is_ct ?_
  refine am_if_ne 7 14 dX12_dial_7 rfl (fun c7 => ?_) (fun c7 => absurd c7 (by decide))
  refine am_iconst 14 (v := 0) dX12_dial_14 (by decide) ?_
  refine am_iconst 15 (v := 1) dX12_dial_15 (by decide) ?_
  refine am_V2 16 (mc' := 0) (ms' := 0) (rc := 0) (rs := 0) dX12_dial_16 lX12_59 ⟨by decide, by decide⟩ h.1 (Nat.le_of_ble_eq_true rfl) (Nat.le_of_ble_eq_true rfl) (s_start false (by decide) h.1) ?_
  refine am_is_ct ?_
  refine am_if_eq 19 24 dX12_dial_19 rfl (fun c19 => ?_) (fun c19 => absurd (by decide) c19)
  refine am_aload_n 24 dX12_dial_24 rfl ?_
  refine am_getfield 25 dX12_dial_25 fX12_20 am_ue rfl ?_
  refine am_istore_n 28 dX12_dial_28 (by decide) ?_
  refine am_aload_n 29 dX12_dial_29 rfl ?_
  refine am_iload_n 30 dX12_dial_30 rfl ?_
  refine am_putfield 31 dX12_dial_31 pX12_20 am_ue rfl rfl (Nat.le_of_ble_eq_true rfl) ?_
  refine am_iload_n 34 dX12_dial_34 rfl ?_
  refine am_ireturn 35 dX12_dial_35 rfl rfl ?_
  exact ⟨rfl, Nat.le_refl _, ⟨_, am_ue⟩, fun x hx => by repeat rw [am_up_ne (by omega)]⟩
theorem s_rdial_f {d : Int32} (h : r_Mo f m th (fun _ => 0)) (hd : ¬ (1 ≤ d ∧ d ≤ 4)) : AM mX12_dial 0 0 [.ref m, .int d] n f (r_ans m n f (.int 0) 1) := by
  show AW mX12_dial 0 0 0 [some (.ref m), some (.int d), none] [] n f _
  refine am_aload_n 0 dX12_dial_0 rfl ?_
  refine am_iload_n 1 dX12_dial_1 rfl ?_
  refine am_iconst 2 (v := 1) dX12_dial_2 (by decide) ?_
  refine am_iconst 3 (v := 4) dX12_dial_3 (by decide) ?_
  refine am_S3 4 (mc' := 0) (ms' := 0) (rc := 0) (rs := 0) dX12_dial_4 lX12_3 ⟨by decide, by decide⟩ (Nat.le_of_ble_eq_true rfl) (Nat.le_of_ble_eq_true rfl) (s_isIn_f hd) ?_
  refine am_is_ct ?_
  refine am_if_ne 7 14 dX12_dial_7 rfl (fun c7 => absurd c7 (by decide)) (fun c7 => ?_)
  refine am_iconst 10 (v := 1) dX12_dial_10 (by decide) ?_
  refine am_goto 11 (tgt := 15) dX12_dial_11 rfl ?_
  refine am_iconst 15 (v := 1) dX12_dial_15 (by decide) ?_
  refine am_V2 16 (mc' := 0) (ms' := 0) (rc := 0) (rs := 0) dX12_dial_16 lX12_59 ⟨by decide, by decide⟩ h.1 (Nat.le_of_ble_eq_true rfl) (Nat.le_of_ble_eq_true rfl) (s_start true (by decide) h.1) ?_
  refine am_is_ct ?_
  refine am_if_eq 19 24 dX12_dial_19 rfl (fun c19 => absurd c19 (by decide)) (fun c19 => ?_)
  refine am_iconst 22 (v := 0) dX12_dial_22 (by decide) ?_
  refine am_ireturn 23 dX12_dial_23 rfl rfl ?_
  exact ⟨rfl, Nat.le_refl _, ⟨_, am_ue⟩, fun x hx => by repeat rw [am_up_ne (by omega)]⟩
theorem s_rlimit_t {d : Int32} (h : r_Mo f m th (fun _ => 0)) (hd : 1 ≤ d ∧ d ≤ 30) : AM mX12_limit 0 0 [.ref m, .int d] n f (r_ans m n f (.int 12) 0) := by
  show AW mX12_limit 0 0 0 [some (.ref m), some (.int d), none] [] n f _
  refine am_aload_n 0 dX12_limit_0 rfl ?_
  refine am_iload_n 1 dX12_limit_1 rfl ?_
  refine am_iconst 2 (v := 1) dX12_limit_2 (by decide) ?_
  refine am_bipush 3 (v := 30) dX12_limit_3 (by decide) ?_
  refine am_S3 5 (mc' := 0) (ms' := 0) (rc := 0) (rs := 0) dX12_limit_5 lX12_3 ⟨by decide, by decide⟩ (Nat.le_of_ble_eq_true rfl) (Nat.le_of_ble_eq_true rfl) (s_isIn_t hd.1 hd.2) ?_
  refine am_is_ct ?_
  refine am_if_ne 8 15 dX12_limit_8 rfl (fun c8 => ?_) (fun c8 => absurd c8 (by decide))
  refine am_iconst 15 (v := 0) dX12_limit_15 (by decide) ?_
  refine am_iconst 16 (v := 1) dX12_limit_16 (by decide) ?_
  refine am_V2 17 (mc' := 0) (ms' := 0) (rc := 0) (rs := 0) dX12_limit_17 lX12_59 ⟨by decide, by decide⟩ h.1 (Nat.le_of_ble_eq_true rfl) (Nat.le_of_ble_eq_true rfl) (s_start false (by decide) h.1) ?_
  refine am_is_ct ?_
  refine am_if_eq 20 25 dX12_limit_20 rfl (fun c20 => ?_) (fun c20 => absurd (by decide) c20)
  refine am_aload_n 25 dX12_limit_25 rfl ?_
  refine am_getfield 26 dX12_limit_26 fX12_24 am_ue rfl ?_
  refine am_istore_n 29 dX12_limit_29 (by decide) ?_
  refine am_aload_n 30 dX12_limit_30 rfl ?_
  refine am_iload_n 31 dX12_limit_31 rfl ?_
  refine am_putfield 32 dX12_limit_32 pX12_24 am_ue rfl rfl (Nat.le_of_ble_eq_true rfl) ?_
  refine am_iload_n 35 dX12_limit_35 rfl ?_
  refine am_ireturn 36 dX12_limit_36 rfl rfl ?_
  exact ⟨rfl, Nat.le_refl _, ⟨_, am_ue⟩, fun x hx => by repeat rw [am_up_ne (by omega)]⟩
theorem s_rlimit_f {d : Int32} (h : r_Mo f m th (fun _ => 0)) (hd : ¬ (1 ≤ d ∧ d ≤ 30)) : AM mX12_limit 0 0 [.ref m, .int d] n f (r_ans m n f (.int 0) 1) := by
  show AW mX12_limit 0 0 0 [some (.ref m), some (.int d), none] [] n f _
  refine am_aload_n 0 dX12_limit_0 rfl ?_
  refine am_iload_n 1 dX12_limit_1 rfl ?_
  refine am_iconst 2 (v := 1) dX12_limit_2 (by decide) ?_
  refine am_bipush 3 (v := 30) dX12_limit_3 (by decide) ?_
  refine am_S3 5 (mc' := 0) (ms' := 0) (rc := 0) (rs := 0) dX12_limit_5 lX12_3 ⟨by decide, by decide⟩ (Nat.le_of_ble_eq_true rfl) (Nat.le_of_ble_eq_true rfl) (s_isIn_f hd) ?_
  refine am_is_ct ?_
  refine am_if_ne 8 15 dX12_limit_8 rfl (fun c8 => absurd c8 (by decide)) (fun c8 => ?_)
  refine am_iconst 11 (v := 1) dX12_limit_11 (by decide) ?_
  refine am_goto 12 (tgt := 16) dX12_limit_12 rfl ?_
  refine am_iconst 16 (v := 1) dX12_limit_16 (by decide) ?_
  refine am_V2 17 (mc' := 0) (ms' := 0) (rc := 0) (rs := 0) dX12_limit_17 lX12_59 ⟨by decide, by decide⟩ h.1 (Nat.le_of_ble_eq_true rfl) (Nat.le_of_ble_eq_true rfl) (s_start true (by decide) h.1) ?_
  refine am_is_ct ?_
  refine am_if_eq 20 25 dX12_limit_20 rfl (fun c20 => absurd c20 (by decide)) (fun c20 => ?_)
  refine am_iconst 23 (v := 0) dX12_limit_23 (by decide) ?_
  refine am_ireturn 24 dX12_limit_24 rfl rfl ?_
  exact ⟨rfl, Nat.le_refl _, ⟨_, am_ue⟩, fun x hx => by repeat rw [am_up_ne (by omega)]⟩
theorem s_rheat_t {d : Int32} (h : r_Mo f m th (fun _ => 0)) (hd : -30 ≤ d ∧ d ≤ 30) : AM mX12_heat 0 0 [.ref m, .int d] n f (r_ans m n f (.int 0) 0) := by
  show AW mX12_heat 0 0 0 [some (.ref m), some (.int d), none] [] n f _
  refine am_aload_n 0 dX12_heat_0 rfl ?_
  refine am_iload_n 1 dX12_heat_1 rfl ?_
  refine am_bipush 2 (v := (-30)) dX12_heat_2 (by decide) ?_
  refine am_bipush 4 (v := 30) dX12_heat_4 (by decide) ?_
  refine am_S3 6 (mc' := 0) (ms' := 0) (rc := 0) (rs := 0) dX12_heat_6 lX12_3 ⟨by decide, by decide⟩ (Nat.le_of_ble_eq_true rfl) (Nat.le_of_ble_eq_true rfl) (s_isIn_t hd.1 hd.2) ?_
  refine am_is_ct ?_
  refine am_if_ne 9 16 dX12_heat_9 rfl (fun c9 => ?_) (fun c9 => absurd c9 (by decide))
  refine am_iconst 16 (v := 0) dX12_heat_16 (by decide) ?_
  refine am_iconst 17 (v := 1) dX12_heat_17 (by decide) ?_
  refine am_V2 18 (mc' := 0) (ms' := 0) (rc := 0) (rs := 0) dX12_heat_18 lX12_59 ⟨by decide, by decide⟩ h.1 (Nat.le_of_ble_eq_true rfl) (Nat.le_of_ble_eq_true rfl) (s_start false (by decide) h.1) ?_
  refine am_is_ct ?_
  refine am_if_eq 21 26 dX12_heat_21 rfl (fun c21 => ?_) (fun c21 => absurd (by decide) c21)
  refine am_aload_n 26 dX12_heat_26 rfl ?_
  refine am_getfield 27 dX12_heat_27 fX12_47 am_ue rfl ?_
  refine am_istore_n 30 dX12_heat_30 (by decide) ?_
  refine am_aload_n 31 dX12_heat_31 rfl ?_
  refine am_iload_n 32 dX12_heat_32 rfl ?_
  refine am_putfield 33 dX12_heat_33 pX12_47 am_ue rfl rfl (Nat.le_of_ble_eq_true rfl) ?_
  refine am_iload_n 36 dX12_heat_36 rfl ?_
  refine am_ireturn 37 dX12_heat_37 rfl rfl ?_
  exact ⟨rfl, Nat.le_refl _, ⟨_, am_ue⟩, fun x hx => by repeat rw [am_up_ne (by omega)]⟩
theorem s_rheat_f {d : Int32} (h : r_Mo f m th (fun _ => 0)) (hd : ¬ (-30 ≤ d ∧ d ≤ 30)) : AM mX12_heat 0 0 [.ref m, .int d] n f (r_ans m n f (.int 0) 1) := by
  show AW mX12_heat 0 0 0 [some (.ref m), some (.int d), none] [] n f _
  refine am_aload_n 0 dX12_heat_0 rfl ?_
  refine am_iload_n 1 dX12_heat_1 rfl ?_
  refine am_bipush 2 (v := (-30)) dX12_heat_2 (by decide) ?_
  refine am_bipush 4 (v := 30) dX12_heat_4 (by decide) ?_
  refine am_S3 6 (mc' := 0) (ms' := 0) (rc := 0) (rs := 0) dX12_heat_6 lX12_3 ⟨by decide, by decide⟩ (Nat.le_of_ble_eq_true rfl) (Nat.le_of_ble_eq_true rfl) (s_isIn_f hd) ?_
  refine am_is_ct ?_
  refine am_if_ne 9 16 dX12_heat_9 rfl (fun c9 => absurd c9 (by decide)) (fun c9 => ?_)
  refine am_iconst 12 (v := 1) dX12_heat_12 (by decide) ?_
  refine am_goto 13 (tgt := 17) dX12_heat_13 rfl ?_
  refine am_iconst 17 (v := 1) dX12_heat_17 (by decide) ?_
  refine am_V2 18 (mc' := 0) (ms' := 0) (rc := 0) (rs := 0) dX12_heat_18 lX12_59 ⟨by decide, by decide⟩ h.1 (Nat.le_of_ble_eq_true rfl) (Nat.le_of_ble_eq_true rfl) (s_start true (by decide) h.1) ?_
  refine am_is_ct ?_
  refine am_if_eq 21 26 dX12_heat_21 rfl (fun c21 => absurd c21 (by decide)) (fun c21 => ?_)
  refine am_iconst 24 (v := 0) dX12_heat_24 (by decide) ?_
  refine am_ireturn 25 dX12_heat_25 rfl rfl ?_
  exact ⟨rfl, Nat.le_refl _, ⟨_, am_ue⟩, fun x hx => by repeat rw [am_up_ne (by omega)]⟩
theorem s_rarea_t {l r t b : Int32} (h : r_Mo f m th (fun _ => 0)) (hm : m + 4 < n) (h1 : 0 ≤ l ∧ l ≤ 7) (h2 : l ≤ r ∧ r ≤ 7) (h3 : 0 ≤ t ∧ t ≤ 5) (h4 : t ≤ b ∧ b ≤ 5) : AM mX12_area 3 19 [.ref m, .int l, .int r, .int t, .int b] n f (r_ans m n f (.int 0) 0) := by
  show AW mX12_area 3 19 0 [some (.ref m), some (.int l), some (.int r), some (.int t), some (.int b)] [] n f _
  have hl := h.2.2.2.2
  refine am_aload_n 0 dX12_area_0 rfl ?_
  refine am_iload_n 1 dX12_area_1 rfl ?_
  refine am_iconst 2 (v := 0) dX12_area_2 (by decide) ?_
  refine am_bipush 3 (v := 7) dX12_area_3 (by decide) ?_
  refine am_S3 5 (mc' := 0) (ms' := 0) (rc := 3) (rs := 19) dX12_area_5 lX12_3 ⟨by decide, by decide⟩ (Nat.le_of_ble_eq_true rfl) (Nat.le_of_ble_eq_true rfl) (s_isIn_t h1.1 h1.2) ?_
  refine am_is_ct ?_
  refine am_if_eq 8 40 dX12_area_8 rfl (fun c8 => absurd c8 (by decide)) (fun c8 => ?_)
  refine am_iload_n 11 dX12_area_11 rfl ?_
  refine am_iload_n 12 dX12_area_12 rfl ?_
  refine am_bipush 13 (v := 7) dX12_area_13 (by decide) ?_
  refine am_S3 15 (mc' := 0) (ms' := 0) (rc := 3) (rs := 19) dX12_area_15 lX12_3 ⟨by decide, by decide⟩ (Nat.le_of_ble_eq_true rfl) (Nat.le_of_ble_eq_true rfl) (s_isIn_t h2.1 h2.2) ?_
  refine am_is_ct ?_
  refine am_if_eq 18 40 dX12_area_18 rfl (fun c18 => absurd c18 (by decide)) (fun c18 => ?_)
  refine am_iload_n 21 dX12_area_21 rfl ?_
  refine am_iconst 22 (v := 0) dX12_area_22 (by decide) ?_
  refine am_iconst 23 (v := 5) dX12_area_23 (by decide) ?_
  refine am_S3 24 (mc' := 0) (ms' := 0) (rc := 3) (rs := 19) dX12_area_24 lX12_3 ⟨by decide, by decide⟩ (Nat.le_of_ble_eq_true rfl) (Nat.le_of_ble_eq_true rfl) (s_isIn_t h3.1 h3.2) ?_
  refine am_is_ct ?_
  refine am_if_eq 27 40 dX12_area_27 rfl (fun c27 => absurd c27 (by decide)) (fun c27 => ?_)
  refine am_iload 30 dX12_area_30 rfl ?_
  refine am_iload_n 32 dX12_area_32 rfl ?_
  refine am_iconst 33 (v := 5) dX12_area_33 (by decide) ?_
  refine am_S3 34 (mc' := 0) (ms' := 0) (rc := 3) (rs := 19) dX12_area_34 lX12_3 ⟨by decide, by decide⟩ (Nat.le_of_ble_eq_true rfl) (Nat.le_of_ble_eq_true rfl) (s_isIn_t h4.1 h4.2) ?_
  refine am_is_ct ?_
  refine am_if_ne 37 44 dX12_area_37 rfl (fun c37 => ?_) (fun c37 => absurd c37 (by decide))
  refine am_iconst 44 (v := 0) dX12_area_44 (by decide) ?_
  refine am_iconst 45 (v := 1) dX12_area_45 (by decide) ?_
  refine am_V2 46 (mc' := 0) (ms' := 0) (rc := 3) (rs := 19) dX12_area_46 lX12_59 ⟨by decide, by decide⟩ h.1 (Nat.le_of_ble_eq_true rfl) (Nat.le_of_ble_eq_true rfl) (s_start false (by decide) h.1) ?_
  refine am_is_ct ?_
  refine am_if_ne 49 76 dX12_area_49 rfl (fun c49 => absurd c49 (by decide)) (fun c49 => ?_)
  refine am_aload_n 52 dX12_area_52 rfl ?_
  refine am_aload_n 53 dX12_area_53 rfl ?_
  refine am_getfield 54 dX12_area_54 fX12_36 am_ue rfl ?_
  refine am_V0 57 (mc' := 0) (ms' := 0) (rc := 3) (rs := 19) dX12_area_57 lX12_62 ⟨by decide, by decide⟩ (am_un (by omega) hl) (Nat.le_of_ble_eq_true rfl) (Nat.le_of_ble_eq_true rfl) (s_size (am_un (by omega) hl)) ?_
  refine am_is_ct ?_
  refine am_iconst 60 (v := 4) dX12_area_60 (by decide) ?_
  refine am_icmp_ne 61 68 dX12_area_61 rfl (fun c61 => ?_) (fun c61 => absurd c61 (by decide))
  refine am_iconst 68 (v := 0) dX12_area_68 (by decide) ?_
  refine am_iconst 69 (v := 2) dX12_area_69 (by decide) ?_
  refine am_V2 70 (mc' := 0) (ms' := 0) (rc := 3) (rs := 19) dX12_area_70 lX12_43 ⟨by decide, by decide⟩ am_ue (Nat.le_of_ble_eq_true rfl) (Nat.le_of_ble_eq_true rfl) (s_refuse false (by decide) am_ue) ?_
  refine am_is_ct ?_
  refine am_if_eq 73 78 dX12_area_73 rfl (fun c73 => ?_) (fun c73 => absurd (by decide) c73)
  refine am_aload_n 78 dX12_area_78 rfl ?_
  refine am_getfield 79 dX12_area_79 fX12_36 am_ue rfl ?_
  refine am_new 82 (rc := 2) (rs := 14) (N := 5) dX12_area_82 nX12_66 ?_
  refine am_dup 85 dX12_area_85 rfl ?_
  refine am_iload_n 86 dX12_area_86 rfl ?_
  refine am_iload_n 87 dX12_area_87 rfl ?_
  refine am_iload_n 88 dX12_area_88 rfl ?_
  refine am_iload 89 dX12_area_89 rfl ?_
  refine am_I4 91 (mc' := 1) (ms' := 4) (rc := 1) (rs := 10) dX12_area_91 lX12_68 ⟨by decide, by decide⟩ (Nat.le_of_ble_eq_true rfl) (Nat.le_of_ble_eq_true rfl) (s_mArea_init am_ue) ?_
  rintro o n' f1 ⟨rfl, hn, ⟨vs, c1⟩, c2⟩
  obtain rfl : n' = n + 2 := hn
  refine ⟨_, rfl, ?_⟩
  have d1 : f1 (m + 4) = .inr (13, [.int 0, .ref 1, .int 0]) := (c2 _ (by omega)).trans (by rw [am_up_ne (by omega), am_up_ne (by omega), am_up_ne (by omega)]; exact hl)
  have d2 : ∃ rest, f1 m = .inr (12, .int 0 :: .ref (m + 1) :: .ref (m + 2) :: .int 0 :: .int 4 :: .int 12 :: .ref (m + 3) :: .ref (m + 4) :: rest) := ⟨_, (c2 _ (by omega)).trans (am_un (by omega) am_ue)⟩
  obtain ⟨rest, d2⟩ := d2
  refine am_V1 94 (mc' := 1) (ms' := 10) (rc := 0) (rs := 0) dX12_area_94 lX12_71 ⟨by decide, by decide⟩ d1 (Nat.le_of_ble_eq_true rfl) (Nat.le_of_ble_eq_true rfl) (s_add d1 (by omega) c1 (by omega) (by omega)) ?_
  rintro o n' f2 ⟨rfl, rfl, g1, g2⟩
  refine am_ct_in ?_
  refine am_pop 97 dX12_area_97 rfl ?_
  refine am_aload_n 98 dX12_area_98 rfl ?_
  refine am_getfield 99 dX12_area_99 fX12_36 ((g2 _ (by omega) (by omega)).trans d2) rfl ?_
  refine am_V0 102 (mc' := 0) (ms' := 0) (rc := 0) (rs := 0) dX12_area_102 lX12_62 ⟨by decide, by decide⟩ g1 (Nat.le_of_ble_eq_true rfl) (Nat.le_of_ble_eq_true rfl) (s_size g1) ?_
  refine am_is_ct ?_
  refine am_iconst 105 (v := 1) dX12_area_105 (by decide) ?_
  refine am_isub 106 dX12_area_106 ?_
  refine am_ireturn 107 dX12_area_107 rfl rfl ?_
  refine ⟨rfl, by omega, ⟨_, (g2 _ (by omega) (by omega)).trans d2⟩, fun x hx => ?_⟩
  rw [g2 x (by omega) (by omega), c2 x (by omega)]
  repeat rw [am_up_ne (by omega)]
theorem s_rarea_f {l r t b : Int32} (h : r_Mo f m th (fun _ => 0)) (hb : ¬ ((0 ≤ l ∧ l ≤ 7) ∧ (l ≤ r ∧ r ≤ 7) ∧ (0 ≤ t ∧ t ≤ 5) ∧ (t ≤ b ∧ b ≤ 5))) : AM mX12_area 0 0 [.ref m, .int l, .int r, .int t, .int b] n f (r_ans m n f (.int 0) 1) := by
  show AW mX12_area 0 0 0 [some (.ref m), some (.int l), some (.int r), some (.int t), some (.int b)] [] n f _
  rcases Classical.em (0 ≤ l ∧ l ≤ 7) with h1 | h1
  · rcases Classical.em (l ≤ r ∧ r ≤ 7) with h2 | h2
    · rcases Classical.em (0 ≤ t ∧ t ≤ 5) with h3 | h3
      · have h4 : ¬ (t ≤ b ∧ b ≤ 5) := fun z => hb ⟨h1, h2, h3, z⟩
        refine am_aload_n 0 dX12_area_0 rfl ?_
        refine am_iload_n 1 dX12_area_1 rfl ?_
        refine am_iconst 2 (v := 0) dX12_area_2 (by decide) ?_
        refine am_bipush 3 (v := 7) dX12_area_3 (by decide) ?_
        refine am_S3 5 (mc' := 0) (ms' := 0) (rc := 0) (rs := 0) dX12_area_5 lX12_3 ⟨by decide, by decide⟩ (Nat.le_of_ble_eq_true rfl) (Nat.le_of_ble_eq_true rfl) (s_isIn_t h1.1 h1.2) ?_
        refine am_is_ct ?_
        refine am_if_eq 8 40 dX12_area_8 rfl (fun c8 => absurd c8 (by decide)) (fun c8 => ?_)
        refine am_iload_n 11 dX12_area_11 rfl ?_
        refine am_iload_n 12 dX12_area_12 rfl ?_
        refine am_bipush 13 (v := 7) dX12_area_13 (by decide) ?_
        refine am_S3 15 (mc' := 0) (ms' := 0) (rc := 0) (rs := 0) dX12_area_15 lX12_3 ⟨by decide, by decide⟩ (Nat.le_of_ble_eq_true rfl) (Nat.le_of_ble_eq_true rfl) (s_isIn_t h2.1 h2.2) ?_
        refine am_is_ct ?_
        refine am_if_eq 18 40 dX12_area_18 rfl (fun c18 => absurd c18 (by decide)) (fun c18 => ?_)
        refine am_iload_n 21 dX12_area_21 rfl ?_
        refine am_iconst 22 (v := 0) dX12_area_22 (by decide) ?_
        refine am_iconst 23 (v := 5) dX12_area_23 (by decide) ?_
        refine am_S3 24 (mc' := 0) (ms' := 0) (rc := 0) (rs := 0) dX12_area_24 lX12_3 ⟨by decide, by decide⟩ (Nat.le_of_ble_eq_true rfl) (Nat.le_of_ble_eq_true rfl) (s_isIn_t h3.1 h3.2) ?_
        refine am_is_ct ?_
        refine am_if_eq 27 40 dX12_area_27 rfl (fun c27 => absurd c27 (by decide)) (fun c27 => ?_)
        refine am_iload 30 dX12_area_30 rfl ?_
        refine am_iload_n 32 dX12_area_32 rfl ?_
        refine am_iconst 33 (v := 5) dX12_area_33 (by decide) ?_
        refine am_S3 34 (mc' := 0) (ms' := 0) (rc := 0) (rs := 0) dX12_area_34 lX12_3 ⟨by decide, by decide⟩ (Nat.le_of_ble_eq_true rfl) (Nat.le_of_ble_eq_true rfl) (s_isIn_f h4) ?_
        refine am_is_ct ?_
        refine am_if_ne 37 44 dX12_area_37 rfl (fun c37 => absurd c37 (by decide)) (fun c37 => ?_)
        refine am_iconst 40 (v := 1) dX12_area_40 (by decide) ?_
        refine am_goto 41 (tgt := 45) dX12_area_41 rfl ?_
        refine am_iconst 45 (v := 1) dX12_area_45 (by decide) ?_
        refine am_V2 46 (mc' := 0) (ms' := 0) (rc := 0) (rs := 0) dX12_area_46 lX12_59 ⟨by decide, by decide⟩ h.1 (Nat.le_of_ble_eq_true rfl) (Nat.le_of_ble_eq_true rfl) (s_start true (by decide) h.1) ?_
        refine am_is_ct ?_
        refine am_if_ne 49 76 dX12_area_49 rfl (fun c49 => ?_) (fun c49 => absurd c49 (by decide))
        refine am_iconst 76 (v := 0) dX12_area_76 (by decide) ?_
        refine am_ireturn 77 dX12_area_77 rfl rfl ?_
        exact ⟨rfl, Nat.le_refl _, ⟨_, am_ue⟩, fun x hx => by repeat rw [am_up_ne (by omega)]⟩
      · refine am_aload_n 0 dX12_area_0 rfl ?_
        refine am_iload_n 1 dX12_area_1 rfl ?_
        refine am_iconst 2 (v := 0) dX12_area_2 (by decide) ?_
        refine am_bipush 3 (v := 7) dX12_area_3 (by decide) ?_
        refine am_S3 5 (mc' := 0) (ms' := 0) (rc := 0) (rs := 0) dX12_area_5 lX12_3 ⟨by decide, by decide⟩ (Nat.le_of_ble_eq_true rfl) (Nat.le_of_ble_eq_true rfl) (s_isIn_t h1.1 h1.2) ?_
        refine am_is_ct ?_
        refine am_if_eq 8 40 dX12_area_8 rfl (fun c8 => absurd c8 (by decide)) (fun c8 => ?_)
        refine am_iload_n 11 dX12_area_11 rfl ?_
        refine am_iload_n 12 dX12_area_12 rfl ?_
        refine am_bipush 13 (v := 7) dX12_area_13 (by decide) ?_
        refine am_S3 15 (mc' := 0) (ms' := 0) (rc := 0) (rs := 0) dX12_area_15 lX12_3 ⟨by decide, by decide⟩ (Nat.le_of_ble_eq_true rfl) (Nat.le_of_ble_eq_true rfl) (s_isIn_t h2.1 h2.2) ?_
        refine am_is_ct ?_
        refine am_if_eq 18 40 dX12_area_18 rfl (fun c18 => absurd c18 (by decide)) (fun c18 => ?_)
        refine am_iload_n 21 dX12_area_21 rfl ?_
        refine am_iconst 22 (v := 0) dX12_area_22 (by decide) ?_
        refine am_iconst 23 (v := 5) dX12_area_23 (by decide) ?_
        refine am_S3 24 (mc' := 0) (ms' := 0) (rc := 0) (rs := 0) dX12_area_24 lX12_3 ⟨by decide, by decide⟩ (Nat.le_of_ble_eq_true rfl) (Nat.le_of_ble_eq_true rfl) (s_isIn_f h3) ?_
        refine am_is_ct ?_
        refine am_if_eq 27 40 dX12_area_27 rfl (fun c27 => ?_) (fun c27 => absurd (by decide) c27)
        refine am_iconst 40 (v := 1) dX12_area_40 (by decide) ?_
        refine am_goto 41 (tgt := 45) dX12_area_41 rfl ?_
        refine am_iconst 45 (v := 1) dX12_area_45 (by decide) ?_
        refine am_V2 46 (mc' := 0) (ms' := 0) (rc := 0) (rs := 0) dX12_area_46 lX12_59 ⟨by decide, by decide⟩ h.1 (Nat.le_of_ble_eq_true rfl) (Nat.le_of_ble_eq_true rfl) (s_start true (by decide) h.1) ?_
        refine am_is_ct ?_
        refine am_if_ne 49 76 dX12_area_49 rfl (fun c49 => ?_) (fun c49 => absurd c49 (by decide))
        refine am_iconst 76 (v := 0) dX12_area_76 (by decide) ?_
        refine am_ireturn 77 dX12_area_77 rfl rfl ?_
        exact ⟨rfl, Nat.le_refl _, ⟨_, am_ue⟩, fun x hx => by repeat rw [am_up_ne (by omega)]⟩
    · refine am_aload_n 0 dX12_area_0 rfl ?_
      refine am_iload_n 1 dX12_area_1 rfl ?_
      refine am_iconst 2 (v := 0) dX12_area_2 (by decide) ?_
      refine am_bipush 3 (v := 7) dX12_area_3 (by decide) ?_
      refine am_S3 5 (mc' := 0) (ms' := 0) (rc := 0) (rs := 0) dX12_area_5 lX12_3 ⟨by decide, by decide⟩ (Nat.le_of_ble_eq_true rfl) (Nat.le_of_ble_eq_true rfl) (s_isIn_t h1.1 h1.2) ?_
      refine am_is_ct ?_
      refine am_if_eq 8 40 dX12_area_8 rfl (fun c8 => absurd c8 (by decide)) (fun c8 => ?_)
      refine am_iload_n 11 dX12_area_11 rfl ?_
      refine am_iload_n 12 dX12_area_12 rfl ?_
      refine am_bipush 13 (v := 7) dX12_area_13 (by decide) ?_
      refine am_S3 15 (mc' := 0) (ms' := 0) (rc := 0) (rs := 0) dX12_area_15 lX12_3 ⟨by decide, by decide⟩ (Nat.le_of_ble_eq_true rfl) (Nat.le_of_ble_eq_true rfl) (s_isIn_f h2) ?_
      refine am_is_ct ?_
      refine am_if_eq 18 40 dX12_area_18 rfl (fun c18 => ?_) (fun c18 => absurd (by decide) c18)
      refine am_iconst 40 (v := 1) dX12_area_40 (by decide) ?_
      refine am_goto 41 (tgt := 45) dX12_area_41 rfl ?_
      refine am_iconst 45 (v := 1) dX12_area_45 (by decide) ?_
      refine am_V2 46 (mc' := 0) (ms' := 0) (rc := 0) (rs := 0) dX12_area_46 lX12_59 ⟨by decide, by decide⟩ h.1 (Nat.le_of_ble_eq_true rfl) (Nat.le_of_ble_eq_true rfl) (s_start true (by decide) h.1) ?_
      refine am_is_ct ?_
      refine am_if_ne 49 76 dX12_area_49 rfl (fun c49 => ?_) (fun c49 => absurd c49 (by decide))
      refine am_iconst 76 (v := 0) dX12_area_76 (by decide) ?_
      refine am_ireturn 77 dX12_area_77 rfl rfl ?_
      exact ⟨rfl, Nat.le_refl _, ⟨_, am_ue⟩, fun x hx => by repeat rw [am_up_ne (by omega)]⟩
  · refine am_aload_n 0 dX12_area_0 rfl ?_
    refine am_iload_n 1 dX12_area_1 rfl ?_
    refine am_iconst 2 (v := 0) dX12_area_2 (by decide) ?_
    refine am_bipush 3 (v := 7) dX12_area_3 (by decide) ?_
    refine am_S3 5 (mc' := 0) (ms' := 0) (rc := 0) (rs := 0) dX12_area_5 lX12_3 ⟨by decide, by decide⟩ (Nat.le_of_ble_eq_true rfl) (Nat.le_of_ble_eq_true rfl) (s_isIn_f h1) ?_
    refine am_is_ct ?_
    refine am_if_eq 8 40 dX12_area_8 rfl (fun c8 => ?_) (fun c8 => absurd (by decide) c8)
    refine am_iconst 40 (v := 1) dX12_area_40 (by decide) ?_
    refine am_goto 41 (tgt := 45) dX12_area_41 rfl ?_
    refine am_iconst 45 (v := 1) dX12_area_45 (by decide) ?_
    refine am_V2 46 (mc' := 0) (ms' := 0) (rc := 0) (rs := 0) dX12_area_46 lX12_59 ⟨by decide, by decide⟩ h.1 (Nat.le_of_ble_eq_true rfl) (Nat.le_of_ble_eq_true rfl) (s_start true (by decide) h.1) ?_
    refine am_is_ct ?_
    refine am_if_ne 49 76 dX12_area_49 rfl (fun c49 => ?_) (fun c49 => absurd c49 (by decide))
    refine am_iconst 76 (v := 0) dX12_area_76 (by decide) ?_
    refine am_ireturn 77 dX12_area_77 rfl rfl ?_
    exact ⟨rfl, Nat.le_refl _, ⟨_, am_ue⟩, fun x hx => by repeat rw [am_up_ne (by omega)]⟩
/-! calls that refuse every argument here -/
theorem s_rofContact {x w : Int32} (h : r_Mo f m th (fun _ => 0)) : AM mX12_ofContact 0 0 [.ref m, .int x, .int w] n f (r_ans m n f (.int 0) 1) := by
  show AW mX12_ofContact 0 0 0 [some (.ref m), some (.int x), some (.int w)] [] n f _
  refine am_aload_n 0 dX12_ofContact_0 rfl ?_
  refine am_aload_n 1 dX12_ofContact_1 rfl ?_
  refine am_iload_n 2 dX12_ofContact_2 rfl ?_
  refine am_V1 3 (mc' := 0) (ms' := 0) (rc := 0) (rs := 0) dX12_ofContact_3 lX12_261 ⟨by decide, by decide⟩ h.1 (Nat.le_of_ble_eq_true rfl) (Nat.le_of_ble_eq_true rfl) (s_isNone0 h) ?_
  refine am_is_ct ?_
  refine am_iconst 6 (v := 1) dX12_ofContact_6 (by decide) ?_
  refine am_V2 7 (mc' := 0) (ms' := 0) (rc := 0) (rs := 0) dX12_ofContact_7 lX12_59 ⟨by decide, by decide⟩ h.1 (Nat.le_of_ble_eq_true rfl) (Nat.le_of_ble_eq_true rfl) (s_start true (by decide) h.1) ?_
  refine am_is_ct ?_
  refine am_if_ne 10 35 dX12_ofContact_10 rfl (fun c10 => ?_) (fun c10 => absurd c10 (by decide))
  refine am_iconst 35 (v := 0) dX12_ofContact_35 (by decide) ?_
  refine am_goto 36 (tgt := 49) dX12_ofContact_36 rfl ?_
  refine am_ireturn 49 dX12_ofContact_49 rfl rfl ?_
  exact ⟨rfl, Nat.le_refl _, ⟨_, am_ue⟩, fun x hx => by repeat rw [am_up_ne (by omega)]⟩
theorem s_rwhere {x w : Int32} (h : r_Mo f m th (fun _ => 0)) : AM mX12_where 0 0 [.ref m, .int x, .int w] n f (r_ans m n f (.double 0) 1) := by
  show AW mX12_where 0 0 0 [some (.ref m), some (.int x), some (.int w)] [] n f _
  refine am_aload_n 0 dX12_where_0 rfl ?_
  refine am_aload_n 1 dX12_where_1 rfl ?_
  refine am_iload_n 2 dX12_where_2 rfl ?_
  refine am_V1 3 (mc' := 0) (ms' := 0) (rc := 0) (rs := 0) dX12_where_3 lX12_261 ⟨by decide, by decide⟩ h.1 (Nat.le_of_ble_eq_true rfl) (Nat.le_of_ble_eq_true rfl) (s_isNone0 h) ?_
  refine am_is_ct ?_
  refine am_iconst 6 (v := 1) dX12_where_6 (by decide) ?_
  refine am_V2 7 (mc' := 0) (ms' := 0) (rc := 0) (rs := 0) dX12_where_7 lX12_59 ⟨by decide, by decide⟩ h.1 (Nat.le_of_ble_eq_true rfl) (Nat.le_of_ble_eq_true rfl) (s_start true (by decide) h.1) ?_
  refine am_is_ct ?_
  refine am_if_ne 10 35 dX12_where_10 rfl (fun c10 => ?_) (fun c10 => absurd c10 (by decide))
  refine am_dconst0 35 dX12_where_35 ?_
  refine am_goto 36 (tgt := 49) dX12_where_36 rfl ?_
  refine am_dreturn 49 dX12_where_49 rfl ?_
  exact ⟨rfl, Nat.le_refl _, ⟨_, am_ue⟩, fun x hx => by repeat rw [am_up_ne (by omega)]⟩
theorem s_rapart {x w : Int32} (h : r_Mo f m th (fun _ => 0)) : AM mX12_apart 0 0 [.ref m, .int x, .int w] n f (r_ans m n f (.double 0) 1) := by
  show AW mX12_apart 0 0 0 [some (.ref m), some (.int x), some (.int w)] [] n f _
  refine am_aload_n 0 dX12_apart_0 rfl ?_
  refine am_aload_n 1 dX12_apart_1 rfl ?_
  refine am_iload_n 2 dX12_apart_2 rfl ?_
  refine am_V1 3 (mc' := 0) (ms' := 0) (rc := 0) (rs := 0) dX12_apart_3 lX12_261 ⟨by decide, by decide⟩ h.1 (Nat.le_of_ble_eq_true rfl) (Nat.le_of_ble_eq_true rfl) (s_isNone0 h) ?_
  refine am_is_ct ?_
  refine am_if_ne 6 17 dX12_apart_6 rfl (fun c6 => ?_) (fun c6 => absurd c6 (by decide))
  refine am_iconst 17 (v := 1) dX12_apart_17 (by decide) ?_
  refine am_goto 18 (tgt := 22) dX12_apart_18 rfl ?_
  refine am_iconst 22 (v := 1) dX12_apart_22 (by decide) ?_
  refine am_V2 23 (mc' := 0) (ms' := 0) (rc := 0) (rs := 0) dX12_apart_23 lX12_59 ⟨by decide, by decide⟩ h.1 (Nat.le_of_ble_eq_true rfl) (Nat.le_of_ble_eq_true rfl) (s_start true (by decide) h.1) ?_
  refine am_is_ct ?_
  refine am_if_eq 26 33 dX12_apart_26 rfl (fun c26 => absurd c26 (by decide)) (fun c26 => ?_)
  refine am_dconst0 29 dX12_apart_29 ?_
  refine am_goto 30 (tgt := 49) dX12_apart_30 rfl ?_
  refine am_dreturn 49 dX12_apart_49 rfl ?_
  exact ⟨rfl, Nat.le_refl _, ⟨_, am_ue⟩, fun x hx => by repeat rw [am_up_ne (by omega)]⟩
theorem s_rguess {x w b : Int32} (h : r_Mo f m th (fun _ => 0)) : AM mX12_guess 0 0 [.ref m, .int x, .int w, .int b] n f (r_ans m n f (.double 0) 1) := by
  show AW mX12_guess 0 0 0 [some (.ref m), some (.int x), some (.int w), some (.int b)] [] n f _
  refine am_aload_n 0 dX12_guess_0 rfl ?_
  refine am_aload_n 1 dX12_guess_1 rfl ?_
  refine am_iload_n 2 dX12_guess_2 rfl ?_
  refine am_V1 3 (mc' := 0) (ms' := 0) (rc := 0) (rs := 0) dX12_guess_3 lX12_261 ⟨by decide, by decide⟩ h.1 (Nat.le_of_ble_eq_true rfl) (Nat.le_of_ble_eq_true rfl) (s_isNone0 h) ?_
  refine am_is_ct ?_
  refine am_iconst 6 (v := 1) dX12_guess_6 (by decide) ?_
  refine am_V2 7 (mc' := 0) (ms' := 0) (rc := 0) (rs := 0) dX12_guess_7 lX12_59 ⟨by decide, by decide⟩ h.1 (Nat.le_of_ble_eq_true rfl) (Nat.le_of_ble_eq_true rfl) (s_start true (by decide) h.1) ?_
  refine am_is_ct ?_
  refine am_if_ne 10 36 dX12_guess_10 rfl (fun c10 => ?_) (fun c10 => absurd c10 (by decide))
  refine am_dconst0 36 dX12_guess_36 ?_
  refine am_goto 37 (tgt := 51) dX12_guess_37 rfl ?_
  refine am_dreturn 51 dX12_guess_51 rfl ?_
  exact ⟨rfl, Nat.le_refl _, ⟨_, am_ue⟩, fun x hx => by repeat rw [am_up_ne (by omega)]⟩
theorem s_rwouldMatch {x : Int32} (h : r_Mo f m th (fun _ => 0)) : AM mX12_wouldMatch 0 0 [.ref m, .int x] n f (r_ans m n f (.int 0) 1) := by
  show AW mX12_wouldMatch 0 0 0 [some (.ref m), some (.int x)] [] n f _
  refine am_aload_n 0 dX12_wouldMatch_0 rfl ?_
  refine am_aload_n 1 dX12_wouldMatch_1 rfl ?_
  refine am_iload_n 2 dX12_wouldMatch_2 rfl ?_
  refine am_V1 3 (mc' := 0) (ms' := 0) (rc := 0) (rs := 0) dX12_wouldMatch_3 lX12_261 ⟨by decide, by decide⟩ h.1 (Nat.le_of_ble_eq_true rfl) (Nat.le_of_ble_eq_true rfl) (s_isNone0 h) ?_
  refine am_is_ct ?_
  refine am_iconst 6 (v := 1) dX12_wouldMatch_6 (by decide) ?_
  refine am_V2 7 (mc' := 0) (ms' := 0) (rc := 0) (rs := 0) dX12_wouldMatch_7 lX12_59 ⟨by decide, by decide⟩ h.1 (Nat.le_of_ble_eq_true rfl) (Nat.le_of_ble_eq_true rfl) (s_start true (by decide) h.1) ?_
  refine am_is_ct ?_
  refine am_if_eq 10 17 dX12_wouldMatch_10 rfl (fun c10 => absurd c10 (by decide)) (fun c10 => ?_)
  refine am_iconst 13 (v := 0) dX12_wouldMatch_13 (by decide) ?_
  refine am_goto 14 (tgt := 26) dX12_wouldMatch_14 rfl ?_
  refine am_ireturn 26 dX12_wouldMatch_26 rfl rfl ?_
  exact ⟨rfl, Nat.le_refl _, ⟨_, am_ue⟩, fun x hx => by repeat rw [am_up_ne (by omega)]⟩
theorem s_rkeepBy {x w : Int32} (h : r_Mo f m th (fun _ => 0)) : AM mX12_keepBy 0 0 [.ref m, .int x, .int w] n f (r_ans m n f (.int 0) 1) := by
  show AW mX12_keepBy 0 0 0 [some (.ref m), some (.int x), some (.int w)] [] n f _
  refine am_aload_n 0 dX12_keepBy_0 rfl ?_
  refine am_aload_n 1 dX12_keepBy_1 rfl ?_
  refine am_iload_n 2 dX12_keepBy_2 rfl ?_
  refine am_V1 3 (mc' := 0) (ms' := 0) (rc := 0) (rs := 0) dX12_keepBy_3 lX12_261 ⟨by decide, by decide⟩ h.1 (Nat.le_of_ble_eq_true rfl) (Nat.le_of_ble_eq_true rfl) (s_isNone0 h) ?_
  refine am_is_ct ?_
  refine am_iconst 6 (v := 1) dX12_keepBy_6 (by decide) ?_
  refine am_V2 7 (mc' := 0) (ms' := 0) (rc := 0) (rs := 0) dX12_keepBy_7 lX12_59 ⟨by decide, by decide⟩ h.1 (Nat.le_of_ble_eq_true rfl) (Nat.le_of_ble_eq_true rfl) (s_start true (by decide) h.1) ?_
  refine am_is_ct ?_
  refine am_if_ne 10 37 dX12_keepBy_10 rfl (fun c10 => ?_) (fun c10 => absurd c10 (by decide))
  refine am_iconst 37 (v := 0) dX12_keepBy_37 (by decide) ?_
  refine am_goto 38 (tgt := 47) dX12_keepBy_38 rfl ?_
  refine am_ireturn 47 dX12_keepBy_47 rfl rfl ?_
  exact ⟨rfl, Nat.le_refl _, ⟨_, am_ue⟩, fun x hx => by repeat rw [am_up_ne (by omega)]⟩
theorem r_none {x : Int32} : ¬ (0 ≤ x ∧ x ≤ 0 - 1) := fun z => by
  have h1 := Int32.le_iff_toInt_le.mp z.1
  have h2 := Int32.le_iff_toInt_le.mp z.2
  rw [show (0 : Int32).toInt = 0 from rfl] at h1
  rw [show (0 - 1 : Int32).toInt = -1 from rfl] at h2
  omega
theorem s_rofArea {x w : Int32} (h : r_Mo f m th (fun _ => 0)) : AM mX12_ofArea 0 0 [.ref m, .int x, .int w] n f (r_ans m n f (.int 0) 1) := by
  have h0 := h.1
  have hl := h.2.2.2.2
  unfold r_mo at h0
  show AW mX12_ofArea 0 0 0 [some (.ref m), some (.int x), some (.int w)] [] n f _
  refine am_aload_n 0 dX12_ofArea_0 rfl ?_
  refine am_iload_n 1 dX12_ofArea_1 rfl ?_
  refine am_iconst 2 (v := 0) dX12_ofArea_2 (by decide) ?_
  refine am_aload_n 3 dX12_ofArea_3 rfl ?_
  refine am_getfield 4 dX12_ofArea_4 fX12_36 (by repeat (first | assumption | exact am_ue | refine am_un (by first | assumption | decide | omega) ?_)) rfl ?_
  refine am_V0 7 (mc' := 0) (ms' := 0) (rc := 0) (rs := 0) dX12_ofArea_7 lX12_62 ⟨by decide, by decide⟩ (by repeat (first | assumption | exact am_ue | refine am_un (by first | assumption | decide | omega) ?_)) (Nat.le_of_ble_eq_true rfl) (Nat.le_of_ble_eq_true rfl) (s_size hl) ?_
  refine am_is_ct ?_
  refine am_iconst 10 (v := 1) dX12_ofArea_10 (by decide) ?_
  refine am_isub 11 dX12_ofArea_11 ?_
  refine am_S3 12 (mc' := 0) (ms' := 0) (rc := 0) (rs := 0) dX12_ofArea_12 lX12_3 ⟨by decide, by decide⟩ (Nat.le_of_ble_eq_true rfl) (Nat.le_of_ble_eq_true rfl) (s_isIn_f r_none) ?_
  refine am_is_ct ?_
  refine am_if_ne 15 22 dX12_ofArea_15 rfl (fun c15 => absurd c15 (by decide)) (fun c15 => ?_)
  refine am_iconst 18 (v := 1) dX12_ofArea_18 (by decide) ?_
  refine am_goto 19 (tgt := 23) dX12_ofArea_19 rfl ?_
  refine am_iconst 23 (v := 1) dX12_ofArea_23 (by decide) ?_
  refine am_V2 24 (mc' := 0) (ms' := 0) (rc := 0) (rs := 0) dX12_ofArea_24 lX12_59 ⟨by decide, by decide⟩ h.1 (Nat.le_of_ble_eq_true rfl) (Nat.le_of_ble_eq_true rfl) (s_start true (by decide) h.1) ?_
  refine am_is_ct ?_
  refine am_if_ne 27 52 dX12_ofArea_27 rfl (fun c27 => ?_) (fun c27 => absurd c27 (by decide))
  refine am_iconst 52 (v := 0) dX12_ofArea_52 (by decide) ?_
  refine am_goto 53 (tgt := 62) dX12_ofArea_53 rfl ?_
  refine am_ireturn 62 dX12_ofArea_62 rfl rfl ?_
  exact ⟨rfl, Nat.le_refl _, ⟨_, am_ue⟩, fun x hx => by repeat rw [am_up_ne (by omega)]⟩
theorem r_Mo.V {f' : Nat → am_C} {w : Nat → Int32} (h : r_Mo f m th w) (hm : m + 4 < n) (e : ∀ x, x < n → f' x = f x) : r_Mo f' m th w := h.on fun x a b => e x (by omega)
theorem s_rofPeak {x w : Int32} (h : r_Mo f m th (fun _ => 0)) (hm : m + 4 < n) : AM mX12_ofPeak 7 292 [.ref m, .int x, .int w] n f (r_ans m n f (.int 0) 1) := by
  show AW mX12_ofPeak 7 292 0 [some (.ref m), some (.int x), some (.int w), none] [] n f _
  refine am_aload_n 0 dX12_ofPeak_0 rfl ?_
  refine am_V0 1 (mc' := 7) (ms' := 292) (rc := 0) (rs := 0) dX12_ofPeak_1 lX12_92 ⟨by decide, by decide⟩ h.1 (Nat.le_of_ble_eq_true rfl) (Nat.le_of_ble_eq_true rfl) (s_view h hm) ?_
  rintro o n' f1 ⟨rfl, rfl, hV, e1⟩
  have hV0 := hV.zero
  have v0 := hV0.1
  have h1 := h.V hm e1
  refine am_ct_in ?_
  refine am_astore_n 4 dX12_ofPeak_4 (by decide) ?_
  refine am_aload_n 5 dX12_ofPeak_5 rfl ?_
  refine am_iload_n 6 dX12_ofPeak_6 rfl ?_
  refine am_iconst 7 (v := 0) dX12_ofPeak_7 (by decide) ?_
  refine am_aload_n 8 dX12_ofPeak_8 rfl ?_
  refine am_getfield 9 dX12_ofPeak_9 fX12_212 (by repeat (first | assumption | exact am_ue | refine am_un (by first | assumption | decide | omega) ?_)) rfl ?_
  refine am_iconst 12 (v := 1) dX12_ofPeak_12 (by decide) ?_
  refine am_isub 13 dX12_ofPeak_13 ?_
  refine am_S3 14 (mc' := 0) (ms' := 0) (rc := 0) (rs := 0) dX12_ofPeak_14 lX12_3 ⟨by decide, by decide⟩ (Nat.le_of_ble_eq_true rfl) (Nat.le_of_ble_eq_true rfl) (s_isIn_f r_none) ?_
  refine am_is_ct ?_
  refine am_if_ne 17 24 dX12_ofPeak_17 rfl (fun c17 => absurd c17 (by decide)) (fun c17 => ?_)
  refine am_iconst 20 (v := 1) dX12_ofPeak_20 (by decide) ?_
  refine am_goto 21 (tgt := 25) dX12_ofPeak_21 rfl ?_
  refine am_iconst 25 (v := 1) dX12_ofPeak_25 (by decide) ?_
  refine am_V2 26 (mc' := 0) (ms' := 0) (rc := 0) (rs := 0) dX12_ofPeak_26 lX12_59 ⟨by decide, by decide⟩ h1.1 (Nat.le_of_ble_eq_true rfl) (Nat.le_of_ble_eq_true rfl) (s_start true (by decide) h1.1) ?_
  refine am_is_ct ?_
  refine am_if_ne 29 54 dX12_ofPeak_29 rfl (fun c29 => ?_) (fun c29 => absurd c29 (by decide))
  refine am_iconst 54 (v := 0) dX12_ofPeak_54 (by decide) ?_
  refine am_goto 55 (tgt := 64) dX12_ofPeak_55 rfl ?_
  refine am_ireturn 64 dX12_ofPeak_64 rfl rfl ?_
  exact ⟨rfl, by omega, ⟨_, am_ue⟩, fun x hx => by rw [am_up_ne (by omega)]; exact e1 x (by omega)⟩
theorem s_rmany_f {w : Int32} (h : r_Mo f m th (fun _ => 0)) (hw : ¬ (0 ≤ w ∧ w ≤ 9)) : AM mX12_many 0 0 [.ref m, .int w] n f (r_ans m n f (.int 0) 1) := by
  show AW mX12_many 0 0 0 [some (.ref m), some (.int w)] [] n f _
  refine am_aload_n 0 dX12_many_0 rfl ?_
  refine am_iload_n 1 dX12_many_1 rfl ?_
  refine am_iconst 2 (v := 0) dX12_many_2 (by decide) ?_
  refine am_bipush 3 (v := 9) dX12_many_3 (by decide) ?_
  refine am_S3 5 (mc' := 0) (ms' := 0) (rc := 0) (rs := 0) dX12_many_5 lX12_3 ⟨by decide, by decide⟩ (Nat.le_of_ble_eq_true rfl) (Nat.le_of_ble_eq_true rfl) (s_isIn_f hw) ?_
  refine am_is_ct ?_
  refine am_if_ne 8 15 dX12_many_8 rfl (fun c8 => absurd c8 (by decide)) (fun c8 => ?_)
  refine am_iconst 11 (v := 1) dX12_many_11 (by decide) ?_
  refine am_goto 12 (tgt := 16) dX12_many_12 rfl ?_
  refine am_iconst 16 (v := 1) dX12_many_16 (by decide) ?_
  refine am_V2 17 (mc' := 0) (ms' := 0) (rc := 0) (rs := 0) dX12_many_17 lX12_59 ⟨by decide, by decide⟩ h.1 (Nat.le_of_ble_eq_true rfl) (Nat.le_of_ble_eq_true rfl) (s_start true (by decide) h.1) ?_
  refine am_is_ct ?_
  refine am_if_eq 20 27 dX12_many_20 rfl (fun c20 => absurd c20 (by decide)) (fun c20 => ?_)
  refine am_iconst 23 (v := 0) dX12_many_23 (by decide) ?_
  refine am_goto 24 (tgt := 36) dX12_many_24 rfl ?_
  refine am_ireturn 36 dX12_many_36 rfl rfl ?_
  exact ⟨rfl, Nat.le_refl _, ⟨_, am_ue⟩, fun x hx => by repeat rw [am_up_ne (by omega)]⟩
theorem s_rofRow_f1 {y w : Int32} (h : r_Mo f m th (fun _ => 0)) (hy : ¬ (0 ≤ y ∧ y ≤ 5)) : AM mX12_ofRow 0 0 [.ref m, .int y, .int w] n f (r_ans m n f (.int 0) 1) := by
  show AW mX12_ofRow 0 0 0 [some (.ref m), some (.int y), some (.int w)] [] n f _
  refine am_aload_n 0 dX12_ofRow_0 rfl ?_
  refine am_iload_n 1 dX12_ofRow_1 rfl ?_
  refine am_iconst 2 (v := 0) dX12_ofRow_2 (by decide) ?_
  refine am_iconst 3 (v := 5) dX12_ofRow_3 (by decide) ?_
  refine am_S3 4 (mc' := 0) (ms' := 0) (rc := 0) (rs := 0) dX12_ofRow_4 lX12_3 ⟨by decide, by decide⟩ (Nat.le_of_ble_eq_true rfl) (Nat.le_of_ble_eq_true rfl) (s_isIn_f hy) ?_
  refine am_is_ct ?_
  refine am_if_ne 7 14 dX12_ofRow_7 rfl (fun c7 => absurd c7 (by decide)) (fun c7 => ?_)
  refine am_iconst 10 (v := 1) dX12_ofRow_10 (by decide) ?_
  refine am_goto 11 (tgt := 15) dX12_ofRow_11 rfl ?_
  refine am_iconst 15 (v := 1) dX12_ofRow_15 (by decide) ?_
  refine am_V2 16 (mc' := 0) (ms' := 0) (rc := 0) (rs := 0) dX12_ofRow_16 lX12_59 ⟨by decide, by decide⟩ h.1 (Nat.le_of_ble_eq_true rfl) (Nat.le_of_ble_eq_true rfl) (s_start true (by decide) h.1) ?_
  refine am_is_ct ?_
  refine am_if_ne 19 44 dX12_ofRow_19 rfl (fun c19 => ?_) (fun c19 => absurd c19 (by decide))
  refine am_iconst 44 (v := 0) dX12_ofRow_44 (by decide) ?_
  refine am_goto 45 (tgt := 57) dX12_ofRow_45 rfl ?_
  refine am_ireturn 57 dX12_ofRow_57 rfl rfl ?_
  exact ⟨rfl, Nat.le_refl _, ⟨_, am_ue⟩, fun x hx => by repeat rw [am_up_ne (by omega)]⟩
theorem s_rofRow_f2 {y w : Int32} (h : r_Mo f m th (fun _ => 0)) (hy : 0 ≤ y ∧ y ≤ 5) (hw : ¬ (0 ≤ w ∧ w ≤ 2)) : AM mX12_ofRow 0 0 [.ref m, .int y, .int w] n f (r_ans m n f (.int 0) 2) := by
  show AW mX12_ofRow 0 0 0 [some (.ref m), some (.int y), some (.int w)] [] n f _
  refine am_aload_n 0 dX12_ofRow_0 rfl ?_
  refine am_iload_n 1 dX12_ofRow_1 rfl ?_
  refine am_iconst 2 (v := 0) dX12_ofRow_2 (by decide) ?_
  refine am_iconst 3 (v := 5) dX12_ofRow_3 (by decide) ?_
  refine am_S3 4 (mc' := 0) (ms' := 0) (rc := 0) (rs := 0) dX12_ofRow_4 lX12_3 ⟨by decide, by decide⟩ (Nat.le_of_ble_eq_true rfl) (Nat.le_of_ble_eq_true rfl) (s_isIn_t hy.1 hy.2) ?_
  refine am_is_ct ?_
  refine am_if_ne 7 14 dX12_ofRow_7 rfl (fun c7 => ?_) (fun c7 => absurd c7 (by decide))
  refine am_iconst 14 (v := 0) dX12_ofRow_14 (by decide) ?_
  refine am_iconst 15 (v := 1) dX12_ofRow_15 (by decide) ?_
  refine am_V2 16 (mc' := 0) (ms' := 0) (rc := 0) (rs := 0) dX12_ofRow_16 lX12_59 ⟨by decide, by decide⟩ h.1 (Nat.le_of_ble_eq_true rfl) (Nat.le_of_ble_eq_true rfl) (s_start false (by decide) h.1) ?_
  refine am_is_ct ?_
  refine am_if_ne 19 44 dX12_ofRow_19 rfl (fun c19 => absurd c19 (by decide)) (fun c19 => ?_)
  refine am_aload_n 22 dX12_ofRow_22 rfl ?_
  refine am_iload_n 23 dX12_ofRow_23 rfl ?_
  refine am_iconst 24 (v := 0) dX12_ofRow_24 (by decide) ?_
  refine am_iconst 25 (v := 2) dX12_ofRow_25 (by decide) ?_
  refine am_S3 26 (mc' := 0) (ms' := 0) (rc := 0) (rs := 0) dX12_ofRow_26 lX12_3 ⟨by decide, by decide⟩ (Nat.le_of_ble_eq_true rfl) (Nat.le_of_ble_eq_true rfl) (s_isIn_f hw) ?_
  refine am_is_ct ?_
  refine am_if_ne 29 36 dX12_ofRow_29 rfl (fun c29 => absurd c29 (by decide)) (fun c29 => ?_)
  refine am_iconst 32 (v := 1) dX12_ofRow_32 (by decide) ?_
  refine am_goto 33 (tgt := 37) dX12_ofRow_33 rfl ?_
  refine am_iconst 37 (v := 2) dX12_ofRow_37 (by decide) ?_
  refine am_V2 38 (mc' := 0) (ms' := 0) (rc := 0) (rs := 0) dX12_ofRow_38 lX12_43 ⟨by decide, by decide⟩ am_ue (Nat.le_of_ble_eq_true rfl) (Nat.le_of_ble_eq_true rfl) (s_refuse true (by decide) am_ue) ?_
  refine am_is_ct ?_
  refine am_if_eq 41 48 dX12_ofRow_41 rfl (fun c41 => absurd c41 (by decide)) (fun c41 => ?_)
  refine am_iconst 44 (v := 0) dX12_ofRow_44 (by decide) ?_
  refine am_goto 45 (tgt := 57) dX12_ofRow_45 rfl ?_
  refine am_ireturn 57 dX12_ofRow_57 rfl rfl ?_
  exact ⟨rfl, Nat.le_refl _, ⟨_, am_ue⟩, fun x hx => by repeat rw [am_up_ne (by omega)]⟩
theorem s_rnoise_f1 {y w : Int32} (h : r_Mo f m th (fun _ => 0)) (hy : ¬ (0 ≤ y ∧ y ≤ 5)) : AM mX12_noise 0 0 [.ref m, .int y, .int w] n f (r_ans m n f (.int 0) 1) := by
  show AW mX12_noise 0 0 0 [some (.ref m), some (.int y), some (.int w), none] [] n f _
  refine am_aload_n 0 dX12_noise_0 rfl ?_
  refine am_iload_n 1 dX12_noise_1 rfl ?_
  refine am_iconst 2 (v := 0) dX12_noise_2 (by decide) ?_
  refine am_iconst 3 (v := 5) dX12_noise_3 (by decide) ?_
  refine am_S3 4 (mc' := 0) (ms' := 0) (rc := 0) (rs := 0) dX12_noise_4 lX12_3 ⟨by decide, by decide⟩ (Nat.le_of_ble_eq_true rfl) (Nat.le_of_ble_eq_true rfl) (s_isIn_f hy) ?_
  refine am_is_ct ?_
  refine am_if_ne 7 14 dX12_noise_7 rfl (fun c7 => absurd c7 (by decide)) (fun c7 => ?_)
  refine am_iconst 10 (v := 1) dX12_noise_10 (by decide) ?_
  refine am_goto 11 (tgt := 15) dX12_noise_11 rfl ?_
  refine am_iconst 15 (v := 1) dX12_noise_15 (by decide) ?_
  refine am_V2 16 (mc' := 0) (ms' := 0) (rc := 0) (rs := 0) dX12_noise_16 lX12_59 ⟨by decide, by decide⟩ h.1 (Nat.le_of_ble_eq_true rfl) (Nat.le_of_ble_eq_true rfl) (s_start true (by decide) h.1) ?_
  refine am_is_ct ?_
  refine am_if_ne 19 46 dX12_noise_19 rfl (fun c19 => ?_) (fun c19 => absurd c19 (by decide))
  refine am_iconst 46 (v := 0) dX12_noise_46 (by decide) ?_
  refine am_ireturn 47 dX12_noise_47 rfl rfl ?_
  exact ⟨rfl, Nat.le_refl _, ⟨_, am_ue⟩, fun x hx => by repeat rw [am_up_ne (by omega)]⟩
theorem s_rnoise_f2 {y w : Int32} (h : r_Mo f m th (fun _ => 0)) (hy : 0 ≤ y ∧ y ≤ 5) (hw : ¬ (-40 ≤ w ∧ w ≤ 40)) : AM mX12_noise 0 0 [.ref m, .int y, .int w] n f (r_ans m n f (.int 0) 2) := by
  show AW mX12_noise 0 0 0 [some (.ref m), some (.int y), some (.int w), none] [] n f _
  refine am_aload_n 0 dX12_noise_0 rfl ?_
  refine am_iload_n 1 dX12_noise_1 rfl ?_
  refine am_iconst 2 (v := 0) dX12_noise_2 (by decide) ?_
  refine am_iconst 3 (v := 5) dX12_noise_3 (by decide) ?_
  refine am_S3 4 (mc' := 0) (ms' := 0) (rc := 0) (rs := 0) dX12_noise_4 lX12_3 ⟨by decide, by decide⟩ (Nat.le_of_ble_eq_true rfl) (Nat.le_of_ble_eq_true rfl) (s_isIn_t hy.1 hy.2) ?_
  refine am_is_ct ?_
  refine am_if_ne 7 14 dX12_noise_7 rfl (fun c7 => ?_) (fun c7 => absurd c7 (by decide))
  refine am_iconst 14 (v := 0) dX12_noise_14 (by decide) ?_
  refine am_iconst 15 (v := 1) dX12_noise_15 (by decide) ?_
  refine am_V2 16 (mc' := 0) (ms' := 0) (rc := 0) (rs := 0) dX12_noise_16 lX12_59 ⟨by decide, by decide⟩ h.1 (Nat.le_of_ble_eq_true rfl) (Nat.le_of_ble_eq_true rfl) (s_start false (by decide) h.1) ?_
  refine am_is_ct ?_
  refine am_if_ne 19 46 dX12_noise_19 rfl (fun c19 => absurd c19 (by decide)) (fun c19 => ?_)
  refine am_aload_n 22 dX12_noise_22 rfl ?_
  refine am_iload_n 23 dX12_noise_23 rfl ?_
  refine am_bipush 24 (v := (-40)) dX12_noise_24 (by decide) ?_
  refine am_bipush 26 (v := 40) dX12_noise_26 (by decide) ?_
  refine am_S3 28 (mc' := 0) (ms' := 0) (rc := 0) (rs := 0) dX12_noise_28 lX12_3 ⟨by decide, by decide⟩ (Nat.le_of_ble_eq_true rfl) (Nat.le_of_ble_eq_true rfl) (s_isIn_f hw) ?_
  refine am_is_ct ?_
  refine am_if_ne 31 38 dX12_noise_31 rfl (fun c31 => absurd c31 (by decide)) (fun c31 => ?_)
  refine am_iconst 34 (v := 1) dX12_noise_34 (by decide) ?_
  refine am_goto 35 (tgt := 39) dX12_noise_35 rfl ?_
  refine am_iconst 39 (v := 2) dX12_noise_39 (by decide) ?_
  refine am_V2 40 (mc' := 0) (ms' := 0) (rc := 0) (rs := 0) dX12_noise_40 lX12_43 ⟨by decide, by decide⟩ am_ue (Nat.le_of_ble_eq_true rfl) (Nat.le_of_ble_eq_true rfl) (s_refuse true (by decide) am_ue) ?_
  refine am_is_ct ?_
  refine am_if_eq 43 48 dX12_noise_43 rfl (fun c43 => absurd c43 (by decide)) (fun c43 => ?_)
  refine am_iconst 46 (v := 0) dX12_noise_46 (by decide) ?_
  refine am_ireturn 47 dX12_noise_47 rfl rfl ?_
  exact ⟨rfl, Nat.le_refl _, ⟨_, am_ue⟩, fun x hx => by repeat rw [am_up_ne (by omega)]⟩
theorem s_rpress_f1 {x y s : Int32} (h : r_Mo f m th (fun _ => 0)) (hb : x < 0 ∨ 8 ≤ x ∨ y < 0 ∨ 6 ≤ y) : AM mX12_press 0 0 [.ref m, .int x, .int y, .int s] n f (r_ans m n f (.int 0) 1) := by
  show AW mX12_press 0 0 0 [some (.ref m), some (.int x), some (.int y), some (.int s)] [] n f _
  refine am_aload_n 0 dX12_press_0 rfl ?_
  refine am_iload_n 1 dX12_press_1 rfl ?_
  refine am_iload_n 2 dX12_press_2 rfl ?_
  refine am_S2 3 (mc' := 0) (ms' := 0) (rc := 0) (rs := 0) dX12_press_3 lX12_75 ⟨by decide, by decide⟩ (Nat.le_of_ble_eq_true rfl) (Nat.le_of_ble_eq_true rfl) (s_isGlass_f hb) ?_
  refine am_is_ct ?_
  refine am_if_ne 6 13 dX12_press_6 rfl (fun c6 => absurd c6 (by decide)) (fun c6 => ?_)
  refine am_iconst 9 (v := 1) dX12_press_9 (by decide) ?_
  refine am_goto 10 (tgt := 14) dX12_press_10 rfl ?_
  refine am_iconst 14 (v := 1) dX12_press_14 (by decide) ?_
  refine am_V2 15 (mc' := 0) (ms' := 0) (rc := 0) (rs := 0) dX12_press_15 lX12_59 ⟨by decide, by decide⟩ h.1 (Nat.le_of_ble_eq_true rfl) (Nat.le_of_ble_eq_true rfl) (s_start true (by decide) h.1) ?_
  refine am_is_ct ?_
  refine am_if_ne 18 45 dX12_press_18 rfl (fun c18 => ?_) (fun c18 => absurd c18 (by decide))
  refine am_iconst 45 (v := 0) dX12_press_45 (by decide) ?_
  refine am_ireturn 46 dX12_press_46 rfl rfl ?_
  exact ⟨rfl, Nat.le_refl _, ⟨_, am_ue⟩, fun x hx => by repeat rw [am_up_ne (by omega)]⟩
theorem s_rpress_f2 {j k : Nat} {s : Int32} (h : r_Mo f m th (fun _ => 0)) (hj : j < 8) (hk : k < 6) (hs : ¬ (1 ≤ s ∧ s ≤ 200)) : AM mX12_press 0 0 [.ref m, .int (nI j), .int (nI k), .int s] n f (r_ans m n f (.int 0) 2) := by
  show AW mX12_press 0 0 0 [some (.ref m), some (.int (nI j)), some (.int (nI k)), some (.int s)] [] n f _
  refine am_aload_n 0 dX12_press_0 rfl ?_
  refine am_iload_n 1 dX12_press_1 rfl ?_
  refine am_iload_n 2 dX12_press_2 rfl ?_
  refine am_S2 3 (mc' := 0) (ms' := 0) (rc := 0) (rs := 0) dX12_press_3 lX12_75 ⟨by decide, by decide⟩ (Nat.le_of_ble_eq_true rfl) (Nat.le_of_ble_eq_true rfl) (s_isGlass_t hj hk) ?_
  refine am_is_ct ?_
  refine am_if_ne 6 13 dX12_press_6 rfl (fun c6 => ?_) (fun c6 => absurd c6 (by decide))
  refine am_iconst 13 (v := 0) dX12_press_13 (by decide) ?_
  refine am_iconst 14 (v := 1) dX12_press_14 (by decide) ?_
  refine am_V2 15 (mc' := 0) (ms' := 0) (rc := 0) (rs := 0) dX12_press_15 lX12_59 ⟨by decide, by decide⟩ h.1 (Nat.le_of_ble_eq_true rfl) (Nat.le_of_ble_eq_true rfl) (s_start false (by decide) h.1) ?_
  refine am_is_ct ?_
  refine am_if_ne 18 45 dX12_press_18 rfl (fun c18 => absurd c18 (by decide)) (fun c18 => ?_)
  refine am_aload_n 21 dX12_press_21 rfl ?_
  refine am_iload_n 22 dX12_press_22 rfl ?_
  refine am_iconst 23 (v := 1) dX12_press_23 (by decide) ?_
  refine am_sipush 24 (v := 200) dX12_press_24 (by decide) ?_
  refine am_S3 27 (mc' := 0) (ms' := 0) (rc := 0) (rs := 0) dX12_press_27 lX12_3 ⟨by decide, by decide⟩ (Nat.le_of_ble_eq_true rfl) (Nat.le_of_ble_eq_true rfl) (s_isIn_f hs) ?_
  refine am_is_ct ?_
  refine am_if_ne 30 37 dX12_press_30 rfl (fun c30 => absurd c30 (by decide)) (fun c30 => ?_)
  refine am_iconst 33 (v := 1) dX12_press_33 (by decide) ?_
  refine am_goto 34 (tgt := 38) dX12_press_34 rfl ?_
  refine am_iconst 38 (v := 2) dX12_press_38 (by decide) ?_
  refine am_V2 39 (mc' := 0) (ms' := 0) (rc := 0) (rs := 0) dX12_press_39 lX12_43 ⟨by decide, by decide⟩ am_ue (Nat.le_of_ble_eq_true rfl) (Nat.le_of_ble_eq_true rfl) (s_refuse true (by decide) am_ue) ?_
  refine am_is_ct ?_
  refine am_if_eq 42 47 dX12_press_42 rfl (fun c42 => absurd c42 (by decide)) (fun c42 => ?_)
  refine am_iconst 45 (v := 0) dX12_press_45 (by decide) ?_
  refine am_ireturn 46 dX12_press_46 rfl rfl ?_
  exact ⟨rfl, Nat.le_refl _, ⟨_, am_ue⟩, fun x hx => by repeat rw [am_up_ne (by omega)]⟩
theorem s_rofCell_f1 {x y w : Int32} (h : r_Mo f m th (fun _ => 0)) (hb : x < 0 ∨ 8 ≤ x ∨ y < 0 ∨ 6 ≤ y) : AM mX12_ofCell 0 0 [.ref m, .int x, .int y, .int w] n f (r_ans m n f (.int 0) 1) := by
  show AW mX12_ofCell 0 0 0 [some (.ref m), some (.int x), some (.int y), some (.int w)] [] n f _
  refine am_aload_n 0 dX12_ofCell_0 rfl ?_
  refine am_iload_n 1 dX12_ofCell_1 rfl ?_
  refine am_iload_n 2 dX12_ofCell_2 rfl ?_
  refine am_S2 3 (mc' := 0) (ms' := 0) (rc := 0) (rs := 0) dX12_ofCell_3 lX12_75 ⟨by decide, by decide⟩ (Nat.le_of_ble_eq_true rfl) (Nat.le_of_ble_eq_true rfl) (s_isGlass_f hb) ?_
  refine am_is_ct ?_
  refine am_if_ne 6 13 dX12_ofCell_6 rfl (fun c6 => absurd c6 (by decide)) (fun c6 => ?_)
  refine am_iconst 9 (v := 1) dX12_ofCell_9 (by decide) ?_
  refine am_goto 10 (tgt := 14) dX12_ofCell_10 rfl ?_
  refine am_iconst 14 (v := 1) dX12_ofCell_14 (by decide) ?_
  refine am_V2 15 (mc' := 0) (ms' := 0) (rc := 0) (rs := 0) dX12_ofCell_15 lX12_59 ⟨by decide, by decide⟩ h.1 (Nat.le_of_ble_eq_true rfl) (Nat.le_of_ble_eq_true rfl) (s_start true (by decide) h.1) ?_
  refine am_is_ct ?_
  refine am_if_ne 18 43 dX12_ofCell_18 rfl (fun c18 => ?_) (fun c18 => absurd c18 (by decide))
  refine am_iconst 43 (v := 0) dX12_ofCell_43 (by decide) ?_
  refine am_goto 44 (tgt := 61) dX12_ofCell_44 rfl ?_
  refine am_ireturn 61 dX12_ofCell_61 rfl rfl ?_
  exact ⟨rfl, Nat.le_refl _, ⟨_, am_ue⟩, fun x hx => by repeat rw [am_up_ne (by omega)]⟩
theorem s_rofCell_f2 {j k : Nat} {w : Int32} (h : r_Mo f m th (fun _ => 0)) (hj : j < 8) (hk : k < 6) (hw : ¬ (0 ≤ w ∧ w ≤ 4)) : AM mX12_ofCell 0 0 [.ref m, .int (nI j), .int (nI k), .int w] n f (r_ans m n f (.int 0) 2) := by
  show AW mX12_ofCell 0 0 0 [some (.ref m), some (.int (nI j)), some (.int (nI k)), some (.int w)] [] n f _
  refine am_aload_n 0 dX12_ofCell_0 rfl ?_
  refine am_iload_n 1 dX12_ofCell_1 rfl ?_
  refine am_iload_n 2 dX12_ofCell_2 rfl ?_
  refine am_S2 3 (mc' := 0) (ms' := 0) (rc := 0) (rs := 0) dX12_ofCell_3 lX12_75 ⟨by decide, by decide⟩ (Nat.le_of_ble_eq_true rfl) (Nat.le_of_ble_eq_true rfl) (s_isGlass_t hj hk) ?_
  refine am_is_ct ?_
  refine am_if_ne 6 13 dX12_ofCell_6 rfl (fun c6 => ?_) (fun c6 => absurd c6 (by decide))
  refine am_iconst 13 (v := 0) dX12_ofCell_13 (by decide) ?_
  refine am_iconst 14 (v := 1) dX12_ofCell_14 (by decide) ?_
  refine am_V2 15 (mc' := 0) (ms' := 0) (rc := 0) (rs := 0) dX12_ofCell_15 lX12_59 ⟨by decide, by decide⟩ h.1 (Nat.le_of_ble_eq_true rfl) (Nat.le_of_ble_eq_true rfl) (s_start false (by decide) h.1) ?_
  refine am_is_ct ?_
  refine am_if_ne 18 43 dX12_ofCell_18 rfl (fun c18 => absurd c18 (by decide)) (fun c18 => ?_)
  refine am_aload_n 21 dX12_ofCell_21 rfl ?_
  refine am_iload_n 22 dX12_ofCell_22 rfl ?_
  refine am_iconst 23 (v := 0) dX12_ofCell_23 (by decide) ?_
  refine am_iconst 24 (v := 4) dX12_ofCell_24 (by decide) ?_
  refine am_S3 25 (mc' := 0) (ms' := 0) (rc := 0) (rs := 0) dX12_ofCell_25 lX12_3 ⟨by decide, by decide⟩ (Nat.le_of_ble_eq_true rfl) (Nat.le_of_ble_eq_true rfl) (s_isIn_f hw) ?_
  refine am_is_ct ?_
  refine am_if_ne 28 35 dX12_ofCell_28 rfl (fun c28 => absurd c28 (by decide)) (fun c28 => ?_)
  refine am_iconst 31 (v := 1) dX12_ofCell_31 (by decide) ?_
  refine am_goto 32 (tgt := 36) dX12_ofCell_32 rfl ?_
  refine am_iconst 36 (v := 2) dX12_ofCell_36 (by decide) ?_
  refine am_V2 37 (mc' := 0) (ms' := 0) (rc := 0) (rs := 0) dX12_ofCell_37 lX12_43 ⟨by decide, by decide⟩ am_ue (Nat.le_of_ble_eq_true rfl) (Nat.le_of_ble_eq_true rfl) (s_refuse true (by decide) am_ue) ?_
  refine am_is_ct ?_
  refine am_if_eq 40 47 dX12_ofCell_40 rfl (fun c40 => absurd c40 (by decide)) (fun c40 => ?_)
  refine am_iconst 43 (v := 0) dX12_ofCell_43 (by decide) ?_
  refine am_goto 44 (tgt := 61) dX12_ofCell_44 rfl ?_
  refine am_ireturn 61 dX12_ofCell_61 rfl rfl ?_
  exact ⟨rfl, Nat.le_refl _, ⟨_, am_ue⟩, fun x hx => by repeat rw [am_up_ne (by omega)]⟩
end RCalls
