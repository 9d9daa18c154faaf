/-! ===== the reference: press, noise, frame, wipe on a new object ===== -/
section RLook
variable {m n : Nat} {f : Nat → am_C} {th : Int32}
theorem s_contactsNowT {r : List Value} {a1 a2 a3 a4 a5 a6 : Value} (h0 : f m = .inr (12, a1 :: a2 :: a3 :: a4 :: a5 :: a6 :: .ref (m + 3) :: r)) (h3 : f (m + 3) = .inl (7, 5, .inr (.inr (.inr (.inr (fun _ => none)))))) : AM mX12_contactsNow 0 0 [.ref m] n f (am_is (some (.int 0)) n f) := by
  show AW mX12_contactsNow 0 0 0 [some (.ref m), none, none, none, none, none] [] n f _
  refine am_iconst 0 (v := 0) dX12_contactsNow_0 (by decide) ?_
  refine am_istore_n 1 dX12_contactsNow_1 (by decide) ?_
  refine am_aload_n 2 dX12_contactsNow_2 rfl ?_
  refine am_getfield 3 dX12_contactsNow_3 fX12_29 (by repeat (first | assumption | exact am_ue | refine am_un (by first | assumption | decide | omega) ?_)) rfl ?_
  refine am_astore_n 6 dX12_contactsNow_6 (by decide) ?_
  refine am_aload_n 7 dX12_contactsNow_7 rfl ?_
  refine am_arraylength 8 dX12_contactsNow_8 rfl (by repeat (first | assumption | exact am_ue | refine am_un (by first | assumption | decide | omega) ?_)) ?_
  refine am_istore_n 9 dX12_contactsNow_9 (by decide) ?_
  refine am_iconst 10 (v := 0) dX12_contactsNow_10 (by decide) ?_
  refine am_istore 11 dX12_contactsNow_11 (by decide) ?_
  refine am_for 5 (fun _ (_ : Option Value) => True) (fun k z => AW mX12_contactsNow 0 0 13 [some (.ref m), some (.int 0), some (.ref (m + 3)), some (.int (Int32.ofNat 5)), some (.int (nI k)), z] [] n f _) ?_ ?_ 0 _ (by omega) trivial
  · rintro z -
    refine am_iload 13 dX12_contactsNow_13 rfl ?_
    refine am_iload_n 15 dX12_contactsNow_15 rfl ?_
    refine am_icmp_ge 16 44 dX12_contactsNow_16 rfl (fun c16 => ?_) (fun c16 => absurd (by decide) c16)
    refine am_iload_n 44 dX12_contactsNow_44 rfl ?_
    exact am_ireturn 45 dX12_contactsNow_45 rfl rfl ⟨rfl, rfl, rfl⟩
  · rintro k z hk - ih
    refine am_iload 13 dX12_contactsNow_13 rfl ?_
    refine am_iload_n 15 dX12_contactsNow_15 rfl ?_
    refine am_icmp_ge 16 44 dX12_contactsNow_16 rfl (fun c16 => absurd c16 (nI_ge hk (by decide))) (fun c16 => ?_)
    refine am_aload_n 19 dX12_contactsNow_19 rfl ?_
    refine am_iload 20 dX12_contactsNow_20 rfl ?_
    refine am_aaload 22 dX12_contactsNow_22 rfl (by repeat (first | assumption | exact am_ue | refine am_un (by first | assumption | decide | omega) ?_)) (am_ix hk (by decide)) ?_
    refine am_astoreN 23 dX12_contactsNow_23 (by decide) ?_
    refine am_iload_n 25 dX12_contactsNow_25 rfl ?_
    refine am_aloadN 26 dX12_contactsNow_26 rfl ?_
    refine am_ifnonnullN 28 dX12_contactsNow_28 ?_
    refine am_iconst 31 (v := 0) dX12_contactsNow_31 (by decide) ?_
    refine am_goto 32 (tgt := 36) dX12_contactsNow_32 rfl ?_
    refine am_iadd 36 dX12_contactsNow_36 ?_
    rw [show (0 : Int32) + 0 = 0 from rfl]
    refine am_istore_n 37 dX12_contactsNow_37 (by decide) ?_
    refine am_iinc 38 (v := nI (k + 1)) dX12_contactsNow_38 rfl (nI_1 (k)) (by decide) ?_
    refine am_goto 41 (tgt := 13) dX12_contactsNow_41 rfl ?_
    exact ih _ trivial
theorem r_om {i : Nat} (hi : i < 50) : (-1 + nI i).toInt = -1 + (i : Int) := by
  rw [Int32.toInt_add, nI_toInt (by omega), show (-1 : Int32).toInt = -1 from rfl, Int.bmod_eq_of_le (by omega) (by omega)]
theorem r_om3 {i : Nat} (hi : i < 50) : (1 : Int32) < -1 + nI i ↔ 3 ≤ i := by
  rw [Int32.lt_iff_toInt_lt, r_om hi, show (1 : Int32).toInt = 1 from rfl]
  omega
theorem r_om1 {i : Nat} : -1 + nI i + 1 = -1 + nI (i + 1) := by rw [← nI_1, Int32.add_assoc]
theorem r_xo {x i a : Nat} (hx : x < 50) (hi : i < 50) (ha : a < 50) (h : nI x + (-1 + nI i) = nI a) : a + 1 = x + i := by
  have h1 := congrArg Int32.toInt h
  rw [Int32.toInt_add, nI_toInt (by omega), r_om hi, nI_toInt (by omega), Int.bmod_eq_of_le (by omega) (by omega)] at h1
  omega
theorem r_sh (s : Int32) : (1 : Int32) * (s >>> (((if (0 : Int32) ≤ -1 + nI 1 then -1 + nI 1 else 0 - (-1 + nI 1)) + (if (0 : Int32) ≤ -1 + nI 1 then -1 + nI 1 else 0 - (-1 + nI 1))) &&& 31)) = s := by
  rw [show (((if (0 : Int32) ≤ -1 + nI 1 then -1 + nI 1 else 0 - (-1 + nI 1)) + (if (0 : Int32) ≤ -1 + nI 1 then -1 + nI 1 else 0 - (-1 + nI 1))) &&& 31) = 0 from by decide, Int32.shiftRight_zero, Int32.one_mul]
theorem s_pressed0 {j k : Nat} {s : Int32} {r : List Value} (h0 : f m = .inr (12, .int th :: .ref (m + 1) :: .ref (m + 2) :: r)) (h2 : f (m + 2) = .inl (0, 48, .inl (fun _ => 0))) (hj : j < 8) (hk : k < 6) : AM mX12_pressed 0 0 [.ref m, .int (nI j), .int (nI k), .int s, .int 1] n f (fun o n' f' => o = .inl none ∧ n' = n ∧ ∃ w : Nat → Int32, f' = va_up f (m + 2) (.inl (0, 48, .inl w)) ∧ w (8 * k + j) = s) := by
  show AW mX12_pressed 0 0 0 [some (.ref m), some (.int (nI j)), some (.int (nI k)), some (.int s), some (.int 1), none, none] [] n f _
  generalize hQ : (fun (o : Option Value ⊕ Nat) (n' : Nat) (f' : Nat → am_C) => o = .inl none ∧ n' = n ∧ ∃ w : Nat → Int32, f' = va_up f (m + 2) (.inl (0, 48, .inl w)) ∧ w (8 * k + j) = s) = Q
  refine am_iconst 0 (v := (-1)) dX12_pressed_0 (by decide) ?_
  rw [show (-1 : Int32) = -1 + nI 0 from rfl]
  refine am_istore 1 dX12_pressed_1 (by decide) ?_
  have hh := am_for 3 (fun i (z : (Nat → Int32) × Option Value) => z.1 (8 * k + j) = if i ≤ 1 then 0 else s) (fun i z => AW mX12_pressed 0 0 3 [some (.ref m), some (.int (nI j)), some (.int (nI k)), some (.int s), some (.int 1), some (.int (-1 + nI i)), z.2] [] n (va_up f (m + 2) (.inl (0, 48, .inl z.1))) Q) ?_ ?_ 0 (fun _ => 0, none) (by omega) rfl
  · rw [am_self h2] at hh
    exact hh
  · rintro ⟨w, z⟩ hw
    have hw : w (8 * k + j) = s := hw
    refine am_iload 3 dX12_pressed_3 rfl ?_
    refine am_iconst 5 (v := 1) dX12_pressed_5 (by decide) ?_
    refine am_icmp_gt 6 79 dX12_pressed_6 rfl (fun c6 => ?_) (fun c6 => absurd ((r_om3 (by decide)).mpr (by decide)) c6)
    refine am_return 79 dX12_pressed_79 rfl ?_
    subst hQ
    exact ⟨rfl, rfl, w, rfl, hw⟩
  · rintro i ⟨w, z⟩ hi hw ih
    have hw : w (8 * k + j) = if i ≤ 1 then 0 else s := hw
    show AW mX12_pressed 0 0 3 [some (.ref m), some (.int (nI j)), some (.int (nI k)), some (.int s), some (.int 1), some (.int (-1 + nI i)), z] [] n (va_up f (m + 2) (.inl (0, 48, .inl w))) Q
    refine am_iload 3 dX12_pressed_3 rfl ?_
    refine am_iconst 5 (v := 1) dX12_pressed_5 (by decide) ?_
    refine am_icmp_gt 6 79 dX12_pressed_6 rfl (fun c6 => absurd c6 (fun z => by have := (r_om3 (by omega)).mp z; omega)) (fun c6 => ?_)
    refine am_iconst 9 (v := (-1)) dX12_pressed_9 (by decide) ?_
    rw [show (AW mX12_pressed 0 0 10 [some (.ref m), some (.int (nI j)), some (.int (nI k)), some (.int s), some (.int 1), some (.int (-1 + nI i)), z] [.int (-1)] n (va_up f (m + 2) (.inl (0, 48, .inl w))) Q) = (AW mX12_pressed 0 0 10 [some (.ref m), some (.int (nI j)), some (.int (nI k)), some (.int s), some (.int 1), some (.int (-1 + nI i)), z] [.int (-1 + nI 0)] n (va_up f (m + 2) (.inl (0, 48, .inl w))) Q) from rfl]
    refine am_istore 10 dX12_pressed_10 (by decide) ?_
    refine am_for 3 (fun l (w : Nat → Int32) => w (8 * k + j) = if i < 1 ∨ (i = 1 ∧ l ≤ 1) then 0 else s) (fun l w => AW mX12_pressed 0 0 12 [some (.ref m), some (.int (nI j)), some (.int (nI k)), some (.int s), some (.int 1), some (.int (-1 + nI i)), some (.int (-1 + nI l))] [] n (va_up f (m + 2) (.inl (0, 48, .inl w))) Q) ?_ ?_ 0 w (by omega) (by rw [hw]; exact am_cond (by omega))
    · intro w hw
      refine am_iload 12 dX12_pressed_12 rfl ?_
      refine am_iconst 14 (v := 1) dX12_pressed_14 (by decide) ?_
      refine am_icmp_gt 15 73 dX12_pressed_15 rfl (fun c15 => ?_) (fun c15 => absurd ((r_om3 (by decide)).mpr (by decide)) c15)
      refine am_iinc 73 (v := -1 + nI (i + 1)) dX12_pressed_73 rfl r_om1 (by decide) ?_
      refine am_goto 76 (tgt := 3) dX12_pressed_76 rfl ?_
      exact ih (_, _) (by show w (8 * k + j) = _; rw [hw]; exact am_cond (by omega))
    · intro l w hl hw ih2
      have hb0 : va_up f (m + 2) (.inl (0, 48, .inl w)) m = .inr (12, .int th :: .ref (m + 1) :: .ref (m + 2) :: r) := am_un (by omega) h0
      by_cases hb : (nI j + (-1 + nI i)) < 0 ∨ 8 ≤ (nI j + (-1 + nI i)) ∨ (nI k + (-1 + nI l)) < 0 ∨ 6 ≤ (nI k + (-1 + nI l))
      · have hne : ¬ (i = 1 ∧ l = 1) := by
          rintro ⟨rfl, rfl⟩
          rw [show ∀ x : Int32, x + (-1 + nI 1) = x from fun x => by rw [show (-1 + nI 1 : Int32) = 0 from by decide, Int32.add_zero], show ∀ x : Int32, x + (-1 + nI 1) = x from fun x => by rw [show (-1 + nI 1 : Int32) = 0 from by decide, Int32.add_zero]] at hb
          rcases hb with z | z | z | z
          · exact nI_pos (by omega) z
          · exact nI_ge hj (by decide) z
          · exact nI_pos (by omega) z
          · exact nI_ge hk (by decide) z
        refine am_iload 12 dX12_pressed_12 rfl ?_
        refine am_iconst 14 (v := 1) dX12_pressed_14 (by decide) ?_
        refine am_icmp_gt 15 73 dX12_pressed_15 rfl (fun c15 => absurd c15 (fun z => by have := (r_om3 (by omega)).mp z; omega)) (fun c15 => ?_)
        refine am_iload_n 18 dX12_pressed_18 rfl ?_
        refine am_iload 19 dX12_pressed_19 rfl ?_
        refine am_iadd 21 dX12_pressed_21 ?_
        refine am_iload_n 22 dX12_pressed_22 rfl ?_
        refine am_iload 23 dX12_pressed_23 rfl ?_
        refine am_iadd 25 dX12_pressed_25 ?_
        refine am_S2 26 (mc' := 0) (ms' := 0) (rc := 0) (rs := 0) dX12_pressed_26 lX12_75 ⟨by decide, by decide⟩ (Nat.le_of_ble_eq_true rfl) (Nat.le_of_ble_eq_true rfl) (s_isGlass_f hb) ?_
        refine am_is_ct ?_
        refine am_if_eq 29 67 dX12_pressed_29 rfl (fun c29 => ?_) (fun c29 => absurd (by decide) c29)
        refine am_iinc 67 (v := -1 + nI (l + 1)) dX12_pressed_67 rfl r_om1 (by decide) ?_
        refine am_goto 70 (tgt := 12) dX12_pressed_70 rfl ?_
        exact ih2 _ (by rw [hw]; exact am_cond (by omega))
      · obtain ⟨a, ha, ea⟩ := m_small 8 rfl (by decide) (fun z => hb (Or.inl z)) (fun z => hb (Or.inr (Or.inl z)))
        obtain ⟨b, hb2, eb⟩ := m_small 6 rfl (by decide) (fun z => hb (Or.inr (Or.inr (Or.inl z)))) (fun z => hb (Or.inr (Or.inr (Or.inr z))))
        have xa := r_xo (by omega) (by omega) (by omega) ea
        have xb := r_xo (by omega) (by omega) (by omega) eb
        refine am_iload 12 dX12_pressed_12 rfl ?_
        refine am_iconst 14 (v := 1) dX12_pressed_14 (by decide) ?_
        refine am_icmp_gt 15 73 dX12_pressed_15 rfl (fun c15 => absurd c15 (fun z => by have := (r_om3 (by omega)).mp z; omega)) (fun c15 => ?_)
        refine am_iload_n 18 dX12_pressed_18 rfl ?_
        refine am_iload 19 dX12_pressed_19 rfl ?_
        refine am_iadd 21 dX12_pressed_21 ?_
        refine am_iload_n 22 dX12_pressed_22 rfl ?_
        refine am_iload 23 dX12_pressed_23 rfl ?_
        refine am_iadd 25 dX12_pressed_25 ?_
        rw [ea, eb]
        refine am_S2 26 (mc' := 0) (ms' := 0) (rc := 0) (rs := 0) dX12_pressed_26 lX12_75 ⟨by decide, by decide⟩ (Nat.le_of_ble_eq_true rfl) (Nat.le_of_ble_eq_true rfl) (s_isGlass_t ha hb2) ?_
        refine am_is_ct ?_
        refine am_if_eq 29 67 dX12_pressed_29 rfl (fun c29 => absurd c29 (by decide)) (fun c29 => ?_)
        refine am_aload_n 32 dX12_pressed_32 rfl ?_
        refine am_getfield 33 dX12_pressed_33 fX12_17 (by first | exact hb0 | exact am_ue) rfl ?_
        refine am_iload_n 36 dX12_pressed_36 rfl ?_
        refine am_iload 37 dX12_pressed_37 rfl ?_
        refine am_iadd 39 dX12_pressed_39 ?_
        refine am_iload_n 40 dX12_pressed_40 rfl ?_
        refine am_iload 41 dX12_pressed_41 rfl ?_
        refine am_iadd 43 dX12_pressed_43 ?_
        rw [ea, eb]
        refine am_S2 44 (mc' := 0) (ms' := 0) (rc := 0) (rs := 0) dX12_pressed_44 lX12_79 ⟨by decide, by decide⟩ (Nat.le_of_ble_eq_true rfl) (Nat.le_of_ble_eq_true rfl) (s_cell) ?_
        refine am_is_ct ?_
        refine am_dup2 47 dX12_pressed_47 rfl rfl ?_
        refine am_iaload 48 dX12_pressed_48 rfl (by first | exact hb0 | exact am_ue) (am_ix (by omega) (by decide)) ?_
        rw [nI_clamp (n := 8 * b + a) (by omega)]
        refine am_iload 49 dX12_pressed_49 rfl ?_
        refine am_iload_n 51 dX12_pressed_51 rfl ?_
        refine am_iload 52 dX12_pressed_52 rfl ?_
        refine am_abs 54 dX12_pressed_54 jX12_83 (by decide) (Nat.le_of_ble_eq_true rfl) ?_
        refine am_iload 57 dX12_pressed_57 rfl ?_
        refine am_abs 59 dX12_pressed_59 jX12_83 (by decide) (Nat.le_of_ble_eq_true rfl) ?_
        refine am_iadd 62 dX12_pressed_62 ?_
        refine am_ishr 63 dX12_pressed_63 ?_
        refine am_imul 64 dX12_pressed_64 ?_
        refine am_iadd 65 dX12_pressed_65 ?_
        refine am_iastore 66 dX12_pressed_66 rfl (by first | exact hb0 | exact am_ue) (am_ix (by omega) (by decide)) ?_
        rw [nI_clamp (n := 8 * b + a) (by omega), am_uu]
        refine am_iinc 67 (v := -1 + nI (l + 1)) dX12_pressed_67 rfl r_om1 (by decide) ?_
        refine am_goto 70 (tgt := 12) dX12_pressed_70 rfl ?_
        refine ih2 _ ?_
        by_cases e : i = 1 ∧ l = 1
        · obtain ⟨rfl, rfl⟩ := e
          rw [show 8 * k + j = 8 * b + a by omega, am_up_eq, show w (8 * b + a) = 0 from by rw [show 8 * b + a = 8 * k + j by omega, hw, if_pos (by omega)], r_sh, Int32.zero_add, if_neg (by omega)]
        · rw [am_up_ne (by omega), hw]; exact am_cond (by omega)
theorem s_rpress_t {j k : Nat} {s : Int32} (h : r_Mo f m th (fun _ => 0)) (hj : j < 8) (hk : k < 6) (hs : 1 ≤ s ∧ s ≤ 200) : AM mX12_press 0 0 [.ref m, .int (nI j), .int (nI k), .int s] n f (r_ans m n f (.int s) 0) := by
  show AW mX12_press 0 0 0 [some (.ref m), some (.int (nI j)), some (.int (nI k)), some (.int s)] [] n f _
  have h2 := h.2.2.1
  have h1 := h.2.1
  refine am_aload_n 0 dX12_press_0 rfl ?_
  refine am_iload_n 1 dX12_press_1 rfl ?_
  refine am_iload_n 2 dX12_press_2 rfl ?_
  refine am_S2 3 (mc' := 0) (ms' := 0) (rc := 0) (rs := 0) dX12_press_3 lX12_75 ⟨by decide, by decide⟩ (Nat.le_of_ble_eq_true rfl) (Nat.le_of_ble_eq_true rfl) (s_isGlass_t hj hk) ?_
  refine am_is_ct ?_
  refine am_if_ne 6 13 dX12_press_6 rfl (fun c6 => ?_) (fun c6 => absurd c6 (by decide))
  refine am_iconst 13 (v := 0) dX12_press_13 (by decide) ?_
  refine am_iconst 14 (v := 1) dX12_press_14 (by decide) ?_
  refine am_V2 15 (mc' := 0) (ms' := 0) (rc := 0) (rs := 0) dX12_press_15 lX12_59 ⟨by decide, by decide⟩ h.1 (Nat.le_of_ble_eq_true rfl) (Nat.le_of_ble_eq_true rfl) (s_start false (by decide) h.1) ?_
  refine am_is_ct ?_
  refine am_if_ne 18 45 dX12_press_18 rfl (fun c18 => absurd c18 (by decide)) (fun c18 => ?_)
  refine am_aload_n 21 dX12_press_21 rfl ?_
  refine am_iload_n 22 dX12_press_22 rfl ?_
  refine am_iconst 23 (v := 1) dX12_press_23 (by decide) ?_
  refine am_sipush 24 (v := 200) dX12_press_24 (by decide) ?_
  refine am_S3 27 (mc' := 0) (ms' := 0) (rc := 0) (rs := 0) dX12_press_27 lX12_3 ⟨by decide, by decide⟩ (Nat.le_of_ble_eq_true rfl) (Nat.le_of_ble_eq_true rfl) (s_isIn_t hs.1 hs.2) ?_
  refine am_is_ct ?_
  refine am_if_ne 30 37 dX12_press_30 rfl (fun c30 => ?_) (fun c30 => absurd c30 (by decide))
  refine am_iconst 37 (v := 0) dX12_press_37 (by decide) ?_
  refine am_iconst 38 (v := 2) dX12_press_38 (by decide) ?_
  refine am_V2 39 (mc' := 0) (ms' := 0) (rc := 0) (rs := 0) dX12_press_39 lX12_43 ⟨by decide, by decide⟩ am_ue (Nat.le_of_ble_eq_true rfl) (Nat.le_of_ble_eq_true rfl) (s_refuse false (by decide) am_ue) ?_
  refine am_is_ct ?_
  refine am_if_eq 42 47 dX12_press_42 rfl (fun c42 => ?_) (fun c42 => absurd (by decide) c42)
  refine am_aload_n 47 dX12_press_47 rfl ?_
  refine am_iload_n 48 dX12_press_48 rfl ?_
  refine am_iload_n 49 dX12_press_49 rfl ?_
  refine am_iload_n 50 dX12_press_50 rfl ?_
  refine am_iconst 51 (v := 1) dX12_press_51 (by decide) ?_
  refine am_V4 52 (mc' := 0) (ms' := 0) (rc := 0) (rs := 0) dX12_press_52 lX12_89 ⟨by decide, by decide⟩ am_ue (Nat.le_of_ble_eq_true rfl) (Nat.le_of_ble_eq_true rfl) (s_pressed0 am_ue (am_un (by omega) (am_un (by omega) h2)) hj hk) ?_
  rintro o n' f1 ⟨rfl, rfl, w, rfl, hw⟩
  refine am_ct_in ?_
  refine am_aload_n 55 dX12_press_55 rfl ?_
  refine am_getfield 56 dX12_press_56 fX12_47 (am_un (by omega) am_ue) rfl ?_
  refine am_aload_n 59 dX12_press_59 rfl ?_
  refine am_getfield 60 dX12_press_60 fX12_17 (am_un (by omega) am_ue) rfl ?_
  refine am_iload_n 63 dX12_press_63 rfl ?_
  refine am_iload_n 64 dX12_press_64 rfl ?_
  refine am_S2 65 (mc' := 0) (ms' := 0) (rc := 0) (rs := 0) dX12_press_65 lX12_79 ⟨by decide, by decide⟩ (Nat.le_of_ble_eq_true rfl) (Nat.le_of_ble_eq_true rfl) (s_cell) ?_
  refine am_is_ct ?_
  refine am_iaload 68 dX12_press_68 rfl am_ue (am_ix (by omega) (by decide)) ?_
  rw [nI_clamp (n := 8 * k + j) (by omega), hw]
  refine am_iadd 69 dX12_press_69 ?_
  refine am_aload_n 70 dX12_press_70 rfl ?_
  refine am_getfield 71 dX12_press_71 fX12_13 (am_un (by omega) am_ue) rfl ?_
  refine am_iload_n 74 dX12_press_74 rfl ?_
  refine am_iload_n 75 dX12_press_75 rfl ?_
  refine am_S2 76 (mc' := 0) (ms' := 0) (rc := 0) (rs := 0) dX12_press_76 lX12_79 ⟨by decide, by decide⟩ (Nat.le_of_ble_eq_true rfl) (Nat.le_of_ble_eq_true rfl) (s_cell) ?_
  refine am_is_ct ?_
  refine am_iaload 79 dX12_press_79 rfl (am_un (by omega) (am_un (by omega) (am_un (by omega) h1))) (am_ix (by omega) (by decide)) ?_
  refine am_isub 80 dX12_press_80 ?_
  refine am_ireturn 81 dX12_press_81 rfl rfl ?_
  refine ⟨by rw [m_iadd0], Nat.le_refl _, ⟨_, am_un (by omega) am_ue⟩, fun x hx => by repeat rw [am_up_ne (by omega)]⟩
theorem s_rnoise_t {k : Nat} {u : Int32} (h : r_Mo f m th (fun _ => 0)) (hm : m + 4 < n) (hk6 : k < 6) (hu : -40 ≤ u ∧ u ≤ 40) : AM mX12_noise 7 292 [.ref m, .int (nI k), .int u] n f (r_ans m n f (.int (m_hum (fun x => if x / 8 = k then u else 0))) 0) := by
  have hy : (0 : Int32) ≤ nI k ∧ nI k ≤ 5 := ⟨m_nI0 (by omega), (m_leP 5 rfl rfl (by decide)).mpr (nI_ge hk6 (by decide))⟩
  show AW mX12_noise 7 292 0 [some (.ref m), some (.int (nI k)), some (.int u), none] [] n f _
  have h2 := h.2.2.1
  have h1 := h.2.1
  refine am_aload_n 0 dX12_noise_0 rfl ?_
  refine am_iload_n 1 dX12_noise_1 rfl ?_
  refine am_iconst 2 (v := 0) dX12_noise_2 (by decide) ?_
  refine am_iconst 3 (v := 5) dX12_noise_3 (by decide) ?_
  refine am_S3 4 (mc' := 0) (ms' := 0) (rc := 7) (rs := 292) dX12_noise_4 lX12_3 ⟨by decide, by decide⟩ (Nat.le_of_ble_eq_true rfl) (Nat.le_of_ble_eq_true rfl) (s_isIn_t hy.1 hy.2) ?_
  refine am_is_ct ?_
  refine am_if_ne 7 14 dX12_noise_7 rfl (fun c7 => ?_) (fun c7 => absurd c7 (by decide))
  refine am_iconst 14 (v := 0) dX12_noise_14 (by decide) ?_
  refine am_iconst 15 (v := 1) dX12_noise_15 (by decide) ?_
  refine am_V2 16 (mc' := 0) (ms' := 0) (rc := 7) (rs := 292) dX12_noise_16 lX12_59 ⟨by decide, by decide⟩ h.1 (Nat.le_of_ble_eq_true rfl) (Nat.le_of_ble_eq_true rfl) (s_start false (by decide) h.1) ?_
  refine am_is_ct ?_
  refine am_if_ne 19 46 dX12_noise_19 rfl (fun c19 => absurd c19 (by decide)) (fun c19 => ?_)
  refine am_aload_n 22 dX12_noise_22 rfl ?_
  refine am_iload_n 23 dX12_noise_23 rfl ?_
  refine am_bipush 24 (v := (-40)) dX12_noise_24 (by decide) ?_
  refine am_bipush 26 (v := 40) dX12_noise_26 (by decide) ?_
  refine am_S3 28 (mc' := 0) (ms' := 0) (rc := 7) (rs := 292) dX12_noise_28 lX12_3 ⟨by decide, by decide⟩ (Nat.le_of_ble_eq_true rfl) (Nat.le_of_ble_eq_true rfl) (s_isIn_t hu.1 hu.2) ?_
  refine am_is_ct ?_
  refine am_if_ne 31 38 dX12_noise_31 rfl (fun c31 => ?_) (fun c31 => absurd c31 (by decide))
  refine am_iconst 38 (v := 0) dX12_noise_38 (by decide) ?_
  refine am_iconst 39 (v := 2) dX12_noise_39 (by decide) ?_
  refine am_V2 40 (mc' := 0) (ms' := 0) (rc := 7) (rs := 292) dX12_noise_40 lX12_43 ⟨by decide, by decide⟩ am_ue (Nat.le_of_ble_eq_true rfl) (Nat.le_of_ble_eq_true rfl) (s_refuse false (by decide) am_ue) ?_
  refine am_is_ct ?_
  refine am_if_eq 43 48 dX12_noise_43 rfl (fun c43 => ?_) (fun c43 => absurd (by decide) c43)
  refine am_iconst 48 (v := 0) dX12_noise_48 (by decide) ?_
  refine am_istore_n 49 dX12_noise_49 (by decide) ?_
  generalize hf1 : va_up (va_up f m _) m _ = f1
  have hM : r_Mo f1 m 0 (fun _ => 0) := by
    rw [← hf1, am_uu]
    exact h.th
  have ex : ∀ x, x ≠ m → f1 x = f x := fun x hx => by rw [← hf1, am_up_ne hx, am_up_ne hx]
  clear hf1
  obtain ⟨m0, m1, m2, m3, m4⟩ := id hM
  have hh := am_for 8 (fun c (w : Nat → Int32) => ∀ x, w x = if x / 8 = k ∧ x % 8 < c then u else 0) (fun c w => AW mX12_noise 7 292 50 [some (.ref m), some (.int (nI k)), some (.int u), some (.int (nI c))] [] n (va_up f1 (m + 2) (.inl (0, 48, .inl w))) (r_ans m n f (.int (m_hum (fun x => if x / 8 = k then u else 0))) 0)) ?_ ?_ 0 (fun _ => 0) (by omega) (fun x => by rw [if_neg (by omega)])
  · rw [am_self m2] at hh
    exact hh
  · intro w hw
    have ew : w = (fun x => if x / 8 = k then u else 0) := by
      funext x
      rw [hw x]
      exact am_cond (by have : x % 8 < 8 := Nat.mod_lt _ (by decide); omega)
    subst ew
    have hM2 : r_Mo (va_up f1 (m + 2) (.inl (0, 48, .inl (fun x => if x / 8 = k then u else 0)))) m 0 (fun x => if x / 8 = k then u else 0) := ⟨am_un (by omega) m0, am_un (by omega) m1, am_ue, am_un (by omega) m3, am_un (by omega) m4⟩
    have hbd : ∀ x, x < 48 → ((fun x => if x / 8 = k then u else 0) x : Int32).toInt.natAbs ≤ 100 := by
      intro x _
      have h1 := Int32.le_iff_toInt_le.mp hu.1
      have h2 := Int32.le_iff_toInt_le.mp hu.2
      rw [show (-40 : Int32).toInt = -40 from rfl] at h1
      rw [show (40 : Int32).toInt = 40 from rfl] at h2
      show (if x / 8 = k then u else 0 : Int32).toInt.natAbs ≤ 100
      split
      · omega
      · decide
    refine am_iload_n 50 dX12_noise_50 rfl ?_
    refine am_bipush 51 (v := 8) dX12_noise_51 (by decide) ?_
    refine am_icmp_ge 53 76 dX12_noise_53 rfl (fun c53 => ?_) (fun c53 => absurd (by decide) c53)
    refine am_aload_n 76 dX12_noise_76 rfl ?_
    refine am_V0 77 (mc' := 7) (ms' := 292) (rc := 0) (rs := 0) dX12_noise_77 lX12_92 ⟨by decide, by decide⟩ hM2.1 (Nat.le_of_ble_eq_true rfl) (Nat.le_of_ble_eq_true rfl) (s_view hM2 hm) ?_
    rintro o n' f2 ⟨rfl, rfl, ⟨q, sz, pk, v0, v1, -⟩, e2⟩
    refine am_ct_in ?_
    refine am_V0 80 (mc' := 0) (ms' := 0) (rc := 0) (rs := 0) dX12_noise_80 lX12_96 ⟨by decide, by decide⟩ v0 (Nat.le_of_ble_eq_true rfl) (Nat.le_of_ble_eq_true rfl) (s_vhum v0 v1 hbd) ?_
    refine am_is_ct ?_
    refine am_ireturn 83 dX12_noise_83 rfl rfl ?_
    exact ⟨rfl, by omega, ⟨_, (e2 m (by omega)).trans hM2.1⟩, fun x hx => by rw [e2 x (by omega), am_up_ne (by omega), ex x (by omega)]⟩
  · intro c w hc hw ih
    refine am_iload_n 50 dX12_noise_50 rfl ?_
    refine am_bipush 51 (v := 8) dX12_noise_51 (by decide) ?_
    refine am_icmp_ge 53 76 dX12_noise_53 rfl (fun c53 => absurd c53 (nI_ge hc (by decide))) (fun c53 => ?_)
    refine am_aload_n 56 dX12_noise_56 rfl ?_
    refine am_getfield 57 dX12_noise_57 fX12_17 (by first | exact am_ue | exact am_un (by omega) m0) rfl ?_
    refine am_iload_n 60 dX12_noise_60 rfl ?_
    refine am_iload_n 61 dX12_noise_61 rfl ?_
    refine am_S2 62 (mc' := 0) (ms' := 0) (rc := 7) (rs := 292) dX12_noise_62 lX12_79 ⟨by decide, by decide⟩ (Nat.le_of_ble_eq_true rfl) (Nat.le_of_ble_eq_true rfl) (s_cell) ?_
    refine am_is_ct ?_
    refine am_dup2 65 dX12_noise_65 rfl rfl ?_
    refine am_iaload 66 dX12_noise_66 rfl (by first | exact am_ue | exact am_un (by omega) m0) (am_ix (by omega) (by decide)) ?_
    rw [nI_clamp (n := 8 * k + c) (by omega)]
    refine am_iload_n 67 dX12_noise_67 rfl ?_
    refine am_iadd 68 dX12_noise_68 ?_
    refine am_iastore 69 dX12_noise_69 rfl (by first | exact am_ue | exact am_un (by omega) m0) (am_ix (by omega) (by decide)) ?_
    rw [nI_clamp (n := 8 * k + c) (by omega), am_uu]
    refine am_iinc 70 (v := nI (c + 1)) dX12_noise_70 rfl (nI_1 (c)) (by decide) ?_
    refine am_goto 73 (tgt := 50) dX12_noise_73 rfl ?_
    refine ih _ (fun x => ?_)
    have e2 : (8 * k + c) / 8 = k := by omega
    have e3 : (8 * k + c) % 8 = c := by omega
    by_cases e : x = 8 * k + c
    · subst e; rw [am_up_eq, hw, e2, e3, if_neg (by omega), if_pos (by omega), Int32.zero_add]
    · rw [am_up_ne e, hw x]; exact am_cond (by omega)
theorem s_rframe (h : r_Mo f m th (fun _ => 0)) (hm : m + 4 < n) : AM mX12_frame 13 358 [.ref m] n f (r_ans m n f (.int 0) 0) := by
  have h0 := h.1
  unfold r_mo at h0
  show AW mX12_frame 13 358 0 [some (.ref m), none, none, none] [] n f _
  have hz : va_up f m (r_mo m 0) = va_up f m (r_mo m 0) := rfl
  have hT : r_Mo (va_up f m (r_mo m 0)) m 0 (fun _ => 0) := h.th
  refine am_aload_n 0 dX12_frame_0 rfl ?_
  refine am_iconst 1 (v := 0) dX12_frame_1 (by decide) ?_
  refine am_putfield 2 dX12_frame_2 pX12_40 (by repeat (first | assumption | exact am_ue | refine am_un (by first | assumption | decide | omega) ?_)) rfl rfl (Nat.le_of_ble_eq_true rfl) ?_
  show AW mX12_frame 13 358 5 [some (.ref m), none, none, none] [] n (va_up f m (r_mo m 0)) _
  refine am_aload_n 5 dX12_frame_5 rfl ?_
  refine am_V0 6 (mc' := 7) (ms' := 292) (rc := 6) (rs := 66) dX12_frame_6 lX12_92 ⟨by decide, by decide⟩ hT.1 (Nat.le_of_ble_eq_true rfl) (Nat.le_of_ble_eq_true rfl) (s_view hT hm) ?_
  rintro o n' f1 ⟨rfl, rfl, hV, e1⟩
  have hV0 := hV.zero
  have v0 := hV0.1
  have hM := hT.V hm e1
  have m0 := hM.1
  unfold r_mo at m0
  refine am_ct_in ?_
  refine am_astore_n 9 dX12_frame_9 (by decide) ?_
  refine am_aload_n 10 dX12_frame_10 rfl ?_
  refine am_V0 11 (mc' := 0) (ms' := 0) (rc := 6) (rs := 66) dX12_frame_11 lX12_96 ⟨by decide, by decide⟩ v0 (Nat.le_of_ble_eq_true rfl) (Nat.le_of_ble_eq_true rfl) (s_vhum v0 hV0.2.1 (fun x _ => by show (0 : Int32).toInt.natAbs ≤ 100; decide)) ?_
  refine am_is_ct ?_
  rw [m_hum_0]
  refine am_aload_n 14 dX12_frame_14 rfl ?_
  refine am_getfield 15 dX12_frame_15 fX12_24 (by repeat (first | assumption | exact am_ue | refine am_un (by first | assumption | decide | omega) ?_)) rfl ?_
  refine am_icmp_le 18 25 dX12_frame_18 rfl (fun c18 => ?_) (fun c18 => absurd (by decide) c18)
  refine am_iconst 25 (v := 0) dX12_frame_25 (by decide) ?_
  refine am_istore_n 26 dX12_frame_26 (by decide) ?_
  refine am_iload_n 27 dX12_frame_27 rfl ?_
  refine am_if_eq 28 44 dX12_frame_28 rfl (fun c28 => ?_) (fun c28 => absurd (by decide) c28)
  refine am_aload_n 44 dX12_frame_44 rfl ?_
  refine am_aload_n 45 dX12_frame_45 rfl ?_
  refine am_V1 46 (mc' := 6) (ms' := 66) (rc := 0) (rs := 0) dX12_frame_46 lX12_226 ⟨by decide, by decide⟩ (by repeat (first | assumption | exact am_ue | refine am_un (by first | assumption | decide | omega) ?_)) (Nat.le_of_ble_eq_true rfl) (Nat.le_of_ble_eq_true rfl) (s_track0 hM hV0 (by omega) (by omega) (by omega) (by omega)) ?_
  rintro o n' f2 ⟨rfl, hn, t0, e2⟩
  refine am_ct_in ?_
  refine am_iconst 49 (v := 0) dX12_frame_49 (by decide) ?_
  refine am_istore_n 50 dX12_frame_50 (by decide) ?_
  have t1 : f2 (m + 1) = .inl (0, 48, .inl (fun _ => 0)) := (e2 _ (by omega) (by omega)).trans hM.2.1
  have t2 : f2 (m + 2) = .inl (0, 48, .inl (fun _ => 0)) := (e2 _ (by omega) (by omega)).trans hM.2.2.1
  have t3 : f2 (m + 3) = .inl (7, 5, .inr (.inr (.inr (.inr (fun _ => none))))) := (e2 _ (by omega) (by omega)).trans hM.2.2.2.1
  have w0 : f2 n = .inr (11, [.ref (n + 2), .ref (n + 2 + 1), .ref (n + 2 + 2), .int 0]) := (e2 _ (by omega) (by omega)).trans v0
  have w1 : f2 (n + 2) = .inl (0, 48, .inl (fun _ => 0)) := (e2 _ (by omega) (by omega)).trans hV0.2.1
  have eo : ∀ x, (x < m ∨ (m + 4 < x ∧ x < n)) → f2 x = f x := fun x hx => by rw [e2 x (by omega) (by omega), e1 x (by omega), am_up_ne (by omega)]
  have hh := am_for 48 (fun _ (_ : Nat → Int32) => True) (fun k b => AW mX12_frame 0 0 51 [some (.ref m), some (.ref n), some (.int 0), some (.int (nI k))] [] n' (va_up f2 (m + 1) (.inl (0, 48, .inl b))) (r_ans m n f (.int 0) 0)) ?_ ?_ 0 (fun _ => 0) (by omega) trivial
  · rw [am_self t1] at hh
    exact hh
  · intro b _
    refine am_iload_n 51 dX12_frame_51 rfl ?_
    refine am_bipush 52 (v := 48) dX12_frame_52 (by decide) ?_
    refine am_icmp_ge 54 77 dX12_frame_54 rfl (fun c54 => ?_) (fun c54 => absurd (by decide) c54)
    refine am_aload_n 77 dX12_frame_77 rfl ?_
    refine am_V0 78 (mc' := 0) (ms' := 0) (rc := 0) (rs := 0) dX12_frame_78 lX12_233 ⟨by decide, by decide⟩ (am_un (by omega) t0) (Nat.le_of_ble_eq_true rfl) (Nat.le_of_ble_eq_true rfl) (s_clean (am_un (by omega) t0) (am_un (by omega) t2)) ?_
    refine am_is_ct ?_
    refine am_iload_n 81 dX12_frame_81 rfl ?_
    refine am_if_eq 82 90 dX12_frame_82 rfl (fun c82 => ?_) (fun c82 => absurd (by decide) c82)
    refine am_aload_n 90 dX12_frame_90 rfl ?_
    refine am_V0 91 (mc' := 0) (ms' := 0) (rc := 0) (rs := 0) dX12_frame_91 lX12_236 ⟨by decide, by decide⟩ (am_un (by omega) (am_un (by omega) t0)) (Nat.le_of_ble_eq_true rfl) (Nat.le_of_ble_eq_true rfl) (s_contactsNowT (am_un (by omega) (am_un (by omega) t0)) (am_un (by omega) (am_un (by omega) t3))) ?_
    refine am_is_ct ?_
    refine am_ireturn 94 dX12_frame_94 rfl rfl ?_
    exact ⟨rfl, by omega, ⟨_, am_un (by omega) (am_un (by omega) t0)⟩, fun x hx => by rw [am_up_ne (by omega), am_up_ne (by omega), eo x hx]⟩
  · intro k b hk _ ih
    refine am_iload_n 51 dX12_frame_51 rfl ?_
    refine am_bipush 52 (v := 48) dX12_frame_52 (by decide) ?_
    refine am_icmp_ge 54 77 dX12_frame_54 rfl (fun c54 => absurd c54 (nI_ge hk (by decide))) (fun c54 => ?_)
    refine am_aload_n 57 dX12_frame_57 rfl ?_
    refine am_getfield 58 dX12_frame_58 fX12_13 (by first | exact am_ue | exact am_un (by omega) t0) rfl ?_
    refine am_iload_n 61 dX12_frame_61 rfl ?_
    refine am_dup2 62 dX12_frame_62 rfl rfl ?_
    refine am_iaload 63 dX12_frame_63 rfl (by first | exact am_ue | exact am_un (by omega) t0) (am_ix hk (by decide)) ?_
    refine am_aload_n 64 dX12_frame_64 rfl ?_
    refine am_iload_n 65 dX12_frame_65 rfl ?_
    refine am_V1 66 (mc' := 0) (ms' := 0) (rc := 0) (rs := 0) dX12_frame_66 lX12_230 ⟨by decide, by decide⟩ (am_un (by omega) w0) (Nat.le_of_ble_eq_true rfl) (Nat.le_of_ble_eq_true rfl) (s_drift0 (am_un (by omega) w0) (am_un (by omega) w1) hk) ?_
    refine am_is_ct ?_
    refine am_iadd 69 dX12_frame_69 ?_
    refine am_iastore 70 dX12_frame_70 rfl (by first | exact am_ue | exact am_un (by omega) t0) (am_ix hk (by decide)) ?_
    rw [am_uu]
    refine am_iinc 71 (v := nI (k + 1)) dX12_frame_71 rfl (nI_1 (k)) (by decide) ?_
    refine am_goto 74 (tgt := 51) dX12_frame_74 rfl ?_
    exact ih _ trivial
theorem s_rwipe (h : r_Mo f m th (fun _ => 0)) : AM mX12_wipe 0 0 [.ref m] n f (r_ans m n f (.int 0) 0) := by
  have h0 := h.1
  unfold r_mo at h0
  show AW mX12_wipe 0 0 0 [some (.ref m), none, none] [] n f _
  have hT : r_Mo (va_up f m (r_mo m 0)) m 0 (fun _ => 0) := h.th
  refine am_aload_n 0 dX12_wipe_0 rfl ?_
  refine am_iconst 1 (v := 0) dX12_wipe_1 (by decide) ?_
  refine am_putfield 2 dX12_wipe_2 pX12_40 (by repeat (first | assumption | exact am_ue | refine am_un (by first | assumption | decide | omega) ?_)) rfl rfl (Nat.le_of_ble_eq_true rfl) ?_
  show AW mX12_wipe 0 0 5 [some (.ref m), none, none] [] n (va_up f m (r_mo m 0)) _
  refine am_aload_n 5 dX12_wipe_5 rfl ?_
  refine am_V0 6 (mc' := 0) (ms' := 0) (rc := 0) (rs := 0) dX12_wipe_6 lX12_236 ⟨by decide, by decide⟩ hT.1 (Nat.le_of_ble_eq_true rfl) (Nat.le_of_ble_eq_true rfl) (s_contactsNow0 hT) ?_
  refine am_is_ct ?_
  refine am_istore_n 9 dX12_wipe_9 (by decide) ?_
  generalize hf1 : va_up f m (r_mo m 0) = f1 at hT ⊢
  have eo : ∀ x, x ≠ m → f1 x = f x := fun x hx => by rw [← hf1, am_up_ne hx]
  clear hf1
  obtain ⟨m0, m1, m2, m3, m4⟩ := hT
  unfold r_mo at m0
  refine am_iconst 10 (v := 0) dX12_wipe_10 (by decide) ?_
  refine am_istore_n 11 dX12_wipe_11 (by decide) ?_
  refine am_for 5 (fun _ (_ : Unit) => True) (fun k _ => AW mX12_wipe 0 0 12 [some (.ref m), some (.int 0), some (.int (nI k))] [] n f1 _) ?_ ?_ 0 () (by omega) trivial
  · rintro ⟨⟩ -
    refine am_iload_n 12 dX12_wipe_12 rfl ?_
    refine am_iconst 13 (v := 5) dX12_wipe_13 (by decide) ?_
    refine am_icmp_ge 14 37 dX12_wipe_14 rfl (fun c14 => ?_) (fun c14 => absurd (by decide) c14)
    refine am_iconst 37 (v := 0) dX12_wipe_37 (by decide) ?_
    refine am_istore_n 38 dX12_wipe_38 (by decide) ?_
    have hh := am_for 48 (fun _ (_ : Nat → Int32) => True) (fun k b => AW mX12_wipe 0 0 39 [some (.ref m), some (.int 0), some (.int (nI k))] [] n (va_up f1 (m + 1) (.inl (0, 48, .inl b))) (r_ans m n f (.int 0) 0)) ?_ ?_ 0 (fun _ => 0) (by omega) trivial
    · rw [am_self m1] at hh
      exact hh
    · intro b _
      refine am_iload_n 39 dX12_wipe_39 rfl ?_
      refine am_bipush 40 (v := 48) dX12_wipe_40 (by decide) ?_
      refine am_icmp_ge 42 61 dX12_wipe_42 rfl (fun c42 => ?_) (fun c42 => absurd (by decide) c42)
      refine am_aload_n 61 dX12_wipe_61 rfl ?_
      refine am_V0 62 (mc' := 0) (ms' := 0) (rc := 0) (rs := 0) dX12_wipe_62 lX12_233 ⟨by decide, by decide⟩ (am_un (by omega) m0) (Nat.le_of_ble_eq_true rfl) (Nat.le_of_ble_eq_true rfl) (s_clean (am_un (by omega) m0) (am_un (by omega) m2)) ?_
      refine am_is_ct ?_
      refine am_iload_n 65 dX12_wipe_65 rfl ?_
      refine am_ireturn 66 dX12_wipe_66 rfl rfl ?_
      exact ⟨rfl, Nat.le_refl _, ⟨_, am_un (by omega) (am_un (by omega) m0)⟩, fun x hx => by rw [am_up_ne (by omega), am_up_ne (by omega), eo x (by omega)]⟩
    · intro k b hk _ ih
      refine am_iload_n 39 dX12_wipe_39 rfl ?_
      refine am_bipush 40 (v := 48) dX12_wipe_40 (by decide) ?_
      refine am_icmp_ge 42 61 dX12_wipe_42 rfl (fun c42 => absurd c42 (nI_ge hk (by decide))) (fun c42 => ?_)
      refine am_aload_n 45 dX12_wipe_45 rfl ?_
      refine am_getfield 46 dX12_wipe_46 fX12_13 (by first | exact am_ue | exact am_un (by omega) m0) rfl ?_
      refine am_iload_n 49 dX12_wipe_49 rfl ?_
      refine am_aload_n 50 dX12_wipe_50 rfl ?_
      refine am_getfield 51 dX12_wipe_51 fX12_47 (by first | exact am_ue | exact am_un (by omega) m0) rfl ?_
      refine am_iastore 54 dX12_wipe_54 rfl (by first | exact am_ue | exact am_un (by omega) m0) (am_ix hk (by decide)) ?_
      rw [am_uu]
      refine am_iinc 55 (v := nI (k + 1)) dX12_wipe_55 rfl (nI_1 (k)) (by decide) ?_
      refine am_goto 58 (tgt := 39) dX12_wipe_58 rfl ?_
      exact ih _ trivial
  · rintro k ⟨⟩ hk - ih
    refine am_iload_n 12 dX12_wipe_12 rfl ?_
    refine am_iconst 13 (v := 5) dX12_wipe_13 (by decide) ?_
    refine am_icmp_ge 14 37 dX12_wipe_14 rfl (fun c14 => absurd c14 (nI_ge hk (by decide))) (fun c14 => ?_)
    refine am_aload_n 17 dX12_wipe_17 rfl ?_
    refine am_getfield 18 dX12_wipe_18 fX12_29 (by repeat (first | assumption | exact am_ue | refine am_un (by first | assumption | decide | omega) ?_)) rfl ?_
    refine am_iload_n 21 dX12_wipe_21 rfl ?_
    refine am_aaload 22 dX12_wipe_22 rfl (by repeat (first | assumption | exact am_ue | refine am_un (by first | assumption | decide | omega) ?_)) (am_ix hk (by decide)) ?_
    refine am_ifnullN 23 (tgt := 31) dX12_wipe_23 rfl ?_
    refine am_iinc 31 (v := nI (k + 1)) dX12_wipe_31 rfl (nI_1 (k)) (by decide) ?_
    refine am_goto 34 (tgt := 12) dX12_wipe_34 rfl ?_
    exact ih () trivial
end RLook
