/-! ===== the law, whole ===== -/
section Mai
variable {N n : Nat} {xs g : Nat → Int32} {lim : Int32} {f : Nat → am_C}
theorem m_rem16 {c : Nat} (h : c < 2 ^ 31) : nI c - nI c / 16 * 16 = nI (c % 16) := pk_rem h (by decide) (by decide)
theorem l_at {g : Nat → Int32} {a c : Nat} (h : ∀ i, i < 4 → ∃ c, c < 48 ∧ g i = nI c) (hc : c < 48) : ∀ i, i < 4 → ∃ c', c' < 48 ∧ va_up g a (nI c) i = nI c' := by
  intro i hi
  by_cases e : i = a
  · subst e
    exact ⟨c, hc, am_up_eq⟩
  · rw [am_up_ne e]
    exact h i hi
set_option maxHeartbeats 2000000 in
theorem l_loop (hN : N ≤ 260) : ∀ (d k : Nat), k + d = 44 → ∀ (lim : Int32) (g : Nat → Int32) (n : Nat) (f : Nat → am_C) (a5 a6 a7 a8 a9 a10 a11 a12 a13 a14 a15 : Option Value), l_I k N xs lim g n f → AW mL_law (23 * d) (135 * d) 70 [some (.ref 0), some (.ref 1), some (.ref 47), some (.int lim), some (.int (nI k)), a5, a6, a7, a8, a9, a10, a11, a12, a13, a14, a15] [] n f l_P
  | 0, k, hd, lim, g, n, f, a5, a6, a7, a8, a9, a10, a11, a12, a13, a14, a15, hI => by
    obtain rfl : k = 44 := hd
    show AW mL_law 0 0 70 [some (.ref 0), some (.ref 1), some (.ref 47), some (.int lim), some (.int (nI 44)), a5, a6, a7, a8, a9, a10, a11, a12, a13, a14, a15] [] n f l_P
    refine am_iload 70 dL_law_70 rfl ?_
    refine am_bipush 72 (v := 44) dL_law_72 (by decide) ?_
    refine am_icmp_ge 74 570 dL_law_74 rfl (fun c74 => ?_) (fun c74 => absurd (by decide) c74)
    exact l_end hI
  | d + 1, k, hd, lim, g, n, f, a5, a6, a7, a8, a9, a10, a11, a12, a13, a14, a15, hI => by
    have ih := l_loop hN d (k + 1) (by omega)
    have hk44 : k < 44 := by omega
    have hC : l_J k N xs (5 + 23 * d) (30 + 135 * d) l_P := by
      intro lim g n f a5 a6 a7 a8 a9 a10 a11 a12 a13 a14 a15 hI
      have hI2 := hI
      obtain ⟨⟨z, T, hT, hG, -⟩, -⟩ := hI2
      refine am_aload_n 555 dL_law_555 rfl ?_
      refine am_S1 556 (mc' := 5) (ms' := 30) (rc := 23 * d) (rs := 135 * d) dL_law_556 lL_71 ⟨by decide, by decide⟩ (Nat.le_of_ble_eq_true rfl) (Nat.le_of_ble_eq_true rfl) (s_LareWell hG (by omega)) ?_
      refine am_is_ct ?_
      refine am_if_ne 559 564 dL_law_559 rfl (fun c559 => ?_) (fun c559 => absurd c559 (by decide))
      refine am_iinc 564 (v := nI (k + 1)) dL_law_564 rfl (nI_1 (k)) (by decide) ?_
      refine am_goto 567 (tgt := 70) dL_law_567 rfl ?_
      exact ih _ _ _ _ _ _ _ _ _ _ _ _ _ _ _ hI
    clear ih
    have hI2 := hI
    obtain ⟨-, hs, -⟩ := hI2
    refine AW.more (rc := 18 + (5 + 23 * d)) (rs := 105 + (30 + 135 * d)) (by omega) (by omega) ?_
    refine am_iload 70 dL_law_70 rfl ?_
    refine am_bipush 72 (v := 44) dL_law_72 (by decide) ?_
    refine am_icmp_ge 74 570 dL_law_74 rfl (fun c74 => absurd c74 (nI_ge hk44 (by decide))) (fun c74 => ?_)
    refine am_aload_n 77 dL_law_77 rfl ?_
    refine am_iload 78 dL_law_78 rfl ?_
    refine am_bipush 80 (v := 16) dL_law_80 (by decide) ?_
    refine am_irem 82 dL_law_82 (by decide) ?_
    rw [m_rem16 (by omega)]
    refine AW.more (rc := 0 + (18 + (5 + 23 * d))) (rs := 0 + (105 + (30 + 135 * d))) (by omega) (by omega) ?_
    refine am_S2 83 (mc' := 0) (ms' := 0) (rc := 18 + (5 + 23 * d)) (rs := 105 + (30 + 135 * d)) dL_law_83 lL_12 ⟨by decide, by decide⟩ (Nat.le_of_ble_eq_true rfl) (Nat.le_of_ble_eq_true rfl) (s_Lcell (j := k % 16) hs hN (by omega)) ?_
    rintro o n' f' ⟨v1, rfl, rfl, rfl⟩
    refine am_ctI ?_
    refine am_bipush 86 (v := 31) dL_law_86 (by decide) ?_
    refine am_iload 88 dL_law_88 rfl ?_
    refine am_imul 90 dL_law_90 ?_
    refine am_iadd 91 dL_law_91 ?_
    refine am_istore 92 dL_law_92 (by decide) ?_
    refine am_aload_n 94 dL_law_94 rfl ?_
    refine am_bipush 95 (v := 7) dL_law_95 (by decide) ?_
    refine am_iload 97 dL_law_97 rfl ?_
    refine am_imul 99 dL_law_99 ?_
    rw [show (7 : Int32) * nI k = nI (7 * k) from pk_mul 7 k]
    refine am_iconst 100 (v := 3) dL_law_100 (by decide) ?_
    refine am_iadd 101 dL_law_101 ?_
    rw [show nI (7 * k) + 3 = nI (7 * k + 3) from nI_add _ _]
    refine am_bipush 102 (v := 16) dL_law_102 (by decide) ?_
    refine am_irem 104 dL_law_104 (by decide) ?_
    rw [m_rem16 (by omega)]
    refine AW.more (rc := 0 + (18 + (5 + 23 * d))) (rs := 0 + (105 + (30 + 135 * d))) (by omega) (by omega) ?_
    refine am_S2 105 (mc' := 0) (ms' := 0) (rc := 18 + (5 + 23 * d)) (rs := 105 + (30 + 135 * d)) dL_law_105 lL_12 ⟨by decide, by decide⟩ (Nat.le_of_ble_eq_true rfl) (Nat.le_of_ble_eq_true rfl) (s_Lcell (j := (7 * k + 3) % 16) hs hN (by omega)) ?_
    rintro o n' f' ⟨v2, rfl, rfl, rfl⟩
    refine am_ctI ?_
    refine am_iconst 108 (v := 5) dL_law_108 (by decide) ?_
    refine am_iload 109 dL_law_109 rfl ?_
    refine am_imul 111 dL_law_111 ?_
    refine am_iadd 112 dL_law_112 ?_
    refine am_istore 113 dL_law_113 (by decide) ?_
    refine am_iload 115 dL_law_115 rfl ?_
    refine am_bipush 117 (v := 13) dL_law_117 (by decide) ?_
    refine AW.more (rc := 0 + (18 + (5 + 23 * d))) (rs := 0 + (105 + (30 + 135 * d))) (by omega) (by omega) ?_
    refine am_S2 119 (mc' := 0) (ms' := 0) (rc := 18 + (5 + 23 * d)) (rs := 105 + (30 + 135 * d)) dL_law_119 lL_18 ⟨by decide, by decide⟩ (Nat.le_of_ble_eq_true rfl) (Nat.le_of_ble_eq_true rfl) (s_Lbelow (m := 13) (by decide) (by decide)) ?_
    rintro o n' f' ⟨r, hr, rfl, rfl, rfl⟩
    refine am_ctI ?_
    match r, hr with
    | 0, _ =>
      refine am_tableIn 122 (off := 38) (tgt := 160) dL_law_122 (by decide) (by decide) rfl rfl ?_
      exact AW.more (by omega) (by omega) (l_c0 hI hk44 hC)
    | 1, _ =>
      refine am_tableIn 122 (off := 92) (tgt := 214) dL_law_122 (by decide) (by decide) rfl rfl ?_
      exact AW.more (by omega) (by omega) (l_c1 hI hk44 hC)
    | 2, _ =>
      refine am_tableIn 122 (off := 110) (tgt := 232) dL_law_122 (by decide) (by decide) rfl rfl ?_
      exact AW.more (by omega) (by omega) (l_c2 hI hk44 hC)
    | 3, _ =>
      refine am_tableIn 122 (off := 139) (tgt := 261) dL_law_122 (by decide) (by decide) rfl rfl ?_
      exact AW.more (by omega) (by omega) (l_c3 hI hk44 hC)
    | 4, _ =>
      refine am_tableIn 122 (off := 174) (tgt := 296) dL_law_122 (by decide) (by decide) rfl rfl ?_
      exact AW.more (by omega) (by omega) (l_c4 hI hk44 hC)
    | 5, _ =>
      refine am_tableIn 122 (off := 208) (tgt := 330) dL_law_122 (by decide) (by decide) rfl rfl ?_
      exact AW.more (by omega) (by omega) (l_c5 hI hk44 hC)
    | r + 6, hr =>
      refine am_tableOut 122 (tgt := 363) dL_law_122 (Or.inr (by rw [nI_toInt (by omega)]; omega)) rfl ?_
      exact AW.more (by omega) (by omega) (l_cd hI hk44 hC)
set_option maxHeartbeats 2000000 in
theorem l_law (hs : f 0 = .inl (20, N, .inl xs)) (hN : N ≤ 260) : AW mL_law 1059 6942 0 [some (.ref 0), none, none, none, none, none, none, none, none, none, none, none, none, none, none, none] [] 1 f l_P := by
  refine am_new 0 (rc := 1058) (rs := 6931) (N := 11) dL_law_0 nL_9 ?_
  refine am_dup 3 dL_law_3 rfl ?_
  refine am_I0 4 (mc' := 45) (ms' := 987) (rc := 1013) (rs := 5944) dL_law_4 lL_11 ⟨by decide, by decide⟩ (Nat.le_of_ble_eq_true rfl) (Nat.le_of_ble_eq_true rfl) (s_Palmward_init am_ue) ?_
  rintro o n1 f1 ⟨rfl, rfl, hF1, e1⟩
  refine ⟨_, rfl, ?_⟩
  have hs1 : f1 0 = .inl (20, N, .inl xs) := (e1 0 (by omega)).trans (am_un (by omega) hs)
  refine am_astore_n 7 dL_law_7 (by decide) ?_
  refine am_iconst 8 (v := 4) dL_law_8 (by decide) ?_
  refine am_newints 9 (t := 0) (N := 4) (rc := 1012) (rs := 5940) dL_law_9 ac_int rfl (by decide) (by decide) (by decide) ?_
  refine am_dup 11 dL_law_11 rfl ?_
  refine am_iconst 12 (v := 0) dL_law_12 (by decide) ?_
  refine am_aload_n 13 dL_law_13 rfl ?_
  refine am_iconst 14 (v := 0) dL_law_14 (by decide) ?_
  refine AW.more (rc := 0 + (1012)) (rs := 0 + (5940)) (by omega) (by omega) ?_
  refine am_S2 15 (mc' := 0) (ms' := 0) (rc := 1012) (rs := 5940) dL_law_15 lL_12 ⟨by decide, by decide⟩ (Nat.le_of_ble_eq_true rfl) (Nat.le_of_ble_eq_true rfl) (s_Lcell (j := 0) (by repeat (first | exact hs1 | refine am_un (by omega) ?_)) hN (by omega)) ?_
  rintro o n' f' ⟨v0, rfl, rfl, rfl⟩
  refine am_ctI ?_
  refine am_bipush 18 (v := 48) dL_law_18 (by decide) ?_
  refine AW.more (rc := 0 + (1012)) (rs := 0 + (5940)) (by omega) (by omega) ?_
  refine am_S2 20 (mc' := 0) (ms' := 0) (rc := 1012) (rs := 5940) dL_law_20 lL_18 ⟨by decide, by decide⟩ (Nat.le_of_ble_eq_true rfl) (Nat.le_of_ble_eq_true rfl) (s_Lbelow (m := 48) (by decide) (by decide)) ?_
  rintro o n' f' ⟨c0, hc0, rfl, rfl, rfl⟩
  refine am_ctI ?_
  refine am_iastore 23 dL_law_23 rfl (by repeat (first | assumption | exact am_ue | refine am_un (by first | assumption | decide | omega) ?_)) (am_ix (c := 0) (by decide) (by decide)) ?_
  rw [am_uu]
  refine am_dup 24 dL_law_24 rfl ?_
  refine am_iconst 25 (v := 1) dL_law_25 (by decide) ?_
  refine am_aload_n 26 dL_law_26 rfl ?_
  refine am_iconst 27 (v := 1) dL_law_27 (by decide) ?_
  refine AW.more (rc := 0 + (1012)) (rs := 0 + (5940)) (by omega) (by omega) ?_
  refine am_S2 28 (mc' := 0) (ms' := 0) (rc := 1012) (rs := 5940) dL_law_28 lL_12 ⟨by decide, by decide⟩ (Nat.le_of_ble_eq_true rfl) (Nat.le_of_ble_eq_true rfl) (s_Lcell (j := 1) (by repeat (first | exact hs1 | refine am_un (by omega) ?_)) hN (by omega)) ?_
  rintro o n' f' ⟨v1, rfl, rfl, rfl⟩
  refine am_ctI ?_
  refine am_bipush 31 (v := 48) dL_law_31 (by decide) ?_
  refine AW.more (rc := 0 + (1012)) (rs := 0 + (5940)) (by omega) (by omega) ?_
  refine am_S2 33 (mc' := 0) (ms' := 0) (rc := 1012) (rs := 5940) dL_law_33 lL_18 ⟨by decide, by decide⟩ (Nat.le_of_ble_eq_true rfl) (Nat.le_of_ble_eq_true rfl) (s_Lbelow (m := 48) (by decide) (by decide)) ?_
  rintro o n' f' ⟨c1, hc1, rfl, rfl, rfl⟩
  refine am_ctI ?_
  refine am_iastore 36 dL_law_36 rfl (by repeat (first | assumption | exact am_ue | refine am_un (by first | assumption | decide | omega) ?_)) (am_ix (c := 1) (by decide) (by decide)) ?_
  rw [am_uu]
  refine am_dup 37 dL_law_37 rfl ?_
  refine am_iconst 38 (v := 2) dL_law_38 (by decide) ?_
  refine am_aload_n 39 dL_law_39 rfl ?_
  refine am_iconst 40 (v := 2) dL_law_40 (by decide) ?_
  refine AW.more (rc := 0 + (1012)) (rs := 0 + (5940)) (by omega) (by omega) ?_
  refine am_S2 41 (mc' := 0) (ms' := 0) (rc := 1012) (rs := 5940) dL_law_41 lL_12 ⟨by decide, by decide⟩ (Nat.le_of_ble_eq_true rfl) (Nat.le_of_ble_eq_true rfl) (s_Lcell (j := 2) (by repeat (first | exact hs1 | refine am_un (by omega) ?_)) hN (by omega)) ?_
  rintro o n' f' ⟨v2, rfl, rfl, rfl⟩
  refine am_ctI ?_
  refine am_bipush 44 (v := 48) dL_law_44 (by decide) ?_
  refine AW.more (rc := 0 + (1012)) (rs := 0 + (5940)) (by omega) (by omega) ?_
  refine am_S2 46 (mc' := 0) (ms' := 0) (rc := 1012) (rs := 5940) dL_law_46 lL_18 ⟨by decide, by decide⟩ (Nat.le_of_ble_eq_true rfl) (Nat.le_of_ble_eq_true rfl) (s_Lbelow (m := 48) (by decide) (by decide)) ?_
  rintro o n' f' ⟨c2, hc2, rfl, rfl, rfl⟩
  refine am_ctI ?_
  refine am_iastore 49 dL_law_49 rfl (by repeat (first | assumption | exact am_ue | refine am_un (by first | assumption | decide | omega) ?_)) (am_ix (c := 2) (by decide) (by decide)) ?_
  rw [am_uu]
  refine am_dup 50 dL_law_50 rfl ?_
  refine am_iconst 51 (v := 3) dL_law_51 (by decide) ?_
  refine am_aload_n 52 dL_law_52 rfl ?_
  refine am_iconst 53 (v := 3) dL_law_53 (by decide) ?_
  refine AW.more (rc := 0 + (1012)) (rs := 0 + (5940)) (by omega) (by omega) ?_
  refine am_S2 54 (mc' := 0) (ms' := 0) (rc := 1012) (rs := 5940) dL_law_54 lL_12 ⟨by decide, by decide⟩ (Nat.le_of_ble_eq_true rfl) (Nat.le_of_ble_eq_true rfl) (s_Lcell (j := 3) (by repeat (first | exact hs1 | refine am_un (by omega) ?_)) hN (by omega)) ?_
  rintro o n' f' ⟨v3, rfl, rfl, rfl⟩
  refine am_ctI ?_
  refine am_bipush 57 (v := 48) dL_law_57 (by decide) ?_
  refine AW.more (rc := 0 + (1012)) (rs := 0 + (5940)) (by omega) (by omega) ?_
  refine am_S2 59 (mc' := 0) (ms' := 0) (rc := 1012) (rs := 5940) dL_law_59 lL_18 ⟨by decide, by decide⟩ (Nat.le_of_ble_eq_true rfl) (Nat.le_of_ble_eq_true rfl) (s_Lbelow (m := 48) (by decide) (by decide)) ?_
  rintro o n' f' ⟨c3, hc3, rfl, rfl, rfl⟩
  refine am_ctI ?_
  refine am_iastore 62 dL_law_62 rfl (by repeat (first | assumption | exact am_ue | refine am_un (by first | assumption | decide | omega) ?_)) (am_ix (c := 3) (by decide) (by decide)) ?_
  rw [am_uu]
  refine am_astore_n 63 dL_law_63 (by decide) ?_
  refine am_bipush 64 (v := 12) dL_law_64 (by decide) ?_
  refine am_istore_n 66 dL_law_66 (by decide) ?_
  refine am_iconst 67 (v := 0) dL_law_67 (by decide) ?_
  refine am_istore 68 dL_law_68 (by decide) ?_
  refine l_loop hN 44 0 rfl 12 _ 48 _ _ _ _ _ _ _ _ _ _ _ _ ⟨⟨m_z0, 0, Nat.le_refl _, (m_Fr_G hF1).on fun x a b => am_up_ne (by omega), rfl⟩, am_un (by omega) hs1, am_up_eq, l_at (l_at (l_at (l_at (fun i _ => ⟨0, by decide, rfl⟩) hc0) hc1) hc2) hc3, by decide⟩
end Mai
