/-! ===== Picture: places, peaks, hum, look ===== -/
section Picture3
variable {i n : Nat} {f : Nat → am_C} {sig reg pc px py chn : Nat → Int32} {pk hm : Int32}
theorem s_placeOf {c : Nat} {isY : Bool} (h : m_Pic f i sig reg pc px py chn pk hm) (hc : c < 48) : AM mX5_placeOf 0 0 [.ref i, .int (nI c), .int (m_bi isY)] n f (am_is (some (.int (nI (m_placeN sig c isY)))) n f) := by
  obtain ⟨h0, h1, h2, h3, h4, h5, h6⟩ := h
  show AW mX5_placeOf 0 0 0 [some (.ref i), some (.int (nI c)), some (.int (m_bi isY)), none, none, none, none, none, none, none, none, none, none] [] n f _
  have hwl := m_wt_lt (sig := sig) (x := c % 8) (y := c / 8) (r := 6) (c := 0)
  have hml := m_mo_lt (sig := sig) (isY := isY) (x := c % 8) (y := c / 8) (r := 6) (c := 0)
  have hend : ∀ (z9 z10 z11 z12 : Option Value), AW mX5_placeOf 0 0 125 [some (.ref i), some (.int (nI c)), some (.int (m_bi isY)), some (.int (nI (c % 8))), some (.int (nI (c / 8))), some (.long (lN (m_wt sig (c % 8) (c / 8) 6 0))), none, some (.long (lN (m_mo sig isY (c % 8) (c / 8) 6 0))), none, z9, z10, z11, z12] [] n f (am_is (some (.int (nI (m_placeN sig c isY)))) n f) := by
    intro z9 z10 z11 z12
    generalize hw : m_wt sig (c % 8) (c / 8) 6 0 = w at hwl
    generalize hm : m_mo sig isY (c % 8) (c / 8) 6 0 = mo at hml
    refine am_lload 125 dX5_placeOf_125 rfl ?_
    refine am_lconst 127 (v := 0) dX5_placeOf_127 rfl ?_
    refine am_lcmp 128 dX5_placeOf_128 ?_
    refine am_if_le 129 148 dX5_placeOf_129 rfl (fun c129 => ?_) (fun c129 => ?_)
    · have hw0 : w = 0 := (m_lN0 (by omega)).mp ((lg_cmp_le _ _).mp c129)
      refine am_iconst 148 (v := 0) dX5_placeOf_148 (by decide) ?_
      refine am_ireturn 149 dX5_placeOf_149 rfl rfl ?_
      refine ⟨?_, rfl, rfl⟩
      unfold m_placeN
      rw [hw, hm]
      first | rw [if_pos hw0] | (rw [if_neg (by omega)]; rfl)
    · have hw0 : 0 < w := Nat.pos_of_ne_zero fun z => c129 ((lg_cmp_le _ _).mpr ((m_lN0 (by omega)).mpr z))
      refine am_lload 132 dX5_placeOf_132 rfl ?_
      refine am_lload 134 dX5_placeOf_134 rfl ?_
      refine am_ladd 136 dX5_placeOf_136 ?_
      rw [lN_add]
      refine am_ldc2 137 dX5_placeOf_137 kX5_80 ?_
      refine am_lload 140 dX5_placeOf_140 rfl ?_
      refine am_lmul 142 dX5_placeOf_142 ?_
      rw [show (2 : Int64) = lN 2 from rfl, lN_mul]
      refine am_ldiv 143 dX5_placeOf_143 (m_lNe (by omega) (by omega)) ?_
      rw [pk_lDiv (by omega) (by omega) (by omega)]
      refine am_l2i 144 dX5_placeOf_144 ?_
      rw [lN_i]
      refine am_goto 145 (tgt := 149) dX5_placeOf_145 rfl ?_
      refine am_ireturn 149 dX5_placeOf_149 rfl rfl ?_
      refine ⟨?_, rfl, rfl⟩
      unfold m_placeN
      rw [hw, hm]
      first | rw [if_pos hw0] | (rw [if_neg (by omega)]; rfl)
  refine am_iload_n 0 dX5_placeOf_0 rfl ?_
  refine am_bipush 1 (v := 8) dX5_placeOf_1 (by decide) ?_
  refine am_irem 3 dX5_placeOf_3 (by decide) ?_
  rw [am_rem8 (by omega)]
  refine am_istore_n 4 dX5_placeOf_4 (by decide) ?_
  refine am_iload_n 5 dX5_placeOf_5 rfl ?_
  refine am_bipush 6 (v := 8) dX5_placeOf_6 (by decide) ?_
  refine am_idiv 8 dX5_placeOf_8 (by decide) ?_
  rw [am_div8 (by omega)]
  refine am_istore 9 dX5_placeOf_9 (by decide) ?_
  refine am_lconst 11 (v := 0) dX5_placeOf_11 rfl ?_
  refine am_lstore 12 dX5_placeOf_12 (by decide) ?_
  refine am_lconst 14 (v := 0) dX5_placeOf_14 rfl ?_
  refine am_lstore 15 dX5_placeOf_15 (by decide) ?_
  refine am_iload 17 dX5_placeOf_17 rfl ?_
  refine am_iconst 19 (v := 1) dX5_placeOf_19 (by decide) ?_
  refine am_isub 20 dX5_placeOf_20 ?_
  refine am_iconst 21 (v := 0) dX5_placeOf_21 (by decide) ?_
  refine am_max 22 dX5_placeOf_22 jX5_69 (by decide) (Nat.le_of_ble_eq_true rfl) ?_
  rw [am_lo1 (y := c / 8) (by omega)]
  refine am_istore 25 dX5_placeOf_25 (by decide) ?_
  refine am_for (min (c / 8 + 1) 5 + 1) (fun r (z : (Option Value) × (Option Value)) => c / 8 ≤ r + 1) (fun r z => AW mX5_placeOf 0 0 27 [some (.ref i), some (.int (nI c)), some (.int (m_bi isY)), some (.int (nI (c % 8))), some (.int (nI (c / 8))), some (.long (lN (m_wt sig (c % 8) (c / 8) r 0))), none, some (.long (lN (m_mo sig isY (c % 8) (c / 8) r 0))), none, some (.int (nI r)), z.1, z.2, none] [] n f (am_is (some (.int (nI (m_placeN sig c isY)))) n f)) ?_ ?_ (c / 8 - 1) (none, none) (by omega) (by omega) |> fun g => by
    rw [m_wt_start, m_mo_start] at g
    exact g
  · rintro ⟨z1, z2⟩ hlo
    show AW mX5_placeOf 0 0 27 [some (.ref i), some (.int (nI c)), some (.int (m_bi isY)), some (.int (nI (c % 8))), some (.int (nI (c / 8))), some (.long (lN (m_wt sig (c % 8) (c / 8) (min (c / 8 + 1) 5 + 1) 0))), none, some (.long (lN (m_mo sig isY (c % 8) (c / 8) (min (c / 8 + 1) 5 + 1) 0))), none, some (.int (nI (min (c / 8 + 1) 5 + 1))), z1, z2, none] [] n f _
    rw [m_wt_end, m_mo_end]
    refine am_iload 27 dX5_placeOf_27 rfl ?_
    refine am_iload 29 dX5_placeOf_29 rfl ?_
    refine am_iconst 31 (v := 1) dX5_placeOf_31 (by decide) ?_
    refine am_iadd 32 dX5_placeOf_32 ?_
    refine am_iconst 33 (v := 5) dX5_placeOf_33 (by decide) ?_
    refine am_min 34 dX5_placeOf_34 jX5_75 (by decide) (Nat.le_of_ble_eq_true rfl) ?_
    rw [show (5 : Int32) = nI 5 from rfl, am_hi1 5 (y := c / 8) (by omega) (by decide)]
    refine am_icmp_gt 37 125 dX5_placeOf_37 rfl (fun c37 => ?_) (fun c37 => absurd (nI_lt (by omega) (by omega)) c37)
    exact hend _ _ _ _
  · rintro r ⟨z1, z2⟩ hr hlo ih
    show AW mX5_placeOf 0 0 27 [some (.ref i), some (.int (nI c)), some (.int (m_bi isY)), some (.int (nI (c % 8))), some (.int (nI (c / 8))), some (.long (lN (m_wt sig (c % 8) (c / 8) r 0))), none, some (.long (lN (m_mo sig isY (c % 8) (c / 8) r 0))), none, some (.int (nI r)), z1, z2, none] [] n f _
    refine am_iload 27 dX5_placeOf_27 rfl ?_
    refine am_iload 29 dX5_placeOf_29 rfl ?_
    refine am_iconst 31 (v := 1) dX5_placeOf_31 (by decide) ?_
    refine am_iadd 32 dX5_placeOf_32 ?_
    refine am_iconst 33 (v := 5) dX5_placeOf_33 (by decide) ?_
    refine am_min 34 dX5_placeOf_34 jX5_75 (by decide) (Nat.le_of_ble_eq_true rfl) ?_
    rw [show (5 : Int32) = nI 5 from rfl, am_hi1 5 (y := c / 8) (by omega) (by decide)]
    refine am_icmp_gt 37 125 dX5_placeOf_37 rfl (fun c37 => absurd c37 (nI_nlt (by omega) (by omega))) (fun c37 => ?_)
    refine am_iload_n 40 dX5_placeOf_40 rfl ?_
    refine am_iconst 41 (v := 1) dX5_placeOf_41 (by decide) ?_
    refine am_isub 42 dX5_placeOf_42 ?_
    refine am_iconst 43 (v := 0) dX5_placeOf_43 (by decide) ?_
    refine am_max 44 dX5_placeOf_44 jX5_69 (by decide) (Nat.le_of_ble_eq_true rfl) ?_
    rw [am_lo1 (y := c % 8) (by omega)]
    refine am_istore 47 dX5_placeOf_47 (by decide) ?_
    refine am_for (min (c % 8 + 1) 7 + 1) (fun k (z : Option Value) => c % 8 ≤ k + 1) (fun k z => AW mX5_placeOf 0 0 49 [some (.ref i), some (.int (nI c)), some (.int (m_bi isY)), some (.int (nI (c % 8))), some (.int (nI (c / 8))), some (.long (lN (m_wt sig (c % 8) (c / 8) r k))), none, some (.long (lN (m_mo sig isY (c % 8) (c / 8) r k))), none, some (.int (nI r)), some (.int (nI k)), z, none] [] n f (am_is (some (.int (nI (m_placeN sig c isY)))) n f)) ?_ ?_ (c % 8 - 1) z2 (by omega) (by omega) |> fun g => by
      rw [m_wt_col, m_mo_col] at g
      exact g
    · rintro z hlo2
      rw [m_wt_row, m_mo_row]
      refine am_iload 49 dX5_placeOf_49 rfl ?_
      refine am_iload_n 51 dX5_placeOf_51 rfl ?_
      refine am_iconst 52 (v := 1) dX5_placeOf_52 (by decide) ?_
      refine am_iadd 53 dX5_placeOf_53 ?_
      refine am_bipush 54 (v := 7) dX5_placeOf_54 (by decide) ?_
      refine am_min 56 dX5_placeOf_56 jX5_75 (by decide) (Nat.le_of_ble_eq_true rfl) ?_
      rw [show (7 : Int32) = nI 7 from rfl, am_hi1 7 (y := c % 8) (by omega) (by decide)]
      refine am_icmp_gt 59 119 dX5_placeOf_59 rfl (fun c59 => ?_) (fun c59 => absurd (nI_lt (by omega) (by omega)) c59)
      refine am_iinc 119 (v := nI (r + 1)) dX5_placeOf_119 rfl (nI_1 (r)) (by decide) ?_
      refine am_goto 122 (tgt := 27) dX5_placeOf_122 rfl ?_
      exact ih (_, _) (by omega)
    · rintro k z hk hlo2 ih2
      have e1 := m_wt_step (sig := sig) (x := c % 8) (y := c / 8) (r := r) (c := k) (by omega) (by omega) (by omega) (by omega) (by omega) (by omega)
      have e2 := m_mo_step (sig := sig) (isY := isY) (x := c % 8) (y := c / 8) (r := r) (c := k) (by omega) (by omega) (by omega) (by omega) (by omega) (by omega)
      refine am_iload 49 dX5_placeOf_49 rfl ?_
      refine am_iload_n 51 dX5_placeOf_51 rfl ?_
      refine am_iconst 52 (v := 1) dX5_placeOf_52 (by decide) ?_
      refine am_iadd 53 dX5_placeOf_53 ?_
      refine am_bipush 54 (v := 7) dX5_placeOf_54 (by decide) ?_
      refine am_min 56 dX5_placeOf_56 jX5_75 (by decide) (Nat.le_of_ble_eq_true rfl) ?_
      rw [show (7 : Int32) = nI 7 from rfl, am_hi1 7 (y := c % 8) (by omega) (by decide)]
      refine am_icmp_gt 59 119 dX5_placeOf_59 rfl (fun c59 => absurd c59 (nI_nlt (by omega) (by omega))) (fun c59 => ?_)
      refine am_aload_n 62 dX5_placeOf_62 rfl ?_
      refine am_getfield 63 dX5_placeOf_63 fX5_9 (by repeat (first | assumption | exact am_ue | refine am_un (by first | assumption | decide | omega) ?_)) rfl ?_
      refine am_iload 66 dX5_placeOf_66 rfl ?_
      refine am_bipush 68 (v := 8) dX5_placeOf_68 (by decide) ?_
      refine am_imul 70 dX5_placeOf_70 ?_
      refine am_iload 71 dX5_placeOf_71 rfl ?_
      refine am_iadd 73 dX5_placeOf_73 ?_
      rw [am_cellN]
      refine am_iaload 74 dX5_placeOf_74 rfl (by repeat (first | assumption | exact am_ue | refine am_un (by first | assumption | decide | omega) ?_)) (am_ix (by omega) (by decide)) ?_
      rw [nI_clamp (n := 8 * r + k) (by omega)]
      refine am_iconst 75 (v := 0) dX5_placeOf_75 (by decide) ?_
      refine am_max 76 dX5_placeOf_76 jX5_69 (by decide) (Nat.le_of_ble_eq_true rfl) ?_
      refine am_i2l 79 dX5_placeOf_79 ?_
      rw [m_sp_l, show lN (sig (8 * r + k)).toInt.toNat = lN (m_sp sig (8 * r + k)) from rfl]
      refine am_lstore 80 dX5_placeOf_80 (by decide) ?_
      refine am_lload 82 dX5_placeOf_82 rfl ?_
      refine am_lload 84 dX5_placeOf_84 rfl ?_
      refine am_ladd 86 dX5_placeOf_86 ?_
      rw [lN_add, ← e1]
      refine am_lstore 87 dX5_placeOf_87 (by decide) ?_
      refine am_lload 89 dX5_placeOf_89 rfl ?_
      refine am_ldc2 91 dX5_placeOf_91 kX5_78 ?_
      refine am_lload 94 dX5_placeOf_94 rfl ?_
      refine am_lmul 96 dX5_placeOf_96 ?_
      rw [show (16 : Int64) = lN 16 from rfl, lN_mul]
      refine am_iload_n 97 dX5_placeOf_97 rfl ?_
      refine am_if_eq 98 106 dX5_placeOf_98 rfl (fun c98 => ?_) (fun c98 => ?_)
      · have hY : isY = false := by cases isY <;> simp_all [m_bi]
        subst hY
        refine am_iload 106 dX5_placeOf_106 rfl ?_
        refine am_i2l 108 dX5_placeOf_108 ?_
        rw [nI_l (by omega)]
        refine am_lmul 109 dX5_placeOf_109 ?_
        rw [lN_mul]
        refine am_ladd 110 dX5_placeOf_110 ?_
        first | rw [lN_add, show m_mo sig true (c % 8) (c / 8) r k + 16 * m_sp sig (8 * r + k) * r = m_mo sig true (c % 8) (c / 8) r (k + 1) from e2.symm] | rw [lN_add, show m_mo sig false (c % 8) (c / 8) r k + 16 * m_sp sig (8 * r + k) * k = m_mo sig false (c % 8) (c / 8) r (k + 1) from e2.symm]
        refine am_lstore 111 dX5_placeOf_111 (by decide) ?_
        refine am_iinc 113 (v := nI (k + 1)) dX5_placeOf_113 rfl (nI_1 (k)) (by decide) ?_
        refine am_goto 116 (tgt := 49) dX5_placeOf_116 rfl ?_
        exact ih2 _ (by omega)
      · have hY : isY = true := by cases isY <;> simp_all [m_bi]
        subst hY
        refine am_iload 101 dX5_placeOf_101 rfl ?_
        refine am_goto 103 (tgt := 108) dX5_placeOf_103 rfl ?_
        refine am_i2l 108 dX5_placeOf_108 ?_
        rw [nI_l (by omega)]
        refine am_lmul 109 dX5_placeOf_109 ?_
        rw [lN_mul]
        refine am_ladd 110 dX5_placeOf_110 ?_
        first | rw [lN_add, show m_mo sig true (c % 8) (c / 8) r k + 16 * m_sp sig (8 * r + k) * r = m_mo sig true (c % 8) (c / 8) r (k + 1) from e2.symm] | rw [lN_add, show m_mo sig false (c % 8) (c / 8) r k + 16 * m_sp sig (8 * r + k) * k = m_mo sig false (c % 8) (c / 8) r (k + 1) from e2.symm]
        refine am_lstore 111 dX5_placeOf_111 (by decide) ?_
        refine am_iinc 113 (v := nI (k + 1)) dX5_placeOf_113 rfl (nI_1 (k)) (by decide) ?_
        refine am_goto 116 (tgt := 49) dX5_placeOf_116 rfl ?_
        exact ih2 _ (by omega)
theorem s_humNow (h : m_Pic f i sig reg pc px py chn pk hm) : AM mX5_humNow 0 0 [.ref i] n f (am_is (some (.int (m_hum sig))) n f) := by
  have hp := h
  obtain ⟨h0, h1, h2, h3, h4, h5, h6⟩ := h
  show AW mX5_humNow 0 0 0 [some (.ref i), none, none, none, none] [] n f _
  have hcl := m_ca_le (sig := sig)
  have hul := m_hu_le (sig := sig)
  refine am_lconst 0 (v := 0) dX5_humNow_0 rfl ?_
  refine am_lstore_n 1 dX5_humNow_1 (by decide) ?_
  refine am_iconst 2 (v := 0) dX5_humNow_2 (by decide) ?_
  refine am_istore_n 3 dX5_humNow_3 (by decide) ?_
  refine am_iconst 4 (v := 0) dX5_humNow_4 (by decide) ?_
  refine am_istore 5 dX5_humNow_5 (by decide) ?_
  refine am_for 48 (fun _ (_ : Unit) => True) (fun k _ => AW mX5_humNow 0 0 7 [some (.ref i), some (.long (lN (m_S (m_huF sig) k))), none, some (.int (nI (m_S (m_caF sig) k))), some (.int (nI k))] [] n f (am_is (some (.int (m_hum sig))) n f)) ?_ ?_ 0 () (by omega) trivial
  · rintro ⟨⟩ -
    generalize hw : m_S (m_caF sig) 48 = ca at hcl
    generalize hm : m_S (m_huF sig) 48 = hu at hul
    refine am_iload 7 dX5_humNow_7 rfl ?_
    refine am_bipush 9 (v := 48) dX5_humNow_9 (by decide) ?_
    refine am_icmp_ge 11 46 dX5_humNow_11 rfl (fun c11 => ?_) (fun c11 => absurd (by decide) c11)
    refine am_iload_n 46 dX5_humNow_46 rfl ?_
    refine am_if_le 47 58 dX5_humNow_47 rfl (fun c47 => ?_) (fun c47 => ?_)
    · have hw0 : ca = 0 := by
        have := am_ngtN 0 (Int32.not_lt.mpr c47) (by decide) (by omega)
        omega
      refine am_iconst 58 (v := 0) dX5_humNow_58 (by decide) ?_
      refine am_ireturn 59 dX5_humNow_59 rfl rfl ?_
      refine ⟨?_, rfl, rfl⟩
      unfold m_hum
      rw [hw, hm]
      first | rw [if_pos hw0] | (rw [if_neg (by omega)])
    · have hw0 : 0 < ca := am_gtN 0 (Int32.not_le.mp c47) (by decide) (by omega)
      refine am_lload_n 50 dX5_humNow_50 rfl ?_
      refine am_iload_n 51 dX5_humNow_51 rfl ?_
      refine am_i2l 52 dX5_humNow_52 ?_
      rw [nI_l (by omega)]
      refine am_ldiv 53 dX5_humNow_53 (m_lNe (by omega) (by omega)) ?_
      rw [pk_lDiv (by omega) (by omega) (by omega)]
      refine am_l2i 54 dX5_humNow_54 ?_
      rw [lN_i]
      refine am_goto 55 (tgt := 59) dX5_humNow_55 rfl ?_
      refine am_ireturn 59 dX5_humNow_59 rfl rfl ?_
      refine ⟨?_, rfl, rfl⟩
      unfold m_hum
      rw [hw, hm]
      first | rw [if_pos hw0] | (rw [if_neg (by omega)])
  · rintro k ⟨⟩ hk - ih
    have ih := ih () trivial
    refine am_iload 7 dX5_humNow_7 rfl ?_
    refine am_bipush 9 (v := 48) dX5_humNow_9 (by decide) ?_
    refine am_icmp_ge 11 46 dX5_humNow_11 rfl (fun c11 => absurd c11 (nI_ge hk (by decide))) (fun c11 => ?_)
    refine am_aload_n 14 dX5_humNow_14 rfl ?_
    refine am_iload 15 dX5_humNow_15 rfl ?_
    refine am_V1 17 (mc' := 0) (ms' := 0) (rc := 0) (rs := 0) dX5_humNow_17 lX5_36 ⟨by decide, by decide⟩ (by repeat (first | assumption | exact am_ue | refine am_un (by first | assumption | decide | omega) ?_)) (Nat.le_of_ble_eq_true rfl) (Nat.le_of_ble_eq_true rfl) (s_isTouched hp hk) ?_
    refine am_is_ct ?_
    refine am_if_ne 20 40 dX5_humNow_20 rfl (fun c20 => ?_) (fun c20 => ?_)
    · have e1 : m_S (m_huF sig) (k + 1) = m_S (m_huF sig) k := by show _ + m_huF sig k = _; unfold m_huF; rw [if_pos (Classical.not_not.mp fun z => c20 (m_tc_0.mpr z))]; rfl
      have e2 : m_S (m_caF sig) (k + 1) = m_S (m_caF sig) k := by show _ + m_caF sig k = _; unfold m_caF; rw [if_pos (Classical.not_not.mp fun z => c20 (m_tc_0.mpr z))]; rfl
      rw [e1, e2] at ih
      refine am_iinc 40 (v := nI (k + 1)) dX5_humNow_40 rfl (nI_1 (k)) (by decide) ?_
      refine am_goto 43 (tgt := 7) dX5_humNow_43 rfl ?_
      exact ih
    · have c20' := m_tc_0.mp c20
      have e1 : m_S (m_huF sig) (k + 1) = m_S (m_huF sig) k + (sig k).toInt.natAbs := by show _ + m_huF sig k = _; unfold m_huF; rw [if_neg c20']
      have e2 : m_S (m_caF sig) (k + 1) = m_S (m_caF sig) k + 1 := by show _ + m_caF sig k = _; unfold m_caF; rw [if_neg c20']
      rw [e1, e2] at ih
      refine am_lload_n 23 dX5_humNow_23 rfl ?_
      refine am_aload_n 24 dX5_humNow_24 rfl ?_
      refine am_getfield 25 dX5_humNow_25 fX5_9 (by repeat (first | assumption | exact am_ue | refine am_un (by first | assumption | decide | omega) ?_)) rfl ?_
      refine am_iload 28 dX5_humNow_28 rfl ?_
      refine am_iaload 30 dX5_humNow_30 rfl (by repeat (first | assumption | exact am_ue | refine am_un (by first | assumption | decide | omega) ?_)) (am_ix hk (by decide)) ?_
      rw [nI_clamp (n := k) (by omega)]
      refine am_i2l 31 dX5_humNow_31 ?_
      refine am_absL 32 dX5_humNow_32 jX5_82 (by decide) (Nat.le_of_ble_eq_true rfl) ?_
      rw [m_abs_l]
      refine am_ladd 35 dX5_humNow_35 ?_
      rw [lN_add]
      refine am_lstore_n 36 dX5_humNow_36 (by decide) ?_
      refine am_iinc 37 (v := nI (m_S (m_caF sig) k + 1)) dX5_humNow_37 rfl (nI_1 (m_S (m_caF sig) k)) (by decide) ?_
      refine am_iinc 40 (v := nI (k + 1)) dX5_humNow_40 rfl (nI_1 (k)) (by decide) ?_
      refine am_goto 43 (tgt := 7) dX5_humNow_43 rfl ?_
      exact ih
theorem s_findPeaks (h : m_Pic f i sig reg pc px py chn pk hm) : AM mX5_findPeaks 0 0 [.ref i] n f (fun o n' f' => ∃ pc' px' py', o = .inl none ∧ n = n' ∧ f' = m_put f i sig reg pc' px' py' chn (nI (m_pks sig 48).length) hm ∧ m_pkOk sig (m_pks sig 48) pc' px' py') := by
  have h0 := h.put
  show AW mX5_findPeaks 0 0 0 [some (.ref i), none] [] n f _
  rw [h0]
  generalize hQ : (fun (o : Option Value ⊕ Nat) (n' : Nat) (f' : Nat → am_C) => ∃ pc' px' py', o = .inl none ∧ n = n' ∧ f' = m_put (m_put f i sig reg pc px py chn pk hm) i sig reg pc' px' py' chn (nI (m_pks sig 48).length) hm ∧ m_pkOk sig (m_pks sig 48) pc' px' py') = Q
  refine am_aload_n 0 dX5_findPeaks_0 rfl ?_
  refine am_iconst 1 (v := 0) dX5_findPeaks_1 (by decide) ?_
  refine am_putfield 2 dX5_findPeaks_2 pX5_59 (by first | assumption | exact m_put_a0 | exact m_put_a1 | exact m_put_a2 | exact m_put_a3 | exact m_put_a4 | exact m_put_a5 | exact m_put_a6) rfl rfl (Nat.le_of_ble_eq_true rfl) ?_
  rw [show (List.set [Value.ref (i + 1), .ref (i + 2), .ref (i + 3), .ref (i + 4), .ref (i + 5), .ref (i + 6), .int pk, .int hm] 6 (.int 0)) = [.ref (i + 1), .ref (i + 2), .ref (i + 3), .ref (i + 4), .ref (i + 5), .ref (i + 6), .int 0, .int hm] from rfl, m_put_0]
  refine am_iconst 5 (v := 0) dX5_findPeaks_5 (by decide) ?_
  refine am_istore_n 6 dX5_findPeaks_6 (by decide) ?_
  refine am_for 48 (fun k (z : (Nat → Int32) × (Nat → Int32) × (Nat → Int32)) => m_pkOk sig (m_pks sig k) z.1 z.2.1 z.2.2) (fun k z => AW mX5_findPeaks 0 0 7 [some (.ref i), some (.int (nI k))] [] n (m_put f i sig reg z.1 z.2.1 z.2.2 chn (nI (m_pks sig k).length) hm) Q) ?_ ?_ 0 (pc, px, py) (by omega) (fun j hj => by simp [m_pks] at hj)
  · rintro ⟨a, b, c⟩ hok
    refine am_iload_n 7 dX5_findPeaks_7 rfl ?_
    refine am_bipush 8 (v := 48) dX5_findPeaks_8 (by decide) ?_
    refine am_icmp_ge 10 85 dX5_findPeaks_10 rfl (fun c10 => ?_) (fun c10 => absurd (by decide) c10)
    refine am_return 85 dX5_findPeaks_85 rfl ?_
    subst hQ
    exact ⟨a, b, c, rfl, rfl, by rw [← h0], hok⟩
  · rintro k ⟨a, b, c⟩ hk hok ih
    have hok : m_pkOk sig (m_pks sig k) a b c := hok
    have hlen := m_pks_len (sig := sig) (k := k)
    have hpk := m_pks_succ (sig := sig) (k := k)
    show AW mX5_findPeaks 0 0 7 [some (.ref i), some (.int (nI k))] [] n (m_put f i sig reg a b c chn (nI (m_pks sig k).length) hm) Q
    refine am_iload_n 7 dX5_findPeaks_7 rfl ?_
    refine am_bipush 8 (v := 48) dX5_findPeaks_8 (by decide) ?_
    refine am_icmp_ge 10 85 dX5_findPeaks_10 rfl (fun c10 => absurd c10 (nI_ge hk (by decide))) (fun c10 => ?_)
    refine am_aload_n 13 dX5_findPeaks_13 rfl ?_
    refine am_iload_n 14 dX5_findPeaks_14 rfl ?_
    refine am_V1 15 (mc' := 0) (ms' := 0) (rc := 0) (rs := 0) dX5_findPeaks_15 lX5_36 ⟨by decide, by decide⟩ (by first | assumption | exact m_put_a0 | exact m_put_a1 | exact m_put_a2 | exact m_put_a3 | exact m_put_a4 | exact m_put_a5 | exact m_put_a6) (Nat.le_of_ble_eq_true rfl) (Nat.le_of_ble_eq_true rfl) (s_isTouched m_put_pic hk) ?_
    refine am_is_ct ?_
    refine am_if_eq 18 79 dX5_findPeaks_18 rfl (fun c18 => ?_) (fun c18 => ?_)
    · have hf : m_isPk sig k = false := by simp [m_isPk, m_tc_0.mp c18]
      rw [if_neg (by simp [hf])] at hpk
      have ih := ih (a, b, c) (by rw [hpk]; exact hok)
      rw [hpk] at ih
      refine am_iinc 79 (v := nI (k + 1)) dX5_findPeaks_79 rfl (nI_1 (k)) (by decide) ?_
      refine am_goto 82 (tgt := 7) dX5_findPeaks_82 rfl ?_
      first | exact ih | (rw [List.length_append] at ih; exact ih)
    · refine am_aload_n 21 dX5_findPeaks_21 rfl ?_
      refine am_iload_n 22 dX5_findPeaks_22 rfl ?_
      refine am_V1 23 (mc' := 0) (ms' := 0) (rc := 0) (rs := 0) dX5_findPeaks_23 lX5_62 ⟨by decide, by decide⟩ (by first | assumption | exact m_put_a0 | exact m_put_a1 | exact m_put_a2 | exact m_put_a3 | exact m_put_a4 | exact m_put_a5 | exact m_put_a6) (Nat.le_of_ble_eq_true rfl) (Nat.le_of_ble_eq_true rfl) (s_isSummit m_put_pic hk) ?_
      refine am_is_ct ?_
      refine am_if_eq 26 79 dX5_findPeaks_26 rfl (fun c26 => ?_) (fun c26 => ?_)
      · have hf : m_isPk sig k = false := by
          unfold m_isPk
          cases hs : m_sum sig k
          · simp
          · rw [hs] at c26; exact absurd c26 (by decide)
        rw [if_neg (by simp [hf])] at hpk
        have ih := ih (a, b, c) (by rw [hpk]; exact hok)
        rw [hpk] at ih
        refine am_iinc 79 (v := nI (k + 1)) dX5_findPeaks_79 rfl (nI_1 (k)) (by decide) ?_
        refine am_goto 82 (tgt := 7) dX5_findPeaks_82 rfl ?_
        first | exact ih | (rw [List.length_append] at ih; exact ih)
      · have hf : m_isPk sig k = true := by
          unfold m_isPk
          cases hs : m_sum sig k
          · rw [hs] at c26; exact absurd (if_neg (by decide)) c26
          · simp [Classical.not_not.mp fun z => c18 (m_tc_0.mpr z)]
        rw [if_pos hf] at hpk
        have ih := ih (_, _, _) (by rw [hpk]; exact m_pkOk_push hok)
        rw [hpk] at ih
        refine am_aload_n 29 dX5_findPeaks_29 rfl ?_
        refine am_getfield 30 dX5_findPeaks_30 fX5_18 (by first | assumption | exact m_put_a0 | exact m_put_a1 | exact m_put_a2 | exact m_put_a3 | exact m_put_a4 | exact m_put_a5 | exact m_put_a6) rfl ?_
        refine am_aload_n 33 dX5_findPeaks_33 rfl ?_
        refine am_getfield 34 dX5_findPeaks_34 fX5_59 (by first | assumption | exact m_put_a0 | exact m_put_a1 | exact m_put_a2 | exact m_put_a3 | exact m_put_a4 | exact m_put_a5 | exact m_put_a6) rfl ?_
        refine am_iload_n 37 dX5_findPeaks_37 rfl ?_
        refine am_iastore 38 dX5_findPeaks_38 rfl (by first | assumption | exact m_put_a0 | exact m_put_a1 | exact m_put_a2 | exact m_put_a3 | exact m_put_a4 | exact m_put_a5 | exact m_put_a6) (am_ix (by omega) (by decide)) ?_
        rw [nI_clamp (n := (m_pks sig k).length) (by omega), m_put_3]
        refine am_aload_n 39 dX5_findPeaks_39 rfl ?_
        refine am_getfield 40 dX5_findPeaks_40 fX5_21 (by first | assumption | exact m_put_a0 | exact m_put_a1 | exact m_put_a2 | exact m_put_a3 | exact m_put_a4 | exact m_put_a5 | exact m_put_a6) rfl ?_
        refine am_aload_n 43 dX5_findPeaks_43 rfl ?_
        refine am_getfield 44 dX5_findPeaks_44 fX5_59 (by first | assumption | exact m_put_a0 | exact m_put_a1 | exact m_put_a2 | exact m_put_a3 | exact m_put_a4 | exact m_put_a5 | exact m_put_a6) rfl ?_
        refine am_aload_n 47 dX5_findPeaks_47 rfl ?_
        refine am_iload_n 48 dX5_findPeaks_48 rfl ?_
        refine am_iconst 49 (v := 0) dX5_findPeaks_49 (by decide) ?_
        refine am_V2 50 (mc' := 0) (ms' := 0) (rc := 0) (rs := 0) dX5_findPeaks_50 lX5_65 ⟨by decide, by decide⟩ (by first | assumption | exact m_put_a0 | exact m_put_a1 | exact m_put_a2 | exact m_put_a3 | exact m_put_a4 | exact m_put_a5 | exact m_put_a6) (Nat.le_of_ble_eq_true rfl) (Nat.le_of_ble_eq_true rfl) (s_placeOf (isY := false) m_put_pic hk) ?_
        refine am_is_ct ?_
        refine am_iastore 53 dX5_findPeaks_53 rfl (by first | assumption | exact m_put_a0 | exact m_put_a1 | exact m_put_a2 | exact m_put_a3 | exact m_put_a4 | exact m_put_a5 | exact m_put_a6) (am_ix (by omega) (by decide)) ?_
        rw [nI_clamp (n := (m_pks sig k).length) (by omega), m_put_4]
        refine am_aload_n 54 dX5_findPeaks_54 rfl ?_
        refine am_getfield 55 dX5_findPeaks_55 fX5_24 (by first | assumption | exact m_put_a0 | exact m_put_a1 | exact m_put_a2 | exact m_put_a3 | exact m_put_a4 | exact m_put_a5 | exact m_put_a6) rfl ?_
        refine am_aload_n 58 dX5_findPeaks_58 rfl ?_
        refine am_getfield 59 dX5_findPeaks_59 fX5_59 (by first | assumption | exact m_put_a0 | exact m_put_a1 | exact m_put_a2 | exact m_put_a3 | exact m_put_a4 | exact m_put_a5 | exact m_put_a6) rfl ?_
        refine am_aload_n 62 dX5_findPeaks_62 rfl ?_
        refine am_iload_n 63 dX5_findPeaks_63 rfl ?_
        refine am_iconst 64 (v := 1) dX5_findPeaks_64 (by decide) ?_
        refine am_V2 65 (mc' := 0) (ms' := 0) (rc := 0) (rs := 0) dX5_findPeaks_65 lX5_65 ⟨by decide, by decide⟩ (by first | assumption | exact m_put_a0 | exact m_put_a1 | exact m_put_a2 | exact m_put_a3 | exact m_put_a4 | exact m_put_a5 | exact m_put_a6) (Nat.le_of_ble_eq_true rfl) (Nat.le_of_ble_eq_true rfl) (s_placeOf (isY := true) m_put_pic hk) ?_
        refine am_is_ct ?_
        refine am_iastore 68 dX5_findPeaks_68 rfl (by first | assumption | exact m_put_a0 | exact m_put_a1 | exact m_put_a2 | exact m_put_a3 | exact m_put_a4 | exact m_put_a5 | exact m_put_a6) (am_ix (by omega) (by decide)) ?_
        rw [nI_clamp (n := (m_pks sig k).length) (by omega), m_put_5]
        refine am_aload_n 69 dX5_findPeaks_69 rfl ?_
        refine am_dup 70 dX5_findPeaks_70 rfl ?_
        refine am_getfield 71 dX5_findPeaks_71 fX5_59 (by first | assumption | exact m_put_a0 | exact m_put_a1 | exact m_put_a2 | exact m_put_a3 | exact m_put_a4 | exact m_put_a5 | exact m_put_a6) rfl ?_
        refine am_iconst 74 (v := 1) dX5_findPeaks_74 (by decide) ?_
        refine am_iadd 75 dX5_findPeaks_75 ?_
        refine am_putfield 76 dX5_findPeaks_76 pX5_59 (by first | assumption | exact m_put_a0 | exact m_put_a1 | exact m_put_a2 | exact m_put_a3 | exact m_put_a4 | exact m_put_a5 | exact m_put_a6) rfl rfl (Nat.le_of_ble_eq_true rfl) ?_
        rw [nI_1, show ∀ v : Int32, (List.set [Value.ref (i + 1), .ref (i + 2), .ref (i + 3), .ref (i + 4), .ref (i + 5), .ref (i + 6), .int (nI (m_pks sig k).length), .int hm] 6 (.int v)) = [.ref (i + 1), .ref (i + 2), .ref (i + 3), .ref (i + 4), .ref (i + 5), .ref (i + 6), .int v, .int hm] from fun _ => rfl, m_put_0]
        refine am_iinc 79 (v := nI (k + 1)) dX5_findPeaks_79 rfl (nI_1 (k)) (by decide) ?_
        refine am_goto 82 (tgt := 7) dX5_findPeaks_82 rfl ?_
        first | exact ih | (rw [List.length_append] at ih; exact ih)
end Picture3
