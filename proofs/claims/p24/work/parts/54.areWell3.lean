/-! ===== all is well: contacts ===== -/
section We3
variable {p T n : Nat} {f : Nat → am_C} {z : m_Z}
theorem s_LareWell (hG : m_G f p T z) (hT : T ≤ 1000) : AM mL_areWell 5 30 [.ref p] n f (am_is (some (.int 1)) n f) := by
  have h0 := hG.1
  have hI := hG.2.2.2.2.2.2.1
  have ht := hG.2.2.2.2.1.2.2.1
  show AW mL_areWell 5 30 0 [some (.ref p), none, none, none, none, none, none, none, none] [] n f _
  generalize hQ : am_is (some (.int 1)) n f = Q
  refine am_iconst 0 (v := 0) dL_areWell_0 (by decide) ?_
  refine am_istore_n 1 dL_areWell_1 (by decide) ?_
  refine am_iconst 2 (v := 0) dL_areWell_2 (by decide) ?_
  refine am_istore_n 3 dL_areWell_3 (by decide) ?_
  refine am_for 5 (fun k (w : Int32) => w = nI (m_N (m_th (z_K z)) k)) (fun k w => AW mL_areWell (5 - k) (6 * (5 - k)) 4 [some (.ref p), some (.int w), some (.int (nI k)), none, none, none, none, none, none] [] n f Q) ?_ ?_ 0 0 (by omega) rfl
  · intro w h
    have h : w = nI (m_N (m_th (z_K z)) 5) := h
    show AW mL_areWell 0 0 4 [some (.ref p), some (.int w), some (.int (nI 5)), none, none, none, none, none, none] [] n f Q
    rw [h]
    subst hQ
    refine am_iload_n 4 dL_areWell_4 rfl ?_
    refine am_iconst 5 (v := 5) dL_areWell_5 (by decide) ?_
    refine am_icmp_ge 6 151 dL_areWell_6 rfl (fun c6 => ?_) (fun c6 => absurd (by decide) c6)
    refine am_iconst 151 (v := 0) dL_areWell_151 (by decide) ?_
    refine am_istore_n 152 dL_areWell_152 (by decide) ?_
    refine am_iconst 153 (v := 0) dL_areWell_153 (by decide) ?_
    refine am_istore_n 154 dL_areWell_154 (by decide) ?_
    refine am_iconst 155 (v := (-1)) dL_areWell_155 (by decide) ?_
    refine am_istore 156 dL_areWell_156 (by decide) ?_
    refine am_iconst 158 (v := 0) dL_areWell_158 (by decide) ?_
    refine am_istore 159 dL_areWell_159 (by decide) ?_
    exact l_well2 hG hT
  · intro k w hk h ih
    have h : w = nI (m_N (m_th (z_K z)) k) := h
    show AW mL_areWell (5 - k) (6 * (5 - k)) 4 [some (.ref p), some (.int w), some (.int (nI k)), none, none, none, none, none, none] [] n f Q
    refine AW.more (rc := 1 + (5 - (k + 1))) (rs := 6 + 6 * (5 - (k + 1))) (by omega) (by omega) ?_
    rw [h]
    have ih2 : AW mL_areWell (5 - (k + 1)) (6 * (5 - (k + 1))) 4 [some (.ref p), some (.int (nI (m_N (m_th (z_K z)) (k + 1)))), some (.int (nI (k + 1))), none, none, none, none, none, none] [] n f Q := ih _ rfl
    clear ih
    rcases m_frs_in hI hT hk with ⟨hth, e⟩ | ⟨hth, fr, f1, f2, e, -⟩
    · rw [m_th_no hth] at ih2
      refine am_iload_n 4 dL_areWell_4 rfl ?_
      refine am_iconst 5 (v := 5) dL_areWell_5 (by decide) ?_
      refine am_icmp_ge 6 151 dL_areWell_6 rfl (fun c6 => absurd c6 (nI_ge hk (by decide))) (fun c6 => ?_)
      refine am_aload_n 9 dL_areWell_9 rfl ?_
      refine am_iload_n 10 dL_areWell_10 rfl ?_
      refine am_SW2 11 (mc' := 1) (ms' := 6) (rc := 5 - (k + 1)) (rs := 6 * (5 - (k + 1))) dL_areWell_11 lL_79 ⟨by decide, by decide⟩ (Nat.le_of_ble_eq_true rfl) (Nat.le_of_ble_eq_true rfl) (s_Lframes hG hk) ?_
      refine am_is_ct ?_
      rw [e]
      refine am_if_ne 14 20 dL_areWell_14 rfl (fun c14 => absurd c14 (fun q => q rfl)) (fun c14 => ?_)
      refine am_goto 17 (tgt := 145) dL_areWell_17 rfl ?_
      refine am_iinc 145 (v := nI (k + 1)) dL_areWell_145 rfl (nI_1 (k)) (by decide) ?_
      refine am_goto 148 (tgt := 4) dL_areWell_148 rfl ?_
      exact ih2
    · have hne : ¬ nI fr = 0 := fun q => absurd ((nI_eq (b := 0) (by omega) (by decide)).mp q) (by omega)
      obtain ⟨-, r2, r3, -⟩ := (hI.1 k hk).2.2 hth
      have h5 : ¬ 1 < m_conA (z_K z k) 3 := by
        show ¬ 1 < (z_K z k).1 5
        rcases r2 with q | q <;> rw [q] <;> decide
      have h7 : ¬ m_manyA z 6 ≤ m_conA (z_K z k) 5 := by
        show ¬ nI (z_to z) ≤ (z_K z k).1 7
        rcases r3 with q | ⟨a, a1, q⟩
        · rw [q]
          intro y
          have := Int32.le_trans (nI_pos' (n := z_to z) (by omega)) y
          exact absurd this (by decide)
        · rw [q]
          exact nI_ge a1 (by omega)
      obtain ⟨w1, w2, w3, w4, w5, w6⟩ := m_well (hI.1 k hk).1
      by_cases hst : Op.cmpValue (FP.dcmp (FP.f2d (m_whA (z_K z k) 2)) FP.dconst0) .l = 0
      · refine am_iload_n 4 dL_areWell_4 rfl ?_
        refine am_iconst 5 (v := 5) dL_areWell_5 (by decide) ?_
        refine am_icmp_ge 6 151 dL_areWell_6 rfl (fun c6 => absurd c6 (nI_ge hk (by decide))) (fun c6 => ?_)
        refine am_aload_n 9 dL_areWell_9 rfl ?_
        refine am_iload_n 10 dL_areWell_10 rfl ?_
        refine am_SW2 11 (mc' := 1) (ms' := 6) (rc := 5 - (k + 1)) (rs := 6 * (5 - (k + 1))) dL_areWell_11 lL_79 ⟨by decide, by decide⟩ (Nat.le_of_ble_eq_true rfl) (Nat.le_of_ble_eq_true rfl) (s_Lframes hG hk) ?_
        refine am_is_ct ?_
        rw [e]
        refine am_if_ne 14 20 dL_areWell_14 rfl (fun c14 => ?_) (fun c14 => absurd c14 hne)
        refine am_iinc 20 (v := nI (m_N (m_th (z_K z)) (k + 1))) dL_areWell_20 rfl (m_th_yes hth) (by decide) ?_
        refine am_aload_n 23 dL_areWell_23 rfl ?_
        refine am_iload_n 24 dL_areWell_24 rfl ?_
        refine am_iconst 25 (v := 3) dL_areWell_25 (by decide) ?_
        refine AW.more (rc := 0 + (5 - (k + 1))) (rs := 0 + (6 * (5 - (k + 1)))) (by omega) (by omega) ?_
        refine am_V2 26 (mc' := 0) (ms' := 0) (rc := 5 - (k + 1)) (rs := 6 * (5 - (k + 1))) dL_areWell_26 lL_92 ⟨by decide, by decide⟩ (by repeat (first | assumption | exact am_ue | refine am_un (by first | assumption | decide | omega) ?_)) (Nat.le_of_ble_eq_true rfl) (Nat.le_of_ble_eq_true rfl) (s_ofContact hG hk (j := 3) (by decide) hth) ?_
        refine am_is_ct ?_
        refine am_iconst 29 (v := 1) dL_areWell_29 (by decide) ?_
        refine am_icmp_gt 30 113 dL_areWell_30 rfl (fun c30 => absurd c30 h5) (fun c30 => ?_)
        refine am_aload_n 33 dL_areWell_33 rfl ?_
        refine am_iload_n 34 dL_areWell_34 rfl ?_
        refine am_iconst 35 (v := 5) dL_areWell_35 (by decide) ?_
        refine AW.more (rc := 0 + (5 - (k + 1))) (rs := 0 + (6 * (5 - (k + 1)))) (by omega) (by omega) ?_
        refine am_V2 36 (mc' := 0) (ms' := 0) (rc := 5 - (k + 1)) (rs := 6 * (5 - (k + 1))) dL_areWell_36 lL_92 ⟨by decide, by decide⟩ (by repeat (first | assumption | exact am_ue | refine am_un (by first | assumption | decide | omega) ?_)) (Nat.le_of_ble_eq_true rfl) (Nat.le_of_ble_eq_true rfl) (s_ofContact hG hk (j := 5) (by decide) hth) ?_
        refine am_is_ct ?_
        refine am_aload_n 39 dL_areWell_39 rfl ?_
        refine am_bipush 40 (v := 6) dL_areWell_40 (by decide) ?_
        refine AW.more (rc := 0 + (5 - (k + 1))) (rs := 0 + (6 * (5 - (k + 1)))) (by omega) (by omega) ?_
        refine am_V1 42 (mc' := 0) (ms' := 0) (rc := 5 - (k + 1)) (rs := 6 * (5 - (k + 1))) dL_areWell_42 lL_22 ⟨by decide, by decide⟩ (by repeat (first | assumption | exact am_ue | refine am_un (by first | assumption | decide | omega) ?_)) (Nat.le_of_ble_eq_true rfl) (Nat.le_of_ble_eq_true rfl) (s_many hG (j := 6) (by decide)) ?_
        refine am_is_ct ?_
        refine am_icmp_ge 45 113 dL_areWell_45 rfl (fun c45 => absurd c45 h7) (fun c45 => ?_)
        refine am_aload_n 48 dL_areWell_48 rfl ?_
        refine am_iload_n 49 dL_areWell_49 rfl ?_
        refine am_iconst 50 (v := 4) dL_areWell_50 (by decide) ?_
        refine AW.more (rc := 0 + (5 - (k + 1))) (rs := 0 + (6 * (5 - (k + 1)))) (by omega) (by omega) ?_
        refine am_V2 51 (mc' := 0) (ms' := 0) (rc := 5 - (k + 1)) (rs := 6 * (5 - (k + 1))) dL_areWell_51 lL_97 ⟨by decide, by decide⟩ (by repeat (first | assumption | exact am_ue | refine am_un (by first | assumption | decide | omega) ?_)) (Nat.le_of_ble_eq_true rfl) (Nat.le_of_ble_eq_true rfl) (s_where hG hk (j := 4) (by decide) hth) ?_
        refine am_is_ct ?_
        refine am_dconst0 54 dL_areWell_54 ?_
        refine am_dcmp 55 dL_areWell_55 ?_
        refine am_if_lt 56 113 dL_areWell_56 rfl (fun c56 => absurd c56 w1) (fun c56 => ?_)
        refine am_aload_n 59 dL_areWell_59 rfl ?_
        refine am_iload_n 60 dL_areWell_60 rfl ?_
        refine am_iload_n 61 dL_areWell_61 rfl ?_
        refine AW.more (rc := 0 + (5 - (k + 1))) (rs := 0 + (6 * (5 - (k + 1)))) (by omega) (by omega) ?_
        refine am_V2 62 (mc' := 0) (ms' := 0) (rc := 5 - (k + 1)) (rs := 6 * (5 - (k + 1))) dL_areWell_62 lL_101 ⟨by decide, by decide⟩ (by repeat (first | assumption | exact am_ue | refine am_un (by first | assumption | decide | omega) ?_)) (Nat.le_of_ble_eq_true rfl) (Nat.le_of_ble_eq_true rfl) (s_apart hG hk hk hth hth) ?_
        refine am_is_ct ?_
        refine am_dconst0 65 dL_areWell_65 ?_
        refine am_dcmp 66 dL_areWell_66 ?_
        refine am_if_ne 67 113 dL_areWell_67 rfl (fun c67 => absurd c67 (fun q => q w2)) (fun c67 => ?_)
        refine am_aload_n 70 dL_areWell_70 rfl ?_
        refine am_iload_n 71 dL_areWell_71 rfl ?_
        refine am_bipush 72 (v := 9) dL_areWell_72 (by decide) ?_
        refine am_iconst 74 (v := 0) dL_areWell_74 (by decide) ?_
        refine AW.more (rc := 0 + (5 - (k + 1))) (rs := 0 + (6 * (5 - (k + 1)))) (by omega) (by omega) ?_
        refine am_V3 75 (mc' := 0) (ms' := 0) (rc := 5 - (k + 1)) (rs := 6 * (5 - (k + 1))) dL_areWell_75 lL_104 ⟨by decide, by decide⟩ (by repeat (first | assumption | exact am_ue | refine am_un (by first | assumption | decide | omega) ?_)) (Nat.le_of_ble_eq_true rfl) (Nat.le_of_ble_eq_true rfl) (s_guess (isY := false) hG hk (a := 9) (by decide) hth) ?_
        refine am_is_ct ?_
        refine am_dconst0 78 dL_areWell_78 ?_
        refine am_dcmp 79 dL_areWell_79 ?_
        refine am_if_lt 80 113 dL_areWell_80 rfl (fun c80 => absurd c80 w3) (fun c80 => ?_)
        refine am_aload_n 83 dL_areWell_83 rfl ?_
        refine am_iload_n 84 dL_areWell_84 rfl ?_
        refine am_bipush 85 (v := 9) dL_areWell_85 (by decide) ?_
        refine am_iconst 87 (v := 0) dL_areWell_87 (by decide) ?_
        refine AW.more (rc := 0 + (5 - (k + 1))) (rs := 0 + (6 * (5 - (k + 1)))) (by omega) (by omega) ?_
        refine am_V3 88 (mc' := 0) (ms' := 0) (rc := 5 - (k + 1)) (rs := 6 * (5 - (k + 1))) dL_areWell_88 lL_104 ⟨by decide, by decide⟩ (by repeat (first | assumption | exact am_ue | refine am_un (by first | assumption | decide | omega) ?_)) (Nat.le_of_ble_eq_true rfl) (Nat.le_of_ble_eq_true rfl) (s_guess (isY := false) hG hk (a := 9) (by decide) hth) ?_
        refine am_is_ct ?_
        refine am_ldc2d 91 dL_areWell_91 kL_108 ?_
        refine am_dcmp 94 dL_areWell_94 ?_
        refine am_if_gt 95 113 dL_areWell_95 rfl (fun c95 => absurd c95 (Int32.not_lt.mpr w4)) (fun c95 => ?_)
        refine am_aload_n 98 dL_areWell_98 rfl ?_
        refine am_iload_n 99 dL_areWell_99 rfl ?_
        refine am_bipush 100 (v := 9) dL_areWell_100 (by decide) ?_
        refine am_iconst 102 (v := 1) dL_areWell_102 (by decide) ?_
        refine AW.more (rc := 0 + (5 - (k + 1))) (rs := 0 + (6 * (5 - (k + 1)))) (by omega) (by omega) ?_
        refine am_V3 103 (mc' := 0) (ms' := 0) (rc := 5 - (k + 1)) (rs := 6 * (5 - (k + 1))) dL_areWell_103 lL_104 ⟨by decide, by decide⟩ (by repeat (first | assumption | exact am_ue | refine am_un (by first | assumption | decide | omega) ?_)) (Nat.le_of_ble_eq_true rfl) (Nat.le_of_ble_eq_true rfl) (s_guess (isY := true) hG hk (a := 9) (by decide) hth) ?_
        refine am_is_ct ?_
        refine am_ldc2d 106 dL_areWell_106 kL_110 ?_
        refine am_dcmp 109 dL_areWell_109 ?_
        refine am_if_le 110 115 dL_areWell_110 rfl (fun c110 => ?_) (fun c110 => absurd w5 c110)
        refine am_aload_n 115 dL_areWell_115 rfl ?_
        refine am_iload_n 116 dL_areWell_116 rfl ?_
        refine am_iconst 117 (v := 2) dL_areWell_117 (by decide) ?_
        refine AW.more (rc := 0 + (5 - (k + 1))) (rs := 0 + (6 * (5 - (k + 1)))) (by omega) (by omega) ?_
        refine am_V2 118 (mc' := 0) (ms' := 0) (rc := 5 - (k + 1)) (rs := 6 * (5 - (k + 1))) dL_areWell_118 lL_97 ⟨by decide, by decide⟩ (by repeat (first | assumption | exact am_ue | refine am_un (by first | assumption | decide | omega) ?_)) (Nat.le_of_ble_eq_true rfl) (Nat.le_of_ble_eq_true rfl) (s_where hG hk (j := 2) (by decide) hth) ?_
        refine am_is_ct ?_
        refine am_dconst0 121 dL_areWell_121 ?_
        refine am_dcmp 122 dL_areWell_122 ?_
        refine am_if_ne 123 145 dL_areWell_123 rfl (fun c123 => absurd c123 (fun q => q hst)) (fun c123 => ?_)
        refine am_aload_n 126 dL_areWell_126 rfl ?_
        refine am_iload_n 127 dL_areWell_127 rfl ?_
        refine am_iconst 128 (v := 5) dL_areWell_128 (by decide) ?_
        refine am_iconst 129 (v := 0) dL_areWell_129 (by decide) ?_
        refine AW.more (rc := 0 + (5 - (k + 1))) (rs := 0 + (6 * (5 - (k + 1)))) (by omega) (by omega) ?_
        refine am_V3 130 (mc' := 0) (ms' := 0) (rc := 5 - (k + 1)) (rs := 6 * (5 - (k + 1))) dL_areWell_130 lL_104 ⟨by decide, by decide⟩ (by repeat (first | assumption | exact am_ue | refine am_un (by first | assumption | decide | omega) ?_)) (Nat.le_of_ble_eq_true rfl) (Nat.le_of_ble_eq_true rfl) (s_guess (isY := false) hG hk (a := 5) (by decide) hth) ?_
        refine am_is_ct ?_
        refine am_aload_n 133 dL_areWell_133 rfl ?_
        refine am_iload_n 134 dL_areWell_134 rfl ?_
        refine am_iconst 135 (v := 0) dL_areWell_135 (by decide) ?_
        refine AW.more (rc := 0 + (5 - (k + 1))) (rs := 0 + (6 * (5 - (k + 1)))) (by omega) (by omega) ?_
        refine am_V2 136 (mc' := 0) (ms' := 0) (rc := 5 - (k + 1)) (rs := 6 * (5 - (k + 1))) dL_areWell_136 lL_97 ⟨by decide, by decide⟩ (by repeat (first | assumption | exact am_ue | refine am_un (by first | assumption | decide | omega) ?_)) (Nat.le_of_ble_eq_true rfl) (Nat.le_of_ble_eq_true rfl) (s_where hG hk (j := 0) (by decide) hth) ?_
        refine am_is_ct ?_
        refine am_dcmp 139 dL_areWell_139 ?_
        refine am_if_eq 140 145 dL_areWell_140 rfl (fun c140 => ?_) (fun c140 => absurd (w6 hst) c140)
        refine am_iinc 145 (v := nI (k + 1)) dL_areWell_145 rfl (nI_1 (k)) (by decide) ?_
        refine am_goto 148 (tgt := 4) dL_areWell_148 rfl ?_
        exact ih2
      · refine am_iload_n 4 dL_areWell_4 rfl ?_
        refine am_iconst 5 (v := 5) dL_areWell_5 (by decide) ?_
        refine am_icmp_ge 6 151 dL_areWell_6 rfl (fun c6 => absurd c6 (nI_ge hk (by decide))) (fun c6 => ?_)
        refine am_aload_n 9 dL_areWell_9 rfl ?_
        refine am_iload_n 10 dL_areWell_10 rfl ?_
        refine am_SW2 11 (mc' := 1) (ms' := 6) (rc := 5 - (k + 1)) (rs := 6 * (5 - (k + 1))) dL_areWell_11 lL_79 ⟨by decide, by decide⟩ (Nat.le_of_ble_eq_true rfl) (Nat.le_of_ble_eq_true rfl) (s_Lframes hG hk) ?_
        refine am_is_ct ?_
        rw [e]
        refine am_if_ne 14 20 dL_areWell_14 rfl (fun c14 => ?_) (fun c14 => absurd c14 hne)
        refine am_iinc 20 (v := nI (m_N (m_th (z_K z)) (k + 1))) dL_areWell_20 rfl (m_th_yes hth) (by decide) ?_
        refine am_aload_n 23 dL_areWell_23 rfl ?_
        refine am_iload_n 24 dL_areWell_24 rfl ?_
        refine am_iconst 25 (v := 3) dL_areWell_25 (by decide) ?_
        refine AW.more (rc := 0 + (5 - (k + 1))) (rs := 0 + (6 * (5 - (k + 1)))) (by omega) (by omega) ?_
        refine am_V2 26 (mc' := 0) (ms' := 0) (rc := 5 - (k + 1)) (rs := 6 * (5 - (k + 1))) dL_areWell_26 lL_92 ⟨by decide, by decide⟩ (by repeat (first | assumption | exact am_ue | refine am_un (by first | assumption | decide | omega) ?_)) (Nat.le_of_ble_eq_true rfl) (Nat.le_of_ble_eq_true rfl) (s_ofContact hG hk (j := 3) (by decide) hth) ?_
        refine am_is_ct ?_
        refine am_iconst 29 (v := 1) dL_areWell_29 (by decide) ?_
        refine am_icmp_gt 30 113 dL_areWell_30 rfl (fun c30 => absurd c30 h5) (fun c30 => ?_)
        refine am_aload_n 33 dL_areWell_33 rfl ?_
        refine am_iload_n 34 dL_areWell_34 rfl ?_
        refine am_iconst 35 (v := 5) dL_areWell_35 (by decide) ?_
        refine AW.more (rc := 0 + (5 - (k + 1))) (rs := 0 + (6 * (5 - (k + 1)))) (by omega) (by omega) ?_
        refine am_V2 36 (mc' := 0) (ms' := 0) (rc := 5 - (k + 1)) (rs := 6 * (5 - (k + 1))) dL_areWell_36 lL_92 ⟨by decide, by decide⟩ (by repeat (first | assumption | exact am_ue | refine am_un (by first | assumption | decide | omega) ?_)) (Nat.le_of_ble_eq_true rfl) (Nat.le_of_ble_eq_true rfl) (s_ofContact hG hk (j := 5) (by decide) hth) ?_
        refine am_is_ct ?_
        refine am_aload_n 39 dL_areWell_39 rfl ?_
        refine am_bipush 40 (v := 6) dL_areWell_40 (by decide) ?_
        refine AW.more (rc := 0 + (5 - (k + 1))) (rs := 0 + (6 * (5 - (k + 1)))) (by omega) (by omega) ?_
        refine am_V1 42 (mc' := 0) (ms' := 0) (rc := 5 - (k + 1)) (rs := 6 * (5 - (k + 1))) dL_areWell_42 lL_22 ⟨by decide, by decide⟩ (by repeat (first | assumption | exact am_ue | refine am_un (by first | assumption | decide | omega) ?_)) (Nat.le_of_ble_eq_true rfl) (Nat.le_of_ble_eq_true rfl) (s_many hG (j := 6) (by decide)) ?_
        refine am_is_ct ?_
        refine am_icmp_ge 45 113 dL_areWell_45 rfl (fun c45 => absurd c45 h7) (fun c45 => ?_)
        refine am_aload_n 48 dL_areWell_48 rfl ?_
        refine am_iload_n 49 dL_areWell_49 rfl ?_
        refine am_iconst 50 (v := 4) dL_areWell_50 (by decide) ?_
        refine AW.more (rc := 0 + (5 - (k + 1))) (rs := 0 + (6 * (5 - (k + 1)))) (by omega) (by omega) ?_
        refine am_V2 51 (mc' := 0) (ms' := 0) (rc := 5 - (k + 1)) (rs := 6 * (5 - (k + 1))) dL_areWell_51 lL_97 ⟨by decide, by decide⟩ (by repeat (first | assumption | exact am_ue | refine am_un (by first | assumption | decide | omega) ?_)) (Nat.le_of_ble_eq_true rfl) (Nat.le_of_ble_eq_true rfl) (s_where hG hk (j := 4) (by decide) hth) ?_
        refine am_is_ct ?_
        refine am_dconst0 54 dL_areWell_54 ?_
        refine am_dcmp 55 dL_areWell_55 ?_
        refine am_if_lt 56 113 dL_areWell_56 rfl (fun c56 => absurd c56 w1) (fun c56 => ?_)
        refine am_aload_n 59 dL_areWell_59 rfl ?_
        refine am_iload_n 60 dL_areWell_60 rfl ?_
        refine am_iload_n 61 dL_areWell_61 rfl ?_
        refine AW.more (rc := 0 + (5 - (k + 1))) (rs := 0 + (6 * (5 - (k + 1)))) (by omega) (by omega) ?_
        refine am_V2 62 (mc' := 0) (ms' := 0) (rc := 5 - (k + 1)) (rs := 6 * (5 - (k + 1))) dL_areWell_62 lL_101 ⟨by decide, by decide⟩ (by repeat (first | assumption | exact am_ue | refine am_un (by first | assumption | decide | omega) ?_)) (Nat.le_of_ble_eq_true rfl) (Nat.le_of_ble_eq_true rfl) (s_apart hG hk hk hth hth) ?_
        refine am_is_ct ?_
        refine am_dconst0 65 dL_areWell_65 ?_
        refine am_dcmp 66 dL_areWell_66 ?_
        refine am_if_ne 67 113 dL_areWell_67 rfl (fun c67 => absurd c67 (fun q => q w2)) (fun c67 => ?_)
        refine am_aload_n 70 dL_areWell_70 rfl ?_
        refine am_iload_n 71 dL_areWell_71 rfl ?_
        refine am_bipush 72 (v := 9) dL_areWell_72 (by decide) ?_
        refine am_iconst 74 (v := 0) dL_areWell_74 (by decide) ?_
        refine AW.more (rc := 0 + (5 - (k + 1))) (rs := 0 + (6 * (5 - (k + 1)))) (by omega) (by omega) ?_
        refine am_V3 75 (mc' := 0) (ms' := 0) (rc := 5 - (k + 1)) (rs := 6 * (5 - (k + 1))) dL_areWell_75 lL_104 ⟨by decide, by decide⟩ (by repeat (first | assumption | exact am_ue | refine am_un (by first | assumption | decide | omega) ?_)) (Nat.le_of_ble_eq_true rfl) (Nat.le_of_ble_eq_true rfl) (s_guess (isY := false) hG hk (a := 9) (by decide) hth) ?_
        refine am_is_ct ?_
        refine am_dconst0 78 dL_areWell_78 ?_
        refine am_dcmp 79 dL_areWell_79 ?_
        refine am_if_lt 80 113 dL_areWell_80 rfl (fun c80 => absurd c80 w3) (fun c80 => ?_)
        refine am_aload_n 83 dL_areWell_83 rfl ?_
        refine am_iload_n 84 dL_areWell_84 rfl ?_
        refine am_bipush 85 (v := 9) dL_areWell_85 (by decide) ?_
        refine am_iconst 87 (v := 0) dL_areWell_87 (by decide) ?_
        refine AW.more (rc := 0 + (5 - (k + 1))) (rs := 0 + (6 * (5 - (k + 1)))) (by omega) (by omega) ?_
        refine am_V3 88 (mc' := 0) (ms' := 0) (rc := 5 - (k + 1)) (rs := 6 * (5 - (k + 1))) dL_areWell_88 lL_104 ⟨by decide, by decide⟩ (by repeat (first | assumption | exact am_ue | refine am_un (by first | assumption | decide | omega) ?_)) (Nat.le_of_ble_eq_true rfl) (Nat.le_of_ble_eq_true rfl) (s_guess (isY := false) hG hk (a := 9) (by decide) hth) ?_
        refine am_is_ct ?_
        refine am_ldc2d 91 dL_areWell_91 kL_108 ?_
        refine am_dcmp 94 dL_areWell_94 ?_
        refine am_if_gt 95 113 dL_areWell_95 rfl (fun c95 => absurd c95 (Int32.not_lt.mpr w4)) (fun c95 => ?_)
        refine am_aload_n 98 dL_areWell_98 rfl ?_
        refine am_iload_n 99 dL_areWell_99 rfl ?_
        refine am_bipush 100 (v := 9) dL_areWell_100 (by decide) ?_
        refine am_iconst 102 (v := 1) dL_areWell_102 (by decide) ?_
        refine AW.more (rc := 0 + (5 - (k + 1))) (rs := 0 + (6 * (5 - (k + 1)))) (by omega) (by omega) ?_
        refine am_V3 103 (mc' := 0) (ms' := 0) (rc := 5 - (k + 1)) (rs := 6 * (5 - (k + 1))) dL_areWell_103 lL_104 ⟨by decide, by decide⟩ (by repeat (first | assumption | exact am_ue | refine am_un (by first | assumption | decide | omega) ?_)) (Nat.le_of_ble_eq_true rfl) (Nat.le_of_ble_eq_true rfl) (s_guess (isY := true) hG hk (a := 9) (by decide) hth) ?_
        refine am_is_ct ?_
        refine am_ldc2d 106 dL_areWell_106 kL_110 ?_
        refine am_dcmp 109 dL_areWell_109 ?_
        refine am_if_le 110 115 dL_areWell_110 rfl (fun c110 => ?_) (fun c110 => absurd w5 c110)
        refine am_aload_n 115 dL_areWell_115 rfl ?_
        refine am_iload_n 116 dL_areWell_116 rfl ?_
        refine am_iconst 117 (v := 2) dL_areWell_117 (by decide) ?_
        refine AW.more (rc := 0 + (5 - (k + 1))) (rs := 0 + (6 * (5 - (k + 1)))) (by omega) (by omega) ?_
        refine am_V2 118 (mc' := 0) (ms' := 0) (rc := 5 - (k + 1)) (rs := 6 * (5 - (k + 1))) dL_areWell_118 lL_97 ⟨by decide, by decide⟩ (by repeat (first | assumption | exact am_ue | refine am_un (by first | assumption | decide | omega) ?_)) (Nat.le_of_ble_eq_true rfl) (Nat.le_of_ble_eq_true rfl) (s_where hG hk (j := 2) (by decide) hth) ?_
        refine am_is_ct ?_
        refine am_dconst0 121 dL_areWell_121 ?_
        refine am_dcmp 122 dL_areWell_122 ?_
        refine am_if_ne 123 145 dL_areWell_123 rfl (fun c123 => ?_) (fun c123 => absurd c123 hst)
        refine am_iinc 145 (v := nI (k + 1)) dL_areWell_145 rfl (nI_1 (k)) (by decide) ?_
        refine am_goto 148 (tgt := 4) dL_areWell_148 rfl ?_
        exact ih2
end We3
