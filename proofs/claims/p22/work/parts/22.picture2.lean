/-! ===== Picture: summits and places ===== -/
section Picture2
variable {i n : Nat} {f : Nat → am_C} {sig reg pc px py chn : Nat → Int32} {pk hm : Int32}
theorem s_isSummit {c : Nat} (h : m_Pic f i sig reg pc px py chn pk hm) (hc : c < 48) : AM mX5_isSummit 0 0 [.ref i, .int (nI c)] n f (am_is (some (.int (if m_sum sig c = true then 1 else 0))) n f) := by
  obtain ⟨h0, h1, h2, h3, h4, h5, h6⟩ := h
  show AW mX5_isSummit 0 0 0 [some (.ref i), some (.int (nI c)), none, none, none, none, none] [] n f _
  refine am_iload_n 0 dX5_isSummit_0 rfl ?_
  refine am_bipush 1 (v := 8) dX5_isSummit_1 (by decide) ?_
  refine am_irem 3 dX5_isSummit_3 (by decide) ?_
  rw [am_rem8 (by omega)]
  refine am_istore_n 4 dX5_isSummit_4 (by decide) ?_
  refine am_iload_n 5 dX5_isSummit_5 rfl ?_
  refine am_bipush 6 (v := 8) dX5_isSummit_6 (by decide) ?_
  refine am_idiv 8 dX5_isSummit_8 (by decide) ?_
  rw [am_div8 (by omega)]
  refine am_istore_n 9 dX5_isSummit_9 (by decide) ?_
  refine am_iload_n 10 dX5_isSummit_10 rfl ?_
  refine am_iconst 11 (v := 1) dX5_isSummit_11 (by decide) ?_
  refine am_isub 12 dX5_isSummit_12 ?_
  refine am_iconst 13 (v := 0) dX5_isSummit_13 (by decide) ?_
  refine am_max 14 dX5_isSummit_14 jX5_69 (by decide) (Nat.le_of_ble_eq_true rfl) ?_
  rw [am_lo1 (y := c / 8) (by omega)]
  refine am_istore 17 dX5_isSummit_17 (by decide) ?_
  refine am_for (min (c / 8 + 1) 5 + 1) (fun r (z : (Option Value) × (Option Value)) => c / 8 ≤ r + 1 ∧ ∀ o, o < 8 * r → m_adj c o → ¬ m_beat sig c o) (fun r z => AW mX5_isSummit 0 0 19 [some (.ref i), some (.int (nI c)), some (.int (nI (c % 8))), some (.int (nI (c / 8))), some (.int (nI r)), z.1, z.2] [] n f (am_is (some (.int (if m_sum sig c = true then 1 else 0))) n f)) ?_ ?_ (c / 8 - 1) (none, none) (by omega) ⟨by omega, fun o ho ha => by unfold m_adj at ha; omega⟩
  · rintro ⟨z1, z2⟩ ⟨hlo, hall⟩
    have hs : m_sum sig c = true := m_sum_iff.mpr fun o ho ha => hall o (by unfold m_adj at ha; omega) ha
    refine am_iload 19 dX5_isSummit_19 rfl ?_
    refine am_iload_n 21 dX5_isSummit_21 rfl ?_
    refine am_iconst 22 (v := 1) dX5_isSummit_22 (by decide) ?_
    refine am_iadd 23 dX5_isSummit_23 ?_
    refine am_iconst 24 (v := 5) dX5_isSummit_24 (by decide) ?_
    refine am_min 25 dX5_isSummit_25 jX5_75 (by decide) (Nat.le_of_ble_eq_true rfl) ?_
    rw [show (5 : Int32) = nI 5 from rfl, am_hi1 5 (y := c / 8) (by omega) (by decide)]
    refine am_icmp_gt 28 115 dX5_isSummit_28 rfl (fun c28 => ?_) (fun c28 => absurd (nI_lt (by omega) (by omega)) c28)
    refine am_iconst 115 (v := 1) dX5_isSummit_115 (by decide) ?_
    refine am_ireturn 116 dX5_isSummit_116 rfl rfl ?_
    exact ⟨by rw [if_pos hs], rfl, rfl⟩
  · rintro r ⟨z1, z2⟩ hr ⟨hlo, hall⟩ ih
    show AW mX5_isSummit 0 0 19 [some (.ref i), some (.int (nI c)), some (.int (nI (c % 8))), some (.int (nI (c / 8))), some (.int (nI r)), z1, z2] [] n f _
    refine am_iload 19 dX5_isSummit_19 rfl ?_
    refine am_iload_n 21 dX5_isSummit_21 rfl ?_
    refine am_iconst 22 (v := 1) dX5_isSummit_22 (by decide) ?_
    refine am_iadd 23 dX5_isSummit_23 ?_
    refine am_iconst 24 (v := 5) dX5_isSummit_24 (by decide) ?_
    refine am_min 25 dX5_isSummit_25 jX5_75 (by decide) (Nat.le_of_ble_eq_true rfl) ?_
    rw [show (5 : Int32) = nI 5 from rfl, am_hi1 5 (y := c / 8) (by omega) (by decide)]
    refine am_icmp_gt 28 115 dX5_isSummit_28 rfl (fun c28 => absurd c28 (nI_nlt (by omega) (by omega))) (fun c28 => ?_)
    refine am_iload_n 31 dX5_isSummit_31 rfl ?_
    refine am_iconst 32 (v := 1) dX5_isSummit_32 (by decide) ?_
    refine am_isub 33 dX5_isSummit_33 ?_
    refine am_iconst 34 (v := 0) dX5_isSummit_34 (by decide) ?_
    refine am_max 35 dX5_isSummit_35 jX5_69 (by decide) (Nat.le_of_ble_eq_true rfl) ?_
    rw [am_lo1 (y := c % 8) (by omega)]
    refine am_istore 38 dX5_isSummit_38 (by decide) ?_
    refine am_for (min (c % 8 + 1) 7 + 1) (fun k (z : Option Value) => c % 8 ≤ k + 1 ∧ ∀ o, o < 8 * r + k → m_adj c o → ¬ m_beat sig c o) (fun k z => AW mX5_isSummit 0 0 40 [some (.ref i), some (.int (nI c)), some (.int (nI (c % 8))), some (.int (nI (c / 8))), some (.int (nI r)), some (.int (nI k)), z] [] n f (am_is (some (.int (if m_sum sig c = true then 1 else 0))) n f)) ?_ ?_ (c % 8 - 1) z2 (by omega) ⟨by omega, fun o ho ha => by
      by_cases e : o < 8 * r
      · exact hall o e ha
      · unfold m_adj at ha; omega⟩
    · rintro z ⟨hlo2, hall2⟩
      refine am_iload 40 dX5_isSummit_40 rfl ?_
      refine am_iload_n 42 dX5_isSummit_42 rfl ?_
      refine am_iconst 43 (v := 1) dX5_isSummit_43 (by decide) ?_
      refine am_iadd 44 dX5_isSummit_44 ?_
      refine am_bipush 45 (v := 7) dX5_isSummit_45 (by decide) ?_
      refine am_min 47 dX5_isSummit_47 jX5_75 (by decide) (Nat.le_of_ble_eq_true rfl) ?_
      rw [show (7 : Int32) = nI 7 from rfl, am_hi1 7 (y := c % 8) (by omega) (by decide)]
      refine am_icmp_gt 50 109 dX5_isSummit_50 rfl (fun c50 => ?_) (fun c50 => absurd (nI_lt (by omega) (by omega)) c50)
      refine am_iinc 109 (v := nI (r + 1)) dX5_isSummit_109 rfl (nI_1 (r)) (by decide) ?_
      refine am_goto 112 (tgt := 19) dX5_isSummit_112 rfl ?_
      refine ih (_, _) ⟨by omega, fun o ho ha => ?_⟩
      by_cases e : o < 8 * r + (min (c % 8 + 1) 7 + 1)
      · exact hall2 o e ha
      · unfold m_adj at ha; omega
    · rintro k z hk ⟨hlo2, hall2⟩ ih2
      have hadj : m_adj c (8 * r + k) := by unfold m_adj; omega
      refine am_iload 40 dX5_isSummit_40 rfl ?_
      refine am_iload_n 42 dX5_isSummit_42 rfl ?_
      refine am_iconst 43 (v := 1) dX5_isSummit_43 (by decide) ?_
      refine am_iadd 44 dX5_isSummit_44 ?_
      refine am_bipush 45 (v := 7) dX5_isSummit_45 (by decide) ?_
      refine am_min 47 dX5_isSummit_47 jX5_75 (by decide) (Nat.le_of_ble_eq_true rfl) ?_
      rw [show (7 : Int32) = nI 7 from rfl, am_hi1 7 (y := c % 8) (by omega) (by decide)]
      refine am_icmp_gt 50 109 dX5_isSummit_50 rfl (fun c50 => absurd c50 (nI_nlt (by omega) (by omega))) (fun c50 => ?_)
      refine am_iload 53 dX5_isSummit_53 rfl ?_
      refine am_bipush 55 (v := 8) dX5_isSummit_55 (by decide) ?_
      refine am_imul 57 dX5_isSummit_57 ?_
      refine am_iload 58 dX5_isSummit_58 rfl ?_
      refine am_iadd 60 dX5_isSummit_60 ?_
      rw [am_cellN]
      refine am_istore 61 dX5_isSummit_61 (by decide) ?_
      refine am_aload_n 63 dX5_isSummit_63 rfl ?_
      refine am_getfield 64 dX5_isSummit_64 fX5_9 (by repeat (first | assumption | exact am_ue | refine am_un (by first | assumption | decide | omega) ?_)) rfl ?_
      refine am_iload 67 dX5_isSummit_67 rfl ?_
      refine am_iaload 69 dX5_isSummit_69 rfl (by repeat (first | assumption | exact am_ue | refine am_un (by first | assumption | decide | omega) ?_)) (am_ix (by omega) (by decide)) ?_
      rw [nI_clamp (n := 8 * r + k) (by omega)]
      refine am_aload_n 70 dX5_isSummit_70 rfl ?_
      refine am_getfield 71 dX5_isSummit_71 fX5_9 (by repeat (first | assumption | exact am_ue | refine am_un (by first | assumption | decide | omega) ?_)) rfl ?_
      refine am_iload_n 74 dX5_isSummit_74 rfl ?_
      refine am_iaload 75 dX5_isSummit_75 rfl (by repeat (first | assumption | exact am_ue | refine am_un (by first | assumption | decide | omega) ?_)) (am_ix (by omega) (by decide)) ?_
      rw [nI_clamp (n := c) (by omega)]
      refine am_icmp_gt 76 101 dX5_isSummit_76 rfl (fun c76 => ?_) (fun c76 => ?_)
      · refine am_iconst 101 (v := 0) dX5_isSummit_101 (by decide) ?_
        refine am_ireturn 102 dX5_isSummit_102 rfl rfl ?_
        have hb : m_beat sig c (8 * r + k) := by unfold m_beat; first | exact Or.inl c76 | exact Or.inr ⟨c92, am_nleN c c98 (by omega) (by omega)⟩
        exact ⟨by rw [if_neg (fun z => m_sum_iff.mp z (8 * r + k) (by omega) hadj hb)], rfl, rfl⟩
      · refine am_aload_n 79 dX5_isSummit_79 rfl ?_
        refine am_getfield 80 dX5_isSummit_80 fX5_9 (by repeat (first | assumption | exact am_ue | refine am_un (by first | assumption | decide | omega) ?_)) rfl ?_
        refine am_iload 83 dX5_isSummit_83 rfl ?_
        refine am_iaload 85 dX5_isSummit_85 rfl (by repeat (first | assumption | exact am_ue | refine am_un (by first | assumption | decide | omega) ?_)) (am_ix (by omega) (by decide)) ?_
        rw [nI_clamp (n := 8 * r + k) (by omega)]
        refine am_aload_n 86 dX5_isSummit_86 rfl ?_
        refine am_getfield 87 dX5_isSummit_87 fX5_9 (by repeat (first | assumption | exact am_ue | refine am_un (by first | assumption | decide | omega) ?_)) rfl ?_
        refine am_iload_n 90 dX5_isSummit_90 rfl ?_
        refine am_iaload 91 dX5_isSummit_91 rfl (by repeat (first | assumption | exact am_ue | refine am_un (by first | assumption | decide | omega) ?_)) (am_ix (by omega) (by decide)) ?_
        rw [nI_clamp (n := c) (by omega)]
        refine am_icmp_ne 92 103 dX5_isSummit_92 rfl (fun c92 => ?_) (fun c92 => ?_)
        · refine am_iinc 103 (v := nI (k + 1)) dX5_isSummit_103 rfl (nI_1 (k)) (by decide) ?_
          refine am_goto 106 (tgt := 40) dX5_isSummit_106 rfl ?_
          refine ih2 _ ⟨by omega, fun o ho ha => ?_⟩
          by_cases e : o = 8 * r + k
          · subst e
            unfold m_beat
            first | exact fun z => z.elim c76 (fun y => c92 y.1) | exact fun z => z.elim c76 (fun y => by have := am_leN c c98 (by omega) (by omega); omega)
          · exact hall2 o (by omega) ha
        · refine am_iload 95 dX5_isSummit_95 rfl ?_
          refine am_iload_n 97 dX5_isSummit_97 rfl ?_
          refine am_icmp_ge 98 103 dX5_isSummit_98 rfl (fun c98 => ?_) (fun c98 => ?_)
          · refine am_iinc 103 (v := nI (k + 1)) dX5_isSummit_103 rfl (nI_1 (k)) (by decide) ?_
            refine am_goto 106 (tgt := 40) dX5_isSummit_106 rfl ?_
            refine ih2 _ ⟨by omega, fun o ho ha => ?_⟩
            by_cases e : o = 8 * r + k
            · subst e
              unfold m_beat
              first | exact fun z => z.elim c76 (fun y => c92 y.1) | exact fun z => z.elim c76 (fun y => by have := am_leN c c98 (by omega) (by omega); omega)
            · exact hall2 o (by omega) ha
          · refine am_iconst 101 (v := 0) dX5_isSummit_101 (by decide) ?_
            refine am_ireturn 102 dX5_isSummit_102 rfl rfl ?_
            have hb : m_beat sig c (8 * r + k) := by unfold m_beat; first | exact Or.inl c76 | exact Or.inr ⟨c92, am_nleN c c98 (by omega) (by omega)⟩
            exact ⟨by rw [if_neg (fun z => m_sum_iff.mp z (8 * r + k) (by omega) hadj hb)], rfl, rfl⟩
end Picture2
