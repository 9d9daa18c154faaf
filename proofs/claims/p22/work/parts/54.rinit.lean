/-! ===== the reference: a view made, to the letter ===== -/
section RInit
variable {v u n c b : Nat} {f : Nat → am_C} {sig sz pk g w ch bs : Nat → Int32} {mn : Int32}
theorem s_View_init (h0 : f v = .inr (11, [.null, .null, .null, .int 0])) (hc : f c = .inl (0, 48, .inl ch)) (hb : f b = .inl (0, 48, .inl bs)) (hv : v < u) (hcv : c < u ∧ c ≠ v) (hbv : b < u ∧ b ≠ v) : AM mX11_init 5 240 [.ref v, .ref c, .ref b] u f (fun o n' f' => ∃ (pk g w : Nat → Int32), o = .inl none ∧ n' = u + 5 ∧ f' = r_put f v u (fun k => ch k - bs k) (m_reg (fun k => ch k - bs k)) pk (nI (m_pks (fun k => ch k - bs k) 48).length) g w ∧ m_chn pk (m_pks (fun k => ch k - bs k) 48)) := by
  generalize hsg : (fun k => ch k - bs k) = sg
  show AW mX11_init 5 240 0 [some (.ref v), some (.ref c), some (.ref b), none, none, none] [] u f _
  refine am_aload_n 0 dX11_init_0 rfl ?_
  refine am_OI 1 dX11_init_1 lX11_3 (by decide) (Nat.le_of_ble_eq_true rfl) ?_
  refine am_aload_n 4 dX11_init_4 rfl ?_
  refine am_bipush 5 (v := 48) dX11_init_5 (by decide) ?_
  refine am_newints 7 (t := 0) (N := 48) (rc := 4) (rs := 192) dX11_init_7 ac_int rfl (by decide) (by decide) (by decide) ?_
  refine am_putfinal 9 dX11_init_9 rfl qX11_9 (by repeat (first | assumption | exact am_ue | refine am_un (by first | assumption | decide | omega) ?_)) rfl rfl (Nat.le_of_ble_eq_true rfl) ?_
  refine am_aload_n 12 dX11_init_12 rfl ?_
  refine am_bipush 13 (v := 48) dX11_init_13 (by decide) ?_
  refine am_newints 15 (t := 0) (N := 48) (rc := 3) (rs := 144) dX11_init_15 ac_int rfl (by decide) (by decide) (by decide) ?_
  refine am_putfinal 17 dX11_init_17 rfl qX11_15 (by repeat (first | assumption | exact am_ue | refine am_un (by first | assumption | decide | omega) ?_)) rfl rfl (Nat.le_of_ble_eq_true rfl) ?_
  refine am_aload_n 20 dX11_init_20 rfl ?_
  refine am_bipush 21 (v := 48) dX11_init_21 (by decide) ?_
  refine am_newints 23 (t := 0) (N := 48) (rc := 2) (rs := 96) dX11_init_23 ac_int rfl (by decide) (by decide) (by decide) ?_
  refine am_putfinal 25 dX11_init_25 rfl qX11_18 (by repeat (first | assumption | exact am_ue | refine am_un (by first | assumption | decide | omega) ?_)) rfl rfl (Nat.le_of_ble_eq_true rfl) ?_
  generalize hf1 : va_up _ v _ = f1
  have a0 : f1 v = .inr (11, [.ref (u), .ref (u + 1), .ref (u + 2), .int 0]) := by rw [← hf1]; exact am_ue
  have a1 : f1 (u) = .inl (0, 48, .inl (fun _ => 0)) := by rw [← hf1]; repeat (first | exact am_ue | refine am_un (by omega) ?_)
  have a2 : f1 (u + 1) = .inl (0, 48, .inl (fun _ => 0)) := by rw [← hf1]; repeat (first | exact am_ue | refine am_un (by omega) ?_)
  have a3 : f1 (u + 2) = .inl (0, 48, .inl (fun _ => 0)) := by rw [← hf1]; repeat (first | exact am_ue | refine am_un (by omega) ?_)
  have e1 : ∀ x, x ≠ v ∧ (x < u ∨ u + 2 < x) → f1 x = f x := fun x hx => by rw [← hf1]; repeat rw [am_up_ne (by omega)]
  have hc1 : f1 c = .inl (0, 48, .inl ch) := (e1 c ⟨hcv.2, Or.inl hcv.1⟩).trans hc
  have hb1 : f1 b = .inl (0, 48, .inl bs) := (e1 b ⟨hbv.2, Or.inl hbv.1⟩).trans hb
  clear hf1
  show AW mX11_init 2 96 28 [some (.ref v), some (.ref c), some (.ref b), none, none, none] [] (u + 3) f1 _
  refine am_iconst 28 (v := 0) dX11_init_28 (by decide) ?_
  refine am_istore_n 29 dX11_init_29 (by decide) ?_
  have hh := am_for 48 (fun k (s : Nat → Int32) => ∀ x, x < k → s x = sg x) (fun k s => AW mX11_init 2 96 30 [some (.ref v), some (.ref c), some (.ref b), some (.int (nI k)), none, none] [] (u + 3) (va_up f1 (u) (.inl (0, 48, .inl s))) (fun o n' f' => ∃ (pk g w : Nat → Int32), o = .inl none ∧ n' = u + 5 ∧ f' = r_put f v u sg (m_reg sg) pk (nI (m_pks sg 48).length) g w ∧ m_chn pk (m_pks sg 48))) ?_ ?_ 0 (fun _ => 0) (by omega) (fun x hx => by omega)
  · rw [am_self a1] at hh
    exact hh
  · intro s hs
    refine AW.ints sg am_ue hs ?_
    rw [am_uu]
    refine am_iload_n 30 dX11_init_30 rfl ?_
    refine am_bipush 31 (v := 48) dX11_init_31 (by decide) ?_
    refine am_icmp_ge 33 55 dX11_init_33 rfl (fun c33 => ?_) (fun c33 => absurd (by decide) c33)
    refine am_bipush 55 (v := 48) dX11_init_55 (by decide) ?_
    refine am_newbools 57 (t := 3) (N := 48) (rc := 1) (rs := 48) dX11_init_57 ac_boolean rfl (by decide) (by decide) (by decide) ?_
    refine am_astore_n 59 dX11_init_59 (by decide) ?_
    refine am_bipush 60 (v := 48) dX11_init_60 (by decide) ?_
    refine am_newints 62 (t := 0) (N := 48) (rc := 0) (rs := 0) dX11_init_62 ac_int rfl (by decide) (by decide) (by decide) ?_
    refine am_astore 64 dX11_init_64 (by decide) ?_
    refine am_iconst 66 (v := 0) dX11_init_66 (by decide) ?_
    refine am_istore 67 dX11_init_67 (by decide) ?_
    have ef : va_up (va_up (va_up f1 (u) (.inl (0, 48, .inl sg))) (u + 3) (.inl (3, 48, .inl (fun _ => 0)))) (u + 3 + 1) (.inl (0, 48, .inl (fun _ => 0))) = r_put f v u sg (fun _ => 0) (fun _ => 0) 0 (fun _ => 0) (fun _ => 0) := by
      funext x
      by_cases hx : x ≠ v ∧ (x < u ∨ u + 4 < x)
      · rw [r_out hx, am_up_ne (by omega), am_up_ne (by omega), am_up_ne (by omega), e1 x (by omega)]
      · have hx2 : x = v ∨ x = u ∨ x = u + 1 ∨ x = u + 2 ∨ x = u + 3 ∨ x = u + 4 := by omega
        rcases hx2 with rfl | rfl | rfl | rfl | rfl | rfl
        · rw [r_a0, am_up_ne (by omega), am_up_ne (by omega), am_up_ne (by omega), a0]
        · rw [(r_a1 hv), am_up_ne (by omega), am_up_ne (by omega), am_up_eq]
        · rw [(r_a2 hv), am_up_ne (by omega), am_up_ne (by omega), am_up_ne (by omega), a2]
        · rw [(r_a3 hv), am_up_ne (by omega), am_up_ne (by omega), am_up_ne (by omega), a3]
        · rw [(r_a4 hv), am_up_ne (by omega), am_up_eq]
        · rw [(r_a5 hv)]; exact am_up_eq
    rw [ef, show (fun _ => (0 : Int32)) = m_regs sg 0 from rfl]
    have hg0 : m_regs sg 0 = r_sn (m_regs sg 0) := rfl
    show AW mX11_init 0 0 69 [some (.ref v), some (.ref c), some (.ref b), some (.ref (u + 3)), some (.ref (u + 4)), some (.int (nI 0))] [] (u + 5) (r_put f v u sg (m_regs sg 0) (fun _ => 0) 0 (r_sn (m_regs sg 0)) (fun _ => 0)) _
    refine am_for 48 (fun _ (_ : Nat → Int32) => True) (fun k w => AW mX11_init 0 0 69 [some (.ref v), some (.ref c), some (.ref b), some (.ref (u + 3)), some (.ref (u + 4)), some (.int (nI k))] [] (u + 5) (r_put f v u sg (m_regs sg k) (fun _ => 0) 0 (r_sn (m_regs sg k)) w) _) ?_ ?_ 0 _ (by omega) trivial
    · intro w1 _
      show AW mX11_init 0 0 69 [some (.ref v), some (.ref c), some (.ref b), some (.ref (u + 3)), some (.ref (u + 4)), some (.int (nI 48))] [] (u + 5) (r_put f v u sg (m_reg sg) (fun _ => 0) (nI 0) (r_sn (m_reg sg)) w1) _
      generalize r_sn (m_reg sg) = g1
      generalize m_reg sg = s1
      refine am_iload 69 dX11_init_69 rfl ?_
      refine am_bipush 71 (v := 48) dX11_init_71 (by decide) ?_
      refine am_icmp_ge 73 107 dX11_init_73 rfl (fun c73 => ?_) (fun c73 => absurd (by decide) c73)
      refine am_iconst 107 (v := 0) dX11_init_107 (by decide) ?_
      refine am_istore 108 dX11_init_108 (by decide) ?_
      refine am_for 48 (fun k (pk : Nat → Int32) => m_chn pk (m_pks sg k)) (fun k pk => AW mX11_init 0 0 110 [some (.ref v), some (.ref c), some (.ref b), some (.ref (u + 3)), some (.ref (u + 4)), some (.int (nI k))] [] (u + 5) (r_put f v u sg s1 pk (nI (m_pks sg k).length) g1 w1) _) ?_ ?_ 0 (fun _ => 0) (by omega) (fun j hj => by simp [m_pks] at hj)
      · intro pk hq
        refine am_iload 110 dX11_init_110 rfl ?_
        refine am_bipush 112 (v := 48) dX11_init_112 (by decide) ?_
        refine am_icmp_ge 114 150 dX11_init_114 rfl (fun c114 => ?_) (fun c114 => absurd (by decide) c114)
        refine am_return 150 dX11_init_150 rfl ?_
        exact ⟨_, _, _, rfl, rfl, rfl, hq⟩
      · intro k pk hk hq ih
        have hq1 : (m_pks sg k).length ≤ k := m_pks_len
        by_cases hp : m_isPk sg k = true
        · have e1 : m_pks sg (k + 1) = m_pks sg k ++ [k] := by rw [m_pks_succ, if_pos hp]
          rw [e1] at ih
          rw [List.length_append] at ih
          refine am_iload 110 dX11_init_110 rfl ?_
          refine am_bipush 112 (v := 48) dX11_init_112 (by decide) ?_
          refine am_icmp_ge 114 150 dX11_init_114 rfl (fun c114 => absurd c114 (nI_ge hk (by decide))) (fun c114 => ?_)
          refine am_aload_n 117 dX11_init_117 rfl ?_
          refine am_iload 118 dX11_init_118 rfl ?_
          refine am_V1 120 (mc' := 0) (ms' := 0) (rc := 0) (rs := 0) dX11_init_120 lX11_29 ⟨by decide, by decide⟩ r_a0 (Nat.le_of_ble_eq_true rfl) (Nat.le_of_ble_eq_true rfl) (s_isPeak r_a0 (r_a1 hv) hk) ?_
          refine am_is_ct ?_
          refine am_if_eq 123 144 dX11_init_123 rfl (fun c123 => absurd c123 (by rw [hp]; decide)) (fun c123 => ?_)
          refine am_aload_n 126 dX11_init_126 rfl ?_
          refine am_getfield 127 dX11_init_127 fX11_18 (by first | exact r_a0 | exact (r_a1 hv) | exact (r_a2 hv) | exact (r_a3 hv) | exact (r_a4 hv) | exact (r_a5 hv) | assumption) rfl ?_
          refine am_aload_n 130 dX11_init_130 rfl ?_
          refine am_dup 131 dX11_init_131 rfl ?_
          refine am_getfield 132 dX11_init_132 fX11_32 (by first | exact r_a0 | exact (r_a1 hv) | exact (r_a2 hv) | exact (r_a3 hv) | exact (r_a4 hv) | exact (r_a5 hv) | assumption) rfl ?_
          refine am_dup_x1 135 dX11_init_135 rfl rfl ?_
          refine am_iconst 136 (v := 1) dX11_init_136 (by decide) ?_
          refine am_iadd 137 dX11_init_137 ?_
          refine am_putfield 138 dX11_init_138 pX11_32 (by first | exact r_a0 | exact (r_a1 hv) | exact (r_a2 hv) | exact (r_a3 hv) | exact (r_a4 hv) | exact (r_a5 hv) | assumption) rfl rfl (Nat.le_of_ble_eq_true rfl) ?_
          rw [show ∀ a : Int32, List.set [Value.ref (u), .ref (u + 1), .ref (u + 2), .int (nI (m_pks sg k).length)] 3 (.int a) = [.ref (u), .ref (u + 1), .ref (u + 2), .int a] from fun _ => rfl, r_u0 hv, nI_1]
          refine am_iload 141 dX11_init_141 rfl ?_
          refine am_iastore 143 dX11_init_143 rfl (by first | exact r_a0 | exact (r_a1 hv) | exact (r_a2 hv) | exact (r_a3 hv) | exact (r_a4 hv) | exact (r_a5 hv) | assumption) (am_ix (show (m_pks sg k).length < 48 by omega) (by decide)) ?_
          rw [nI_clamp (n := (m_pks sg k).length) (by omega), r_u3 hv]
          refine am_iinc 144 (v := nI (k + 1)) dX11_init_144 rfl (nI_1 (k)) (by decide) ?_
          refine am_goto 147 (tgt := 110) dX11_init_147 rfl ?_
          exact ih _ (m_chn_push hq)
        · have e1 : m_pks sg (k + 1) = m_pks sg k := by rw [m_pks_succ, if_neg hp]
          rw [e1] at ih
          refine am_iload 110 dX11_init_110 rfl ?_
          refine am_bipush 112 (v := 48) dX11_init_112 (by decide) ?_
          refine am_icmp_ge 114 150 dX11_init_114 rfl (fun c114 => absurd c114 (nI_ge hk (by decide))) (fun c114 => ?_)
          refine am_aload_n 117 dX11_init_117 rfl ?_
          refine am_iload 118 dX11_init_118 rfl ?_
          refine am_V1 120 (mc' := 0) (ms' := 0) (rc := 0) (rs := 0) dX11_init_120 lX11_29 ⟨by decide, by decide⟩ r_a0 (Nat.le_of_ble_eq_true rfl) (Nat.le_of_ble_eq_true rfl) (s_isPeak r_a0 (r_a1 hv) hk) ?_
          refine am_is_ct ?_
          refine am_if_eq 123 144 dX11_init_123 rfl (fun c123 => ?_) (fun c123 => absurd (by rw [Bool.eq_false_iff.mpr hp]; rfl) c123)
          refine am_iinc 144 (v := nI (k + 1)) dX11_init_144 rfl (nI_1 (k)) (by decide) ?_
          refine am_goto 147 (tgt := 110) dX11_init_147 rfl ?_
          exact ih _ hq
    · intro k w1 hk _ ih
      by_cases ht : 20 ≤ sg k
      · by_cases h00 : m_regs sg k k = 0
        · rw [show m_regs sg (k + 1) = m_region sg k (m_regs sg k) from if_pos ⟨ht, h00⟩] at ih
          refine am_iload 69 dX11_init_69 rfl ?_
          refine am_bipush 71 (v := 48) dX11_init_71 (by decide) ?_
          refine am_icmp_ge 73 107 dX11_init_73 rfl (fun c73 => absurd c73 (nI_ge hk (by decide))) (fun c73 => ?_)
          refine am_aload_n 76 dX11_init_76 rfl ?_
          refine am_iload 77 dX11_init_77 rfl ?_
          refine am_V1 79 (mc' := 0) (ms' := 0) (rc := 0) (rs := 0) dX11_init_79 lX11_21 ⟨by decide, by decide⟩ r_a0 (Nat.le_of_ble_eq_true rfl) (Nat.le_of_ble_eq_true rfl) (s_vTouched r_a0 (r_a1 hv) hk) ?_
          refine am_is_ct ?_
          refine am_if_eq 82 101 dX11_init_82 rfl (fun c82 => absurd c82 (fun z => m_tc_0.mp z ht)) (fun c82 => ?_)
          refine am_aload_n 85 dX11_init_85 rfl ?_
          refine am_iload 86 dX11_init_86 rfl ?_
          refine am_zaload 88 dX11_init_88 rfl (by first | exact r_a0 | exact (r_a1 hv) | exact (r_a2 hv) | exact (r_a3 hv) | exact (r_a4 hv) | exact (r_a5 hv) | assumption) (am_ix hk (by decide)) ?_
          rw [nI_clamp (n := k) (by omega)]
          refine am_if_ne 89 101 dX11_init_89 rfl (fun c89 => absurd c89 (fun q => q (r_sn0 h00))) (fun c89 => ?_)
          refine am_aload_n 92 dX11_init_92 rfl ?_
          refine am_iload 93 dX11_init_93 rfl ?_
          refine am_aload_n 95 dX11_init_95 rfl ?_
          refine am_aload 96 dX11_init_96 rfl ?_
          refine am_V3 98 (mc' := 0) (ms' := 0) (rc := 0) (rs := 0) dX11_init_98 lX11_25 ⟨by decide, by decide⟩ r_a0 (Nat.le_of_ble_eq_true rfl) (Nat.le_of_ble_eq_true rfl) (s_vregion hv hk ht h00) ?_
          rintro o n' f' ⟨w2, rfl, rfl, rfl⟩
          refine am_ctI ?_
          refine am_iinc 101 (v := nI (k + 1)) dX11_init_101 rfl (nI_1 (k)) (by decide) ?_
          refine am_goto 104 (tgt := 69) dX11_init_104 rfl ?_
          exact ih _ trivial
        · rw [show m_regs sg (k + 1) = m_regs sg k from if_neg fun q => h00 q.2] at ih
          refine am_iload 69 dX11_init_69 rfl ?_
          refine am_bipush 71 (v := 48) dX11_init_71 (by decide) ?_
          refine am_icmp_ge 73 107 dX11_init_73 rfl (fun c73 => absurd c73 (nI_ge hk (by decide))) (fun c73 => ?_)
          refine am_aload_n 76 dX11_init_76 rfl ?_
          refine am_iload 77 dX11_init_77 rfl ?_
          refine am_V1 79 (mc' := 0) (ms' := 0) (rc := 0) (rs := 0) dX11_init_79 lX11_21 ⟨by decide, by decide⟩ r_a0 (Nat.le_of_ble_eq_true rfl) (Nat.le_of_ble_eq_true rfl) (s_vTouched r_a0 (r_a1 hv) hk) ?_
          refine am_is_ct ?_
          refine am_if_eq 82 101 dX11_init_82 rfl (fun c82 => absurd c82 (fun z => m_tc_0.mp z ht)) (fun c82 => ?_)
          refine am_aload_n 85 dX11_init_85 rfl ?_
          refine am_iload 86 dX11_init_86 rfl ?_
          refine am_zaload 88 dX11_init_88 rfl (by first | exact r_a0 | exact (r_a1 hv) | exact (r_a2 hv) | exact (r_a3 hv) | exact (r_a4 hv) | exact (r_a5 hv) | assumption) (am_ix hk (by decide)) ?_
          rw [nI_clamp (n := k) (by omega)]
          refine am_if_ne 89 101 dX11_init_89 rfl (fun c89 => ?_) (fun c89 => absurd c89 (r_sn1 h00))
          refine am_iinc 101 (v := nI (k + 1)) dX11_init_101 rfl (nI_1 (k)) (by decide) ?_
          refine am_goto 104 (tgt := 69) dX11_init_104 rfl ?_
          exact ih _ trivial
      · rw [show m_regs sg (k + 1) = m_regs sg k from if_neg fun q => ht q.1] at ih
        refine am_iload 69 dX11_init_69 rfl ?_
        refine am_bipush 71 (v := 48) dX11_init_71 (by decide) ?_
        refine am_icmp_ge 73 107 dX11_init_73 rfl (fun c73 => absurd c73 (nI_ge hk (by decide))) (fun c73 => ?_)
        refine am_aload_n 76 dX11_init_76 rfl ?_
        refine am_iload 77 dX11_init_77 rfl ?_
        refine am_V1 79 (mc' := 0) (ms' := 0) (rc := 0) (rs := 0) dX11_init_79 lX11_21 ⟨by decide, by decide⟩ r_a0 (Nat.le_of_ble_eq_true rfl) (Nat.le_of_ble_eq_true rfl) (s_vTouched r_a0 (r_a1 hv) hk) ?_
        refine am_is_ct ?_
        refine am_if_eq 82 101 dX11_init_82 rfl (fun c82 => ?_) (fun c82 => absurd (m_tc_0.mpr ht) c82)
        refine am_iinc 101 (v := nI (k + 1)) dX11_init_101 rfl (nI_1 (k)) (by decide) ?_
        refine am_goto 104 (tgt := 69) dX11_init_104 rfl ?_
        exact ih _ trivial
  · intro k s hk hs ih
    have x0 : ∀ s : Nat → Int32, va_up f1 (u) (.inl (0, 48, .inl s)) v = .inr (11, [.ref (u), .ref (u + 1), .ref (u + 2), .int 0]) := fun _ => am_un (by omega) a0
    refine am_iload_n 30 dX11_init_30 rfl ?_
    refine am_bipush 31 (v := 48) dX11_init_31 (by decide) ?_
    refine am_icmp_ge 33 55 dX11_init_33 rfl (fun c33 => absurd c33 (nI_ge hk (by decide))) (fun c33 => ?_)
    refine am_aload_n 36 dX11_init_36 rfl ?_
    refine am_getfield 37 dX11_init_37 fX11_9 (by first | exact x0 _ | exact am_ue | exact am_un (by omega) hc1 | exact am_un (by omega) hb1) rfl ?_
    refine am_iload_n 40 dX11_init_40 rfl ?_
    refine am_aload_n 41 dX11_init_41 rfl ?_
    refine am_iload_n 42 dX11_init_42 rfl ?_
    refine am_iaload 43 dX11_init_43 rfl (by first | exact x0 _ | exact am_ue | exact am_un (by omega) hc1 | exact am_un (by omega) hb1) (am_ix hk (by decide)) ?_
    rw [nI_clamp (n := k) (by omega)]
    refine am_aload_n 44 dX11_init_44 rfl ?_
    refine am_iload_n 45 dX11_init_45 rfl ?_
    refine am_iaload 46 dX11_init_46 rfl (by first | exact x0 _ | exact am_ue | exact am_un (by omega) hc1 | exact am_un (by omega) hb1) (am_ix hk (by decide)) ?_
    rw [nI_clamp (n := k) (by omega)]
    refine am_isub 47 dX11_init_47 ?_
    refine am_iastore 48 dX11_init_48 rfl (by first | exact x0 _ | exact am_ue | exact am_un (by omega) hc1 | exact am_un (by omega) hb1) (am_ix hk (by decide)) ?_
    rw [nI_clamp (n := k) (by omega), am_uu]
    refine am_iinc 49 (v := nI (k + 1)) dX11_init_49 rfl (nI_1 (k)) (by decide) ?_
    refine am_goto 52 (tgt := 30) dX11_init_52 rfl ?_
    refine ih _ (fun x hx => ?_)
    by_cases e : x = k
    · subst e; rw [am_up_eq, ← hsg]
    · rw [am_up_ne e]; exact hs x (by omega)
end RInit
