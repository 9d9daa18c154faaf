/-! ===== the reference: its peaks, to the letter ===== -/
section RPeak
theorem r_off {x j : Nat} (hx : x < 100) (hj : j < 100) : (nI x - 1 + nI j).toInt = (x : Int) - 1 + j := by
  have e1 : (nI x - 1).toInt = (x : Int) - 1 := by
    rw [Int32.toInt_sub, nI_toInt (by omega), show (1 : Int32).toInt = 1 from rfl, Int.bmod_eq_of_le (by omega) (by omega)]
  rw [Int32.toInt_add, e1, nI_toInt (by omega), Int.bmod_eq_of_le (by omega) (by omega)]
theorem r_gt {x j : Nat} (hx : x < 50) (hj : j < 50) : nI x + 1 < nI x - 1 + nI j ↔ 3 ≤ j := by
  rw [nI_1, Int32.lt_iff_toInt_lt, r_off (by omega) (by omega), nI_toInt (by omega)]
  omega
theorem r_inc {x j : Nat} : nI x - 1 + nI j + 1 = nI x - 1 + nI (j + 1) := by rw [← nI_1, Int32.add_assoc]

theorem r_xa {x i a : Nat} (hx : x < 50) (hi : i < 50) (ha : a < 50) : nI x - 1 + nI i = nI a ↔ a + 1 = x + i := by
  rw [← Int32.toInt_inj, r_off (by omega) (by omega), nI_toInt (by omega)]
  omega
variable {v u n : Nat} {f : Nat → am_C} {sig : Nat → Int32} {mn : Int32}
def r_ok (sig : Nat → Int32) (c i j : Nat) : Prop := ∀ o, o < 48 → m_adj c o → (o % 8 + 1 < c % 8 + i ∨ (o % 8 + 1 = c % 8 + i ∧ o / 8 + 1 < c / 8 + j)) → ¬ m_beat sig c o
theorem r_ok_step {c i j : Nat} (h : r_ok sig c i j) (h2 : ∀ o, o < 48 → o % 8 + 1 = c % 8 + i → o / 8 + 1 = c / 8 + j → ¬ m_beat sig c o) : r_ok sig c i (j + 1) := by
  intro o ho ha hq
  by_cases e : o % 8 + 1 = c % 8 + i ∧ o / 8 + 1 = c / 8 + j
  · exact h2 o ho e.1 e.2
  · exact h o ho ha (by omega)
theorem r_ok_col {c i : Nat} (h : r_ok sig c i 3) : r_ok sig c (i + 1) 0 := by
  intro o ho ha hq
  refine h o ho ha ?_
  unfold m_adj at ha
  omega
theorem r_ok_end {c : Nat} (h : r_ok sig c 3 0) (ht : 20 ≤ sig c) : m_isPk sig c = true := by
  rw [q_isPk_iff]
  refine ⟨ht, fun o ho ha => h o ho ha ?_⟩
  unfold m_adj at ha
  omega
theorem r_not {c o : Nat} (ho : o < 48) (ha : m_adj c o) (hb : m_beat sig c o) : m_isPk sig c = false := by
  cases e : m_isPk sig c
  · rfl
  · exact absurd hb ((q_isPk_iff.mp e).2 o ho ha)
theorem s_isPeak {c : Nat} (h0 : f v = .inr (11, [.ref (u), .ref (u + 1), .ref (u + 2), .int mn])) (h1 : f (u) = .inl (0, 48, .inl sig)) (hc : c < 48) : AM mX11_isPeak 0 0 [.ref v, .int (nI c)] n f (am_is (some (.int (m_bi (m_isPk sig c)))) n f) := by
  show AW mX11_isPeak 0 0 0 [some (.ref v), some (.int (nI c)), none, none, none, none, none] [] n f _
  by_cases h20 : 20 ≤ sig c
  case neg =>
    have e : m_isPk sig c = false := by
      cases e : m_isPk sig c
      · rfl
      · exact absurd (q_isPk_iff.mp e).1 h20
    rw [e]
    refine am_aload_n 0 dX11_isPeak_0 rfl ?_
    refine am_iload_n 1 dX11_isPeak_1 rfl ?_
    refine am_V1 2 (mc' := 0) (ms' := 0) (rc := 0) (rs := 0) dX11_isPeak_2 lX11_21 ⟨by decide, by decide⟩ (by repeat (first | assumption | exact am_ue | refine am_un (by first | assumption | decide | omega) ?_)) (Nat.le_of_ble_eq_true rfl) (Nat.le_of_ble_eq_true rfl) (s_vTouched h0 h1 hc) ?_
    refine am_is_ct ?_
    refine am_if_ne 5 10 dX11_isPeak_5 rfl (fun c5 => absurd c5 (fun z => z (m_tc_0.mpr h20))) (fun c5 => ?_)
    refine am_iconst 8 (v := 0) dX11_isPeak_8 (by decide) ?_
    refine am_ireturn 9 dX11_isPeak_9 rfl rfl ?_
    exact ⟨rfl, rfl, rfl⟩
  have hF : ∀ {o}, o < 48 → m_adj c o → m_beat sig c o → m_bi false = m_bi (m_isPk sig c) := fun a b d => by rw [r_not a b d]
  refine am_aload_n 0 dX11_isPeak_0 rfl ?_
  refine am_iload_n 1 dX11_isPeak_1 rfl ?_
  refine am_V1 2 (mc' := 0) (ms' := 0) (rc := 0) (rs := 0) dX11_isPeak_2 lX11_21 ⟨by decide, by decide⟩ (by repeat (first | assumption | exact am_ue | refine am_un (by first | assumption | decide | omega) ?_)) (Nat.le_of_ble_eq_true rfl) (Nat.le_of_ble_eq_true rfl) (s_vTouched h0 h1 hc) ?_
  refine am_is_ct ?_
  refine am_if_ne 5 10 dX11_isPeak_5 rfl (fun c5 => ?_) (fun c5 => absurd c5 (fun z => m_tc_0.mp z h20))
  refine am_iload_n 10 dX11_isPeak_10 rfl ?_
  refine am_bipush 11 (v := 8) dX11_isPeak_11 (by decide) ?_
  refine am_irem 13 dX11_isPeak_13 (by decide) ?_
  rw [am_rem8 (by omega)]
  refine am_istore_n 14 dX11_isPeak_14 (by decide) ?_
  refine am_iload_n 15 dX11_isPeak_15 rfl ?_
  refine am_bipush 16 (v := 8) dX11_isPeak_16 (by decide) ?_
  refine am_idiv 18 dX11_isPeak_18 (by decide) ?_
  rw [am_div8 (by omega)]
  refine am_istore_n 19 dX11_isPeak_19 (by decide) ?_
  refine am_iload_n 20 dX11_isPeak_20 rfl ?_
  refine am_iconst 21 (v := 1) dX11_isPeak_21 (by decide) ?_
  refine am_isub 22 dX11_isPeak_22 ?_
  rw [show nI (c % 8) - 1 = nI (c % 8) - 1 + nI 0 from (Int32.add_zero _).symm]
  refine am_istore 23 dX11_isPeak_23 (by decide) ?_
  refine am_for 3 (fun i (_ : (Option Value) × (Option Value)) => r_ok sig c i 0) (fun i z => AW mX11_isPeak 0 0 25 [some (.ref v), some (.int (nI c)), some (.int (nI (c % 8))), some (.int (nI (c / 8))), some (.int (nI (c % 8) - 1 + nI i)), z.1, z.2] [] n f _) ?_ ?_ 0 (none, none) (by omega) (fun o ho ha hq => by unfold m_adj at ha; omega)
  · rintro ⟨z1, z2⟩ hk
    have hT : m_bi true = m_bi (m_isPk sig c) := by rw [r_ok_end hk h20]
    refine am_iload 25 dX11_isPeak_25 rfl ?_
    refine am_iload_n 27 dX11_isPeak_27 rfl ?_
    refine am_iconst 28 (v := 1) dX11_isPeak_28 (by decide) ?_
    refine am_iadd 29 dX11_isPeak_29 ?_
    refine am_icmp_gt 30 131 dX11_isPeak_30 rfl (fun c30 => ?_) (fun c30 => absurd ((r_gt (by omega) (by decide)).mpr (by decide)) c30)
    refine am_iconst 131 (v := 1) dX11_isPeak_131 (by decide) ?_
    refine am_ireturn 132 dX11_isPeak_132 rfl rfl ?_
    rw [← hT]
    exact ⟨rfl, rfl, rfl⟩
  · rintro i ⟨z1, z2⟩ hi hk ih
    have hk : r_ok sig c i 0 := hk
    show AW mX11_isPeak 0 0 25 [some (.ref v), some (.int (nI c)), some (.int (nI (c % 8))), some (.int (nI (c / 8))), some (.int (nI (c % 8) - 1 + nI i)), z1, z2] [] n f _
    refine am_iload 25 dX11_isPeak_25 rfl ?_
    refine am_iload_n 27 dX11_isPeak_27 rfl ?_
    refine am_iconst 28 (v := 1) dX11_isPeak_28 (by decide) ?_
    refine am_iadd 29 dX11_isPeak_29 ?_
    refine am_icmp_gt 30 131 dX11_isPeak_30 rfl (fun c30 => absurd c30 (fun z => by have := (r_gt (by omega) (by omega)).mp z; omega)) (fun c30 => ?_)
    refine am_iload_n 33 dX11_isPeak_33 rfl ?_
    refine am_iconst 34 (v := 1) dX11_isPeak_34 (by decide) ?_
    refine am_isub 35 dX11_isPeak_35 ?_
    rw [show nI (c / 8) - 1 = nI (c / 8) - 1 + nI 0 from (Int32.add_zero _).symm]
    refine am_istore 36 dX11_isPeak_36 (by decide) ?_
    refine am_for 3 (fun j (_ : Option Value) => r_ok sig c i j) (fun j z => AW mX11_isPeak 0 0 38 [some (.ref v), some (.int (nI c)), some (.int (nI (c % 8))), some (.int (nI (c / 8))), some (.int (nI (c % 8) - 1 + nI i)), some (.int (nI (c / 8) - 1 + nI j)), z] [] n f _) ?_ ?_ 0 z2 (by omega) hk
    · rintro z hk2
      refine am_iload 38 dX11_isPeak_38 rfl ?_
      refine am_iload_n 40 dX11_isPeak_40 rfl ?_
      refine am_iconst 41 (v := 1) dX11_isPeak_41 (by decide) ?_
      refine am_iadd 42 dX11_isPeak_42 ?_
      refine am_icmp_gt 43 125 dX11_isPeak_43 rfl (fun c43 => ?_) (fun c43 => absurd ((r_gt (by omega) (by decide)).mpr (by decide)) c43)
      refine am_iinc 125 (v := nI (c % 8) - 1 + nI (i + 1)) dX11_isPeak_125 rfl r_inc (by decide) ?_
      refine am_goto 128 (tgt := 25) dX11_isPeak_128 rfl ?_
      exact ih (_, _) (r_ok_col hk2)
    · rintro j z hj hk2 ih2
      by_cases hb : (nI (c % 8) - 1 + nI i) < 0 ∨ 8 ≤ (nI (c % 8) - 1 + nI i) ∨ (nI (c / 8) - 1 + nI j) < 0 ∨ 6 ≤ (nI (c / 8) - 1 + nI j)
      · have hk3 : r_ok sig c i (j + 1) := r_ok_step hk2 fun o ho e1 e2 => by
          exfalso
          rw [(r_xa (by omega) (by omega) (by omega)).mpr e1, (r_xa (by omega) (by omega) (by omega)).mpr e2] at hb
          rcases hb with g | g | g | g
          · exact nI_pos (by omega) g
          · exact nI_ge (a := o % 8) (b := 8) (by omega) (by decide) g
          · exact nI_pos (by omega) g
          · exact nI_ge (a := o / 8) (b := 6) (by omega) (by decide) g
        refine am_iload 38 dX11_isPeak_38 rfl ?_
        refine am_iload_n 40 dX11_isPeak_40 rfl ?_
        refine am_iconst 41 (v := 1) dX11_isPeak_41 (by decide) ?_
        refine am_iadd 42 dX11_isPeak_42 ?_
        refine am_icmp_gt 43 125 dX11_isPeak_43 rfl (fun c43 => absurd c43 (fun z => by have := (r_gt (by omega) (by omega)).mp z; omega)) (fun c43 => ?_)
        refine am_iload 46 dX11_isPeak_46 rfl ?_
        refine am_iload 48 dX11_isPeak_48 rfl ?_
        refine am_SN2 50 (mc' := 0) (ms' := 0) (rc := 0) (rs := 0) dX11_isPeak_50 lX11_40 ⟨by decide, by decide⟩ (Nat.le_of_ble_eq_true rfl) (Nat.le_of_ble_eq_true rfl) (s_isGlass_f hb) ?_
        rintro o n' f' ⟨rfl, rfl, rfl⟩
        refine ⟨_, rfl, ?_⟩
        refine am_if_eq 53 119 dX11_isPeak_53 rfl (fun c53 => ?_) (fun c53 => absurd (by decide) c53)
        refine am_iinc 119 (v := nI (c / 8) - 1 + nI (j + 1)) dX11_isPeak_119 rfl r_inc (by decide) ?_
        refine am_goto 122 (tgt := 38) dX11_isPeak_122 rfl ?_
        exact ih2 _ hk3
      · obtain ⟨a, ha, ea⟩ := m_small 8 rfl (by decide) (fun z => hb (Or.inl z)) (fun z => hb (Or.inr (Or.inl z)))
        obtain ⟨b, hb2, eb⟩ := m_small 6 rfl (by decide) (fun z => hb (Or.inr (Or.inr (Or.inl z)))) (fun z => hb (Or.inr (Or.inr (Or.inr z))))
        have hc2 : 8 * b + a < 48 := by omega
        have xa := (r_xa (by omega) (by omega) (by omega)).mp ea
        have xb := (r_xa (by omega) (by omega) (by omega)).mp eb
        have had : m_adj c (8 * b + a) := by unfold m_adj; omega
        have hst : ¬ m_beat sig c (8 * b + a) → r_ok sig c i (j + 1) := fun hn => r_ok_step hk2 fun o ho e1 e2 => by
          have : o = 8 * b + a := by omega
          rw [this]
          exact hn
        have hsame : nI (8 * b + a) = nI c → ¬ m_beat sig c (8 * b + a) := fun e => by
          have : 8 * b + a = c := (nI_eq (by omega) (by omega)).mp e
          rw [this]
          exact fun g => g.elim (fun q => Int32.lt_irrefl q) (fun q => Nat.lt_irrefl _ q.2)
        have h114 : nI c ≤ nI (8 * b + a) → ¬ (8 * b + a < c) := fun g => by
          have := (nI_leI (by omega) (by omega)).mp g
          omega
        have h114b : ¬ (nI c ≤ nI (8 * b + a)) → 8 * b + a < c := fun g => by
          refine Classical.byContradiction fun z => g ((nI_leI (by omega) (by omega)).mpr (by omega))
        refine am_iload 38 dX11_isPeak_38 rfl ?_
        refine am_iload_n 40 dX11_isPeak_40 rfl ?_
        refine am_iconst 41 (v := 1) dX11_isPeak_41 (by decide) ?_
        refine am_iadd 42 dX11_isPeak_42 ?_
        refine am_icmp_gt 43 125 dX11_isPeak_43 rfl (fun c43 => absurd c43 (fun z => by have := (r_gt (by omega) (by omega)).mp z; omega)) (fun c43 => ?_)
        refine am_iload 46 dX11_isPeak_46 rfl ?_
        refine am_iload 48 dX11_isPeak_48 rfl ?_
        rw [ea, eb]
        refine am_SN2 50 (mc' := 0) (ms' := 0) (rc := 0) (rs := 0) dX11_isPeak_50 lX11_40 ⟨by decide, by decide⟩ (Nat.le_of_ble_eq_true rfl) (Nat.le_of_ble_eq_true rfl) (s_isGlass_t ha hb2) ?_
        rintro o n' f' ⟨rfl, rfl, rfl⟩
        refine ⟨_, rfl, ?_⟩
        refine am_if_eq 53 119 dX11_isPeak_53 rfl (fun c53 => absurd c53 (by decide)) (fun c53 => ?_)
        refine am_iload 56 dX11_isPeak_56 rfl ?_
        refine am_iload 58 dX11_isPeak_58 rfl ?_
        refine am_SN2 60 (mc' := 0) (ms' := 0) (rc := 0) (rs := 0) dX11_isPeak_60 lX11_44 ⟨by decide, by decide⟩ (Nat.le_of_ble_eq_true rfl) (Nat.le_of_ble_eq_true rfl) (s_cell) ?_
        rintro o n' f' ⟨rfl, rfl, rfl⟩
        refine ⟨_, rfl, ?_⟩
        refine am_iload_n 63 dX11_isPeak_63 rfl ?_
        refine am_icmp_ne 64 70 dX11_isPeak_64 rfl (fun c64 => ?_) (fun c64 => ?_)
        · refine am_iload 70 dX11_isPeak_70 rfl ?_
          refine am_iload 72 dX11_isPeak_72 rfl ?_
          refine am_SN2 74 (mc' := 0) (ms' := 0) (rc := 0) (rs := 0) dX11_isPeak_74 lX11_44 ⟨by decide, by decide⟩ (Nat.le_of_ble_eq_true rfl) (Nat.le_of_ble_eq_true rfl) (s_cell) ?_
          rintro o n' f' ⟨rfl, rfl, rfl⟩
          refine ⟨_, rfl, ?_⟩
          refine am_istore 77 dX11_isPeak_77 (by decide) ?_
          refine am_aload_n 79 dX11_isPeak_79 rfl ?_
          refine am_getfield 80 dX11_isPeak_80 fX11_9 (by repeat (first | assumption | exact am_ue | refine am_un (by first | assumption | decide | omega) ?_)) rfl ?_
          refine am_iload 83 dX11_isPeak_83 rfl ?_
          refine am_iaload 85 dX11_isPeak_85 rfl (by repeat (first | assumption | exact am_ue | refine am_un (by first | assumption | decide | omega) ?_)) (am_ix (show 8 * b + a < 48 by omega) (by decide)) ?_
          rw [nI_clamp (n := 8 * b + a) (by omega)]
          refine am_aload_n 86 dX11_isPeak_86 rfl ?_
          refine am_getfield 87 dX11_isPeak_87 fX11_9 (by repeat (first | assumption | exact am_ue | refine am_un (by first | assumption | decide | omega) ?_)) rfl ?_
          refine am_iload_n 90 dX11_isPeak_90 rfl ?_
          refine am_iaload 91 dX11_isPeak_91 rfl (by repeat (first | assumption | exact am_ue | refine am_un (by first | assumption | decide | omega) ?_)) (am_ix hc (by decide)) ?_
          rw [nI_clamp (n := c) (by omega)]
          refine am_icmp_gt 92 117 dX11_isPeak_92 rfl (fun c92 => ?_) (fun c92 => ?_)
          · refine am_iconst 117 (v := 0) dX11_isPeak_117 (by decide) ?_
            refine am_ireturn 118 dX11_isPeak_118 rfl rfl ?_
            refine ⟨congrArg (fun z => Sum.inl (some (Value.int z))) (hF hc2 had ?_), rfl, rfl⟩
            first | exact Or.inl c92 | exact Or.inr ⟨c108, h114b c114⟩
          · refine am_aload_n 95 dX11_isPeak_95 rfl ?_
            refine am_getfield 96 dX11_isPeak_96 fX11_9 (by repeat (first | assumption | exact am_ue | refine am_un (by first | assumption | decide | omega) ?_)) rfl ?_
            refine am_iload 99 dX11_isPeak_99 rfl ?_
            refine am_iaload 101 dX11_isPeak_101 rfl (by repeat (first | assumption | exact am_ue | refine am_un (by first | assumption | decide | omega) ?_)) (am_ix (show 8 * b + a < 48 by omega) (by decide)) ?_
            rw [nI_clamp (n := 8 * b + a) (by omega)]
            refine am_aload_n 102 dX11_isPeak_102 rfl ?_
            refine am_getfield 103 dX11_isPeak_103 fX11_9 (by repeat (first | assumption | exact am_ue | refine am_un (by first | assumption | decide | omega) ?_)) rfl ?_
            refine am_iload_n 106 dX11_isPeak_106 rfl ?_
            refine am_iaload 107 dX11_isPeak_107 rfl (by repeat (first | assumption | exact am_ue | refine am_un (by first | assumption | decide | omega) ?_)) (am_ix hc (by decide)) ?_
            rw [nI_clamp (n := c) (by omega)]
            refine am_icmp_ne 108 119 dX11_isPeak_108 rfl (fun c108 => ?_) (fun c108 => ?_)
            · refine am_iinc 119 (v := nI (c / 8) - 1 + nI (j + 1)) dX11_isPeak_119 rfl (by rw [← eb]; exact r_inc) (by decide) ?_
              refine am_goto 122 (tgt := 38) dX11_isPeak_122 rfl ?_
              rw [← ea]
              refine ih2 _ (hst ?_)
              first | exact hsame c64 | exact fun z => z.elim c92 (fun q => c108 q.1) | exact fun z => z.elim c92 (fun q => h114 c114 q.2)
            · refine am_iload 111 dX11_isPeak_111 rfl ?_
              refine am_iload_n 113 dX11_isPeak_113 rfl ?_
              refine am_icmp_ge 114 119 dX11_isPeak_114 rfl (fun c114 => ?_) (fun c114 => ?_)
              · refine am_iinc 119 (v := nI (c / 8) - 1 + nI (j + 1)) dX11_isPeak_119 rfl (by rw [← eb]; exact r_inc) (by decide) ?_
                refine am_goto 122 (tgt := 38) dX11_isPeak_122 rfl ?_
                rw [← ea]
                refine ih2 _ (hst ?_)
                first | exact hsame c64 | exact fun z => z.elim c92 (fun q => c108 q.1) | exact fun z => z.elim c92 (fun q => h114 c114 q.2)
              · refine am_iconst 117 (v := 0) dX11_isPeak_117 (by decide) ?_
                refine am_ireturn 118 dX11_isPeak_118 rfl rfl ?_
                refine ⟨congrArg (fun z => Sum.inl (some (Value.int z))) (hF hc2 had ?_), rfl, rfl⟩
                first | exact Or.inl c92 | exact Or.inr ⟨c108, h114b c114⟩
        · refine am_goto 67 (tgt := 119) dX11_isPeak_67 rfl ?_
          refine am_iinc 119 (v := nI (c / 8) - 1 + nI (j + 1)) dX11_isPeak_119 rfl (by rw [← eb]; exact r_inc) (by decide) ?_
          refine am_goto 122 (tgt := 38) dX11_isPeak_122 rfl ?_
          rw [← ea]
          refine ih2 _ (hst ?_)
          first | exact hsame c64 | exact fun z => z.elim c92 (fun q => c108 q.1) | exact fun z => z.elim c92 (fun q => h114 c114 q.2)
end RPeak
