/-! ===== the reference: a view made, its hum, its drift ===== -/
section View2
variable {v u n c b : Nat} {f : Nat → am_C} {sig sz pk g w ch bs : Nat → Int32} {mn : Int32}
def r_q (q k : Nat) (sz pk sig : Nat → Int32) : Prop := q ≤ k ∧ ((∀ x, x < 48 → ¬ 20 ≤ sig x) → q = 0 ∧ sz = (fun _ => 0))
theorem s_View_init (h0 : f v = .inr (11, [.null, .null, .null, .int 0])) (hc : f c = .inl (0, 48, .inl ch)) (hb : f b = .inl (0, 48, .inl bs)) (hv : v < u) (hcv : c < u ∧ c ≠ v) (hbv : b < u ∧ b ≠ v) : AM mX11_init 5 240 [.ref v, .ref c, .ref b] u f (fun o n' f' => ∃ (sz pk g w : Nat → Int32) (q : Nat), o = .inl none ∧ n' = u + 5 ∧ f' = r_put f v u (fun k => ch k - bs k) sz pk (nI q) g w ∧ r_q q 48 sz pk (fun k => ch k - bs k)) := by
  generalize hsg : (fun k => ch k - bs k) = sg
  show AW mX11_init 5 240 0 [some (.ref v), some (.ref c), some (.ref b), none, none, none] [] u f _
  refine am_aload_n 0 dX11_init_0 rfl ?_
  refine am_OI 1 dX11_init_1 lX11_3 (by decide) (Nat.le_of_ble_eq_true rfl) ?_
  refine am_aload_n 4 dX11_init_4 rfl ?_
  refine am_bipush 5 (v := 48) dX11_init_5 (by decide) ?_
  refine am_newints 7 (t := 0) (N := 48) (rc := 4) (rs := 192) dX11_init_7 ac_int rfl (by decide) (by decide) (by decide) ?_
  refine am_putfinal 9 dX11_init_9 rfl qX11_9 (by repeat (first | assumption | exact am_ue | refine am_un (by first | assumption | decide | omega) ?_)) rfl rfl (Nat.le_of_ble_eq_true rfl) ?_
  refine am_aload_n 12 dX11_init_12 rfl ?_
  refine am_bipush 13 (v := 48) dX11_init_13 (by decide) ?_
  refine am_newints 15 (t := 0) (N := 48) (rc := 3) (rs := 144) dX11_init_15 ac_int rfl (by decide) (by decide) (by decide) ?_
  refine am_putfinal 17 dX11_init_17 rfl qX11_15 (by repeat (first | assumption | exact am_ue | refine am_un (by first | assumption | decide | omega) ?_)) rfl rfl (Nat.le_of_ble_eq_true rfl) ?_
  refine am_aload_n 20 dX11_init_20 rfl ?_
  refine am_bipush 21 (v := 48) dX11_init_21 (by decide) ?_
  refine am_newints 23 (t := 0) (N := 48) (rc := 2) (rs := 96) dX11_init_23 ac_int rfl (by decide) (by decide) (by decide) ?_
  refine am_putfinal 25 dX11_init_25 rfl qX11_18 (by repeat (first | assumption | exact am_ue | refine am_un (by first | assumption | decide | omega) ?_)) rfl rfl (Nat.le_of_ble_eq_true rfl) ?_
  generalize hf1 : va_up _ v _ = f1
  have a0 : f1 v = .inr (11, [.ref (u), .ref (u + 1), .ref (u + 2), .int 0]) := by rw [← hf1]; exact am_ue
  have a1 : f1 (u) = .inl (0, 48, .inl (fun _ => 0)) := by rw [← hf1]; repeat (first | exact am_ue | refine am_un (by omega) ?_)
  have a2 : f1 (u + 1) = .inl (0, 48, .inl (fun _ => 0)) := by rw [← hf1]; repeat (first | exact am_ue | refine am_un (by omega) ?_)
  have a3 : f1 (u + 2) = .inl (0, 48, .inl (fun _ => 0)) := by rw [← hf1]; repeat (first | exact am_ue | refine am_un (by omega) ?_)
  have e1 : ∀ x, x ≠ v ∧ (x < u ∨ u + 2 < x) → f1 x = f x := fun x hx => by rw [← hf1]; repeat rw [am_up_ne (by omega)]
  have hc1 : f1 c = .inl (0, 48, .inl ch) := (e1 c ⟨hcv.2, Or.inl hcv.1⟩).trans hc
  have hb1 : f1 b = .inl (0, 48, .inl bs) := (e1 b ⟨hbv.2, Or.inl hbv.1⟩).trans hb
  clear hf1
  show AW mX11_init 2 96 28 [some (.ref v), some (.ref c), some (.ref b), none, none, none] [] (u + 3) f1 _
  refine am_iconst 28 (v := 0) dX11_init_28 (by decide) ?_
  refine am_istore_n 29 dX11_init_29 (by decide) ?_
  have hh := am_for 48 (fun k (s : Nat → Int32) => ∀ x, x < k → s x = sg x) (fun k s => AW mX11_init 2 96 30 [some (.ref v), some (.ref c), some (.ref b), some (.int (nI k)), none, none] [] (u + 3) (va_up f1 (u) (.inl (0, 48, .inl s))) (fun o n' f' => ∃ (sz pk g w : Nat → Int32) (q : Nat), o = .inl none ∧ n' = u + 5 ∧ f' = r_put f v u sg sz pk (nI q) g w ∧ r_q q 48 sz pk sg)) ?_ ?_ 0 (fun _ => 0) (by omega) (fun x hx => by omega)
  · rw [am_self a1] at hh
    exact hh
  · intro s hs
    refine AW.ints sg am_ue hs ?_
    rw [am_uu]
    refine am_iload_n 30 dX11_init_30 rfl ?_
    refine am_bipush 31 (v := 48) dX11_init_31 (by decide) ?_
    refine am_icmp_ge 33 55 dX11_init_33 rfl (fun c33 => ?_) (fun c33 => absurd (by decide) c33)
    refine am_bipush 55 (v := 48) dX11_init_55 (by decide) ?_
    refine am_newbools 57 (t := 3) (N := 48) (rc := 1) (rs := 48) dX11_init_57 ac_boolean rfl (by decide) (by decide) (by decide) ?_
    refine am_astore_n 59 dX11_init_59 (by decide) ?_
    refine am_bipush 60 (v := 48) dX11_init_60 (by decide) ?_
    refine am_newints 62 (t := 0) (N := 48) (rc := 0) (rs := 0) dX11_init_62 ac_int rfl (by decide) (by decide) (by decide) ?_
    refine am_astore 64 dX11_init_64 (by decide) ?_
    refine am_iconst 66 (v := 0) dX11_init_66 (by decide) ?_
    refine am_istore 67 dX11_init_67 (by decide) ?_
    have ef : va_up (va_up (va_up f1 (u) (.inl (0, 48, .inl sg))) (u + 3) (.inl (3, 48, .inl (fun _ => 0)))) (u + 3 + 1) (.inl (0, 48, .inl (fun _ => 0))) = r_put f v u sg (fun _ => 0) (fun _ => 0) 0 (fun _ => 0) (fun _ => 0) := by
      funext x
      by_cases hx : x ≠ v ∧ (x < u ∨ u + 4 < x)
      · rw [r_out hx, am_up_ne (by omega), am_up_ne (by omega), am_up_ne (by omega), e1 x (by omega)]
      · have hx2 : x = v ∨ x = u ∨ x = u + 1 ∨ x = u + 2 ∨ x = u + 3 ∨ x = u + 4 := by omega
        rcases hx2 with rfl | rfl | rfl | rfl | rfl | rfl
        · rw [r_a0, am_up_ne (by omega), am_up_ne (by omega), am_up_ne (by omega), a0]
        · rw [(r_a1 hv), am_up_ne (by omega), am_up_ne (by omega), am_up_eq]
        · rw [(r_a2 hv), am_up_ne (by omega), am_up_ne (by omega), am_up_ne (by omega), a2]
        · rw [(r_a3 hv), am_up_ne (by omega), am_up_ne (by omega), am_up_ne (by omega), a3]
        · rw [(r_a4 hv), am_up_ne (by omega), am_up_eq]
        · rw [(r_a5 hv)]; exact am_up_eq
    rw [ef]
    refine am_for 48 (fun _ (z : (Nat → Int32) × (Nat → Int32) × (Nat → Int32)) => (∀ x, x < 48 → ¬ 20 ≤ sg x) → z.1 = (fun _ => 0)) (fun k z => AW mX11_init 0 0 69 [some (.ref v), some (.ref c), some (.ref b), some (.ref (u + 3)), some (.ref (u + 4)), some (.int (nI k))] [] (u + 5) (r_put f v u sg z.1 (fun _ => 0) 0 z.2.1 z.2.2) _) ?_ ?_ 0 (_, _, _) (by omega) (fun _ => rfl)
    · rintro ⟨s1, g1, w1⟩ hz
      have hz : (∀ x, x < 48 → ¬ 20 ≤ sg x) → s1 = (fun _ => 0) := hz
      show AW mX11_init 0 0 69 [some (.ref v), some (.ref c), some (.ref b), some (.ref (u + 3)), some (.ref (u + 4)), some (.int (nI 48))] [] (u + 5) (r_put f v u sg s1 (fun _ => 0) (nI 0) g1 w1) _
      refine am_iload 69 dX11_init_69 rfl ?_
      refine am_bipush 71 (v := 48) dX11_init_71 (by decide) ?_
      refine am_icmp_ge 73 107 dX11_init_73 rfl (fun c73 => ?_) (fun c73 => absurd (by decide) c73)
      refine am_iconst 107 (v := 0) dX11_init_107 (by decide) ?_
      refine am_istore 108 dX11_init_108 (by decide) ?_
      refine am_for 48 (fun k (z : (Nat → Int32) × Nat) => r_q z.2 k s1 z.1 sg) (fun k z => AW mX11_init 0 0 110 [some (.ref v), some (.ref c), some (.ref b), some (.ref (u + 3)), some (.ref (u + 4)), some (.int (nI k))] [] (u + 5) (r_put f v u sg s1 z.1 (nI z.2) g1 w1) _) ?_ ?_ 0 (_, 0) (by omega) ⟨Nat.le_refl _, fun h => ⟨rfl, hz h⟩⟩
      · rintro ⟨p1, q⟩ hq
        refine am_iload 110 dX11_init_110 rfl ?_
        refine am_bipush 112 (v := 48) dX11_init_112 (by decide) ?_
        refine am_icmp_ge 114 150 dX11_init_114 rfl (fun c114 => ?_) (fun c114 => absurd (by decide) c114)
        refine am_return 150 dX11_init_150 rfl ?_
        exact ⟨_, _, _, _, q, rfl, rfl, rfl, hq⟩
      · rintro k ⟨p1, q⟩ hk hq ih
        have hq1 : q ≤ k := hq.1
        have hq2 : (∀ x, x < 48 → ¬ 20 ≤ sg x) → q = 0 ∧ s1 = (fun _ => 0) := hq.2
        show AW mX11_init 0 0 110 [some (.ref v), some (.ref c), some (.ref b), some (.ref (u + 3)), some (.ref (u + 4)), some (.int (nI k))] [] (u + 5) (r_put f v u sg s1 p1 (nI q) g1 w1) _
        refine am_iload 110 dX11_init_110 rfl ?_
        refine am_bipush 112 (v := 48) dX11_init_112 (by decide) ?_
        refine am_icmp_ge 114 150 dX11_init_114 rfl (fun c114 => absurd c114 (nI_ge hk (by decide))) (fun c114 => ?_)
        refine am_aload_n 117 dX11_init_117 rfl ?_
        refine am_iload 118 dX11_init_118 rfl ?_
        refine am_V1 120 (mc' := 0) (ms' := 0) (rc := 0) (rs := 0) dX11_init_120 lX11_29 ⟨by decide, by decide⟩ r_a0 (Nat.le_of_ble_eq_true rfl) (Nat.le_of_ble_eq_true rfl) (s_isPeak r_a0 (r_a1 hv) hk) ?_
        rintro o n' f' ⟨bb, rfl, rfl, rfl, hbb⟩
        refine am_ct_in ?_
        refine am_if_eq 123 144 dX11_init_123 rfl (fun c123 => ?_) (fun c123 => ?_)
        · refine am_iinc 144 (v := nI (k + 1)) dX11_init_144 rfl (nI_1 (k)) (by decide) ?_
          refine am_goto 147 (tgt := 110) dX11_init_147 rfl ?_
          first | exact ih (_, q) ⟨by show q ≤ k + 1; omega, hq2⟩ | exact ih (_, q + 1) ⟨by show q + 1 ≤ k + 1; omega, hbt⟩
        · have hbt : (∀ x, x < 48 → ¬ 20 ≤ sg x) → q + 1 = 0 ∧ s1 = (fun _ => 0) := fun h => absurd (show m_bi bb = 0 by rw [hbb (h k hk)]; rfl) c123
          refine am_aload_n 126 dX11_init_126 rfl ?_
          refine am_getfield 127 dX11_init_127 fX11_18 (by first | exact r_a0 | exact (r_a1 hv) | exact (r_a2 hv) | exact (r_a3 hv) | exact (r_a4 hv) | exact (r_a5 hv) | assumption) rfl ?_
          refine am_aload_n 130 dX11_init_130 rfl ?_
          refine am_dup 131 dX11_init_131 rfl ?_
          refine am_getfield 132 dX11_init_132 fX11_32 (by first | exact r_a0 | exact (r_a1 hv) | exact (r_a2 hv) | exact (r_a3 hv) | exact (r_a4 hv) | exact (r_a5 hv) | assumption) rfl ?_
          refine am_dup_x1 135 dX11_init_135 rfl rfl ?_
          refine am_iconst 136 (v := 1) dX11_init_136 (by decide) ?_
          refine am_iadd 137 dX11_init_137 ?_
          refine am_putfield 138 dX11_init_138 pX11_32 (by first | exact r_a0 | exact (r_a1 hv) | exact (r_a2 hv) | exact (r_a3 hv) | exact (r_a4 hv) | exact (r_a5 hv) | assumption) rfl rfl (Nat.le_of_ble_eq_true rfl) ?_
          rw [show ∀ a : Int32, List.set [Value.ref (u), .ref (u + 1), .ref (u + 2), .int (nI q)] 3 (.int a) = [.ref (u), .ref (u + 1), .ref (u + 2), .int a] from fun _ => rfl, r_u0 hv, nI_1]
          refine am_iload 141 dX11_init_141 rfl ?_
          refine am_iastore 143 dX11_init_143 rfl (by first | exact r_a0 | exact (r_a1 hv) | exact (r_a2 hv) | exact (r_a3 hv) | exact (r_a4 hv) | exact (r_a5 hv) | assumption) (am_ix (show q < 48 by omega) (by decide)) ?_
          rw [r_u3 hv]
          refine am_iinc 144 (v := nI (k + 1)) dX11_init_144 rfl (nI_1 (k)) (by decide) ?_
          refine am_goto 147 (tgt := 110) dX11_init_147 rfl ?_
          first | exact ih (_, q) ⟨by show q ≤ k + 1; omega, hq2⟩ | exact ih (_, q + 1) ⟨by show q + 1 ≤ k + 1; omega, hbt⟩
    · rintro k ⟨s1, g1, w1⟩ hk hz ih
      have hz : (∀ x, x < 48 → ¬ 20 ≤ sg x) → s1 = (fun _ => 0) := hz
      show AW mX11_init 0 0 69 [some (.ref v), some (.ref c), some (.ref b), some (.ref (u + 3)), some (.ref (u + 4)), some (.int (nI k))] [] (u + 5) (r_put f v u sg s1 (fun _ => 0) 0 g1 w1) _
      refine am_iload 69 dX11_init_69 rfl ?_
      refine am_bipush 71 (v := 48) dX11_init_71 (by decide) ?_
      refine am_icmp_ge 73 107 dX11_init_73 rfl (fun c73 => absurd c73 (nI_ge hk (by decide))) (fun c73 => ?_)
      refine am_aload_n 76 dX11_init_76 rfl ?_
      refine am_iload 77 dX11_init_77 rfl ?_
      refine am_V1 79 (mc' := 0) (ms' := 0) (rc := 0) (rs := 0) dX11_init_79 lX11_21 ⟨by decide, by decide⟩ r_a0 (Nat.le_of_ble_eq_true rfl) (Nat.le_of_ble_eq_true rfl) (s_vTouched r_a0 (r_a1 hv) hk) ?_
      refine am_is_ct ?_
      refine am_if_eq 82 101 dX11_init_82 rfl (fun c82 => ?_) (fun c82 => ?_)
      · refine am_iinc 101 (v := nI (k + 1)) dX11_init_101 rfl (nI_1 (k)) (by decide) ?_
        refine am_goto 104 (tgt := 69) dX11_init_104 rfl ?_
        first | exact ih (_, _, _) hz | exact ih (_, _, _) hz2
      · have h20 : 20 ≤ sg k := Classical.not_not.mp fun z => c82 (m_tc_0.mpr z)
        refine am_aload_n 85 dX11_init_85 rfl ?_
        refine am_iload 86 dX11_init_86 rfl ?_
        refine am_zaload 88 dX11_init_88 rfl (by first | exact r_a0 | exact (r_a1 hv) | exact (r_a2 hv) | exact (r_a3 hv) | exact (r_a4 hv) | exact (r_a5 hv) | assumption) (am_ix hk (by decide)) ?_
        rw [nI_clamp (n := k) (by omega)]
        refine am_if_ne 89 101 dX11_init_89 rfl (fun c89 => ?_) (fun c89 => ?_)
        · refine am_iinc 101 (v := nI (k + 1)) dX11_init_101 rfl (nI_1 (k)) (by decide) ?_
          refine am_goto 104 (tgt := 69) dX11_init_104 rfl ?_
          first | exact ih (_, _, _) hz | exact ih (_, _, _) hz2
        · refine am_aload_n 92 dX11_init_92 rfl ?_
          refine am_iload 93 dX11_init_93 rfl ?_
          refine am_aload_n 95 dX11_init_95 rfl ?_
          refine am_aload 96 dX11_init_96 rfl ?_
          refine am_V3 98 (mc' := 0) (ms' := 0) (rc := 0) (rs := 0) dX11_init_98 lX11_25 ⟨by decide, by decide⟩ r_a0 (Nat.le_of_ble_eq_true rfl) (Nat.le_of_ble_eq_true rfl) (s_vregion hv hk c89) ?_
          rintro o n' f' ⟨s2, g2, w2, rfl, rfl, rfl⟩
          have hz2 : (∀ x, x < 48 → ¬ 20 ≤ sg x) → s2 = (fun _ => 0) := fun h => absurd h20 (h k hk)
          refine am_ct_in ?_
          refine am_iinc 101 (v := nI (k + 1)) dX11_init_101 rfl (nI_1 (k)) (by decide) ?_
          refine am_goto 104 (tgt := 69) dX11_init_104 rfl ?_
          first | exact ih (_, _, _) hz | exact ih (_, _, _) hz2
  · intro k s hk hs ih
    have x0 : ∀ s : Nat → Int32, va_up f1 (u) (.inl (0, 48, .inl s)) v = .inr (11, [.ref (u), .ref (u + 1), .ref (u + 2), .int 0]) := fun _ => am_un (by omega) a0
    refine am_iload_n 30 dX11_init_30 rfl ?_
    refine am_bipush 31 (v := 48) dX11_init_31 (by decide) ?_
    refine am_icmp_ge 33 55 dX11_init_33 rfl (fun c33 => absurd c33 (nI_ge hk (by decide))) (fun c33 => ?_)
    refine am_aload_n 36 dX11_init_36 rfl ?_
    refine am_getfield 37 dX11_init_37 fX11_9 (by first | exact x0 _ | exact am_ue | exact am_un (by omega) hc1 | exact am_un (by omega) hb1) rfl ?_
    refine am_iload_n 40 dX11_init_40 rfl ?_
    refine am_aload_n 41 dX11_init_41 rfl ?_
    refine am_iload_n 42 dX11_init_42 rfl ?_
    refine am_iaload 43 dX11_init_43 rfl (by first | exact x0 _ | exact am_ue | exact am_un (by omega) hc1 | exact am_un (by omega) hb1) (am_ix hk (by decide)) ?_
    rw [nI_clamp (n := k) (by omega)]
    refine am_aload_n 44 dX11_init_44 rfl ?_
    refine am_iload_n 45 dX11_init_45 rfl ?_
    refine am_iaload 46 dX11_init_46 rfl (by first | exact x0 _ | exact am_ue | exact am_un (by omega) hc1 | exact am_un (by omega) hb1) (am_ix hk (by decide)) ?_
    rw [nI_clamp (n := k) (by omega)]
    refine am_isub 47 dX11_init_47 ?_
    refine am_iastore 48 dX11_init_48 rfl (by first | exact x0 _ | exact am_ue | exact am_un (by omega) hc1 | exact am_un (by omega) hb1) (am_ix hk (by decide)) ?_
    rw [nI_clamp (n := k) (by omega), am_uu]
    refine am_iinc 49 (v := nI (k + 1)) dX11_init_49 rfl (nI_1 (k)) (by decide) ?_
    refine am_goto 52 (tgt := 30) dX11_init_52 rfl ?_
    refine ih _ (fun x hx => ?_)
    by_cases e : x = k
    · subst e; rw [am_up_eq, ← hsg]
    · rw [am_up_ne e]; exact hs x (by omega)
theorem r_abs {x : Int32} (h : x.toInt.natAbs ≤ 100) : (if 0 ≤ x then x else 0 - x) = nI x.toInt.natAbs := by
  apply Int32.toInt_inj.mp
  rw [nI_toInt (by omega)]
  split
  · rename_i c
    have := Int32.le_iff_toInt_le.mp c
    rw [show (0 : Int32).toInt = 0 from rfl] at this
    omega
  · rename_i c
    have := Int32.lt_iff_toInt_lt.mp (Int32.not_le.mp c)
    rw [show (0 : Int32).toInt = 0 from rfl] at this
    rw [Int32.toInt_sub, show (0 : Int32).toInt = 0 from rfl, Int.bmod_eq_of_le (by omega) (by omega)]
    omega
theorem r_hu_le (hs : ∀ x, x < 48 → (sig x).toInt.natAbs ≤ 100) {k : Nat} (hk : k ≤ 48) : m_S (m_huF sig) k ≤ k * 100 := by
  refine Nat.le_trans (m_S_le (h := fun _ => 100) fun j hj => ?_) (by rw [m_S_const]; exact Nat.le_refl _)
  unfold m_huF
  have := hs j (by omega)
  split <;> omega
theorem s_vhum (h0 : f v = .inr (11, [.ref (u), .ref (u + 1), .ref (u + 2), .int mn])) (h1 : f (u) = .inl (0, 48, .inl sig)) (hs : ∀ x, x < 48 → (sig x).toInt.natAbs ≤ 100) : AM mX11_hum 0 0 [.ref v] n f (am_is (some (.int (m_hum sig))) n f) := by
  show AW mX11_hum 0 0 0 [some (.ref v), none, none, none] [] n f _
  have hcl := m_ca_le (sig := sig)
  have hul := r_hu_le hs (Nat.le_refl 48)
  refine am_iconst 0 (v := 0) dX11_hum_0 (by decide) ?_
  refine am_istore_n 1 dX11_hum_1 (by decide) ?_
  refine am_iconst 2 (v := 0) dX11_hum_2 (by decide) ?_
  refine am_istore_n 3 dX11_hum_3 (by decide) ?_
  refine am_iconst 4 (v := 0) dX11_hum_4 (by decide) ?_
  refine am_istore_n 5 dX11_hum_5 (by decide) ?_
  refine am_for 48 (fun _ (_ : Unit) => True) (fun k _ => AW mX11_hum 0 0 6 [some (.ref v), some (.int (nI (m_S (m_huF sig) k))), some (.int (nI (m_S (m_caF sig) k))), some (.int (nI k))] [] n f _) ?_ ?_ 0 () (by omega) trivial
  · rintro ⟨⟩ -
    generalize hw : m_S (m_caF sig) 48 = ca at hcl
    generalize hm : m_S (m_huF sig) 48 = hu at hul
    refine am_iload_n 6 dX11_hum_6 rfl ?_
    refine am_bipush 7 (v := 48) dX11_hum_7 (by decide) ?_
    refine am_icmp_ge 9 41 dX11_hum_9 rfl (fun c9 => ?_) (fun c9 => absurd (by decide) c9)
    refine am_iload_n 41 dX11_hum_41 rfl ?_
    refine am_if_ne 42 49 dX11_hum_42 rfl (fun c42 => ?_) (fun c42 => ?_)
    · have hw0 : 0 < ca := Nat.pos_of_ne_zero fun z => c42 (by rw [z]; rfl)
      refine am_iload_n 49 dX11_hum_49 rfl ?_
      refine am_iload_n 50 dX11_hum_50 rfl ?_
      refine am_idiv 51 dX11_hum_51 (nI_ne0 (by omega) (by omega)) ?_
      rw [pk_div (by omega) (by omega) (by omega)]
      refine am_ireturn 52 dX11_hum_52 rfl rfl ?_
      refine ⟨?_, rfl, rfl⟩
      unfold m_hum
      rw [hw, hm]
      first | rw [if_pos hw0] | (rw [if_neg (by omega)])
    · have hw0 : ca = 0 := am_eqN 0 c42 (by decide) (by omega)
      refine am_iconst 45 (v := 0) dX11_hum_45 (by decide) ?_
      refine am_goto 46 (tgt := 52) dX11_hum_46 rfl ?_
      refine am_ireturn 52 dX11_hum_52 rfl rfl ?_
      refine ⟨?_, rfl, rfl⟩
      unfold m_hum
      rw [hw, hm]
      first | rw [if_pos hw0] | (rw [if_neg (by omega)])
  · rintro k ⟨⟩ hk - ih
    have ih := ih () trivial
    refine am_iload_n 6 dX11_hum_6 rfl ?_
    refine am_bipush 7 (v := 48) dX11_hum_7 (by decide) ?_
    refine am_icmp_ge 9 41 dX11_hum_9 rfl (fun c9 => absurd c9 (nI_ge hk (by decide))) (fun c9 => ?_)
    refine am_aload_n 12 dX11_hum_12 rfl ?_
    refine am_iload_n 13 dX11_hum_13 rfl ?_
    refine am_V1 14 (mc' := 0) (ms' := 0) (rc := 0) (rs := 0) dX11_hum_14 lX11_21 ⟨by decide, by decide⟩ (by repeat (first | assumption | exact am_ue | refine am_un (by first | assumption | decide | omega) ?_)) (Nat.le_of_ble_eq_true rfl) (Nat.le_of_ble_eq_true rfl) (s_vTouched h0 h1 hk) ?_
    refine am_is_ct ?_
    refine am_if_ne 17 35 dX11_hum_17 rfl (fun c17 => ?_) (fun c17 => ?_)
    · have e1 : m_S (m_huF sig) (k + 1) = m_S (m_huF sig) k := by show _ + m_huF sig k = _; unfold m_huF; rw [if_pos (Classical.not_not.mp fun z => c17 (m_tc_0.mpr z))]; rfl
      have e2 : m_S (m_caF sig) (k + 1) = m_S (m_caF sig) k := by show _ + m_caF sig k = _; unfold m_caF; rw [if_pos (Classical.not_not.mp fun z => c17 (m_tc_0.mpr z))]; rfl
      rw [e1, e2] at ih
      refine am_iinc 35 (v := nI (k + 1)) dX11_hum_35 rfl (nI_1 (k)) (by decide) ?_
      refine am_goto 38 (tgt := 6) dX11_hum_38 rfl ?_
      exact ih
    · have c17x := m_tc_0.mp c17
      have e1 : m_S (m_huF sig) (k + 1) = m_S (m_huF sig) k + (sig k).toInt.natAbs := by show _ + m_huF sig k = _; unfold m_huF; rw [if_neg c17x]
      have e2 : m_S (m_caF sig) (k + 1) = m_S (m_caF sig) k + 1 := by show _ + m_caF sig k = _; unfold m_caF; rw [if_neg c17x]
      rw [e1, e2] at ih
      refine am_iload_n 20 dX11_hum_20 rfl ?_
      refine am_aload_n 21 dX11_hum_21 rfl ?_
      refine am_getfield 22 dX11_hum_22 fX11_9 (by repeat (first | assumption | exact am_ue | refine am_un (by first | assumption | decide | omega) ?_)) rfl ?_
      refine am_iload_n 25 dX11_hum_25 rfl ?_
      refine am_iaload 26 dX11_hum_26 rfl (by repeat (first | assumption | exact am_ue | refine am_un (by first | assumption | decide | omega) ?_)) (am_ix hk (by decide)) ?_
      rw [nI_clamp (n := k) (by omega)]
      refine am_abs 27 dX11_hum_27 jX11_48 (by decide) (Nat.le_of_ble_eq_true rfl) ?_
      rw [r_abs (hs k hk)]
      refine am_iadd 30 dX11_hum_30 ?_
      rw [nI_add]
      refine am_istore_n 31 dX11_hum_31 (by decide) ?_
      refine am_iinc 32 (v := nI (m_S (m_caF sig) k + 1)) dX11_hum_32 rfl (nI_1 (m_S (m_caF sig) k)) (by decide) ?_
      refine am_iinc 35 (v := nI (k + 1)) dX11_hum_35 rfl (nI_1 (k)) (by decide) ?_
      refine am_goto 38 (tgt := 6) dX11_hum_38 rfl ?_
      exact ih
theorem s_signum0 : AM mJ6_signum_0f7a4 0 0 [.int 0] n f (am_is (some (.int 0)) n f) := by
  show AW mJ6_signum_0f7a4 0 0 0 [some (.int 0)] [] n f _
  refine am_iload_n 0 dJ6_signum_0f7a4_0 rfl ?_
  refine am_bipush 1 (v := 31) dJ6_signum_0f7a4_1 (by decide) ?_
  refine am_ishr 3 dJ6_signum_0f7a4_3 ?_
  refine am_iload_n 4 dJ6_signum_0f7a4_4 rfl ?_
  refine am_ineg 5 dJ6_signum_0f7a4_5 ?_
  refine am_bipush 6 (v := 31) dJ6_signum_0f7a4_6 (by decide) ?_
  refine am_iushr 8 dJ6_signum_0f7a4_8 ?_
  refine am_ior 9 dJ6_signum_0f7a4_9 ?_
  refine am_ireturn 10 dJ6_signum_0f7a4_10 rfl rfl ?_
  exact ⟨by decide, rfl, rfl⟩
/-- nothing drifts where there is no signal -/
theorem s_drift0 {k : Nat} (h0 : f v = .inr (11, [.ref (u), .ref (u + 1), .ref (u + 2), .int mn])) (h1 : f (u) = .inl (0, 48, .inl (fun _ => 0))) (hk : k < 48) : AM mX11_drift 0 0 [.ref v, .int (nI k)] n f (am_is (some (.int 0)) n f) := by
  show AW mX11_drift 0 0 0 [some (.ref v), some (.int (nI k))] [] n f _
  refine am_aload_n 0 dX11_drift_0 rfl ?_
  refine am_iload_n 1 dX11_drift_1 rfl ?_
  refine am_V1 2 (mc' := 0) (ms' := 0) (rc := 0) (rs := 0) dX11_drift_2 lX11_21 ⟨by decide, by decide⟩ (by repeat (first | assumption | exact am_ue | refine am_un (by first | assumption | decide | omega) ?_)) (Nat.le_of_ble_eq_true rfl) (Nat.le_of_ble_eq_true rfl) (s_vTouched h0 h1 hk) ?_
  refine am_is_ct ?_
  refine am_if_eq 5 18 dX11_drift_5 rfl (fun c5 => ?_) (fun c5 => absurd m_tc00 c5)
  refine am_aload_n 18 dX11_drift_18 rfl ?_
  refine am_getfield 19 dX11_drift_19 fX11_9 (by repeat (first | assumption | exact am_ue | refine am_un (by first | assumption | decide | omega) ?_)) rfl ?_
  refine am_iload_n 22 dX11_drift_22 rfl ?_
  refine am_iaload 23 dX11_drift_23 rfl (by repeat (first | assumption | exact am_ue | refine am_un (by first | assumption | decide | omega) ?_)) (am_ix hk (by decide)) ?_
  refine am_bipush 24 (v := (-10)) dX11_drift_24 (by decide) ?_
  refine am_icmp_gt 26 34 dX11_drift_26 rfl (fun c26 => ?_) (fun c26 => absurd (by decide) c26)
  refine am_aload_n 34 dX11_drift_34 rfl ?_
  refine am_getfield 35 dX11_drift_35 fX11_9 (by repeat (first | assumption | exact am_ue | refine am_un (by first | assumption | decide | omega) ?_)) rfl ?_
  refine am_iload_n 38 dX11_drift_38 rfl ?_
  refine am_iaload 39 dX11_drift_39 rfl (by repeat (first | assumption | exact am_ue | refine am_un (by first | assumption | decide | omega) ?_)) (am_ix hk (by decide)) ?_
  refine am_bipush 40 (v := 10) dX11_drift_40 (by decide) ?_
  refine am_icmp_lt 42 49 dX11_drift_42 rfl (fun c42 => ?_) (fun c42 => absurd (by decide) c42)
  refine am_aload_n 49 dX11_drift_49 rfl ?_
  refine am_getfield 50 dX11_drift_50 fX11_9 (by repeat (first | assumption | exact am_ue | refine am_un (by first | assumption | decide | omega) ?_)) rfl ?_
  refine am_iload_n 53 dX11_drift_53 rfl ?_
  refine am_iaload 54 dX11_drift_54 rfl (by repeat (first | assumption | exact am_ue | refine am_un (by first | assumption | decide | omega) ?_)) (am_ix hk (by decide)) ?_
  refine am_S1 55 (mc' := 0) (ms' := 0) (rc := 0) (rs := 0) dX11_drift_55 lX11_57 ⟨by decide, by decide⟩ (Nat.le_of_ble_eq_true rfl) (Nat.le_of_ble_eq_true rfl) (s_signum0) ?_
  refine am_is_ct ?_
  exact am_ireturn 58 dX11_drift_58 rfl rfl ⟨rfl, rfl, rfl⟩
end View2
