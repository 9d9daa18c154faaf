/-! ===== the pairing of contacts with peaks ===== -/
noncomputable def m_W (sig : Nat → Int32) (K : Nat → m_K) : Nat → Nat → Int64 := fun name k => m_wgt (K name) name (nI (m_placeN sig ((m_pks sig 48).getD k 0) false)) (nI (m_placeN sig ((m_pks sig 48).getD k 0) true)) k
section Pair
theorem m_sq57 : ∀ a, a < 57 → ∀ b, b < 57 → (nI a - nI b).toInt64 * (nI a - nI b).toInt64 = lN ((a - b) * (a - b) + (b - a) * (b - a)) ∧ (a - b) * (a - b) + (b - a) * (b - a) ≤ 3136 := by decide +kernel
theorem m_sh257 : ∀ s, s < 257 → lN s <<< ((30 : Int32).toInt64 &&& 63) = lN (s * 2 ^ 30) := by decide +kernel
theorem m_dg48 : ∀ k, k < 48 → ∀ name, name < 5 → (nI k).toInt64 <<< ((6 * (4 - nI name)).toInt64 &&& 63) = lN (k * m_dg name) := by decide +kernel
theorem m_wgt_ok {κ : m_K} {name a b k : Nat} (hxy : m_xy κ) (ha : a ≤ 56) (hb : b ≤ 56) (hn : name < 5) (hk : k < 48) : m_wgt κ name (nI a) (nI b) k = m_IMP ∨ (κ.1 0 ≠ 0 ∧ ∃ s, s ≤ 256 ∧ m_wgt κ name (nI a) (nI b) k = lN (s * 2 ^ 30 + k * m_dg name)) := by
  obtain ⟨x, y, hx, hy, e1, e2⟩ := hxy
  unfold m_wgt
  split
  · next h =>
    refine Or.inr ⟨h.1, ?_⟩
    obtain ⟨q1, q2⟩ := m_sq57 a (by omega) x (by omega)
    obtain ⟨q3, q4⟩ := m_sq57 b (by omega) y (by omega)
    have e : m_sqs κ (nI a) (nI b) = lN ((a - x) * (a - x) + (x - a) * (x - a) + ((b - y) * (b - y) + (y - b) * (y - b))) := by
      unfold m_sqs
      rw [e1, e2, q1, q3, lN_add]
    generalize (a - x) * (a - x) + (x - a) * (x - a) = A at *
    generalize (b - y) * (b - y) + (y - b) * (y - b) = B at *
    have h2 := h.2
    rw [e] at h2 ⊢
    have h3 : A + B ≤ 256 := by
      have := Int64.le_iff_toInt_le.mp h2
      rw [m_lN (by omega), show (256 : Int64).toInt = 256 from rfl] at this
      omega
    refine ⟨A + B, h3, ?_⟩
    rw [m_sh257 _ (by omega), m_dg48 k hk name hn, lN_add]
  · exact Or.inl rfl
theorem m_W_ok {sig : Nat → Int32} {K : Nat → m_K} (h : ∀ j, j < 5 → m_xy (K j)) : m_wOk (fun j => (K j).1 0 ≠ 0) (m_W sig K) (m_pks sig 48).length := by
  intro name hn k hk
  have hP := m_pks_len (sig := sig) (k := 48)
  obtain ⟨c48, c20⟩ := m_pks48 hk
  have px56 := (m_place_spec (isY := false) c48 c20).2.2
  have py40 := (m_place_spec (isY := true) c48 c20).2.2
  simp only [if_true, Bool.false_eq_true, if_false] at px56 py40
  exact m_wgt_ok (h name hn) (by omega) (by omega) hn (by omega)
variable {q i n h s be9 li ca : Nat} {f : Nat → am_C} {le we : Nat → Int64} {be : Int64} {K : Nat → m_K} {sig : Nat → Int32}
set_option maxHeartbeats 2000000 in
theorem s_pair (hq : m_Pr f q le we be) (hh : m_Ha f h s K be9 li ca) (hL : m_Look f i sig) (hd1 : i + 6 < q ∨ q + 2 < i) (hd2 : h + 11 < q ∨ q + 2 < h) : AM mX4_pair 0 0 [.ref q, .ref i, .ref (h + 1)] n f (fun o n' f' => o = .inl none ∧ n' = n ∧ (∃ le' we', m_Pr f' q le' we' (m_best (m_W sig K) (m_pks sig 48).length)) ∧ ∀ x, (x < q ∨ q + 2 < x) → f' x = f x) := by
  show AW mX4_pair 0 0 0 [some (.ref q), some (.ref i), some (.ref (h + 1)), none, none] [] n f _
  have hP := m_pks_len (sig := sig) (k := 48)
  generalize hQ : (fun (o : Option Value ⊕ Nat) (n' : Nat) (f' : Nat → am_C) => o = .inl none ∧ n' = n ∧ (∃ le' we', m_Pr f' q le' we' (m_best (m_W sig K) (m_pks sig 48).length)) ∧ ∀ x, (x < q ∨ q + 2 < x) → f' x = f x) = Q
  rw [hq.s]
  have out : ∀ (a b : Nat → Int64) (c : Int64) x, (x < q ∨ q + 2 < x) → m_pS f q a b c x = f x := fun a b c x hx => m_pS_x hx
  have hH : ∀ (a b : Nat → Int64) (c : Int64), m_Ha (m_pS f q a b c) h s K be9 li ca := fun a b c => hh.on fun x u v => out a b c x (by omega)
  have hLk : ∀ (a b : Nat → Int64) (c : Int64), m_Look (m_pS f q a b c) i sig := fun a b c => hL.on fun x u v => out a b c x (by omega)
  have hcs : ∀ (a b : Nat → Int64) (c : Int64), m_pS f q a b c (h + 1) = .inl (5, 5, .inr (.inr (.inr (.inr (m_rf 5 (h + 2)))))) := fun a b c => (hH a b c).2.1
  refine am_aload_n 0 dX4_pair_0 rfl ?_
  refine am_getfield 1 dX4_pair_1 fX4_11 (by first | exact m_pS_0 | exact m_pS_1 | exact m_pS_2 | exact hcs _ _ _ | assumption) rfl ?_
  refine am_iconst 4 (v := 0) dX4_pair_4 (by decide) ?_
  refine am_lconst 5 (v := 0) dX4_pair_5 rfl ?_
  refine am_lastore 6 dX4_pair_6 rfl (by first | exact m_pS_0 | exact m_pS_1 | exact m_pS_2 | exact hcs _ _ _ | assumption) (am_ix (c := 0) (by decide) (by decide)) ?_
  rw [m_pS_l]
  refine am_iconst 7 (v := 1) dX4_pair_7 (by decide) ?_
  refine am_istore_n 8 dX4_pair_8 (by decide) ?_
  refine am_for 32 (fun k (l : Nat → Int64) => 1 ≤ k ∧ l 0 = 0 ∧ ∀ j, 1 ≤ j → j < k → l j = m_IMP) (fun k l => AW mX4_pair 0 0 9 [some (.ref q), some (.ref i), some (.ref (h + 1)), some (.int (nI k)), none] [] n (m_pS f q l we be) Q) ?_ ?_ 1 _ (by omega) ⟨Nat.le_refl _, am_up_eq, fun j a b => absurd a (by omega)⟩
  · rintro l ⟨-, l0, l1⟩
    refine AW.longs m_le0 m_pS_1 (fun j hj => ?_) ?_
    · unfold m_le0
      by_cases e : j = 0
      · subst e
        rw [l0]
        rfl
      · rw [l1 j (by omega) hj, if_neg e]
    rw [m_pS_l]
    refine am_iload_n 9 dX4_pair_9 rfl ?_
    refine am_bipush 10 (v := 32) dX4_pair_10 (by decide) ?_
    refine am_icmp_ge 12 30 dX4_pair_12 rfl (fun c12 => ?_) (fun c12 => absurd (by decide) c12)
    refine am_iconst 30 (v := 0) dX4_pair_30 (by decide) ?_
    refine am_istore_n 31 dX4_pair_31 (by decide) ?_
    refine am_for (m_pks sig 48).length (fun k (z : (Nat → Int64) × Option Value) => True) (fun k z => AW mX4_pair 0 0 32 [some (.ref q), some (.ref i), some (.ref (h + 1)), some (.int (nI k)), z.2] [] n (m_pS f q (m_leP (m_W sig K) k) z.1 be) Q) ?_ ?_ 0 (we, none) (by omega) trivial
    · rintro ⟨w, z4⟩ -
      show AW mX4_pair 0 0 32 [some (.ref q), some (.ref i), some (.ref (h + 1)), some (.int (nI (m_pks sig 48).length)), z4] [] n (m_pS f q (m_leP (m_W sig K) (m_pks sig 48).length) w be) Q
      obtain ⟨pc, px, py, chn, ⟨p0, -⟩, -⟩ := hLk (m_leP (m_W sig K) (m_pks sig 48).length) w be
      refine am_iload_n 32 dX4_pair_32 rfl ?_
      refine am_aload_n 33 dX4_pair_33 rfl ?_
      refine am_getfield 34 dX4_pair_34 fX4_20 (by first | exact m_pS_0 | exact m_pS_1 | exact m_pS_2 | exact hcs _ _ _ | assumption) rfl ?_
      refine am_icmp_ge 37 83 dX4_pair_37 rfl (fun c37 => ?_) (fun c37 => absurd (Int32.le_refl _) c37)
      refine am_aload_n 83 dX4_pair_83 rfl ?_
      refine am_ldc2 84 dX4_pair_84 kX4_18 ?_
      refine am_putfield 87 dX4_pair_87 pX4_33 (by first | exact m_pS_0 | exact m_pS_1 | exact m_pS_2 | exact hcs _ _ _ | assumption) rfl rfl (Nat.le_of_ble_eq_true rfl) ?_
      rw [show ∀ u b : Int64, List.set [Value.ref (q + 1), .ref (q + 2), .long u] 2 (.long b) = [.ref (q + 1), .ref (q + 2), .long b] from fun _ _ => rfl, m_pS_b]
      refine am_iconst 90 (v := 0) dX4_pair_90 (by decide) ?_
      refine am_istore_n 91 dX4_pair_91 (by decide) ?_
      generalize hl2 : m_leP (m_W sig K) (m_pks sig 48).length = l2
      have hbest : m_bst l2 32 = m_best (m_W sig K) (m_pks sig 48).length := by rw [← hl2]; rfl
      clear hl2 p0
      refine am_for 32 (fun k (b : Int64) => b = m_bst l2 k) (fun k b => AW mX4_pair 0 0 92 [some (.ref q), some (.ref i), some (.ref (h + 1)), some (.int (nI k)), z4] [] n (m_pS f q l2 w b) Q) ?_ ?_ 0 _ (by omega) rfl
      · intro b hb
        have hb3 : b = m_best (m_W sig K) (m_pks sig 48).length := Eq.trans hb hbest
        clear hb hbest
        show AW mX4_pair 0 0 92 [some (.ref q), some (.ref i), some (.ref (h + 1)), some (.int (nI 32)), z4] [] n (m_pS f q l2 w b) Q
        rw [hb3]
        refine am_iload_n 92 dX4_pair_92 rfl ?_
        refine am_bipush 93 (v := 32) dX4_pair_93 (by decide) ?_
        refine am_icmp_ge 95 126 dX4_pair_95 rfl (fun c95 => ?_) (fun c95 => absurd (by decide) c95)
        refine am_return 126 dX4_pair_126 rfl ?_
        subst hQ
        exact ⟨rfl, rfl, ⟨l2, w, m_pS_Pr⟩, fun x hx => m_pS_x hx⟩
      · rintro k b hk rfl ih
        have ih := ih _ rfl
        refine am_iload_n 92 dX4_pair_92 rfl ?_
        refine am_bipush 93 (v := 32) dX4_pair_93 (by decide) ?_
        refine am_icmp_ge 95 126 dX4_pair_95 rfl (fun c95 => absurd c95 (nI_ge hk (by decide))) (fun c95 => ?_)
        refine am_aload_n 98 dX4_pair_98 rfl ?_
        refine am_aload_n 99 dX4_pair_99 rfl ?_
        refine am_getfield 100 dX4_pair_100 fX4_33 (by first | exact m_pS_0 | exact m_pS_1 | exact m_pS_2 | exact hcs _ _ _ | assumption) rfl ?_
        refine am_aload_n 103 dX4_pair_103 rfl ?_
        refine am_getfield 104 dX4_pair_104 fX4_11 (by first | exact m_pS_0 | exact m_pS_1 | exact m_pS_2 | exact hcs _ _ _ | assumption) rfl ?_
        refine am_iload_n 107 dX4_pair_107 rfl ?_
        refine am_laload 108 dX4_pair_108 rfl (by first | exact m_pS_0 | exact m_pS_1 | exact m_pS_2 | exact hcs _ _ _ | assumption) (am_ix hk (by decide)) ?_
        rw [nI_clamp (n := k) (by omega)]
        refine am_iload_n 109 dX4_pair_109 rfl ?_
        refine am_S1 110 (mc' := 0) (ms' := 0) (rc := 0) (rs := 0) dX4_pair_110 lX4_37 ⟨by decide, by decide⟩ (Nat.le_of_ble_eq_true rfl) (Nat.le_of_ble_eq_true rfl) (s_rest hk) ?_
        refine am_is_ct ?_
        refine am_ladd 113 dX4_pair_113 ?_
        refine am_minL 114 dX4_pair_114 jX4_41 (by decide) (Nat.le_of_ble_eq_true rfl) ?_
        refine am_putfield 117 dX4_pair_117 pX4_33 (by first | exact m_pS_0 | exact m_pS_1 | exact m_pS_2 | exact hcs _ _ _ | assumption) rfl rfl (Nat.le_of_ble_eq_true rfl) ?_
        rw [show ∀ u b : Int64, List.set [Value.ref (q + 1), .ref (q + 2), .long u] 2 (.long b) = [.ref (q + 1), .ref (q + 2), .long b] from fun _ _ => rfl, m_pS_b]
        refine am_iinc 120 (v := nI (k + 1)) dX4_pair_120 rfl (nI_1 (k)) (by decide) ?_
        refine am_goto 123 (tgt := 92) dX4_pair_123 rfl ?_
        exact ih
    · rintro k ⟨w, z4⟩ hkP - ih
      show AW mX4_pair 0 0 32 [some (.ref q), some (.ref i), some (.ref (h + 1)), some (.int (nI k)), z4] [] n (m_pS f q (m_leP (m_W sig K) k) w be) Q
      obtain ⟨pc, px, py, chn, ⟨p0, -⟩, -⟩ := hLk (m_leP (m_W sig K) k) w be
      have ih2 : ∀ z, AW mX4_pair 0 0 32 [some (.ref q), some (.ref i), some (.ref (h + 1)), some (.int (nI (k + 1))), z] [] n (m_pS f q (m_off (fun nm => m_W sig K nm k) 31 (m_leP (m_W sig K) k)) (fun nm => m_W sig K nm k) be) Q := fun z => ih (fun nm => m_W sig K nm k, z) trivial
      clear ih
      generalize m_leP (m_W sig K) k = l2 at *
      refine am_iload_n 32 dX4_pair_32 rfl ?_
      refine am_aload_n 33 dX4_pair_33 rfl ?_
      refine am_getfield 34 dX4_pair_34 fX4_20 (by first | exact m_pS_0 | exact m_pS_1 | exact m_pS_2 | exact hcs _ _ _ | assumption) rfl ?_
      refine am_icmp_ge 37 83 dX4_pair_37 rfl (fun c37 => absurd c37 (nI_ge hkP (by omega))) (fun c37 => ?_)
      refine am_iconst 40 (v := 0) dX4_pair_40 (by decide) ?_
      refine am_istore 41 dX4_pair_41 (by decide) ?_
      clear p0
      refine am_for 5 (fun m (w : Nat → Int64) => ∀ j, j < m → w j = m_W sig K j k) (fun m w => AW mX4_pair 0 0 43 [some (.ref q), some (.ref i), some (.ref (h + 1)), some (.int (nI k)), some (.int (nI m))] [] n (m_pS f q l2 w be) Q) ?_ ?_ 0 w (by omega) (fun j hj => absurd hj (by omega))
      · rintro w hw
        refine AW.longs (fun nm => m_W sig K nm k) m_pS_2 hw ?_
        rw [m_pS_w]
        refine am_iload 43 dX4_pair_43 rfl ?_
        refine am_iconst 45 (v := 5) dX4_pair_45 (by decide) ?_
        refine am_icmp_ge 46 73 dX4_pair_46 rfl (fun c46 => ?_) (fun c46 => absurd (by decide) c46)
        refine am_aload_n 73 dX4_pair_73 rfl ?_
        refine am_V0 74 (mc' := 0) (ms' := 0) (rc := 0) (rs := 0) dX4_pair_74 lX4_30 ⟨by decide, by decide⟩ (by first | exact m_pS_0 | exact m_pS_1 | exact m_pS_2 | exact hcs _ _ _ | assumption) (Nat.le_of_ble_eq_true rfl) (Nat.le_of_ble_eq_true rfl) (s_offerPeak) ?_
        refine am_is_ct ?_
        refine am_iinc 77 (v := nI (k + 1)) dX4_pair_77 rfl (nI_1 (k)) (by decide) ?_
        refine am_goto 80 (tgt := 32) dX4_pair_80 rfl ?_
        exact ih2 _
      · rintro m w hk hw ih
        have hKm := (hH l2 w be).2.2 m hk
        obtain ⟨pc, px, py, chn, hpic, hok⟩ := hLk l2 w be
        obtain ⟨x1, x2, x3⟩ := hok k hkP
        have ew : m_wgt (K m) m (px k) (py k) k = m_W sig K m k := by rw [x2, x3]; rfl
        have ih := ih (va_up w m (m_W sig K m k)) (fun j hj => by
          by_cases e : j = m
          · subst e
            rw [am_up_eq]
          · rw [am_up_ne e]
            exact hw j (by omega))
        refine am_iload 43 dX4_pair_43 rfl ?_
        refine am_iconst 45 (v := 5) dX4_pair_45 (by decide) ?_
        refine am_icmp_ge 46 73 dX4_pair_46 rfl (fun c46 => absurd c46 (nI_ge hk (by decide))) (fun c46 => ?_)
        refine am_aload_n 49 dX4_pair_49 rfl ?_
        refine am_getfield 50 dX4_pair_50 fX4_15 (by first | exact m_pS_0 | exact m_pS_1 | exact m_pS_2 | exact hcs _ _ _ | assumption) rfl ?_
        refine am_iload 53 dX4_pair_53 rfl ?_
        refine am_aload_n 55 dX4_pair_55 rfl ?_
        refine am_iload 56 dX4_pair_56 rfl ?_
        refine am_aaload 58 dX4_pair_58 rfl (by first | exact m_pS_0 | exact m_pS_1 | exact m_pS_2 | exact hcs _ _ _ | assumption) (am_ix hk (by decide)) ?_
        rw [nI_clamp (n := m) (by omega), m_rf_at (by omega), show va_rf (some (h + 2 + 2 * m)) = Value.ref (h + 2 + 2 * m) from rfl]
        refine am_iload 59 dX4_pair_59 rfl ?_
        refine am_aload_n 61 dX4_pair_61 rfl ?_
        refine am_iload_n 62 dX4_pair_62 rfl ?_
        refine am_S4 63 (mc' := 0) (ms' := 0) (rc := 0) (rs := 0) dX4_pair_63 lX4_26 ⟨by decide, by decide⟩ (Nat.le_of_ble_eq_true rfl) (Nat.le_of_ble_eq_true rfl) (s_weightOf hKm hpic (by omega)) ?_
        refine am_is_ct ?_
        rw [ew]
        refine am_lastore 66 dX4_pair_66 rfl (by first | exact m_pS_0 | exact m_pS_1 | exact m_pS_2 | exact hcs _ _ _ | assumption) (am_ix hk (by decide)) ?_
        rw [nI_clamp (n := m) (by omega), m_pS_w]
        refine am_iinc 67 (v := nI (m + 1)) dX4_pair_67 rfl (nI_1 (m)) (by decide) ?_
        refine am_goto 70 (tgt := 43) dX4_pair_70 rfl ?_
        exact ih
  · rintro k l hk ⟨hk1, l0, l1⟩ ih
    have ih := ih (va_up l k m_IMP) ⟨by omega, by rw [am_up_ne (by omega)]; exact l0, fun j a b => by
      by_cases e : j = k
      · subst e
        rw [am_up_eq]
      · rw [am_up_ne e]
        exact l1 j a (by omega)⟩
    refine am_iload_n 9 dX4_pair_9 rfl ?_
    refine am_bipush 10 (v := 32) dX4_pair_10 (by decide) ?_
    refine am_icmp_ge 12 30 dX4_pair_12 rfl (fun c12 => absurd c12 (nI_ge hk (by decide))) (fun c12 => ?_)
    refine am_aload_n 15 dX4_pair_15 rfl ?_
    refine am_getfield 16 dX4_pair_16 fX4_11 (by first | exact m_pS_0 | exact m_pS_1 | exact m_pS_2 | exact hcs _ _ _ | assumption) rfl ?_
    refine am_iload_n 19 dX4_pair_19 rfl ?_
    refine am_ldc2 20 dX4_pair_20 kX4_18 ?_
    refine am_lastore 23 dX4_pair_23 rfl (by first | exact m_pS_0 | exact m_pS_1 | exact m_pS_2 | exact hcs _ _ _ | assumption) (am_ix hk (by decide)) ?_
    rw [nI_clamp (n := k) (by omega), m_pS_l]
    refine am_iinc 24 (v := nI (k + 1)) dX4_pair_24 rfl (nI_1 (k)) (by decide) ?_
    refine am_goto 27 (tgt := 9) dX4_pair_27 rfl ?_
    exact ih
end Pair
