/-! ===== a frame, as the law looks at it ===== -/
section IsF
variable {p T n : Nat} {f : Nat → am_C} {z : m_Z}
noncomputable def m_tv (z : m_Z) (j : Nat) : Int32 := if (z_K z j).1 0 ≠ 0 then m_matchA z j else -1
noncomputable def m_bv (z : m_Z) (j : Nat) : Nat := if (z_K z j).1 0 ≠ 0 ∧ m_matchA z j ≠ -1 ∧ 14 < m_reg (m_sg z) (m_pkc (m_sg z) (m_matchA z j)) then 1 else 0
theorem m_match_in (hI : m_Inv (z_to z) T (z_K z) (z_be z) (z_li z) (z_ca z) (z_C z)) {x : Nat} (hx : x < 5) : m_matchA z x = -1 ∨ ∃ k, k < m_P z ∧ m_matchA z x = nI k := by
  have hW := m_W_ok (sig := m_sg z) (K := z_K z) fun j hj => (hI.1 j hj).1.2.2.2.2.2.2.2.2
  have hb := m_best_ok hW (Nat.le_trans (m_pks_len (sig := m_sg z) (k := 48)) (by decide))
  unfold m_matchA
  by_cases hle : m_hum (m_sg z) ≤ z_lim z
  · rw [if_pos hle]
    rcases m_pk_ok hb (Nat.le_trans (m_pks_len (sig := m_sg z) (k := 48)) (by decide)) hx with h | ⟨k, h1, -, h2⟩
    · exact Or.inl h
    · exact Or.inr ⟨k, h1, h2⟩
  · rw [if_neg hle]
    exact Or.inl rfl
theorem m_nIm1 {k : Nat} (hk : k < 48) : nI k ≠ -1 := by
  have : ∀ k, k < 48 → nI k ≠ -1 := by decide
  exact this k hk
set_option maxHeartbeats 1000000 in
theorem l_isF1 {lim v2 : Int32} {t0 r0 b0 : Nat → Int32} {Q : am_P} (hG : m_G f p T z) (hT : T ≤ 1000) (hn : p + 45 < n) (a0 : f n = .inl (0, 5, .inl t0)) (a1 : f (n + 1) = .inl (0, 5, .inl r0)) (a2 : f (n + 2) = .inl (3, 5, .inl b0))
    (hK : ∀ g, m_G g p T z → g n = .inl (0, 5, .inl (m_tv z)) → g (n + 1) = .inl (0, 5, .inl (m_frs z)) → g (n + 2) = .inl (3, 5, .inl (fun j => nI (m_bv z j))) → (∀ x, x < n → (x < p ∨ p + 45 < x) → g x = f x) → AW mL_isFrame 10 60 108 [some (.ref p), some (.int lim), some (.int v2), some (.ref n), some (.ref (n + 1)), some (.ref (n + 2)), some (.int (nI 5)), none, none, none, none, none, none] [] (n + 3) g Q) :
    AW mL_isFrame 15 90 33 [some (.ref p), some (.int lim), some (.int v2), some (.ref n), some (.ref (n + 1)), some (.ref (n + 2)), some (.int (nI 0)), none, none, none, none, none, none] [] (n + 3) f Q := by
  have hI := hG.2.2.2.2.2.2.1
  have hP : m_P z ≤ 48 := m_pks_len
  refine am_for 5 (fun k (g : Nat → am_C) => m_G g p T z ∧ (∃ t r b, g n = .inl (0, 5, .inl t) ∧ g (n + 1) = .inl (0, 5, .inl r) ∧ g (n + 2) = .inl (3, 5, .inl b) ∧ ∀ j, j < k → t j = m_tv z j ∧ r j = m_frs z j ∧ b j = nI (m_bv z j)) ∧ ∀ x, x < n → (x < p ∨ p + 45 < x) → g x = f x) (fun k g => AW mL_isFrame (10 + (5 - k)) (60 + 6 * (5 - k)) 33 [some (.ref p), some (.int lim), some (.int v2), some (.ref n), some (.ref (n + 1)), some (.ref (n + 2)), some (.int (nI k)), none, none, none, none, none, none] [] (n + 3) g Q) ?_ ?_ 0 f (by omega) ⟨hG, ⟨_, _, _, a0, a1, a2, fun j hj => absurd hj (by omega)⟩, fun _ _ _ => rfl⟩
  · rintro g ⟨g1, ⟨t, r, b, g2, g3, g4, g6⟩, g5⟩
    show AW mL_isFrame 10 60 33 [some (.ref p), some (.int lim), some (.int v2), some (.ref n), some (.ref (n + 1)), some (.ref (n + 2)), some (.int (nI 5)), none, none, none, none, none, none] [] (n + 3) g Q
    refine AW.ints (m_tv z) g2 (fun j hj => (g6 j hj).1) ?_
    refine AW.ints (m_frs z) (am_un (by omega) g3) (fun j hj => (g6 j hj).2.1) ?_
    refine AW.ints (fun j => nI (m_bv z j)) (am_un (by omega) (am_un (by omega) g4)) (fun j hj => (g6 j hj).2.2) ?_
    refine am_iload 33 dL_isFrame_33 rfl ?_
    refine am_iconst 35 (v := 5) dL_isFrame_35 (by decide) ?_
    refine am_icmp_ge 36 108 dL_isFrame_36 rfl (fun c36 => ?_) (fun c36 => absurd (by decide) c36)
    exact hK _ (g1.on fun x a b => by rw [am_up_ne (by omega), am_up_ne (by omega), am_up_ne (by omega)]) (am_un (by omega) (am_un (by omega) am_ue)) (am_un (by omega) am_ue) am_ue fun x a b => by rw [am_up_ne (by omega), am_up_ne (by omega), am_up_ne (by omega)]; exact g5 x a b
  · rintro k g hk ⟨g1, ⟨t, r, b, g2, g3, g4, g6⟩, g5⟩ ih
    have fin : ∀ g', m_G g' p T z → g' n = .inl (0, 5, .inl (va_up t k (m_tv z k))) → g' (n + 1) = .inl (0, 5, .inl (va_up r k (m_frs z k))) → g' (n + 2) = .inl (3, 5, .inl (va_up b k (nI (m_bv z k)))) → (∀ x, x < n → (x < p ∨ p + 45 < x) → g' x = f x) → AW mL_isFrame (10 + (5 - (k + 1))) (60 + 6 * (5 - (k + 1))) 33 [some (.ref p), some (.int lim), some (.int v2), some (.ref n), some (.ref (n + 1)), some (.ref (n + 2)), some (.int (nI (k + 1))), none, none, none, none, none, none] [] (n + 3) g' Q := fun g' e1 e2 e3 e4 e5 => ih g' ⟨e1, ⟨_, _, _, e2, e3, e4, fun j hj => by
      by_cases e : j = k
      · rw [e, am_up_eq, am_up_eq, am_up_eq]
        exact ⟨rfl, rfl, rfl⟩
      · rw [am_up_ne e, am_up_ne e, am_up_ne e]
        exact g6 j (by omega)⟩, e5⟩
    clear ih
    have gp := g1.1
    show AW mL_isFrame (10 + (5 - k)) (60 + 6 * (5 - k)) 33 [some (.ref p), some (.int lim), some (.int v2), some (.ref n), some (.ref (n + 1)), some (.ref (n + 2)), some (.int (nI k)), none, none, none, none, none, none] [] (n + 3) g Q
    refine AW.more (rc := 1 + (10 + (5 - (k + 1)))) (rs := 6 + (60 + 6 * (5 - (k + 1)))) (by omega) (by omega) ?_
    rcases m_frs_in hI hT hk with ⟨hth, e⟩ | ⟨hth, fr, f1, f2, e, -⟩
    · have et : m_tv z k = -1 := if_neg (fun q => q hth)
      have eb : m_bv z k = 0 := if_neg (fun q => q.1 hth)
      refine am_iload 33 dL_isFrame_33 rfl ?_
      refine am_iconst 35 (v := 5) dL_isFrame_35 (by decide) ?_
      refine am_icmp_ge 36 108 dL_isFrame_36 rfl (fun c36 => absurd c36 (nI_ge hk (by decide))) (fun c36 => ?_)
      refine am_aload 39 dL_isFrame_39 rfl ?_
      refine am_iload 41 dL_isFrame_41 rfl ?_
      refine am_aload_n 43 dL_isFrame_43 rfl ?_
      refine am_iload 44 dL_isFrame_44 rfl ?_
      refine am_SW2 46 (mc' := 1) (ms' := 6) (rc := 10 + (5 - (k + 1))) (rs := 60 + 6 * (5 - (k + 1))) dL_isFrame_46 lL_79 ⟨by decide, by decide⟩ (Nat.le_of_ble_eq_true rfl) (Nat.le_of_ble_eq_true rfl) (s_Lframes g1 hk) ?_
      refine am_is_ct ?_
      refine am_iastore 49 dL_isFrame_49 rfl (by repeat (first | assumption | exact am_ue | refine am_un (by first | assumption | decide | omega) ?_)) (am_ix hk (by decide)) ?_
      rw [nI_clamp (n := k) (by omega)]
      refine am_aload_n 50 dL_isFrame_50 rfl ?_
      refine am_iload 51 dL_isFrame_51 rfl ?_
      refine am_aload 53 dL_isFrame_53 rfl ?_
      refine am_iload 55 dL_isFrame_55 rfl ?_
      refine am_iaload 57 dL_isFrame_57 rfl (by repeat (first | assumption | exact am_ue | refine am_un (by first | assumption | decide | omega) ?_)) (am_ix hk (by decide)) ?_
      rw [nI_clamp (n := k) (by omega), am_up_eq, e]
      refine am_if_le 58 70 dL_isFrame_58 rfl (fun c58 => ?_) (fun c58 => absurd (by decide) c58)
      refine am_iconst 70 (v := (-1)) dL_isFrame_70 (by decide) ?_
      refine am_iastore 71 dL_isFrame_71 rfl (by repeat (first | assumption | exact am_ue | refine am_un (by first | assumption | decide | omega) ?_)) (am_ix hk (by decide)) ?_
      rw [nI_clamp (n := k) (by omega)]
      refine am_aload 72 dL_isFrame_72 rfl ?_
      refine am_iload 74 dL_isFrame_74 rfl ?_
      refine am_aload_n 76 dL_isFrame_76 rfl ?_
      refine am_iload 77 dL_isFrame_77 rfl ?_
      refine am_iaload 79 dL_isFrame_79 rfl (by repeat (first | assumption | exact am_ue | refine am_un (by first | assumption | decide | omega) ?_)) (am_ix hk (by decide)) ?_
      rw [nI_clamp (n := k) (by omega), am_up_eq]
      refine am_if_lt 80 100 dL_isFrame_80 rfl (fun c80 => ?_) (fun c80 => absurd (by decide) c80)
      refine am_iconst 100 (v := 0) dL_isFrame_100 (by decide) ?_
      refine am_zastore 101 dL_isFrame_101 rfl (by repeat (first | assumption | exact am_ue | refine am_un (by first | assumption | decide | omega) ?_)) (am_ix hk (by decide)) ?_
      rw [nI_clamp (n := k) (by omega), show vp_nar .boolean (0 : Int32) = nI 0 from by decide]
      refine am_iinc 102 (v := nI (k + 1)) dL_isFrame_102 rfl (nI_1 (k)) (by decide) ?_
      refine am_goto 105 (tgt := 33) dL_isFrame_105 rfl ?_
      rw [et, eb] at fin
      exact fin _ (g1.on fun x a b => by rw [am_up_ne (by omega), am_up_ne (by omega), am_up_ne (by omega)]) (am_un (by omega) am_ue) (am_un (by omega) (am_un (by omega) (by rw [e]; exact am_ue))) am_ue fun x a b => by rw [am_up_ne (by omega), am_up_ne (by omega), am_up_ne (by omega)]; exact g5 x a b
    · have etm : m_tv z k = m_matchA z k := if_pos hth
      rcases m_match_in hI hk with em | ⟨kk, hkk, em⟩
      · have et : m_tv z k = -1 := etm.trans em
        have eb : m_bv z k = 0 := if_neg (fun q => q.2.1 em)
        refine am_iload 33 dL_isFrame_33 rfl ?_
        refine am_iconst 35 (v := 5) dL_isFrame_35 (by decide) ?_
        refine am_icmp_ge 36 108 dL_isFrame_36 rfl (fun c36 => absurd c36 (nI_ge hk (by decide))) (fun c36 => ?_)
        refine am_aload 39 dL_isFrame_39 rfl ?_
        refine am_iload 41 dL_isFrame_41 rfl ?_
        refine am_aload_n 43 dL_isFrame_43 rfl ?_
        refine am_iload 44 dL_isFrame_44 rfl ?_
        refine am_SW2 46 (mc' := 1) (ms' := 6) (rc := 10 + (5 - (k + 1))) (rs := 60 + 6 * (5 - (k + 1))) dL_isFrame_46 lL_79 ⟨by decide, by decide⟩ (Nat.le_of_ble_eq_true rfl) (Nat.le_of_ble_eq_true rfl) (s_Lframes g1 hk) ?_
        refine am_is_ct ?_
        refine am_iastore 49 dL_isFrame_49 rfl (by repeat (first | assumption | exact am_ue | refine am_un (by first | assumption | decide | omega) ?_)) (am_ix hk (by decide)) ?_
        rw [nI_clamp (n := k) (by omega)]
        refine am_aload_n 50 dL_isFrame_50 rfl ?_
        refine am_iload 51 dL_isFrame_51 rfl ?_
        refine am_aload 53 dL_isFrame_53 rfl ?_
        refine am_iload 55 dL_isFrame_55 rfl ?_
        refine am_iaload 57 dL_isFrame_57 rfl (by repeat (first | assumption | exact am_ue | refine am_un (by first | assumption | decide | omega) ?_)) (am_ix hk (by decide)) ?_
        rw [nI_clamp (n := k) (by omega), am_up_eq, e]
        refine am_if_le 58 70 dL_isFrame_58 rfl (fun c58 => absurd c58 (m_pos (by omega) (by omega))) (fun c58 => ?_)
        refine am_aload_n 61 dL_isFrame_61 rfl ?_
        refine am_iload 62 dL_isFrame_62 rfl ?_
        refine AW.more (rc := 0 + (10 + (5 - (k + 1)))) (rs := 0 + (60 + 6 * (5 - (k + 1)))) (by omega) (by omega) ?_
        refine am_V1 64 (mc' := 0) (ms' := 0) (rc := 10 + (5 - (k + 1))) (rs := 60 + 6 * (5 - (k + 1))) dL_isFrame_64 lL_83 ⟨by decide, by decide⟩ (by repeat (first | assumption | exact am_ue | refine am_un (by first | assumption | decide | omega) ?_)) (Nat.le_of_ble_eq_true rfl) (Nat.le_of_ble_eq_true rfl) (s_wouldMatch (g1.on (f' := va_up g (n + 1) (.inl (0, 5, .inl (va_up r k (nI fr))))) fun x a b => am_up_ne (by omega)) hk hth) ?_
        rintro o n' g6 ⟨rfl, rfl, j1, j2⟩
        refine am_ctI ?_
        have j3 : g6 n = _ := (j2 n (by omega)).trans ((am_up_ne (by omega)).trans g2)
        have j4 : g6 (n + 1) = _ := (j2 (n + 1) (by omega)).trans am_up_eq
        have j5 : g6 (n + 2) = _ := (j2 (n + 2) (by omega)).trans ((am_up_ne (by omega)).trans g4)
        have j0 := j1.1
        rw [em]
        refine am_goto 67 (tgt := 71) dL_isFrame_67 rfl ?_
        refine am_iastore 71 dL_isFrame_71 rfl (by repeat (first | assumption | exact am_ue | refine am_un (by first | assumption | decide | omega) ?_)) (am_ix hk (by decide)) ?_
        rw [nI_clamp (n := k) (by omega)]
        refine am_aload 72 dL_isFrame_72 rfl ?_
        refine am_iload 74 dL_isFrame_74 rfl ?_
        refine am_aload_n 76 dL_isFrame_76 rfl ?_
        refine am_iload 77 dL_isFrame_77 rfl ?_
        refine am_iaload 79 dL_isFrame_79 rfl (by repeat (first | assumption | exact am_ue | refine am_un (by first | assumption | decide | omega) ?_)) (am_ix hk (by decide)) ?_
        rw [nI_clamp (n := k) (by omega), am_up_eq]
        refine am_if_lt 80 100 dL_isFrame_80 rfl (fun c80 => ?_) (fun c80 => absurd (by decide) c80)
        refine am_iconst 100 (v := 0) dL_isFrame_100 (by decide) ?_
        refine am_zastore 101 dL_isFrame_101 rfl (by repeat (first | assumption | exact am_ue | refine am_un (by first | assumption | decide | omega) ?_)) (am_ix hk (by decide)) ?_
        rw [nI_clamp (n := k) (by omega), show vp_nar .boolean (0 : Int32) = nI 0 from by decide]
        refine am_iinc 102 (v := nI (k + 1)) dL_isFrame_102 rfl (nI_1 (k)) (by decide) ?_
        refine am_goto 105 (tgt := 33) dL_isFrame_105 rfl ?_
        rw [et, eb] at fin
        exact fin _ (j1.on fun x a b => by rw [am_up_ne (by omega), am_up_ne (by omega)]) (am_un (by omega) am_ue) (am_un (by omega) (am_un (by omega) (by rw [e]; exact j4))) am_ue fun x a b => by rw [am_up_ne (by omega), am_up_ne (by omega), j2 x b, am_up_ne (by omega)]; exact g5 x a b
      · have et : m_tv z k = nI kk := etm.trans em
        have epk : m_pkc (m_sg z) (m_matchA z k) = m_pkAt z kk := by
          unfold m_pkc
          rw [em, nI_clamp (by omega)]
        by_cases hb : 14 < m_reg (m_sg z) (m_pkAt z kk)
        · have eb : m_bv z k = 1 := if_pos ⟨hth, by rw [em]; exact m_nIm1 (by omega), by rw [epk]; exact hb⟩
          have ep : m_peakA z kk 4 = 1 := if_pos hb
          refine am_iload 33 dL_isFrame_33 rfl ?_
          refine am_iconst 35 (v := 5) dL_isFrame_35 (by decide) ?_
          refine am_icmp_ge 36 108 dL_isFrame_36 rfl (fun c36 => absurd c36 (nI_ge hk (by decide))) (fun c36 => ?_)
          refine am_aload 39 dL_isFrame_39 rfl ?_
          refine am_iload 41 dL_isFrame_41 rfl ?_
          refine am_aload_n 43 dL_isFrame_43 rfl ?_
          refine am_iload 44 dL_isFrame_44 rfl ?_
          refine am_SW2 46 (mc' := 1) (ms' := 6) (rc := 10 + (5 - (k + 1))) (rs := 60 + 6 * (5 - (k + 1))) dL_isFrame_46 lL_79 ⟨by decide, by decide⟩ (Nat.le_of_ble_eq_true rfl) (Nat.le_of_ble_eq_true rfl) (s_Lframes g1 hk) ?_
          refine am_is_ct ?_
          refine am_iastore 49 dL_isFrame_49 rfl (by repeat (first | assumption | exact am_ue | refine am_un (by first | assumption | decide | omega) ?_)) (am_ix hk (by decide)) ?_
          rw [nI_clamp (n := k) (by omega)]
          refine am_aload_n 50 dL_isFrame_50 rfl ?_
          refine am_iload 51 dL_isFrame_51 rfl ?_
          refine am_aload 53 dL_isFrame_53 rfl ?_
          refine am_iload 55 dL_isFrame_55 rfl ?_
          refine am_iaload 57 dL_isFrame_57 rfl (by repeat (first | assumption | exact am_ue | refine am_un (by first | assumption | decide | omega) ?_)) (am_ix hk (by decide)) ?_
          rw [nI_clamp (n := k) (by omega), am_up_eq, e]
          refine am_if_le 58 70 dL_isFrame_58 rfl (fun c58 => absurd c58 (m_pos (by omega) (by omega))) (fun c58 => ?_)
          refine am_aload_n 61 dL_isFrame_61 rfl ?_
          refine am_iload 62 dL_isFrame_62 rfl ?_
          refine AW.more (rc := 0 + (10 + (5 - (k + 1)))) (rs := 0 + (60 + 6 * (5 - (k + 1)))) (by omega) (by omega) ?_
          refine am_V1 64 (mc' := 0) (ms' := 0) (rc := 10 + (5 - (k + 1))) (rs := 60 + 6 * (5 - (k + 1))) dL_isFrame_64 lL_83 ⟨by decide, by decide⟩ (by repeat (first | assumption | exact am_ue | refine am_un (by first | assumption | decide | omega) ?_)) (Nat.le_of_ble_eq_true rfl) (Nat.le_of_ble_eq_true rfl) (s_wouldMatch (g1.on (f' := va_up g (n + 1) (.inl (0, 5, .inl (va_up r k (nI fr))))) fun x a b => am_up_ne (by omega)) hk hth) ?_
          rintro o n' g6 ⟨rfl, rfl, j1, j2⟩
          refine am_ctI ?_
          have j3 : g6 n = _ := (j2 n (by omega)).trans ((am_up_ne (by omega)).trans g2)
          have j4 : g6 (n + 1) = _ := (j2 (n + 1) (by omega)).trans am_up_eq
          have j5 : g6 (n + 2) = _ := (j2 (n + 2) (by omega)).trans ((am_up_ne (by omega)).trans g4)
          have j0 := j1.1
          rw [em]
          refine am_goto 67 (tgt := 71) dL_isFrame_67 rfl ?_
          refine am_iastore 71 dL_isFrame_71 rfl (by repeat (first | assumption | exact am_ue | refine am_un (by first | assumption | decide | omega) ?_)) (am_ix hk (by decide)) ?_
          rw [nI_clamp (n := k) (by omega)]
          refine am_aload 72 dL_isFrame_72 rfl ?_
          refine am_iload 74 dL_isFrame_74 rfl ?_
          refine am_aload_n 76 dL_isFrame_76 rfl ?_
          refine am_iload 77 dL_isFrame_77 rfl ?_
          refine am_iaload 79 dL_isFrame_79 rfl (by repeat (first | assumption | exact am_ue | refine am_un (by first | assumption | decide | omega) ?_)) (am_ix hk (by decide)) ?_
          rw [nI_clamp (n := k) (by omega), am_up_eq]
          refine am_if_lt 80 100 dL_isFrame_80 rfl (fun c80 => absurd c80 (nI_pos (by omega))) (fun c80 => ?_)
          refine am_aload_n 83 dL_isFrame_83 rfl ?_
          refine am_aload_n 84 dL_isFrame_84 rfl ?_
          refine am_iload 85 dL_isFrame_85 rfl ?_
          refine am_iaload 87 dL_isFrame_87 rfl (by repeat (first | assumption | exact am_ue | refine am_un (by first | assumption | decide | omega) ?_)) (am_ix hk (by decide)) ?_
          rw [nI_clamp (n := k) (by omega), am_up_eq]
          refine am_iconst 88 (v := 4) dL_isFrame_88 (by decide) ?_
          refine AW.more (rc := 0 + (10 + (5 - (k + 1)))) (rs := 0 + (60 + 6 * (5 - (k + 1)))) (by omega) (by omega) ?_
          refine am_V2 89 (mc' := 0) (ms' := 0) (rc := 10 + (5 - (k + 1))) (rs := 60 + 6 * (5 - (k + 1))) dL_isFrame_89 lL_86 ⟨by decide, by decide⟩ (by repeat (first | assumption | exact am_ue | refine am_un (by first | assumption | decide | omega) ?_)) (Nat.le_of_ble_eq_true rfl) (Nat.le_of_ble_eq_true rfl) (s_ofPeak (j1.on (f' := va_up g6 n (.inl (0, 5, .inl (va_up t k (nI kk))))) fun x a b => am_up_ne (by omega)) hkk (j := 4) (by decide)) ?_
          refine am_is_ct ?_
          rw [ep]
          refine am_iconst 92 (v := 1) dL_isFrame_92 (by decide) ?_
          refine am_icmp_ne 93 100 dL_isFrame_93 rfl (fun c93 => absurd c93 (fun q => q rfl)) (fun c93 => ?_)
          refine am_iconst 96 (v := 1) dL_isFrame_96 (by decide) ?_
          refine am_goto 97 (tgt := 101) dL_isFrame_97 rfl ?_
          refine am_zastore 101 dL_isFrame_101 rfl (by repeat (first | assumption | exact am_ue | refine am_un (by first | assumption | decide | omega) ?_)) (am_ix hk (by decide)) ?_
          rw [nI_clamp (n := k) (by omega), show vp_nar .boolean (1 : Int32) = nI 1 from by decide]
          refine am_iinc 102 (v := nI (k + 1)) dL_isFrame_102 rfl (nI_1 (k)) (by decide) ?_
          refine am_goto 105 (tgt := 33) dL_isFrame_105 rfl ?_
          rw [et, eb] at fin
          exact fin _ (j1.on fun x a b => by rw [am_up_ne (by omega), am_up_ne (by omega)]) (am_un (by omega) am_ue) (am_un (by omega) (am_un (by omega) (by rw [e]; exact j4))) am_ue fun x a b => by rw [am_up_ne (by omega), am_up_ne (by omega), j2 x b, am_up_ne (by omega)]; exact g5 x a b
        · have eb : m_bv z k = 0 := if_neg (fun q => hb (by have := q.2.2; rwa [epk] at this))
          have ep : m_peakA z kk 4 = 0 := if_neg hb
          refine am_iload 33 dL_isFrame_33 rfl ?_
          refine am_iconst 35 (v := 5) dL_isFrame_35 (by decide) ?_
          refine am_icmp_ge 36 108 dL_isFrame_36 rfl (fun c36 => absurd c36 (nI_ge hk (by decide))) (fun c36 => ?_)
          refine am_aload 39 dL_isFrame_39 rfl ?_
          refine am_iload 41 dL_isFrame_41 rfl ?_
          refine am_aload_n 43 dL_isFrame_43 rfl ?_
          refine am_iload 44 dL_isFrame_44 rfl ?_
          refine am_SW2 46 (mc' := 1) (ms' := 6) (rc := 10 + (5 - (k + 1))) (rs := 60 + 6 * (5 - (k + 1))) dL_isFrame_46 lL_79 ⟨by decide, by decide⟩ (Nat.le_of_ble_eq_true rfl) (Nat.le_of_ble_eq_true rfl) (s_Lframes g1 hk) ?_
          refine am_is_ct ?_
          refine am_iastore 49 dL_isFrame_49 rfl (by repeat (first | assumption | exact am_ue | refine am_un (by first | assumption | decide | omega) ?_)) (am_ix hk (by decide)) ?_
          rw [nI_clamp (n := k) (by omega)]
          refine am_aload_n 50 dL_isFrame_50 rfl ?_
          refine am_iload 51 dL_isFrame_51 rfl ?_
          refine am_aload 53 dL_isFrame_53 rfl ?_
          refine am_iload 55 dL_isFrame_55 rfl ?_
          refine am_iaload 57 dL_isFrame_57 rfl (by repeat (first | assumption | exact am_ue | refine am_un (by first | assumption | decide | omega) ?_)) (am_ix hk (by decide)) ?_
          rw [nI_clamp (n := k) (by omega), am_up_eq, e]
          refine am_if_le 58 70 dL_isFrame_58 rfl (fun c58 => absurd c58 (m_pos (by omega) (by omega))) (fun c58 => ?_)
          refine am_aload_n 61 dL_isFrame_61 rfl ?_
          refine am_iload 62 dL_isFrame_62 rfl ?_
          refine AW.more (rc := 0 + (10 + (5 - (k + 1)))) (rs := 0 + (60 + 6 * (5 - (k + 1)))) (by omega) (by omega) ?_
          refine am_V1 64 (mc' := 0) (ms' := 0) (rc := 10 + (5 - (k + 1))) (rs := 60 + 6 * (5 - (k + 1))) dL_isFrame_64 lL_83 ⟨by decide, by decide⟩ (by repeat (first | assumption | exact am_ue | refine am_un (by first | assumption | decide | omega) ?_)) (Nat.le_of_ble_eq_true rfl) (Nat.le_of_ble_eq_true rfl) (s_wouldMatch (g1.on (f' := va_up g (n + 1) (.inl (0, 5, .inl (va_up r k (nI fr))))) fun x a b => am_up_ne (by omega)) hk hth) ?_
          rintro o n' g6 ⟨rfl, rfl, j1, j2⟩
          refine am_ctI ?_
          have j3 : g6 n = _ := (j2 n (by omega)).trans ((am_up_ne (by omega)).trans g2)
          have j4 : g6 (n + 1) = _ := (j2 (n + 1) (by omega)).trans am_up_eq
          have j5 : g6 (n + 2) = _ := (j2 (n + 2) (by omega)).trans ((am_up_ne (by omega)).trans g4)
          have j0 := j1.1
          rw [em]
          refine am_goto 67 (tgt := 71) dL_isFrame_67 rfl ?_
          refine am_iastore 71 dL_isFrame_71 rfl (by repeat (first | assumption | exact am_ue | refine am_un (by first | assumption | decide | omega) ?_)) (am_ix hk (by decide)) ?_
          rw [nI_clamp (n := k) (by omega)]
          refine am_aload 72 dL_isFrame_72 rfl ?_
          refine am_iload 74 dL_isFrame_74 rfl ?_
          refine am_aload_n 76 dL_isFrame_76 rfl ?_
          refine am_iload 77 dL_isFrame_77 rfl ?_
          refine am_iaload 79 dL_isFrame_79 rfl (by repeat (first | assumption | exact am_ue | refine am_un (by first | assumption | decide | omega) ?_)) (am_ix hk (by decide)) ?_
          rw [nI_clamp (n := k) (by omega), am_up_eq]
          refine am_if_lt 80 100 dL_isFrame_80 rfl (fun c80 => absurd c80 (nI_pos (by omega))) (fun c80 => ?_)
          refine am_aload_n 83 dL_isFrame_83 rfl ?_
          refine am_aload_n 84 dL_isFrame_84 rfl ?_
          refine am_iload 85 dL_isFrame_85 rfl ?_
          refine am_iaload 87 dL_isFrame_87 rfl (by repeat (first | assumption | exact am_ue | refine am_un (by first | assumption | decide | omega) ?_)) (am_ix hk (by decide)) ?_
          rw [nI_clamp (n := k) (by omega), am_up_eq]
          refine am_iconst 88 (v := 4) dL_isFrame_88 (by decide) ?_
          refine AW.more (rc := 0 + (10 + (5 - (k + 1)))) (rs := 0 + (60 + 6 * (5 - (k + 1)))) (by omega) (by omega) ?_
          refine am_V2 89 (mc' := 0) (ms' := 0) (rc := 10 + (5 - (k + 1))) (rs := 60 + 6 * (5 - (k + 1))) dL_isFrame_89 lL_86 ⟨by decide, by decide⟩ (by repeat (first | assumption | exact am_ue | refine am_un (by first | assumption | decide | omega) ?_)) (Nat.le_of_ble_eq_true rfl) (Nat.le_of_ble_eq_true rfl) (s_ofPeak (j1.on (f' := va_up g6 n (.inl (0, 5, .inl (va_up t k (nI kk))))) fun x a b => am_up_ne (by omega)) hkk (j := 4) (by decide)) ?_
          refine am_is_ct ?_
          rw [ep]
          refine am_iconst 92 (v := 1) dL_isFrame_92 (by decide) ?_
          refine am_icmp_ne 93 100 dL_isFrame_93 rfl (fun c93 => ?_) (fun c93 => absurd c93 (by decide))
          refine am_iconst 100 (v := 0) dL_isFrame_100 (by decide) ?_
          refine am_zastore 101 dL_isFrame_101 rfl (by repeat (first | assumption | exact am_ue | refine am_un (by first | assumption | decide | omega) ?_)) (am_ix hk (by decide)) ?_
          rw [nI_clamp (n := k) (by omega), show vp_nar .boolean (0 : Int32) = nI 0 from by decide]
          refine am_iinc 102 (v := nI (k + 1)) dL_isFrame_102 rfl (nI_1 (k)) (by decide) ?_
          refine am_goto 105 (tgt := 33) dL_isFrame_105 rfl ?_
          rw [et, eb] at fin
          exact fin _ (j1.on fun x a b => by rw [am_up_ne (by omega), am_up_ne (by omega)]) (am_un (by omega) am_ue) (am_un (by omega) (am_un (by omega) (by rw [e]; exact j4))) am_ue fun x a b => by rw [am_up_ne (by omega), am_up_ne (by omega), j2 x b, am_up_ne (by omega)]; exact g5 x a b
end IsF
