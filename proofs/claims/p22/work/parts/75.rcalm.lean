/-! ===== the reference's calls in any state: calmIn, keepBy ===== -/
section RCalm
variable {G : Nat → m_K}
variable {m n v u sz : Nat} {f : Nat → am_C} {κ : Nat → Nat} {th h di li : Int32} {cs : Nat → Option Nat} {w b sig : Nat → Int32}
set_option maxHeartbeats 1000000 in
theorem s_rcalmNow (s : r_M m n f κ sz G th h di li cs w b) : AM mX12_calmInNow (366 + 1 + 1) (14884 + 48 + 48) [.ref m] n f (fun o n' f' => n ≤ n' ∧ (∃ x, o = .inl (some (.int x))) ∧ ∀ x, x < n → f' x = f x) := by
  obtain ⟨⟨h0, -⟩, h1, h2⟩ := id s
  unfold r_m12 at h0
  have hm5 := s.1.n5
  generalize hQ : (fun (o : Option Value ⊕ Nat) (n' : Nat) (f' : Nat → am_C) => n ≤ n' ∧ (∃ x, o = .inl (some (.int x))) ∧ ∀ x, x < n → f' x = f x) = Q
  -- the frames, one after another
  have loop : ∀ (g : Nat → am_C) (ch y0 : Nat → Int32), g n = .inl (0, 48, .inl ch) → g (n + 1) = .inl (0, 48, .inl y0) → (∀ x, x < n → g x = f x) → AW mX12_calmInNow 366 14884 42 [some (.ref m), some (.ref n), some (.ref (n + 1)), some (.int (nI 0)), none, none, none] [] (n + 2) g Q := by
    intro g ch y0 hg1 hg2 hg3
    refine am_for 61 (fun _ (st : (Nat × (Nat → am_C)) × Option Value × Option Value × Option Value) => n + 2 ≤ st.1.1 ∧ st.1.2 n = .inl (0, 48, .inl ch) ∧ (∃ y : Nat → Int32, st.1.2 (n + 1) = .inl (0, 48, .inl y)) ∧ ∀ x, x < n → st.1.2 x = f x) (fun k st => AW mX12_calmInNow (6 * (61 - k)) (244 * (61 - k)) 42 [some (.ref m), some (.ref n), some (.ref (n + 1)), some (.int (nI k)), st.2.1, st.2.2.1, st.2.2.2] [] st.1.1 st.1.2 Q) ?_ ?_ 0 ((n + 2, g), none, none, none) (by omega) ⟨Nat.le_refl _, hg1, ⟨y0, hg2⟩, hg3⟩
    · rintro ⟨⟨N, g⟩, z4, z5, z6⟩ ⟨a1, a2, a3, a4⟩
      show AW mX12_calmInNow (6 * (61 - 61)) (244 * (61 - 61)) 42 [some (.ref m), some (.ref n), some (.ref (n + 1)), some (.int (nI 61)), z4, z5, z6] [] N g Q
      have a1 : n + 2 ≤ N := a1
      refine am_iload_n 42 dX12_calmInNow_42 rfl ?_
      refine am_bipush 43 (v := 60) dX12_calmInNow_43 (by decide) ?_
      refine am_icmp_gt 45 121 dX12_calmInNow_45 rfl (fun c45 => ?_) (fun c45 => absurd (by decide) c45)
      refine am_iconst 121 (v := (-1)) dX12_calmInNow_121 (by decide) ?_
      refine am_ireturn 122 dX12_calmInNow_122 rfl rfl ?_
      subst hQ
      exact ⟨by omega, ⟨_, rfl⟩, a4⟩
    · rintro k ⟨⟨N, g⟩, z4, z5, z6⟩ hk ⟨a1, a2, ⟨y, a3⟩, a4⟩ ih
      have a1 : n + 2 ≤ N := a1
      have a2 : g n = .inl (0, 48, .inl ch) := a2
      have a3 : g (n + 1) = .inl (0, 48, .inl y) := a3
      have a4 : ∀ x, x < n → g x = f x := a4
      have ih : ∀ (N : Nat) (g : Nat → am_C) (z4 z5 z6 : Option Value), n + 2 ≤ N → g n = .inl (0, 48, .inl ch) → (∃ y : Nat → Int32, g (n + 1) = .inl (0, 48, .inl y)) → (∀ x, x < n → g x = f x) → AW mX12_calmInNow (6 * (61 - (k + 1))) (244 * (61 - (k + 1))) 42 [some (.ref m), some (.ref n), some (.ref (n + 1)), some (.int (nI (k + 1))), z4, z5, z6] [] N g Q := fun N g z4 z5 z6 b1 b2 b3 b4 => ih ((N, g), z4, z5, z6) ⟨b1, b2, b3, b4⟩
      show AW mX12_calmInNow (6 * (61 - k)) (244 * (61 - k)) 42 [some (.ref m), some (.ref n), some (.ref (n + 1)), some (.int (nI k)), z4, z5, z6] [] N g Q
      refine AW.more (rc := 6 * (61 - (k + 1)) + 5 + 1) (rs := 244 * (61 - (k + 1)) + 240 + 4) (by omega) (by omega) ?_
      have h60 : ¬ (60 : Int32) < nI k := fun z => by
        have := (nI_ltI (a := 60) (b := k) (by decide) (by omega)).mp z
        omega
      generalize hRC : 6 * (61 - (k + 1)) = RC at ih
      generalize hRS : 244 * (61 - (k + 1)) = RS at ih
      refine AW.more (rc := 5 + RC + 1) (rs := 240 + RS + 4) (by omega) (by omega) ?_
      refine am_iload_n 42 dX12_calmInNow_42 rfl ?_
      refine am_bipush 43 (v := 60) dX12_calmInNow_43 (by decide) ?_
      refine am_icmp_gt 45 121 dX12_calmInNow_45 rfl (fun c45 => absurd c45 h60) (fun c45 => ?_)
      refine am_new 48 (rc := 5 + RC) (rs := 240 + RS) (N := 4) dX12_calmInNow_48 nX12_50 ?_
      refine am_dup 51 dX12_calmInNow_51 rfl ?_
      refine am_aload_n 52 dX12_calmInNow_52 rfl ?_
      refine am_aload_n 53 dX12_calmInNow_53 rfl ?_
      refine am_I2 54 (mc' := 5) (ms' := 240) (rc := RC) (rs := RS) dX12_calmInNow_54 lX12_56 ⟨by decide, by decide⟩ (Nat.le_of_ble_eq_true rfl) (Nat.le_of_ble_eq_true rfl) (s_View_init (u := N + 1) am_ue (am_un (by omega) a2) (am_un (by omega) a3) (by omega) (by omega) (by omega)) ?_
      rintro o n' f1 ⟨pk, gg, w', rfl, rfl, rfl, hq⟩
      refine ⟨_, rfl, ?_⟩
      refine am_astore 57 dX12_calmInNow_57 (by decide) ?_
      refine am_iconst 59 (v := 0) dX12_calmInNow_59 (by decide) ?_
      refine am_istore 60 dX12_calmInNow_60 (by decide) ?_
      refine am_iconst 62 (v := 0) dX12_calmInNow_62 (by decide) ?_
      refine am_istore 63 dX12_calmInNow_63 (by decide) ?_
      generalize hf1 : r_put _ N (N + 1) _ _ pk _ gg w' = f1
      have hW : r_W f1 N (N + 1) (fun k => ch k - y k) := ⟨pk, by rw [← hf1]; exact r_a0, by rw [← hf1]; exact r_a1 (by omega), by rw [← hf1]; exact r_a2 (by omega), by rw [← hf1]; exact r_a3 (by omega), hq⟩
      have o1 : ∀ x, x < N → f1 x = g x := fun x hx => by rw [← hf1, r_out (by omega), am_up_ne (by omega)]
      clear hf1
      have b2 := (o1 n (by omega)).trans a2
      have b3 := (o1 (n + 1) (by omega)).trans a3
      rw [show f1 = va_up f1 (n + 1) (.inl (0, 48, .inl y)) from (am_self b3).symm]
      show AW mX12_calmInNow RC RS 65 [some (.ref m), some (.ref n), some (.ref (n + 1)), some (.int (nI k)), some (.ref N), some (.int 0), some (.int (nI 0))] [] (N + 1 + 5) (va_up f1 (n + 1) (.inl (0, 48, .inl y))) Q
      refine am_for 48 (fun _ (_ : Int32 × (Nat → Int32)) => True) (fun j st => AW mX12_calmInNow RC RS 65 [some (.ref m), some (.ref n), some (.ref (n + 1)), some (.int (nI k)), some (.ref N), some (.int st.1), some (.int (nI j))] [] (N + 1 + 5) (va_up f1 (n + 1) (.inl (0, 48, .inl st.2))) Q) ?_ ?_ 0 (0, y) (by omega) trivial
      · rintro ⟨x5, y1⟩ -
        show AW mX12_calmInNow RC RS 65 [some (.ref m), some (.ref n), some (.ref (n + 1)), some (.int (nI k)), some (.ref N), some (.int x5), some (.int (nI 48))] [] (N + 1 + 5) (va_up f1 (n + 1) (.inl (0, 48, .inl y1))) Q
        have fin : ∀ x, x < n → va_up f1 (n + 1) (.inl (0, 48, .inl y1)) x = f x := fun x hx => by rw [am_up_ne (by omega), o1 x (by omega), a4 x hx]
        refine am_iload 65 dX12_calmInNow_65 rfl ?_
        refine am_bipush 67 (v := 48) dX12_calmInNow_67 (by decide) ?_
        refine am_icmp_ge 69 108 dX12_calmInNow_69 rfl (fun c69 => ?_) (fun c69 => absurd (by decide) c69)
        refine am_iload 108 dX12_calmInNow_108 rfl ?_
        refine am_if_ne 110 115 dX12_calmInNow_110 rfl (fun c110 => ?_) (fun c110 => ?_)
        · refine am_iinc 115 (v := nI (k + 1)) dX12_calmInNow_115 rfl (nI_1 (k)) (by decide) ?_
          refine am_goto 118 (tgt := 42) dX12_calmInNow_118 rfl ?_
          exact ih _ _ _ _ _ (by omega) (am_un (by omega) b2) ⟨y1, am_ue⟩ fin
        · refine am_iload_n 113 dX12_calmInNow_113 rfl ?_
          refine am_ireturn 114 dX12_calmInNow_114 rfl rfl ?_
          subst hQ
          exact ⟨by omega, ⟨_, rfl⟩, fin⟩
      · rintro j ⟨x5, y1⟩ hj - ih2
        show AW mX12_calmInNow RC RS 65 [some (.ref m), some (.ref n), some (.ref (n + 1)), some (.int (nI k)), some (.ref N), some (.int x5), some (.int (nI j))] [] (N + 1 + 5) (va_up f1 (n + 1) (.inl (0, 48, .inl y1))) Q
        have hW2 : r_W (va_up f1 (n + 1) (.inl (0, 48, .inl y1))) N (N + 1) (fun k => ch k - y k) := hW.on fun x hx => am_up_ne (by omega)
        obtain ⟨pk2, w0, w1, -⟩ := id hW2
        have hdr := s_drift (n := N + 1 + 5) hW2 hj
        refine AW.more (rc := 0 + RC) (rs := 0 + RS) (by omega) (by omega) ?_
        refine am_iload 65 dX12_calmInNow_65 rfl ?_
        refine am_bipush 67 (v := 48) dX12_calmInNow_67 (by decide) ?_
        refine am_icmp_ge 69 108 dX12_calmInNow_69 rfl (fun c69 => absurd c69 (nI_ge hj (by decide))) (fun c69 => ?_)
        refine am_iload 72 dX12_calmInNow_72 rfl ?_
        refine am_aload 74 dX12_calmInNow_74 rfl ?_
        refine am_getfield 76 dX12_calmInNow_76 fX12_239 w0 rfl ?_
        refine am_iload 79 dX12_calmInNow_79 rfl ?_
        refine am_iaload 81 dX12_calmInNow_81 rfl w1 (am_ix hj (by decide)) ?_
        refine am_abs 82 dX12_calmInNow_82 jX12_83 (by decide) (Nat.le_of_ble_eq_true rfl) ?_
        refine am_iadd 85 dX12_calmInNow_85 ?_
        refine am_istore 86 dX12_calmInNow_86 (by decide) ?_
        refine am_aload_n 88 dX12_calmInNow_88 rfl ?_
        refine am_iload 89 dX12_calmInNow_89 rfl ?_
        refine am_dup2 91 dX12_calmInNow_91 rfl rfl ?_
        refine am_iaload 92 dX12_calmInNow_92 rfl am_ue (am_ix hj (by decide)) ?_
        refine am_aload 93 dX12_calmInNow_93 rfl ?_
        refine am_iload 95 dX12_calmInNow_95 rfl ?_
        refine AW.more (rc := 0 + (RC)) (rs := 0 + (RS)) (by omega) (by omega) ?_
        refine am_V1 97 (mc' := 0) (ms' := 0) (rc := RC) (rs := RS) dX12_calmInNow_97 lX12_230 ⟨by decide, by decide⟩ w0 (Nat.le_of_ble_eq_true rfl) (Nat.le_of_ble_eq_true rfl) (hdr) ?_
        refine am_is_ct ?_
        refine am_iadd 100 dX12_calmInNow_100 ?_
        refine am_iastore 101 dX12_calmInNow_101 rfl am_ue (am_ix hj (by decide)) ?_
        rw [am_uu]
        refine am_iinc 102 (v := nI (j + 1)) dX12_calmInNow_102 rfl (nI_1 (j)) (by decide) ?_
        refine am_goto 105 (tgt := 65) dX12_calmInNow_105 rfl ?_
        exact ih2 (_, _) trivial
  show AW mX12_calmInNow (366 + 1 + 1) (14884 + 48 + 48) 0 [some (.ref m), none, none, none, none, none, none] [] n f Q
  refine am_bipush 0 (v := 48) dX12_calmInNow_0 (by decide) ?_
  refine am_newints 2 (t := 0) (N := 48) (rc := 366 + 1) (rs := 14884 + 48) dX12_calmInNow_2 ac_int rfl (by decide) (by decide) (by decide) ?_
  refine am_astore_n 4 dX12_calmInNow_4 (by decide) ?_
  refine am_bipush 5 (v := 48) dX12_calmInNow_5 (by decide) ?_
  refine am_newints 7 (t := 0) (N := 48) (rc := 366) (rs := 14884) dX12_calmInNow_7 ac_int rfl (by decide) (by decide) (by decide) ?_
  refine am_astore_n 9 dX12_calmInNow_9 (by decide) ?_
  refine am_iconst 10 (v := 0) dX12_calmInNow_10 (by decide) ?_
  refine am_istore_n 11 dX12_calmInNow_11 (by decide) ?_
  refine am_for 48 (fun k (z : (Nat → Int32) × (Nat → Int32)) => True) (fun k z => AW mX12_calmInNow 366 14884 12 [some (.ref m), some (.ref n), some (.ref (n + 1)), some (.int (nI k)), none, none, none] [] (n + 1 + 1) (va_up (va_up f n (.inl (0, 48, .inl z.1))) (n + 1) (.inl (0, 48, .inl z.2))) Q) ?_ ?_ 0 (_, _) (by omega) trivial
  · rintro ⟨a, c⟩ -
    show AW mX12_calmInNow 366 14884 12 [some (.ref m), some (.ref n), some (.ref (n + 1)), some (.int (nI 48)), none, none, none] [] (n + 1 + 1) (va_up (va_up f n (.inl (0, 48, .inl a))) (n + 1) (.inl (0, 48, .inl c))) Q
    refine am_iload_n 12 dX12_calmInNow_12 rfl ?_
    refine am_bipush 13 (v := 48) dX12_calmInNow_13 (by decide) ?_
    refine am_icmp_ge 15 40 dX12_calmInNow_15 rfl (fun c15 => ?_) (fun c15 => absurd (by decide) c15)
    refine am_iconst 40 (v := 0) dX12_calmInNow_40 (by decide) ?_
    refine am_istore_n 41 dX12_calmInNow_41 (by decide) ?_
    exact loop _ _ _ (am_un (by omega) am_ue) am_ue (fun x hx => by rw [am_up_ne (by omega), am_up_ne (by omega)])
  · rintro k ⟨a, c⟩ hk - ih
    show AW mX12_calmInNow 366 14884 12 [some (.ref m), some (.ref n), some (.ref (n + 1)), some (.int (nI k)), none, none, none] [] (n + 1 + 1) (va_up (va_up f n (.inl (0, 48, .inl a))) (n + 1) (.inl (0, 48, .inl c))) Q
    refine am_iload_n 12 dX12_calmInNow_12 rfl ?_
    refine am_bipush 13 (v := 48) dX12_calmInNow_13 (by decide) ?_
    refine am_icmp_ge 15 40 dX12_calmInNow_15 rfl (fun c15 => absurd c15 (nI_ge hk (by decide))) (fun c15 => ?_)
    refine am_aload_n 18 dX12_calmInNow_18 rfl ?_
    refine am_iload_n 19 dX12_calmInNow_19 rfl ?_
    refine am_aload_n 20 dX12_calmInNow_20 rfl ?_
    refine am_getfield 21 dX12_calmInNow_21 fX12_47 (by first | exact am_ue | exact am_un (by omega) am_ue | exact am_un (by omega) (am_un (by omega) h0) | exact am_un (by omega) (am_un (by omega) h1)) rfl ?_
    refine am_iastore 24 dX12_calmInNow_24 rfl (by first | exact am_ue | exact am_un (by omega) am_ue | exact am_un (by omega) (am_un (by omega) h0) | exact am_un (by omega) (am_un (by omega) h1)) (am_ix hk (by decide)) ?_
    rw [am_us (i := n + 1) (j := n) (by omega), am_uu]
    refine am_aload_n 25 dX12_calmInNow_25 rfl ?_
    refine am_iload_n 26 dX12_calmInNow_26 rfl ?_
    refine am_aload_n 27 dX12_calmInNow_27 rfl ?_
    refine am_getfield 28 dX12_calmInNow_28 fX12_13 (by first | exact am_ue | exact am_un (by omega) am_ue | exact am_un (by omega) (am_un (by omega) h0) | exact am_un (by omega) (am_un (by omega) h1)) rfl ?_
    refine am_iload_n 31 dX12_calmInNow_31 rfl ?_
    refine am_iaload 32 dX12_calmInNow_32 rfl (by first | exact am_ue | exact am_un (by omega) am_ue | exact am_un (by omega) (am_un (by omega) h0) | exact am_un (by omega) (am_un (by omega) h1)) (am_ix hk (by decide)) ?_
    refine am_iastore 33 dX12_calmInNow_33 rfl (by first | exact am_ue | exact am_un (by omega) am_ue | exact am_un (by omega) (am_un (by omega) h0) | exact am_un (by omega) (am_un (by omega) h1)) (am_ix hk (by decide)) ?_
    rw [am_uu]
    refine am_iinc 34 (v := nI (k + 1)) dX12_calmInNow_34 rfl (nI_1 (k)) (by decide) ?_
    refine am_goto 37 (tgt := 12) dX12_calmInNow_37 rfl ?_
    exact ih (_, _) trivial
theorem s_rcalmIn (s : r_M m n f κ sz G th h di li cs w b) : AM mX12_calmIn (366 + 1 + 1) (14884 + 48 + 48) [.ref m] n f (r_sP m n f κ sz G h di li cs w b r_vI) := by
  obtain ⟨⟨h0, -⟩, -⟩ := id s
  obtain ⟨s1, g1⟩ := s.scal (th' := 0) (h' := h) (di' := di) (li' := li)
  have hc := s_rcalmNow s1
  unfold r_m12 at h0
  generalize hRC : 366 + 1 + 1 = RC at hc
  generalize hRS : 14884 + 48 + 48 = RS at hc
  show AW mX12_calmIn RC RS 0 [some (.ref m)] [] n f _
  refine am_aload_n 0 dX12_calmIn_0 rfl ?_
  refine am_iconst 1 (v := 0) dX12_calmIn_1 (by decide) ?_
  refine am_putfield 2 dX12_calmIn_2 pX12_40 (by repeat (first | assumption | exact am_ue | refine am_un (by first | assumption | decide | omega) ?_)) rfl rfl (Nat.le_of_ble_eq_true rfl) ?_
  generalize hf1 : va_up f m _ = f1
  have hf1' : va_up f m (r_m12 m 0 h di li (r_n G 0) (r_n G 1) (r_n G 2) (r_n G 3) (r_n G 4)) = f1 := hf1
  rw [hf1'] at s1 g1 hc
  obtain ⟨⟨e0, -⟩, -⟩ := id s1
  unfold r_m12 at e0
  refine am_aload_n 5 dX12_calmIn_5 rfl ?_
  refine am_V0 6 (mc' := RC) (ms' := RS) (rc := 0) (rs := 0) dX12_calmIn_6 lX12_304 ⟨by decide, by decide⟩ e0 (Nat.le_of_ble_eq_true rfl) (Nat.le_of_ble_eq_true rfl) (hc) ?_
  rintro o n' f2 ⟨hn, ⟨x, rfl⟩, e2⟩
  refine am_ctI ?_
  obtain ⟨s3, g3⟩ := s1.more hn e2
  refine am_ireturn 9 dX12_calmIn_9 rfl rfl ?_
  exact ⟨hn, _, _, rfl, ⟨_, rfl⟩, s3, (g1.trans g3 (Nat.le_refl _)).out⟩
end RCalm
