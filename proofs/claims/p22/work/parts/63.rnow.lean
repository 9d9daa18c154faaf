/-! ===== the reference in any state: contacts counted, missed, an area found, claims: to the letter ===== -/
section RNow
variable {G : Nat → m_K}
variable {m n sz : Nat} {f : Nat → am_C} {κ : Nat → Nat} {th h di li : Int32} {cs : Nat → Option Nat}
theorem r_ty.conG {G2 : Nat → m_K} {f' : Nat → am_C} {x : Nat} (s : r_ty m n sz G κ f) (hx : κ x = 1) (e : ∀ z, z ≠ x → f' z = f z) (hG : ∀ z, z ≠ x → G2 z = G z) (X : ∃ (ap cl : Nat) (kk : m_K), f' x = .inr (9, r_kF ap kk) ∧ κ ap = 2 ∧ m_kOk kk ∧ (kk.1 7 = -1 ∨ ∃ k, k < sz ∧ kk.1 7 = nI k) ∧ cl ≤ 3 ∧ kk.1 6 = nI cl ∧ kk = G2 x ∧ ap = x + 1) : r_ty m n sz G2 κ f' := by
  intro z
  by_cases q : z = x
  · subst q
    exact ⟨(s z).1, fun _ => X, fun q => by omega, fun q => by omega, fun q => by omega⟩
  · rw [e z q]
    have h := s z
    rw [← hG z q] at h
    exact h
theorem r_ty.dis {G2 : Nat → m_K} {f' : Nat → am_C} {x : Nat} (s : r_ty m n sz G κ f) (hx : κ x = 2) (e : ∀ z, z ≠ x → f' z = f z) (hG : ∀ z, z ≠ x → G2 z = G z) (X : ∃ g : Nat → UInt32, f' x = .inl (2, 5, .inr (.inr (.inl g))) ∧ (∀ j, j < 5 → fB (g j) 0 112) ∧ g = (G2 x).2.2) : r_ty m n sz G2 κ f' := by
  intro z
  by_cases q : z = x
  · subst q
    exact ⟨(s z).1, fun q => by omega, fun _ => X, fun q => by omega, fun q => by omega⟩
  · rw [e z q]
    have h := s z
    rw [← hG z q] at h
    exact h
/-- only contacts and their distances changed -/
theorem r_S.kin {G2 : Nat → m_K} {f' : Nat → am_C} (s : r_S m n f κ sz G th h di li cs) (t : r_ty m n sz G2 κ f') (e : ∀ z, (κ z ≠ 1 ∧ κ z ≠ 2) → f' z = f z) (hG : ∀ k, k < 5 → G2 k = G k) : r_S m n f' κ sz G2 th h di li cs ∧ r_go m n κ κ f f' := by
  have g : r_go m n κ κ f f' := ⟨fun _ _ => rfl, fun x _ hx _ _ => e x (by omega)⟩
  have hn : ∀ i, r_n G2 i = r_n G i := fun i => by unfold r_n; rw [hG 4 (by omega)]
  have z0 := s.k0 (x := m) (by omega)
  have z3 := s.k0 (x := m + 3) (by omega)
  exact ⟨s.on (Nat.le_refl _) g (fun x hx => e x (by omega)) (fun k hk => hG k (by omega)) (by rw [hn, hn, hn, hn, hn]; exact (e m (by omega)).trans s.1) ⟨(e _ (by omega)).trans s.2.1.1, s.2.1.2⟩ t, g⟩
theorem s_rcountS {c j : Nat} {by1 : Int32} (s : r_S m n f κ sz G th h di li cs) (hc : κ c = 1) (hj : j ≤ 3) : AM mX12_count 0 0 [.ref m, .ref c, .int (nI j), .int by1] n f (fun o n' f' => o = .inl none ∧ n = n' ∧ r_S m n f' κ sz (y_cG G ((G c).1 7) j by1) th h di li cs ∧ r_go m n κ κ f f') := by
  have s1 := s
  obtain ⟨h0, ⟨c3, cw⟩, har, hty⟩ := s
  have hs4 := har.1
  obtain ⟨ap, cl, kk, g0, g1, g2, g3, g4, g5, rfl, g7⟩ := (hty c).2.1 hc
  have h0' := h0
  unfold r_m12 at h0
  refine AW.mono ?_ (s_rcount h0 har hty hc hj)
  rintro o n' f' ⟨e1, e2, e3, e4, e5⟩
  have z0 := s1.k0 (x := m) (by omega)
  have z3 := s1.k0 (x := m + 3) (by omega)
  refine ⟨e1, e2, ⟨?_, ⟨(e5 _ (by omega)).trans c3, cw⟩, e3, e4⟩, fun _ _ => rfl, fun x _ hx _ _ => e5 x (by omega)⟩
  rw [r_n_cG g3 hs4, r_n_cG g3 hs4, r_n_cG g3 hs4, r_n_cG g3 hs4, r_n_cG g3 hs4]
  exact (e5 m (by omega)).trans h0'
/-- how many names are taken -/
def y_cn (cs : Nat → Option Nat) (k : Nat) : Nat := if (cs k).isSome then 1 else 0
theorem s_rcontactsNow (s : r_S m n f κ sz G th h di li cs) : AM mX12_contactsNow 0 0 [.ref m] n f (am_is (some (.int (nI (m_N (y_cn cs) 5)))) n f) := by
  obtain ⟨h0, ⟨c3, cw⟩, har, hty⟩ := s
  unfold r_m12 at h0
  show AW mX12_contactsNow 0 0 0 [some (.ref m), none, none, none, none, none] [] n f _
  refine am_iconst 0 (v := 0) dX12_contactsNow_0 (by decide) ?_
  refine am_istore_n 1 dX12_contactsNow_1 (by decide) ?_
  refine am_aload_n 2 dX12_contactsNow_2 rfl ?_
  refine am_getfield 3 dX12_contactsNow_3 fX12_29 (by repeat (first | assumption | exact am_ue | refine am_un (by first | assumption | decide | omega) ?_)) rfl ?_
  refine am_astore_n 6 dX12_contactsNow_6 (by decide) ?_
  refine am_aload_n 7 dX12_contactsNow_7 rfl ?_
  refine am_arraylength 8 dX12_contactsNow_8 rfl (by repeat (first | assumption | exact am_ue | refine am_un (by first | assumption | decide | omega) ?_)) ?_
  refine am_istore_n 9 dX12_contactsNow_9 (by decide) ?_
  refine am_iconst 10 (v := 0) dX12_contactsNow_10 (by decide) ?_
  refine am_istore 11 dX12_contactsNow_11 (by decide) ?_
  refine am_for 5 (fun k (st : Int32 × Option Value) => st.1 = nI (m_N (y_cn cs) k)) (fun k st => AW mX12_contactsNow 0 0 13 [some (.ref m), some (.int st.1), some (.ref (m + 3)), some (.int (Int32.ofNat 5)), some (.int (nI k)), st.2] [] n f _) ?_ ?_ 0 (0, none) (by omega) rfl
  · rintro ⟨x, z⟩ e
    obtain rfl : x = nI (m_N (y_cn cs) 5) := e
    show AW mX12_contactsNow 0 0 13 [some (.ref m), some (.int (nI (m_N (y_cn cs) 5))), some (.ref (m + 3)), some (.int (Int32.ofNat 5)), some (.int (nI 5)), z] [] n f _
    refine am_iload 13 dX12_contactsNow_13 rfl ?_
    refine am_iload_n 15 dX12_contactsNow_15 rfl ?_
    refine am_icmp_ge 16 44 dX12_contactsNow_16 rfl (fun c16 => ?_) (fun c16 => absurd (by decide) c16)
    refine am_iload_n 44 dX12_contactsNow_44 rfl ?_
    refine am_ireturn 45 dX12_contactsNow_45 rfl rfl ?_
    exact ⟨rfl, rfl, rfl⟩
  · rintro k ⟨x, z⟩ hk e ih
    obtain rfl : x = nI (m_N (y_cn cs) k) := e
    show AW mX12_contactsNow 0 0 13 [some (.ref m), some (.int (nI (m_N (y_cn cs) k))), some (.ref (m + 3)), some (.int (Int32.ofNat 5)), some (.int (nI k)), z] [] n f _
    have ea : ∀ b : Nat, b = y_cn cs k → nI (m_N (y_cn cs) k) + nI b = nI (m_N (y_cn cs) (k + 1)) := fun b hb => by
      rw [hb]
      exact nI_add _ _
    rcases hc : cs k with _ | c
    · have e0 := ea 0 (by unfold y_cn; rw [hc]; rfl)
      refine am_iload 13 dX12_contactsNow_13 rfl ?_
      refine am_iload_n 15 dX12_contactsNow_15 rfl ?_
      refine am_icmp_ge 16 44 dX12_contactsNow_16 rfl (fun c16 => absurd c16 (nI_ge hk (by decide))) (fun c16 => ?_)
      refine am_aload_n 19 dX12_contactsNow_19 rfl ?_
      refine am_iload 20 dX12_contactsNow_20 rfl ?_
      refine am_aaload 22 dX12_contactsNow_22 rfl (by repeat (first | assumption | exact am_ue | refine am_un (by first | assumption | decide | omega) ?_)) (am_ix hk (by decide)) ?_
      rw [nI_clamp (n := k) (by omega), hc, show va_rf none = Value.null from rfl]
      refine am_astoreN 23 dX12_contactsNow_23 (by decide) ?_
      refine am_iload_n 25 dX12_contactsNow_25 rfl ?_
      refine am_aloadN 26 dX12_contactsNow_26 rfl ?_
      refine am_ifnonnullN 28 dX12_contactsNow_28 ?_
      refine am_iconst 31 (v := 0) dX12_contactsNow_31 (by decide) ?_
      refine am_goto 32 (tgt := 36) dX12_contactsNow_32 rfl ?_
      refine am_iadd 36 dX12_contactsNow_36 ?_
      rw [show nI (m_N (y_cn cs) k) + (0 : Int32) = nI (m_N (y_cn cs) (k + 1)) from e0]
      refine am_istore_n 37 dX12_contactsNow_37 (by decide) ?_
      refine am_iinc 38 (v := nI (k + 1)) dX12_contactsNow_38 rfl (nI_1 (k)) (by decide) ?_
      refine am_goto 41 (tgt := 13) dX12_contactsNow_41 rfl ?_
      exact ih (_, _) rfl
    · have e0 := ea 1 (by unfold y_cn; rw [hc]; rfl)
      refine am_iload 13 dX12_contactsNow_13 rfl ?_
      refine am_iload_n 15 dX12_contactsNow_15 rfl ?_
      refine am_icmp_ge 16 44 dX12_contactsNow_16 rfl (fun c16 => absurd c16 (nI_ge hk (by decide))) (fun c16 => ?_)
      refine am_aload_n 19 dX12_contactsNow_19 rfl ?_
      refine am_iload 20 dX12_contactsNow_20 rfl ?_
      refine am_aaload 22 dX12_contactsNow_22 rfl (by repeat (first | assumption | exact am_ue | refine am_un (by first | assumption | decide | omega) ?_)) (am_ix hk (by decide)) ?_
      rw [nI_clamp (n := k) (by omega), hc, show va_rf (some c) = Value.ref c from rfl]
      refine am_astore 23 dX12_contactsNow_23 (by decide) ?_
      refine am_iload_n 25 dX12_contactsNow_25 rfl ?_
      refine am_aload 26 dX12_contactsNow_26 rfl ?_
      refine am_ifnonnull 28 (tgt := 35) dX12_contactsNow_28 rfl ?_
      refine am_iconst 35 (v := 1) dX12_contactsNow_35 (by decide) ?_
      refine am_iadd 36 dX12_contactsNow_36 ?_
      rw [show nI (m_N (y_cn cs) k) + (1 : Int32) = nI (m_N (y_cn cs) (k + 1)) from e0]
      refine am_istore_n 37 dX12_contactsNow_37 (by decide) ?_
      refine am_iinc 38 (v := nI (k + 1)) dX12_contactsNow_38 rfl (nI_1 (k)) (by decide) ?_
      refine am_goto 41 (tgt := 13) dX12_contactsNow_41 rfl ?_
      exact ih (_, _) rfl
theorem s_isInX {v a b : Int32} : AM mX12_isIn 0 0 [.int v, .int a, .int b] n f (fun o n' f' => n = n' ∧ f = f' ∧ ∃ w : Int32, o = .inl (some (.int w)) ∧ ((w = 0 ∧ ¬ (a ≤ v ∧ v ≤ b)) ∨ (w ≠ 0 ∧ a ≤ v ∧ v ≤ b))) := by
  by_cases q : a ≤ v ∧ v ≤ b
  · exact AW.mono (by rintro o n' f' ⟨rfl, rfl, rfl⟩; exact ⟨rfl, rfl, 1, rfl, Or.inr ⟨by decide, q⟩⟩) (s_isIn_t q.1 q.2)
  · exact AW.mono (by rintro o n' f' ⟨rfl, rfl, rfl⟩; exact ⟨rfl, rfl, 0, rfl, Or.inl ⟨rfl, q⟩⟩) (s_isIn_f q)
theorem s_rareaOf {c : Nat} (hc48 : c < 48) (s : r_S m n f κ sz G th h di li cs) : AM mX12_areaOf 0 0 [.ref m, .int (nI c)] n f (am_is (some (.int (y_ar (fun k i => (G k).1 i) c sz))) n f) := by
  obtain ⟨h0, ⟨c3, cw⟩, ⟨hs4, -, el, mc, R, l0, -, l1, lA⟩, hty⟩ := s
  unfold r_m12 at h0
  show AW mX12_areaOf 0 0 0 [some (.ref m), some (.int (nI c)), none, none] [] n f _
  refine am_aload_n 0 dX12_areaOf_0 rfl ?_
  refine am_getfield 1 dX12_areaOf_1 fX12_36 (by repeat (first | assumption | exact am_ue | refine am_un (by first | assumption | decide | omega) ?_)) rfl ?_
  refine am_V0 4 (mc' := 0) (ms' := 0) (rc := 0) (rs := 0) dX12_areaOf_4 lX12_62 ⟨by decide, by decide⟩ l0 (Nat.le_of_ble_eq_true rfl) (Nat.le_of_ble_eq_true rfl) (s_size l0) ?_
  refine am_is_ct ?_
  refine am_iconst 7 (v := 1) dX12_areaOf_7 (by decide) ?_
  refine am_isub 8 dX12_areaOf_8 ?_
  refine am_istore_n 9 dX12_areaOf_9 (by decide) ?_
  refine am_for sz (fun j (x : Int32 × Option Value) => x.1 = nI (sz - j) - 1 ∧ y_ar (fun k i => (G k).1 i) c sz = y_ar (fun k i => (G k).1 i) c (sz - j)) (fun j x => AW mX12_areaOf 0 0 10 [some (.ref m), some (.int (nI c)), some (.int x.1), x.2] [] n f _) ?_ ?_ 0 (nI sz - 1, none) (by omega) ⟨rfl, rfl⟩
  · rintro ⟨x, z⟩ ⟨e, e3⟩
    obtain rfl : x = nI (sz - sz) - 1 := e
    rw [Nat.sub_self] at e3 ⊢
    show AW mX12_areaOf 0 0 10 [some (.ref m), some (.int (nI c)), some (.int (nI 0 - 1)), z] [] n f _
    refine am_iload_n 10 dX12_areaOf_10 rfl ?_
    refine am_if_lt 11 70 dX12_areaOf_11 rfl (fun c11 => ?_) (fun c11 => absurd (by decide) c11)
    refine am_iconst 70 (v := (-1)) dX12_areaOf_70 (by decide) ?_
    refine am_ireturn 71 dX12_areaOf_71 rfl rfl ?_
    exact ⟨by rw [e3]; rfl, rfl, rfl⟩
  · rintro j ⟨x, z⟩ hj ⟨e, e3⟩ ih
    obtain rfl : x = nI (sz - j) - 1 := e
    show AW mX12_areaOf 0 0 10 [some (.ref m), some (.int (nI c)), some (.int (nI (sz - j) - 1)), z] [] n f _
    obtain ⟨e1, e2⟩ := m_dn sz hs4 j hj
    have n1 : ¬ nI (sz - j - 1) < 0 := fun z => absurd ((nI_ltI (b := 0) (by omega) (by decide)).mp z) (by omega)
    obtain ⟨l2, l3, l5, l4⟩ := l1 (by omega)
    obtain ⟨a, g, l6, l7, b1, b0, -⟩ := lA.1 (sz - j - 1) (by omega)
    rw [e1] at e2
    rw [e1]
    have e3 : y_ar (fun k i => (G k).1 i) c sz = y_ar (fun k i => (G k).1 i) c ((sz - j - 1) + 1) := by rw [show sz - j - 1 + 1 = sz - j by omega]; exact e3
    have no : ∀ q : ¬ ((G (sz - j - 1)).1 0 ≤ nI (c % 8) ∧ nI (c % 8) ≤ (G (sz - j - 1)).1 1 ∧ (G (sz - j - 1)).1 2 ≤ nI (c / 8) ∧ nI (c / 8) ≤ (G (sz - j - 1)).1 3), y_ar (fun k i => (G k).1 i) c sz = y_ar (fun k i => (G k).1 i) c (sz - (j + 1)) := fun q => e3.trans (if_neg q)
    have yes : ∀ q : (G (sz - j - 1)).1 0 ≤ nI (c % 8) ∧ nI (c % 8) ≤ (G (sz - j - 1)).1 1 ∧ (G (sz - j - 1)).1 2 ≤ nI (c / 8) ∧ nI (c / 8) ≤ (G (sz - j - 1)).1 3, y_ar (fun k i => (G k).1 i) c sz = nI (sz - j - 1) := fun q => e3.trans (if_pos q)
    have out : ∀ (z : Option Value), ¬ ((G (sz - j - 1)).1 0 ≤ nI (c % 8) ∧ nI (c % 8) ≤ (G (sz - j - 1)).1 1 ∧ (G (sz - j - 1)).1 2 ≤ nI (c / 8) ∧ nI (c / 8) ≤ (G (sz - j - 1)).1 3) → AW mX12_areaOf 0 0 64 [some (.ref m), some (.int (nI c)), some (.int (nI (sz - j - 1))), z] [] n f _ := fun z q => by
      refine am_iinc 64 (v := nI (sz - (j + 1)) - 1) dX12_areaOf_64 rfl e2 (by decide) ?_
      refine am_goto 67 (tgt := 10) dX12_areaOf_67 rfl ?_
      exact ih (_, _) ⟨rfl, no q⟩
    by_cases q1 : (G (sz - j - 1)).1 0 ≤ nI (c % 8) ∧ nI (c % 8) ≤ (G (sz - j - 1)).1 1
    · by_cases q2 : (G (sz - j - 1)).1 2 ≤ nI (c / 8) ∧ nI (c / 8) ≤ (G (sz - j - 1)).1 3
      · have e4 := yes ⟨q1.1, q1.2, q2⟩
        refine am_iload_n 10 dX12_areaOf_10 rfl ?_
        refine am_if_lt 11 70 dX12_areaOf_11 rfl (fun c11 => absurd c11 n1) (fun c11 => ?_)
        refine am_aload_n 14 dX12_areaOf_14 rfl ?_
        refine am_getfield 15 dX12_areaOf_15 fX12_36 (by repeat (first | assumption | exact am_ue | refine am_un (by first | assumption | decide | omega) ?_)) rfl ?_
        refine am_iload_n 18 dX12_areaOf_18 rfl ?_
        refine am_V1 19 (mc' := 0) (ms' := 0) (rc := 0) (rs := 0) dX12_areaOf_19 lX12_102 ⟨by decide, by decide⟩ l0 (Nat.le_of_ble_eq_true rfl) (Nat.le_of_ble_eq_true rfl) (s_get l0 l5 (k := sz - j - 1) (by omega) (by omega) l6) ?_
        refine am_is_ct ?_
        refine am_cast 22 dX12_areaOf_22 cX12_66 rfl rfl b0 ?_
        refine am_astore_n 25 dX12_areaOf_25 (by decide) ?_
        refine am_iload_n 26 dX12_areaOf_26 rfl ?_
        refine am_bipush 27 (v := 8) dX12_areaOf_27 (by decide) ?_
        refine am_irem 29 dX12_areaOf_29 (by decide) ?_
        rw [am_rem8 (by omega)]
        refine am_aload_n 30 dX12_areaOf_30 rfl ?_
        refine am_getfield 31 dX12_areaOf_31 fX12_135 (by repeat (first | assumption | exact am_ue | refine am_un (by first | assumption | decide | omega) ?_)) rfl ?_
        refine am_aload_n 34 dX12_areaOf_34 rfl ?_
        refine am_getfield 35 dX12_areaOf_35 fX12_138 (by repeat (first | assumption | exact am_ue | refine am_un (by first | assumption | decide | omega) ?_)) rfl ?_
        refine am_S3 38 (mc' := 0) (ms' := 0) (rc := 0) (rs := 0) dX12_areaOf_38 lX12_3 ⟨by decide, by decide⟩ (Nat.le_of_ble_eq_true rfl) (Nat.le_of_ble_eq_true rfl) (s_isIn_t q1.1 q1.2) ?_
        refine am_is_ct ?_
        refine am_if_eq 41 64 dX12_areaOf_41 rfl (fun c41 => absurd c41 (by decide)) (fun c41 => ?_)
        refine am_iload_n 44 dX12_areaOf_44 rfl ?_
        refine am_bipush 45 (v := 8) dX12_areaOf_45 (by decide) ?_
        refine am_idiv 47 dX12_areaOf_47 (by decide) ?_
        rw [am_div8 (by omega)]
        refine am_aload_n 48 dX12_areaOf_48 rfl ?_
        refine am_getfield 49 dX12_areaOf_49 fX12_141 (by repeat (first | assumption | exact am_ue | refine am_un (by first | assumption | decide | omega) ?_)) rfl ?_
        refine am_aload_n 52 dX12_areaOf_52 rfl ?_
        refine am_getfield 53 dX12_areaOf_53 fX12_144 (by repeat (first | assumption | exact am_ue | refine am_un (by first | assumption | decide | omega) ?_)) rfl ?_
        refine am_S3 56 (mc' := 0) (ms' := 0) (rc := 0) (rs := 0) dX12_areaOf_56 lX12_3 ⟨by decide, by decide⟩ (Nat.le_of_ble_eq_true rfl) (Nat.le_of_ble_eq_true rfl) (s_isIn_t q2.1 q2.2) ?_
        refine am_is_ct ?_
        refine am_if_eq 59 64 dX12_areaOf_59 rfl (fun c59 => absurd c59 (by decide)) (fun c59 => ?_)
        refine am_iload_n 62 dX12_areaOf_62 rfl ?_
        refine am_ireturn 63 dX12_areaOf_63 rfl rfl ?_
        exact ⟨by rw [e4], rfl, rfl⟩
      · refine am_iload_n 10 dX12_areaOf_10 rfl ?_
        refine am_if_lt 11 70 dX12_areaOf_11 rfl (fun c11 => absurd c11 n1) (fun c11 => ?_)
        refine am_aload_n 14 dX12_areaOf_14 rfl ?_
        refine am_getfield 15 dX12_areaOf_15 fX12_36 (by repeat (first | assumption | exact am_ue | refine am_un (by first | assumption | decide | omega) ?_)) rfl ?_
        refine am_iload_n 18 dX12_areaOf_18 rfl ?_
        refine am_V1 19 (mc' := 0) (ms' := 0) (rc := 0) (rs := 0) dX12_areaOf_19 lX12_102 ⟨by decide, by decide⟩ l0 (Nat.le_of_ble_eq_true rfl) (Nat.le_of_ble_eq_true rfl) (s_get l0 l5 (k := sz - j - 1) (by omega) (by omega) l6) ?_
        refine am_is_ct ?_
        refine am_cast 22 dX12_areaOf_22 cX12_66 rfl rfl b0 ?_
        refine am_astore_n 25 dX12_areaOf_25 (by decide) ?_
        refine am_iload_n 26 dX12_areaOf_26 rfl ?_
        refine am_bipush 27 (v := 8) dX12_areaOf_27 (by decide) ?_
        refine am_irem 29 dX12_areaOf_29 (by decide) ?_
        rw [am_rem8 (by omega)]
        refine am_aload_n 30 dX12_areaOf_30 rfl ?_
        refine am_getfield 31 dX12_areaOf_31 fX12_135 (by repeat (first | assumption | exact am_ue | refine am_un (by first | assumption | decide | omega) ?_)) rfl ?_
        refine am_aload_n 34 dX12_areaOf_34 rfl ?_
        refine am_getfield 35 dX12_areaOf_35 fX12_138 (by repeat (first | assumption | exact am_ue | refine am_un (by first | assumption | decide | omega) ?_)) rfl ?_
        refine am_S3 38 (mc' := 0) (ms' := 0) (rc := 0) (rs := 0) dX12_areaOf_38 lX12_3 ⟨by decide, by decide⟩ (Nat.le_of_ble_eq_true rfl) (Nat.le_of_ble_eq_true rfl) (s_isIn_t q1.1 q1.2) ?_
        refine am_is_ct ?_
        refine am_if_eq 41 64 dX12_areaOf_41 rfl (fun c41 => absurd c41 (by decide)) (fun c41 => ?_)
        refine am_iload_n 44 dX12_areaOf_44 rfl ?_
        refine am_bipush 45 (v := 8) dX12_areaOf_45 (by decide) ?_
        refine am_idiv 47 dX12_areaOf_47 (by decide) ?_
        rw [am_div8 (by omega)]
        refine am_aload_n 48 dX12_areaOf_48 rfl ?_
        refine am_getfield 49 dX12_areaOf_49 fX12_141 (by repeat (first | assumption | exact am_ue | refine am_un (by first | assumption | decide | omega) ?_)) rfl ?_
        refine am_aload_n 52 dX12_areaOf_52 rfl ?_
        refine am_getfield 53 dX12_areaOf_53 fX12_144 (by repeat (first | assumption | exact am_ue | refine am_un (by first | assumption | decide | omega) ?_)) rfl ?_
        refine am_S3 56 (mc' := 0) (ms' := 0) (rc := 0) (rs := 0) dX12_areaOf_56 lX12_3 ⟨by decide, by decide⟩ (Nat.le_of_ble_eq_true rfl) (Nat.le_of_ble_eq_true rfl) (s_isIn_f q2) ?_
        refine am_is_ct ?_
        refine am_if_eq 59 64 dX12_areaOf_59 rfl (fun c59 => ?_) (fun c59 => absurd (by decide) c59)
        exact out _ fun w => q2 w.2.2
    · refine am_iload_n 10 dX12_areaOf_10 rfl ?_
      refine am_if_lt 11 70 dX12_areaOf_11 rfl (fun c11 => absurd c11 n1) (fun c11 => ?_)
      refine am_aload_n 14 dX12_areaOf_14 rfl ?_
      refine am_getfield 15 dX12_areaOf_15 fX12_36 (by repeat (first | assumption | exact am_ue | refine am_un (by first | assumption | decide | omega) ?_)) rfl ?_
      refine am_iload_n 18 dX12_areaOf_18 rfl ?_
      refine am_V1 19 (mc' := 0) (ms' := 0) (rc := 0) (rs := 0) dX12_areaOf_19 lX12_102 ⟨by decide, by decide⟩ l0 (Nat.le_of_ble_eq_true rfl) (Nat.le_of_ble_eq_true rfl) (s_get l0 l5 (k := sz - j - 1) (by omega) (by omega) l6) ?_
      refine am_is_ct ?_
      refine am_cast 22 dX12_areaOf_22 cX12_66 rfl rfl b0 ?_
      refine am_astore_n 25 dX12_areaOf_25 (by decide) ?_
      refine am_iload_n 26 dX12_areaOf_26 rfl ?_
      refine am_bipush 27 (v := 8) dX12_areaOf_27 (by decide) ?_
      refine am_irem 29 dX12_areaOf_29 (by decide) ?_
      rw [am_rem8 (by omega)]
      refine am_aload_n 30 dX12_areaOf_30 rfl ?_
      refine am_getfield 31 dX12_areaOf_31 fX12_135 (by repeat (first | assumption | exact am_ue | refine am_un (by first | assumption | decide | omega) ?_)) rfl ?_
      refine am_aload_n 34 dX12_areaOf_34 rfl ?_
      refine am_getfield 35 dX12_areaOf_35 fX12_138 (by repeat (first | assumption | exact am_ue | refine am_un (by first | assumption | decide | omega) ?_)) rfl ?_
      refine am_S3 38 (mc' := 0) (ms' := 0) (rc := 0) (rs := 0) dX12_areaOf_38 lX12_3 ⟨by decide, by decide⟩ (Nat.le_of_ble_eq_true rfl) (Nat.le_of_ble_eq_true rfl) (s_isIn_f q1) ?_
      refine am_is_ct ?_
      refine am_if_eq 41 64 dX12_areaOf_41 rfl (fun c41 => ?_) (fun c41 => absurd (by decide) c41)
      exact out _ fun w => q1 ⟨w.1, w.2.1⟩
/-- a contact missed once more -/
def r_miss (κ : m_K) : m_K := (va_up κ.1 5 (κ.1 5 + 1), va_up (va_up κ.2.1 2 0) 3 0, κ.2.2)
/-- the ghost once the contact at c is lifted: a tap counted, if it is one -/
def y_tapG (G : Nat → m_K) (c : Nat) : Nat → m_K := if (G c).1 6 = 0 ∧ (G c).1 4 ≤ 4 then y_cG G ((G c).1 7) 0 1 else G
theorem s_rmiss {k c : Nat} (s : r_S m n f κ sz G th h di li cs) (hk : k < 5) (hc : cs k = some c) : AM mX12_miss 0 0 [.ref m, .int (nI k)] n f (fun o n' f' => o = .inl none ∧ n = n' ∧ ∃ cs' G', ((¬ 2 ≤ (G c).1 5 + 1 ∧ cs' = cs ∧ G' = va_up G c (r_miss (G c))) ∨ (2 ≤ (G c).1 5 + 1 ∧ cs' = va_up cs k none ∧ G' = y_nG (y_tapG (va_up G c (r_miss (G c))) c) 3)) ∧ r_S m n f' κ sz G' th h di li cs' ∧ r_go m n κ κ f f') := by
  have s1 := s
  obtain ⟨h0, ⟨c3, cw⟩, har, hty⟩ := s
  have hc1 := cw k hk c hc
  obtain ⟨ap, cl, kk, g0, g1, g2, g3, g4, g5, rfl, g7⟩ := (hty c).2.1 hc1
  have hcw : ∀ j, j < 5 → ∀ c, va_up cs k none j = some c → κ c = 1 := by
    intro j hj c' hc'
    by_cases e : j = k
    · rw [e, am_up_eq] at hc'; cases hc'
    · rw [am_up_ne e] at hc'; exact cw j hj c' hc'
  have hcm5 := (s1.cn hk hc).2.1
  generalize hG1 : va_up G c (r_miss (G c)) = G1
  have hG1c : G1 c = r_miss (G c) := by rw [← hG1, am_up_eq]
  generalize hQ : (fun (o : Option Value ⊕ Nat) (n' : Nat) (f' : Nat → am_C) => o = .inl none ∧ n = n' ∧ ∃ cs' G', ((¬ 2 ≤ (G c).1 5 + 1 ∧ cs' = cs ∧ G' = G1) ∨ (2 ≤ (G c).1 5 + 1 ∧ cs' = va_up cs k none ∧ G' = y_nG (y_tapG G1 c) 3)) ∧ r_S m n f' κ sz G' th h di li cs' ∧ r_go m n κ κ f f') = Q
  have hend : 2 ≤ (G c).1 5 + 1 → ∀ (G2 : Nat → m_K) (f1 : Nat → am_C), y_tapG G1 c = G2 → r_S m n f1 κ sz G2 th h di li cs → r_go m n κ κ f f1 → AW mX12_miss 0 0 58 [some (.ref m), some (.int (nI k)), some (.ref c)] [] n f1 Q := by
    intro h2m G2 f1 eG s2 g2
    obtain ⟨e0, ⟨e3, -⟩, ea, et⟩ := id s2
    have hx : ∀ x, x ≠ m → x ≠ m + 3 → va_up (va_up f1 (m + 3) (.inl (7, 5, .inr (.inr (.inr (.inr (va_up cs k none))))))) m (r_m12 m th h di li (r_n G2 0) (r_n G2 1) (r_n G2 2) (r_n G2 3 + 1) (r_n G2 4)) x = f1 x := fun x h1 h2 => by rw [am_up_ne h1, am_up_ne h2]
    have g : r_go m n κ κ f1 (va_up (va_up f1 (m + 3) (.inl (7, 5, .inr (.inr (.inr (.inr (va_up cs k none))))))) m (r_m12 m th h di li (r_n G2 0) (r_n G2 1) (r_n G2 2) (r_n G2 3 + 1) (r_n G2 4))) := ⟨fun _ _ => rfl, fun x _ _ h1 h2 => hx x h1 h2⟩
    have fin : r_S m n (va_up (va_up f1 (m + 3) (.inl (7, 5, .inr (.inr (.inr (.inr (va_up cs k none))))))) m (r_m12 m th h di li (r_n G2 0) (r_n G2 1) (r_n G2 2) (r_n G2 3 + 1) (r_n G2 4))) κ sz (y_nG G2 3) th h di li (va_up cs k none) := by
      refine ⟨?_, ⟨am_un (by omega) am_ue, hcw⟩, ea.on et (Nat.le_refl _) (fun _ _ => rfl) (fun x h1 h2 h3 => hx x (by omega) (by omega)) (fun k hk => y_nG_x (by omega)), (et.on (Nat.le_refl _) fun x hx2 => hx x (fun z => hx2 (by rw [z]; exact s2.k0 (by omega))) (fun z => hx2 (by rw [z]; exact s2.k0 (by omega)))).ghost fun x hx => y_nG_x (by omega)⟩
      rw [r_n_up, r_n_ne (by decide), r_n_ne (by decide), r_n_ne (by decide), r_n_ne (by decide)]
      exact am_ue
    unfold r_m12 at e0
    refine am_aload_n 58 dX12_miss_58 rfl ?_
    refine am_getfield 59 dX12_miss_59 fX12_29 (by repeat (first | assumption | exact am_ue | refine am_un (by first | assumption | decide | omega) ?_)) rfl ?_
    refine am_iload_n 62 dX12_miss_62 rfl ?_
    refine am_null 63 dX12_miss_63 ?_
    refine am_aastoreN 64 dX12_miss_64 rfl e3 (am_ix hk (by decide)) ?_
    rw [nI_clamp (n := k) (by omega)]
    refine am_aload_n 65 dX12_miss_65 rfl ?_
    refine am_dup 66 dX12_miss_66 rfl ?_
    refine am_getfield 67 dX12_miss_67 fX12_132 (am_un (by omega) e0) rfl ?_
    refine am_iconst 70 (v := 1) dX12_miss_70 (by decide) ?_
    refine am_iadd 71 dX12_miss_71 ?_
    refine am_putfield 72 dX12_miss_72 pX12_132 (am_un (by omega) e0) rfl rfl (Nat.le_of_ble_eq_true rfl) ?_
    refine am_return 75 dX12_miss_75 rfl ?_
    subst hQ
    exact ⟨rfl, rfl, _, _, Or.inr ⟨h2m, rfl, rfl⟩, by rw [eG]; exact fin, g2.trans g (Nat.le_refl _)⟩
  have hmid : ∀ f1 : Nat → am_C, r_S m n f1 κ sz G1 th h di li cs → r_go m n κ κ f f1 → f1 c = .inr (9, r_kF ap (r_miss (G c))) → AW mX12_miss 0 0 27 [some (.ref m), some (.int (nI k)), some (.ref c)] [] n f1 Q := by
    intro f1 s2 g2 hκ
    have s3 := s2
    obtain ⟨e0, ⟨e3, -⟩, -, et⟩ := s2
    unfold r_m12 at e0
    unfold r_kF at hκ
    have no : ¬ ((r_miss (G c)).1 6 = 0 ∧ (r_miss (G c)).1 4 ≤ 4) → y_tapG G1 c = G1 := fun q => by
      unfold y_tapG
      rw [hG1c, if_neg q]
    have yes : ((r_miss (G c)).1 6 = 0 ∧ (r_miss (G c)).1 4 ≤ 4) → y_tapG G1 c = y_cG G1 ((G1 c).1 7) 0 1 := fun q => by
      unfold y_tapG
      rw [hG1c, if_pos q]
    refine am_aload_n 27 dX12_miss_27 rfl ?_
    refine am_getfield 28 dX12_miss_28 fX12_119 (by repeat (first | assumption | exact am_ue | refine am_un (by first | assumption | decide | omega) ?_)) rfl ?_
    refine am_iconst 31 (v := 2) dX12_miss_31 (by decide) ?_
    refine am_icmp_ge 32 36 dX12_miss_32 rfl (fun c32 => ?_) (fun c32 => ?_)
    · refine am_aload_n 36 dX12_miss_36 rfl ?_
      refine am_getfield 37 dX12_miss_37 fX12_109 (by repeat (first | assumption | exact am_ue | refine am_un (by first | assumption | decide | omega) ?_)) rfl ?_
      refine am_if_ne 40 58 dX12_miss_40 rfl (fun c40 => ?_) (fun c40 => ?_)
      · first | exact hend c32 _ _ (yes ⟨Classical.byContradiction c40, Int32.not_lt.mp c48⟩) s4 (g2.trans g4 (Nat.le_refl _)) | exact hend c32 _ _ (no fun q => c40 q.1) s3 g2 | exact hend c32 _ _ (no fun q => absurd c48 (Int32.not_lt.mpr q.2)) s3 g2 | exact hend c32 _ _ (yes ⟨c40, Int32.not_lt.mp c48⟩) s4 (g2.trans g4 (Nat.le_refl _))
      · refine am_aload_n 43 dX12_miss_43 rfl ?_
        refine am_getfield 44 dX12_miss_44 fX12_129 (by repeat (first | assumption | exact am_ue | refine am_un (by first | assumption | decide | omega) ?_)) rfl ?_
        refine am_iconst 47 (v := 4) dX12_miss_47 (by decide) ?_
        refine am_icmp_gt 48 58 dX12_miss_48 rfl (fun c48 => ?_) (fun c48 => ?_)
        · first | exact hend c32 _ _ (yes ⟨Classical.byContradiction c40, Int32.not_lt.mp c48⟩) s4 (g2.trans g4 (Nat.le_refl _)) | exact hend c32 _ _ (no fun q => c40 q.1) s3 g2 | exact hend c32 _ _ (no fun q => absurd c48 (Int32.not_lt.mpr q.2)) s3 g2 | exact hend c32 _ _ (yes ⟨c40, Int32.not_lt.mp c48⟩) s4 (g2.trans g4 (Nat.le_refl _))
        · refine am_aload_n 51 dX12_miss_51 rfl ?_
          refine am_aload_n 52 dX12_miss_52 rfl ?_
          refine am_iconst 53 (v := 0) dX12_miss_53 (by decide) ?_
          refine am_iconst 54 (v := 1) dX12_miss_54 (by decide) ?_
          refine am_V3 55 (mc' := 0) (ms' := 0) (rc := 0) (rs := 0) dX12_miss_55 lX12_112 ⟨by decide, by decide⟩ e0 (Nat.le_of_ble_eq_true rfl) (Nat.le_of_ble_eq_true rfl) (s_rcountS (j := 0) s3 hc1 (by decide)) ?_
          rintro o n' f2 ⟨rfl, rfl, s4, g4⟩
          refine am_ctI ?_
          first | exact hend c32 _ _ (yes ⟨Classical.byContradiction c40, Int32.not_lt.mp c48⟩) s4 (g2.trans g4 (Nat.le_refl _)) | exact hend c32 _ _ (no fun q => c40 q.1) s3 g2 | exact hend c32 _ _ (no fun q => absurd c48 (Int32.not_lt.mpr q.2)) s3 g2 | exact hend c32 _ _ (yes ⟨c40, Int32.not_lt.mp c48⟩) s4 (g2.trans g4 (Nat.le_refl _))
    · refine am_return 35 dX12_miss_35 rfl ?_
      subst hQ
      exact ⟨rfl, rfl, cs, G1, Or.inl ⟨c32, rfl, rfl⟩, s3, g2⟩
  unfold r_kF at g0
  unfold r_m12 at h0
  have hcm : c ≠ m := by omega
  have hcm3 : c ≠ m + 3 := by omega
  show AW mX12_miss 0 0 0 [some (.ref m), some (.int (nI k)), none] [] n f Q
  refine am_aload_n 0 dX12_miss_0 rfl ?_
  refine am_getfield 1 dX12_miss_1 fX12_29 (by repeat (first | assumption | exact am_ue | refine am_un (by first | assumption | decide | omega) ?_)) rfl ?_
  refine am_iload_n 4 dX12_miss_4 rfl ?_
  refine am_aaload 5 dX12_miss_5 rfl (by repeat (first | assumption | exact am_ue | refine am_un (by first | assumption | decide | omega) ?_)) (am_ix hk (by decide)) ?_
  rw [nI_clamp (n := k) (by omega), hc, show va_rf (some c) = Value.ref c from rfl]
  refine am_astore_n 6 dX12_miss_6 (by decide) ?_
  refine am_aload_n 7 dX12_miss_7 rfl ?_
  refine am_dup 8 dX12_miss_8 rfl ?_
  refine am_getfield 9 dX12_miss_9 fX12_119 (by repeat (first | assumption | exact am_ue | refine am_un (by first | assumption | decide | omega) ?_)) rfl ?_
  refine am_iconst 12 (v := 1) dX12_miss_12 (by decide) ?_
  refine am_iadd 13 dX12_miss_13 ?_
  refine am_putfield 14 dX12_miss_14 pX12_119 (by repeat (first | assumption | exact am_ue | refine am_un (by first | assumption | decide | omega) ?_)) rfl rfl (Nat.le_of_ble_eq_true rfl) ?_
  refine am_aload_n 17 dX12_miss_17 rfl ?_
  refine am_fconst0 18 dX12_miss_18 ?_
  refine am_putfield 19 dX12_miss_19 pX12_122 (by repeat (first | assumption | exact am_ue | refine am_un (by first | assumption | decide | omega) ?_)) rfl rfl (Nat.le_of_ble_eq_true rfl) ?_
  refine am_aload_n 22 dX12_miss_22 rfl ?_
  refine am_fconst0 23 dX12_miss_23 ?_
  refine am_putfield 24 dX12_miss_24 pX12_126 (by repeat (first | assumption | exact am_ue | refine am_un (by first | assumption | decide | omega) ?_)) rfl rfl (Nat.le_of_ble_eq_true rfl) ?_
  generalize hX : va_up _ c _ = f1
  have e1 : f1 c = .inr (9, r_kF ap (r_miss (G c))) := by rw [← hX, am_up_eq]; rfl
  have e2 : ∀ z, z ≠ c → f1 z = f z := fun z hz => by rw [← hX, am_up_ne hz, am_up_ne hz, am_up_ne hz]
  have hkk : m_kOk (r_miss (G c)) := by
    obtain ⟨q0, q1, q2, q3, q4, q5, q6, q7, q8⟩ := g2
    exact ⟨q0, q1, fB_0 (by decide) (by decide), fB_0 (by decide) (by decide), q4, q5, q6, q7, q8⟩
  obtain ⟨s2, g2'⟩ := s1.kin (hty.conG (G2 := G1) hc1 e2 (fun z hz => by rw [← hG1, am_up_ne hz]) ⟨ap, cl, _, e1, g1, hkk, g3, g4, g5, hG1c.symm, g7⟩) (fun z hz => e2 z (fun q => by rw [q] at hz; omega)) (fun j hj => by rw [← hG1, am_up_ne (by omega)])
  exact hmid f1 s2 g2' e1
/-- one that may claim -/
def y_mc (cs : Nat → Option Nat) (G : Nat → m_K) (k : Nat) : Prop := ∃ c, cs k = some c ∧ (G c).1 6 = 0 ∧ (G c).1 1 ≠ 0
theorem s_rmayClaim {k : Nat} (s : r_S m n f κ sz G th h di li cs) (hk : k < 5) : AM mX12_mayClaim 0 0 [.ref m, .int (nI k)] n f (fun o n' f' => n = n' ∧ f = f' ∧ ∃ v, o = .inl (some (.int v)) ∧ ((v = 0 ∧ ¬ y_mc cs G k) ∨ (v ≠ 0 ∧ y_mc cs G k))) := by
  obtain ⟨h0, ⟨c3, cw⟩, har, hty⟩ := s
  unfold r_m12 at h0
  show AW mX12_mayClaim 0 0 0 [some (.ref m), some (.int (nI k))] [] n f _
  rcases hc : cs k with _ | c
  · have nm : ¬ y_mc cs G k := fun ⟨c', e, _⟩ => by rw [hc] at e; cases e
    refine am_aload_n 0 dX12_mayClaim_0 rfl ?_
    refine am_getfield 1 dX12_mayClaim_1 fX12_29 (by repeat (first | assumption | exact am_ue | refine am_un (by first | assumption | decide | omega) ?_)) rfl ?_
    refine am_iload_n 4 dX12_mayClaim_4 rfl ?_
    refine am_aaload 5 dX12_mayClaim_5 rfl (by repeat (first | assumption | exact am_ue | refine am_un (by first | assumption | decide | omega) ?_)) (am_ix hk (by decide)) ?_
    rw [nI_clamp (n := k) (by omega), hc, show va_rf none = Value.null from rfl]
    refine am_ifnullN 6 (tgt := 37) dX12_mayClaim_6 rfl ?_
    refine am_iconst 37 (v := 0) dX12_mayClaim_37 (by decide) ?_
    refine am_ireturn 38 dX12_mayClaim_38 rfl rfl ?_
    exact ⟨rfl, rfl, _, rfl, Or.inl ⟨rfl, nm⟩⟩
  · obtain ⟨ap, cl, kk, g0, g1, g2, g3, g4, g5, rfl, g7⟩ := (hty c).2.1 (cw k hk c hc)
    unfold r_kF at g0
    have no : ¬ ((G c).1 6 = 0 ∧ (G c).1 1 ≠ 0) → ¬ y_mc cs G k := fun q ⟨c', e, w⟩ => by
      rw [hc] at e
      cases e
      exact q w
    refine am_aload_n 0 dX12_mayClaim_0 rfl ?_
    refine am_getfield 1 dX12_mayClaim_1 fX12_29 (by repeat (first | assumption | exact am_ue | refine am_un (by first | assumption | decide | omega) ?_)) rfl ?_
    refine am_iload_n 4 dX12_mayClaim_4 rfl ?_
    refine am_aaload 5 dX12_mayClaim_5 rfl (by repeat (first | assumption | exact am_ue | refine am_un (by first | assumption | decide | omega) ?_)) (am_ix hk (by decide)) ?_
    rw [nI_clamp (n := k) (by omega), hc, show va_rf (some c) = Value.ref c from rfl]
    refine am_ifnull 6 dX12_mayClaim_6 ?_
    refine am_aload_n 9 dX12_mayClaim_9 rfl ?_
    refine am_getfield 10 dX12_mayClaim_10 fX12_29 (by repeat (first | assumption | exact am_ue | refine am_un (by first | assumption | decide | omega) ?_)) rfl ?_
    refine am_iload_n 13 dX12_mayClaim_13 rfl ?_
    refine am_aaload 14 dX12_mayClaim_14 rfl (by repeat (first | assumption | exact am_ue | refine am_un (by first | assumption | decide | omega) ?_)) (am_ix hk (by decide)) ?_
    rw [nI_clamp (n := k) (by omega), hc, show va_rf (some c) = Value.ref c from rfl]
    refine am_getfield 15 dX12_mayClaim_15 fX12_109 (by repeat (first | assumption | exact am_ue | refine am_un (by first | assumption | decide | omega) ?_)) rfl ?_
    refine am_if_ne 18 37 dX12_mayClaim_18 rfl (fun c18 => ?_) (fun c18 => ?_)
    · refine am_iconst 37 (v := 0) dX12_mayClaim_37 (by decide) ?_
      refine am_ireturn 38 dX12_mayClaim_38 rfl rfl ?_
      first | exact ⟨rfl, rfl, _, rfl, Or.inl ⟨rfl, no fun q => c18 q.1⟩⟩ | exact ⟨rfl, rfl, _, rfl, Or.inl ⟨rfl, no fun q => q.2 c30⟩⟩ | exact ⟨rfl, rfl, _, rfl, Or.inr ⟨by decide, c, hc, c18, c30⟩⟩ | exact ⟨rfl, rfl, _, rfl, Or.inr ⟨by decide, c, hc, Classical.byContradiction c18, c30⟩⟩
    · refine am_aload_n 21 dX12_mayClaim_21 rfl ?_
      refine am_getfield 22 dX12_mayClaim_22 fX12_29 (by repeat (first | assumption | exact am_ue | refine am_un (by first | assumption | decide | omega) ?_)) rfl ?_
      refine am_iload_n 25 dX12_mayClaim_25 rfl ?_
      refine am_aaload 26 dX12_mayClaim_26 rfl (by repeat (first | assumption | exact am_ue | refine am_un (by first | assumption | decide | omega) ?_)) (am_ix hk (by decide)) ?_
      rw [nI_clamp (n := k) (by omega), hc, show va_rf (some c) = Value.ref c from rfl]
      refine am_getfield 27 dX12_mayClaim_27 fX12_164 (by repeat (first | assumption | exact am_ue | refine am_un (by first | assumption | decide | omega) ?_)) rfl ?_
      refine am_if_eq 30 37 dX12_mayClaim_30 rfl (fun c30 => ?_) (fun c30 => ?_)
      · refine am_iconst 37 (v := 0) dX12_mayClaim_37 (by decide) ?_
        refine am_ireturn 38 dX12_mayClaim_38 rfl rfl ?_
        first | exact ⟨rfl, rfl, _, rfl, Or.inl ⟨rfl, no fun q => c18 q.1⟩⟩ | exact ⟨rfl, rfl, _, rfl, Or.inl ⟨rfl, no fun q => q.2 c30⟩⟩ | exact ⟨rfl, rfl, _, rfl, Or.inr ⟨by decide, c, hc, c18, c30⟩⟩ | exact ⟨rfl, rfl, _, rfl, Or.inr ⟨by decide, c, hc, Classical.byContradiction c18, c30⟩⟩
      · refine am_iconst 33 (v := 1) dX12_mayClaim_33 (by decide) ?_
        refine am_goto 34 (tgt := 38) dX12_mayClaim_34 rfl ?_
        refine am_ireturn 38 dX12_mayClaim_38 rfl rfl ?_
        first | exact ⟨rfl, rfl, _, rfl, Or.inl ⟨rfl, no fun q => c18 q.1⟩⟩ | exact ⟨rfl, rfl, _, rfl, Or.inl ⟨rfl, no fun q => q.2 c30⟩⟩ | exact ⟨rfl, rfl, _, rfl, Or.inr ⟨by decide, c, hc, c18, c30⟩⟩ | exact ⟨rfl, rfl, _, rfl, Or.inr ⟨by decide, c, hc, Classical.byContradiction c18, c30⟩⟩
theorem s_rclaim {k c cl : Nat} (s : r_S m n f κ sz G th h di li cs) (hk : k < 5) (hc : cs k = some c) (hcl : cl ≤ 3) : AM mX12_claim 0 0 [.ref m, .int (nI k), .int (nI cl)] n f (fun o n' f' => o = .inl none ∧ n = n' ∧ r_S m n f' κ sz (y_cG (va_up G c (m_claim (G c) cl)) ((G c).1 7) cl 1) th h di li cs ∧ r_go m n κ κ f f') := by
  have s1 := s
  obtain ⟨h0, ⟨c3, cw⟩, har, hty⟩ := s
  have hc1 := cw k hk c hc
  obtain ⟨ap, cl0, kk, g0, g1, g2, g3, g4, g5, rfl, g7⟩ := (hty c).2.1 hc1
  unfold r_kF at g0
  unfold r_m12 at h0
  have hcm : m ≠ c := by have := (s1.cn hk hc).2.1; omega
  have hcm3 : m + 3 ≠ c := by have := (s1.cn hk hc).2.1; omega
  have hX : ∃ f1 : Nat → am_C, f1 = va_up f c (.inr (9, r_kF ap (m_claim (G c) cl))) := ⟨_, rfl⟩
  obtain ⟨f1, hX⟩ := hX
  have e1 : f1 c = .inr (9, r_kF ap (m_claim (G c) cl)) := by rw [hX, am_up_eq]
  have e2 : ∀ z, z ≠ c → f1 z = f z := fun z hz => by rw [hX, am_up_ne hz]
  obtain ⟨s2, g2'⟩ := s1.kin (hty.conG (G2 := va_up G c (m_claim (G c) cl)) hc1 e2 (fun z hz => am_up_ne hz) ⟨ap, cl, _, e1, g1, g2, g3, hcl, rfl, am_up_eq.symm, g7⟩) (fun z hz => e2 z (fun q => by rw [q] at hz; omega)) (fun j hj => am_up_ne (by have := (s1.cn hk hc).2.1; omega))
  have h0' : f1 m = _ := (e2 m hcm).trans h0
  have c3' : f1 (m + 3) = _ := (e2 _ hcm3).trans c3
  have hcnt := s_rcountS (by1 := 1) s2 hc1 hcl
  rw [show (va_up G c (m_claim (G c) cl) c).1 7 = (G c).1 7 by rw [am_up_eq]; rfl] at hcnt
  show AW mX12_claim 0 0 0 [some (.ref m), some (.int (nI k)), some (.int (nI cl))] [] n f _
  refine am_aload_n 0 dX12_claim_0 rfl ?_
  refine am_getfield 1 dX12_claim_1 fX12_29 (by repeat (first | assumption | exact am_ue | refine am_un (by first | assumption | decide | omega) ?_)) rfl ?_
  refine am_iload_n 4 dX12_claim_4 rfl ?_
  refine am_aaload 5 dX12_claim_5 rfl (by repeat (first | assumption | exact am_ue | refine am_un (by first | assumption | decide | omega) ?_)) (am_ix hk (by decide)) ?_
  rw [nI_clamp (n := k) (by omega), hc, show va_rf (some c) = Value.ref c from rfl]
  refine am_iload_n 6 dX12_claim_6 rfl ?_
  refine am_putfield 7 dX12_claim_7 pX12_109 (by repeat (first | assumption | exact am_ue | refine am_un (by first | assumption | decide | omega) ?_)) rfl rfl (Nat.le_of_ble_eq_true rfl) ?_
  generalize hY : va_up f c _ = fy
  obtain rfl : fy = f1 := hY.symm.trans hX.symm
  refine am_aload_n 10 dX12_claim_10 rfl ?_
  refine am_aload_n 11 dX12_claim_11 rfl ?_
  refine am_getfield 12 dX12_claim_12 fX12_29 h0' rfl ?_
  refine am_iload_n 15 dX12_claim_15 rfl ?_
  refine am_aaload 16 dX12_claim_16 rfl c3' (am_ix hk (by decide)) ?_
  rw [nI_clamp (n := k) (by omega), hc, show va_rf (some c) = Value.ref c from rfl]
  refine am_iload_n 17 dX12_claim_17 rfl ?_
  refine am_iconst 18 (v := 1) dX12_claim_18 (by decide) ?_
  refine am_V3 19 (mc' := 0) (ms' := 0) (rc := 0) (rs := 0) dX12_claim_19 lX12_112 ⟨by decide, by decide⟩ h0' (Nat.le_of_ble_eq_true rfl) (Nat.le_of_ble_eq_true rfl) (hcnt) ?_
  rintro o n' f2 ⟨rfl, rfl, s4, g4⟩
  refine am_ctI ?_
  refine am_return 22 dX12_claim_22 rfl ?_
  exact ⟨rfl, rfl, s4, g2'.trans g4 (Nat.le_refl _)⟩
end RNow
