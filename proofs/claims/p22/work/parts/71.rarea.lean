/-! ===== the reference's calls in any state: wipe, area ===== -/
section RArea
variable {G : Nat → m_K}
variable {m n sz l el a : Nat} {f : Nat → am_C} {κ : Nat → Nat} {th h di li : Int32} {cs : Nat → Option Nat} {w b : Nat → Int32} {R : Nat → Option Nat}
set_option maxHeartbeats 1000000 in
theorem s_rwipe {M : Nat → Prop} {T : Nat} {S : y_H} {A : Nat → Nat → Int32} (s : r_M m n f κ sz G th h di li cs w b) (hR : y_R M sz A S cs G) (hI : y_I sz T S) : AM mX12_wipe 0 0 [.ref m] n f (fun o n' f' => (∃ v, o = .inl (some (.int v))) ∧ n = n' ∧ ∃ cs' G', (∀ k, k < 5 → cs' k = none) ∧ r_M m n f' κ sz G' 0 h di li cs' (fun _ => 0) (fun _ => h) ∧ r_out9 m n κ κ f f' ∧ y_R M sz A (y_it y_wip S 5) cs' G') := by
  have ht := s.1.2.2.1.1
  have hIw := y_I_wip hI ht
  obtain ⟨S5, hS5⟩ : ∃ S5, y_it y_wip S 5 = S5 := ⟨_, rfl⟩
  rw [hS5]
  obtain ⟨⟨h0, -⟩, -⟩ := id s
  obtain ⟨s1, g1⟩ := s.scal (th' := 0) (h' := h) (di' := di) (li' := li)
  generalize hQ : (fun (o : Option Value ⊕ Nat) (n' : Nat) (f' : Nat → am_C) => (∃ v, o = .inl (some (.int v))) ∧ n = n' ∧ ∃ cs' G', (∀ k, k < 5 → cs' k = none) ∧ r_M m n f' κ sz G' 0 h di li cs' (fun _ => 0) (fun _ => h) ∧ r_out9 m n κ κ f f' ∧ y_R M sz A S5 cs' G') = Q
  -- the bases, and what waits
  have tail : ∀ (g : Nat → am_C) (cs1 : Nat → Option Nat) (x1 : Int32) (G2 : Nat → m_K), y_R M sz A S5 cs1 G2 → (∀ k, k < 5 → cs1 k = none) → r_M m n g κ sz G2 0 h di li cs1 w b → r_out9 m n κ κ f g → AW mX12_wipe 0 0 37 [some (.ref m), some (.int x1), some (.int (nI 5))] [] n g Q := by
    intro g cs1 x1 G2 hr hcs a g1
    have a0 := a
    obtain ⟨⟨e0, -⟩, e1, e2⟩ := a
    unfold r_m12 at e0
    refine am_iconst 37 (v := 0) dX12_wipe_37 (by decide) ?_
    refine am_istore_n 38 dX12_wipe_38 (by decide) ?_
    rw [show g = va_up g (m + 1) (.inl (0, 48, .inl b)) from (am_self e1).symm]
    refine am_for 48 (fun k (y : Nat → Int32) => ∀ x, x < k → y x = h) (fun k y => AW mX12_wipe 0 0 39 [some (.ref m), some (.int x1), some (.int (nI k))] [] n (va_up g (m + 1) (.inl (0, 48, .inl y))) Q) ?_ ?_ 0 b (by omega) (fun x hx => by omega)
    · intro y hy
      refine AW.ints (fun _ => h) am_ue hy ?_
      rw [am_uu]
      obtain ⟨a1, g2⟩ := a0.arr (f' := va_up g (m + 1) (.inl (0, 48, .inl (fun _ => h)))) (w' := w) (b' := fun _ => h) (fun x h1 h2 => am_up_ne h1) am_ue (am_un (by omega) e2)
      obtain ⟨a2, g3⟩ := a1.arr (f' := va_up (va_up g (m + 1) (.inl (0, 48, .inl (fun _ => h)))) (m + 2) (.inl (0, 48, .inl (fun _ => 0)))) (w' := fun _ => 0) (b' := fun _ => h) (fun x h1 h2 => am_up_ne h2) (am_un (by omega) am_ue) am_ue
      refine am_iload_n 39 dX12_wipe_39 rfl ?_
      refine am_bipush 40 (v := 48) dX12_wipe_40 (by decide) ?_
      refine am_icmp_ge 42 61 dX12_wipe_42 rfl (fun c42 => ?_) (fun c42 => absurd (by decide) c42)
      refine am_aload_n 61 dX12_wipe_61 rfl ?_
      refine am_V0 62 (mc' := 0) (ms' := 0) (rc := 0) (rs := 0) dX12_wipe_62 lX12_233 ⟨by decide, by decide⟩ (am_un (by omega) e0) (Nat.le_of_ble_eq_true rfl) (Nat.le_of_ble_eq_true rfl) (s_rclean a1) ?_
      refine am_is_ct ?_
      refine am_iload_n 65 dX12_wipe_65 rfl ?_
      refine am_ireturn 66 dX12_wipe_66 rfl rfl ?_
      subst hQ
      exact ⟨⟨_, rfl⟩, rfl, cs1, G2, hcs, a2, (g1.trans g2 (Nat.le_refl _)).trans g3 (Nat.le_refl _), hr⟩
    · intro k y hk hy ih
      refine am_iload_n 39 dX12_wipe_39 rfl ?_
      refine am_bipush 40 (v := 48) dX12_wipe_40 (by decide) ?_
      refine am_icmp_ge 42 61 dX12_wipe_42 rfl (fun c42 => absurd c42 (nI_ge hk (by decide))) (fun c42 => ?_)
      refine am_aload_n 45 dX12_wipe_45 rfl ?_
      refine am_getfield 46 dX12_wipe_46 fX12_13 (am_un (by omega) e0) rfl ?_
      refine am_iload_n 49 dX12_wipe_49 rfl ?_
      refine am_aload_n 50 dX12_wipe_50 rfl ?_
      refine am_getfield 51 dX12_wipe_51 fX12_47 (am_un (by omega) e0) rfl ?_
      refine am_iastore 54 dX12_wipe_54 rfl am_ue (am_ix hk (by decide)) ?_
      rw [nI_clamp (n := k) (by omega), am_uu]
      refine am_iinc 55 (v := nI (k + 1)) dX12_wipe_55 rfl (nI_1 (k)) (by decide) ?_
      refine am_goto 58 (tgt := 39) dX12_wipe_58 rfl ?_
      refine ih _ (fun x hx => ?_)
      by_cases e : x = k
      · subst e; rw [am_up_eq]
      · rw [am_up_ne e]; exact hy x (by omega)
  unfold r_m12 at h0
  show AW mX12_wipe 0 0 0 [some (.ref m), none, none] [] n f Q
  refine am_aload_n 0 dX12_wipe_0 rfl ?_
  refine am_iconst 1 (v := 0) dX12_wipe_1 (by decide) ?_
  refine am_putfield 2 dX12_wipe_2 pX12_40 (by repeat (first | assumption | exact am_ue | refine am_un (by first | assumption | decide | omega) ?_)) rfl rfl (Nat.le_of_ble_eq_true rfl) ?_
  generalize hf1 : va_up f m _ = f1
  have hf1' : va_up f m (r_m12 m 0 h di li (r_n G 0) (r_n G 1) (r_n G 2) (r_n G 3) (r_n G 4)) = f1 := hf1
  rw [hf1'] at s1 g1
  obtain ⟨⟨e0, -⟩, -⟩ := id s1
  unfold r_m12 at e0
  refine am_aload_n 5 dX12_wipe_5 rfl ?_
  refine am_V0 6 (mc' := 0) (ms' := 0) (rc := 0) (rs := 0) dX12_wipe_6 lX12_236 ⟨by decide, by decide⟩ e0 (Nat.le_of_ble_eq_true rfl) (Nat.le_of_ble_eq_true rfl) (s_rcontactsNow s1.1) ?_
  refine am_is_ct ?_
  refine am_istore_n 9 dX12_wipe_9 (by decide) ?_
  refine am_iconst 10 (v := 0) dX12_wipe_10 (by decide) ?_
  refine am_istore_n 11 dX12_wipe_11 (by decide) ?_
  generalize nI (m_N (y_cn cs) 5) = v
  refine am_for 5 (fun k (st : (Nat → am_C) × (Nat → Option Nat) × (Nat → m_K)) => r_M m n st.1 κ sz st.2.2 0 h di li st.2.1 w b ∧ r_go m n κ κ f st.1 ∧ y_R M sz A (y_it y_wip S k) st.2.1 st.2.2 ∧ ∀ j, j < k → st.2.1 j = none) (fun k st => AW mX12_wipe 0 0 12 [some (.ref m), some (.int v), some (.int (nI k))] [] n st.1 Q) ?_ ?_ 0 (f1, cs, G) (by omega) ⟨s1, g1, hR, fun j hj => by omega⟩
  · rintro ⟨g, cs1, G⟩ ⟨s2, g2, hr, hn⟩
    have hr : y_R M sz A (y_it y_wip S 5) cs1 G := hr
    rw [hS5] at hr
    show AW mX12_wipe 0 0 12 [some (.ref m), some (.int v), some (.int (nI 5))] [] n g Q
    refine am_iload_n 12 dX12_wipe_12 rfl ?_
    refine am_iconst 13 (v := 5) dX12_wipe_13 (by decide) ?_
    refine am_icmp_ge 14 37 dX12_wipe_14 rfl (fun c14 => ?_) (fun c14 => absurd (by decide) c14)
    exact tail _ _ _ _ hr hn s2 g2.out
  · rintro k ⟨g, cs1, G⟩ hk ⟨s2, g2, hr, hn⟩ ih
    have hr : y_R M sz A (y_it y_wip S k) cs1 G := hr
    have iIk := hIw k (by omega)
    have s2 : r_M m n g κ sz G 0 h di li cs1 w b := s2
    show AW mX12_wipe 0 0 12 [some (.ref m), some (.int v), some (.int (nI k))] [] n g Q
    have hn : ∀ j, j < k → cs1 j = none := hn
    obtain ⟨⟨y0, ⟨y3, yw⟩, -⟩, -⟩ := id s2
    unfold r_m12 at y0
    have nx : ∀ (g' : Nat → am_C) (cs' : Nat → Option Nat) (G' : Nat → m_K), r_M m n g' κ sz G' 0 h di li cs' w b → r_go m n κ κ f g' → y_R M sz A (y_wip (y_it y_wip S k) k) cs' G' → (∀ j, j < k + 1 → cs' j = none) → AW mX12_wipe 0 0 31 [some (.ref m), some (.int v), some (.int (nI k))] [] n g' Q := by
      intro g' cs' G' a b' d c
      refine am_iinc 31 (v := nI (k + 1)) dX12_wipe_31 rfl (nI_1 (k)) (by decide) ?_
      refine am_goto 34 (tgt := 12) dX12_wipe_34 rfl ?_
      exact ih (_, _, _) ⟨a, b', d, c⟩
    clear ih
    generalize y_it y_wip S k = Sk at *
    rcases hc : cs1 k with _ | c
    · refine am_iload_n 12 dX12_wipe_12 rfl ?_
      refine am_iconst 13 (v := 5) dX12_wipe_13 (by decide) ?_
      refine am_icmp_ge 14 37 dX12_wipe_14 rfl (fun c14 => absurd c14 (nI_ge hk (by decide))) (fun c14 => ?_)
      refine am_aload_n 17 dX12_wipe_17 rfl ?_
      refine am_getfield 18 dX12_wipe_18 fX12_29 (by repeat (first | assumption | exact am_ue | refine am_un (by first | assumption | decide | omega) ?_)) rfl ?_
      refine am_iload_n 21 dX12_wipe_21 rfl ?_
      refine am_aaload 22 dX12_wipe_22 rfl (by repeat (first | assumption | exact am_ue | refine am_un (by first | assumption | decide | omega) ?_)) (am_ix hk (by decide)) ?_
      rw [nI_clamp (n := k) (by omega), hc, show va_rf none = Value.null from rfl]
      refine am_ifnullN 23 (tgt := 31) dX12_wipe_23 rfl ?_
      refine nx _ _ _ s2 g2 (by rw [show y_wip Sk k = Sk from if_neg fun z => z (hr.no hk hc)]; exact hr) fun j hj => ?_
      by_cases e : j = k
      · rw [e]; exact hc
      · exact hn j (by omega)
    · refine am_iload_n 12 dX12_wipe_12 rfl ?_
      refine am_iconst 13 (v := 5) dX12_wipe_13 (by decide) ?_
      refine am_icmp_ge 14 37 dX12_wipe_14 rfl (fun c14 => absurd c14 (nI_ge hk (by decide))) (fun c14 => ?_)
      refine am_aload_n 17 dX12_wipe_17 rfl ?_
      refine am_getfield 18 dX12_wipe_18 fX12_29 (by repeat (first | assumption | exact am_ue | refine am_un (by first | assumption | decide | omega) ?_)) rfl ?_
      refine am_iload_n 21 dX12_wipe_21 rfl ?_
      refine am_aaload 22 dX12_wipe_22 rfl (by repeat (first | assumption | exact am_ue | refine am_un (by first | assumption | decide | omega) ?_)) (am_ix hk (by decide)) ?_
      rw [nI_clamp (n := k) (by omega), hc, show va_rf (some c) = Value.ref c from rfl]
      refine am_ifnull 23 dX12_wipe_23 ?_
      refine am_aload_n 26 dX12_wipe_26 rfl ?_
      refine am_iload_n 27 dX12_wipe_27 rfl ?_
      refine am_V1 28 (mc' := 0) (ms' := 0) (rc := 0) (rs := 0) dX12_wipe_28 lX12_198 ⟨by decide, by decide⟩ y0 (Nat.le_of_ble_eq_true rfl) (Nat.le_of_ble_eq_true rfl) (s_rcancel s2.1 hk hc) ?_
      rintro o n' g3 ⟨rfl, rfl, s4, g4⟩
      refine am_ctI ?_
      refine nx _ _ _ (s2.go s4 g4) (g2.trans g4 (Nat.le_refl _)) (by rw [show y_wip Sk k = _ from if_pos (hr.at hk hc).1]; exact hr.cancel iIk ht hk hc) fun j hj => ?_
      by_cases e : j = k
      · rw [e, am_up_eq]
      · rw [am_up_ne e]; exact hn j (by omega)
/-! a list that grows -/
theorem s_radd0 {vs : List Value} (h : f l = .inr (13, [.int 0, .ref 1, .int 0])) (hl : l < n) (ha : f a = .inr (8, vs)) (han : a < n) (hal : a ≠ l) : AM mJx4a65c_add_9ea2d 1 10 [.ref l, .ref a] n f (fun o n' f' => o = .inl (some (.int 1)) ∧ n' = n + 1 ∧ f' l = .inr (13, [.int 1, .ref n, .int 1]) ∧ (∃ R : Nat → Option Nat, f' n = .inl (8, 10, .inr (.inr (.inr (.inr R)))) ∧ R 0 = some a) ∧ ∀ x, x ≠ l → x < n → f' x = f x) := by
  have hadd : ∀ g : Nat → am_C, g l = .inr (13, [.int 1, .ref 1, .int 0]) → g a = .inr (8, vs) → AM mJx4a65c_add_72be8 1 10 [.ref l, .ref a, .ref 1, .int 0] n g (fun o n' f' => o = .inl none ∧ n' = n + 1 ∧ f' l = .inr (13, [.int 1, .ref n, .int 1]) ∧ (∃ R : Nat → Option Nat, f' n = .inl (8, 10, .inr (.inr (.inr (.inr R)))) ∧ R 0 = some a) ∧ ∀ x, x ≠ l → x < n → f' x = g x) := by
    intro g h ha
    show AW mJx4a65c_add_72be8 1 10 0 [some (.ref l), some (.ref a), some (.ref 1), some (.int 0)] [] n g _
    refine am_iload_n 0 dJx4a65c_add_72be8_0 rfl ?_
    refine am_aload_n 1 dJx4a65c_add_72be8_1 rfl ?_
    refine am_elen 2 dJx4a65c_add_72be8_2 ?_
    refine am_icmp_ne 3 11 dJx4a65c_add_72be8_3 rfl (fun c3 => absurd c3 (by decide)) (fun c3 => ?_)
    refine am_aload_n 6 dJx4a65c_add_72be8_6 rfl ?_
    refine am_V0 7 (mc' := 1) (ms' := 10) (rc := 0) (rs := 0) dJx4a65c_add_72be8_7 lJx4a65c_129 ⟨by decide, by decide⟩ (by repeat (first | assumption | exact am_ue | refine am_un (by first | assumption | decide | omega) ?_)) (Nat.le_of_ble_eq_true rfl) (Nat.le_of_ble_eq_true rfl) (s_grow1 h hl) ?_
    rintro o n' f' ⟨rfl, rfl, rfl⟩
    refine am_ctI ?_
    refine am_astore_n 10 dJx4a65c_add_72be8_10 (by decide) ?_
    refine am_aload_n 11 dJx4a65c_add_72be8_11 rfl ?_
    refine am_iload_n 12 dJx4a65c_add_72be8_12 rfl ?_
    refine am_aload_n 13 dJx4a65c_add_72be8_13 rfl ?_
    refine am_aastoreO 14 (t := 8) dJx4a65c_add_72be8_14 rfl (am_un (by omega) am_ue) (am_un hal (am_un (by omega) ha)) rfl foX8 (am_ix (c := 0) (by decide) (by decide)) ?_
    refine am_aload_n 15 dJx4a65c_add_72be8_15 rfl ?_
    refine am_iload_n 16 dJx4a65c_add_72be8_16 rfl ?_
    refine am_iconst 17 (v := 1) dJx4a65c_add_72be8_17 (by decide) ?_
    refine am_iadd 18 dJx4a65c_add_72be8_18 ?_
    refine am_putfield 19 dJx4a65c_add_72be8_19 pJx4a65c_48 (am_un (by omega) am_ue) rfl rfl (Nat.le_of_ble_eq_true rfl) ?_
    refine am_return 22 dJx4a65c_add_72be8_22 rfl ?_
    exact ⟨rfl, rfl, am_ue, ⟨_, am_un (by omega) am_ue, am_up_eq⟩, fun x h1 h2 => by rw [am_up_ne h1, am_up_ne (by omega), am_up_ne h1, am_up_ne (by omega)]⟩
  show AW mJx4a65c_add_9ea2d 1 10 0 [some (.ref l), some (.ref a)] [] n f _
  refine am_aload_n 0 dJx4a65c_add_9ea2d_0 rfl ?_
  refine am_dup 1 dJx4a65c_add_9ea2d_1 rfl ?_
  refine am_getfieldS 2 dJx4a65c_add_9ea2d_2 sJx4a65c_63 (by repeat (first | assumption | exact am_ue | refine am_un (by first | assumption | decide | omega) ?_)) rfl ?_
  refine am_iconst 5 (v := 1) dJx4a65c_add_9ea2d_5 (by decide) ?_
  refine am_iadd 6 dJx4a65c_add_9ea2d_6 ?_
  refine am_putfieldS 7 dJx4a65c_add_9ea2d_7 sJx4a65c_63 (by repeat (first | assumption | exact am_ue | refine am_un (by first | assumption | decide | omega) ?_)) rfl rfl (Nat.le_of_ble_eq_true rfl) ?_
  refine am_aload_n 10 dJx4a65c_add_9ea2d_10 rfl ?_
  refine am_aload_n 11 dJx4a65c_add_9ea2d_11 rfl ?_
  refine am_aload_n 12 dJx4a65c_add_9ea2d_12 rfl ?_
  refine am_getfield 13 dJx4a65c_add_9ea2d_13 fJx4a65c_9 (by repeat (first | assumption | exact am_ue | refine am_un (by first | assumption | decide | omega) ?_)) rfl ?_
  refine am_aload_n 16 dJx4a65c_add_9ea2d_16 rfl ?_
  refine am_getfield 17 dJx4a65c_add_9ea2d_17 fJx4a65c_48 (by repeat (first | assumption | exact am_ue | refine am_un (by first | assumption | decide | omega) ?_)) rfl ?_
  refine am_V3 20 (mc' := 1) (ms' := 10) (rc := 0) (rs := 0) dJx4a65c_add_9ea2d_20 lJx4a65c_131 ⟨by decide, by decide⟩ am_ue (Nat.le_of_ble_eq_true rfl) (Nat.le_of_ble_eq_true rfl) (hadd _ am_ue (am_un hal ha)) ?_
  rintro o n' f' ⟨rfl, rfl, e1, e3, e2⟩
  refine am_ctI ?_
  refine am_iconst 23 (v := 1) dJx4a65c_add_9ea2d_23 (by decide) ?_
  refine am_ireturn 24 dJx4a65c_add_9ea2d_24 rfl rfl ?_
  exact ⟨rfl, rfl, e1, e3, fun x h1 h2 => (e2 x h1 h2).trans (am_up_ne h1)⟩
theorem s_raddK {vs : List Value} {mc : Int32} {k : Nat} (h : f l = .inr (13, [.int mc, .ref el, .int (nI k)])) (he : f el = .inl (8, 10, .inr (.inr (.inr (.inr R))))) (hk : k < 10) (ha : f a = .inr (8, vs)) (hel : el ≠ l) (hae : a ≠ el) (hal : a ≠ l) : AM mJx4a65c_add_9ea2d 0 0 [.ref l, .ref a] n f (fun o n' f' => o = .inl (some (.int 1)) ∧ n = n' ∧ f' l = .inr (13, [.int (mc + 1), .ref el, .int (nI (k + 1))]) ∧ f' el = .inl (8, 10, .inr (.inr (.inr (.inr (va_up R k (some a)))))) ∧ ∀ x, x ≠ l → x ≠ el → f' x = f x) := by
  have h10 : ¬ nI k = Int32.ofNat 10 := fun z => by have := am_eqN 10 (k := k) z (by decide) (by omega); omega
  have hadd : ∀ g : Nat → am_C, g l = .inr (13, [.int (mc + 1), .ref el, .int (nI k)]) → g el = .inl (8, 10, .inr (.inr (.inr (.inr R)))) → g a = .inr (8, vs) → AM mJx4a65c_add_72be8 0 0 [.ref l, .ref a, .ref el, .int (nI k)] n g (fun o n' f' => o = .inl none ∧ n = n' ∧ f' l = .inr (13, [.int (mc + 1), .ref el, .int (nI (k + 1))]) ∧ f' el = .inl (8, 10, .inr (.inr (.inr (.inr (va_up R k (some a)))))) ∧ ∀ x, x ≠ l → x ≠ el → f' x = g x) := by
    intro g h he ha
    show AW mJx4a65c_add_72be8 0 0 0 [some (.ref l), some (.ref a), some (.ref el), some (.int (nI k))] [] n g _
    refine am_iload_n 0 dJx4a65c_add_72be8_0 rfl ?_
    refine am_aload_n 1 dJx4a65c_add_72be8_1 rfl ?_
    refine am_arraylength 2 dJx4a65c_add_72be8_2 rfl he ?_
    refine am_icmp_ne 3 11 dJx4a65c_add_72be8_3 rfl (fun c3 => ?_) (fun c3 => absurd c3 h10)
    refine am_aload_n 11 dJx4a65c_add_72be8_11 rfl ?_
    refine am_iload_n 12 dJx4a65c_add_72be8_12 rfl ?_
    refine am_aload_n 13 dJx4a65c_add_72be8_13 rfl ?_
    refine am_aastoreO 14 (t := 8) dJx4a65c_add_72be8_14 rfl he ha rfl foX8 (am_ix hk (by decide)) ?_
    rw [nI_clamp (n := k) (by omega)]
    refine am_aload_n 15 dJx4a65c_add_72be8_15 rfl ?_
    refine am_iload_n 16 dJx4a65c_add_72be8_16 rfl ?_
    refine am_iconst 17 (v := 1) dJx4a65c_add_72be8_17 (by decide) ?_
    refine am_iadd 18 dJx4a65c_add_72be8_18 ?_
    rw [nI_1]
    refine am_putfield 19 dJx4a65c_add_72be8_19 pJx4a65c_48 (am_un (Ne.symm hel) h) rfl rfl (Nat.le_of_ble_eq_true rfl) ?_
    refine am_return 22 dJx4a65c_add_72be8_22 rfl ?_
    exact ⟨rfl, rfl, am_ue, am_un hel am_ue, fun x h1 h2 => by rw [am_up_ne h1, am_up_ne h2]⟩
  show AW mJx4a65c_add_9ea2d 0 0 0 [some (.ref l), some (.ref a)] [] n f _
  refine am_aload_n 0 dJx4a65c_add_9ea2d_0 rfl ?_
  refine am_dup 1 dJx4a65c_add_9ea2d_1 rfl ?_
  refine am_getfieldS 2 dJx4a65c_add_9ea2d_2 sJx4a65c_63 h rfl ?_
  refine am_iconst 5 (v := 1) dJx4a65c_add_9ea2d_5 (by decide) ?_
  refine am_iadd 6 dJx4a65c_add_9ea2d_6 ?_
  refine am_putfieldS 7 dJx4a65c_add_9ea2d_7 sJx4a65c_63 h rfl rfl (Nat.le_of_ble_eq_true rfl) ?_
  refine am_aload_n 10 dJx4a65c_add_9ea2d_10 rfl ?_
  refine am_aload_n 11 dJx4a65c_add_9ea2d_11 rfl ?_
  refine am_aload_n 12 dJx4a65c_add_9ea2d_12 rfl ?_
  refine am_getfield 13 dJx4a65c_add_9ea2d_13 fJx4a65c_9 am_ue rfl ?_
  refine am_aload_n 16 dJx4a65c_add_9ea2d_16 rfl ?_
  refine am_getfield 17 dJx4a65c_add_9ea2d_17 fJx4a65c_48 am_ue rfl ?_
  refine am_V3 20 (mc' := 0) (ms' := 0) (rc := 0) (rs := 0) dJx4a65c_add_9ea2d_20 lJx4a65c_131 ⟨by decide, by decide⟩ am_ue (Nat.le_of_ble_eq_true rfl) (Nat.le_of_ble_eq_true rfl) (hadd _ am_ue (am_un hel he) (am_un hal ha)) ?_
  rintro o n' f' ⟨rfl, rfl, e1, e3, e2⟩
  refine am_ctI ?_
  refine am_iconst 23 (v := 1) dJx4a65c_add_9ea2d_23 (by decide) ?_
  refine am_ireturn 24 dJx4a65c_add_9ea2d_24 rfl rfl ?_
  exact ⟨rfl, rfl, e1, e3, fun x h1 h2 => (e2 x h1 h2).trans (am_up_ne h1)⟩
/-- the kinds once an area is made at n -/
def r_k3 (n : Nat) (κ : Nat → Nat) : Nat → Nat := fun x => if x = n then 3 else if x = n + 1 then 4 else if n ≤ x then 0 else κ x
theorem r_k3_0 : r_k3 n κ n = 3 := by simp [r_k3]
theorem r_k3_1 : r_k3 n κ (n + 1) = 4 := by simp [r_k3]
theorem r_k3_x {x : Nat} (h : x < n) : r_k3 n κ x = κ x := by
  unfold r_k3
  rw [if_neg (by omega), if_neg (by omega), if_neg (by omega)]
theorem r_k3_y {x : Nat} (h : n + 2 ≤ x) : r_k3 n κ x = 0 := by
  unfold r_k3
  rw [if_neg (by omega), if_neg (by omega), if_pos (by omega)]
theorem r_ty.newA {f' : Nat → am_C} {N : Nat} (s : r_ty m n sz G κ f) (hm : m + 5 ≤ n) (hN : n + 2 ≤ N) {p q r t : Int32} (h0 : f' n = .inr (8, [.int p, .int q, .int r, .int t, .ref (n + 1)])) {g : Nat → Int32} (h1 : f' (n + 1) = .inl (0, 4, .inl g)) (e : ∀ x, x < n → κ x ≠ 0 → f' x = f x) : r_ty m N (sz + 1) G (r_k3 n κ) f' := by
  have hin : ∀ x, κ x ≠ 0 → x < n := fun x hx => ((s x).1 hx).2
  have h2 : ∀ x, κ x = 2 → r_k3 n κ x = 2 := fun x hx => (r_k3_x (hin x (by omega))).trans hx
  have h4 : ∀ x, κ x = 4 → r_k3 n κ x = 4 := fun x hx => (r_k3_x (hin x (by omega))).trans hx
  intro x
  by_cases q : x < n
  · rw [r_k3_x q]
    obtain ⟨a0, a1, a2, a3, a4⟩ := s x
    refine ⟨fun z => ⟨(a0 z).1, by omega⟩, fun z => ?_, fun z => ?_, fun z => ?_, fun z => ?_⟩
    · rw [e x q (by omega)]
      obtain ⟨ap, cl, kk, b0, b1, b2, b3, b4⟩ := a1 z
      exact ⟨ap, cl, kk, b0, h2 _ b1, b2, b3.imp id fun ⟨k, c1, c2⟩ => ⟨k, by omega, c2⟩, b4⟩
    · rw [e x q (by omega)]; exact a2 z
    · rw [e x q (by omega)]
      obtain ⟨p, q, r, t, y, b0, b1⟩ := a3 z
      exact ⟨p, q, r, t, y, b0, h4 _ b1⟩
    · rw [e x q (by omega)]; exact a4 z
  · rcases (show x = n ∨ x = n + 1 ∨ n + 2 ≤ x by omega) with z | z | z
    · subst z
      rw [r_k3_0]
      exact ⟨fun _ => by omega, fun z => by omega, fun z => by omega, fun _ => ⟨_, _, _, _, _, h0, r_k3_1⟩, fun z => by omega⟩
    · subst z
      rw [r_k3_1]
      exact ⟨fun _ => by omega, fun z => by omega, fun z => by omega, fun z => by omega, fun _ => ⟨g, h1⟩⟩
    · rw [r_k3_y z]
      exact ⟨fun z => absurd rfl z, fun z => by omega, fun z => by omega, fun z => by omega, fun z => by omega⟩
theorem s_rarea_f {p q r t : Int32} (s : r_M m n f κ sz G th h di li cs w b) (hb : ¬ ((0 ≤ p ∧ p ≤ 7) ∧ (p ≤ q ∧ q ≤ 7) ∧ (0 ≤ r ∧ r ≤ 5) ∧ (r ≤ t ∧ t ≤ 5))) : AM mX12_area 0 0 [.ref m, .int p, .int q, .int r, .int t] n f (r_sP m n f κ sz G h di li cs w b r_vI) := by
  obtain ⟨⟨e0, -⟩, -⟩ := id s
  unfold r_m12 at e0
  show AW mX12_area 0 0 0 [some (.ref m), some (.int p), some (.int q), some (.int r), some (.int t)] [] n f _
  rcases Classical.em (0 ≤ p ∧ p ≤ 7) with h1 | h1
  · rcases Classical.em (p ≤ q ∧ q ≤ 7) with h2 | h2
    · rcases Classical.em (0 ≤ r ∧ r ≤ 5) with h3 | h3
      · have h4 : ¬ (r ≤ t ∧ t ≤ 5) := fun z => hb ⟨h1, h2, h3, z⟩
        refine am_aload_n 0 dX12_area_0 rfl ?_
        refine am_iload_n 1 dX12_area_1 rfl ?_
        refine am_iconst 2 (v := 0) dX12_area_2 (by decide) ?_
        refine am_bipush 3 (v := 7) dX12_area_3 (by decide) ?_
        refine am_S3 5 (mc' := 0) (ms' := 0) (rc := 0) (rs := 0) dX12_area_5 lX12_3 ⟨by decide, by decide⟩ (Nat.le_of_ble_eq_true rfl) (Nat.le_of_ble_eq_true rfl) (s_isIn_t h1.1 h1.2) ?_
        refine am_is_ct ?_
        refine am_if_eq 8 40 dX12_area_8 rfl (fun c8 => absurd c8 (by decide)) (fun c8 => ?_)
        refine am_iload_n 11 dX12_area_11 rfl ?_
        refine am_iload_n 12 dX12_area_12 rfl ?_
        refine am_bipush 13 (v := 7) dX12_area_13 (by decide) ?_
        refine am_S3 15 (mc' := 0) (ms' := 0) (rc := 0) (rs := 0) dX12_area_15 lX12_3 ⟨by decide, by decide⟩ (Nat.le_of_ble_eq_true rfl) (Nat.le_of_ble_eq_true rfl) (s_isIn_t h2.1 h2.2) ?_
        refine am_is_ct ?_
        refine am_if_eq 18 40 dX12_area_18 rfl (fun c18 => absurd c18 (by decide)) (fun c18 => ?_)
        refine am_iload_n 21 dX12_area_21 rfl ?_
        refine am_iconst 22 (v := 0) dX12_area_22 (by decide) ?_
        refine am_iconst 23 (v := 5) dX12_area_23 (by decide) ?_
        refine am_S3 24 (mc' := 0) (ms' := 0) (rc := 0) (rs := 0) dX12_area_24 lX12_3 ⟨by decide, by decide⟩ (Nat.le_of_ble_eq_true rfl) (Nat.le_of_ble_eq_true rfl) (s_isIn_t h3.1 h3.2) ?_
        refine am_is_ct ?_
        refine am_if_eq 27 40 dX12_area_27 rfl (fun c27 => absurd c27 (by decide)) (fun c27 => ?_)
        refine am_iload 30 dX12_area_30 rfl ?_
        refine am_iload_n 32 dX12_area_32 rfl ?_
        refine am_iconst 33 (v := 5) dX12_area_33 (by decide) ?_
        refine am_S3 34 (mc' := 0) (ms' := 0) (rc := 0) (rs := 0) dX12_area_34 lX12_3 ⟨by decide, by decide⟩ (Nat.le_of_ble_eq_true rfl) (Nat.le_of_ble_eq_true rfl) (s_isIn_f h4) ?_
        refine am_is_ct ?_
        refine am_if_ne 37 44 dX12_area_37 rfl (fun c37 => absurd c37 (by decide)) (fun c37 => ?_)
        refine am_iconst 40 (v := 1) dX12_area_40 (by decide) ?_
        refine am_goto 41 (tgt := 45) dX12_area_41 rfl ?_
        refine am_iconst 45 (v := 1) dX12_area_45 (by decide) ?_
        refine am_V2 46 (mc' := 0) (ms' := 0) (rc := 0) (rs := 0) dX12_area_46 lX12_59 ⟨by decide, by decide⟩ e0 (Nat.le_of_ble_eq_true rfl) (Nat.le_of_ble_eq_true rfl) (s_rstart true (by decide) s) ?_
        rintro o n' f1 ⟨rfl, rfl, s1, g1⟩
        refine am_ctI ?_
        obtain ⟨⟨e0x, ⟨e3x, ewx⟩, earx, etyx⟩, e1x, e2x⟩ := id s1
        unfold r_m12 at e0x
        refine am_if_ne 49 76 dX12_area_49 rfl (fun c49 => ?_) (fun c49 => absurd c49 (by decide))
        refine am_iconst 76 (v := 0) dX12_area_76 (by decide) ?_
        refine am_ireturn 77 dX12_area_77 rfl rfl ?_
        exact ⟨Nat.le_refl _, _, _, rfl, ⟨_, rfl⟩, s1, g1.out⟩
      · refine am_aload_n 0 dX12_area_0 rfl ?_
        refine am_iload_n 1 dX12_area_1 rfl ?_
        refine am_iconst 2 (v := 0) dX12_area_2 (by decide) ?_
        refine am_bipush 3 (v := 7) dX12_area_3 (by decide) ?_
        refine am_S3 5 (mc' := 0) (ms' := 0) (rc := 0) (rs := 0) dX12_area_5 lX12_3 ⟨by decide, by decide⟩ (Nat.le_of_ble_eq_true rfl) (Nat.le_of_ble_eq_true rfl) (s_isIn_t h1.1 h1.2) ?_
        refine am_is_ct ?_
        refine am_if_eq 8 40 dX12_area_8 rfl (fun c8 => absurd c8 (by decide)) (fun c8 => ?_)
        refine am_iload_n 11 dX12_area_11 rfl ?_
        refine am_iload_n 12 dX12_area_12 rfl ?_
        refine am_bipush 13 (v := 7) dX12_area_13 (by decide) ?_
        refine am_S3 15 (mc' := 0) (ms' := 0) (rc := 0) (rs := 0) dX12_area_15 lX12_3 ⟨by decide, by decide⟩ (Nat.le_of_ble_eq_true rfl) (Nat.le_of_ble_eq_true rfl) (s_isIn_t h2.1 h2.2) ?_
        refine am_is_ct ?_
        refine am_if_eq 18 40 dX12_area_18 rfl (fun c18 => absurd c18 (by decide)) (fun c18 => ?_)
        refine am_iload_n 21 dX12_area_21 rfl ?_
        refine am_iconst 22 (v := 0) dX12_area_22 (by decide) ?_
        refine am_iconst 23 (v := 5) dX12_area_23 (by decide) ?_
        refine am_S3 24 (mc' := 0) (ms' := 0) (rc := 0) (rs := 0) dX12_area_24 lX12_3 ⟨by decide, by decide⟩ (Nat.le_of_ble_eq_true rfl) (Nat.le_of_ble_eq_true rfl) (s_isIn_f h3) ?_
        refine am_is_ct ?_
        refine am_if_eq 27 40 dX12_area_27 rfl (fun c27 => ?_) (fun c27 => absurd (by decide) c27)
        refine am_iconst 40 (v := 1) dX12_area_40 (by decide) ?_
        refine am_goto 41 (tgt := 45) dX12_area_41 rfl ?_
        refine am_iconst 45 (v := 1) dX12_area_45 (by decide) ?_
        refine am_V2 46 (mc' := 0) (ms' := 0) (rc := 0) (rs := 0) dX12_area_46 lX12_59 ⟨by decide, by decide⟩ e0 (Nat.le_of_ble_eq_true rfl) (Nat.le_of_ble_eq_true rfl) (s_rstart true (by decide) s) ?_
        rintro o n' f1 ⟨rfl, rfl, s1, g1⟩
        refine am_ctI ?_
        obtain ⟨⟨e0x, ⟨e3x, ewx⟩, earx, etyx⟩, e1x, e2x⟩ := id s1
        unfold r_m12 at e0x
        refine am_if_ne 49 76 dX12_area_49 rfl (fun c49 => ?_) (fun c49 => absurd c49 (by decide))
        refine am_iconst 76 (v := 0) dX12_area_76 (by decide) ?_
        refine am_ireturn 77 dX12_area_77 rfl rfl ?_
        exact ⟨Nat.le_refl _, _, _, rfl, ⟨_, rfl⟩, s1, g1.out⟩
    · refine am_aload_n 0 dX12_area_0 rfl ?_
      refine am_iload_n 1 dX12_area_1 rfl ?_
      refine am_iconst 2 (v := 0) dX12_area_2 (by decide) ?_
      refine am_bipush 3 (v := 7) dX12_area_3 (by decide) ?_
      refine am_S3 5 (mc' := 0) (ms' := 0) (rc := 0) (rs := 0) dX12_area_5 lX12_3 ⟨by decide, by decide⟩ (Nat.le_of_ble_eq_true rfl) (Nat.le_of_ble_eq_true rfl) (s_isIn_t h1.1 h1.2) ?_
      refine am_is_ct ?_
      refine am_if_eq 8 40 dX12_area_8 rfl (fun c8 => absurd c8 (by decide)) (fun c8 => ?_)
      refine am_iload_n 11 dX12_area_11 rfl ?_
      refine am_iload_n 12 dX12_area_12 rfl ?_
      refine am_bipush 13 (v := 7) dX12_area_13 (by decide) ?_
      refine am_S3 15 (mc' := 0) (ms' := 0) (rc := 0) (rs := 0) dX12_area_15 lX12_3 ⟨by decide, by decide⟩ (Nat.le_of_ble_eq_true rfl) (Nat.le_of_ble_eq_true rfl) (s_isIn_f h2) ?_
      refine am_is_ct ?_
      refine am_if_eq 18 40 dX12_area_18 rfl (fun c18 => ?_) (fun c18 => absurd (by decide) c18)
      refine am_iconst 40 (v := 1) dX12_area_40 (by decide) ?_
      refine am_goto 41 (tgt := 45) dX12_area_41 rfl ?_
      refine am_iconst 45 (v := 1) dX12_area_45 (by decide) ?_
      refine am_V2 46 (mc' := 0) (ms' := 0) (rc := 0) (rs := 0) dX12_area_46 lX12_59 ⟨by decide, by decide⟩ e0 (Nat.le_of_ble_eq_true rfl) (Nat.le_of_ble_eq_true rfl) (s_rstart true (by decide) s) ?_
      rintro o n' f1 ⟨rfl, rfl, s1, g1⟩
      refine am_ctI ?_
      obtain ⟨⟨e0x, ⟨e3x, ewx⟩, earx, etyx⟩, e1x, e2x⟩ := id s1
      unfold r_m12 at e0x
      refine am_if_ne 49 76 dX12_area_49 rfl (fun c49 => ?_) (fun c49 => absurd c49 (by decide))
      refine am_iconst 76 (v := 0) dX12_area_76 (by decide) ?_
      refine am_ireturn 77 dX12_area_77 rfl rfl ?_
      exact ⟨Nat.le_refl _, _, _, rfl, ⟨_, rfl⟩, s1, g1.out⟩
  · refine am_aload_n 0 dX12_area_0 rfl ?_
    refine am_iload_n 1 dX12_area_1 rfl ?_
    refine am_iconst 2 (v := 0) dX12_area_2 (by decide) ?_
    refine am_bipush 3 (v := 7) dX12_area_3 (by decide) ?_
    refine am_S3 5 (mc' := 0) (ms' := 0) (rc := 0) (rs := 0) dX12_area_5 lX12_3 ⟨by decide, by decide⟩ (Nat.le_of_ble_eq_true rfl) (Nat.le_of_ble_eq_true rfl) (s_isIn_f h1) ?_
    refine am_is_ct ?_
    refine am_if_eq 8 40 dX12_area_8 rfl (fun c8 => ?_) (fun c8 => absurd (by decide) c8)
    refine am_iconst 40 (v := 1) dX12_area_40 (by decide) ?_
    refine am_goto 41 (tgt := 45) dX12_area_41 rfl ?_
    refine am_iconst 45 (v := 1) dX12_area_45 (by decide) ?_
    refine am_V2 46 (mc' := 0) (ms' := 0) (rc := 0) (rs := 0) dX12_area_46 lX12_59 ⟨by decide, by decide⟩ e0 (Nat.le_of_ble_eq_true rfl) (Nat.le_of_ble_eq_true rfl) (s_rstart true (by decide) s) ?_
    rintro o n' f1 ⟨rfl, rfl, s1, g1⟩
    refine am_ctI ?_
    obtain ⟨⟨e0x, ⟨e3x, ewx⟩, earx, etyx⟩, e1x, e2x⟩ := id s1
    unfold r_m12 at e0x
    refine am_if_ne 49 76 dX12_area_49 rfl (fun c49 => ?_) (fun c49 => absurd c49 (by decide))
    refine am_iconst 76 (v := 0) dX12_area_76 (by decide) ?_
    refine am_ireturn 77 dX12_area_77 rfl rfl ?_
    exact ⟨Nat.le_refl _, _, _, rfl, ⟨_, rfl⟩, s1, g1.out⟩
theorem s_rarea_g {p q r t : Int32} (s : r_M m n f κ 4 G th h di li cs w b) (h1 : 0 ≤ p ∧ p ≤ 7) (h2 : p ≤ q ∧ q ≤ 7) (h3 : 0 ≤ r ∧ r ≤ 5) (h4 : r ≤ t ∧ t ≤ 5) : AM mX12_area 0 0 [.ref m, .int p, .int q, .int r, .int t] n f (r_sP m n f κ 4 G h di li cs w b r_vI) := by
  obtain ⟨⟨e0, -⟩, -⟩ := id s
  unfold r_m12 at e0
  show AW mX12_area 0 0 0 [some (.ref m), some (.int p), some (.int q), some (.int r), some (.int t)] [] n f _
  refine am_aload_n 0 dX12_area_0 rfl ?_
  refine am_iload_n 1 dX12_area_1 rfl ?_
  refine am_iconst 2 (v := 0) dX12_area_2 (by decide) ?_
  refine am_bipush 3 (v := 7) dX12_area_3 (by decide) ?_
  refine am_S3 5 (mc' := 0) (ms' := 0) (rc := 0) (rs := 0) dX12_area_5 lX12_3 ⟨by decide, by decide⟩ (Nat.le_of_ble_eq_true rfl) (Nat.le_of_ble_eq_true rfl) (s_isIn_t h1.1 h1.2) ?_
  refine am_is_ct ?_
  refine am_if_eq 8 40 dX12_area_8 rfl (fun c8 => absurd c8 (by decide)) (fun c8 => ?_)
  refine am_iload_n 11 dX12_area_11 rfl ?_
  refine am_iload_n 12 dX12_area_12 rfl ?_
  refine am_bipush 13 (v := 7) dX12_area_13 (by decide) ?_
  refine am_S3 15 (mc' := 0) (ms' := 0) (rc := 0) (rs := 0) dX12_area_15 lX12_3 ⟨by decide, by decide⟩ (Nat.le_of_ble_eq_true rfl) (Nat.le_of_ble_eq_true rfl) (s_isIn_t h2.1 h2.2) ?_
  refine am_is_ct ?_
  refine am_if_eq 18 40 dX12_area_18 rfl (fun c18 => absurd c18 (by decide)) (fun c18 => ?_)
  refine am_iload_n 21 dX12_area_21 rfl ?_
  refine am_iconst 22 (v := 0) dX12_area_22 (by decide) ?_
  refine am_iconst 23 (v := 5) dX12_area_23 (by decide) ?_
  refine am_S3 24 (mc' := 0) (ms' := 0) (rc := 0) (rs := 0) dX12_area_24 lX12_3 ⟨by decide, by decide⟩ (Nat.le_of_ble_eq_true rfl) (Nat.le_of_ble_eq_true rfl) (s_isIn_t h3.1 h3.2) ?_
  refine am_is_ct ?_
  refine am_if_eq 27 40 dX12_area_27 rfl (fun c27 => absurd c27 (by decide)) (fun c27 => ?_)
  refine am_iload 30 dX12_area_30 rfl ?_
  refine am_iload_n 32 dX12_area_32 rfl ?_
  refine am_iconst 33 (v := 5) dX12_area_33 (by decide) ?_
  refine am_S3 34 (mc' := 0) (ms' := 0) (rc := 0) (rs := 0) dX12_area_34 lX12_3 ⟨by decide, by decide⟩ (Nat.le_of_ble_eq_true rfl) (Nat.le_of_ble_eq_true rfl) (s_isIn_t h4.1 h4.2) ?_
  refine am_is_ct ?_
  refine am_if_ne 37 44 dX12_area_37 rfl (fun c37 => ?_) (fun c37 => absurd c37 (by decide))
  refine am_iconst 44 (v := 0) dX12_area_44 (by decide) ?_
  refine am_iconst 45 (v := 1) dX12_area_45 (by decide) ?_
  refine am_V2 46 (mc' := 0) (ms' := 0) (rc := 0) (rs := 0) dX12_area_46 lX12_59 ⟨by decide, by decide⟩ e0 (Nat.le_of_ble_eq_true rfl) (Nat.le_of_ble_eq_true rfl) (s_rstart false (by decide) s) ?_
  rintro o n' f1 ⟨rfl, rfl, s1, g1⟩
  refine am_ctI ?_
  obtain ⟨⟨e0x, ⟨e3x, ewx⟩, earx, etyx⟩, e1x, e2x⟩ := id s1
  unfold r_m12 at e0x
  obtain ⟨-, -, el, mc, R, l0, -⟩ := earx
  refine am_if_ne 49 76 dX12_area_49 rfl (fun c49 => absurd c49 (by decide)) (fun c49 => ?_)
  refine am_aload_n 52 dX12_area_52 rfl ?_
  refine am_aload_n 53 dX12_area_53 rfl ?_
  refine am_getfield 54 dX12_area_54 fX12_36 e0x rfl ?_
  refine am_V0 57 (mc' := 0) (ms' := 0) (rc := 0) (rs := 0) dX12_area_57 lX12_62 ⟨by decide, by decide⟩ l0 (Nat.le_of_ble_eq_true rfl) (Nat.le_of_ble_eq_true rfl) (s_size l0) ?_
  refine am_is_ct ?_
  refine am_iconst 60 (v := 4) dX12_area_60 (by decide) ?_
  refine am_icmp_ne 61 68 dX12_area_61 rfl (fun c61 => absurd c61 (by decide)) (fun c61 => ?_)
  refine am_iconst 64 (v := 1) dX12_area_64 (by decide) ?_
  refine am_goto 65 (tgt := 69) dX12_area_65 rfl ?_
  refine am_iconst 69 (v := 2) dX12_area_69 (by decide) ?_
  refine am_V2 70 (mc' := 0) (ms' := 0) (rc := 0) (rs := 0) dX12_area_70 lX12_43 ⟨by decide, by decide⟩ e0x (Nat.le_of_ble_eq_true rfl) (Nat.le_of_ble_eq_true rfl) (s_rrefuse true (by decide) s1) ?_
  rintro o n' f2 ⟨rfl, rfl, s2, g2⟩
  refine am_ctI ?_
  obtain ⟨⟨e0y, ⟨e3y, ewy⟩, eary, etyy⟩, e1y, e2y⟩ := id s2
  unfold r_m12 at e0y
  refine am_if_eq 73 78 dX12_area_73 rfl (fun c73 => absurd c73 (by decide)) (fun c73 => ?_)
  refine am_iconst 76 (v := 0) dX12_area_76 (by decide) ?_
  refine am_ireturn 77 dX12_area_77 rfl rfl ?_
  exact ⟨Nat.le_refl _, _, _, rfl, ⟨_, rfl⟩, s2, (g1.trans g2 (Nat.le_refl _)).out⟩
/-- the ghost once an area is told -/
def y_rct (p q r t : Int32) : Nat → Int32 := fun j => match j with
  | 0 => p
  | 1 => q
  | 2 => r
  | 3 => t
  | _ => 0
def y_aG (G : Nat → m_K) (sz : Nat) (p q r t : Int32) : Nat → m_K := va_up G sz (y_rct p q r t, (G sz).2)
set_option maxHeartbeats 2000000 in
theorem s_rarea_t {p q r t : Int32} (s : r_M m n f κ sz G th h di li cs w b) (hz : sz < 4) (h1 : 0 ≤ p ∧ p ≤ 7) (h2 : p ≤ q ∧ q ≤ 7) (h3 : 0 ≤ r ∧ r ≤ 5) (h4 : r ≤ t ∧ t ≤ 5) : AM mX12_area 3 19 [.ref m, .int p, .int q, .int r, .int t] n f (fun o n' f' => (∃ v, o = .inl (some (.int v))) ∧ n ≤ n' ∧ ∃ κ' th', r_M m n' f' κ' (sz + 1) (y_aG G sz p q r t) th' h di li cs w b ∧ r_out9 m n κ κ' f f') := by
  obtain ⟨⟨e0, -⟩, -⟩ := id s
  unfold r_m12 at e0
  have hm5 := s.1.n5
  have n4 : ¬ nI sz = 4 := fun z => by have := am_eqN 4 (k := sz) z (by decide) (by omega); omega
  generalize hQ : (fun (o : Option Value ⊕ Nat) (n' : Nat) (f' : Nat → am_C) => (∃ v, o = .inl (some (.int v))) ∧ n ≤ n' ∧ ∃ κ' th', r_M m n' f' κ' (sz + 1) (y_aG G sz p q r t) th' h di li cs w b ∧ r_out9 m n κ κ' f f') = Q
  -- what is to be shown of a state with the new area in it
  have hend : ∀ (N : Nat) (f2 f4 : Nat → am_C) (el2 : Nat) (mc2 : Int32) (R R2 : Nat → Option Nat), y_Ar f2 sz G κ R → (∀ k, k < sz → R2 k = R k) → R2 sz = some n → r_M m n f2 κ sz G 0 h di li cs w b → r_go m n κ κ f f2 → n + 2 ≤ N → f4 n = .inr (8, [.int p, .int q, .int r, .int t, .ref (n + 1)]) → f4 (n + 1) = .inl (0, 4, .inl (fun _ => 0)) → f4 (m + 4) = .inr (13, [.int mc2, .ref el2, .int (nI (sz + 1))]) → f4 el2 = .inl (8, 10, .inr (.inr (.inr (.inr R2)))) → (m + 5 ≤ el2 ∧ el2 < N) → (el2 < n → κ el2 = 0) → (el2 ≠ n ∧ el2 ≠ n + 1) → (∀ k, k < sz + 1 → ∃ a, R2 k = some a ∧ r_k3 n κ a = 3) → (∀ x, x < n → x ≠ m + 4 → x ≠ el2 → f4 x = f2 x) → (el2 < n → ∃ aa : vp_A, f2 el2 = .inl (8, aa)) → ∃ κ', r_M m N f4 κ' (sz + 1) (y_aG G sz p q r t) 0 h di li cs w b ∧ r_out9 m n κ κ' f f4 := by
    intro N f2 f4 el2 mc2 R R2 lA hRa hRb s2 g2 hN c0 c1 c2 c3 c4 c5 c6 c7 c8 c9
    have kk := fun x (hx : x < m + 5) => s2.1.k0 hx
    obtain ⟨⟨y0, ⟨y3, yw⟩, ear, ety⟩, y1, y2⟩ := id s2
    have hk3 : ∀ x, x < n → κ x ≠ 0 → f4 x = f2 x := fun x hx hk => c8 x hx (fun z => hk (by rw [z]; exact kk _ (by omega))) (fun z => hk (by rw [z]; exact c5 (by omega)))
    have hGx : ∀ x, x ≠ sz → y_aG G sz p q r t x = G x := fun x hx => am_up_ne hx
    have hGs : y_aG G sz p q r t sz = (y_rct p q r t, (G sz).2) := am_up_eq
    have hrn : ∀ i, r_n (y_aG G sz p q r t) i = r_n G i := fun i => by
      unfold r_n
      rw [hGx 4 (by omega)]
    have hAr : y_Ar f4 (sz + 1) (y_aG G sz p q r t) (r_k3 n κ) R2 := by
      refine ⟨fun k hk => ?_, fun i j a b hij hj e1 e2 => ?_⟩
      · by_cases q : k = sz
        · rw [q, hGs]
          refine ⟨n, fun _ => 0, hRb, r_k3_0, r_k3_1, c0, c1, fun j hj => ?_⟩
          have hj4 : j = 0 ∨ j = 1 ∨ j = 2 ∨ j = 3 := by omega
          rcases hj4 with rfl | rfl | rfl | rfl <;> rfl
        · obtain ⟨a, g, d1, d2, d3, d4, d5, d6⟩ := lA.1 k (by omega)
          have an := ((ety a).1 (by omega)).2
          have an1 := ((ety (a + 1)).1 (by omega)).2
          rw [hGx k q]
          exact ⟨a, g, (hRa k (by omega)).trans d1, (r_k3_x an).trans d2, (r_k3_x an1).trans d3, (hk3 a an (by omega)).trans d4, (hk3 _ an1 (by omega)).trans d5, d6⟩
      · by_cases q : j = sz
        · rw [q, hRb] at e2
          cases e2
          obtain ⟨a', g, d1, d2, -⟩ := lA.1 i (by omega)
          obtain rfl : a' = a := Option.some.inj (d1.symm.trans ((hRa i (by omega)).symm.trans e1))
          exact ((ety a').1 (by omega)).2
        · exact lA.2 i j a b hij (by omega) ((hRa i (by omega)).symm.trans e1) ((hRa j (by omega)).symm.trans e2)
    refine ⟨r_k3 n κ, ⟨⟨(by rw [hrn, hrn, hrn, hrn, hrn]; exact (c8 m (by omega) (by omega) (by omega)).trans y0), ⟨(c8 _ (by omega) (by omega) (by omega)).trans y3, fun j hj c hc => ?_⟩, ⟨by omega, by omega, el2, mc2, R2, c2, fun z => absurd z (by omega), fun _ => ⟨c4, ?_, c3, c7⟩, hAr⟩, (ety.newA hm5 hN c0 c1 hk3).ghost fun x hx => hGx x (by omega)⟩, (c8 _ (by omega) (by omega) (by omega)).trans y1, (c8 _ (by omega) (by omega) (by omega)).trans y2⟩, fun x hx => r_k3_x hx, fun x hx hk hm => ?_⟩
    · have := s2.1.cn hj hc
      rw [r_k3_x (by omega)]
      exact this.1
    · by_cases q : el2 < n
      · rw [r_k3_x q]; exact c5 q
      · exact r_k3_y (by omega)
    · have ef : f2 x = f x := g2.2 x hx hk (by omega) (by omega)
      refine (c8 x hx (by omega) fun z => ?_).trans ef
      rcases hm with hm | ⟨hm, t, a, e, ht⟩
      · omega
      · rw [← ef, z] at e
        obtain ⟨aa, e2⟩ := c9 (by omega)
        rw [e2] at e
        cases e
        exact ht rfl
  show AW mX12_area 3 19 0 [some (.ref m), some (.int p), some (.int q), some (.int r), some (.int t)] [] n f Q
  refine am_aload_n 0 dX12_area_0 rfl ?_
  refine am_iload_n 1 dX12_area_1 rfl ?_
  refine am_iconst 2 (v := 0) dX12_area_2 (by decide) ?_
  refine am_bipush 3 (v := 7) dX12_area_3 (by decide) ?_
  refine am_S3 5 (mc' := 0) (ms' := 0) (rc := 3) (rs := 19) dX12_area_5 lX12_3 ⟨by decide, by decide⟩ (Nat.le_of_ble_eq_true rfl) (Nat.le_of_ble_eq_true rfl) (s_isIn_t h1.1 h1.2) ?_
  refine am_is_ct ?_
  refine am_if_eq 8 40 dX12_area_8 rfl (fun c8 => absurd c8 (by decide)) (fun c8 => ?_)
  refine am_iload_n 11 dX12_area_11 rfl ?_
  refine am_iload_n 12 dX12_area_12 rfl ?_
  refine am_bipush 13 (v := 7) dX12_area_13 (by decide) ?_
  refine am_S3 15 (mc' := 0) (ms' := 0) (rc := 3) (rs := 19) dX12_area_15 lX12_3 ⟨by decide, by decide⟩ (Nat.le_of_ble_eq_true rfl) (Nat.le_of_ble_eq_true rfl) (s_isIn_t h2.1 h2.2) ?_
  refine am_is_ct ?_
  refine am_if_eq 18 40 dX12_area_18 rfl (fun c18 => absurd c18 (by decide)) (fun c18 => ?_)
  refine am_iload_n 21 dX12_area_21 rfl ?_
  refine am_iconst 22 (v := 0) dX12_area_22 (by decide) ?_
  refine am_iconst 23 (v := 5) dX12_area_23 (by decide) ?_
  refine am_S3 24 (mc' := 0) (ms' := 0) (rc := 3) (rs := 19) dX12_area_24 lX12_3 ⟨by decide, by decide⟩ (Nat.le_of_ble_eq_true rfl) (Nat.le_of_ble_eq_true rfl) (s_isIn_t h3.1 h3.2) ?_
  refine am_is_ct ?_
  refine am_if_eq 27 40 dX12_area_27 rfl (fun c27 => absurd c27 (by decide)) (fun c27 => ?_)
  refine am_iload 30 dX12_area_30 rfl ?_
  refine am_iload_n 32 dX12_area_32 rfl ?_
  refine am_iconst 33 (v := 5) dX12_area_33 (by decide) ?_
  refine am_S3 34 (mc' := 0) (ms' := 0) (rc := 3) (rs := 19) dX12_area_34 lX12_3 ⟨by decide, by decide⟩ (Nat.le_of_ble_eq_true rfl) (Nat.le_of_ble_eq_true rfl) (s_isIn_t h4.1 h4.2) ?_
  refine am_is_ct ?_
  refine am_if_ne 37 44 dX12_area_37 rfl (fun c37 => ?_) (fun c37 => absurd c37 (by decide))
  refine am_iconst 44 (v := 0) dX12_area_44 (by decide) ?_
  refine am_iconst 45 (v := 1) dX12_area_45 (by decide) ?_
  refine am_V2 46 (mc' := 0) (ms' := 0) (rc := 3) (rs := 19) dX12_area_46 lX12_59 ⟨by decide, by decide⟩ e0 (Nat.le_of_ble_eq_true rfl) (Nat.le_of_ble_eq_true rfl) (s_rstart false (by decide) s) ?_
  rintro o n' f1 ⟨rfl, rfl, s1, g1⟩
  refine am_ctI ?_
  obtain ⟨⟨e0x, ⟨e3x, ewx⟩, earx, etyx⟩, e1x, e2x⟩ := id s1
  unfold r_m12 at e0x
  obtain ⟨-, -, el, mc, R, l0, l2, l1, -⟩ := id earx
  refine am_if_ne 49 76 dX12_area_49 rfl (fun c49 => absurd c49 (by decide)) (fun c49 => ?_)
  refine am_aload_n 52 dX12_area_52 rfl ?_
  refine am_aload_n 53 dX12_area_53 rfl ?_
  refine am_getfield 54 dX12_area_54 fX12_36 e0x rfl ?_
  refine am_V0 57 (mc' := 0) (ms' := 0) (rc := 3) (rs := 19) dX12_area_57 lX12_62 ⟨by decide, by decide⟩ l0 (Nat.le_of_ble_eq_true rfl) (Nat.le_of_ble_eq_true rfl) (s_size l0) ?_
  refine am_is_ct ?_
  refine am_iconst 60 (v := 4) dX12_area_60 (by decide) ?_
  refine am_icmp_ne 61 68 dX12_area_61 rfl (fun c61 => ?_) (fun c61 => absurd c61 n4)
  refine am_iconst 68 (v := 0) dX12_area_68 (by decide) ?_
  refine am_iconst 69 (v := 2) dX12_area_69 (by decide) ?_
  refine am_V2 70 (mc' := 0) (ms' := 0) (rc := 3) (rs := 19) dX12_area_70 lX12_43 ⟨by decide, by decide⟩ e0x (Nat.le_of_ble_eq_true rfl) (Nat.le_of_ble_eq_true rfl) (s_rrefuse false (by decide) s1) ?_
  rintro o n' f2 ⟨rfl, rfl, s2, g2⟩
  refine am_ctI ?_
  obtain ⟨⟨e0y, ⟨e3y, ewy⟩, eary, etyy⟩, e1y, e2y⟩ := id s2
  unfold r_m12 at e0y
  have l0y := (g2.2 (m + 4) (by omega) (s1.1.k0 (by omega)) (by omega) (by omega)).trans l0
  obtain ⟨-, -, el3, mc3, R3, l03, -, l13, lA⟩ := id eary
  refine am_if_eq 73 78 dX12_area_73 rfl (fun c73 => ?_) (fun c73 => absurd (by decide) c73)
  have go12 := g1.trans g2 (Nat.le_refl _)
  refine am_aload_n 78 dX12_area_78 rfl ?_
  refine am_getfield 79 dX12_area_79 fX12_36 e0y rfl ?_
  refine am_new 82 (rc := 2) (rs := 14) (N := 5) dX12_area_82 nX12_66 ?_
  refine am_dup 85 dX12_area_85 rfl ?_
  refine am_iload_n 86 dX12_area_86 rfl ?_
  refine am_iload_n 87 dX12_area_87 rfl ?_
  refine am_iload_n 88 dX12_area_88 rfl ?_
  refine am_iload 89 dX12_area_89 rfl ?_
  refine am_I4 91 (mc' := 1) (ms' := 4) (rc := 1) (rs := 10) dX12_area_91 lX12_68 ⟨by decide, by decide⟩ (Nat.le_of_ble_eq_true rfl) (Nat.le_of_ble_eq_true rfl) (s_rAre_init am_ue) ?_
  rintro o n' f3 ⟨rfl, rfl, c0, c1, c2⟩
  refine ⟨_, rfl, ?_⟩
  have o : ∀ x, x < n → f3 x = f2 x := fun x hx => (c2 x hx).trans (am_up_ne (by omega))
  have l0z := (o _ (by omega)).trans l0y
  have e0z := (o m (by omega)).trans e0y
  by_cases z : sz = 0
  · obtain ⟨rfl, rfl⟩ := l2 z
    subst z
    refine am_V1 94 (mc' := 1) (ms' := 10) (rc := 0) (rs := 0) dX12_area_94 lX12_71 ⟨by decide, by decide⟩ l0z (Nat.le_of_ble_eq_true rfl) (Nat.le_of_ble_eq_true rfl) (s_radd0 l0z (by omega) c0 (by omega) (by omega)) ?_
    rintro o n' f4 ⟨rfl, rfl, d0, ⟨R2, d1, d2⟩, d3⟩
    refine am_ctI ?_
    refine am_pop 97 dX12_area_97 rfl ?_
    refine am_aload_n 98 dX12_area_98 rfl ?_
    refine am_getfield 99 dX12_area_99 fX12_36 ((d3 m (by omega) (by omega)).trans e0z) rfl ?_
    refine am_V0 102 (mc' := 0) (ms' := 0) (rc := 0) (rs := 0) dX12_area_102 lX12_62 ⟨by decide, by decide⟩ d0 (Nat.le_of_ble_eq_true rfl) (Nat.le_of_ble_eq_true rfl) (s_size d0) ?_
    refine am_is_ct ?_
    refine am_iconst 105 (v := 1) dX12_area_105 (by decide) ?_
    refine am_isub 106 dX12_area_106 ?_
    refine am_ireturn 107 dX12_area_107 rfl rfl ?_
    subst hQ
    obtain ⟨κ3, s5, g5⟩ := hend (n + 2 + 1) f2 f4 (n + 2) _ R R2 ⟨fun k hk => absurd hk (Nat.not_lt_zero k), fun i j a b h1 h2 => absurd h2 (Nat.not_lt_zero j)⟩ (fun k hk => absurd hk (Nat.not_lt_zero k)) d2 s2 go12 (by omega) ((d3 _ (by omega) (by omega)).trans c0) ((d3 _ (by omega) (by omega)).trans c1) d0 d1 (by omega) (fun z => by omega) (by omega) (fun k hk => ⟨n, by rw [show k = 0 by omega]; exact d2, r_k3_0⟩) (fun x hx h1 h2 => (d3 x h1 (by omega)).trans (o x hx)) (fun z => by omega)
    exact ⟨⟨_, rfl⟩, by omega, κ3, 0, s5, g5⟩
  · obtain ⟨l3, l4, l5, l6⟩ := l1 (by omega)
    have l5' : f2 el = .inl (8, 10, .inr (.inr (.inr (.inr R)))) := by
      refine (g2.2 el l3.2 l4 (by omega) (by omega)).trans l5
    have l5z := (o el l3.2).trans l5'
    have eel : el3 = el := by
      have := l03.symm.trans l0y
      injection this with w
      injection w with w1 w2
      injection w2 with w3 w4
      injection w4 with w5 w6
      injection w5 with w7
    have eR : R3 = R := by
      have := (l13 (by omega)).2.2.1
      rw [eel, l5'] at this
      injection this with w
      injection w with w1 w2
      injection w2 with w3 w4
      injection w4 with w5
      injection w5 with w6
      injection w6 with w7
      injection w7 with w8
      exact w8.symm
    rw [eR] at lA
    have hR : ∀ k, k < sz + 1 → ∃ a, va_up R sz (some n) k = some a ∧ r_k3 n κ a = 3 := by
      intro k hk
      by_cases q : k = sz
      · exact ⟨n, by rw [q, am_up_eq], r_k3_0⟩
      · obtain ⟨a, a1, a2⟩ := l6 k (by omega)
        have ha : a < n := ((s.1.2.2.2 a).1 (by rw [a2]; decide)).2
        exact ⟨a, by rw [am_up_ne q]; exact a1, (r_k3_x ha).trans a2⟩
    refine am_V1 94 (mc' := 0) (ms' := 0) (rc := 1) (rs := 10) dX12_area_94 lX12_71 ⟨by decide, by decide⟩ l0z (Nat.le_of_ble_eq_true rfl) (Nat.le_of_ble_eq_true rfl) (s_raddK (k := sz) l0z l5z (by omega) c0 (by omega) (by omega) (by omega)) ?_
    rintro o n' f4 ⟨rfl, rfl, d0, d1, d3⟩
    refine am_ctI ?_
    refine am_pop 97 dX12_area_97 rfl ?_
    refine am_aload_n 98 dX12_area_98 rfl ?_
    refine am_getfield 99 dX12_area_99 fX12_36 ((d3 m (by omega) (by omega)).trans e0z) rfl ?_
    refine am_V0 102 (mc' := 0) (ms' := 0) (rc := 1) (rs := 10) dX12_area_102 lX12_62 ⟨by decide, by decide⟩ d0 (Nat.le_of_ble_eq_true rfl) (Nat.le_of_ble_eq_true rfl) (s_size d0) ?_
    refine am_is_ct ?_
    refine am_iconst 105 (v := 1) dX12_area_105 (by decide) ?_
    refine am_isub 106 dX12_area_106 ?_
    refine am_ireturn 107 dX12_area_107 rfl rfl ?_
    subst hQ
    obtain ⟨κ3, s5, g5⟩ := hend (n + 2) f2 f4 el _ R _ lA (fun k hk => am_up_ne (by omega)) am_up_eq s2 go12 (by omega) ((d3 _ (by omega) (by omega)).trans c0) ((d3 _ (by omega) (by omega)).trans c1) d0 d1 (by omega) (fun _ => l4) (by omega) hR (fun x hx h1 h2 => (d3 x h1 h2).trans (o x hx)) (fun _ => ⟨_, l5'⟩)
    exact ⟨⟨_, rfl⟩, by omega, κ3, 0, s5, g5⟩
end RArea
