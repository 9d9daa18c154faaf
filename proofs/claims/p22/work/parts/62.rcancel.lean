/-! ===== the reference in any state: its state, to the letter ===== -/
section RCancel
variable {m n sz : Nat} {f : Nat → am_C} {κ : Nat → Nat} {th h di li : Int32} {cs : Nat → Option Nat} {G : Nat → m_K}
/-- the model's own cell -/
def r_m12 (m : Nat) (th h di li ta to be lf ca : Int32) : am_C := .inr (12, [.int th, .ref (m + 1), .ref (m + 2), .int h, .int di, .int li, .ref (m + 3), .ref (m + 4), .int ta, .int to, .int be, .int lf, .int ca])
def r_cs (f : Nat → am_C) (m : Nat) (κ : Nat → Nat) (cs : Nat → Option Nat) : Prop := f (m + 3) = .inl (7, 5, .inr (.inr (.inr (.inr cs)))) ∧ ∀ k, k < 5 → ∀ c, cs k = some c → κ c = 1
def r_S (m n : Nat) (f : Nat → am_C) (κ : Nat → Nat) (sz : Nat) (G : Nat → m_K) (th h di li : Int32) (cs : Nat → Option Nat) : Prop := f m = r_m12 m th h di li (r_n G 0) (r_n G 1) (r_n G 2) (r_n G 3) (r_n G 4) ∧ r_cs f m κ cs ∧ r_ar f m n sz G κ ∧ r_ty m n sz G κ f
/-- what is kept: the kinds of what was there, and all that is of no kind but the model's cell and its array of contacts -/
def r_go (m n : Nat) (κ κ' : Nat → Nat) (f f' : Nat → am_C) : Prop := (∀ x, x < n → κ' x = κ x) ∧ ∀ x, x < n → κ x = 0 → x ≠ m → x ≠ m + 3 → f' x = f x
theorem r_go.refl : r_go m n κ κ f f := ⟨fun _ _ => rfl, fun _ _ _ _ _ => rfl⟩
theorem r_go.trans {n1 : Nat} {κ1 κ2 : Nat → Nat} {f1 f2 : Nat → am_C} (a : r_go m n κ κ1 f f1) (b : r_go m n1 κ1 κ2 f1 f2) (hn : n ≤ n1) : r_go m n κ κ2 f f2 :=
  ⟨fun x hx => (b.1 x (by omega)).trans (a.1 x hx), fun x hx k0 h1 h2 => (b.2 x (by omega) ((a.1 x hx).trans k0) h1 h2).trans (a.2 x hx k0 h1 h2)⟩
theorem r_S.k0 (s : r_S m n f κ sz G th h di li cs) {x : Nat} (hx : x < m + 5) : κ x = 0 := Classical.byContradiction fun q => by have := ((s.2.2.2 x).1 q).1; omega
theorem r_S.n5 (s : r_S m n f κ sz G th h di li cs) : m + 5 ≤ n := s.2.2.1.2.1
theorem r_S.cn (s : r_S m n f κ sz G th h di li cs) {k c : Nat} (hk : k < 5) (hc : cs k = some c) : κ c = 1 ∧ m + 5 ≤ c ∧ c < n := by
  have e := s.2.1.2 k hk c hc
  exact ⟨e, (s.2.2.2 c).1 (by omega)⟩
/-- a next state: the areas as they were -/
theorem r_S.on {n' : Nat} {κ' : Nat → Nat} {G2 : Nat → m_K} {f' : Nat → am_C} {th' h' di' li' : Int32} {cs' : Nat → Option Nat} (s : r_S m n f κ sz G th h di li cs) (hn : n ≤ n') (g : r_go m n κ κ' f f') (e : ∀ x, κ x = 3 ∨ κ x = 4 → f' x = f x) (hG : ∀ k, k < 4 → G2 k = G k) (h0 : f' m = r_m12 m th' h' di' li' (r_n G2 0) (r_n G2 1) (r_n G2 2) (r_n G2 3) (r_n G2 4)) (hc : r_cs f' m κ' cs') (ht : r_ty m n' sz G2 κ' f') : r_S m n' f' κ' sz G2 th' h' di' li' cs' := by
  obtain ⟨s1, s2, s3, s4⟩ := s
  exact ⟨h0, hc, s3.on s4 hn g.1 (fun x h1 h2 h3 => h3.elim (fun q => g.2 x h2 q (by omega) (by omega)) (e x)) hG, ht⟩
/-- the same state, other things changed -/
theorem r_S.far {n' : Nat} {f' : Nat → am_C} (s : r_S m n f κ sz G th h di li cs) (hn : n ≤ n') (h0 : f' m = f m) (h3 : f' (m + 3) = f (m + 3)) (h4 : f' (m + 4) = f (m + 4)) (g : ∀ x, m + 5 ≤ x → x < n → f' x = f x ∨ κ x = 0 ∧ ∃ t a, f x = .inl (t, a) ∧ t ≠ 8) : r_S m n' f' κ sz G th h di li cs := by
  have hk := fun x (hx : κ x ≠ 0) => (s.2.2.2 x).1 hx
  have e : ∀ x, κ x ≠ 0 → f' x = f x := fun x hx => by
    rcases g x (hk x hx).1 (hk x hx).2 with e | ⟨e, -⟩
    · exact e
    · exact absurd e hx
  obtain ⟨s1, s2, ⟨a1, a2, el, mc, R, a3, a5, a4, a6⟩, s4⟩ := s
  refine ⟨h0.trans s1, ⟨h3.trans s2.1, s2.2⟩, ⟨a1, by omega, el, mc, R, h4.trans a3, a5, fun hs => ?_, a6.on (fun x hx => ⟨rfl, e x (by omega)⟩) fun _ _ => rfl⟩, s4.on hn e⟩
  obtain ⟨b1, b2, b3, b4⟩ := a4 hs
  refine ⟨⟨b1.1, by omega⟩, b2, ?_, b4⟩
  rcases g el b1.1 b1.2 with e | ⟨-, t, a, e, e2⟩
  · exact e.trans b3
  · rw [b3] at e
    cases e
    exact absurd rfl e2
/-- a counter, one more -/
def y_nG (G : Nat → m_K) (i : Nat) : Nat → m_K := va_up G 4 (va_up (G 4).1 i ((G 4).1 i + 1), (G 4).2)
theorem y_nG_x {i x : Nat} (hx : x ≠ 4) : y_nG G i x = G x := am_up_ne hx
theorem r_n_up {i : Nat} : r_n (y_nG G i) i = r_n G i + 1 := by
  unfold r_n y_nG
  rw [am_up_eq]
  exact am_up_eq
theorem r_n_ne {i j : Nat} (h : j ≠ i) : r_n (y_nG G i) j = r_n G j := by
  unfold r_n y_nG
  rw [am_up_eq]
  exact am_up_ne h
theorem r_n_cG {ar : Int32} {j i : Nat} {by1 : Int32} (h : ar = -1 ∨ ∃ k, k < sz ∧ ar = nI k) (hs : sz ≤ 4) : r_n (y_cG G ar j by1) i = r_n G i := by
  unfold r_n
  rw [y_cG_x h hs (Nat.le_refl _)]
/-- the ghost once the contact at c is cancelled -/
def y_caG (G : Nat → m_K) (c : Nat) : Nat → m_K := if (G c).1 6 = 0 then G else y_cG G ((G c).1 7) ((G c).1 6).toNatClampNeg (-1)
theorem s_rcancel {k c : Nat} (s : r_S m n f κ sz G th h di li cs) (hk : k < 5) (hc : cs k = some c) : AM mX12_cancel 0 0 [.ref m, .int (nI k)] n f (fun o n' f' => o = .inl none ∧ n = n' ∧ r_S m n f' κ sz (y_nG (y_caG G c) 4) th h di li (va_up cs k none) ∧ r_go m n κ κ f f') := by
  have s0 := s
  obtain ⟨h0, ⟨c3, cw⟩, har, hty⟩ := s
  have hc1 := cw k hk c hc
  have hs4 := har.1
  obtain ⟨ap, cl, kk, g0, g1, g2, g3, g4, g5, rfl, g7⟩ := (hty c).2.1 hc1
  have k0 : ∀ x, x < m + 5 → κ x = 0 := fun x hx => s0.k0 hx
  have hcw : ∀ j, j < 5 → ∀ c, va_up cs k none j = some c → κ c = 1 := by
    intro j hj c' hc'
    by_cases e : j = k
    · rw [e, am_up_eq] at hc'; cases hc'
    · rw [am_up_ne e] at hc'; exact cw j hj c' hc'
  have hend : ∀ (G1 : Nat → m_K) (f1 : Nat → am_C), f1 m = r_m12 m th h di li (r_n G1 0) (r_n G1 1) (r_n G1 2) (r_n G1 3) (r_n G1 4) → f1 (m + 3) = .inl (7, 5, .inr (.inr (.inr (.inr cs)))) → r_ar f1 m n sz G1 κ → r_ty m n sz G1 κ f1 → (∀ x, κ x ≠ 4 → f1 x = f x) → y_caG G c = G1 → AW mX12_cancel 0 0 32 [some (.ref m), some (.int (nI k))] [] n f1 (fun o n' f' => o = .inl none ∧ n = n' ∧ r_S m n f' κ sz (y_nG (y_caG G c) 4) th h di li (va_up cs k none) ∧ r_go m n κ κ f f') := by
    intro G1 f1 e0 e3 ea et ex eG
    rw [eG]
    have g : r_go m n κ κ f (va_up (va_up f1 (m + 3) (.inl (7, 5, .inr (.inr (.inr (.inr (va_up cs k none))))))) m (r_m12 m th h di li (r_n G1 0) (r_n G1 1) (r_n G1 2) (r_n G1 3) (r_n G1 4 + 1))) := ⟨fun _ _ => rfl, fun x _ hx h1 h2 => by rw [am_up_ne h1, am_up_ne h2]; exact ex x (by rw [hx]; decide)⟩
    have hx : ∀ x, x ≠ m → x ≠ m + 3 → va_up (va_up f1 (m + 3) (.inl (7, 5, .inr (.inr (.inr (.inr (va_up cs k none))))))) m (r_m12 m th h di li (r_n G1 0) (r_n G1 1) (r_n G1 2) (r_n G1 3) (r_n G1 4 + 1)) x = f1 x := fun x h1 h2 => by rw [am_up_ne h1, am_up_ne h2]
    have fin : r_S m n (va_up (va_up f1 (m + 3) (.inl (7, 5, .inr (.inr (.inr (.inr (va_up cs k none))))))) m (r_m12 m th h di li (r_n G1 0) (r_n G1 1) (r_n G1 2) (r_n G1 3) (r_n G1 4 + 1))) κ sz (y_nG G1 4) th h di li (va_up cs k none) := by
      refine ⟨?_, ⟨am_un (by omega) am_ue, hcw⟩, ea.on et (Nat.le_refl _) (fun _ _ => rfl) (fun x h1 h2 h3 => hx x (by omega) (by omega)) (fun k hk => y_nG_x (by omega)), (et.on (Nat.le_refl _) fun x hx2 => hx x (fun z => hx2 (by rw [z]; exact k0 m (by omega))) (fun z => hx2 (by rw [z]; exact k0 (m + 3) (by omega)))).ghost fun x hx => y_nG_x (by omega)⟩
      rw [r_n_up, r_n_ne (by decide), r_n_ne (by decide), r_n_ne (by decide), r_n_ne (by decide)]
      exact am_ue
    unfold r_m12 at e0
    refine am_aload_n 32 dX12_cancel_32 rfl ?_
    refine am_getfield 33 dX12_cancel_33 fX12_29 (by repeat (first | assumption | exact am_ue | refine am_un (by first | assumption | decide | omega) ?_)) rfl ?_
    refine am_iload_n 36 dX12_cancel_36 rfl ?_
    refine am_null 37 dX12_cancel_37 ?_
    refine am_aastoreN 38 dX12_cancel_38 rfl e3 (am_ix hk (by decide)) ?_
    rw [nI_clamp (n := k) (by omega)]
    refine am_aload_n 39 dX12_cancel_39 rfl ?_
    refine am_dup 40 dX12_cancel_40 rfl ?_
    refine am_getfield 41 dX12_cancel_41 fX12_116 (by repeat (first | assumption | exact am_ue | refine am_un (by first | assumption | decide | omega) ?_)) rfl ?_
    refine am_iconst 44 (v := 1) dX12_cancel_44 (by decide) ?_
    refine am_iadd 45 dX12_cancel_45 ?_
    refine am_putfield 46 dX12_cancel_46 pX12_116 (am_un (by omega) e0) rfl rfl (Nat.le_of_ble_eq_true rfl) ?_
    refine am_return 49 dX12_cancel_49 rfl ?_
    exact ⟨rfl, rfl, fin, g⟩
  unfold r_kF at g0
  have h0' := h0
  unfold r_m12 at h0
  by_cases e : (G c).1 6 = 0
  · refine am_aload_n 0 dX12_cancel_0 rfl ?_
    refine am_getfield 1 dX12_cancel_1 fX12_29 (by repeat (first | assumption | exact am_ue | refine am_un (by first | assumption | decide | omega) ?_)) rfl ?_
    refine am_iload_n 4 dX12_cancel_4 rfl ?_
    refine am_aaload 5 dX12_cancel_5 rfl (by repeat (first | assumption | exact am_ue | refine am_un (by first | assumption | decide | omega) ?_)) (am_ix hk (by decide)) ?_
    rw [nI_clamp (n := k) (by omega), hc, show va_rf (some c) = Value.ref c from rfl]
    refine am_getfield 6 dX12_cancel_6 fX12_109 (by repeat (first | assumption | exact am_ue | refine am_un (by first | assumption | decide | omega) ?_)) rfl ?_
    refine am_if_eq 9 32 dX12_cancel_9 rfl (fun c9 => ?_) (fun c9 => absurd e c9)
    exact hend G f h0' c3 har hty (fun _ _ => rfl) (if_pos e)
  · have hcc := s_rcount (j := cl) (by1 := -1) h0 har hty hc1 g4
    have eG : y_caG G c = y_cG G ((G c).1 7) cl (-1) := by
      unfold y_caG
      rw [if_neg e, g5, nI_clamp (n := cl) (by omega)]
    rw [← g5] at hcc
    refine am_aload_n 0 dX12_cancel_0 rfl ?_
    refine am_getfield 1 dX12_cancel_1 fX12_29 (by repeat (first | assumption | exact am_ue | refine am_un (by first | assumption | decide | omega) ?_)) rfl ?_
    refine am_iload_n 4 dX12_cancel_4 rfl ?_
    refine am_aaload 5 dX12_cancel_5 rfl (by repeat (first | assumption | exact am_ue | refine am_un (by first | assumption | decide | omega) ?_)) (am_ix hk (by decide)) ?_
    rw [nI_clamp (n := k) (by omega), hc, show va_rf (some c) = Value.ref c from rfl]
    refine am_getfield 6 dX12_cancel_6 fX12_109 (by repeat (first | assumption | exact am_ue | refine am_un (by first | assumption | decide | omega) ?_)) rfl ?_
    refine am_if_eq 9 32 dX12_cancel_9 rfl (fun c9 => absurd c9 (fun q => e q)) (fun c9 => ?_)
    refine am_aload_n 12 dX12_cancel_12 rfl ?_
    refine am_aload_n 13 dX12_cancel_13 rfl ?_
    refine am_getfield 14 dX12_cancel_14 fX12_29 (by repeat (first | assumption | exact am_ue | refine am_un (by first | assumption | decide | omega) ?_)) rfl ?_
    refine am_iload_n 17 dX12_cancel_17 rfl ?_
    refine am_aaload 18 dX12_cancel_18 rfl (by repeat (first | assumption | exact am_ue | refine am_un (by first | assumption | decide | omega) ?_)) (am_ix hk (by decide)) ?_
    rw [nI_clamp (n := k) (by omega), hc, show va_rf (some c) = Value.ref c from rfl]
    refine am_aload_n 19 dX12_cancel_19 rfl ?_
    refine am_getfield 20 dX12_cancel_20 fX12_29 (by repeat (first | assumption | exact am_ue | refine am_un (by first | assumption | decide | omega) ?_)) rfl ?_
    refine am_iload_n 23 dX12_cancel_23 rfl ?_
    refine am_aaload 24 dX12_cancel_24 rfl (by repeat (first | assumption | exact am_ue | refine am_un (by first | assumption | decide | omega) ?_)) (am_ix hk (by decide)) ?_
    rw [nI_clamp (n := k) (by omega), hc, show va_rf (some c) = Value.ref c from rfl]
    refine am_getfield 25 dX12_cancel_25 fX12_109 (by repeat (first | assumption | exact am_ue | refine am_un (by first | assumption | decide | omega) ?_)) rfl ?_
    refine am_iconst 28 (v := (-1)) dX12_cancel_28 (by decide) ?_
    refine am_V3 29 (mc' := 0) (ms' := 0) (rc := 0) (rs := 0) dX12_cancel_29 lX12_112 ⟨by decide, by decide⟩ h0 (Nat.le_of_ble_eq_true rfl) (Nat.le_of_ble_eq_true rfl) (hcc) ?_
    rintro o n' f1 ⟨rfl, rfl, ha, ht, ex⟩
    refine am_ctI ?_
    refine hend _ f1 ?_ ((ex _ (by rw [k0 (m + 3) (by omega)]; decide)).trans c3) ha ht ex eG
    rw [r_n_cG g3 hs4, r_n_cG g3 hs4, r_n_cG g3 hs4, r_n_cG g3 hs4, r_n_cG g3 hs4]
    exact (ex m (by rw [k0 m (by omega)]; decide)).trans h0'
end RCancel
