/-! ===== the reference: a view in any state: hum, place, drift ===== -/
section RAsk
variable {v u n c m : Nat} {f : Nat → am_C} {sig sz pk : Nat → Int32} {mn h th : Int32} {w bs : Nat → Int32} {r : List Value}
theorem s_charges (h0 : f m = .inr (12, .int th :: .ref (m + 1) :: .ref (m + 2) :: .int h :: r)) (h2 : f (m + 2) = .inl (0, 48, .inl w)) (hm : m + 4 < n) : AM mX12_charges 1 48 [.ref m] n f (fun o n' f' => o = .inl (some (.ref n)) ∧ n' = n + 1 ∧ f' = va_up f n (.inl (0, 48, .inl (fun k => h + w k)))) := by
  show AW mX12_charges 1 48 0 [some (.ref m), none, none] [] n f _
  refine am_bipush 0 (v := 48) dX12_charges_0 (by decide) ?_
  refine am_newints 2 (t := 0) (N := 48) (rc := 0) (rs := 0) dX12_charges_2 ac_int rfl (by decide) (by decide) (by decide) ?_
  refine am_astore_n 4 dX12_charges_4 (by decide) ?_
  refine am_iconst 5 (v := 0) dX12_charges_5 (by decide) ?_
  refine am_istore_n 6 dX12_charges_6 (by decide) ?_
  refine am_for 48 (fun k (g : Nat → Int32) => ∀ x, x < k → g x = h + w x) (fun k g => AW mX12_charges 0 0 7 [some (.ref m), some (.ref n), some (.int (nI k))] [] (n + 1) (va_up f n (.inl (0, 48, .inl g))) _) ?_ ?_ 0 _ (by omega) (fun x hx => by omega)
  · intro g hg
    refine AW.ints (fun k => h + w k) am_ue hg ?_
    rw [am_uu]
    refine am_iload_n 7 dX12_charges_7 rfl ?_
    refine am_bipush 8 (v := 48) dX12_charges_8 (by decide) ?_
    refine am_icmp_ge 10 33 dX12_charges_10 rfl (fun c10 => ?_) (fun c10 => absurd (by decide) c10)
    refine am_aload_n 33 dX12_charges_33 rfl ?_
    exact am_areturn 34 dX12_charges_34 rfl (Or.inr ⟨_, rfl⟩) ⟨rfl, rfl, rfl⟩
  · intro k g hk hg ih
    refine am_iload_n 7 dX12_charges_7 rfl ?_
    refine am_bipush 8 (v := 48) dX12_charges_8 (by decide) ?_
    refine am_icmp_ge 10 33 dX12_charges_10 rfl (fun c10 => absurd c10 (nI_ge hk (by decide))) (fun c10 => ?_)
    refine am_aload_n 13 dX12_charges_13 rfl ?_
    refine am_iload_n 14 dX12_charges_14 rfl ?_
    refine am_aload_n 15 dX12_charges_15 rfl ?_
    refine am_getfield 16 dX12_charges_16 fX12_47 (by first | exact am_ue | exact am_un (by omega) h0 | exact am_un (by omega) h2) rfl ?_
    refine am_aload_n 19 dX12_charges_19 rfl ?_
    refine am_getfield 20 dX12_charges_20 fX12_17 (by first | exact am_ue | exact am_un (by omega) h0 | exact am_un (by omega) h2) rfl ?_
    refine am_iload_n 23 dX12_charges_23 rfl ?_
    refine am_iaload 24 dX12_charges_24 rfl (by first | exact am_ue | exact am_un (by omega) h0 | exact am_un (by omega) h2) (am_ix hk (by decide)) ?_
    rw [nI_clamp (n := k) (by omega)]
    refine am_iadd 25 dX12_charges_25 ?_
    refine am_iastore 26 dX12_charges_26 rfl (by first | exact am_ue | exact am_un (by omega) h0 | exact am_un (by omega) h2) (am_ix hk (by decide)) ?_
    rw [nI_clamp (n := k) (by omega), am_uu]
    refine am_iinc 27 (v := nI (k + 1)) dX12_charges_27 rfl (nI_1 (k)) (by decide) ?_
    refine am_goto 30 (tgt := 7) dX12_charges_30 rfl ?_
    refine ih _ (fun x hx => ?_)
    by_cases e : x = k
    · subst e; exact am_up_eq
    · rw [am_up_ne e]; exact hg x (by omega)
/-- a view of these signals -/
def r_W (f : Nat → am_C) (v u : Nat) (sig : Nat → Int32) : Prop := ∃ pk : Nat → Int32, f v = .inr (11, [.ref u, .ref (u + 1), .ref (u + 2), .int (nI (m_pks sig 48).length)]) ∧ f u = .inl (0, 48, .inl sig) ∧ f (u + 1) = .inl (0, 48, .inl (m_reg sig)) ∧ f (u + 2) = .inl (0, 48, .inl pk) ∧ m_chn pk (m_pks sig 48)
theorem r_W.on {f' : Nat → am_C} (hW : r_W f v u sig) (e : ∀ x, x = v ∨ (u ≤ x ∧ x ≤ u + 2) → f' x = f x) : r_W f' v u sig := by
  obtain ⟨pk, h1, h2, h3, h4, h5⟩ := hW
  exact ⟨pk, (e _ (by omega)).trans h1, (e _ (by omega)).trans h2, (e _ (by omega)).trans h3, (e _ (by omega)).trans h4, h5⟩
theorem s_view (h0 : f m = .inr (12, .int th :: .ref (m + 1) :: .ref (m + 2) :: .int h :: r)) (h1 : f (m + 1) = .inl (0, 48, .inl bs)) (h2 : f (m + 2) = .inl (0, 48, .inl w)) (hm : m + 4 < n) : AM mX12_view 7 292 [.ref m] n f (fun o n' f' => o = .inl (some (.ref n)) ∧ n' = n + 7 ∧ r_W f' n (n + 2) (fun k => h + w k - bs k) ∧ ∀ x, x < n → f' x = f x) := by
  show AW mX12_view 7 292 0 [some (.ref m)] [] n f _
  refine am_new 0 (rc := 6) (rs := 288) (N := 4) dX12_view_0 nX12_50 ?_
  refine am_dup 3 dX12_view_3 rfl ?_
  refine am_aload_n 4 dX12_view_4 rfl ?_
  refine am_V0 5 (mc' := 1) (ms' := 48) (rc := 5) (rs := 240) dX12_view_5 lX12_52 ⟨by decide, by decide⟩ (am_un (by omega) h0) (Nat.le_of_ble_eq_true rfl) (Nat.le_of_ble_eq_true rfl) (s_charges (am_un (by omega) h0) (am_un (by omega) h2) (by omega)) ?_
  rintro o n' f' ⟨rfl, rfl, rfl⟩
  refine am_ctI ?_
  refine am_aload_n 8 dX12_view_8 rfl ?_
  refine am_getfield 9 dX12_view_9 fX12_13 (am_un (by omega) (am_un (by omega) h0)) rfl ?_
  refine am_I2 12 (mc' := 5) (ms' := 240) (rc := 0) (rs := 0) dX12_view_12 lX12_56 ⟨by decide, by decide⟩ (Nat.le_of_ble_eq_true rfl) (Nat.le_of_ble_eq_true rfl) (s_View_init (u := n + 2) (am_un (by omega) am_ue) am_ue (am_un (by omega) (am_un (by omega) h1)) (by omega) (by omega) (by omega)) ?_
  rintro o n' f' ⟨pk, g, w', rfl, hn, rfl, hq⟩
  obtain rfl : n' = n + 7 := hn
  refine ⟨_, rfl, ?_⟩
  refine am_areturn 15 dX12_view_15 rfl (Or.inl ⟨_, rfl⟩) ?_
  exact ⟨rfl, rfl, ⟨pk, r_a0, r_a1 (by omega), r_a2 (by omega), r_a3 (by omega), hq⟩, fun x hx => by rw [r_out (by omega), am_up_ne (by omega), am_up_ne (by omega)]⟩
theorem r_abs {x : Int32} (h : x.toInt.natAbs ≤ 300000) : (if 0 ≤ x then x else 0 - x) = nI x.toInt.natAbs := by
  apply Int32.toInt_inj.mp
  rw [nI_toInt (by omega)]
  split
  · rename_i c
    have := Int32.le_iff_toInt_le.mp c
    rw [show (0 : Int32).toInt = 0 from rfl] at this
    omega
  · rename_i c
    have := Int32.lt_iff_toInt_lt.mp (Int32.not_le.mp c)
    rw [show (0 : Int32).toInt = 0 from rfl] at this
    rw [Int32.toInt_sub, show (0 : Int32).toInt = 0 from rfl, Int.bmod_eq_of_le (by omega) (by omega)]
    omega
theorem r_hu_le (hs : ∀ x, x < 48 → (sig x).toInt.natAbs ≤ 300000) {k : Nat} (hk : k ≤ 48) : m_S (m_huF sig) k ≤ k * 300000 := by
  refine Nat.le_trans (m_S_le (h := fun _ => 300000) fun j hj => ?_) (by rw [m_S_const]; exact Nat.le_refl _)
  unfold m_huF
  have := hs j (by omega)
  split <;> omega
theorem s_vhum (h0 : f v = .inr (11, [.ref (u), .ref (u + 1), .ref (u + 2), .int mn])) (h1 : f (u) = .inl (0, 48, .inl sig)) (hs : ∀ x, x < 48 → (sig x).toInt.natAbs ≤ 300000) : AM mX11_hum 0 0 [.ref v] n f (am_is (some (.int (m_hum sig))) n f) := by
  show AW mX11_hum 0 0 0 [some (.ref v), none, none, none] [] n f _
  have hcl := m_ca_le (sig := sig)
  have hul := r_hu_le hs (Nat.le_refl 48)
  refine am_iconst 0 (v := 0) dX11_hum_0 (by decide) ?_
  refine am_istore_n 1 dX11_hum_1 (by decide) ?_
  refine am_iconst 2 (v := 0) dX11_hum_2 (by decide) ?_
  refine am_istore_n 3 dX11_hum_3 (by decide) ?_
  refine am_iconst 4 (v := 0) dX11_hum_4 (by decide) ?_
  refine am_istore_n 5 dX11_hum_5 (by decide) ?_
  refine am_for 48 (fun _ (_ : Unit) => True) (fun k _ => AW mX11_hum 0 0 6 [some (.ref v), some (.int (nI (m_S (m_huF sig) k))), some (.int (nI (m_S (m_caF sig) k))), some (.int (nI k))] [] n f _) ?_ ?_ 0 () (by omega) trivial
  · rintro ⟨⟩ -
    generalize hw : m_S (m_caF sig) 48 = ca at hcl
    generalize hm : m_S (m_huF sig) 48 = hu at hul
    refine am_iload_n 6 dX11_hum_6 rfl ?_
    refine am_bipush 7 (v := 48) dX11_hum_7 (by decide) ?_
    refine am_icmp_ge 9 41 dX11_hum_9 rfl (fun c9 => ?_) (fun c9 => absurd (by decide) c9)
    refine am_iload_n 41 dX11_hum_41 rfl ?_
    refine am_if_ne 42 49 dX11_hum_42 rfl (fun c42 => ?_) (fun c42 => ?_)
    · have hw0 : 0 < ca := Nat.pos_of_ne_zero fun z => c42 (by rw [z]; rfl)
      refine am_iload_n 49 dX11_hum_49 rfl ?_
      refine am_iload_n 50 dX11_hum_50 rfl ?_
      refine am_idiv 51 dX11_hum_51 (nI_ne0 (by omega) (by omega)) ?_
      rw [pk_div (by omega) (by omega) (by omega)]
      refine am_ireturn 52 dX11_hum_52 rfl rfl ?_
      refine ⟨?_, rfl, rfl⟩
      unfold m_hum
      rw [hw, hm]
      first | rw [if_pos hw0] | (rw [if_neg (by omega)])
    · have hw0 : ca = 0 := am_eqN 0 c42 (by decide) (by omega)
      refine am_iconst 45 (v := 0) dX11_hum_45 (by decide) ?_
      refine am_goto 46 (tgt := 52) dX11_hum_46 rfl ?_
      refine am_ireturn 52 dX11_hum_52 rfl rfl ?_
      refine ⟨?_, rfl, rfl⟩
      unfold m_hum
      rw [hw, hm]
      first | rw [if_pos hw0] | (rw [if_neg (by omega)])
  · rintro k ⟨⟩ hk - ih
    have ih := ih () trivial
    refine am_iload_n 6 dX11_hum_6 rfl ?_
    refine am_bipush 7 (v := 48) dX11_hum_7 (by decide) ?_
    refine am_icmp_ge 9 41 dX11_hum_9 rfl (fun c9 => absurd c9 (nI_ge hk (by decide))) (fun c9 => ?_)
    refine am_aload_n 12 dX11_hum_12 rfl ?_
    refine am_iload_n 13 dX11_hum_13 rfl ?_
    refine am_V1 14 (mc' := 0) (ms' := 0) (rc := 0) (rs := 0) dX11_hum_14 lX11_21 ⟨by decide, by decide⟩ (by repeat (first | assumption | exact am_ue | refine am_un (by first | assumption | decide | omega) ?_)) (Nat.le_of_ble_eq_true rfl) (Nat.le_of_ble_eq_true rfl) (s_vTouched h0 h1 hk) ?_
    refine am_is_ct ?_
    refine am_if_ne 17 35 dX11_hum_17 rfl (fun c17 => ?_) (fun c17 => ?_)
    · have e1 : m_S (m_huF sig) (k + 1) = m_S (m_huF sig) k := by show _ + m_huF sig k = _; unfold m_huF; rw [if_pos (Classical.not_not.mp fun z => c17 (m_tc_0.mpr z))]; rfl
      have e2 : m_S (m_caF sig) (k + 1) = m_S (m_caF sig) k := by show _ + m_caF sig k = _; unfold m_caF; rw [if_pos (Classical.not_not.mp fun z => c17 (m_tc_0.mpr z))]; rfl
      rw [e1, e2] at ih
      refine am_iinc 35 (v := nI (k + 1)) dX11_hum_35 rfl (nI_1 (k)) (by decide) ?_
      refine am_goto 38 (tgt := 6) dX11_hum_38 rfl ?_
      exact ih
    · have c17x := m_tc_0.mp c17
      have e1 : m_S (m_huF sig) (k + 1) = m_S (m_huF sig) k + (sig k).toInt.natAbs := by show _ + m_huF sig k = _; unfold m_huF; rw [if_neg c17x]
      have e2 : m_S (m_caF sig) (k + 1) = m_S (m_caF sig) k + 1 := by show _ + m_caF sig k = _; unfold m_caF; rw [if_neg c17x]
      rw [e1, e2] at ih
      refine am_iload_n 20 dX11_hum_20 rfl ?_
      refine am_aload_n 21 dX11_hum_21 rfl ?_
      refine am_getfield 22 dX11_hum_22 fX11_9 (by repeat (first | assumption | exact am_ue | refine am_un (by first | assumption | decide | omega) ?_)) rfl ?_
      refine am_iload_n 25 dX11_hum_25 rfl ?_
      refine am_iaload 26 dX11_hum_26 rfl (by repeat (first | assumption | exact am_ue | refine am_un (by first | assumption | decide | omega) ?_)) (am_ix hk (by decide)) ?_
      rw [nI_clamp (n := k) (by omega)]
      refine am_abs 27 dX11_hum_27 jX11_48 (by decide) (Nat.le_of_ble_eq_true rfl) ?_
      rw [r_abs (hs k hk)]
      refine am_iadd 30 dX11_hum_30 ?_
      rw [nI_add]
      refine am_istore_n 31 dX11_hum_31 (by decide) ?_
      refine am_iinc 32 (v := nI (m_S (m_caF sig) k + 1)) dX11_hum_32 rfl (nI_1 (m_S (m_caF sig) k)) (by decide) ?_
      refine am_iinc 35 (v := nI (k + 1)) dX11_hum_35 rfl (nI_1 (k)) (by decide) ?_
      refine am_goto 38 (tgt := 6) dX11_hum_38 rfl ?_
      exact ih
theorem r_sig0 : ∀ k : Nat, k < 19 → ((nI k - 9) >>> (31 &&& 31 : Int32) ||| ((0 - (nI k - 9)).toUInt32 >>> (31 &&& 31 : Int32).toUInt32).toInt32) = m_cmp (nI k - 9) 0 := by decide +kernel
theorem s_signum {x : Int32} (h1 : -10 < x) (h2 : x < 10) : AM mJ6_signum_0f7a4 0 0 [.int x] n f (am_is (some (.int (m_cmp x 0))) n f) := by
  have g1 := Int32.lt_iff_toInt_lt.mp h1
  have g2 := Int32.lt_iff_toInt_lt.mp h2
  rw [show (-10 : Int32).toInt = -10 from rfl] at g1
  rw [show (10 : Int32).toInt = 10 from rfl] at g2
  obtain ⟨k, hk, rfl⟩ : ∃ k : Nat, k < 19 ∧ x = nI k - 9 := by
    refine ⟨(x.toInt + 9).toNat, by omega, Int32.toInt_inj.mp ?_⟩
    rw [Int32.toInt_sub, nI_toInt (by omega), show (9 : Int32).toInt = 9 from rfl, Int.bmod_eq_of_le (by omega) (by omega)]
    omega
  have e := r_sig0 k hk
  show AW mJ6_signum_0f7a4 0 0 0 [some (.int (nI k - 9))] [] n f _
  refine am_iload_n 0 dJ6_signum_0f7a4_0 rfl ?_
  refine am_bipush 1 (v := 31) dJ6_signum_0f7a4_1 (by decide) ?_
  refine am_ishr 3 dJ6_signum_0f7a4_3 ?_
  refine am_iload_n 4 dJ6_signum_0f7a4_4 rfl ?_
  refine am_ineg 5 dJ6_signum_0f7a4_5 ?_
  refine am_bipush 6 (v := 31) dJ6_signum_0f7a4_6 (by decide) ?_
  refine am_iushr 8 dJ6_signum_0f7a4_8 ?_
  refine am_ior 9 dJ6_signum_0f7a4_9 ?_
  refine am_ireturn 10 dJ6_signum_0f7a4_10 rfl rfl ?_
  exact ⟨by rw [← e]; rfl, rfl, rfl⟩
theorem s_visPalm {c : Nat} (hW : r_W f v u sig) (hc : c < 48) : AM mX11_isPalm 0 0 [.ref v, .int (nI c)] n f (am_is (some (.int (m_bi (decide (14 < m_reg sig c))))) n f) := by
  obtain ⟨pk, h0, h1, h2, h3, h4⟩ := hW
  show AW mX11_isPalm 0 0 0 [some (.ref v), some (.int (nI c))] [] n f _
  by_cases q : 14 < m_reg sig c
  · rw [decide_eq_true q]
    refine am_aload_n 0 dX11_isPalm_0 rfl ?_
    refine am_getfield 1 dX11_isPalm_1 fX11_15 (by repeat (first | assumption | exact am_ue | refine am_un (by first | assumption | decide | omega) ?_)) rfl ?_
    refine am_iload_n 4 dX11_isPalm_4 rfl ?_
    refine am_iaload 5 dX11_isPalm_5 rfl (by repeat (first | assumption | exact am_ue | refine am_un (by first | assumption | decide | omega) ?_)) (am_ix hc (by decide)) ?_
    rw [nI_clamp (n := c) (by omega)]
    refine am_bipush 6 (v := 14) dX11_isPalm_6 (by decide) ?_
    refine am_icmp_le 8 15 dX11_isPalm_8 rfl (fun c8 => absurd c8 (Int32.not_le.mpr q)) (fun c8 => ?_)
    refine am_iconst 11 (v := 1) dX11_isPalm_11 (by decide) ?_
    refine am_goto 12 (tgt := 16) dX11_isPalm_12 rfl ?_
    exact am_ireturn 16 dX11_isPalm_16 rfl rfl ⟨rfl, rfl, rfl⟩
  · rw [decide_eq_false q]
    refine am_aload_n 0 dX11_isPalm_0 rfl ?_
    refine am_getfield 1 dX11_isPalm_1 fX11_15 (by repeat (first | assumption | exact am_ue | refine am_un (by first | assumption | decide | omega) ?_)) rfl ?_
    refine am_iload_n 4 dX11_isPalm_4 rfl ?_
    refine am_iaload 5 dX11_isPalm_5 rfl (by repeat (first | assumption | exact am_ue | refine am_un (by first | assumption | decide | omega) ?_)) (am_ix hc (by decide)) ?_
    rw [nI_clamp (n := c) (by omega)]
    refine am_bipush 6 (v := 14) dX11_isPalm_6 (by decide) ?_
    refine am_icmp_le 8 15 dX11_isPalm_8 rfl (fun c8 => ?_) (fun c8 => absurd (Int32.not_lt.mp q) c8)
    refine am_iconst 15 (v := 0) dX11_isPalm_15 (by decide) ?_
    exact am_ireturn 16 dX11_isPalm_16 rfl rfl ⟨rfl, rfl, rfl⟩
/-- how a base goes -/
def r_dr (sig : Nat → Int32) (c : Nat) : Int32 := if 20 ≤ sig c ∧ m_reg sig c ≤ 14 then 0 else m_step (sig c)
theorem r_dr_settle (sig bs : Nat → Int32) (c : Nat) : bs c + r_dr sig c = m_settle sig (m_reg sig) bs c := by
  unfold r_dr m_settle
  split
  · exact Int32.add_zero _
  · rfl
theorem s_drift {c : Nat} (hW : r_W f v u sig) (hc : c < 48) : AM mX11_drift 0 0 [.ref v, .int (nI c)] n f (am_is (some (.int (r_dr sig c))) n f) := by
  have hW2 := hW
  obtain ⟨pk, h0, h1, h2, h3, h4⟩ := hW
  show AW mX11_drift 0 0 0 [some (.ref v), some (.int (nI c))] [] n f _
  have hend : ¬ (20 ≤ sig c ∧ m_reg sig c ≤ 14) → AW mX11_drift 0 0 18 [some (.ref v), some (.int (nI c))] [] n f (am_is (some (.int (r_dr sig c))) n f) := by
    intro hn
    rw [show r_dr sig c = m_step (sig c) from if_neg hn]
    unfold m_step
    by_cases q1 : -10 < sig c
    · rw [if_pos q1]
      by_cases q2 : sig c < 10
      · rw [if_pos q2]
        refine am_aload_n 18 dX11_drift_18 rfl ?_
        refine am_getfield 19 dX11_drift_19 fX11_9 (by repeat (first | assumption | exact am_ue | refine am_un (by first | assumption | decide | omega) ?_)) rfl ?_
        refine am_iload_n 22 dX11_drift_22 rfl ?_
        refine am_iaload 23 dX11_drift_23 rfl (by repeat (first | assumption | exact am_ue | refine am_un (by first | assumption | decide | omega) ?_)) (am_ix hc (by decide)) ?_
        rw [nI_clamp (n := c) (by omega)]
        refine am_bipush 24 (v := (-10)) dX11_drift_24 (by decide) ?_
        refine am_icmp_gt 26 34 dX11_drift_26 rfl (fun c26 => ?_) (fun c26 => absurd q1 c26)
        refine am_aload_n 34 dX11_drift_34 rfl ?_
        refine am_getfield 35 dX11_drift_35 fX11_9 (by repeat (first | assumption | exact am_ue | refine am_un (by first | assumption | decide | omega) ?_)) rfl ?_
        refine am_iload_n 38 dX11_drift_38 rfl ?_
        refine am_iaload 39 dX11_drift_39 rfl (by repeat (first | assumption | exact am_ue | refine am_un (by first | assumption | decide | omega) ?_)) (am_ix hc (by decide)) ?_
        rw [nI_clamp (n := c) (by omega)]
        refine am_bipush 40 (v := 10) dX11_drift_40 (by decide) ?_
        refine am_icmp_lt 42 49 dX11_drift_42 rfl (fun c42 => ?_) (fun c42 => absurd q2 c42)
        refine am_aload_n 49 dX11_drift_49 rfl ?_
        refine am_getfield 50 dX11_drift_50 fX11_9 (by repeat (first | assumption | exact am_ue | refine am_un (by first | assumption | decide | omega) ?_)) rfl ?_
        refine am_iload_n 53 dX11_drift_53 rfl ?_
        refine am_iaload 54 dX11_drift_54 rfl (by repeat (first | assumption | exact am_ue | refine am_un (by first | assumption | decide | omega) ?_)) (am_ix hc (by decide)) ?_
        rw [nI_clamp (n := c) (by omega)]
        refine am_S1 55 (mc' := 0) (ms' := 0) (rc := 0) (rs := 0) dX11_drift_55 lX11_57 ⟨by decide, by decide⟩ (Nat.le_of_ble_eq_true rfl) (Nat.le_of_ble_eq_true rfl) (s_signum q1 q2) ?_
        refine am_is_ct ?_
        exact am_ireturn 58 dX11_drift_58 rfl rfl ⟨rfl, rfl, rfl⟩
      · rw [if_neg q2]
        refine am_aload_n 18 dX11_drift_18 rfl ?_
        refine am_getfield 19 dX11_drift_19 fX11_9 (by repeat (first | assumption | exact am_ue | refine am_un (by first | assumption | decide | omega) ?_)) rfl ?_
        refine am_iload_n 22 dX11_drift_22 rfl ?_
        refine am_iaload 23 dX11_drift_23 rfl (by repeat (first | assumption | exact am_ue | refine am_un (by first | assumption | decide | omega) ?_)) (am_ix hc (by decide)) ?_
        rw [nI_clamp (n := c) (by omega)]
        refine am_bipush 24 (v := (-10)) dX11_drift_24 (by decide) ?_
        refine am_icmp_gt 26 34 dX11_drift_26 rfl (fun c26 => ?_) (fun c26 => absurd q1 c26)
        refine am_aload_n 34 dX11_drift_34 rfl ?_
        refine am_getfield 35 dX11_drift_35 fX11_9 (by repeat (first | assumption | exact am_ue | refine am_un (by first | assumption | decide | omega) ?_)) rfl ?_
        refine am_iload_n 38 dX11_drift_38 rfl ?_
        refine am_iaload 39 dX11_drift_39 rfl (by repeat (first | assumption | exact am_ue | refine am_un (by first | assumption | decide | omega) ?_)) (am_ix hc (by decide)) ?_
        rw [nI_clamp (n := c) (by omega)]
        refine am_bipush 40 (v := 10) dX11_drift_40 (by decide) ?_
        refine am_icmp_lt 42 49 dX11_drift_42 rfl (fun c42 => absurd c42 q2) (fun c42 => ?_)
        refine am_iconst 45 (v := 4) dX11_drift_45 (by decide) ?_
        refine am_goto 46 (tgt := 58) dX11_drift_46 rfl ?_
        exact am_ireturn 58 dX11_drift_58 rfl rfl ⟨rfl, rfl, rfl⟩
    · rw [if_neg q1]
      refine am_aload_n 18 dX11_drift_18 rfl ?_
      refine am_getfield 19 dX11_drift_19 fX11_9 (by repeat (first | assumption | exact am_ue | refine am_un (by first | assumption | decide | omega) ?_)) rfl ?_
      refine am_iload_n 22 dX11_drift_22 rfl ?_
      refine am_iaload 23 dX11_drift_23 rfl (by repeat (first | assumption | exact am_ue | refine am_un (by first | assumption | decide | omega) ?_)) (am_ix hc (by decide)) ?_
      rw [nI_clamp (n := c) (by omega)]
      refine am_bipush 24 (v := (-10)) dX11_drift_24 (by decide) ?_
      refine am_icmp_gt 26 34 dX11_drift_26 rfl (fun c26 => absurd c26 q1) (fun c26 => ?_)
      refine am_bipush 29 (v := (-4)) dX11_drift_29 (by decide) ?_
      refine am_goto 31 (tgt := 58) dX11_drift_31 rfl ?_
      exact am_ireturn 58 dX11_drift_58 rfl rfl ⟨rfl, rfl, rfl⟩
  by_cases ht : 20 ≤ sig c
  · by_cases hp : 14 < m_reg sig c
    · have hn : ¬ (20 ≤ sig c ∧ m_reg sig c ≤ 14) := fun q => absurd q.2 (Int32.not_le.mpr hp)
      refine am_aload_n 0 dX11_drift_0 rfl ?_
      refine am_iload_n 1 dX11_drift_1 rfl ?_
      refine am_V1 2 (mc' := 0) (ms' := 0) (rc := 0) (rs := 0) dX11_drift_2 lX11_21 ⟨by decide, by decide⟩ (by repeat (first | assumption | exact am_ue | refine am_un (by first | assumption | decide | omega) ?_)) (Nat.le_of_ble_eq_true rfl) (Nat.le_of_ble_eq_true rfl) (s_vTouched h0 h1 hc) ?_
      refine am_is_ct ?_
      refine am_if_eq 5 18 dX11_drift_5 rfl (fun c5 => absurd c5 (fun z => m_tc_0.mp z ht)) (fun c5 => ?_)
      refine am_aload_n 8 dX11_drift_8 rfl ?_
      refine am_iload_n 9 dX11_drift_9 rfl ?_
      refine am_V1 10 (mc' := 0) (ms' := 0) (rc := 0) (rs := 0) dX11_drift_10 lX11_54 ⟨by decide, by decide⟩ (by repeat (first | assumption | exact am_ue | refine am_un (by first | assumption | decide | omega) ?_)) (Nat.le_of_ble_eq_true rfl) (Nat.le_of_ble_eq_true rfl) (s_visPalm hW2 hc) ?_
      refine am_is_ct ?_
      refine am_if_ne 13 18 dX11_drift_13 rfl (fun c13 => ?_) (fun c13 => absurd c13 (by rw [decide_eq_true hp]; decide))
      exact hend hn
    · rw [show r_dr sig c = 0 from if_pos ⟨ht, Int32.not_lt.mp hp⟩]
      refine am_aload_n 0 dX11_drift_0 rfl ?_
      refine am_iload_n 1 dX11_drift_1 rfl ?_
      refine am_V1 2 (mc' := 0) (ms' := 0) (rc := 0) (rs := 0) dX11_drift_2 lX11_21 ⟨by decide, by decide⟩ (by repeat (first | assumption | exact am_ue | refine am_un (by first | assumption | decide | omega) ?_)) (Nat.le_of_ble_eq_true rfl) (Nat.le_of_ble_eq_true rfl) (s_vTouched h0 h1 hc) ?_
      refine am_is_ct ?_
      refine am_if_eq 5 18 dX11_drift_5 rfl (fun c5 => absurd c5 (fun z => m_tc_0.mp z ht)) (fun c5 => ?_)
      refine am_aload_n 8 dX11_drift_8 rfl ?_
      refine am_iload_n 9 dX11_drift_9 rfl ?_
      refine am_V1 10 (mc' := 0) (ms' := 0) (rc := 0) (rs := 0) dX11_drift_10 lX11_54 ⟨by decide, by decide⟩ (by repeat (first | assumption | exact am_ue | refine am_un (by first | assumption | decide | omega) ?_)) (Nat.le_of_ble_eq_true rfl) (Nat.le_of_ble_eq_true rfl) (s_visPalm hW2 hc) ?_
      refine am_is_ct ?_
      refine am_if_ne 13 18 dX11_drift_13 rfl (fun c13 => absurd c13 (fun q => q (by rw [decide_eq_false hp]; rfl))) (fun c13 => ?_)
      refine am_iconst 16 (v := 0) dX11_drift_16 (by decide) ?_
      exact am_ireturn 17 dX11_drift_17 rfl rfl ⟨rfl, rfl, rfl⟩
  · have hn : ¬ (20 ≤ sig c ∧ m_reg sig c ≤ 14) := fun q => ht q.1
    refine am_aload_n 0 dX11_drift_0 rfl ?_
    refine am_iload_n 1 dX11_drift_1 rfl ?_
    refine am_V1 2 (mc' := 0) (ms' := 0) (rc := 0) (rs := 0) dX11_drift_2 lX11_21 ⟨by decide, by decide⟩ (by repeat (first | assumption | exact am_ue | refine am_un (by first | assumption | decide | omega) ?_)) (Nat.le_of_ble_eq_true rfl) (Nat.le_of_ble_eq_true rfl) (s_vTouched h0 h1 hc) ?_
    refine am_is_ct ?_
    refine am_if_eq 5 18 dX11_drift_5 rfl (fun c5 => ?_) (fun c5 => absurd (m_tc_0.mpr ht) c5)
    exact hend hn
end RAsk
