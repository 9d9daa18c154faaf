/-! ===== the class in any state: keepBy ===== -/
section CKeep
variable {p T n : Nat} {f : Nat → am_C} {z : m_Z}
def m_PrT (p : Nat) (f f2 : Nat → am_C) : Prop := ∀ y, (y < p + 21 ∨ p + 23 < y) → f2 y = f y
theorem s_matchTry {x : Nat} {sig : Nat → Int32} (hG : m_G f p T z) (hL : m_Look f (p + 14) sig) : AM mX7_matchIn 0 0 [.ref p, .ref (p + 14), .int (nI x)] n f (fun o n' f' => n = n' ∧ (∃ v, o = .inl (some (.int v))) ∧ m_G f' p T z ∧ ∀ y, (y < p + 21 ∨ p + 23 < y) → f' y = f y) := by
  obtain ⟨h0, h1, h2, h3, h4, h5, h6, h7⟩ := id hG
  obtain ⟨pc, px, py, chn, hp, -⟩ := id hL
  have p0 := hp.1
  obtain ⟨t1, t2, le, we, bb, t3⟩ := id h3
  have q0 := t3.1
  have h50 := h5.1
  show AW mX7_matchIn 0 0 0 [some (.ref p), some (.ref (p + 14)), some (.int (nI x))] [] n f _
  by_cases hle : m_hum sig ≤ z_lim z
  · refine am_aload_n 0 dX7_matchIn_0 rfl ?_
    refine am_getfield 1 dX7_matchIn_1 fX7_115 (by repeat (first | assumption | exact am_ue | refine am_un (by first | assumption | decide | omega) ?_)) rfl ?_
    refine am_aload_n 4 dX7_matchIn_4 rfl ?_
    refine am_getfield 5 dX7_matchIn_5 fX7_56 (by repeat (first | assumption | exact am_ue | refine am_un (by first | assumption | decide | omega) ?_)) rfl ?_
    refine am_icmp_le 8 13 dX7_matchIn_8 rfl (fun c8 => ?_) (fun c8 => absurd hle c8)
    refine am_aload_n 13 dX7_matchIn_13 rfl ?_
    refine am_getfield 14 dX7_matchIn_14 fX7_32 (by repeat (first | assumption | exact am_ue | refine am_un (by first | assumption | decide | omega) ?_)) rfl ?_
    refine am_aload_n 17 dX7_matchIn_17 rfl ?_
    refine am_aload_n 18 dX7_matchIn_18 rfl ?_
    refine am_getfield 19 dX7_matchIn_19 fX7_48 (by repeat (first | assumption | exact am_ue | refine am_un (by first | assumption | decide | omega) ?_)) rfl ?_
    refine am_getfield 22 dX7_matchIn_22 fX7_124 (by repeat (first | assumption | exact am_ue | refine am_un (by first | assumption | decide | omega) ?_)) rfl ?_
    refine am_V2 25 (mc' := 0) (ms' := 0) (rc := 0) (rs := 0) dX7_matchIn_25 lX7_128 ⟨by decide, by decide⟩ (by repeat (first | assumption | exact am_ue | refine am_un (by first | assumption | decide | omega) ?_)) (Nat.le_of_ble_eq_true rfl) (Nat.le_of_ble_eq_true rfl) (s_pair t3 h5 hL (by omega) (by omega)) ?_
    rintro o n' f2 ⟨rfl, rfl, ⟨le', we', q5⟩, e2⟩
    have j0 : f2 p = _ := (e2 p (by omega)).trans h0
    have j1 := q5.1
    refine am_ctI ?_
    refine am_aload_n 28 dX7_matchIn_28 rfl ?_
    refine am_getfield 29 dX7_matchIn_29 fX7_32 (by repeat (first | assumption | exact am_ue | refine am_un (by first | assumption | decide | omega) ?_)) rfl ?_
    refine am_iload_n 32 dX7_matchIn_32 rfl ?_
    refine am_V1 33 (mc' := 0) (ms' := 0) (rc := 0) (rs := 0) dX7_matchIn_33 lX7_334 ⟨by decide, by decide⟩ (by repeat (first | assumption | exact am_ue | refine am_un (by first | assumption | decide | omega) ?_)) (Nat.le_of_ble_eq_true rfl) (Nat.le_of_ble_eq_true rfl) (s_peakOf q5.1) ?_
    refine am_is_ct ?_
    refine am_ireturn 36 dX7_matchIn_36 rfl rfl ?_
    exact ⟨rfl, ⟨_, rfl⟩, hG.try (fun y hy => e2 y (by omega)) ⟨t1.imp fun w t => t.imp fun b t => t.imp fun h t => t.on fun y a b => e2 y (by omega), t2.imp fun _ t => t.imp fun _ t => t.imp fun _ t => t.imp fun _ t => t.imp fun _ t => t.imp fun _ t => t.imp fun _ t => t.imp fun _ t => t.on fun y a b => e2 y (by omega), _, _, _, q5⟩, fun y hy => e2 y (by omega)⟩
  · refine am_aload_n 0 dX7_matchIn_0 rfl ?_
    refine am_getfield 1 dX7_matchIn_1 fX7_115 (by repeat (first | assumption | exact am_ue | refine am_un (by first | assumption | decide | omega) ?_)) rfl ?_
    refine am_aload_n 4 dX7_matchIn_4 rfl ?_
    refine am_getfield 5 dX7_matchIn_5 fX7_56 (by repeat (first | assumption | exact am_ue | refine am_un (by first | assumption | decide | omega) ?_)) rfl ?_
    refine am_icmp_le 8 13 dX7_matchIn_8 rfl (fun c8 => absurd c8 hle) (fun c8 => ?_)
    refine am_iconst 11 (v := (-1)) dX7_matchIn_11 (by decide) ?_
    refine am_ireturn 12 dX7_matchIn_12 rfl rfl ?_
    exact ⟨rfl, ⟨_, rfl⟩, hG, fun _ _ => rfl⟩
set_option maxHeartbeats 1000000 in
theorem s_wouldKeep {x c : Nat} {d : Int32} (hG : m_G f p T z) (hc : c < 48) : AM mX7_wouldKeep 0 0 [.ref p, .int (nI x), .int (nI c), .int d] n f (fun o n' f' => n = n' ∧ (∃ v, o = .inl (some (.int v))) ∧ m_G f' p T z ∧ ∀ y, (y < p ∨ p + 45 < y) → f' y = f y) := by
  obtain ⟨h0, h1, h2, h3, h4, h5, h6, h7⟩ := id hG
  obtain ⟨⟨w0, b0, t0, s1⟩, ⟨sig0, reg0, pc0, px0, py0, chn0, pk0, hm0, s2⟩, le, we, bb, s3⟩ := id h3
  generalize hQ : (fun (o : Option Value ⊕ Nat) (n' : Nat) (f' : Nat → am_C) => n = n' ∧ (∃ v, o = .inl (some (.int v))) ∧ m_G f' p T z ∧ ∀ y, (y < p ∨ p + 45 < y) → f' y = f y) = Q
  have hcp := s_copyFrom (n := n) (i := p + 11) (a := p + 11 + 1) (b := p + 11 + 2) (i2 := p + 1) (a2 := p + 1 + 1) (b2 := p + 1 + 2) s1.1 s1.2.1 s1.2.2 h1.1 h1.2.1 h1.2.2 (by omega) (by omega) (by omega) (by omega) (by omega) (by omega) (by omega) (by omega) (by omega) (by omega) (by omega) (by omega) (by omega) (by omega) (by omega)
  generalize hf1 : va_up (va_up (va_up f (p + 11) (.inr (6, [.ref (p + 11 + 1), .ref (p + 11 + 2), .int (z_h z)]))) (p + 11 + 1) (.inl (0, 48, .inl (z_w z)))) (p + 11 + 2) (.inl (0, 48, .inl (z_b z))) = f1 at hcp
  have a0 : m_Sh f1 (p + 11) (z_w z) (z_b z) (z_h z) := by
    rw [← hf1]
    exact ⟨am_un (by omega) (am_un (by omega) am_ue), am_un (by omega) am_ue, am_ue⟩
  have e1 : ∀ y, (y < p + 11 ∨ p + 13 < y) → f1 y = f y := fun y hy => by rw [← hf1, am_up_ne (by omega), am_up_ne (by omega), am_up_ne (by omega)]
  clear hf1
  have hap := s_addPress (n := n) (x := c % 8) (y := c / 8) (s := d) a0.1 a0.2.1 (by omega) (by omega) (by omega)
  generalize hf2 : va_up f1 (p + 11 + 1) (.inl (0, 48, .inl (m_press (z_w z) d (c % 8) (c / 8)))) = f2 at hap
  have b0 : m_Sh f2 (p + 11) (m_press (z_w z) d (c % 8) (c / 8)) (z_b z) (z_h z) := by
    rw [← hf2]
    exact ⟨am_un (by omega) a0.1, am_ue, am_un (by omega) a0.2.2⟩
  have e2 : ∀ y, (y < p + 11 ∨ p + 13 < y) → f2 y = f y := fun y hy => by rw [← hf2, am_up_ne (by omega), e1 y hy]
  clear hf2
  have s22 := s2.on (f' := f2) fun y a b => e2 y (by omega)
  have hlk := s_lookW (n := n) s22 b0 (by omega)
  have q0 := (e1 p (by omega)).trans h0
  have q2 := (e2 p (by omega)).trans h0
  have p22 := s22.1
  show AW mX7_wouldKeep 0 0 0 [some (.ref p), some (.int (nI x)), some (.int (nI c)), some (.int d), none] [] n f Q
  refine am_aload_n 0 dX7_wouldKeep_0 rfl ?_
  refine am_getfield 1 dX7_wouldKeep_1 fX7_23 (by repeat (first | assumption | exact am_ue | refine am_un (by first | assumption | decide | omega) ?_)) rfl ?_
  refine am_aload_n 4 dX7_wouldKeep_4 rfl ?_
  refine am_getfield 5 dX7_wouldKeep_5 fX7_10 (by repeat (first | assumption | exact am_ue | refine am_un (by first | assumption | decide | omega) ?_)) rfl ?_
  refine am_V1 8 (mc' := 0) (ms' := 0) (rc := 0) (rs := 0) dX7_wouldKeep_8 lX7_208 ⟨by decide, by decide⟩ s1.1 (Nat.le_of_ble_eq_true rfl) (Nat.le_of_ble_eq_true rfl) (hcp) ?_
  refine am_is_ct ?_
  refine am_aload_n 11 dX7_wouldKeep_11 rfl ?_
  refine am_getfield 12 dX7_wouldKeep_12 fX7_23 q0 rfl ?_
  refine am_iload_n 15 dX7_wouldKeep_15 rfl ?_
  refine am_bipush 16 (v := 8) dX7_wouldKeep_16 (by decide) ?_
  refine am_irem 18 dX7_wouldKeep_18 (by decide) ?_
  rw [am_rem8 (by omega)]
  refine am_iload_n 19 dX7_wouldKeep_19 rfl ?_
  refine am_bipush 20 (v := 8) dX7_wouldKeep_20 (by decide) ?_
  refine am_idiv 22 dX7_wouldKeep_22 (by decide) ?_
  rw [am_div8 (by omega)]
  refine am_iload_n 23 dX7_wouldKeep_23 rfl ?_
  refine am_V3 24 (mc' := 0) (ms' := 0) (rc := 0) (rs := 0) dX7_wouldKeep_24 lX7_99 ⟨by decide, by decide⟩ a0.1 (Nat.le_of_ble_eq_true rfl) (Nat.le_of_ble_eq_true rfl) (hap) ?_
  refine am_is_ct ?_
  refine am_aload_n 27 dX7_wouldKeep_27 rfl ?_
  refine am_getfield 28 dX7_wouldKeep_28 fX7_26 q2 rfl ?_
  refine am_aload_n 31 dX7_wouldKeep_31 rfl ?_
  refine am_getfield 32 dX7_wouldKeep_32 fX7_23 q2 rfl ?_
  refine am_V1 35 (mc' := 0) (ms' := 0) (rc := 0) (rs := 0) dX7_wouldKeep_35 lX7_87 ⟨by decide, by decide⟩ p22 (Nat.le_of_ble_eq_true rfl) (Nat.le_of_ble_eq_true rfl) (hlk) ?_
  rintro o n' f3 ⟨rfl, rfl, hL, e3⟩
  refine am_ctI ?_
  have k3 : ∀ y, (y < p + 11 ∨ p + 20 < y) → f3 y = f y := fun y hy => (e3 y (by omega)).trans (e2 y (by omega))
  have hG3 : m_G f3 p T z := by
    obtain ⟨pc, px, py, chn, hp, -⟩ := id hL
    exact hG.try (fun y hy => k3 y (by omega)) ⟨⟨_, _, _, b0.on fun y a b => e3 y (by omega)⟩, ⟨_, _, _, _, _, _, _, _, hp⟩, _, _, _, s3.on fun y a b => k3 y (by omega)⟩
  have hpa := s_peakAt (n := n') hL hc
  have hma := s_matchTry (n := n') (x := x) hG3 hL
  have v0 := hG3.1
  have vp : ∃ pl, f3 (p + 14) = .inr (5, pl) := by
    obtain ⟨pc, px, py, chn, hp, -⟩ := id hL
    exact ⟨_, hp.1⟩
  obtain ⟨pl, vp⟩ := vp
  have fin : ∀ v : Int32, Q (.inl (some (.int v))) n' f3 := fun v => by
    rw [← hQ]
    exact ⟨rfl, ⟨_, rfl⟩, hG3, fun y hy => k3 y (by omega)⟩
  refine am_aload_n 38 dX7_wouldKeep_38 rfl ?_
  refine am_getfield 39 dX7_wouldKeep_39 fX7_26 (by repeat (first | assumption | exact am_ue | refine am_un (by first | assumption | decide | omega) ?_)) rfl ?_
  refine am_iload_n 42 dX7_wouldKeep_42 rfl ?_
  refine am_V1 43 (mc' := 0) (ms' := 0) (rc := 0) (rs := 0) dX7_wouldKeep_43 lX7_337 ⟨by decide, by decide⟩ vp (Nat.le_of_ble_eq_true rfl) (Nat.le_of_ble_eq_true rfl) (hpa) ?_
  rintro o n2 f4 ⟨rfl, rfl, hcase⟩
  have hin : ∃ v, o = .inl (some (.int v)) := by
    rcases hcase with ⟨e, -⟩ | ⟨k, -, -, e⟩
    · exact ⟨_, e⟩
    · exact ⟨_, e⟩
  obtain ⟨v, rfl⟩ := hin
  refine am_ctI ?_
  show AW mX7_wouldKeep 0 0 46 [some (.ref p), some (.int (nI x)), some (.int (nI c)), some (.int d), none] [.int v] n' f4 Q
  refine am_istore 46 dX7_wouldKeep_46 (by decide) ?_
  refine am_iload 48 dX7_wouldKeep_48 rfl ?_
  refine am_iconst 50 (v := (-1)) dX7_wouldKeep_50 (by decide) ?_
  refine am_icmp_eq 51 72 dX7_wouldKeep_51 rfl (fun c51 => ?_) (fun c51 => ?_)
  · refine am_iconst 72 (v := 0) dX7_wouldKeep_72 (by decide) ?_
    refine am_ireturn 73 dX7_wouldKeep_73 rfl rfl ?_
    first | exact fin _ | (rw [← hQ]; exact ⟨rfl, ⟨_, rfl⟩, hG5, fun y hy => (e5 y (by omega)).trans (k3 y (by omega))⟩)
  · refine am_aload_n 54 dX7_wouldKeep_54 rfl ?_
    refine am_aload_n 55 dX7_wouldKeep_55 rfl ?_
    refine am_getfield 56 dX7_wouldKeep_56 fX7_26 (by repeat (first | assumption | exact am_ue | refine am_un (by first | assumption | decide | omega) ?_)) rfl ?_
    refine am_iload_n 59 dX7_wouldKeep_59 rfl ?_
    refine am_V2 60 (mc' := 0) (ms' := 0) (rc := 0) (rs := 0) dX7_wouldKeep_60 lX7_204 ⟨by decide, by decide⟩ v0 (Nat.le_of_ble_eq_true rfl) (Nat.le_of_ble_eq_true rfl) (hma) ?_
    rintro o n3 f5 ⟨rfl, ⟨v2, rfl⟩, hG5, e5⟩
    refine am_ctI ?_
    refine am_iload 63 dX7_wouldKeep_63 rfl ?_
    refine am_icmp_ne 65 72 dX7_wouldKeep_65 rfl (fun c65 => ?_) (fun c65 => ?_)
    · refine am_iconst 72 (v := 0) dX7_wouldKeep_72 (by decide) ?_
      refine am_ireturn 73 dX7_wouldKeep_73 rfl rfl ?_
      first | exact fin _ | (rw [← hQ]; exact ⟨rfl, ⟨_, rfl⟩, hG5, fun y hy => (e5 y (by omega)).trans (k3 y (by omega))⟩)
    · refine am_iconst 68 (v := 1) dX7_wouldKeep_68 (by decide) ?_
      refine am_goto 69 (tgt := 73) dX7_wouldKeep_69 rfl ?_
      refine am_ireturn 73 dX7_wouldKeep_73 rfl rfl ?_
      first | exact fin _ | (rw [← hQ]; exact ⟨rfl, ⟨_, rfl⟩, hG5, fun y hy => (e5 y (by omega)).trans (k3 y (by omega))⟩)
theorem s_keepBy {x d : Nat} (hG : m_G f p T z) (hx : x < 5) (hth : (z_K z x).1 0 ≠ 0) (h1 : 1 ≤ d) (h2 : d ≤ 200) : AM mX7_keepBy 0 0 [.ref p, .int (nI x), .int (nI d)] n f (fun o n' f' => n = n' ∧ (∃ v, o = .inl (some (.int v))) ∧ m_G f' p T z ∧ ∀ y, (y < p ∨ p + 45 < y) → f' y = f y) := by
  have h0 := hG.1
  show AW mX7_keepBy 0 0 0 [some (.ref p), some (.int (nI x)), some (.int (nI d)), none] [] n f _
  refine am_aload_n 0 dX7_keepBy_0 rfl ?_
  refine am_iload_n 1 dX7_keepBy_1 rfl ?_
  refine am_V1 2 (mc' := 0) (ms' := 0) (rc := 0) (rs := 0) dX7_keepBy_2 lX7_171 ⟨by decide, by decide⟩ (by repeat (first | assumption | exact am_ue | refine am_un (by first | assumption | decide | omega) ?_)) (Nat.le_of_ble_eq_true rfl) (Nat.le_of_ble_eq_true rfl) (s_ckName hG hx hth) ?_
  refine am_is_ct ?_
  refine am_iload_n 5 dX7_keepBy_5 rfl ?_
  refine am_S1 6 (mc' := 0) (ms' := 0) (rc := 0) (rs := 0) dX7_keepBy_6 lX7_95 ⟨by decide, by decide⟩ (Nat.le_of_ble_eq_true rfl) (Nat.le_of_ble_eq_true rfl) (s_ckStrength h1 h2) ?_
  refine am_is_ct ?_
  refine am_iconst 9 (v := 0) dX7_keepBy_9 (by decide) ?_
  refine am_istore_n 10 dX7_keepBy_10 (by decide) ?_
  refine am_for 48 (fun _ (g : Nat → am_C) => m_G g p T z ∧ ∀ y, (y < p ∨ p + 45 < y) → g y = f y) (fun k g => AW mX7_keepBy 0 0 11 [some (.ref p), some (.int (nI x)), some (.int (nI d)), some (.int (nI k))] [] n g _) ?_ ?_ 0 f (by omega) ⟨hG, fun _ _ => rfl⟩
  · rintro g ⟨a, b⟩
    refine am_iload_n 11 dX7_keepBy_11 rfl ?_
    refine am_bipush 12 (v := 48) dX7_keepBy_12 (by decide) ?_
    refine am_icmp_ge 14 35 dX7_keepBy_14 rfl (fun c14 => ?_) (fun c14 => absurd (by decide) c14)
    refine am_iconst 35 (v := (-1)) dX7_keepBy_35 (by decide) ?_
    refine am_ireturn 36 dX7_keepBy_36 rfl rfl ?_
    exact ⟨rfl, ⟨_, rfl⟩, a, b⟩
  · rintro k g hk ⟨a, b⟩ ih
    have a0 := a.1
    refine am_iload_n 11 dX7_keepBy_11 rfl ?_
    refine am_bipush 12 (v := 48) dX7_keepBy_12 (by decide) ?_
    refine am_icmp_ge 14 35 dX7_keepBy_14 rfl (fun c14 => absurd c14 (nI_ge hk (by decide))) (fun c14 => ?_)
    refine am_aload_n 17 dX7_keepBy_17 rfl ?_
    refine am_iload_n 18 dX7_keepBy_18 rfl ?_
    refine am_iload_n 19 dX7_keepBy_19 rfl ?_
    refine am_iload_n 20 dX7_keepBy_20 rfl ?_
    refine am_V3 21 (mc' := 0) (ms' := 0) (rc := 0) (rs := 0) dX7_keepBy_21 lX7_215 ⟨by decide, by decide⟩ a0 (Nat.le_of_ble_eq_true rfl) (Nat.le_of_ble_eq_true rfl) (s_wouldKeep a hk) ?_
    rintro o n' g2 ⟨rfl, ⟨v, rfl⟩, a2, b2⟩
    refine am_ctI ?_
    refine am_if_eq 24 29 dX7_keepBy_24 rfl (fun c24 => ?_) (fun c24 => ?_)
    · refine am_iinc 29 (v := nI (k + 1)) dX7_keepBy_29 rfl (nI_1 (k)) (by decide) ?_
      refine am_goto 32 (tgt := 11) dX7_keepBy_32 rfl ?_
      exact ih _ ⟨a2, fun y hy => (b2 y hy).trans (b y hy)⟩
    · refine am_iload_n 27 dX7_keepBy_27 rfl ?_
      refine am_ireturn 28 dX7_keepBy_28 rfl rfl ?_
      exact ⟨rfl, ⟨_, rfl⟩, a2, fun y hy => (b2 y hy).trans (b y hy)⟩
end CKeep
