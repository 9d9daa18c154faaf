/-! ===== the glass in any state: what would be; the checksum ===== -/
noncomputable def m_matchA (z : m_Z) (x : Nat) : Int32 := if m_hum (m_sg z) ≤ z_lim z then m_pk (m_best (m_W (m_sg z) (z_K z)) (m_P z)) x else -1
/-- bases behind so many times (6), with nothing waiting -/
def m_cb (b : Nat → Int32) (h : Int32) : Nat → (Nat → Int32)
  | 0 => b
  | k + 1 => m_settle (fun x => h + 0 - m_cb b h k x) (m_reg (fun x => h + 0 - m_cb b h k x)) (m_cb b h k)
def m_calmB (b : Nat → Int32) (h : Int32) (k : Nat) : Bool := (List.range 48).all fun x => decide (h + 0 - m_cb b h k x = 0)
def m_cv (b : Nat → Int32) (h : Int32) : Nat → Int32
  | 0 => -1
  | d + 1 => if m_calmB b h (60 - d) = true then nI (60 - d) else m_cv b h d
section Wou
variable {p T n : Nat} {f : Nat → am_C} {z : m_Z}
theorem s_matchIn {x : Nat} (hG : m_G f p T z) : AM mX7_matchIn 0 0 [.ref p, .ref (p + 4), .int (nI x)] n f (m_ask p T z n f (.int (m_matchA z x))) := by
  obtain ⟨h0, h1, h2, h3, h4, h5, h6, h7⟩ := id hG
  obtain ⟨pc, px, py, chn, hp, -⟩ := id h2
  have p0 := hp.1
  obtain ⟨t1, t2, le, we, bb, t3⟩ := id h3
  have q0 := t3.1
  have h50 := h5.1
  show AW mX7_matchIn 0 0 0 [some (.ref p), some (.ref (p + 4)), some (.int (nI x))] [] n f _
  by_cases hle : m_hum (m_sg z) ≤ z_lim z
  · have e : m_matchA z x = m_pk (m_best (m_W (m_sg z) (z_K z)) (m_P z)) x := if_pos hle
    rw [e]
    refine am_aload_n 0 dX7_matchIn_0 rfl ?_
    refine am_getfield 1 dX7_matchIn_1 fX7_115 (by repeat (first | assumption | exact am_ue | refine am_un (by first | assumption | decide | omega) ?_)) rfl ?_
    refine am_aload_n 4 dX7_matchIn_4 rfl ?_
    refine am_getfield 5 dX7_matchIn_5 fX7_56 (by repeat (first | assumption | exact am_ue | refine am_un (by first | assumption | decide | omega) ?_)) rfl ?_
    refine am_icmp_le 8 13 dX7_matchIn_8 rfl (fun c8 => ?_) (fun c8 => absurd hle c8)
    refine am_aload_n 13 dX7_matchIn_13 rfl ?_
    refine am_getfield 14 dX7_matchIn_14 fX7_32 (by repeat (first | assumption | exact am_ue | refine am_un (by first | assumption | decide | omega) ?_)) rfl ?_
    refine am_aload_n 17 dX7_matchIn_17 rfl ?_
    refine am_aload_n 18 dX7_matchIn_18 rfl ?_
    refine am_getfield 19 dX7_matchIn_19 fX7_48 (by repeat (first | assumption | exact am_ue | refine am_un (by first | assumption | decide | omega) ?_)) rfl ?_
    refine am_getfield 22 dX7_matchIn_22 fX7_124 (by repeat (first | assumption | exact am_ue | refine am_un (by first | assumption | decide | omega) ?_)) rfl ?_
    refine am_V2 25 (mc' := 0) (ms' := 0) (rc := 0) (rs := 0) dX7_matchIn_25 lX7_128 ⟨by decide, by decide⟩ (by repeat (first | assumption | exact am_ue | refine am_un (by first | assumption | decide | omega) ?_)) (Nat.le_of_ble_eq_true rfl) (Nat.le_of_ble_eq_true rfl) (s_pair t3 h5 h2 (by omega) (by omega)) ?_
    rintro o n' f2 ⟨rfl, rfl, ⟨le', we', q5⟩, e2⟩
    have j0 : f2 p = _ := (e2 p (by omega)).trans h0
    have j1 := q5.1
    refine am_ctI ?_
    refine am_aload_n 28 dX7_matchIn_28 rfl ?_
    refine am_getfield 29 dX7_matchIn_29 fX7_32 (by repeat (first | assumption | exact am_ue | refine am_un (by first | assumption | decide | omega) ?_)) rfl ?_
    refine am_iload_n 32 dX7_matchIn_32 rfl ?_
    refine am_V1 33 (mc' := 0) (ms' := 0) (rc := 0) (rs := 0) dX7_matchIn_33 lX7_334 ⟨by decide, by decide⟩ (by repeat (first | assumption | exact am_ue | refine am_un (by first | assumption | decide | omega) ?_)) (Nat.le_of_ble_eq_true rfl) (Nat.le_of_ble_eq_true rfl) (s_peakOf q5.1) ?_
    refine am_is_ct ?_
    refine am_ireturn 36 dX7_matchIn_36 rfl rfl ?_
    exact ⟨rfl, rfl, hG.try (fun y hy => e2 y (by omega)) ⟨t1.imp fun w t => t.imp fun b t => t.imp fun h t => t.on fun y a b => e2 y (by omega), t2.imp fun _ t => t.imp fun _ t => t.imp fun _ t => t.imp fun _ t => t.imp fun _ t => t.imp fun _ t => t.imp fun _ t => t.imp fun _ t => t.on fun y a b => e2 y (by omega), _, _, _, q5⟩, fun y hy => e2 y (by omega)⟩
  · have e : m_matchA z x = -1 := if_neg hle
    rw [e]
    refine am_aload_n 0 dX7_matchIn_0 rfl ?_
    refine am_getfield 1 dX7_matchIn_1 fX7_115 (by repeat (first | assumption | exact am_ue | refine am_un (by first | assumption | decide | omega) ?_)) rfl ?_
    refine am_aload_n 4 dX7_matchIn_4 rfl ?_
    refine am_getfield 5 dX7_matchIn_5 fX7_56 (by repeat (first | assumption | exact am_ue | refine am_un (by first | assumption | decide | omega) ?_)) rfl ?_
    refine am_icmp_le 8 13 dX7_matchIn_8 rfl (fun c8 => absurd c8 hle) (fun c8 => ?_)
    refine am_iconst 11 (v := (-1)) dX7_matchIn_11 (by decide) ?_
    refine am_ireturn 12 dX7_matchIn_12 rfl rfl ?_
    exact ⟨rfl, rfl, hG, fun _ _ => rfl⟩
theorem s_wouldMatch {x : Nat} (hG : m_G f p T z) (hx : x < 5) (hth : (z_K z x).1 0 ≠ 0) : AM mX7_wouldMatch 0 0 [.ref p, .int (nI x)] n f (m_ask p T z n f (.int (m_matchA z x))) := by
  have h0 := hG.1
  show AW mX7_wouldMatch 0 0 0 [some (.ref p), some (.int (nI x))] [] n f _
  refine am_aload_n 0 dX7_wouldMatch_0 rfl ?_
  refine am_iload_n 1 dX7_wouldMatch_1 rfl ?_
  refine am_V1 2 (mc' := 0) (ms' := 0) (rc := 0) (rs := 0) dX7_wouldMatch_2 lX7_171 ⟨by decide, by decide⟩ (by repeat (first | assumption | exact am_ue | refine am_un (by first | assumption | decide | omega) ?_)) (Nat.le_of_ble_eq_true rfl) (Nat.le_of_ble_eq_true rfl) (s_ckName hG hx hth) ?_
  refine am_is_ct ?_
  refine am_aload_n 5 dX7_wouldMatch_5 rfl ?_
  refine am_aload_n 6 dX7_wouldMatch_6 rfl ?_
  refine am_getfield 7 dX7_wouldMatch_7 fX7_19 (by repeat (first | assumption | exact am_ue | refine am_un (by first | assumption | decide | omega) ?_)) rfl ?_
  refine am_iload_n 10 dX7_wouldMatch_10 rfl ?_
  refine am_V2 11 (mc' := 0) (ms' := 0) (rc := 0) (rs := 0) dX7_wouldMatch_11 lX7_204 ⟨by decide, by decide⟩ (by repeat (first | assumption | exact am_ue | refine am_un (by first | assumption | decide | omega) ?_)) (Nat.le_of_ble_eq_true rfl) (Nat.le_of_ble_eq_true rfl) (s_matchIn hG) ?_
  rintro o n' f2 ⟨rfl, rfl, g1, g2⟩
  refine am_ctI ?_
  refine am_ireturn 14 dX7_wouldMatch_14 rfl rfl ?_
  exact ⟨rfl, rfl, g1, g2⟩
theorem s_calmIn (hG : m_G f p T z) : AM mX7_calmIn 0 0 [.ref p] n f (m_ask p T z n f (.int (m_cv (z_b z) (z_h z) 61))) := by
  obtain ⟨h0, h1, h2, h3, h4, h5, h6, h7⟩ := id hG
  obtain ⟨⟨w2, b2, hh2, t1⟩, ⟨sg2, rg2, pc2, px2, py2, ch2, pk2, hm2, t2⟩, t3⟩ := id h3
  have t10 := t1.1
  have t20 := t2.1
  show AW mX7_calmIn 0 0 0 [some (.ref p), none] [] n f _
  have hcp := s_copyFrom (n := n) t1.1 t1.2.1 t1.2.2 h1.1 h1.2.1 h1.2.2 (by omega) (by omega) (by omega) (by omega) (by omega) (by omega) (by omega) (by omega) (by omega) (by omega) (by omega) (by omega) (by omega) (by omega) (by omega)
  generalize hg1 : va_up (va_up (va_up f (p + 11) (.inr (6, [.ref (p + 11 + 1), .ref (p + 11 + 2), .int (z_h z)]))) (p + 11 + 1) (.inl (0, 48, .inl (z_w z)))) (p + 11 + 2) (.inl (0, 48, .inl (z_b z))) = g1 at hcp
  have c1 : m_Sh g1 (p + 11) (z_w z) (z_b z) (z_h z) := by
    rw [← hg1]
    exact ⟨am_un (by omega) (am_un (by omega) am_ue), am_un (by omega) am_ue, am_ue⟩
  have e1 : ∀ x, (x < p + 11 ∨ p + 13 < x) → g1 x = f x := fun x hx => by rw [← hg1, am_up_ne (by omega), am_up_ne (by omega), am_up_ne (by omega)]
  clear hg1
  have g10 : g1 p = _ := (e1 p (by omega)).trans h0
  have c10 := c1.1
  generalize hQ : m_ask p T z n f (.int (m_cv (z_b z) (z_h z) 61)) = Q
  refine am_aload_n 0 dX7_calmIn_0 rfl ?_
  refine am_getfield 1 dX7_calmIn_1 fX7_23 (by repeat (first | assumption | exact am_ue | refine am_un (by first | assumption | decide | omega) ?_)) rfl ?_
  refine am_aload_n 4 dX7_calmIn_4 rfl ?_
  refine am_getfield 5 dX7_calmIn_5 fX7_10 (by repeat (first | assumption | exact am_ue | refine am_un (by first | assumption | decide | omega) ?_)) rfl ?_
  refine am_V1 8 (mc' := 0) (ms' := 0) (rc := 0) (rs := 0) dX7_calmIn_8 lX7_208 ⟨by decide, by decide⟩ (by repeat (first | assumption | exact am_ue | refine am_un (by first | assumption | decide | omega) ?_)) (Nat.le_of_ble_eq_true rfl) (Nat.le_of_ble_eq_true rfl) (hcp) ?_
  refine am_is_ct ?_
  refine am_aload_n 11 dX7_calmIn_11 rfl ?_
  refine am_getfield 12 dX7_calmIn_12 fX7_23 (by repeat (first | assumption | exact am_ue | refine am_un (by first | assumption | decide | omega) ?_)) rfl ?_
  refine am_V0 15 (mc' := 0) (ms' := 0) (rc := 0) (rs := 0) dX7_calmIn_15 lX7_140 ⟨by decide, by decide⟩ (by repeat (first | assumption | exact am_ue | refine am_un (by first | assumption | decide | omega) ?_)) (Nat.le_of_ble_eq_true rfl) (Nat.le_of_ble_eq_true rfl) (s_forgetWaits c1.1 c1.2.1 (by omega)) ?_
  refine am_is_ct ?_
  refine am_iconst 18 (v := 0) dX7_calmIn_18 (by decide) ?_
  refine am_istore_n 19 dX7_calmIn_19 (by decide) ?_
  generalize hg2 : va_up g1 (p + 11 + 1) _ = g2
  have c2 : m_Sh g2 (p + 11) (fun _ => 0) (z_b z) (z_h z) := by
    rw [← hg2]
    exact ⟨am_un (by omega) c1.1, am_ue, am_un (by omega) c1.2.2⟩
  have e2 : ∀ x, (x < p + 11 ∨ p + 13 < x) → g2 x = f x := fun x hx => by rw [← hg2, am_up_ne (by omega), e1 x hx]
  clear hg2
  refine am_for 61 (fun k (g : Nat → am_C) => m_Sh g (p + 11) (fun _ => 0) (m_cb (z_b z) (z_h z) k) (z_h z) ∧ (∃ sig reg pc px py chn pk hm, m_Pic g (p + 14) sig reg pc px py chn pk hm) ∧ m_cv (z_b z) (z_h z) (61 - k) = m_cv (z_b z) (z_h z) 61 ∧ ∀ x, (x < p + 11 ∨ p + 20 < x) → g x = f x) (fun k g => AW mX7_calmIn 0 0 20 [some (.ref p), some (.int (nI k))] [] n g Q) ?_ ?_ 0 g2 (by omega) ⟨c2, ⟨_, _, _, _, _, _, _, _, t2.on fun x a b => e2 x (by omega)⟩, rfl, fun x hx => e2 x (by omega)⟩
  · rintro g ⟨g1, g2, g3, g4⟩
    rw [show 61 - 61 = 0 from rfl] at g3
    refine am_iload_n 20 dX7_calmIn_20 rfl ?_
    refine am_bipush 21 (v := 60) dX7_calmIn_21 (by decide) ?_
    refine am_icmp_gt 23 66 dX7_calmIn_23 rfl (fun c23 => ?_) (fun c23 => absurd (by decide) c23)
    refine am_iconst 66 (v := (-1)) dX7_calmIn_66 (by decide) ?_
    refine am_ireturn 67 dX7_calmIn_67 rfl rfl ?_
    subst hQ
    refine ⟨by rw [← g3]; rfl, rfl, hG.try (fun x hx => g4 x (by omega)) ⟨⟨_, _, _, g1⟩, g2, t3.imp fun _ t => t.imp fun _ t => t.imp fun _ t => t.on fun x a b => g4 x (by omega)⟩, fun x hx => g4 x (by omega)⟩
  · rintro k g hk ⟨g1, ⟨sig, reg, pc, px, py, chn, pk, hm, g2⟩, g3, g4⟩ ih
    have g0 : g p = _ := (g4 p (by omega)).trans h0
    have g10 := g1.1
    have g20 := g2.1
    have e60 : 60 - (60 - k) = k := by omega
    have hd : m_cv (z_b z) (z_h z) (61 - k) = if m_calmB (z_b z) (z_h z) k = true then nI k else m_cv (z_b z) (z_h z) (61 - (k + 1)) := by
      have e : 61 - k = (60 - k) + 1 := by omega
      rw [e]
      show (if m_calmB (z_b z) (z_h z) (60 - (60 - k)) = true then nI (60 - (60 - k)) else m_cv (z_b z) (z_h z) (60 - k)) = _
      rw [e60, show 61 - (k + 1) = 60 - k by omega]
    rw [hd] at g3
    have hnx : m_cb (z_b z) (z_h z) (k + 1) = m_settle (fun x => z_h z + 0 - m_cb (z_b z) (z_h z) k x) (m_reg (fun x => z_h z + 0 - m_cb (z_b z) (z_h z) k x)) (m_cb (z_b z) (z_h z) k) := rfl
    have hcal : m_calmB (z_b z) (z_h z) k = true ↔ ∀ x, x < 48 → z_h z + 0 - m_cb (z_b z) (z_h z) k x = 0 := by
      unfold m_calmB
      simp only [List.all_eq_true, List.mem_range, decide_eq_true_eq]
    generalize m_cb (z_b z) (z_h z) k = B at *
    generalize m_calmB (z_b z) (z_h z) k = cb at *
    refine am_iload_n 20 dX7_calmIn_20 rfl ?_
    refine am_bipush 21 (v := 60) dX7_calmIn_21 (by decide) ?_
    refine am_icmp_gt 23 66 dX7_calmIn_23 rfl (fun c23 => absurd c23 (nI_nlt (a := 60) (by omega) (by decide))) (fun c23 => ?_)
    refine am_aload_n 26 dX7_calmIn_26 rfl ?_
    refine am_getfield 27 dX7_calmIn_27 fX7_26 (by repeat (first | assumption | exact am_ue | refine am_un (by first | assumption | decide | omega) ?_)) rfl ?_
    refine am_aload_n 30 dX7_calmIn_30 rfl ?_
    refine am_getfield 31 dX7_calmIn_31 fX7_23 (by repeat (first | assumption | exact am_ue | refine am_un (by first | assumption | decide | omega) ?_)) rfl ?_
    refine am_V1 34 (mc' := 0) (ms' := 0) (rc := 0) (rs := 0) dX7_calmIn_34 lX7_87 ⟨by decide, by decide⟩ (by repeat (first | assumption | exact am_ue | refine am_un (by first | assumption | decide | omega) ?_)) (Nat.le_of_ble_eq_true rfl) (Nat.le_of_ble_eq_true rfl) (s_lookW g2 g1 (by omega)) ?_
    rintro o n' f1 ⟨rfl, rfl, hL, e3⟩
    refine am_ctI ?_
    obtain ⟨pc1, px1, py1, chn1, hp1, -⟩ := id hL
    have hp10 := hp1.1
    have k0 : f1 p = _ := (e3 p (by omega)).trans g0
    have k1 := g1.on (f' := f1) fun x a b => e3 x (by omega)
    have k10 := k1.1
    refine am_aload_n 37 dX7_calmIn_37 rfl ?_
    refine am_getfield 38 dX7_calmIn_38 fX7_26 (by repeat (first | assumption | exact am_ue | refine am_un (by first | assumption | decide | omega) ?_)) rfl ?_
    refine am_V0 41 (mc' := 0) (ms' := 0) (rc := 0) (rs := 0) dX7_calmIn_41 lX7_211 ⟨by decide, by decide⟩ (by repeat (first | assumption | exact am_ue | refine am_un (by first | assumption | decide | omega) ?_)) (Nat.le_of_ble_eq_true rfl) (Nat.le_of_ble_eq_true rfl) (s_isCalm hp1) ?_
    rintro o n' f3 ⟨b, rfl, rfl, rfl, hb⟩
    refine am_ctI ?_
    have ecb : b = cb := by
      have h9 : b = true ↔ cb = true := hb.trans hcal.symm
      cases b <;> cases cb <;> simp_all
    subst ecb
    clear hb hcal
    cases b
    · refine am_if_eq 44 49 dX7_calmIn_44 rfl (fun c44 => ?_) (fun c44 => absurd rfl c44)
      refine am_aload_n 49 dX7_calmIn_49 rfl ?_
      refine am_getfield 50 dX7_calmIn_50 fX7_23 (by repeat (first | assumption | exact am_ue | refine am_un (by first | assumption | decide | omega) ?_)) rfl ?_
      refine am_aload_n 53 dX7_calmIn_53 rfl ?_
      refine am_getfield 54 dX7_calmIn_54 fX7_26 (by repeat (first | assumption | exact am_ue | refine am_un (by first | assumption | decide | omega) ?_)) rfl ?_
      refine am_V1 57 (mc' := 0) (ms' := 0) (rc := 0) (rs := 0) dX7_calmIn_57 lX7_136 ⟨by decide, by decide⟩ (by repeat (first | assumption | exact am_ue | refine am_un (by first | assumption | decide | omega) ?_)) (Nat.le_of_ble_eq_true rfl) (Nat.le_of_ble_eq_true rfl) (s_settle hp1 k1 (by omega)) ?_
      refine am_is_ct ?_
      refine am_iinc 60 (v := nI (k + 1)) dX7_calmIn_60 rfl (nI_1 (k)) (by decide) ?_
      refine am_goto 63 (tgt := 20) dX7_calmIn_63 rfl ?_
      refine ih _ ⟨?_, ⟨_, _, _, _, _, _, _, _, hp1.on fun x a b => am_up_ne (by omega)⟩, g3, fun x hx => (am_up_ne (by omega)).trans ((e3 x (by omega)).trans (g4 x hx))⟩
      rw [hnx]
      exact ⟨am_un (by omega) k1.1, am_un (by omega) k1.2.1, am_ue⟩
    · rw [if_pos rfl] at g3
      refine am_if_eq 44 49 dX7_calmIn_44 rfl (fun c44 => absurd c44 (by decide)) (fun c44 => ?_)
      refine am_iload_n 47 dX7_calmIn_47 rfl ?_
      refine am_ireturn 48 dX7_calmIn_48 rfl rfl ?_
      subst hQ
      exact ⟨by rw [← g3], rfl, hG.try (fun x hx => (e3 x (by omega)).trans (g4 x (by omega))) ⟨⟨_, _, _, k1⟩, ⟨_, _, _, _, _, _, _, _, hp1⟩, t3.imp fun _ t => t.imp fun _ t => t.imp fun _ t => t.on fun x a b => (e3 x (by omega)).trans (g4 x (by omega))⟩, fun x hx => (e3 x (by omega)).trans (g4 x (by omega))⟩
/-! the checksum -/
theorem s_mix {d v : Int64} : AM mX7_mixed 0 0 [.long d, .long v] n f (am_is (some (.long (d * 31 + v))) n f) := by
  show AW mX7_mixed 0 0 0 [some (.long d), none, some (.long v), none] [] n f _
  refine am_lload_n 0 dX7_mixed_0 rfl ?_
  refine am_ldc2 1 dX7_mixed_1 kX7_340 ?_
  refine am_lmul 4 dX7_mixed_4 ?_
  refine am_lload_n 5 dX7_mixed_5 rfl ?_
  refine am_ladd 6 dX7_mixed_6 ?_
  exact am_lreturn 7 dX7_mixed_7 rfl ⟨rfl, rfl, rfl⟩
def m_six (x : UInt32) : Int64 := FP.d2l (FP.dmul 4625196817309499392 (FP.f2d x))
theorem s_sixteenths {x : UInt32} (hx : FP.Core.FFin x) : AM mX7_sixteenths 0 0 [.double (FP.f2d x)] n f (am_is (some (.long (m_six x))) n f) := by
  show AW mX7_sixteenths 0 0 0 [some (.double (FP.f2d x)), none] [] n f _
  refine am_ldc2d 0 dX7_sixteenths_0 kX7_346 ?_
  refine am_dload_n 3 dX7_sixteenths_3 rfl ?_
  refine am_dmul 4 dX7_sixteenths_4 (d_mul d_16 (f_d hx).1) ?_
  refine am_d2l 5 dX7_sixteenths_5 ?_
  exact am_lreturn 6 dX7_sixteenths_6 rfl ⟨rfl, rfl, rfl⟩
end Wou
