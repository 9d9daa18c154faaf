/-! ===== the class's frame: what becomes of the hand ===== -/
theorem x_eqs.cm {K K' K2 : Nat → m_K} (h : x_eqs K K') (c : m_cm K' K2) : x_eqs K K2 := fun j hj => by
  obtain ⟨h1, h2⟩ := h j hj
  obtain ⟨c1, c2⟩ := c j hj
  unfold x_eq at h2 ⊢
  rw [c1 0 (by decide), c1 2 (by decide), c1 3 (by decide), c1 5 (by decide), c2]
  exact ⟨h1, h2⟩
section TakX
variable {h s told T be li ca n i q d : Nat} {A : Nat → Nat → Int32} {C : Nat → Nat → Nat} {f : Nat → am_C} {K : Nat → m_K} {sig : Nat → Int32} {bst : Int64}
set_option maxHeartbeats 2000000 in
theorem s_takeX (hh : m_Ha f h s K be li ca) (hS : m_As f s told A C) (hI : m_Inv told T K be li ca C) (hB : be < 2 ^ 31) (hq : f q = .inr (4, [.ref (q + 1), .ref (q + 2), .long bst])) (hL : m_Look f i sig) (hb : m_bOk (fun j => (K j).1 0 ≠ 0) (m_pks sig 48).length bst) (h1 : 1 ≤ d) (h2 : d ≤ 4) (hd : s + 9 < h ∨ h + 11 < s) (hd2 : (q < s ∨ s + 9 < q) ∧ (q < h ∨ h + 11 < q)) (hd3 : (i + 6 < s ∨ s + 9 < i) ∧ (i + 6 < h ∨ h + 11 < i)) : AM mX3_take 0 0 [.ref h, .ref i, .ref q, .int (nI d)] n f (fun o n' f' => o = .inl none ∧ n' = n ∧ (∃ K' be' li' C', m_Ha f' h s K' be' li' (ca + m_N (m_pal sig bst K) 5) ∧ m_As f' s told A C' ∧ m_Inv told (T + 1) K' be' li' (ca + m_N (m_pal sig bst K) 5) C' ∧ be' ≤ be + 48 ∧ x_eqs (x_fr sig bst d K) K') ∧ ∀ x, (x < s ∨ s + 9 < x) → (x < h ∨ h + 11 < x) → f' x = f x) := by
  show AW mX3_take 0 0 0 [some (.ref h), some (.ref i), some (.ref q), some (.int (nI d))] [] n f _
  have h0 := hh.1
  refine am_aload_n 0 dX3_take_0 rfl ?_
  refine am_aload_n 1 dX3_take_1 rfl ?_
  refine am_aload_n 2 dX3_take_2 rfl ?_
  refine am_iload_n 3 dX3_take_3 rfl ?_
  refine am_V3 4 (mc' := 0) (ms' := 0) (rc := 0) (rs := 0) dX3_take_4 lX3_30 ⟨by decide, by decide⟩ (by repeat (first | assumption | exact am_ue | refine am_un (by first | assumption | decide | omega) ?_)) (Nat.le_of_ble_eq_true rfl) (Nat.le_of_ble_eq_true rfl) (s_followMatched hh hS hI hB hq hL hb h1 h2 hd hd2 hd3) ?_
  rintro o n' f1 ⟨rfl, rfl, a1, ⟨C1, a2, a3⟩, a4⟩
  refine am_ctI ?_
  have ha0 := a1.1
  have q1 := (a4 q hd2.1 hd2.2).trans hq
  have L1 := hL.on (f' := f1) fun x a b => a4 x (by omega) (by omega)
  refine am_aload_n 7 dX3_take_7 rfl ?_
  refine am_aload_n 8 dX3_take_8 rfl ?_
  refine am_V1 9 (mc' := 0) (ms' := 0) (rc := 0) (rs := 0) dX3_take_9 lX3_34 ⟨by decide, by decide⟩ (by repeat (first | assumption | exact am_ue | refine am_un (by first | assumption | decide | omega) ?_)) (Nat.le_of_ble_eq_true rfl) (Nat.le_of_ble_eq_true rfl) (s_missUnmatched a1 a2 a3 q1 hd hd2) ?_
  rintro o n' f2 ⟨rfl, rfl, ⟨l2, C2, b1, b2, b3⟩, b4⟩
  refine am_ctI ?_
  have hb0 := b1.1
  have q2 := (b4 q hd2.1 hd2.2).trans q1
  have L2 := L1.on (f' := f2) fun x a b => b4 x (by omega) (by omega)
  refine am_aload_n 12 dX3_take_12 rfl ?_
  refine am_aload_n 13 dX3_take_13 rfl ?_
  refine am_aload_n 14 dX3_take_14 rfl ?_
  refine am_V2 15 (mc' := 0) (ms' := 0) (rc := 0) (rs := 0) dX3_take_15 lX3_38 ⟨by decide, by decide⟩ (by repeat (first | assumption | exact am_ue | refine am_un (by first | assumption | decide | omega) ?_)) (Nat.le_of_ble_eq_true rfl) (Nat.le_of_ble_eq_true rfl) (s_beginX b1 b2 b3 q2 L2 hd hd2.2 hd3.2) ?_
  rintro o n' f3 ⟨rfl, rfl, ⟨K3, be3, c1, c2, c3, c5, c6⟩, c4⟩
  refine am_ctI ?_
  have hc0 := c1.1
  have S3 := b2.on (f' := f3) fun x a b => c4 x (by omega)
  refine am_aload_n 18 dX3_take_18 rfl ?_
  refine am_V0 19 (mc' := 0) (ms' := 0) (rc := 0) (rs := 0) dX3_take_19 lX3_42 ⟨by decide, by decide⟩ (by repeat (first | assumption | exact am_ue | refine am_un (by first | assumption | decide | omega) ?_)) (Nat.le_of_ble_eq_true rfl) (Nat.le_of_ble_eq_true rfl) (s_claimPinches c1 S3 c3 hd) ?_
  rintro o n' f4 ⟨rfl, rfl, ⟨K4, C4, d1, d2, d3, d5⟩, d4⟩
  refine am_ctI ?_
  have hd0 := d1.1
  refine am_aload_n 22 dX3_take_22 rfl ?_
  refine am_V0 23 (mc' := 0) (ms' := 0) (rc := 0) (rs := 0) dX3_take_23 lX3_45 ⟨by decide, by decide⟩ (by repeat (first | assumption | exact am_ue | refine am_un (by first | assumption | decide | omega) ?_)) (Nat.le_of_ble_eq_true rfl) (Nat.le_of_ble_eq_true rfl) (s_claimAlone d1 d2 d3 hd) ?_
  rintro o n' f5 ⟨rfl, rfl, ⟨K5, C5, e1, e2, e3, e5⟩, e4⟩
  refine am_ctI ?_
  refine am_return 26 dX3_take_26 rfl ?_
  exact ⟨rfl, rfl, ⟨K5, be3, l2, C5, e1, e2, e3, c2, (show x_eqs (x_fr sig bst d K) K3 from c6).cm d5 |>.cm e5⟩, fun x a b => (e4 x a b).trans ((d4 x a b).trans ((c4 x b).trans ((b4 x a b).trans (a4 x a b))))⟩
end TakX
section CFrameX
variable {p T n : Nat} {f g : Nat → am_C} {z : m_Z}
theorem s_frameX (hG : m_G f p T z) (hT : T ≤ 1000) : AM mX7_frame 0 0 [.ref p] n f (fun o n' f' => n' = n ∧ (∃ v, o = .inl (some (.int v))) ∧ (∃ z', m_G f' p (T + 1) z' ∧ z_h z' = z_h z ∧ z_w z' = (fun _ => 0) ∧ z_b z' = m_settle (m_sg z) (m_reg (m_sg z)) (z_b z) ∧ z_d z' = z_d z ∧ z_lim z' = z_lim z ∧ z_to z' = z_to z ∧ x_eqs (x_frM (m_sg z) (z_lim z) (z_d z) (z_K z)) (z_K z')) ∧ ∀ x, (x < p ∨ p + 45 < x) → f' x = f x) := by
  obtain ⟨h0, h1, h2, h3, h4, h5, h6, h7⟩ := hG
  obtain ⟨d1, d2, hbe, hh⟩ := h7
  obtain ⟨pc, px, py, chn, hp, -⟩ := id h2
  have p0 := hp.1
  have hm7 : m_hum (m_sg z) = m_hum (fun k => z_h z + z_w z k - z_b z k) := rfl
  show AW mX7_frame 0 0 0 [some (.ref p), none] [] n f _
  generalize hB : m_settle (fun k => z_h z + z_w z k - z_b z k) (m_reg (fun k => z_h z + z_w z k - z_b z k)) (z_b z) = B
  by_cases hle : m_hum (m_sg z) ≤ z_lim z
  · refine am_aload_n 0 dX7_frame_0 rfl ?_
    refine am_getfield 1 dX7_frame_1 fX7_19 (by repeat (first | assumption | exact am_ue | refine am_un (by first | assumption | decide | omega) ?_)) rfl ?_
    refine am_getfield 4 dX7_frame_4 fX7_115 (by repeat (first | assumption | exact am_ue | refine am_un (by first | assumption | decide | omega) ?_)) rfl ?_
    refine am_aload_n 7 dX7_frame_7 rfl ?_
    refine am_getfield 8 dX7_frame_8 fX7_56 (by repeat (first | assumption | exact am_ue | refine am_un (by first | assumption | decide | omega) ?_)) rfl ?_
    refine am_icmp_le 11 18 dX7_frame_11 rfl (fun c11 => ?_) (fun c11 => absurd hle c11)
    refine am_iconst 18 (v := 0) dX7_frame_18 (by decide) ?_
    refine am_istore_n 19 dX7_frame_19 (by decide) ?_
    refine am_iload_n 20 dX7_frame_20 rfl ?_
    refine am_if_eq 21 37 dX7_frame_21 rfl (fun c21 => ?_) (fun c21 => absurd rfl c21)
    refine am_aload_n 37 dX7_frame_37 rfl ?_
    refine am_dup 38 dX7_frame_38 rfl ?_
    refine am_getfield 39 dX7_frame_39 fX7_121 (by repeat (first | assumption | exact am_ue | refine am_un (by first | assumption | decide | omega) ?_)) rfl ?_
    refine am_iconst 42 (v := 1) dX7_frame_42 (by decide) ?_
    refine am_iadd 43 dX7_frame_43 ?_
    refine am_putfield 44 dX7_frame_44 pX7_121 (by repeat (first | assumption | exact am_ue | refine am_un (by first | assumption | decide | omega) ?_)) rfl rfl (Nat.le_of_ble_eq_true rfl) ?_
    generalize hf1 : va_up f p _ = f1
    have a1 : f1 p = .inr (7, m_pF p (z_d z) (z_lim z) (z_ta z + 1) (z_th z)) := by rw [← hf1]; exact am_ue
    have e1 : ∀ x, x ≠ p → f1 x = f x := fun x hx => by rw [← hf1, am_up_ne hx]
    clear hf1
    have k1 := h1.on (f' := f1) (fun x a b => e1 x (by omega))
    have k2 := h2.on (f' := f1) (fun x a b => e1 x (by omega))
    obtain ⟨⟨w2, b2, hh2, t1⟩, ⟨sg2, rg2, pc2, px2, py2, ch2, pk2, hm2, t2⟩, le, we, bb, t3⟩ := h3.on (f' := f1) (fun x a b => e1 x (by omega))
    have k4 := h4.on (f' := f1) (fun x a b => e1 x (by omega))
    have k5 := h5.on (f' := f1) (fun x a b => e1 x (by omega))
    have k50 := k5.1
    have q0 := t3.1
    have p1 := (hp.on (f' := f1) (fun x a b => e1 x (by omega))).1
    have hW := m_W_ok (sig := m_sg z) (K := z_K z) fun j hj => (h6.1 j hj).1.2.2.2.2.2.2.2.2
    have hb := m_best_ok hW (Nat.le_trans (m_pks_len (sig := m_sg z) (k := 48)) (by decide))
    refine am_aload_n 47 dX7_frame_47 rfl ?_
    refine am_getfield 48 dX7_frame_48 fX7_32 (by repeat (first | assumption | exact am_ue | refine am_un (by first | assumption | decide | omega) ?_)) rfl ?_
    refine am_aload_n 51 dX7_frame_51 rfl ?_
    refine am_getfield 52 dX7_frame_52 fX7_19 (by repeat (first | assumption | exact am_ue | refine am_un (by first | assumption | decide | omega) ?_)) rfl ?_
    refine am_aload_n 55 dX7_frame_55 rfl ?_
    refine am_getfield 56 dX7_frame_56 fX7_48 (by repeat (first | assumption | exact am_ue | refine am_un (by first | assumption | decide | omega) ?_)) rfl ?_
    refine am_getfield 59 dX7_frame_59 fX7_124 (by repeat (first | assumption | exact am_ue | refine am_un (by first | assumption | decide | omega) ?_)) rfl ?_
    refine am_V2 62 (mc' := 0) (ms' := 0) (rc := 0) (rs := 0) dX7_frame_62 lX7_128 ⟨by decide, by decide⟩ (by repeat (first | assumption | exact am_ue | refine am_un (by first | assumption | decide | omega) ?_)) (Nat.le_of_ble_eq_true rfl) (Nat.le_of_ble_eq_true rfl) (s_pair t3 k5 k2 (by omega) (by omega)) ?_
    rintro o n' f2 ⟨rfl, rfl, ⟨le', we', q5⟩, e2⟩
    have j0 : f2 p = _ := (e2 p (by omega)).trans a1
    have j1 := k1.on (f' := f2) (fun x a b => e2 x (by omega))
    have j2 := k2.on (f' := f2) (fun x a b => e2 x (by omega))
    have j4 := k4.on (f' := f2) (fun x a b => e2 x (by omega))
    have j5 := k5.on (f' := f2) (fun x a b => e2 x (by omega))
    have j50 := j5.1
    refine am_ctI ?_
    refine am_aload_n 65 dX7_frame_65 rfl ?_
    refine am_getfield 66 dX7_frame_66 fX7_48 (by repeat (first | assumption | exact am_ue | refine am_un (by first | assumption | decide | omega) ?_)) rfl ?_
    refine am_aload_n 69 dX7_frame_69 rfl ?_
    refine am_getfield 70 dX7_frame_70 fX7_19 (by repeat (first | assumption | exact am_ue | refine am_un (by first | assumption | decide | omega) ?_)) rfl ?_
    refine am_aload_n 73 dX7_frame_73 rfl ?_
    refine am_getfield 74 dX7_frame_74 fX7_32 (by repeat (first | assumption | exact am_ue | refine am_un (by first | assumption | decide | omega) ?_)) rfl ?_
    refine am_aload_n 77 dX7_frame_77 rfl ?_
    refine am_getfield 78 dX7_frame_78 fX7_52 (by repeat (first | assumption | exact am_ue | refine am_un (by first | assumption | decide | omega) ?_)) rfl ?_
    refine am_V3 81 (mc' := 0) (ms' := 0) (rc := 0) (rs := 0) dX7_frame_81 lX7_132 ⟨by decide, by decide⟩ (by repeat (first | assumption | exact am_ue | refine am_un (by first | assumption | decide | omega) ?_)) (Nat.le_of_ble_eq_true rfl) (Nat.le_of_ble_eq_true rfl) (s_takeX j5 j4 h6 (by omega) q5.1 j2 hb d1 d2 (by omega) (by omega) (by omega)) ?_
    rintro o n' f3 ⟨rfl, rfl, ⟨K', be', li', C', r1, r2, r3, r4, r5⟩, e3⟩
    refine am_ctI ?_
    refine s_frTail ((e3 p (by omega) (by omega)).trans j0) (j1.on fun x a b => e3 x (by omega) (by omega)) (j2.on fun x a b => e3 x (by omega) (by omega)) r1 fun f' u1 u2 u3 => ?_
    rw [hB] at u1 u2
    refine ⟨rfl, ⟨_, rfl⟩, ⟨((fun _ => 0, B, z_h z), K', (be', li', z_ca z + m_N (m_pal (m_sg z) (m_best (m_W (m_sg z) (z_K z)) (m_P z)) (z_K z)) 5), (z_to z, z_A z, C'), (z_d z, z_lim z, z_ta z + 1, z_th z)), ⟨?_, u1, u2, ?_, ?_, ?_, r3, d1, d2, ?_, hh⟩, rfl, rfl, hB.symm, rfl, rfl, rfl, by rw [x_frM_yes hle]; exact r5⟩, fun x hx => ?_⟩
    · exact (u3 p (by omega)).trans ((e3 p (by omega) (by omega)).trans j0)
    · exact ⟨⟨w2, b2, hh2, t1.on fun x a b => (u3 x (by omega)).trans ((e3 x (by omega) (by omega)).trans (e2 x (by omega)))⟩, ⟨sg2, rg2, pc2, px2, py2, ch2, pk2, hm2, t2.on fun x a b => (u3 x (by omega)).trans ((e3 x (by omega) (by omega)).trans (e2 x (by omega)))⟩, _, _, _, q5.on fun x a b => (u3 x (by omega)).trans (e3 x (by omega) (by omega))⟩
    · exact r2.on fun x a b => u3 x (by omega)
    · exact r1.on fun x a b => u3 x (by omega)
    · show be' ≤ 48 * (T + 1)
      omega
    · exact (u3 x (by omega)).trans ((e3 x (by omega) (by omega)).trans ((e2 x (by omega)).trans (e1 x (by omega))))
  · refine am_aload_n 0 dX7_frame_0 rfl ?_
    refine am_getfield 1 dX7_frame_1 fX7_19 (by repeat (first | assumption | exact am_ue | refine am_un (by first | assumption | decide | omega) ?_)) rfl ?_
    refine am_getfield 4 dX7_frame_4 fX7_115 (by repeat (first | assumption | exact am_ue | refine am_un (by first | assumption | decide | omega) ?_)) rfl ?_
    refine am_aload_n 7 dX7_frame_7 rfl ?_
    refine am_getfield 8 dX7_frame_8 fX7_56 (by repeat (first | assumption | exact am_ue | refine am_un (by first | assumption | decide | omega) ?_)) rfl ?_
    refine am_icmp_le 11 18 dX7_frame_11 rfl (fun c11 => absurd c11 hle) (fun c11 => ?_)
    refine am_iconst 14 (v := 1) dX7_frame_14 (by decide) ?_
    refine am_goto 15 (tgt := 19) dX7_frame_15 rfl ?_
    refine am_istore_n 19 dX7_frame_19 (by decide) ?_
    refine am_iload_n 20 dX7_frame_20 rfl ?_
    refine am_if_eq 21 37 dX7_frame_21 rfl (fun c21 => absurd c21 (by decide)) (fun c21 => ?_)
    refine am_aload_n 24 dX7_frame_24 rfl ?_
    refine am_dup 25 dX7_frame_25 rfl ?_
    refine am_getfield 26 dX7_frame_26 fX7_118 (by repeat (first | assumption | exact am_ue | refine am_un (by first | assumption | decide | omega) ?_)) rfl ?_
    refine am_iconst 29 (v := 1) dX7_frame_29 (by decide) ?_
    refine am_iadd 30 dX7_frame_30 ?_
    refine am_putfield 31 dX7_frame_31 pX7_118 (by repeat (first | assumption | exact am_ue | refine am_un (by first | assumption | decide | omega) ?_)) rfl rfl (Nat.le_of_ble_eq_true rfl) ?_
    refine am_goto 34 (tgt := 84) dX7_frame_34 rfl ?_
    generalize hf1 : va_up f p _ = f1
    have a1 : f1 p = .inr (7, m_pF p (z_d z) (z_lim z) (z_ta z) (z_th z + 1)) := by rw [← hf1]; exact am_ue
    have e1 : ∀ x, x ≠ p → f1 x = f x := fun x hx => by rw [← hf1, am_up_ne hx]
    clear hf1
    refine s_frTail a1 (h1.on fun x a b => e1 x (by omega)) (h2.on fun x a b => e1 x (by omega)) (h5.on fun x a b => e1 x (by omega)) fun f' u1 u2 u3 => ?_
    rw [hB] at u1 u2
    refine ⟨rfl, ⟨_, rfl⟩, ⟨((fun _ => 0, B, z_h z), z_K z, (z_be z, z_li z, z_ca z), (z_to z, z_A z, z_C z), (z_d z, z_lim z, z_ta z, z_th z + 1)), ⟨?_, u1, u2, ?_, ?_, ?_, h6.up, d1, d2, ?_, hh⟩, rfl, rfl, hB.symm, rfl, rfl, rfl, by rw [x_frM_no hle]; exact x_eqs.refl⟩, fun x hx => ?_⟩
    · exact (u3 p (by omega)).trans a1
    · exact h3.on fun x a b => (u3 x (by omega)).trans (e1 x (by omega))
    · exact h4.on fun x a b => (u3 x (by omega)).trans (e1 x (by omega))
    · exact h5.on fun x a b => (u3 x (by omega)).trans (e1 x (by omega))
    · show z_be z ≤ 48 * (T + 1)
      omega
    · exact (u3 x (by omega)).trans (e1 x (by omega))
end CFrameX
