/-! ===== the class's frame and wipe, to the letter ===== -/
section CFrameY
/-- the hand and its counts in the class's state -/
def y_Z (z : m_Z) : y_H := (z_K z, z_C z, z_be z, z_li z, z_ca z, z_ta z, z_th z)
variable {p T n : Nat} {f g : Nat → am_C} {z : m_Z}
theorem s_frameY (hG : m_G f p T z) (hT : T ≤ 1000) : AM mX7_frame 0 0 [.ref p] n f (fun o n' f' => n' = n ∧ (∃ v, o = .inl (some (.int v))) ∧ (∃ z', m_G f' p (T + 1) z' ∧ z_h z' = z_h z ∧ z_w z' = (fun _ => 0) ∧ z_b z' = m_settle (m_sg z) (m_reg (m_sg z)) (z_b z) ∧ z_d z' = z_d z ∧ z_lim z' = z_lim z ∧ (z_to z' = z_to z ∧ z_A z' = z_A z ∧ y_Z z' = y_frM (m_sg z) (z_lim z) (z_d z) (z_A z) (z_to z) (y_Z z))) ∧ ∀ x, (x < p ∨ p + 45 < x) → f' x = f x) := by
  obtain ⟨h0, h1, h2, h3, h4, h5, h6, h7⟩ := hG
  obtain ⟨d1, d2, hbe, hh⟩ := h7
  obtain ⟨pc, px, py, chn, hp, -⟩ := id h2
  have p0 := hp.1
  have hm7 : m_hum (m_sg z) = m_hum (fun k => z_h z + z_w z k - z_b z k) := rfl
  show AW mX7_frame 0 0 0 [some (.ref p), none] [] n f _
  generalize hB : m_settle (fun k => z_h z + z_w z k - z_b z k) (m_reg (fun k => z_h z + z_w z k - z_b z k)) (z_b z) = B
  by_cases hle : m_hum (m_sg z) ≤ z_lim z
  · refine am_aload_n 0 dX7_frame_0 rfl ?_
    refine am_getfield 1 dX7_frame_1 fX7_19 (by repeat (first | assumption | exact am_ue | refine am_un (by first | assumption | decide | omega) ?_)) rfl ?_
    refine am_getfield 4 dX7_frame_4 fX7_115 (by repeat (first | assumption | exact am_ue | refine am_un (by first | assumption | decide | omega) ?_)) rfl ?_
    refine am_aload_n 7 dX7_frame_7 rfl ?_
    refine am_getfield 8 dX7_frame_8 fX7_56 (by repeat (first | assumption | exact am_ue | refine am_un (by first | assumption | decide | omega) ?_)) rfl ?_
    refine am_icmp_le 11 18 dX7_frame_11 rfl (fun c11 => ?_) (fun c11 => absurd hle c11)
    refine am_iconst 18 (v := 0) dX7_frame_18 (by decide) ?_
    refine am_istore_n 19 dX7_frame_19 (by decide) ?_
    refine am_iload_n 20 dX7_frame_20 rfl ?_
    refine am_if_eq 21 37 dX7_frame_21 rfl (fun c21 => ?_) (fun c21 => absurd rfl c21)
    refine am_aload_n 37 dX7_frame_37 rfl ?_
    refine am_dup 38 dX7_frame_38 rfl ?_
    refine am_getfield 39 dX7_frame_39 fX7_121 (by repeat (first | assumption | exact am_ue | refine am_un (by first | assumption | decide | omega) ?_)) rfl ?_
    refine am_iconst 42 (v := 1) dX7_frame_42 (by decide) ?_
    refine am_iadd 43 dX7_frame_43 ?_
    refine am_putfield 44 dX7_frame_44 pX7_121 (by repeat (first | assumption | exact am_ue | refine am_un (by first | assumption | decide | omega) ?_)) rfl rfl (Nat.le_of_ble_eq_true rfl) ?_
    generalize hf1 : va_up f p _ = f1
    have a1 : f1 p = .inr (7, m_pF p (z_d z) (z_lim z) (z_ta z + 1) (z_th z)) := by rw [← hf1]; exact am_ue
    have e1 : ∀ x, x ≠ p → f1 x = f x := fun x hx => by rw [← hf1, am_up_ne hx]
    clear hf1
    have k1 := h1.on (f' := f1) (fun x a b => e1 x (by omega))
    have k2 := h2.on (f' := f1) (fun x a b => e1 x (by omega))
    obtain ⟨⟨w2, b2, hh2, t1⟩, ⟨sg2, rg2, pc2, px2, py2, ch2, pk2, hm2, t2⟩, le, we, bb, t3⟩ := h3.on (f' := f1) (fun x a b => e1 x (by omega))
    have k4 := h4.on (f' := f1) (fun x a b => e1 x (by omega))
    have k5 := h5.on (f' := f1) (fun x a b => e1 x (by omega))
    have k50 := k5.1
    have q0 := t3.1
    have p1 := (hp.on (f' := f1) (fun x a b => e1 x (by omega))).1
    have hW := m_W_ok (sig := m_sg z) (K := z_K z) fun j hj => (h6.1 j hj).1.2.2.2.2.2.2.2.2
    have hb := m_best_ok hW (Nat.le_trans (m_pks_len (sig := m_sg z) (k := 48)) (by decide))
    refine am_aload_n 47 dX7_frame_47 rfl ?_
    refine am_getfield 48 dX7_frame_48 fX7_32 (by repeat (first | assumption | exact am_ue | refine am_un (by first | assumption | decide | omega) ?_)) rfl ?_
    refine am_aload_n 51 dX7_frame_51 rfl ?_
    refine am_getfield 52 dX7_frame_52 fX7_19 (by repeat (first | assumption | exact am_ue | refine am_un (by first | assumption | decide | omega) ?_)) rfl ?_
    refine am_aload_n 55 dX7_frame_55 rfl ?_
    refine am_getfield 56 dX7_frame_56 fX7_48 (by repeat (first | assumption | exact am_ue | refine am_un (by first | assumption | decide | omega) ?_)) rfl ?_
    refine am_getfield 59 dX7_frame_59 fX7_124 (by repeat (first | assumption | exact am_ue | refine am_un (by first | assumption | decide | omega) ?_)) rfl ?_
    refine am_V2 62 (mc' := 0) (ms' := 0) (rc := 0) (rs := 0) dX7_frame_62 lX7_128 ⟨by decide, by decide⟩ (by repeat (first | assumption | exact am_ue | refine am_un (by first | assumption | decide | omega) ?_)) (Nat.le_of_ble_eq_true rfl) (Nat.le_of_ble_eq_true rfl) (s_pair t3 k5 k2 (by omega) (by omega)) ?_
    rintro o n' f2 ⟨rfl, rfl, ⟨le', we', q5⟩, e2⟩
    have j0 : f2 p = _ := (e2 p (by omega)).trans a1
    have j1 := k1.on (f' := f2) (fun x a b => e2 x (by omega))
    have j2 := k2.on (f' := f2) (fun x a b => e2 x (by omega))
    have j4 := k4.on (f' := f2) (fun x a b => e2 x (by omega))
    have j5 := k5.on (f' := f2) (fun x a b => e2 x (by omega))
    have j50 := j5.1
    refine am_ctI ?_
    refine am_aload_n 65 dX7_frame_65 rfl ?_
    refine am_getfield 66 dX7_frame_66 fX7_48 (by repeat (first | assumption | exact am_ue | refine am_un (by first | assumption | decide | omega) ?_)) rfl ?_
    refine am_aload_n 69 dX7_frame_69 rfl ?_
    refine am_getfield 70 dX7_frame_70 fX7_19 (by repeat (first | assumption | exact am_ue | refine am_un (by first | assumption | decide | omega) ?_)) rfl ?_
    refine am_aload_n 73 dX7_frame_73 rfl ?_
    refine am_getfield 74 dX7_frame_74 fX7_32 (by repeat (first | assumption | exact am_ue | refine am_un (by first | assumption | decide | omega) ?_)) rfl ?_
    refine am_aload_n 77 dX7_frame_77 rfl ?_
    refine am_getfield 78 dX7_frame_78 fX7_52 (by repeat (first | assumption | exact am_ue | refine am_un (by first | assumption | decide | omega) ?_)) rfl ?_
    refine am_V3 81 (mc' := 0) (ms' := 0) (rc := 0) (rs := 0) dX7_frame_81 lX7_132 ⟨by decide, by decide⟩ (by repeat (first | assumption | exact am_ue | refine am_un (by first | assumption | decide | omega) ?_)) (Nat.le_of_ble_eq_true rfl) (Nat.le_of_ble_eq_true rfl) (s_takeY (S := y_Z z) ⟨j5, j4, h6⟩ (by show z_be z < 2 ^ 31; omega) q5.1 j2 hb d1 d2 (by omega) (by omega) (by omega)) ?_
    rintro o n' f3 ⟨rfl, rfl, ⟨r1, r2, r3⟩, r4, e3⟩
    have r4 : y_be (y_take (m_sg z) (m_best (m_W (m_sg z) (z_K z)) (m_P z)) (z_d z) (z_A z) (z_to z) (y_Z z)) ≤ z_be z + 48 := r4
    refine am_ctI ?_
    refine s_frTail ((e3 p (by omega) (by omega)).trans j0) (j1.on fun x a b => e3 x (by omega) (by omega)) (j2.on fun x a b => e3 x (by omega) (by omega)) r1 fun f' u1 u2 u3 => ?_
    rw [hB] at u1 u2
    have ey := y_frM_yes (S := y_Z z) (d := z_d z) (told := z_to z) (A := z_A z) hle
    have et : y_t (y_take (m_sg z) (m_best (m_W (m_sg z) (z_K z)) (m_P z)) (z_d z) (z_A z) (z_to z) (y_Z z)) = (z_ta z, z_th z) := y_take_t
    generalize hS2 : y_take (m_sg z) (m_best (m_W (m_sg z) (z_K z)) (m_P z)) (z_d z) (z_A z) (z_to z) (y_Z z) = S2 at r1 r2 r3 r4 et
    refine ⟨rfl, ⟨_, rfl⟩, ⟨((fun _ => 0, B, z_h z), y_K S2, (y_be S2, y_li S2, y_ca S2), (z_to z, z_A z, y_C S2), (z_d z, z_lim z, z_ta z + 1, z_th z)), ⟨?_, u1, u2, ?_, ?_, ?_, r3, d1, d2, ?_, hh⟩, rfl, rfl, hB.symm, rfl, rfl, rfl, rfl, ?_⟩, fun x hx => ?_⟩
    · exact (u3 p (by omega)).trans ((e3 p (by omega) (by omega)).trans j0)
    · exact ⟨⟨w2, b2, hh2, t1.on fun x a b => (u3 x (by omega)).trans ((e3 x (by omega) (by omega)).trans (e2 x (by omega)))⟩, ⟨sg2, rg2, pc2, px2, py2, ch2, pk2, hm2, t2.on fun x a b => (u3 x (by omega)).trans ((e3 x (by omega) (by omega)).trans (e2 x (by omega)))⟩, _, _, _, q5.on fun x a b => (u3 x (by omega)).trans (e3 x (by omega) (by omega))⟩
    · exact r2.on fun x a b => u3 x (by omega)
    · exact r1.on fun x a b => u3 x (by omega)
    · show y_be S2 ≤ 48 * (T + 1)
      omega
    · refine Eq.trans ?_ ey.symm
      rw [show y_take (m_sg z) (m_best (m_W (m_sg z) (y_K (y_Z z))) (m_pks (m_sg z) 48).length) (z_d z) (z_A z) (z_to z) (y_Z z) = S2 from hS2]
      unfold y_tk
      rw [et]
      rfl
    · exact (u3 x (by omega)).trans ((e3 x (by omega) (by omega)).trans ((e2 x (by omega)).trans (e1 x (by omega))))
  · refine am_aload_n 0 dX7_frame_0 rfl ?_
    refine am_getfield 1 dX7_frame_1 fX7_19 (by repeat (first | assumption | exact am_ue | refine am_un (by first | assumption | decide | omega) ?_)) rfl ?_
    refine am_getfield 4 dX7_frame_4 fX7_115 (by repeat (first | assumption | exact am_ue | refine am_un (by first | assumption | decide | omega) ?_)) rfl ?_
    refine am_aload_n 7 dX7_frame_7 rfl ?_
    refine am_getfield 8 dX7_frame_8 fX7_56 (by repeat (first | assumption | exact am_ue | refine am_un (by first | assumption | decide | omega) ?_)) rfl ?_
    refine am_icmp_le 11 18 dX7_frame_11 rfl (fun c11 => absurd c11 hle) (fun c11 => ?_)
    refine am_iconst 14 (v := 1) dX7_frame_14 (by decide) ?_
    refine am_goto 15 (tgt := 19) dX7_frame_15 rfl ?_
    refine am_istore_n 19 dX7_frame_19 (by decide) ?_
    refine am_iload_n 20 dX7_frame_20 rfl ?_
    refine am_if_eq 21 37 dX7_frame_21 rfl (fun c21 => absurd c21 (by decide)) (fun c21 => ?_)
    refine am_aload_n 24 dX7_frame_24 rfl ?_
    refine am_dup 25 dX7_frame_25 rfl ?_
    refine am_getfield 26 dX7_frame_26 fX7_118 (by repeat (first | assumption | exact am_ue | refine am_un (by first | assumption | decide | omega) ?_)) rfl ?_
    refine am_iconst 29 (v := 1) dX7_frame_29 (by decide) ?_
    refine am_iadd 30 dX7_frame_30 ?_
    refine am_putfield 31 dX7_frame_31 pX7_118 (by repeat (first | assumption | exact am_ue | refine am_un (by first | assumption | decide | omega) ?_)) rfl rfl (Nat.le_of_ble_eq_true rfl) ?_
    refine am_goto 34 (tgt := 84) dX7_frame_34 rfl ?_
    generalize hf1 : va_up f p _ = f1
    have a1 : f1 p = .inr (7, m_pF p (z_d z) (z_lim z) (z_ta z) (z_th z + 1)) := by rw [← hf1]; exact am_ue
    have e1 : ∀ x, x ≠ p → f1 x = f x := fun x hx => by rw [← hf1, am_up_ne hx]
    clear hf1
    refine s_frTail a1 (h1.on fun x a b => e1 x (by omega)) (h2.on fun x a b => e1 x (by omega)) (h5.on fun x a b => e1 x (by omega)) fun f' u1 u2 u3 => ?_
    rw [hB] at u1 u2
    refine ⟨rfl, ⟨_, rfl⟩, ⟨((fun _ => 0, B, z_h z), z_K z, (z_be z, z_li z, z_ca z), (z_to z, z_A z, z_C z), (z_d z, z_lim z, z_ta z, z_th z + 1)), ⟨?_, u1, u2, ?_, ?_, ?_, h6.up, d1, d2, ?_, hh⟩, rfl, rfl, hB.symm, rfl, rfl, rfl, rfl, (y_frM_no (S := y_Z z) hle).symm⟩, fun x hx => ?_⟩
    · exact (u3 p (by omega)).trans a1
    · exact h3.on fun x a b => (u3 x (by omega)).trans (e1 x (by omega))
    · exact h4.on fun x a b => (u3 x (by omega)).trans (e1 x (by omega))
    · exact h5.on fun x a b => (u3 x (by omega)).trans (e1 x (by omega))
    · show z_be z ≤ 48 * (T + 1)
      omega
    · exact (u3 x (by omega)).trans (e1 x (by omega))
theorem y_wip_be {S : y_H} : ∀ k, y_be (y_it y_wip S k) = y_be S
  | 0 => rfl
  | k + 1 => by
    have ih := y_wip_be (S := S) k
    show y_be (y_wip (y_it y_wip S k) k) = _
    rw [← ih]
    generalize y_it y_wip S k = S1
    unfold y_wip
    split <;> rfl
theorem y_wip_none {S : y_H} : ∀ k j, j < k → (y_K (y_it y_wip S k) j).1 0 = 0
  | 0, _, h => absurd h (Nat.not_lt_zero _)
  | k + 1, j, h => by
    show (y_K (y_wip (y_it y_wip S k) k) j).1 0 = 0
    have ih := y_wip_none (S := S) k j
    generalize y_it y_wip S k = S1 at *
    unfold y_wip
    split
    · next h1 =>
      show (va_up (y_K S1) k (m_gone (y_K S1 k)) j).1 0 = 0
      by_cases e : j = k
      · rw [e, am_up_eq]
        rfl
      · rw [am_up_ne e]
        exact ih (by omega)
    · next h1 =>
      by_cases e : j = k
      · rw [e]
        exact Classical.byContradiction h1
      · exact ih (by omega)
set_option maxHeartbeats 8000000 in
theorem s_wipeY (hG : m_G f p T z) (hT : T ≤ 1000) : AM mX7_wipe 0 0 [.ref p] n f (fun o n' f' => ∃ W, y_it y_wip (y_Z z) 5 = W ∧ m_ask p T ((fun _ => 0, fun _ => z_h z, z_h z), y_K W, (y_be W, y_li W, y_ca W), (z_to z, z_A z, y_C W), z.2.2.2.2) n f (.int (nI (m_N (m_th (z_K z)) 5))) o n' f') := by
  obtain ⟨h0, h1, h2, h3, h4, h5, h6, h7⟩ := hG
  obtain ⟨d1, d2, hbe, hh⟩ := h7
  obtain ⟨pc, px, py, chn, hp, -⟩ := id h2
  have p0 := hp.1
  have h50 := h5.1
  show AW mX7_wipe 0 0 0 [some (.ref p), none] [] n f _
  refine am_aload_n 0 dX7_wipe_0 rfl ?_
  refine am_getfield 1 dX7_wipe_1 fX7_48 (by repeat (first | assumption | exact am_ue | refine am_un (by first | assumption | decide | omega) ?_)) rfl ?_
  refine am_V0 4 (mc' := 0) (ms' := 0) (rc := 0) (rs := 0) dX7_wipe_4 lX7_143 ⟨by decide, by decide⟩ (by repeat (first | assumption | exact am_ue | refine am_un (by first | assumption | decide | omega) ?_)) (Nat.le_of_ble_eq_true rfl) (Nat.le_of_ble_eq_true rfl) (s_countContacts h5) ?_
  refine am_is_ct ?_
  refine am_istore_n 7 dX7_wipe_7 (by decide) ?_
  refine am_aload_n 8 dX7_wipe_8 rfl ?_
  refine am_getfield 9 dX7_wipe_9 fX7_48 (by repeat (first | assumption | exact am_ue | refine am_un (by first | assumption | decide | omega) ?_)) rfl ?_
  refine am_V0 12 (mc' := 0) (ms' := 0) (rc := 0) (rs := 0) dX7_wipe_12 lX7_147 ⟨by decide, by decide⟩ (by repeat (first | assumption | exact am_ue | refine am_un (by first | assumption | decide | omega) ?_)) (Nat.le_of_ble_eq_true rfl) (Nat.le_of_ble_eq_true rfl) (s_cancelAllY (S := y_Z z) ⟨h5, h4, h6⟩ (by show z_be z < 2 ^ 31; omega) (by omega)) ?_
  rintro o n' f2 ⟨rfl, rfl, r123, e2⟩
  generalize hW : y_it y_wip (y_Z z) 5 = W at r123
  replace hW := And.intro hW trivial
  obtain ⟨r1, r2, r3⟩ := r123
  refine am_ctI ?_
  have j0 : f2 p = _ := (e2 p (by omega) (by omega)).trans h0
  have j1 := h1.on (f' := f2) (fun x a b => e2 x (by omega) (by omega))
  have j10 := j1.1
  have jp := hp.on (f' := f2) (fun x a b => e2 x (by omega) (by omega))
  have jp0 := jp.1
  refine am_aload_n 15 dX7_wipe_15 rfl ?_
  refine am_getfield 16 dX7_wipe_16 fX7_10 (by repeat (first | assumption | exact am_ue | refine am_un (by first | assumption | decide | omega) ?_)) rfl ?_
  refine am_V0 19 (mc' := 0) (ms' := 0) (rc := 0) (rs := 0) dX7_wipe_19 lX7_150 ⟨by decide, by decide⟩ (by repeat (first | assumption | exact am_ue | refine am_un (by first | assumption | decide | omega) ?_)) (Nat.le_of_ble_eq_true rfl) (Nat.le_of_ble_eq_true rfl) (s_baseOnHeat j1.1 j1.2.2 (by omega)) ?_
  refine am_is_ct ?_
  refine am_aload_n 22 dX7_wipe_22 rfl ?_
  refine am_getfield 23 dX7_wipe_23 fX7_10 (by repeat (first | assumption | exact am_ue | refine am_un (by first | assumption | decide | omega) ?_)) rfl ?_
  refine am_V0 26 (mc' := 0) (ms' := 0) (rc := 0) (rs := 0) dX7_wipe_26 lX7_140 ⟨by decide, by decide⟩ (by repeat (first | assumption | exact am_ue | refine am_un (by first | assumption | decide | omega) ?_)) (Nat.le_of_ble_eq_true rfl) (Nat.le_of_ble_eq_true rfl) (s_forgetWaits (am_un (by omega) j1.1) (am_un (by omega) j1.2.1) (by omega)) ?_
  refine am_is_ct ?_
  have g1 : m_Sh (va_up (va_up f2 (p + 1 + 2) (.inl (0, 48, .inl (fun _ => z_h z)))) (p + 1 + 1) (.inl (0, 48, .inl (fun _ => 0)))) (p + 1) (fun _ => 0) (fun _ => z_h z) (z_h z) := ⟨am_un (by omega) (am_un (by omega) j1.1), am_ue, am_un (by omega) am_ue⟩
  have g2 := jp.on (f' := va_up (va_up f2 (p + 1 + 2) (.inl (0, 48, .inl (fun _ => z_h z)))) (p + 1 + 1) (.inl (0, 48, .inl (fun _ => 0)))) fun x a b => by rw [am_up_ne (by omega), am_up_ne (by omega)]
  refine am_aload_n 29 dX7_wipe_29 rfl ?_
  refine am_getfield 30 dX7_wipe_30 fX7_19 (by repeat (first | assumption | exact am_ue | refine am_un (by first | assumption | decide | omega) ?_)) rfl ?_
  refine am_aload_n 33 dX7_wipe_33 rfl ?_
  refine am_getfield 34 dX7_wipe_34 fX7_10 (by repeat (first | assumption | exact am_ue | refine am_un (by first | assumption | decide | omega) ?_)) rfl ?_
  refine am_V1 37 (mc' := 0) (ms' := 0) (rc := 0) (rs := 0) dX7_wipe_37 lX7_87 ⟨by decide, by decide⟩ (by repeat (first | assumption | exact am_ue | refine am_un (by first | assumption | decide | omega) ?_)) (Nat.le_of_ble_eq_true rfl) (Nat.le_of_ble_eq_true rfl) (s_lookW (g2) (g1) (by omega)) ?_
  rintro o n' f1 ⟨rfl, rfl, hL1, e1⟩
  refine am_ctI ?_
  refine am_iload_n 40 dX7_wipe_40 rfl ?_
  refine am_ireturn 41 dX7_wipe_41 rfl rfl ?_
  have e3 : ∀ x, (x < p + 1 ∨ p + 10 < x) → f1 x = f2 x := fun x hx => (e1 x (by omega)).trans ((am_up_ne (by omega)).trans (am_up_ne (by omega)))
  exact ⟨W, rfl, rfl, rfl, ⟨(e3 p (by omega)).trans j0, g1.on fun x a b => e1 x (by omega), hL1, h3.on fun x a b => (e3 x (by omega)).trans (e2 x (by omega) (by omega)), r2.on fun x a b => e3 x (by omega), r1.on fun x a b => e3 x (by omega), r3, d1, d2, (by show y_be W ≤ 48 * T; rw [← hW.1, y_wip_be]; exact hbe), hh⟩, fun x hx => (e3 x (by omega)).trans (e2 x (by omega) (by omega))⟩
end CFrameY
