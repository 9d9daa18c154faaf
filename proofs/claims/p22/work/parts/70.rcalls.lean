/-! ===== the reference's calls in any state: dial, limit, heat, press, noise, wipe ===== -/
section RCalls
variable {G : Nat → m_K}
variable {m n sz : Nat} {f : Nat → am_C} {κ : Nat → Nat} {th h di li : Int32} {cs : Nat → Option Nat} {w b : Nat → Int32}
def r_sP (m n : Nat) (f : Nat → am_C) (κ : Nat → Nat) (sz : Nat) (G : Nat → m_K) (h di li : Int32) (cs : Nat → Option Nat) (w b : Nat → Int32) (V : Int32 → Option Value → Prop) : am_P := fun o n' f' => n ≤ n' ∧ ∃ th v, o = .inl v ∧ V th v ∧ r_M m n' f' κ sz G th h di li cs w b ∧ r_out9 m n κ κ f f'
def r_is (t : Int32) (x : Value) : Int32 → Option Value → Prop := fun th v => th = t ∧ v = some x
def r_vI : Int32 → Option Value → Prop := fun _ v => ∃ x, v = some (.int x)
def r_vD : Int32 → Option Value → Prop := fun _ v => ∃ x, v = some (.double x)
def r_vL : Int32 → Option Value → Prop := fun _ v => ∃ x, v = some (.long x)
theorem r_sP.mono {o : Option Value ⊕ Nat} {n' : Nat} {f' : Nat → am_C} {V V' : Int32 → Option Value → Prop} (hV : ∀ t v, V t v → V' t v) (a : r_sP m n f κ sz G h di li cs w b V o n' f') : r_sP m n f κ sz G h di li cs w b V' o n' f' := by
  obtain ⟨a1, t, v, a2, a3, a4⟩ := a
  exact ⟨a1, t, v, a2, hV t v a3, a4⟩
theorem s_rrefuse (bo : Bool) {wh : Int32} (hw : 0 < wh) (s : r_M m n f κ sz G 0 h di li cs w b) : AM mX12_refuse 0 0 [.ref m, .int (m_bi bo), .int wh] n f (fun o n' f' => o = .inl (some (.int (m_bi bo))) ∧ n = n' ∧ r_M m n f' κ sz G (if bo then wh else 0) h di li cs w b ∧ r_go m n κ κ f f') := by
  obtain ⟨⟨h0, -⟩, -⟩ := id s
  unfold r_m12 at h0
  show AW mX12_refuse 0 0 0 [some (.ref m), some (.int (m_bi bo)), some (.int wh)] [] n f _
  cases bo
  · refine am_iload_n 0 dX12_refuse_0 rfl ?_
    refine am_if_eq 1 16 dX12_refuse_1 rfl (fun c1 => ?_) (fun c1 => absurd (by decide) c1)
    refine am_aload_n 16 dX12_refuse_16 rfl ?_
    refine am_getfield 17 dX12_refuse_17 fX12_40 (by repeat (first | assumption | exact am_ue | refine am_un (by first | assumption | decide | omega) ?_)) rfl ?_
    refine am_if_le 20 27 dX12_refuse_20 rfl (fun c20 => ?_) (fun c20 => absurd (by decide) c20)
    refine am_iconst 27 (v := 0) dX12_refuse_27 (by decide) ?_
    refine am_ireturn 28 dX12_refuse_28 rfl rfl ?_
    exact ⟨rfl, rfl, s, r_go.refl⟩
  · obtain ⟨s1, g1⟩ := s.scal (th' := wh) (h' := h) (di' := di) (li' := li)
    unfold r_m12 at s1 g1
    refine am_iload_n 0 dX12_refuse_0 rfl ?_
    refine am_if_eq 1 16 dX12_refuse_1 rfl (fun c1 => absurd c1 (by decide)) (fun c1 => ?_)
    refine am_aload_n 4 dX12_refuse_4 rfl ?_
    refine am_getfield 5 dX12_refuse_5 fX12_40 (by repeat (first | assumption | exact am_ue | refine am_un (by first | assumption | decide | omega) ?_)) rfl ?_
    refine am_if_ne 8 16 dX12_refuse_8 rfl (fun c8 => absurd c8 (by decide)) (fun c8 => ?_)
    refine am_aload_n 11 dX12_refuse_11 rfl ?_
    refine am_iload_n 12 dX12_refuse_12 rfl ?_
    refine am_putfield 13 dX12_refuse_13 pX12_40 (by repeat (first | assumption | exact am_ue | refine am_un (by first | assumption | decide | omega) ?_)) rfl rfl (Nat.le_of_ble_eq_true rfl) ?_
    refine am_aload_n 16 dX12_refuse_16 rfl ?_
    refine am_getfield 17 dX12_refuse_17 fX12_40 (by repeat (first | assumption | exact am_ue | refine am_un (by first | assumption | decide | omega) ?_)) rfl ?_
    refine am_if_le 20 27 dX12_refuse_20 rfl (fun c20 => absurd c20 (Int32.not_le.mpr hw)) (fun c20 => ?_)
    refine am_iconst 23 (v := 1) dX12_refuse_23 (by decide) ?_
    refine am_goto 24 (tgt := 28) dX12_refuse_24 rfl ?_
    refine am_ireturn 28 dX12_refuse_28 rfl rfl ?_
    exact ⟨rfl, rfl, s1, g1⟩
theorem s_rstart (bo : Bool) {wh : Int32} (hw : 0 < wh) (s : r_M m n f κ sz G th h di li cs w b) : AM mX12_start 0 0 [.ref m, .int (m_bi bo), .int wh] n f (fun o n' f' => o = .inl (some (.int (m_bi bo))) ∧ n = n' ∧ r_M m n f' κ sz G (if bo then wh else 0) h di li cs w b ∧ r_go m n κ κ f f') := by
  obtain ⟨⟨h0, -⟩, -⟩ := id s
  obtain ⟨s1, g1⟩ := s.scal (th' := 0) (h' := h) (di' := di) (li' := li)
  have hr := s_rrefuse bo hw s1
  unfold r_m12 at h0 hr
  show AW mX12_start 0 0 0 [some (.ref m), some (.int (m_bi bo)), some (.int wh)] [] n f _
  refine am_aload_n 0 dX12_start_0 rfl ?_
  refine am_iconst 1 (v := 0) dX12_start_1 (by decide) ?_
  refine am_putfield 2 dX12_start_2 pX12_40 (by repeat (first | assumption | exact am_ue | refine am_un (by first | assumption | decide | omega) ?_)) rfl rfl (Nat.le_of_ble_eq_true rfl) ?_
  show AW mX12_start 0 0 5 [some (.ref m), some (.int (m_bi bo)), some (.int wh)] [] n (va_up f m (.inr (12, [.int 0, .ref (m + 1), .ref (m + 2), .int h, .int di, .int li, .ref (m + 3), .ref (m + 4), .int (r_n G 0), .int (r_n G 1), .int (r_n G 2), .int (r_n G 3), .int (r_n G 4)]))) _
  refine am_aload_n 5 dX12_start_5 rfl ?_
  refine am_iload_n 6 dX12_start_6 rfl ?_
  refine am_iload_n 7 dX12_start_7 rfl ?_
  refine am_V2 8 (mc' := 0) (ms' := 0) (rc := 0) (rs := 0) dX12_start_8 lX12_43 ⟨by decide, by decide⟩ am_ue (Nat.le_of_ble_eq_true rfl) (Nat.le_of_ble_eq_true rfl) (hr) ?_
  rintro o n' f1 ⟨rfl, rfl, s2, g2⟩
  refine am_ctI ?_
  refine am_ireturn 11 dX12_start_11 rfl (by cases bo <;> rfl) ?_
  exact ⟨rfl, rfl, s2, g1.trans g2 (Nat.le_refl _)⟩
theorem s_rdial_t {d : Int32} (s : r_M m n f κ sz G th h di li cs w b) (hd : 1 ≤ d ∧ d ≤ 4) : AM mX12_dial 0 0 [.ref m, .int d] n f (r_sP m n f κ sz G h d li cs w b (r_is 0 (.int di))) := by
  obtain ⟨⟨e0, -⟩, -⟩ := id s
  unfold r_m12 at e0
  show AW mX12_dial 0 0 0 [some (.ref m), some (.int d), none] [] n f _
  refine am_aload_n 0 dX12_dial_0 rfl ?_
  refine am_iload_n 1 dX12_dial_1 rfl ?_
  refine am_iconst 2 (v := 1) dX12_dial_2 (by decide) ?_
  refine am_iconst 3 (v := 4) dX12_dial_3 (by decide) ?_
  refine am_S3 4 (mc' := 0) (ms' := 0) (rc := 0) (rs := 0) dX12_dial_4 lX12_3 ⟨by decide, by decide⟩ (Nat.le_of_ble_eq_true rfl) (Nat.le_of_ble_eq_true rfl) (s_isIn_t hd.1 hd.2) ?_
  refine am_is_ct ?_
  refine am_if_ne 7 14 dX12_dial_7 rfl (fun c7 => ?_) (fun c7 => absurd c7 (by decide))
  refine am_iconst 14 (v := 0) dX12_dial_14 (by decide) ?_
  refine am_iconst 15 (v := 1) dX12_dial_15 (by decide) ?_
  refine am_V2 16 (mc' := 0) (ms' := 0) (rc := 0) (rs := 0) dX12_dial_16 lX12_59 ⟨by decide, by decide⟩ e0 (Nat.le_of_ble_eq_true rfl) (Nat.le_of_ble_eq_true rfl) (s_rstart false (by decide) s) ?_
  rintro o n' f1 ⟨rfl, rfl, s1, g1⟩
  refine am_ctI ?_
  obtain ⟨⟨e0x, ⟨e3x, ewx⟩, earx, etyx⟩, e1x, e2x⟩ := id s1
  unfold r_m12 at e0x
  refine am_if_eq 19 24 dX12_dial_19 rfl (fun c19 => ?_) (fun c19 => absurd (by decide) c19)
  refine am_aload_n 24 dX12_dial_24 rfl ?_
  refine am_getfield 25 dX12_dial_25 fX12_20 (by repeat (first | assumption | exact am_ue | refine am_un (by first | assumption | decide | omega) ?_)) rfl ?_
  refine am_istore_n 28 dX12_dial_28 (by decide) ?_
  refine am_aload_n 29 dX12_dial_29 rfl ?_
  refine am_iload_n 30 dX12_dial_30 rfl ?_
  refine am_putfield 31 dX12_dial_31 pX12_20 (by repeat (first | assumption | exact am_ue | refine am_un (by first | assumption | decide | omega) ?_)) rfl rfl (Nat.le_of_ble_eq_true rfl) ?_
  refine am_iload_n 34 dX12_dial_34 rfl ?_
  refine am_ireturn 35 dX12_dial_35 rfl rfl ?_
  obtain ⟨s2, g2⟩ := s1.scal (th' := 0) (h' := h) (di' := d) (li' := li)
  exact ⟨Nat.le_refl _, _, _, rfl, ⟨rfl, rfl⟩, s2, (g1.trans g2 (Nat.le_refl _)).out⟩
theorem s_rdial_f {d : Int32} (s : r_M m n f κ sz G th h di li cs w b) (hd : ¬ (1 ≤ d ∧ d ≤ 4)) : AM mX12_dial 0 0 [.ref m, .int d] n f (r_sP m n f κ sz G h di li cs w b (r_is 1 (.int 0))) := by
  obtain ⟨⟨e0, -⟩, -⟩ := id s
  unfold r_m12 at e0
  show AW mX12_dial 0 0 0 [some (.ref m), some (.int d), none] [] n f _
  refine am_aload_n 0 dX12_dial_0 rfl ?_
  refine am_iload_n 1 dX12_dial_1 rfl ?_
  refine am_iconst 2 (v := 1) dX12_dial_2 (by decide) ?_
  refine am_iconst 3 (v := 4) dX12_dial_3 (by decide) ?_
  refine am_S3 4 (mc' := 0) (ms' := 0) (rc := 0) (rs := 0) dX12_dial_4 lX12_3 ⟨by decide, by decide⟩ (Nat.le_of_ble_eq_true rfl) (Nat.le_of_ble_eq_true rfl) (s_isIn_f hd) ?_
  refine am_is_ct ?_
  refine am_if_ne 7 14 dX12_dial_7 rfl (fun c7 => absurd c7 (by decide)) (fun c7 => ?_)
  refine am_iconst 10 (v := 1) dX12_dial_10 (by decide) ?_
  refine am_goto 11 (tgt := 15) dX12_dial_11 rfl ?_
  refine am_iconst 15 (v := 1) dX12_dial_15 (by decide) ?_
  refine am_V2 16 (mc' := 0) (ms' := 0) (rc := 0) (rs := 0) dX12_dial_16 lX12_59 ⟨by decide, by decide⟩ e0 (Nat.le_of_ble_eq_true rfl) (Nat.le_of_ble_eq_true rfl) (s_rstart true (by decide) s) ?_
  rintro o n' f1 ⟨rfl, rfl, s1, g1⟩
  refine am_ctI ?_
  obtain ⟨⟨e0x, ⟨e3x, ewx⟩, earx, etyx⟩, e1x, e2x⟩ := id s1
  unfold r_m12 at e0x
  refine am_if_eq 19 24 dX12_dial_19 rfl (fun c19 => absurd c19 (by decide)) (fun c19 => ?_)
  refine am_iconst 22 (v := 0) dX12_dial_22 (by decide) ?_
  refine am_ireturn 23 dX12_dial_23 rfl rfl ?_
  exact ⟨Nat.le_refl _, _, _, rfl, ⟨rfl, rfl⟩, s1, g1.out⟩
theorem s_rlimit_t {d : Int32} (s : r_M m n f κ sz G th h di li cs w b) (hd : 1 ≤ d ∧ d ≤ 30) : AM mX12_limit 0 0 [.ref m, .int d] n f (r_sP m n f κ sz G h di d cs w b (r_is 0 (.int li))) := by
  obtain ⟨⟨e0, -⟩, -⟩ := id s
  unfold r_m12 at e0
  show AW mX12_limit 0 0 0 [some (.ref m), some (.int d), none] [] n f _
  refine am_aload_n 0 dX12_limit_0 rfl ?_
  refine am_iload_n 1 dX12_limit_1 rfl ?_
  refine am_iconst 2 (v := 1) dX12_limit_2 (by decide) ?_
  refine am_bipush 3 (v := 30) dX12_limit_3 (by decide) ?_
  refine am_S3 5 (mc' := 0) (ms' := 0) (rc := 0) (rs := 0) dX12_limit_5 lX12_3 ⟨by decide, by decide⟩ (Nat.le_of_ble_eq_true rfl) (Nat.le_of_ble_eq_true rfl) (s_isIn_t hd.1 hd.2) ?_
  refine am_is_ct ?_
  refine am_if_ne 8 15 dX12_limit_8 rfl (fun c8 => ?_) (fun c8 => absurd c8 (by decide))
  refine am_iconst 15 (v := 0) dX12_limit_15 (by decide) ?_
  refine am_iconst 16 (v := 1) dX12_limit_16 (by decide) ?_
  refine am_V2 17 (mc' := 0) (ms' := 0) (rc := 0) (rs := 0) dX12_limit_17 lX12_59 ⟨by decide, by decide⟩ e0 (Nat.le_of_ble_eq_true rfl) (Nat.le_of_ble_eq_true rfl) (s_rstart false (by decide) s) ?_
  rintro o n' f1 ⟨rfl, rfl, s1, g1⟩
  refine am_ctI ?_
  obtain ⟨⟨e0x, ⟨e3x, ewx⟩, earx, etyx⟩, e1x, e2x⟩ := id s1
  unfold r_m12 at e0x
  refine am_if_eq 20 25 dX12_limit_20 rfl (fun c20 => ?_) (fun c20 => absurd (by decide) c20)
  refine am_aload_n 25 dX12_limit_25 rfl ?_
  refine am_getfield 26 dX12_limit_26 fX12_24 (by repeat (first | assumption | exact am_ue | refine am_un (by first | assumption | decide | omega) ?_)) rfl ?_
  refine am_istore_n 29 dX12_limit_29 (by decide) ?_
  refine am_aload_n 30 dX12_limit_30 rfl ?_
  refine am_iload_n 31 dX12_limit_31 rfl ?_
  refine am_putfield 32 dX12_limit_32 pX12_24 (by repeat (first | assumption | exact am_ue | refine am_un (by first | assumption | decide | omega) ?_)) rfl rfl (Nat.le_of_ble_eq_true rfl) ?_
  refine am_iload_n 35 dX12_limit_35 rfl ?_
  refine am_ireturn 36 dX12_limit_36 rfl rfl ?_
  obtain ⟨s2, g2⟩ := s1.scal (th' := 0) (h' := h) (di' := di) (li' := d)
  exact ⟨Nat.le_refl _, _, _, rfl, ⟨rfl, rfl⟩, s2, (g1.trans g2 (Nat.le_refl _)).out⟩
theorem s_rlimit_f {d : Int32} (s : r_M m n f κ sz G th h di li cs w b) (hd : ¬ (1 ≤ d ∧ d ≤ 30)) : AM mX12_limit 0 0 [.ref m, .int d] n f (r_sP m n f κ sz G h di li cs w b (r_is 1 (.int 0))) := by
  obtain ⟨⟨e0, -⟩, -⟩ := id s
  unfold r_m12 at e0
  show AW mX12_limit 0 0 0 [some (.ref m), some (.int d), none] [] n f _
  refine am_aload_n 0 dX12_limit_0 rfl ?_
  refine am_iload_n 1 dX12_limit_1 rfl ?_
  refine am_iconst 2 (v := 1) dX12_limit_2 (by decide) ?_
  refine am_bipush 3 (v := 30) dX12_limit_3 (by decide) ?_
  refine am_S3 5 (mc' := 0) (ms' := 0) (rc := 0) (rs := 0) dX12_limit_5 lX12_3 ⟨by decide, by decide⟩ (Nat.le_of_ble_eq_true rfl) (Nat.le_of_ble_eq_true rfl) (s_isIn_f hd) ?_
  refine am_is_ct ?_
  refine am_if_ne 8 15 dX12_limit_8 rfl (fun c8 => absurd c8 (by decide)) (fun c8 => ?_)
  refine am_iconst 11 (v := 1) dX12_limit_11 (by decide) ?_
  refine am_goto 12 (tgt := 16) dX12_limit_12 rfl ?_
  refine am_iconst 16 (v := 1) dX12_limit_16 (by decide) ?_
  refine am_V2 17 (mc' := 0) (ms' := 0) (rc := 0) (rs := 0) dX12_limit_17 lX12_59 ⟨by decide, by decide⟩ e0 (Nat.le_of_ble_eq_true rfl) (Nat.le_of_ble_eq_true rfl) (s_rstart true (by decide) s) ?_
  rintro o n' f1 ⟨rfl, rfl, s1, g1⟩
  refine am_ctI ?_
  obtain ⟨⟨e0x, ⟨e3x, ewx⟩, earx, etyx⟩, e1x, e2x⟩ := id s1
  unfold r_m12 at e0x
  refine am_if_eq 20 25 dX12_limit_20 rfl (fun c20 => absurd c20 (by decide)) (fun c20 => ?_)
  refine am_iconst 23 (v := 0) dX12_limit_23 (by decide) ?_
  refine am_ireturn 24 dX12_limit_24 rfl rfl ?_
  exact ⟨Nat.le_refl _, _, _, rfl, ⟨rfl, rfl⟩, s1, g1.out⟩
theorem s_rheat_t {d : Int32} (s : r_M m n f κ sz G th h di li cs w b) (hd : -30 ≤ d ∧ d ≤ 30) : AM mX12_heat 0 0 [.ref m, .int d] n f (r_sP m n f κ sz G d di li cs w b (r_is 0 (.int h))) := by
  obtain ⟨⟨e0, -⟩, -⟩ := id s
  unfold r_m12 at e0
  show AW mX12_heat 0 0 0 [some (.ref m), some (.int d), none] [] n f _
  refine am_aload_n 0 dX12_heat_0 rfl ?_
  refine am_iload_n 1 dX12_heat_1 rfl ?_
  refine am_bipush 2 (v := (-30)) dX12_heat_2 (by decide) ?_
  refine am_bipush 4 (v := 30) dX12_heat_4 (by decide) ?_
  refine am_S3 6 (mc' := 0) (ms' := 0) (rc := 0) (rs := 0) dX12_heat_6 lX12_3 ⟨by decide, by decide⟩ (Nat.le_of_ble_eq_true rfl) (Nat.le_of_ble_eq_true rfl) (s_isIn_t hd.1 hd.2) ?_
  refine am_is_ct ?_
  refine am_if_ne 9 16 dX12_heat_9 rfl (fun c9 => ?_) (fun c9 => absurd c9 (by decide))
  refine am_iconst 16 (v := 0) dX12_heat_16 (by decide) ?_
  refine am_iconst 17 (v := 1) dX12_heat_17 (by decide) ?_
  refine am_V2 18 (mc' := 0) (ms' := 0) (rc := 0) (rs := 0) dX12_heat_18 lX12_59 ⟨by decide, by decide⟩ e0 (Nat.le_of_ble_eq_true rfl) (Nat.le_of_ble_eq_true rfl) (s_rstart false (by decide) s) ?_
  rintro o n' f1 ⟨rfl, rfl, s1, g1⟩
  refine am_ctI ?_
  obtain ⟨⟨e0x, ⟨e3x, ewx⟩, earx, etyx⟩, e1x, e2x⟩ := id s1
  unfold r_m12 at e0x
  refine am_if_eq 21 26 dX12_heat_21 rfl (fun c21 => ?_) (fun c21 => absurd (by decide) c21)
  refine am_aload_n 26 dX12_heat_26 rfl ?_
  refine am_getfield 27 dX12_heat_27 fX12_47 (by repeat (first | assumption | exact am_ue | refine am_un (by first | assumption | decide | omega) ?_)) rfl ?_
  refine am_istore_n 30 dX12_heat_30 (by decide) ?_
  refine am_aload_n 31 dX12_heat_31 rfl ?_
  refine am_iload_n 32 dX12_heat_32 rfl ?_
  refine am_putfield 33 dX12_heat_33 pX12_47 (by repeat (first | assumption | exact am_ue | refine am_un (by first | assumption | decide | omega) ?_)) rfl rfl (Nat.le_of_ble_eq_true rfl) ?_
  refine am_iload_n 36 dX12_heat_36 rfl ?_
  refine am_ireturn 37 dX12_heat_37 rfl rfl ?_
  obtain ⟨s2, g2⟩ := s1.scal (th' := 0) (h' := d) (di' := di) (li' := li)
  exact ⟨Nat.le_refl _, _, _, rfl, ⟨rfl, rfl⟩, s2, (g1.trans g2 (Nat.le_refl _)).out⟩
theorem s_rheat_f {d : Int32} (s : r_M m n f κ sz G th h di li cs w b) (hd : ¬ (-30 ≤ d ∧ d ≤ 30)) : AM mX12_heat 0 0 [.ref m, .int d] n f (r_sP m n f κ sz G h di li cs w b (r_is 1 (.int 0))) := by
  obtain ⟨⟨e0, -⟩, -⟩ := id s
  unfold r_m12 at e0
  show AW mX12_heat 0 0 0 [some (.ref m), some (.int d), none] [] n f _
  refine am_aload_n 0 dX12_heat_0 rfl ?_
  refine am_iload_n 1 dX12_heat_1 rfl ?_
  refine am_bipush 2 (v := (-30)) dX12_heat_2 (by decide) ?_
  refine am_bipush 4 (v := 30) dX12_heat_4 (by decide) ?_
  refine am_S3 6 (mc' := 0) (ms' := 0) (rc := 0) (rs := 0) dX12_heat_6 lX12_3 ⟨by decide, by decide⟩ (Nat.le_of_ble_eq_true rfl) (Nat.le_of_ble_eq_true rfl) (s_isIn_f hd) ?_
  refine am_is_ct ?_
  refine am_if_ne 9 16 dX12_heat_9 rfl (fun c9 => absurd c9 (by decide)) (fun c9 => ?_)
  refine am_iconst 12 (v := 1) dX12_heat_12 (by decide) ?_
  refine am_goto 13 (tgt := 17) dX12_heat_13 rfl ?_
  refine am_iconst 17 (v := 1) dX12_heat_17 (by decide) ?_
  refine am_V2 18 (mc' := 0) (ms' := 0) (rc := 0) (rs := 0) dX12_heat_18 lX12_59 ⟨by decide, by decide⟩ e0 (Nat.le_of_ble_eq_true rfl) (Nat.le_of_ble_eq_true rfl) (s_rstart true (by decide) s) ?_
  rintro o n' f1 ⟨rfl, rfl, s1, g1⟩
  refine am_ctI ?_
  obtain ⟨⟨e0x, ⟨e3x, ewx⟩, earx, etyx⟩, e1x, e2x⟩ := id s1
  unfold r_m12 at e0x
  refine am_if_eq 21 26 dX12_heat_21 rfl (fun c21 => absurd c21 (by decide)) (fun c21 => ?_)
  refine am_iconst 24 (v := 0) dX12_heat_24 (by decide) ?_
  refine am_ireturn 25 dX12_heat_25 rfl rfl ?_
  exact ⟨Nat.le_refl _, _, _, rfl, ⟨rfl, rfl⟩, s1, g1.out⟩
/-- one place's cell, or off the glass -/
theorem r_glass (x y : Int32) : (∃ a c : Nat, a < 8 ∧ c < 6 ∧ x = nI a ∧ y = nI c) ∨ (x < 0 ∨ 8 ≤ x ∨ y < 0 ∨ 6 ≤ y) := by
  by_cases h1 : x < 0
  · exact Or.inr (Or.inl h1)
  by_cases h2 : 8 ≤ x
  · exact Or.inr (Or.inr (Or.inl h2))
  by_cases h3 : y < 0
  · exact Or.inr (Or.inr (Or.inr (Or.inl h3)))
  by_cases h4 : 6 ≤ y
  · exact Or.inr (Or.inr (Or.inr (Or.inr h4)))
  obtain ⟨a, ha, rfl⟩ := m_small 8 rfl (by decide) h1 h2
  obtain ⟨c, hc, rfl⟩ := m_small 6 rfl (by decide) h3 h4
  exact Or.inl ⟨a, c, ha, hc, rfl, rfl⟩
theorem s_rpress_t {x y : Nat} {d : Int32} (s : r_M m n f κ sz G th h di li cs w b) (hx : x < 8) (hy : y < 6) (hd : 1 ≤ d ∧ d ≤ 200) : AM mX12_press 0 0 [.ref m, .int (nI x), .int (nI y), .int d] n f (r_sP m n f κ sz G h di li cs (m_press w d x y) b (r_is 0 (.int (h + m_press w d x y (8 * y + x) - b (8 * y + x))))) := by
  obtain ⟨⟨e0, -⟩, -⟩ := id s
  unfold r_m12 at e0
  have hc : 8 * y + x < 48 := by omega
  show AW mX12_press 0 0 0 [some (.ref m), some (.int (nI x)), some (.int (nI y)), some (.int d)] [] n f _
  refine am_aload_n 0 dX12_press_0 rfl ?_
  refine am_iload_n 1 dX12_press_1 rfl ?_
  refine am_iload_n 2 dX12_press_2 rfl ?_
  refine am_S2 3 (mc' := 0) (ms' := 0) (rc := 0) (rs := 0) dX12_press_3 lX12_75 ⟨by decide, by decide⟩ (Nat.le_of_ble_eq_true rfl) (Nat.le_of_ble_eq_true rfl) (s_isGlass_t hx hy) ?_
  refine am_is_ct ?_
  refine am_if_ne 6 13 dX12_press_6 rfl (fun c6 => ?_) (fun c6 => absurd c6 (by decide))
  refine am_iconst 13 (v := 0) dX12_press_13 (by decide) ?_
  refine am_iconst 14 (v := 1) dX12_press_14 (by decide) ?_
  refine am_V2 15 (mc' := 0) (ms' := 0) (rc := 0) (rs := 0) dX12_press_15 lX12_59 ⟨by decide, by decide⟩ e0 (Nat.le_of_ble_eq_true rfl) (Nat.le_of_ble_eq_true rfl) (s_rstart false (by decide) s) ?_
  rintro o n' f1 ⟨rfl, rfl, s1, g1⟩
  refine am_ctI ?_
  obtain ⟨⟨e0x, ⟨e3x, ewx⟩, earx, etyx⟩, e1x, e2x⟩ := id s1
  unfold r_m12 at e0x
  refine am_if_ne 18 45 dX12_press_18 rfl (fun c18 => absurd c18 (by decide)) (fun c18 => ?_)
  refine am_aload_n 21 dX12_press_21 rfl ?_
  refine am_iload_n 22 dX12_press_22 rfl ?_
  refine am_iconst 23 (v := 1) dX12_press_23 (by decide) ?_
  refine am_sipush 24 (v := 200) dX12_press_24 (by decide) ?_
  refine am_S3 27 (mc' := 0) (ms' := 0) (rc := 0) (rs := 0) dX12_press_27 lX12_3 ⟨by decide, by decide⟩ (Nat.le_of_ble_eq_true rfl) (Nat.le_of_ble_eq_true rfl) (s_isIn_t hd.1 hd.2) ?_
  refine am_is_ct ?_
  refine am_if_ne 30 37 dX12_press_30 rfl (fun c30 => ?_) (fun c30 => absurd c30 (by decide))
  refine am_iconst 37 (v := 0) dX12_press_37 (by decide) ?_
  refine am_iconst 38 (v := 2) dX12_press_38 (by decide) ?_
  refine am_V2 39 (mc' := 0) (ms' := 0) (rc := 0) (rs := 0) dX12_press_39 lX12_43 ⟨by decide, by decide⟩ e0x (Nat.le_of_ble_eq_true rfl) (Nat.le_of_ble_eq_true rfl) (s_rrefuse false (by decide) s1) ?_
  rintro o n' f2 ⟨rfl, rfl, s2, g2⟩
  refine am_ctI ?_
  obtain ⟨⟨e0y, ⟨e3y, ewy⟩, eary, etyy⟩, e1y, e2y⟩ := id s2
  unfold r_m12 at e0y
  refine am_if_eq 42 47 dX12_press_42 rfl (fun c42 => ?_) (fun c42 => absurd (by decide) c42)
  refine am_aload_n 47 dX12_press_47 rfl ?_
  refine am_iload_n 48 dX12_press_48 rfl ?_
  refine am_iload_n 49 dX12_press_49 rfl ?_
  refine am_iload_n 50 dX12_press_50 rfl ?_
  refine am_iconst 51 (v := 1) dX12_press_51 (by decide) ?_
  refine am_V4 52 (mc' := 0) (ms' := 0) (rc := 0) (rs := 0) dX12_press_52 lX12_89 ⟨by decide, by decide⟩ e0y (Nat.le_of_ble_eq_true rfl) (Nat.le_of_ble_eq_true rfl) (s_pressed (s := d) (σ := 1) e0y e2y hx hy) ?_
  rintro o n' f3 ⟨rfl, rfl, rfl⟩
  rw [r_prT_end]
  refine am_ctI ?_
  refine am_aload_n 55 dX12_press_55 rfl ?_
  refine am_getfield 56 dX12_press_56 fX12_47 (by repeat (first | assumption | exact am_ue | refine am_un (by first | assumption | decide | omega) ?_)) rfl ?_
  refine am_aload_n 59 dX12_press_59 rfl ?_
  refine am_getfield 60 dX12_press_60 fX12_17 (by repeat (first | assumption | exact am_ue | refine am_un (by first | assumption | decide | omega) ?_)) rfl ?_
  refine am_iload_n 63 dX12_press_63 rfl ?_
  refine am_iload_n 64 dX12_press_64 rfl ?_
  refine am_S2 65 (mc' := 0) (ms' := 0) (rc := 0) (rs := 0) dX12_press_65 lX12_79 ⟨by decide, by decide⟩ (Nat.le_of_ble_eq_true rfl) (Nat.le_of_ble_eq_true rfl) (s_cell) ?_
  refine am_is_ct ?_
  refine am_iaload 68 dX12_press_68 rfl (by repeat (first | assumption | exact am_ue | refine am_un (by first | assumption | decide | omega) ?_)) (am_ix hc (by decide)) ?_
  rw [nI_clamp (n := 8 * y + x) (by omega)]
  refine am_iadd 69 dX12_press_69 ?_
  refine am_aload_n 70 dX12_press_70 rfl ?_
  refine am_getfield 71 dX12_press_71 fX12_13 (by repeat (first | assumption | exact am_ue | refine am_un (by first | assumption | decide | omega) ?_)) rfl ?_
  refine am_iload_n 74 dX12_press_74 rfl ?_
  refine am_iload_n 75 dX12_press_75 rfl ?_
  refine am_S2 76 (mc' := 0) (ms' := 0) (rc := 0) (rs := 0) dX12_press_76 lX12_79 ⟨by decide, by decide⟩ (Nat.le_of_ble_eq_true rfl) (Nat.le_of_ble_eq_true rfl) (s_cell) ?_
  refine am_is_ct ?_
  refine am_iaload 79 dX12_press_79 rfl (by repeat (first | assumption | exact am_ue | refine am_un (by first | assumption | decide | omega) ?_)) (am_ix hc (by decide)) ?_
  rw [nI_clamp (n := 8 * y + x) (by omega)]
  refine am_isub 80 dX12_press_80 ?_
  refine am_ireturn 81 dX12_press_81 rfl rfl ?_
  obtain ⟨s3, g3⟩ := s2.arr (f' := va_up f2 (m + 2) (.inl (0, 48, .inl (m_press w d x y)))) (w' := m_press w d x y) (b' := b) (fun x h1 h2 => am_up_ne h2) (am_un (by omega) e1y) am_ue
  exact ⟨Nat.le_refl _, _, _, rfl, ⟨rfl, rfl⟩, s3, (g1.trans g2 (Nat.le_refl _)).out.trans g3 (Nat.le_refl _)⟩
theorem s_rpress_f {x y d : Int32} (s : r_M m n f κ sz G th h di li cs w b) (hx : x < 0 ∨ 8 ≤ x ∨ y < 0 ∨ 6 ≤ y) : AM mX12_press 0 0 [.ref m, .int x, .int y, .int d] n f (r_sP m n f κ sz G h di li cs w b (r_is 1 (.int 0))) := by
  obtain ⟨⟨e0, -⟩, -⟩ := id s
  unfold r_m12 at e0
  show AW mX12_press 0 0 0 [some (.ref m), some (.int x), some (.int y), some (.int d)] [] n f _
  refine am_aload_n 0 dX12_press_0 rfl ?_
  refine am_iload_n 1 dX12_press_1 rfl ?_
  refine am_iload_n 2 dX12_press_2 rfl ?_
  refine am_S2 3 (mc' := 0) (ms' := 0) (rc := 0) (rs := 0) dX12_press_3 lX12_75 ⟨by decide, by decide⟩ (Nat.le_of_ble_eq_true rfl) (Nat.le_of_ble_eq_true rfl) (s_isGlass_f hx) ?_
  refine am_is_ct ?_
  refine am_if_ne 6 13 dX12_press_6 rfl (fun c6 => absurd c6 (by decide)) (fun c6 => ?_)
  refine am_iconst 9 (v := 1) dX12_press_9 (by decide) ?_
  refine am_goto 10 (tgt := 14) dX12_press_10 rfl ?_
  refine am_iconst 14 (v := 1) dX12_press_14 (by decide) ?_
  refine am_V2 15 (mc' := 0) (ms' := 0) (rc := 0) (rs := 0) dX12_press_15 lX12_59 ⟨by decide, by decide⟩ e0 (Nat.le_of_ble_eq_true rfl) (Nat.le_of_ble_eq_true rfl) (s_rstart true (by decide) s) ?_
  rintro o n' f1 ⟨rfl, rfl, s1, g1⟩
  refine am_ctI ?_
  obtain ⟨⟨e0x, ⟨e3x, ewx⟩, earx, etyx⟩, e1x, e2x⟩ := id s1
  unfold r_m12 at e0x
  refine am_if_ne 18 45 dX12_press_18 rfl (fun c18 => ?_) (fun c18 => absurd c18 (by decide))
  refine am_iconst 45 (v := 0) dX12_press_45 (by decide) ?_
  refine am_ireturn 46 dX12_press_46 rfl rfl ?_
  exact ⟨Nat.le_refl _, _, _, rfl, ⟨rfl, rfl⟩, s1, g1.out⟩
theorem s_rpress_g {x y : Nat} {d : Int32} (s : r_M m n f κ sz G th h di li cs w b) (hx : x < 8) (hy : y < 6) (hd : ¬ (1 ≤ d ∧ d ≤ 200)) : AM mX12_press 0 0 [.ref m, .int (nI x), .int (nI y), .int d] n f (r_sP m n f κ sz G h di li cs w b (r_is 2 (.int 0))) := by
  obtain ⟨⟨e0, -⟩, -⟩ := id s
  unfold r_m12 at e0
  show AW mX12_press 0 0 0 [some (.ref m), some (.int (nI x)), some (.int (nI y)), some (.int d)] [] n f _
  refine am_aload_n 0 dX12_press_0 rfl ?_
  refine am_iload_n 1 dX12_press_1 rfl ?_
  refine am_iload_n 2 dX12_press_2 rfl ?_
  refine am_S2 3 (mc' := 0) (ms' := 0) (rc := 0) (rs := 0) dX12_press_3 lX12_75 ⟨by decide, by decide⟩ (Nat.le_of_ble_eq_true rfl) (Nat.le_of_ble_eq_true rfl) (s_isGlass_t hx hy) ?_
  refine am_is_ct ?_
  refine am_if_ne 6 13 dX12_press_6 rfl (fun c6 => ?_) (fun c6 => absurd c6 (by decide))
  refine am_iconst 13 (v := 0) dX12_press_13 (by decide) ?_
  refine am_iconst 14 (v := 1) dX12_press_14 (by decide) ?_
  refine am_V2 15 (mc' := 0) (ms' := 0) (rc := 0) (rs := 0) dX12_press_15 lX12_59 ⟨by decide, by decide⟩ e0 (Nat.le_of_ble_eq_true rfl) (Nat.le_of_ble_eq_true rfl) (s_rstart false (by decide) s) ?_
  rintro o n' f1 ⟨rfl, rfl, s1, g1⟩
  refine am_ctI ?_
  obtain ⟨⟨e0x, ⟨e3x, ewx⟩, earx, etyx⟩, e1x, e2x⟩ := id s1
  unfold r_m12 at e0x
  refine am_if_ne 18 45 dX12_press_18 rfl (fun c18 => absurd c18 (by decide)) (fun c18 => ?_)
  refine am_aload_n 21 dX12_press_21 rfl ?_
  refine am_iload_n 22 dX12_press_22 rfl ?_
  refine am_iconst 23 (v := 1) dX12_press_23 (by decide) ?_
  refine am_sipush 24 (v := 200) dX12_press_24 (by decide) ?_
  refine am_S3 27 (mc' := 0) (ms' := 0) (rc := 0) (rs := 0) dX12_press_27 lX12_3 ⟨by decide, by decide⟩ (Nat.le_of_ble_eq_true rfl) (Nat.le_of_ble_eq_true rfl) (s_isIn_f hd) ?_
  refine am_is_ct ?_
  refine am_if_ne 30 37 dX12_press_30 rfl (fun c30 => absurd c30 (by decide)) (fun c30 => ?_)
  refine am_iconst 33 (v := 1) dX12_press_33 (by decide) ?_
  refine am_goto 34 (tgt := 38) dX12_press_34 rfl ?_
  refine am_iconst 38 (v := 2) dX12_press_38 (by decide) ?_
  refine am_V2 39 (mc' := 0) (ms' := 0) (rc := 0) (rs := 0) dX12_press_39 lX12_43 ⟨by decide, by decide⟩ e0x (Nat.le_of_ble_eq_true rfl) (Nat.le_of_ble_eq_true rfl) (s_rrefuse true (by decide) s1) ?_
  rintro o n' f2 ⟨rfl, rfl, s2, g2⟩
  refine am_ctI ?_
  obtain ⟨⟨e0y, ⟨e3y, ewy⟩, eary, etyy⟩, e1y, e2y⟩ := id s2
  unfold r_m12 at e0y
  refine am_if_eq 42 47 dX12_press_42 rfl (fun c42 => absurd c42 (by decide)) (fun c42 => ?_)
  refine am_iconst 45 (v := 0) dX12_press_45 (by decide) ?_
  refine am_ireturn 46 dX12_press_46 rfl rfl ?_
  exact ⟨Nat.le_refl _, _, _, rfl, ⟨rfl, rfl⟩, s2, (g1.trans g2 (Nat.le_refl _)).out⟩
theorem s_rnoise_f {y u : Int32} (s : r_M m n f κ sz G th h di li cs w b) (hy : ¬ (0 ≤ y ∧ y ≤ 5)) : AM mX12_noise 0 0 [.ref m, .int y, .int u] n f (r_sP m n f κ sz G h di li cs w b (r_is 1 (.int 0))) := by
  obtain ⟨⟨e0, -⟩, -⟩ := id s
  unfold r_m12 at e0
  show AW mX12_noise 0 0 0 [some (.ref m), some (.int y), some (.int u), none] [] n f _
  refine am_aload_n 0 dX12_noise_0 rfl ?_
  refine am_iload_n 1 dX12_noise_1 rfl ?_
  refine am_iconst 2 (v := 0) dX12_noise_2 (by decide) ?_
  refine am_iconst 3 (v := 5) dX12_noise_3 (by decide) ?_
  refine am_S3 4 (mc' := 0) (ms' := 0) (rc := 0) (rs := 0) dX12_noise_4 lX12_3 ⟨by decide, by decide⟩ (Nat.le_of_ble_eq_true rfl) (Nat.le_of_ble_eq_true rfl) (s_isIn_f hy) ?_
  refine am_is_ct ?_
  refine am_if_ne 7 14 dX12_noise_7 rfl (fun c7 => absurd c7 (by decide)) (fun c7 => ?_)
  refine am_iconst 10 (v := 1) dX12_noise_10 (by decide) ?_
  refine am_goto 11 (tgt := 15) dX12_noise_11 rfl ?_
  refine am_iconst 15 (v := 1) dX12_noise_15 (by decide) ?_
  refine am_V2 16 (mc' := 0) (ms' := 0) (rc := 0) (rs := 0) dX12_noise_16 lX12_59 ⟨by decide, by decide⟩ e0 (Nat.le_of_ble_eq_true rfl) (Nat.le_of_ble_eq_true rfl) (s_rstart true (by decide) s) ?_
  rintro o n' f1 ⟨rfl, rfl, s1, g1⟩
  refine am_ctI ?_
  obtain ⟨⟨e0x, ⟨e3x, ewx⟩, earx, etyx⟩, e1x, e2x⟩ := id s1
  unfold r_m12 at e0x
  refine am_if_ne 19 46 dX12_noise_19 rfl (fun c19 => ?_) (fun c19 => absurd c19 (by decide))
  refine am_iconst 46 (v := 0) dX12_noise_46 (by decide) ?_
  refine am_ireturn 47 dX12_noise_47 rfl rfl ?_
  exact ⟨Nat.le_refl _, _, _, rfl, ⟨rfl, rfl⟩, s1, g1.out⟩
theorem s_rnoise_g {y : Nat} {u : Int32} (s : r_M m n f κ sz G th h di li cs w b) (hy : y < 6) (hu : ¬ (-40 ≤ u ∧ u ≤ 40)) : AM mX12_noise 0 0 [.ref m, .int (nI y), .int u] n f (r_sP m n f κ sz G h di li cs w b (r_is 2 (.int 0))) := by
  obtain ⟨⟨e0, -⟩, -⟩ := id s
  unfold r_m12 at e0
  have h5 : (0 : Int32) ≤ nI y ∧ nI y ≤ 5 := ⟨m_nI0 (by omega), (r_leP 5 rfl rfl (by decide)).mpr (nI_ge hy (by decide))⟩
  show AW mX12_noise 0 0 0 [some (.ref m), some (.int (nI y)), some (.int u), none] [] n f _
  refine am_aload_n 0 dX12_noise_0 rfl ?_
  refine am_iload_n 1 dX12_noise_1 rfl ?_
  refine am_iconst 2 (v := 0) dX12_noise_2 (by decide) ?_
  refine am_iconst 3 (v := 5) dX12_noise_3 (by decide) ?_
  refine am_S3 4 (mc' := 0) (ms' := 0) (rc := 0) (rs := 0) dX12_noise_4 lX12_3 ⟨by decide, by decide⟩ (Nat.le_of_ble_eq_true rfl) (Nat.le_of_ble_eq_true rfl) (s_isIn_t h5.1 h5.2) ?_
  refine am_is_ct ?_
  refine am_if_ne 7 14 dX12_noise_7 rfl (fun c7 => ?_) (fun c7 => absurd c7 (by decide))
  refine am_iconst 14 (v := 0) dX12_noise_14 (by decide) ?_
  refine am_iconst 15 (v := 1) dX12_noise_15 (by decide) ?_
  refine am_V2 16 (mc' := 0) (ms' := 0) (rc := 0) (rs := 0) dX12_noise_16 lX12_59 ⟨by decide, by decide⟩ e0 (Nat.le_of_ble_eq_true rfl) (Nat.le_of_ble_eq_true rfl) (s_rstart false (by decide) s) ?_
  rintro o n' f1 ⟨rfl, rfl, s1, g1⟩
  refine am_ctI ?_
  obtain ⟨⟨e0x, ⟨e3x, ewx⟩, earx, etyx⟩, e1x, e2x⟩ := id s1
  unfold r_m12 at e0x
  refine am_if_ne 19 46 dX12_noise_19 rfl (fun c19 => absurd c19 (by decide)) (fun c19 => ?_)
  refine am_aload_n 22 dX12_noise_22 rfl ?_
  refine am_iload_n 23 dX12_noise_23 rfl ?_
  refine am_bipush 24 (v := (-40)) dX12_noise_24 (by decide) ?_
  refine am_bipush 26 (v := 40) dX12_noise_26 (by decide) ?_
  refine am_S3 28 (mc' := 0) (ms' := 0) (rc := 0) (rs := 0) dX12_noise_28 lX12_3 ⟨by decide, by decide⟩ (Nat.le_of_ble_eq_true rfl) (Nat.le_of_ble_eq_true rfl) (s_isIn_f hu) ?_
  refine am_is_ct ?_
  refine am_if_ne 31 38 dX12_noise_31 rfl (fun c31 => absurd c31 (by decide)) (fun c31 => ?_)
  refine am_iconst 34 (v := 1) dX12_noise_34 (by decide) ?_
  refine am_goto 35 (tgt := 39) dX12_noise_35 rfl ?_
  refine am_iconst 39 (v := 2) dX12_noise_39 (by decide) ?_
  refine am_V2 40 (mc' := 0) (ms' := 0) (rc := 0) (rs := 0) dX12_noise_40 lX12_43 ⟨by decide, by decide⟩ e0x (Nat.le_of_ble_eq_true rfl) (Nat.le_of_ble_eq_true rfl) (s_rrefuse true (by decide) s1) ?_
  rintro o n' f2 ⟨rfl, rfl, s2, g2⟩
  refine am_ctI ?_
  obtain ⟨⟨e0y, ⟨e3y, ewy⟩, eary, etyy⟩, e1y, e2y⟩ := id s2
  unfold r_m12 at e0y
  refine am_if_eq 43 48 dX12_noise_43 rfl (fun c43 => absurd c43 (by decide)) (fun c43 => ?_)
  refine am_iconst 46 (v := 0) dX12_noise_46 (by decide) ?_
  refine am_ireturn 47 dX12_noise_47 rfl rfl ?_
  exact ⟨Nat.le_refl _, _, _, rfl, ⟨rfl, rfl⟩, s2, (g1.trans g2 (Nat.le_refl _)).out⟩
theorem s_rnoise_t {y : Nat} {u : Int32} (s : r_M m n f κ sz G th h di li cs w b) (hy : y < 6) (hu : -40 ≤ u ∧ u ≤ 40) (hs : ∀ x, x < 48 → (h + m_noise w y u x - b x).toInt.natAbs ≤ 300000) : AM mX12_noise 7 292 [.ref m, .int (nI y), .int u] n f (r_sP m n f κ sz G h di li cs (m_noise w y u) b (r_is 0 (.int (m_hum (fun k => h + m_noise w y u k - b k))))) := by
  obtain ⟨⟨e0, -⟩, -⟩ := id s
  unfold r_m12 at e0
  have h5 : (0 : Int32) ≤ nI y ∧ nI y ≤ 5 := ⟨m_nI0 (by omega), (r_leP 5 rfl rfl (by decide)).mpr (nI_ge hy (by decide))⟩
  generalize hQ : r_sP m n f κ sz G h di li cs (m_noise w y u) b (r_is 0 (.int (m_hum (fun k => h + m_noise w y u k - b k)))) = Q
  show AW mX12_noise 7 292 0 [some (.ref m), some (.int (nI y)), some (.int u), none] [] n f Q
  refine am_aload_n 0 dX12_noise_0 rfl ?_
  refine am_iload_n 1 dX12_noise_1 rfl ?_
  refine am_iconst 2 (v := 0) dX12_noise_2 (by decide) ?_
  refine am_iconst 3 (v := 5) dX12_noise_3 (by decide) ?_
  refine am_S3 4 (mc' := 0) (ms' := 0) (rc := 7) (rs := 292) dX12_noise_4 lX12_3 ⟨by decide, by decide⟩ (Nat.le_of_ble_eq_true rfl) (Nat.le_of_ble_eq_true rfl) (s_isIn_t h5.1 h5.2) ?_
  refine am_is_ct ?_
  refine am_if_ne 7 14 dX12_noise_7 rfl (fun c7 => ?_) (fun c7 => absurd c7 (by decide))
  refine am_iconst 14 (v := 0) dX12_noise_14 (by decide) ?_
  refine am_iconst 15 (v := 1) dX12_noise_15 (by decide) ?_
  refine am_V2 16 (mc' := 0) (ms' := 0) (rc := 7) (rs := 292) dX12_noise_16 lX12_59 ⟨by decide, by decide⟩ e0 (Nat.le_of_ble_eq_true rfl) (Nat.le_of_ble_eq_true rfl) (s_rstart false (by decide) s) ?_
  rintro o n' f1 ⟨rfl, rfl, s1, g1⟩
  refine am_ctI ?_
  obtain ⟨⟨e0x, ⟨e3x, ewx⟩, earx, etyx⟩, e1x, e2x⟩ := id s1
  unfold r_m12 at e0x
  refine am_if_ne 19 46 dX12_noise_19 rfl (fun c19 => absurd c19 (by decide)) (fun c19 => ?_)
  refine am_aload_n 22 dX12_noise_22 rfl ?_
  refine am_iload_n 23 dX12_noise_23 rfl ?_
  refine am_bipush 24 (v := (-40)) dX12_noise_24 (by decide) ?_
  refine am_bipush 26 (v := 40) dX12_noise_26 (by decide) ?_
  refine am_S3 28 (mc' := 0) (ms' := 0) (rc := 7) (rs := 292) dX12_noise_28 lX12_3 ⟨by decide, by decide⟩ (Nat.le_of_ble_eq_true rfl) (Nat.le_of_ble_eq_true rfl) (s_isIn_t hu.1 hu.2) ?_
  refine am_is_ct ?_
  refine am_if_ne 31 38 dX12_noise_31 rfl (fun c31 => ?_) (fun c31 => absurd c31 (by decide))
  refine am_iconst 38 (v := 0) dX12_noise_38 (by decide) ?_
  refine am_iconst 39 (v := 2) dX12_noise_39 (by decide) ?_
  refine am_V2 40 (mc' := 0) (ms' := 0) (rc := 7) (rs := 292) dX12_noise_40 lX12_43 ⟨by decide, by decide⟩ e0x (Nat.le_of_ble_eq_true rfl) (Nat.le_of_ble_eq_true rfl) (s_rrefuse false (by decide) s1) ?_
  rintro o n' f2 ⟨rfl, rfl, s2, g2⟩
  refine am_ctI ?_
  obtain ⟨⟨e0y, ⟨e3y, ewy⟩, eary, etyy⟩, e1y, e2y⟩ := id s2
  unfold r_m12 at e0y
  refine am_if_eq 43 48 dX12_noise_43 rfl (fun c43 => ?_) (fun c43 => absurd (by decide) c43)
  refine am_iconst 48 (v := 0) dX12_noise_48 (by decide) ?_
  refine am_istore_n 49 dX12_noise_49 (by decide) ?_
  rw [show f2 = va_up f2 (m + 2) (.inl (0, 48, .inl w)) from (am_self e2y).symm]
  refine am_for 8 (fun k (g : Nat → Int32) => ∀ x, g x = if x / 8 = y ∧ x % 8 < k then w x + u else w x) (fun k g => AW mX12_noise 7 292 50 [some (.ref m), some (.int (nI y)), some (.int u), some (.int (nI k))] [] n (va_up f2 (m + 2) (.inl (0, 48, .inl g))) Q) ?_ ?_ 0 w (by omega) (fun x => by rw [if_neg (by omega)])
  · intro g hg
    obtain rfl : g = m_noise w y u := funext fun x => by
      rw [hg x]
      unfold m_noise
      exact am_cond (by omega)
    obtain ⟨s3, g3⟩ := s2.arr (f' := va_up f2 (m + 2) (.inl (0, 48, .inl (m_noise w y u)))) (w' := m_noise w y u) (b' := b) (fun x h1 h2 => am_up_ne h2) (am_un (by omega) e1y) am_ue
    generalize va_up f2 (m + 2) (.inl (0, 48, .inl (m_noise w y u))) = f3 at s3 g3
    obtain ⟨⟨e03, -⟩, -⟩ := id s3
    unfold r_m12 at e03
    have hvw := s_rview s3
    generalize hsg : (fun k => h + m_noise w y u k - b k) = sig at hvw hQ
    have hs' : ∀ x, x < 48 → (sig x).toInt.natAbs ≤ 300000 := fun x hx => by rw [← hsg]; exact hs x hx
    refine am_iload_n 50 dX12_noise_50 rfl ?_
    refine am_bipush 51 (v := 8) dX12_noise_51 (by decide) ?_
    refine am_icmp_ge 53 76 dX12_noise_53 rfl (fun c53 => ?_) (fun c53 => absurd (by decide) c53)
    refine am_aload_n 76 dX12_noise_76 rfl ?_
    refine am_V0 77 (mc' := 7) (ms' := 292) (rc := 0) (rs := 0) dX12_noise_77 lX12_92 ⟨by decide, by decide⟩ e03 (Nat.le_of_ble_eq_true rfl) (Nat.le_of_ble_eq_true rfl) (hvw) ?_
    rintro o n' f4 ⟨rfl, rfl, hW, e4⟩
    refine am_ctI ?_
    obtain ⟨pk, w0, w1, -⟩ := id hW
    refine am_V0 80 (mc' := 0) (ms' := 0) (rc := 0) (rs := 0) dX12_noise_80 lX12_96 ⟨by decide, by decide⟩ w0 (Nat.le_of_ble_eq_true rfl) (Nat.le_of_ble_eq_true rfl) (s_vhum w0 w1 hs') ?_
    refine am_is_ct ?_
    refine am_ireturn 83 dX12_noise_83 rfl rfl ?_
    obtain ⟨s5, g5⟩ := s3.more (n' := n + 7) (by omega) e4
    subst hQ
    exact ⟨by omega, _, _, rfl, ⟨rfl, rfl⟩, s5, ((g1.trans g2 (Nat.le_refl _)).out.trans g3 (Nat.le_refl _)).trans g5.out (Nat.le_refl _)⟩
  · intro k g hk hg ih
    have hc : 8 * y + k < 48 := by omega
    refine am_iload_n 50 dX12_noise_50 rfl ?_
    refine am_bipush 51 (v := 8) dX12_noise_51 (by decide) ?_
    refine am_icmp_ge 53 76 dX12_noise_53 rfl (fun c53 => absurd c53 (nI_ge hk (by decide))) (fun c53 => ?_)
    refine am_aload_n 56 dX12_noise_56 rfl ?_
    refine am_getfield 57 dX12_noise_57 fX12_17 (by first | exact am_ue | exact am_un (by omega) e0y) rfl ?_
    refine am_iload_n 60 dX12_noise_60 rfl ?_
    refine am_iload_n 61 dX12_noise_61 rfl ?_
    refine am_S2 62 (mc' := 0) (ms' := 0) (rc := 7) (rs := 292) dX12_noise_62 lX12_79 ⟨by decide, by decide⟩ (Nat.le_of_ble_eq_true rfl) (Nat.le_of_ble_eq_true rfl) (s_cell) ?_
    refine am_is_ct ?_
    refine am_dup2 65 dX12_noise_65 rfl rfl ?_
    refine am_iaload 66 dX12_noise_66 rfl (by first | exact am_ue | exact am_un (by omega) e0y) (am_ix hc (by decide)) ?_
    rw [nI_clamp (n := 8 * y + k) (by omega)]
    refine am_iload_n 67 dX12_noise_67 rfl ?_
    refine am_iadd 68 dX12_noise_68 ?_
    refine am_iastore 69 dX12_noise_69 rfl (by first | exact am_ue | exact am_un (by omega) e0y) (am_ix hc (by decide)) ?_
    rw [nI_clamp (n := 8 * y + k) (by omega), am_uu]
    refine am_iinc 70 (v := nI (k + 1)) dX12_noise_70 rfl (nI_1 (k)) (by decide) ?_
    refine am_goto 73 (tgt := 50) dX12_noise_73 rfl ?_
    refine ih _ (fun x => ?_)
    by_cases e : x = 8 * y + k
    · subst e; rw [am_up_eq, hg, if_neg (by omega), if_pos (by omega)]
    · rw [am_up_ne e, hg x]; exact am_cond (by omega)
end RCalls
