/-! ===== the reference's calls in any state: keepBy ===== -/
section RKeep
variable {G : Nat → m_K}
variable {m n v u sz : Nat} {f : Nat → am_C} {κ : Nat → Nat} {th h di li : Int32} {cs : Nat → Option Nat} {w b sig : Nat → Int32}
theorem r_S_mono {g : Nat → Nat} {a c : Nat} (h : a ≤ c) : m_S g a ≤ m_S g c := by
  induction c with
  | zero => rw [show a = 0 by omega]; exact Nat.le_refl _
  | succ c ih =>
    by_cases q : a = c + 1
    · rw [q]; exact Nat.le_refl _
    · exact Nat.le_trans (ih (by omega)) (Nat.le_add_right _ _)
/-- what the trials from k on still cost -/
def r_kb (w b : Nat → Int32) (h d : Int32) (k : Nat) : Nat := 310 * (48 - k) + 2 * (m_S (q_tr w b h d) 48 - m_S (q_tr w b h d) k)
theorem r_kb_step {d : Int32} {k : Nat} (hk : k < 48) : 292 + ((0 + q_tr w b h d k + q_tr w b h d k + 5 + 5) + 8) + r_kb w b h d (k + 1) ≤ r_kb w b h d k := by
  have h1 : m_S (q_tr w b h d) (k + 1) = m_S (q_tr w b h d) k + q_tr w b h d k := rfl
  have h2 : m_S (q_tr w b h d) (k + 1) ≤ m_S (q_tr w b h d) 48 := r_S_mono (by omega)
  unfold r_kb
  omega
set_option maxHeartbeats 2000000 in
theorem s_rkeepNow {k : Nat} {d : Int32} (s : r_M m n f κ sz G th h di li cs w b) (hs : ∀ c, c < 48 → ∀ x, x < 48 → (h + m_press w d (c % 8) (c / 8) x - b x).toInt.natAbs ≤ 300000) (hk : k < 5) : AM mX12_keepByNow 576 (14880 + 2 * m_S (q_tr w b h d) 48) [.ref m, .int (nI k), .int d] n f (fun o n' f' => n ≤ n' ∧ (∃ x, o = .inl (some (.int x))) ∧ r_M m n' f' κ sz G th h di li cs w b ∧ r_out9 m n κ κ f f') := by
  generalize hQ : (fun (o : Option Value ⊕ Nat) (n' : Nat) (f' : Nat → am_C) => n ≤ n' ∧ (∃ x, o = .inl (some (.int x))) ∧ r_M m n' f' κ sz G th h di li cs w b ∧ r_out9 m n κ κ f f') = Q
  show AW mX12_keepByNow 576 (14880 + 2 * m_S (q_tr w b h d) 48) 0 [some (.ref m), some (.int (nI k)), some (.int d), none, none, none] [] n f Q
  refine am_iconst 0 (v := 0) dX12_keepByNow_0 (by decide) ?_
  refine am_istore_n 1 dX12_keepByNow_1 (by decide) ?_
  refine AW.more (rc := 12 * (48 - 0)) (rs := r_kb w b h d 0) (by omega) (by unfold r_kb; show _ + 2 * (_ - 0) ≤ _; omega) ?_
  refine am_for 48 (fun _ (st : (Nat × (Nat → am_C)) × Option Value × Option Value) => n ≤ st.1.1 ∧ r_M m st.1.1 st.1.2 κ sz G th h di li cs w b ∧ r_out9 m n κ κ f st.1.2) (fun c st => AW mX12_keepByNow (12 * (48 - c)) (r_kb w b h d c) 2 [some (.ref m), some (.int (nI k)), some (.int d), some (.int (nI c)), st.2.1, st.2.2] [] st.1.1 st.1.2 Q) ?_ ?_ 0 ((n, f), none, none) (by omega) ⟨Nat.le_refl _, s, r_out9.refl⟩
  · rintro ⟨⟨N, g⟩, z4, z5⟩ ⟨a1, a2, a3⟩
    show AW mX12_keepByNow (12 * (48 - 48)) (r_kb w b h d 48) 2 [some (.ref m), some (.int (nI k)), some (.int d), some (.int (nI 48)), z4, z5] [] N g Q
    refine am_iload_n 2 dX12_keepByNow_2 rfl ?_
    refine am_bipush 3 (v := 48) dX12_keepByNow_3 (by decide) ?_
    refine am_icmp_ge 5 77 dX12_keepByNow_5 rfl (fun c5 => ?_) (fun c5 => absurd (by decide) c5)
    refine am_iconst 77 (v := (-1)) dX12_keepByNow_77 (by decide) ?_
    refine am_ireturn 78 dX12_keepByNow_78 rfl rfl ?_
    subst hQ
    exact ⟨a1, ⟨_, rfl⟩, a2, a3⟩
  · rintro c ⟨⟨N, g⟩, z4, z5⟩ hc ⟨a1, a2, a3⟩ ih
    have a1 : n ≤ N := a1
    have a2 : r_M m N g κ sz G th h di li cs w b := a2
    have a3 : r_out9 m n κ κ f g := a3
    have ih : ∀ (N : Nat) (g : Nat → am_C) (z4 z5 : Option Value), n ≤ N → r_M m N g κ sz G th h di li cs w b → r_out9 m n κ κ f g → AW mX12_keepByNow (12 * (48 - (c + 1))) (r_kb w b h d (c + 1)) 2 [some (.ref m), some (.int (nI k)), some (.int d), some (.int (nI (c + 1))), z4, z5] [] N g Q := fun N g z4 z5 b1 b2 b3 => ih ((N, g), z4, z5) ⟨b1, b2, b3⟩
    show AW mX12_keepByNow (12 * (48 - c)) (r_kb w b h d c) 2 [some (.ref m), some (.int (nI k)), some (.int d), some (.int (nI c)), z4, z5] [] N g Q
    have hstep := r_kb_step (w := w) (b := b) (h := h) (d := d) hc
    have hx : c % 8 < 8 := by omega
    have hy : c / 8 < 6 := by omega
    have hsc := hs c hc
    obtain ⟨⟨e0, -⟩, e1, e2⟩ := id a2
    unfold r_m12 at e0
    have hm5 := a2.1.n5
    have ptr : q_tr w b h d c = (m_pks (fun j => h + m_press w d (c % 8) (c / 8) j - b j) 48).length := rfl
    obtain ⟨s1, g1⟩ := a2.arr (f' := va_up g (m + 2) (.inl (0, 48, .inl (m_press w d (c % 8) (c / 8))))) (w' := m_press w d (c % 8) (c / 8)) (b' := b) (fun x h1 h2 => am_up_ne h2) (am_un (by omega) e1) am_ue
    have hpr := s_pressed (n := N) (s := d) (σ := 1) e0 e2 hx hy
    rw [r_prT_end] at hpr
    have hvw := s_rview s1
    generalize hf1 : va_up g (m + 2) (.inl (0, 48, .inl (m_press w d (c % 8) (c / 8)))) = f1 at hpr s1 g1 hvw
    obtain ⟨⟨y0, -⟩, y1, y2⟩ := id s1
    unfold r_m12 at y0
    generalize hRC : 12 * (48 - (c + 1)) = RC at ih
    generalize hRS : r_kb w b h d (c + 1) = RS at ih hstep
    refine AW.more (rc := 0 + (7 + (0 + (4 + 1 + RC)))) (rs := 0 + (292 + (0 + ((0 + q_tr w b h d c + q_tr w b h d c + 5 + 5) + 8 + RS)))) (by omega) (by omega) ?_
    generalize hsg : (fun j => h + m_press w d (c % 8) (c / 8) j - b j) = sig at hvw ptr
    have hsc' : ∀ x, x < 48 → (sig x).toInt.natAbs ≤ 300000 := fun x hx => by rw [← hsg]; exact hsc x hx
    generalize hP : q_tr w b h d c = P at ptr
    refine am_iload_n 2 dX12_keepByNow_2 rfl ?_
    refine am_bipush 3 (v := 48) dX12_keepByNow_3 (by decide) ?_
    refine am_icmp_ge 5 77 dX12_keepByNow_5 rfl (fun c5 => absurd c5 (nI_ge hc (by decide))) (fun c5 => ?_)
    refine am_aload_n 8 dX12_keepByNow_8 rfl ?_
    refine am_iload_n 9 dX12_keepByNow_9 rfl ?_
    refine am_bipush 10 (v := 8) dX12_keepByNow_10 (by decide) ?_
    refine am_irem 12 dX12_keepByNow_12 (by decide) ?_
    rw [am_rem8 (by omega)]
    refine am_iload_n 13 dX12_keepByNow_13 rfl ?_
    refine am_bipush 14 (v := 8) dX12_keepByNow_14 (by decide) ?_
    refine am_idiv 16 dX12_keepByNow_16 (by decide) ?_
    rw [am_div8 (by omega)]
    refine am_iload_n 17 dX12_keepByNow_17 rfl ?_
    refine am_iconst 18 (v := 1) dX12_keepByNow_18 (by decide) ?_
    refine am_V4 19 (mc' := 0) (ms' := 0) (rc := 7 + (0 + (4 + 1 + RC))) (rs := 292 + (0 + ((0 + P + P + 5 + 5) + 8 + RS))) dX12_keepByNow_19 lX12_89 ⟨by decide, by decide⟩ e0 (Nat.le_of_ble_eq_true rfl) (Nat.le_of_ble_eq_true rfl) (hpr) ?_
    refine am_is_ct ?_
    refine am_aload_n 22 dX12_keepByNow_22 rfl ?_
    refine am_V0 23 (mc' := 7) (ms' := 292) (rc := 0 + (4 + 1 + RC)) (rs := 0 + ((0 + P + P + 5 + 5) + 8 + RS)) dX12_keepByNow_23 lX12_92 ⟨by decide, by decide⟩ y0 (Nat.le_of_ble_eq_true rfl) (Nat.le_of_ble_eq_true rfl) (hvw) ?_
    rintro o n' f2 ⟨rfl, rfl, hW, e4⟩
    refine am_ctI ?_
    obtain ⟨s2, g2⟩ := s1.more (n' := N + 7) (by omega) e4
    obtain ⟨⟨x0, -⟩, x1, x2⟩ := id s2
    unfold r_m12 at x0
    have hpb := s_pressed (n := N + 7) (s := d) (σ := -1) x0 x2 hx hy
    rw [r_prT_back] at hpb
    obtain ⟨s3, g3⟩ := s2.arr (f' := va_up f2 (m + 2) (.inl (0, 48, .inl w))) (w' := w) (b' := b) (fun x h1 h2 => am_up_ne h2) (am_un (by omega) x1) am_ue
    have hW3 : r_W (va_up f2 (m + 2) (.inl (0, 48, .inl w))) N (N + 2) sig := hW.on fun x hx => am_up_ne (by omega)
    generalize va_up f2 (m + 2) (.inl (0, 48, .inl w)) = f3 at hpb s3 g3 hW3
    obtain ⟨⟨v0, -⟩, v1, v2⟩ := id s3
    unfold r_m12 at v0
    have hwn := s_rwouldNow s3 hW3 hsc' (by omega) (by omega) hk
    rw [← ptr] at hwn
    have hPl := m_pks_len (sig := sig) (k := 48)
    show AW mX12_keepByNow (0 + (4 + 1 + RC)) (0 + ((0 + P + P + 5 + 5) + 8 + RS)) 26 [some (.ref m), some (.int (nI k)), some (.int d), some (.int (nI c)), z4, z5] [.ref N] (N + 7) f2 Q
    refine am_astore 26 dX12_keepByNow_26 (by decide) ?_
    refine am_aload_n 28 dX12_keepByNow_28 rfl ?_
    refine am_iload_n 29 dX12_keepByNow_29 rfl ?_
    refine am_bipush 30 (v := 8) dX12_keepByNow_30 (by decide) ?_
    refine am_irem 32 dX12_keepByNow_32 (by decide) ?_
    rw [am_rem8 (by omega)]
    refine am_iload_n 33 dX12_keepByNow_33 rfl ?_
    refine am_bipush 34 (v := 8) dX12_keepByNow_34 (by decide) ?_
    refine am_idiv 36 dX12_keepByNow_36 (by decide) ?_
    rw [am_div8 (by omega)]
    refine am_iload_n 37 dX12_keepByNow_37 rfl ?_
    refine am_iconst 38 (v := (-1)) dX12_keepByNow_38 (by decide) ?_
    refine am_V4 39 (mc' := 0) (ms' := 0) (rc := 4 + 1 + RC) (rs := (0 + P + P + 5 + 5) + 8 + RS) dX12_keepByNow_39 lX12_89 ⟨by decide, by decide⟩ x0 (Nat.le_of_ble_eq_true rfl) (Nat.le_of_ble_eq_true rfl) (hpb) ?_
    refine am_is_ct ?_
    refine am_aload_n 42 dX12_keepByNow_42 rfl ?_
    refine am_iload_n 43 dX12_keepByNow_43 rfl ?_
    refine am_aload 44 dX12_keepByNow_44 rfl ?_
    refine am_V2 46 (mc' := 4 + 1) (ms' := (0 + P + P + 5 + 5) + 8) (rc := RC) (rs := RS) dX12_keepByNow_46 lX12_301 ⟨by decide, by decide⟩ v0 (Nat.le_of_ble_eq_true rfl) (Nat.le_of_ble_eq_true rfl) (hwn) ?_
    rintro o n' f4 ⟨hn4, ⟨x, rfl, hx5⟩, e5⟩
    refine am_ctI ?_
    obtain ⟨s5, g5⟩ := s3.more hn4 e5
    have go : r_out9 m n κ κ f f4 := (((a3.trans g1 a1).trans g2.out a1).trans g3 (by omega)).trans g5.out (by omega)
    have nx : AW mX12_keepByNow RC RS 71 [some (.ref m), some (.int (nI k)), some (.int d), some (.int (nI c)), some (.ref N), some (.int x)] [] n' f4 Q := by
      refine am_iinc 71 (v := nI (c + 1)) dX12_keepByNow_71 rfl (nI_1 (c)) (by decide) ?_
      refine am_goto 74 (tgt := 2) dX12_keepByNow_74 rfl ?_
      exact ih _ _ _ _ (by omega) s5 go
    obtain ⟨pk, p0, p1, p2, p3, p4⟩ := id (hW3.on (f' := f4) fun x hx => e5 x (by omega))
    rcases hx5 with rfl | ⟨q, hq, rfl⟩
    · show AW mX12_keepByNow RC RS 49 [some (.ref m), some (.int (nI k)), some (.int d), some (.int (nI c)), some (.ref N), z5] [.int (-1)] n' f4 Q
      refine am_istore 49 dX12_keepByNow_49 (by decide) ?_
      refine am_iload 51 dX12_keepByNow_51 rfl ?_
      refine am_iconst 53 (v := (-1)) dX12_keepByNow_53 (by decide) ?_
      refine am_icmp_eq 54 71 dX12_keepByNow_54 rfl (fun c54 => ?_) (fun c54 => absurd rfl c54)
      exact nx
    · have hq48 : q < 48 := by omega
      have nm : ¬ nI q = -1 := r_nm1 (by omega)
      show AW mX12_keepByNow RC RS 49 [some (.ref m), some (.int (nI k)), some (.int d), some (.int (nI c)), some (.ref N), z5] [.int (nI q)] n' f4 Q
      refine am_istore 49 dX12_keepByNow_49 (by decide) ?_
      refine am_iload 51 dX12_keepByNow_51 rfl ?_
      refine am_iconst 53 (v := (-1)) dX12_keepByNow_53 (by decide) ?_
      refine am_icmp_eq 54 71 dX12_keepByNow_54 rfl (fun c54 => absurd c54 nm) (fun c54 => ?_)
      refine am_aload 57 dX12_keepByNow_57 rfl ?_
      refine am_getfield 59 dX12_keepByNow_59 fX12_192 p0 rfl ?_
      refine am_iload 62 dX12_keepByNow_62 rfl ?_
      refine am_iaload 64 dX12_keepByNow_64 rfl p3 (am_ix hq48 (by decide)) ?_
      refine am_iload_n 65 dX12_keepByNow_65 rfl ?_
      refine am_icmp_ne 66 71 dX12_keepByNow_66 rfl (fun c66 => ?_) (fun c66 => ?_)
      · exact nx
      · refine am_iload_n 69 dX12_keepByNow_69 rfl ?_
        refine am_ireturn 70 dX12_keepByNow_70 rfl rfl ?_
        subst hQ
        exact ⟨by omega, ⟨_, rfl⟩, s5, go⟩
theorem s_rkeepBy_t {k c : Nat} {d : Int32} (s : r_M m n f κ sz G th h di li cs w b) (hs : ∀ c, c < 48 → ∀ x, x < 48 → (h + m_press w d (c % 8) (c / 8) x - b x).toInt.natAbs ≤ 300000) (hk : k < 5) (hc : cs k = some c) (hd : 1 ≤ d ∧ d ≤ 200) : AM mX12_keepBy 576 (14880 + 2 * m_S (q_tr w b h d) 48) [.ref m, .int (nI k), .int d] n f (r_sP m n f κ sz G h di li cs w b r_vI) := by
  obtain ⟨⟨e0, -⟩, -⟩ := id s
  unfold r_m12 at e0
  generalize hRS : 14880 + 2 * m_S (q_tr w b h d) 48 = RS
  have hkn : ∀ f2 : Nat → am_C, r_M m n f2 κ sz G 0 h di li cs w b → AM mX12_keepByNow 576 RS [.ref m, .int (nI k), .int d] n f2 (fun o n' f' => n ≤ n' ∧ (∃ x, o = .inl (some (.int x))) ∧ r_M m n' f' κ sz G 0 h di li cs w b ∧ r_out9 m n κ κ f2 f') := fun f2 s2 => by rw [← hRS]; exact s_rkeepNow s2 hs hk
  refine AW.more (rc := 0 + 576) (rs := 0 + RS) (by omega) (by omega) ?_
  show AW mX12_keepBy (0 + 576) (0 + RS) 0 [some (.ref m), some (.int (nI k)), some (.int d)] [] n f _
  refine am_aload_n 0 dX12_keepBy_0 rfl ?_
  refine am_aload_n 1 dX12_keepBy_1 rfl ?_
  refine am_iload_n 2 dX12_keepBy_2 rfl ?_
  refine AW.more (rc := 0 + (576)) (rs := 0 + (RS)) (by omega) (by omega) ?_
  refine am_V1 3 (mc' := 0) (ms' := 0) (rc := 576) (rs := RS) dX12_keepBy_3 lX12_261 ⟨by decide, by decide⟩ e0 (Nat.le_of_ble_eq_true rfl) (Nat.le_of_ble_eq_true rfl) (s_rnone_f s hk hc) ?_
  refine am_is_ct ?_
  refine am_iconst 6 (v := 1) dX12_keepBy_6 (by decide) ?_
  refine AW.more (rc := 0 + (576)) (rs := 0 + (RS)) (by omega) (by omega) ?_
  refine am_V2 7 (mc' := 0) (ms' := 0) (rc := 576) (rs := RS) dX12_keepBy_7 lX12_59 ⟨by decide, by decide⟩ e0 (Nat.le_of_ble_eq_true rfl) (Nat.le_of_ble_eq_true rfl) (s_rstart false (by decide) s) ?_
  rintro o n' f1 ⟨rfl, rfl, s1, g1⟩
  refine am_ctI ?_
  obtain ⟨⟨e0x, ⟨e3x, ewx⟩, earx, etyx⟩, e1x, e2x⟩ := id s1
  unfold r_m12 at e0x
  refine am_if_ne 10 37 dX12_keepBy_10 rfl (fun c10 => absurd c10 (by decide)) (fun c10 => ?_)
  refine am_aload_n 13 dX12_keepBy_13 rfl ?_
  refine am_iload_n 14 dX12_keepBy_14 rfl ?_
  refine am_iconst 15 (v := 1) dX12_keepBy_15 (by decide) ?_
  refine am_sipush 16 (v := 200) dX12_keepBy_16 (by decide) ?_
  refine AW.more (rc := 0 + (576)) (rs := 0 + (RS)) (by omega) (by omega) ?_
  refine am_S3 19 (mc' := 0) (ms' := 0) (rc := 576) (rs := RS) dX12_keepBy_19 lX12_3 ⟨by decide, by decide⟩ (Nat.le_of_ble_eq_true rfl) (Nat.le_of_ble_eq_true rfl) (s_isIn_t hd.1 hd.2) ?_
  refine am_is_ct ?_
  refine am_if_ne 22 29 dX12_keepBy_22 rfl (fun c22 => ?_) (fun c22 => absurd c22 (by decide))
  refine am_iconst 29 (v := 0) dX12_keepBy_29 (by decide) ?_
  refine am_iconst 30 (v := 2) dX12_keepBy_30 (by decide) ?_
  refine AW.more (rc := 0 + (576)) (rs := 0 + (RS)) (by omega) (by omega) ?_
  refine am_V2 31 (mc' := 0) (ms' := 0) (rc := 576) (rs := RS) dX12_keepBy_31 lX12_43 ⟨by decide, by decide⟩ e0x (Nat.le_of_ble_eq_true rfl) (Nat.le_of_ble_eq_true rfl) (s_rrefuse false (by decide) s1) ?_
  rintro o n' f2 ⟨rfl, rfl, s2, g2⟩
  refine am_ctI ?_
  obtain ⟨⟨e0y, ⟨e3y, ewy⟩, eary, etyy⟩, e1y, e2y⟩ := id s2
  unfold r_m12 at e0y
  refine am_if_eq 34 41 dX12_keepBy_34 rfl (fun c34 => ?_) (fun c34 => absurd (by decide) c34)
  refine am_aload_n 41 dX12_keepBy_41 rfl ?_
  refine am_iload_n 42 dX12_keepBy_42 rfl ?_
  refine am_iload_n 43 dX12_keepBy_43 rfl ?_
  refine am_V2 44 (mc' := 576) (ms' := RS) (rc := 0) (rs := 0) dX12_keepBy_44 lX12_307 ⟨by decide, by decide⟩ e0y (Nat.le_of_ble_eq_true rfl) (Nat.le_of_ble_eq_true rfl) (hkn _ s2) ?_
  rintro o n' f4 ⟨hn4, ⟨x, rfl⟩, s5, g5⟩
  refine am_ctI ?_
  refine am_ireturn 47 dX12_keepBy_47 rfl rfl ?_
  exact ⟨hn4, _, _, rfl, ⟨_, rfl⟩, s5, (g1.trans g2 (Nat.le_refl _)).out.trans g5 (Nat.le_refl _)⟩
theorem s_rkeepBy_g {k c : Nat} {d : Int32} (s : r_M m n f κ sz G th h di li cs w b) (hk : k < 5) (hc : cs k = some c) (hd : ¬ (1 ≤ d ∧ d ≤ 200)) : AM mX12_keepBy 0 0 [.ref m, .int (nI k), .int d] n f (r_sP m n f κ sz G h di li cs w b r_vI) := by
  obtain ⟨⟨e0, -⟩, -⟩ := id s
  unfold r_m12 at e0
  show AW mX12_keepBy 0 0 0 [some (.ref m), some (.int (nI k)), some (.int d)] [] n f _
  refine am_aload_n 0 dX12_keepBy_0 rfl ?_
  refine am_aload_n 1 dX12_keepBy_1 rfl ?_
  refine am_iload_n 2 dX12_keepBy_2 rfl ?_
  refine am_V1 3 (mc' := 0) (ms' := 0) (rc := 0) (rs := 0) dX12_keepBy_3 lX12_261 ⟨by decide, by decide⟩ e0 (Nat.le_of_ble_eq_true rfl) (Nat.le_of_ble_eq_true rfl) (s_rnone_f s hk hc) ?_
  refine am_is_ct ?_
  refine am_iconst 6 (v := 1) dX12_keepBy_6 (by decide) ?_
  refine am_V2 7 (mc' := 0) (ms' := 0) (rc := 0) (rs := 0) dX12_keepBy_7 lX12_59 ⟨by decide, by decide⟩ e0 (Nat.le_of_ble_eq_true rfl) (Nat.le_of_ble_eq_true rfl) (s_rstart false (by decide) s) ?_
  rintro o n' f1 ⟨rfl, rfl, s1, g1⟩
  refine am_ctI ?_
  obtain ⟨⟨e0x, ⟨e3x, ewx⟩, earx, etyx⟩, e1x, e2x⟩ := id s1
  unfold r_m12 at e0x
  refine am_if_ne 10 37 dX12_keepBy_10 rfl (fun c10 => absurd c10 (by decide)) (fun c10 => ?_)
  refine am_aload_n 13 dX12_keepBy_13 rfl ?_
  refine am_iload_n 14 dX12_keepBy_14 rfl ?_
  refine am_iconst 15 (v := 1) dX12_keepBy_15 (by decide) ?_
  refine am_sipush 16 (v := 200) dX12_keepBy_16 (by decide) ?_
  refine am_S3 19 (mc' := 0) (ms' := 0) (rc := 0) (rs := 0) dX12_keepBy_19 lX12_3 ⟨by decide, by decide⟩ (Nat.le_of_ble_eq_true rfl) (Nat.le_of_ble_eq_true rfl) (s_isIn_f hd) ?_
  refine am_is_ct ?_
  refine am_if_ne 22 29 dX12_keepBy_22 rfl (fun c22 => absurd c22 (by decide)) (fun c22 => ?_)
  refine am_iconst 25 (v := 1) dX12_keepBy_25 (by decide) ?_
  refine am_goto 26 (tgt := 30) dX12_keepBy_26 rfl ?_
  refine am_iconst 30 (v := 2) dX12_keepBy_30 (by decide) ?_
  refine am_V2 31 (mc' := 0) (ms' := 0) (rc := 0) (rs := 0) dX12_keepBy_31 lX12_43 ⟨by decide, by decide⟩ e0x (Nat.le_of_ble_eq_true rfl) (Nat.le_of_ble_eq_true rfl) (s_rrefuse true (by decide) s1) ?_
  rintro o n' f2 ⟨rfl, rfl, s2, g2⟩
  refine am_ctI ?_
  obtain ⟨⟨e0y, ⟨e3y, ewy⟩, eary, etyy⟩, e1y, e2y⟩ := id s2
  unfold r_m12 at e0y
  refine am_if_eq 34 41 dX12_keepBy_34 rfl (fun c34 => absurd c34 (by decide)) (fun c34 => ?_)
  refine am_iconst 37 (v := 0) dX12_keepBy_37 (by decide) ?_
  refine am_goto 38 (tgt := 47) dX12_keepBy_38 rfl ?_
  refine am_ireturn 47 dX12_keepBy_47 rfl rfl ?_
  exact ⟨Nat.le_refl _, _, _, rfl, ⟨_, rfl⟩, s2, (g1.trans g2 (Nat.le_refl _)).out⟩
theorem s_rkeepBy_f {x : Int32} {d : Int32} (s : r_M m n f κ sz G th h di li cs w b) (hx : ∀ k, k < 5 → x = nI k → cs k = none) : AM mX12_keepBy 0 0 [.ref m, .int x, .int d] n f (r_sP m n f κ sz G h di li cs w b r_vI) := by
  obtain ⟨⟨e0, -⟩, -⟩ := id s
  unfold r_m12 at e0
  show AW mX12_keepBy 0 0 0 [some (.ref m), some (.int x), some (.int d)] [] n f _
  refine am_aload_n 0 dX12_keepBy_0 rfl ?_
  refine am_aload_n 1 dX12_keepBy_1 rfl ?_
  refine am_iload_n 2 dX12_keepBy_2 rfl ?_
  refine am_V1 3 (mc' := 0) (ms' := 0) (rc := 0) (rs := 0) dX12_keepBy_3 lX12_261 ⟨by decide, by decide⟩ e0 (Nat.le_of_ble_eq_true rfl) (Nat.le_of_ble_eq_true rfl) (s_rnone_t s hx) ?_
  refine am_is_ct ?_
  refine am_iconst 6 (v := 1) dX12_keepBy_6 (by decide) ?_
  refine am_V2 7 (mc' := 0) (ms' := 0) (rc := 0) (rs := 0) dX12_keepBy_7 lX12_59 ⟨by decide, by decide⟩ e0 (Nat.le_of_ble_eq_true rfl) (Nat.le_of_ble_eq_true rfl) (s_rstart true (by decide) s) ?_
  rintro o n' f1 ⟨rfl, rfl, s1, g1⟩
  refine am_ctI ?_
  obtain ⟨⟨e0x, ⟨e3x, ewx⟩, earx, etyx⟩, e1x, e2x⟩ := id s1
  unfold r_m12 at e0x
  refine am_if_ne 10 37 dX12_keepBy_10 rfl (fun c10 => ?_) (fun c10 => absurd c10 (by decide))
  refine am_iconst 37 (v := 0) dX12_keepBy_37 (by decide) ?_
  refine am_goto 38 (tgt := 47) dX12_keepBy_38 rfl ?_
  refine am_ireturn 47 dX12_keepBy_47 rfl rfl ?_
  exact ⟨Nat.le_refl _, _, _, rfl, ⟨_, rfl⟩, s1, g1.out⟩
end RKeep
