/-! ===== the reference's calls in any state: what is asked ===== -/
section RAsks
variable {G : Nat → m_K}
variable {m n v u sz : Nat} {f : Nat → am_C} {κ : Nat → Nat} {th h di li : Int32} {cs : Nat → Option Nat} {w b sig : Nat → Int32}
/-- a name: a contact there, or none -/
theorem r_name (cs : Nat → Option Nat) (x : Int32) : (∃ k c, k < 5 ∧ x = nI k ∧ cs k = some c) ∨ ∀ k, k < 5 → x = nI k → cs k = none := by
  by_cases q : ∃ k, k < 5 ∧ x = nI k
  · obtain ⟨k, hk, e⟩ := q
    rcases hc : cs k with _ | c
    · refine Or.inr fun j hj e2 => ?_
      obtain rfl : k = j := (nI_eq (by omega) (by omega)).mp (e.symm.trans e2)
      exact hc
    · exact Or.inl ⟨k, c, hk, e, hc⟩
  · exact Or.inr fun k hk e => absurd ⟨k, hk, e⟩ q
theorem s_rnone_f {k c : Nat} (s : r_M m n f κ sz G th h di li cs w b) (hk : k < 5) (hc : cs k = some c) : AM mX12_isNone 0 0 [.ref m, .int (nI k)] n f (am_is (some (.int (m_bi false))) n f) := by
  obtain ⟨⟨e0, ⟨e3, -⟩, -⟩, -⟩ := id s
  unfold r_m12 at e0
  show AW mX12_isNone 0 0 0 [some (.ref m), some (.int (nI k))] [] n f _
  refine am_iload_n 0 dX12_isNone_0 rfl ?_
  refine am_iconst 1 (v := 0) dX12_isNone_1 (by decide) ?_
  refine am_iconst 2 (v := 4) dX12_isNone_2 (by decide) ?_
  refine am_S3 3 (mc' := 0) (ms' := 0) (rc := 0) (rs := 0) dX12_isNone_3 lX12_3 ⟨by decide, by decide⟩ (Nat.le_of_ble_eq_true rfl) (Nat.le_of_ble_eq_true rfl) (s_isIn_t (m_nI0 (by omega)) ((r_leP 4 rfl rfl (by decide)).mpr (nI_ge hk (by decide)))) ?_
  refine am_is_ct ?_
  refine am_if_eq 6 18 dX12_isNone_6 rfl (fun c6 => absurd c6 (by decide)) (fun c6 => ?_)
  refine am_aload_n 9 dX12_isNone_9 rfl ?_
  refine am_getfield 10 dX12_isNone_10 fX12_29 (by repeat (first | assumption | exact am_ue | refine am_un (by first | assumption | decide | omega) ?_)) rfl ?_
  refine am_iload_n 13 dX12_isNone_13 rfl ?_
  refine am_aaload 14 dX12_isNone_14 rfl (by repeat (first | assumption | exact am_ue | refine am_un (by first | assumption | decide | omega) ?_)) (am_ix hk (by decide)) ?_
  rw [nI_clamp (n := k) (by omega), hc, show va_rf (some c) = Value.ref c from rfl]
  refine am_ifnonnull 15 (tgt := 22) dX12_isNone_15 rfl ?_
  refine am_iconst 22 (v := 0) dX12_isNone_22 (by decide) ?_
  exact am_ireturn 23 dX12_isNone_23 rfl rfl ⟨rfl, rfl, rfl⟩
theorem s_rnone_t {x : Int32} (s : r_M m n f κ sz G th h di li cs w b) (hx : ∀ k, k < 5 → x = nI k → cs k = none) : AM mX12_isNone 0 0 [.ref m, .int x] n f (am_is (some (.int (m_bi true))) n f) := by
  obtain ⟨⟨e0, ⟨e3, -⟩, -⟩, -⟩ := id s
  unfold r_m12 at e0
  show AW mX12_isNone 0 0 0 [some (.ref m), some (.int x)] [] n f _
  by_cases q : 0 ≤ x ∧ x ≤ 4
  · obtain ⟨k, hk, rfl⟩ := m_small_le 4 rfl (by decide) q.1 q.2
    have hk5 : k < 5 := by omega
    have hc := hx k hk5 rfl
    refine am_iload_n 0 dX12_isNone_0 rfl ?_
    refine am_iconst 1 (v := 0) dX12_isNone_1 (by decide) ?_
    refine am_iconst 2 (v := 4) dX12_isNone_2 (by decide) ?_
    refine am_S3 3 (mc' := 0) (ms' := 0) (rc := 0) (rs := 0) dX12_isNone_3 lX12_3 ⟨by decide, by decide⟩ (Nat.le_of_ble_eq_true rfl) (Nat.le_of_ble_eq_true rfl) (s_isIn_t q.1 q.2) ?_
    refine am_is_ct ?_
    refine am_if_eq 6 18 dX12_isNone_6 rfl (fun c6 => absurd c6 (by decide)) (fun c6 => ?_)
    refine am_aload_n 9 dX12_isNone_9 rfl ?_
    refine am_getfield 10 dX12_isNone_10 fX12_29 (by repeat (first | assumption | exact am_ue | refine am_un (by first | assumption | decide | omega) ?_)) rfl ?_
    refine am_iload_n 13 dX12_isNone_13 rfl ?_
    refine am_aaload 14 dX12_isNone_14 rfl (by repeat (first | assumption | exact am_ue | refine am_un (by first | assumption | decide | omega) ?_)) (am_ix hk5 (by decide)) ?_
    rw [nI_clamp (n := k) (by omega), hc, show va_rf none = Value.null from rfl]
    refine am_ifnonnullN 15 dX12_isNone_15 ?_
    refine am_iconst 18 (v := 1) dX12_isNone_18 (by decide) ?_
    refine am_goto 19 (tgt := 23) dX12_isNone_19 rfl ?_
    exact am_ireturn 23 dX12_isNone_23 rfl rfl ⟨rfl, rfl, rfl⟩
  · refine am_iload_n 0 dX12_isNone_0 rfl ?_
    refine am_iconst 1 (v := 0) dX12_isNone_1 (by decide) ?_
    refine am_iconst 2 (v := 4) dX12_isNone_2 (by decide) ?_
    refine am_S3 3 (mc' := 0) (ms' := 0) (rc := 0) (rs := 0) dX12_isNone_3 lX12_3 ⟨by decide, by decide⟩ (Nat.le_of_ble_eq_true rfl) (Nat.le_of_ble_eq_true rfl) (s_isIn_f q) ?_
    refine am_is_ct ?_
    refine am_if_eq 6 18 dX12_isNone_6 rfl (fun c6 => ?_) (fun c6 => absurd (by decide) c6)
    refine am_iconst 18 (v := 1) dX12_isNone_18 (by decide) ?_
    refine am_goto 19 (tgt := 23) dX12_isNone_19 rfl ?_
    exact am_ireturn 23 dX12_isNone_23 rfl rfl ⟨rfl, rfl, rfl⟩
theorem s_rofCellNow {c j : Nat} (s : r_M m n f κ sz G th h di li cs w b) (hW : r_W f v u sig) (hc : c < 48) (hj : j ≤ 4) : AM mX12_ofCellNow 0 0 [.ref m, .int (nI c), .int (nI j), .ref v] n f (fun o n' f' => n = n' ∧ f = f' ∧ ∃ x, o = .inl (some (.int x))) := by
  obtain ⟨⟨e0, -⟩, e1, e2⟩ := id s
  unfold r_m12 at e0
  obtain ⟨pk, v0, v1, v2, v3, v4⟩ := hW
  show AW mX12_ofCellNow 0 0 0 [some (.ref m), some (.int (nI c)), some (.int (nI j)), some (.ref v)] [] n f _
  have hcs : j = 0 ∨ j = 1 ∨ j = 2 ∨ j = 3 ∨ j = 4 := by omega
  rcases hcs with rfl | rfl | rfl | rfl | rfl
  · refine am_iload_n 0 dX12_ofCellNow_0 rfl ?_
    refine am_if_ne 1 18 dX12_ofCellNow_1 rfl (fun c1 => absurd c1 (by decide)) (fun c1 => ?_)
    refine am_aload_n 4 dX12_ofCellNow_4 rfl ?_
    refine am_getfield 5 dX12_ofCellNow_5 fX12_47 (by repeat (first | assumption | exact am_ue | refine am_un (by first | assumption | decide | omega) ?_)) rfl ?_
    refine am_aload_n 8 dX12_ofCellNow_8 rfl ?_
    refine am_getfield 9 dX12_ofCellNow_9 fX12_17 (by repeat (first | assumption | exact am_ue | refine am_un (by first | assumption | decide | omega) ?_)) rfl ?_
    refine am_iload_n 12 dX12_ofCellNow_12 rfl ?_
    refine am_iaload 13 dX12_ofCellNow_13 rfl (by repeat (first | assumption | exact am_ue | refine am_un (by first | assumption | decide | omega) ?_)) (am_ix hc (by decide)) ?_
    refine am_iadd 14 dX12_ofCellNow_14 ?_
    refine am_goto 15 (tgt := 73) dX12_ofCellNow_15 rfl ?_
    refine am_ireturn 73 dX12_ofCellNow_73 rfl rfl ?_
    exact ⟨rfl, rfl, _, rfl⟩
  · refine am_iload_n 0 dX12_ofCellNow_0 rfl ?_
    refine am_if_ne 1 18 dX12_ofCellNow_1 rfl (fun c1 => ?_) (fun c1 => absurd c1 (by decide))
    refine am_iload_n 18 dX12_ofCellNow_18 rfl ?_
    refine am_iconst 19 (v := 1) dX12_ofCellNow_19 (by decide) ?_
    refine am_icmp_ne 20 32 dX12_ofCellNow_20 rfl (fun c20 => absurd c20 (by decide)) (fun c20 => ?_)
    refine am_aload_n 23 dX12_ofCellNow_23 rfl ?_
    refine am_getfield 24 dX12_ofCellNow_24 fX12_13 (by repeat (first | assumption | exact am_ue | refine am_un (by first | assumption | decide | omega) ?_)) rfl ?_
    refine am_iload_n 27 dX12_ofCellNow_27 rfl ?_
    refine am_iaload 28 dX12_ofCellNow_28 rfl (by repeat (first | assumption | exact am_ue | refine am_un (by first | assumption | decide | omega) ?_)) (am_ix hc (by decide)) ?_
    refine am_goto 29 (tgt := 73) dX12_ofCellNow_29 rfl ?_
    refine am_ireturn 73 dX12_ofCellNow_73 rfl rfl ?_
    exact ⟨rfl, rfl, _, rfl⟩
  · refine am_iload_n 0 dX12_ofCellNow_0 rfl ?_
    refine am_if_ne 1 18 dX12_ofCellNow_1 rfl (fun c1 => ?_) (fun c1 => absurd c1 (by decide))
    refine am_iload_n 18 dX12_ofCellNow_18 rfl ?_
    refine am_iconst 19 (v := 1) dX12_ofCellNow_19 (by decide) ?_
    refine am_icmp_ne 20 32 dX12_ofCellNow_20 rfl (fun c20 => ?_) (fun c20 => absurd c20 (by decide))
    refine am_iload_n 32 dX12_ofCellNow_32 rfl ?_
    refine am_iconst 33 (v := 2) dX12_ofCellNow_33 (by decide) ?_
    refine am_icmp_ne 34 46 dX12_ofCellNow_34 rfl (fun c34 => absurd c34 (by decide)) (fun c34 => ?_)
    refine am_aload_n 37 dX12_ofCellNow_37 rfl ?_
    refine am_getfield 38 dX12_ofCellNow_38 fX12_239 (by repeat (first | assumption | exact am_ue | refine am_un (by first | assumption | decide | omega) ?_)) rfl ?_
    refine am_iload_n 41 dX12_ofCellNow_41 rfl ?_
    refine am_iaload 42 dX12_ofCellNow_42 rfl (by repeat (first | assumption | exact am_ue | refine am_un (by first | assumption | decide | omega) ?_)) (am_ix hc (by decide)) ?_
    refine am_goto 43 (tgt := 73) dX12_ofCellNow_43 rfl ?_
    refine am_ireturn 73 dX12_ofCellNow_73 rfl rfl ?_
    exact ⟨rfl, rfl, _, rfl⟩
  · refine am_iload_n 0 dX12_ofCellNow_0 rfl ?_
    refine am_if_ne 1 18 dX12_ofCellNow_1 rfl (fun c1 => ?_) (fun c1 => absurd c1 (by decide))
    refine am_iload_n 18 dX12_ofCellNow_18 rfl ?_
    refine am_iconst 19 (v := 1) dX12_ofCellNow_19 (by decide) ?_
    refine am_icmp_ne 20 32 dX12_ofCellNow_20 rfl (fun c20 => ?_) (fun c20 => absurd c20 (by decide))
    refine am_iload_n 32 dX12_ofCellNow_32 rfl ?_
    refine am_iconst 33 (v := 2) dX12_ofCellNow_33 (by decide) ?_
    refine am_icmp_ne 34 46 dX12_ofCellNow_34 rfl (fun c34 => ?_) (fun c34 => absurd c34 (by decide))
    refine am_iload_n 46 dX12_ofCellNow_46 rfl ?_
    refine am_iconst 47 (v := 3) dX12_ofCellNow_47 (by decide) ?_
    refine am_icmp_ne 48 67 dX12_ofCellNow_48 rfl (fun c48 => absurd c48 (by decide)) (fun c48 => ?_)
    refine am_aload_n 51 dX12_ofCellNow_51 rfl ?_
    refine am_iload_n 52 dX12_ofCellNow_52 rfl ?_
    refine am_V1 53 (mc' := 0) (ms' := 0) (rc := 0) (rs := 0) dX12_ofCellNow_53 lX12_242 ⟨by decide, by decide⟩ (by repeat (first | assumption | exact am_ue | refine am_un (by first | assumption | decide | omega) ?_)) (Nat.le_of_ble_eq_true rfl) (Nat.le_of_ble_eq_true rfl) (s_vTouched v0 v1 hc) ?_
    refine am_is_ct ?_
    refine am_if_eq 56 63 dX12_ofCellNow_56 rfl (fun c56 => ?_) (fun c56 => ?_)
    · refine am_iconst 63 (v := 0) dX12_ofCellNow_63 (by decide) ?_
      refine am_goto 64 (tgt := 73) dX12_ofCellNow_64 rfl ?_
      refine am_ireturn 73 dX12_ofCellNow_73 rfl rfl ?_
      exact ⟨rfl, rfl, _, rfl⟩
    · refine am_iconst 59 (v := 1) dX12_ofCellNow_59 (by decide) ?_
      refine am_goto 60 (tgt := 73) dX12_ofCellNow_60 rfl ?_
      refine am_ireturn 73 dX12_ofCellNow_73 rfl rfl ?_
      exact ⟨rfl, rfl, _, rfl⟩
  · refine am_iload_n 0 dX12_ofCellNow_0 rfl ?_
    refine am_if_ne 1 18 dX12_ofCellNow_1 rfl (fun c1 => ?_) (fun c1 => absurd c1 (by decide))
    refine am_iload_n 18 dX12_ofCellNow_18 rfl ?_
    refine am_iconst 19 (v := 1) dX12_ofCellNow_19 (by decide) ?_
    refine am_icmp_ne 20 32 dX12_ofCellNow_20 rfl (fun c20 => ?_) (fun c20 => absurd c20 (by decide))
    refine am_iload_n 32 dX12_ofCellNow_32 rfl ?_
    refine am_iconst 33 (v := 2) dX12_ofCellNow_33 (by decide) ?_
    refine am_icmp_ne 34 46 dX12_ofCellNow_34 rfl (fun c34 => ?_) (fun c34 => absurd c34 (by decide))
    refine am_iload_n 46 dX12_ofCellNow_46 rfl ?_
    refine am_iconst 47 (v := 3) dX12_ofCellNow_47 (by decide) ?_
    refine am_icmp_ne 48 67 dX12_ofCellNow_48 rfl (fun c48 => ?_) (fun c48 => absurd c48 (by decide))
    refine am_aload_n 67 dX12_ofCellNow_67 rfl ?_
    refine am_getfield 68 dX12_ofCellNow_68 fX12_245 (by repeat (first | assumption | exact am_ue | refine am_un (by first | assumption | decide | omega) ?_)) rfl ?_
    refine am_iload_n 71 dX12_ofCellNow_71 rfl ?_
    refine am_iaload 72 dX12_ofCellNow_72 rfl (by repeat (first | assumption | exact am_ue | refine am_un (by first | assumption | decide | omega) ?_)) (am_ix hc (by decide)) ?_
    refine am_ireturn 73 dX12_ofCellNow_73 rfl rfl ?_
    exact ⟨rfl, rfl, _, rfl⟩
theorem s_rofCell {x y d : Int32} (s : r_M m n f κ sz G th h di li cs w b) : AM mX12_ofCell 7 292 [.ref m, .int x, .int y, .int d] n f (r_sP m n f κ sz G h di li cs w b r_vI) := by
  obtain ⟨⟨e0, -⟩, -⟩ := id s
  unfold r_m12 at e0
  have hm5 := s.1.n5
  show AW mX12_ofCell 7 292 0 [some (.ref m), some (.int x), some (.int y), some (.int d)] [] n f _
  rcases r_glass x y with ⟨j, k, hj, hk, rfl, rfl⟩ | hx
  · by_cases hd : 0 ≤ d ∧ d ≤ 4
    · obtain ⟨i, hi, rfl⟩ := m_small_le 4 rfl (by decide) hd.1 hd.2
      refine am_aload_n 0 dX12_ofCell_0 rfl ?_
      refine am_iload_n 1 dX12_ofCell_1 rfl ?_
      refine am_iload_n 2 dX12_ofCell_2 rfl ?_
      refine am_S2 3 (mc' := 0) (ms' := 0) (rc := 7) (rs := 292) dX12_ofCell_3 lX12_75 ⟨by decide, by decide⟩ (Nat.le_of_ble_eq_true rfl) (Nat.le_of_ble_eq_true rfl) (s_isGlass_t hj hk) ?_
      refine am_is_ct ?_
      refine am_if_ne 6 13 dX12_ofCell_6 rfl (fun c6 => ?_) (fun c6 => absurd c6 (by decide))
      refine am_iconst 13 (v := 0) dX12_ofCell_13 (by decide) ?_
      refine am_iconst 14 (v := 1) dX12_ofCell_14 (by decide) ?_
      refine am_V2 15 (mc' := 0) (ms' := 0) (rc := 7) (rs := 292) dX12_ofCell_15 lX12_59 ⟨by decide, by decide⟩ e0 (Nat.le_of_ble_eq_true rfl) (Nat.le_of_ble_eq_true rfl) (s_rstart false (by decide) s) ?_
      rintro o n' f1 ⟨rfl, rfl, s1, g1⟩
      refine am_ctI ?_
      obtain ⟨⟨e0x, ⟨e3x, ewx⟩, earx, etyx⟩, e1x, e2x⟩ := id s1
      unfold r_m12 at e0x
      refine am_if_ne 18 43 dX12_ofCell_18 rfl (fun c18 => absurd c18 (by decide)) (fun c18 => ?_)
      refine am_aload_n 21 dX12_ofCell_21 rfl ?_
      refine am_iload_n 22 dX12_ofCell_22 rfl ?_
      refine am_iconst 23 (v := 0) dX12_ofCell_23 (by decide) ?_
      refine am_iconst 24 (v := 4) dX12_ofCell_24 (by decide) ?_
      refine am_S3 25 (mc' := 0) (ms' := 0) (rc := 7) (rs := 292) dX12_ofCell_25 lX12_3 ⟨by decide, by decide⟩ (Nat.le_of_ble_eq_true rfl) (Nat.le_of_ble_eq_true rfl) (s_isIn_t hd.1 hd.2) ?_
      refine am_is_ct ?_
      refine am_if_ne 28 35 dX12_ofCell_28 rfl (fun c28 => ?_) (fun c28 => absurd c28 (by decide))
      refine am_iconst 35 (v := 0) dX12_ofCell_35 (by decide) ?_
      refine am_iconst 36 (v := 2) dX12_ofCell_36 (by decide) ?_
      refine am_V2 37 (mc' := 0) (ms' := 0) (rc := 7) (rs := 292) dX12_ofCell_37 lX12_43 ⟨by decide, by decide⟩ e0x (Nat.le_of_ble_eq_true rfl) (Nat.le_of_ble_eq_true rfl) (s_rrefuse false (by decide) s1) ?_
      rintro o n' f2 ⟨rfl, rfl, s2, g2⟩
      refine am_ctI ?_
      obtain ⟨⟨e0y, ⟨e3y, ewy⟩, eary, etyy⟩, e1y, e2y⟩ := id s2
      unfold r_m12 at e0y
      refine am_if_eq 40 47 dX12_ofCell_40 rfl (fun c40 => ?_) (fun c40 => absurd (by decide) c40)
      refine am_aload_n 47 dX12_ofCell_47 rfl ?_
      refine am_iload_n 48 dX12_ofCell_48 rfl ?_
      refine am_iload_n 49 dX12_ofCell_49 rfl ?_
      refine am_S2 50 (mc' := 0) (ms' := 0) (rc := 7) (rs := 292) dX12_ofCell_50 lX12_79 ⟨by decide, by decide⟩ (Nat.le_of_ble_eq_true rfl) (Nat.le_of_ble_eq_true rfl) (s_cell) ?_
      refine am_is_ct ?_
      refine am_iload_n 53 dX12_ofCell_53 rfl ?_
      refine am_aload_n 54 dX12_ofCell_54 rfl ?_
      refine am_V0 55 (mc' := 7) (ms' := 292) (rc := 0) (rs := 0) dX12_ofCell_55 lX12_92 ⟨by decide, by decide⟩ e0y (Nat.le_of_ble_eq_true rfl) (Nat.le_of_ble_eq_true rfl) (s_rview s2) ?_
      rintro o n' f3 ⟨rfl, rfl, hW, e4⟩
      refine am_ctI ?_
      obtain ⟨s3, g3⟩ := s2.more (n' := n + 7) (by omega) e4
      obtain ⟨⟨e0z, ⟨e3z, ewz⟩, earz, etyz⟩, e1z, e2z⟩ := id s3
      unfold r_m12 at e0z
      refine am_V3 58 (mc' := 0) (ms' := 0) (rc := 0) (rs := 0) dX12_ofCell_58 lX12_248 ⟨by decide, by decide⟩ e0z (Nat.le_of_ble_eq_true rfl) (Nat.le_of_ble_eq_true rfl) (s_rofCellNow s3 hW (by omega) hi) ?_
      rintro o n' f' ⟨rfl, rfl, x, rfl⟩
      refine am_ctI ?_
      refine am_ireturn 61 dX12_ofCell_61 rfl rfl ?_
      exact ⟨by omega, _, _, rfl, ⟨_, rfl⟩, s3, ((g1.trans g2 (Nat.le_refl _)).trans g3 (Nat.le_refl _)).out⟩
    · refine am_aload_n 0 dX12_ofCell_0 rfl ?_
      refine am_iload_n 1 dX12_ofCell_1 rfl ?_
      refine am_iload_n 2 dX12_ofCell_2 rfl ?_
      refine am_S2 3 (mc' := 0) (ms' := 0) (rc := 7) (rs := 292) dX12_ofCell_3 lX12_75 ⟨by decide, by decide⟩ (Nat.le_of_ble_eq_true rfl) (Nat.le_of_ble_eq_true rfl) (s_isGlass_t hj hk) ?_
      refine am_is_ct ?_
      refine am_if_ne 6 13 dX12_ofCell_6 rfl (fun c6 => ?_) (fun c6 => absurd c6 (by decide))
      refine am_iconst 13 (v := 0) dX12_ofCell_13 (by decide) ?_
      refine am_iconst 14 (v := 1) dX12_ofCell_14 (by decide) ?_
      refine am_V2 15 (mc' := 0) (ms' := 0) (rc := 7) (rs := 292) dX12_ofCell_15 lX12_59 ⟨by decide, by decide⟩ e0 (Nat.le_of_ble_eq_true rfl) (Nat.le_of_ble_eq_true rfl) (s_rstart false (by decide) s) ?_
      rintro o n' f1 ⟨rfl, rfl, s1, g1⟩
      refine am_ctI ?_
      obtain ⟨⟨e0x, ⟨e3x, ewx⟩, earx, etyx⟩, e1x, e2x⟩ := id s1
      unfold r_m12 at e0x
      refine am_if_ne 18 43 dX12_ofCell_18 rfl (fun c18 => absurd c18 (by decide)) (fun c18 => ?_)
      refine am_aload_n 21 dX12_ofCell_21 rfl ?_
      refine am_iload_n 22 dX12_ofCell_22 rfl ?_
      refine am_iconst 23 (v := 0) dX12_ofCell_23 (by decide) ?_
      refine am_iconst 24 (v := 4) dX12_ofCell_24 (by decide) ?_
      refine am_S3 25 (mc' := 0) (ms' := 0) (rc := 7) (rs := 292) dX12_ofCell_25 lX12_3 ⟨by decide, by decide⟩ (Nat.le_of_ble_eq_true rfl) (Nat.le_of_ble_eq_true rfl) (s_isIn_f hd) ?_
      refine am_is_ct ?_
      refine am_if_ne 28 35 dX12_ofCell_28 rfl (fun c28 => absurd c28 (by decide)) (fun c28 => ?_)
      refine am_iconst 31 (v := 1) dX12_ofCell_31 (by decide) ?_
      refine am_goto 32 (tgt := 36) dX12_ofCell_32 rfl ?_
      refine am_iconst 36 (v := 2) dX12_ofCell_36 (by decide) ?_
      refine am_V2 37 (mc' := 0) (ms' := 0) (rc := 7) (rs := 292) dX12_ofCell_37 lX12_43 ⟨by decide, by decide⟩ e0x (Nat.le_of_ble_eq_true rfl) (Nat.le_of_ble_eq_true rfl) (s_rrefuse true (by decide) s1) ?_
      rintro o n' f2 ⟨rfl, rfl, s2, g2⟩
      refine am_ctI ?_
      obtain ⟨⟨e0y, ⟨e3y, ewy⟩, eary, etyy⟩, e1y, e2y⟩ := id s2
      unfold r_m12 at e0y
      refine am_if_eq 40 47 dX12_ofCell_40 rfl (fun c40 => absurd c40 (by decide)) (fun c40 => ?_)
      refine am_iconst 43 (v := 0) dX12_ofCell_43 (by decide) ?_
      refine am_goto 44 (tgt := 61) dX12_ofCell_44 rfl ?_
      refine am_ireturn 61 dX12_ofCell_61 rfl rfl ?_
      exact ⟨Nat.le_refl _, _, _, rfl, ⟨_, rfl⟩, s2, (g1.trans g2 (Nat.le_refl _)).out⟩
  · refine am_aload_n 0 dX12_ofCell_0 rfl ?_
    refine am_iload_n 1 dX12_ofCell_1 rfl ?_
    refine am_iload_n 2 dX12_ofCell_2 rfl ?_
    refine am_S2 3 (mc' := 0) (ms' := 0) (rc := 7) (rs := 292) dX12_ofCell_3 lX12_75 ⟨by decide, by decide⟩ (Nat.le_of_ble_eq_true rfl) (Nat.le_of_ble_eq_true rfl) (s_isGlass_f hx) ?_
    refine am_is_ct ?_
    refine am_if_ne 6 13 dX12_ofCell_6 rfl (fun c6 => absurd c6 (by decide)) (fun c6 => ?_)
    refine am_iconst 9 (v := 1) dX12_ofCell_9 (by decide) ?_
    refine am_goto 10 (tgt := 14) dX12_ofCell_10 rfl ?_
    refine am_iconst 14 (v := 1) dX12_ofCell_14 (by decide) ?_
    refine am_V2 15 (mc' := 0) (ms' := 0) (rc := 7) (rs := 292) dX12_ofCell_15 lX12_59 ⟨by decide, by decide⟩ e0 (Nat.le_of_ble_eq_true rfl) (Nat.le_of_ble_eq_true rfl) (s_rstart true (by decide) s) ?_
    rintro o n' f1 ⟨rfl, rfl, s1, g1⟩
    refine am_ctI ?_
    obtain ⟨⟨e0x, ⟨e3x, ewx⟩, earx, etyx⟩, e1x, e2x⟩ := id s1
    unfold r_m12 at e0x
    refine am_if_ne 18 43 dX12_ofCell_18 rfl (fun c18 => ?_) (fun c18 => absurd c18 (by decide))
    refine am_iconst 43 (v := 0) dX12_ofCell_43 (by decide) ?_
    refine am_goto 44 (tgt := 61) dX12_ofCell_44 rfl ?_
    refine am_ireturn 61 dX12_ofCell_61 rfl rfl ?_
    exact ⟨Nat.le_refl _, _, _, rfl, ⟨_, rfl⟩, s1, g1.out⟩
theorem s_rofPeakNow {k j : Nat} (hW : r_W f v u sig) (hs : ∀ x, x < 48 → (sig x).toInt.natAbs ≤ 300000) (hk : k < (m_pks sig 48).length) (hj : j ≤ 4) : AM mX12_ofPeakNow 0 0 [.int (nI k), .int (nI j), .ref v] n f (fun o n' f' => n = n' ∧ f = f' ∧ ∃ x, o = .inl (some (.int x))) := by
  have hW0 := hW
  obtain ⟨pk, v0, v1, v2, v3, v4⟩ := hW
  have hPl := m_pks_len (sig := sig) (k := 48)
  obtain ⟨c48, c20⟩ := m_pks48 hk
  have hpk := v4 k hk
  have hk48 : k < 48 := by omega
  generalize (m_pks sig 48).getD k 0 = c at c48 c20 hpk
  show AW mX12_ofPeakNow 0 0 0 [some (.int (nI k)), some (.int (nI j)), some (.ref v), none] [] n f _
  have hcs : j = 0 ∨ j = 1 ∨ j = 2 ∨ j = 3 ∨ j = 4 := by omega
  rcases hcs with rfl | rfl | rfl | rfl | rfl
  · refine am_aload_n 0 dX12_ofPeakNow_0 rfl ?_
    refine am_getfield 1 dX12_ofPeakNow_1 fX12_192 (by repeat (first | assumption | exact am_ue | refine am_un (by first | assumption | decide | omega) ?_)) rfl ?_
    refine am_iload_n 4 dX12_ofPeakNow_4 rfl ?_
    refine am_iaload 5 dX12_ofPeakNow_5 rfl (by repeat (first | assumption | exact am_ue | refine am_un (by first | assumption | decide | omega) ?_)) (am_ix hk48 (by decide)) ?_
    rw [nI_clamp (n := k) (by omega), hpk]
    refine am_istore_n 6 dX12_ofPeakNow_6 (by decide) ?_
    refine am_iload_n 7 dX12_ofPeakNow_7 rfl ?_
    refine am_if_ne 8 15 dX12_ofPeakNow_8 rfl (fun c8 => absurd c8 (by decide)) (fun c8 => ?_)
    refine am_iload_n 11 dX12_ofPeakNow_11 rfl ?_
    refine am_goto 12 (tgt := 65) dX12_ofPeakNow_12 rfl ?_
    refine am_ireturn 65 dX12_ofPeakNow_65 rfl rfl ?_
    exact ⟨rfl, rfl, _, rfl⟩
  · refine am_aload_n 0 dX12_ofPeakNow_0 rfl ?_
    refine am_getfield 1 dX12_ofPeakNow_1 fX12_192 (by repeat (first | assumption | exact am_ue | refine am_un (by first | assumption | decide | omega) ?_)) rfl ?_
    refine am_iload_n 4 dX12_ofPeakNow_4 rfl ?_
    refine am_iaload 5 dX12_ofPeakNow_5 rfl (by repeat (first | assumption | exact am_ue | refine am_un (by first | assumption | decide | omega) ?_)) (am_ix hk48 (by decide)) ?_
    rw [nI_clamp (n := k) (by omega), hpk]
    refine am_istore_n 6 dX12_ofPeakNow_6 (by decide) ?_
    refine am_iload_n 7 dX12_ofPeakNow_7 rfl ?_
    refine am_if_ne 8 15 dX12_ofPeakNow_8 rfl (fun c8 => ?_) (fun c8 => absurd c8 (by decide))
    refine am_iload_n 15 dX12_ofPeakNow_15 rfl ?_
    refine am_iconst 16 (v := 3) dX12_ofPeakNow_16 (by decide) ?_
    refine am_icmp_ge 17 38 dX12_ofPeakNow_17 rfl (fun c17 => absurd c17 (by decide)) (fun c17 => ?_)
    refine am_aload_n 20 dX12_ofPeakNow_20 rfl ?_
    refine am_iload_n 21 dX12_ofPeakNow_21 rfl ?_
    refine am_iload_n 22 dX12_ofPeakNow_22 rfl ?_
    refine am_iconst 23 (v := 2) dX12_ofPeakNow_23 (by decide) ?_
    refine am_icmp_ne 24 31 dX12_ofPeakNow_24 rfl (fun c24 => ?_) (fun c24 => absurd c24 (by decide))
    refine am_iconst 31 (v := 0) dX12_ofPeakNow_31 (by decide) ?_
    refine am_V2 32 (mc' := 0) (ms' := 0) (rc := 0) (rs := 0) dX12_ofPeakNow_32 lX12_202 ⟨by decide, by decide⟩ (by repeat (first | assumption | exact am_ue | refine am_un (by first | assumption | decide | omega) ?_)) (Nat.le_of_ble_eq_true rfl) (Nat.le_of_ble_eq_true rfl) (s_place (y := false) hW0 c48 c20 hs) ?_
    refine am_is_ct ?_
    refine am_goto 35 (tgt := 65) dX12_ofPeakNow_35 rfl ?_
    refine am_ireturn 65 dX12_ofPeakNow_65 rfl rfl ?_
    exact ⟨rfl, rfl, _, rfl⟩
  · refine am_aload_n 0 dX12_ofPeakNow_0 rfl ?_
    refine am_getfield 1 dX12_ofPeakNow_1 fX12_192 (by repeat (first | assumption | exact am_ue | refine am_un (by first | assumption | decide | omega) ?_)) rfl ?_
    refine am_iload_n 4 dX12_ofPeakNow_4 rfl ?_
    refine am_iaload 5 dX12_ofPeakNow_5 rfl (by repeat (first | assumption | exact am_ue | refine am_un (by first | assumption | decide | omega) ?_)) (am_ix hk48 (by decide)) ?_
    rw [nI_clamp (n := k) (by omega), hpk]
    refine am_istore_n 6 dX12_ofPeakNow_6 (by decide) ?_
    refine am_iload_n 7 dX12_ofPeakNow_7 rfl ?_
    refine am_if_ne 8 15 dX12_ofPeakNow_8 rfl (fun c8 => ?_) (fun c8 => absurd c8 (by decide))
    refine am_iload_n 15 dX12_ofPeakNow_15 rfl ?_
    refine am_iconst 16 (v := 3) dX12_ofPeakNow_16 (by decide) ?_
    refine am_icmp_ge 17 38 dX12_ofPeakNow_17 rfl (fun c17 => absurd c17 (by decide)) (fun c17 => ?_)
    refine am_aload_n 20 dX12_ofPeakNow_20 rfl ?_
    refine am_iload_n 21 dX12_ofPeakNow_21 rfl ?_
    refine am_iload_n 22 dX12_ofPeakNow_22 rfl ?_
    refine am_iconst 23 (v := 2) dX12_ofPeakNow_23 (by decide) ?_
    refine am_icmp_ne 24 31 dX12_ofPeakNow_24 rfl (fun c24 => absurd c24 (by decide)) (fun c24 => ?_)
    refine am_iconst 27 (v := 1) dX12_ofPeakNow_27 (by decide) ?_
    refine am_goto 28 (tgt := 32) dX12_ofPeakNow_28 rfl ?_
    refine am_V2 32 (mc' := 0) (ms' := 0) (rc := 0) (rs := 0) dX12_ofPeakNow_32 lX12_202 ⟨by decide, by decide⟩ (by repeat (first | assumption | exact am_ue | refine am_un (by first | assumption | decide | omega) ?_)) (Nat.le_of_ble_eq_true rfl) (Nat.le_of_ble_eq_true rfl) (s_place (y := true) hW0 c48 c20 hs) ?_
    refine am_is_ct ?_
    refine am_goto 35 (tgt := 65) dX12_ofPeakNow_35 rfl ?_
    refine am_ireturn 65 dX12_ofPeakNow_65 rfl rfl ?_
    exact ⟨rfl, rfl, _, rfl⟩
  · refine am_aload_n 0 dX12_ofPeakNow_0 rfl ?_
    refine am_getfield 1 dX12_ofPeakNow_1 fX12_192 (by repeat (first | assumption | exact am_ue | refine am_un (by first | assumption | decide | omega) ?_)) rfl ?_
    refine am_iload_n 4 dX12_ofPeakNow_4 rfl ?_
    refine am_iaload 5 dX12_ofPeakNow_5 rfl (by repeat (first | assumption | exact am_ue | refine am_un (by first | assumption | decide | omega) ?_)) (am_ix hk48 (by decide)) ?_
    rw [nI_clamp (n := k) (by omega), hpk]
    refine am_istore_n 6 dX12_ofPeakNow_6 (by decide) ?_
    refine am_iload_n 7 dX12_ofPeakNow_7 rfl ?_
    refine am_if_ne 8 15 dX12_ofPeakNow_8 rfl (fun c8 => ?_) (fun c8 => absurd c8 (by decide))
    refine am_iload_n 15 dX12_ofPeakNow_15 rfl ?_
    refine am_iconst 16 (v := 3) dX12_ofPeakNow_16 (by decide) ?_
    refine am_icmp_ge 17 38 dX12_ofPeakNow_17 rfl (fun c17 => ?_) (fun c17 => absurd (by decide) c17)
    refine am_iload_n 38 dX12_ofPeakNow_38 rfl ?_
    refine am_iconst 39 (v := 3) dX12_ofPeakNow_39 (by decide) ?_
    refine am_icmp_ne 40 52 dX12_ofPeakNow_40 rfl (fun c40 => absurd c40 (by decide)) (fun c40 => ?_)
    refine am_aload_n 43 dX12_ofPeakNow_43 rfl ?_
    refine am_getfield 44 dX12_ofPeakNow_44 fX12_245 (by repeat (first | assumption | exact am_ue | refine am_un (by first | assumption | decide | omega) ?_)) rfl ?_
    refine am_iload_n 47 dX12_ofPeakNow_47 rfl ?_
    refine am_iaload 48 dX12_ofPeakNow_48 rfl (by repeat (first | assumption | exact am_ue | refine am_un (by first | assumption | decide | omega) ?_)) (am_ix c48 (by decide)) ?_
    refine am_goto 49 (tgt := 65) dX12_ofPeakNow_49 rfl ?_
    refine am_ireturn 65 dX12_ofPeakNow_65 rfl rfl ?_
    exact ⟨rfl, rfl, _, rfl⟩
  · refine am_aload_n 0 dX12_ofPeakNow_0 rfl ?_
    refine am_getfield 1 dX12_ofPeakNow_1 fX12_192 (by repeat (first | assumption | exact am_ue | refine am_un (by first | assumption | decide | omega) ?_)) rfl ?_
    refine am_iload_n 4 dX12_ofPeakNow_4 rfl ?_
    refine am_iaload 5 dX12_ofPeakNow_5 rfl (by repeat (first | assumption | exact am_ue | refine am_un (by first | assumption | decide | omega) ?_)) (am_ix hk48 (by decide)) ?_
    rw [nI_clamp (n := k) (by omega), hpk]
    refine am_istore_n 6 dX12_ofPeakNow_6 (by decide) ?_
    refine am_iload_n 7 dX12_ofPeakNow_7 rfl ?_
    refine am_if_ne 8 15 dX12_ofPeakNow_8 rfl (fun c8 => ?_) (fun c8 => absurd c8 (by decide))
    refine am_iload_n 15 dX12_ofPeakNow_15 rfl ?_
    refine am_iconst 16 (v := 3) dX12_ofPeakNow_16 (by decide) ?_
    refine am_icmp_ge 17 38 dX12_ofPeakNow_17 rfl (fun c17 => ?_) (fun c17 => absurd (by decide) c17)
    refine am_iload_n 38 dX12_ofPeakNow_38 rfl ?_
    refine am_iconst 39 (v := 3) dX12_ofPeakNow_39 (by decide) ?_
    refine am_icmp_ne 40 52 dX12_ofPeakNow_40 rfl (fun c40 => ?_) (fun c40 => absurd c40 (by decide))
    refine am_aload_n 52 dX12_ofPeakNow_52 rfl ?_
    refine am_iload_n 53 dX12_ofPeakNow_53 rfl ?_
    refine am_V1 54 (mc' := 0) (ms' := 0) (rc := 0) (rs := 0) dX12_ofPeakNow_54 lX12_195 ⟨by decide, by decide⟩ (by repeat (first | assumption | exact am_ue | refine am_un (by first | assumption | decide | omega) ?_)) (Nat.le_of_ble_eq_true rfl) (Nat.le_of_ble_eq_true rfl) (s_visPalm hW0 c48) ?_
    refine am_is_ct ?_
    refine am_if_eq 57 64 dX12_ofPeakNow_57 rfl (fun c57 => ?_) (fun c57 => ?_)
    · refine am_iconst 64 (v := 0) dX12_ofPeakNow_64 (by decide) ?_
      refine am_ireturn 65 dX12_ofPeakNow_65 rfl rfl ?_
      exact ⟨rfl, rfl, _, rfl⟩
    · refine am_iconst 60 (v := 1) dX12_ofPeakNow_60 (by decide) ?_
      refine am_goto 61 (tgt := 65) dX12_ofPeakNow_61 rfl ?_
      refine am_ireturn 65 dX12_ofPeakNow_65 rfl rfl ?_
      exact ⟨rfl, rfl, _, rfl⟩
/-- a number below P, or one that isn't -/
theorem r_below (P : Nat) (x : Int32) (hP : P < 2 ^ 30) : (∃ k, k < P ∧ x = nI k ∧ 0 ≤ x ∧ x ≤ nI P - 1) ∨ ¬ (0 ≤ x ∧ x ≤ nI P - 1) := by
  by_cases q : 0 ≤ x ∧ x ≤ nI P - 1
  · have h1 := Int32.le_iff_toInt_le.mp q.1
    have h2 := Int32.le_iff_toInt_le.mp q.2
    rw [show (0 : Int32).toInt = 0 from rfl] at h1
    rw [Int32.toInt_sub, nI_toInt (by omega), show (1 : Int32).toInt = 1 from rfl, Int.bmod_eq_of_le (by omega) (by omega)] at h2
    exact Or.inl ⟨x.toInt.toNat, by omega, Int32.toInt_inj.mp (by rw [nI_toInt (by omega)]; omega), q⟩
  · exact Or.inr q
theorem s_rofPeak {x d : Int32} (s : r_M m n f κ sz G th h di li cs w b) (hs : ∀ x, x < 48 → (h + w x - b x).toInt.natAbs ≤ 300000) : AM mX12_ofPeak 7 292 [.ref m, .int x, .int d] n f (r_sP m n f κ sz G h di li cs w b r_vI) := by
  obtain ⟨⟨e0, -⟩, -⟩ := id s
  unfold r_m12 at e0
  have hm5 := s.1.n5
  have hPl := m_pks_len (sig := fun k => h + w k - b k) (k := 48)
  have hvw := s_rview s
  generalize hQ : r_sP m n f κ sz G h di li cs w b r_vI = Q
  generalize hsg : (fun k => h + w k - b k) = sig at hPl hvw
  have hs' : ∀ x, x < 48 → (sig x).toInt.natAbs ≤ 300000 := fun x hx => by rw [← hsg]; exact hs x hx
  show AW mX12_ofPeak 7 292 0 [some (.ref m), some (.int x), some (.int d), none] [] n f Q
  refine am_aload_n 0 dX12_ofPeak_0 rfl ?_
  refine am_V0 1 (mc' := 7) (ms' := 292) (rc := 0) (rs := 0) dX12_ofPeak_1 lX12_92 ⟨by decide, by decide⟩ e0 (Nat.le_of_ble_eq_true rfl) (Nat.le_of_ble_eq_true rfl) (hvw) ?_
  rintro o n' f3 ⟨rfl, rfl, hW, e4⟩
  refine am_ctI ?_
  obtain ⟨s3, g3⟩ := s.more (n' := n + 7) (by omega) e4
  obtain ⟨⟨e0z, -⟩, -⟩ := id s3
  unfold r_m12 at e0z
  obtain ⟨pk, v0, -⟩ := id hW
  subst hQ
  rcases r_below (m_pks sig 48).length x (by omega) with ⟨k, hk, rfl, hk1⟩ | hx
  · by_cases hd : 0 ≤ d ∧ d ≤ 4
    · obtain ⟨i, hi, rfl⟩ := m_small_le 4 rfl (by decide) hd.1 hd.2
      refine am_astore_n 4 dX12_ofPeak_4 (by decide) ?_
      refine am_aload_n 5 dX12_ofPeak_5 rfl ?_
      refine am_iload_n 6 dX12_ofPeak_6 rfl ?_
      refine am_iconst 7 (v := 0) dX12_ofPeak_7 (by decide) ?_
      refine am_aload_n 8 dX12_ofPeak_8 rfl ?_
      refine am_getfield 9 dX12_ofPeak_9 fX12_212 v0 rfl ?_
      refine am_iconst 12 (v := 1) dX12_ofPeak_12 (by decide) ?_
      refine am_isub 13 dX12_ofPeak_13 ?_
      refine am_S3 14 (mc' := 0) (ms' := 0) (rc := 0) (rs := 0) dX12_ofPeak_14 lX12_3 ⟨by decide, by decide⟩ (Nat.le_of_ble_eq_true rfl) (Nat.le_of_ble_eq_true rfl) (s_isIn_t hk1.1 hk1.2) ?_
      refine am_is_ct ?_
      refine am_if_ne 17 24 dX12_ofPeak_17 rfl (fun c17 => ?_) (fun c17 => absurd c17 (by decide))
      refine am_iconst 24 (v := 0) dX12_ofPeak_24 (by decide) ?_
      refine am_iconst 25 (v := 1) dX12_ofPeak_25 (by decide) ?_
      refine am_V2 26 (mc' := 0) (ms' := 0) (rc := 0) (rs := 0) dX12_ofPeak_26 lX12_59 ⟨by decide, by decide⟩ e0z (Nat.le_of_ble_eq_true rfl) (Nat.le_of_ble_eq_true rfl) (s_rstart false (by decide) s3) ?_
      rintro o n' f1 ⟨rfl, rfl, s1, g1⟩
      refine am_ctI ?_
      obtain ⟨⟨e0x, ⟨e3x, ewx⟩, earx, etyx⟩, e1x, e2x⟩ := id s1
      unfold r_m12 at e0x
      refine am_if_ne 29 54 dX12_ofPeak_29 rfl (fun c29 => absurd c29 (by decide)) (fun c29 => ?_)
      refine am_aload_n 32 dX12_ofPeak_32 rfl ?_
      refine am_iload_n 33 dX12_ofPeak_33 rfl ?_
      refine am_iconst 34 (v := 0) dX12_ofPeak_34 (by decide) ?_
      refine am_iconst 35 (v := 4) dX12_ofPeak_35 (by decide) ?_
      refine am_S3 36 (mc' := 0) (ms' := 0) (rc := 0) (rs := 0) dX12_ofPeak_36 lX12_3 ⟨by decide, by decide⟩ (Nat.le_of_ble_eq_true rfl) (Nat.le_of_ble_eq_true rfl) (s_isIn_t hd.1 hd.2) ?_
      refine am_is_ct ?_
      refine am_if_ne 39 46 dX12_ofPeak_39 rfl (fun c39 => ?_) (fun c39 => absurd c39 (by decide))
      refine am_iconst 46 (v := 0) dX12_ofPeak_46 (by decide) ?_
      refine am_iconst 47 (v := 2) dX12_ofPeak_47 (by decide) ?_
      refine am_V2 48 (mc' := 0) (ms' := 0) (rc := 0) (rs := 0) dX12_ofPeak_48 lX12_43 ⟨by decide, by decide⟩ e0x (Nat.le_of_ble_eq_true rfl) (Nat.le_of_ble_eq_true rfl) (s_rrefuse false (by decide) s1) ?_
      rintro o n' f2 ⟨rfl, rfl, s2, g2⟩
      refine am_ctI ?_
      obtain ⟨⟨e0y, ⟨e3y, ewy⟩, eary, etyy⟩, e1y, e2y⟩ := id s2
      unfold r_m12 at e0y
      refine am_if_eq 51 58 dX12_ofPeak_51 rfl (fun c51 => ?_) (fun c51 => absurd (by decide) c51)
      refine am_iload_n 58 dX12_ofPeak_58 rfl ?_
      refine am_iload_n 59 dX12_ofPeak_59 rfl ?_
      refine am_aload_n 60 dX12_ofPeak_60 rfl ?_
      refine am_S3 61 (mc' := 0) (ms' := 0) (rc := 0) (rs := 0) dX12_ofPeak_61 lX12_252 ⟨by decide, by decide⟩ (Nat.le_of_ble_eq_true rfl) (Nat.le_of_ble_eq_true rfl) (s_rofPeakNow (hW.on fun x hx => (g1.trans g2 (Nat.le_refl _)).2 x (by omega) (Classical.byContradiction fun q => by have := ((s.1.2.2.2 x).1 q).2; omega) (by omega) (by omega)) hs' hk hi) ?_
      rintro o n' f' ⟨rfl, rfl, x, rfl⟩
      refine am_ctI ?_
      refine am_ireturn 64 dX12_ofPeak_64 rfl rfl ?_
      exact ⟨by omega, _, _, rfl, ⟨_, rfl⟩, s2, ((g3.trans g1 (by omega)).trans g2 (by omega)).out⟩
    · refine am_astore_n 4 dX12_ofPeak_4 (by decide) ?_
      refine am_aload_n 5 dX12_ofPeak_5 rfl ?_
      refine am_iload_n 6 dX12_ofPeak_6 rfl ?_
      refine am_iconst 7 (v := 0) dX12_ofPeak_7 (by decide) ?_
      refine am_aload_n 8 dX12_ofPeak_8 rfl ?_
      refine am_getfield 9 dX12_ofPeak_9 fX12_212 v0 rfl ?_
      refine am_iconst 12 (v := 1) dX12_ofPeak_12 (by decide) ?_
      refine am_isub 13 dX12_ofPeak_13 ?_
      refine am_S3 14 (mc' := 0) (ms' := 0) (rc := 0) (rs := 0) dX12_ofPeak_14 lX12_3 ⟨by decide, by decide⟩ (Nat.le_of_ble_eq_true rfl) (Nat.le_of_ble_eq_true rfl) (s_isIn_t hk1.1 hk1.2) ?_
      refine am_is_ct ?_
      refine am_if_ne 17 24 dX12_ofPeak_17 rfl (fun c17 => ?_) (fun c17 => absurd c17 (by decide))
      refine am_iconst 24 (v := 0) dX12_ofPeak_24 (by decide) ?_
      refine am_iconst 25 (v := 1) dX12_ofPeak_25 (by decide) ?_
      refine am_V2 26 (mc' := 0) (ms' := 0) (rc := 0) (rs := 0) dX12_ofPeak_26 lX12_59 ⟨by decide, by decide⟩ e0z (Nat.le_of_ble_eq_true rfl) (Nat.le_of_ble_eq_true rfl) (s_rstart false (by decide) s3) ?_
      rintro o n' f1 ⟨rfl, rfl, s1, g1⟩
      refine am_ctI ?_
      obtain ⟨⟨e0x, ⟨e3x, ewx⟩, earx, etyx⟩, e1x, e2x⟩ := id s1
      unfold r_m12 at e0x
      refine am_if_ne 29 54 dX12_ofPeak_29 rfl (fun c29 => absurd c29 (by decide)) (fun c29 => ?_)
      refine am_aload_n 32 dX12_ofPeak_32 rfl ?_
      refine am_iload_n 33 dX12_ofPeak_33 rfl ?_
      refine am_iconst 34 (v := 0) dX12_ofPeak_34 (by decide) ?_
      refine am_iconst 35 (v := 4) dX12_ofPeak_35 (by decide) ?_
      refine am_S3 36 (mc' := 0) (ms' := 0) (rc := 0) (rs := 0) dX12_ofPeak_36 lX12_3 ⟨by decide, by decide⟩ (Nat.le_of_ble_eq_true rfl) (Nat.le_of_ble_eq_true rfl) (s_isIn_f hd) ?_
      refine am_is_ct ?_
      refine am_if_ne 39 46 dX12_ofPeak_39 rfl (fun c39 => absurd c39 (by decide)) (fun c39 => ?_)
      refine am_iconst 42 (v := 1) dX12_ofPeak_42 (by decide) ?_
      refine am_goto 43 (tgt := 47) dX12_ofPeak_43 rfl ?_
      refine am_iconst 47 (v := 2) dX12_ofPeak_47 (by decide) ?_
      refine am_V2 48 (mc' := 0) (ms' := 0) (rc := 0) (rs := 0) dX12_ofPeak_48 lX12_43 ⟨by decide, by decide⟩ e0x (Nat.le_of_ble_eq_true rfl) (Nat.le_of_ble_eq_true rfl) (s_rrefuse true (by decide) s1) ?_
      rintro o n' f2 ⟨rfl, rfl, s2, g2⟩
      refine am_ctI ?_
      obtain ⟨⟨e0y, ⟨e3y, ewy⟩, eary, etyy⟩, e1y, e2y⟩ := id s2
      unfold r_m12 at e0y
      refine am_if_eq 51 58 dX12_ofPeak_51 rfl (fun c51 => absurd c51 (by decide)) (fun c51 => ?_)
      refine am_iconst 54 (v := 0) dX12_ofPeak_54 (by decide) ?_
      refine am_goto 55 (tgt := 64) dX12_ofPeak_55 rfl ?_
      refine am_ireturn 64 dX12_ofPeak_64 rfl rfl ?_
      exact ⟨by omega, _, _, rfl, ⟨_, rfl⟩, s2, ((g3.trans g1 (by omega)).trans g2 (by omega)).out⟩
  · refine am_astore_n 4 dX12_ofPeak_4 (by decide) ?_
    refine am_aload_n 5 dX12_ofPeak_5 rfl ?_
    refine am_iload_n 6 dX12_ofPeak_6 rfl ?_
    refine am_iconst 7 (v := 0) dX12_ofPeak_7 (by decide) ?_
    refine am_aload_n 8 dX12_ofPeak_8 rfl ?_
    refine am_getfield 9 dX12_ofPeak_9 fX12_212 v0 rfl ?_
    refine am_iconst 12 (v := 1) dX12_ofPeak_12 (by decide) ?_
    refine am_isub 13 dX12_ofPeak_13 ?_
    refine am_S3 14 (mc' := 0) (ms' := 0) (rc := 0) (rs := 0) dX12_ofPeak_14 lX12_3 ⟨by decide, by decide⟩ (Nat.le_of_ble_eq_true rfl) (Nat.le_of_ble_eq_true rfl) (s_isIn_f hx) ?_
    refine am_is_ct ?_
    refine am_if_ne 17 24 dX12_ofPeak_17 rfl (fun c17 => absurd c17 (by decide)) (fun c17 => ?_)
    refine am_iconst 20 (v := 1) dX12_ofPeak_20 (by decide) ?_
    refine am_goto 21 (tgt := 25) dX12_ofPeak_21 rfl ?_
    refine am_iconst 25 (v := 1) dX12_ofPeak_25 (by decide) ?_
    refine am_V2 26 (mc' := 0) (ms' := 0) (rc := 0) (rs := 0) dX12_ofPeak_26 lX12_59 ⟨by decide, by decide⟩ e0z (Nat.le_of_ble_eq_true rfl) (Nat.le_of_ble_eq_true rfl) (s_rstart true (by decide) s3) ?_
    rintro o n' f1 ⟨rfl, rfl, s1, g1⟩
    refine am_ctI ?_
    obtain ⟨⟨e0x, ⟨e3x, ewx⟩, earx, etyx⟩, e1x, e2x⟩ := id s1
    unfold r_m12 at e0x
    refine am_if_ne 29 54 dX12_ofPeak_29 rfl (fun c29 => ?_) (fun c29 => absurd c29 (by decide))
    refine am_iconst 54 (v := 0) dX12_ofPeak_54 (by decide) ?_
    refine am_goto 55 (tgt := 64) dX12_ofPeak_55 rfl ?_
    refine am_ireturn 64 dX12_ofPeak_64 rfl rfl ?_
    exact ⟨by omega, _, _, rfl, ⟨_, rfl⟩, s1, (g3.trans g1 (by omega)).out⟩
theorem s_rofContactNow {c j ap : Nat} {kk : m_K} (h0 : f c = .inr (9, r_kF ap kk)) (hc : c < n) (hj : j ≤ 5) : AM mX12_ofContactNow 1 6 [.ref c, .int (nI j)] n f (fun o n' f' => n' = n + 1 ∧ (∃ x, o = .inl (some (.int x))) ∧ ∀ x, x < n → f' x = f x) := by
  unfold r_kF at h0
  show AW mX12_ofContactNow 1 6 0 [some (.ref c), some (.int (nI j)), none] [] n f _
  refine am_bipush 0 (v := 6) dX12_ofContactNow_0 (by decide) ?_
  refine am_newints 2 (t := 0) (N := 6) (rc := 0) (rs := 0) dX12_ofContactNow_2 ac_int rfl (by decide) (by decide) (by decide) ?_
  refine am_dup 4 dX12_ofContactNow_4 rfl ?_
  refine am_iconst 5 (v := 0) dX12_ofContactNow_5 (by decide) ?_
  refine am_aload_n 6 dX12_ofContactNow_6 rfl ?_
  refine am_getfield 7 dX12_ofContactNow_7 fX12_255 (by repeat (first | assumption | exact am_ue | refine am_un (by first | assumption | decide | omega) ?_)) rfl ?_
  refine am_iastore 10 dX12_ofContactNow_10 rfl (by repeat (first | assumption | exact am_ue | refine am_un (by first | assumption | decide | omega) ?_)) (am_ix (c := 0) (by decide) (by decide)) ?_
  refine am_dup 11 dX12_ofContactNow_11 rfl ?_
  refine am_iconst 12 (v := 1) dX12_ofContactNow_12 (by decide) ?_
  refine am_aload_n 13 dX12_ofContactNow_13 rfl ?_
  refine am_getfield 14 dX12_ofContactNow_14 fX12_258 (by repeat (first | assumption | exact am_ue | refine am_un (by first | assumption | decide | omega) ?_)) rfl ?_
  refine am_iastore 17 dX12_ofContactNow_17 rfl (by repeat (first | assumption | exact am_ue | refine am_un (by first | assumption | decide | omega) ?_)) (am_ix (c := 1) (by decide) (by decide)) ?_
  refine am_dup 18 dX12_ofContactNow_18 rfl ?_
  refine am_iconst 19 (v := 2) dX12_ofContactNow_19 (by decide) ?_
  refine am_aload_n 20 dX12_ofContactNow_20 rfl ?_
  refine am_getfield 21 dX12_ofContactNow_21 fX12_129 (by repeat (first | assumption | exact am_ue | refine am_un (by first | assumption | decide | omega) ?_)) rfl ?_
  refine am_iastore 24 dX12_ofContactNow_24 rfl (by repeat (first | assumption | exact am_ue | refine am_un (by first | assumption | decide | omega) ?_)) (am_ix (c := 2) (by decide) (by decide)) ?_
  refine am_dup 25 dX12_ofContactNow_25 rfl ?_
  refine am_iconst 26 (v := 3) dX12_ofContactNow_26 (by decide) ?_
  refine am_aload_n 27 dX12_ofContactNow_27 rfl ?_
  refine am_getfield 28 dX12_ofContactNow_28 fX12_119 (by repeat (first | assumption | exact am_ue | refine am_un (by first | assumption | decide | omega) ?_)) rfl ?_
  refine am_iastore 31 dX12_ofContactNow_31 rfl (by repeat (first | assumption | exact am_ue | refine am_un (by first | assumption | decide | omega) ?_)) (am_ix (c := 3) (by decide) (by decide)) ?_
  refine am_dup 32 dX12_ofContactNow_32 rfl ?_
  refine am_iconst 33 (v := 4) dX12_ofContactNow_33 (by decide) ?_
  refine am_aload_n 34 dX12_ofContactNow_34 rfl ?_
  refine am_getfield 35 dX12_ofContactNow_35 fX12_109 (by repeat (first | assumption | exact am_ue | refine am_un (by first | assumption | decide | omega) ?_)) rfl ?_
  refine am_iastore 38 dX12_ofContactNow_38 rfl (by repeat (first | assumption | exact am_ue | refine am_un (by first | assumption | decide | omega) ?_)) (am_ix (c := 4) (by decide) (by decide)) ?_
  refine am_dup 39 dX12_ofContactNow_39 rfl ?_
  refine am_iconst 40 (v := 5) dX12_ofContactNow_40 (by decide) ?_
  refine am_aload_n 41 dX12_ofContactNow_41 rfl ?_
  refine am_getfield 42 dX12_ofContactNow_42 fX12_99 (by repeat (first | assumption | exact am_ue | refine am_un (by first | assumption | decide | omega) ?_)) rfl ?_
  refine am_iastore 45 dX12_ofContactNow_45 rfl (by repeat (first | assumption | exact am_ue | refine am_un (by first | assumption | decide | omega) ?_)) (am_ix (c := 5) (by decide) (by decide)) ?_
  refine am_astore_n 46 dX12_ofContactNow_46 (by decide) ?_
  refine am_aload_n 47 dX12_ofContactNow_47 rfl ?_
  refine am_iload_n 48 dX12_ofContactNow_48 rfl ?_
  refine am_iaload 49 dX12_ofContactNow_49 rfl (by repeat (first | assumption | exact am_ue | refine am_un (by first | assumption | decide | omega) ?_)) (am_ix (show j < 6 by omega) (by decide)) ?_
  refine am_ireturn 50 dX12_ofContactNow_50 rfl rfl ?_
  exact ⟨rfl, ⟨_, rfl⟩, fun x hx => by repeat rw [am_up_ne (by omega)]⟩
theorem s_rofContact {x d : Int32} (s : r_M m n f κ sz G th h di li cs w b) : AM mX12_ofContact 1 6 [.ref m, .int x, .int d] n f (r_sP m n f κ sz G h di li cs w b r_vI) := by
  obtain ⟨⟨e0, -⟩, -⟩ := id s
  unfold r_m12 at e0
  have hm5 := s.1.n5
  show AW mX12_ofContact 1 6 0 [some (.ref m), some (.int x), some (.int d)] [] n f _
  rcases r_name cs x with ⟨k, c, hk, rfl, hc⟩ | hx
  · by_cases hd : 0 ≤ d ∧ d ≤ 5
    · obtain ⟨i, hi, rfl⟩ := m_small_le 5 rfl (by decide) hd.1 hd.2
      refine am_aload_n 0 dX12_ofContact_0 rfl ?_
      refine am_aload_n 1 dX12_ofContact_1 rfl ?_
      refine am_iload_n 2 dX12_ofContact_2 rfl ?_
      refine am_V1 3 (mc' := 0) (ms' := 0) (rc := 1) (rs := 6) dX12_ofContact_3 lX12_261 ⟨by decide, by decide⟩ e0 (Nat.le_of_ble_eq_true rfl) (Nat.le_of_ble_eq_true rfl) (s_rnone_f s hk hc) ?_
      refine am_is_ct ?_
      refine am_iconst 6 (v := 1) dX12_ofContact_6 (by decide) ?_
      refine am_V2 7 (mc' := 0) (ms' := 0) (rc := 1) (rs := 6) dX12_ofContact_7 lX12_59 ⟨by decide, by decide⟩ e0 (Nat.le_of_ble_eq_true rfl) (Nat.le_of_ble_eq_true rfl) (s_rstart false (by decide) s) ?_
      rintro o n' f1 ⟨rfl, rfl, s1, g1⟩
      refine am_ctI ?_
      obtain ⟨⟨e0x, ⟨e3x, ewx⟩, earx, etyx⟩, e1x, e2x⟩ := id s1
      unfold r_m12 at e0x
      refine am_if_ne 10 35 dX12_ofContact_10 rfl (fun c10 => absurd c10 (by decide)) (fun c10 => ?_)
      refine am_aload_n 13 dX12_ofContact_13 rfl ?_
      refine am_iload_n 14 dX12_ofContact_14 rfl ?_
      refine am_iconst 15 (v := 0) dX12_ofContact_15 (by decide) ?_
      refine am_iconst 16 (v := 5) dX12_ofContact_16 (by decide) ?_
      refine am_S3 17 (mc' := 0) (ms' := 0) (rc := 1) (rs := 6) dX12_ofContact_17 lX12_3 ⟨by decide, by decide⟩ (Nat.le_of_ble_eq_true rfl) (Nat.le_of_ble_eq_true rfl) (s_isIn_t hd.1 hd.2) ?_
      refine am_is_ct ?_
      refine am_if_ne 20 27 dX12_ofContact_20 rfl (fun c20 => ?_) (fun c20 => absurd c20 (by decide))
      refine am_iconst 27 (v := 0) dX12_ofContact_27 (by decide) ?_
      refine am_iconst 28 (v := 2) dX12_ofContact_28 (by decide) ?_
      refine am_V2 29 (mc' := 0) (ms' := 0) (rc := 1) (rs := 6) dX12_ofContact_29 lX12_43 ⟨by decide, by decide⟩ e0x (Nat.le_of_ble_eq_true rfl) (Nat.le_of_ble_eq_true rfl) (s_rrefuse false (by decide) s1) ?_
      rintro o n' f2 ⟨rfl, rfl, s2, g2⟩
      refine am_ctI ?_
      obtain ⟨⟨e0y, ⟨e3y, ewy⟩, eary, etyy⟩, e1y, e2y⟩ := id s2
      unfold r_m12 at e0y
      refine am_if_eq 32 39 dX12_ofContact_32 rfl (fun c32 => ?_) (fun c32 => absurd (by decide) c32)
      refine am_aload_n 39 dX12_ofContact_39 rfl ?_
      refine am_getfield 40 dX12_ofContact_40 fX12_29 (by repeat (first | assumption | exact am_ue | refine am_un (by first | assumption | decide | omega) ?_)) rfl ?_
      refine am_iload_n 43 dX12_ofContact_43 rfl ?_
      refine am_aaload 44 dX12_ofContact_44 rfl (by repeat (first | assumption | exact am_ue | refine am_un (by first | assumption | decide | omega) ?_)) (am_ix hk (by decide)) ?_
      rw [nI_clamp (n := k) (by omega), hc, show va_rf (some c) = Value.ref c from rfl]
      obtain ⟨ap, cl, kk, q0, -⟩ := (etyy c).2.1 (ewy k hk c hc)
      have hcn := (s2.1.cn hk hc).2.2
      refine am_iload_n 45 dX12_ofContact_45 rfl ?_
      refine am_S2 46 (mc' := 1) (ms' := 6) (rc := 0) (rs := 0) dX12_ofContact_46 lX12_264 ⟨by decide, by decide⟩ (Nat.le_of_ble_eq_true rfl) (Nat.le_of_ble_eq_true rfl) (s_rofContactNow q0 hcn hi) ?_
      rintro o n' f3 ⟨rfl, ⟨x, rfl⟩, e4⟩
      refine am_ctI ?_
      refine am_ireturn 49 dX12_ofContact_49 rfl rfl ?_
      obtain ⟨s3, g3⟩ := s2.more (n' := n + 1) (by omega) e4
      exact ⟨by omega, _, _, rfl, ⟨_, rfl⟩, s3, ((g1.trans g2 (Nat.le_refl _)).trans g3 (Nat.le_refl _)).out⟩
    · refine am_aload_n 0 dX12_ofContact_0 rfl ?_
      refine am_aload_n 1 dX12_ofContact_1 rfl ?_
      refine am_iload_n 2 dX12_ofContact_2 rfl ?_
      refine am_V1 3 (mc' := 0) (ms' := 0) (rc := 1) (rs := 6) dX12_ofContact_3 lX12_261 ⟨by decide, by decide⟩ e0 (Nat.le_of_ble_eq_true rfl) (Nat.le_of_ble_eq_true rfl) (s_rnone_f s hk hc) ?_
      refine am_is_ct ?_
      refine am_iconst 6 (v := 1) dX12_ofContact_6 (by decide) ?_
      refine am_V2 7 (mc' := 0) (ms' := 0) (rc := 1) (rs := 6) dX12_ofContact_7 lX12_59 ⟨by decide, by decide⟩ e0 (Nat.le_of_ble_eq_true rfl) (Nat.le_of_ble_eq_true rfl) (s_rstart false (by decide) s) ?_
      rintro o n' f1 ⟨rfl, rfl, s1, g1⟩
      refine am_ctI ?_
      obtain ⟨⟨e0x, ⟨e3x, ewx⟩, earx, etyx⟩, e1x, e2x⟩ := id s1
      unfold r_m12 at e0x
      refine am_if_ne 10 35 dX12_ofContact_10 rfl (fun c10 => absurd c10 (by decide)) (fun c10 => ?_)
      refine am_aload_n 13 dX12_ofContact_13 rfl ?_
      refine am_iload_n 14 dX12_ofContact_14 rfl ?_
      refine am_iconst 15 (v := 0) dX12_ofContact_15 (by decide) ?_
      refine am_iconst 16 (v := 5) dX12_ofContact_16 (by decide) ?_
      refine am_S3 17 (mc' := 0) (ms' := 0) (rc := 1) (rs := 6) dX12_ofContact_17 lX12_3 ⟨by decide, by decide⟩ (Nat.le_of_ble_eq_true rfl) (Nat.le_of_ble_eq_true rfl) (s_isIn_f hd) ?_
      refine am_is_ct ?_
      refine am_if_ne 20 27 dX12_ofContact_20 rfl (fun c20 => absurd c20 (by decide)) (fun c20 => ?_)
      refine am_iconst 23 (v := 1) dX12_ofContact_23 (by decide) ?_
      refine am_goto 24 (tgt := 28) dX12_ofContact_24 rfl ?_
      refine am_iconst 28 (v := 2) dX12_ofContact_28 (by decide) ?_
      refine am_V2 29 (mc' := 0) (ms' := 0) (rc := 1) (rs := 6) dX12_ofContact_29 lX12_43 ⟨by decide, by decide⟩ e0x (Nat.le_of_ble_eq_true rfl) (Nat.le_of_ble_eq_true rfl) (s_rrefuse true (by decide) s1) ?_
      rintro o n' f2 ⟨rfl, rfl, s2, g2⟩
      refine am_ctI ?_
      obtain ⟨⟨e0y, ⟨e3y, ewy⟩, eary, etyy⟩, e1y, e2y⟩ := id s2
      unfold r_m12 at e0y
      refine am_if_eq 32 39 dX12_ofContact_32 rfl (fun c32 => absurd c32 (by decide)) (fun c32 => ?_)
      refine am_iconst 35 (v := 0) dX12_ofContact_35 (by decide) ?_
      refine am_goto 36 (tgt := 49) dX12_ofContact_36 rfl ?_
      refine am_ireturn 49 dX12_ofContact_49 rfl rfl ?_
      exact ⟨Nat.le_refl _, _, _, rfl, ⟨_, rfl⟩, s2, (g1.trans g2 (Nat.le_refl _)).out⟩
  · refine am_aload_n 0 dX12_ofContact_0 rfl ?_
    refine am_aload_n 1 dX12_ofContact_1 rfl ?_
    refine am_iload_n 2 dX12_ofContact_2 rfl ?_
    refine am_V1 3 (mc' := 0) (ms' := 0) (rc := 1) (rs := 6) dX12_ofContact_3 lX12_261 ⟨by decide, by decide⟩ e0 (Nat.le_of_ble_eq_true rfl) (Nat.le_of_ble_eq_true rfl) (s_rnone_t s hx) ?_
    refine am_is_ct ?_
    refine am_iconst 6 (v := 1) dX12_ofContact_6 (by decide) ?_
    refine am_V2 7 (mc' := 0) (ms' := 0) (rc := 1) (rs := 6) dX12_ofContact_7 lX12_59 ⟨by decide, by decide⟩ e0 (Nat.le_of_ble_eq_true rfl) (Nat.le_of_ble_eq_true rfl) (s_rstart true (by decide) s) ?_
    rintro o n' f1 ⟨rfl, rfl, s1, g1⟩
    refine am_ctI ?_
    obtain ⟨⟨e0x, ⟨e3x, ewx⟩, earx, etyx⟩, e1x, e2x⟩ := id s1
    unfold r_m12 at e0x
    refine am_if_ne 10 35 dX12_ofContact_10 rfl (fun c10 => ?_) (fun c10 => absurd c10 (by decide))
    refine am_iconst 35 (v := 0) dX12_ofContact_35 (by decide) ?_
    refine am_goto 36 (tgt := 49) dX12_ofContact_36 rfl ?_
    refine am_ireturn 49 dX12_ofContact_49 rfl rfl ?_
    exact ⟨Nat.le_refl _, _, _, rfl, ⟨_, rfl⟩, s1, g1.out⟩
theorem s_rwhereNow {c j ap : Nat} {kk : m_K} (h0 : f c = .inr (9, r_kF ap kk)) (k : m_kOk kk) (hj : j ≤ 4) : AM mX12_whereNow 0 0 [.ref c, .int (nI j)] n f (am_is (some (.double (FP.f2d (m_whA kk j)))) n f) := by
  unfold r_kF at h0
  obtain ⟨k0, k1, k2, k3, k4, k5, k6, k7⟩ := k
  show AW mX12_whereNow 0 0 0 [some (.ref c), some (.int (nI j))] [] n f _
  have hcs : j = 0 ∨ j = 1 ∨ j = 2 ∨ j = 3 ∨ j = 4 := by omega
  rcases hcs with rfl | rfl | rfl | rfl | rfl
  · refine am_iload_n 0 dX12_whereNow_0 rfl ?_
    refine am_if_ne 1 12 dX12_whereNow_1 rfl (fun c1 => absurd c1 (by decide)) (fun c1 => ?_)
    refine am_aload_n 4 dX12_whereNow_4 rfl ?_
    refine am_getfield 5 dX12_whereNow_5 fX12_268 (by repeat (first | assumption | exact am_ue | refine am_un (by first | assumption | decide | omega) ?_)) rfl ?_
    refine am_f2d 8 dX12_whereNow_8 (d_f2d k0.1) ?_
    refine am_goto 9 (tgt := 56) dX12_whereNow_9 rfl ?_
    exact am_dreturn 56 dX12_whereNow_56 rfl ⟨rfl, rfl, rfl⟩
  · refine am_iload_n 0 dX12_whereNow_0 rfl ?_
    refine am_if_ne 1 12 dX12_whereNow_1 rfl (fun c1 => ?_) (fun c1 => absurd c1 (by decide))
    refine am_iload_n 12 dX12_whereNow_12 rfl ?_
    refine am_iconst 13 (v := 1) dX12_whereNow_13 (by decide) ?_
    refine am_icmp_ne 14 25 dX12_whereNow_14 rfl (fun c14 => absurd c14 (by decide)) (fun c14 => ?_)
    refine am_aload_n 17 dX12_whereNow_17 rfl ?_
    refine am_getfield 18 dX12_whereNow_18 fX12_271 (by repeat (first | assumption | exact am_ue | refine am_un (by first | assumption | decide | omega) ?_)) rfl ?_
    refine am_f2d 21 dX12_whereNow_21 (d_f2d k1.1) ?_
    refine am_goto 22 (tgt := 56) dX12_whereNow_22 rfl ?_
    exact am_dreturn 56 dX12_whereNow_56 rfl ⟨rfl, rfl, rfl⟩
  · refine am_iload_n 0 dX12_whereNow_0 rfl ?_
    refine am_if_ne 1 12 dX12_whereNow_1 rfl (fun c1 => ?_) (fun c1 => absurd c1 (by decide))
    refine am_iload_n 12 dX12_whereNow_12 rfl ?_
    refine am_iconst 13 (v := 1) dX12_whereNow_13 (by decide) ?_
    refine am_icmp_ne 14 25 dX12_whereNow_14 rfl (fun c14 => ?_) (fun c14 => absurd c14 (by decide))
    refine am_iload_n 25 dX12_whereNow_25 rfl ?_
    refine am_iconst 26 (v := 2) dX12_whereNow_26 (by decide) ?_
    refine am_icmp_ne 27 38 dX12_whereNow_27 rfl (fun c27 => absurd c27 (by decide)) (fun c27 => ?_)
    refine am_aload_n 30 dX12_whereNow_30 rfl ?_
    refine am_getfield 31 dX12_whereNow_31 fX12_122 (by repeat (first | assumption | exact am_ue | refine am_un (by first | assumption | decide | omega) ?_)) rfl ?_
    refine am_f2d 34 dX12_whereNow_34 (d_f2d k2.1) ?_
    refine am_goto 35 (tgt := 56) dX12_whereNow_35 rfl ?_
    exact am_dreturn 56 dX12_whereNow_56 rfl ⟨rfl, rfl, rfl⟩
  · refine am_iload_n 0 dX12_whereNow_0 rfl ?_
    refine am_if_ne 1 12 dX12_whereNow_1 rfl (fun c1 => ?_) (fun c1 => absurd c1 (by decide))
    refine am_iload_n 12 dX12_whereNow_12 rfl ?_
    refine am_iconst 13 (v := 1) dX12_whereNow_13 (by decide) ?_
    refine am_icmp_ne 14 25 dX12_whereNow_14 rfl (fun c14 => ?_) (fun c14 => absurd c14 (by decide))
    refine am_iload_n 25 dX12_whereNow_25 rfl ?_
    refine am_iconst 26 (v := 2) dX12_whereNow_26 (by decide) ?_
    refine am_icmp_ne 27 38 dX12_whereNow_27 rfl (fun c27 => ?_) (fun c27 => absurd c27 (by decide))
    refine am_iload_n 38 dX12_whereNow_38 rfl ?_
    refine am_iconst 39 (v := 3) dX12_whereNow_39 (by decide) ?_
    refine am_icmp_ne 40 51 dX12_whereNow_40 rfl (fun c40 => absurd c40 (by decide)) (fun c40 => ?_)
    refine am_aload_n 43 dX12_whereNow_43 rfl ?_
    refine am_getfield 44 dX12_whereNow_44 fX12_126 (by repeat (first | assumption | exact am_ue | refine am_un (by first | assumption | decide | omega) ?_)) rfl ?_
    refine am_f2d 47 dX12_whereNow_47 (d_f2d k3.1) ?_
    refine am_goto 48 (tgt := 56) dX12_whereNow_48 rfl ?_
    exact am_dreturn 56 dX12_whereNow_56 rfl ⟨rfl, rfl, rfl⟩
  · refine am_iload_n 0 dX12_whereNow_0 rfl ?_
    refine am_if_ne 1 12 dX12_whereNow_1 rfl (fun c1 => ?_) (fun c1 => absurd c1 (by decide))
    refine am_iload_n 12 dX12_whereNow_12 rfl ?_
    refine am_iconst 13 (v := 1) dX12_whereNow_13 (by decide) ?_
    refine am_icmp_ne 14 25 dX12_whereNow_14 rfl (fun c14 => ?_) (fun c14 => absurd c14 (by decide))
    refine am_iload_n 25 dX12_whereNow_25 rfl ?_
    refine am_iconst 26 (v := 2) dX12_whereNow_26 (by decide) ?_
    refine am_icmp_ne 27 38 dX12_whereNow_27 rfl (fun c27 => ?_) (fun c27 => absurd c27 (by decide))
    refine am_iload_n 38 dX12_whereNow_38 rfl ?_
    refine am_iconst 39 (v := 3) dX12_whereNow_39 (by decide) ?_
    refine am_icmp_ne 40 51 dX12_whereNow_40 rfl (fun c40 => ?_) (fun c40 => absurd c40 (by decide))
    refine am_aload_n 51 dX12_whereNow_51 rfl ?_
    refine am_getfield 52 dX12_whereNow_52 fX12_180 (by repeat (first | assumption | exact am_ue | refine am_un (by first | assumption | decide | omega) ?_)) rfl ?_
    refine am_f2d 55 dX12_whereNow_55 (d_f2d k4.1) ?_
    exact am_dreturn 56 dX12_whereNow_56 rfl ⟨rfl, rfl, rfl⟩
theorem s_rwhere {x d : Int32} (s : r_M m n f κ sz G th h di li cs w b) : AM mX12_where 0 0 [.ref m, .int x, .int d] n f (r_sP m n f κ sz G h di li cs w b r_vD) := by
  obtain ⟨⟨e0, -⟩, -⟩ := id s
  unfold r_m12 at e0
  show AW mX12_where 0 0 0 [some (.ref m), some (.int x), some (.int d)] [] n f _
  rcases r_name cs x with ⟨k, c, hk, rfl, hc⟩ | hx
  · by_cases hd : 0 ≤ d ∧ d ≤ 4
    · obtain ⟨i, hi, rfl⟩ := m_small_le 4 rfl (by decide) hd.1 hd.2
      refine am_aload_n 0 dX12_where_0 rfl ?_
      refine am_aload_n 1 dX12_where_1 rfl ?_
      refine am_iload_n 2 dX12_where_2 rfl ?_
      refine am_V1 3 (mc' := 0) (ms' := 0) (rc := 0) (rs := 0) dX12_where_3 lX12_261 ⟨by decide, by decide⟩ e0 (Nat.le_of_ble_eq_true rfl) (Nat.le_of_ble_eq_true rfl) (s_rnone_f s hk hc) ?_
      refine am_is_ct ?_
      refine am_iconst 6 (v := 1) dX12_where_6 (by decide) ?_
      refine am_V2 7 (mc' := 0) (ms' := 0) (rc := 0) (rs := 0) dX12_where_7 lX12_59 ⟨by decide, by decide⟩ e0 (Nat.le_of_ble_eq_true rfl) (Nat.le_of_ble_eq_true rfl) (s_rstart false (by decide) s) ?_
      rintro o n' f1 ⟨rfl, rfl, s1, g1⟩
      refine am_ctI ?_
      obtain ⟨⟨e0x, ⟨e3x, ewx⟩, earx, etyx⟩, e1x, e2x⟩ := id s1
      unfold r_m12 at e0x
      refine am_if_ne 10 35 dX12_where_10 rfl (fun c10 => absurd c10 (by decide)) (fun c10 => ?_)
      refine am_aload_n 13 dX12_where_13 rfl ?_
      refine am_iload_n 14 dX12_where_14 rfl ?_
      refine am_iconst 15 (v := 0) dX12_where_15 (by decide) ?_
      refine am_iconst 16 (v := 4) dX12_where_16 (by decide) ?_
      refine am_S3 17 (mc' := 0) (ms' := 0) (rc := 0) (rs := 0) dX12_where_17 lX12_3 ⟨by decide, by decide⟩ (Nat.le_of_ble_eq_true rfl) (Nat.le_of_ble_eq_true rfl) (s_isIn_t hd.1 hd.2) ?_
      refine am_is_ct ?_
      refine am_if_ne 20 27 dX12_where_20 rfl (fun c20 => ?_) (fun c20 => absurd c20 (by decide))
      refine am_iconst 27 (v := 0) dX12_where_27 (by decide) ?_
      refine am_iconst 28 (v := 2) dX12_where_28 (by decide) ?_
      refine am_V2 29 (mc' := 0) (ms' := 0) (rc := 0) (rs := 0) dX12_where_29 lX12_43 ⟨by decide, by decide⟩ e0x (Nat.le_of_ble_eq_true rfl) (Nat.le_of_ble_eq_true rfl) (s_rrefuse false (by decide) s1) ?_
      rintro o n' f2 ⟨rfl, rfl, s2, g2⟩
      refine am_ctI ?_
      obtain ⟨⟨e0y, ⟨e3y, ewy⟩, eary, etyy⟩, e1y, e2y⟩ := id s2
      unfold r_m12 at e0y
      refine am_if_eq 32 39 dX12_where_32 rfl (fun c32 => ?_) (fun c32 => absurd (by decide) c32)
      refine am_aload_n 39 dX12_where_39 rfl ?_
      refine am_getfield 40 dX12_where_40 fX12_29 (by repeat (first | assumption | exact am_ue | refine am_un (by first | assumption | decide | omega) ?_)) rfl ?_
      refine am_iload_n 43 dX12_where_43 rfl ?_
      refine am_aaload 44 dX12_where_44 rfl (by repeat (first | assumption | exact am_ue | refine am_un (by first | assumption | decide | omega) ?_)) (am_ix hk (by decide)) ?_
      rw [nI_clamp (n := k) (by omega), hc, show va_rf (some c) = Value.ref c from rfl]
      obtain ⟨ap, cl, kk, q0, q1, q2, -⟩ := (etyy c).2.1 (ewy k hk c hc)
      refine am_iload_n 45 dX12_where_45 rfl ?_
      refine am_S2 46 (mc' := 0) (ms' := 0) (rc := 0) (rs := 0) dX12_where_46 lX12_274 ⟨by decide, by decide⟩ (Nat.le_of_ble_eq_true rfl) (Nat.le_of_ble_eq_true rfl) (s_rwhereNow q0 q2 hi) ?_
      refine am_is_ct ?_
      refine am_dreturn 49 dX12_where_49 rfl ?_
      exact ⟨Nat.le_refl _, _, _, rfl, ⟨_, rfl⟩, s2, (g1.trans g2 (Nat.le_refl _)).out⟩
    · refine am_aload_n 0 dX12_where_0 rfl ?_
      refine am_aload_n 1 dX12_where_1 rfl ?_
      refine am_iload_n 2 dX12_where_2 rfl ?_
      refine am_V1 3 (mc' := 0) (ms' := 0) (rc := 0) (rs := 0) dX12_where_3 lX12_261 ⟨by decide, by decide⟩ e0 (Nat.le_of_ble_eq_true rfl) (Nat.le_of_ble_eq_true rfl) (s_rnone_f s hk hc) ?_
      refine am_is_ct ?_
      refine am_iconst 6 (v := 1) dX12_where_6 (by decide) ?_
      refine am_V2 7 (mc' := 0) (ms' := 0) (rc := 0) (rs := 0) dX12_where_7 lX12_59 ⟨by decide, by decide⟩ e0 (Nat.le_of_ble_eq_true rfl) (Nat.le_of_ble_eq_true rfl) (s_rstart false (by decide) s) ?_
      rintro o n' f1 ⟨rfl, rfl, s1, g1⟩
      refine am_ctI ?_
      obtain ⟨⟨e0x, ⟨e3x, ewx⟩, earx, etyx⟩, e1x, e2x⟩ := id s1
      unfold r_m12 at e0x
      refine am_if_ne 10 35 dX12_where_10 rfl (fun c10 => absurd c10 (by decide)) (fun c10 => ?_)
      refine am_aload_n 13 dX12_where_13 rfl ?_
      refine am_iload_n 14 dX12_where_14 rfl ?_
      refine am_iconst 15 (v := 0) dX12_where_15 (by decide) ?_
      refine am_iconst 16 (v := 4) dX12_where_16 (by decide) ?_
      refine am_S3 17 (mc' := 0) (ms' := 0) (rc := 0) (rs := 0) dX12_where_17 lX12_3 ⟨by decide, by decide⟩ (Nat.le_of_ble_eq_true rfl) (Nat.le_of_ble_eq_true rfl) (s_isIn_f hd) ?_
      refine am_is_ct ?_
      refine am_if_ne 20 27 dX12_where_20 rfl (fun c20 => absurd c20 (by decide)) (fun c20 => ?_)
      refine am_iconst 23 (v := 1) dX12_where_23 (by decide) ?_
      refine am_goto 24 (tgt := 28) dX12_where_24 rfl ?_
      refine am_iconst 28 (v := 2) dX12_where_28 (by decide) ?_
      refine am_V2 29 (mc' := 0) (ms' := 0) (rc := 0) (rs := 0) dX12_where_29 lX12_43 ⟨by decide, by decide⟩ e0x (Nat.le_of_ble_eq_true rfl) (Nat.le_of_ble_eq_true rfl) (s_rrefuse true (by decide) s1) ?_
      rintro o n' f2 ⟨rfl, rfl, s2, g2⟩
      refine am_ctI ?_
      obtain ⟨⟨e0y, ⟨e3y, ewy⟩, eary, etyy⟩, e1y, e2y⟩ := id s2
      unfold r_m12 at e0y
      refine am_if_eq 32 39 dX12_where_32 rfl (fun c32 => absurd c32 (by decide)) (fun c32 => ?_)
      refine am_dconst0 35 dX12_where_35 ?_
      refine am_goto 36 (tgt := 49) dX12_where_36 rfl ?_
      refine am_dreturn 49 dX12_where_49 rfl ?_
      exact ⟨Nat.le_refl _, _, _, rfl, ⟨_, rfl⟩, s2, (g1.trans g2 (Nat.le_refl _)).out⟩
  · refine am_aload_n 0 dX12_where_0 rfl ?_
    refine am_aload_n 1 dX12_where_1 rfl ?_
    refine am_iload_n 2 dX12_where_2 rfl ?_
    refine am_V1 3 (mc' := 0) (ms' := 0) (rc := 0) (rs := 0) dX12_where_3 lX12_261 ⟨by decide, by decide⟩ e0 (Nat.le_of_ble_eq_true rfl) (Nat.le_of_ble_eq_true rfl) (s_rnone_t s hx) ?_
    refine am_is_ct ?_
    refine am_iconst 6 (v := 1) dX12_where_6 (by decide) ?_
    refine am_V2 7 (mc' := 0) (ms' := 0) (rc := 0) (rs := 0) dX12_where_7 lX12_59 ⟨by decide, by decide⟩ e0 (Nat.le_of_ble_eq_true rfl) (Nat.le_of_ble_eq_true rfl) (s_rstart true (by decide) s) ?_
    rintro o n' f1 ⟨rfl, rfl, s1, g1⟩
    refine am_ctI ?_
    obtain ⟨⟨e0x, ⟨e3x, ewx⟩, earx, etyx⟩, e1x, e2x⟩ := id s1
    unfold r_m12 at e0x
    refine am_if_ne 10 35 dX12_where_10 rfl (fun c10 => ?_) (fun c10 => absurd c10 (by decide))
    refine am_dconst0 35 dX12_where_35 ?_
    refine am_goto 36 (tgt := 49) dX12_where_36 rfl ?_
    refine am_dreturn 49 dX12_where_49 rfl ?_
    exact ⟨Nat.le_refl _, _, _, rfl, ⟨_, rfl⟩, s1, g1.out⟩
theorem s_rapart {x y : Int32} (s : r_M m n f κ sz G th h di li cs w b) : AM mX12_apart 0 0 [.ref m, .int x, .int y] n f (r_sP m n f κ sz G h di li cs w b r_vD) := by
  obtain ⟨⟨e0, -⟩, -⟩ := id s
  unfold r_m12 at e0
  show AW mX12_apart 0 0 0 [some (.ref m), some (.int x), some (.int y)] [] n f _
  rcases r_name cs x with ⟨k, c, hk, rfl, hc⟩ | hx
  · rcases r_name cs y with ⟨j, d, hj, rfl, hd⟩ | hy
    · refine am_aload_n 0 dX12_apart_0 rfl ?_
      refine am_aload_n 1 dX12_apart_1 rfl ?_
      refine am_iload_n 2 dX12_apart_2 rfl ?_
      refine am_V1 3 (mc' := 0) (ms' := 0) (rc := 0) (rs := 0) dX12_apart_3 lX12_261 ⟨by decide, by decide⟩ e0 (Nat.le_of_ble_eq_true rfl) (Nat.le_of_ble_eq_true rfl) (s_rnone_f s hk hc) ?_
      refine am_is_ct ?_
      refine am_if_ne 6 17 dX12_apart_6 rfl (fun c6 => absurd c6 (by decide)) (fun c6 => ?_)
      refine am_aload_n 9 dX12_apart_9 rfl ?_
      refine am_iload_n 10 dX12_apart_10 rfl ?_
      refine am_V1 11 (mc' := 0) (ms' := 0) (rc := 0) (rs := 0) dX12_apart_11 lX12_261 ⟨by decide, by decide⟩ e0 (Nat.le_of_ble_eq_true rfl) (Nat.le_of_ble_eq_true rfl) (s_rnone_f s hj hd) ?_
      refine am_is_ct ?_
      refine am_if_eq 14 21 dX12_apart_14 rfl (fun c14 => ?_) (fun c14 => absurd (by decide) c14)
      refine am_iconst 21 (v := 0) dX12_apart_21 (by decide) ?_
      refine am_iconst 22 (v := 1) dX12_apart_22 (by decide) ?_
      refine am_V2 23 (mc' := 0) (ms' := 0) (rc := 0) (rs := 0) dX12_apart_23 lX12_59 ⟨by decide, by decide⟩ e0 (Nat.le_of_ble_eq_true rfl) (Nat.le_of_ble_eq_true rfl) (s_rstart false (by decide) s) ?_
      rintro o n' f1 ⟨rfl, rfl, s1, g1⟩
      refine am_ctI ?_
      obtain ⟨⟨e0x, ⟨e3x, ewx⟩, earx, etyx⟩, e1x, e2x⟩ := id s1
      unfold r_m12 at e0x
      refine am_if_eq 26 33 dX12_apart_26 rfl (fun c26 => ?_) (fun c26 => absurd (by decide) c26)
      refine am_aload_n 33 dX12_apart_33 rfl ?_
      refine am_getfield 34 dX12_apart_34 fX12_29 (by repeat (first | assumption | exact am_ue | refine am_un (by first | assumption | decide | omega) ?_)) rfl ?_
      refine am_iload_n 37 dX12_apart_37 rfl ?_
      refine am_aaload 38 dX12_apart_38 rfl (by repeat (first | assumption | exact am_ue | refine am_un (by first | assumption | decide | omega) ?_)) (am_ix hk (by decide)) ?_
      rw [nI_clamp (n := k) (by omega), hc, show va_rf (some c) = Value.ref c from rfl]
      refine am_aload_n 39 dX12_apart_39 rfl ?_
      refine am_getfield 40 dX12_apart_40 fX12_29 (by repeat (first | assumption | exact am_ue | refine am_un (by first | assumption | decide | omega) ?_)) rfl ?_
      refine am_iload_n 43 dX12_apart_43 rfl ?_
      refine am_aaload 44 dX12_apart_44 rfl (by repeat (first | assumption | exact am_ue | refine am_un (by first | assumption | decide | omega) ?_)) (am_ix hj (by decide)) ?_
      rw [nI_clamp (n := j) (by omega), hd, show va_rf (some d) = Value.ref d from rfl]
      obtain ⟨ap, cl, kk, q0, q1, q2, -⟩ := (etyx c).2.1 (ewx k hk c hc)
      obtain ⟨ap2, cl2, kk2, z0, z1, z2, -⟩ := (etyx d).2.1 (ewx j hj d hd)
      have hdi := (r_dist_ok q2.1 q2.2.1 z2.1 z2.2.1).2.2
      have q0x := q0
      unfold r_kF at q0x
      refine am_V1 45 (mc' := 0) (ms' := 0) (rc := 0) (rs := 0) dX12_apart_45 lX12_160 ⟨by decide, by decide⟩ q0x (Nat.le_of_ble_eq_true rfl) (Nat.le_of_ble_eq_true rfl) (s_rto q0 z0 q2 z2) ?_
      refine am_is_ct ?_
      refine am_f2d 48 dX12_apart_48 (d_f2d hdi.1) ?_
      refine am_dreturn 49 dX12_apart_49 rfl ?_
      exact ⟨Nat.le_refl _, _, _, rfl, ⟨_, rfl⟩, s1, g1.out⟩
    · refine am_aload_n 0 dX12_apart_0 rfl ?_
      refine am_aload_n 1 dX12_apart_1 rfl ?_
      refine am_iload_n 2 dX12_apart_2 rfl ?_
      refine am_V1 3 (mc' := 0) (ms' := 0) (rc := 0) (rs := 0) dX12_apart_3 lX12_261 ⟨by decide, by decide⟩ e0 (Nat.le_of_ble_eq_true rfl) (Nat.le_of_ble_eq_true rfl) (s_rnone_f s hk hc) ?_
      refine am_is_ct ?_
      refine am_if_ne 6 17 dX12_apart_6 rfl (fun c6 => absurd c6 (by decide)) (fun c6 => ?_)
      refine am_aload_n 9 dX12_apart_9 rfl ?_
      refine am_iload_n 10 dX12_apart_10 rfl ?_
      refine am_V1 11 (mc' := 0) (ms' := 0) (rc := 0) (rs := 0) dX12_apart_11 lX12_261 ⟨by decide, by decide⟩ e0 (Nat.le_of_ble_eq_true rfl) (Nat.le_of_ble_eq_true rfl) (s_rnone_t s hy) ?_
      refine am_is_ct ?_
      refine am_if_eq 14 21 dX12_apart_14 rfl (fun c14 => absurd c14 (by decide)) (fun c14 => ?_)
      refine am_iconst 17 (v := 1) dX12_apart_17 (by decide) ?_
      refine am_goto 18 (tgt := 22) dX12_apart_18 rfl ?_
      refine am_iconst 22 (v := 1) dX12_apart_22 (by decide) ?_
      refine am_V2 23 (mc' := 0) (ms' := 0) (rc := 0) (rs := 0) dX12_apart_23 lX12_59 ⟨by decide, by decide⟩ e0 (Nat.le_of_ble_eq_true rfl) (Nat.le_of_ble_eq_true rfl) (s_rstart true (by decide) s) ?_
      rintro o n' f1 ⟨rfl, rfl, s1, g1⟩
      refine am_ctI ?_
      obtain ⟨⟨e0x, ⟨e3x, ewx⟩, earx, etyx⟩, e1x, e2x⟩ := id s1
      unfold r_m12 at e0x
      refine am_if_eq 26 33 dX12_apart_26 rfl (fun c26 => absurd c26 (by decide)) (fun c26 => ?_)
      refine am_dconst0 29 dX12_apart_29 ?_
      refine am_goto 30 (tgt := 49) dX12_apart_30 rfl ?_
      refine am_dreturn 49 dX12_apart_49 rfl ?_
      exact ⟨Nat.le_refl _, _, _, rfl, ⟨_, rfl⟩, s1, g1.out⟩
  · refine am_aload_n 0 dX12_apart_0 rfl ?_
    refine am_aload_n 1 dX12_apart_1 rfl ?_
    refine am_iload_n 2 dX12_apart_2 rfl ?_
    refine am_V1 3 (mc' := 0) (ms' := 0) (rc := 0) (rs := 0) dX12_apart_3 lX12_261 ⟨by decide, by decide⟩ e0 (Nat.le_of_ble_eq_true rfl) (Nat.le_of_ble_eq_true rfl) (s_rnone_t s hx) ?_
    refine am_is_ct ?_
    refine am_if_ne 6 17 dX12_apart_6 rfl (fun c6 => ?_) (fun c6 => absurd c6 (by decide))
    refine am_iconst 17 (v := 1) dX12_apart_17 (by decide) ?_
    refine am_goto 18 (tgt := 22) dX12_apart_18 rfl ?_
    refine am_iconst 22 (v := 1) dX12_apart_22 (by decide) ?_
    refine am_V2 23 (mc' := 0) (ms' := 0) (rc := 0) (rs := 0) dX12_apart_23 lX12_59 ⟨by decide, by decide⟩ e0 (Nat.le_of_ble_eq_true rfl) (Nat.le_of_ble_eq_true rfl) (s_rstart true (by decide) s) ?_
    rintro o n' f1 ⟨rfl, rfl, s1, g1⟩
    refine am_ctI ?_
    obtain ⟨⟨e0x, ⟨e3x, ewx⟩, earx, etyx⟩, e1x, e2x⟩ := id s1
    unfold r_m12 at e0x
    refine am_if_eq 26 33 dX12_apart_26 rfl (fun c26 => absurd c26 (by decide)) (fun c26 => ?_)
    refine am_dconst0 29 dX12_apart_29 ?_
    refine am_goto 30 (tgt := 49) dX12_apart_30 rfl ?_
    refine am_dreturn 49 dX12_apart_49 rfl ?_
    exact ⟨Nat.le_refl _, _, _, rfl, ⟨_, rfl⟩, s1, g1.out⟩
end RAsks
