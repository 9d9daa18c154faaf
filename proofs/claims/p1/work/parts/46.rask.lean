/-! ===== the reference: what is asked, on a new object ===== -/
section RAsk
variable {m n v u : Nat} {f : Nat → am_C} {th : Int32}
theorem s_ofCellNow0 {c j : Nat} (hM : r_Mo f m th (fun _ => 0)) (hV : r_V0 f v u) (hc : c < 48) (hj : j ≤ 4) : AM mX12_ofCellNow 0 0 [.ref m, .int (nI c), .int (nI j), .ref v] n f (am_is (some (.int 0)) n f) := by
  obtain ⟨h0, h1, h2, -⟩ := hM
  unfold r_mo at h0
  obtain ⟨v0, v1, v2, -⟩ := hV
  show AW mX12_ofCellNow 0 0 0 [some (.ref m), some (.int (nI c)), some (.int (nI j)), some (.ref v)] [] n f _
  have hcs : j = 0 ∨ j = 1 ∨ j = 2 ∨ j = 3 ∨ j = 4 := by omega
  rcases hcs with rfl | rfl | rfl | rfl | rfl
  · refine am_iload_n 0 dX12_ofCellNow_0 rfl ?_
    refine am_if_ne 1 18 dX12_ofCellNow_1 rfl (fun c1 => absurd c1 (by decide)) (fun c1 => ?_)
    refine am_aload_n 4 dX12_ofCellNow_4 rfl ?_
    refine am_getfield 5 dX12_ofCellNow_5 fX12_47 (by repeat (first | assumption | exact am_ue | refine am_un (by first | assumption | decide | omega) ?_)) rfl ?_
    refine am_aload_n 8 dX12_ofCellNow_8 rfl ?_
    refine am_getfield 9 dX12_ofCellNow_9 fX12_17 (by repeat (first | assumption | exact am_ue | refine am_un (by first | assumption | decide | omega) ?_)) rfl ?_
    refine am_iload_n 12 dX12_ofCellNow_12 rfl ?_
    refine am_iaload 13 dX12_ofCellNow_13 rfl (by repeat (first | assumption | exact am_ue | refine am_un (by first | assumption | decide | omega) ?_)) (am_ix hc (by decide)) ?_
    refine am_iadd 14 dX12_ofCellNow_14 ?_
    refine am_goto 15 (tgt := 73) dX12_ofCellNow_15 rfl ?_
    refine am_ireturn 73 dX12_ofCellNow_73 rfl rfl ?_
    exact ⟨rfl, rfl, rfl⟩
  · refine am_iload_n 0 dX12_ofCellNow_0 rfl ?_
    refine am_if_ne 1 18 dX12_ofCellNow_1 rfl (fun c1 => ?_) (fun c1 => absurd c1 (by decide))
    refine am_iload_n 18 dX12_ofCellNow_18 rfl ?_
    refine am_iconst 19 (v := 1) dX12_ofCellNow_19 (by decide) ?_
    refine am_icmp_ne 20 32 dX12_ofCellNow_20 rfl (fun c20 => absurd c20 (by decide)) (fun c20 => ?_)
    refine am_aload_n 23 dX12_ofCellNow_23 rfl ?_
    refine am_getfield 24 dX12_ofCellNow_24 fX12_13 (by repeat (first | assumption | exact am_ue | refine am_un (by first | assumption | decide | omega) ?_)) rfl ?_
    refine am_iload_n 27 dX12_ofCellNow_27 rfl ?_
    refine am_iaload 28 dX12_ofCellNow_28 rfl (by repeat (first | assumption | exact am_ue | refine am_un (by first | assumption | decide | omega) ?_)) (am_ix hc (by decide)) ?_
    refine am_goto 29 (tgt := 73) dX12_ofCellNow_29 rfl ?_
    exact am_ireturn 73 dX12_ofCellNow_73 rfl rfl ⟨rfl, rfl, rfl⟩
  · refine am_iload_n 0 dX12_ofCellNow_0 rfl ?_
    refine am_if_ne 1 18 dX12_ofCellNow_1 rfl (fun c1 => ?_) (fun c1 => absurd c1 (by decide))
    refine am_iload_n 18 dX12_ofCellNow_18 rfl ?_
    refine am_iconst 19 (v := 1) dX12_ofCellNow_19 (by decide) ?_
    refine am_icmp_ne 20 32 dX12_ofCellNow_20 rfl (fun c20 => ?_) (fun c20 => absurd c20 (by decide))
    refine am_iload_n 32 dX12_ofCellNow_32 rfl ?_
    refine am_iconst 33 (v := 2) dX12_ofCellNow_33 (by decide) ?_
    refine am_icmp_ne 34 46 dX12_ofCellNow_34 rfl (fun c34 => absurd c34 (by decide)) (fun c34 => ?_)
    refine am_aload_n 37 dX12_ofCellNow_37 rfl ?_
    refine am_getfield 38 dX12_ofCellNow_38 fX12_239 (by repeat (first | assumption | exact am_ue | refine am_un (by first | assumption | decide | omega) ?_)) rfl ?_
    refine am_iload_n 41 dX12_ofCellNow_41 rfl ?_
    refine am_iaload 42 dX12_ofCellNow_42 rfl (by repeat (first | assumption | exact am_ue | refine am_un (by first | assumption | decide | omega) ?_)) (am_ix hc (by decide)) ?_
    refine am_goto 43 (tgt := 73) dX12_ofCellNow_43 rfl ?_
    exact am_ireturn 73 dX12_ofCellNow_73 rfl rfl ⟨rfl, rfl, rfl⟩
  · refine am_iload_n 0 dX12_ofCellNow_0 rfl ?_
    refine am_if_ne 1 18 dX12_ofCellNow_1 rfl (fun c1 => ?_) (fun c1 => absurd c1 (by decide))
    refine am_iload_n 18 dX12_ofCellNow_18 rfl ?_
    refine am_iconst 19 (v := 1) dX12_ofCellNow_19 (by decide) ?_
    refine am_icmp_ne 20 32 dX12_ofCellNow_20 rfl (fun c20 => ?_) (fun c20 => absurd c20 (by decide))
    refine am_iload_n 32 dX12_ofCellNow_32 rfl ?_
    refine am_iconst 33 (v := 2) dX12_ofCellNow_33 (by decide) ?_
    refine am_icmp_ne 34 46 dX12_ofCellNow_34 rfl (fun c34 => ?_) (fun c34 => absurd c34 (by decide))
    refine am_iload_n 46 dX12_ofCellNow_46 rfl ?_
    refine am_iconst 47 (v := 3) dX12_ofCellNow_47 (by decide) ?_
    refine am_icmp_ne 48 67 dX12_ofCellNow_48 rfl (fun c48 => absurd c48 (by decide)) (fun c48 => ?_)
    refine am_aload_n 51 dX12_ofCellNow_51 rfl ?_
    refine am_iload_n 52 dX12_ofCellNow_52 rfl ?_
    refine am_V1 53 (mc' := 0) (ms' := 0) (rc := 0) (rs := 0) dX12_ofCellNow_53 lX12_242 ⟨by decide, by decide⟩ (by repeat (first | assumption | exact am_ue | refine am_un (by first | assumption | decide | omega) ?_)) (Nat.le_of_ble_eq_true rfl) (Nat.le_of_ble_eq_true rfl) (s_vTouched v0 v1 hc) ?_
    refine am_is_ct ?_
    refine am_if_eq 56 63 dX12_ofCellNow_56 rfl (fun c56 => ?_) (fun c56 => absurd m_tc00 c56)
    refine am_iconst 63 (v := 0) dX12_ofCellNow_63 (by decide) ?_
    refine am_goto 64 (tgt := 73) dX12_ofCellNow_64 rfl ?_
    exact am_ireturn 73 dX12_ofCellNow_73 rfl rfl ⟨rfl, rfl, rfl⟩
  · refine am_iload_n 0 dX12_ofCellNow_0 rfl ?_
    refine am_if_ne 1 18 dX12_ofCellNow_1 rfl (fun c1 => ?_) (fun c1 => absurd c1 (by decide))
    refine am_iload_n 18 dX12_ofCellNow_18 rfl ?_
    refine am_iconst 19 (v := 1) dX12_ofCellNow_19 (by decide) ?_
    refine am_icmp_ne 20 32 dX12_ofCellNow_20 rfl (fun c20 => ?_) (fun c20 => absurd c20 (by decide))
    refine am_iload_n 32 dX12_ofCellNow_32 rfl ?_
    refine am_iconst 33 (v := 2) dX12_ofCellNow_33 (by decide) ?_
    refine am_icmp_ne 34 46 dX12_ofCellNow_34 rfl (fun c34 => ?_) (fun c34 => absurd c34 (by decide))
    refine am_iload_n 46 dX12_ofCellNow_46 rfl ?_
    refine am_iconst 47 (v := 3) dX12_ofCellNow_47 (by decide) ?_
    refine am_icmp_ne 48 67 dX12_ofCellNow_48 rfl (fun c48 => ?_) (fun c48 => absurd c48 (by decide))
    refine am_aload_n 67 dX12_ofCellNow_67 rfl ?_
    refine am_getfield 68 dX12_ofCellNow_68 fX12_245 (by repeat (first | assumption | exact am_ue | refine am_un (by first | assumption | decide | omega) ?_)) rfl ?_
    refine am_iload_n 71 dX12_ofCellNow_71 rfl ?_
    refine am_iaload 72 dX12_ofCellNow_72 rfl (by repeat (first | assumption | exact am_ue | refine am_un (by first | assumption | decide | omega) ?_)) (am_ix hc (by decide)) ?_
    exact am_ireturn 73 dX12_ofCellNow_73 rfl rfl ⟨rfl, rfl, rfl⟩
theorem s_rofCell_t {j k : Nat} {w : Int32} (h : r_Mo f m th (fun _ => 0)) (hm : m + 4 < n) (hj : j < 8) (hk : k < 6) (hw : 0 ≤ w ∧ w ≤ 4) : AM mX12_ofCell 7 292 [.ref m, .int (nI j), .int (nI k), .int w] n f (r_ans m n f (.int 0) 0) := by
  show AW mX12_ofCell 7 292 0 [some (.ref m), some (.int (nI j)), some (.int (nI k)), some (.int w)] [] n f _
  have hT : r_Mo (va_up (va_up f m (r_mo m 0)) m (r_mo m 0)) m 0 (fun _ => 0) := h.th.th
  obtain ⟨i, hi, rfl⟩ := m_small_le 4 rfl (by decide) hw.1 hw.2
  refine am_aload_n 0 dX12_ofCell_0 rfl ?_
  refine am_iload_n 1 dX12_ofCell_1 rfl ?_
  refine am_iload_n 2 dX12_ofCell_2 rfl ?_
  refine am_S2 3 (mc' := 0) (ms' := 0) (rc := 7) (rs := 292) dX12_ofCell_3 lX12_75 ⟨by decide, by decide⟩ (Nat.le_of_ble_eq_true rfl) (Nat.le_of_ble_eq_true rfl) (s_isGlass_t hj hk) ?_
  refine am_is_ct ?_
  refine am_if_ne 6 13 dX12_ofCell_6 rfl (fun c6 => ?_) (fun c6 => absurd c6 (by decide))
  refine am_iconst 13 (v := 0) dX12_ofCell_13 (by decide) ?_
  refine am_iconst 14 (v := 1) dX12_ofCell_14 (by decide) ?_
  refine am_V2 15 (mc' := 0) (ms' := 0) (rc := 7) (rs := 292) dX12_ofCell_15 lX12_59 ⟨by decide, by decide⟩ h.1 (Nat.le_of_ble_eq_true rfl) (Nat.le_of_ble_eq_true rfl) (s_start false (by decide) h.1) ?_
  refine am_is_ct ?_
  refine am_if_ne 18 43 dX12_ofCell_18 rfl (fun c18 => absurd c18 (by decide)) (fun c18 => ?_)
  refine am_aload_n 21 dX12_ofCell_21 rfl ?_
  refine am_iload_n 22 dX12_ofCell_22 rfl ?_
  refine am_iconst 23 (v := 0) dX12_ofCell_23 (by decide) ?_
  refine am_iconst 24 (v := 4) dX12_ofCell_24 (by decide) ?_
  refine am_S3 25 (mc' := 0) (ms' := 0) (rc := 7) (rs := 292) dX12_ofCell_25 lX12_3 ⟨by decide, by decide⟩ (Nat.le_of_ble_eq_true rfl) (Nat.le_of_ble_eq_true rfl) (s_isIn_t hw.1 hw.2) ?_
  refine am_is_ct ?_
  refine am_if_ne 28 35 dX12_ofCell_28 rfl (fun c28 => ?_) (fun c28 => absurd c28 (by decide))
  refine am_iconst 35 (v := 0) dX12_ofCell_35 (by decide) ?_
  refine am_iconst 36 (v := 2) dX12_ofCell_36 (by decide) ?_
  refine am_V2 37 (mc' := 0) (ms' := 0) (rc := 7) (rs := 292) dX12_ofCell_37 lX12_43 ⟨by decide, by decide⟩ am_ue (Nat.le_of_ble_eq_true rfl) (Nat.le_of_ble_eq_true rfl) (s_refuse false (by decide) am_ue) ?_
  refine am_is_ct ?_
  refine am_if_eq 40 47 dX12_ofCell_40 rfl (fun c40 => ?_) (fun c40 => absurd (by decide) c40)
  refine am_aload_n 47 dX12_ofCell_47 rfl ?_
  refine am_iload_n 48 dX12_ofCell_48 rfl ?_
  refine am_iload_n 49 dX12_ofCell_49 rfl ?_
  refine am_S2 50 (mc' := 0) (ms' := 0) (rc := 7) (rs := 292) dX12_ofCell_50 lX12_79 ⟨by decide, by decide⟩ (Nat.le_of_ble_eq_true rfl) (Nat.le_of_ble_eq_true rfl) (s_cell) ?_
  refine am_is_ct ?_
  refine am_iload_n 53 dX12_ofCell_53 rfl ?_
  refine am_aload_n 54 dX12_ofCell_54 rfl ?_
  refine am_V0 55 (mc' := 7) (ms' := 292) (rc := 0) (rs := 0) dX12_ofCell_55 lX12_92 ⟨by decide, by decide⟩ hT.1 (Nat.le_of_ble_eq_true rfl) (Nat.le_of_ble_eq_true rfl) (s_view hT hm) ?_
  rintro o n' f1 ⟨rfl, rfl, hV, e1⟩
  have hV0 := hV.zero
  have hM := hT.V hm e1
  refine am_ct_in ?_
  refine am_V3 58 (mc' := 0) (ms' := 0) (rc := 0) (rs := 0) dX12_ofCell_58 lX12_248 ⟨by decide, by decide⟩ hM.1 (Nat.le_of_ble_eq_true rfl) (Nat.le_of_ble_eq_true rfl) (s_ofCellNow0 hM hV0 (by omega) hi) ?_
  refine am_is_ct ?_
  refine am_ireturn 61 dX12_ofCell_61 rfl rfl ?_
  exact ⟨rfl, by omega, ⟨_, hM.1⟩, fun x hx => by rw [e1 x (by omega)]; repeat rw [am_up_ne (by omega)]⟩
theorem s_ofRowNow0 {y j : Nat} (hV : r_V0 f v u) (hy : y < 6) (hj : j ≤ 2) : AM mX12_ofRowNow 0 0 [.int (nI y), .int (nI j), .ref v] n f (am_is (some (.int 0)) n f) := by
  obtain ⟨v0, v1, v2, pk, v3⟩ := hV
  show AW mX12_ofRowNow 0 0 0 [some (.int (nI y)), some (.int (nI j)), some (.ref v), none, none] [] n f _
  have hend : ∀ z : Option Value, AW mX12_ofRowNow 0 0 62 [some (.int (nI y)), some (.int (nI j)), some (.ref v), some (.int 0), z] [] n f (am_is (some (.int 0)) n f) := by
    intro z
    refine am_iconst 62 (v := 0) dX12_ofRowNow_62 (by decide) ?_
    refine am_istore 63 dX12_ofRowNow_63 (by decide) ?_
    refine am_iload 65 dX12_ofRowNow_65 rfl ?_
    refine am_aload_n 67 dX12_ofRowNow_67 rfl ?_
    refine am_getfield 68 dX12_ofRowNow_68 fX12_212 (by repeat (first | assumption | exact am_ue | refine am_un (by first | assumption | decide | omega) ?_)) rfl ?_
    refine am_icmp_ge 71 107 dX12_ofRowNow_71 rfl (fun c71 => ?_) (fun c71 => absurd (Int32.le_refl _) c71)
    refine am_iload_n 107 dX12_ofRowNow_107 rfl ?_
    exact am_ireturn 108 dX12_ofRowNow_108 rfl rfl ⟨rfl, rfl, rfl⟩
  have hcs : j = 0 ∨ j = 1 ∨ j = 2 := by omega
  refine am_iconst 0 (v := 0) dX12_ofRowNow_0 (by decide) ?_
  refine am_istore_n 1 dX12_ofRowNow_1 (by decide) ?_
  refine am_iconst 2 (v := 0) dX12_ofRowNow_2 (by decide) ?_
  refine am_istore 3 dX12_ofRowNow_3 (by decide) ?_
  refine am_for 8 (fun _ (_ : Unit) => True) (fun k _ => AW mX12_ofRowNow 0 0 5 [some (.int (nI y)), some (.int (nI j)), some (.ref v), some (.int 0), some (.int (nI k))] [] n f _) ?_ ?_ 0 () (by omega) trivial
  · rintro ⟨⟩ -
    refine am_iload 5 dX12_ofRowNow_5 rfl ?_
    refine am_bipush 7 (v := 8) dX12_ofRowNow_7 (by decide) ?_
    refine am_icmp_ge 9 62 dX12_ofRowNow_9 rfl (fun c9 => ?_) (fun c9 => absurd (by decide) c9)
    exact hend _
  · rintro k ⟨⟩ hk - ih
    rcases hcs with rfl | rfl | rfl
    · refine am_iload 5 dX12_ofRowNow_5 rfl ?_
      refine am_bipush 7 (v := 8) dX12_ofRowNow_7 (by decide) ?_
      refine am_icmp_ge 9 62 dX12_ofRowNow_9 rfl (fun c9 => absurd c9 (nI_ge hk (by decide))) (fun c9 => ?_)
      refine am_iload_n 12 dX12_ofRowNow_12 rfl ?_
      refine am_iload_n 13 dX12_ofRowNow_13 rfl ?_
      refine am_if_ne 14 31 dX12_ofRowNow_14 rfl (fun c14 => absurd c14 (by decide)) (fun c14 => ?_)
      refine am_aload_n 17 dX12_ofRowNow_17 rfl ?_
      refine am_getfield 18 dX12_ofRowNow_18 fX12_239 (by repeat (first | assumption | exact am_ue | refine am_un (by first | assumption | decide | omega) ?_)) rfl ?_
      refine am_iload 21 dX12_ofRowNow_21 rfl ?_
      refine am_iload_n 23 dX12_ofRowNow_23 rfl ?_
      refine am_S2 24 (mc' := 0) (ms' := 0) (rc := 0) (rs := 0) dX12_ofRowNow_24 lX12_79 ⟨by decide, by decide⟩ (Nat.le_of_ble_eq_true rfl) (Nat.le_of_ble_eq_true rfl) (s_cell) ?_
      refine am_is_ct ?_
      refine am_iaload 27 dX12_ofRowNow_27 rfl (by repeat (first | assumption | exact am_ue | refine am_un (by first | assumption | decide | omega) ?_)) (am_ix (by omega) (by decide)) ?_
      refine am_goto 28 (tgt := 54) dX12_ofRowNow_28 rfl ?_
      refine am_iadd 54 dX12_ofRowNow_54 ?_
      rw [show (0 : Int32) + 0 = 0 from rfl]
      refine am_istore_n 55 dX12_ofRowNow_55 (by decide) ?_
      refine am_iinc 56 (v := nI (k + 1)) dX12_ofRowNow_56 rfl (nI_1 (k)) (by decide) ?_
      refine am_goto 59 (tgt := 5) dX12_ofRowNow_59 rfl ?_
      exact ih () trivial
    · refine am_iload 5 dX12_ofRowNow_5 rfl ?_
      refine am_bipush 7 (v := 8) dX12_ofRowNow_7 (by decide) ?_
      refine am_icmp_ge 9 62 dX12_ofRowNow_9 rfl (fun c9 => absurd c9 (nI_ge hk (by decide))) (fun c9 => ?_)
      refine am_iload_n 12 dX12_ofRowNow_12 rfl ?_
      refine am_iload_n 13 dX12_ofRowNow_13 rfl ?_
      refine am_if_ne 14 31 dX12_ofRowNow_14 rfl (fun c14 => ?_) (fun c14 => absurd c14 (by decide))
      refine am_iload_n 31 dX12_ofRowNow_31 rfl ?_
      refine am_iconst 32 (v := 1) dX12_ofRowNow_32 (by decide) ?_
      refine am_icmp_ne 33 53 dX12_ofRowNow_33 rfl (fun c33 => absurd c33 (by decide)) (fun c33 => ?_)
      refine am_aload_n 36 dX12_ofRowNow_36 rfl ?_
      refine am_iload 37 dX12_ofRowNow_37 rfl ?_
      refine am_iload_n 39 dX12_ofRowNow_39 rfl ?_
      refine am_S2 40 (mc' := 0) (ms' := 0) (rc := 0) (rs := 0) dX12_ofRowNow_40 lX12_79 ⟨by decide, by decide⟩ (Nat.le_of_ble_eq_true rfl) (Nat.le_of_ble_eq_true rfl) (s_cell) ?_
      refine am_is_ct ?_
      refine am_V1 43 (mc' := 0) (ms' := 0) (rc := 0) (rs := 0) dX12_ofRowNow_43 lX12_242 ⟨by decide, by decide⟩ (by repeat (first | assumption | exact am_ue | refine am_un (by first | assumption | decide | omega) ?_)) (Nat.le_of_ble_eq_true rfl) (Nat.le_of_ble_eq_true rfl) (s_vTouched v0 v1 (by omega)) ?_
      refine am_is_ct ?_
      refine am_if_eq 46 53 dX12_ofRowNow_46 rfl (fun c46 => ?_) (fun c46 => absurd m_tc00 c46)
      refine am_iconst 53 (v := 0) dX12_ofRowNow_53 (by decide) ?_
      refine am_iadd 54 dX12_ofRowNow_54 ?_
      rw [show (0 : Int32) + 0 = 0 from rfl]
      refine am_istore_n 55 dX12_ofRowNow_55 (by decide) ?_
      refine am_iinc 56 (v := nI (k + 1)) dX12_ofRowNow_56 rfl (nI_1 (k)) (by decide) ?_
      refine am_goto 59 (tgt := 5) dX12_ofRowNow_59 rfl ?_
      exact ih () trivial
    · refine am_iload 5 dX12_ofRowNow_5 rfl ?_
      refine am_bipush 7 (v := 8) dX12_ofRowNow_7 (by decide) ?_
      refine am_icmp_ge 9 62 dX12_ofRowNow_9 rfl (fun c9 => absurd c9 (nI_ge hk (by decide))) (fun c9 => ?_)
      refine am_iload_n 12 dX12_ofRowNow_12 rfl ?_
      refine am_iload_n 13 dX12_ofRowNow_13 rfl ?_
      refine am_if_ne 14 31 dX12_ofRowNow_14 rfl (fun c14 => ?_) (fun c14 => absurd c14 (by decide))
      refine am_iload_n 31 dX12_ofRowNow_31 rfl ?_
      refine am_iconst 32 (v := 1) dX12_ofRowNow_32 (by decide) ?_
      refine am_icmp_ne 33 53 dX12_ofRowNow_33 rfl (fun c33 => ?_) (fun c33 => absurd c33 (by decide))
      refine am_iconst 53 (v := 0) dX12_ofRowNow_53 (by decide) ?_
      refine am_iadd 54 dX12_ofRowNow_54 ?_
      rw [show (0 : Int32) + 0 = 0 from rfl]
      refine am_istore_n 55 dX12_ofRowNow_55 (by decide) ?_
      refine am_iinc 56 (v := nI (k + 1)) dX12_ofRowNow_56 rfl (nI_1 (k)) (by decide) ?_
      refine am_goto 59 (tgt := 5) dX12_ofRowNow_59 rfl ?_
      exact ih () trivial
theorem s_rofRow_t {k : Nat} {w : Int32} (h : r_Mo f m th (fun _ => 0)) (hm : m + 4 < n) (hk : k < 6) (hw : 0 ≤ w ∧ w ≤ 2) : AM mX12_ofRow 7 292 [.ref m, .int (nI k), .int w] n f (r_ans m n f (.int 0) 0) := by
  have hy : (0 : Int32) ≤ nI k ∧ nI k ≤ 5 := ⟨m_nI0 (by omega), (m_leP 5 rfl rfl (by decide)).mpr (nI_ge hk (by decide))⟩
  show AW mX12_ofRow 7 292 0 [some (.ref m), some (.int (nI k)), some (.int w)] [] n f _
  have hT : r_Mo (va_up (va_up f m (r_mo m 0)) m (r_mo m 0)) m 0 (fun _ => 0) := h.th.th
  obtain ⟨i, hi, rfl⟩ := m_small_le 2 rfl (by decide) hw.1 hw.2
  refine am_aload_n 0 dX12_ofRow_0 rfl ?_
  refine am_iload_n 1 dX12_ofRow_1 rfl ?_
  refine am_iconst 2 (v := 0) dX12_ofRow_2 (by decide) ?_
  refine am_iconst 3 (v := 5) dX12_ofRow_3 (by decide) ?_
  refine am_S3 4 (mc' := 0) (ms' := 0) (rc := 7) (rs := 292) dX12_ofRow_4 lX12_3 ⟨by decide, by decide⟩ (Nat.le_of_ble_eq_true rfl) (Nat.le_of_ble_eq_true rfl) (s_isIn_t hy.1 hy.2) ?_
  refine am_is_ct ?_
  refine am_if_ne 7 14 dX12_ofRow_7 rfl (fun c7 => ?_) (fun c7 => absurd c7 (by decide))
  refine am_iconst 14 (v := 0) dX12_ofRow_14 (by decide) ?_
  refine am_iconst 15 (v := 1) dX12_ofRow_15 (by decide) ?_
  refine am_V2 16 (mc' := 0) (ms' := 0) (rc := 7) (rs := 292) dX12_ofRow_16 lX12_59 ⟨by decide, by decide⟩ h.1 (Nat.le_of_ble_eq_true rfl) (Nat.le_of_ble_eq_true rfl) (s_start false (by decide) h.1) ?_
  refine am_is_ct ?_
  refine am_if_ne 19 44 dX12_ofRow_19 rfl (fun c19 => absurd c19 (by decide)) (fun c19 => ?_)
  refine am_aload_n 22 dX12_ofRow_22 rfl ?_
  refine am_iload_n 23 dX12_ofRow_23 rfl ?_
  refine am_iconst 24 (v := 0) dX12_ofRow_24 (by decide) ?_
  refine am_iconst 25 (v := 2) dX12_ofRow_25 (by decide) ?_
  refine am_S3 26 (mc' := 0) (ms' := 0) (rc := 7) (rs := 292) dX12_ofRow_26 lX12_3 ⟨by decide, by decide⟩ (Nat.le_of_ble_eq_true rfl) (Nat.le_of_ble_eq_true rfl) (s_isIn_t hw.1 hw.2) ?_
  refine am_is_ct ?_
  refine am_if_ne 29 36 dX12_ofRow_29 rfl (fun c29 => ?_) (fun c29 => absurd c29 (by decide))
  refine am_iconst 36 (v := 0) dX12_ofRow_36 (by decide) ?_
  refine am_iconst 37 (v := 2) dX12_ofRow_37 (by decide) ?_
  refine am_V2 38 (mc' := 0) (ms' := 0) (rc := 7) (rs := 292) dX12_ofRow_38 lX12_43 ⟨by decide, by decide⟩ am_ue (Nat.le_of_ble_eq_true rfl) (Nat.le_of_ble_eq_true rfl) (s_refuse false (by decide) am_ue) ?_
  refine am_is_ct ?_
  refine am_if_eq 41 48 dX12_ofRow_41 rfl (fun c41 => ?_) (fun c41 => absurd (by decide) c41)
  refine am_iload_n 48 dX12_ofRow_48 rfl ?_
  refine am_iload_n 49 dX12_ofRow_49 rfl ?_
  refine am_aload_n 50 dX12_ofRow_50 rfl ?_
  refine am_V0 51 (mc' := 7) (ms' := 292) (rc := 0) (rs := 0) dX12_ofRow_51 lX12_92 ⟨by decide, by decide⟩ hT.1 (Nat.le_of_ble_eq_true rfl) (Nat.le_of_ble_eq_true rfl) (s_view hT hm) ?_
  rintro o n' f1 ⟨rfl, rfl, hV, e1⟩
  have hV0 := hV.zero
  have hM := hT.V hm e1
  refine am_ct_in ?_
  refine am_S3 54 (mc' := 0) (ms' := 0) (rc := 0) (rs := 0) dX12_ofRow_54 lX12_278 ⟨by decide, by decide⟩ (Nat.le_of_ble_eq_true rfl) (Nat.le_of_ble_eq_true rfl) (s_ofRowNow0 hV0 hk hi) ?_
  refine am_is_ct ?_
  refine am_ireturn 57 dX12_ofRow_57 rfl rfl ?_
  exact ⟨rfl, by omega, ⟨_, hM.1⟩, fun x hx => by rw [e1 x (by omega)]; repeat rw [am_up_ne (by omega)]⟩
theorem s_rmanyNow0 {j : Nat} (hM : r_Mo f m th (fun _ => 0)) (hV : r_V0 f v u) (hj : j ≤ 9) : AM mX12_manyNow 0 0 [.ref m, .int (nI j), .ref v] n f (am_is (some (.int 0)) n f) := by
  have hM2 := hM
  obtain ⟨h0, h1, h2, h3, h4⟩ := hM
  unfold r_mo at h0
  obtain ⟨v0, v1, v2, -⟩ := hV
  show AW mX12_manyNow 0 0 0 [some (.ref m), some (.int (nI j)), some (.ref v), none, none] [] n f _
  have hcs : j = 0 ∨ j = 1 ∨ j = 2 ∨ j = 3 ∨ j = 4 ∨ j = 5 ∨ j = 6 ∨ j = 7 ∨ j = 8 ∨ j = 9 := by omega
  rcases hcs with rfl | rfl | rfl | rfl | rfl | rfl | rfl | rfl | rfl | rfl
  · refine am_iload_n 0 dX12_manyNow_0 rfl ?_
    refine am_tableIn 1 (off := 51) (tgt := 52) dX12_manyNow_1 (by decide) (by decide) rfl rfl ?_
    refine am_aload_n 52 dX12_manyNow_52 rfl ?_
    refine am_getfield 53 dX12_manyNow_53 fX12_220 (by repeat (first | assumption | exact am_ue | refine am_un (by first | assumption | decide | omega) ?_)) rfl ?_
    exact am_ireturn 56 dX12_manyNow_56 rfl rfl ⟨rfl, rfl, rfl⟩
  · refine am_iload_n 0 dX12_manyNow_0 rfl ?_
    refine am_tableIn 1 (off := 56) (tgt := 57) dX12_manyNow_1 (by decide) (by decide) rfl rfl ?_
    refine am_aload_n 57 dX12_manyNow_57 rfl ?_
    refine am_getfield 58 dX12_manyNow_58 fX12_223 (by repeat (first | assumption | exact am_ue | refine am_un (by first | assumption | decide | omega) ?_)) rfl ?_
    exact am_ireturn 61 dX12_manyNow_61 rfl rfl ⟨rfl, rfl, rfl⟩
  · refine am_iload_n 0 dX12_manyNow_0 rfl ?_
    refine am_tableIn 1 (off := 61) (tgt := 62) dX12_manyNow_1 (by decide) (by decide) rfl rfl ?_
    refine am_aload_n 62 dX12_manyNow_62 rfl ?_
    refine am_V0 63 (mc' := 0) (ms' := 0) (rc := 0) (rs := 0) dX12_manyNow_63 lX12_236 ⟨by decide, by decide⟩ (by repeat (first | assumption | exact am_ue | refine am_un (by first | assumption | decide | omega) ?_)) (Nat.le_of_ble_eq_true rfl) (Nat.le_of_ble_eq_true rfl) (s_contactsNow0 hM2) ?_
    refine am_is_ct ?_
    exact am_ireturn 66 dX12_manyNow_66 rfl rfl ⟨rfl, rfl, rfl⟩
  · refine am_iload_n 0 dX12_manyNow_0 rfl ?_
    refine am_tableIn 1 (off := 66) (tgt := 67) dX12_manyNow_1 (by decide) (by decide) rfl rfl ?_
    refine am_aload_n 67 dX12_manyNow_67 rfl ?_
    refine am_getfield 68 dX12_manyNow_68 fX12_153 (by repeat (first | assumption | exact am_ue | refine am_un (by first | assumption | decide | omega) ?_)) rfl ?_
    exact am_ireturn 71 dX12_manyNow_71 rfl rfl ⟨rfl, rfl, rfl⟩
  · refine am_iload_n 0 dX12_manyNow_0 rfl ?_
    refine am_tableIn 1 (off := 71) (tgt := 72) dX12_manyNow_1 (by decide) (by decide) rfl rfl ?_
    refine am_aload_n 72 dX12_manyNow_72 rfl ?_
    refine am_getfield 73 dX12_manyNow_73 fX12_132 (by repeat (first | assumption | exact am_ue | refine am_un (by first | assumption | decide | omega) ?_)) rfl ?_
    exact am_ireturn 76 dX12_manyNow_76 rfl rfl ⟨rfl, rfl, rfl⟩
  · refine am_iload_n 0 dX12_manyNow_0 rfl ?_
    refine am_tableIn 1 (off := 76) (tgt := 77) dX12_manyNow_1 (by decide) (by decide) rfl rfl ?_
    refine am_aload_n 77 dX12_manyNow_77 rfl ?_
    refine am_getfield 78 dX12_manyNow_78 fX12_116 (by repeat (first | assumption | exact am_ue | refine am_un (by first | assumption | decide | omega) ?_)) rfl ?_
    exact am_ireturn 81 dX12_manyNow_81 rfl rfl ⟨rfl, rfl, rfl⟩
  · refine am_iload_n 0 dX12_manyNow_0 rfl ?_
    refine am_tableIn 1 (off := 81) (tgt := 82) dX12_manyNow_1 (by decide) (by decide) rfl rfl ?_
    refine am_aload_n 82 dX12_manyNow_82 rfl ?_
    refine am_getfield 83 dX12_manyNow_83 fX12_36 (by repeat (first | assumption | exact am_ue | refine am_un (by first | assumption | decide | omega) ?_)) rfl ?_
    refine am_V0 86 (mc' := 0) (ms' := 0) (rc := 0) (rs := 0) dX12_manyNow_86 lX12_62 ⟨by decide, by decide⟩ (by repeat (first | assumption | exact am_ue | refine am_un (by first | assumption | decide | omega) ?_)) (Nat.le_of_ble_eq_true rfl) (Nat.le_of_ble_eq_true rfl) (s_size h4) ?_
    refine am_is_ct ?_
    exact am_ireturn 89 dX12_manyNow_89 rfl rfl ⟨rfl, rfl, rfl⟩
  · refine am_iload_n 0 dX12_manyNow_0 rfl ?_
    refine am_tableIn 1 (off := 89) (tgt := 90) dX12_manyNow_1 (by decide) (by decide) rfl rfl ?_
    refine am_aload_n 90 dX12_manyNow_90 rfl ?_
    refine am_V0 91 (mc' := 0) (ms' := 0) (rc := 0) (rs := 0) dX12_manyNow_91 lX12_96 ⟨by decide, by decide⟩ (by repeat (first | assumption | exact am_ue | refine am_un (by first | assumption | decide | omega) ?_)) (Nat.le_of_ble_eq_true rfl) (Nat.le_of_ble_eq_true rfl) (s_vhum v0 v1 (fun x _ => by show (0 : Int32).toInt.natAbs ≤ 100; decide)) ?_
    refine am_is_ct ?_
    refine am_ireturn 94 dX12_manyNow_94 rfl rfl ?_
    exact ⟨by rw [m_hum_0], rfl, rfl⟩
  · refine am_iload_n 0 dX12_manyNow_0 rfl ?_
    refine am_tableIn 1 (off := 94) (tgt := 95) dX12_manyNow_1 (by decide) (by decide) rfl rfl ?_
    refine am_aload_n 95 dX12_manyNow_95 rfl ?_
    refine am_getfield 96 dX12_manyNow_96 fX12_212 (by repeat (first | assumption | exact am_ue | refine am_un (by first | assumption | decide | omega) ?_)) rfl ?_
    exact am_ireturn 99 dX12_manyNow_99 rfl rfl ⟨rfl, rfl, rfl⟩
  · refine am_iload_n 0 dX12_manyNow_0 rfl ?_
    refine am_tableOut 1 (tgt := 100) dX12_manyNow_1 (by decide) rfl ?_
    refine am_iconst 100 (v := 0) dX12_manyNow_100 (by decide) ?_
    refine am_istore_n 101 dX12_manyNow_101 (by decide) ?_
    refine am_iconst 102 (v := 0) dX12_manyNow_102 (by decide) ?_
    refine am_istore 103 dX12_manyNow_103 (by decide) ?_
    refine am_iload 105 dX12_manyNow_105 rfl ?_
    refine am_aload_n 107 dX12_manyNow_107 rfl ?_
    refine am_getfield 108 dX12_manyNow_108 fX12_212 (by repeat (first | assumption | exact am_ue | refine am_un (by first | assumption | decide | omega) ?_)) rfl ?_
    refine am_icmp_ge 111 142 dX12_manyNow_111 rfl (fun c111 => ?_) (fun c111 => absurd (Int32.le_refl _) c111)
    refine am_iload_n 142 dX12_manyNow_142 rfl ?_
    exact am_ireturn 143 dX12_manyNow_143 rfl rfl ⟨rfl, rfl, rfl⟩
theorem s_rmany_t {w : Int32} (h : r_Mo f m th (fun _ => 0)) (hm : m + 4 < n) (hw : 0 ≤ w ∧ w ≤ 9) : AM mX12_many 7 292 [.ref m, .int w] n f (r_ans m n f (.int 0) 0) := by
  show AW mX12_many 7 292 0 [some (.ref m), some (.int w)] [] n f _
  have hT : r_Mo (va_up f m (r_mo m 0)) m 0 (fun _ => 0) := h.th
  obtain ⟨i, hi, rfl⟩ := m_small_le 9 rfl (by decide) hw.1 hw.2
  refine am_aload_n 0 dX12_many_0 rfl ?_
  refine am_iload_n 1 dX12_many_1 rfl ?_
  refine am_iconst 2 (v := 0) dX12_many_2 (by decide) ?_
  refine am_bipush 3 (v := 9) dX12_many_3 (by decide) ?_
  refine am_S3 5 (mc' := 0) (ms' := 0) (rc := 7) (rs := 292) dX12_many_5 lX12_3 ⟨by decide, by decide⟩ (Nat.le_of_ble_eq_true rfl) (Nat.le_of_ble_eq_true rfl) (s_isIn_t hw.1 hw.2) ?_
  refine am_is_ct ?_
  refine am_if_ne 8 15 dX12_many_8 rfl (fun c8 => ?_) (fun c8 => absurd c8 (by decide))
  refine am_iconst 15 (v := 0) dX12_many_15 (by decide) ?_
  refine am_iconst 16 (v := 1) dX12_many_16 (by decide) ?_
  refine am_V2 17 (mc' := 0) (ms' := 0) (rc := 7) (rs := 292) dX12_many_17 lX12_59 ⟨by decide, by decide⟩ h.1 (Nat.le_of_ble_eq_true rfl) (Nat.le_of_ble_eq_true rfl) (s_start false (by decide) h.1) ?_
  refine am_is_ct ?_
  refine am_if_eq 20 27 dX12_many_20 rfl (fun c20 => ?_) (fun c20 => absurd (by decide) c20)
  refine am_aload_n 27 dX12_many_27 rfl ?_
  refine am_iload_n 28 dX12_many_28 rfl ?_
  refine am_aload_n 29 dX12_many_29 rfl ?_
  refine am_V0 30 (mc' := 7) (ms' := 292) (rc := 0) (rs := 0) dX12_many_30 lX12_92 ⟨by decide, by decide⟩ hT.1 (Nat.le_of_ble_eq_true rfl) (Nat.le_of_ble_eq_true rfl) (s_view hT hm) ?_
  rintro o n' f1 ⟨rfl, rfl, hV, e1⟩
  have hV0 := hV.zero
  have hM := hT.V hm e1
  refine am_ct_in ?_
  refine am_V2 33 (mc' := 0) (ms' := 0) (rc := 0) (rs := 0) dX12_many_33 lX12_284 ⟨by decide, by decide⟩ hM.1 (Nat.le_of_ble_eq_true rfl) (Nat.le_of_ble_eq_true rfl) (s_rmanyNow0 hM hV0 hi) ?_
  refine am_is_ct ?_
  refine am_ireturn 36 dX12_many_36 rfl rfl ?_
  exact ⟨rfl, by omega, ⟨_, hM.1⟩, fun x hx => by rw [e1 x (by omega)]; repeat rw [am_up_ne (by omega)]⟩
theorem s_rcalmNow (h : r_Mo f m th (fun _ => 0)) (hm : m + 4 < n) : AM mX12_calmInNow 8 340 [.ref m] n f (fun o n' f' => o = .inl (some (.int 0)) ∧ n ≤ n' ∧ ∀ x, x < n → f' x = f x) := by
  obtain ⟨h0, h1, h2, -⟩ := id h
  unfold r_mo at h0
  show AW mX12_calmInNow 8 340 0 [some (.ref m), none, none, none, none, none, none] [] n f _
  refine am_bipush 0 (v := 48) dX12_calmInNow_0 (by decide) ?_
  refine am_newints 2 (t := 0) (N := 48) (rc := 7) (rs := 292) dX12_calmInNow_2 ac_int rfl (by decide) (by decide) (by decide) ?_
  refine am_astore_n 4 dX12_calmInNow_4 (by decide) ?_
  refine am_bipush 5 (v := 48) dX12_calmInNow_5 (by decide) ?_
  refine am_newints 7 (t := 0) (N := 48) (rc := 6) (rs := 244) dX12_calmInNow_7 ac_int rfl (by decide) (by decide) (by decide) ?_
  refine am_astore_n 9 dX12_calmInNow_9 (by decide) ?_
  have ef : va_up (va_up f n (.inl (0, 48, .inl (fun _ => 0)))) (n + 1) (.inl (0, 48, .inl (fun _ => 0))) = va_up (va_up f n (.inl (0, 48, .inl (fun _ => 0)))) (n + 1) (.inl (0, 48, .inl (fun _ => 0))) := rfl
  refine am_iconst 10 (v := 0) dX12_calmInNow_10 (by decide) ?_
  refine am_istore_n 11 dX12_calmInNow_11 (by decide) ?_
  refine am_for 48 (fun k (z : (Nat → Int32) × (Nat → Int32)) => (∀ x, z.1 x = 0) ∧ (∀ x, z.2 x = 0)) (fun k z => AW mX12_calmInNow 6 244 12 [some (.ref m), some (.ref n), some (.ref (n + 1)), some (.int (nI k)), none, none, none] [] (n + 1 + 1) (va_up (va_up f n (.inl (0, 48, .inl z.1))) (n + 1) (.inl (0, 48, .inl z.2))) _) ?_ ?_ 0 (_, _) (by omega) ⟨fun _ => rfl, fun _ => rfl⟩
  · rintro ⟨a, b⟩ ⟨ha, hb⟩
    have ha2 : a = fun _ => 0 := funext ha
    have hb2 : b = fun _ => 0 := funext hb
    subst ha2
    subst hb2
    refine am_iload_n 12 dX12_calmInNow_12 rfl ?_
    refine am_bipush 13 (v := 48) dX12_calmInNow_13 (by decide) ?_
    refine am_icmp_ge 15 40 dX12_calmInNow_15 rfl (fun c15 => ?_) (fun c15 => absurd (by decide) c15)
    refine am_iconst 40 (v := 0) dX12_calmInNow_40 (by decide) ?_
    refine am_istore_n 41 dX12_calmInNow_41 (by decide) ?_
    refine am_iload_n 42 dX12_calmInNow_42 rfl ?_
    refine am_bipush 43 (v := 60) dX12_calmInNow_43 (by decide) ?_
    refine am_icmp_gt 45 121 dX12_calmInNow_45 rfl (fun c45 => absurd c45 (by decide)) (fun c45 => ?_)
    refine am_new 48 (rc := 5) (rs := 240) (N := 4) dX12_calmInNow_48 nX12_50 ?_
    refine am_dup 51 dX12_calmInNow_51 rfl ?_
    refine am_aload_n 52 dX12_calmInNow_52 rfl ?_
    refine am_aload_n 53 dX12_calmInNow_53 rfl ?_
    refine am_I2 54 (mc' := 5) (ms' := 240) (rc := 0) (rs := 0) dX12_calmInNow_54 lX12_56 ⟨by decide, by decide⟩ (Nat.le_of_ble_eq_true rfl) (Nat.le_of_ble_eq_true rfl) (s_View_init (u := n + 1 + 1 + 1) am_ue (am_un (by omega) (am_un (by omega) am_ue)) (am_un (by omega) am_ue) (by omega) (by omega) (by omega)) ?_
    rintro o n' f1 ⟨sz, pk, g, w', q, rfl, hn, rfl, -⟩
    obtain rfl : n' = n + 8 := hn
    refine ⟨_, rfl, ?_⟩
    refine am_astore 57 dX12_calmInNow_57 (by decide) ?_
    refine am_iconst 59 (v := 0) dX12_calmInNow_59 (by decide) ?_
    refine am_istore 60 dX12_calmInNow_60 (by decide) ?_
    refine am_iconst 62 (v := 0) dX12_calmInNow_62 (by decide) ?_
    refine am_istore 63 dX12_calmInNow_63 (by decide) ?_
    generalize hf1 : r_put _ (n + 1 + 1) (n + 1 + 1 + 1) _ sz pk (nI q) g w' = f1
    have w0 : f1 (n + 1 + 1) = .inr (11, [.ref (n + 1 + 1 + 1), .ref (n + 1 + 1 + 1 + 1), .ref (n + 1 + 1 + 1 + 2), .int (nI q)]) := by rw [← hf1]; exact r_a0
    have w1 : f1 (n + 1 + 1 + 1) = .inl (0, 48, .inl (fun _ => 0)) := by
      rw [← hf1, r_a1 (by omega)]
      exact congrArg (fun s : Nat → Int32 => (.inl (0, 48, .inl s) : am_C)) (funext fun _ => show (0 : Int32) - 0 = 0 by decide)
    have w2 : f1 (n + 1) = .inl (0, 48, .inl (fun _ => 0)) := by rw [← hf1, r_out (by omega), am_up_ne (by omega)]; exact am_ue
    have eo : ∀ x, x < n → f1 x = f x := fun x hx => by rw [← hf1, r_out (by omega), am_up_ne (by omega), am_up_ne (by omega), am_up_ne (by omega)]
    clear hf1
    have hh := am_for 48 (fun _ (_ : Nat → Int32) => True) (fun k b => AW mX12_calmInNow 0 0 65 [some (.ref m), some (.ref n), some (.ref (n + 1)), some (.int 0), some (.ref (n + 1 + 1)), some (.int 0), some (.int (nI k))] [] (n + 8) (va_up f1 (n + 1) (.inl (0, 48, .inl b))) (fun o n' f' => o = .inl (some (.int 0)) ∧ n ≤ n' ∧ ∀ x, x < n → f' x = f x)) ?_ ?_ 0 (fun _ => 0) (by omega) trivial
    · rw [am_self w2] at hh
      exact hh
    · intro b _
      refine am_iload 65 dX12_calmInNow_65 rfl ?_
      refine am_bipush 67 (v := 48) dX12_calmInNow_67 (by decide) ?_
      refine am_icmp_ge 69 108 dX12_calmInNow_69 rfl (fun c69 => ?_) (fun c69 => absurd (by decide) c69)
      refine am_iload 108 dX12_calmInNow_108 rfl ?_
      refine am_if_ne 110 115 dX12_calmInNow_110 rfl (fun c110 => absurd c110 (by decide)) (fun c110 => ?_)
      refine am_iload_n 113 dX12_calmInNow_113 rfl ?_
      refine am_ireturn 114 dX12_calmInNow_114 rfl rfl ?_
      exact ⟨rfl, by omega, fun x hx => by rw [am_up_ne (by omega), eo x hx]⟩
    · intro k b hk _ ih
      refine am_iload 65 dX12_calmInNow_65 rfl ?_
      refine am_bipush 67 (v := 48) dX12_calmInNow_67 (by decide) ?_
      refine am_icmp_ge 69 108 dX12_calmInNow_69 rfl (fun c69 => absurd c69 (nI_ge hk (by decide))) (fun c69 => ?_)
      refine am_iload 72 dX12_calmInNow_72 rfl ?_
      refine am_aload 74 dX12_calmInNow_74 rfl ?_
      refine am_getfield 76 dX12_calmInNow_76 fX12_239 (by first | exact am_ue | exact am_un (by omega) w0 | exact am_un (by omega) w1) rfl ?_
      refine am_iload 79 dX12_calmInNow_79 rfl ?_
      refine am_iaload 81 dX12_calmInNow_81 rfl (by first | exact am_ue | exact am_un (by omega) w0 | exact am_un (by omega) w1) (am_ix hk (by decide)) ?_
      refine am_abs 82 dX12_calmInNow_82 jX12_83 (by decide) (Nat.le_of_ble_eq_true rfl) ?_
      refine am_iadd 85 dX12_calmInNow_85 ?_
      rw [show (0 : Int32) + (if (0 : Int32) ≤ 0 then 0 else 0 - 0) = 0 from by decide]
      refine am_istore 86 dX12_calmInNow_86 (by decide) ?_
      refine am_aload_n 88 dX12_calmInNow_88 rfl ?_
      refine am_iload 89 dX12_calmInNow_89 rfl ?_
      refine am_dup2 91 dX12_calmInNow_91 rfl rfl ?_
      refine am_iaload 92 dX12_calmInNow_92 rfl (by first | exact am_ue | exact am_un (by omega) w0 | exact am_un (by omega) w1) (am_ix hk (by decide)) ?_
      refine am_aload 93 dX12_calmInNow_93 rfl ?_
      refine am_iload 95 dX12_calmInNow_95 rfl ?_
      refine am_V1 97 (mc' := 0) (ms' := 0) (rc := 0) (rs := 0) dX12_calmInNow_97 lX12_230 ⟨by decide, by decide⟩ (am_un (by omega) w0) (Nat.le_of_ble_eq_true rfl) (Nat.le_of_ble_eq_true rfl) (s_drift0 (am_un (by omega) w0) (am_un (by omega) w1) hk) ?_
      refine am_is_ct ?_
      refine am_iadd 100 dX12_calmInNow_100 ?_
      refine am_iastore 101 dX12_calmInNow_101 rfl (by first | exact am_ue | exact am_un (by omega) w0 | exact am_un (by omega) w1) (am_ix hk (by decide)) ?_
      rw [am_uu]
      refine am_iinc 102 (v := nI (k + 1)) dX12_calmInNow_102 rfl (nI_1 (k)) (by decide) ?_
      refine am_goto 105 (tgt := 65) dX12_calmInNow_105 rfl ?_
      exact ih _ trivial
  · rintro k ⟨a, b⟩ hk ⟨ha, hb⟩ ih
    have ha2 : a = fun _ => 0 := funext ha
    have hb2 : b = fun _ => 0 := funext hb
    subst ha2
    subst hb2
    have hz : ∀ c : Nat, va_up (fun _ => (0 : Int32)) c 0 = fun _ => 0 := fun c => by funext x; unfold va_up; split <;> rfl
    refine am_iload_n 12 dX12_calmInNow_12 rfl ?_
    refine am_bipush 13 (v := 48) dX12_calmInNow_13 (by decide) ?_
    refine am_icmp_ge 15 40 dX12_calmInNow_15 rfl (fun c15 => absurd c15 (nI_ge hk (by decide))) (fun c15 => ?_)
    refine am_aload_n 18 dX12_calmInNow_18 rfl ?_
    refine am_iload_n 19 dX12_calmInNow_19 rfl ?_
    refine am_aload_n 20 dX12_calmInNow_20 rfl ?_
    refine am_getfield 21 dX12_calmInNow_21 fX12_47 (by first | exact am_ue | exact am_un (by omega) am_ue | exact am_un (by omega) (am_un (by omega) h0) | exact am_un (by omega) (am_un (by omega) h1)) rfl ?_
    refine am_iastore 24 dX12_calmInNow_24 rfl (by first | exact am_ue | exact am_un (by omega) am_ue | exact am_un (by omega) (am_un (by omega) h0) | exact am_un (by omega) (am_un (by omega) h1)) (am_ix hk (by decide)) ?_
    rw [hz, am_us (i := n + 1) (j := n) (by omega), am_uu]
    refine am_aload_n 25 dX12_calmInNow_25 rfl ?_
    refine am_iload_n 26 dX12_calmInNow_26 rfl ?_
    refine am_aload_n 27 dX12_calmInNow_27 rfl ?_
    refine am_getfield 28 dX12_calmInNow_28 fX12_13 (by first | exact am_ue | exact am_un (by omega) am_ue | exact am_un (by omega) (am_un (by omega) h0) | exact am_un (by omega) (am_un (by omega) h1)) rfl ?_
    refine am_iload_n 31 dX12_calmInNow_31 rfl ?_
    refine am_iaload 32 dX12_calmInNow_32 rfl (by first | exact am_ue | exact am_un (by omega) am_ue | exact am_un (by omega) (am_un (by omega) h0) | exact am_un (by omega) (am_un (by omega) h1)) (am_ix hk (by decide)) ?_
    refine am_iastore 33 dX12_calmInNow_33 rfl (by first | exact am_ue | exact am_un (by omega) am_ue | exact am_un (by omega) (am_un (by omega) h0) | exact am_un (by omega) (am_un (by omega) h1)) (am_ix hk (by decide)) ?_
    rw [show va_up (fun _ => (0 : Int32)) (nI k).toNatClampNeg ((fun _ => 0) (nI k).toNatClampNeg) = (fun _ => 0) from hz _, am_uu]
    refine am_iinc 34 (v := nI (k + 1)) dX12_calmInNow_34 rfl (nI_1 (k)) (by decide) ?_
    refine am_goto 37 (tgt := 12) dX12_calmInNow_37 rfl ?_
    exact ih (_, _) ⟨fun _ => rfl, fun _ => rfl⟩
theorem s_rcalm (h : r_Mo f m th (fun _ => 0)) (hm : m + 4 < n) : AM mX12_calmIn 8 340 [.ref m] n f (r_ans m n f (.int 0) 0) := by
  have h0 := h.1
  unfold r_mo at h0
  have hT : r_Mo (va_up f m (r_mo m 0)) m 0 (fun _ => 0) := h.th
  show AW mX12_calmIn 8 340 0 [some (.ref m)] [] n f _
  refine am_aload_n 0 dX12_calmIn_0 rfl ?_
  refine am_iconst 1 (v := 0) dX12_calmIn_1 (by decide) ?_
  refine am_putfield 2 dX12_calmIn_2 pX12_40 (by repeat (first | assumption | exact am_ue | refine am_un (by first | assumption | decide | omega) ?_)) rfl rfl (Nat.le_of_ble_eq_true rfl) ?_
  show AW mX12_calmIn 8 340 5 [some (.ref m)] [] n (va_up f m (r_mo m 0)) _
  refine am_aload_n 5 dX12_calmIn_5 rfl ?_
  refine am_V0 6 (mc' := 8) (ms' := 340) (rc := 0) (rs := 0) dX12_calmIn_6 lX12_304 ⟨by decide, by decide⟩ hT.1 (Nat.le_of_ble_eq_true rfl) (Nat.le_of_ble_eq_true rfl) (s_rcalmNow hT hm) ?_
  rintro o n' f1 ⟨rfl, hn, e1⟩
  refine am_ct_in ?_
  refine am_ireturn 9 dX12_calmIn_9 rfl rfl ?_
  exact ⟨rfl, hn, ⟨_, (e1 m (by omega)).trans hT.1⟩, fun x hx => by rw [e1 x (by omega), am_up_ne (by omega)]⟩
theorem s_radd {d w : Int64} : AM mX12_add 0 0 [.long d, .long w] n f (am_is (some (.long (d * 31 + w))) n f) := by
  show AW mX12_add 0 0 0 [some (.long d), none, some (.long w), none] [] n f _
  refine am_lload_n 0 dX12_add_0 rfl ?_
  refine am_ldc2 1 dX12_add_1 kX12_310 ?_
  refine am_lmul 4 dX12_add_4 ?_
  refine am_lload_n 5 dX12_add_5 rfl ?_
  refine am_ladd 6 dX12_add_6 ?_
  exact am_lreturn 7 dX12_add_7 rfl ⟨rfl, rfl, rfl⟩
theorem s_rdigest (h : r_Mo f m th (fun _ => 0)) (hm : m + 4 < n) : AM mX12_digest 15 632 [.ref m] n f (r_ans m n f (.long (m_dg 125)) 0) := by
  have h0 := h.1
  unfold r_mo at h0
  have hT : r_Mo (va_up f m (r_mo m 0)) m 0 (fun _ => 0) := h.th
  show AW mX12_digest 15 632 0 [some (.ref m), none, none, none, none, none] [] n f _
  refine am_aload_n 0 dX12_digest_0 rfl ?_
  refine am_iconst 1 (v := 0) dX12_digest_1 (by decide) ?_
  refine am_putfield 2 dX12_digest_2 pX12_40 (by repeat (first | assumption | exact am_ue | refine am_un (by first | assumption | decide | omega) ?_)) rfl rfl (Nat.le_of_ble_eq_true rfl) ?_
  show AW mX12_digest 15 632 5 [some (.ref m), none, none, none, none, none] [] n (va_up f m (r_mo m 0)) _
  refine am_aload_n 5 dX12_digest_5 rfl ?_
  refine am_V0 6 (mc' := 7) (ms' := 292) (rc := 8) (rs := 340) dX12_digest_6 lX12_92 ⟨by decide, by decide⟩ hT.1 (Nat.le_of_ble_eq_true rfl) (Nat.le_of_ble_eq_true rfl) (s_view hT hm) ?_
  rintro o n' f1 ⟨rfl, rfl, hV, e1⟩
  have hV0 := hV.zero
  have hM := hT.V hm e1
  refine am_ct_in ?_
  refine am_astore_n 9 dX12_digest_9 (by decide) ?_
  refine am_ldc2 10 dX12_digest_10 kX12_317 ?_
  refine am_lstore_n 13 dX12_digest_13 (by decide) ?_
  refine am_iconst 14 (v := 0) dX12_digest_14 (by decide) ?_
  refine am_istore 15 dX12_digest_15 (by decide) ?_
  have m0 := hM.1
  have m1 := hM.2.1
  have m3 := hM.2.2.2.1
  have m4 := hM.2.2.2.2
  unfold r_mo at m0
  have v0 := hV0.1
  have v1 := hV0.2.1
  have eo : ∀ x, (x < m ∨ (m + 4 < x ∧ x < n)) → f1 x = f x := fun x hx => by rw [e1 x (by omega), am_up_ne (by omega)]
  refine am_for 10 (fun _ (_ : Unit) => True) (fun k _ => AW mX12_digest 8 340 17 [some (.ref m), some (.ref n), some (.long (m_dg k)), none, some (.int (nI k)), none] [] (n + 7) f1 _) ?_ ?_ 0 () (by omega) trivial
  · rintro ⟨⟩ -
    refine am_iload 17 dX12_digest_17 rfl ?_
    refine am_bipush 19 (v := 10) dX12_digest_19 (by decide) ?_
    refine am_icmp_ge 21 43 dX12_digest_21 rfl (fun c21 => ?_) (fun c21 => absurd (by decide) c21)
    refine am_iconst 43 (v := 0) dX12_digest_43 (by decide) ?_
    refine am_istore 44 dX12_digest_44 (by decide) ?_
    refine am_for 48 (fun _ (_ : Unit) => True) (fun k _ => AW mX12_digest 8 340 46 [some (.ref m), some (.ref n), some (.long (m_dg (10 + 2 * k))), none, some (.int (nI k)), none] [] (n + 7) f1 _) ?_ ?_ 0 () (by omega) trivial
    · rintro ⟨⟩ -
      refine am_iload 46 dX12_digest_46 rfl ?_
      refine am_bipush 48 (v := 48) dX12_digest_48 (by decide) ?_
      refine am_icmp_ge 50 83 dX12_digest_50 rfl (fun c50 => ?_) (fun c50 => absurd (by decide) c50)
      refine am_iconst 83 (v := 0) dX12_digest_83 (by decide) ?_
      refine am_istore 84 dX12_digest_84 (by decide) ?_
      refine am_iload 86 dX12_digest_86 rfl ?_
      refine am_aload_n 88 dX12_digest_88 rfl ?_
      refine am_getfield 89 dX12_digest_89 fX12_212 (by repeat (first | assumption | exact am_ue | refine am_un (by first | assumption | decide | omega) ?_)) rfl ?_
      refine am_icmp_ge 92 130 dX12_digest_92 rfl (fun c92 => ?_) (fun c92 => absurd (Int32.le_refl _) c92)
      refine am_iconst 130 (v := 0) dX12_digest_130 (by decide) ?_
      refine am_istore 131 dX12_digest_131 (by decide) ?_
      refine am_for 5 (fun _ (_ : Unit) => True) (fun k _ => AW mX12_digest 8 340 133 [some (.ref m), some (.ref n), some (.long (m_dg (10 + 2 * 48))), none, some (.int (nI k)), none] [] (n + 7) f1 _) ?_ ?_ 0 () (by omega) trivial
      · rintro ⟨⟩ -
        refine am_iload 133 dX12_digest_133 rfl ?_
        refine am_iconst 135 (v := 5) dX12_digest_135 (by decide) ?_
        refine am_icmp_ge 136 170 dX12_digest_136 rfl (fun c136 => ?_) (fun c136 => absurd (by decide) c136)
        refine am_iconst 170 (v := 0) dX12_digest_170 (by decide) ?_
        refine am_istore 171 dX12_digest_171 (by decide) ?_
        refine am_iload 173 dX12_digest_173 rfl ?_
        refine am_aload_n 175 dX12_digest_175 rfl ?_
        refine am_getfield 176 dX12_digest_176 fX12_36 (by repeat (first | assumption | exact am_ue | refine am_un (by first | assumption | decide | omega) ?_)) rfl ?_
        refine am_V0 179 (mc' := 0) (ms' := 0) (rc := 8) (rs := 340) dX12_digest_179 lX12_62 ⟨by decide, by decide⟩ (by repeat (first | assumption | exact am_ue | refine am_un (by first | assumption | decide | omega) ?_)) (Nat.le_of_ble_eq_true rfl) (Nat.le_of_ble_eq_true rfl) (s_size m4) ?_
        refine am_is_ct ?_
        refine am_icmp_ge 182 220 dX12_digest_182 rfl (fun c182 => ?_) (fun c182 => absurd (Int32.le_refl _) c182)
        refine am_iconst 220 (v := 0) dX12_digest_220 (by decide) ?_
        refine am_istore 221 dX12_digest_221 (by decide) ?_
        refine am_for 6 (fun _ (_ : Option Value) => True) (fun k z => AW mX12_digest 8 340 223 [some (.ref m), some (.ref n), some (.long (m_dg (106 + 3 * k))), none, some (.int (nI k)), z] [] (n + 7) f1 _) ?_ ?_ 0 _ (by omega) trivial
        · rintro z -
          refine am_iload 223 dX12_digest_223 rfl ?_
          refine am_bipush 225 (v := 6) dX12_digest_225 (by decide) ?_
          refine am_icmp_ge 227 265 dX12_digest_227 rfl (fun c227 => ?_) (fun c227 => absurd (by decide) c227)
          refine am_lload_n 265 dX12_digest_265 rfl ?_
          refine am_aload_n 266 dX12_digest_266 rfl ?_
          refine am_V0 267 (mc' := 8) (ms' := 340) (rc := 0) (rs := 0) dX12_digest_267 lX12_304 ⟨by decide, by decide⟩ hM.1 (Nat.le_of_ble_eq_true rfl) (Nat.le_of_ble_eq_true rfl) (s_rcalmNow hM (by omega)) ?_
          rintro o n' f2 ⟨rfl, hn, e2⟩
          refine am_ct_in ?_
          refine am_i2l 270 dX12_digest_270 ?_
          refine am_S2 271 (mc' := 0) (ms' := 0) (rc := 0) (rs := 0) dX12_digest_271 lX12_312 ⟨by decide, by decide⟩ (Nat.le_of_ble_eq_true rfl) (Nat.le_of_ble_eq_true rfl) (s_radd) ?_
          refine am_is_ct ?_
          refine am_lreturn 274 dX12_digest_274 rfl ?_
          exact ⟨rfl, by omega, ⟨_, (e2 m (by omega)).trans hM.1⟩, fun x hx => by rw [e2 x (by omega), eo x hx]⟩
        · rintro k z hk - ih
          refine am_iload 223 dX12_digest_223 rfl ?_
          refine am_bipush 225 (v := 6) dX12_digest_225 (by decide) ?_
          refine am_icmp_ge 227 265 dX12_digest_227 rfl (fun c227 => absurd c227 (nI_ge hk (by decide))) (fun c227 => ?_)
          refine am_iconst 230 (v := 0) dX12_digest_230 (by decide) ?_
          refine am_istore 231 dX12_digest_231 (by decide) ?_
          refine am_for 3 (fun _ (_ : Unit) => True) (fun j _ => AW mX12_digest 8 340 233 [some (.ref m), some (.ref n), some (.long (m_dg (106 + 3 * k + j))), none, some (.int (nI k)), some (.int (nI j))] [] (n + 7) f1 _) ?_ ?_ 0 () (by omega) trivial
          · rintro ⟨⟩ -
            refine am_iload 233 dX12_digest_233 rfl ?_
            refine am_iconst 235 (v := 3) dX12_digest_235 (by decide) ?_
            refine am_icmp_ge 236 259 dX12_digest_236 rfl (fun c236 => ?_) (fun c236 => absurd (by decide) c236)
            refine am_iinc 259 (v := nI (k + 1)) dX12_digest_259 rfl (nI_1 (k)) (by decide) ?_
            refine am_goto 262 (tgt := 223) dX12_digest_262 rfl ?_
            exact ih _ trivial
          · rintro j ⟨⟩ hj - ih2
            refine am_iload 233 dX12_digest_233 rfl ?_
            refine am_iconst 235 (v := 3) dX12_digest_235 (by decide) ?_
            refine am_icmp_ge 236 259 dX12_digest_236 rfl (fun c236 => absurd c236 (nI_ge hj (by decide))) (fun c236 => ?_)
            refine am_lload_n 239 dX12_digest_239 rfl ?_
            refine am_iload 240 dX12_digest_240 rfl ?_
            refine am_iload 242 dX12_digest_242 rfl ?_
            refine am_aload_n 244 dX12_digest_244 rfl ?_
            refine am_S3 245 (mc' := 0) (ms' := 0) (rc := 8) (rs := 340) dX12_digest_245 lX12_278 ⟨by decide, by decide⟩ (Nat.le_of_ble_eq_true rfl) (Nat.le_of_ble_eq_true rfl) (s_ofRowNow0 hV0 hk (j := j) (by omega)) ?_
            refine am_is_ct ?_
            refine am_i2l 248 dX12_digest_248 ?_
            refine am_S2 249 (mc' := 0) (ms' := 0) (rc := 8) (rs := 340) dX12_digest_249 lX12_312 ⟨by decide, by decide⟩ (Nat.le_of_ble_eq_true rfl) (Nat.le_of_ble_eq_true rfl) (s_radd) ?_
            refine am_is_ct ?_
            refine am_lstore_n 252 dX12_digest_252 (by decide) ?_
            refine am_iinc 253 (v := nI (j + 1)) dX12_digest_253 rfl (nI_1 (j)) (by decide) ?_
            refine am_goto 256 (tgt := 233) dX12_digest_256 rfl ?_
            exact ih2 () trivial
      · rintro k ⟨⟩ hk - ih
        refine am_iload 133 dX12_digest_133 rfl ?_
        refine am_iconst 135 (v := 5) dX12_digest_135 (by decide) ?_
        refine am_icmp_ge 136 170 dX12_digest_136 rfl (fun c136 => absurd c136 (nI_ge hk (by decide))) (fun c136 => ?_)
        refine am_aload_n 139 dX12_digest_139 rfl ?_
        refine am_getfield 140 dX12_digest_140 fX12_29 (by repeat (first | assumption | exact am_ue | refine am_un (by first | assumption | decide | omega) ?_)) rfl ?_
        refine am_iload 143 dX12_digest_143 rfl ?_
        refine am_aaload 145 dX12_digest_145 rfl (by repeat (first | assumption | exact am_ue | refine am_un (by first | assumption | decide | omega) ?_)) (am_ix hk (by decide)) ?_
        refine am_ifnullN 146 (tgt := 164) dX12_digest_146 rfl ?_
        refine am_iinc 164 (v := nI (k + 1)) dX12_digest_164 rfl (nI_1 (k)) (by decide) ?_
        refine am_goto 167 (tgt := 133) dX12_digest_167 rfl ?_
        exact ih () trivial
    · rintro k ⟨⟩ hk - ih
      refine am_iload 46 dX12_digest_46 rfl ?_
      refine am_bipush 48 (v := 48) dX12_digest_48 (by decide) ?_
      refine am_icmp_ge 50 83 dX12_digest_50 rfl (fun c50 => absurd c50 (nI_ge hk (by decide))) (fun c50 => ?_)
      refine am_lload_n 53 dX12_digest_53 rfl ?_
      refine am_aload_n 54 dX12_digest_54 rfl ?_
      refine am_getfield 55 dX12_digest_55 fX12_13 (by repeat (first | assumption | exact am_ue | refine am_un (by first | assumption | decide | omega) ?_)) rfl ?_
      refine am_iload 58 dX12_digest_58 rfl ?_
      refine am_iaload 60 dX12_digest_60 rfl (by repeat (first | assumption | exact am_ue | refine am_un (by first | assumption | decide | omega) ?_)) (am_ix hk (by decide)) ?_
      refine am_i2l 61 dX12_digest_61 ?_
      refine am_S2 62 (mc' := 0) (ms' := 0) (rc := 8) (rs := 340) dX12_digest_62 lX12_312 ⟨by decide, by decide⟩ (Nat.le_of_ble_eq_true rfl) (Nat.le_of_ble_eq_true rfl) (s_radd) ?_
      refine am_is_ct ?_
      refine am_aload_n 65 dX12_digest_65 rfl ?_
      refine am_getfield 66 dX12_digest_66 fX12_239 (by repeat (first | assumption | exact am_ue | refine am_un (by first | assumption | decide | omega) ?_)) rfl ?_
      refine am_iload 69 dX12_digest_69 rfl ?_
      refine am_iaload 71 dX12_digest_71 rfl (by repeat (first | assumption | exact am_ue | refine am_un (by first | assumption | decide | omega) ?_)) (am_ix hk (by decide)) ?_
      refine am_i2l 72 dX12_digest_72 ?_
      refine am_S2 73 (mc' := 0) (ms' := 0) (rc := 8) (rs := 340) dX12_digest_73 lX12_312 ⟨by decide, by decide⟩ (Nat.le_of_ble_eq_true rfl) (Nat.le_of_ble_eq_true rfl) (s_radd) ?_
      refine am_is_ct ?_
      refine am_lstore_n 76 dX12_digest_76 (by decide) ?_
      refine am_iinc 77 (v := nI (k + 1)) dX12_digest_77 rfl (nI_1 (k)) (by decide) ?_
      refine am_goto 80 (tgt := 46) dX12_digest_80 rfl ?_
      exact ih () trivial
  · rintro k ⟨⟩ hk - ih
    refine am_iload 17 dX12_digest_17 rfl ?_
    refine am_bipush 19 (v := 10) dX12_digest_19 (by decide) ?_
    refine am_icmp_ge 21 43 dX12_digest_21 rfl (fun c21 => absurd c21 (nI_ge hk (by decide))) (fun c21 => ?_)
    refine am_lload_n 24 dX12_digest_24 rfl ?_
    refine am_aload_n 25 dX12_digest_25 rfl ?_
    refine am_iload 26 dX12_digest_26 rfl ?_
    refine am_aload_n 28 dX12_digest_28 rfl ?_
    refine am_V2 29 (mc' := 0) (ms' := 0) (rc := 8) (rs := 340) dX12_digest_29 lX12_284 ⟨by decide, by decide⟩ hM.1 (Nat.le_of_ble_eq_true rfl) (Nat.le_of_ble_eq_true rfl) (s_rmanyNow0 hM hV0 (j := k) (by omega)) ?_
    refine am_is_ct ?_
    refine am_i2l 32 dX12_digest_32 ?_
    refine am_S2 33 (mc' := 0) (ms' := 0) (rc := 8) (rs := 340) dX12_digest_33 lX12_312 ⟨by decide, by decide⟩ (Nat.le_of_ble_eq_true rfl) (Nat.le_of_ble_eq_true rfl) (s_radd) ?_
    refine am_is_ct ?_
    refine am_lstore_n 36 dX12_digest_36 (by decide) ?_
    refine am_iinc 37 (v := nI (k + 1)) dX12_digest_37 rfl (nI_1 (k)) (by decide) ?_
    refine am_goto 40 (tgt := 17) dX12_digest_40 rfl ?_
    exact ih () trivial
end RAsk
