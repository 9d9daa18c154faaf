/-! ===== all is well: the law's look at everything ===== -/
section Wel
variable {p T n : Nat} {f : Nat → am_C} {z : m_Z}
theorem f_dc {x y : UInt32} (hx : FP.Core.FFin x) (hy : FP.Core.FFin y) (op : CmpOp) : (Op.cmpValue (FP.dcmp (FP.f2d x) (FP.f2d y)) op < 0 ↔ fz x < fz y) ∧ (Op.cmpValue (FP.dcmp (FP.f2d x) (FP.f2d y)) op = 0 ↔ fz x = fz y) ∧ (Op.cmpValue (FP.dcmp (FP.f2d x) (FP.f2d y)) op ≤ 0 ↔ fz x ≤ fz y) ∧ (0 ≤ Op.cmpValue (FP.dcmp (FP.f2d x) (FP.f2d y)) op ↔ fz y ≤ fz x) := by
  rw [f_dcmp hx hy]
  exact f_cmp hx hy op
/-- what the law asks of a contact's floats -/
theorem m_well {κ : m_K} (k : m_kOk κ) : ¬ Op.cmpValue (FP.dcmp (FP.f2d (m_whA κ 4)) FP.dconst0) .g < 0 ∧ Op.cmpValue (FP.dcmp (FP.f2d (m_dist (κ.2.1 0) (κ.2.1 1) (κ.2.1 0) (κ.2.1 1))) FP.dconst0) .l = 0 ∧ ¬ Op.cmpValue (FP.dcmp (FP.f2d (m_guess κ (nI 9) false)) FP.dconst0) .g < 0 ∧ Op.cmpValue (FP.dcmp (FP.f2d (m_guess κ (nI 9) false)) 4633078116657397760) .l ≤ 0 ∧ Op.cmpValue (FP.dcmp (FP.f2d (m_guess κ (nI 9) true)) 4630826316843712512) .l ≤ 0 ∧ (Op.cmpValue (FP.dcmp (FP.f2d (m_whA κ 2)) FP.dconst0) .l = 0 → Op.cmpValue (FP.dcmp (FP.f2d (m_guess κ (nI 5) false)) (FP.f2d (m_whA κ 0))) .l = 0) := by
  have g1 := f_guess (isY := false) k (a := 9) (by decide)
  have g2 := f_guess (isY := true) k (a := 9) (by decide)
  have g5 := f_guess (isY := false) k (a := 5) (by decide)
  have hd := f_dist0 k.1 k.2.1
  have hdf := (f_dist k.1 k.2.1 k.1 k.2.1).2.2
  rw [d_0, d_56, d_40]
  refine ⟨fun q => ?_, ?_, fun q => ?_, ?_, ?_, fun q => ?_⟩
  · have h := (f_dc k.2.2.2.2.1.1 f_0.1 .g).1.mp q
    rw [f_0.2] at h
    have := k.2.2.2.2.1.2.1
    rw [Int.zero_mul] at this
    exact absurd h (Int.not_lt.mpr this)
  · refine (f_dc hdf.1 f_0.1 .l).2.1.mpr ?_
    rw [hd, f_0.2]
  · have h := (f_dc g1.1 f_0.1 .g).1.mp q
    rw [f_0.2] at h
    have := g1.2.1
    rw [Int.zero_mul] at this
    exact absurd h (Int.not_lt.mpr this)
  · exact (f_dc g1.1 f_56.1 .l).2.2.1.mpr (Int.le_trans g1.2.2 f_56.2.1)
  · exact (f_dc g2.1 f_40.1 .l).2.2.1.mpr (Int.le_trans g2.2.2 f_40.2.1)
  · have h := (f_dc k.2.2.1.1 f_0.1 .l).2.1.mp q
    rw [f_0.2] at h
    exact (f_dc g5.1 k.1.1 .l).2.1.mpr (f_guess0 k (by decide) h)
/-- from the areas on -/
theorem l_well4 {l4 : Int32} {z7 z8 : Option Value} (hG : m_G f p T z) (hT : T ≤ 1000) : AW mL_areWell 0 0 515 [some (.ref p), some (.int (nI (m_N (m_th (z_K z)) 5))), some (.int (nI (m_P z))), some (.int (nI (m_N (m_tu z) 48))), some (.int l4), some (.int (nI 0)), some (.int (nI 0)), z7, z8] [] n f (am_is (some (.int 1)) n f) := by
  have h0 := hG.1
  have hI := hG.2.2.2.2.2.2.1
  have ht := hG.2.2.2.2.1.2.2.1
  have hbe := hG.2.2.2.2.2.2.2.2.2.1
  have h5 := m_th_5 (K := z_K z)
  have hP : m_P z ≤ 48 := m_pks_len
  have htu := m_tu_le (z := z) (c := 48)
  have hiff := m_tu_iff (z := z)
  generalize hQ : am_is (some (.int 1)) n f = Q
  rw [show (Value.int (nI 0) : Value) = Value.int (nI (m_N (m_upto (z_K z) 0) 5)) from by rw [m_upto_0]]
  refine am_for (z_to z) (fun a (s : Int32 × Option Value) => s.1 = nI (m_N (m_upto (z_K z) a) 5)) (fun a s => AW mL_areWell 0 0 515 [some (.ref p), some (.int (nI (m_N (m_th (z_K z)) 5))), some (.int (nI (m_P z))), some (.int (nI (m_N (m_tu z) 48))), some (.int l4), some (.int s.1), some (.int (nI a)), s.2, z8] [] n f Q) ?_ ?_ 0 (nI (m_N (m_upto (z_K z) 0) 5), z7) (by omega) rfl |> fun g => by
    rw [m_upto_0] at g ⊢
    exact g
  · rintro ⟨w, y7⟩ h
    have h : w = nI (m_N (m_upto (z_K z) (z_to z)) 5) := h
    show AW mL_areWell 0 0 515 [some (.ref p), some (.int (nI (m_N (m_th (z_K z)) 5))), some (.int (nI (m_P z))), some (.int (nI (m_N (m_tu z) 48))), some (.int l4), some (.int w), some (.int (nI (z_to z))), y7, z8] [] n f Q
    rw [h]
    have hle := m_upto_le (K := z_K z) (a := z_to z)
    have hsum : nI (z_be z) = nI (m_N (m_th (z_K z)) 5) + nI (z_li z) + nI (z_ca z) := by
      rw [nI_add, nI_add, ← hI.2.1]
    have hgt : ¬ nI (m_N (m_th (z_K z)) 5) < nI (m_N (m_upto (z_K z) (z_to z)) 5) := nI_nlt hle (by omega)
    by_cases hp : 0 < m_P z
    · have hq := hiff.mp hp
      refine am_iload 515 dL_areWell_515 rfl ?_
      refine am_aload_n 517 dL_areWell_517 rfl ?_
      refine am_bipush 518 (v := 6) dL_areWell_518 (by decide) ?_
      refine am_V1 520 (mc' := 0) (ms' := 0) (rc := 0) (rs := 0) dL_areWell_520 lL_22 ⟨by decide, by decide⟩ (by repeat (first | assumption | exact am_ue | refine am_un (by first | assumption | decide | omega) ?_)) (Nat.le_of_ble_eq_true rfl) (Nat.le_of_ble_eq_true rfl) (s_many hG (j := 6) (by decide)) ?_
      refine am_is_ct ?_
      refine am_icmp_ge 523 588 dL_areWell_523 rfl (fun c523 => ?_) (fun c523 => absurd (Int32.le_refl _) c523)
      refine am_iload_n 588 dL_areWell_588 rfl ?_
      refine am_aload_n 589 dL_areWell_589 rfl ?_
      refine am_bipush 590 (v := 8) dL_areWell_590 (by decide) ?_
      refine am_V1 592 (mc' := 0) (ms' := 0) (rc := 0) (rs := 0) dL_areWell_592 lL_22 ⟨by decide, by decide⟩ (by repeat (first | assumption | exact am_ue | refine am_un (by first | assumption | decide | omega) ?_)) (Nat.le_of_ble_eq_true rfl) (Nat.le_of_ble_eq_true rfl) (s_many hG (j := 8) (by decide)) ?_
      refine am_is_ct ?_
      refine am_icmp_ne 595 663 dL_areWell_595 rfl (fun c595 => absurd c595 (fun q => q rfl)) (fun c595 => ?_)
      refine am_iload_n 598 dL_areWell_598 rfl ?_
      refine am_aload_n 599 dL_areWell_599 rfl ?_
      refine am_iconst 600 (v := 2) dL_areWell_600 (by decide) ?_
      refine am_V1 601 (mc' := 0) (ms' := 0) (rc := 0) (rs := 0) dL_areWell_601 lL_22 ⟨by decide, by decide⟩ (by repeat (first | assumption | exact am_ue | refine am_un (by first | assumption | decide | omega) ?_)) (Nat.le_of_ble_eq_true rfl) (Nat.le_of_ble_eq_true rfl) (s_many hG (j := 2) (by decide)) ?_
      refine am_is_ct ?_
      refine am_icmp_ne 604 663 dL_areWell_604 rfl (fun c604 => absurd c604 (fun q => q rfl)) (fun c604 => ?_)
      refine am_iload 607 dL_areWell_607 rfl ?_
      refine am_iload_n 609 dL_areWell_609 rfl ?_
      refine am_icmp_gt 610 663 dL_areWell_610 rfl (fun c610 => absurd c610 hgt) (fun c610 => ?_)
      refine am_aload_n 613 dL_areWell_613 rfl ?_
      refine am_iconst 614 (v := 3) dL_areWell_614 (by decide) ?_
      refine am_V1 615 (mc' := 0) (ms' := 0) (rc := 0) (rs := 0) dL_areWell_615 lL_22 ⟨by decide, by decide⟩ (by repeat (first | assumption | exact am_ue | refine am_un (by first | assumption | decide | omega) ?_)) (Nat.le_of_ble_eq_true rfl) (Nat.le_of_ble_eq_true rfl) (s_many hG (j := 3) (by decide)) ?_
      refine am_is_ct ?_
      refine am_aload_n 618 dL_areWell_618 rfl ?_
      refine am_iconst 619 (v := 2) dL_areWell_619 (by decide) ?_
      refine am_V1 620 (mc' := 0) (ms' := 0) (rc := 0) (rs := 0) dL_areWell_620 lL_22 ⟨by decide, by decide⟩ (by repeat (first | assumption | exact am_ue | refine am_un (by first | assumption | decide | omega) ?_)) (Nat.le_of_ble_eq_true rfl) (Nat.le_of_ble_eq_true rfl) (s_many hG (j := 2) (by decide)) ?_
      refine am_is_ct ?_
      refine am_aload_n 623 dL_areWell_623 rfl ?_
      refine am_iconst 624 (v := 4) dL_areWell_624 (by decide) ?_
      refine am_V1 625 (mc' := 0) (ms' := 0) (rc := 0) (rs := 0) dL_areWell_625 lL_22 ⟨by decide, by decide⟩ (by repeat (first | assumption | exact am_ue | refine am_un (by first | assumption | decide | omega) ?_)) (Nat.le_of_ble_eq_true rfl) (Nat.le_of_ble_eq_true rfl) (s_many hG (j := 4) (by decide)) ?_
      refine am_is_ct ?_
      refine am_iadd 628 dL_areWell_628 ?_
      refine am_aload_n 629 dL_areWell_629 rfl ?_
      refine am_iconst 630 (v := 5) dL_areWell_630 (by decide) ?_
      refine am_V1 631 (mc' := 0) (ms' := 0) (rc := 0) (rs := 0) dL_areWell_631 lL_22 ⟨by decide, by decide⟩ (by repeat (first | assumption | exact am_ue | refine am_un (by first | assumption | decide | omega) ?_)) (Nat.le_of_ble_eq_true rfl) (Nat.le_of_ble_eq_true rfl) (s_many hG (j := 5) (by decide)) ?_
      refine am_is_ct ?_
      refine am_iadd 634 dL_areWell_634 ?_
      refine am_icmp_ne 635 663 dL_areWell_635 rfl (fun c635 => absurd c635 (fun q => q hsum)) (fun c635 => ?_)
      refine am_iload_n 638 dL_areWell_638 rfl ?_
      refine am_if_le 639 646 dL_areWell_639 rfl (fun c639 => absurd c639 (m_pos hp (by omega))) (fun c639 => ?_)
      refine am_iconst 642 (v := 1) dL_areWell_642 (by decide) ?_
      refine am_goto 643 (tgt := 647) dL_areWell_643 rfl ?_
      refine am_iload_n 647 dL_areWell_647 rfl ?_
      refine am_if_le 648 655 dL_areWell_648 rfl (fun c648 => absurd c648 (m_pos hq (by omega))) (fun c648 => ?_)
      refine am_iconst 651 (v := 1) dL_areWell_651 (by decide) ?_
      refine am_goto 652 (tgt := 656) dL_areWell_652 rfl ?_
      refine am_icmp_ne 656 663 dL_areWell_656 rfl (fun c656 => absurd c656 (fun q => q rfl)) (fun c656 => ?_)
      refine am_iconst 659 (v := 1) dL_areWell_659 (by decide) ?_
      refine am_goto 660 (tgt := 664) dL_areWell_660 rfl ?_
      refine am_ireturn 664 dL_areWell_664 rfl rfl ?_
      subst hQ
      exact ⟨rfl, rfl, rfl⟩
    · have hp0 : m_P z = 0 := by omega
      have hq0 : m_N (m_tu z) 48 = 0 := Nat.eq_zero_of_not_pos fun q => hp (hiff.mpr q)
      rw [hp0, hq0]
      refine am_iload 515 dL_areWell_515 rfl ?_
      refine am_aload_n 517 dL_areWell_517 rfl ?_
      refine am_bipush 518 (v := 6) dL_areWell_518 (by decide) ?_
      refine am_V1 520 (mc' := 0) (ms' := 0) (rc := 0) (rs := 0) dL_areWell_520 lL_22 ⟨by decide, by decide⟩ (by repeat (first | assumption | exact am_ue | refine am_un (by first | assumption | decide | omega) ?_)) (Nat.le_of_ble_eq_true rfl) (Nat.le_of_ble_eq_true rfl) (s_many hG (j := 6) (by decide)) ?_
      refine am_is_ct ?_
      refine am_icmp_ge 523 588 dL_areWell_523 rfl (fun c523 => ?_) (fun c523 => absurd (Int32.le_refl _) c523)
      refine am_iload_n 588 dL_areWell_588 rfl ?_
      refine am_aload_n 589 dL_areWell_589 rfl ?_
      refine am_bipush 590 (v := 8) dL_areWell_590 (by decide) ?_
      refine am_V1 592 (mc' := 0) (ms' := 0) (rc := 0) (rs := 0) dL_areWell_592 lL_22 ⟨by decide, by decide⟩ (by repeat (first | assumption | exact am_ue | refine am_un (by first | assumption | decide | omega) ?_)) (Nat.le_of_ble_eq_true rfl) (Nat.le_of_ble_eq_true rfl) (s_many hG (j := 8) (by decide)) ?_
      refine am_is_ct ?_
      rw [show m_manyA z 8 = nI (m_P z) from rfl, hp0]
      refine am_icmp_ne 595 663 dL_areWell_595 rfl (fun c595 => absurd c595 (fun q => q rfl)) (fun c595 => ?_)
      refine am_iload_n 598 dL_areWell_598 rfl ?_
      refine am_aload_n 599 dL_areWell_599 rfl ?_
      refine am_iconst 600 (v := 2) dL_areWell_600 (by decide) ?_
      refine am_V1 601 (mc' := 0) (ms' := 0) (rc := 0) (rs := 0) dL_areWell_601 lL_22 ⟨by decide, by decide⟩ (by repeat (first | assumption | exact am_ue | refine am_un (by first | assumption | decide | omega) ?_)) (Nat.le_of_ble_eq_true rfl) (Nat.le_of_ble_eq_true rfl) (s_many hG (j := 2) (by decide)) ?_
      refine am_is_ct ?_
      refine am_icmp_ne 604 663 dL_areWell_604 rfl (fun c604 => absurd c604 (fun q => q rfl)) (fun c604 => ?_)
      refine am_iload 607 dL_areWell_607 rfl ?_
      refine am_iload_n 609 dL_areWell_609 rfl ?_
      refine am_icmp_gt 610 663 dL_areWell_610 rfl (fun c610 => absurd c610 hgt) (fun c610 => ?_)
      refine am_aload_n 613 dL_areWell_613 rfl ?_
      refine am_iconst 614 (v := 3) dL_areWell_614 (by decide) ?_
      refine am_V1 615 (mc' := 0) (ms' := 0) (rc := 0) (rs := 0) dL_areWell_615 lL_22 ⟨by decide, by decide⟩ (by repeat (first | assumption | exact am_ue | refine am_un (by first | assumption | decide | omega) ?_)) (Nat.le_of_ble_eq_true rfl) (Nat.le_of_ble_eq_true rfl) (s_many hG (j := 3) (by decide)) ?_
      refine am_is_ct ?_
      refine am_aload_n 618 dL_areWell_618 rfl ?_
      refine am_iconst 619 (v := 2) dL_areWell_619 (by decide) ?_
      refine am_V1 620 (mc' := 0) (ms' := 0) (rc := 0) (rs := 0) dL_areWell_620 lL_22 ⟨by decide, by decide⟩ (by repeat (first | assumption | exact am_ue | refine am_un (by first | assumption | decide | omega) ?_)) (Nat.le_of_ble_eq_true rfl) (Nat.le_of_ble_eq_true rfl) (s_many hG (j := 2) (by decide)) ?_
      refine am_is_ct ?_
      refine am_aload_n 623 dL_areWell_623 rfl ?_
      refine am_iconst 624 (v := 4) dL_areWell_624 (by decide) ?_
      refine am_V1 625 (mc' := 0) (ms' := 0) (rc := 0) (rs := 0) dL_areWell_625 lL_22 ⟨by decide, by decide⟩ (by repeat (first | assumption | exact am_ue | refine am_un (by first | assumption | decide | omega) ?_)) (Nat.le_of_ble_eq_true rfl) (Nat.le_of_ble_eq_true rfl) (s_many hG (j := 4) (by decide)) ?_
      refine am_is_ct ?_
      refine am_iadd 628 dL_areWell_628 ?_
      refine am_aload_n 629 dL_areWell_629 rfl ?_
      refine am_iconst 630 (v := 5) dL_areWell_630 (by decide) ?_
      refine am_V1 631 (mc' := 0) (ms' := 0) (rc := 0) (rs := 0) dL_areWell_631 lL_22 ⟨by decide, by decide⟩ (by repeat (first | assumption | exact am_ue | refine am_un (by first | assumption | decide | omega) ?_)) (Nat.le_of_ble_eq_true rfl) (Nat.le_of_ble_eq_true rfl) (s_many hG (j := 5) (by decide)) ?_
      refine am_is_ct ?_
      refine am_iadd 634 dL_areWell_634 ?_
      refine am_icmp_ne 635 663 dL_areWell_635 rfl (fun c635 => absurd c635 (fun q => q hsum)) (fun c635 => ?_)
      refine am_iload_n 638 dL_areWell_638 rfl ?_
      refine am_if_le 639 646 dL_areWell_639 rfl (fun c639 => ?_) (fun c639 => absurd (by decide) c639)
      refine am_iconst 646 (v := 0) dL_areWell_646 (by decide) ?_
      refine am_iload_n 647 dL_areWell_647 rfl ?_
      refine am_if_le 648 655 dL_areWell_648 rfl (fun c648 => ?_) (fun c648 => absurd (by decide) c648)
      refine am_iconst 655 (v := 0) dL_areWell_655 (by decide) ?_
      refine am_icmp_ne 656 663 dL_areWell_656 rfl (fun c656 => absurd c656 (fun q => q rfl)) (fun c656 => ?_)
      refine am_iconst 659 (v := 1) dL_areWell_659 (by decide) ?_
      refine am_goto 660 (tgt := 664) dL_areWell_660 rfl ?_
      refine am_ireturn 664 dL_areWell_664 rfl rfl ?_
      subst hQ
      exact ⟨rfl, rfl, rfl⟩
  · rintro a ⟨w, y7⟩ hk h ih
    have h : w = nI (m_N (m_upto (z_K z) a) 5) := h
    show AW mL_areWell 0 0 515 [some (.ref p), some (.int (nI (m_N (m_th (z_K z)) 5))), some (.int (nI (m_P z))), some (.int (nI (m_N (m_tu z) 48))), some (.int l4), some (.int w), some (.int (nI a)), y7, z8] [] n f Q
    have ih2 : ∀ y, AW mL_areWell 0 0 515 [some (.ref p), some (.int (nI (m_N (m_th (z_K z)) 5))), some (.int (nI (m_P z))), some (.int (nI (m_N (m_tu z) 48))), some (.int l4), some (.int (nI (m_N (m_upto (z_K z) (a + 1)) 5))), some (.int (nI (a + 1))), y, z8] [] n f Q := fun y => ih (_, y) rfl
    rw [h]
    clear ih
    refine am_iload 515 dL_areWell_515 rfl ?_
    refine am_aload_n 517 dL_areWell_517 rfl ?_
    refine am_bipush 518 (v := 6) dL_areWell_518 (by decide) ?_
    refine am_V1 520 (mc' := 0) (ms' := 0) (rc := 0) (rs := 0) dL_areWell_520 lL_22 ⟨by decide, by decide⟩ (by repeat (first | assumption | exact am_ue | refine am_un (by first | assumption | decide | omega) ?_)) (Nat.le_of_ble_eq_true rfl) (Nat.le_of_ble_eq_true rfl) (s_many hG (j := 6) (by decide)) ?_
    refine am_is_ct ?_
    refine am_icmp_ge 523 588 dL_areWell_523 rfl (fun c523 => absurd c523 (nI_ge hk (by omega))) (fun c523 => ?_)
    refine am_iconst 526 (v := 0) dL_areWell_526 (by decide) ?_
    refine am_istore 527 dL_areWell_527 (by decide) ?_
    refine am_for 4 (fun _ (_ : Unit) => True) (fun j _ => AW mL_areWell 0 0 529 [some (.ref p), some (.int (nI (m_N (m_th (z_K z)) 5))), some (.int (nI (m_P z))), some (.int (nI (m_N (m_tu z) 48))), some (.int l4), some (.int (nI (m_N (m_upto (z_K z) a) 5))), some (.int (nI a)), some (.int (nI j)), z8] [] n f Q) ?_ ?_ 0 () (by omega) trivial
    · rintro ⟨⟩ -
      have e4 : m_areaA z a 4 = nI (m_N (m_in (z_K z) (nI a)) 5) := if_neg (by decide)
      refine am_iload 529 dL_areWell_529 rfl ?_
      refine am_iconst 531 (v := 4) dL_areWell_531 (by decide) ?_
      refine am_icmp_ge 532 570 dL_areWell_532 rfl (fun c532 => ?_) (fun c532 => absurd (by decide) c532)
      refine am_iload 570 dL_areWell_570 rfl ?_
      refine am_aload_n 572 dL_areWell_572 rfl ?_
      refine am_iload 573 dL_areWell_573 rfl ?_
      refine am_iconst 575 (v := 4) dL_areWell_575 (by decide) ?_
      refine am_V2 576 (mc' := 0) (ms' := 0) (rc := 0) (rs := 0) dL_areWell_576 lL_115 ⟨by decide, by decide⟩ (by repeat (first | assumption | exact am_ue | refine am_un (by first | assumption | decide | omega) ?_)) (Nat.le_of_ble_eq_true rfl) (Nat.le_of_ble_eq_true rfl) (s_ofArea hG hk (j := 4) (by decide)) ?_
      refine am_is_ct ?_
      rw [e4]
      refine am_iadd 579 dL_areWell_579 ?_
      rw [m_upto_step (by omega)]
      refine am_istore 580 dL_areWell_580 (by decide) ?_
      refine am_iinc 582 (v := nI (a + 1)) dL_areWell_582 rfl (nI_1 (a)) (by decide) ?_
      refine am_goto 585 (tgt := 515) dL_areWell_585 rfl ?_
      exact ih2 _
    · rintro j ⟨⟩ hj - ih
      have ej : m_areaA z a j = nI (z_C z a j) := if_pos hj
      have hc := m_cnt_le hI hk hj
      refine am_iload 529 dL_areWell_529 rfl ?_
      refine am_iconst 531 (v := 4) dL_areWell_531 (by decide) ?_
      refine am_icmp_ge 532 570 dL_areWell_532 rfl (fun c532 => absurd c532 (nI_ge hj (by decide))) (fun c532 => ?_)
      refine am_aload_n 535 dL_areWell_535 rfl ?_
      refine am_iload 536 dL_areWell_536 rfl ?_
      refine am_iload 538 dL_areWell_538 rfl ?_
      refine am_V2 540 (mc' := 0) (ms' := 0) (rc := 0) (rs := 0) dL_areWell_540 lL_115 ⟨by decide, by decide⟩ (by repeat (first | assumption | exact am_ue | refine am_un (by first | assumption | decide | omega) ?_)) (Nat.le_of_ble_eq_true rfl) (Nat.le_of_ble_eq_true rfl) (s_ofArea hG hk (j := j) (by omega)) ?_
      refine am_is_ct ?_
      rw [ej]
      refine am_if_lt 543 562 dL_areWell_543 rfl (fun c543 => absurd c543 (nI_pos (by omega))) (fun c543 => ?_)
      refine am_aload_n 546 dL_areWell_546 rfl ?_
      refine am_iload 547 dL_areWell_547 rfl ?_
      refine am_iload 549 dL_areWell_549 rfl ?_
      refine am_V2 551 (mc' := 0) (ms' := 0) (rc := 0) (rs := 0) dL_areWell_551 lL_115 ⟨by decide, by decide⟩ (by repeat (first | assumption | exact am_ue | refine am_un (by first | assumption | decide | omega) ?_)) (Nat.le_of_ble_eq_true rfl) (Nat.le_of_ble_eq_true rfl) (s_ofArea hG hk (j := j) (by omega)) ?_
      refine am_is_ct ?_
      rw [ej]
      refine am_aload_n 554 dL_areWell_554 rfl ?_
      refine am_iconst 555 (v := 3) dL_areWell_555 (by decide) ?_
      refine am_V1 556 (mc' := 0) (ms' := 0) (rc := 0) (rs := 0) dL_areWell_556 lL_22 ⟨by decide, by decide⟩ (by repeat (first | assumption | exact am_ue | refine am_un (by first | assumption | decide | omega) ?_)) (Nat.le_of_ble_eq_true rfl) (Nat.le_of_ble_eq_true rfl) (s_many hG (j := 3) (by decide)) ?_
      refine am_is_ct ?_
      refine am_icmp_le 559 564 dL_areWell_559 rfl (fun c559 => ?_) (fun c559 => absurd ((nI_leI (by omega) (by omega)).mpr hc) c559)
      refine am_iinc 564 (v := nI (j + 1)) dL_areWell_564 rfl (nI_1 (j)) (by decide) ?_
      refine am_goto 567 (tgt := 529) dL_areWell_567 rfl ?_
      exact ih () trivial
end Wel
