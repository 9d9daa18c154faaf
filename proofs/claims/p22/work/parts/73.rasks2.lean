/-! ===== the reference's calls in any state: what is asked, further ===== -/
section RAsks2
variable {G : Nat → m_K}
variable {m n v u sz : Nat} {f : Nat → am_C} {κ : Nat → Nat} {th h di li : Int32} {cs : Nat → Option Nat} {w b sig : Nat → Int32}
noncomputable def r_rowA (sig : Nat → Int32) (y : Nat) : Nat → Int32
  | 0 => m_I (fun x => sig (8 * y + x)) 8
  | 1 => m_I (fun x => m_tc sig (8 * y + x)) 8
  | _ => m_I (fun k => if (m_pks sig 48).getD k 0 / 8 = y then 1 else 0) (m_pks sig 48).length
theorem m_I0 : ∀ k, m_I (fun _ => 0) k = 0 := by
  intro k
  induction k with
  | zero => rfl
  | succ k ih => show m_I (fun _ => 0) k + 0 = 0; rw [ih]; rfl
theorem r_tc1 {c : Nat} (h : ¬ m_tc sig c = 0) : m_tc sig c = 1 := by
  unfold m_tc at h ⊢
  split at h
  · exact absurd rfl h
  · rename_i q; rw [if_neg q]
theorem s_rofRowNow {y j : Nat} (hW : r_W f v u sig) (hy : y < 6) (hj : j ≤ 2) : AM mX12_ofRowNow 0 0 [.int (nI y), .int (nI j), .ref v] n f (am_is (some (.int (r_rowA sig y j))) n f) := by
  have hPl := m_pks_len (sig := sig) (k := 48)
  obtain ⟨pk, v0, v1, v2, v3, v4⟩ := hW
  show AW mX12_ofRowNow 0 0 0 [some (.int (nI y)), some (.int (nI j)), some (.ref v), none, none] [] n f _
  have hcs : j = 0 ∨ j = 1 ∨ j = 2 := by omega
  have hPk : ∀ k, k < (m_pks sig 48).length → ¬ nI (m_pks sig 48).length ≤ nI k := fun k hk => nI_ge hk (by omega)
  -- behind the row: for 0 and 1 nothing more is counted, for 2 the peaks
  have hend : j ≠ 2 → ∀ (x : Int32) (k : Nat), AW mX12_ofRowNow 0 0 62 [some (.int (nI y)), some (.int (nI j)), some (.ref v), some (.int x), some (.int (nI k))] [] n f (am_is (some (.int x)) n f) := by
    intro hj2 x k
    have n2 : ¬ nI j = 2 := fun z => hj2 (am_eqN 2 (k := j) z (by decide) (by omega))
    refine am_iconst 62 (v := 0) dX12_ofRowNow_62 (by decide) ?_
    refine am_istore 63 dX12_ofRowNow_63 (by decide) ?_
    refine am_for (m_pks sig 48).length (fun _ (_ : Unit) => True) (fun k _ => AW mX12_ofRowNow 0 0 65 [some (.int (nI y)), some (.int (nI j)), some (.ref v), some (.int x), some (.int (nI k))] [] n f (am_is (some (.int x)) n f)) ?_ ?_ 0 () (by omega) trivial
    · rintro ⟨⟩ -
      refine am_iload 65 dX12_ofRowNow_65 rfl ?_
      refine am_aload_n 67 dX12_ofRowNow_67 rfl ?_
      refine am_getfield 68 dX12_ofRowNow_68 fX12_212 (by repeat (first | assumption | exact am_ue | refine am_un (by first | assumption | decide | omega) ?_)) rfl ?_
      refine am_icmp_ge 71 107 dX12_ofRowNow_71 rfl (fun c71 => ?_) (fun c71 => absurd (Int32.le_refl _) c71)
      refine am_iload_n 107 dX12_ofRowNow_107 rfl ?_
      exact am_ireturn 108 dX12_ofRowNow_108 rfl rfl ⟨rfl, rfl, rfl⟩
    · rintro k ⟨⟩ hk - ih
      refine am_iload 65 dX12_ofRowNow_65 rfl ?_
      refine am_aload_n 67 dX12_ofRowNow_67 rfl ?_
      refine am_getfield 68 dX12_ofRowNow_68 fX12_212 (by repeat (first | assumption | exact am_ue | refine am_un (by first | assumption | decide | omega) ?_)) rfl ?_
      refine am_icmp_ge 71 107 dX12_ofRowNow_71 rfl (fun c71 => absurd c71 (hPk k hk)) (fun c71 => ?_)
      refine am_iload_n 74 dX12_ofRowNow_74 rfl ?_
      refine am_iconst 75 (v := 2) dX12_ofRowNow_75 (by decide) ?_
      refine am_icmp_ne 76 107 dX12_ofRowNow_76 rfl (fun c76 => ?_) (fun c76 => absurd c76 n2)
      refine am_iload_n 107 dX12_ofRowNow_107 rfl ?_
      exact am_ireturn 108 dX12_ofRowNow_108 rfl rfl ⟨rfl, rfl, rfl⟩
  rcases hcs with rfl | rfl | rfl
  · refine am_iconst 0 (v := 0) dX12_ofRowNow_0 (by decide) ?_
    refine am_istore_n 1 dX12_ofRowNow_1 (by decide) ?_
    refine am_iconst 2 (v := 0) dX12_ofRowNow_2 (by decide) ?_
    refine am_istore 3 dX12_ofRowNow_3 (by decide) ?_
    refine am_for 8 (fun _ (_ : Unit) => True) (fun k _ => AW mX12_ofRowNow 0 0 5 [some (.int (nI y)), some (.int (nI 0)), some (.ref v), some (.int (m_I (fun x => sig (8 * y + x)) k)), some (.int (nI k))] [] n f _) ?_ ?_ 0 () (by omega) trivial
    · rintro ⟨⟩ -
      refine am_iload 5 dX12_ofRowNow_5 rfl ?_
      refine am_bipush 7 (v := 8) dX12_ofRowNow_7 (by decide) ?_
      refine am_icmp_ge 9 62 dX12_ofRowNow_9 rfl (fun c9 => ?_) (fun c9 => absurd (by decide) c9)
      exact hend (by decide) _ 8
    · rintro k ⟨⟩ hk - ih
      refine am_iload 5 dX12_ofRowNow_5 rfl ?_
      refine am_bipush 7 (v := 8) dX12_ofRowNow_7 (by decide) ?_
      refine am_icmp_ge 9 62 dX12_ofRowNow_9 rfl (fun c9 => absurd c9 (nI_ge hk (by decide))) (fun c9 => ?_)
      refine am_iload_n 12 dX12_ofRowNow_12 rfl ?_
      refine am_iload_n 13 dX12_ofRowNow_13 rfl ?_
      refine am_if_ne 14 31 dX12_ofRowNow_14 rfl (fun c14 => absurd c14 (by decide)) (fun c14 => ?_)
      refine am_aload_n 17 dX12_ofRowNow_17 rfl ?_
      refine am_getfield 18 dX12_ofRowNow_18 fX12_239 (by repeat (first | assumption | exact am_ue | refine am_un (by first | assumption | decide | omega) ?_)) rfl ?_
      refine am_iload 21 dX12_ofRowNow_21 rfl ?_
      refine am_iload_n 23 dX12_ofRowNow_23 rfl ?_
      refine am_S2 24 (mc' := 0) (ms' := 0) (rc := 0) (rs := 0) dX12_ofRowNow_24 lX12_79 ⟨by decide, by decide⟩ (Nat.le_of_ble_eq_true rfl) (Nat.le_of_ble_eq_true rfl) (s_cell) ?_
      refine am_is_ct ?_
      refine am_iaload 27 dX12_ofRowNow_27 rfl (by repeat (first | assumption | exact am_ue | refine am_un (by first | assumption | decide | omega) ?_)) (am_ix (show 8 * y + k < 48 by omega) (by decide)) ?_
      rw [nI_clamp (n := 8 * y + k) (by omega)]
      refine am_goto 28 (tgt := 54) dX12_ofRowNow_28 rfl ?_
      refine am_iadd 54 dX12_ofRowNow_54 ?_
      refine am_istore_n 55 dX12_ofRowNow_55 (by decide) ?_
      refine am_iinc 56 (v := nI (k + 1)) dX12_ofRowNow_56 rfl (nI_1 (k)) (by decide) ?_
      refine am_goto 59 (tgt := 5) dX12_ofRowNow_59 rfl ?_
      exact ih () trivial
  · refine am_iconst 0 (v := 0) dX12_ofRowNow_0 (by decide) ?_
    refine am_istore_n 1 dX12_ofRowNow_1 (by decide) ?_
    refine am_iconst 2 (v := 0) dX12_ofRowNow_2 (by decide) ?_
    refine am_istore 3 dX12_ofRowNow_3 (by decide) ?_
    refine am_for 8 (fun _ (_ : Unit) => True) (fun k _ => AW mX12_ofRowNow 0 0 5 [some (.int (nI y)), some (.int (nI 1)), some (.ref v), some (.int (m_I (fun x => m_tc sig (8 * y + x)) k)), some (.int (nI k))] [] n f _) ?_ ?_ 0 () (by omega) trivial
    · rintro ⟨⟩ -
      refine am_iload 5 dX12_ofRowNow_5 rfl ?_
      refine am_bipush 7 (v := 8) dX12_ofRowNow_7 (by decide) ?_
      refine am_icmp_ge 9 62 dX12_ofRowNow_9 rfl (fun c9 => ?_) (fun c9 => absurd (by decide) c9)
      exact hend (by decide) _ 8
    · rintro k ⟨⟩ hk - ih
      have ih := ih () trivial
      have e1 : m_I (fun x => m_tc sig (8 * y + x)) (k + 1) = m_I (fun x => m_tc sig (8 * y + x)) k + m_tc sig (8 * y + k) := rfl
      have hc : 8 * y + k < 48 := by omega
      refine am_iload 5 dX12_ofRowNow_5 rfl ?_
      refine am_bipush 7 (v := 8) dX12_ofRowNow_7 (by decide) ?_
      refine am_icmp_ge 9 62 dX12_ofRowNow_9 rfl (fun c9 => absurd c9 (nI_ge hk (by decide))) (fun c9 => ?_)
      refine am_iload_n 12 dX12_ofRowNow_12 rfl ?_
      refine am_iload_n 13 dX12_ofRowNow_13 rfl ?_
      refine am_if_ne 14 31 dX12_ofRowNow_14 rfl (fun c14 => ?_) (fun c14 => absurd c14 (by decide))
      refine am_iload_n 31 dX12_ofRowNow_31 rfl ?_
      refine am_iconst 32 (v := 1) dX12_ofRowNow_32 (by decide) ?_
      refine am_icmp_ne 33 53 dX12_ofRowNow_33 rfl (fun c33 => absurd c33 (by decide)) (fun c33 => ?_)
      refine am_aload_n 36 dX12_ofRowNow_36 rfl ?_
      refine am_iload 37 dX12_ofRowNow_37 rfl ?_
      refine am_iload_n 39 dX12_ofRowNow_39 rfl ?_
      refine am_S2 40 (mc' := 0) (ms' := 0) (rc := 0) (rs := 0) dX12_ofRowNow_40 lX12_79 ⟨by decide, by decide⟩ (Nat.le_of_ble_eq_true rfl) (Nat.le_of_ble_eq_true rfl) (s_cell) ?_
      refine am_is_ct ?_
      refine am_V1 43 (mc' := 0) (ms' := 0) (rc := 0) (rs := 0) dX12_ofRowNow_43 lX12_242 ⟨by decide, by decide⟩ (by repeat (first | assumption | exact am_ue | refine am_un (by first | assumption | decide | omega) ?_)) (Nat.le_of_ble_eq_true rfl) (Nat.le_of_ble_eq_true rfl) (s_vTouched v0 v1 hc) ?_
      refine am_is_ct ?_
      refine am_if_eq 46 53 dX12_ofRowNow_46 rfl (fun c46 => ?_) (fun c46 => ?_)
      · rw [c46] at e1
        rw [e1] at ih
        refine am_iconst 53 (v := 0) dX12_ofRowNow_53 (by decide) ?_
        refine am_iadd 54 dX12_ofRowNow_54 ?_
        refine am_istore_n 55 dX12_ofRowNow_55 (by decide) ?_
        refine am_iinc 56 (v := nI (k + 1)) dX12_ofRowNow_56 rfl (nI_1 (k)) (by decide) ?_
        refine am_goto 59 (tgt := 5) dX12_ofRowNow_59 rfl ?_
        exact ih
      · rw [r_tc1 c46] at e1
        rw [e1] at ih
        refine am_iconst 49 (v := 1) dX12_ofRowNow_49 (by decide) ?_
        refine am_goto 50 (tgt := 54) dX12_ofRowNow_50 rfl ?_
        refine am_iadd 54 dX12_ofRowNow_54 ?_
        refine am_istore_n 55 dX12_ofRowNow_55 (by decide) ?_
        refine am_iinc 56 (v := nI (k + 1)) dX12_ofRowNow_56 rfl (nI_1 (k)) (by decide) ?_
        refine am_goto 59 (tgt := 5) dX12_ofRowNow_59 rfl ?_
        exact ih
  · refine am_iconst 0 (v := 0) dX12_ofRowNow_0 (by decide) ?_
    refine am_istore_n 1 dX12_ofRowNow_1 (by decide) ?_
    refine am_iconst 2 (v := 0) dX12_ofRowNow_2 (by decide) ?_
    refine am_istore 3 dX12_ofRowNow_3 (by decide) ?_
    refine am_for 8 (fun _ (_ : Unit) => True) (fun k _ => AW mX12_ofRowNow 0 0 5 [some (.int (nI y)), some (.int (nI 2)), some (.ref v), some (.int (m_I (fun _ => 0) k)), some (.int (nI k))] [] n f _) ?_ ?_ 0 () (by omega) trivial
    · rintro ⟨⟩ -
      refine am_iload 5 dX12_ofRowNow_5 rfl ?_
      refine am_bipush 7 (v := 8) dX12_ofRowNow_7 (by decide) ?_
      refine am_icmp_ge 9 62 dX12_ofRowNow_9 rfl (fun c9 => ?_) (fun c9 => absurd (by decide) c9)
      rw [m_I0]
      refine am_iconst 62 (v := 0) dX12_ofRowNow_62 (by decide) ?_
      refine am_istore 63 dX12_ofRowNow_63 (by decide) ?_
      refine am_for (m_pks sig 48).length (fun _ (_ : Unit) => True) (fun k _ => AW mX12_ofRowNow 0 0 65 [some (.int (nI y)), some (.int (nI 2)), some (.ref v), some (.int (m_I (fun k => if (m_pks sig 48).getD k 0 / 8 = y then 1 else 0) k)), some (.int (nI k))] [] n f _) ?_ ?_ 0 () (by omega) trivial
      · rintro ⟨⟩ -
        refine am_iload 65 dX12_ofRowNow_65 rfl ?_
        refine am_aload_n 67 dX12_ofRowNow_67 rfl ?_
        refine am_getfield 68 dX12_ofRowNow_68 fX12_212 (by repeat (first | assumption | exact am_ue | refine am_un (by first | assumption | decide | omega) ?_)) rfl ?_
        refine am_icmp_ge 71 107 dX12_ofRowNow_71 rfl (fun c71 => ?_) (fun c71 => absurd (Int32.le_refl _) c71)
        refine am_iload_n 107 dX12_ofRowNow_107 rfl ?_
        exact am_ireturn 108 dX12_ofRowNow_108 rfl rfl ⟨rfl, rfl, rfl⟩
      · rintro k ⟨⟩ hk - ih
        have ih := ih () trivial
        have e1 : m_I (fun k => if (m_pks sig 48).getD k 0 / 8 = y then 1 else 0) (k + 1) = m_I (fun k => if (m_pks sig 48).getD k 0 / 8 = y then 1 else 0) k + (if (m_pks sig 48).getD k 0 / 8 = y then 1 else 0) := rfl
        obtain ⟨c48, c20⟩ := m_pks48 hk
        have hpk := v4 k hk
        have hk48 : k < 48 := by omega
        generalize (m_pks sig 48).getD k 0 = c at c48 c20 hpk e1
        by_cases q : c / 8 = y
        · rw [if_pos q] at e1
          rw [e1] at ih
          have qq : nI (c / 8) = nI y := by rw [q]
          refine am_iload 65 dX12_ofRowNow_65 rfl ?_
          refine am_aload_n 67 dX12_ofRowNow_67 rfl ?_
          refine am_getfield 68 dX12_ofRowNow_68 fX12_212 (by repeat (first | assumption | exact am_ue | refine am_un (by first | assumption | decide | omega) ?_)) rfl ?_
          refine am_icmp_ge 71 107 dX12_ofRowNow_71 rfl (fun c71 => absurd c71 (hPk k hk)) (fun c71 => ?_)
          refine am_iload_n 74 dX12_ofRowNow_74 rfl ?_
          refine am_iconst 75 (v := 2) dX12_ofRowNow_75 (by decide) ?_
          refine am_icmp_ne 76 107 dX12_ofRowNow_76 rfl (fun c76 => absurd c76 (fun q => q rfl)) (fun c76 => ?_)
          refine am_iload_n 79 dX12_ofRowNow_79 rfl ?_
          refine am_aload_n 80 dX12_ofRowNow_80 rfl ?_
          refine am_getfield 81 dX12_ofRowNow_81 fX12_192 (by repeat (first | assumption | exact am_ue | refine am_un (by first | assumption | decide | omega) ?_)) rfl ?_
          refine am_iload 84 dX12_ofRowNow_84 rfl ?_
          refine am_iaload 86 dX12_ofRowNow_86 rfl (by repeat (first | assumption | exact am_ue | refine am_un (by first | assumption | decide | omega) ?_)) (am_ix hk48 (by decide)) ?_
          rw [nI_clamp (n := k) (by omega), hpk]
          refine am_bipush 87 (v := 8) dX12_ofRowNow_87 (by decide) ?_
          refine am_idiv 89 dX12_ofRowNow_89 (by decide) ?_
          rw [am_div8 (by omega)]
          refine am_iload_n 90 dX12_ofRowNow_90 rfl ?_
          refine am_icmp_ne 91 98 dX12_ofRowNow_91 rfl (fun c91 => absurd c91 (fun z => z qq)) (fun c91 => ?_)
          refine am_iconst 94 (v := 1) dX12_ofRowNow_94 (by decide) ?_
          refine am_goto 95 (tgt := 99) dX12_ofRowNow_95 rfl ?_
          refine am_iadd 99 dX12_ofRowNow_99 ?_
          refine am_istore_n 100 dX12_ofRowNow_100 (by decide) ?_
          refine am_iinc 101 (v := nI (k + 1)) dX12_ofRowNow_101 rfl (nI_1 (k)) (by decide) ?_
          refine am_goto 104 (tgt := 65) dX12_ofRowNow_104 rfl ?_
          exact ih
        · rw [if_neg q] at e1
          rw [e1] at ih
          have qq : ¬ nI (c / 8) = nI y := fun z => q ((nI_eq (by omega) (by omega)).mp z)
          refine am_iload 65 dX12_ofRowNow_65 rfl ?_
          refine am_aload_n 67 dX12_ofRowNow_67 rfl ?_
          refine am_getfield 68 dX12_ofRowNow_68 fX12_212 (by repeat (first | assumption | exact am_ue | refine am_un (by first | assumption | decide | omega) ?_)) rfl ?_
          refine am_icmp_ge 71 107 dX12_ofRowNow_71 rfl (fun c71 => absurd c71 (hPk k hk)) (fun c71 => ?_)
          refine am_iload_n 74 dX12_ofRowNow_74 rfl ?_
          refine am_iconst 75 (v := 2) dX12_ofRowNow_75 (by decide) ?_
          refine am_icmp_ne 76 107 dX12_ofRowNow_76 rfl (fun c76 => absurd c76 (fun q => q rfl)) (fun c76 => ?_)
          refine am_iload_n 79 dX12_ofRowNow_79 rfl ?_
          refine am_aload_n 80 dX12_ofRowNow_80 rfl ?_
          refine am_getfield 81 dX12_ofRowNow_81 fX12_192 (by repeat (first | assumption | exact am_ue | refine am_un (by first | assumption | decide | omega) ?_)) rfl ?_
          refine am_iload 84 dX12_ofRowNow_84 rfl ?_
          refine am_iaload 86 dX12_ofRowNow_86 rfl (by repeat (first | assumption | exact am_ue | refine am_un (by first | assumption | decide | omega) ?_)) (am_ix hk48 (by decide)) ?_
          rw [nI_clamp (n := k) (by omega), hpk]
          refine am_bipush 87 (v := 8) dX12_ofRowNow_87 (by decide) ?_
          refine am_idiv 89 dX12_ofRowNow_89 (by decide) ?_
          rw [am_div8 (by omega)]
          refine am_iload_n 90 dX12_ofRowNow_90 rfl ?_
          refine am_icmp_ne 91 98 dX12_ofRowNow_91 rfl (fun c91 => ?_) (fun c91 => absurd c91 qq)
          refine am_iconst 98 (v := 0) dX12_ofRowNow_98 (by decide) ?_
          refine am_iadd 99 dX12_ofRowNow_99 ?_
          refine am_istore_n 100 dX12_ofRowNow_100 (by decide) ?_
          refine am_iinc 101 (v := nI (k + 1)) dX12_ofRowNow_101 rfl (nI_1 (k)) (by decide) ?_
          refine am_goto 104 (tgt := 65) dX12_ofRowNow_104 rfl ?_
          exact ih
    · rintro k ⟨⟩ hk - ih
      refine am_iload 5 dX12_ofRowNow_5 rfl ?_
      refine am_bipush 7 (v := 8) dX12_ofRowNow_7 (by decide) ?_
      refine am_icmp_ge 9 62 dX12_ofRowNow_9 rfl (fun c9 => absurd c9 (nI_ge hk (by decide))) (fun c9 => ?_)
      refine am_iload_n 12 dX12_ofRowNow_12 rfl ?_
      refine am_iload_n 13 dX12_ofRowNow_13 rfl ?_
      refine am_if_ne 14 31 dX12_ofRowNow_14 rfl (fun c14 => ?_) (fun c14 => absurd c14 (by decide))
      refine am_iload_n 31 dX12_ofRowNow_31 rfl ?_
      refine am_iconst 32 (v := 1) dX12_ofRowNow_32 (by decide) ?_
      refine am_icmp_ne 33 53 dX12_ofRowNow_33 rfl (fun c33 => ?_) (fun c33 => absurd c33 (by decide))
      refine am_iconst 53 (v := 0) dX12_ofRowNow_53 (by decide) ?_
      refine am_iadd 54 dX12_ofRowNow_54 ?_
      refine am_istore_n 55 dX12_ofRowNow_55 (by decide) ?_
      refine am_iinc 56 (v := nI (k + 1)) dX12_ofRowNow_56 rfl (nI_1 (k)) (by decide) ?_
      refine am_goto 59 (tgt := 5) dX12_ofRowNow_59 rfl ?_
      exact ih () trivial
end RAsks2
