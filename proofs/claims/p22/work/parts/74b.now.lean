/-! ===== what the model answers, to the letter ===== -/
section YNow
variable {m n v u sz T : Nat} {f : Nat → am_C} {κ : Nat → Nat} {th h di li : Int32} {cs : Nat → Option Nat} {w b sig : Nat → Int32} {G : Nat → m_K} {M : Nat → Prop} {A : Nat → Nat → Int32} {S : y_H}
noncomputable def y_areaA (S : y_H) (a j : Nat) : Int32 := if j < 4 then nI (y_C S a j) else nI (m_N (m_in (y_K S) (nI a)) 5)
noncomputable def y_manyA (S : y_H) (sz : Nat) (sig : Nat → Int32) : Nat → Int32
  | 0 => (y_t S).1
  | 1 => (y_t S).2
  | 2 => nI (m_N (m_th (y_K S)) 5)
  | 3 => nI (y_be S)
  | 4 => nI (y_li S)
  | 5 => nI (y_ca S)
  | 6 => nI sz
  | 7 => m_hum sig
  | 8 => nI (m_pks sig 48).length
  | _ => m_I (fun k => if 14 < m_reg sig ((m_pks sig 48).getD k 0) then 1 else 0) (m_pks sig 48).length
def y_peakA (sig : Nat → Int32) (k : Nat) : Nat → Int32
  | 0 => nI ((m_pks sig 48).getD k 0)
  | 1 => nI (m_placeN sig ((m_pks sig 48).getD k 0) false)
  | 2 => nI (m_placeN sig ((m_pks sig 48).getD k 0) true)
  | 3 => m_reg sig ((m_pks sig 48).getD k 0)
  | _ => if 14 < m_reg sig ((m_pks sig 48).getD k 0) then 1 else 0
theorem s_XareaNow {k j : Nat} (s : r_M m n f κ sz G th h di li cs w b) (hR : y_R M sz A S cs G) (hk : k < sz) (hj : j ≤ 4) : AM mX12_ofAreaNow 0 0 [.ref m, .int (nI k), .int (nI j)] n f (am_is (some (.int (y_areaA S k j))) n f) := by
  obtain ⟨⟨e0, ⟨e3, ew⟩, ⟨hs4, -, el, mc, R, l0, -, l1, lA⟩, ety⟩, -⟩ := id s
  unfold r_m12 at e0
  obtain ⟨l2, l3, l5, l4⟩ := l1 (by omega)
  obtain ⟨a, g, l6, l7, b1, b0, b2, b3⟩ := lA.1 k hk
  show AW mX12_ofAreaNow 0 0 0 [some (.ref m), some (.int (nI k)), some (.int (nI j)), none, none, none, none, none] [] n f _
  unfold y_areaA
  by_cases hj4 : j < 4
  · rw [if_pos hj4]
    have ec : g j = nI (y_C S k j) := (b3 j hj4).trans ((hR.2.2.2.1 k hk).2 j hj4)
    refine am_iload_n 0 dX12_ofAreaNow_0 rfl ?_
    refine am_iconst 1 (v := 4) dX12_ofAreaNow_1 (by decide) ?_
    refine am_icmp_ge 2 22 dX12_ofAreaNow_2 rfl (fun c2 => absurd c2 (nI_ge hj4 (by decide))) (fun c2 => ?_)
    refine am_aload_n 5 dX12_ofAreaNow_5 rfl ?_
    refine am_getfield 6 dX12_ofAreaNow_6 fX12_36 (by repeat (first | assumption | exact am_ue | refine am_un (by first | assumption | decide | omega) ?_)) rfl ?_
    refine am_iload_n 9 dX12_ofAreaNow_9 rfl ?_
    refine am_V1 10 (mc' := 0) (ms' := 0) (rc := 0) (rs := 0) dX12_ofAreaNow_10 lX12_102 ⟨by decide, by decide⟩ l0 (Nat.le_of_ble_eq_true rfl) (Nat.le_of_ble_eq_true rfl) (s_get l0 l5 hk (by omega) l6) ?_
    refine am_is_ct ?_
    refine am_cast 13 dX12_ofAreaNow_13 cX12_66 rfl rfl b0 ?_
    refine am_getfield 16 dX12_ofAreaNow_16 fX12_106 (by repeat (first | assumption | exact am_ue | refine am_un (by first | assumption | decide | omega) ?_)) rfl ?_
    refine am_iload_n 19 dX12_ofAreaNow_19 rfl ?_
    refine am_iaload 20 dX12_ofAreaNow_20 rfl (by repeat (first | assumption | exact am_ue | refine am_un (by first | assumption | decide | omega) ?_)) (am_ix hj4 (by decide)) ?_
    rw [nI_clamp (n := j) (by omega), ec]
    exact am_ireturn 21 dX12_ofAreaNow_21 rfl rfl ⟨rfl, rfl, rfl⟩
  · obtain rfl : j = 4 := by omega
    rw [if_neg hj4]
    refine am_iload_n 0 dX12_ofAreaNow_0 rfl ?_
    refine am_iconst 1 (v := 4) dX12_ofAreaNow_1 (by decide) ?_
    refine am_icmp_ge 2 22 dX12_ofAreaNow_2 rfl (fun c2 => ?_) (fun c2 => absurd (Int32.le_refl _) c2)
    refine am_iconst 22 (v := 0) dX12_ofAreaNow_22 (by decide) ?_
    refine am_istore_n 23 dX12_ofAreaNow_23 (by decide) ?_
    refine am_aload_n 24 dX12_ofAreaNow_24 rfl ?_
    refine am_getfield 25 dX12_ofAreaNow_25 fX12_29 (by repeat (first | assumption | exact am_ue | refine am_un (by first | assumption | decide | omega) ?_)) rfl ?_
    refine am_astore 28 dX12_ofAreaNow_28 (by decide) ?_
    refine am_aload 30 dX12_ofAreaNow_30 rfl ?_
    refine am_arraylength 32 dX12_ofAreaNow_32 rfl (by repeat (first | assumption | exact am_ue | refine am_un (by first | assumption | decide | omega) ?_)) ?_
    refine am_istore 33 dX12_ofAreaNow_33 (by decide) ?_
    refine am_iconst 35 (v := 0) dX12_ofAreaNow_35 (by decide) ?_
    refine am_istore 36 dX12_ofAreaNow_36 (by decide) ?_
    refine am_for 5 (fun i (st : Int32 × Option Value) => st.1 = nI (m_N (m_in (y_K S) (nI k)) i)) (fun i st => AW mX12_ofAreaNow 0 0 38 [some (.ref m), some (.int (nI k)), some (.int (nI 4)), some (.int st.1), some (.ref (m + 3)), some (.int (Int32.ofNat 5)), some (.int (nI i)), st.2] [] n f _) ?_ ?_ 0 (0, none) (by omega) rfl
    · rintro ⟨x, z⟩ e
      obtain rfl : x = nI (m_N (m_in (y_K S) (nI k)) 5) := e
      show AW mX12_ofAreaNow 0 0 38 [some (.ref m), some (.int (nI k)), some (.int (nI 4)), some (.int (nI (m_N (m_in (y_K S) (nI k)) 5))), some (.ref (m + 3)), some (.int (Int32.ofNat 5)), some (.int (nI 5)), z] [] n f _
      refine am_iload 38 dX12_ofAreaNow_38 rfl ?_
      refine am_iload 40 dX12_ofAreaNow_40 rfl ?_
      refine am_icmp_ge 42 80 dX12_ofAreaNow_42 rfl (fun c42 => ?_) (fun c42 => absurd (by decide) c42)
      refine am_iload_n 80 dX12_ofAreaNow_80 rfl ?_
      exact am_ireturn 81 dX12_ofAreaNow_81 rfl rfl ⟨rfl, rfl, rfl⟩
    · rintro i ⟨x, z⟩ hi e ih
      obtain rfl : x = nI (m_N (m_in (y_K S) (nI k)) i) := e
      show AW mX12_ofAreaNow 0 0 38 [some (.ref m), some (.int (nI k)), some (.int (nI 4)), some (.int (nI (m_N (m_in (y_K S) (nI k)) i))), some (.ref (m + 3)), some (.int (Int32.ofNat 5)), some (.int (nI i)), z] [] n f _
      have ea : ∀ c : Nat, c = m_in (y_K S) (nI k) i → nI (m_N (m_in (y_K S) (nI k)) i) + nI c = nI (m_N (m_in (y_K S) (nI k)) (i + 1)) := fun c hc => by
        rw [hc]
        exact nI_add _ _
      rcases hc : cs i with _ | c
      · have e0' := ea 0 (by unfold m_in; rw [if_neg fun z => z.1 (hR.no hi hc)])
        refine am_iload 38 dX12_ofAreaNow_38 rfl ?_
        refine am_iload 40 dX12_ofAreaNow_40 rfl ?_
        refine am_icmp_ge 42 80 dX12_ofAreaNow_42 rfl (fun c42 => absurd c42 (nI_ge hi (by decide))) (fun c42 => ?_)
        refine am_aload 45 dX12_ofAreaNow_45 rfl ?_
        refine am_iload 47 dX12_ofAreaNow_47 rfl ?_
        refine am_aaload 49 dX12_ofAreaNow_49 rfl (by repeat (first | assumption | exact am_ue | refine am_un (by first | assumption | decide | omega) ?_)) (am_ix hi (by decide)) ?_
        rw [nI_clamp (n := i) (by omega), hc, show va_rf none = Value.null from rfl]
        refine am_astoreN 50 dX12_ofAreaNow_50 (by decide) ?_
        refine am_iload_n 52 dX12_ofAreaNow_52 rfl ?_
        refine am_aloadN 53 dX12_ofAreaNow_53 rfl ?_
        refine am_ifnullN 55 (tgt := 71) dX12_ofAreaNow_55 rfl ?_
        refine am_iconst 71 (v := 0) dX12_ofAreaNow_71 (by decide) ?_
        refine am_iadd 72 dX12_ofAreaNow_72 ?_
        rw [show nI (m_N (m_in (y_K S) (nI k)) i) + (0 : Int32) = nI (m_N (m_in (y_K S) (nI k)) (i + 1)) from e0']
        refine am_istore_n 73 dX12_ofAreaNow_73 (by decide) ?_
        refine am_iinc 74 (v := nI (i + 1)) dX12_ofAreaNow_74 rfl (nI_1 (i)) (by decide) ?_
        refine am_goto 77 (tgt := 38) dX12_ofAreaNow_77 rfl ?_
        exact ih (_, _) rfl
      · obtain ⟨ap, cl, kk, q0, -, -, -, -, -, rfl, -⟩ := (ety c).2.1 (ew i hi c hc)
        unfold r_kF at q0
        obtain ⟨h0, he, -⟩ := hR.at hi hc
        rw [he.1 7 (by decide) (by decide)] at q0
        by_cases q : (y_K S i).1 7 = nI k
        · have e0' := ea 1 (by unfold m_in; rw [if_pos ⟨h0, q⟩])
          refine am_iload 38 dX12_ofAreaNow_38 rfl ?_
          refine am_iload 40 dX12_ofAreaNow_40 rfl ?_
          refine am_icmp_ge 42 80 dX12_ofAreaNow_42 rfl (fun c42 => absurd c42 (nI_ge hi (by decide))) (fun c42 => ?_)
          refine am_aload 45 dX12_ofAreaNow_45 rfl ?_
          refine am_iload 47 dX12_ofAreaNow_47 rfl ?_
          refine am_aaload 49 dX12_ofAreaNow_49 rfl (by repeat (first | assumption | exact am_ue | refine am_un (by first | assumption | decide | omega) ?_)) (am_ix hi (by decide)) ?_
          rw [nI_clamp (n := i) (by omega), hc, show va_rf (some c) = Value.ref c from rfl]
          refine am_astore 50 dX12_ofAreaNow_50 (by decide) ?_
          refine am_iload_n 52 dX12_ofAreaNow_52 rfl ?_
          refine am_aload 53 dX12_ofAreaNow_53 rfl ?_
          refine am_ifnull 55 dX12_ofAreaNow_55 ?_
          refine am_aload 58 dX12_ofAreaNow_58 rfl ?_
          refine am_getfield 60 dX12_ofAreaNow_60 fX12_99 q0 rfl ?_
          refine am_iload_n 63 dX12_ofAreaNow_63 rfl ?_
          refine am_icmp_ne 64 71 dX12_ofAreaNow_64 rfl (fun c64 => absurd c64 (fun z => z q)) (fun c64 => ?_)
          refine am_iconst 67 (v := 1) dX12_ofAreaNow_67 (by decide) ?_
          refine am_goto 68 (tgt := 72) dX12_ofAreaNow_68 rfl ?_
          refine am_iadd 72 dX12_ofAreaNow_72 ?_
          rw [show nI (m_N (m_in (y_K S) (nI k)) i) + (1 : Int32) = nI (m_N (m_in (y_K S) (nI k)) (i + 1)) from e0']
          refine am_istore_n 73 dX12_ofAreaNow_73 (by decide) ?_
          refine am_iinc 74 (v := nI (i + 1)) dX12_ofAreaNow_74 rfl (nI_1 (i)) (by decide) ?_
          refine am_goto 77 (tgt := 38) dX12_ofAreaNow_77 rfl ?_
          exact ih (_, _) rfl
        · have e0' := ea 0 (by unfold m_in; rw [if_neg fun z => q z.2])
          refine am_iload 38 dX12_ofAreaNow_38 rfl ?_
          refine am_iload 40 dX12_ofAreaNow_40 rfl ?_
          refine am_icmp_ge 42 80 dX12_ofAreaNow_42 rfl (fun c42 => absurd c42 (nI_ge hi (by decide))) (fun c42 => ?_)
          refine am_aload 45 dX12_ofAreaNow_45 rfl ?_
          refine am_iload 47 dX12_ofAreaNow_47 rfl ?_
          refine am_aaload 49 dX12_ofAreaNow_49 rfl (by repeat (first | assumption | exact am_ue | refine am_un (by first | assumption | decide | omega) ?_)) (am_ix hi (by decide)) ?_
          rw [nI_clamp (n := i) (by omega), hc, show va_rf (some c) = Value.ref c from rfl]
          refine am_astore 50 dX12_ofAreaNow_50 (by decide) ?_
          refine am_iload_n 52 dX12_ofAreaNow_52 rfl ?_
          refine am_aload 53 dX12_ofAreaNow_53 rfl ?_
          refine am_ifnull 55 dX12_ofAreaNow_55 ?_
          refine am_aload 58 dX12_ofAreaNow_58 rfl ?_
          refine am_getfield 60 dX12_ofAreaNow_60 fX12_99 q0 rfl ?_
          refine am_iload_n 63 dX12_ofAreaNow_63 rfl ?_
          refine am_icmp_ne 64 71 dX12_ofAreaNow_64 rfl (fun c64 => ?_) (fun c64 => absurd c64 q)
          refine am_iconst 71 (v := 0) dX12_ofAreaNow_71 (by decide) ?_
          refine am_iadd 72 dX12_ofAreaNow_72 ?_
          rw [show nI (m_N (m_in (y_K S) (nI k)) i) + (0 : Int32) = nI (m_N (m_in (y_K S) (nI k)) (i + 1)) from e0']
          refine am_istore_n 73 dX12_ofAreaNow_73 (by decide) ?_
          refine am_iinc 74 (v := nI (i + 1)) dX12_ofAreaNow_74 rfl (nI_1 (i)) (by decide) ?_
          refine am_goto 77 (tgt := 38) dX12_ofAreaNow_77 rfl ?_
          exact ih (_, _) rfl
theorem y_cn_th (hR : y_R M sz A S cs G) : m_N (y_cn cs) 5 = m_N (m_th (y_K S)) 5 := by
  have e : ∀ k, k < 5 → y_cn cs k = m_th (y_K S) k := fun k hk => by
    rcases hc : cs k with _ | c
    · rw [show y_cn cs k = 0 by unfold y_cn; rw [hc]; rfl]
      exact (if_neg fun z => z (hR.no hk hc)).symm
    · rw [show y_cn cs k = 1 by unfold y_cn; rw [hc]; rfl]
      exact (if_pos (hR.at hk hc).1).symm
  show 0 + _ + _ + _ + _ + _ = 0 + _ + _ + _ + _ + _
  rw [e 0 (by decide), e 1 (by decide), e 2 (by decide), e 3 (by decide), e 4 (by decide)]
theorem s_XmanyNow {j : Nat} (s : r_M m n f κ sz G th h di li cs w b) (hR : y_R M sz A S cs G) (hW : r_W f v u sig) (hs : ∀ x, x < 48 → (sig x).toInt.natAbs ≤ 300000) (hj : j ≤ 9) : AM mX12_manyNow 0 0 [.ref m, .int (nI j), .ref v] n f (am_is (some (.int (y_manyA S sz sig j))) n f) := by
  have hPl := m_pks_len (sig := sig) (k := 48)
  have hW0 := hW
  obtain ⟨⟨e0, -, ⟨hs4, -, el, mc, R, l0, -⟩, -⟩, -⟩ := id s
  obtain ⟨n1, n2, n3, n4, n5⟩ := hR.2.2.2.2.1
  unfold r_m12 at e0
  rw [n1, n2, n3, n4, n5] at e0
  obtain ⟨pk, v0, v1, v2, v3, v4⟩ := hW
  have hcn := s_rcontactsNow s.1
  rw [y_cn_th hR] at hcn
  have hPk : ∀ k, k < (m_pks sig 48).length → ¬ nI (m_pks sig 48).length ≤ nI k := fun k hk => nI_ge hk (by omega)
  show AW mX12_manyNow 0 0 0 [some (.ref m), some (.int (nI j)), some (.ref v), none, none] [] n f _
  rcases (show j = 0 ∨ j = 1 ∨ j = 2 ∨ j = 3 ∨ j = 4 ∨ j = 5 ∨ j = 6 ∨ j = 7 ∨ j = 8 ∨ j = 9 by omega) with rfl | rfl | rfl | rfl | rfl | rfl | rfl | rfl | rfl | rfl
  · refine am_iload_n 0 dX12_manyNow_0 rfl ?_
    refine am_tableIn 1 (off := 51) (tgt := 52) dX12_manyNow_1 (by decide) (by decide) rfl rfl ?_
    refine am_aload_n 52 dX12_manyNow_52 rfl ?_
    refine am_getfield 53 dX12_manyNow_53 fX12_220 (by repeat (first | assumption | exact am_ue | refine am_un (by first | assumption | decide | omega) ?_)) rfl ?_
    exact am_ireturn 56 dX12_manyNow_56 rfl rfl ⟨rfl, rfl, rfl⟩
  · refine am_iload_n 0 dX12_manyNow_0 rfl ?_
    refine am_tableIn 1 (off := 56) (tgt := 57) dX12_manyNow_1 (by decide) (by decide) rfl rfl ?_
    refine am_aload_n 57 dX12_manyNow_57 rfl ?_
    refine am_getfield 58 dX12_manyNow_58 fX12_223 (by repeat (first | assumption | exact am_ue | refine am_un (by first | assumption | decide | omega) ?_)) rfl ?_
    exact am_ireturn 61 dX12_manyNow_61 rfl rfl ⟨rfl, rfl, rfl⟩
  · refine am_iload_n 0 dX12_manyNow_0 rfl ?_
    refine am_tableIn 1 (off := 61) (tgt := 62) dX12_manyNow_1 (by decide) (by decide) rfl rfl ?_
    refine am_aload_n 62 dX12_manyNow_62 rfl ?_
    refine am_V0 63 (mc' := 0) (ms' := 0) (rc := 0) (rs := 0) dX12_manyNow_63 lX12_236 ⟨by decide, by decide⟩ e0 (Nat.le_of_ble_eq_true rfl) (Nat.le_of_ble_eq_true rfl) (hcn) ?_
    refine am_is_ct ?_
    exact am_ireturn 66 dX12_manyNow_66 rfl rfl ⟨rfl, rfl, rfl⟩
  · refine am_iload_n 0 dX12_manyNow_0 rfl ?_
    refine am_tableIn 1 (off := 66) (tgt := 67) dX12_manyNow_1 (by decide) (by decide) rfl rfl ?_
    refine am_aload_n 67 dX12_manyNow_67 rfl ?_
    refine am_getfield 68 dX12_manyNow_68 fX12_153 (by repeat (first | assumption | exact am_ue | refine am_un (by first | assumption | decide | omega) ?_)) rfl ?_
    exact am_ireturn 71 dX12_manyNow_71 rfl rfl ⟨rfl, rfl, rfl⟩
  · refine am_iload_n 0 dX12_manyNow_0 rfl ?_
    refine am_tableIn 1 (off := 71) (tgt := 72) dX12_manyNow_1 (by decide) (by decide) rfl rfl ?_
    refine am_aload_n 72 dX12_manyNow_72 rfl ?_
    refine am_getfield 73 dX12_manyNow_73 fX12_132 (by repeat (first | assumption | exact am_ue | refine am_un (by first | assumption | decide | omega) ?_)) rfl ?_
    exact am_ireturn 76 dX12_manyNow_76 rfl rfl ⟨rfl, rfl, rfl⟩
  · refine am_iload_n 0 dX12_manyNow_0 rfl ?_
    refine am_tableIn 1 (off := 76) (tgt := 77) dX12_manyNow_1 (by decide) (by decide) rfl rfl ?_
    refine am_aload_n 77 dX12_manyNow_77 rfl ?_
    refine am_getfield 78 dX12_manyNow_78 fX12_116 (by repeat (first | assumption | exact am_ue | refine am_un (by first | assumption | decide | omega) ?_)) rfl ?_
    exact am_ireturn 81 dX12_manyNow_81 rfl rfl ⟨rfl, rfl, rfl⟩
  · refine am_iload_n 0 dX12_manyNow_0 rfl ?_
    refine am_tableIn 1 (off := 81) (tgt := 82) dX12_manyNow_1 (by decide) (by decide) rfl rfl ?_
    refine am_aload_n 82 dX12_manyNow_82 rfl ?_
    refine am_getfield 83 dX12_manyNow_83 fX12_36 (by repeat (first | assumption | exact am_ue | refine am_un (by first | assumption | decide | omega) ?_)) rfl ?_
    refine am_V0 86 (mc' := 0) (ms' := 0) (rc := 0) (rs := 0) dX12_manyNow_86 lX12_62 ⟨by decide, by decide⟩ l0 (Nat.le_of_ble_eq_true rfl) (Nat.le_of_ble_eq_true rfl) (s_size l0) ?_
    refine am_is_ct ?_
    exact am_ireturn 89 dX12_manyNow_89 rfl rfl ⟨rfl, rfl, rfl⟩
  · refine am_iload_n 0 dX12_manyNow_0 rfl ?_
    refine am_tableIn 1 (off := 89) (tgt := 90) dX12_manyNow_1 (by decide) (by decide) rfl rfl ?_
    refine am_aload_n 90 dX12_manyNow_90 rfl ?_
    refine am_V0 91 (mc' := 0) (ms' := 0) (rc := 0) (rs := 0) dX12_manyNow_91 lX12_96 ⟨by decide, by decide⟩ v0 (Nat.le_of_ble_eq_true rfl) (Nat.le_of_ble_eq_true rfl) (s_vhum v0 v1 hs) ?_
    refine am_is_ct ?_
    exact am_ireturn 94 dX12_manyNow_94 rfl rfl ⟨rfl, rfl, rfl⟩
  · refine am_iload_n 0 dX12_manyNow_0 rfl ?_
    refine am_tableIn 1 (off := 94) (tgt := 95) dX12_manyNow_1 (by decide) (by decide) rfl rfl ?_
    refine am_aload_n 95 dX12_manyNow_95 rfl ?_
    refine am_getfield 96 dX12_manyNow_96 fX12_212 (by repeat (first | assumption | exact am_ue | refine am_un (by first | assumption | decide | omega) ?_)) rfl ?_
    exact am_ireturn 99 dX12_manyNow_99 rfl rfl ⟨rfl, rfl, rfl⟩
  · refine am_iload_n 0 dX12_manyNow_0 rfl ?_
    refine am_tableOut 1 (tgt := 100) dX12_manyNow_1 (Or.inr (by decide)) rfl ?_
    refine am_iconst 100 (v := 0) dX12_manyNow_100 (by decide) ?_
    refine am_istore_n 101 dX12_manyNow_101 (by decide) ?_
    refine am_iconst 102 (v := 0) dX12_manyNow_102 (by decide) ?_
    refine am_istore 103 dX12_manyNow_103 (by decide) ?_
    show AW mX12_manyNow 0 0 105 [some (.ref m), some (.int (nI 9)), some (.ref v), some (.int (m_I (fun k => if 14 < m_reg sig ((m_pks sig 48).getD k 0) then 1 else 0) 0)), some (.int (nI 0))] [] n f (am_is (some (.int (m_I (fun k => if 14 < m_reg sig ((m_pks sig 48).getD k 0) then 1 else 0) (m_pks sig 48).length))) n f)
    refine am_for (m_pks sig 48).length (fun _ (_ : Unit) => True) (fun k _ => AW mX12_manyNow 0 0 105 [some (.ref m), some (.int (nI 9)), some (.ref v), some (.int (m_I (fun k => if 14 < m_reg sig ((m_pks sig 48).getD k 0) then 1 else 0) k)), some (.int (nI k))] [] n f _) ?_ ?_ 0 () (by omega) trivial
    · rintro ⟨⟩ -
      refine am_iload 105 dX12_manyNow_105 rfl ?_
      refine am_aload_n 107 dX12_manyNow_107 rfl ?_
      refine am_getfield 108 dX12_manyNow_108 fX12_212 (by repeat (first | assumption | exact am_ue | refine am_un (by first | assumption | decide | omega) ?_)) rfl ?_
      refine am_icmp_ge 111 142 dX12_manyNow_111 rfl (fun c111 => ?_) (fun c111 => absurd (Int32.le_refl _) c111)
      refine am_iload_n 142 dX12_manyNow_142 rfl ?_
      exact am_ireturn 143 dX12_manyNow_143 rfl rfl ⟨rfl, rfl, rfl⟩
    · rintro k ⟨⟩ hk - ih
      have ih := ih () trivial
      have e1 : m_I (fun k => if 14 < m_reg sig ((m_pks sig 48).getD k 0) then 1 else 0) (k + 1) = m_I (fun k => if 14 < m_reg sig ((m_pks sig 48).getD k 0) then 1 else 0) k + (if 14 < m_reg sig ((m_pks sig 48).getD k 0) then 1 else 0) := rfl
      obtain ⟨c48, c20⟩ := m_pks48 hk
      have hpk := v4 k hk
      have hk48 : k < 48 := by omega
      generalize (m_pks sig 48).getD k 0 = c at c48 c20 hpk e1
      by_cases q : 14 < m_reg sig c
      · rw [if_pos q] at e1
        rw [e1] at ih
        refine am_iload 105 dX12_manyNow_105 rfl ?_
        refine am_aload_n 107 dX12_manyNow_107 rfl ?_
        refine am_getfield 108 dX12_manyNow_108 fX12_212 (by repeat (first | assumption | exact am_ue | refine am_un (by first | assumption | decide | omega) ?_)) rfl ?_
        refine am_icmp_ge 111 142 dX12_manyNow_111 rfl (fun c111 => absurd c111 (hPk k hk)) (fun c111 => ?_)
        refine am_iload_n 114 dX12_manyNow_114 rfl ?_
        refine am_aload_n 115 dX12_manyNow_115 rfl ?_
        refine am_aload_n 116 dX12_manyNow_116 rfl ?_
        refine am_getfield 117 dX12_manyNow_117 fX12_192 (by repeat (first | assumption | exact am_ue | refine am_un (by first | assumption | decide | omega) ?_)) rfl ?_
        refine am_iload 120 dX12_manyNow_120 rfl ?_
        refine am_iaload 122 dX12_manyNow_122 rfl (by repeat (first | assumption | exact am_ue | refine am_un (by first | assumption | decide | omega) ?_)) (am_ix hk48 (by decide)) ?_
        rw [nI_clamp (n := k) (by omega), hpk]
        refine am_V1 123 (mc' := 0) (ms' := 0) (rc := 0) (rs := 0) dX12_manyNow_123 lX12_195 ⟨by decide, by decide⟩ v0 (Nat.le_of_ble_eq_true rfl) (Nat.le_of_ble_eq_true rfl) (s_visPalm hW0 c48) ?_
        refine am_is_ct ?_
        rw [decide_eq_true q]
        refine am_if_eq 126 133 dX12_manyNow_126 rfl (fun c126 => absurd c126 (by decide)) (fun c126 => ?_)
        refine am_iconst 129 (v := 1) dX12_manyNow_129 (by decide) ?_
        refine am_goto 130 (tgt := 134) dX12_manyNow_130 rfl ?_
        refine am_iadd 134 dX12_manyNow_134 ?_
        refine am_istore_n 135 dX12_manyNow_135 (by decide) ?_
        refine am_iinc 136 (v := nI (k + 1)) dX12_manyNow_136 rfl (nI_1 (k)) (by decide) ?_
        refine am_goto 139 (tgt := 105) dX12_manyNow_139 rfl ?_
        exact ih
      · rw [if_neg q] at e1
        rw [e1] at ih
        refine am_iload 105 dX12_manyNow_105 rfl ?_
        refine am_aload_n 107 dX12_manyNow_107 rfl ?_
        refine am_getfield 108 dX12_manyNow_108 fX12_212 (by repeat (first | assumption | exact am_ue | refine am_un (by first | assumption | decide | omega) ?_)) rfl ?_
        refine am_icmp_ge 111 142 dX12_manyNow_111 rfl (fun c111 => absurd c111 (hPk k hk)) (fun c111 => ?_)
        refine am_iload_n 114 dX12_manyNow_114 rfl ?_
        refine am_aload_n 115 dX12_manyNow_115 rfl ?_
        refine am_aload_n 116 dX12_manyNow_116 rfl ?_
        refine am_getfield 117 dX12_manyNow_117 fX12_192 (by repeat (first | assumption | exact am_ue | refine am_un (by first | assumption | decide | omega) ?_)) rfl ?_
        refine am_iload 120 dX12_manyNow_120 rfl ?_
        refine am_iaload 122 dX12_manyNow_122 rfl (by repeat (first | assumption | exact am_ue | refine am_un (by first | assumption | decide | omega) ?_)) (am_ix hk48 (by decide)) ?_
        rw [nI_clamp (n := k) (by omega), hpk]
        refine am_V1 123 (mc' := 0) (ms' := 0) (rc := 0) (rs := 0) dX12_manyNow_123 lX12_195 ⟨by decide, by decide⟩ v0 (Nat.le_of_ble_eq_true rfl) (Nat.le_of_ble_eq_true rfl) (s_visPalm hW0 c48) ?_
        refine am_is_ct ?_
        rw [decide_eq_false q]
        refine am_if_eq 126 133 dX12_manyNow_126 rfl (fun c126 => ?_) (fun c126 => absurd rfl c126)
        refine am_iconst 133 (v := 0) dX12_manyNow_133 (by decide) ?_
        refine am_iadd 134 dX12_manyNow_134 ?_
        refine am_istore_n 135 dX12_manyNow_135 (by decide) ?_
        refine am_iinc 136 (v := nI (k + 1)) dX12_manyNow_136 rfl (nI_1 (k)) (by decide) ?_
        refine am_goto 139 (tgt := 105) dX12_manyNow_139 rfl ?_
        exact ih
theorem s_XpeakNow {k j : Nat} (hW : r_W f v u sig) (hs : ∀ x, x < 48 → (sig x).toInt.natAbs ≤ 300000) (hk : k < (m_pks sig 48).length) (hj : j ≤ 4) : AM mX12_ofPeakNow 0 0 [.int (nI k), .int (nI j), .ref v] n f (am_is (some (.int (y_peakA sig k j))) n f) := by
  have hW0 := hW
  obtain ⟨pk, v0, v1, v2, v3, v4⟩ := hW
  have hPl := m_pks_len (sig := sig) (k := 48)
  obtain ⟨c48, c20⟩ := m_pks48 hk
  have hpk := v4 k hk
  have hk48 : k < 48 := by omega
  show AW mX12_ofPeakNow 0 0 0 [some (.int (nI k)), some (.int (nI j)), some (.ref v), none] [] n f _
  unfold y_peakA
  generalize (m_pks sig 48).getD k 0 = c at c48 c20 hpk ⊢
  have hcs : j = 0 ∨ j = 1 ∨ j = 2 ∨ j = 3 ∨ j = 4 := by omega
  rcases hcs with rfl | rfl | rfl | rfl | rfl
  · refine am_aload_n 0 dX12_ofPeakNow_0 rfl ?_
    refine am_getfield 1 dX12_ofPeakNow_1 fX12_192 (by repeat (first | assumption | exact am_ue | refine am_un (by first | assumption | decide | omega) ?_)) rfl ?_
    refine am_iload_n 4 dX12_ofPeakNow_4 rfl ?_
    refine am_iaload 5 dX12_ofPeakNow_5 rfl (by repeat (first | assumption | exact am_ue | refine am_un (by first | assumption | decide | omega) ?_)) (am_ix hk48 (by decide)) ?_
    rw [nI_clamp (n := k) (by omega), hpk]
    refine am_istore_n 6 dX12_ofPeakNow_6 (by decide) ?_
    refine am_iload_n 7 dX12_ofPeakNow_7 rfl ?_
    refine am_if_ne 8 15 dX12_ofPeakNow_8 rfl (fun c8 => absurd c8 (by decide)) (fun c8 => ?_)
    refine am_iload_n 11 dX12_ofPeakNow_11 rfl ?_
    refine am_goto 12 (tgt := 65) dX12_ofPeakNow_12 rfl ?_
    exact am_ireturn 65 dX12_ofPeakNow_65 rfl rfl ⟨rfl, rfl, rfl⟩
  · refine am_aload_n 0 dX12_ofPeakNow_0 rfl ?_
    refine am_getfield 1 dX12_ofPeakNow_1 fX12_192 (by repeat (first | assumption | exact am_ue | refine am_un (by first | assumption | decide | omega) ?_)) rfl ?_
    refine am_iload_n 4 dX12_ofPeakNow_4 rfl ?_
    refine am_iaload 5 dX12_ofPeakNow_5 rfl (by repeat (first | assumption | exact am_ue | refine am_un (by first | assumption | decide | omega) ?_)) (am_ix hk48 (by decide)) ?_
    rw [nI_clamp (n := k) (by omega), hpk]
    refine am_istore_n 6 dX12_ofPeakNow_6 (by decide) ?_
    refine am_iload_n 7 dX12_ofPeakNow_7 rfl ?_
    refine am_if_ne 8 15 dX12_ofPeakNow_8 rfl (fun c8 => ?_) (fun c8 => absurd c8 (by decide))
    refine am_iload_n 15 dX12_ofPeakNow_15 rfl ?_
    refine am_iconst 16 (v := 3) dX12_ofPeakNow_16 (by decide) ?_
    refine am_icmp_ge 17 38 dX12_ofPeakNow_17 rfl (fun c17 => absurd c17 (by decide)) (fun c17 => ?_)
    refine am_aload_n 20 dX12_ofPeakNow_20 rfl ?_
    refine am_iload_n 21 dX12_ofPeakNow_21 rfl ?_
    refine am_iload_n 22 dX12_ofPeakNow_22 rfl ?_
    refine am_iconst 23 (v := 2) dX12_ofPeakNow_23 (by decide) ?_
    refine am_icmp_ne 24 31 dX12_ofPeakNow_24 rfl (fun c24 => ?_) (fun c24 => absurd c24 (by decide))
    refine am_iconst 31 (v := 0) dX12_ofPeakNow_31 (by decide) ?_
    refine am_V2 32 (mc' := 0) (ms' := 0) (rc := 0) (rs := 0) dX12_ofPeakNow_32 lX12_202 ⟨by decide, by decide⟩ (by repeat (first | assumption | exact am_ue | refine am_un (by first | assumption | decide | omega) ?_)) (Nat.le_of_ble_eq_true rfl) (Nat.le_of_ble_eq_true rfl) (s_place (y := false) hW0 c48 c20 hs) ?_
    refine am_is_ct ?_
    refine am_goto 35 (tgt := 65) dX12_ofPeakNow_35 rfl ?_
    exact am_ireturn 65 dX12_ofPeakNow_65 rfl rfl ⟨rfl, rfl, rfl⟩
  · refine am_aload_n 0 dX12_ofPeakNow_0 rfl ?_
    refine am_getfield 1 dX12_ofPeakNow_1 fX12_192 (by repeat (first | assumption | exact am_ue | refine am_un (by first | assumption | decide | omega) ?_)) rfl ?_
    refine am_iload_n 4 dX12_ofPeakNow_4 rfl ?_
    refine am_iaload 5 dX12_ofPeakNow_5 rfl (by repeat (first | assumption | exact am_ue | refine am_un (by first | assumption | decide | omega) ?_)) (am_ix hk48 (by decide)) ?_
    rw [nI_clamp (n := k) (by omega), hpk]
    refine am_istore_n 6 dX12_ofPeakNow_6 (by decide) ?_
    refine am_iload_n 7 dX12_ofPeakNow_7 rfl ?_
    refine am_if_ne 8 15 dX12_ofPeakNow_8 rfl (fun c8 => ?_) (fun c8 => absurd c8 (by decide))
    refine am_iload_n 15 dX12_ofPeakNow_15 rfl ?_
    refine am_iconst 16 (v := 3) dX12_ofPeakNow_16 (by decide) ?_
    refine am_icmp_ge 17 38 dX12_ofPeakNow_17 rfl (fun c17 => absurd c17 (by decide)) (fun c17 => ?_)
    refine am_aload_n 20 dX12_ofPeakNow_20 rfl ?_
    refine am_iload_n 21 dX12_ofPeakNow_21 rfl ?_
    refine am_iload_n 22 dX12_ofPeakNow_22 rfl ?_
    refine am_iconst 23 (v := 2) dX12_ofPeakNow_23 (by decide) ?_
    refine am_icmp_ne 24 31 dX12_ofPeakNow_24 rfl (fun c24 => absurd c24 (by decide)) (fun c24 => ?_)
    refine am_iconst 27 (v := 1) dX12_ofPeakNow_27 (by decide) ?_
    refine am_goto 28 (tgt := 32) dX12_ofPeakNow_28 rfl ?_
    refine am_V2 32 (mc' := 0) (ms' := 0) (rc := 0) (rs := 0) dX12_ofPeakNow_32 lX12_202 ⟨by decide, by decide⟩ (by repeat (first | assumption | exact am_ue | refine am_un (by first | assumption | decide | omega) ?_)) (Nat.le_of_ble_eq_true rfl) (Nat.le_of_ble_eq_true rfl) (s_place (y := true) hW0 c48 c20 hs) ?_
    refine am_is_ct ?_
    refine am_goto 35 (tgt := 65) dX12_ofPeakNow_35 rfl ?_
    exact am_ireturn 65 dX12_ofPeakNow_65 rfl rfl ⟨rfl, rfl, rfl⟩
  · refine am_aload_n 0 dX12_ofPeakNow_0 rfl ?_
    refine am_getfield 1 dX12_ofPeakNow_1 fX12_192 (by repeat (first | assumption | exact am_ue | refine am_un (by first | assumption | decide | omega) ?_)) rfl ?_
    refine am_iload_n 4 dX12_ofPeakNow_4 rfl ?_
    refine am_iaload 5 dX12_ofPeakNow_5 rfl (by repeat (first | assumption | exact am_ue | refine am_un (by first | assumption | decide | omega) ?_)) (am_ix hk48 (by decide)) ?_
    rw [nI_clamp (n := k) (by omega), hpk]
    refine am_istore_n 6 dX12_ofPeakNow_6 (by decide) ?_
    refine am_iload_n 7 dX12_ofPeakNow_7 rfl ?_
    refine am_if_ne 8 15 dX12_ofPeakNow_8 rfl (fun c8 => ?_) (fun c8 => absurd c8 (by decide))
    refine am_iload_n 15 dX12_ofPeakNow_15 rfl ?_
    refine am_iconst 16 (v := 3) dX12_ofPeakNow_16 (by decide) ?_
    refine am_icmp_ge 17 38 dX12_ofPeakNow_17 rfl (fun c17 => ?_) (fun c17 => absurd (by decide) c17)
    refine am_iload_n 38 dX12_ofPeakNow_38 rfl ?_
    refine am_iconst 39 (v := 3) dX12_ofPeakNow_39 (by decide) ?_
    refine am_icmp_ne 40 52 dX12_ofPeakNow_40 rfl (fun c40 => absurd c40 (by decide)) (fun c40 => ?_)
    refine am_aload_n 43 dX12_ofPeakNow_43 rfl ?_
    refine am_getfield 44 dX12_ofPeakNow_44 fX12_245 (by repeat (first | assumption | exact am_ue | refine am_un (by first | assumption | decide | omega) ?_)) rfl ?_
    refine am_iload_n 47 dX12_ofPeakNow_47 rfl ?_
    refine am_iaload 48 dX12_ofPeakNow_48 rfl (by repeat (first | assumption | exact am_ue | refine am_un (by first | assumption | decide | omega) ?_)) (am_ix c48 (by decide)) ?_
    rw [nI_clamp (n := c) (by omega)]
    refine am_goto 49 (tgt := 65) dX12_ofPeakNow_49 rfl ?_
    exact am_ireturn 65 dX12_ofPeakNow_65 rfl rfl ⟨rfl, rfl, rfl⟩
  · by_cases q : 14 < m_reg sig c
    · rw [if_pos q]
      refine am_aload_n 0 dX12_ofPeakNow_0 rfl ?_
      refine am_getfield 1 dX12_ofPeakNow_1 fX12_192 (by repeat (first | assumption | exact am_ue | refine am_un (by first | assumption | decide | omega) ?_)) rfl ?_
      refine am_iload_n 4 dX12_ofPeakNow_4 rfl ?_
      refine am_iaload 5 dX12_ofPeakNow_5 rfl (by repeat (first | assumption | exact am_ue | refine am_un (by first | assumption | decide | omega) ?_)) (am_ix hk48 (by decide)) ?_
      rw [nI_clamp (n := k) (by omega), hpk]
      refine am_istore_n 6 dX12_ofPeakNow_6 (by decide) ?_
      refine am_iload_n 7 dX12_ofPeakNow_7 rfl ?_
      refine am_if_ne 8 15 dX12_ofPeakNow_8 rfl (fun c8 => ?_) (fun c8 => absurd c8 (by decide))
      refine am_iload_n 15 dX12_ofPeakNow_15 rfl ?_
      refine am_iconst 16 (v := 3) dX12_ofPeakNow_16 (by decide) ?_
      refine am_icmp_ge 17 38 dX12_ofPeakNow_17 rfl (fun c17 => ?_) (fun c17 => absurd (by decide) c17)
      refine am_iload_n 38 dX12_ofPeakNow_38 rfl ?_
      refine am_iconst 39 (v := 3) dX12_ofPeakNow_39 (by decide) ?_
      refine am_icmp_ne 40 52 dX12_ofPeakNow_40 rfl (fun c40 => ?_) (fun c40 => absurd c40 (by decide))
      refine am_aload_n 52 dX12_ofPeakNow_52 rfl ?_
      refine am_iload_n 53 dX12_ofPeakNow_53 rfl ?_
      refine am_V1 54 (mc' := 0) (ms' := 0) (rc := 0) (rs := 0) dX12_ofPeakNow_54 lX12_195 ⟨by decide, by decide⟩ (by repeat (first | assumption | exact am_ue | refine am_un (by first | assumption | decide | omega) ?_)) (Nat.le_of_ble_eq_true rfl) (Nat.le_of_ble_eq_true rfl) (s_visPalm hW0 c48) ?_
      refine am_is_ct ?_
      rw [decide_eq_true q]
      refine am_if_eq 57 64 dX12_ofPeakNow_57 rfl (fun c57 => absurd c57 (by decide)) (fun c57 => ?_)
      refine am_iconst 60 (v := 1) dX12_ofPeakNow_60 (by decide) ?_
      refine am_goto 61 (tgt := 65) dX12_ofPeakNow_61 rfl ?_
      exact am_ireturn 65 dX12_ofPeakNow_65 rfl rfl ⟨rfl, rfl, rfl⟩
    · rw [if_neg q]
      refine am_aload_n 0 dX12_ofPeakNow_0 rfl ?_
      refine am_getfield 1 dX12_ofPeakNow_1 fX12_192 (by repeat (first | assumption | exact am_ue | refine am_un (by first | assumption | decide | omega) ?_)) rfl ?_
      refine am_iload_n 4 dX12_ofPeakNow_4 rfl ?_
      refine am_iaload 5 dX12_ofPeakNow_5 rfl (by repeat (first | assumption | exact am_ue | refine am_un (by first | assumption | decide | omega) ?_)) (am_ix hk48 (by decide)) ?_
      rw [nI_clamp (n := k) (by omega), hpk]
      refine am_istore_n 6 dX12_ofPeakNow_6 (by decide) ?_
      refine am_iload_n 7 dX12_ofPeakNow_7 rfl ?_
      refine am_if_ne 8 15 dX12_ofPeakNow_8 rfl (fun c8 => ?_) (fun c8 => absurd c8 (by decide))
      refine am_iload_n 15 dX12_ofPeakNow_15 rfl ?_
      refine am_iconst 16 (v := 3) dX12_ofPeakNow_16 (by decide) ?_
      refine am_icmp_ge 17 38 dX12_ofPeakNow_17 rfl (fun c17 => ?_) (fun c17 => absurd (by decide) c17)
      refine am_iload_n 38 dX12_ofPeakNow_38 rfl ?_
      refine am_iconst 39 (v := 3) dX12_ofPeakNow_39 (by decide) ?_
      refine am_icmp_ne 40 52 dX12_ofPeakNow_40 rfl (fun c40 => ?_) (fun c40 => absurd c40 (by decide))
      refine am_aload_n 52 dX12_ofPeakNow_52 rfl ?_
      refine am_iload_n 53 dX12_ofPeakNow_53 rfl ?_
      refine am_V1 54 (mc' := 0) (ms' := 0) (rc := 0) (rs := 0) dX12_ofPeakNow_54 lX12_195 ⟨by decide, by decide⟩ (by repeat (first | assumption | exact am_ue | refine am_un (by first | assumption | decide | omega) ?_)) (Nat.le_of_ble_eq_true rfl) (Nat.le_of_ble_eq_true rfl) (s_visPalm hW0 c48) ?_
      refine am_is_ct ?_
      rw [decide_eq_false q]
      refine am_if_eq 57 64 dX12_ofPeakNow_57 rfl (fun c57 => ?_) (fun c57 => absurd rfl c57)
      refine am_iconst 64 (v := 0) dX12_ofPeakNow_64 (by decide) ?_
      exact am_ireturn 65 dX12_ofPeakNow_65 rfl rfl ⟨rfl, rfl, rfl⟩
theorem s_XcontactNow {c j ap : Nat} {kk : m_K} (h0 : f c = .inr (9, r_kF ap kk)) (hc : c < n) (hj : j ≤ 5) : AM mX12_ofContactNow 1 6 [.ref c, .int (nI j)] n f (fun o n' f' => n' = n + 1 ∧ o = .inl (some (.int (m_conA kk j))) ∧ ∀ x, x < n → f' x = f x) := by
  unfold r_kF at h0
  show AW mX12_ofContactNow 1 6 0 [some (.ref c), some (.int (nI j)), none] [] n f _
  have z0 : (0 : Int32).toNatClampNeg = 0 := rfl
  have z1 : (1 : Int32).toNatClampNeg = 1 := rfl
  have z2 : (2 : Int32).toNatClampNeg = 2 := rfl
  have z3 : (3 : Int32).toNatClampNeg = 3 := rfl
  have z4 : (4 : Int32).toNatClampNeg = 4 := rfl
  have z5 : (5 : Int32).toNatClampNeg = 5 := rfl
  have hcs : j = 0 ∨ j = 1 ∨ j = 2 ∨ j = 3 ∨ j = 4 ∨ j = 5 := by omega
  refine am_bipush 0 (v := 6) dX12_ofContactNow_0 (by decide) ?_
  refine am_newints 2 (t := 0) (N := 6) (rc := 0) (rs := 0) dX12_ofContactNow_2 ac_int rfl (by decide) (by decide) (by decide) ?_
  refine am_dup 4 dX12_ofContactNow_4 rfl ?_
  refine am_iconst 5 (v := 0) dX12_ofContactNow_5 (by decide) ?_
  refine am_aload_n 6 dX12_ofContactNow_6 rfl ?_
  refine am_getfield 7 dX12_ofContactNow_7 fX12_255 (by repeat (first | assumption | exact am_ue | refine am_un (by first | assumption | decide | omega) ?_)) rfl ?_
  refine am_iastore 10 dX12_ofContactNow_10 rfl (by repeat (first | assumption | exact am_ue | refine am_un (by first | assumption | decide | omega) ?_)) (am_ix (c := 0) (by decide) (by decide)) ?_
  refine am_dup 11 dX12_ofContactNow_11 rfl ?_
  refine am_iconst 12 (v := 1) dX12_ofContactNow_12 (by decide) ?_
  refine am_aload_n 13 dX12_ofContactNow_13 rfl ?_
  refine am_getfield 14 dX12_ofContactNow_14 fX12_258 (by repeat (first | assumption | exact am_ue | refine am_un (by first | assumption | decide | omega) ?_)) rfl ?_
  refine am_iastore 17 dX12_ofContactNow_17 rfl (by repeat (first | assumption | exact am_ue | refine am_un (by first | assumption | decide | omega) ?_)) (am_ix (c := 1) (by decide) (by decide)) ?_
  refine am_dup 18 dX12_ofContactNow_18 rfl ?_
  refine am_iconst 19 (v := 2) dX12_ofContactNow_19 (by decide) ?_
  refine am_aload_n 20 dX12_ofContactNow_20 rfl ?_
  refine am_getfield 21 dX12_ofContactNow_21 fX12_129 (by repeat (first | assumption | exact am_ue | refine am_un (by first | assumption | decide | omega) ?_)) rfl ?_
  refine am_iastore 24 dX12_ofContactNow_24 rfl (by repeat (first | assumption | exact am_ue | refine am_un (by first | assumption | decide | omega) ?_)) (am_ix (c := 2) (by decide) (by decide)) ?_
  refine am_dup 25 dX12_ofContactNow_25 rfl ?_
  refine am_iconst 26 (v := 3) dX12_ofContactNow_26 (by decide) ?_
  refine am_aload_n 27 dX12_ofContactNow_27 rfl ?_
  refine am_getfield 28 dX12_ofContactNow_28 fX12_119 (by repeat (first | assumption | exact am_ue | refine am_un (by first | assumption | decide | omega) ?_)) rfl ?_
  refine am_iastore 31 dX12_ofContactNow_31 rfl (by repeat (first | assumption | exact am_ue | refine am_un (by first | assumption | decide | omega) ?_)) (am_ix (c := 3) (by decide) (by decide)) ?_
  refine am_dup 32 dX12_ofContactNow_32 rfl ?_
  refine am_iconst 33 (v := 4) dX12_ofContactNow_33 (by decide) ?_
  refine am_aload_n 34 dX12_ofContactNow_34 rfl ?_
  refine am_getfield 35 dX12_ofContactNow_35 fX12_109 (by repeat (first | assumption | exact am_ue | refine am_un (by first | assumption | decide | omega) ?_)) rfl ?_
  refine am_iastore 38 dX12_ofContactNow_38 rfl (by repeat (first | assumption | exact am_ue | refine am_un (by first | assumption | decide | omega) ?_)) (am_ix (c := 4) (by decide) (by decide)) ?_
  refine am_dup 39 dX12_ofContactNow_39 rfl ?_
  refine am_iconst 40 (v := 5) dX12_ofContactNow_40 (by decide) ?_
  refine am_aload_n 41 dX12_ofContactNow_41 rfl ?_
  refine am_getfield 42 dX12_ofContactNow_42 fX12_99 (by repeat (first | assumption | exact am_ue | refine am_un (by first | assumption | decide | omega) ?_)) rfl ?_
  refine am_iastore 45 dX12_ofContactNow_45 rfl (by repeat (first | assumption | exact am_ue | refine am_un (by first | assumption | decide | omega) ?_)) (am_ix (c := 5) (by decide) (by decide)) ?_
  refine am_astore_n 46 dX12_ofContactNow_46 (by decide) ?_
  refine am_aload_n 47 dX12_ofContactNow_47 rfl ?_
  refine am_iload_n 48 dX12_ofContactNow_48 rfl ?_
  refine am_iaload 49 dX12_ofContactNow_49 rfl (by repeat (first | assumption | exact am_ue | refine am_un (by first | assumption | decide | omega) ?_)) (am_ix (show j < 6 by omega) (by decide)) ?_
  rw [nI_clamp (n := j) (by omega)]
  simp only [z0, z1, z2, z3, z4, z5]
  refine am_ireturn 50 dX12_ofContactNow_50 rfl rfl ?_
  refine ⟨rfl, ?_, fun x hx => by repeat rw [am_up_ne (by omega)]⟩
  rcases hcs with rfl | rfl | rfl | rfl | rfl | rfl <;> rfl
/-- the two ways to keep a number within its bounds -/
theorem y_pick {x r : UInt32} {B : Int} (hx : fB x (-504) 560) (hr : fB r B B) (hB : 0 ≤ B) (nr : r.toNat < 2 ^ 31) (nx : x ≠ 0x80000000) : Native.java_lang_Math.nans.pick32 true FP.fconst0 (Native.java_lang_Math.nans.pick32 false r x) = (if 0 ≤ Op.cmpValue (FP.fcmp x FP.fconst0) .g then (if Op.cmpValue (FP.fcmp x r) .l ≤ 0 then x else r) else FP.fconst0) := by
  have c1 := (f_cmp hx.1 f_0.1 .g).2.2.2
  have c2 := (f_cmp hx.1 hr.1 .l).2.2.1
  rw [f_0.2] at c1
  have r0 : 0 ≤ fz r := Int.le_trans (Int.mul_nonneg hB (Int.le_of_lt f_O0)) hr.2.1
  have er : FP.fcmp r x = some (compare (fz r) (fz x)) := FP.Core.order_zval FP.Core.good_b32 (f_fits r) (f_fits x) (f_ne hr.1) (f_ne hx.1)
  have sg : ∀ y : UInt32, y.toNat < 2 ^ 31 → (y >>> 31 == 1) = false := fun y hy => by
    rw [beq_eq_false_iff_ne]
    intro e
    have e2 := congrArg UInt32.toNat e
    rw [UInt32.toNat_shiftRight] at e2
    have e3 : y.toNat >>> 31 = 0 := by rw [Nat.shiftRight_eq_div_pow]; exact Nat.div_eq_of_lt hy
    rw [show (31 : UInt32).toNat % 32 = 31 from rfl, e3] at e2
    exact absurd e2 (by decide)
  have e1 : Native.java_lang_Math.nans.pick32 false r x = (if Op.cmpValue (FP.fcmp x r) .l ≤ 0 then x else r) := by
    unfold Native.java_lang_Math.nans.pick32
    rw [er]
    rcases Int.lt_trichotomy (fz r) (fz x) with g | g | g
    · rw [show compare (fz r) (fz x) = .lt from by simp [compare, compareOfLessAndEq, g]]
      show r = _
      rw [if_neg fun z => by have := c2.mp z; omega]
    · rw [show compare (fz r) (fz x) = .eq from by rw [g]; simp [compare, compareOfLessAndEq]]
      show (if (r >>> 31 == 1) == false then x else r) = _
      rw [sg r nr, if_pos (c2.mpr (by omega))]
      rfl
    · have h2 : ¬ fz r < fz x := by omega
      have h3 : ¬ fz r = fz x := by omega
      rw [show compare (fz r) (fz x) = .gt from by simp [compare, compareOfLessAndEq, h2, h3]]
      show x = _
      rw [if_pos (c2.mpr (by omega))]
  rw [e1]
  have hy : ∀ y : UInt32, FP.Core.FFin y → (0 ≤ fz y → y.toNat < 2 ^ 31) → Native.java_lang_Math.nans.pick32 true FP.fconst0 y = (if 0 ≤ fz y then y else FP.fconst0) := fun y hy hs => by
    have e : FP.fcmp FP.fconst0 y = some (compare (fz FP.fconst0) (fz y)) := FP.Core.order_zval FP.Core.good_b32 (f_fits FP.fconst0) (f_fits y) (f_ne f_0.1) (f_ne hy)
    rw [f_0.2] at e
    unfold Native.java_lang_Math.nans.pick32
    rw [e]
    rcases Int.lt_trichotomy 0 (fz y) with g | g | g
    · rw [show compare 0 (fz y) = .lt from by simp [compare, compareOfLessAndEq, g]]
      show y = _
      rw [if_pos (by omega)]
    · rw [show compare 0 (fz y) = .eq from by rw [← g]; rfl]
      have ey : y = FP.fconst0 := f_eqbits hy f_0.1 (hs (by omega)) (by decide) (by rw [f_0.2]; exact g.symm)
      rw [ey]
      simp only [ite_self]
    · have h2 : ¬ 0 < fz y := by omega
      have h3 : ¬ 0 = fz y := by omega
      rw [show compare 0 (fz y) = .gt from by simp [compare, compareOfLessAndEq, h2, h3]]
      show FP.fconst0 = _
      rw [if_neg (by omega)]
  by_cases q : Op.cmpValue (FP.fcmp x r) .l ≤ 0
  · rw [if_pos q, hy x hx.1 (f_sign0 hx.1 nx)]
    by_cases q2 : 0 ≤ fz x
    · rw [if_pos q2, if_pos (c1.mpr q2)]
    · rw [if_neg q2, if_neg fun z => q2 (c1.mp z)]
  · rw [if_neg q, hy r hr.1 (fun _ => nr), if_pos r0, if_pos (c1.mpr (by have g : ¬ fz x ≤ fz r := fun z => q (c2.mpr z); omega))]
theorem y_at9_nz {κ : m_K} {a : Nat} {isY : Bool} (k : m_kOk κ) (ha : a ≤ 9) (n0 : κ.2.1 0 ≠ 0x80000000) (n1 : κ.2.1 1 ≠ 0x80000000) : m_at9 κ (nI a) isY ≠ 0x80000000 := by
  cases isY
  · exact f_nz_add k.1.1 (f_mul9 k.2.2.1 ha).1 n0
  · exact f_nz_add k.2.1.1 (f_mul9 k.2.2.2.1 ha).1 n1
theorem s_XguessNow {c a ap : Nat} {kk : m_K} {isY : Bool} (h0 : f c = .inr (9, r_kF ap kk)) (k : m_kOk kk) (ha : a ≤ 9) (n0 : kk.2.1 0 ≠ 0x80000000) (n1 : kk.2.1 1 ≠ 0x80000000) : AM mX12_guessNow 0 0 [.ref c, .int (nI a), .int (m_bi isY)] n f (am_is (some (.double (FP.f2d (m_guess kk (nI a) isY)))) n f) := by
  refine AW.mono ?_ (s_rguessNowV h0 k ha)
  rintro o n' f' ⟨rfl, rfl, rfl⟩
  obtain ⟨b1, -, -⟩ := f_at9 (isY := isY) k ha
  have nz := y_at9_nz (isY := isY) k ha n0 n1
  refine ⟨?_, rfl, rfl⟩
  cases isY
  · exact congrArg (fun t => (.inl (some (.double (FP.f2d t))) : Option Value ⊕ Nat)) (y_pick (B := 56) b1 f_56 (by decide) (by decide) nz)
  · exact congrArg (fun t => (.inl (some (.double (FP.f2d t))) : Option Value ⊕ Nat)) (y_pick (B := 40) b1 f_40 (by decide) (by decide) nz)
end YNow
