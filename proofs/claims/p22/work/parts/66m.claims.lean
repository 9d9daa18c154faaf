/-! ===== the reference: claims, to the letter ===== -/
section RClaims
variable {m n sz T : Nat} {f : Nat → am_C} {κ : Nat → Nat} {th h di li : Int32} {cs : Nat → Option Nat} {G : Nat → m_K} {A : Nat → Nat → Int32} {S : y_H}
theorem y_alo_no {k : Nat} (hn : ¬ y_cl (y_K S k)) : y_alo S k = S := if_neg hn
theorem y_alo_2 {k : Nat} (hn : y_cl (y_K S k)) (h2 : ¬ Op.cmpValue (FP.fcmp ((y_K S k).2.1 4) 1094713344) .l ≤ 0) : y_alo S k = y_one S k 2 := (if_pos hn).trans (if_pos h2)
theorem y_alo_3 {k : Nat} (hn : y_cl (y_K S k)) (h2 : Op.cmpValue (FP.fcmp ((y_K S k).2.1 4) 1094713344) .l ≤ 0) (h3 : 8 ≤ (y_K S k).1 4) : y_alo S k = y_one S k 3 := (if_pos hn).trans ((if_neg fun z => z h2).trans (if_pos h3))
theorem y_alo_0 {k : Nat} (h2 : Op.cmpValue (FP.fcmp ((y_K S k).2.1 4) 1094713344) .l ≤ 0) (h3 : ¬ 8 ≤ (y_K S k).1 4) : y_alo S k = S := by
  by_cases hcl : y_cl (y_K S k)
  · exact (if_pos hcl).trans ((if_neg fun z => z h2).trans (if_neg h3))
  · exact if_neg hcl
set_option maxHeartbeats 4000000 in
theorem s_xclaims (s : r_S m n f κ sz G th h di li cs) (hR : y_R (fun _ => True) sz A S cs G) (hI : y_I sz T S) : AM mX12_claims 0 0 [.ref m] n f (fun o n' f' => o = .inl none ∧ n = n' ∧ ∃ G', r_S m n f' κ sz G' th h di li cs ∧ r_go m n κ κ f f' ∧ y_R (fun _ => True) sz A (y_it y_alo (y_it y_pin S 5) 5) cs G') := by
  have ht := s.2.2.1.1
  have hIp := y_I_pin hI ht
  show AW mX12_claims 0 0 0 [some (.ref m), none, none] [] n f _
  generalize hS2 : y_it y_pin S 5 = S2
  have hI2 : y_I sz T S2 := by rw [← hS2]; exact hIp 5 (Nat.le_refl _)
  have hIa := y_I_alo hI2 ht
  generalize hQ : (fun (o : Option Value ⊕ Nat) (n' : Nat) (f' : Nat → am_C) => o = .inl none ∧ n = n' ∧ ∃ G', r_S m n f' κ sz G' th h di li cs ∧ r_go m n κ κ f f' ∧ y_R (fun _ => True) sz A (y_it y_alo S2 5) cs G') = Q
  have second : ∀ (f1 : Nat → am_C) (z : Option Value) (G : Nat → m_K), r_S m n f1 κ sz G th h di li cs → r_go m n κ κ f f1 → y_R (fun _ => True) sz A S2 cs G → AW mX12_claims 0 0 97 [some (.ref m), some (.int (nI 0)), z] [] n f1 Q := by
    intro f1 z G s2 g2 r2
    refine am_for 5 (fun j (st : (Nat → am_C) × (Nat → m_K)) => r_S m n st.1 κ sz st.2 th h di li cs ∧ r_go m n κ κ f st.1 ∧ y_R (fun _ => True) sz A (y_it y_alo S2 j) cs st.2) (fun j st => AW mX12_claims 0 0 97 [some (.ref m), some (.int (nI j)), z] [] n st.1 Q) ?_ ?_ 0 (f1, G) (by omega) ⟨s2, g2, r2⟩
    · rintro ⟨g, G⟩ ⟨s3, g3, r3⟩
      show AW mX12_claims 0 0 97 [some (.ref m), some (.int (nI 5)), z] [] n g Q
      refine am_iload_n 97 dX12_claims_97 rfl ?_
      refine am_iconst 98 (v := 5) dX12_claims_98 (by decide) ?_
      refine am_icmp_ge 99 163 dX12_claims_99 rfl (fun c99 => ?_) (fun c99 => absurd (by decide) c99)
      refine am_return 163 dX12_claims_163 rfl ?_
      subst hQ
      exact ⟨rfl, rfl, G, s3, g3, r3⟩
    · rintro j ⟨g, G⟩ hj ⟨s3, g3, r3⟩ ih
      have s3 : r_S m n g κ sz G th h di li cs := s3
      have r3 : y_R (fun _ => True) sz A (y_it y_alo S2 j) cs G := r3
      have iI := hIa j (by omega)
      show AW mX12_claims 0 0 97 [some (.ref m), some (.int (nI j)), z] [] n g Q
      have ih : ∀ g' G', r_S m n g' κ sz G' th h di li cs → r_go m n κ κ f g' → y_R (fun _ => True) sz A (y_alo (y_it y_alo S2 j) j) cs G' → AW mX12_claims 0 0 97 [some (.ref m), some (.int (nI (j + 1))), z] [] n g' Q := fun g' G' a b c => ih (g', G') ⟨a, b, c⟩
      generalize y_it y_alo S2 j = S1 at *
      have s4 := s3
      obtain ⟨e0, ⟨e3, ew⟩, -, et⟩ := s3
      unfold r_m12 at e0
      have hmc := r3.mc hj trivial
      refine am_iload_n 97 dX12_claims_97 rfl ?_
      refine am_iconst 98 (v := 5) dX12_claims_98 (by decide) ?_
      refine am_icmp_ge 99 163 dX12_claims_99 rfl (fun c99 => absurd c99 (nI_ge hj (by decide))) (fun c99 => ?_)
      refine am_aload_n 102 dX12_claims_102 rfl ?_
      refine am_iload_n 103 dX12_claims_103 rfl ?_
      refine am_V1 104 (mc' := 0) (ms' := 0) (rc := 0) (rs := 0) dX12_claims_104 lX12_168 ⟨by decide, by decide⟩ (by repeat (first | assumption | exact am_ue | refine am_un (by first | assumption | decide | omega) ?_)) (Nat.le_of_ble_eq_true rfl) (Nat.le_of_ble_eq_true rfl) (s_rmayClaim s4 hj) ?_
      rintro o n' f' ⟨rfl, rfl, v, rfl, hv⟩
      refine am_ctI ?_
      show AW mX12_claims 0 0 107 [some (.ref m), some (.int (nI j)), z] [.int v] n g Q
      rcases hv with ⟨q, hv⟩ | ⟨q, hv⟩
      · have ih2 := ih g G s4 g3 (by rw [y_alo_no fun w => hv (hmc.mpr w)]; exact r3)
        refine am_if_ne 107 113 dX12_claims_107 rfl (fun c107 => absurd c107 (fun w => w q)) (fun c107 => ?_)
        refine am_goto 110 (tgt := 157) dX12_claims_110 rfl ?_
        refine am_iinc 157 (v := nI (j + 1)) dX12_claims_157 rfl (nI_1 (j)) (by decide) ?_
        refine am_goto 160 (tgt := 97) dX12_claims_160 rfl ?_
        exact ih2
      · have hcl := hmc.mp hv
        obtain ⟨c1, hc, -, -⟩ := hv
        obtain ⟨-, he, -⟩ := r3.at hj hc
        have q4 := he.2 4 (by decide)
        have f4 := he.1 4 (by decide) (by decide)
        obtain ⟨ap, cl, kk, b0, b1, b2, b3, b4, b5, rfl, b7⟩ := (et c1).2.1 (ew j hj c1 hc)
        unfold r_kF at b0
        have k2 := s_rclaim (cl := 2) s4 hj hc (by decide)
        have k3 := s_rclaim (cl := 3) s4 hj hc (by decide)
        refine am_if_ne 107 113 dX12_claims_107 rfl (fun c107 => ?_) (fun c107 => absurd c107 q)
        refine am_aload_n 113 dX12_claims_113 rfl ?_
        refine am_getfield 114 dX12_claims_114 fX12_29 (by repeat (first | assumption | exact am_ue | refine am_un (by first | assumption | decide | omega) ?_)) rfl ?_
        refine am_iload_n 117 dX12_claims_117 rfl ?_
        refine am_aaload 118 dX12_claims_118 rfl (by repeat (first | assumption | exact am_ue | refine am_un (by first | assumption | decide | omega) ?_)) (am_ix hj (by decide)) ?_
        rw [nI_clamp (n := j) (by omega), hc, show va_rf (some c1) = Value.ref c1 from rfl]
        refine am_getfield 119 dX12_claims_119 fX12_180 (by repeat (first | assumption | exact am_ue | refine am_un (by first | assumption | decide | omega) ?_)) rfl ?_
        refine am_ldcf 122 dX12_claims_122 kX12_183 ?_
        refine am_fcmp 124 dX12_claims_124 ?_
        refine am_if_le 125 137 dX12_claims_125 rfl (fun c125 => ?_) (fun c125 => ?_)
        · refine am_aload_n 137 dX12_claims_137 rfl ?_
          refine am_getfield 138 dX12_claims_138 fX12_29 (by repeat (first | assumption | exact am_ue | refine am_un (by first | assumption | decide | omega) ?_)) rfl ?_
          refine am_iload_n 141 dX12_claims_141 rfl ?_
          refine am_aaload 142 dX12_claims_142 rfl (by repeat (first | assumption | exact am_ue | refine am_un (by first | assumption | decide | omega) ?_)) (am_ix hj (by decide)) ?_
          rw [nI_clamp (n := j) (by omega), hc, show va_rf (some c1) = Value.ref c1 from rfl]
          refine am_getfield 143 dX12_claims_143 fX12_129 (by repeat (first | assumption | exact am_ue | refine am_un (by first | assumption | decide | omega) ?_)) rfl ?_
          refine am_bipush 146 (v := 8) dX12_claims_146 (by decide) ?_
          refine am_icmp_lt 148 157 dX12_claims_148 rfl (fun c148 => ?_) (fun c148 => ?_)
          · refine am_iinc 157 (v := nI (j + 1)) dX12_claims_157 rfl (nI_1 (j)) (by decide) ?_
            refine am_goto 160 (tgt := 97) dX12_claims_160 rfl ?_
            first | exact ih _ _ s5 (g3.trans g5 (Nat.le_refl _)) (by rw [y_alo_2 hcl (by rw [← q4]; exact c125)]; exact r3.one iI ht hj hc (by decide)) | exact ih _ _ s5 (g3.trans g5 (Nat.le_refl _)) (by rw [y_alo_3 hcl (by rw [← q4]; exact c125) (by rw [← f4]; exact Int32.not_lt.mp c148)]; exact r3.one iI ht hj hc (by decide)) | exact ih _ _ s4 g3 (by rw [y_alo_0 (by rw [← q4]; exact c125) (by rw [← f4]; exact Int32.not_le.mpr c148)]; exact r3)
          · refine am_aload_n 151 dX12_claims_151 rfl ?_
            refine am_iload_n 152 dX12_claims_152 rfl ?_
            refine am_iconst 153 (v := 3) dX12_claims_153 (by decide) ?_
            refine am_V2 154 (mc' := 0) (ms' := 0) (rc := 0) (rs := 0) dX12_claims_154 lX12_176 ⟨by decide, by decide⟩ (by repeat (first | assumption | exact am_ue | refine am_un (by first | assumption | decide | omega) ?_)) (Nat.le_of_ble_eq_true rfl) (Nat.le_of_ble_eq_true rfl) (k3) ?_
            rintro o n' f2 ⟨rfl, rfl, s5, g5⟩
            refine am_ctI ?_
            refine am_iinc 157 (v := nI (j + 1)) dX12_claims_157 rfl (nI_1 (j)) (by decide) ?_
            refine am_goto 160 (tgt := 97) dX12_claims_160 rfl ?_
            first | exact ih _ _ s5 (g3.trans g5 (Nat.le_refl _)) (by rw [y_alo_2 hcl (by rw [← q4]; exact c125)]; exact r3.one iI ht hj hc (by decide)) | exact ih _ _ s5 (g3.trans g5 (Nat.le_refl _)) (by rw [y_alo_3 hcl (by rw [← q4]; exact c125) (by rw [← f4]; exact Int32.not_lt.mp c148)]; exact r3.one iI ht hj hc (by decide)) | exact ih _ _ s4 g3 (by rw [y_alo_0 (by rw [← q4]; exact c125) (by rw [← f4]; exact Int32.not_le.mpr c148)]; exact r3)
        · refine am_aload_n 128 dX12_claims_128 rfl ?_
          refine am_iload_n 129 dX12_claims_129 rfl ?_
          refine am_iconst 130 (v := 2) dX12_claims_130 (by decide) ?_
          refine am_V2 131 (mc' := 0) (ms' := 0) (rc := 0) (rs := 0) dX12_claims_131 lX12_176 ⟨by decide, by decide⟩ (by repeat (first | assumption | exact am_ue | refine am_un (by first | assumption | decide | omega) ?_)) (Nat.le_of_ble_eq_true rfl) (Nat.le_of_ble_eq_true rfl) (k2) ?_
          rintro o n' f2 ⟨rfl, rfl, s5, g5⟩
          refine am_ctI ?_
          refine am_goto 134 (tgt := 157) dX12_claims_134 rfl ?_
          refine am_iinc 157 (v := nI (j + 1)) dX12_claims_157 rfl (nI_1 (j)) (by decide) ?_
          refine am_goto 160 (tgt := 97) dX12_claims_160 rfl ?_
          first | exact ih _ _ s5 (g3.trans g5 (Nat.le_refl _)) (by rw [y_alo_2 hcl (by rw [← q4]; exact c125)]; exact r3.one iI ht hj hc (by decide)) | exact ih _ _ s5 (g3.trans g5 (Nat.le_refl _)) (by rw [y_alo_3 hcl (by rw [← q4]; exact c125) (by rw [← f4]; exact Int32.not_lt.mp c148)]; exact r3.one iI ht hj hc (by decide)) | exact ih _ _ s4 g3 (by rw [y_alo_0 (by rw [← q4]; exact c125) (by rw [← f4]; exact Int32.not_le.mpr c148)]; exact r3)
  refine am_iconst 0 (v := 0) dX12_claims_0 (by decide) ?_
  refine am_istore_n 1 dX12_claims_1 (by decide) ?_
  refine am_for 5 (fun i (st : (Nat → am_C) × Option Value × (Nat → m_K)) => r_S m n st.1 κ sz st.2.2 th h di li cs ∧ r_go m n κ κ f st.1 ∧ y_R (fun _ => True) sz A (y_it y_pin S i) cs st.2.2) (fun i st => AW mX12_claims 0 0 2 [some (.ref m), some (.int (nI i)), st.2.1] [] n st.1 Q) ?_ ?_ 0 (f, none, G) (by omega) ⟨s, r_go.refl, hR⟩
  · rintro ⟨g, z, G⟩ ⟨s3, g3, r3⟩
    show AW mX12_claims 0 0 2 [some (.ref m), some (.int (nI 5)), z] [] n g Q
    have r3 : y_R (fun _ => True) sz A (y_it y_pin S 5) cs G := r3
    rw [hS2] at r3
    refine am_iload_n 2 dX12_claims_2 rfl ?_
    refine am_iconst 3 (v := 5) dX12_claims_3 (by decide) ?_
    refine am_icmp_ge 4 95 dX12_claims_4 rfl (fun c4 => ?_) (fun c4 => absurd (by decide) c4)
    refine am_iconst 95 (v := 0) dX12_claims_95 (by decide) ?_
    refine am_istore_n 96 dX12_claims_96 (by decide) ?_
    exact second _ _ _ s3 g3 r3
  · rintro i ⟨g, z, G⟩ hi ⟨s3, g3, r3⟩ ihi
    show AW mX12_claims 0 0 2 [some (.ref m), some (.int (nI i)), z] [] n g Q
    have r3 : y_R (fun _ => True) sz A (y_it y_pin S i) cs G := r3
    have iIi := hIp i (by omega)
    have ihi : ∀ g' z' G', r_S m n g' κ sz G' th h di li cs → r_go m n κ κ f g' → y_R (fun _ => True) sz A (y_it (y_pin2 i) (y_it y_pin S i) 5) cs G' → AW mX12_claims 0 0 2 [some (.ref m), some (.int (nI (i + 1))), z'] [] n g' Q := fun g' z' G' a b c => ihi (g', z', G') ⟨a, b, c⟩
    generalize y_it y_pin S i = S0 at *
    have hI0 := y_I_pin2 iIi ht hi
    refine am_iload_n 2 dX12_claims_2 rfl ?_
    refine am_iconst 3 (v := 5) dX12_claims_3 (by decide) ?_
    refine am_icmp_ge 4 95 dX12_claims_4 rfl (fun c4 => absurd c4 (nI_ge hi (by decide))) (fun c4 => ?_)
    refine am_iload_n 7 dX12_claims_7 rfl ?_
    refine am_iconst 8 (v := 1) dX12_claims_8 (by decide) ?_
    refine am_iadd 9 dX12_claims_9 ?_
    rw [show nI i + 1 = nI (i + 1) from nI_1 i]
    refine am_istore_n 10 dX12_claims_10 (by decide) ?_
    refine am_for 5 (fun j (st : (Nat → am_C) × (Nat → m_K)) => i < j ∧ r_S m n st.1 κ sz st.2 th h di li cs ∧ r_go m n κ κ f st.1 ∧ y_R (fun _ => True) sz A (y_it (y_pin2 i) S0 j) cs st.2) (fun j st => AW mX12_claims 0 0 11 [some (.ref m), some (.int (nI i)), some (.int (nI j))] [] n st.1 Q) ?_ ?_ (i + 1) (g, G) (by omega) ⟨by omega, s3, g3, by rw [y_pin2_low _ (Nat.le_refl _)]; exact r3⟩
    · rintro ⟨g, G⟩ ⟨-, s3, g3, r3⟩
      show AW mX12_claims 0 0 11 [some (.ref m), some (.int (nI i)), some (.int (nI 5))] [] n g Q
      refine am_iload_n 11 dX12_claims_11 rfl ?_
      refine am_iconst 12 (v := 5) dX12_claims_12 (by decide) ?_
      refine am_icmp_ge 13 89 dX12_claims_13 rfl (fun c13 => ?_) (fun c13 => absurd (by decide) c13)
      refine am_iinc 89 (v := nI (i + 1)) dX12_claims_89 rfl (nI_1 (i)) (by decide) ?_
      refine am_goto 92 (tgt := 2) dX12_claims_92 rfl ?_
      exact ihi _ _ _ s3 g3 r3
    · rintro j ⟨g, G⟩ hj ⟨hij, s3, g3, r3⟩ ih
      have s3 : r_S m n g κ sz G th h di li cs := s3
      have r3 : y_R (fun _ => True) sz A (y_it (y_pin2 i) S0 j) cs G := r3
      have g3 : r_go m n κ κ f g := g3
      have iI := hI0 j (by omega)
      show AW mX12_claims 0 0 11 [some (.ref m), some (.int (nI i)), some (.int (nI j))] [] n g Q
      have next : ∀ (f1 : Nat → am_C) (G' : Nat → m_K), r_S m n f1 κ sz G' th h di li cs → r_go m n κ κ f f1 → y_R (fun _ => True) sz A (y_pin2 i (y_it (y_pin2 i) S0 j) j) cs G' → AW mX12_claims 0 0 83 [some (.ref m), some (.int (nI i)), some (.int (nI j))] [] n f1 Q := by
        intro f1 G' s5 g5 r5
        refine am_iinc 83 (v := nI (j + 1)) dX12_claims_83 rfl (nI_1 (j)) (by decide) ?_
        refine am_goto 86 (tgt := 11) dX12_claims_86 rfl ?_
        exact ih (_, _) ⟨by omega, s5, g5, r5⟩
      clear ih ihi second
      generalize y_it (y_pin2 i) S0 j = S1 at *
      have skip := fun (e : ¬ (i < j ∧ y_cl (y_K S1 i) ∧ y_cl (y_K S1 j) ∧ y_pc (y_K S1) i j)) => next g G s3 g3 (by rw [y_pin2_no e]; exact r3)
      have s4 := s3
      obtain ⟨e0, ⟨e3, ew⟩, -, et⟩ := s3
      unfold r_m12 at e0
      have mci := r3.mc hi trivial
      have mcj := r3.mc hj trivial
      refine am_iload_n 11 dX12_claims_11 rfl ?_
      refine am_iconst 12 (v := 5) dX12_claims_12 (by decide) ?_
      refine am_icmp_ge 13 89 dX12_claims_13 rfl (fun c13 => absurd c13 (nI_ge hj (by decide))) (fun c13 => ?_)
      refine am_aload_n 16 dX12_claims_16 rfl ?_
      refine am_iload_n 17 dX12_claims_17 rfl ?_
      refine am_V1 18 (mc' := 0) (ms' := 0) (rc := 0) (rs := 0) dX12_claims_18 lX12_168 ⟨by decide, by decide⟩ (by repeat (first | assumption | exact am_ue | refine am_un (by first | assumption | decide | omega) ?_)) (Nat.le_of_ble_eq_true rfl) (Nat.le_of_ble_eq_true rfl) (s_rmayClaim s4 hi) ?_
      rintro o n' f' ⟨rfl, rfl, v, rfl, hv⟩
      refine am_ctI ?_
      show AW mX12_claims 0 0 21 [some (.ref m), some (.int (nI i)), some (.int (nI j))] [.int v] n g Q
      rcases hv with ⟨q, hv⟩ | ⟨q, hv⟩
      · refine am_if_eq 21 83 dX12_claims_21 rfl (fun c21 => ?_) (fun c21 => absurd q c21)
        exact skip fun w => hv (mci.mpr w.2.1)
      · refine am_if_eq 21 83 dX12_claims_21 rfl (fun c21 => absurd c21 q) (fun c21 => ?_)
        refine am_aload_n 24 dX12_claims_24 rfl ?_
        refine am_iload_n 25 dX12_claims_25 rfl ?_
        refine am_V1 26 (mc' := 0) (ms' := 0) (rc := 0) (rs := 0) dX12_claims_26 lX12_168 ⟨by decide, by decide⟩ (by repeat (first | assumption | exact am_ue | refine am_un (by first | assumption | decide | omega) ?_)) (Nat.le_of_ble_eq_true rfl) (Nat.le_of_ble_eq_true rfl) (s_rmayClaim s4 hj) ?_
        rintro o n' f' ⟨rfl, rfl, v2, rfl, hv2⟩
        refine am_ctI ?_
        show AW mX12_claims 0 0 29 [some (.ref m), some (.int (nI i)), some (.int (nI j))] [.int v2] n g Q
        rcases hv2 with ⟨q2, hv2⟩ | ⟨q2, hv2⟩
        · refine am_if_eq 29 83 dX12_claims_29 rfl (fun c29 => ?_) (fun c29 => absurd q2 c29)
          exact skip fun w => hv2 (mcj.mpr w.2.2.1)
        · have cli := mci.mp hv
          have clj := mcj.mp hv2
          obtain ⟨c1, hc, -, -⟩ := hv
          obtain ⟨c2, hc2, -, -⟩ := hv2
          have hpc := r3.pc iI hi hj (by omega) hc hc2
          obtain ⟨ap, cl, kk, b0, b1, b2, b3, b4, b5, rfl, rfl⟩ := (et c1).2.1 (ew i hi c1 hc)
          obtain ⟨ap2, cl2, kk2, a0, a1, a2, a3, a4, a5, rfl, rfl⟩ := (et c2).2.1 (ew j hj c2 hc2)
          obtain ⟨d, b6, b7, rfl⟩ := (et (c1 + 1)).2.2.1 b1
          obtain ⟨r1, r2, r4⟩ := r_dist_ok b2.1 b2.2.1 a2.1 a2.2.1
          have hd : fB (FP.fsub (r_dist ((G c1).2.1 0) ((G c1).2.1 1) ((G c2).2.1 0) ((G c2).2.1 1)) ((G (c1 + 1)).2.2 j)) (0 - 112) (112 - 0) := fB_sub r4 (b7 j hj) (by decide) (by decide) (by decide)
          have hto := s_rto (n := n) b0 a0 b2 a2
          unfold r_kF at b0
          have k1 := s_rclaim (cl := 1) s4 hi hc (by decide)
          have R1 := r3.one (kd := 1) iI ht hi hc (by decide)
          have I1 := y_I_one iI ht hi cli (by decide) (by decide) (kd := 1)
          have e2 : y_K (y_one S1 i 1) j = y_K S1 j := am_up_ne (by omega)
          generalize y_cG (va_up G c1 (m_claim (G c1) 1)) ((G c1).1 7) 1 1 = G5 at k1 R1
          have R2 := R1.one (kd := 1) I1 ht hj hc2 (by decide)
          refine am_if_eq 29 83 dX12_claims_29 rfl (fun c29 => absurd c29 q2) (fun c29 => ?_)
          refine am_aload_n 32 dX12_claims_32 rfl ?_
          refine am_getfield 33 dX12_claims_33 fX12_29 (by repeat (first | assumption | exact am_ue | refine am_un (by first | assumption | decide | omega) ?_)) rfl ?_
          refine am_iload_n 36 dX12_claims_36 rfl ?_
          refine am_aaload 37 dX12_claims_37 rfl (by repeat (first | assumption | exact am_ue | refine am_un (by first | assumption | decide | omega) ?_)) (am_ix hi (by decide)) ?_
          rw [nI_clamp (n := i) (by omega), hc, show va_rf (some c1) = Value.ref c1 from rfl]
          refine am_aload_n 38 dX12_claims_38 rfl ?_
          refine am_getfield 39 dX12_claims_39 fX12_29 (by repeat (first | assumption | exact am_ue | refine am_un (by first | assumption | decide | omega) ?_)) rfl ?_
          refine am_iload_n 42 dX12_claims_42 rfl ?_
          refine am_aaload 43 dX12_claims_43 rfl (by repeat (first | assumption | exact am_ue | refine am_un (by first | assumption | decide | omega) ?_)) (am_ix hj (by decide)) ?_
          rw [nI_clamp (n := j) (by omega), hc2, show va_rf (some c2) = Value.ref c2 from rfl]
          refine am_V1 44 (mc' := 0) (ms' := 0) (rc := 0) (rs := 0) dX12_claims_44 lX12_160 ⟨by decide, by decide⟩ b0 (Nat.le_of_ble_eq_true rfl) (Nat.le_of_ble_eq_true rfl) (hto) ?_
          refine am_is_ct ?_
          refine am_aload_n 47 dX12_claims_47 rfl ?_
          refine am_getfield 48 dX12_claims_48 fX12_29 (by repeat (first | assumption | exact am_ue | refine am_un (by first | assumption | decide | omega) ?_)) rfl ?_
          refine am_iload_n 51 dX12_claims_51 rfl ?_
          refine am_aaload 52 dX12_claims_52 rfl (by repeat (first | assumption | exact am_ue | refine am_un (by first | assumption | decide | omega) ?_)) (am_ix hi (by decide)) ?_
          rw [nI_clamp (n := i) (by omega), hc, show va_rf (some c1) = Value.ref c1 from rfl]
          refine am_getfield 53 dX12_claims_53 fX12_156 b0 rfl ?_
          refine am_iload_n 56 dX12_claims_56 rfl ?_
          refine am_faload 57 dX12_claims_57 rfl b6 (am_ix hj (by decide)) ?_
          rw [nI_clamp (n := j) (by omega)]
          refine am_fsub 58 dX12_claims_58 (f_n32 hd.1) ?_
          refine am_fabs 59 dX12_claims_59 jX12_172 (n_abs_ok hd.1) (by decide) (Nat.le_of_ble_eq_true rfl) ?_
          refine am_ldcf 62 dX12_claims_62 kX12_175 ?_
          refine am_fcmp 64 dX12_claims_64 ?_
          refine am_if_gt 65 71 dX12_claims_65 rfl (fun c65 => ?_) (fun c65 => ?_)
          · refine am_aload_n 71 dX12_claims_71 rfl ?_
            refine am_iload_n 72 dX12_claims_72 rfl ?_
            refine am_iconst 73 (v := 1) dX12_claims_73 (by decide) ?_
            refine am_V2 74 (mc' := 0) (ms' := 0) (rc := 0) (rs := 0) dX12_claims_74 lX12_176 ⟨by decide, by decide⟩ e0 (Nat.le_of_ble_eq_true rfl) (Nat.le_of_ble_eq_true rfl) (k1) ?_
            rintro o n' f2 ⟨rfl, rfl, s5, g5⟩
            refine am_ctI ?_
            obtain ⟨z0, -, -, -⟩ := id s5
            unfold r_m12 at z0
            refine am_aload_n 77 dX12_claims_77 rfl ?_
            refine am_iload_n 78 dX12_claims_78 rfl ?_
            refine am_iconst 79 (v := 1) dX12_claims_79 (by decide) ?_
            refine am_V2 80 (mc' := 0) (ms' := 0) (rc := 0) (rs := 0) dX12_claims_80 lX12_176 ⟨by decide, by decide⟩ z0 (Nat.le_of_ble_eq_true rfl) (Nat.le_of_ble_eq_true rfl) (s_rclaim (cl := 1) s5 hj hc2 (by decide)) ?_
            rintro o n' f3 ⟨rfl, rfl, s7, g7⟩
            refine am_ctI ?_
            first | exact next _ _ s7 ((g3.trans g5 (Nat.le_refl _)).trans g7 (Nat.le_refl _)) (by rw [y_pin2_yes ⟨hij, cli, clj, hpc.mp (Int32.not_le.mpr c65)⟩]; exact R2) | exact skip fun w => hpc.mpr w.2.2.2 (Int32.not_lt.mp c65)
          · refine am_goto 68 (tgt := 83) dX12_claims_68 rfl ?_
            first | exact next _ _ s7 ((g3.trans g5 (Nat.le_refl _)).trans g7 (Nat.le_refl _)) (by rw [y_pin2_yes ⟨hij, cli, clj, hpc.mp (Int32.not_le.mpr c65)⟩]; exact R2) | exact skip fun w => hpc.mpr w.2.2.2 (Int32.not_lt.mp c65)
end RClaims
