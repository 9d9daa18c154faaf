/-! ===== the reference in any state: claims ===== -/
section RClaims
variable {G : Nat → m_K}
variable {m n sz : Nat} {f : Nat → am_C} {κ : Nat → Nat} {th h di li : Int32} {cs : Nat → Option Nat}
set_option maxHeartbeats 2000000 in
theorem s_rclaims (s : r_S m n f κ sz G th h di li cs) : AM mX12_claims 0 0 [.ref m] n f (fun o n' f' => o = .inl none ∧ n = n' ∧ r_S m n f' κ sz G th h di li cs ∧ r_go m n κ κ f f') := by
  show AW mX12_claims 0 0 0 [some (.ref m), none, none] [] n f _
  generalize hQ : (fun (o : Option Value ⊕ Nat) (n' : Nat) (f' : Nat → am_C) => o = .inl none ∧ n = n' ∧ r_S m n f' κ sz G th h di li cs ∧ r_go m n κ κ f f') = Q
  have second : ∀ (f1 : Nat → am_C) (z : Option Value), r_S m n f1 κ sz G th h di li cs → r_go m n κ κ f f1 → AW mX12_claims 0 0 97 [some (.ref m), some (.int (nI 0)), z] [] n f1 Q := by
    intro f1 z s2 g2
    refine am_for 5 (fun _ (g : Nat → am_C) => r_S m n g κ sz G th h di li cs ∧ r_go m n κ κ f g) (fun j g => AW mX12_claims 0 0 97 [some (.ref m), some (.int (nI j)), z] [] n g Q) ?_ ?_ 0 f1 (by omega) ⟨s2, g2⟩
    · rintro g ⟨s3, g3⟩
      refine am_iload_n 97 dX12_claims_97 rfl ?_
      refine am_iconst 98 (v := 5) dX12_claims_98 (by decide) ?_
      refine am_icmp_ge 99 163 dX12_claims_99 rfl (fun c99 => ?_) (fun c99 => absurd (by decide) c99)
      refine am_return 163 dX12_claims_163 rfl ?_
      subst hQ
      exact ⟨rfl, rfl, s3, g3⟩
    · rintro j g hj ⟨s3, g3⟩ ih
      have s4 := s3
      obtain ⟨⟨ta, to, be, lf, ca, e0⟩, ⟨e3, ew⟩, -, et⟩ := s3
      unfold r_m12 at e0
      have hcl : ∀ (c1 cl : Nat), cs j = some c1 → cl ≤ 3 → AM mX12_claim 0 0 [.ref m, .int (nI j), .int (nI cl)] n g (fun o n' f' => o = .inl none ∧ n = n' ∧ r_S m n f' κ sz G th h di li cs ∧ r_go m n κ κ g f') := fun c1 cl hc h3 => s_rclaim s4 hj hc h3
      refine am_iload_n 97 dX12_claims_97 rfl ?_
      refine am_iconst 98 (v := 5) dX12_claims_98 (by decide) ?_
      refine am_icmp_ge 99 163 dX12_claims_99 rfl (fun c99 => absurd c99 (nI_ge hj (by decide))) (fun c99 => ?_)
      refine am_aload_n 102 dX12_claims_102 rfl ?_
      refine am_iload_n 103 dX12_claims_103 rfl ?_
      refine am_V1 104 (mc' := 0) (ms' := 0) (rc := 0) (rs := 0) dX12_claims_104 lX12_168 ⟨by decide, by decide⟩ (by repeat (first | assumption | exact am_ue | refine am_un (by first | assumption | decide | omega) ?_)) (Nat.le_of_ble_eq_true rfl) (Nat.le_of_ble_eq_true rfl) (s_rmayClaim s4 hj) ?_
      rintro o n' f' ⟨rfl, rfl, v, rfl, hv⟩
      refine am_ctI ?_
      show AW mX12_claims 0 0 107 [some (.ref m), some (.int (nI j)), z] [.int v] n g Q
      by_cases q : v = 0
      · refine am_if_ne 107 113 dX12_claims_107 rfl (fun c107 => absurd c107 (fun w => w q)) (fun c107 => ?_)
        refine am_goto 110 (tgt := 157) dX12_claims_110 rfl ?_
        refine am_iinc 157 (v := nI (j + 1)) dX12_claims_157 rfl (nI_1 (j)) (by decide) ?_
        refine am_goto 160 (tgt := 97) dX12_claims_160 rfl ?_
        exact ih _ ⟨s4, g3⟩
      · obtain ⟨c1, hc⟩ := hv.resolve_left q
        obtain ⟨ap, cl, kk, b0, b1, b2, b3, b4, b5⟩ := (et c1).2.1 (ew j hj c1 hc)
        unfold r_kF at b0
        refine am_if_ne 107 113 dX12_claims_107 rfl (fun c107 => ?_) (fun c107 => absurd c107 q)
        refine am_aload_n 113 dX12_claims_113 rfl ?_
        refine am_getfield 114 dX12_claims_114 fX12_29 (by repeat (first | assumption | exact am_ue | refine am_un (by first | assumption | decide | omega) ?_)) rfl ?_
        refine am_iload_n 117 dX12_claims_117 rfl ?_
        refine am_aaload 118 dX12_claims_118 rfl (by repeat (first | assumption | exact am_ue | refine am_un (by first | assumption | decide | omega) ?_)) (am_ix hj (by decide)) ?_
        rw [nI_clamp (n := j) (by omega), hc, show va_rf (some c1) = Value.ref c1 from rfl]
        refine am_getfield 119 dX12_claims_119 fX12_180 (by repeat (first | assumption | exact am_ue | refine am_un (by first | assumption | decide | omega) ?_)) rfl ?_
        refine am_ldcf 122 dX12_claims_122 kX12_183 ?_
        refine am_fcmp 124 dX12_claims_124 ?_
        refine am_if_le 125 137 dX12_claims_125 rfl (fun c125 => ?_) (fun c125 => ?_)
        · refine am_aload_n 137 dX12_claims_137 rfl ?_
          refine am_getfield 138 dX12_claims_138 fX12_29 (by repeat (first | assumption | exact am_ue | refine am_un (by first | assumption | decide | omega) ?_)) rfl ?_
          refine am_iload_n 141 dX12_claims_141 rfl ?_
          refine am_aaload 142 dX12_claims_142 rfl (by repeat (first | assumption | exact am_ue | refine am_un (by first | assumption | decide | omega) ?_)) (am_ix hj (by decide)) ?_
          rw [nI_clamp (n := j) (by omega), hc, show va_rf (some c1) = Value.ref c1 from rfl]
          refine am_getfield 143 dX12_claims_143 fX12_129 (by repeat (first | assumption | exact am_ue | refine am_un (by first | assumption | decide | omega) ?_)) rfl ?_
          refine am_bipush 146 (v := 8) dX12_claims_146 (by decide) ?_
          refine am_icmp_lt 148 157 dX12_claims_148 rfl (fun c148 => ?_) (fun c148 => ?_)
          · refine am_iinc 157 (v := nI (j + 1)) dX12_claims_157 rfl (nI_1 (j)) (by decide) ?_
            refine am_goto 160 (tgt := 97) dX12_claims_160 rfl ?_
            first | exact ih _ ⟨s5, g3.trans g5 (Nat.le_refl _)⟩ | exact ih _ ⟨s4, g3⟩
          · refine am_aload_n 151 dX12_claims_151 rfl ?_
            refine am_iload_n 152 dX12_claims_152 rfl ?_
            refine am_iconst 153 (v := 3) dX12_claims_153 (by decide) ?_
            refine am_V2 154 (mc' := 0) (ms' := 0) (rc := 0) (rs := 0) dX12_claims_154 lX12_176 ⟨by decide, by decide⟩ (by repeat (first | assumption | exact am_ue | refine am_un (by first | assumption | decide | omega) ?_)) (Nat.le_of_ble_eq_true rfl) (Nat.le_of_ble_eq_true rfl) (hcl c1 3 hc (by decide)) ?_
            rintro o n' f2 ⟨rfl, rfl, s5, g5⟩
            refine am_ctI ?_
            refine am_iinc 157 (v := nI (j + 1)) dX12_claims_157 rfl (nI_1 (j)) (by decide) ?_
            refine am_goto 160 (tgt := 97) dX12_claims_160 rfl ?_
            first | exact ih _ ⟨s5, g3.trans g5 (Nat.le_refl _)⟩ | exact ih _ ⟨s4, g3⟩
        · refine am_aload_n 128 dX12_claims_128 rfl ?_
          refine am_iload_n 129 dX12_claims_129 rfl ?_
          refine am_iconst 130 (v := 2) dX12_claims_130 (by decide) ?_
          refine am_V2 131 (mc' := 0) (ms' := 0) (rc := 0) (rs := 0) dX12_claims_131 lX12_176 ⟨by decide, by decide⟩ (by repeat (first | assumption | exact am_ue | refine am_un (by first | assumption | decide | omega) ?_)) (Nat.le_of_ble_eq_true rfl) (Nat.le_of_ble_eq_true rfl) (hcl c1 2 hc (by decide)) ?_
          rintro o n' f2 ⟨rfl, rfl, s5, g5⟩
          refine am_ctI ?_
          refine am_goto 134 (tgt := 157) dX12_claims_134 rfl ?_
          refine am_iinc 157 (v := nI (j + 1)) dX12_claims_157 rfl (nI_1 (j)) (by decide) ?_
          refine am_goto 160 (tgt := 97) dX12_claims_160 rfl ?_
          first | exact ih _ ⟨s5, g3.trans g5 (Nat.le_refl _)⟩ | exact ih _ ⟨s4, g3⟩
  refine am_iconst 0 (v := 0) dX12_claims_0 (by decide) ?_
  refine am_istore_n 1 dX12_claims_1 (by decide) ?_
  refine am_for 5 (fun _ (st : (Nat → am_C) × Option Value) => r_S m n st.1 κ sz G th h di li cs ∧ r_go m n κ κ f st.1) (fun i st => AW mX12_claims 0 0 2 [some (.ref m), some (.int (nI i)), st.2] [] n st.1 Q) ?_ ?_ 0 (f, none) (by omega) ⟨s, r_go.refl⟩
  · rintro ⟨g, z⟩ ⟨s3, g3⟩
    show AW mX12_claims 0 0 2 [some (.ref m), some (.int (nI 5)), z] [] n g Q
    refine am_iload_n 2 dX12_claims_2 rfl ?_
    refine am_iconst 3 (v := 5) dX12_claims_3 (by decide) ?_
    refine am_icmp_ge 4 95 dX12_claims_4 rfl (fun c4 => ?_) (fun c4 => absurd (by decide) c4)
    refine am_iconst 95 (v := 0) dX12_claims_95 (by decide) ?_
    refine am_istore_n 96 dX12_claims_96 (by decide) ?_
    exact second _ _ s3 g3
  · rintro i ⟨g, z⟩ hi ⟨s3, g3⟩ ihi
    show AW mX12_claims 0 0 2 [some (.ref m), some (.int (nI i)), z] [] n g Q
    refine am_iload_n 2 dX12_claims_2 rfl ?_
    refine am_iconst 3 (v := 5) dX12_claims_3 (by decide) ?_
    refine am_icmp_ge 4 95 dX12_claims_4 rfl (fun c4 => absurd c4 (nI_ge hi (by decide))) (fun c4 => ?_)
    refine am_iload_n 7 dX12_claims_7 rfl ?_
    refine am_iconst 8 (v := 1) dX12_claims_8 (by decide) ?_
    refine am_iadd 9 dX12_claims_9 ?_
    rw [show nI i + 1 = nI (i + 1) from nI_1 i]
    refine am_istore_n 10 dX12_claims_10 (by decide) ?_
    refine am_for 5 (fun j (g : Nat → am_C) => r_S m n g κ sz G th h di li cs ∧ r_go m n κ κ f g) (fun j g => AW mX12_claims 0 0 11 [some (.ref m), some (.int (nI i)), some (.int (nI j))] [] n g Q) ?_ ?_ (i + 1) g (by omega) ⟨s3, g3⟩
    · rintro g ⟨s3, g3⟩
      refine am_iload_n 11 dX12_claims_11 rfl ?_
      refine am_iconst 12 (v := 5) dX12_claims_12 (by decide) ?_
      refine am_icmp_ge 13 89 dX12_claims_13 rfl (fun c13 => ?_) (fun c13 => absurd (by decide) c13)
      refine am_iinc 89 (v := nI (i + 1)) dX12_claims_89 rfl (nI_1 (i)) (by decide) ?_
      refine am_goto 92 (tgt := 2) dX12_claims_92 rfl ?_
      exact ihi (_, _) ⟨s3, g3⟩
    · rintro j g hj ⟨s3, g3⟩ ih
      have s4 := s3
      obtain ⟨⟨ta, to, be, lf, ca, e0⟩, ⟨e3, ew⟩, -, et⟩ := s3
      unfold r_m12 at e0
      have next : ∀ f1 : Nat → am_C, r_S m n f1 κ sz G th h di li cs → r_go m n κ κ f f1 → AW mX12_claims 0 0 83 [some (.ref m), some (.int (nI i)), some (.int (nI j))] [] n f1 Q := by
        intro f1 s5 g5
        refine am_iinc 83 (v := nI (j + 1)) dX12_claims_83 rfl (nI_1 (j)) (by decide) ?_
        refine am_goto 86 (tgt := 11) dX12_claims_86 rfl ?_
        exact ih _ ⟨s5, g5⟩
      refine am_iload_n 11 dX12_claims_11 rfl ?_
      refine am_iconst 12 (v := 5) dX12_claims_12 (by decide) ?_
      refine am_icmp_ge 13 89 dX12_claims_13 rfl (fun c13 => absurd c13 (nI_ge hj (by decide))) (fun c13 => ?_)
      refine am_aload_n 16 dX12_claims_16 rfl ?_
      refine am_iload_n 17 dX12_claims_17 rfl ?_
      refine am_V1 18 (mc' := 0) (ms' := 0) (rc := 0) (rs := 0) dX12_claims_18 lX12_168 ⟨by decide, by decide⟩ (by repeat (first | assumption | exact am_ue | refine am_un (by first | assumption | decide | omega) ?_)) (Nat.le_of_ble_eq_true rfl) (Nat.le_of_ble_eq_true rfl) (s_rmayClaim s4 hi) ?_
      rintro o n' f' ⟨rfl, rfl, v, rfl, hv⟩
      refine am_ctI ?_
      show AW mX12_claims 0 0 21 [some (.ref m), some (.int (nI i)), some (.int (nI j))] [.int v] n g Q
      by_cases q : v = 0
      · refine am_if_eq 21 83 dX12_claims_21 rfl (fun c21 => ?_) (fun c21 => absurd q c21)
        exact next _ s4 g3
      · obtain ⟨c1, hc⟩ := hv.resolve_left q
        refine am_if_eq 21 83 dX12_claims_21 rfl (fun c21 => absurd c21 q) (fun c21 => ?_)
        refine am_aload_n 24 dX12_claims_24 rfl ?_
        refine am_iload_n 25 dX12_claims_25 rfl ?_
        refine am_V1 26 (mc' := 0) (ms' := 0) (rc := 0) (rs := 0) dX12_claims_26 lX12_168 ⟨by decide, by decide⟩ (by repeat (first | assumption | exact am_ue | refine am_un (by first | assumption | decide | omega) ?_)) (Nat.le_of_ble_eq_true rfl) (Nat.le_of_ble_eq_true rfl) (s_rmayClaim s4 hj) ?_
        rintro o n' f' ⟨rfl, rfl, v2, rfl, hv2⟩
        refine am_ctI ?_
        show AW mX12_claims 0 0 29 [some (.ref m), some (.int (nI i)), some (.int (nI j))] [.int v2] n g Q
        by_cases q2 : v2 = 0
        · refine am_if_eq 29 83 dX12_claims_29 rfl (fun c29 => ?_) (fun c29 => absurd q2 c29)
          exact next _ s4 g3
        · obtain ⟨c2, hc2⟩ := hv2.resolve_left q2
          obtain ⟨ap, cl, kk, b0, b1, b2, b3, b4, b5⟩ := (et c1).2.1 (ew i hi c1 hc)
          obtain ⟨ap2, cl2, kk2, a0, a1, a2, a3, a4, a5⟩ := (et c2).2.1 (ew j hj c2 hc2)
          obtain ⟨d, b6, b7⟩ := (et ap).2.2.1 b1
          obtain ⟨r1, r2, r3⟩ := r_dist_ok b2.1 b2.2.1 a2.1 a2.2.1
          have hd : fB (FP.fsub (r_dist (kk.2.1 0) (kk.2.1 1) (kk2.2.1 0) (kk2.2.1 1)) (d j)) (0 - 112) (112 - 0) := fB_sub r3 (b7 j hj) (by decide) (by decide) (by decide)
          have hto := s_rto (n := n) b0 a0 b2 a2
          unfold r_kF at b0
          refine am_if_eq 29 83 dX12_claims_29 rfl (fun c29 => absurd c29 q2) (fun c29 => ?_)
          refine am_aload_n 32 dX12_claims_32 rfl ?_
          refine am_getfield 33 dX12_claims_33 fX12_29 (by repeat (first | assumption | exact am_ue | refine am_un (by first | assumption | decide | omega) ?_)) rfl ?_
          refine am_iload_n 36 dX12_claims_36 rfl ?_
          refine am_aaload 37 dX12_claims_37 rfl (by repeat (first | assumption | exact am_ue | refine am_un (by first | assumption | decide | omega) ?_)) (am_ix hi (by decide)) ?_
          rw [nI_clamp (n := i) (by omega), hc, show va_rf (some c1) = Value.ref c1 from rfl]
          refine am_aload_n 38 dX12_claims_38 rfl ?_
          refine am_getfield 39 dX12_claims_39 fX12_29 (by repeat (first | assumption | exact am_ue | refine am_un (by first | assumption | decide | omega) ?_)) rfl ?_
          refine am_iload_n 42 dX12_claims_42 rfl ?_
          refine am_aaload 43 dX12_claims_43 rfl (by repeat (first | assumption | exact am_ue | refine am_un (by first | assumption | decide | omega) ?_)) (am_ix hj (by decide)) ?_
          rw [nI_clamp (n := j) (by omega), hc2, show va_rf (some c2) = Value.ref c2 from rfl]
          refine am_V1 44 (mc' := 0) (ms' := 0) (rc := 0) (rs := 0) dX12_claims_44 lX12_160 ⟨by decide, by decide⟩ b0 (Nat.le_of_ble_eq_true rfl) (Nat.le_of_ble_eq_true rfl) (hto) ?_
          refine am_is_ct ?_
          refine am_aload_n 47 dX12_claims_47 rfl ?_
          refine am_getfield 48 dX12_claims_48 fX12_29 (by repeat (first | assumption | exact am_ue | refine am_un (by first | assumption | decide | omega) ?_)) rfl ?_
          refine am_iload_n 51 dX12_claims_51 rfl ?_
          refine am_aaload 52 dX12_claims_52 rfl (by repeat (first | assumption | exact am_ue | refine am_un (by first | assumption | decide | omega) ?_)) (am_ix hi (by decide)) ?_
          rw [nI_clamp (n := i) (by omega), hc, show va_rf (some c1) = Value.ref c1 from rfl]
          refine am_getfield 53 dX12_claims_53 fX12_156 b0 rfl ?_
          refine am_iload_n 56 dX12_claims_56 rfl ?_
          refine am_faload 57 dX12_claims_57 rfl b6 (am_ix hj (by decide)) ?_
          rw [nI_clamp (n := j) (by omega)]
          refine am_fsub 58 dX12_claims_58 (f_n32 hd.1) ?_
          refine am_fabs 59 dX12_claims_59 jX12_172 (n_abs_ok hd.1) (by decide) (Nat.le_of_ble_eq_true rfl) ?_
          refine am_ldcf 62 dX12_claims_62 kX12_175 ?_
          refine am_fcmp 64 dX12_claims_64 ?_
          refine am_if_gt 65 71 dX12_claims_65 rfl (fun c65 => ?_) (fun c65 => ?_)
          · refine am_aload_n 71 dX12_claims_71 rfl ?_
            refine am_iload_n 72 dX12_claims_72 rfl ?_
            refine am_iconst 73 (v := 1) dX12_claims_73 (by decide) ?_
            refine am_V2 74 (mc' := 0) (ms' := 0) (rc := 0) (rs := 0) dX12_claims_74 lX12_176 ⟨by decide, by decide⟩ e0 (Nat.le_of_ble_eq_true rfl) (Nat.le_of_ble_eq_true rfl) (s_rclaim (cl := 1) s4 hi hc (by decide)) ?_
            rintro o n' f2 ⟨rfl, rfl, s5, g5⟩
            refine am_ctI ?_
            have s6 := s5
            obtain ⟨⟨ta2, to2, be2, lf2, ca2, z0⟩, -, -, -⟩ := s5
            unfold r_m12 at z0
            refine am_aload_n 77 dX12_claims_77 rfl ?_
            refine am_iload_n 78 dX12_claims_78 rfl ?_
            refine am_iconst 79 (v := 1) dX12_claims_79 (by decide) ?_
            refine am_V2 80 (mc' := 0) (ms' := 0) (rc := 0) (rs := 0) dX12_claims_80 lX12_176 ⟨by decide, by decide⟩ z0 (Nat.le_of_ble_eq_true rfl) (Nat.le_of_ble_eq_true rfl) (s_rclaim (cl := 1) s6 hj hc2 (by decide)) ?_
            rintro o n' f3 ⟨rfl, rfl, s7, g7⟩
            refine am_ctI ?_
            first | exact next _ s7 ((g3.trans g5 (Nat.le_refl _)).trans g7 (Nat.le_refl _)) | exact next _ s4 g3
          · refine am_goto 68 (tgt := 83) dX12_claims_68 rfl ?_
            first | exact next _ s7 ((g3.trans g5 (Nat.le_refl _)).trans g7 (Nat.le_refl _)) | exact next _ s4 g3
end RClaims
