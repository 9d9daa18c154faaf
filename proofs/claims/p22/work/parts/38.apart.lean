/-! ===== how far contacts were apart as the later one began ===== -/
def m_fa (κ : m_K) (fa : Nat → UInt32) : m_K := (κ.1, κ.2.1, fa)
def m_ap (K K' : Nat → m_K) : Prop := ∀ j, j < 5 → (K' j).1 = (K j).1 ∧ (K' j).2.1 = (K j).2.1 ∧ m_kOk (K' j)
section Apa
variable {h s told T be li ca n : Nat} {A : Nat → Nat → Int32} {C : Nat → Nat → Nat} {f : Nat → am_C} {K K' : Nat → m_K}
theorem m_Ha.arr {k : Nat} {fa : Nat → UInt32} (hh : m_Ha f h s K be li ca) (hk : k < 5) : m_Ha (va_up f (h + 2 + 2 * k + 1) (.inl (2, 5, .inr (.inr (.inl fa))))) h s (va_up K k (m_fa (K k) fa)) be li ca := by
  refine ⟨am_un (by omega) hh.1, am_un (by omega) hh.2.1, fun j hj => ?_⟩
  by_cases hjk : j = k
  · subst hjk
    rw [am_up_eq]
    exact ⟨am_un (by omega) (hh.2.2 j hj).1, am_ue⟩
  · rw [am_up_ne hjk]
    exact (hh.2.2 j hj).on fun x a b => am_up_ne (by omega)
theorem m_kOk.arr {κ : m_K} {k : Nat} {v : UInt32} (h : m_kOk κ) (hv : fB v 0 112) : m_kOk (m_fa κ (va_up κ.2.2 k v)) := by
  obtain ⟨k0, k1, k2, k3, k4, k5, k6, k7, k8⟩ := h
  refine ⟨k0, k1, k2, k3, k4, k5, k6, fun j hj => ?_, k8⟩
  show fB (va_up κ.2.2 k v j) 0 112
  by_cases e : j = k
  · subst e
    rw [am_up_eq]
    exact hv
  · rw [am_up_ne e]
    exact k7 j hj
theorem m_ap.arr {k i : Nat} {v : UInt32} (h : m_ap K K') (hk : k < 5) (hv : fB v 0 112) : m_ap K (va_up K' k (m_fa (K' k) (va_up (K' k).2.2 i v))) := by
  intro j hj
  by_cases e : j = k
  · subst e
    rw [am_up_eq]
    exact ⟨(h j hj).1, (h j hj).2.1, (h j hj).2.2.arr hv⟩
  · rw [am_up_ne e]
    exact h j hj
theorem m_Inv.ap (hI : m_Inv told T K be li ca C) (h : m_ap K K') : m_Inv told T K' be li ca C := by
  have a1 : m_N (m_th K') 5 = m_N (m_th K) 5 := by
    refine Nat.le_antisymm (m_N_le fun j hj => ?_) (m_N_le fun j hj => ?_)
    · unfold m_th
      rw [(h j hj).1]
      exact Nat.le_refl _
    · unfold m_th
      rw [(h j hj).1]
      exact Nat.le_refl _
  have a2 : ∀ a kd, m_N (m_cl K' a kd) 5 = m_N (m_cl K a kd) 5 := fun a kd => by
    refine Nat.le_antisymm (m_N_le fun j hj => ?_) (m_N_le fun j hj => ?_)
    · unfold m_cl
      rw [(h j hj).1]
      exact Nat.le_refl _
    · unfold m_cl
      rw [(h j hj).1]
      exact Nat.le_refl _
  refine ⟨fun k hk => ?_, by rw [a1]; exact hI.2.1, fun a ha => ⟨(hI.2.2.1 a ha).1, fun kd q1 q2 => by rw [a2]; exact (hI.2.2.1 a ha).2 kd q1 q2⟩, hI.2.2.2⟩
  obtain ⟨r1, r2, r3⟩ := hI.1 k hk
  refine ⟨(h k hk).2.2, ?_, ?_⟩
  · rw [(h k hk).1]
    exact r2
  · rw [(h k hk).1]
    exact r3
set_option maxHeartbeats 2000000 in
theorem s_rememberApart {m : Nat} (hm : m < 5) (hh : m_Ha f h s K be li ca) (hok : ∀ j, j < 5 → m_kOk (K j)) : AM mX3_rememberApart 0 0 [.ref h, .int (nI m)] n f (fun o n' f' => o = .inl none ∧ n' = n ∧ (∃ K', m_Ha f' h s K' be li ca ∧ m_ap K K') ∧ ∀ x, (x < h ∨ h + 11 < x) → f' x = f x) := by
  show AW mX3_rememberApart 0 0 0 [some (.ref h), some (.int (nI m)), none, none] [] n f _
  generalize hQ : (fun (o : Option Value ⊕ Nat) (n' : Nat) (f' : Nat → am_C) => o = .inl none ∧ n' = n ∧ (∃ K', m_Ha f' h s K' be li ca ∧ m_ap K K') ∧ ∀ x, (x < h ∨ h + 11 < x) → f' x = f x) = Q
  refine am_iconst 0 (v := 0) dX3_rememberApart_0 (by decide) ?_
  refine am_istore_n 1 dX3_rememberApart_1 (by decide) ?_
  refine am_for 5 (fun k (st : (Nat → am_C) × Option Value) => (∃ K', m_Ha st.1 h s K' be li ca ∧ m_ap K K') ∧ ∀ x, (x < h ∨ h + 11 < x) → st.1 x = f x) (fun k st => AW mX3_rememberApart 0 0 2 [some (.ref h), some (.int (nI m)), some (.int (nI k)), st.2] [] n st.1 Q) ?_ ?_ 0 (f, none) (by omega) ⟨⟨K, hh, fun j hj => ⟨rfl, rfl, hok j hj⟩⟩, fun _ _ => rfl⟩
  · rintro ⟨g, z5⟩ ⟨g1, g3⟩
    show AW mX3_rememberApart 0 0 2 [some (.ref h), some (.int (nI m)), some (.int (nI 5)), z5] [] n g Q
    refine am_iload_n 2 dX3_rememberApart_2 rfl ?_
    refine am_iconst 3 (v := 5) dX3_rememberApart_3 (by decide) ?_
    refine am_icmp_ge 4 65 dX3_rememberApart_4 rfl (fun c4 => ?_) (fun c4 => absurd (by decide) c4)
    refine am_return 65 dX3_rememberApart_65 rfl ?_
    subst hQ
    exact ⟨rfl, rfl, g1, g3⟩
  · rintro k ⟨g, z5⟩ hk ⟨⟨K1, g1, g2⟩, g4⟩ ih
    show AW mX3_rememberApart 0 0 2 [some (.ref h), some (.int (nI m)), some (.int (nI k)), z5] [] n g Q
    have hkC := g1.2.2 k hk
    have hmC := g1.2.2 m hm
    have hc := hkC.1
    have hcm := hmC.1
    have h0 := g1.1
    have h1' := g1.2.1
    obtain ⟨-, -, d3⟩ := f_dist (g2 m hm).2.2.1 (g2 m hm).2.2.2.1 (g2 k hk).2.2.1 (g2 k hk).2.2.2.1
    have A1 := g1.arr (fa := va_up (K1 m).2.2 k (m_dist ((K1 m).2.1 0) ((K1 m).2.1 1) ((K1 k).2.1 0) ((K1 k).2.1 1))) hm
    have P1 := g2.arr (i := k) hm d3
    have A2 := A1.arr (fa := va_up (va_up K1 m (m_fa (K1 m) (va_up (K1 m).2.2 k (m_dist ((K1 m).2.1 0) ((K1 m).2.1 1) ((K1 k).2.1 0) ((K1 k).2.1 1)))) k).2.2 m (m_dist ((K1 m).2.1 0) ((K1 m).2.1 1) ((K1 k).2.1 0) ((K1 k).2.1 1))) hk
    have P2 := P1.arr (i := m) hk d3
    have hca := hmC.2
    have hcb := (A1.2.2 k hk).2
    have hc1 := (A1.2.2 k hk).1
    have h01 := A1.1
    have h11 := A1.2.1
    generalize hv : m_dist ((K1 m).2.1 0) ((K1 m).2.1 1) ((K1 k).2.1 0) ((K1 k).2.1 1) = v at *
    refine am_iload_n 2 dX3_rememberApart_2 rfl ?_
    refine am_iconst 3 (v := 5) dX3_rememberApart_3 (by decide) ?_
    refine am_icmp_ge 4 65 dX3_rememberApart_4 rfl (fun c4 => absurd c4 (nI_ge hk (by decide))) (fun c4 => ?_)
    refine am_aload_n 7 dX3_rememberApart_7 rfl ?_
    refine am_getfield 8 dX3_rememberApart_8 fX3_11 (by repeat (first | assumption | exact am_ue | refine am_un (by first | assumption | decide | omega) ?_)) rfl ?_
    refine am_iload_n 11 dX3_rememberApart_11 rfl ?_
    refine am_aaload 12 dX3_rememberApart_12 rfl (by repeat (first | assumption | exact am_ue | refine am_un (by first | assumption | decide | omega) ?_)) (am_ix hk (by decide)) ?_
    rw [nI_clamp (n := k) (by omega), m_rf_at (by omega), show va_rf (some (h + 2 + 2 * k)) = Value.ref (h + 2 + 2 * k) from rfl]
    refine am_getfield 13 dX3_rememberApart_13 fX3_22 (by repeat (first | assumption | exact am_ue | refine am_un (by first | assumption | decide | omega) ?_)) rfl ?_
    refine am_if_eq 16 59 dX3_rememberApart_16 rfl (fun c16 => ?_) (fun c16 => ?_)
    · refine am_iinc 59 (v := nI (k + 1)) dX3_rememberApart_59 rfl (nI_1 (k)) (by decide) ?_
      refine am_goto 62 (tgt := 2) dX3_rememberApart_62 rfl ?_
      first | exact ih (_, _) ⟨⟨K1, g1, g2⟩, g4⟩ | exact ih (_, _) ⟨⟨_, A2, P2⟩, fun x hx => (am_up_ne (by omega)).trans ((am_up_ne (by omega)).trans (g4 x hx))⟩
    · refine am_aload_n 19 dX3_rememberApart_19 rfl ?_
      refine am_getfield 20 dX3_rememberApart_20 fX3_11 (by repeat (first | assumption | exact am_ue | refine am_un (by first | assumption | decide | omega) ?_)) rfl ?_
      refine am_iload_n 23 dX3_rememberApart_23 rfl ?_
      refine am_aaload 24 dX3_rememberApart_24 rfl (by repeat (first | assumption | exact am_ue | refine am_un (by first | assumption | decide | omega) ?_)) (am_ix hm (by decide)) ?_
      rw [nI_clamp (n := m) (by omega), m_rf_at (by omega), show va_rf (some (h + 2 + 2 * m)) = Value.ref (h + 2 + 2 * m) from rfl]
      refine am_aload_n 25 dX3_rememberApart_25 rfl ?_
      refine am_getfield 26 dX3_rememberApart_26 fX3_11 (by repeat (first | assumption | exact am_ue | refine am_un (by first | assumption | decide | omega) ?_)) rfl ?_
      refine am_iload_n 29 dX3_rememberApart_29 rfl ?_
      refine am_aaload 30 dX3_rememberApart_30 rfl (by repeat (first | assumption | exact am_ue | refine am_un (by first | assumption | decide | omega) ?_)) (am_ix hk (by decide)) ?_
      rw [nI_clamp (n := k) (by omega), m_rf_at (by omega), show va_rf (some (h + 2 + 2 * k)) = Value.ref (h + 2 + 2 * k) from rfl]
      refine am_V1 31 (mc' := 0) (ms' := 0) (rc := 0) (rs := 0) dX3_rememberApart_31 lX3_128 ⟨by decide, by decide⟩ (by repeat (first | assumption | exact am_ue | refine am_un (by first | assumption | decide | omega) ?_)) (Nat.le_of_ble_eq_true rfl) (Nat.le_of_ble_eq_true rfl) (s_distanceTo hmC hkC (g2 m hm).2.2 (g2 k hk).2.2) ?_
      refine am_is_ct ?_
      rw [hv]
      refine am_fstore_n 34 dX3_rememberApart_34 (by decide) ?_
      refine am_aload_n 35 dX3_rememberApart_35 rfl ?_
      refine am_getfield 36 dX3_rememberApart_36 fX3_11 (by repeat (first | assumption | exact am_ue | refine am_un (by first | assumption | decide | omega) ?_)) rfl ?_
      refine am_iload_n 39 dX3_rememberApart_39 rfl ?_
      refine am_aaload 40 dX3_rememberApart_40 rfl (by repeat (first | assumption | exact am_ue | refine am_un (by first | assumption | decide | omega) ?_)) (am_ix hm (by decide)) ?_
      rw [nI_clamp (n := m) (by omega), m_rf_at (by omega), show va_rf (some (h + 2 + 2 * m)) = Value.ref (h + 2 + 2 * m) from rfl]
      refine am_getfield 41 dX3_rememberApart_41 fX3_132 (by repeat (first | assumption | exact am_ue | refine am_un (by first | assumption | decide | omega) ?_)) rfl ?_
      refine am_iload_n 44 dX3_rememberApart_44 rfl ?_
      refine am_fload_n 45 dX3_rememberApart_45 rfl ?_
      refine am_fastore 46 dX3_rememberApart_46 rfl (by repeat (first | assumption | exact am_ue | refine am_un (by first | assumption | decide | omega) ?_)) (am_ix hk (by decide)) ?_
      rw [nI_clamp (n := k) (by omega)]
      refine am_aload_n 47 dX3_rememberApart_47 rfl ?_
      refine am_getfield 48 dX3_rememberApart_48 fX3_11 (by repeat (first | assumption | exact am_ue | refine am_un (by first | assumption | decide | omega) ?_)) rfl ?_
      refine am_iload_n 51 dX3_rememberApart_51 rfl ?_
      refine am_aaload 52 dX3_rememberApart_52 rfl (by repeat (first | assumption | exact am_ue | refine am_un (by first | assumption | decide | omega) ?_)) (am_ix hk (by decide)) ?_
      rw [nI_clamp (n := k) (by omega), m_rf_at (by omega), show va_rf (some (h + 2 + 2 * k)) = Value.ref (h + 2 + 2 * k) from rfl]
      refine am_getfield 53 dX3_rememberApart_53 fX3_132 (by repeat (first | assumption | exact am_ue | refine am_un (by first | assumption | decide | omega) ?_)) rfl ?_
      refine am_iload_n 56 dX3_rememberApart_56 rfl ?_
      refine am_fload_n 57 dX3_rememberApart_57 rfl ?_
      refine am_fastore 58 dX3_rememberApart_58 rfl (by repeat (first | assumption | exact am_ue | refine am_un (by first | assumption | decide | omega) ?_)) (am_ix hm (by decide)) ?_
      rw [nI_clamp (n := m) (by omega)]
      refine am_iinc 59 (v := nI (k + 1)) dX3_rememberApart_59 rfl (nI_1 (k)) (by decide) ?_
      refine am_goto 62 (tgt := 2) dX3_rememberApart_62 rfl ?_
      first | exact ih (_, _) ⟨⟨K1, g1, g2⟩, g4⟩ | exact ih (_, _) ⟨⟨_, A2, P2⟩, fun x hx => (am_up_ne (by omega)).trans ((am_up_ne (by omega)).trans (g4 x hx))⟩
end Apa
