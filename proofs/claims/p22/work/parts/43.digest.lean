/-! ===== the glass in any state: the checksum ===== -/
def m_fo (g : Nat → Int64) (d : Int64) : Nat → Int64
  | 0 => d
  | k + 1 => m_fo g d k * 31 + g k
def m_fs (G : Nat → Int64 → Int64) (d : Int64) : Nat → Int64
  | 0 => d
  | k + 1 => G k (m_fs G d k)
noncomputable def m_mixC (z : m_Z) (x : Nat) (d : Int64) : Int64 := (m_fo (fun j => m_six (m_whA (z_K z x) j)) (m_fo (fun j => (m_conA (z_K z x) j).toInt64) (d * 31 + (nI x).toInt64) 6 * 31 + (m_matchA z x).toInt64) 5 * 31 + m_six (m_guess (z_K z x) (nI 2) false)) * 31 + m_six (m_guess (z_K z x) (nI 2) true)
noncomputable def m_d1 (z : m_Z) : Int64 := m_fo (fun j => (m_manyA z j).toInt64) 58249 10
noncomputable def m_d2 (z : m_Z) : Int64 := m_fs (fun c d => (d * 31 + (m_cellA z c 1).toInt64) * 31 + (m_cellA z c 2).toInt64) (m_d1 z) 48
noncomputable def m_d3 (z : m_Z) : Int64 := m_fs (fun k d => m_fo (fun j => (m_peakA z k j).toInt64) d 5) (m_d2 z) (m_P z)
noncomputable def m_d4 (z : m_Z) : Int64 := m_fs (fun x d => if (z_K z x).1 0 ≠ 0 then m_mixC z x d else d) (m_d3 z) 5
noncomputable def m_d5 (z : m_Z) : Int64 := m_fs (fun a d => m_fo (fun j => (m_areaA z a j).toInt64) d 5) (m_d4 z) (z_to z)
noncomputable def m_d6 (z : m_Z) : Int64 := m_fs (fun y d => m_fo (fun j => (m_rowA z y j).toInt64) d 3) (m_d5 z) 6
noncomputable def m_dig (z : m_Z) : Int64 := m_d6 z * 31 + (m_cv (z_b z) (z_h z) 61).toInt64
section Dig
variable {p T n : Nat} {f : Nat → am_C} {z : m_Z}
theorem m_whA_fin {κ : m_K} (k : m_kOk κ) (j : Nat) : FP.Core.FFin (m_whA κ j) := by
  obtain ⟨k0, k1, k2, k3, k4, -⟩ := k
  unfold m_whA
  split
  · exact k0.1
  · exact k1.1
  · exact k2.1
  · exact k3.1
  · exact k4.1
theorem s_mixC {x : Nat} {d : Int64} (hG : m_G f p T z) (hx : x < 5) : AM mX7_mixedContact 0 0 [.ref p, .long d, .int (nI x)] n f (m_ask p T z n f (.long (m_mixC z x d))) := by
  have h0 := hG.1
  have h5 := hG.2.2.2.2.2.1
  have hk0 := (hG.2.2.2.2.2.2.1.1 x hx).1
  have hh := h5.1
  have hh1 := h5.2.1
  have hc := h5.2.2 x hx
  have hcx := hc.1
  have hga := f_guess (isY := false) (a := 2) hk0 (by decide)
  have hgb := f_guess (isY := true) (a := 2) hk0 (by decide)
  show AW mX7_mixedContact 0 0 0 [some (.ref p), some (.long d), none, some (.int (nI x)), none, none, none, none] [] n f _
  generalize hQ : m_ask p T z n f (.long (m_mixC z x d)) = Q
  refine am_aload_n 0 dX7_mixedContact_0 rfl ?_
  refine am_getfield 1 dX7_mixedContact_1 fX7_48 (by repeat (first | assumption | exact am_ue | refine am_un (by first | assumption | decide | omega) ?_)) rfl ?_
  refine am_getfield 4 dX7_mixedContact_4 fX7_124 (by repeat (first | assumption | exact am_ue | refine am_un (by first | assumption | decide | omega) ?_)) rfl ?_
  refine am_iload_n 7 dX7_mixedContact_7 rfl ?_
  refine am_aaload 8 dX7_mixedContact_8 rfl (by repeat (first | assumption | exact am_ue | refine am_un (by first | assumption | decide | omega) ?_)) (am_ix hx (by decide)) ?_
  rw [nI_clamp (n := x) (by omega), m_rf_at (by omega), show va_rf (some (p + 34 + 2 + 2 * x)) = Value.ref (p + 34 + 2 + 2 * x) from rfl]
  refine am_astore 9 dX7_mixedContact_9 (by decide) ?_
  refine am_lload_n 11 dX7_mixedContact_11 rfl ?_
  refine am_iload_n 12 dX7_mixedContact_12 rfl ?_
  refine am_i2l 13 dX7_mixedContact_13 ?_
  refine am_S2 14 (mc' := 0) (ms' := 0) (rc := 0) (rs := 0) dX7_mixedContact_14 lX7_221 ⟨by decide, by decide⟩ (Nat.le_of_ble_eq_true rfl) (Nat.le_of_ble_eq_true rfl) (s_mix) ?_
  refine am_is_ct ?_
  refine am_lstore 17 dX7_mixedContact_17 (by decide) ?_
  refine am_iconst 19 (v := 0) dX7_mixedContact_19 (by decide) ?_
  refine am_istore 20 dX7_mixedContact_20 (by decide) ?_
  refine am_for 6 (fun k (e : Int64) => e = m_fo (fun j => (m_conA (z_K z x) j).toInt64) (d * 31 + (nI x).toInt64) k) (fun k e => AW mX7_mixedContact 0 0 22 [some (.ref p), some (.long d), none, some (.int (nI x)), some (.ref (p + 34 + 2 + 2 * x)), some (.long e), none, some (.int (nI k))] [] n f Q) ?_ ?_ 0 _ (by omega) rfl
  · intro e he
    have he2 : e * 31 + (m_matchA z x).toInt64 = m_fo (fun j => (m_conA (z_K z x) j).toInt64) (d * 31 + (nI x).toInt64) 6 * 31 + (m_matchA z x).toInt64 := by rw [show e = _ from he]
    show AW mX7_mixedContact 0 0 22 [some (.ref p), some (.long d), none, some (.int (nI x)), some (.ref (p + 34 + 2 + 2 * x)), some (.long e), none, some (.int (nI 6))] [] n f Q
    refine am_iload 22 dX7_mixedContact_22 rfl ?_
    refine am_iconst 24 (v := 5) dX7_mixedContact_24 (by decide) ?_
    refine am_icmp_gt 25 49 dX7_mixedContact_25 rfl (fun c25 => ?_) (fun c25 => absurd (by decide) c25)
    refine am_lload 49 dX7_mixedContact_49 rfl ?_
    refine am_aload_n 51 dX7_mixedContact_51 rfl ?_
    refine am_aload_n 52 dX7_mixedContact_52 rfl ?_
    refine am_getfield 53 dX7_mixedContact_53 fX7_19 (by repeat (first | assumption | exact am_ue | refine am_un (by first | assumption | decide | omega) ?_)) rfl ?_
    refine am_iload_n 56 dX7_mixedContact_56 rfl ?_
    refine am_V2 57 (mc' := 0) (ms' := 0) (rc := 0) (rs := 0) dX7_mixedContact_57 lX7_204 ⟨by decide, by decide⟩ (by repeat (first | assumption | exact am_ue | refine am_un (by first | assumption | decide | omega) ?_)) (Nat.le_of_ble_eq_true rfl) (Nat.le_of_ble_eq_true rfl) (s_matchIn hG) ?_
    rintro o n' f2 ⟨rfl, rfl, g1, g2⟩
    refine am_ctI ?_
    refine am_i2l 60 dX7_mixedContact_60 ?_
    refine am_S2 61 (mc' := 0) (ms' := 0) (rc := 0) (rs := 0) dX7_mixedContact_61 lX7_221 ⟨by decide, by decide⟩ (Nat.le_of_ble_eq_true rfl) (Nat.le_of_ble_eq_true rfl) (s_mix) ?_
    refine am_is_ct ?_
    rw [he2]
    refine am_lstore 64 dX7_mixedContact_64 (by decide) ?_
    refine am_iconst 66 (v := 0) dX7_mixedContact_66 (by decide) ?_
    refine am_istore 67 dX7_mixedContact_67 (by decide) ?_
    have j5 := g1.2.2.2.2.2.1
    have jc := j5.2.2 x hx
    have jcx := jc.1
    clear he he2
    refine am_for 5 (fun k (e : Int64) => e = m_fo (fun j => m_six (m_whA (z_K z x) j)) (m_fo (fun j => (m_conA (z_K z x) j).toInt64) (d * 31 + (nI x).toInt64) 6 * 31 + (m_matchA z x).toInt64) k) (fun k e => AW mX7_mixedContact 0 0 69 [some (.ref p), some (.long d), none, some (.int (nI x)), some (.ref (p + 34 + 2 + 2 * x)), some (.long e), none, some (.int (nI k))] [] n' f2 Q) ?_ ?_ 0 _ (by omega) rfl
    · intro e he
      have hfin : (e * 31 + m_six (m_guess (z_K z x) (nI 2) false)) * 31 + m_six (m_guess (z_K z x) (nI 2) true) = m_mixC z x d := by rw [show e = _ from he]; rfl
      show AW mX7_mixedContact 0 0 69 [some (.ref p), some (.long d), none, some (.int (nI x)), some (.ref (p + 34 + 2 + 2 * x)), some (.long e), none, some (.int (nI 5))] [] n' f2 Q
      refine am_iload 69 dX7_mixedContact_69 rfl ?_
      refine am_iconst 71 (v := 4) dX7_mixedContact_71 (by decide) ?_
      refine am_icmp_gt 72 98 dX7_mixedContact_72 rfl (fun c72 => ?_) (fun c72 => absurd (by decide) c72)
      refine am_lload 98 dX7_mixedContact_98 rfl ?_
      refine am_aload 100 dX7_mixedContact_100 rfl ?_
      refine am_iconst 102 (v := 2) dX7_mixedContact_102 (by decide) ?_
      refine am_iconst 103 (v := 0) dX7_mixedContact_103 (by decide) ?_
      refine am_V2 104 (mc' := 0) (ms' := 0) (rc := 0) (rs := 0) dX7_mixedContact_104 lX7_200 ⟨by decide, by decide⟩ (by repeat (first | assumption | exact am_ue | refine am_un (by first | assumption | decide | omega) ?_)) (Nat.le_of_ble_eq_true rfl) (Nat.le_of_ble_eq_true rfl) (s_guessAt (a := 2) (isY := false) jc hk0 (by decide)) ?_
      refine am_is_ct ?_
      refine am_f2d 107 dX7_mixedContact_107 (d_f2d hga.1) ?_
      refine am_S1 108 (mc' := 0) (ms' := 0) (rc := 0) (rs := 0) dX7_mixedContact_108 lX7_342 ⟨by decide, by decide⟩ (Nat.le_of_ble_eq_true rfl) (Nat.le_of_ble_eq_true rfl) (s_sixteenths hga.1) ?_
      refine am_is_ct ?_
      refine am_S2 111 (mc' := 0) (ms' := 0) (rc := 0) (rs := 0) dX7_mixedContact_111 lX7_221 ⟨by decide, by decide⟩ (Nat.le_of_ble_eq_true rfl) (Nat.le_of_ble_eq_true rfl) (s_mix) ?_
      refine am_is_ct ?_
      refine am_lstore 114 dX7_mixedContact_114 (by decide) ?_
      refine am_lload 116 dX7_mixedContact_116 rfl ?_
      refine am_aload 118 dX7_mixedContact_118 rfl ?_
      refine am_iconst 120 (v := 2) dX7_mixedContact_120 (by decide) ?_
      refine am_iconst 121 (v := 1) dX7_mixedContact_121 (by decide) ?_
      refine am_V2 122 (mc' := 0) (ms' := 0) (rc := 0) (rs := 0) dX7_mixedContact_122 lX7_200 ⟨by decide, by decide⟩ (by repeat (first | assumption | exact am_ue | refine am_un (by first | assumption | decide | omega) ?_)) (Nat.le_of_ble_eq_true rfl) (Nat.le_of_ble_eq_true rfl) (s_guessAt (a := 2) (isY := true) jc hk0 (by decide)) ?_
      refine am_is_ct ?_
      refine am_f2d 125 dX7_mixedContact_125 (d_f2d hgb.1) ?_
      refine am_S1 126 (mc' := 0) (ms' := 0) (rc := 0) (rs := 0) dX7_mixedContact_126 lX7_342 ⟨by decide, by decide⟩ (Nat.le_of_ble_eq_true rfl) (Nat.le_of_ble_eq_true rfl) (s_sixteenths hgb.1) ?_
      refine am_is_ct ?_
      refine am_S2 129 (mc' := 0) (ms' := 0) (rc := 0) (rs := 0) dX7_mixedContact_129 lX7_221 ⟨by decide, by decide⟩ (Nat.le_of_ble_eq_true rfl) (Nat.le_of_ble_eq_true rfl) (s_mix) ?_
      refine am_is_ct ?_
      rw [hfin]
      refine am_lreturn 132 dX7_mixedContact_132 rfl ?_
      subst hQ
      exact ⟨rfl, rfl, g1, g2⟩
    · intro k e hk he ih
      have ih := ih (e * 31 + m_six (m_whA (z_K z x) k)) (by rw [show e = _ from he]; rfl)
      show AW mX7_mixedContact 0 0 69 [some (.ref p), some (.long d), none, some (.int (nI x)), some (.ref (p + 34 + 2 + 2 * x)), some (.long e), none, some (.int (nI k))] [] n' f2 Q
      refine am_iload 69 dX7_mixedContact_69 rfl ?_
      refine am_iconst 71 (v := 4) dX7_mixedContact_71 (by decide) ?_
      refine am_icmp_gt 72 98 dX7_mixedContact_72 rfl (fun c72 => absurd c72 (nI_nlt (a := 4) (by omega) (by decide))) (fun c72 => ?_)
      refine am_lload 75 dX7_mixedContact_75 rfl ?_
      refine am_aload 77 dX7_mixedContact_77 rfl ?_
      refine am_iload 79 dX7_mixedContact_79 rfl ?_
      refine am_S2 81 (mc' := 0) (ms' := 0) (rc := 0) (rs := 0) dX7_mixedContact_81 lX7_178 ⟨by decide, by decide⟩ (Nat.le_of_ble_eq_true rfl) (Nat.le_of_ble_eq_true rfl) (s_whereAnswer jc hk0 (j := k) (by omega)) ?_
      refine am_is_ct ?_
      refine am_S1 84 (mc' := 0) (ms' := 0) (rc := 0) (rs := 0) dX7_mixedContact_84 lX7_342 ⟨by decide, by decide⟩ (Nat.le_of_ble_eq_true rfl) (Nat.le_of_ble_eq_true rfl) (s_sixteenths (m_whA_fin hk0 k)) ?_
      refine am_is_ct ?_
      refine am_S2 87 (mc' := 0) (ms' := 0) (rc := 0) (rs := 0) dX7_mixedContact_87 lX7_221 ⟨by decide, by decide⟩ (Nat.le_of_ble_eq_true rfl) (Nat.le_of_ble_eq_true rfl) (s_mix) ?_
      refine am_is_ct ?_
      refine am_lstore 90 dX7_mixedContact_90 (by decide) ?_
      refine am_iinc 92 (v := nI (k + 1)) dX7_mixedContact_92 rfl (nI_1 (k)) (by decide) ?_
      refine am_goto 95 (tgt := 69) dX7_mixedContact_95 rfl ?_
      exact ih
  · intro k e hk he ih
    have ih := ih (e * 31 + (m_conA (z_K z x) k).toInt64) (by rw [show e = _ from he]; rfl)
    show AW mX7_mixedContact 0 0 22 [some (.ref p), some (.long d), none, some (.int (nI x)), some (.ref (p + 34 + 2 + 2 * x)), some (.long e), none, some (.int (nI k))] [] n f Q
    refine am_iload 22 dX7_mixedContact_22 rfl ?_
    refine am_iconst 24 (v := 5) dX7_mixedContact_24 (by decide) ?_
    refine am_icmp_gt 25 49 dX7_mixedContact_25 rfl (fun c25 => absurd c25 (nI_nlt (a := 5) (by omega) (by decide))) (fun c25 => ?_)
    refine am_lload 28 dX7_mixedContact_28 rfl ?_
    refine am_aload 30 dX7_mixedContact_30 rfl ?_
    refine am_iload 32 dX7_mixedContact_32 rfl ?_
    refine am_S2 34 (mc' := 0) (ms' := 0) (rc := 0) (rs := 0) dX7_mixedContact_34 lX7_174 ⟨by decide, by decide⟩ (Nat.le_of_ble_eq_true rfl) (Nat.le_of_ble_eq_true rfl) (s_contactAnswer hc (j := k) (by omega)) ?_
    refine am_is_ct ?_
    refine am_i2l 37 dX7_mixedContact_37 ?_
    refine am_S2 38 (mc' := 0) (ms' := 0) (rc := 0) (rs := 0) dX7_mixedContact_38 lX7_221 ⟨by decide, by decide⟩ (Nat.le_of_ble_eq_true rfl) (Nat.le_of_ble_eq_true rfl) (s_mix) ?_
    refine am_is_ct ?_
    refine am_lstore 41 dX7_mixedContact_41 (by decide) ?_
    refine am_iinc 43 (v := nI (k + 1)) dX7_mixedContact_43 rfl (nI_1 (k)) (by decide) ?_
    refine am_goto 46 (tgt := 22) dX7_mixedContact_46 rfl ?_
    exact ih
/-- from the areas on -/
theorem s_dig5 {g : Nat → am_C} {z4 : Option Value} (hG : m_G g p T z) (he : ∀ x, (x < p ∨ p + 45 < x) → g x = f x) : AW mX7_digest 0 0 151 [some (.ref p), some (.long (m_d4 z)), none, some (.int (nI 0)), z4] [] n g (m_ask p T z n f (.long (m_dig z))) := by
  have h0 := hG.1
  have h4 := hG.2.2.2.2.1
  have h40 := h4.1
  have ht := h4.2.2.1
  generalize hQ : m_ask p T z n f (.long (m_dig z)) = Q
  refine am_for (z_to z) (fun k (s : Int64 × Option Value) => s.1 = m_fs (fun a d => m_fo (fun j => (m_areaA z a j).toInt64) d 5) (m_d4 z) k) (fun k s => AW mX7_digest 0 0 151 [some (.ref p), some (.long s.1), none, some (.int (nI k)), s.2] [] n g Q) ?_ ?_ 0 (m_d4 z, z4) (by omega) rfl
  · rintro ⟨e, y4⟩ h
    have h : e = m_d5 z := h
    show AW mX7_digest 0 0 151 [some (.ref p), some (.long e), none, some (.int (nI (z_to z))), y4] [] n g Q
    rw [h]
    refine am_iload_n 151 dX7_digest_151 rfl ?_
    refine am_aload_n 152 dX7_digest_152 rfl ?_
    refine am_getfield 153 dX7_digest_153 fX7_39 (by repeat (first | assumption | exact am_ue | refine am_un (by first | assumption | decide | omega) ?_)) rfl ?_
    refine am_getfield 156 dX7_digest_156 fX7_66 (by repeat (first | assumption | exact am_ue | refine am_un (by first | assumption | decide | omega) ?_)) rfl ?_
    refine am_icmp_ge 159 196 dX7_digest_159 rfl (fun c159 => ?_) (fun c159 => absurd (Int32.le_refl _) c159)
    refine am_iconst 196 (v := 0) dX7_digest_196 (by decide) ?_
    refine am_istore_n 197 dX7_digest_197 (by decide) ?_
    refine am_for 6 (fun k (s : Int64 × Option Value) => s.1 = m_fs (fun y d => m_fo (fun j => (m_rowA z y j).toInt64) d 3) (m_d5 z) k) (fun k s => AW mX7_digest 0 0 198 [some (.ref p), some (.long s.1), none, some (.int (nI k)), s.2] [] n g Q) ?_ ?_ 0 (m_d5 z, y4) (by omega) rfl
    · rintro ⟨e, y5⟩ h
      have h : e = m_d6 z := h
      show AW mX7_digest 0 0 198 [some (.ref p), some (.long e), none, some (.int (nI 6)), y5] [] n g Q
      rw [h]
      refine am_iload_n 198 dX7_digest_198 rfl ?_
      refine am_bipush 199 (v := 6) dX7_digest_199 (by decide) ?_
      refine am_icmp_ge 201 238 dX7_digest_201 rfl (fun c201 => ?_) (fun c201 => absurd (by decide) c201)
      refine am_lload_n 238 dX7_digest_238 rfl ?_
      refine am_aload_n 239 dX7_digest_239 rfl ?_
      refine am_V0 240 (mc' := 0) (ms' := 0) (rc := 0) (rs := 0) dX7_digest_240 lX7_233 ⟨by decide, by decide⟩ (by repeat (first | assumption | exact am_ue | refine am_un (by first | assumption | decide | omega) ?_)) (Nat.le_of_ble_eq_true rfl) (Nat.le_of_ble_eq_true rfl) (s_calmIn hG) ?_
      rintro o n' f2 ⟨rfl, rfl, g1, g2⟩
      refine am_ctI ?_
      refine am_i2l 243 dX7_digest_243 ?_
      refine am_S2 244 (mc' := 0) (ms' := 0) (rc := 0) (rs := 0) dX7_digest_244 lX7_221 ⟨by decide, by decide⟩ (Nat.le_of_ble_eq_true rfl) (Nat.le_of_ble_eq_true rfl) (s_mix) ?_
      refine am_is_ct ?_
      refine am_lreturn 247 dX7_digest_247 rfl ?_
      subst hQ
      exact ⟨rfl, rfl, g1, fun x hx => (g2 x hx).trans (he x hx)⟩
    · rintro k ⟨e, y5⟩ hk h ih
      show AW mX7_digest 0 0 198 [some (.ref p), some (.long e), none, some (.int (nI k)), y5] [] n g Q
      have h : e = m_fs (fun y d => m_fo (fun j => (m_rowA z y j).toInt64) d 3) (m_d5 z) k := h
      have ih2 : ∀ y6, AW mX7_digest 0 0 198 [some (.ref p), some (.long (m_fo (fun j => (m_rowA z k j).toInt64) e 3)), none, some (.int (nI (k + 1))), y6] [] n g Q := fun y6 => ih (_, y6) (by rw [h]; rfl)
      clear ih h
      refine am_iload_n 198 dX7_digest_198 rfl ?_
      refine am_bipush 199 (v := 6) dX7_digest_199 (by decide) ?_
      refine am_icmp_ge 201 238 dX7_digest_201 rfl (fun c201 => absurd c201 (nI_ge hk (by decide))) (fun c201 => ?_)
      refine am_iconst 204 (v := 0) dX7_digest_204 (by decide) ?_
      refine am_istore 205 dX7_digest_205 (by decide) ?_
      refine am_for 3 (fun j (w : Int64) => w = m_fo (fun j => (m_rowA z k j).toInt64) e j) (fun j w => AW mX7_digest 0 0 207 [some (.ref p), some (.long w), none, some (.int (nI k)), some (.int (nI j))] [] n g Q) ?_ ?_ 0 e (by omega) rfl
      · intro w hw
        show AW mX7_digest 0 0 207 [some (.ref p), some (.long w), none, some (.int (nI k)), some (.int (nI 3))] [] n g Q
        rw [show w = _ from hw]
        refine am_iload 207 dX7_digest_207 rfl ?_
        refine am_iconst 209 (v := 2) dX7_digest_209 (by decide) ?_
        refine am_icmp_gt 210 232 dX7_digest_210 rfl (fun c210 => ?_) (fun c210 => absurd (by decide) c210)
        refine am_iinc 232 (v := nI (k + 1)) dX7_digest_232 rfl (nI_1 (k)) (by decide) ?_
        refine am_goto 235 (tgt := 198) dX7_digest_235 rfl ?_
        exact ih2 _
      · intro j w hj hw ih
        have ih := ih (w * 31 + (m_rowA z k j).toInt64) (by rw [show w = _ from hw]; rfl)
        show AW mX7_digest 0 0 207 [some (.ref p), some (.long w), none, some (.int (nI k)), some (.int (nI j))] [] n g Q
        refine am_iload 207 dX7_digest_207 rfl ?_
        refine am_iconst 209 (v := 2) dX7_digest_209 (by decide) ?_
        refine am_icmp_gt 210 232 dX7_digest_210 rfl (fun c210 => absurd c210 (nI_nlt (a := 2) (by omega) (by decide))) (fun c210 => ?_)
        refine am_lload_n 213 dX7_digest_213 rfl ?_
        refine am_aload_n 214 dX7_digest_214 rfl ?_
        refine am_iload_n 215 dX7_digest_215 rfl ?_
        refine am_iload 216 dX7_digest_216 rfl ?_
        refine am_V2 218 (mc' := 0) (ms' := 0) (rc := 0) (rs := 0) dX7_digest_218 lX7_188 ⟨by decide, by decide⟩ (by repeat (first | assumption | exact am_ue | refine am_un (by first | assumption | decide | omega) ?_)) (Nat.le_of_ble_eq_true rfl) (Nat.le_of_ble_eq_true rfl) (s_rowAnswer hG hk (j := j) (by omega)) ?_
        refine am_is_ct ?_
        refine am_i2l 221 dX7_digest_221 ?_
        refine am_S2 222 (mc' := 0) (ms' := 0) (rc := 0) (rs := 0) dX7_digest_222 lX7_221 ⟨by decide, by decide⟩ (Nat.le_of_ble_eq_true rfl) (Nat.le_of_ble_eq_true rfl) (s_mix) ?_
        refine am_is_ct ?_
        refine am_lstore_n 225 dX7_digest_225 (by decide) ?_
        refine am_iinc 226 (v := nI (j + 1)) dX7_digest_226 rfl (nI_1 (j)) (by decide) ?_
        refine am_goto 229 (tgt := 207) dX7_digest_229 rfl ?_
        exact ih
  · rintro k ⟨e, y4⟩ hk h ih
    show AW mX7_digest 0 0 151 [some (.ref p), some (.long e), none, some (.int (nI k)), y4] [] n g Q
    have h : e = m_fs (fun a d => m_fo (fun j => (m_areaA z a j).toInt64) d 5) (m_d4 z) k := h
    have ih2 : ∀ y6, AW mX7_digest 0 0 151 [some (.ref p), some (.long (m_fo (fun j => (m_areaA z k j).toInt64) e 5)), none, some (.int (nI (k + 1))), y6] [] n g Q := fun y6 => ih (_, y6) (by rw [h]; rfl)
    clear ih h
    refine am_iload_n 151 dX7_digest_151 rfl ?_
    refine am_aload_n 152 dX7_digest_152 rfl ?_
    refine am_getfield 153 dX7_digest_153 fX7_39 (by repeat (first | assumption | exact am_ue | refine am_un (by first | assumption | decide | omega) ?_)) rfl ?_
    refine am_getfield 156 dX7_digest_156 fX7_66 (by repeat (first | assumption | exact am_ue | refine am_un (by first | assumption | decide | omega) ?_)) rfl ?_
    refine am_icmp_ge 159 196 dX7_digest_159 rfl (fun c159 => absurd c159 (nI_ge hk (by omega))) (fun c159 => ?_)
    refine am_iconst 162 (v := 0) dX7_digest_162 (by decide) ?_
    refine am_istore 163 dX7_digest_163 (by decide) ?_
    refine am_for 5 (fun j (w : Int64) => w = m_fo (fun j => (m_areaA z k j).toInt64) e j) (fun j w => AW mX7_digest 0 0 165 [some (.ref p), some (.long w), none, some (.int (nI k)), some (.int (nI j))] [] n g Q) ?_ ?_ 0 e (by omega) rfl
    · intro w hw
      show AW mX7_digest 0 0 165 [some (.ref p), some (.long w), none, some (.int (nI k)), some (.int (nI 5))] [] n g Q
      rw [show w = _ from hw]
      refine am_iload 165 dX7_digest_165 rfl ?_
      refine am_iconst 167 (v := 4) dX7_digest_167 (by decide) ?_
      refine am_icmp_gt 168 190 dX7_digest_168 rfl (fun c168 => ?_) (fun c168 => absurd (by decide) c168)
      refine am_iinc 190 (v := nI (k + 1)) dX7_digest_190 rfl (nI_1 (k)) (by decide) ?_
      refine am_goto 193 (tgt := 151) dX7_digest_193 rfl ?_
      exact ih2 _
    · intro j w hj hw ih
      have ih := ih (w * 31 + (m_areaA z k j).toInt64) (by rw [show w = _ from hw]; rfl)
      show AW mX7_digest 0 0 165 [some (.ref p), some (.long w), none, some (.int (nI k)), some (.int (nI j))] [] n g Q
      refine am_iload 165 dX7_digest_165 rfl ?_
      refine am_iconst 167 (v := 4) dX7_digest_167 (by decide) ?_
      refine am_icmp_gt 168 190 dX7_digest_168 rfl (fun c168 => absurd c168 (nI_nlt (a := 4) (by omega) (by decide))) (fun c168 => ?_)
      refine am_lload_n 171 dX7_digest_171 rfl ?_
      refine am_aload_n 172 dX7_digest_172 rfl ?_
      refine am_iload_n 173 dX7_digest_173 rfl ?_
      refine am_iload 174 dX7_digest_174 rfl ?_
      refine am_V2 176 (mc' := 0) (ms' := 0) (rc := 0) (rs := 0) dX7_digest_176 lX7_191 ⟨by decide, by decide⟩ (by repeat (first | assumption | exact am_ue | refine am_un (by first | assumption | decide | omega) ?_)) (Nat.le_of_ble_eq_true rfl) (Nat.le_of_ble_eq_true rfl) (s_areaAnswer hG hk (j := j) (by omega)) ?_
      refine am_is_ct ?_
      refine am_i2l 179 dX7_digest_179 ?_
      refine am_S2 180 (mc' := 0) (ms' := 0) (rc := 0) (rs := 0) dX7_digest_180 lX7_221 ⟨by decide, by decide⟩ (Nat.le_of_ble_eq_true rfl) (Nat.le_of_ble_eq_true rfl) (s_mix) ?_
      refine am_is_ct ?_
      refine am_lstore_n 183 dX7_digest_183 (by decide) ?_
      refine am_iinc 184 (v := nI (j + 1)) dX7_digest_184 rfl (nI_1 (j)) (by decide) ?_
      refine am_goto 187 (tgt := 165) dX7_digest_187 rfl ?_
      exact ih
/-- from the contacts on -/
theorem s_dig4 {z4 : Option Value} (hG : m_G f p T z) : AW mX7_digest 0 0 116 [some (.ref p), some (.long (m_d3 z)), none, some (.int (nI 0)), z4] [] n f (m_ask p T z n f (.long (m_dig z))) := by
  generalize hQ : m_ask p T z n f (.long (m_dig z)) = Q
  refine am_for 5 (fun k (s : Int64 × (Nat → am_C)) => s.1 = m_fs (fun x d => if (z_K z x).1 0 ≠ 0 then m_mixC z x d else d) (m_d3 z) k ∧ m_G s.2 p T z ∧ ∀ x, (x < p ∨ p + 45 < x) → s.2 x = f x) (fun k s => AW mX7_digest 0 0 116 [some (.ref p), some (.long s.1), none, some (.int (nI k)), z4] [] n s.2 Q) ?_ ?_ 0 (m_d3 z, f) (by omega) ⟨rfl, hG, fun _ _ => rfl⟩
  · rintro ⟨e, g⟩ ⟨h, g1, g2⟩
    have h : e = m_d4 z := h
    have g1 : m_G g p T z := g1
    show AW mX7_digest 0 0 116 [some (.ref p), some (.long e), none, some (.int (nI 5)), z4] [] n g Q
    rw [h]
    subst hQ
    refine am_iload_n 116 dX7_digest_116 rfl ?_
    refine am_iconst 117 (v := 5) dX7_digest_117 (by decide) ?_
    refine am_icmp_ge 118 149 dX7_digest_118 rfl (fun c118 => ?_) (fun c118 => absurd (by decide) c118)
    refine am_iconst 149 (v := 0) dX7_digest_149 (by decide) ?_
    refine am_istore_n 150 dX7_digest_150 (by decide) ?_
    exact s_dig5 g1 g2
  · rintro k ⟨e, g⟩ hk ⟨h, g1, g2⟩ ih
    have h : e = m_fs (fun x d => if (z_K z x).1 0 ≠ 0 then m_mixC z x d else d) (m_d3 z) k := h
    have g1 : m_G g p T z := g1
    have h0 := g1.1
    have h5 := g1.2.2.2.2.2.1
    have h50 := h5.1
    show AW mX7_digest 0 0 116 [some (.ref p), some (.long e), none, some (.int (nI k)), z4] [] n g Q
    by_cases hth : (z_K z k).1 0 ≠ 0
    · have ih2 : ∀ g3, m_G g3 p T z → (∀ x, (x < p ∨ p + 45 < x) → g3 x = f x) → AW mX7_digest 0 0 116 [some (.ref p), some (.long (m_mixC z k e)), none, some (.int (nI (k + 1))), z4] [] n g3 Q := fun g3 a b => ih (_, g3) ⟨by rw [h]; exact (if_pos hth).symm, a, b⟩
      refine am_iload_n 116 dX7_digest_116 rfl ?_
      refine am_iconst 117 (v := 5) dX7_digest_117 (by decide) ?_
      refine am_icmp_ge 118 149 dX7_digest_118 rfl (fun c118 => absurd c118 (nI_ge hk (by decide))) (fun c118 => ?_)
      refine am_aload_n 121 dX7_digest_121 rfl ?_
      refine am_getfield 122 dX7_digest_122 fX7_48 (by repeat (first | assumption | exact am_ue | refine am_un (by first | assumption | decide | omega) ?_)) rfl ?_
      refine am_iload_n 125 dX7_digest_125 rfl ?_
      refine am_V1 126 (mc' := 0) (ms' := 0) (rc := 0) (rs := 0) dX7_digest_126 lX7_225 ⟨by decide, by decide⟩ (by repeat (first | assumption | exact am_ue | refine am_un (by first | assumption | decide | omega) ?_)) (Nat.le_of_ble_eq_true rfl) (Nat.le_of_ble_eq_true rfl) (s_has hk h5) ?_
      refine am_is_ct ?_
      rw [if_pos hth]
      refine am_if_eq 129 141 dX7_digest_129 rfl (fun c129 => absurd c129 (by decide)) (fun c129 => ?_)
      refine am_aload_n 132 dX7_digest_132 rfl ?_
      refine am_lload_n 133 dX7_digest_133 rfl ?_
      refine am_iload_n 134 dX7_digest_134 rfl ?_
      refine am_V2 135 (mc' := 0) (ms' := 0) (rc := 0) (rs := 0) dX7_digest_135 lX7_229 ⟨by decide, by decide⟩ (by repeat (first | assumption | exact am_ue | refine am_un (by first | assumption | decide | omega) ?_)) (Nat.le_of_ble_eq_true rfl) (Nat.le_of_ble_eq_true rfl) (s_mixC g1 hk) ?_
      rintro o n' f2 ⟨rfl, rfl, q1, q2⟩
      refine am_ctI ?_
      refine am_goto 138 (tgt := 142) dX7_digest_138 rfl ?_
      refine am_lstore_n 142 dX7_digest_142 (by decide) ?_
      refine am_iinc 143 (v := nI (k + 1)) dX7_digest_143 rfl (nI_1 (k)) (by decide) ?_
      refine am_goto 146 (tgt := 116) dX7_digest_146 rfl ?_
      exact ih2 _ q1 fun x hx => (q2 x hx).trans (g2 x hx)
    · have ih2 := ih (e, g) ⟨by rw [h]; exact (if_neg hth).symm, g1, g2⟩
      refine am_iload_n 116 dX7_digest_116 rfl ?_
      refine am_iconst 117 (v := 5) dX7_digest_117 (by decide) ?_
      refine am_icmp_ge 118 149 dX7_digest_118 rfl (fun c118 => absurd c118 (nI_ge hk (by decide))) (fun c118 => ?_)
      refine am_aload_n 121 dX7_digest_121 rfl ?_
      refine am_getfield 122 dX7_digest_122 fX7_48 (by repeat (first | assumption | exact am_ue | refine am_un (by first | assumption | decide | omega) ?_)) rfl ?_
      refine am_iload_n 125 dX7_digest_125 rfl ?_
      refine am_V1 126 (mc' := 0) (ms' := 0) (rc := 0) (rs := 0) dX7_digest_126 lX7_225 ⟨by decide, by decide⟩ (by repeat (first | assumption | exact am_ue | refine am_un (by first | assumption | decide | omega) ?_)) (Nat.le_of_ble_eq_true rfl) (Nat.le_of_ble_eq_true rfl) (s_has hk h5) ?_
      refine am_is_ct ?_
      rw [if_neg hth]
      refine am_if_eq 129 141 dX7_digest_129 rfl (fun c129 => ?_) (fun c129 => absurd rfl c129)
      refine am_lload_n 141 dX7_digest_141 rfl ?_
      refine am_lstore_n 142 dX7_digest_142 (by decide) ?_
      refine am_iinc 143 (v := nI (k + 1)) dX7_digest_143 rfl (nI_1 (k)) (by decide) ?_
      refine am_goto 146 (tgt := 116) dX7_digest_146 rfl ?_
      exact ih2
theorem s_digest (hG : m_G f p T z) : AM mX7_digest 0 0 [.ref p] n f (m_ask p T z n f (.long (m_dig z))) := by
  have h0 := hG.1
  obtain ⟨pc, px, py, chn, hp, -⟩ := id hG.2.2.1
  have p0 := hp.1
  have hP : m_P z ≤ 48 := m_pks_len
  show AW mX7_digest 0 0 0 [some (.ref p), none, none, none, none] [] n f _
  generalize hQ : m_ask p T z n f (.long (m_dig z)) = Q
  refine am_ldc2 0 dX7_digest_0 kX7_219 ?_
  refine am_lstore_n 3 dX7_digest_3 (by decide) ?_
  refine am_iconst 4 (v := 0) dX7_digest_4 (by decide) ?_
  refine am_istore_n 5 dX7_digest_5 (by decide) ?_
  refine am_for 10 (fun k (e : Int64) => e = m_fo (fun j => (m_manyA z j).toInt64) 58249 k) (fun k e => AW mX7_digest 0 0 6 [some (.ref p), some (.long e), none, some (.int (nI k)), none] [] n f Q) ?_ ?_ 0 _ (by omega) rfl
  · intro e h
    have h : e = m_d1 z := h
    show AW mX7_digest 0 0 6 [some (.ref p), some (.long e), none, some (.int (nI 10)), none] [] n f Q
    rw [h]
    refine am_iload_n 6 dX7_digest_6 rfl ?_
    refine am_bipush 7 (v := 9) dX7_digest_7 (by decide) ?_
    refine am_icmp_gt 9 29 dX7_digest_9 rfl (fun c9 => ?_) (fun c9 => absurd (by decide) c9)
    refine am_iconst 29 (v := 0) dX7_digest_29 (by decide) ?_
    refine am_istore_n 30 dX7_digest_30 (by decide) ?_
    refine am_for 48 (fun k (e : Int64) => e = m_fs (fun c d => (d * 31 + (m_cellA z c 1).toInt64) * 31 + (m_cellA z c 2).toInt64) (m_d1 z) k) (fun k e => AW mX7_digest 0 0 31 [some (.ref p), some (.long e), none, some (.int (nI k)), none] [] n f Q) ?_ ?_ 0 _ (by omega) rfl
    · intro e h
      have h : e = m_d2 z := h
      show AW mX7_digest 0 0 31 [some (.ref p), some (.long e), none, some (.int (nI 48)), none] [] n f Q
      rw [h]
      refine am_iload_n 31 dX7_digest_31 rfl ?_
      refine am_bipush 32 (v := 48) dX7_digest_32 (by decide) ?_
      refine am_icmp_ge 34 67 dX7_digest_34 rfl (fun c34 => ?_) (fun c34 => absurd (by decide) c34)
      refine am_iconst 67 (v := 0) dX7_digest_67 (by decide) ?_
      refine am_istore_n 68 dX7_digest_68 (by decide) ?_
      refine am_for (m_P z) (fun k (s : Int64 × Option Value) => s.1 = m_fs (fun k d => m_fo (fun j => (m_peakA z k j).toInt64) d 5) (m_d2 z) k) (fun k s => AW mX7_digest 0 0 69 [some (.ref p), some (.long s.1), none, some (.int (nI k)), s.2] [] n f Q) ?_ ?_ 0 (m_d2 z, none) (by omega) rfl
      · rintro ⟨e, y4⟩ h
        have h : e = m_d3 z := h
        show AW mX7_digest 0 0 69 [some (.ref p), some (.long e), none, some (.int (nI (m_P z))), y4] [] n f Q
        rw [h]
        subst hQ
        refine am_iload_n 69 dX7_digest_69 rfl ?_
        refine am_aload_n 70 dX7_digest_70 rfl ?_
        refine am_getfield 71 dX7_digest_71 fX7_19 (by repeat (first | assumption | exact am_ue | refine am_un (by first | assumption | decide | omega) ?_)) rfl ?_
        refine am_getfield 74 dX7_digest_74 fX7_160 (by repeat (first | assumption | exact am_ue | refine am_un (by first | assumption | decide | omega) ?_)) rfl ?_
        refine am_icmp_ge 77 114 dX7_digest_77 rfl (fun c77 => ?_) (fun c77 => absurd (Int32.le_refl _) c77)
        refine am_iconst 114 (v := 0) dX7_digest_114 (by decide) ?_
        refine am_istore_n 115 dX7_digest_115 (by decide) ?_
        exact s_dig4 hG
      · rintro k ⟨e, y4⟩ hk h ih
        have h : e = m_fs (fun k d => m_fo (fun j => (m_peakA z k j).toInt64) d 5) (m_d2 z) k := h
        have ih2 : ∀ y6, AW mX7_digest 0 0 69 [some (.ref p), some (.long (m_fo (fun j => (m_peakA z k j).toInt64) e 5)), none, some (.int (nI (k + 1))), y6] [] n f Q := fun y6 => ih (_, y6) (by rw [h]; rfl)
        clear ih h
        show AW mX7_digest 0 0 69 [some (.ref p), some (.long e), none, some (.int (nI k)), y4] [] n f Q
        refine am_iload_n 69 dX7_digest_69 rfl ?_
        refine am_aload_n 70 dX7_digest_70 rfl ?_
        refine am_getfield 71 dX7_digest_71 fX7_19 (by repeat (first | assumption | exact am_ue | refine am_un (by first | assumption | decide | omega) ?_)) rfl ?_
        refine am_getfield 74 dX7_digest_74 fX7_160 (by repeat (first | assumption | exact am_ue | refine am_un (by first | assumption | decide | omega) ?_)) rfl ?_
        refine am_icmp_ge 77 114 dX7_digest_77 rfl (fun c77 => absurd c77 (nI_ge hk (Nat.lt_of_le_of_lt hP (by decide)))) (fun c77 => ?_)
        refine am_iconst 80 (v := 0) dX7_digest_80 (by decide) ?_
        refine am_istore 81 dX7_digest_81 (by decide) ?_
        refine am_for 5 (fun j (w : Int64) => w = m_fo (fun j => (m_peakA z k j).toInt64) e j) (fun j w => AW mX7_digest 0 0 83 [some (.ref p), some (.long w), none, some (.int (nI k)), some (.int (nI j))] [] n f Q) ?_ ?_ 0 e (by omega) rfl
        · intro w hw
          show AW mX7_digest 0 0 83 [some (.ref p), some (.long w), none, some (.int (nI k)), some (.int (nI 5))] [] n f Q
          rw [show w = _ from hw]
          refine am_iload 83 dX7_digest_83 rfl ?_
          refine am_iconst 85 (v := 4) dX7_digest_85 (by decide) ?_
          refine am_icmp_gt 86 108 dX7_digest_86 rfl (fun c86 => ?_) (fun c86 => absurd (by decide) c86)
          refine am_iinc 108 (v := nI (k + 1)) dX7_digest_108 rfl (nI_1 (k)) (by decide) ?_
          refine am_goto 111 (tgt := 69) dX7_digest_111 rfl ?_
          exact ih2 _
        · intro j w hj hw ih
          have ih := ih (w * 31 + (m_peakA z k j).toInt64) (by rw [show w = _ from hw]; rfl)
          show AW mX7_digest 0 0 83 [some (.ref p), some (.long w), none, some (.int (nI k)), some (.int (nI j))] [] n f Q
          refine am_iload 83 dX7_digest_83 rfl ?_
          refine am_iconst 85 (v := 4) dX7_digest_85 (by decide) ?_
          refine am_icmp_gt 86 108 dX7_digest_86 rfl (fun c86 => absurd c86 (nI_nlt (a := 4) (by omega) (by decide))) (fun c86 => ?_)
          refine am_lload_n 89 dX7_digest_89 rfl ?_
          refine am_aload_n 90 dX7_digest_90 rfl ?_
          refine am_iload_n 91 dX7_digest_91 rfl ?_
          refine am_iload 92 dX7_digest_92 rfl ?_
          refine am_V2 94 (mc' := 0) (ms' := 0) (rc := 0) (rs := 0) dX7_digest_94 lX7_168 ⟨by decide, by decide⟩ (by repeat (first | assumption | exact am_ue | refine am_un (by first | assumption | decide | omega) ?_)) (Nat.le_of_ble_eq_true rfl) (Nat.le_of_ble_eq_true rfl) (s_peakAnswer hG hk (j := j) (by omega)) ?_
          refine am_is_ct ?_
          refine am_i2l 97 dX7_digest_97 ?_
          refine am_S2 98 (mc' := 0) (ms' := 0) (rc := 0) (rs := 0) dX7_digest_98 lX7_221 ⟨by decide, by decide⟩ (Nat.le_of_ble_eq_true rfl) (Nat.le_of_ble_eq_true rfl) (s_mix) ?_
          refine am_is_ct ?_
          refine am_lstore_n 101 dX7_digest_101 (by decide) ?_
          refine am_iinc 102 (v := nI (j + 1)) dX7_digest_102 rfl (nI_1 (j)) (by decide) ?_
          refine am_goto 105 (tgt := 83) dX7_digest_105 rfl ?_
          exact ih
    · intro k e hk h ih
      have ih := ih ((e * 31 + (m_cellA z k 1).toInt64) * 31 + (m_cellA z k 2).toInt64) (by rw [show e = _ from h]; rfl)
      show AW mX7_digest 0 0 31 [some (.ref p), some (.long e), none, some (.int (nI k)), none] [] n f Q
      refine am_iload_n 31 dX7_digest_31 rfl ?_
      refine am_bipush 32 (v := 48) dX7_digest_32 (by decide) ?_
      refine am_icmp_ge 34 67 dX7_digest_34 rfl (fun c34 => absurd c34 (nI_ge hk (by decide))) (fun c34 => ?_)
      refine am_lload_n 37 dX7_digest_37 rfl ?_
      refine am_aload_n 38 dX7_digest_38 rfl ?_
      refine am_iload_n 39 dX7_digest_39 rfl ?_
      refine am_iconst 40 (v := 1) dX7_digest_40 (by decide) ?_
      refine am_V2 41 (mc' := 0) (ms' := 0) (rc := 0) (rs := 0) dX7_digest_41 lX7_156 ⟨by decide, by decide⟩ (by repeat (first | assumption | exact am_ue | refine am_un (by first | assumption | decide | omega) ?_)) (Nat.le_of_ble_eq_true rfl) (Nat.le_of_ble_eq_true rfl) (s_cellAnswer hG hk (j := 1) (by decide)) ?_
      refine am_is_ct ?_
      refine am_i2l 44 dX7_digest_44 ?_
      refine am_S2 45 (mc' := 0) (ms' := 0) (rc := 0) (rs := 0) dX7_digest_45 lX7_221 ⟨by decide, by decide⟩ (Nat.le_of_ble_eq_true rfl) (Nat.le_of_ble_eq_true rfl) (s_mix) ?_
      refine am_is_ct ?_
      refine am_lstore_n 48 dX7_digest_48 (by decide) ?_
      refine am_lload_n 49 dX7_digest_49 rfl ?_
      refine am_aload_n 50 dX7_digest_50 rfl ?_
      refine am_iload_n 51 dX7_digest_51 rfl ?_
      refine am_iconst 52 (v := 2) dX7_digest_52 (by decide) ?_
      refine am_V2 53 (mc' := 0) (ms' := 0) (rc := 0) (rs := 0) dX7_digest_53 lX7_156 ⟨by decide, by decide⟩ (by repeat (first | assumption | exact am_ue | refine am_un (by first | assumption | decide | omega) ?_)) (Nat.le_of_ble_eq_true rfl) (Nat.le_of_ble_eq_true rfl) (s_cellAnswer hG hk (j := 2) (by decide)) ?_
      refine am_is_ct ?_
      refine am_i2l 56 dX7_digest_56 ?_
      refine am_S2 57 (mc' := 0) (ms' := 0) (rc := 0) (rs := 0) dX7_digest_57 lX7_221 ⟨by decide, by decide⟩ (Nat.le_of_ble_eq_true rfl) (Nat.le_of_ble_eq_true rfl) (s_mix) ?_
      refine am_is_ct ?_
      refine am_lstore_n 60 dX7_digest_60 (by decide) ?_
      refine am_iinc 61 (v := nI (k + 1)) dX7_digest_61 rfl (nI_1 (k)) (by decide) ?_
      refine am_goto 64 (tgt := 31) dX7_digest_64 rfl ?_
      exact ih
  · intro k e hk h ih
    have ih := ih (e * 31 + (m_manyA z k).toInt64) (by rw [show e = _ from h]; rfl)
    show AW mX7_digest 0 0 6 [some (.ref p), some (.long e), none, some (.int (nI k)), none] [] n f Q
    refine am_iload_n 6 dX7_digest_6 rfl ?_
    refine am_bipush 7 (v := 9) dX7_digest_7 (by decide) ?_
    refine am_icmp_gt 9 29 dX7_digest_9 rfl (fun c9 => absurd c9 (nI_nlt (a := 9) (by omega) (by decide))) (fun c9 => ?_)
    refine am_lload_n 12 dX7_digest_12 rfl ?_
    refine am_aload_n 13 dX7_digest_13 rfl ?_
    refine am_iload_n 14 dX7_digest_14 rfl ?_
    refine am_V1 15 (mc' := 0) (ms' := 0) (rc := 0) (rs := 0) dX7_digest_15 lX7_194 ⟨by decide, by decide⟩ (by repeat (first | assumption | exact am_ue | refine am_un (by first | assumption | decide | omega) ?_)) (Nat.le_of_ble_eq_true rfl) (Nat.le_of_ble_eq_true rfl) (s_manyAnswer hG (j := k) (by omega)) ?_
    refine am_is_ct ?_
    refine am_i2l 18 dX7_digest_18 ?_
    refine am_S2 19 (mc' := 0) (ms' := 0) (rc := 0) (rs := 0) dX7_digest_19 lX7_221 ⟨by decide, by decide⟩ (Nat.le_of_ble_eq_true rfl) (Nat.le_of_ble_eq_true rfl) (s_mix) ?_
    refine am_is_ct ?_
    refine am_lstore_n 22 dX7_digest_22 (by decide) ?_
    refine am_iinc 23 (v := nI (k + 1)) dX7_digest_23 rfl (nI_1 (k)) (by decide) ?_
    refine am_goto 26 (tgt := 6) dX7_digest_26 rfl ?_
    exact ih
end Dig
