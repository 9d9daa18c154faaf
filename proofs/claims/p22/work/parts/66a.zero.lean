/-! ===== sums are no negative zero ===== -/
section XZero
theorem f_units {c : Nat} {q e : Int} (h : FP.Core.inUnits c q e = 0) : c = 0 := by
  unfold FP.Core.inUnits at h
  rcases Nat.mul_eq_zero.mp h with h | h
  · exact h
  · exact absurd h (Nat.ne_of_gt (Nat.two_pow_pos _))
theorem f_signed {s : Bool} {c : Nat} (h : FP.Core.signed s c = 0) : c = 0 := by
  unfold FP.Core.signed at h
  cases s
  · simpa using h
  · simp at h
    exact h
theorem f_nz_add {x y : UInt32} (hx : FP.Core.FFin x) (hy : FP.Core.FFin y) (h : x ≠ 0x80000000) : FP.fadd x y ≠ 0x80000000 := by
  intro e
  have v0 : FP.Core.val32 0x80000000 = .fin true 0 (-149) := by decide +kernel
  have z0 : fz 0x80000000 = 0 := by decide +kernel
  have z1 : fz 1 = 1 := by decide +kernel
  have z2 : fz 0x80000001 = -1 := by decide +kernel
  have a := fun q => f_add_le (v := 0x80000001) hx hy ((FP.Core.fin_bits32 _).mpr (by decide)) q
  have b := fun q => f_add_ge (v := 1) hx hy ((FP.Core.fin_bits32 _).mpr (by decide)) q
  rw [e, z0, z2] at a
  rw [e, z0, z1] at b
  have hs : fz x + fz y = 0 := by
    rcases Int.lt_trichotomy (fz x + fz y) 0 with q | q | q
    · have := a (by omega)
      omega
    · exact q
    · have := b (by omega)
      omega
  obtain ⟨s, c, q, ex⟩ := hx
  obtain ⟨t, d, r, ey⟩ := hy
  have fx := f_fits x
  have fy := f_fits y
  rw [ex] at fx
  rw [ey] at fy
  obtain ⟨sg, n, e1, h1, h2, h3⟩ := FP.Core.sum_units fx fy
  have h4 : fz x + fz y = FP.Core.signed sg (FP.Core.inUnits n e1 FP.Core.b32.qmin) := by
    unfold fz
    rw [ex, ey]
    exact h3.symm
  rw [hs] at h4
  have hn : n = 0 := f_units (f_signed h4.symm)
  have h5 : FP.Core.val32 (FP.fadd x y) = FP.Core.round FP.Core.b32 (.fin sg n e1) := by rw [f_eadd, FP.Core.val32_fadd, ex, ey, h1]
  rw [e, v0] at h5
  have hsg : sg = true := by
    rcases FP.Core.roundRatio_cases FP.Core.b32 sg n 1 e1 with ⟨c', q', w⟩ | w
    · have w2 : FP.Core.Datum.fin true 0 (-149) = .fin sg c' q' := h5.trans w
      injection w2 with w3
      exact w3.symm
    · have w2 : FP.Core.Datum.fin true 0 (-149) = .inf sg := h5.trans w
      exact FP.Core.Datum.noConfusion w2
  have h6 : FP.Core.exactSum (.fin s c q) (.fin t d r) = .fin (FP.Core.sumSign s t (FP.Core.sumUnits s c q t d r (min q r))) (FP.Core.sumUnits s c q t d r (min q r)).natAbs (min q r) := rfl
  rw [h6] at h1
  injection h1 with h7 h8 h9
  have hv : FP.Core.sumUnits s c q t d r (min q r) = 0 := by omega
  rw [hv, hsg] at h7
  have h10 : (s && t) = true := h7
  have hst : s = true ∧ t = true := by
    cases s <;> cases t <;> simp_all
  obtain ⟨rfl, rfl⟩ := hst
  have fzx : fz x = -((FP.Core.inUnits c q FP.Core.b32.qmin : Nat) : Int) := by
    unfold fz
    rw [ex]
    rfl
  have fzy : fz y = -((FP.Core.inUnits d r FP.Core.b32.qmin : Nat) : Int) := by
    unfold fz
    rw [ey]
    rfl
  have hc : c = 0 := f_units (q := q) (e := FP.Core.b32.qmin) (by omega)
  subst hc
  have hz := (FP.Core.zero_bits232 x).mp ⟨true, q, ex⟩
  have hl := x.toNat_lt
  have : x.toNat = 0 ∨ x.toNat = 2 ^ 31 := by omega
  rcases this with w | w
  · have : x = 0 := UInt32.toNat_inj.mp w
    rw [this] at ex
    have v1 : FP.Core.val32 0 = .fin false 0 (-149) := by decide +kernel
    rw [v1] at ex
    injection ex with ex1
    exact Bool.noConfusion ex1
  · exact h (UInt32.toNat_inj.mp w)
theorem f_nz_sub {x y : UInt32} (hx : FP.Core.FFin x) (hy : FP.Core.FFin y) (h : x ≠ 0x80000000) : FP.fsub x y ≠ 0x80000000 := by
  rw [f_sub]
  exact f_nz_add hx (f_neg hy).1 h
theorem f_ws_abs {z : UInt32} (hz : FP.Core.FFin z) (h : z ≠ 0x80000000) : m_ws z = z &&& 0x7fffffff := by
  have hc := (f_cmp hz f_0.1 .g).2.2.2
  rw [f_0.2] at hc
  have hl := z.toNat_lt
  unfold m_ws
  by_cases q : z.toNat < 2 ^ 31
  · rw [if_pos (hc.mpr (FP.Core.zval_nonneg32 (f_ne hz) q))]
    apply UInt32.toNat_inj.mp
    rw [FP.Core.mask_toNat32]
    omega
  · have h0 : fz z ≤ 0 := FP.Core.zval_nonpos32 (f_ne hz) (by omega)
    have h1 : fz z ≠ 0 := fun w => by
      obtain ⟨s, c, r, e⟩ := hz
      have w2 : FP.Core.signed s (FP.Core.inUnits c r FP.Core.b32.qmin) = 0 := by
        unfold fz at w
        rw [e] at w
        exact w
      have hc0 : c = 0 := f_units (f_signed w2)
      subst hc0
      have hb := (FP.Core.zero_bits232 z).mp ⟨s, r, e⟩
      exact h (UInt32.toNat_inj.mp (show z.toNat = 2 ^ 31 by omega))
    rw [if_neg fun w => by have := hc.mp w; omega, f_jneg hz]
    have hv : FP.Core.val32 (z &&& 0x7fffffff) = FP.Core.negate (FP.Core.val32 z) := FP.Core.val32_neg_bits (.inl (by rw [FP.Core.mask_toNat32]; omega))
    refine (FP.Core.val32_inj ?_ ?_).symm
    · rw [hv]
      exact FP.Core.negate_ne_nan (f_ne hz)
    · rw [hv]
      exact (FP.Core.val32_fneg z).symm
theorem f_dist_eq {x y x2 y2 : UInt32} (hx : FP.Core.FFin x) (hy : FP.Core.FFin y) (hx2 : FP.Core.FFin x2) (hy2 : FP.Core.FFin y2) (dx : FP.Core.FFin (FP.fsub x x2)) (dy : FP.Core.FFin (FP.fsub y y2)) (h : x ≠ 0x80000000) (h2 : y ≠ 0x80000000) : m_dist x y x2 y2 = r_dist x y x2 y2 := by
  unfold m_dist r_dist
  rw [f_ws_abs dx (f_nz_sub hx hx2 h), f_ws_abs dy (f_nz_sub hy hy2 h2)]
end XZero
