/-! ===== floats again: products, doubles, guesses ===== -/
def dz (x : UInt64) : Int := FP.Core.zval FP.Core.b64 (FP.Core.val64 x)
section Flo
theorem f_prod {x q : UInt32} (hx : FP.Core.FFin x) (hq : FP.Core.FFin q) : ∃ s c e, FP.Core.val32 (FP.fmul x q) = FP.Core.round FP.Core.b32 (.fin s c e) ∧ 2 * FP.Core.b32.qmin ≤ e ∧ FP.Core.signed s (FP.Core.inUnits c e (2 * FP.Core.b32.qmin)) = fz x * fz q := by
  obtain ⟨s, c, e, ex⟩ := id hx
  obtain ⟨t, d, r, eq⟩ := id hq
  have fx := f_fits x
  have fq := f_fits q
  rw [ex] at fx
  rw [eq] at fq
  obtain ⟨p1, p2, p3⟩ := FP.Core.product_units fx fq
  refine ⟨s != t, c * d, e + r, by rw [f_emul, FP.Core.val32_fmul, ex, eq, p1], p2, ?_⟩
  rw [p3, FP.Core.signed_xor]
  unfold fz
  rw [ex, eq]
  rfl
theorem f_hP : ((2 ^ (FP.Core.b32.qmin - 2 * FP.Core.b32.qmin).toNat : Nat) : Int) = fO := by decide +kernel
theorem f_mul_le {x q v : UInt32} (hx : FP.Core.FFin x) (hq : FP.Core.FFin q) (hv : FP.Core.FFin v) (h : fz x * fz q ≤ fz v * fO) : fz (FP.fmul x q) ≤ fz v := by
  obtain ⟨s, c, e, ev, p2, hS⟩ := f_prod hx hq
  unfold fz
  rw [ev]
  refine FP.Core.zval_round_le FP.Core.good_b32 (e0 := 2 * FP.Core.b32.qmin) (f_fits v) (f_ne hv) (by decide +kernel) p2 ?_
  rw [hS, f_hP]
  exact h
theorem f_mul_ge {x q v : UInt32} (hx : FP.Core.FFin x) (hq : FP.Core.FFin q) (hv : FP.Core.FFin v) (h : fz v * fO ≤ fz x * fz q) : fz v ≤ fz (FP.fmul x q) := by
  obtain ⟨s, c, e, ev, p2, hS⟩ := f_prod hx hq
  unfold fz
  rw [ev]
  refine FP.Core.zval_round_ge FP.Core.good_b32 (e0 := 2 * FP.Core.b32.qmin) (f_fits v) (f_ne hv) (by decide +kernel) p2 ?_
  rw [hS, f_hP]
  exact h
theorem f_O0 : (0 : Int) < fO := by decide +kernel
theorem f_mmc (a b c : Int) : a * b * (c * b) = a * c * (b * b) := by rw [Int.mul_assoc, Int.mul_assoc, Int.mul_left_comm b c b]
theorem f_mul9 {x : UInt32} {a : Nat} (hx : fB x (-56) 56) (ha : a ≤ 9) : fB (FP.fmul x (FP.i2f (Int32.ofNat a))) (-504) 504 := by
  obtain ⟨hq, zq⟩ := f_whole a (by omega)
  have hO := f_O0
  have hO2 : (0 : Int) ≤ fO * fO := Int.mul_nonneg (Int.le_of_lt hO) (Int.le_of_lt hO)
  have ha0 : (0 : Int) ≤ (a : Int) * fO := Int.mul_nonneg (Int.natCast_nonneg _) (Int.le_of_lt hO)
  obtain ⟨v, v1, v2⟩ := f_int 504 (by decide) (by decide)
  obtain ⟨u, u1, u2⟩ := f_int (-504) (by decide) (by decide)
  have l1 : fz (FP.fmul x (FP.i2f (Int32.ofNat a))) ≤ fz v := by
    refine f_mul_le hx.1 hq v1 ?_
    rw [zq, v2]
    refine Int.le_trans (Int.mul_le_mul_of_nonneg_right hx.2.2 ha0) ?_
    rw [f_mmc, Int.mul_assoc 504]
    exact Int.mul_le_mul_of_nonneg_right (by omega) hO2
  have l2 : fz u ≤ fz (FP.fmul x (FP.i2f (Int32.ofNat a))) := by
    refine f_mul_ge hx.1 hq u1 ?_
    rw [zq, u2]
    refine Int.le_trans ?_ (Int.mul_le_mul_of_nonneg_right hx.2.1 ha0)
    rw [f_mmc, Int.mul_assoc (-504)]
    exact Int.mul_le_mul_of_nonneg_right (by omega) hO2
  rw [v2] at l1
  rw [u2] at l2
  obtain ⟨s, c, e, ev, -, -⟩ := f_prod hx.1 hq
  exact ⟨f_fin ev (f_small l2 l1 (by decide) (by decide)), l2, l1⟩
theorem f_mulz {x q : UInt32} (hx : FP.Core.FFin x) (hq : FP.Core.FFin q) (h0 : fz x = 0) : fz (FP.fmul x q) = 0 := by
  have a := f_mul_le hx hq f_0.1 (by rw [h0, f_0.2, Int.zero_mul, Int.zero_mul]; exact Int.le_refl _)
  have b := f_mul_ge hx hq f_0.1 (by rw [h0, f_0.2, Int.zero_mul, Int.zero_mul]; exact Int.le_refl _)
  rw [f_0.2] at a b
  exact Int.le_antisymm a b
theorem f_addz {x y : UInt32} (hx : FP.Core.FFin x) (hy : FP.Core.FFin y) (h0 : fz y = 0) : fz (FP.fadd x y) = fz x := by
  have a := f_add_le hx hy hx (by rw [h0, Int.add_zero]; exact Int.le_refl _)
  have b := f_add_ge hx hy hx (by rw [h0, Int.add_zero]; exact Int.le_refl _)
  exact Int.le_antisymm a b
theorem f_self {x : UInt32} (hx : FP.Core.FFin x) : fz (FP.fsub x x) = 0 := by
  rw [f_sub]
  obtain ⟨n1, n2⟩ := f_neg hx
  have a := f_add_le hx n1 f_0.1 (by rw [n2, f_0.2, Int.add_right_neg]; exact Int.le_refl _)
  have b := f_add_ge hx n1 f_0.1 (by rw [n2, f_0.2, Int.add_right_neg]; exact Int.le_refl _)
  rw [f_0.2] at a b
  exact Int.le_antisymm a b
theorem f_dist0 {x y : UInt32} (hx : fB x 0 56) (hy : fB y 0 56) : fz (m_dist x y x y) = 0 := by
  obtain ⟨h1, h2, h3⟩ := f_dist hx hy hx hy
  have w : ∀ z, FP.Core.FFin z → fz z = 0 → m_ws z = z := fun z hz h0 => by
    unfold m_ws
    rw [if_pos]
    exact (f_cmp hz f_0.1 .g).2.2.2.mpr (by rw [h0, f_0.2]; exact Int.le_refl _)
  unfold m_dist
  rw [w _ h1.1 (f_self hx.1), w _ h2.1 (f_self hy.1), f_addz h1.1 h2.1 (f_self hy.1), f_self hx.1]
theorem f_40 : fB 1109393408 40 40 := by
  have h : fz 1109393408 = 40 * fO := by decide +kernel
  exact ⟨(FP.Core.fin_bits32 _).mpr (by decide), Int.le_of_eq h.symm, Int.le_of_eq h⟩
theorem f_56 : fB 1113587712 56 56 := by
  have h : fz 1113587712 = 56 * fO := by decide +kernel
  exact ⟨(FP.Core.fin_bits32 _).mpr (by decide), Int.le_of_eq h.symm, Int.le_of_eq h⟩
theorem f_at9 {κ : m_K} {a : Nat} {isY : Bool} (h : m_kOk κ) (ha : a ≤ 9) : fB (m_at9 κ (nI a) isY) (-504) 560 ∧ vf_n32 (FP.fmul (κ.2.1 2) (FP.i2f (nI a))) ∧ vf_n32 (FP.fmul (κ.2.1 3) (FP.i2f (nI a))) := by
  obtain ⟨k0, k1, k2, k3, -⟩ := h
  have m2 : fB (FP.fmul (κ.2.1 2) (FP.i2f (nI a))) (-504) 504 := f_mul9 k2 ha
  have m3 : fB (FP.fmul (κ.2.1 3) (FP.i2f (nI a))) (-504) 504 := f_mul9 k3 ha
  refine ⟨?_, f_n32 m2.1, f_n32 m3.1⟩
  unfold m_at9
  cases isY
  · exact fB_add (a := 0) (b := 56) k0 m2 (by decide) (by decide) (by decide)
  · exact fB_add (a := 0) (b := 56) k1 m3 (by decide) (by decide) (by decide)
theorem f_clamp {z m : UInt32} {B : Int} (h1 : fB z (-504) 560) (hm : fB m B B) (hB : 0 ≤ B) : fB (if 0 ≤ Op.cmpValue (FP.fcmp z FP.fconst0) .g then (if Op.cmpValue (FP.fcmp z m) .l ≤ 0 then z else m) else FP.fconst0) 0 B := by
  have c1 := (f_cmp h1.1 f_0.1 .g).2.2.2
  have c2 := (f_cmp h1.1 hm.1 .l).2.2.1
  rw [f_0.2] at c1
  by_cases y : 0 ≤ Op.cmpValue (FP.fcmp z FP.fconst0) .g
  · rw [if_pos y]
    have z0 := c1.mp y
    by_cases z2 : Op.cmpValue (FP.fcmp z m) .l ≤ 0
    · rw [if_pos z2]
      exact ⟨h1.1, by rw [Int.zero_mul]; exact z0, Int.le_trans (c2.mp z2) hm.2.2⟩
    · rw [if_neg z2]
      exact ⟨hm.1, Int.le_trans (Int.mul_le_mul_of_nonneg_right hB (Int.le_of_lt f_O0)) hm.2.1, hm.2.2⟩
  · rw [if_neg y]
    exact fB_0 (by decide) hB
theorem f_guess {κ : m_K} {a : Nat} {isY : Bool} (h : m_kOk κ) (ha : a ≤ 9) : fB (m_guess κ (nI a) isY) 0 (if isY then 40 else 56) := by
  cases isY
  · exact f_clamp (f_at9 (isY := false) h ha).1 f_56 (by decide)
  · exact f_clamp (f_at9 (isY := true) h ha).1 f_40 (by decide)
/-- who doesn't move is guessed where it is -/
theorem f_guess0 {κ : m_K} {a : Nat} (h : m_kOk κ) (ha : a ≤ 9) (h0 : fz (κ.2.1 2) = 0) : fz (m_guess κ (nI a) false) = fz (κ.2.1 0) := by
  obtain ⟨h1, -, -⟩ := f_at9 (isY := false) h ha
  obtain ⟨k0, k1, k2, k3, -⟩ := h
  have e : fz (m_at9 κ (nI a) false) = fz (κ.2.1 0) := f_addz k0.1 (f_mul9 k2 ha).1 (f_mulz k2.1 (f_whole a (by omega)).1 h0)
  have c1 := (f_cmp h1.1 f_0.1 .g).2.2.2
  have c2 := (f_cmp h1.1 f_56.1 .l).2.2.1
  rw [f_0.2, e] at c1
  rw [e] at c2
  have z1 := c1.mpr (by have := k0.2.1; rwa [Int.zero_mul] at this)
  have z2 := c2.mpr (Int.le_trans k0.2.2 f_56.2.1)
  unfold m_guess
  rw [if_pos z1]
  show fz (if Op.cmpValue (FP.fcmp (m_at9 κ (nI a) false) 1113587712) .l ≤ 0 then m_at9 κ (nI a) false else 1113587712) = _
  rw [if_pos z2, e]
/-! doubles -/
theorem d_n64 {x : UInt64} (h : FP.Core.val64 x ≠ .nan) : vf_n64 x := by
  have h1 := (FP.Core.ne_nan x).mp h
  unfold vf_n64
  rw [UInt64.le_iff_toNat_le, UInt64.toNat_and]
  show x.toNat &&& (2 ^ 63 - 1) ≤ 9218868437227405312
  rw [Nat.and_two_pow_sub_one_eq_mod]
  exact h1
theorem f_d {x : UInt32} (hx : FP.Core.FFin x) : FP.Core.DFin (FP.f2d x) ∧ dz (FP.f2d x) = fz x * 2 ^ 925 := by
  obtain ⟨s, c, q, e⟩ := id hx
  have fx := f_fits x
  rw [e] at fx
  obtain ⟨hc, hq1, hq2, -⟩ := fx
  have e1 : FP.f2d x = FP.Core.f2d x := FP.f2d_core ((FP.Core.notNaN_iff32 x).mpr (f_ne hx))
  obtain ⟨c', q', r1, r2⟩ := FP.Core.round_exact FP.Core.good_b64 s (c := c) (q := q) (Nat.lt_of_lt_of_le hc (by decide +kernel)) (Int.le_trans (by decide +kernel) hq1) (Int.le_trans hq2 (by decide +kernel))
  have hv : FP.Core.val64 (FP.f2d x) = .fin s c' q' := by
    rw [e1, FP.Core.val64_f2d, e]
    exact r1
  refine ⟨⟨_, _, _, hv⟩, ?_⟩
  unfold dz fz
  rw [hv, e]
  show FP.Core.signed s (FP.Core.inUnits c' q' FP.Core.b64.qmin) = FP.Core.signed s (FP.Core.inUnits c q FP.Core.b32.qmin) * 2 ^ 925
  have hp : (q - FP.Core.b64.qmin).toNat = (q - FP.Core.b32.qmin).toNat + 925 := by
    have a1 : FP.Core.b64.qmin = -1074 := by decide +kernel
    have a2 : FP.Core.b32.qmin = -149 := by decide +kernel
    rw [a1, a2]
    rw [a2] at hq1
    omega
  have h2 : ((2 ^ 925 : Nat) : Int) = 2 ^ 925 := by decide +kernel
  rw [r2]
  unfold FP.Core.inUnits
  rw [hp, Nat.pow_add, ← Nat.mul_assoc, FP.Core.signed_mul, h2]
theorem f_dcmp {x y : UInt32} (hx : FP.Core.FFin x) (hy : FP.Core.FFin y) : FP.dcmp (FP.f2d x) (FP.f2d y) = FP.fcmp x y := by
  obtain ⟨⟨s, c, q, e⟩, x2⟩ := f_d hx
  obtain ⟨⟨t, d, r, e'⟩, y2⟩ := f_d hy
  have h1 : FP.fcmp x y = some (compare (fz x) (fz y)) := FP.Core.order_zval FP.Core.good_b32 (f_fits x) (f_fits y) (f_ne hx) (f_ne hy)
  have h2 : FP.dcmp (FP.f2d x) (FP.f2d y) = some (compare (dz (FP.f2d x)) (dz (FP.f2d y))) := FP.Core.dcmp_zval (by rw [e]; exact FP.Core.Datum.noConfusion) (by rw [e']; exact FP.Core.Datum.noConfusion)
  rw [h1, h2, x2, y2]
  have hk : (0 : Int) < 2 ^ 925 := by decide +kernel
  generalize (2 : Int) ^ 925 = k at hk ⊢
  congr 1
  rcases Int.lt_trichotomy (fz x) (fz y) with h | h | h
  · have g := Int.mul_lt_mul_of_pos_right h hk
    simp [compare, compareOfLessAndEq, h, g]
  · rw [h]
    simp [compare, compareOfLessAndEq]
  · have g := Int.mul_lt_mul_of_pos_right h hk
    have h2 : ¬ fz x < fz y := by omega
    have h3 : ¬ fz x = fz y := by omega
    have g2 : ¬ fz x * k < fz y * k := by omega
    have g3 : ¬ fz x * k = fz y * k := by omega
    simp [compare, compareOfLessAndEq, h2, h3, g2, g3]
theorem d_f2d {x : UInt32} (hx : FP.Core.FFin x) : vf_n64 (FP.f2d x) := by
  obtain ⟨⟨s, c, q, e⟩, -⟩ := f_d hx
  exact d_n64 (by rw [e]; exact FP.Core.Datum.noConfusion)
theorem d_mul {x y : UInt64} (hx : FP.Core.DFin x) (hy : FP.Core.DFin y) : vf_n64 (FP.dmul x y) := by
  obtain ⟨s, c, q, e⟩ := hx
  obtain ⟨t, d, r, e'⟩ := hy
  refine d_n64 ?_
  have hv : FP.Core.val64 (FP.dmul x y) = FP.Core.roundRatio FP.Core.b64 (s != t) (c * d) 1 (q + r) := by
    show FP.Core.val64 (FP.Core.dmul x y) = _
    rw [FP.Core.val64_dmul, e, e']
    rfl
  rcases FP.Core.roundRatio_cases FP.Core.b64 (s != t) (c * d) 1 (q + r) with ⟨c', q', h⟩ | h <;> rw [hv, h] <;> exact FP.Core.Datum.noConfusion
theorem d_0 : FP.dconst0 = FP.f2d FP.fconst0 := by decide +kernel
theorem d_56 : (4633078116657397760 : UInt64) = FP.f2d 1113587712 := by decide +kernel
theorem d_40 : (4630826316843712512 : UInt64) = FP.f2d 1109393408 := by decide +kernel
theorem d_16 : FP.Core.DFin 4625196817309499392 := (FP.Core.fin_bits _).mpr (by decide)
end Flo
