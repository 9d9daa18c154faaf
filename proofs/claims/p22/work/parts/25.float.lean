/-! ===== floats of the class: finite numbers as whole multiples of the least one ===== -/
/-- a float in units of the least one -/
def fz (x : UInt32) : Int := FP.Core.zval FP.Core.b32 (FP.Core.val32 x)
def fO : Int := 2 ^ 149
/-- finite, and between two whole numbers -/
def fB (x : UInt32) (lo hi : Int) : Prop := FP.Core.FFin x ∧ lo * fO ≤ fz x ∧ fz x ≤ hi * fO
section Fl
theorem f_eadd (x y : UInt32) : FP.fadd x y = FP.Core.fadd x y := rfl
theorem f_esub (x y : UInt32) : FP.fsub x y = FP.Core.fsub x y := rfl
theorem f_emul (x y : UInt32) : FP.fmul x y = FP.Core.fmul x y := rfl
theorem f_ei2f (x : Int32) : FP.i2f x = FP.Core.i2f x := rfl
theorem f_sub (x y : UInt32) : FP.fsub x y = FP.fadd x (FP.Core.fneg y) := FP.Core.fsub_eq x y
theorem f_ne {x : UInt32} (h : FP.Core.FFin x) : FP.Core.val32 x ≠ .nan := by
  obtain ⟨s, c, q, e⟩ := h
  rw [e]
  exact FP.Core.Datum.noConfusion
theorem f_fits (x : UInt32) : FP.Core.fits FP.Core.b32 (FP.Core.val32 x) := FP.Core.val32_fits x
theorem f_n32 {x : UInt32} (h : FP.Core.FFin x) : vf_n32 x := by
  have h1 := (FP.Core.fin_bits32 x).mp h
  unfold vf_n32
  rw [UInt32.le_iff_toNat_le, UInt32.toNat_and]
  show x.toNat &&& (2 ^ 31 - 1) ≤ 2139095040
  rw [Nat.and_two_pow_sub_one_eq_mod]
  omega
theorem f_fin {r : UInt32} {s : Bool} {c : Nat} {q : Int} (hv : FP.Core.val32 r = FP.Core.round FP.Core.b32 (.fin s c q)) (h : (fz r).natAbs < 2 ^ 170) : FP.Core.FFin r := by
  rcases FP.Core.roundRatio_cases FP.Core.b32 s c 1 q with ⟨c', q', e⟩ | e
  · exact ⟨s, c', q', hv.trans e⟩
  · exfalso
    have e2 : FP.Core.val32 r = .inf s := hv.trans e
    unfold fz at h
    rw [e2] at h
    unfold FP.Core.zval at h
    rw [FP.Core.natAbs_signed] at h
    have h9 : ∀ s : Bool, ¬ FP.Core.zmag FP.Core.b32 (FP.Core.Datum.inf s) < 2 ^ 170 := by decide +kernel
    exact absurd h (h9 s)
theorem f_add {x y : UInt32} (hx : FP.Core.FFin x) (hy : FP.Core.FFin y) : ∃ s c q, FP.Core.val32 (FP.fadd x y) = FP.Core.round FP.Core.b32 (.fin s c q) ∧ FP.Core.b32.qmin ≤ q ∧ FP.Core.signed s (FP.Core.inUnits c q FP.Core.b32.qmin) = fz x + fz y := by
  obtain ⟨s, c, q, ex⟩ := hx
  obtain ⟨t, d, r, ey⟩ := hy
  have fx := f_fits x
  have fy := f_fits y
  rw [ex] at fx
  rw [ey] at fy
  obtain ⟨sg, n, e, h1, h2, h3⟩ := FP.Core.sum_units fx fy
  refine ⟨sg, n, e, ?_, h2, ?_⟩
  · rw [f_eadd, FP.Core.val32_fadd, ex, ey, h1]
  · unfold fz
    rw [ex, ey]
    exact h3
theorem f_add_le {x y v : UInt32} (hx : FP.Core.FFin x) (hy : FP.Core.FFin y) (hv : FP.Core.FFin v) (h : fz x + fz y ≤ fz v) : fz (FP.fadd x y) ≤ fz v := by
  obtain ⟨s, c, q, e, h1, h2⟩ := f_add hx hy
  unfold fz
  rw [e]
  refine FP.Core.zval_round_le FP.Core.good_b32 (f_fits v) (f_ne hv) (Int.le_refl _) h1 ?_
  rw [h2, Int.sub_self]
  show fz x + fz y ≤ fz v * 1
  rw [Int.mul_one]
  exact h
theorem f_add_ge {x y v : UInt32} (hx : FP.Core.FFin x) (hy : FP.Core.FFin y) (hv : FP.Core.FFin v) (h : fz v ≤ fz x + fz y) : fz v ≤ fz (FP.fadd x y) := by
  obtain ⟨s, c, q, e, h1, h2⟩ := f_add hx hy
  unfold fz
  rw [e]
  refine FP.Core.zval_round_ge FP.Core.good_b32 (f_fits v) (f_ne hv) (Int.le_refl _) h1 ?_
  rw [h2, Int.sub_self]
  show fz v * 1 ≤ fz x + fz y
  rw [Int.mul_one]
  exact h
theorem f_neg {x : UInt32} (hx : FP.Core.FFin x) : FP.Core.FFin (FP.Core.fneg x) ∧ fz (FP.Core.fneg x) = - fz x := by
  obtain ⟨s, c, q, e⟩ := hx
  constructor
  · exact ⟨!s, c, q, by rw [FP.Core.val32_fneg, e]; rfl⟩
  · unfold fz
    rw [FP.Core.val32_fneg, FP.Core.zval_negate]
/-- whole numbers are floats -/
theorem f_whole (k : Nat) (hk : k < 1025) : FP.Core.FFin (FP.i2f (Int32.ofNat k)) ∧ fz (FP.i2f (Int32.ofNat k)) = (k : Int) * fO := by
  obtain ⟨c', q', e, hu⟩ := FP.Core.round_exact FP.Core.good_b32 false (c := k) (q := 0) (by show k < 2 ^ 24; omega) (by decide +kernel) (by decide +kernel)
  have hi : (Int32.ofNat k).toInt = (k : Int) := nI_toInt (by omega)
  have hv : FP.Core.val32 (FP.i2f (Int32.ofNat k)) = .fin false c' q' := by
    rw [f_ei2f, FP.Core.val32_i2f, hi, ← e]
    show FP.Core.round FP.Core.b32 (.fin (decide ((k : Int) < 0)) (k : Int).natAbs 0) = _
    rw [show decide ((k : Int) < 0) = false from decide_eq_false (by omega), Int.natAbs_natCast]
  refine ⟨⟨_, _, _, hv⟩, ?_⟩
  unfold fz
  rw [hv]
  show ((FP.Core.inUnits c' q' FP.Core.b32.qmin : Nat) : Int) = _
  rw [hu]
  show ((k * 2 ^ ((0 : Int) - FP.Core.b32.qmin).toNat : Nat) : Int) = (k : Int) * fO
  rw [show ((0 : Int) - FP.Core.b32.qmin).toNat = 149 from by decide +kernel, Int.natCast_mul]
  rfl
/-- a float at a whole number between -1024 and 1024 -/
theorem f_int (k : Int) (h1 : -1024 ≤ k) (h2 : k ≤ 1024) : ∃ v : UInt32, FP.Core.FFin v ∧ fz v = k * fO := by
  rcases Int.le_total 0 k with h | h
  · obtain ⟨n, rfl⟩ := Int.eq_ofNat_of_zero_le h
    exact ⟨_, f_whole n (by omega)⟩
  · obtain ⟨n, hn⟩ := Int.eq_ofNat_of_zero_le (show 0 ≤ -k by omega)
    have hw := f_whole n (by omega)
    refine ⟨FP.Core.fneg (FP.i2f (Int32.ofNat n)), (f_neg hw.1).1, ?_⟩
    rw [(f_neg hw.1).2, hw.2, ← Int.neg_mul]
    congr 1
    omega
theorem f_small {z : Int} {a b : Int} (h1 : a * fO ≤ z) (h2 : z ≤ b * fO) (ha : -1024 ≤ a) (hb : b ≤ 1024) : z.natAbs < 2 ^ 170 := by
  have e1 : (-1024 : Int) * fO ≤ a * fO := Int.mul_le_mul_of_nonneg_right ha (by decide +kernel)
  have e2 : b * fO ≤ (1024 : Int) * fO := Int.mul_le_mul_of_nonneg_right hb (by decide +kernel)
  have e3 : (1024 : Int) * fO < 2 ^ 170 := by decide +kernel
  have e4 : (-(2 ^ 170) : Int) < -1024 * fO := by decide +kernel
  omega
theorem fB_add {x y : UInt32} {a b c d : Int} (hx : fB x a b) (hy : fB y c d) (h1 : -1024 ≤ a + c) (h2 : b + d ≤ 1024) (h3 : a + c ≤ b + d) : fB (FP.fadd x y) (a + c) (b + d) := by
  obtain ⟨v, v1, v2⟩ := f_int (a + c) h1 (by omega)
  obtain ⟨w, w1, w2⟩ := f_int (b + d) (by omega) h2
  have l1 := f_add_ge hx.1 hy.1 v1 (by rw [v2, Int.add_mul]; exact Int.add_le_add hx.2.1 hy.2.1)
  have l2 := f_add_le hx.1 hy.1 w1 (by rw [w2, Int.add_mul]; exact Int.add_le_add hx.2.2 hy.2.2)
  rw [v2] at l1
  rw [w2] at l2
  obtain ⟨s, c', q, e, -⟩ := f_add hx.1 hy.1
  exact ⟨f_fin e (f_small l1 l2 h1 h2), l1, l2⟩
theorem fB_neg {x : UInt32} {a b : Int} (hx : fB x a b) : fB (FP.Core.fneg x) (-b) (-a) := by
  obtain ⟨h1, h2⟩ := f_neg hx.1
  refine ⟨h1, ?_, ?_⟩
  · rw [h2, Int.neg_mul]
    exact Int.neg_le_neg hx.2.2
  · rw [h2, Int.neg_mul]
    exact Int.neg_le_neg hx.2.1
theorem fB_sub {x y : UInt32} {a b c d : Int} (hx : fB x a b) (hy : fB y c d) (h1 : -1024 ≤ a - d) (h2 : b - c ≤ 1024) (h3 : a - d ≤ b - c) : fB (FP.fsub x y) (a - d) (b - c) := by
  rw [f_sub]
  have := fB_add hx (fB_neg hy) (by omega) (by omega) (by omega)
  rwa [← Int.sub_eq_add_neg, ← Int.sub_eq_add_neg] at this
theorem fB_mono {x : UInt32} {a b a' b' : Int} (hx : fB x a b) (h1 : a' ≤ a) (h2 : b ≤ b') : fB x a' b' :=
  ⟨hx.1, Int.le_trans (Int.mul_le_mul_of_nonneg_right h1 (by decide +kernel)) hx.2.1, Int.le_trans hx.2.2 (Int.mul_le_mul_of_nonneg_right h2 (by decide +kernel))⟩
theorem fB_whole {k : Nat} (h : k ≤ 1024) : fB (FP.i2f (Int32.ofNat k)) k k := by
  obtain ⟨h1, h2⟩ := f_whole k (by omega)
  exact ⟨h1, Int.le_of_eq h2.symm, Int.le_of_eq h2⟩
/-- the four quarters -/
theorem f_quarter {d : Nat} (h1 : 1 ≤ d) (h2 : d ≤ 4) : FP.Core.FFin (FP.fdiv (FP.i2f (Int32.ofNat d)) 0x40800000) ∧ 0 ≤ fz (FP.fdiv (FP.i2f (Int32.ofNat d)) 0x40800000) ∧ fz (FP.fdiv (FP.i2f (Int32.ofNat d)) 0x40800000) ≤ fO := by
  have h : ∀ d : Nat, d < 5 → (FP.fdiv (FP.i2f (Int32.ofNat d)) 0x40800000).toNat % 2 ^ 31 < 2139095040 ∧ 0 ≤ FP.Core.zval FP.Core.b32 (FP.Core.val32 (FP.fdiv (FP.i2f (Int32.ofNat d)) 0x40800000)) ∧ FP.Core.zval FP.Core.b32 (FP.Core.val32 (FP.fdiv (FP.i2f (Int32.ofNat d)) 0x40800000)) ≤ 2 ^ 149 := by decide +kernel
  obtain ⟨a, b⟩ := h d (by omega)
  exact ⟨(FP.Core.fin_bits32 _).mpr a, b⟩
/-- a part of a number lies between 0 and it -/
theorem f_part {x q : UInt32} (hx : FP.Core.FFin x) (hq : FP.Core.FFin q) (h0 : 0 ≤ fz q) (h1 : fz q ≤ fO) : (0 ≤ fz x → 0 ≤ fz (FP.fmul x q) ∧ fz (FP.fmul x q) ≤ fz x) ∧ (fz x ≤ 0 → fz x ≤ fz (FP.fmul x q) ∧ fz (FP.fmul x q) ≤ 0) := by
  obtain ⟨s, c, e, ex⟩ := id hx
  obtain ⟨t, d, r, eq⟩ := id hq
  have fx := f_fits x
  have fq := f_fits q
  rw [ex] at fx
  rw [eq] at fq
  obtain ⟨p1, p2, p3⟩ := FP.Core.product_units fx fq
  have ev : FP.Core.val32 (FP.fmul x q) = FP.Core.round FP.Core.b32 (.fin (s != t) (c * d) (e + r)) := by rw [f_emul, FP.Core.val32_fmul, ex, eq, p1]
  have hP : ((2 ^ (FP.Core.b32.qmin - 2 * FP.Core.b32.qmin).toNat : Nat) : Int) = fO := by decide +kernel
  have zx : fz x = FP.Core.signed s (FP.Core.zmag FP.Core.b32 (.fin s c e)) := by unfold fz; rw [ex]; rfl
  have zq : fz q = FP.Core.signed t (FP.Core.zmag FP.Core.b32 (.fin t d r)) := by unfold fz; rw [eq]; rfl
  generalize FP.Core.zmag FP.Core.b32 (.fin s c e) = X at zx p3
  generalize FP.Core.zmag FP.Core.b32 (.fin t d r) = Q at zq p3
  have hQ : (Q : Int) ≤ fO := by
    cases t <;> simp only [FP.Core.signed, if_true, Bool.false_eq_true, if_false] at zq
    · omega
    · have : (0 : Int) < fO := by decide +kernel
      omega
  have ht : t = true → Q = 0 := by
    rintro rfl
    simp only [FP.Core.signed, if_true] at zq
    omega
  have hS : FP.Core.signed (s != t) (FP.Core.inUnits (c * d) (e + r) (2 * FP.Core.b32.qmin)) = fz x * (Q : Int) := by
    rw [p3, zx]
    cases t
    · simp only [Bool.bne_false]
      exact FP.Core.signed_mul _ _ _
    · rw [ht rfl]
      simp [FP.Core.signed]
  have z0 : FP.Core.FFin (FP.i2f (Int32.ofNat 0)) ∧ fz (FP.i2f (Int32.ofNat 0)) = 0 := by
    obtain ⟨a, b⟩ := f_whole 0 (by decide +kernel)
    exact ⟨a, by rw [b]; simp⟩
  have le (v : UInt32) (hv : FP.Core.FFin v) (h : fz x * (Q : Int) ≤ fz v * fO) : fz (FP.fmul x q) ≤ fz v := by
    unfold fz
    rw [ev]
    refine FP.Core.zval_round_le FP.Core.good_b32 (e0 := 2 * FP.Core.b32.qmin) (f_fits v) (f_ne hv) (by decide +kernel) p2 ?_
    rw [hS, hP]
    exact h
  have ge (v : UInt32) (hv : FP.Core.FFin v) (h : fz v * fO ≤ fz x * (Q : Int)) : fz v ≤ fz (FP.fmul x q) := by
    unfold fz
    rw [ev]
    refine FP.Core.zval_round_ge FP.Core.good_b32 (e0 := 2 * FP.Core.b32.qmin) (f_fits v) (f_ne hv) (by decide +kernel) p2 ?_
    rw [hS, hP]
    exact h
  have hQ0 : (0 : Int) ≤ (Q : Int) := Int.natCast_nonneg _
  constructor
  · intro hp
    have g1 : 0 ≤ fz x * (Q : Int) := Int.mul_nonneg hp hQ0
    have g2 : fz x * (Q : Int) ≤ fz x * fO := Int.mul_le_mul_of_nonneg_left hQ hp
    have a := ge _ z0.1 (by rw [z0.2, Int.zero_mul]; exact g1)
    rw [z0.2] at a
    exact ⟨a, le _ hx g2⟩
  · intro hp
    have g1 : fz x * (Q : Int) ≤ 0 := by
      have := Int.mul_nonneg (show 0 ≤ -fz x by omega) hQ0
      rw [Int.neg_mul] at this
      omega
    have g2 : fz x * fO ≤ fz x * (Q : Int) := by
      have := Int.mul_le_mul_of_nonneg_left hQ (show 0 ≤ -fz x by omega)
      rw [Int.neg_mul, Int.neg_mul] at this
      omega
    have a := le _ z0.1 (by rw [z0.2, Int.zero_mul]; exact g1)
    rw [z0.2] at a
    exact ⟨ge _ hx g2, a⟩
/-- how far a sum is rounded, between 0 and 57 -/
theorem f_err {x y : UInt32} (hx : FP.Core.FFin x) (hy : FP.Core.FFin y) (h0 : 0 ≤ fz x + fz y) (h1 : fz x + fz y ≤ 57 * fO) : (fz (FP.fadd x y) - (fz x + fz y)).natAbs ≤ 2 ^ 130 := by
  obtain ⟨s, c, q, e, hq, hs⟩ := f_add hx hy
  have hf : FP.Core.FFin (FP.fadd x y) := by
    obtain ⟨v, v1, v2⟩ := f_int 0 (by decide +kernel) (by decide +kernel)
    obtain ⟨w, w1, w2⟩ := f_int 57 (by decide +kernel) (by decide +kernel)
    have a := f_add_ge hx hy v1 (by rw [v2, Int.zero_mul]; exact h0)
    have b := f_add_le hx hy w1 (by rw [w2]; exact h1)
    rw [v2] at a
    rw [w2] at b
    exact f_fin e (f_small a b (by decide +kernel) (by decide +kernel))
  obtain ⟨t, c2, q2, e2⟩ := hf
  have hR : FP.Core.roundRatio FP.Core.b32 s c 1 q = .fin t c2 q2 := e.symm.trans e2
  have ht : t = s := by
    have := FP.Core.sgn_roundRatio FP.Core.b32 s c 1 q
    rw [hR] at this
    exact this
  subst ht
  have hz : fz (FP.fadd x y) = FP.Core.signed t (FP.Core.inUnits c2 q2 FP.Core.b32.qmin) := by
    unfold fz
    rw [e2]
    rfl
  have hZ : (FP.Core.inUnits c q FP.Core.b32.qmin : Int) = fz x + fz y := by
    rw [← hs]
    rw [← hs] at h0
    cases t
    · rfl
    · simp only [FP.Core.signed, if_true] at h0 ⊢
      omega
  generalize fz x + fz y = S at *
  have hZ2 : FP.Core.inUnits c q FP.Core.b32.qmin + 2 ^ 130 < 2 ^ 131 * 2 ^ 24 := by
    have hO : (57 : Int) * fO < ((2 ^ 131 * 2 ^ 24 - 2 ^ 130 : Nat) : Int) := by decide +kernel
    have h9 : ((FP.Core.inUnits c q FP.Core.b32.qmin : Nat) : Int) < ((2 ^ 131 * 2 ^ 24 - 2 ^ 130 : Nat) : Int) := by
      rw [hZ]
      exact Int.lt_of_le_of_lt h1 hO
    have h10 := Int.ofNat_lt.mp h9
    exact Nat.add_lt_of_lt_sub h10
  have hc : (FP.Core.inUnits c q FP.Core.b32.qmin + 2 ^ 130) / 2 ^ 131 < 2 ^ 24 := Nat.div_lt_of_lt_mul hZ2
  have hd := FP.Core.roundRatio_nearest FP.Core.good_b32 (c' := (FP.Core.inUnits c q FP.Core.b32.qmin + 2 ^ 130) / 2 ^ 131) (q' := -18) (e0 := FP.Core.b32.qmin) (by decide +kernel) hR hc (by decide +kernel) (Int.le_refl _) hq
  unfold FP.Core.distance at hd
  have h18 : ∀ k : Nat, FP.Core.inUnits k (-18) FP.Core.b32.qmin = k * 2 ^ 131 := fun k => by
    unfold FP.Core.inUnits
    rw [show ((-18 : Int) - FP.Core.b32.qmin).toNat = 131 from by decide +kernel]
  rw [h18] at hd
  have hdm := Nat.div_add_mod (FP.Core.inUnits c q FP.Core.b32.qmin + 2 ^ 130) (2 ^ 131)
  have hr := Nat.mod_lt (FP.Core.inUnits c q FP.Core.b32.qmin + 2 ^ 130) (show 2 ^ 131 > 0 by decide +kernel)
  have e131 : (2 ^ 131 : Nat) = 2 * 2 ^ 130 := by decide +kernel
  clear hc hZ2 h18
  generalize (FP.Core.inUnits c q FP.Core.b32.qmin + 2 ^ 130) / 2 ^ 131 = m at *
  generalize (FP.Core.inUnits c q FP.Core.b32.qmin + 2 ^ 130) % 2 ^ 131 = r at *
  rw [e131] at hd hdm hr
  rw [hz]
  generalize FP.Core.inUnits c q FP.Core.b32.qmin = Z at *
  generalize FP.Core.inUnits c2 q2 FP.Core.b32.qmin = R at *
  clear h1 e131 hz
  generalize (2 ^ 130 : Nat) = P at *
  have hm : m * (2 * P) = 2 * P * m := Nat.mul_comm _ _
  rw [hm] at hd
  generalize 2 * P * m = M at *
  cases t
  · simp only [FP.Core.signed, Bool.false_eq_true, if_false]
    omega
  · simp only [FP.Core.signed, if_true] at hs ⊢
    omega
/-- what is no more than half a last digit above 56 becomes no more than 56 -/
theorem f_top {x y : UInt32} (hx : FP.Core.FFin x) (hy : FP.Core.FFin y) (h0 : 0 ≤ fz x + fz y) (h1 : fz x + fz y ≤ 56 * fO + 2 ^ 130) : fz (FP.fadd x y) ≤ 56 * fO := by
  have hO : fO = 2 ^ 19 * 2 ^ 130 := by decide +kernel
  have e131 : (2 ^ 131 : Nat) = 2 * 2 ^ 130 := by decide +kernel
  rcases Classical.em (56 * fO < fz x + fz y) with h2 | h2
  · have h57 : 56 * fO + 2 ^ 130 ≤ 57 * fO := by decide +kernel
    have hbig : 58 * fO < 2 ^ 170 := by decide +kernel
    have hO0 : (0 : Int) < fO := by decide +kernel
    have herr := f_err hx hy h0 (Int.le_trans h1 h57)
    obtain ⟨s, c, q, e, hq, hs⟩ := f_add hx hy
    have hpos : s = false := by
      cases s
      · rfl
      · simp only [FP.Core.signed, if_true] at hs
        omega
    subst hpos
    simp only [FP.Core.signed, Bool.false_eq_true, if_false] at hs
    rcases Int.lt_or_eq_of_le h1 with h3 | h3
    · refine Int.not_lt.mp fun h4 => ?_
      have hf : FP.Core.FFin (FP.fadd x y) := f_fin e (by omega)
      obtain ⟨t, c2, q2, e2⟩ := hf
      have hfit := f_fits (FP.fadd x y)
      rw [e2] at hfit
      have hz : fz (FP.fadd x y) = FP.Core.signed t (FP.Core.inUnits c2 q2 FP.Core.b32.qmin) := by
        unfold fz
        rw [e2]
        rfl
      have hc2 : c2 < 2 ^ 24 := hfit.1
      have hq2 : (-149 : Int) ≤ q2 := hfit.2.1
      rw [hz] at h4 herr
      have ht : t = false := by
        cases t
        · rfl
        · simp only [FP.Core.signed, if_true] at h4
          omega
      subst ht
      simp only [FP.Core.signed, Bool.false_eq_true, if_false] at h4 herr
      have hU : FP.Core.inUnits c2 q2 FP.Core.b32.qmin = c2 * 2 ^ (q2 + 149).toNat := by
        unfold FP.Core.inUnits
        rw [show q2 - FP.Core.b32.qmin = q2 + 149 from by rw [FP.Core.qmin_b32]; omega]
      rw [hU] at h4 herr
      obtain ⟨k, hk⟩ := Int.eq_ofNat_of_zero_le (show 0 ≤ q2 + 149 by omega)
      rw [hk, Int.toNat_natCast] at h4 herr
      rw [hO] at h4 h3
      have hk131 : 131 ≤ k := by
        refine Nat.le_of_not_lt fun hlt => ?_
        have a1 : c2 * 2 ^ k ≤ 2 ^ 24 * 2 ^ 130 := Nat.mul_le_mul (by omega) (Nat.pow_le_pow_right (by decide +kernel) (by omega))
        have a3 : ((2 ^ 24 * 2 ^ 130 : Nat) : Int) ≤ 56 * (2 ^ 19 * 2 ^ 130) := by decide +kernel
        have a4 : ((c2 * 2 ^ k : Nat) : Int) ≤ ((2 ^ 24 * 2 ^ 130 : Nat) : Int) := Int.ofNat_le.mpr a1
        exact absurd (Int.lt_of_lt_of_le h4 (Int.le_trans a4 a3)) (Int.lt_irrefl _)
      obtain ⟨j, rfl⟩ := Nat.exists_eq_add_of_le hk131
      rw [Nat.pow_add] at h4 herr
      have a2 : c2 * (2 ^ 131 * 2 ^ j) = (c2 * 2 ^ j) * (2 * 2 ^ 130) := by
        rw [e131, Nat.mul_comm (2 * 2 ^ 130), Nat.mul_assoc]
      rw [a2] at h4 herr
      generalize fz x + fz y = S at *
      generalize c2 * 2 ^ j = u at h4 herr
      rw [Int.natCast_mul, Int.natCast_mul] at h4 herr
      have hPn : ((2 ^ 130 : Nat) : Int) = (2 : Int) ^ 130 := by decide +kernel
      rw [hPn] at h4 herr
      have hP0 : (0 : Int) < 2 ^ 130 := by decide +kernel
      have hab : (((u : Int) * (((2 : Nat) : Int) * 2 ^ 130)) - S).natAbs ≤ 2 ^ 130 := herr
      have hab2 : ((u : Int) * (((2 : Nat) : Int) * 2 ^ 130)) - S ≤ (2 : Int) ^ 130 := by
        have h7 : ((2 ^ 130 : Nat) : Int) = (2 : Int) ^ 130 := hPn
        rw [← h7]
        exact Int.le_trans Int.le_natAbs (Int.ofNat_le.mpr hab)
      clear herr hab hPn a2 hbig h57 hO e131
      generalize (2 : Int) ^ 130 = P at *
      have hu : (u : Int) * (((2 : Nat) : Int) * P) = 2 * ((u : Int) * P) := by
        rw [← Int.mul_assoc, Int.mul_comm (u : Int) ((2 : Nat) : Int), Int.mul_assoc]
        rfl
      rw [hu] at h4 hab2
      have h5 : (14680064 : Int) < (u : Int) := by
        refine Int.not_le.mp fun hle => ?_
        have := Int.mul_le_mul_of_nonneg_right hle (Int.le_of_lt hP0)
        omega
      have := Int.mul_le_mul_of_nonneg_right (show (14680065 : Int) ≤ (u : Int) by omega) (Int.le_of_lt hP0)
      omega
    · have hU : FP.Core.inUnits c q FP.Core.b32.qmin = c * 2 ^ (q + 149).toNat := by
        unfold FP.Core.inUnits
        rw [show q - FP.Core.b32.qmin = q + 149 from by rw [FP.Core.qmin_b32]; omega]
      have hE : c * 2 ^ (q + 149).toNat = (56 * 2 ^ 19 + 1) * 2 ^ 130 := by
        rw [← hU]
        have h5 : ((FP.Core.inUnits c q FP.Core.b32.qmin : Nat) : Int) = ((56 * 2 ^ 19 + 1) * 2 ^ 130 : Nat) := by
          rw [hs, h3]
          decide +kernel
        exact Int.ofNat.inj h5
      have hR : FP.Core.roundRatio FP.Core.b32 false c 1 q = FP.Core.roundRatio FP.Core.b32 false (56 * 2 ^ 19 + 1) 1 (-19) := by
        refine FP.Core.roundRatio_congr (by decide +kernel) (by decide +kernel) ?_
        rw [Nat.mul_one, Nat.mul_one]
        rcases Int.le_total (-19) q with hq19 | hq19
        · rw [show (-19 - q).toNat = 0 by omega, Nat.pow_zero, Nat.mul_one]
          rw [show (q + 149).toNat = (q - -19).toNat + 130 by omega, Nat.pow_add, ← Nat.mul_assoc] at hE
          exact Nat.eq_of_mul_eq_mul_right (by decide +kernel) hE
        · rw [show (q - -19).toNat = 0 by omega, Nat.pow_zero, Nat.mul_one]
          have hq' : (-149 : Int) ≤ q := hq
          rw [show (130 : Nat) = (-19 - q).toNat + (q + 149).toNat by omega, Nat.pow_add, ← Nat.mul_assoc] at hE
          exact Nat.eq_of_mul_eq_mul_right (Nat.two_pow_pos _) hE
      have hF : FP.Core.zval FP.Core.b32 (FP.Core.roundRatio FP.Core.b32 false (56 * 2 ^ 19 + 1) 1 (-19)) = 56 * 2 ^ 149 := by decide +kernel
      unfold fz
      rw [e]
      show FP.Core.zval FP.Core.b32 (FP.Core.roundRatio FP.Core.b32 false c 1 q) ≤ _
      rw [hR, hF]
      exact Int.le_refl _
  · have h2 := Int.not_lt.mp h2
    obtain ⟨v, v1, v2⟩ := f_int 56 (by decide +kernel) (by decide +kernel)
    have := f_add_le hx hy v1 (by rw [v2]; exact h2)
    rwa [v2] at this
/-- a contact that moves part of its way to a place keeps to the glass -/
theorem f_move {x q : UInt32} {p : Nat} (hx : fB x 0 56) (hp : p ≤ 56) (hq : FP.Core.FFin q) (h0 : 0 ≤ fz q) (h1 : fz q ≤ fO) : fB (FP.fsub (FP.i2f (Int32.ofNat p)) x) (-56) 56 ∧ fB (FP.fmul (FP.fsub (FP.i2f (Int32.ofNat p)) x) q) (-56) 56 ∧ fB (FP.fadd x (FP.fmul (FP.fsub (FP.i2f (Int32.ofNat p)) x) q)) 0 56 := by
  have hbig : 56 * fO < 2 ^ 170 := by decide +kernel
  have h57 : 56 * fO ≤ 57 * fO := by decide +kernel
  have hw := fB_whole (k := p) (by omega)
  have hd : fB (FP.fsub (FP.i2f (Int32.ofNat p)) x) (-56) 56 := fB_mono (fB_sub hw hx (by omega) (by omega) (by omega)) (by omega) (by omega)
  have hpz := (f_whole p (by omega)).2
  have hxf := hx.1
  have hx0 : 0 ≤ fz x := by have := hx.2.1; rwa [Int.zero_mul] at this
  obtain ⟨n1, n2⟩ := f_neg hxf
  have hde : FP.fsub (FP.i2f (Int32.ofNat p)) x = FP.fadd (FP.i2f (Int32.ofNat p)) (FP.Core.fneg x) := f_sub _ _
  obtain ⟨z, z1, z2⟩ := f_int 0 (by decide +kernel) (by decide +kernel)
  rw [Int.zero_mul] at z2
  have hpart := f_part hd.1 hq h0 h1
  have hm : FP.Core.FFin (FP.fmul (FP.fsub (FP.i2f (Int32.ofNat p)) x) q) ∧ ((fz (FP.fsub (FP.i2f (Int32.ofNat p)) x) ≤ fz (FP.fmul (FP.fsub (FP.i2f (Int32.ofNat p)) x) q) ∧ fz (FP.fmul (FP.fsub (FP.i2f (Int32.ofNat p)) x) q) ≤ 0) ∨ (0 ≤ fz (FP.fmul (FP.fsub (FP.i2f (Int32.ofNat p)) x) q) ∧ fz (FP.fmul (FP.fsub (FP.i2f (Int32.ofNat p)) x) q) ≤ fz (FP.fsub (FP.i2f (Int32.ofNat p)) x))) := by
    have hor : (fz (FP.fsub (FP.i2f (Int32.ofNat p)) x) ≤ fz (FP.fmul (FP.fsub (FP.i2f (Int32.ofNat p)) x) q) ∧ fz (FP.fmul (FP.fsub (FP.i2f (Int32.ofNat p)) x) q) ≤ 0) ∨ (0 ≤ fz (FP.fmul (FP.fsub (FP.i2f (Int32.ofNat p)) x) q) ∧ fz (FP.fmul (FP.fsub (FP.i2f (Int32.ofNat p)) x) q) ≤ fz (FP.fsub (FP.i2f (Int32.ofNat p)) x)) := by
      rcases Int.le_total 0 (fz (FP.fsub (FP.i2f (Int32.ofNat p)) x)) with h | h
      · exact Or.inr (hpart.1 h)
      · exact Or.inl (hpart.2 h)
    refine ⟨?_, hor⟩
    obtain ⟨s, c, e, ex⟩ := hd.1
    obtain ⟨t, d', r, eq⟩ := id hq
    refine f_fin (s := s != t) (c := c * d') (q := e + r) (by rw [f_emul, FP.Core.val32_fmul, ex, eq]; rfl) ?_
    have a1 := hd.2.1
    have a2 := hd.2.2
    omega
  generalize FP.fmul (FP.fsub (FP.i2f (Int32.ofNat p)) x) q = dx at hm ⊢
  have hdx : fB dx (-56) 56 := by
    have a1 := hd.2.1
    have a2 := hd.2.2
    refine ⟨hm.1, ?_, ?_⟩ <;> rcases hm.2 with h | h <;> omega
  refine ⟨hd, hdx, ?_⟩
  have hadd := fB_add hx hdx (by decide +kernel) (by decide +kernel) (by decide +kernel)
  refine ⟨hadd.1, ?_, ?_⟩
  · rw [Int.zero_mul, ← z2]
    refine f_add_ge hxf hm.1 z1 ?_
    rw [z2]
    rcases hm.2 with h | h
    · have := f_add_ge (f_whole p (by omega)).1 n1 n1 (by rw [hpz]; have : (0 : Int) ≤ (p : Int) * fO := Int.mul_nonneg (by omega) (by decide +kernel); omega)
      rw [n2, ← hde] at this
      omega
    · omega
  · rcases hm.2 with h | h
    · have := f_add_le hxf hm.1 hxf (by omega)
      exact Int.le_trans this hx.2.2
    · refine f_top hxf hm.1 (by omega) ?_
      rcases Classical.em ((p : Int) * fO < fz x) with hlt | hge
      · have a := f_add_le (f_whole p (by omega)).1 n1 z1 (by rw [hpz, n2, z2]; omega)
        rw [← hde, z2] at a
        have a5 := hx.2.2
        omega
      · have hge := Int.not_lt.mp hge
        have herr := f_err (f_whole p (by omega)).1 n1 (by rw [hpz, n2]; omega) (by
          rw [hpz, n2]
          have : (p : Int) * fO ≤ 56 * fO := Int.mul_le_mul_of_nonneg_right (by omega) (by decide +kernel)
          omega)
        rw [← hde, hpz, n2] at herr
        have : (p : Int) * fO ≤ 56 * fO := Int.mul_le_mul_of_nonneg_right (by omega) (by decide +kernel)
        omega
end Fl
