/-! ===== the reference's contact: its floats, its ways ===== -/
theorem dX9_init_0 : decode cX9_init 0 = .ok (.aload_n 0, 1) := by decide +kernel
theorem dX9_init_1 : decode cX9_init 1 = .ok (.invokespecial 3, 3) := by decide +kernel
theorem dX9_init_4 : decode cX9_init 4 = .ok (.aload_n 0, 1) := by decide +kernel
theorem dX9_init_5 : decode cX9_init 5 = .ok (.iconst 5, 1) := by decide +kernel
theorem dX9_init_6 : decode cX9_init 6 = .ok (.newarray .float, 2) := by decide +kernel
theorem dX9_init_8 : decode cX9_init 8 = .ok (.putfield 9, 3) := by decide +kernel
theorem dX9_init_11 : decode cX9_init 11 = .ok (.aload_n 0, 1) := by decide +kernel
theorem dX9_init_12 : decode cX9_init 12 = .ok (.iconst 1, 1) := by decide +kernel
theorem dX9_init_13 : decode cX9_init 13 = .ok (.putfield 15, 3) := by decide +kernel
theorem dX9_init_16 : decode cX9_init 16 = .ok (.aload_n 0, 1) := by decide +kernel
theorem dX9_init_17 : decode cX9_init 17 = .ok (.iload_n 1, 1) := by decide +kernel
theorem dX9_init_18 : decode cX9_init 18 = .ok (.i2f, 1) := by decide +kernel
theorem dX9_init_19 : decode cX9_init 19 = .ok (.putfield 19, 3) := by decide +kernel
theorem dX9_init_22 : decode cX9_init 22 = .ok (.aload_n 0, 1) := by decide +kernel
theorem dX9_init_23 : decode cX9_init 23 = .ok (.iload_n 2, 1) := by decide +kernel
theorem dX9_init_24 : decode cX9_init 24 = .ok (.i2f, 1) := by decide +kernel
theorem dX9_init_25 : decode cX9_init 25 = .ok (.putfield 23, 3) := by decide +kernel
theorem dX9_init_28 : decode cX9_init 28 = .ok (.aload_n 0, 1) := by decide +kernel
theorem dX9_init_29 : decode cX9_init 29 = .ok (.iload_n 3, 1) := by decide +kernel
theorem dX9_init_30 : decode cX9_init 30 = .ok (.putfield 26, 3) := by decide +kernel
theorem dX9_init_33 : decode cX9_init 33 = .ok (.aload_n 0, 1) := by decide +kernel
theorem dX9_init_34 : decode cX9_init 34 = .ok (.iload_n 1, 1) := by decide +kernel
theorem dX9_init_35 : decode cX9_init 35 = .ok (.i2f, 1) := by decide +kernel
theorem dX9_init_36 : decode cX9_init 36 = .ok (.putfield 29, 3) := by decide +kernel
theorem dX9_init_39 : decode cX9_init 39 = .ok (.aload_n 0, 1) := by decide +kernel
theorem dX9_init_40 : decode cX9_init 40 = .ok (.iload_n 2, 1) := by decide +kernel
theorem dX9_init_41 : decode cX9_init 41 = .ok (.i2f, 1) := by decide +kernel
theorem dX9_init_42 : decode cX9_init 42 = .ok (.putfield 32, 3) := by decide +kernel
theorem dX9_init_45 : decode cX9_init 45 = .ok (.aload_n 0, 1) := by decide +kernel
theorem dX9_init_46 : decode cX9_init 46 = .ok (.iload_n 1, 1) := by decide +kernel
theorem dX9_init_47 : decode cX9_init 47 = .ok (.putfield 35, 3) := by decide +kernel
theorem dX9_init_50 : decode cX9_init 50 = .ok (.aload_n 0, 1) := by decide +kernel
theorem dX9_init_51 : decode cX9_init 51 = .ok (.iload_n 2, 1) := by decide +kernel
theorem dX9_init_52 : decode cX9_init 52 = .ok (.putfield 38, 3) := by decide +kernel
theorem dX9_init_55 : decode cX9_init 55 = .ok (.return_, 1) := by decide +kernel
theorem dX9_to_0 : decode cX9_to 0 = .ok (.aload_n 0, 1) := by decide +kernel
theorem dX9_to_1 : decode cX9_to 1 = .ok (.getfield 19, 3) := by decide +kernel
theorem dX9_to_4 : decode cX9_to 4 = .ok (.aload_n 1, 1) := by decide +kernel
theorem dX9_to_5 : decode cX9_to 5 = .ok (.getfield 19, 3) := by decide +kernel
theorem dX9_to_8 : decode cX9_to 8 = .ok (.fsub, 1) := by decide +kernel
theorem dX9_to_9 : decode cX9_to 9 = .ok (.invokestatic 41, 3) := by decide +kernel
theorem dX9_to_12 : decode cX9_to 12 = .ok (.aload_n 0, 1) := by decide +kernel
theorem dX9_to_13 : decode cX9_to 13 = .ok (.getfield 23, 3) := by decide +kernel
theorem dX9_to_16 : decode cX9_to 16 = .ok (.aload_n 1, 1) := by decide +kernel
theorem dX9_to_17 : decode cX9_to 17 = .ok (.getfield 23, 3) := by decide +kernel
theorem dX9_to_20 : decode cX9_to 20 = .ok (.fsub, 1) := by decide +kernel
theorem dX9_to_21 : decode cX9_to 21 = .ok (.invokestatic 41, 3) := by decide +kernel
theorem dX9_to_24 : decode cX9_to 24 = .ok (.fadd, 1) := by decide +kernel
theorem dX9_to_25 : decode cX9_to 25 = .ok (.freturn, 1) := by decide +kernel
theorem dX9_go_0 : decode cX9_go 0 = .ok (.iload_n 3, 1) := by decide +kernel
theorem dX9_go_1 : decode cX9_go 1 = .ok (.i2f, 1) := by decide +kernel
theorem dX9_go_2 : decode cX9_go 2 = .ok (.ldc 47, 2) := by decide +kernel
theorem dX9_go_4 : decode cX9_go 4 = .ok (.fdiv, 1) := by decide +kernel
theorem dX9_go_5 : decode cX9_go 5 = .ok (.fstore 4, 2) := by decide +kernel
theorem dX9_go_7 : decode cX9_go 7 = .ok (.aload_n 0, 1) := by decide +kernel
theorem dX9_go_8 : decode cX9_go 8 = .ok (.dup, 1) := by decide +kernel
theorem dX9_go_9 : decode cX9_go 9 = .ok (.getfield 15, 3) := by decide +kernel
theorem dX9_go_12 : decode cX9_go 12 = .ok (.iconst 1, 1) := by decide +kernel
theorem dX9_go_13 : decode cX9_go 13 = .ok (.iadd, 1) := by decide +kernel
theorem dX9_go_14 : decode cX9_go 14 = .ok (.putfield 15, 3) := by decide +kernel
theorem dX9_go_17 : decode cX9_go 17 = .ok (.aload_n 0, 1) := by decide +kernel
theorem dX9_go_18 : decode cX9_go 18 = .ok (.iconst 0, 1) := by decide +kernel
theorem dX9_go_19 : decode cX9_go 19 = .ok (.putfield 48, 3) := by decide +kernel
theorem dX9_go_22 : decode cX9_go 22 = .ok (.aload_n 0, 1) := by decide +kernel
theorem dX9_go_23 : decode cX9_go 23 = .ok (.iconst 1, 1) := by decide +kernel
theorem dX9_go_24 : decode cX9_go 24 = .ok (.putfield 51, 3) := by decide +kernel
theorem dX9_go_27 : decode cX9_go 27 = .ok (.aload_n 0, 1) := by decide +kernel
theorem dX9_go_28 : decode cX9_go 28 = .ok (.iload_n 1, 1) := by decide +kernel
theorem dX9_go_29 : decode cX9_go 29 = .ok (.putfield 35, 3) := by decide +kernel
theorem dX9_go_32 : decode cX9_go 32 = .ok (.aload_n 0, 1) := by decide +kernel
theorem dX9_go_33 : decode cX9_go 33 = .ok (.iload_n 2, 1) := by decide +kernel
theorem dX9_go_34 : decode cX9_go 34 = .ok (.putfield 38, 3) := by decide +kernel
theorem dX9_go_37 : decode cX9_go 37 = .ok (.aload_n 0, 1) := by decide +kernel
theorem dX9_go_38 : decode cX9_go 38 = .ok (.iload_n 1, 1) := by decide +kernel
theorem dX9_go_39 : decode cX9_go 39 = .ok (.i2f, 1) := by decide +kernel
theorem dX9_go_40 : decode cX9_go 40 = .ok (.aload_n 0, 1) := by decide +kernel
theorem dX9_go_41 : decode cX9_go 41 = .ok (.getfield 19, 3) := by decide +kernel
theorem dX9_go_44 : decode cX9_go 44 = .ok (.fsub, 1) := by decide +kernel
theorem dX9_go_45 : decode cX9_go 45 = .ok (.fload 4, 2) := by decide +kernel
theorem dX9_go_47 : decode cX9_go 47 = .ok (.fmul, 1) := by decide +kernel
theorem dX9_go_48 : decode cX9_go 48 = .ok (.putfield 55, 3) := by decide +kernel
theorem dX9_go_51 : decode cX9_go 51 = .ok (.aload_n 0, 1) := by decide +kernel
theorem dX9_go_52 : decode cX9_go 52 = .ok (.iload_n 2, 1) := by decide +kernel
theorem dX9_go_53 : decode cX9_go 53 = .ok (.i2f, 1) := by decide +kernel
theorem dX9_go_54 : decode cX9_go 54 = .ok (.aload_n 0, 1) := by decide +kernel
theorem dX9_go_55 : decode cX9_go 55 = .ok (.getfield 23, 3) := by decide +kernel
theorem dX9_go_58 : decode cX9_go 58 = .ok (.fsub, 1) := by decide +kernel
theorem dX9_go_59 : decode cX9_go 59 = .ok (.fload 4, 2) := by decide +kernel
theorem dX9_go_61 : decode cX9_go 61 = .ok (.fmul, 1) := by decide +kernel
theorem dX9_go_62 : decode cX9_go 62 = .ok (.putfield 58, 3) := by decide +kernel
theorem dX9_go_65 : decode cX9_go 65 = .ok (.aload_n 0, 1) := by decide +kernel
theorem dX9_go_66 : decode cX9_go 66 = .ok (.dup, 1) := by decide +kernel
theorem dX9_go_67 : decode cX9_go 67 = .ok (.getfield 19, 3) := by decide +kernel
theorem dX9_go_70 : decode cX9_go 70 = .ok (.aload_n 0, 1) := by decide +kernel
theorem dX9_go_71 : decode cX9_go 71 = .ok (.getfield 55, 3) := by decide +kernel
theorem dX9_go_74 : decode cX9_go 74 = .ok (.fadd, 1) := by decide +kernel
theorem dX9_go_75 : decode cX9_go 75 = .ok (.putfield 19, 3) := by decide +kernel
theorem dX9_go_78 : decode cX9_go 78 = .ok (.aload_n 0, 1) := by decide +kernel
theorem dX9_go_79 : decode cX9_go 79 = .ok (.dup, 1) := by decide +kernel
theorem dX9_go_80 : decode cX9_go 80 = .ok (.getfield 23, 3) := by decide +kernel
theorem dX9_go_83 : decode cX9_go 83 = .ok (.aload_n 0, 1) := by decide +kernel
theorem dX9_go_84 : decode cX9_go 84 = .ok (.getfield 58, 3) := by decide +kernel
theorem dX9_go_87 : decode cX9_go 87 = .ok (.fadd, 1) := by decide +kernel
theorem dX9_go_88 : decode cX9_go 88 = .ok (.putfield 23, 3) := by decide +kernel
theorem dX9_go_91 : decode cX9_go 91 = .ok (.aload_n 0, 1) := by decide +kernel
theorem dX9_go_92 : decode cX9_go 92 = .ok (.aload_n 0, 1) := by decide +kernel
theorem dX9_go_93 : decode cX9_go 93 = .ok (.getfield 61, 3) := by decide +kernel
theorem dX9_go_96 : decode cX9_go 96 = .ok (.aload_n 0, 1) := by decide +kernel
theorem dX9_go_97 : decode cX9_go 97 = .ok (.getfield 19, 3) := by decide +kernel
theorem dX9_go_100 : decode cX9_go 100 = .ok (.aload_n 0, 1) := by decide +kernel
theorem dX9_go_101 : decode cX9_go 101 = .ok (.getfield 29, 3) := by decide +kernel
theorem dX9_go_104 : decode cX9_go 104 = .ok (.fsub, 1) := by decide +kernel
theorem dX9_go_105 : decode cX9_go 105 = .ok (.invokestatic 41, 3) := by decide +kernel
theorem dX9_go_108 : decode cX9_go 108 = .ok (.aload_n 0, 1) := by decide +kernel
theorem dX9_go_109 : decode cX9_go 109 = .ok (.getfield 23, 3) := by decide +kernel
theorem dX9_go_112 : decode cX9_go 112 = .ok (.aload_n 0, 1) := by decide +kernel
theorem dX9_go_113 : decode cX9_go 113 = .ok (.getfield 32, 3) := by decide +kernel
theorem dX9_go_116 : decode cX9_go 116 = .ok (.fsub, 1) := by decide +kernel
theorem dX9_go_117 : decode cX9_go 117 = .ok (.invokestatic 41, 3) := by decide +kernel
theorem dX9_go_120 : decode cX9_go 120 = .ok (.fadd, 1) := by decide +kernel
theorem dX9_go_121 : decode cX9_go 121 = .ok (.invokestatic 64, 3) := by decide +kernel
theorem dX9_go_124 : decode cX9_go 124 = .ok (.putfield 61, 3) := by decide +kernel
theorem dX9_go_127 : decode cX9_go 127 = .ok (.return_, 1) := by decide +kernel
theorem dX9_far_0 : decode cX9_far 0 = .ok (.iload_n 1, 1) := by decide +kernel
theorem dX9_far_1 : decode cX9_far 1 = .ok (.aload_n 0, 1) := by decide +kernel
theorem dX9_far_2 : decode cX9_far 2 = .ok (.getfield 35, 3) := by decide +kernel
theorem dX9_far_5 : decode cX9_far 5 = .ok (.isub, 1) := by decide +kernel
theorem dX9_far_6 : decode cX9_far 6 = .ok (.iload_n 1, 1) := by decide +kernel
theorem dX9_far_7 : decode cX9_far 7 = .ok (.aload_n 0, 1) := by decide +kernel
theorem dX9_far_8 : decode cX9_far 8 = .ok (.getfield 35, 3) := by decide +kernel
theorem dX9_far_11 : decode cX9_far 11 = .ok (.isub, 1) := by decide +kernel
theorem dX9_far_12 : decode cX9_far 12 = .ok (.imul, 1) := by decide +kernel
theorem dX9_far_13 : decode cX9_far 13 = .ok (.iload_n 2, 1) := by decide +kernel
theorem dX9_far_14 : decode cX9_far 14 = .ok (.aload_n 0, 1) := by decide +kernel
theorem dX9_far_15 : decode cX9_far 15 = .ok (.getfield 38, 3) := by decide +kernel
theorem dX9_far_18 : decode cX9_far 18 = .ok (.isub, 1) := by decide +kernel
theorem dX9_far_19 : decode cX9_far 19 = .ok (.iload_n 2, 1) := by decide +kernel
theorem dX9_far_20 : decode cX9_far 20 = .ok (.aload_n 0, 1) := by decide +kernel
theorem dX9_far_21 : decode cX9_far 21 = .ok (.getfield 38, 3) := by decide +kernel
theorem dX9_far_24 : decode cX9_far 24 = .ok (.isub, 1) := by decide +kernel
theorem dX9_far_25 : decode cX9_far 25 = .ok (.imul, 1) := by decide +kernel
theorem dX9_far_26 : decode cX9_far 26 = .ok (.iadd, 1) := by decide +kernel
theorem dX9_far_27 : decode cX9_far 27 = .ok (.ireturn, 1) := by decide +kernel
section RCon
variable {c n ap : Nat} {f : Nat → am_C} {κ κ2 : m_K}
theorem n_nn {a : UInt32} (h : FP.Core.FFin a) : FP.fIsNaN a = false := FP.Core.FFin.notNaN h
theorem n_abs_ok {a : UInt32} (h : FP.Core.FFin a) : a &&& 0x7fffffff ≤ 0x7f800000 := f_n32 h
theorem n_fB_abs {z : UInt32} {B : Int} (h : fB z (-B) B) : fB (z &&& 0x7fffffff) 0 B := by
  by_cases q : z.toNat < 2 ^ 31
  · have e : z &&& 0x7fffffff = z := by
      apply UInt32.toNat_inj.mp
      rw [FP.Core.mask_toNat32]
      omega
    rw [e]
    have h2 : 0 ≤ fz z := FP.Core.zval_nonneg32 (f_ne h.1) q
    exact ⟨h.1, by omega, h.2.2⟩
  · have hz := z.toNat_lt
    have hv : FP.Core.val32 (z &&& 0x7fffffff) = FP.Core.negate (FP.Core.val32 z) := FP.Core.val32_neg_bits (.inl (by rw [FP.Core.mask_toNat32]; omega))
    have e : z &&& 0x7fffffff = FP.Core.fneg z := by
      refine FP.Core.val32_inj ?_ ?_
      · rw [hv]; exact FP.Core.negate_ne_nan (f_ne h.1)
      · rw [hv, FP.Core.val32_fneg]
    rw [e]
    have h2 : fz z ≤ 0 := FP.Core.zval_nonpos32 (f_ne h.1) (by omega)
    have h3 := fB_neg h
    rw [Int.neg_neg] at h3
    refine ⟨h3.1, ?_, h3.2.2⟩
    rw [(f_neg h.1).2]
    omega
theorem n_fB_pick {g : Bool} {a b : UInt32} {lo hi : Int} (ha : fB a lo hi) (hb : fB b lo hi) : fB (Native.java_lang_Math.nans.pick32 g a b) lo hi := by
  unfold Native.java_lang_Math.nans.pick32
  repeat' split
  all_goals first | exact ha | exact hb
def r_dist (x y x2 y2 : UInt32) : UInt32 := FP.fadd (FP.fsub x x2 &&& 0x7fffffff) (FP.fsub y y2 &&& 0x7fffffff)
theorem r_dist_ok {x y x2 y2 : UInt32} (hx : fB x 0 56) (hy : fB y 0 56) (hx2 : fB x2 0 56) (hy2 : fB y2 0 56) : (fB (FP.fsub x x2) (-56) 56 ∧ fB (FP.fsub y y2) (-56) 56) ∧ (fB (FP.fsub x x2 &&& 0x7fffffff) 0 56 ∧ fB (FP.fsub y y2 &&& 0x7fffffff) 0 56) ∧ fB (r_dist x y x2 y2) 0 112 := by
  obtain ⟨h1, h2, -⟩ := f_dist hx hy hx2 hy2
  have a1 := n_fB_abs (B := 56) h1
  have a2 := n_fB_abs (B := 56) h2
  have h3 : fB (r_dist x y x2 y2) (0 + 0) (56 + 56) := fB_add a1 a2 (by decide) (by decide) (by decide)
  exact ⟨⟨h1, h2⟩, ⟨a1, a2⟩, h3⟩
def r_kF (ap : Nat) (κ : m_K) : List Value := [.float (κ.2.1 5), .float (κ.2.1 6), .int (κ.1 7), .ref ap, .float (κ.2.1 0), .float (κ.2.1 1), .float (κ.2.1 2), .float (κ.2.1 3), .float (κ.2.1 4), .int (κ.1 2), .int (κ.1 3), .int (κ.1 4), .int (κ.1 5), .int (κ.1 6), .int (κ.1 1)]
def r_move (κ : m_K) (px py d : Int32) : m_K := (va_up (va_up (va_up (va_up (va_up κ.1 1 1) 2 px) 3 py) 4 (κ.1 4 + 1)) 5 0, fun j => match j with
  | 0 => FP.fadd (κ.2.1 0) (m_st (κ.2.1 0) px d)
  | 1 => FP.fadd (κ.2.1 1) (m_st (κ.2.1 1) py d)
  | 2 => m_st (κ.2.1 0) px d
  | 3 => m_st (κ.2.1 1) py d
  | 4 => Native.java_lang_Math.nans.pick32 true (κ.2.1 4) (r_dist (FP.fadd (κ.2.1 0) (m_st (κ.2.1 0) px d)) (FP.fadd (κ.2.1 1) (m_st (κ.2.1 1) py d)) (κ.2.1 5) (κ.2.1 6))
  | j => κ.2.1 j, κ.2.2)
theorem r_move_ok {px py d : Nat} (h : m_kOk κ) (hx : px ≤ 56) (hy : py ≤ 56) (h1 : 1 ≤ d) (h2 : d ≤ 4) : m_kOk (r_move κ (nI px) (nI py) (nI d)) := by
  obtain ⟨k0, k1, k2, k3, k4, k5, k6, k7⟩ := h
  obtain ⟨-, -, a1, a2⟩ := m_st_ok k0 hx h1 h2
  obtain ⟨-, -, b1, b2⟩ := m_st_ok k1 hy h1 h2
  exact ⟨a2, b2, a1, b1, n_fB_pick k4 (r_dist_ok a2 b2 k5 k6).2.2, k5, k6, k7.1, px, py, hx, hy, rfl, rfl⟩
theorem s_rto {c2 ap2 : Nat} (h : f c = .inr (9, r_kF ap κ)) (h2 : f c2 = .inr (9, r_kF ap2 κ2)) (k1 : m_kOk κ) (k2 : m_kOk κ2) : AM mX9_to 0 0 [.ref c, .ref c2] n f (am_is (some (.float (r_dist (κ.2.1 0) (κ.2.1 1) (κ2.2.1 0) (κ2.2.1 1)))) n f) := by
  show AW mX9_to 0 0 0 [some (.ref c), some (.ref c2)] [] n f _
  obtain ⟨⟨d1, d2⟩, ⟨d3, d4⟩, d5⟩ := r_dist_ok k1.1 k1.2.1 k2.1 k2.2.1
  unfold r_kF at h h2
  refine am_aload_n 0 dX9_to_0 rfl ?_
  refine am_getfield 1 dX9_to_1 fX9_19 (by repeat (first | assumption | exact am_ue | refine am_un (by first | assumption | decide | omega) ?_)) rfl ?_
  refine am_aload_n 4 dX9_to_4 rfl ?_
  refine am_getfield 5 dX9_to_5 fX9_19 (by repeat (first | assumption | exact am_ue | refine am_un (by first | assumption | decide | omega) ?_)) rfl ?_
  refine am_fsub 8 dX9_to_8 (f_n32 d1.1) ?_
  refine am_fabs 9 dX9_to_9 jX9_41 (n_abs_ok d1.1) (by decide) (Nat.le_of_ble_eq_true rfl) ?_
  refine am_aload_n 12 dX9_to_12 rfl ?_
  refine am_getfield 13 dX9_to_13 fX9_23 (by repeat (first | assumption | exact am_ue | refine am_un (by first | assumption | decide | omega) ?_)) rfl ?_
  refine am_aload_n 16 dX9_to_16 rfl ?_
  refine am_getfield 17 dX9_to_17 fX9_23 (by repeat (first | assumption | exact am_ue | refine am_un (by first | assumption | decide | omega) ?_)) rfl ?_
  refine am_fsub 20 dX9_to_20 (f_n32 d2.1) ?_
  refine am_fabs 21 dX9_to_21 jX9_41 (n_abs_ok d2.1) (by decide) (Nat.le_of_ble_eq_true rfl) ?_
  refine am_fadd 24 dX9_to_24 (f_n32 d5.1) ?_
  exact am_freturn 25 dX9_to_25 rfl ⟨rfl, rfl, rfl⟩
theorem s_rfar {x y : Int32} (h : f c = .inr (9, r_kF ap κ)) : AM mX9_far 0 0 [.ref c, .int x, .int y] n f (am_is (some (.int ((x - κ.1 2) * (x - κ.1 2) + (y - κ.1 3) * (y - κ.1 3)))) n f) := by
  show AW mX9_far 0 0 0 [some (.ref c), some (.int x), some (.int y)] [] n f _
  unfold r_kF at h
  refine am_iload_n 0 dX9_far_0 rfl ?_
  refine am_aload_n 1 dX9_far_1 rfl ?_
  refine am_getfield 2 dX9_far_2 fX9_35 (by repeat (first | assumption | exact am_ue | refine am_un (by first | assumption | decide | omega) ?_)) rfl ?_
  refine am_isub 5 dX9_far_5 ?_
  refine am_iload_n 6 dX9_far_6 rfl ?_
  refine am_aload_n 7 dX9_far_7 rfl ?_
  refine am_getfield 8 dX9_far_8 fX9_35 (by repeat (first | assumption | exact am_ue | refine am_un (by first | assumption | decide | omega) ?_)) rfl ?_
  refine am_isub 11 dX9_far_11 ?_
  refine am_imul 12 dX9_far_12 ?_
  refine am_iload_n 13 dX9_far_13 rfl ?_
  refine am_aload_n 14 dX9_far_14 rfl ?_
  refine am_getfield 15 dX9_far_15 fX9_38 (by repeat (first | assumption | exact am_ue | refine am_un (by first | assumption | decide | omega) ?_)) rfl ?_
  refine am_isub 18 dX9_far_18 ?_
  refine am_iload_n 19 dX9_far_19 rfl ?_
  refine am_aload_n 20 dX9_far_20 rfl ?_
  refine am_getfield 21 dX9_far_21 fX9_38 (by repeat (first | assumption | exact am_ue | refine am_un (by first | assumption | decide | omega) ?_)) rfl ?_
  refine am_isub 24 dX9_far_24 ?_
  refine am_imul 25 dX9_far_25 ?_
  refine am_iadd 26 dX9_far_26 ?_
  exact am_ireturn 27 dX9_far_27 rfl rfl ⟨rfl, rfl, rfl⟩
theorem s_rgo {px py d : Nat} (h : f c = .inr (9, r_kF ap κ)) (k : m_kOk κ) (hx : px ≤ 56) (hy : py ≤ 56) (h1 : 1 ≤ d) (h2 : d ≤ 4) : AM mX9_go 0 0 [.ref c, .int (nI px), .int (nI py), .int (nI d)] n f (am_is none n (va_up f c (.inr (9, r_kF ap (r_move κ (nI px) (nI py) (nI d)))))) := by
  show AW mX9_go 0 0 0 [some (.ref c), some (.int (nI px)), some (.int (nI py)), some (.int (nI d)), none] [] n f _
  unfold r_kF at h
  obtain ⟨k0, k1, k2, k3, k4, k5, k6, k7⟩ := k
  obtain ⟨q1, a0, a1, a2⟩ := m_st_ok k0 hx h1 h2
  obtain ⟨-, b0, b1, b2⟩ := m_st_ok k1 hy h1 h2
  obtain ⟨⟨d1, d2⟩, ⟨d3, d4⟩, d5⟩ := r_dist_ok a2 b2 k5 k6
  refine am_iload_n 0 dX9_go_0 rfl ?_
  refine am_i2f 1 dX9_go_1 ?_
  refine am_ldcf 2 dX9_go_2 kX9_47 ?_
  refine am_fdiv 4 dX9_go_4 (f_n32 q1) ?_
  refine am_fstore 5 dX9_go_5 (by decide) ?_
  refine am_aload_n 7 dX9_go_7 rfl ?_
  refine am_dup 8 dX9_go_8 rfl ?_
  refine am_getfield 9 dX9_go_9 fX9_15 (by repeat (first | assumption | exact am_ue | refine am_un (by first | assumption | decide | omega) ?_)) rfl ?_
  refine am_iconst 12 (v := 1) dX9_go_12 (by decide) ?_
  refine am_iadd 13 dX9_go_13 ?_
  refine am_putfield 14 dX9_go_14 pX9_15 (by repeat (first | assumption | exact am_ue | refine am_un (by first | assumption | decide | omega) ?_)) rfl rfl (Nat.le_of_ble_eq_true rfl) ?_
  refine am_aload_n 17 dX9_go_17 rfl ?_
  refine am_iconst 18 (v := 0) dX9_go_18 (by decide) ?_
  refine am_putfield 19 dX9_go_19 pX9_48 (by repeat (first | assumption | exact am_ue | refine am_un (by first | assumption | decide | omega) ?_)) rfl rfl (Nat.le_of_ble_eq_true rfl) ?_
  refine am_aload_n 22 dX9_go_22 rfl ?_
  refine am_iconst 23 (v := 1) dX9_go_23 (by decide) ?_
  refine am_putfield 24 dX9_go_24 pX9_51 (by repeat (first | assumption | exact am_ue | refine am_un (by first | assumption | decide | omega) ?_)) rfl rfl (Nat.le_of_ble_eq_true rfl) ?_
  refine am_aload_n 27 dX9_go_27 rfl ?_
  refine am_iload_n 28 dX9_go_28 rfl ?_
  refine am_putfield 29 dX9_go_29 pX9_35 (by repeat (first | assumption | exact am_ue | refine am_un (by first | assumption | decide | omega) ?_)) rfl rfl (Nat.le_of_ble_eq_true rfl) ?_
  refine am_aload_n 32 dX9_go_32 rfl ?_
  refine am_iload_n 33 dX9_go_33 rfl ?_
  refine am_putfield 34 dX9_go_34 pX9_38 (by repeat (first | assumption | exact am_ue | refine am_un (by first | assumption | decide | omega) ?_)) rfl rfl (Nat.le_of_ble_eq_true rfl) ?_
  refine am_aload_n 37 dX9_go_37 rfl ?_
  refine am_iload_n 38 dX9_go_38 rfl ?_
  refine am_i2f 39 dX9_go_39 ?_
  refine am_aload_n 40 dX9_go_40 rfl ?_
  refine am_getfield 41 dX9_go_41 fX9_19 (by repeat (first | assumption | exact am_ue | refine am_un (by first | assumption | decide | omega) ?_)) rfl ?_
  refine am_fsub 44 dX9_go_44 (f_n32 a0.1) ?_
  refine am_fload 45 dX9_go_45 rfl ?_
  refine am_fmul 47 dX9_go_47 (f_n32 a1.1) ?_
  refine am_putfield 48 dX9_go_48 pX9_55 (by repeat (first | assumption | exact am_ue | refine am_un (by first | assumption | decide | omega) ?_)) rfl rfl (Nat.le_of_ble_eq_true rfl) ?_
  refine am_aload_n 51 dX9_go_51 rfl ?_
  refine am_iload_n 52 dX9_go_52 rfl ?_
  refine am_i2f 53 dX9_go_53 ?_
  refine am_aload_n 54 dX9_go_54 rfl ?_
  refine am_getfield 55 dX9_go_55 fX9_23 (by repeat (first | assumption | exact am_ue | refine am_un (by first | assumption | decide | omega) ?_)) rfl ?_
  refine am_fsub 58 dX9_go_58 (f_n32 b0.1) ?_
  refine am_fload 59 dX9_go_59 rfl ?_
  refine am_fmul 61 dX9_go_61 (f_n32 b1.1) ?_
  refine am_putfield 62 dX9_go_62 pX9_58 (by repeat (first | assumption | exact am_ue | refine am_un (by first | assumption | decide | omega) ?_)) rfl rfl (Nat.le_of_ble_eq_true rfl) ?_
  refine am_aload_n 65 dX9_go_65 rfl ?_
  refine am_dup 66 dX9_go_66 rfl ?_
  refine am_getfield 67 dX9_go_67 fX9_19 (by repeat (first | assumption | exact am_ue | refine am_un (by first | assumption | decide | omega) ?_)) rfl ?_
  refine am_aload_n 70 dX9_go_70 rfl ?_
  refine am_getfield 71 dX9_go_71 fX9_55 (by repeat (first | assumption | exact am_ue | refine am_un (by first | assumption | decide | omega) ?_)) rfl ?_
  refine am_fadd 74 dX9_go_74 (f_n32 a2.1) ?_
  refine am_putfield 75 dX9_go_75 pX9_19 (by repeat (first | assumption | exact am_ue | refine am_un (by first | assumption | decide | omega) ?_)) rfl rfl (Nat.le_of_ble_eq_true rfl) ?_
  refine am_aload_n 78 dX9_go_78 rfl ?_
  refine am_dup 79 dX9_go_79 rfl ?_
  refine am_getfield 80 dX9_go_80 fX9_23 (by repeat (first | assumption | exact am_ue | refine am_un (by first | assumption | decide | omega) ?_)) rfl ?_
  refine am_aload_n 83 dX9_go_83 rfl ?_
  refine am_getfield 84 dX9_go_84 fX9_58 (by repeat (first | assumption | exact am_ue | refine am_un (by first | assumption | decide | omega) ?_)) rfl ?_
  refine am_fadd 87 dX9_go_87 (f_n32 b2.1) ?_
  refine am_putfield 88 dX9_go_88 pX9_23 (by repeat (first | assumption | exact am_ue | refine am_un (by first | assumption | decide | omega) ?_)) rfl rfl (Nat.le_of_ble_eq_true rfl) ?_
  refine am_aload_n 91 dX9_go_91 rfl ?_
  refine am_aload_n 92 dX9_go_92 rfl ?_
  refine am_getfield 93 dX9_go_93 fX9_61 (by repeat (first | assumption | exact am_ue | refine am_un (by first | assumption | decide | omega) ?_)) rfl ?_
  refine am_aload_n 96 dX9_go_96 rfl ?_
  refine am_getfield 97 dX9_go_97 fX9_19 (by repeat (first | assumption | exact am_ue | refine am_un (by first | assumption | decide | omega) ?_)) rfl ?_
  refine am_aload_n 100 dX9_go_100 rfl ?_
  refine am_getfield 101 dX9_go_101 fX9_29 (by repeat (first | assumption | exact am_ue | refine am_un (by first | assumption | decide | omega) ?_)) rfl ?_
  refine am_fsub 104 dX9_go_104 (f_n32 d1.1) ?_
  refine am_fabs 105 dX9_go_105 jX9_41 (n_abs_ok d1.1) (by decide) (Nat.le_of_ble_eq_true rfl) ?_
  refine am_aload_n 108 dX9_go_108 rfl ?_
  refine am_getfield 109 dX9_go_109 fX9_23 (by repeat (first | assumption | exact am_ue | refine am_un (by first | assumption | decide | omega) ?_)) rfl ?_
  refine am_aload_n 112 dX9_go_112 rfl ?_
  refine am_getfield 113 dX9_go_113 fX9_32 (by repeat (first | assumption | exact am_ue | refine am_un (by first | assumption | decide | omega) ?_)) rfl ?_
  refine am_fsub 116 dX9_go_116 (f_n32 d2.1) ?_
  refine am_fabs 117 dX9_go_117 jX9_41 (n_abs_ok d2.1) (by decide) (Nat.le_of_ble_eq_true rfl) ?_
  refine am_fadd 120 dX9_go_120 (f_n32 d5.1) ?_
  refine am_fmax 121 dX9_go_121 jX9_64 (n_nn k4.1) (n_nn d5.1) (by decide) (Nat.le_of_ble_eq_true rfl) ?_
  refine am_putfield 124 dX9_go_124 pX9_61 (by repeat (first | assumption | exact am_ue | refine am_un (by first | assumption | decide | omega) ?_)) rfl rfl (Nat.le_of_ble_eq_true rfl) ?_
  refine am_return 127 dX9_go_127 rfl ?_
  refine ⟨rfl, rfl, ?_⟩
  simp only [am_uu]
  rfl
end RCon
