/-! ===== a contact: what it holds, how it begins and moves, its floats in their bounds ===== -/
/-- ints: there, matched, latest x, latest y, frames, misses, claim, area; floats: x, y, dx, dy, moved, first x, first y; first apart -/
abbrev m_K : Type := (Nat → Int32) × (Nat → UInt32) × (Nat → UInt32)
def m_kF (c : Nat) (κ : m_K) : List Value := [.int (κ.1 0), .int (κ.1 1), .int (κ.1 2), .int (κ.1 3), .int (κ.1 4), .int (κ.1 5), .int (κ.1 6), .int (κ.1 7), .float (κ.2.1 0), .float (κ.2.1 1), .float (κ.2.1 2), .float (κ.2.1 3), .float (κ.2.1 4), .float (κ.2.1 5), .float (κ.2.1 6), .ref (c + 1)]
def m_kC (f : Nat → am_C) (c : Nat) (κ : m_K) : Prop := f c = .inr (2, m_kF c κ) ∧ f (c + 1) = .inl (2, 5, .inr (.inr (.inl κ.2.2)))
theorem m_kC.on {f f' : Nat → am_C} {c : Nat} {κ : m_K} (h : m_kC f c κ) (e : ∀ x, c ≤ x → x ≤ c + 1 → f' x = f x) : m_kC f' c κ := ⟨(e _ (by omega) (by omega)).trans h.1, (e _ (by omega) (by omega)).trans h.2⟩
/-- the sign taken away -/
def m_ws (z : UInt32) : UInt32 := if 0 ≤ Op.cmpValue (FP.fcmp z FP.fconst0) .g then z else FP.fneg z
def m_begin (κ : m_K) (px py ar : Int32) : m_K := (fun j => match j with
  | 0 => 1
  | 1 => 0
  | 2 => px
  | 3 => py
  | 4 => 1
  | 5 => 0
  | 6 => 0
  | _ => ar, fun j => match j with
  | 0 => FP.i2f px
  | 1 => FP.i2f py
  | 2 => FP.fconst0
  | 3 => FP.fconst0
  | 4 => FP.fconst0
  | 5 => FP.i2f px
  | _ => FP.i2f py, κ.2.2)
def m_miss (κ : m_K) : m_K := (va_up (va_up κ.1 1 0) 5 (κ.1 5 + 1), va_up (va_up κ.2.1 2 FP.fconst0) 3 FP.fconst0, κ.2.2)
/-- the part of its way that a contact goes -/
def m_qu (d : Int32) : UInt32 := FP.fdiv (FP.i2f d) 1082130432
def m_st (x : UInt32) (p d : Int32) : UInt32 := FP.fmul (FP.fsub (FP.i2f p) x) (m_qu d)
def m_dist (x y x2 y2 : UInt32) : UInt32 := FP.fadd (m_ws (FP.fsub x x2)) (m_ws (FP.fsub y y2))
def m_max (a b : UInt32) : UInt32 := if Op.cmpValue (FP.fcmp a b) .l ≤ 0 then b else a
def m_move (κ : m_K) (px py d : Int32) : m_K := (va_up (va_up (va_up (va_up (va_up κ.1 1 1) 2 px) 3 py) 4 (κ.1 4 + 1)) 5 0, fun j => match j with
  | 0 => FP.fadd (κ.2.1 0) (m_st (κ.2.1 0) px d)
  | 1 => FP.fadd (κ.2.1 1) (m_st (κ.2.1 1) py d)
  | 2 => m_st (κ.2.1 0) px d
  | 3 => m_st (κ.2.1 1) py d
  | 4 => m_max (m_dist (FP.fadd (κ.2.1 0) (m_st (κ.2.1 0) px d)) (FP.fadd (κ.2.1 1) (m_st (κ.2.1 1) py d)) (κ.2.1 5) (κ.2.1 6)) (κ.2.1 4)
  | 5 => κ.2.1 5
  | _ => κ.2.1 6, κ.2.2)
def m_at9 (κ : m_K) (ahead : Int32) (isY : Bool) : UInt32 := if isY then FP.fadd (κ.2.1 1) (FP.fmul (κ.2.1 3) (FP.i2f ahead)) else FP.fadd (κ.2.1 0) (FP.fmul (κ.2.1 2) (FP.i2f ahead))
def m_guess (κ : m_K) (ahead : Int32) (isY : Bool) : UInt32 := if 0 ≤ Op.cmpValue (FP.fcmp (m_at9 κ ahead isY) FP.fconst0) .g then (if Op.cmpValue (FP.fcmp (m_at9 κ ahead isY) (if isY then 1109393408 else 1113587712)) .l ≤ 0 then m_at9 κ ahead isY else (if isY then 1109393408 else 1113587712)) else FP.fconst0
/-- so is its latest place -/
def m_xy (κ : m_K) : Prop := ∃ a b, a ≤ 56 ∧ b ≤ 56 ∧ κ.1 2 = nI a ∧ κ.1 3 = nI b
/-- the floats of a contact are in their bounds -/
def m_kOk (κ : m_K) : Prop := fB (κ.2.1 0) 0 56 ∧ fB (κ.2.1 1) 0 56 ∧ fB (κ.2.1 2) (-56) 56 ∧ fB (κ.2.1 3) (-56) 56 ∧ fB (κ.2.1 4) 0 112 ∧ fB (κ.2.1 5) 0 56 ∧ fB (κ.2.1 6) 0 56 ∧ (∀ j, j < 5 → fB (κ.2.2 j) 0 112) ∧ m_xy κ
section Con
theorem f_jneg {x : UInt32} (h : FP.Core.FFin x) : FP.fneg x = FP.Core.fneg x := by
  obtain ⟨t, c, q, e⟩ := id h
  refine FP.Core.val32_inj ?_ ?_
  · rw [FP.val32_fneg, e]
    exact FP.Core.Datum.noConfusion
  · rw [FP.val32_fneg, FP.Core.val32_fneg]
theorem f_0 : FP.Core.FFin FP.fconst0 ∧ fz FP.fconst0 = 0 := by
  refine ⟨(FP.Core.fin_bits32 _).mpr (by decide), ?_⟩
  show FP.Core.zval FP.Core.b32 (FP.Core.val32 FP.fconst0) = 0
  decide +kernel
theorem fB_0 {a b : Int} (ha : a ≤ 0) (hb : 0 ≤ b) : fB FP.fconst0 a b := by
  refine ⟨f_0.1, ?_, ?_⟩
  · rw [f_0.2]
    have := Int.mul_le_mul_of_nonneg_right ha (show (0 : Int) ≤ fO by decide)
    omega
  · rw [f_0.2]
    exact Int.mul_nonneg hb (by decide)
/-- what a comparison of two floats says -/
theorem f_cmp {x y : UInt32} (hx : FP.Core.FFin x) (hy : FP.Core.FFin y) (op : CmpOp) : (Op.cmpValue (FP.fcmp x y) op < 0 ↔ fz x < fz y) ∧ (Op.cmpValue (FP.fcmp x y) op = 0 ↔ fz x = fz y) ∧ (Op.cmpValue (FP.fcmp x y) op ≤ 0 ↔ fz x ≤ fz y) ∧ (0 ≤ Op.cmpValue (FP.fcmp x y) op ↔ fz y ≤ fz x) := by
  have h : FP.fcmp x y = some (compare (fz x) (fz y)) := FP.Core.order_zval FP.Core.good_b32 (f_fits x) (f_fits y) (f_ne hx) (f_ne hy)
  rw [h]
  rcases Int.lt_trichotomy (fz x) (fz y) with h1 | h1 | h1
  · rw [show compare (fz x) (fz y) = .lt from by simp [compare, compareOfLessAndEq, h1]]
    refine ⟨⟨fun _ => h1, fun _ => (by decide : (-1 : Int32) < 0)⟩, ⟨fun z => absurd z (by decide : ¬ (-1 : Int32) = 0), fun z => by omega⟩, ⟨fun _ => by omega, fun _ => (by decide : (-1 : Int32) ≤ 0)⟩, ⟨fun z => absurd z (by decide : ¬ (0 : Int32) ≤ -1), fun z => by omega⟩⟩
  · rw [show compare (fz x) (fz y) = .eq from by simp [compare, compareOfLessAndEq, h1]]
    refine ⟨⟨fun z => absurd z (by decide : ¬ (0 : Int32) < 0), fun z => by omega⟩, ⟨fun _ => h1, fun _ => rfl⟩, ⟨fun _ => by omega, fun _ => (by decide : (0 : Int32) ≤ 0)⟩, ⟨fun _ => by omega, fun _ => (by decide : (0 : Int32) ≤ 0)⟩⟩
  · rw [show compare (fz x) (fz y) = .gt from by
      have h2 : ¬ fz x < fz y := by omega
      have h3 : ¬ fz x = fz y := by omega
      simp [compare, compareOfLessAndEq, h2, h3]]
    refine ⟨⟨fun z => absurd z (by decide : ¬ (1 : Int32) < 0), fun z => by omega⟩, ⟨fun z => absurd z (by decide : ¬ (1 : Int32) = 0), fun z => by omega⟩, ⟨fun z => absurd z (by decide : ¬ (1 : Int32) ≤ 0), fun z => by omega⟩, ⟨fun _ => by omega, fun _ => (by decide : (0 : Int32) ≤ 1)⟩⟩
theorem f_ws {z : UInt32} {B : Int} (h : fB z (-B) B) : fB (m_ws z) 0 B := by
  have hc := f_cmp h.1 f_0.1 .g
  rw [f_0.2] at hc
  unfold m_ws
  split
  · next h1 => exact ⟨h.1, by have := hc.2.2.2.mp h1; omega, h.2.2⟩
  · next h1 =>
    rw [f_jneg h.1]
    have h2 := fB_neg h
    rw [Int.neg_neg] at h2
    refine ⟨h2.1, ?_, h2.2.2⟩
    have h3 : ¬ 0 ≤ fz z := fun q => h1 (hc.2.2.2.mpr q)
    rw [(f_neg h.1).2]
    omega
theorem f_dist {x y x2 y2 : UInt32} (hx : fB x 0 56) (hy : fB y 0 56) (hx2 : fB x2 0 56) (hy2 : fB y2 0 56) : fB (FP.fsub x x2) (-56) 56 ∧ fB (FP.fsub y y2) (-56) 56 ∧ fB (m_dist x y x2 y2) 0 112 := by
  have h1 : fB (FP.fsub x x2) (-56) 56 := fB_sub hx hx2 (by decide) (by decide) (by decide)
  have h2 : fB (FP.fsub y y2) (-56) 56 := fB_sub hy hy2 (by decide) (by decide) (by decide)
  have h3 : fB (m_dist x y x2 y2) (0 + 0) (56 + 56) := fB_add (f_ws (B := 56) h1) (f_ws (B := 56) h2) (by decide) (by decide) (by decide)
  exact ⟨h1, h2, h3⟩
theorem f_max {a b : UInt32} {B : Int} (ha : fB a 0 B) (hb : fB b 0 B) : fB (m_max a b) 0 B := by
  unfold m_max
  split
  · exact hb
  · exact ha
theorem m_begin_ok {κ : m_K} {px py : Nat} {ar : Int32} (h : m_kOk κ) (hx : px ≤ 56) (hy : py ≤ 56) : m_kOk (m_begin κ (nI px) (nI py) ar) := by
  have h1 : fB (FP.i2f (nI px)) 0 56 := fB_mono (fB_whole (by omega)) (by omega) (by omega)
  have h2 : fB (FP.i2f (nI py)) 0 56 := fB_mono (fB_whole (by omega)) (by omega) (by omega)
  exact ⟨h1, h2, fB_0 (by decide) (by decide), fB_0 (by decide) (by decide), fB_0 (by decide) (by decide), h1, h2, h.2.2.2.2.2.2.2.1, px, py, hx, hy, rfl, rfl⟩
theorem m_miss_ok {κ : m_K} (h : m_kOk κ) : m_kOk (m_miss κ) := ⟨h.1, h.2.1, fB_0 (by decide) (by decide), fB_0 (by decide) (by decide), h.2.2.2.2⟩
theorem m_st_ok {x : UInt32} {p d : Nat} (hx : fB x 0 56) (hp : p ≤ 56) (h1 : 1 ≤ d) (h2 : d ≤ 4) : FP.Core.FFin (m_qu (nI d)) ∧ fB (FP.fsub (FP.i2f (nI p)) x) (-56) 56 ∧ fB (m_st x (nI p) (nI d)) (-56) 56 ∧ fB (FP.fadd x (m_st x (nI p) (nI d))) 0 56 := by
  obtain ⟨q1, q2, q3⟩ := f_quarter h1 h2
  exact ⟨q1, f_move hx hp q1 q2 q3⟩
theorem m_move_ok {κ : m_K} {px py d : Nat} (h : m_kOk κ) (hx : px ≤ 56) (hy : py ≤ 56) (h1 : 1 ≤ d) (h2 : d ≤ 4) : m_kOk (m_move κ (nI px) (nI py) (nI d)) := by
  obtain ⟨k0, k1, k2, k3, k4, k5, k6, k7⟩ := h
  obtain ⟨-, -, a1, a2⟩ := m_st_ok k0 hx h1 h2
  obtain ⟨-, -, b1, b2⟩ := m_st_ok k1 hy h1 h2
  exact ⟨a2, b2, a1, b1, f_max (f_dist a2 b2 k5 k6).2.2 k4, k5, k6, k7.1, px, py, hx, hy, rfl, rfl⟩
end Con
section ConW
variable {c n : Nat} {f : Nat → am_C} {κ : m_K}
theorem s_withoutSign {z : UInt32} : AM mX7_withoutSign 0 0 [.float z] n f (am_is (some (.float (m_ws z))) n f) := by
  show AW mX7_withoutSign 0 0 0 [some (.float z)] [] n f _
  refine am_fload_n 0 dX7_withoutSign_0 rfl ?_
  refine am_fconst0 1 dX7_withoutSign_1 ?_
  refine am_fcmp 2 dX7_withoutSign_2 ?_
  refine am_if_ge 3 11 dX7_withoutSign_3 rfl (fun c3 => ?_) (fun c3 => ?_)
  · unfold m_ws
    rw [if_pos c3]
    refine am_fload_n 11 dX7_withoutSign_11 rfl ?_
    exact am_freturn 12 dX7_withoutSign_12 rfl ⟨rfl, rfl, rfl⟩
  · unfold m_ws
    rw [if_neg c3]
    refine am_fload_n 6 dX7_withoutSign_6 rfl ?_
    refine am_fneg 7 dX7_withoutSign_7 ?_
    refine am_goto 8 (tgt := 12) dX7_withoutSign_8 rfl ?_
    exact am_freturn 12 dX7_withoutSign_12 rfl ⟨rfl, rfl, rfl⟩
theorem s_beginAt {px py ar : Int32} (h : m_kC f c κ) : AM mX2_beginAt 0 0 [.ref c, .int px, .int py, .int ar] n f (am_is none n (va_up f c (.inr (2, m_kF c (m_begin κ px py ar))))) := by
  show AW mX2_beginAt 0 0 0 [some (.ref c), some (.int px), some (.int py), some (.int ar)] [] n f _
  have h0 := h.1
  refine am_aload_n 0 dX2_beginAt_0 rfl ?_
  refine am_iconst 1 (v := 1) dX2_beginAt_1 (by decide) ?_
  refine am_putfield 2 dX2_beginAt_2 pX2_15 (by repeat (first | assumption | exact am_ue | refine am_un (by first | assumption | decide | omega) ?_)) rfl rfl (Nat.le_of_ble_eq_true rfl) ?_
  refine am_aload_n 5 dX2_beginAt_5 rfl ?_
  refine am_iconst 6 (v := 0) dX2_beginAt_6 (by decide) ?_
  refine am_putfield 7 dX2_beginAt_7 pX2_19 (by repeat (first | assumption | exact am_ue | refine am_un (by first | assumption | decide | omega) ?_)) rfl rfl (Nat.le_of_ble_eq_true rfl) ?_
  refine am_aload_n 10 dX2_beginAt_10 rfl ?_
  refine am_iload_n 11 dX2_beginAt_11 rfl ?_
  refine am_putfield 12 dX2_beginAt_12 pX2_22 (by repeat (first | assumption | exact am_ue | refine am_un (by first | assumption | decide | omega) ?_)) rfl rfl (Nat.le_of_ble_eq_true rfl) ?_
  refine am_aload_n 15 dX2_beginAt_15 rfl ?_
  refine am_iload_n 16 dX2_beginAt_16 rfl ?_
  refine am_putfield 17 dX2_beginAt_17 pX2_26 (by repeat (first | assumption | exact am_ue | refine am_un (by first | assumption | decide | omega) ?_)) rfl rfl (Nat.le_of_ble_eq_true rfl) ?_
  refine am_aload_n 20 dX2_beginAt_20 rfl ?_
  refine am_iconst 21 (v := 1) dX2_beginAt_21 (by decide) ?_
  refine am_putfield 22 dX2_beginAt_22 pX2_29 (by repeat (first | assumption | exact am_ue | refine am_un (by first | assumption | decide | omega) ?_)) rfl rfl (Nat.le_of_ble_eq_true rfl) ?_
  refine am_aload_n 25 dX2_beginAt_25 rfl ?_
  refine am_iconst 26 (v := 0) dX2_beginAt_26 (by decide) ?_
  refine am_putfield 27 dX2_beginAt_27 pX2_32 (by repeat (first | assumption | exact am_ue | refine am_un (by first | assumption | decide | omega) ?_)) rfl rfl (Nat.le_of_ble_eq_true rfl) ?_
  refine am_aload_n 30 dX2_beginAt_30 rfl ?_
  refine am_iconst 31 (v := 0) dX2_beginAt_31 (by decide) ?_
  refine am_putfield 32 dX2_beginAt_32 pX2_35 (by repeat (first | assumption | exact am_ue | refine am_un (by first | assumption | decide | omega) ?_)) rfl rfl (Nat.le_of_ble_eq_true rfl) ?_
  refine am_aload_n 35 dX2_beginAt_35 rfl ?_
  refine am_iload_n 36 dX2_beginAt_36 rfl ?_
  refine am_putfield 37 dX2_beginAt_37 pX2_38 (by repeat (first | assumption | exact am_ue | refine am_un (by first | assumption | decide | omega) ?_)) rfl rfl (Nat.le_of_ble_eq_true rfl) ?_
  refine am_aload_n 40 dX2_beginAt_40 rfl ?_
  refine am_iload_n 41 dX2_beginAt_41 rfl ?_
  refine am_i2f 42 dX2_beginAt_42 ?_
  refine am_putfield 43 dX2_beginAt_43 pX2_41 (by repeat (first | assumption | exact am_ue | refine am_un (by first | assumption | decide | omega) ?_)) rfl rfl (Nat.le_of_ble_eq_true rfl) ?_
  refine am_aload_n 46 dX2_beginAt_46 rfl ?_
  refine am_iload_n 47 dX2_beginAt_47 rfl ?_
  refine am_i2f 48 dX2_beginAt_48 ?_
  refine am_putfield 49 dX2_beginAt_49 pX2_45 (by repeat (first | assumption | exact am_ue | refine am_un (by first | assumption | decide | omega) ?_)) rfl rfl (Nat.le_of_ble_eq_true rfl) ?_
  refine am_aload_n 52 dX2_beginAt_52 rfl ?_
  refine am_fconst0 53 dX2_beginAt_53 ?_
  refine am_putfield 54 dX2_beginAt_54 pX2_48 (by repeat (first | assumption | exact am_ue | refine am_un (by first | assumption | decide | omega) ?_)) rfl rfl (Nat.le_of_ble_eq_true rfl) ?_
  refine am_aload_n 57 dX2_beginAt_57 rfl ?_
  refine am_fconst0 58 dX2_beginAt_58 ?_
  refine am_putfield 59 dX2_beginAt_59 pX2_51 (by repeat (first | assumption | exact am_ue | refine am_un (by first | assumption | decide | omega) ?_)) rfl rfl (Nat.le_of_ble_eq_true rfl) ?_
  refine am_aload_n 62 dX2_beginAt_62 rfl ?_
  refine am_fconst0 63 dX2_beginAt_63 ?_
  refine am_putfield 64 dX2_beginAt_64 pX2_54 (by repeat (first | assumption | exact am_ue | refine am_un (by first | assumption | decide | omega) ?_)) rfl rfl (Nat.le_of_ble_eq_true rfl) ?_
  refine am_aload_n 67 dX2_beginAt_67 rfl ?_
  refine am_iload_n 68 dX2_beginAt_68 rfl ?_
  refine am_i2f 69 dX2_beginAt_69 ?_
  refine am_putfield 70 dX2_beginAt_70 pX2_57 (by repeat (first | assumption | exact am_ue | refine am_un (by first | assumption | decide | omega) ?_)) rfl rfl (Nat.le_of_ble_eq_true rfl) ?_
  refine am_aload_n 73 dX2_beginAt_73 rfl ?_
  refine am_iload_n 74 dX2_beginAt_74 rfl ?_
  refine am_i2f 75 dX2_beginAt_75 ?_
  refine am_putfield 76 dX2_beginAt_76 pX2_60 (by repeat (first | assumption | exact am_ue | refine am_un (by first | assumption | decide | omega) ?_)) rfl rfl (Nat.le_of_ble_eq_true rfl) ?_
  refine am_return 79 dX2_beginAt_79 rfl ?_
  exact ⟨rfl, rfl, by simp only [am_uu]; rfl⟩
theorem s_miss (h : m_kC f c κ) : AM mX2_miss 0 0 [.ref c] n f (am_is none n (va_up f c (.inr (2, m_kF c (m_miss κ))))) := by
  show AW mX2_miss 0 0 0 [some (.ref c)] [] n f _
  have h0 := h.1
  refine am_aload_n 0 dX2_miss_0 rfl ?_
  refine am_iconst 1 (v := 0) dX2_miss_1 (by decide) ?_
  refine am_putfield 2 dX2_miss_2 pX2_19 (by repeat (first | assumption | exact am_ue | refine am_un (by first | assumption | decide | omega) ?_)) rfl rfl (Nat.le_of_ble_eq_true rfl) ?_
  refine am_aload_n 5 dX2_miss_5 rfl ?_
  refine am_dup 6 dX2_miss_6 rfl ?_
  refine am_getfield 7 dX2_miss_7 fX2_32 (by repeat (first | assumption | exact am_ue | refine am_un (by first | assumption | decide | omega) ?_)) rfl ?_
  refine am_iconst 10 (v := 1) dX2_miss_10 (by decide) ?_
  refine am_iadd 11 dX2_miss_11 ?_
  refine am_putfield 12 dX2_miss_12 pX2_32 (by repeat (first | assumption | exact am_ue | refine am_un (by first | assumption | decide | omega) ?_)) rfl rfl (Nat.le_of_ble_eq_true rfl) ?_
  refine am_aload_n 15 dX2_miss_15 rfl ?_
  refine am_fconst0 16 dX2_miss_16 ?_
  refine am_putfield 17 dX2_miss_17 pX2_48 (by repeat (first | assumption | exact am_ue | refine am_un (by first | assumption | decide | omega) ?_)) rfl rfl (Nat.le_of_ble_eq_true rfl) ?_
  refine am_aload_n 20 dX2_miss_20 rfl ?_
  refine am_fconst0 21 dX2_miss_21 ?_
  refine am_putfield 22 dX2_miss_22 pX2_51 (by repeat (first | assumption | exact am_ue | refine am_un (by first | assumption | decide | omega) ?_)) rfl rfl (Nat.le_of_ble_eq_true rfl) ?_
  refine am_return 25 dX2_miss_25 rfl ?_
  exact ⟨rfl, rfl, by simp only [am_uu]; rfl⟩
theorem s_canClaim (h : m_kC f c κ) : AM mX2_canClaim 0 0 [.ref c] n f (am_is (some (.int (if κ.1 0 ≠ 0 ∧ κ.1 1 ≠ 0 ∧ κ.1 6 = 0 then 1 else 0))) n f) := by
  show AW mX2_canClaim 0 0 0 [some (.ref c)] [] n f _
  have h0 := h.1
  refine am_aload_n 0 dX2_canClaim_0 rfl ?_
  refine am_getfield 1 dX2_canClaim_1 fX2_15 (by repeat (first | assumption | exact am_ue | refine am_un (by first | assumption | decide | omega) ?_)) rfl ?_
  refine am_if_eq 4 25 dX2_canClaim_4 rfl (fun c4 => ?_) (fun c4 => ?_)
  · rw [if_neg (fun z => z.1 c4)]
    refine am_iconst 25 (v := 0) dX2_canClaim_25 (by decide) ?_
    exact am_ireturn 26 dX2_canClaim_26 rfl rfl ⟨rfl, rfl, rfl⟩
  · refine am_aload_n 7 dX2_canClaim_7 rfl ?_
    refine am_getfield 8 dX2_canClaim_8 fX2_19 (by repeat (first | assumption | exact am_ue | refine am_un (by first | assumption | decide | omega) ?_)) rfl ?_
    refine am_if_eq 11 25 dX2_canClaim_11 rfl (fun c11 => ?_) (fun c11 => ?_)
    · rw [if_neg (fun z => z.2.1 c11)]
      refine am_iconst 25 (v := 0) dX2_canClaim_25 (by decide) ?_
      exact am_ireturn 26 dX2_canClaim_26 rfl rfl ⟨rfl, rfl, rfl⟩
    · refine am_aload_n 14 dX2_canClaim_14 rfl ?_
      refine am_getfield 15 dX2_canClaim_15 fX2_35 (by repeat (first | assumption | exact am_ue | refine am_un (by first | assumption | decide | omega) ?_)) rfl ?_
      refine am_if_ne 18 25 dX2_canClaim_18 rfl (fun c18 => ?_) (fun c18 => ?_)
      · rw [if_neg (fun z => c18 z.2.2)]
        refine am_iconst 25 (v := 0) dX2_canClaim_25 (by decide) ?_
        exact am_ireturn 26 dX2_canClaim_26 rfl rfl ⟨rfl, rfl, rfl⟩
      · rw [if_pos ⟨c4, c11, c18⟩]
        refine am_iconst 21 (v := 1) dX2_canClaim_21 (by decide) ?_
        refine am_goto 22 (tgt := 26) dX2_canClaim_22 rfl ?_
        exact am_ireturn 26 dX2_canClaim_26 rfl rfl ⟨rfl, rfl, rfl⟩
theorem s_distanceTo {c2 : Nat} {κ2 : m_K} (h : m_kC f c κ) (h2 : m_kC f c2 κ2) (k1 : m_kOk κ) (k2 : m_kOk κ2) : AM mX2_distanceTo 0 0 [.ref c, .ref c2] n f (am_is (some (.float (m_dist (κ.2.1 0) (κ.2.1 1) (κ2.2.1 0) (κ2.2.1 1)))) n f) := by
  show AW mX2_distanceTo 0 0 0 [some (.ref c), some (.ref c2)] [] n f _
  have h0 := h.1
  have h3 := h2.1
  obtain ⟨d1, d2, d3⟩ := f_dist k1.1 k1.2.1 k2.1 k2.2.1
  refine am_aload_n 0 dX2_distanceTo_0 rfl ?_
  refine am_getfield 1 dX2_distanceTo_1 fX2_41 (by repeat (first | assumption | exact am_ue | refine am_un (by first | assumption | decide | omega) ?_)) rfl ?_
  refine am_aload_n 4 dX2_distanceTo_4 rfl ?_
  refine am_getfield 5 dX2_distanceTo_5 fX2_41 (by repeat (first | assumption | exact am_ue | refine am_un (by first | assumption | decide | omega) ?_)) rfl ?_
  refine am_fsub 8 dX2_distanceTo_8 (f_n32 d1.1) ?_
  refine am_SN1 9 (mc' := 0) (ms' := 0) (rc := 0) (rs := 0) dX2_distanceTo_9 lX2_64 ⟨by decide, by decide⟩ (Nat.le_of_ble_eq_true rfl) (Nat.le_of_ble_eq_true rfl) (s_withoutSign) ?_
  rintro o n' f' ⟨rfl, rfl, rfl⟩
  refine ⟨_, rfl, ?_⟩
  refine am_aload_n 12 dX2_distanceTo_12 rfl ?_
  refine am_getfield 13 dX2_distanceTo_13 fX2_45 (by repeat (first | assumption | exact am_ue | refine am_un (by first | assumption | decide | omega) ?_)) rfl ?_
  refine am_aload_n 16 dX2_distanceTo_16 rfl ?_
  refine am_getfield 17 dX2_distanceTo_17 fX2_45 (by repeat (first | assumption | exact am_ue | refine am_un (by first | assumption | decide | omega) ?_)) rfl ?_
  refine am_fsub 20 dX2_distanceTo_20 (f_n32 d2.1) ?_
  refine am_SN1 21 (mc' := 0) (ms' := 0) (rc := 0) (rs := 0) dX2_distanceTo_21 lX2_64 ⟨by decide, by decide⟩ (Nat.le_of_ble_eq_true rfl) (Nat.le_of_ble_eq_true rfl) (s_withoutSign) ?_
  rintro o n' f' ⟨rfl, rfl, rfl⟩
  refine ⟨_, rfl, ?_⟩
  refine am_fadd 24 dX2_distanceTo_24 (f_n32 d3.1) ?_
  exact am_freturn 25 dX2_distanceTo_25 rfl ⟨rfl, rfl, rfl⟩
theorem s_moveTo {px py d : Nat} (h : m_kC f c κ) (k : m_kOk κ) (hx : px ≤ 56) (hy : py ≤ 56) (h1 : 1 ≤ d) (h2 : d ≤ 4) : AM mX2_moveTo 0 0 [.ref c, .int (nI px), .int (nI py), .int (nI d)] n f (am_is none n (va_up f c (.inr (2, m_kF c (m_move κ (nI px) (nI py) (nI d)))))) := by
  show AW mX2_moveTo 0 0 0 [some (.ref c), some (.int (nI px)), some (.int (nI py)), some (.int (nI d)), none, none] [] n f _
  have h0 := h.1
  obtain ⟨k0, k1, k2, k3, k4, k5, k6, k7⟩ := k
  obtain ⟨q1, a0, a1, a2⟩ := m_st_ok k0 hx h1 h2
  obtain ⟨-, b0, b1, b2⟩ := m_st_ok k1 hy h1 h2
  obtain ⟨d1, d2, d3⟩ := f_dist a2 b2 k5 k6
  refine am_aload_n 0 dX2_moveTo_0 rfl ?_
  refine am_iconst 1 (v := 1) dX2_moveTo_1 (by decide) ?_
  refine am_putfield 2 dX2_moveTo_2 pX2_19 (by repeat (first | assumption | exact am_ue | refine am_un (by first | assumption | decide | omega) ?_)) rfl rfl (Nat.le_of_ble_eq_true rfl) ?_
  refine am_aload_n 5 dX2_moveTo_5 rfl ?_
  refine am_iload_n 6 dX2_moveTo_6 rfl ?_
  refine am_putfield 7 dX2_moveTo_7 pX2_22 (by repeat (first | assumption | exact am_ue | refine am_un (by first | assumption | decide | omega) ?_)) rfl rfl (Nat.le_of_ble_eq_true rfl) ?_
  refine am_aload_n 10 dX2_moveTo_10 rfl ?_
  refine am_iload_n 11 dX2_moveTo_11 rfl ?_
  refine am_putfield 12 dX2_moveTo_12 pX2_26 (by repeat (first | assumption | exact am_ue | refine am_un (by first | assumption | decide | omega) ?_)) rfl rfl (Nat.le_of_ble_eq_true rfl) ?_
  refine am_aload_n 15 dX2_moveTo_15 rfl ?_
  refine am_dup 16 dX2_moveTo_16 rfl ?_
  refine am_getfield 17 dX2_moveTo_17 fX2_29 (by repeat (first | assumption | exact am_ue | refine am_un (by first | assumption | decide | omega) ?_)) rfl ?_
  refine am_iconst 20 (v := 1) dX2_moveTo_20 (by decide) ?_
  refine am_iadd 21 dX2_moveTo_21 ?_
  refine am_putfield 22 dX2_moveTo_22 pX2_29 (by repeat (first | assumption | exact am_ue | refine am_un (by first | assumption | decide | omega) ?_)) rfl rfl (Nat.le_of_ble_eq_true rfl) ?_
  refine am_aload_n 25 dX2_moveTo_25 rfl ?_
  refine am_iconst 26 (v := 0) dX2_moveTo_26 (by decide) ?_
  refine am_putfield 27 dX2_moveTo_27 pX2_32 (by repeat (first | assumption | exact am_ue | refine am_un (by first | assumption | decide | omega) ?_)) rfl rfl (Nat.le_of_ble_eq_true rfl) ?_
  refine am_iload_n 30 dX2_moveTo_30 rfl ?_
  refine am_i2f 31 dX2_moveTo_31 ?_
  refine am_ldcf 32 dX2_moveTo_32 kX2_63 ?_
  refine am_fdiv 34 dX2_moveTo_34 (f_n32 q1) ?_
  refine am_fstore 35 dX2_moveTo_35 (by decide) ?_
  refine am_aload_n 37 dX2_moveTo_37 rfl ?_
  refine am_iload_n 38 dX2_moveTo_38 rfl ?_
  refine am_i2f 39 dX2_moveTo_39 ?_
  refine am_aload_n 40 dX2_moveTo_40 rfl ?_
  refine am_getfield 41 dX2_moveTo_41 fX2_41 (by repeat (first | assumption | exact am_ue | refine am_un (by first | assumption | decide | omega) ?_)) rfl ?_
  refine am_fsub 44 dX2_moveTo_44 (f_n32 a0.1) ?_
  refine am_fload 45 dX2_moveTo_45 rfl ?_
  refine am_fmul 47 dX2_moveTo_47 (f_n32 a1.1) ?_
  refine am_putfield 48 dX2_moveTo_48 pX2_48 (by repeat (first | assumption | exact am_ue | refine am_un (by first | assumption | decide | omega) ?_)) rfl rfl (Nat.le_of_ble_eq_true rfl) ?_
  refine am_aload_n 51 dX2_moveTo_51 rfl ?_
  refine am_iload_n 52 dX2_moveTo_52 rfl ?_
  refine am_i2f 53 dX2_moveTo_53 ?_
  refine am_aload_n 54 dX2_moveTo_54 rfl ?_
  refine am_getfield 55 dX2_moveTo_55 fX2_45 (by repeat (first | assumption | exact am_ue | refine am_un (by first | assumption | decide | omega) ?_)) rfl ?_
  refine am_fsub 58 dX2_moveTo_58 (f_n32 b0.1) ?_
  refine am_fload 59 dX2_moveTo_59 rfl ?_
  refine am_fmul 61 dX2_moveTo_61 (f_n32 b1.1) ?_
  refine am_putfield 62 dX2_moveTo_62 pX2_51 (by repeat (first | assumption | exact am_ue | refine am_un (by first | assumption | decide | omega) ?_)) rfl rfl (Nat.le_of_ble_eq_true rfl) ?_
  refine am_aload_n 65 dX2_moveTo_65 rfl ?_
  refine am_dup 66 dX2_moveTo_66 rfl ?_
  refine am_getfield 67 dX2_moveTo_67 fX2_41 (by repeat (first | assumption | exact am_ue | refine am_un (by first | assumption | decide | omega) ?_)) rfl ?_
  refine am_aload_n 70 dX2_moveTo_70 rfl ?_
  refine am_getfield 71 dX2_moveTo_71 fX2_48 (by repeat (first | assumption | exact am_ue | refine am_un (by first | assumption | decide | omega) ?_)) rfl ?_
  refine am_fadd 74 dX2_moveTo_74 (f_n32 a2.1) ?_
  refine am_putfield 75 dX2_moveTo_75 pX2_41 (by repeat (first | assumption | exact am_ue | refine am_un (by first | assumption | decide | omega) ?_)) rfl rfl (Nat.le_of_ble_eq_true rfl) ?_
  refine am_aload_n 78 dX2_moveTo_78 rfl ?_
  refine am_dup 79 dX2_moveTo_79 rfl ?_
  refine am_getfield 80 dX2_moveTo_80 fX2_45 (by repeat (first | assumption | exact am_ue | refine am_un (by first | assumption | decide | omega) ?_)) rfl ?_
  refine am_aload_n 83 dX2_moveTo_83 rfl ?_
  refine am_getfield 84 dX2_moveTo_84 fX2_51 (by repeat (first | assumption | exact am_ue | refine am_un (by first | assumption | decide | omega) ?_)) rfl ?_
  refine am_fadd 87 dX2_moveTo_87 (f_n32 b2.1) ?_
  refine am_putfield 88 dX2_moveTo_88 pX2_45 (by repeat (first | assumption | exact am_ue | refine am_un (by first | assumption | decide | omega) ?_)) rfl rfl (Nat.le_of_ble_eq_true rfl) ?_
  refine am_aload_n 91 dX2_moveTo_91 rfl ?_
  refine am_getfield 92 dX2_moveTo_92 fX2_41 (by repeat (first | assumption | exact am_ue | refine am_un (by first | assumption | decide | omega) ?_)) rfl ?_
  refine am_aload_n 95 dX2_moveTo_95 rfl ?_
  refine am_getfield 96 dX2_moveTo_96 fX2_57 (by repeat (first | assumption | exact am_ue | refine am_un (by first | assumption | decide | omega) ?_)) rfl ?_
  refine am_fsub 99 dX2_moveTo_99 (f_n32 d1.1) ?_
  refine am_SN1 100 (mc' := 0) (ms' := 0) (rc := 0) (rs := 0) dX2_moveTo_100 lX2_64 ⟨by decide, by decide⟩ (Nat.le_of_ble_eq_true rfl) (Nat.le_of_ble_eq_true rfl) (s_withoutSign) ?_
  rintro o n' f' ⟨rfl, rfl, rfl⟩
  refine ⟨_, rfl, ?_⟩
  refine am_aload_n 103 dX2_moveTo_103 rfl ?_
  refine am_getfield 104 dX2_moveTo_104 fX2_45 (by repeat (first | assumption | exact am_ue | refine am_un (by first | assumption | decide | omega) ?_)) rfl ?_
  refine am_aload_n 107 dX2_moveTo_107 rfl ?_
  refine am_getfield 108 dX2_moveTo_108 fX2_60 (by repeat (first | assumption | exact am_ue | refine am_un (by first | assumption | decide | omega) ?_)) rfl ?_
  refine am_fsub 111 dX2_moveTo_111 (f_n32 d2.1) ?_
  refine am_SN1 112 (mc' := 0) (ms' := 0) (rc := 0) (rs := 0) dX2_moveTo_112 lX2_64 ⟨by decide, by decide⟩ (Nat.le_of_ble_eq_true rfl) (Nat.le_of_ble_eq_true rfl) (s_withoutSign) ?_
  rintro o n' f' ⟨rfl, rfl, rfl⟩
  refine ⟨_, rfl, ?_⟩
  refine am_fadd 115 dX2_moveTo_115 (f_n32 d3.1) ?_
  refine am_fstore 116 dX2_moveTo_116 (by decide) ?_
  refine am_aload_n 118 dX2_moveTo_118 rfl ?_
  refine am_fload 119 dX2_moveTo_119 rfl ?_
  refine am_aload_n 121 dX2_moveTo_121 rfl ?_
  refine am_getfield 122 dX2_moveTo_122 fX2_54 (by repeat (first | assumption | exact am_ue | refine am_un (by first | assumption | decide | omega) ?_)) rfl ?_
  refine am_fcmp 125 dX2_moveTo_125 ?_
  refine am_if_le 126 134 dX2_moveTo_126 rfl (fun c126 => ?_) (fun c126 => ?_)
  · have e4 : (m_move κ (nI px) (nI py) (nI d)).2.1 4 = κ.2.1 4 := if_pos c126
    refine am_aload_n 134 dX2_moveTo_134 rfl ?_
    refine am_getfield 135 dX2_moveTo_135 fX2_54 (by repeat (first | assumption | exact am_ue | refine am_un (by first | assumption | decide | omega) ?_)) rfl ?_
    refine am_putfield 138 dX2_moveTo_138 pX2_54 (by repeat (first | assumption | exact am_ue | refine am_un (by first | assumption | decide | omega) ?_)) rfl rfl (Nat.le_of_ble_eq_true rfl) ?_
    refine am_return 141 dX2_moveTo_141 rfl ?_
    refine ⟨rfl, rfl, ?_⟩
    simp only [am_uu]
    unfold m_kF
    rw [e4]
    rfl
  · have e4 : (m_move κ (nI px) (nI py) (nI d)).2.1 4 = m_dist (FP.fadd (κ.2.1 0) (m_st (κ.2.1 0) (nI px) (nI d))) (FP.fadd (κ.2.1 1) (m_st (κ.2.1 1) (nI py) (nI d))) (κ.2.1 5) (κ.2.1 6) := if_neg c126
    refine am_fload 129 dX2_moveTo_129 rfl ?_
    refine am_goto 131 (tgt := 138) dX2_moveTo_131 rfl ?_
    refine am_putfield 138 dX2_moveTo_138 pX2_54 (by repeat (first | assumption | exact am_ue | refine am_un (by first | assumption | decide | omega) ?_)) rfl rfl (Nat.le_of_ble_eq_true rfl) ?_
    refine am_return 141 dX2_moveTo_141 rfl ?_
    refine ⟨rfl, rfl, ?_⟩
    simp only [am_uu]
    unfold m_kF
    rw [e4]
    rfl
end ConW
