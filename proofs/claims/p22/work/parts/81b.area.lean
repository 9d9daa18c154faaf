/-! ===== an area told, to the letter ===== -/
section YArea
variable {p T n sz : Nat} {f : Nat → am_C} {z : m_Z} {M : Nat → Prop} {A : Nat → Nat → Int32} {S : y_H} {cs : Nat → Option Nat} {G : Nat → m_K}
def y_sd (a b c d : Int32) : Nat → Int32 := fun j => match j with
  | 0 => a
  | 1 => b
  | 2 => c
  | _ => d
theorem s_areaY {a b c d : Int32} (hG : m_G f p T z) (ht : z_to z < 4) (h1 : 0 ≤ a ∧ a ≤ 7) (h2 : a ≤ b ∧ b ≤ 7) (h3 : 0 ≤ c ∧ c ≤ 5) (h4 : c ≤ d ∧ d ≤ 5) : AM mX7_area 0 0 [.ref p, .int a, .int b, .int c, .int d] n f (m_ask p T (z.1, z.2.1, z.2.2.1, (z_to z + 1, va_up (z_A z) (z_to z) (y_sd a b c d), z_C z), z.2.2.2.2) n f (.int (nI (z_to z)))) := by
  obtain ⟨g0, g1, g2, g3, g4, g5, g6, g7⟩ := hG
  have hs := g4.1
  have q3 := (r_leP 7 rfl rfl (by decide)).mp h2.2
  have q6 := Int32.not_le.mp ((r_leP 5 rfl rfl (by decide)).mp h4.2)
  show AW mX7_area 0 0 0 [some (.ref p), some (.int a), some (.int b), some (.int c), some (.int d)] [] n f _
  refine am_iload_n 0 dX7_area_0 rfl ?_
  refine am_if_lt 1 32 dX7_area_1 rfl (fun c1 => absurd c1 (Int32.not_lt.mpr h1.1)) (fun c1 => ?_)
  refine am_iload_n 4 dX7_area_4 rfl ?_
  refine am_iload_n 5 dX7_area_5 rfl ?_
  refine am_icmp_lt 6 32 dX7_area_6 rfl (fun c6 => absurd c6 (Int32.not_lt.mpr h2.1)) (fun c6 => ?_)
  refine am_iload_n 9 dX7_area_9 rfl ?_
  refine am_bipush 10 (v := 8) dX7_area_10 (by decide) ?_
  refine am_icmp_ge 12 32 dX7_area_12 rfl (fun c12 => absurd c12 q3) (fun c12 => ?_)
  refine am_iload_n 15 dX7_area_15 rfl ?_
  refine am_if_lt 16 32 dX7_area_16 rfl (fun c16 => absurd c16 (Int32.not_lt.mpr h3.1)) (fun c16 => ?_)
  refine am_iload 19 dX7_area_19 rfl ?_
  refine am_iload_n 21 dX7_area_21 rfl ?_
  refine am_icmp_lt 22 32 dX7_area_22 rfl (fun c22 => absurd c22 (Int32.not_lt.mpr h4.1)) (fun c22 => ?_)
  refine am_iload 25 dX7_area_25 rfl ?_
  refine am_bipush 27 (v := 6) dX7_area_27 (by decide) ?_
  refine am_icmp_lt 29 42 dX7_area_29 rfl (fun c29 => ?_) (fun c29 => absurd q6 c29)
  refine am_aload_n 42 dX7_area_42 rfl ?_
  refine am_getfield 43 dX7_area_43 fX7_39 (by repeat (first | assumption | exact am_ue | refine am_un (by first | assumption | decide | omega) ?_)) rfl ?_
  refine am_getfield 46 dX7_area_46 fX7_66 (by repeat (first | assumption | exact am_ue | refine am_un (by first | assumption | decide | omega) ?_)) rfl ?_
  refine am_iconst 49 (v := 4) dX7_area_49 (by decide) ?_
  refine am_icmp_lt 50 63 dX7_area_50 rfl (fun c50 => ?_) (fun c50 => absurd (nI_lt (b := 4) ht (by decide)) c50)
  refine am_aload_n 63 dX7_area_63 rfl ?_
  refine am_getfield 64 dX7_area_64 fX7_39 (by repeat (first | assumption | exact am_ue | refine am_un (by first | assumption | decide | omega) ?_)) rfl ?_
  refine am_iload_n 67 dX7_area_67 rfl ?_
  refine am_iload_n 68 dX7_area_68 rfl ?_
  refine am_iload_n 69 dX7_area_69 rfl ?_
  refine am_iload 70 dX7_area_70 rfl ?_
  refine am_V4 72 (mc' := 0) (ms' := 0) (rc := 0) (rs := 0) dX7_area_72 lX7_74 ⟨by decide, by decide⟩ (by repeat (first | assumption | exact am_ue | refine am_un (by first | assumption | decide | omega) ?_)) (Nat.le_of_ble_eq_true rfl) (Nat.le_of_ble_eq_true rfl) (s_tell g4 ht) ?_
  rintro o n' f1 ⟨rfl, rfl, q1, q2⟩
  refine am_ctI ?_
  refine am_ireturn 75 dX7_area_75 rfl rfl ?_
  exact ⟨rfl, rfl, ⟨(q2 _ (by omega)).trans g0, g1.on fun x a b => q2 x (by omega), g2.on fun x a b => q2 x (by omega), g3.on fun x a b => q2 x (by omega), q1, g5.on fun x a b => q2 x (by omega), g6.tell ht, g7⟩, fun x hx => q2 x (by omega)⟩
theorem y_R.told {a b c d : Int32} (h : y_R M sz A S cs G) (hz : sz < 4) (hI : y_I sz T S) : y_R M (sz + 1) (va_up A sz (y_sd a b c d)) S cs (y_aG G sz a b c d) := by
  obtain ⟨h1, h2, h3, h4, h5, h6⟩ := h
  have gx : ∀ x, x ≠ sz → y_aG G sz a b c d x = G x := fun x hx => am_up_ne hx
  have gs : y_aG G sz a b c d sz = (y_rct a b c d, (G sz).2) := am_up_eq
  refine ⟨fun j hj => ⟨(h1 j hj).1, fun k hk => ?_⟩, h2, fun i j k hi hj hij hk hn => ?_, fun k hk => ?_, ?_, h6⟩
  · rw [gx k (by have := h2.1 j k hj hk; omega)]
    exact (h1 j hj).2 k hk
  · rw [gx (k + 1) (by have := h2.1 i k hi hk; omega)]
    exact h3 i j k hi hj hij hk hn
  · by_cases q : k = sz
    · rw [q, gs, am_up_eq]
      refine ⟨fun i hi => ?_, fun j hj => ?_⟩
      · rcases (show i = 0 ∨ i = 1 ∨ i = 2 ∨ i = 3 by omega) with rfl | rfl | rfl | rfl <;> rfl
      · have e : y_C S sz j = 0 := hI.2.2.2 sz (Nat.le_refl _) j
        rw [e]
        rcases (show j = 0 ∨ j = 1 ∨ j = 2 ∨ j = 3 by omega) with rfl | rfl | rfl | rfl <;> rfl
    · rw [gx k q, am_up_ne q]
      exact h4 k (by omega)
  · have hr : ∀ i, r_n (y_aG G sz a b c d) i = r_n G i := fun i => by
      unfold r_n
      rw [gx 4 (by omega)]
    unfold y_Rn
    rw [hr, hr, hr, hr, hr]
    exact h5
end YArea
