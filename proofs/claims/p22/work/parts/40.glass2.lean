/-! ===== the glass in any state: what is told and done ===== -/
section Gl2
variable {p T n : Nat} {f : Nat → am_C} {z : m_Z}
theorem s_lookW {i j : Nat} {sig reg pc px py chn w bs : Nat → Int32} {pk hm ht : Int32} (h : m_Pic f i sig reg pc px py chn pk hm) (hS : m_Sh f j w bs ht) (hd : j + 2 < i ∨ i + 6 < j) : AM mX5_look 0 0 [.ref i, .ref j] n f (fun o n' f' => o = .inl none ∧ n' = n ∧ m_Look f' i (fun k => ht + w k - bs k) ∧ ∀ x, (x < i ∨ i + 6 < x) → f' x = f x) := by
  refine AW.mono ?_ (s_look h hS hd)
  rintro o n' f' ⟨pc', px', py', chn', rfl, rfl, rfl, hok⟩
  exact ⟨rfl, rfl, ⟨_, _, _, _, m_put_pic, hok⟩, fun x hx => m_put_out hx⟩
theorem m_G.sheet {f' : Nat → am_C} {w b : Nat → Int32} {h : Int32} (hG : m_G f p T z) (hS : m_Sh f' (p + 1) w b h) (hL : m_Look f' (p + 4) (fun k => h + w k - b k)) (hh : -30 ≤ h ∧ h ≤ 30) (e : ∀ x, (x < p + 1 ∨ p + 10 < x) → f' x = f x) : m_G f' p T ((w, b, h), z.2) := by
  obtain ⟨h0, h1, h2, h3, h4, h5, h6, h7⟩ := hG
  exact ⟨(e _ (by omega)).trans h0, hS, hL, h3.on fun x a b => e x (by omega), h4.on fun x a b => e x (by omega), h5.on fun x a b => e x (by omega), h6, h7.1, h7.2.1, h7.2.2.1, hh⟩
theorem s_area {a b : Nat} (hG : m_G f p T z) (ha : a < 8) (hb : b < 6) (ht : z_to z < 4) : AM mX7_area 0 0 [.ref p, .int (nI a), .int 7, .int (nI b), .int 5] n f (fun o n' f' => ∃ A', m_ask p T (z.1, z.2.1, z.2.2.1, (z_to z + 1, A', z_C z), z.2.2.2.2) n f (.int (nI (z_to z))) o n' f') := by
  obtain ⟨h0, h1, h2, h3, h4, h5, h6, h7⟩ := hG
  have hs := h4.1
  show AW mX7_area 0 0 0 [some (.ref p), some (.int (nI a)), some (.int 7), some (.int (nI b)), some (.int 5)] [] n f _
  refine am_iload_n 0 dX7_area_0 rfl ?_
  refine am_if_lt 1 32 dX7_area_1 rfl (fun c1 => absurd c1 (nI_pos (by omega))) (fun c1 => ?_)
  refine am_iload_n 4 dX7_area_4 rfl ?_
  refine am_iload_n 5 dX7_area_5 rfl ?_
  refine am_icmp_lt 6 32 dX7_area_6 rfl (fun c6 => absurd c6 (nI_nlt (a := 7) (by omega) (by decide))) (fun c6 => ?_)
  refine am_iload_n 9 dX7_area_9 rfl ?_
  refine am_bipush 10 (v := 8) dX7_area_10 (by decide) ?_
  refine am_icmp_ge 12 32 dX7_area_12 rfl (fun c12 => absurd c12 (by decide)) (fun c12 => ?_)
  refine am_iload_n 15 dX7_area_15 rfl ?_
  refine am_if_lt 16 32 dX7_area_16 rfl (fun c16 => absurd c16 (nI_pos (by omega))) (fun c16 => ?_)
  refine am_iload 19 dX7_area_19 rfl ?_
  refine am_iload_n 21 dX7_area_21 rfl ?_
  refine am_icmp_lt 22 32 dX7_area_22 rfl (fun c22 => absurd c22 (nI_nlt (a := 5) (by omega) (by decide))) (fun c22 => ?_)
  refine am_iload 25 dX7_area_25 rfl ?_
  refine am_bipush 27 (v := 6) dX7_area_27 (by decide) ?_
  refine am_icmp_lt 29 42 dX7_area_29 rfl (fun c29 => ?_) (fun c29 => absurd (by decide) c29)
  refine am_aload_n 42 dX7_area_42 rfl ?_
  refine am_getfield 43 dX7_area_43 fX7_39 (by repeat (first | assumption | exact am_ue | refine am_un (by first | assumption | decide | omega) ?_)) rfl ?_
  refine am_getfield 46 dX7_area_46 fX7_66 (by repeat (first | assumption | exact am_ue | refine am_un (by first | assumption | decide | omega) ?_)) rfl ?_
  refine am_iconst 49 (v := 4) dX7_area_49 (by decide) ?_
  refine am_icmp_lt 50 63 dX7_area_50 rfl (fun c50 => ?_) (fun c50 => absurd (nI_lt (b := 4) ht (by decide)) c50)
  refine am_aload_n 63 dX7_area_63 rfl ?_
  refine am_getfield 64 dX7_area_64 fX7_39 (by repeat (first | assumption | exact am_ue | refine am_un (by first | assumption | decide | omega) ?_)) rfl ?_
  refine am_iload_n 67 dX7_area_67 rfl ?_
  refine am_iload_n 68 dX7_area_68 rfl ?_
  refine am_iload_n 69 dX7_area_69 rfl ?_
  refine am_iload 70 dX7_area_70 rfl ?_
  refine am_V4 72 (mc' := 0) (ms' := 0) (rc := 0) (rs := 0) dX7_area_72 lX7_74 ⟨by decide, by decide⟩ (by repeat (first | assumption | exact am_ue | refine am_un (by first | assumption | decide | omega) ?_)) (Nat.le_of_ble_eq_true rfl) (Nat.le_of_ble_eq_true rfl) (s_tell h4 ht) ?_
  rintro o n' f1 ⟨rfl, rfl, q1, q2⟩
  refine am_ctI ?_
  refine am_ireturn 75 dX7_area_75 rfl rfl ?_
  exact ⟨_, rfl, rfl, ⟨(q2 _ (by omega)).trans h0, h1.on fun x a b => q2 x (by omega), h2.on fun x a b => q2 x (by omega), h3.on fun x a b => q2 x (by omega), q1, h5.on fun x a b => q2 x (by omega), h6.tell ht, h7⟩, fun x hx => q2 x (by omega)⟩
theorem s_dial {d : Nat} (hG : m_G f p T z) (h1 : 1 ≤ d) (h2 : d ≤ 4) : AM mX7_dial 0 0 [.ref p, .int (nI d)] n f (m_ask p T (z.1, z.2.1, z.2.2.1, z.2.2.2.1, (d, z.2.2.2.2.2)) n f (.int (nI (z_d z)))) := by
  obtain ⟨g0, g1, g2, g3, g4, g5, g6, g7⟩ := hG
  show AW mX7_dial 0 0 0 [some (.ref p), some (.int (nI d)), none] [] n f _
  refine am_iload_n 0 dX7_dial_0 rfl ?_
  refine am_iconst 1 (v := 1) dX7_dial_1 (by decide) ?_
  refine am_icmp_lt 2 10 dX7_dial_2 rfl (fun c2 => absurd c2 (nI_nlt (b := 1) h1 (by omega))) (fun c2 => ?_)
  refine am_iload_n 5 dX7_dial_5 rfl ?_
  refine am_iconst 6 (v := 4) dX7_dial_6 (by decide) ?_
  refine am_icmp_le 7 20 dX7_dial_7 rfl (fun c7 => ?_) (fun c7 => absurd ((nI_leI (b := 4) (by omega) (by decide)).mpr h2) c7)
  refine am_aload_n 20 dX7_dial_20 rfl ?_
  refine am_getfield 21 dX7_dial_21 fX7_52 (by repeat (first | assumption | exact am_ue | refine am_un (by first | assumption | decide | omega) ?_)) rfl ?_
  refine am_istore_n 24 dX7_dial_24 (by decide) ?_
  refine am_aload_n 25 dX7_dial_25 rfl ?_
  refine am_iload_n 26 dX7_dial_26 rfl ?_
  refine am_putfield 27 dX7_dial_27 pX7_52 (by repeat (first | assumption | exact am_ue | refine am_un (by first | assumption | decide | omega) ?_)) rfl rfl (Nat.le_of_ble_eq_true rfl) ?_
  refine am_iload_n 30 dX7_dial_30 rfl ?_
  refine am_ireturn 31 dX7_dial_31 rfl rfl ?_
  exact ⟨rfl, rfl, ⟨am_ue, g1.on fun x a b => am_up_ne (by omega), g2.on fun x a b => am_up_ne (by omega), g3.on fun x a b => am_up_ne (by omega), g4.on fun x a b => am_up_ne (by omega), g5.on fun x a b => am_up_ne (by omega), g6, h1, h2, g7.2.2⟩, fun x hx => am_up_ne (by omega)⟩
theorem s_limit {d : Nat} (hG : m_G f p T z) (h1 : 1 ≤ d) (h2 : d ≤ 30) : AM mX7_limit 0 0 [.ref p, .int (nI d)] n f (m_ask p T (z.1, z.2.1, z.2.2.1, z.2.2.2.1, (z_d z, nI d, z.2.2.2.2.2.2)) n f (.int (z_lim z))) := by
  obtain ⟨g0, g1, g2, g3, g4, g5, g6, g7⟩ := hG
  show AW mX7_limit 0 0 0 [some (.ref p), some (.int (nI d)), none] [] n f _
  refine am_iload_n 0 dX7_limit_0 rfl ?_
  refine am_iconst 1 (v := 1) dX7_limit_1 (by decide) ?_
  refine am_icmp_lt 2 11 dX7_limit_2 rfl (fun c2 => absurd c2 (nI_nlt (b := 1) h1 (by omega))) (fun c2 => ?_)
  refine am_iload_n 5 dX7_limit_5 rfl ?_
  refine am_bipush 6 (v := 30) dX7_limit_6 (by decide) ?_
  refine am_icmp_le 8 21 dX7_limit_8 rfl (fun c8 => ?_) (fun c8 => absurd ((nI_leI (b := 30) (by omega) (by decide)).mpr h2) c8)
  refine am_aload_n 21 dX7_limit_21 rfl ?_
  refine am_getfield 22 dX7_limit_22 fX7_56 (by repeat (first | assumption | exact am_ue | refine am_un (by first | assumption | decide | omega) ?_)) rfl ?_
  refine am_istore_n 25 dX7_limit_25 (by decide) ?_
  refine am_aload_n 26 dX7_limit_26 rfl ?_
  refine am_iload_n 27 dX7_limit_27 rfl ?_
  refine am_putfield 28 dX7_limit_28 pX7_56 (by repeat (first | assumption | exact am_ue | refine am_un (by first | assumption | decide | omega) ?_)) rfl rfl (Nat.le_of_ble_eq_true rfl) ?_
  refine am_iload_n 31 dX7_limit_31 rfl ?_
  refine am_ireturn 32 dX7_limit_32 rfl rfl ?_
  exact ⟨rfl, rfl, ⟨am_ue, g1.on fun x a b => am_up_ne (by omega), g2.on fun x a b => am_up_ne (by omega), g3.on fun x a b => am_up_ne (by omega), g4.on fun x a b => am_up_ne (by omega), g5.on fun x a b => am_up_ne (by omega), g6, g7⟩, fun x hx => am_up_ne (by omega)⟩
theorem s_heat {v : Int32} (hG : m_G f p T z) (h1 : -30 ≤ v) (h2 : v ≤ 30) : AM mX7_heat 0 0 [.ref p, .int v] n f (m_ask p T ((z_w z, z_b z, v), z.2) n f (.int (z_h z))) := by
  have h0 := hG.1
  have hS := hG.2.1
  have hs := hS.1
  obtain ⟨pc, px, py, chn, hp, -⟩ := hG.2.2.1
  have p0 := hp.1
  show AW mX7_heat 0 0 0 [some (.ref p), some (.int v), none] [] n f _
  have g1 : m_Sh (va_up f (p + 1) (.inr (6, [.ref (p + 1 + 1), .ref (p + 1 + 2), .int v]))) (p + 1) (z_w z) (z_b z) v := ⟨am_ue, am_un (by omega) hS.2.1, am_un (by omega) hS.2.2⟩
  have g2 := hp.on (f' := va_up f (p + 1) (.inr (6, [.ref (p + 1 + 1), .ref (p + 1 + 2), .int v]))) fun x a b => am_up_ne (by omega)
  refine am_iload_n 0 dX7_heat_0 rfl ?_
  refine am_bipush 1 (v := (-30)) dX7_heat_1 (by decide) ?_
  refine am_icmp_lt 3 12 dX7_heat_3 rfl (fun c3 => absurd c3 (Int32.not_lt.mpr h1)) (fun c3 => ?_)
  refine am_iload_n 6 dX7_heat_6 rfl ?_
  refine am_bipush 7 (v := 30) dX7_heat_7 (by decide) ?_
  refine am_icmp_le 9 22 dX7_heat_9 rfl (fun c9 => ?_) (fun c9 => absurd h2 c9)
  refine am_aload_n 22 dX7_heat_22 rfl ?_
  refine am_getfield 23 dX7_heat_23 fX7_10 (by repeat (first | assumption | exact am_ue | refine am_un (by first | assumption | decide | omega) ?_)) rfl ?_
  refine am_getfield 26 dX7_heat_26 fX7_84 (by repeat (first | assumption | exact am_ue | refine am_un (by first | assumption | decide | omega) ?_)) rfl ?_
  refine am_istore_n 29 dX7_heat_29 (by decide) ?_
  refine am_aload_n 30 dX7_heat_30 rfl ?_
  refine am_getfield 31 dX7_heat_31 fX7_10 (by repeat (first | assumption | exact am_ue | refine am_un (by first | assumption | decide | omega) ?_)) rfl ?_
  refine am_iload_n 34 dX7_heat_34 rfl ?_
  refine am_putfield 35 dX7_heat_35 pX7_84 (by repeat (first | assumption | exact am_ue | refine am_un (by first | assumption | decide | omega) ?_)) rfl rfl (Nat.le_of_ble_eq_true rfl) ?_
  rw [show List.set [Value.ref (p + 1 + 1), .ref (p + 1 + 2), .int (z_h z)] 2 (.int v) = [.ref (p + 1 + 1), .ref (p + 1 + 2), .int v] from rfl]
  refine am_aload_n 38 dX7_heat_38 rfl ?_
  refine am_getfield 39 dX7_heat_39 fX7_19 (by repeat (first | assumption | exact am_ue | refine am_un (by first | assumption | decide | omega) ?_)) rfl ?_
  refine am_aload_n 42 dX7_heat_42 rfl ?_
  refine am_getfield 43 dX7_heat_43 fX7_10 (by repeat (first | assumption | exact am_ue | refine am_un (by first | assumption | decide | omega) ?_)) rfl ?_
  refine am_V1 46 (mc' := 0) (ms' := 0) (rc := 0) (rs := 0) dX7_heat_46 lX7_87 ⟨by decide, by decide⟩ (by repeat (first | assumption | exact am_ue | refine am_un (by first | assumption | decide | omega) ?_)) (Nat.le_of_ble_eq_true rfl) (Nat.le_of_ble_eq_true rfl) (s_lookW (g2) (g1) (by omega)) ?_
  rintro o n' f1 ⟨rfl, rfl, hL1, e1⟩
  refine am_ctI ?_
  refine am_iload_n 49 dX7_heat_49 rfl ?_
  refine am_ireturn 50 dX7_heat_50 rfl rfl ?_
  exact ⟨rfl, rfl, hG.sheet (g1.on fun x a b => e1 x (by omega)) hL1 ⟨h1, h2⟩ fun x hx => (e1 x (by omega)).trans (am_up_ne (by omega)), fun x hx => (e1 x (by omega)).trans (am_up_ne (by omega))⟩
theorem m_press_at {w : Nat → Int32} {s : Int32} {j k : Nat} (hj : j < 8) (hk : k < 6) : m_press w s j k (8 * k + j) = w (8 * k + j) + s := by
  have e1 : (8 * k + j) / 8 = k := by omega
  have e2 : (8 * k + j) % 8 = j := by omega
  unfold m_press m_pressTo m_pr
  rw [e1, e2, if_pos (by omega), if_pos rfl, if_pos rfl]
  show w (8 * k + j) + s >>> ((0 : Int32) &&& 31) = w (8 * k + j) + s
  rw [show ((0 : Int32) &&& 31) = 0 from rfl, Int32.shiftRight_zero]
theorem s_press {x y s : Nat} (hG : m_G f p T z) (hx : x < 8) (hy : y < 6) (h1 : 1 ≤ s) (h2 : s ≤ 200) : AM mX7_press 0 0 [.ref p, .int (nI x), .int (nI y), .int (nI s)] n f (m_ask p T ((m_press (z_w z) (nI s) x y, z_b z, z_h z), z.2) n f (.int (m_sg ((m_press (z_w z) (nI s) x y, z_b z, z_h z), z.2) (8 * y + x)))) := by
  have h0 := hG.1
  have hS := hG.2.1
  have hs := hS.1
  obtain ⟨pc, px, py, chn, hp, -⟩ := hG.2.2.1
  have p0 := hp.1
  show AW mX7_press 0 0 0 [some (.ref p), some (.int (nI x)), some (.int (nI y)), some (.int (nI s))] [] n f _
  have g1 : m_Sh (va_up f (p + 1 + 1) (.inl (0, 48, .inl (m_press (z_w z) (nI s) x y)))) (p + 1) (m_press (z_w z) (nI s) x y) (z_b z) (z_h z) := ⟨am_un (by omega) hS.1, am_ue, am_un (by omega) hS.2.2⟩
  have g2 := hp.on (f' := va_up f (p + 1 + 1) (.inl (0, 48, .inl (m_press (z_w z) (nI s) x y)))) fun x a b => am_up_ne (by omega)
  refine am_iload_n 0 dX7_press_0 rfl ?_
  refine am_iload_n 1 dX7_press_1 rfl ?_
  refine am_S2 2 (mc' := 0) (ms' := 0) (rc := 0) (rs := 0) dX7_press_2 lX7_91 ⟨by decide, by decide⟩ (Nat.le_of_ble_eq_true rfl) (Nat.le_of_ble_eq_true rfl) (s_ckCell hx hy) ?_
  refine am_is_ct ?_
  refine am_iload_n 5 dX7_press_5 rfl ?_
  refine am_S1 6 (mc' := 0) (ms' := 0) (rc := 0) (rs := 0) dX7_press_6 lX7_95 ⟨by decide, by decide⟩ (Nat.le_of_ble_eq_true rfl) (Nat.le_of_ble_eq_true rfl) (s_ckStrength h1 h2) ?_
  refine am_is_ct ?_
  refine am_aload_n 9 dX7_press_9 rfl ?_
  refine am_getfield 10 dX7_press_10 fX7_10 (by repeat (first | assumption | exact am_ue | refine am_un (by first | assumption | decide | omega) ?_)) rfl ?_
  refine am_iload_n 13 dX7_press_13 rfl ?_
  refine am_iload_n 14 dX7_press_14 rfl ?_
  refine am_iload_n 15 dX7_press_15 rfl ?_
  refine am_V3 16 (mc' := 0) (ms' := 0) (rc := 0) (rs := 0) dX7_press_16 lX7_99 ⟨by decide, by decide⟩ (by repeat (first | assumption | exact am_ue | refine am_un (by first | assumption | decide | omega) ?_)) (Nat.le_of_ble_eq_true rfl) (Nat.le_of_ble_eq_true rfl) (s_addPress hS.1 hS.2.1 (by omega) hx hy) ?_
  refine am_is_ct ?_
  refine am_aload_n 19 dX7_press_19 rfl ?_
  refine am_getfield 20 dX7_press_20 fX7_19 (by repeat (first | assumption | exact am_ue | refine am_un (by first | assumption | decide | omega) ?_)) rfl ?_
  refine am_aload_n 23 dX7_press_23 rfl ?_
  refine am_getfield 24 dX7_press_24 fX7_10 (by repeat (first | assumption | exact am_ue | refine am_un (by first | assumption | decide | omega) ?_)) rfl ?_
  refine am_V1 27 (mc' := 0) (ms' := 0) (rc := 0) (rs := 0) dX7_press_27 lX7_87 ⟨by decide, by decide⟩ (by repeat (first | assumption | exact am_ue | refine am_un (by first | assumption | decide | omega) ?_)) (Nat.le_of_ble_eq_true rfl) (Nat.le_of_ble_eq_true rfl) (s_lookW (g2) (g1) (by omega)) ?_
  rintro o n' f1 ⟨rfl, rfl, hL1, e1⟩
  refine am_ctI ?_
  obtain ⟨pc1, px1, py1, chn1, ⟨q0, q1, -⟩, -⟩ := id hL1
  have k0 : f1 p = _ := (e1 p (by omega)).trans ((am_up_ne (by omega)).trans h0)
  refine am_aload_n 30 dX7_press_30 rfl ?_
  refine am_getfield 31 dX7_press_31 fX7_19 (by repeat (first | assumption | exact am_ue | refine am_un (by first | assumption | decide | omega) ?_)) rfl ?_
  refine am_getfield 34 dX7_press_34 fX7_103 (by repeat (first | assumption | exact am_ue | refine am_un (by first | assumption | decide | omega) ?_)) rfl ?_
  refine am_iload_n 37 dX7_press_37 rfl ?_
  refine am_bipush 38 (v := 8) dX7_press_38 (by decide) ?_
  refine am_imul 40 dX7_press_40 ?_
  refine am_iload_n 41 dX7_press_41 rfl ?_
  refine am_iadd 42 dX7_press_42 ?_
  rw [am_cellN]
  refine am_iaload 43 dX7_press_43 rfl (by repeat (first | assumption | exact am_ue | refine am_un (by first | assumption | decide | omega) ?_)) (am_ix (by omega) (by decide)) ?_
  rw [nI_clamp (n := 8 * y + x) (by omega)]
  refine am_ireturn 44 dX7_press_44 rfl rfl ?_
  exact ⟨rfl, rfl, hG.sheet (g1.on fun x a b => e1 x (by omega)) hL1 hG.2.2.2.2.2.2.2.2.2.2 fun x hx => (e1 x (by omega)).trans (am_up_ne (by omega)), fun x hx => (e1 x (by omega)).trans (am_up_ne (by omega))⟩
def m_noise (w : Nat → Int32) (y : Nat) (u : Int32) : Nat → Int32 := fun k => if k / 8 = y then w k + u else w k
theorem s_noise {y : Nat} {u : Int32} (hG : m_G f p T z) (hy : y < 6) (h1 : -40 ≤ u) (h2 : u ≤ 40) : AM mX7_noise 0 0 [.ref p, .int (nI y), .int u] n f (m_ask p T ((m_noise (z_w z) y u, z_b z, z_h z), z.2) n f (.int (m_hum (m_sg ((m_noise (z_w z) y u, z_b z, z_h z), z.2))))) := by
  have h0 := hG.1
  have hS := hG.2.1
  have hs := hS.1
  obtain ⟨pc, px, py, chn, hp, -⟩ := hG.2.2.1
  have p0 := hp.1
  show AW mX7_noise 0 0 0 [some (.ref p), some (.int (nI y)), some (.int u)] [] n f _
  have g1 : m_Sh (va_up f (p + 1 + 1) (.inl (0, 48, .inl (m_noise (z_w z) y u)))) (p + 1) (m_noise (z_w z) y u) (z_b z) (z_h z) := ⟨am_un (by omega) hS.1, am_ue, am_un (by omega) hS.2.2⟩
  have g2 := hp.on (f' := va_up f (p + 1 + 1) (.inl (0, 48, .inl (m_noise (z_w z) y u)))) fun x a b => am_up_ne (by omega)
  refine am_iload_n 0 dX7_noise_0 rfl ?_
  refine am_S1 1 (mc' := 0) (ms' := 0) (rc := 0) (rs := 0) dX7_noise_1 lX7_107 ⟨by decide, by decide⟩ (Nat.le_of_ble_eq_true rfl) (Nat.le_of_ble_eq_true rfl) (s_ckRow hy) ?_
  refine am_is_ct ?_
  refine am_iload_n 4 dX7_noise_4 rfl ?_
  refine am_bipush 5 (v := (-40)) dX7_noise_5 (by decide) ?_
  refine am_icmp_lt 7 16 dX7_noise_7 rfl (fun c7 => absurd c7 (Int32.not_lt.mpr h1)) (fun c7 => ?_)
  refine am_iload_n 10 dX7_noise_10 rfl ?_
  refine am_bipush 11 (v := 40) dX7_noise_11 (by decide) ?_
  refine am_icmp_le 13 26 dX7_noise_13 rfl (fun c13 => ?_) (fun c13 => absurd h2 c13)
  refine am_aload_n 26 dX7_noise_26 rfl ?_
  refine am_getfield 27 dX7_noise_27 fX7_10 (by repeat (first | assumption | exact am_ue | refine am_un (by first | assumption | decide | omega) ?_)) rfl ?_
  refine am_iload_n 30 dX7_noise_30 rfl ?_
  refine am_iload_n 31 dX7_noise_31 rfl ?_
  refine am_V2 32 (mc' := 0) (ms' := 0) (rc := 0) (rs := 0) dX7_noise_32 lX7_112 ⟨by decide, by decide⟩ (by repeat (first | assumption | exact am_ue | refine am_un (by first | assumption | decide | omega) ?_)) (Nat.le_of_ble_eq_true rfl) (Nat.le_of_ble_eq_true rfl) (s_addNoise hS.1 hS.2.1 (by omega) hy) ?_
  refine am_is_ct ?_
  refine am_aload_n 35 dX7_noise_35 rfl ?_
  refine am_getfield 36 dX7_noise_36 fX7_19 (by repeat (first | assumption | exact am_ue | refine am_un (by first | assumption | decide | omega) ?_)) rfl ?_
  refine am_aload_n 39 dX7_noise_39 rfl ?_
  refine am_getfield 40 dX7_noise_40 fX7_10 (by repeat (first | assumption | exact am_ue | refine am_un (by first | assumption | decide | omega) ?_)) rfl ?_
  refine am_V1 43 (mc' := 0) (ms' := 0) (rc := 0) (rs := 0) dX7_noise_43 lX7_87 ⟨by decide, by decide⟩ (by repeat (first | assumption | exact am_ue | refine am_un (by first | assumption | decide | omega) ?_)) (Nat.le_of_ble_eq_true rfl) (Nat.le_of_ble_eq_true rfl) (s_lookW (g2) (g1) (by omega)) ?_
  rintro o n' f1 ⟨rfl, rfl, hL1, e1⟩
  refine am_ctI ?_
  obtain ⟨pc1, px1, py1, chn1, ⟨q0, q1, -⟩, -⟩ := id hL1
  have k0 : f1 p = _ := (e1 p (by omega)).trans ((am_up_ne (by omega)).trans h0)
  refine am_aload_n 46 dX7_noise_46 rfl ?_
  refine am_getfield 47 dX7_noise_47 fX7_19 (by repeat (first | assumption | exact am_ue | refine am_un (by first | assumption | decide | omega) ?_)) rfl ?_
  refine am_getfield 50 dX7_noise_50 fX7_115 (by repeat (first | assumption | exact am_ue | refine am_un (by first | assumption | decide | omega) ?_)) rfl ?_
  refine am_ireturn 53 dX7_noise_53 rfl rfl ?_
  exact ⟨rfl, rfl, hG.sheet (g1.on fun x a b => e1 x (by omega)) hL1 hG.2.2.2.2.2.2.2.2.2.2 fun x hx => (e1 x (by omega)).trans (am_up_ne (by omega)), fun x hx => (e1 x (by omega)).trans (am_up_ne (by omega))⟩
end Gl2
