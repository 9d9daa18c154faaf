/-! ===== the class in any state: what it refuses, and area ===== -/
section CThrow
variable {p T n : Nat} {f : Nat → am_C} {z : m_Z}
theorem s_tRow {y : Int32} (h : y < 0 ∨ 6 ≤ y) : AM mX7_checkRow 1 6 [.int y] n f (am_th 2 n f) := by
  show AW mX7_checkRow 1 6 0 [some (.int y)] [] n f _
  by_cases q : y < 0
  · refine am_iload_n 0 dX7_checkRow_0 rfl ?_
    refine am_if_lt 1 10 dX7_checkRow_1 rfl (fun c1 => ?_) (fun c1 => absurd q c1)
    refine am_throw 10 rfl tX7_163_238 dX7_checkRow_10 dX7_checkRow_13 dX7_checkRow_14 dX7_checkRow_16 dX7_checkRow_19 (by decide) (by decide) ?_
    exact ⟨rfl, rfl, rfl⟩
  · have q2 : ¬ y < 6 := Int32.not_lt.mpr (h.resolve_left q)
    refine am_iload_n 0 dX7_checkRow_0 rfl ?_
    refine am_if_lt 1 10 dX7_checkRow_1 rfl (fun c1 => absurd c1 q) (fun c1 => ?_)
    refine am_iload_n 4 dX7_checkRow_4 rfl ?_
    refine am_bipush 5 (v := 6) dX7_checkRow_5 (by decide) ?_
    refine am_icmp_lt 7 20 dX7_checkRow_7 rfl (fun c7 => absurd c7 q2) (fun c7 => ?_)
    refine am_throw 10 rfl tX7_163_238 dX7_checkRow_10 dX7_checkRow_13 dX7_checkRow_14 dX7_checkRow_16 dX7_checkRow_19 (by decide) (by decide) ?_
    exact ⟨rfl, rfl, rfl⟩
theorem s_tCell {x y : Int32} (h : x < 0 ∨ 8 ≤ x ∨ y < 0 ∨ 6 ≤ y) : AM mX7_checkCell 1 6 [.int x, .int y] n f (am_th 2 n f) := by
  show AW mX7_checkCell 1 6 0 [some (.int x), some (.int y)] [] n f _
  by_cases q : x < 0
  · refine am_iload_n 0 dX7_checkCell_0 rfl ?_
    refine am_if_lt 1 10 dX7_checkCell_1 rfl (fun c1 => ?_) (fun c1 => absurd q c1)
    refine am_throw 10 rfl tX7_163_236 dX7_checkCell_10 dX7_checkCell_13 dX7_checkCell_14 dX7_checkCell_16 dX7_checkCell_19 (by decide) (by decide) ?_
    exact ⟨rfl, rfl, rfl⟩
  · by_cases q2 : x < 8
    · refine am_iload_n 0 dX7_checkCell_0 rfl ?_
      refine am_if_lt 1 10 dX7_checkCell_1 rfl (fun c1 => absurd c1 q) (fun c1 => ?_)
      refine am_iload_n 4 dX7_checkCell_4 rfl ?_
      refine am_bipush 5 (v := 8) dX7_checkCell_5 (by decide) ?_
      refine am_icmp_lt 7 20 dX7_checkCell_7 rfl (fun c7 => ?_) (fun c7 => absurd q2 c7)
      refine am_iload_n 20 dX7_checkCell_20 rfl ?_
      refine am_S1 21 (mc' := 1) (ms' := 6) (rc := 0) (rs := 0) dX7_checkCell_21 lX7_107 ⟨by decide, by decide⟩ (Nat.le_of_ble_eq_true rfl) (Nat.le_of_ble_eq_true rfl) (s_tRow ((h.resolve_left q).resolve_left (Int32.not_le.mpr q2))) ?_
      rintro o n' f' ⟨rfl, rfl, rfl⟩
      exact am_ctO rfl ⟨rfl, rfl, rfl⟩
    · refine am_iload_n 0 dX7_checkCell_0 rfl ?_
      refine am_if_lt 1 10 dX7_checkCell_1 rfl (fun c1 => absurd c1 q) (fun c1 => ?_)
      refine am_iload_n 4 dX7_checkCell_4 rfl ?_
      refine am_bipush 5 (v := 8) dX7_checkCell_5 (by decide) ?_
      refine am_icmp_lt 7 20 dX7_checkCell_7 rfl (fun c7 => absurd c7 q2) (fun c7 => ?_)
      refine am_throw 10 rfl tX7_163_236 dX7_checkCell_10 dX7_checkCell_13 dX7_checkCell_14 dX7_checkCell_16 dX7_checkCell_19 (by decide) (by decide) ?_
      exact ⟨rfl, rfl, rfl⟩
theorem s_tStrength {s : Int32} (h : ¬ (1 ≤ s ∧ s ≤ 200)) : AM mX7_checkStrength 1 6 [.int s] n f (am_th 0 n f) := by
  show AW mX7_checkStrength 1 6 0 [some (.int s)] [] n f _
  by_cases q : s < 1
  · refine am_iload_n 0 dX7_checkStrength_0 rfl ?_
    refine am_iconst 1 (v := 1) dX7_checkStrength_1 (by decide) ?_
    refine am_icmp_lt 2 12 dX7_checkStrength_2 rfl (fun c2 => ?_) (fun c2 => absurd q c2)
    refine am_throw 12 rfl tX7_59_240 dX7_checkStrength_12 dX7_checkStrength_15 dX7_checkStrength_16 dX7_checkStrength_18 dX7_checkStrength_21 (by decide) (by decide) ?_
    exact ⟨rfl, rfl, rfl⟩
  · have q2 : ¬ s ≤ 200 := fun z => h ⟨Int32.not_lt.mp q, z⟩
    refine am_iload_n 0 dX7_checkStrength_0 rfl ?_
    refine am_iconst 1 (v := 1) dX7_checkStrength_1 (by decide) ?_
    refine am_icmp_lt 2 12 dX7_checkStrength_2 rfl (fun c2 => absurd c2 q) (fun c2 => ?_)
    refine am_iload_n 5 dX7_checkStrength_5 rfl ?_
    refine am_sipush 6 (v := 200) dX7_checkStrength_6 (by decide) ?_
    refine am_icmp_le 9 22 dX7_checkStrength_9 rfl (fun c9 => absurd c9 q2) (fun c9 => ?_)
    refine am_throw 12 rfl tX7_59_240 dX7_checkStrength_12 dX7_checkStrength_15 dX7_checkStrength_16 dX7_checkStrength_18 dX7_checkStrength_21 (by decide) (by decide) ?_
    exact ⟨rfl, rfl, rfl⟩
theorem s_tWhat {w m : Int32} (h : ¬ (0 ≤ w ∧ w ≤ m)) : AM mX7_checkWhat 1 6 [.int w, .int m] n f (am_th 0 n f) := by
  show AW mX7_checkWhat 1 6 0 [some (.int w), some (.int m)] [] n f _
  by_cases q : w < 0
  · refine am_iload_n 0 dX7_checkWhat_0 rfl ?_
    refine am_if_lt 1 9 dX7_checkWhat_1 rfl (fun c1 => ?_) (fun c1 => absurd q c1)
    refine am_throw 9 rfl tX7_59_242 dX7_checkWhat_9 dX7_checkWhat_12 dX7_checkWhat_13 dX7_checkWhat_15 dX7_checkWhat_18 (by decide) (by decide) ?_
    exact ⟨rfl, rfl, rfl⟩
  · have q2 : ¬ w ≤ m := fun z => h ⟨Int32.not_lt.mp q, z⟩
    refine am_iload_n 0 dX7_checkWhat_0 rfl ?_
    refine am_if_lt 1 9 dX7_checkWhat_1 rfl (fun c1 => absurd c1 q) (fun c1 => ?_)
    refine am_iload_n 4 dX7_checkWhat_4 rfl ?_
    refine am_iload_n 5 dX7_checkWhat_5 rfl ?_
    refine am_icmp_le 6 19 dX7_checkWhat_6 rfl (fun c6 => absurd c6 q2) (fun c6 => ?_)
    refine am_throw 9 rfl tX7_59_242 dX7_checkWhat_9 dX7_checkWhat_12 dX7_checkWhat_13 dX7_checkWhat_15 dX7_checkWhat_18 (by decide) (by decide) ?_
    exact ⟨rfl, rfl, rfl⟩
/-- a name: of a contact that is there, or not -/
theorem c_name (z : m_Z) (x : Int32) : (∃ k, k < 5 ∧ x = nI k ∧ (z_K z k).1 0 ≠ 0) ∨ ∀ k, k < 5 → x = nI k → (z_K z k).1 0 = 0 := by
  by_cases q : ∃ k, k < 5 ∧ x = nI k ∧ (z_K z k).1 0 ≠ 0
  · exact Or.inl q
  · exact Or.inr fun k hk e => Classical.byContradiction fun g => q ⟨k, hk, e, g⟩
theorem s_tName {x : Int32} (hG : m_G f p T z) (hx : ∀ k, k < 5 → x = nI k → (z_K z k).1 0 = 0) : AM mX7_checkName 1 6 [.ref p, .int x] n f (am_th 2 n f) := by
  obtain ⟨h0, h1, h2, h3, h4, h5, h6, h7⟩ := id hG
  have hh := h5.1
  by_cases q : x < 0
  · have hs : AM mX3_has 0 0 [.ref (p + 34), .int x] n f (am_is (some (.int 0)) n f) := by
      show AW mX3_has 0 0 0 [some (.ref (p + 34)), some (.int x)] [] n f _
      refine am_iload_n 0 dX3_has_0 rfl ?_
      refine am_if_lt 1 25 dX3_has_1 rfl (fun c1 => ?_) (fun c1 => absurd q c1)
      refine am_iconst 25 (v := 0) dX3_has_25 (by decide) ?_
      exact am_ireturn 26 dX3_has_26 rfl rfl ⟨rfl, rfl, rfl⟩
    show AW mX7_checkName 1 6 0 [some (.ref p), some (.int x)] [] n f _
    refine am_aload_n 0 dX7_checkName_0 rfl ?_
    refine am_getfield 1 dX7_checkName_1 fX7_48 (by repeat (first | assumption | exact am_ue | refine am_un (by first | assumption | decide | omega) ?_)) rfl ?_
    refine am_iload_n 4 dX7_checkName_4 rfl ?_
    refine am_V1 5 (mc' := 0) (ms' := 0) (rc := 1) (rs := 6) dX7_checkName_5 lX7_225 ⟨by decide, by decide⟩ (by repeat (first | assumption | exact am_ue | refine am_un (by first | assumption | decide | omega) ?_)) (Nat.le_of_ble_eq_true rfl) (Nat.le_of_ble_eq_true rfl) (hs) ?_
    refine am_is_ct ?_
    refine am_if_ne 8 21 dX7_checkName_8 rfl (fun c8 => absurd c8 (fun q => q rfl)) (fun c8 => ?_)
    refine am_throw 11 rfl tX7_163_244 dX7_checkName_11 dX7_checkName_14 dX7_checkName_15 dX7_checkName_17 dX7_checkName_20 (by decide) (by decide) ?_
    exact ⟨rfl, rfl, rfl⟩
  · by_cases q2 : 5 ≤ x
    · have hs : AM mX3_has 0 0 [.ref (p + 34), .int x] n f (am_is (some (.int 0)) n f) := by
        show AW mX3_has 0 0 0 [some (.ref (p + 34)), some (.int x)] [] n f _
        refine am_iload_n 0 dX3_has_0 rfl ?_
        refine am_if_lt 1 25 dX3_has_1 rfl (fun c1 => absurd c1 q) (fun c1 => ?_)
        refine am_iload_n 4 dX3_has_4 rfl ?_
        refine am_iconst 5 (v := 5) dX3_has_5 (by decide) ?_
        refine am_icmp_ge 6 25 dX3_has_6 rfl (fun c6 => ?_) (fun c6 => absurd q2 c6)
        refine am_iconst 25 (v := 0) dX3_has_25 (by decide) ?_
        exact am_ireturn 26 dX3_has_26 rfl rfl ⟨rfl, rfl, rfl⟩
      show AW mX7_checkName 1 6 0 [some (.ref p), some (.int x)] [] n f _
      refine am_aload_n 0 dX7_checkName_0 rfl ?_
      refine am_getfield 1 dX7_checkName_1 fX7_48 (by repeat (first | assumption | exact am_ue | refine am_un (by first | assumption | decide | omega) ?_)) rfl ?_
      refine am_iload_n 4 dX7_checkName_4 rfl ?_
      refine am_V1 5 (mc' := 0) (ms' := 0) (rc := 1) (rs := 6) dX7_checkName_5 lX7_225 ⟨by decide, by decide⟩ (by repeat (first | assumption | exact am_ue | refine am_un (by first | assumption | decide | omega) ?_)) (Nat.le_of_ble_eq_true rfl) (Nat.le_of_ble_eq_true rfl) (hs) ?_
      refine am_is_ct ?_
      refine am_if_ne 8 21 dX7_checkName_8 rfl (fun c8 => absurd c8 (fun q => q rfl)) (fun c8 => ?_)
      refine am_throw 11 rfl tX7_163_244 dX7_checkName_11 dX7_checkName_14 dX7_checkName_15 dX7_checkName_17 dX7_checkName_20 (by decide) (by decide) ?_
      exact ⟨rfl, rfl, rfl⟩
    · obtain ⟨k, hk, rfl⟩ := m_small 5 rfl (by decide) q q2
      exact s_ckNameT hG hk (hx k hk rfl)
theorem s_tDial {d : Int32} (hG : m_G f p T z) (h : ¬ (1 ≤ d ∧ d ≤ 4)) : AM mX7_dial 1 6 [.ref p, .int d] n f (am_th 0 n f) := by
  show AW mX7_dial 1 6 0 [some (.ref p), some (.int d), none] [] n f _
  by_cases q : d < 1
  · refine am_iload_n 0 dX7_dial_0 rfl ?_
    refine am_iconst 1 (v := 1) dX7_dial_1 (by decide) ?_
    refine am_icmp_lt 2 10 dX7_dial_2 rfl (fun c2 => ?_) (fun c2 => absurd q c2)
    refine am_throw 10 rfl tX7_59_78 dX7_dial_10 dX7_dial_13 dX7_dial_14 dX7_dial_16 dX7_dial_19 (by decide) (by decide) ?_
    exact ⟨rfl, rfl, rfl⟩
  · have q2 : ¬ d ≤ 4 := fun z => h ⟨Int32.not_lt.mp q, z⟩
    refine am_iload_n 0 dX7_dial_0 rfl ?_
    refine am_iconst 1 (v := 1) dX7_dial_1 (by decide) ?_
    refine am_icmp_lt 2 10 dX7_dial_2 rfl (fun c2 => absurd c2 q) (fun c2 => ?_)
    refine am_iload_n 5 dX7_dial_5 rfl ?_
    refine am_iconst 6 (v := 4) dX7_dial_6 (by decide) ?_
    refine am_icmp_le 7 20 dX7_dial_7 rfl (fun c7 => absurd c7 q2) (fun c7 => ?_)
    refine am_throw 10 rfl tX7_59_78 dX7_dial_10 dX7_dial_13 dX7_dial_14 dX7_dial_16 dX7_dial_19 (by decide) (by decide) ?_
    exact ⟨rfl, rfl, rfl⟩
theorem s_tLimit {d : Int32} (hG : m_G f p T z) (h : ¬ (1 ≤ d ∧ d ≤ 30)) : AM mX7_limit 1 6 [.ref p, .int d] n f (am_th 0 n f) := by
  show AW mX7_limit 1 6 0 [some (.ref p), some (.int d), none] [] n f _
  by_cases q : d < 1
  · refine am_iload_n 0 dX7_limit_0 rfl ?_
    refine am_iconst 1 (v := 1) dX7_limit_1 (by decide) ?_
    refine am_icmp_lt 2 11 dX7_limit_2 rfl (fun c2 => ?_) (fun c2 => absurd q c2)
    refine am_throw 11 rfl tX7_59_80 dX7_limit_11 dX7_limit_14 dX7_limit_15 dX7_limit_17 dX7_limit_20 (by decide) (by decide) ?_
    exact ⟨rfl, rfl, rfl⟩
  · have q2 : ¬ d ≤ 30 := fun z => h ⟨Int32.not_lt.mp q, z⟩
    refine am_iload_n 0 dX7_limit_0 rfl ?_
    refine am_iconst 1 (v := 1) dX7_limit_1 (by decide) ?_
    refine am_icmp_lt 2 11 dX7_limit_2 rfl (fun c2 => absurd c2 q) (fun c2 => ?_)
    refine am_iload_n 5 dX7_limit_5 rfl ?_
    refine am_bipush 6 (v := 30) dX7_limit_6 (by decide) ?_
    refine am_icmp_le 8 21 dX7_limit_8 rfl (fun c8 => absurd c8 q2) (fun c8 => ?_)
    refine am_throw 11 rfl tX7_59_80 dX7_limit_11 dX7_limit_14 dX7_limit_15 dX7_limit_17 dX7_limit_20 (by decide) (by decide) ?_
    exact ⟨rfl, rfl, rfl⟩
theorem s_tHeat {d : Int32} (hG : m_G f p T z) (h : ¬ (-30 ≤ d ∧ d ≤ 30)) : AM mX7_heat 1 6 [.ref p, .int d] n f (am_th 0 n f) := by
  show AW mX7_heat 1 6 0 [some (.ref p), some (.int d), none] [] n f _
  by_cases q : d < -30
  · refine am_iload_n 0 dX7_heat_0 rfl ?_
    refine am_bipush 1 (v := (-30)) dX7_heat_1 (by decide) ?_
    refine am_icmp_lt 3 12 dX7_heat_3 rfl (fun c3 => ?_) (fun c3 => absurd q c3)
    refine am_throw 12 rfl tX7_59_82 dX7_heat_12 dX7_heat_15 dX7_heat_16 dX7_heat_18 dX7_heat_21 (by decide) (by decide) ?_
    exact ⟨rfl, rfl, rfl⟩
  · have q2 : ¬ d ≤ 30 := fun z => h ⟨Int32.not_lt.mp q, z⟩
    refine am_iload_n 0 dX7_heat_0 rfl ?_
    refine am_bipush 1 (v := (-30)) dX7_heat_1 (by decide) ?_
    refine am_icmp_lt 3 12 dX7_heat_3 rfl (fun c3 => absurd c3 q) (fun c3 => ?_)
    refine am_iload_n 6 dX7_heat_6 rfl ?_
    refine am_bipush 7 (v := 30) dX7_heat_7 (by decide) ?_
    refine am_icmp_le 9 22 dX7_heat_9 rfl (fun c9 => absurd c9 q2) (fun c9 => ?_)
    refine am_throw 12 rfl tX7_59_82 dX7_heat_12 dX7_heat_15 dX7_heat_16 dX7_heat_18 dX7_heat_21 (by decide) (by decide) ?_
    exact ⟨rfl, rfl, rfl⟩
theorem s_tPress {x y d : Int32} (hG : m_G f p T z) (h : x < 0 ∨ 8 ≤ x ∨ y < 0 ∨ 6 ≤ y) : AM mX7_press 1 6 [.ref p, .int x, .int y, .int d] n f (am_th 2 n f) := by
  show AW mX7_press 1 6 0 [some (.ref p), some (.int x), some (.int y), some (.int d)] [] n f _
  refine am_iload_n 0 dX7_press_0 rfl ?_
  refine am_iload_n 1 dX7_press_1 rfl ?_
  refine am_S2 2 (mc' := 1) (ms' := 6) (rc := 0) (rs := 0) dX7_press_2 lX7_91 ⟨by decide, by decide⟩ (Nat.le_of_ble_eq_true rfl) (Nat.le_of_ble_eq_true rfl) (s_tCell h) ?_
  rintro o n' f' ⟨rfl, rfl, rfl⟩
  exact am_ctO rfl ⟨rfl, rfl, rfl⟩
theorem s_tPressS {x y : Nat} {d : Int32} (hG : m_G f p T z) (hx : x < 8) (hy : y < 6) (h : ¬ (1 ≤ d ∧ d ≤ 200)) : AM mX7_press 1 6 [.ref p, .int (nI x), .int (nI y), .int d] n f (am_th 0 n f) := by
  show AW mX7_press 1 6 0 [some (.ref p), some (.int (nI x)), some (.int (nI y)), some (.int d)] [] n f _
  refine am_iload_n 0 dX7_press_0 rfl ?_
  refine am_iload_n 1 dX7_press_1 rfl ?_
  refine am_S2 2 (mc' := 0) (ms' := 0) (rc := 1) (rs := 6) dX7_press_2 lX7_91 ⟨by decide, by decide⟩ (Nat.le_of_ble_eq_true rfl) (Nat.le_of_ble_eq_true rfl) (s_ckCell hx hy) ?_
  refine am_is_ct ?_
  refine am_iload_n 5 dX7_press_5 rfl ?_
  refine am_S1 6 (mc' := 1) (ms' := 6) (rc := 0) (rs := 0) dX7_press_6 lX7_95 ⟨by decide, by decide⟩ (Nat.le_of_ble_eq_true rfl) (Nat.le_of_ble_eq_true rfl) (s_tStrength h) ?_
  rintro o n' f' ⟨rfl, rfl, rfl⟩
  exact am_ctO rfl ⟨rfl, rfl, rfl⟩
theorem s_tNoise {y u : Int32} (hG : m_G f p T z) (h : y < 0 ∨ 6 ≤ y) : AM mX7_noise 1 6 [.ref p, .int y, .int u] n f (am_th 2 n f) := by
  show AW mX7_noise 1 6 0 [some (.ref p), some (.int y), some (.int u)] [] n f _
  refine am_iload_n 0 dX7_noise_0 rfl ?_
  refine am_S1 1 (mc' := 1) (ms' := 6) (rc := 0) (rs := 0) dX7_noise_1 lX7_107 ⟨by decide, by decide⟩ (Nat.le_of_ble_eq_true rfl) (Nat.le_of_ble_eq_true rfl) (s_tRow h) ?_
  rintro o n' f' ⟨rfl, rfl, rfl⟩
  exact am_ctO rfl ⟨rfl, rfl, rfl⟩
theorem s_tNoiseM {y : Nat} {u : Int32} (hG : m_G f p T z) (hy : y < 6) (h : ¬ (-40 ≤ u ∧ u ≤ 40)) : AM mX7_noise 1 6 [.ref p, .int (nI y), .int u] n f (am_th 0 n f) := by
  show AW mX7_noise 1 6 0 [some (.ref p), some (.int (nI y)), some (.int u)] [] n f _
  by_cases q : u < -40
  · refine am_iload_n 0 dX7_noise_0 rfl ?_
    refine am_S1 1 (mc' := 0) (ms' := 0) (rc := 1) (rs := 6) dX7_noise_1 lX7_107 ⟨by decide, by decide⟩ (Nat.le_of_ble_eq_true rfl) (Nat.le_of_ble_eq_true rfl) (s_ckRow hy) ?_
    refine am_is_ct ?_
    refine am_iload_n 4 dX7_noise_4 rfl ?_
    refine am_bipush 5 (v := (-40)) dX7_noise_5 (by decide) ?_
    refine am_icmp_lt 7 16 dX7_noise_7 rfl (fun c7 => ?_) (fun c7 => absurd q c7)
    refine am_throw 16 rfl tX7_59_110 dX7_noise_16 dX7_noise_19 dX7_noise_20 dX7_noise_22 dX7_noise_25 (by decide) (by decide) ?_
    exact ⟨rfl, rfl, rfl⟩
  · have q2 : ¬ u ≤ 40 := fun z => h ⟨Int32.not_lt.mp q, z⟩
    refine am_iload_n 0 dX7_noise_0 rfl ?_
    refine am_S1 1 (mc' := 0) (ms' := 0) (rc := 1) (rs := 6) dX7_noise_1 lX7_107 ⟨by decide, by decide⟩ (Nat.le_of_ble_eq_true rfl) (Nat.le_of_ble_eq_true rfl) (s_ckRow hy) ?_
    refine am_is_ct ?_
    refine am_iload_n 4 dX7_noise_4 rfl ?_
    refine am_bipush 5 (v := (-40)) dX7_noise_5 (by decide) ?_
    refine am_icmp_lt 7 16 dX7_noise_7 rfl (fun c7 => absurd c7 q) (fun c7 => ?_)
    refine am_iload_n 10 dX7_noise_10 rfl ?_
    refine am_bipush 11 (v := 40) dX7_noise_11 (by decide) ?_
    refine am_icmp_le 13 26 dX7_noise_13 rfl (fun c13 => absurd c13 q2) (fun c13 => ?_)
    refine am_throw 16 rfl tX7_59_110 dX7_noise_16 dX7_noise_19 dX7_noise_20 dX7_noise_22 dX7_noise_25 (by decide) (by decide) ?_
    exact ⟨rfl, rfl, rfl⟩
theorem s_tCellC {x y d : Int32} (hG : m_G f p T z) (h : x < 0 ∨ 8 ≤ x ∨ y < 0 ∨ 6 ≤ y) : AM mX7_ofCell 1 6 [.ref p, .int x, .int y, .int d] n f (am_th 2 n f) := by
  show AW mX7_ofCell 1 6 0 [some (.ref p), some (.int x), some (.int y), some (.int d)] [] n f _
  refine am_iload_n 0 dX7_ofCell_0 rfl ?_
  refine am_iload_n 1 dX7_ofCell_1 rfl ?_
  refine am_S2 2 (mc' := 1) (ms' := 6) (rc := 0) (rs := 0) dX7_ofCell_2 lX7_91 ⟨by decide, by decide⟩ (Nat.le_of_ble_eq_true rfl) (Nat.le_of_ble_eq_true rfl) (s_tCell h) ?_
  rintro o n' f' ⟨rfl, rfl, rfl⟩
  exact am_ctO rfl ⟨rfl, rfl, rfl⟩
theorem s_tCellW {x y : Nat} {d : Int32} (hG : m_G f p T z) (hx : x < 8) (hy : y < 6) (h : ¬ (0 ≤ d ∧ d ≤ 4)) : AM mX7_ofCell 1 6 [.ref p, .int (nI x), .int (nI y), .int d] n f (am_th 0 n f) := by
  show AW mX7_ofCell 1 6 0 [some (.ref p), some (.int (nI x)), some (.int (nI y)), some (.int d)] [] n f _
  refine am_iload_n 0 dX7_ofCell_0 rfl ?_
  refine am_iload_n 1 dX7_ofCell_1 rfl ?_
  refine am_S2 2 (mc' := 0) (ms' := 0) (rc := 1) (rs := 6) dX7_ofCell_2 lX7_91 ⟨by decide, by decide⟩ (Nat.le_of_ble_eq_true rfl) (Nat.le_of_ble_eq_true rfl) (s_ckCell hx hy) ?_
  refine am_is_ct ?_
  refine am_iload_n 5 dX7_ofCell_5 rfl ?_
  refine am_iconst 6 (v := 4) dX7_ofCell_6 (by decide) ?_
  refine am_S2 7 (mc' := 1) (ms' := 6) (rc := 0) (rs := 0) dX7_ofCell_7 lX7_153 ⟨by decide, by decide⟩ (Nat.le_of_ble_eq_true rfl) (Nat.le_of_ble_eq_true rfl) (s_tWhat h) ?_
  rintro o n' f' ⟨rfl, rfl, rfl⟩
  exact am_ctO rfl ⟨rfl, rfl, rfl⟩
theorem s_tPeak {x d : Int32} (hG : m_G f p T z) (h : ¬ (0 ≤ x ∧ x ≤ nI (m_P z) - 1)) : AM mX7_ofPeak 1 6 [.ref p, .int x, .int d] n f (am_th 2 n f) := by
  have h0 := hG.1
  have hP : m_P z ≤ 48 := m_pks_len (sig := m_sg z) (k := 48)
  obtain ⟨pc, px, py, chn, hp, hok⟩ := id hG.2.2.1
  have p0 := hp.1
  show AW mX7_ofPeak 1 6 0 [some (.ref p), some (.int x), some (.int d)] [] n f _
  by_cases q : x < 0
  · refine am_iload_n 0 dX7_ofPeak_0 rfl ?_
    refine am_if_lt 1 15 dX7_ofPeak_1 rfl (fun c1 => ?_) (fun c1 => absurd q c1)
    refine am_throw 15 rfl tX7_163_165 dX7_ofPeak_15 dX7_ofPeak_18 dX7_ofPeak_19 dX7_ofPeak_21 dX7_ofPeak_24 (by decide) (by decide) ?_
    exact ⟨rfl, rfl, rfl⟩
  · have q2 : ¬ x < nI (m_P z) := fun w => h ⟨Int32.not_lt.mp q, by
      rw [Int32.lt_iff_toInt_lt, nI_toInt (by omega)] at w
      rw [Int32.le_iff_toInt_le, Int32.toInt_sub, nI_toInt (by omega), show (1 : Int32).toInt = 1 from rfl, Int.bmod_eq_of_le (by omega) (by omega)]
      omega⟩
    refine am_iload_n 0 dX7_ofPeak_0 rfl ?_
    refine am_if_lt 1 15 dX7_ofPeak_1 rfl (fun c1 => absurd c1 q) (fun c1 => ?_)
    refine am_iload_n 4 dX7_ofPeak_4 rfl ?_
    refine am_aload_n 5 dX7_ofPeak_5 rfl ?_
    refine am_getfield 6 dX7_ofPeak_6 fX7_19 (by repeat (first | assumption | exact am_ue | refine am_un (by first | assumption | decide | omega) ?_)) rfl ?_
    refine am_getfield 9 dX7_ofPeak_9 fX7_160 (by repeat (first | assumption | exact am_ue | refine am_un (by first | assumption | decide | omega) ?_)) rfl ?_
    refine am_icmp_lt 12 25 dX7_ofPeak_12 rfl (fun c12 => absurd c12 q2) (fun c12 => ?_)
    refine am_throw 15 rfl tX7_163_165 dX7_ofPeak_15 dX7_ofPeak_18 dX7_ofPeak_19 dX7_ofPeak_21 dX7_ofPeak_24 (by decide) (by decide) ?_
    exact ⟨rfl, rfl, rfl⟩
theorem s_tPeakW {k : Nat} {d : Int32} (hG : m_G f p T z) (hk : k < m_P z) (h : ¬ (0 ≤ d ∧ d ≤ 4)) : AM mX7_ofPeak 1 6 [.ref p, .int (nI k), .int d] n f (am_th 0 n f) := by
  have h0 := hG.1
  have hP : m_P z ≤ 48 := m_pks_len (sig := m_sg z) (k := 48)
  obtain ⟨pc, px, py, chn, hp, hok⟩ := id hG.2.2.1
  have p0 := hp.1
  show AW mX7_ofPeak 1 6 0 [some (.ref p), some (.int (nI k)), some (.int d)] [] n f _
  refine am_iload_n 0 dX7_ofPeak_0 rfl ?_
  refine am_if_lt 1 15 dX7_ofPeak_1 rfl (fun c1 => absurd c1 (nI_pos (by omega))) (fun c1 => ?_)
  refine am_iload_n 4 dX7_ofPeak_4 rfl ?_
  refine am_aload_n 5 dX7_ofPeak_5 rfl ?_
  refine am_getfield 6 dX7_ofPeak_6 fX7_19 (by repeat (first | assumption | exact am_ue | refine am_un (by first | assumption | decide | omega) ?_)) rfl ?_
  refine am_getfield 9 dX7_ofPeak_9 fX7_160 (by repeat (first | assumption | exact am_ue | refine am_un (by first | assumption | decide | omega) ?_)) rfl ?_
  refine am_icmp_lt 12 25 dX7_ofPeak_12 rfl (fun c12 => ?_) (fun c12 => absurd (nI_lt hk (by omega)) c12)
  refine am_iload_n 25 dX7_ofPeak_25 rfl ?_
  refine am_iconst 26 (v := 4) dX7_ofPeak_26 (by decide) ?_
  refine am_S2 27 (mc' := 1) (ms' := 6) (rc := 0) (rs := 0) dX7_ofPeak_27 lX7_153 ⟨by decide, by decide⟩ (Nat.le_of_ble_eq_true rfl) (Nat.le_of_ble_eq_true rfl) (s_tWhat h) ?_
  rintro o n' f' ⟨rfl, rfl, rfl⟩
  exact am_ctO rfl ⟨rfl, rfl, rfl⟩
theorem s_tContact {x d : Int32} (hG : m_G f p T z) (hx : ∀ k, k < 5 → x = nI k → (z_K z k).1 0 = 0) : AM mX7_ofContact 1 6 [.ref p, .int x, .int d] n f (am_th 2 n f) := by
  have h0 := hG.1
  show AW mX7_ofContact 1 6 0 [some (.ref p), some (.int x), some (.int d)] [] n f _
  refine am_aload_n 0 dX7_ofContact_0 rfl ?_
  refine am_iload_n 1 dX7_ofContact_1 rfl ?_
  refine am_V1 2 (mc' := 1) (ms' := 6) (rc := 0) (rs := 0) dX7_ofContact_2 lX7_171 ⟨by decide, by decide⟩ (by repeat (first | assumption | exact am_ue | refine am_un (by first | assumption | decide | omega) ?_)) (Nat.le_of_ble_eq_true rfl) (Nat.le_of_ble_eq_true rfl) (s_tName hG hx) ?_
  rintro o n' f' ⟨rfl, rfl, rfl⟩
  exact am_ctO rfl ⟨rfl, rfl, rfl⟩
theorem s_tContactW {x : Nat} {d : Int32} (hG : m_G f p T z) (hx : x < 5) (hth : (z_K z x).1 0 ≠ 0) (h : ¬ (0 ≤ d ∧ d ≤ 5)) : AM mX7_ofContact 1 6 [.ref p, .int (nI x), .int d] n f (am_th 0 n f) := by
  have h0 := hG.1
  show AW mX7_ofContact 1 6 0 [some (.ref p), some (.int (nI x)), some (.int d)] [] n f _
  refine am_aload_n 0 dX7_ofContact_0 rfl ?_
  refine am_iload_n 1 dX7_ofContact_1 rfl ?_
  refine am_V1 2 (mc' := 0) (ms' := 0) (rc := 1) (rs := 6) dX7_ofContact_2 lX7_171 ⟨by decide, by decide⟩ (by repeat (first | assumption | exact am_ue | refine am_un (by first | assumption | decide | omega) ?_)) (Nat.le_of_ble_eq_true rfl) (Nat.le_of_ble_eq_true rfl) (s_ckName hG hx hth) ?_
  refine am_is_ct ?_
  refine am_iload_n 5 dX7_ofContact_5 rfl ?_
  refine am_iconst 6 (v := 5) dX7_ofContact_6 (by decide) ?_
  refine am_S2 7 (mc' := 1) (ms' := 6) (rc := 0) (rs := 0) dX7_ofContact_7 lX7_153 ⟨by decide, by decide⟩ (Nat.le_of_ble_eq_true rfl) (Nat.le_of_ble_eq_true rfl) (s_tWhat h) ?_
  rintro o n' f' ⟨rfl, rfl, rfl⟩
  exact am_ctO rfl ⟨rfl, rfl, rfl⟩
theorem s_tWhere {x d : Int32} (hG : m_G f p T z) (hx : ∀ k, k < 5 → x = nI k → (z_K z k).1 0 = 0) : AM mX7_where 1 6 [.ref p, .int x, .int d] n f (am_th 2 n f) := by
  have h0 := hG.1
  show AW mX7_where 1 6 0 [some (.ref p), some (.int x), some (.int d)] [] n f _
  refine am_aload_n 0 dX7_where_0 rfl ?_
  refine am_iload_n 1 dX7_where_1 rfl ?_
  refine am_V1 2 (mc' := 1) (ms' := 6) (rc := 0) (rs := 0) dX7_where_2 lX7_171 ⟨by decide, by decide⟩ (by repeat (first | assumption | exact am_ue | refine am_un (by first | assumption | decide | omega) ?_)) (Nat.le_of_ble_eq_true rfl) (Nat.le_of_ble_eq_true rfl) (s_tName hG hx) ?_
  rintro o n' f' ⟨rfl, rfl, rfl⟩
  exact am_ctO rfl ⟨rfl, rfl, rfl⟩
theorem s_tWhereW {x : Nat} {d : Int32} (hG : m_G f p T z) (hx : x < 5) (hth : (z_K z x).1 0 ≠ 0) (h : ¬ (0 ≤ d ∧ d ≤ 4)) : AM mX7_where 1 6 [.ref p, .int (nI x), .int d] n f (am_th 0 n f) := by
  have h0 := hG.1
  show AW mX7_where 1 6 0 [some (.ref p), some (.int (nI x)), some (.int d)] [] n f _
  refine am_aload_n 0 dX7_where_0 rfl ?_
  refine am_iload_n 1 dX7_where_1 rfl ?_
  refine am_V1 2 (mc' := 0) (ms' := 0) (rc := 1) (rs := 6) dX7_where_2 lX7_171 ⟨by decide, by decide⟩ (by repeat (first | assumption | exact am_ue | refine am_un (by first | assumption | decide | omega) ?_)) (Nat.le_of_ble_eq_true rfl) (Nat.le_of_ble_eq_true rfl) (s_ckName hG hx hth) ?_
  refine am_is_ct ?_
  refine am_iload_n 5 dX7_where_5 rfl ?_
  refine am_iconst 6 (v := 4) dX7_where_6 (by decide) ?_
  refine am_S2 7 (mc' := 1) (ms' := 6) (rc := 0) (rs := 0) dX7_where_7 lX7_153 ⟨by decide, by decide⟩ (Nat.le_of_ble_eq_true rfl) (Nat.le_of_ble_eq_true rfl) (s_tWhat h) ?_
  rintro o n' f' ⟨rfl, rfl, rfl⟩
  exact am_ctO rfl ⟨rfl, rfl, rfl⟩
theorem s_tApart {x y : Int32} (hG : m_G f p T z) (hx : ∀ k, k < 5 → x = nI k → (z_K z k).1 0 = 0) : AM mX7_apart 1 6 [.ref p, .int x, .int y] n f (am_th 2 n f) := by
  have h0 := hG.1
  show AW mX7_apart 1 6 0 [some (.ref p), some (.int x), some (.int y)] [] n f _
  refine am_aload_n 0 dX7_apart_0 rfl ?_
  refine am_iload_n 1 dX7_apart_1 rfl ?_
  refine am_V1 2 (mc' := 1) (ms' := 6) (rc := 0) (rs := 0) dX7_apart_2 lX7_171 ⟨by decide, by decide⟩ (by repeat (first | assumption | exact am_ue | refine am_un (by first | assumption | decide | omega) ?_)) (Nat.le_of_ble_eq_true rfl) (Nat.le_of_ble_eq_true rfl) (s_tName hG hx) ?_
  rintro o n' f' ⟨rfl, rfl, rfl⟩
  exact am_ctO rfl ⟨rfl, rfl, rfl⟩
theorem s_tApart2 {x : Nat} {y : Int32} (hG : m_G f p T z) (hx : x < 5) (hth : (z_K z x).1 0 ≠ 0) (hy : ∀ k, k < 5 → y = nI k → (z_K z k).1 0 = 0) : AM mX7_apart 1 6 [.ref p, .int (nI x), .int y] n f (am_th 2 n f) := by
  have h0 := hG.1
  show AW mX7_apart 1 6 0 [some (.ref p), some (.int (nI x)), some (.int y)] [] n f _
  refine am_aload_n 0 dX7_apart_0 rfl ?_
  refine am_iload_n 1 dX7_apart_1 rfl ?_
  refine am_V1 2 (mc' := 0) (ms' := 0) (rc := 1) (rs := 6) dX7_apart_2 lX7_171 ⟨by decide, by decide⟩ (by repeat (first | assumption | exact am_ue | refine am_un (by first | assumption | decide | omega) ?_)) (Nat.le_of_ble_eq_true rfl) (Nat.le_of_ble_eq_true rfl) (s_ckName hG hx hth) ?_
  refine am_is_ct ?_
  refine am_aload_n 5 dX7_apart_5 rfl ?_
  refine am_iload_n 6 dX7_apart_6 rfl ?_
  refine am_V1 7 (mc' := 1) (ms' := 6) (rc := 0) (rs := 0) dX7_apart_7 lX7_171 ⟨by decide, by decide⟩ (by repeat (first | assumption | exact am_ue | refine am_un (by first | assumption | decide | omega) ?_)) (Nat.le_of_ble_eq_true rfl) (Nat.le_of_ble_eq_true rfl) (s_tName hG hy) ?_
  rintro o n' f' ⟨rfl, rfl, rfl⟩
  exact am_ctO rfl ⟨rfl, rfl, rfl⟩
theorem s_tOfRow {y d : Int32} (hG : m_G f p T z) (h : y < 0 ∨ 6 ≤ y) : AM mX7_ofRow 1 6 [.ref p, .int y, .int d] n f (am_th 2 n f) := by
  show AW mX7_ofRow 1 6 0 [some (.ref p), some (.int y), some (.int d)] [] n f _
  refine am_iload_n 0 dX7_ofRow_0 rfl ?_
  refine am_S1 1 (mc' := 1) (ms' := 6) (rc := 0) (rs := 0) dX7_ofRow_1 lX7_107 ⟨by decide, by decide⟩ (Nat.le_of_ble_eq_true rfl) (Nat.le_of_ble_eq_true rfl) (s_tRow h) ?_
  rintro o n' f' ⟨rfl, rfl, rfl⟩
  exact am_ctO rfl ⟨rfl, rfl, rfl⟩
theorem s_tOfRowW {y : Nat} {d : Int32} (hG : m_G f p T z) (hy : y < 6) (h : ¬ (0 ≤ d ∧ d ≤ 2)) : AM mX7_ofRow 1 6 [.ref p, .int (nI y), .int d] n f (am_th 0 n f) := by
  show AW mX7_ofRow 1 6 0 [some (.ref p), some (.int (nI y)), some (.int d)] [] n f _
  refine am_iload_n 0 dX7_ofRow_0 rfl ?_
  refine am_S1 1 (mc' := 0) (ms' := 0) (rc := 1) (rs := 6) dX7_ofRow_1 lX7_107 ⟨by decide, by decide⟩ (Nat.le_of_ble_eq_true rfl) (Nat.le_of_ble_eq_true rfl) (s_ckRow hy) ?_
  refine am_is_ct ?_
  refine am_iload_n 4 dX7_ofRow_4 rfl ?_
  refine am_iconst 5 (v := 2) dX7_ofRow_5 (by decide) ?_
  refine am_S2 6 (mc' := 1) (ms' := 6) (rc := 0) (rs := 0) dX7_ofRow_6 lX7_153 ⟨by decide, by decide⟩ (Nat.le_of_ble_eq_true rfl) (Nat.le_of_ble_eq_true rfl) (s_tWhat h) ?_
  rintro o n' f' ⟨rfl, rfl, rfl⟩
  exact am_ctO rfl ⟨rfl, rfl, rfl⟩
theorem s_tOfArea {x d : Int32} (hG : m_G f p T z) (h : ¬ (0 ≤ x ∧ x ≤ nI (z_to z) - 1)) : AM mX7_ofArea 1 6 [.ref p, .int x, .int d] n f (am_th 2 n f) := by
  obtain ⟨h0, h1, h2, h3, h4, h5, h6, h7⟩ := hG
  have hs := h4.1
  have ht := h4.2.2.1
  show AW mX7_ofArea 1 6 0 [some (.ref p), some (.int x), some (.int d)] [] n f _
  by_cases q : x < 0
  · refine am_iload_n 0 dX7_ofArea_0 rfl ?_
    refine am_if_lt 1 15 dX7_ofArea_1 rfl (fun c1 => ?_) (fun c1 => absurd q c1)
    refine am_throw 15 rfl tX7_163_61 dX7_ofArea_15 dX7_ofArea_18 dX7_ofArea_19 dX7_ofArea_21 dX7_ofArea_24 (by decide) (by decide) ?_
    exact ⟨rfl, rfl, rfl⟩
  · have q2 : ¬ x < nI (z_to z) := fun w => h ⟨Int32.not_lt.mp q, by
      rw [Int32.lt_iff_toInt_lt, nI_toInt (by omega)] at w
      rw [Int32.le_iff_toInt_le, Int32.toInt_sub, nI_toInt (by omega), show (1 : Int32).toInt = 1 from rfl, Int.bmod_eq_of_le (by omega) (by omega)]
      omega⟩
    refine am_iload_n 0 dX7_ofArea_0 rfl ?_
    refine am_if_lt 1 15 dX7_ofArea_1 rfl (fun c1 => absurd c1 q) (fun c1 => ?_)
    refine am_iload_n 4 dX7_ofArea_4 rfl ?_
    refine am_aload_n 5 dX7_ofArea_5 rfl ?_
    refine am_getfield 6 dX7_ofArea_6 fX7_39 (by repeat (first | assumption | exact am_ue | refine am_un (by first | assumption | decide | omega) ?_)) rfl ?_
    refine am_getfield 9 dX7_ofArea_9 fX7_66 (by repeat (first | assumption | exact am_ue | refine am_un (by first | assumption | decide | omega) ?_)) rfl ?_
    refine am_icmp_lt 12 25 dX7_ofArea_12 rfl (fun c12 => absurd c12 q2) (fun c12 => ?_)
    refine am_throw 15 rfl tX7_163_61 dX7_ofArea_15 dX7_ofArea_18 dX7_ofArea_19 dX7_ofArea_21 dX7_ofArea_24 (by decide) (by decide) ?_
    exact ⟨rfl, rfl, rfl⟩
theorem s_tOfAreaW {k : Nat} {d : Int32} (hG : m_G f p T z) (hk : k < z_to z) (h : ¬ (0 ≤ d ∧ d ≤ 4)) : AM mX7_ofArea 1 6 [.ref p, .int (nI k), .int d] n f (am_th 0 n f) := by
  obtain ⟨h0, h1, h2, h3, h4, h5, h6, h7⟩ := hG
  have hs := h4.1
  have ht := h4.2.2.1
  show AW mX7_ofArea 1 6 0 [some (.ref p), some (.int (nI k)), some (.int d)] [] n f _
  refine am_iload_n 0 dX7_ofArea_0 rfl ?_
  refine am_if_lt 1 15 dX7_ofArea_1 rfl (fun c1 => absurd c1 (nI_pos (by omega))) (fun c1 => ?_)
  refine am_iload_n 4 dX7_ofArea_4 rfl ?_
  refine am_aload_n 5 dX7_ofArea_5 rfl ?_
  refine am_getfield 6 dX7_ofArea_6 fX7_39 (by repeat (first | assumption | exact am_ue | refine am_un (by first | assumption | decide | omega) ?_)) rfl ?_
  refine am_getfield 9 dX7_ofArea_9 fX7_66 (by repeat (first | assumption | exact am_ue | refine am_un (by first | assumption | decide | omega) ?_)) rfl ?_
  refine am_icmp_lt 12 25 dX7_ofArea_12 rfl (fun c12 => ?_) (fun c12 => absurd (nI_lt hk (by omega)) c12)
  refine am_iload_n 25 dX7_ofArea_25 rfl ?_
  refine am_iconst 26 (v := 4) dX7_ofArea_26 (by decide) ?_
  refine am_S2 27 (mc' := 1) (ms' := 6) (rc := 0) (rs := 0) dX7_ofArea_27 lX7_153 ⟨by decide, by decide⟩ (Nat.le_of_ble_eq_true rfl) (Nat.le_of_ble_eq_true rfl) (s_tWhat h) ?_
  rintro o n' f' ⟨rfl, rfl, rfl⟩
  exact am_ctO rfl ⟨rfl, rfl, rfl⟩
theorem s_tMany {d : Int32} (hG : m_G f p T z) (h : ¬ (0 ≤ d ∧ d ≤ 9)) : AM mX7_many 1 6 [.ref p, .int d] n f (am_th 0 n f) := by
  show AW mX7_many 1 6 0 [some (.ref p), some (.int d)] [] n f _
  refine am_iload_n 0 dX7_many_0 rfl ?_
  refine am_bipush 1 (v := 9) dX7_many_1 (by decide) ?_
  refine am_S2 3 (mc' := 1) (ms' := 6) (rc := 0) (rs := 0) dX7_many_3 lX7_153 ⟨by decide, by decide⟩ (Nat.le_of_ble_eq_true rfl) (Nat.le_of_ble_eq_true rfl) (s_tWhat h) ?_
  rintro o n' f' ⟨rfl, rfl, rfl⟩
  exact am_ctO rfl ⟨rfl, rfl, rfl⟩
theorem s_tGuess {x d e : Int32} (hG : m_G f p T z) (hx : ∀ k, k < 5 → x = nI k → (z_K z k).1 0 = 0) : AM mX7_guess 1 6 [.ref p, .int x, .int d, .int e] n f (am_th 2 n f) := by
  have h0 := hG.1
  show AW mX7_guess 1 6 0 [some (.ref p), some (.int x), some (.int d), some (.int e)] [] n f _
  refine am_aload_n 0 dX7_guess_0 rfl ?_
  refine am_iload_n 1 dX7_guess_1 rfl ?_
  refine am_V1 2 (mc' := 1) (ms' := 6) (rc := 0) (rs := 0) dX7_guess_2 lX7_171 ⟨by decide, by decide⟩ (by repeat (first | assumption | exact am_ue | refine am_un (by first | assumption | decide | omega) ?_)) (Nat.le_of_ble_eq_true rfl) (Nat.le_of_ble_eq_true rfl) (s_tName hG hx) ?_
  rintro o n' f' ⟨rfl, rfl, rfl⟩
  exact am_ctO rfl ⟨rfl, rfl, rfl⟩
theorem s_tGuessA {x : Nat} {d e : Int32} (hG : m_G f p T z) (hx : x < 5) (hth : (z_K z x).1 0 ≠ 0) (h : ¬ (0 ≤ d ∧ d ≤ 9)) : AM mX7_guess 1 6 [.ref p, .int (nI x), .int d, .int e] n f (am_th 0 n f) := by
  have h0 := hG.1
  show AW mX7_guess 1 6 0 [some (.ref p), some (.int (nI x)), some (.int d), some (.int e)] [] n f _
  by_cases q : d < 0
  · refine am_aload_n 0 dX7_guess_0 rfl ?_
    refine am_iload_n 1 dX7_guess_1 rfl ?_
    refine am_V1 2 (mc' := 0) (ms' := 0) (rc := 1) (rs := 6) dX7_guess_2 lX7_171 ⟨by decide, by decide⟩ (by repeat (first | assumption | exact am_ue | refine am_un (by first | assumption | decide | omega) ?_)) (Nat.le_of_ble_eq_true rfl) (Nat.le_of_ble_eq_true rfl) (s_ckName hG hx hth) ?_
    refine am_is_ct ?_
    refine am_iload_n 5 dX7_guess_5 rfl ?_
    refine am_if_lt 6 15 dX7_guess_6 rfl (fun c6 => ?_) (fun c6 => absurd q c6)
    refine am_throw 15 rfl tX7_59_198 dX7_guess_15 dX7_guess_18 dX7_guess_19 dX7_guess_21 dX7_guess_24 (by decide) (by decide) ?_
    exact ⟨rfl, rfl, rfl⟩
  · have q2 : ¬ d ≤ 9 := fun z => h ⟨Int32.not_lt.mp q, z⟩
    refine am_aload_n 0 dX7_guess_0 rfl ?_
    refine am_iload_n 1 dX7_guess_1 rfl ?_
    refine am_V1 2 (mc' := 0) (ms' := 0) (rc := 1) (rs := 6) dX7_guess_2 lX7_171 ⟨by decide, by decide⟩ (by repeat (first | assumption | exact am_ue | refine am_un (by first | assumption | decide | omega) ?_)) (Nat.le_of_ble_eq_true rfl) (Nat.le_of_ble_eq_true rfl) (s_ckName hG hx hth) ?_
    refine am_is_ct ?_
    refine am_iload_n 5 dX7_guess_5 rfl ?_
    refine am_if_lt 6 15 dX7_guess_6 rfl (fun c6 => absurd c6 q) (fun c6 => ?_)
    refine am_iload_n 9 dX7_guess_9 rfl ?_
    refine am_bipush 10 (v := 9) dX7_guess_10 (by decide) ?_
    refine am_icmp_le 12 25 dX7_guess_12 rfl (fun c12 => absurd c12 q2) (fun c12 => ?_)
    refine am_throw 15 rfl tX7_59_198 dX7_guess_15 dX7_guess_18 dX7_guess_19 dX7_guess_21 dX7_guess_24 (by decide) (by decide) ?_
    exact ⟨rfl, rfl, rfl⟩
theorem s_tWould {x : Int32} (hG : m_G f p T z) (hx : ∀ k, k < 5 → x = nI k → (z_K z k).1 0 = 0) : AM mX7_wouldMatch 1 6 [.ref p, .int x] n f (am_th 2 n f) := by
  have h0 := hG.1
  show AW mX7_wouldMatch 1 6 0 [some (.ref p), some (.int x)] [] n f _
  refine am_aload_n 0 dX7_wouldMatch_0 rfl ?_
  refine am_iload_n 1 dX7_wouldMatch_1 rfl ?_
  refine am_V1 2 (mc' := 1) (ms' := 6) (rc := 0) (rs := 0) dX7_wouldMatch_2 lX7_171 ⟨by decide, by decide⟩ (by repeat (first | assumption | exact am_ue | refine am_un (by first | assumption | decide | omega) ?_)) (Nat.le_of_ble_eq_true rfl) (Nat.le_of_ble_eq_true rfl) (s_tName hG hx) ?_
  rintro o n' f' ⟨rfl, rfl, rfl⟩
  exact am_ctO rfl ⟨rfl, rfl, rfl⟩
theorem s_tKeep {x d : Int32} (hG : m_G f p T z) (hx : ∀ k, k < 5 → x = nI k → (z_K z k).1 0 = 0) : AM mX7_keepBy 1 6 [.ref p, .int x, .int d] n f (am_th 2 n f) := by
  have h0 := hG.1
  show AW mX7_keepBy 1 6 0 [some (.ref p), some (.int x), some (.int d), none] [] n f _
  refine am_aload_n 0 dX7_keepBy_0 rfl ?_
  refine am_iload_n 1 dX7_keepBy_1 rfl ?_
  refine am_V1 2 (mc' := 1) (ms' := 6) (rc := 0) (rs := 0) dX7_keepBy_2 lX7_171 ⟨by decide, by decide⟩ (by repeat (first | assumption | exact am_ue | refine am_un (by first | assumption | decide | omega) ?_)) (Nat.le_of_ble_eq_true rfl) (Nat.le_of_ble_eq_true rfl) (s_tName hG hx) ?_
  rintro o n' f' ⟨rfl, rfl, rfl⟩
  exact am_ctO rfl ⟨rfl, rfl, rfl⟩
theorem s_tKeepS {x : Nat} {d : Int32} (hG : m_G f p T z) (hx : x < 5) (hth : (z_K z x).1 0 ≠ 0) (h : ¬ (1 ≤ d ∧ d ≤ 200)) : AM mX7_keepBy 1 6 [.ref p, .int (nI x), .int d] n f (am_th 0 n f) := by
  have h0 := hG.1
  show AW mX7_keepBy 1 6 0 [some (.ref p), some (.int (nI x)), some (.int d), none] [] n f _
  refine am_aload_n 0 dX7_keepBy_0 rfl ?_
  refine am_iload_n 1 dX7_keepBy_1 rfl ?_
  refine am_V1 2 (mc' := 0) (ms' := 0) (rc := 1) (rs := 6) dX7_keepBy_2 lX7_171 ⟨by decide, by decide⟩ (by repeat (first | assumption | exact am_ue | refine am_un (by first | assumption | decide | omega) ?_)) (Nat.le_of_ble_eq_true rfl) (Nat.le_of_ble_eq_true rfl) (s_ckName hG hx hth) ?_
  refine am_is_ct ?_
  refine am_iload_n 5 dX7_keepBy_5 rfl ?_
  refine am_S1 6 (mc' := 1) (ms' := 6) (rc := 0) (rs := 0) dX7_keepBy_6 lX7_95 ⟨by decide, by decide⟩ (Nat.le_of_ble_eq_true rfl) (Nat.le_of_ble_eq_true rfl) (s_tStrength h) ?_
  rintro o n' f' ⟨rfl, rfl, rfl⟩
  exact am_ctO rfl ⟨rfl, rfl, rfl⟩
/-! area -/
theorem s_tArea {a b c d : Int32} (hG : m_G f p T z) (h : ¬ ((0 ≤ a ∧ a ≤ 7) ∧ (a ≤ b ∧ b ≤ 7) ∧ (0 ≤ c ∧ c ≤ 5) ∧ (c ≤ d ∧ d ≤ 5))) : AM mX7_area 1 6 [.ref p, .int a, .int b, .int c, .int d] n f (am_th 0 n f) := by
  show AW mX7_area 1 6 0 [some (.ref p), some (.int a), some (.int b), some (.int c), some (.int d)] [] n f _
  by_cases q1 : a < 0
  · refine am_iload_n 0 dX7_area_0 rfl ?_
    refine am_if_lt 1 32 dX7_area_1 rfl (fun c1 => ?_) (fun c1 => absurd q1 c1)
    refine am_throw 32 rfl tX7_59_61 dX7_area_32 dX7_area_35 dX7_area_36 dX7_area_38 dX7_area_41 (by decide) (by decide) ?_
    exact ⟨rfl, rfl, rfl⟩
  by_cases q2 : b < a
  · refine am_iload_n 0 dX7_area_0 rfl ?_
    refine am_if_lt 1 32 dX7_area_1 rfl (fun c1 => absurd c1 q1) (fun c1 => ?_)
    refine am_iload_n 4 dX7_area_4 rfl ?_
    refine am_iload_n 5 dX7_area_5 rfl ?_
    refine am_icmp_lt 6 32 dX7_area_6 rfl (fun c6 => ?_) (fun c6 => absurd q2 c6)
    refine am_throw 32 rfl tX7_59_61 dX7_area_32 dX7_area_35 dX7_area_36 dX7_area_38 dX7_area_41 (by decide) (by decide) ?_
    exact ⟨rfl, rfl, rfl⟩
  by_cases q3 : 8 ≤ b
  · refine am_iload_n 0 dX7_area_0 rfl ?_
    refine am_if_lt 1 32 dX7_area_1 rfl (fun c1 => absurd c1 q1) (fun c1 => ?_)
    refine am_iload_n 4 dX7_area_4 rfl ?_
    refine am_iload_n 5 dX7_area_5 rfl ?_
    refine am_icmp_lt 6 32 dX7_area_6 rfl (fun c6 => absurd c6 q2) (fun c6 => ?_)
    refine am_iload_n 9 dX7_area_9 rfl ?_
    refine am_bipush 10 (v := 8) dX7_area_10 (by decide) ?_
    refine am_icmp_ge 12 32 dX7_area_12 rfl (fun c12 => ?_) (fun c12 => absurd q3 c12)
    refine am_throw 32 rfl tX7_59_61 dX7_area_32 dX7_area_35 dX7_area_36 dX7_area_38 dX7_area_41 (by decide) (by decide) ?_
    exact ⟨rfl, rfl, rfl⟩
  by_cases q4 : c < 0
  · refine am_iload_n 0 dX7_area_0 rfl ?_
    refine am_if_lt 1 32 dX7_area_1 rfl (fun c1 => absurd c1 q1) (fun c1 => ?_)
    refine am_iload_n 4 dX7_area_4 rfl ?_
    refine am_iload_n 5 dX7_area_5 rfl ?_
    refine am_icmp_lt 6 32 dX7_area_6 rfl (fun c6 => absurd c6 q2) (fun c6 => ?_)
    refine am_iload_n 9 dX7_area_9 rfl ?_
    refine am_bipush 10 (v := 8) dX7_area_10 (by decide) ?_
    refine am_icmp_ge 12 32 dX7_area_12 rfl (fun c12 => absurd c12 q3) (fun c12 => ?_)
    refine am_iload_n 15 dX7_area_15 rfl ?_
    refine am_if_lt 16 32 dX7_area_16 rfl (fun c16 => ?_) (fun c16 => absurd q4 c16)
    refine am_throw 32 rfl tX7_59_61 dX7_area_32 dX7_area_35 dX7_area_36 dX7_area_38 dX7_area_41 (by decide) (by decide) ?_
    exact ⟨rfl, rfl, rfl⟩
  by_cases q5 : d < c
  · refine am_iload_n 0 dX7_area_0 rfl ?_
    refine am_if_lt 1 32 dX7_area_1 rfl (fun c1 => absurd c1 q1) (fun c1 => ?_)
    refine am_iload_n 4 dX7_area_4 rfl ?_
    refine am_iload_n 5 dX7_area_5 rfl ?_
    refine am_icmp_lt 6 32 dX7_area_6 rfl (fun c6 => absurd c6 q2) (fun c6 => ?_)
    refine am_iload_n 9 dX7_area_9 rfl ?_
    refine am_bipush 10 (v := 8) dX7_area_10 (by decide) ?_
    refine am_icmp_ge 12 32 dX7_area_12 rfl (fun c12 => absurd c12 q3) (fun c12 => ?_)
    refine am_iload_n 15 dX7_area_15 rfl ?_
    refine am_if_lt 16 32 dX7_area_16 rfl (fun c16 => absurd c16 q4) (fun c16 => ?_)
    refine am_iload 19 dX7_area_19 rfl ?_
    refine am_iload_n 21 dX7_area_21 rfl ?_
    refine am_icmp_lt 22 32 dX7_area_22 rfl (fun c22 => ?_) (fun c22 => absurd q5 c22)
    refine am_throw 32 rfl tX7_59_61 dX7_area_32 dX7_area_35 dX7_area_36 dX7_area_38 dX7_area_41 (by decide) (by decide) ?_
    exact ⟨rfl, rfl, rfl⟩
  by_cases q6 : d < 6
  · have b3 := (r_leP 7 rfl rfl (by decide)).mpr q3
    have b6 := (r_leP 5 rfl rfl (by decide)).mpr (Int32.not_le.mpr q6)
    exact absurd ⟨⟨Int32.not_lt.mp q1, Int32.le_trans (Int32.not_lt.mp q2) b3⟩, ⟨Int32.not_lt.mp q2, b3⟩, ⟨Int32.not_lt.mp q4, Int32.le_trans (Int32.not_lt.mp q5) b6⟩, Int32.not_lt.mp q5, b6⟩ h
  · refine am_iload_n 0 dX7_area_0 rfl ?_
    refine am_if_lt 1 32 dX7_area_1 rfl (fun c1 => absurd c1 q1) (fun c1 => ?_)
    refine am_iload_n 4 dX7_area_4 rfl ?_
    refine am_iload_n 5 dX7_area_5 rfl ?_
    refine am_icmp_lt 6 32 dX7_area_6 rfl (fun c6 => absurd c6 q2) (fun c6 => ?_)
    refine am_iload_n 9 dX7_area_9 rfl ?_
    refine am_bipush 10 (v := 8) dX7_area_10 (by decide) ?_
    refine am_icmp_ge 12 32 dX7_area_12 rfl (fun c12 => absurd c12 q3) (fun c12 => ?_)
    refine am_iload_n 15 dX7_area_15 rfl ?_
    refine am_if_lt 16 32 dX7_area_16 rfl (fun c16 => absurd c16 q4) (fun c16 => ?_)
    refine am_iload 19 dX7_area_19 rfl ?_
    refine am_iload_n 21 dX7_area_21 rfl ?_
    refine am_icmp_lt 22 32 dX7_area_22 rfl (fun c22 => absurd c22 q5) (fun c22 => ?_)
    refine am_iload 25 dX7_area_25 rfl ?_
    refine am_bipush 27 (v := 6) dX7_area_27 (by decide) ?_
    refine am_icmp_lt 29 42 dX7_area_29 rfl (fun c29 => absurd c29 q6) (fun c29 => ?_)
    refine am_throw 32 rfl tX7_59_61 dX7_area_32 dX7_area_35 dX7_area_36 dX7_area_38 dX7_area_41 (by decide) (by decide) ?_
    exact ⟨rfl, rfl, rfl⟩
theorem s_tAreaM {a b c d : Int32} (hG : m_G f p T z) (ht : ¬ z_to z < 4) (h1 : 0 ≤ a ∧ a ≤ 7) (h2 : a ≤ b ∧ b ≤ 7) (h3 : 0 ≤ c ∧ c ≤ 5) (h4 : c ≤ d ∧ d ≤ 5) : AM mX7_area 1 6 [.ref p, .int a, .int b, .int c, .int d] n f (am_th 1 n f) := by
  obtain ⟨g0, g1, g2, g3, g4, g5, g6, g7⟩ := hG
  have hs := g4.1
  have ht4 := g4.2.2.1
  have q3 := (r_leP 7 rfl rfl (by decide)).mp h2.2
  have q6 := Int32.not_le.mp ((r_leP 5 rfl rfl (by decide)).mp h4.2)
  have q7 : ¬ nI (z_to z) < 4 := fun w => ht ((nI_ltI (b := 4) (by omega) (by decide)).mp w)
  show AW mX7_area 1 6 0 [some (.ref p), some (.int a), some (.int b), some (.int c), some (.int d)] [] n f _
  refine am_iload_n 0 dX7_area_0 rfl ?_
  refine am_if_lt 1 32 dX7_area_1 rfl (fun c1 => absurd c1 (Int32.not_lt.mpr h1.1)) (fun c1 => ?_)
  refine am_iload_n 4 dX7_area_4 rfl ?_
  refine am_iload_n 5 dX7_area_5 rfl ?_
  refine am_icmp_lt 6 32 dX7_area_6 rfl (fun c6 => absurd c6 (Int32.not_lt.mpr h2.1)) (fun c6 => ?_)
  refine am_iload_n 9 dX7_area_9 rfl ?_
  refine am_bipush 10 (v := 8) dX7_area_10 (by decide) ?_
  refine am_icmp_ge 12 32 dX7_area_12 rfl (fun c12 => absurd c12 q3) (fun c12 => ?_)
  refine am_iload_n 15 dX7_area_15 rfl ?_
  refine am_if_lt 16 32 dX7_area_16 rfl (fun c16 => absurd c16 (Int32.not_lt.mpr h3.1)) (fun c16 => ?_)
  refine am_iload 19 dX7_area_19 rfl ?_
  refine am_iload_n 21 dX7_area_21 rfl ?_
  refine am_icmp_lt 22 32 dX7_area_22 rfl (fun c22 => absurd c22 (Int32.not_lt.mpr h4.1)) (fun c22 => ?_)
  refine am_iload 25 dX7_area_25 rfl ?_
  refine am_bipush 27 (v := 6) dX7_area_27 (by decide) ?_
  refine am_icmp_lt 29 42 dX7_area_29 rfl (fun c29 => ?_) (fun c29 => absurd q6 c29)
  refine am_aload_n 42 dX7_area_42 rfl ?_
  refine am_getfield 43 dX7_area_43 fX7_39 (by repeat (first | assumption | exact am_ue | refine am_un (by first | assumption | decide | omega) ?_)) rfl ?_
  refine am_getfield 46 dX7_area_46 fX7_66 (by repeat (first | assumption | exact am_ue | refine am_un (by first | assumption | decide | omega) ?_)) rfl ?_
  refine am_iconst 49 (v := 4) dX7_area_49 (by decide) ?_
  refine am_icmp_lt 50 63 dX7_area_50 rfl (fun c50 => absurd c50 q7) (fun c50 => ?_)
  refine am_throw 53 rfl tX7_69_71 dX7_area_53 dX7_area_56 dX7_area_57 dX7_area_59 dX7_area_62 (by decide) (by decide) ?_
  exact ⟨rfl, rfl, rfl⟩
theorem s_areaG {a b c d : Int32} (hG : m_G f p T z) (ht : z_to z < 4) (h1 : 0 ≤ a ∧ a ≤ 7) (h2 : a ≤ b ∧ b ≤ 7) (h3 : 0 ≤ c ∧ c ≤ 5) (h4 : c ≤ d ∧ d ≤ 5) : AM mX7_area 0 0 [.ref p, .int a, .int b, .int c, .int d] n f (fun o n' f' => ∃ A', m_ask p T (z.1, z.2.1, z.2.2.1, (z_to z + 1, A', z_C z), z.2.2.2.2) n f (.int (nI (z_to z))) o n' f') := by
  obtain ⟨g0, g1, g2, g3, g4, g5, g6, g7⟩ := hG
  have hs := g4.1
  have q3 := (r_leP 7 rfl rfl (by decide)).mp h2.2
  have q6 := Int32.not_le.mp ((r_leP 5 rfl rfl (by decide)).mp h4.2)
  show AW mX7_area 0 0 0 [some (.ref p), some (.int a), some (.int b), some (.int c), some (.int d)] [] n f _
  refine am_iload_n 0 dX7_area_0 rfl ?_
  refine am_if_lt 1 32 dX7_area_1 rfl (fun c1 => absurd c1 (Int32.not_lt.mpr h1.1)) (fun c1 => ?_)
  refine am_iload_n 4 dX7_area_4 rfl ?_
  refine am_iload_n 5 dX7_area_5 rfl ?_
  refine am_icmp_lt 6 32 dX7_area_6 rfl (fun c6 => absurd c6 (Int32.not_lt.mpr h2.1)) (fun c6 => ?_)
  refine am_iload_n 9 dX7_area_9 rfl ?_
  refine am_bipush 10 (v := 8) dX7_area_10 (by decide) ?_
  refine am_icmp_ge 12 32 dX7_area_12 rfl (fun c12 => absurd c12 q3) (fun c12 => ?_)
  refine am_iload_n 15 dX7_area_15 rfl ?_
  refine am_if_lt 16 32 dX7_area_16 rfl (fun c16 => absurd c16 (Int32.not_lt.mpr h3.1)) (fun c16 => ?_)
  refine am_iload 19 dX7_area_19 rfl ?_
  refine am_iload_n 21 dX7_area_21 rfl ?_
  refine am_icmp_lt 22 32 dX7_area_22 rfl (fun c22 => absurd c22 (Int32.not_lt.mpr h4.1)) (fun c22 => ?_)
  refine am_iload 25 dX7_area_25 rfl ?_
  refine am_bipush 27 (v := 6) dX7_area_27 (by decide) ?_
  refine am_icmp_lt 29 42 dX7_area_29 rfl (fun c29 => ?_) (fun c29 => absurd q6 c29)
  refine am_aload_n 42 dX7_area_42 rfl ?_
  refine am_getfield 43 dX7_area_43 fX7_39 (by repeat (first | assumption | exact am_ue | refine am_un (by first | assumption | decide | omega) ?_)) rfl ?_
  refine am_getfield 46 dX7_area_46 fX7_66 (by repeat (first | assumption | exact am_ue | refine am_un (by first | assumption | decide | omega) ?_)) rfl ?_
  refine am_iconst 49 (v := 4) dX7_area_49 (by decide) ?_
  refine am_icmp_lt 50 63 dX7_area_50 rfl (fun c50 => ?_) (fun c50 => absurd (nI_lt (b := 4) ht (by decide)) c50)
  refine am_aload_n 63 dX7_area_63 rfl ?_
  refine am_getfield 64 dX7_area_64 fX7_39 (by repeat (first | assumption | exact am_ue | refine am_un (by first | assumption | decide | omega) ?_)) rfl ?_
  refine am_iload_n 67 dX7_area_67 rfl ?_
  refine am_iload_n 68 dX7_area_68 rfl ?_
  refine am_iload_n 69 dX7_area_69 rfl ?_
  refine am_iload 70 dX7_area_70 rfl ?_
  refine am_V4 72 (mc' := 0) (ms' := 0) (rc := 0) (rs := 0) dX7_area_72 lX7_74 ⟨by decide, by decide⟩ (by repeat (first | assumption | exact am_ue | refine am_un (by first | assumption | decide | omega) ?_)) (Nat.le_of_ble_eq_true rfl) (Nat.le_of_ble_eq_true rfl) (s_tell g4 ht) ?_
  rintro o n' f1 ⟨rfl, rfl, q1, q2⟩
  refine am_ctI ?_
  refine am_ireturn 75 dX7_area_75 rfl rfl ?_
  exact ⟨_, rfl, rfl, ⟨(q2 _ (by omega)).trans g0, g1.on fun x a b => q2 x (by omega), g2.on fun x a b => q2 x (by omega), g3.on fun x a b => q2 x (by omega), q1, g5.on fun x a b => q2 x (by omega), g6.tell ht, g7⟩, fun x hx => q2 x (by omega)⟩
end CThrow
