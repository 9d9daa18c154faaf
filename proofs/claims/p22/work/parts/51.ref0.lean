/-! ===== the reference: small methods, the list ===== -/
section Ref0
variable {m l n : Nat} {f : Nat → am_C}
theorem s_isIn_t {v a b : Int32} (h1 : a ≤ v) (h2 : v ≤ b) : AM mX12_isIn 0 0 [.int v, .int a, .int b] n f (am_is (some (.int 1)) n f) := by
  show AW mX12_isIn 0 0 0 [some (.int v), some (.int a), some (.int b)] [] n f _
  refine am_iload_n 0 dX12_isIn_0 rfl ?_
  refine am_iload_n 1 dX12_isIn_1 rfl ?_
  refine am_icmp_lt 2 14 dX12_isIn_2 rfl (fun c2 => absurd c2 (Int32.not_lt.mpr h1)) (fun c2 => ?_)
  refine am_iload_n 5 dX12_isIn_5 rfl ?_
  refine am_iload_n 6 dX12_isIn_6 rfl ?_
  refine am_icmp_gt 7 14 dX12_isIn_7 rfl (fun c7 => absurd c7 (Int32.not_lt.mpr h2)) (fun c7 => ?_)
  refine am_iconst 10 (v := 1) dX12_isIn_10 (by decide) ?_
  refine am_goto 11 (tgt := 15) dX12_isIn_11 rfl ?_
  exact am_ireturn 15 dX12_isIn_15 rfl rfl ⟨rfl, rfl, rfl⟩
theorem s_isIn_f {v a b : Int32} (h : ¬ (a ≤ v ∧ v ≤ b)) : AM mX12_isIn 0 0 [.int v, .int a, .int b] n f (am_is (some (.int 0)) n f) := by
  show AW mX12_isIn 0 0 0 [some (.int v), some (.int a), some (.int b)] [] n f _
  refine am_iload_n 0 dX12_isIn_0 rfl ?_
  refine am_iload_n 1 dX12_isIn_1 rfl ?_
  refine am_icmp_lt 2 14 dX12_isIn_2 rfl (fun c2 => ?_) (fun c2 => ?_)
  · refine am_iconst 14 (v := 0) dX12_isIn_14 (by decide) ?_
    exact am_ireturn 15 dX12_isIn_15 rfl rfl ⟨rfl, rfl, rfl⟩
  · refine am_iload_n 5 dX12_isIn_5 rfl ?_
    refine am_iload_n 6 dX12_isIn_6 rfl ?_
    refine am_icmp_gt 7 14 dX12_isIn_7 rfl (fun c7 => ?_) (fun c7 => False.elim (h ⟨Int32.not_lt.mp c2, Int32.not_lt.mp c7⟩))
    refine am_iconst 14 (v := 0) dX12_isIn_14 (by decide) ?_
    exact am_ireturn 15 dX12_isIn_15 rfl rfl ⟨rfl, rfl, rfl⟩
theorem r_leP (N : Nat) {x v w : Int32} (hv : v = nI N) (hw : w = nI (N + 1)) (hN : N + 1 < 2 ^ 31) : x ≤ v ↔ ¬ w ≤ x := by
  subst hv
  subst hw
  rw [Int32.le_iff_toInt_le, Int32.le_iff_toInt_le, nI_toInt (by omega), nI_toInt hN]
  omega
theorem m_nI0 {k : Nat} (h : k < 2 ^ 31) : 0 ≤ nI k := Int32.not_lt.mp (nI_pos h)
theorem s_isGlass_t {j k : Nat} (hj : j < 8) (hk : k < 6) : AM mX12_isGlass 0 0 [.int (nI j), .int (nI k)] n f (am_is (some (.int 1)) n f) := by
  show AW mX12_isGlass 0 0 0 [some (.int (nI j)), some (.int (nI k))] [] n f _
  refine am_iload_n 0 dX12_isGlass_0 rfl ?_
  refine am_iconst 1 (v := 0) dX12_isGlass_1 (by decide) ?_
  refine am_bipush 2 (v := 7) dX12_isGlass_2 (by decide) ?_
  refine am_S3 4 (mc' := 0) (ms' := 0) (rc := 0) (rs := 0) dX12_isGlass_4 lX12_3 ⟨by decide, by decide⟩ (Nat.le_of_ble_eq_true rfl) (Nat.le_of_ble_eq_true rfl) (s_isIn_t (m_nI0 (by omega)) ((r_leP 7 rfl rfl (by decide)).mpr (nI_ge hj (by decide)))) ?_
  refine am_is_ct ?_
  refine am_if_eq 7 23 dX12_isGlass_7 rfl (fun c7 => absurd c7 (by decide)) (fun c7 => ?_)
  refine am_iload_n 10 dX12_isGlass_10 rfl ?_
  refine am_iconst 11 (v := 0) dX12_isGlass_11 (by decide) ?_
  refine am_iconst 12 (v := 5) dX12_isGlass_12 (by decide) ?_
  refine am_S3 13 (mc' := 0) (ms' := 0) (rc := 0) (rs := 0) dX12_isGlass_13 lX12_3 ⟨by decide, by decide⟩ (Nat.le_of_ble_eq_true rfl) (Nat.le_of_ble_eq_true rfl) (s_isIn_t (m_nI0 (by omega)) ((r_leP 5 rfl rfl (by decide)).mpr (nI_ge hk (by decide)))) ?_
  refine am_is_ct ?_
  refine am_if_eq 16 23 dX12_isGlass_16 rfl (fun c16 => absurd c16 (by decide)) (fun c16 => ?_)
  refine am_iconst 19 (v := 1) dX12_isGlass_19 (by decide) ?_
  refine am_goto 20 (tgt := 24) dX12_isGlass_20 rfl ?_
  exact am_ireturn 24 dX12_isGlass_24 rfl rfl ⟨rfl, rfl, rfl⟩
theorem s_isGlass_f {x y : Int32} (h : x < 0 ∨ 8 ≤ x ∨ y < 0 ∨ 6 ≤ y) : AM mX12_isGlass 0 0 [.int x, .int y] n f (am_is (some (.int 0)) n f) := by
  show AW mX12_isGlass 0 0 0 [some (.int x), some (.int y)] [] n f _
  by_cases hx : (0 : Int32) ≤ x ∧ x ≤ 7
  · have hy : ¬ ((0 : Int32) ≤ y ∧ y ≤ 5) := by
      rintro ⟨h1, h2⟩
      have h3 := (r_leP 7 rfl rfl (by decide)).mp hx.2
      have h4 := (r_leP 5 rfl rfl (by decide)).mp h2
      rcases h with h | h | h | h
      · exact Int32.not_lt.mpr hx.1 h
      · exact h3 h
      · exact Int32.not_lt.mpr h1 h
      · exact h4 h
    refine am_iload_n 0 dX12_isGlass_0 rfl ?_
    refine am_iconst 1 (v := 0) dX12_isGlass_1 (by decide) ?_
    refine am_bipush 2 (v := 7) dX12_isGlass_2 (by decide) ?_
    refine am_S3 4 (mc' := 0) (ms' := 0) (rc := 0) (rs := 0) dX12_isGlass_4 lX12_3 ⟨by decide, by decide⟩ (Nat.le_of_ble_eq_true rfl) (Nat.le_of_ble_eq_true rfl) (s_isIn_t hx.1 hx.2) ?_
    refine am_is_ct ?_
    refine am_if_eq 7 23 dX12_isGlass_7 rfl (fun c7 => absurd c7 (by decide)) (fun c7 => ?_)
    refine am_iload_n 10 dX12_isGlass_10 rfl ?_
    refine am_iconst 11 (v := 0) dX12_isGlass_11 (by decide) ?_
    refine am_iconst 12 (v := 5) dX12_isGlass_12 (by decide) ?_
    refine am_S3 13 (mc' := 0) (ms' := 0) (rc := 0) (rs := 0) dX12_isGlass_13 lX12_3 ⟨by decide, by decide⟩ (Nat.le_of_ble_eq_true rfl) (Nat.le_of_ble_eq_true rfl) (s_isIn_f hy) ?_
    refine am_is_ct ?_
    refine am_if_eq 16 23 dX12_isGlass_16 rfl (fun c16 => ?_) (fun c16 => absurd (by decide) c16)
    refine am_iconst 23 (v := 0) dX12_isGlass_23 (by decide) ?_
    exact am_ireturn 24 dX12_isGlass_24 rfl rfl ⟨rfl, rfl, rfl⟩
  · refine am_iload_n 0 dX12_isGlass_0 rfl ?_
    refine am_iconst 1 (v := 0) dX12_isGlass_1 (by decide) ?_
    refine am_bipush 2 (v := 7) dX12_isGlass_2 (by decide) ?_
    refine am_S3 4 (mc' := 0) (ms' := 0) (rc := 0) (rs := 0) dX12_isGlass_4 lX12_3 ⟨by decide, by decide⟩ (Nat.le_of_ble_eq_true rfl) (Nat.le_of_ble_eq_true rfl) (s_isIn_f hx) ?_
    refine am_is_ct ?_
    refine am_if_eq 7 23 dX12_isGlass_7 rfl (fun c7 => ?_) (fun c7 => absurd (by decide) c7)
    refine am_iconst 23 (v := 0) dX12_isGlass_23 (by decide) ?_
    exact am_ireturn 24 dX12_isGlass_24 rfl rfl ⟨rfl, rfl, rfl⟩
theorem s_cell {j k : Nat} : AM mX12_cell 0 0 [.int (nI j), .int (nI k)] n f (am_is (some (.int (nI (8 * k + j)))) n f) := by
  show AW mX12_cell 0 0 0 [some (.int (nI j)), some (.int (nI k))] [] n f _
  refine am_bipush 0 (v := 8) dX12_cell_0 (by decide) ?_
  refine am_iload_n 2 dX12_cell_2 rfl ?_
  refine am_imul 3 dX12_cell_3 ?_
  refine am_iload_n 4 dX12_cell_4 rfl ?_
  refine am_iadd 5 dX12_cell_5 ?_
  refine am_ireturn 6 dX12_cell_6 rfl rfl ?_
  exact ⟨by rw [show (8 : Int32) = nI 8 from rfl, pk_mul, nI_add], rfl, rfl⟩
theorem m_small (N : Nat) {v y : Int32} (hv : v = nI N) (hN : N < 2 ^ 31) (h0 : ¬ y < 0) (h1 : ¬ v ≤ y) : ∃ k : Nat, k < N ∧ y = nI k := by
  subst hv
  have h2 := Int32.le_iff_toInt_le.mp (Int32.not_lt.mp h0)
  have h3 := Int32.lt_iff_toInt_lt.mp (Int32.not_le.mp h1)
  rw [nI_toInt hN] at h3
  rw [show (0 : Int32).toInt = 0 from rfl] at h2
  exact ⟨y.toInt.toNat, by omega, Int32.toInt_inj.mp (by rw [nI_toInt (by omega)]; omega)⟩
theorem m_small_le (N : Nat) {v y : Int32} (hv : v = nI N) (hN : N + 1 < 2 ^ 31) (h0 : 0 ≤ y) (h1 : y ≤ v) : ∃ k : Nat, k ≤ N ∧ y = nI k := by
  subst hv
  have h2 := Int32.le_iff_toInt_le.mp h0
  have h3 := Int32.le_iff_toInt_le.mp h1
  rw [nI_toInt (by omega)] at h3
  rw [show (0 : Int32).toInt = 0 from rfl] at h2
  exact ⟨y.toInt.toNat, by omega, Int32.toInt_inj.mp (by rw [nI_toInt (by omega)]; omega)⟩
/-! ArrayList -/
theorem s_AC_init : AM mJxa1e45_init_da8c8 0 0 [.ref l] n f (am_is none n f) := by
  show AW mJxa1e45_init_da8c8 0 0 0 [some (.ref l)] [] n f _
  refine am_aload_n 0 dJxa1e45_init_da8c8_0 rfl ?_
  refine am_OI 1 dJxa1e45_init_da8c8_1 lJxa1e45_1 (by decide) (Nat.le_of_ble_eq_true rfl) ?_
  exact am_return 4 dJxa1e45_init_da8c8_4 rfl ⟨rfl, rfl, rfl⟩
theorem s_AB_init {e s : Value} (h : f l = .inr (13, [.int 0, e, s])) : AM mJxc12de_init_da8c8 0 0 [.ref l] n f (am_is none n f) := by
  show AW mJxc12de_init_da8c8 0 0 0 [some (.ref l)] [] n f _
  refine am_aload_n 0 dJxc12de_init_da8c8_0 rfl ?_
  refine am_I0 1 (mc' := 0) (ms' := 0) (rc := 0) (rs := 0) dJxc12de_init_da8c8_1 lJxc12de_1 ⟨by decide, by decide⟩ (Nat.le_of_ble_eq_true rfl) (Nat.le_of_ble_eq_true rfl) (s_AC_init) ?_
  rintro o n' f' ⟨rfl, rfl, rfl⟩
  refine ⟨_, rfl, ?_⟩
  refine am_aload_n 4 dJxc12de_init_da8c8_4 rfl ?_
  refine am_iconst 5 (v := 0) dJxc12de_init_da8c8_5 (by decide) ?_
  refine am_putfield 6 dJxc12de_init_da8c8_6 pJxc12de_7 (by repeat (first | assumption | exact am_ue | refine am_un (by first | assumption | decide | omega) ?_)) rfl rfl (Nat.le_of_ble_eq_true rfl) ?_
  rw [show List.set [Value.int 0, e, s] 0 (.int 0) = [.int 0, e, s] from rfl, am_self h]
  exact am_return 9 dJxc12de_init_da8c8_9 rfl ⟨rfl, rfl, rfl⟩
theorem s_AL_init (h : f l = .inr (13, [.int 0, .null, .int 0])) : AM mJx4a65c_init_da8c8 0 0 [.ref l] n f (am_is none n (va_up f l (.inr (13, [.int 0, .ref 1, .int 0])))) := by
  show AW mJx4a65c_init_da8c8 0 0 0 [some (.ref l)] [] n f _
  refine am_aload_n 0 dJx4a65c_init_da8c8_0 rfl ?_
  refine am_I0 1 (mc' := 0) (ms' := 0) (rc := 0) (rs := 0) dJx4a65c_init_da8c8_1 lJx4a65c_1 ⟨by decide, by decide⟩ (Nat.le_of_ble_eq_true rfl) (Nat.le_of_ble_eq_true rfl) (s_AB_init h) ?_
  rintro o n' f' ⟨rfl, rfl, rfl⟩
  refine ⟨_, rfl, ?_⟩
  refine am_aload_n 4 dJx4a65c_init_da8c8_4 rfl ?_
  refine am_getsE 5 dJx4a65c_init_da8c8_5 zJx4a65c_39 ?_
  refine am_putfield 8 dJx4a65c_init_da8c8_8 pJx4a65c_9 (by repeat (first | assumption | exact am_ue | refine am_un (by first | assumption | decide | omega) ?_)) rfl rfl (Nat.le_of_ble_eq_true rfl) ?_
  exact am_return 11 dJx4a65c_init_da8c8_11 rfl ⟨rfl, rfl, rfl⟩
theorem s_size {a b : Value} {k : Int32} (h : f l = .inr (13, [a, b, .int k])) : AM mJx4a65c_size_8abf5 0 0 [.ref l] n f (am_is (some (.int k)) n f) := by
  show AW mJx4a65c_size_8abf5 0 0 0 [some (.ref l)] [] n f _
  refine am_aload_n 0 dJx4a65c_size_8abf5_0 rfl ?_
  refine am_getfield 1 dJx4a65c_size_8abf5_1 fJx4a65c_48 (by repeat (first | assumption | exact am_ue | refine am_un (by first | assumption | decide | omega) ?_)) rfl ?_
  exact am_ireturn 4 dJx4a65c_size_8abf5_4 rfl rfl ⟨rfl, rfl, rfl⟩
theorem s_grow {k : Int32} (h : f l = .inr (13, [.int k, .ref 1, .int 0])) (hl : l < n) : AM mJx4a65c_grow_92f84 1 10 [.ref l, .int 1] n f (fun o n' f' => o = .inl (some (.ref n)) ∧ n' = n + 1 ∧ f' = va_up (va_up f n (.inl (8, 10, .inr (.inr (.inr (.inr (fun _ => none))))))) l (.inr (13, [.int k, .ref n, .int 0]))) := by
  show AW mJx4a65c_grow_92f84 1 10 0 [some (.ref l), some (.int 1), none, none] [] n f _
  refine am_aload_n 0 dJx4a65c_grow_92f84_0 rfl ?_
  refine am_getfield 1 dJx4a65c_grow_92f84_1 fJx4a65c_9 (by repeat (first | assumption | exact am_ue | refine am_un (by first | assumption | decide | omega) ?_)) rfl ?_
  refine am_elen 4 dJx4a65c_grow_92f84_4 ?_
  refine am_istore_n 5 dJx4a65c_grow_92f84_5 (by decide) ?_
  refine am_iload_n 6 dJx4a65c_grow_92f84_6 rfl ?_
  refine am_if_gt 7 20 dJx4a65c_grow_92f84_7 rfl (fun c7 => absurd c7 (by decide)) (fun c7 => ?_)
  refine am_aload_n 10 dJx4a65c_grow_92f84_10 rfl ?_
  refine am_getfield 11 dJx4a65c_grow_92f84_11 fJx4a65c_9 (by repeat (first | assumption | exact am_ue | refine am_un (by first | assumption | decide | omega) ?_)) rfl ?_
  refine am_getsE 14 dJx4a65c_grow_92f84_14 zJx4a65c_39 ?_
  refine am_acmpT 17 (tgt := 45) dJx4a65c_grow_92f84_17 rfl ?_
  refine am_aload_n 45 dJx4a65c_grow_92f84_45 rfl ?_
  refine am_bipush 46 (v := 10) dJx4a65c_grow_92f84_46 (by decide) ?_
  refine am_iload_n 48 dJx4a65c_grow_92f84_48 rfl ?_
  refine am_max 49 dJx4a65c_grow_92f84_49 jJx4a65c_79 (by decide) (Nat.le_of_ble_eq_true rfl) ?_
  refine am_anewarray 52 (t := 8) (N := 10) (rc := 0) (rs := 0) dJx4a65c_grow_92f84_52 cJx4a65c_7 (by decide) rfl (by decide) (by decide) (by decide) ?_
  refine am_dup_x1 55 dJx4a65c_grow_92f84_55 rfl rfl ?_
  refine am_putfield 56 dJx4a65c_grow_92f84_56 pJx4a65c_9 (by repeat (first | assumption | exact am_ue | refine am_un (by first | assumption | decide | omega) ?_)) rfl rfl (Nat.le_of_ble_eq_true rfl) ?_
  exact am_areturn 59 dJx4a65c_grow_92f84_59 rfl (Or.inr ⟨_, rfl⟩) ⟨rfl, rfl, rfl⟩
theorem s_grow1 {k : Int32} (h : f l = .inr (13, [.int k, .ref 1, .int 0])) (hl : l < n) : AM mJx4a65c_grow_d5877 1 10 [.ref l] n f (fun o n' f' => o = .inl (some (.ref n)) ∧ n' = n + 1 ∧ f' = va_up (va_up f n (.inl (8, 10, .inr (.inr (.inr (.inr (fun _ => none))))))) l (.inr (13, [.int k, .ref n, .int 0]))) := by
  show AW mJx4a65c_grow_d5877 1 10 0 [some (.ref l)] [] n f _
  refine am_aload_n 0 dJx4a65c_grow_d5877_0 rfl ?_
  refine am_aload_n 1 dJx4a65c_grow_d5877_1 rfl ?_
  refine am_getfield 2 dJx4a65c_grow_d5877_2 fJx4a65c_48 (by repeat (first | assumption | exact am_ue | refine am_un (by first | assumption | decide | omega) ?_)) rfl ?_
  refine am_iconst 5 (v := 1) dJx4a65c_grow_d5877_5 (by decide) ?_
  refine am_iadd 6 dJx4a65c_grow_d5877_6 ?_
  refine am_V1 7 (mc' := 1) (ms' := 10) (rc := 0) (rs := 0) dJx4a65c_grow_d5877_7 lJx4a65c_69 ⟨by decide, by decide⟩ (by repeat (first | assumption | exact am_ue | refine am_un (by first | assumption | decide | omega) ?_)) (Nat.le_of_ble_eq_true rfl) (Nat.le_of_ble_eq_true rfl) (s_grow h hl) ?_
  rintro o n' f' ⟨rfl, rfl, rfl⟩
  refine am_ctI ?_
  exact am_areturn 10 dJx4a65c_grow_d5877_10 rfl (Or.inr ⟨_, rfl⟩) ⟨rfl, rfl, rfl⟩
theorem s_add3 {k : Int32} {a : Nat} {vs : List Value} (h : f l = .inr (13, [.int k, .ref 1, .int 0])) (hl : l < n) (ha : f a = .inr (8, vs)) (han : a < n) (hal : a ≠ l) : AM mJx4a65c_add_72be8 1 10 [.ref l, .ref a, .ref 1, .int 0] n f (fun o n' f' => o = .inl none ∧ n' = n + 1 ∧ f' l = .inr (13, [.int k, .ref n, .int 1]) ∧ ∀ x, x ≠ l → x < n → f' x = f x) := by
  show AW mJx4a65c_add_72be8 1 10 0 [some (.ref l), some (.ref a), some (.ref 1), some (.int 0)] [] n f _
  refine am_iload_n 0 dJx4a65c_add_72be8_0 rfl ?_
  refine am_aload_n 1 dJx4a65c_add_72be8_1 rfl ?_
  refine am_elen 2 dJx4a65c_add_72be8_2 ?_
  refine am_icmp_ne 3 11 dJx4a65c_add_72be8_3 rfl (fun c3 => absurd c3 (by decide)) (fun c3 => ?_)
  refine am_aload_n 6 dJx4a65c_add_72be8_6 rfl ?_
  refine am_V0 7 (mc' := 1) (ms' := 10) (rc := 0) (rs := 0) dJx4a65c_add_72be8_7 lJx4a65c_129 ⟨by decide, by decide⟩ (by repeat (first | assumption | exact am_ue | refine am_un (by first | assumption | decide | omega) ?_)) (Nat.le_of_ble_eq_true rfl) (Nat.le_of_ble_eq_true rfl) (s_grow1 h hl) ?_
  rintro o n' f' ⟨rfl, rfl, rfl⟩
  refine am_ctI ?_
  refine am_astore_n 10 dJx4a65c_add_72be8_10 (by decide) ?_
  refine am_aload_n 11 dJx4a65c_add_72be8_11 rfl ?_
  refine am_iload_n 12 dJx4a65c_add_72be8_12 rfl ?_
  refine am_aload_n 13 dJx4a65c_add_72be8_13 rfl ?_
  refine am_aastoreO 14 (t := 8) dJx4a65c_add_72be8_14 rfl (am_un (by omega) am_ue) (am_un hal (am_un (by omega) ha)) rfl foX8 (am_ix (c := 0) (by decide) (by decide)) ?_
  refine am_aload_n 15 dJx4a65c_add_72be8_15 rfl ?_
  refine am_iload_n 16 dJx4a65c_add_72be8_16 rfl ?_
  refine am_iconst 17 (v := 1) dJx4a65c_add_72be8_17 (by decide) ?_
  refine am_iadd 18 dJx4a65c_add_72be8_18 ?_
  refine am_putfield 19 dJx4a65c_add_72be8_19 pJx4a65c_48 (am_un (by omega) am_ue) rfl rfl (Nat.le_of_ble_eq_true rfl) ?_
  refine am_return 22 dJx4a65c_add_72be8_22 rfl ?_
  exact ⟨rfl, rfl, am_ue, fun x h1 h2 => by rw [am_up_ne h1, am_up_ne (by omega), am_up_ne h1, am_up_ne (by omega)]⟩
theorem s_add {a : Nat} {vs : List Value} (h : f l = .inr (13, [.int 0, .ref 1, .int 0])) (hl : l < n) (ha : f a = .inr (8, vs)) (han : a < n) (hal : a ≠ l) : AM mJx4a65c_add_9ea2d 1 10 [.ref l, .ref a] n f (fun o n' f' => o = .inl (some (.int 1)) ∧ n' = n + 1 ∧ f' l = .inr (13, [.int 1, .ref n, .int 1]) ∧ ∀ x, x ≠ l → x < n → f' x = f x) := by
  show AW mJx4a65c_add_9ea2d 1 10 0 [some (.ref l), some (.ref a)] [] n f _
  refine am_aload_n 0 dJx4a65c_add_9ea2d_0 rfl ?_
  refine am_dup 1 dJx4a65c_add_9ea2d_1 rfl ?_
  refine am_getfieldS 2 dJx4a65c_add_9ea2d_2 sJx4a65c_63 (by repeat (first | assumption | exact am_ue | refine am_un (by first | assumption | decide | omega) ?_)) rfl ?_
  refine am_iconst 5 (v := 1) dJx4a65c_add_9ea2d_5 (by decide) ?_
  refine am_iadd 6 dJx4a65c_add_9ea2d_6 ?_
  refine am_putfieldS 7 dJx4a65c_add_9ea2d_7 sJx4a65c_63 (by repeat (first | assumption | exact am_ue | refine am_un (by first | assumption | decide | omega) ?_)) rfl rfl (Nat.le_of_ble_eq_true rfl) ?_
  refine am_aload_n 10 dJx4a65c_add_9ea2d_10 rfl ?_
  refine am_aload_n 11 dJx4a65c_add_9ea2d_11 rfl ?_
  refine am_aload_n 12 dJx4a65c_add_9ea2d_12 rfl ?_
  refine am_getfield 13 dJx4a65c_add_9ea2d_13 fJx4a65c_9 (by repeat (first | assumption | exact am_ue | refine am_un (by first | assumption | decide | omega) ?_)) rfl ?_
  refine am_aload_n 16 dJx4a65c_add_9ea2d_16 rfl ?_
  refine am_getfield 17 dJx4a65c_add_9ea2d_17 fJx4a65c_48 (by repeat (first | assumption | exact am_ue | refine am_un (by first | assumption | decide | omega) ?_)) rfl ?_
  refine am_V3 20 (mc' := 1) (ms' := 10) (rc := 0) (rs := 0) dJx4a65c_add_9ea2d_20 lJx4a65c_131 ⟨by decide, by decide⟩ am_ue (Nat.le_of_ble_eq_true rfl) (Nat.le_of_ble_eq_true rfl) (s_add3 (k := 1) am_ue hl (am_un hal ha) han hal) ?_
  rintro o n' f' ⟨rfl, rfl, e1, e2⟩
  refine am_ctI ?_
  refine am_iconst 23 (v := 1) dJx4a65c_add_9ea2d_23 (by decide) ?_
  refine am_ireturn 24 dJx4a65c_add_9ea2d_24 rfl rfl ?_
  exact ⟨rfl, rfl, e1, fun x h1 h2 => (e2 x h1 h2).trans (am_up_ne h1)⟩
end Ref0
