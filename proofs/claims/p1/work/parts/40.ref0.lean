/-! ===== the reference: small methods, the list, the constructor ===== -/
section Ref0
variable {m l n : Nat} {f : Nat → am_C}
theorem s_isIn_t {v a b : Int32} (h1 : a ≤ v) (h2 : v ≤ b) : AM mX12_isIn 0 0 [.int v, .int a, .int b] n f (am_is (some (.int 1)) n f) := by
  show AW mX12_isIn 0 0 0 [some (.int v), some (.int a), some (.int b)] [] n f _
  refine am_iload_n 0 dX12_isIn_0 rfl ?_
  refine am_iload_n 1 dX12_isIn_1 rfl ?_
  refine am_icmp_lt 2 14 dX12_isIn_2 rfl (fun c2 => absurd c2 (Int32.not_lt.mpr h1)) (fun c2 => ?_)
  refine am_iload_n 5 dX12_isIn_5 rfl ?_
  refine am_iload_n 6 dX12_isIn_6 rfl ?_
  refine am_icmp_gt 7 14 dX12_isIn_7 rfl (fun c7 => absurd c7 (Int32.not_lt.mpr h2)) (fun c7 => ?_)
  refine am_iconst 10 (v := 1) dX12_isIn_10 (by decide) ?_
  refine am_goto 11 (tgt := 15) dX12_isIn_11 rfl ?_
  exact am_ireturn 15 dX12_isIn_15 rfl rfl ⟨rfl, rfl, rfl⟩
theorem s_isIn_f {v a b : Int32} (h : ¬ (a ≤ v ∧ v ≤ b)) : AM mX12_isIn 0 0 [.int v, .int a, .int b] n f (am_is (some (.int 0)) n f) := by
  show AW mX12_isIn 0 0 0 [some (.int v), some (.int a), some (.int b)] [] n f _
  refine am_iload_n 0 dX12_isIn_0 rfl ?_
  refine am_iload_n 1 dX12_isIn_1 rfl ?_
  refine am_icmp_lt 2 14 dX12_isIn_2 rfl (fun c2 => ?_) (fun c2 => ?_)
  · refine am_iconst 14 (v := 0) dX12_isIn_14 (by decide) ?_
    exact am_ireturn 15 dX12_isIn_15 rfl rfl ⟨rfl, rfl, rfl⟩
  · refine am_iload_n 5 dX12_isIn_5 rfl ?_
    refine am_iload_n 6 dX12_isIn_6 rfl ?_
    refine am_icmp_gt 7 14 dX12_isIn_7 rfl (fun c7 => ?_) (fun c7 => False.elim (h ⟨Int32.not_lt.mp c2, Int32.not_lt.mp c7⟩))
    refine am_iconst 14 (v := 0) dX12_isIn_14 (by decide) ?_
    exact am_ireturn 15 dX12_isIn_15 rfl rfl ⟨rfl, rfl, rfl⟩
theorem m_leP (N : Nat) {x v w : Int32} (hv : v = nI N) (hw : w = nI (N + 1)) (hN : N + 1 < 2 ^ 31) : x ≤ v ↔ ¬ w ≤ x := by
  subst hv
  subst hw
  rw [Int32.le_iff_toInt_le, Int32.le_iff_toInt_le, nI_toInt (by omega), nI_toInt hN]
  omega
theorem m_nI0 {k : Nat} (h : k < 2 ^ 31) : 0 ≤ nI k := Int32.not_lt.mp (nI_pos h)
theorem s_isGlass_t {j k : Nat} (hj : j < 8) (hk : k < 6) : AM mX12_isGlass 0 0 [.int (nI j), .int (nI k)] n f (am_is (some (.int 1)) n f) := by
  show AW mX12_isGlass 0 0 0 [some (.int (nI j)), some (.int (nI k))] [] n f _
  refine am_iload_n 0 dX12_isGlass_0 rfl ?_
  refine am_iconst 1 (v := 0) dX12_isGlass_1 (by decide) ?_
  refine am_bipush 2 (v := 7) dX12_isGlass_2 (by decide) ?_
  refine am_S3 4 (mc' := 0) (ms' := 0) (rc := 0) (rs := 0) dX12_isGlass_4 lX12_3 ⟨by decide, by decide⟩ (Nat.le_of_ble_eq_true rfl) (Nat.le_of_ble_eq_true rfl) (s_isIn_t (m_nI0 (by omega)) ((m_leP 7 rfl rfl (by decide)).mpr (nI_ge hj (by decide)))) ?_
  refine am_is_ct ?_
  refine am_if_eq 7 23 dX12_isGlass_7 rfl (fun c7 => absurd c7 (by decide)) (fun c7 => ?_)
  refine am_iload_n 10 dX12_isGlass_10 rfl ?_
  refine am_iconst 11 (v := 0) dX12_isGlass_11 (by decide) ?_
  refine am_iconst 12 (v := 5) dX12_isGlass_12 (by decide) ?_
  refine am_S3 13 (mc' := 0) (ms' := 0) (rc := 0) (rs := 0) dX12_isGlass_13 lX12_3 ⟨by decide, by decide⟩ (Nat.le_of_ble_eq_true rfl) (Nat.le_of_ble_eq_true rfl) (s_isIn_t (m_nI0 (by omega)) ((m_leP 5 rfl rfl (by decide)).mpr (nI_ge hk (by decide)))) ?_
  refine am_is_ct ?_
  refine am_if_eq 16 23 dX12_isGlass_16 rfl (fun c16 => absurd c16 (by decide)) (fun c16 => ?_)
  refine am_iconst 19 (v := 1) dX12_isGlass_19 (by decide) ?_
  refine am_goto 20 (tgt := 24) dX12_isGlass_20 rfl ?_
  exact am_ireturn 24 dX12_isGlass_24 rfl rfl ⟨rfl, rfl, rfl⟩
theorem s_isGlass_f {x y : Int32} (h : x < 0 ∨ 8 ≤ x ∨ y < 0 ∨ 6 ≤ y) : AM mX12_isGlass 0 0 [.int x, .int y] n f (am_is (some (.int 0)) n f) := by
  show AW mX12_isGlass 0 0 0 [some (.int x), some (.int y)] [] n f _
  by_cases hx : (0 : Int32) ≤ x ∧ x ≤ 7
  · have hy : ¬ ((0 : Int32) ≤ y ∧ y ≤ 5) := by
      rintro ⟨h1, h2⟩
      have h3 := (m_leP 7 rfl rfl (by decide)).mp hx.2
      have h4 := (m_leP 5 rfl rfl (by decide)).mp h2
      rcases h with h | h | h | h
      · exact Int32.not_lt.mpr hx.1 h
      · exact h3 h
      · exact Int32.not_lt.mpr h1 h
      · exact h4 h
    refine am_iload_n 0 dX12_isGlass_0 rfl ?_
    refine am_iconst 1 (v := 0) dX12_isGlass_1 (by decide) ?_
    refine am_bipush 2 (v := 7) dX12_isGlass_2 (by decide) ?_
    refine am_S3 4 (mc' := 0) (ms' := 0) (rc := 0) (rs := 0) dX12_isGlass_4 lX12_3 ⟨by decide, by decide⟩ (Nat.le_of_ble_eq_true rfl) (Nat.le_of_ble_eq_true rfl) (s_isIn_t hx.1 hx.2) ?_
    refine am_is_ct ?_
    refine am_if_eq 7 23 dX12_isGlass_7 rfl (fun c7 => absurd c7 (by decide)) (fun c7 => ?_)
    refine am_iload_n 10 dX12_isGlass_10 rfl ?_
    refine am_iconst 11 (v := 0) dX12_isGlass_11 (by decide) ?_
    refine am_iconst 12 (v := 5) dX12_isGlass_12 (by decide) ?_
    refine am_S3 13 (mc' := 0) (ms' := 0) (rc := 0) (rs := 0) dX12_isGlass_13 lX12_3 ⟨by decide, by decide⟩ (Nat.le_of_ble_eq_true rfl) (Nat.le_of_ble_eq_true rfl) (s_isIn_f hy) ?_
    refine am_is_ct ?_
    refine am_if_eq 16 23 dX12_isGlass_16 rfl (fun c16 => ?_) (fun c16 => absurd (by decide) c16)
    refine am_iconst 23 (v := 0) dX12_isGlass_23 (by decide) ?_
    exact am_ireturn 24 dX12_isGlass_24 rfl rfl ⟨rfl, rfl, rfl⟩
  · refine am_iload_n 0 dX12_isGlass_0 rfl ?_
    refine am_iconst 1 (v := 0) dX12_isGlass_1 (by decide) ?_
    refine am_bipush 2 (v := 7) dX12_isGlass_2 (by decide) ?_
    refine am_S3 4 (mc' := 0) (ms' := 0) (rc := 0) (rs := 0) dX12_isGlass_4 lX12_3 ⟨by decide, by decide⟩ (Nat.le_of_ble_eq_true rfl) (Nat.le_of_ble_eq_true rfl) (s_isIn_f hx) ?_
    refine am_is_ct ?_
    refine am_if_eq 7 23 dX12_isGlass_7 rfl (fun c7 => ?_) (fun c7 => absurd (by decide) c7)
    refine am_iconst 23 (v := 0) dX12_isGlass_23 (by decide) ?_
    exact am_ireturn 24 dX12_isGlass_24 rfl rfl ⟨rfl, rfl, rfl⟩
theorem s_cell {j k : Nat} : AM mX12_cell 0 0 [.int (nI j), .int (nI k)] n f (am_is (some (.int (nI (8 * k + j)))) n f) := by
  show AW mX12_cell 0 0 0 [some (.int (nI j)), some (.int (nI k))] [] n f _
  refine am_bipush 0 (v := 8) dX12_cell_0 (by decide) ?_
  refine am_iload_n 2 dX12_cell_2 rfl ?_
  refine am_imul 3 dX12_cell_3 ?_
  refine am_iload_n 4 dX12_cell_4 rfl ?_
  refine am_iadd 5 dX12_cell_5 ?_
  refine am_ireturn 6 dX12_cell_6 rfl rfl ?_
  exact ⟨by rw [show (8 : Int32) = nI 8 from rfl, pk_mul, nI_add], rfl, rfl⟩
def r_mo (m : Nat) (th : Int32) : am_C := .inr (12, [.int th, .ref (m + 1), .ref (m + 2), .int 0, .int 4, .int 12, .ref (m + 3), .ref (m + 4), .int 0, .int 0, .int 0, .int 0, .int 0])
def r_Mo (f : Nat → am_C) (m : Nat) (th : Int32) (w : Nat → Int32) : Prop := f m = r_mo m th ∧ f (m + 1) = .inl (0, 48, .inl (fun _ => 0)) ∧ f (m + 2) = .inl (0, 48, .inl w) ∧ f (m + 3) = .inl (7, 5, .inr (.inr (.inr (.inr (fun _ => none))))) ∧ f (m + 4) = .inr (13, [.int 0, .ref 1, .int 0])
theorem r_Mo.on {f' : Nat → am_C} {th : Int32} {w : Nat → Int32} (h : r_Mo f m th w) (e : ∀ x, m ≤ x → x ≤ m + 4 → f' x = f x) : r_Mo f' m th w := ⟨(e _ (by omega) (by omega)).trans h.1, (e _ (by omega) (by omega)).trans h.2.1, (e _ (by omega) (by omega)).trans h.2.2.1, (e _ (by omega) (by omega)).trans h.2.2.2.1, (e _ (by omega) (by omega)).trans h.2.2.2.2⟩
theorem r_Mo.th {th t2 : Int32} {w : Nat → Int32} (h : r_Mo f m th w) : r_Mo (va_up f m (r_mo m t2)) m t2 w := ⟨am_ue, am_un (by omega) h.2.1, am_un (by omega) h.2.2.1, am_un (by omega) h.2.2.2.1, am_un (by omega) h.2.2.2.2⟩
theorem s_thrown {th : Int32} {rest : List Value} (h : f m = .inr (12, .int th :: rest)) : AM mX12_thrown 0 0 [.ref m] n f (am_is (some (.int th)) n f) := by
  show AW mX12_thrown 0 0 0 [some (.ref m)] [] n f _
  refine am_aload_n 0 dX12_thrown_0 rfl ?_
  refine am_getfield 1 dX12_thrown_1 fX12_40 (by repeat (first | assumption | exact am_ue | refine am_un (by first | assumption | decide | omega) ?_)) rfl ?_
  exact am_ireturn 4 dX12_thrown_4 rfl rfl ⟨rfl, rfl, rfl⟩
theorem s_refuse (b : Bool) {w : Int32} (hw : 0 < w) (h : f m = r_mo m 0) : AM mX12_refuse 0 0 [.ref m, .int (m_bi b), .int w] n f (am_is (some (.int (m_bi b))) n (va_up f m (r_mo m (if b then w else 0)))) := by
  show AW mX12_refuse 0 0 0 [some (.ref m), some (.int (m_bi b)), some (.int w)] [] n f _
  unfold r_mo at h
  cases b
  · rw [show va_up f m (r_mo m (if false = true then w else 0)) = f from am_self h]
    refine am_iload_n 0 dX12_refuse_0 rfl ?_
    refine am_if_eq 1 16 dX12_refuse_1 rfl (fun c1 => ?_) (fun c1 => absurd (by decide) c1)
    refine am_aload_n 16 dX12_refuse_16 rfl ?_
    refine am_getfield 17 dX12_refuse_17 fX12_40 (by repeat (first | assumption | exact am_ue | refine am_un (by first | assumption | decide | omega) ?_)) rfl ?_
    refine am_if_le 20 27 dX12_refuse_20 rfl (fun c20 => ?_) (fun c20 => absurd (by decide) c20)
    refine am_iconst 27 (v := 0) dX12_refuse_27 (by decide) ?_
    exact am_ireturn 28 dX12_refuse_28 rfl rfl ⟨rfl, rfl, rfl⟩
  · have hx : va_up f m (r_mo m (if true = true then w else 0)) m = .inr (12, [.int w, .ref (m + 1), .ref (m + 2), .int 0, .int 4, .int 12, .ref (m + 3), .ref (m + 4), .int 0, .int 0, .int 0, .int 0, .int 0]) := am_ue
    refine am_iload_n 0 dX12_refuse_0 rfl ?_
    refine am_if_eq 1 16 dX12_refuse_1 rfl (fun c1 => absurd c1 (by decide)) (fun c1 => ?_)
    refine am_aload_n 4 dX12_refuse_4 rfl ?_
    refine am_getfield 5 dX12_refuse_5 fX12_40 (by repeat (first | assumption | exact am_ue | refine am_un (by first | assumption | decide | omega) ?_)) rfl ?_
    refine am_if_ne 8 16 dX12_refuse_8 rfl (fun c8 => absurd c8 (by decide)) (fun c8 => ?_)
    refine am_aload_n 11 dX12_refuse_11 rfl ?_
    refine am_iload_n 12 dX12_refuse_12 rfl ?_
    refine am_putfield 13 dX12_refuse_13 pX12_40 (by repeat (first | assumption | exact am_ue | refine am_un (by first | assumption | decide | omega) ?_)) rfl rfl (Nat.le_of_ble_eq_true rfl) ?_
    refine am_aload_n 16 dX12_refuse_16 rfl ?_
    refine am_getfield 17 dX12_refuse_17 fX12_40 (by repeat (first | assumption | exact am_ue | refine am_un (by first | assumption | decide | omega) ?_)) rfl ?_
    refine am_if_le 20 27 dX12_refuse_20 rfl (fun c20 => absurd c20 (Int32.not_le.mpr hw)) (fun c20 => ?_)
    refine am_iconst 23 (v := 1) dX12_refuse_23 (by decide) ?_
    refine am_goto 24 (tgt := 28) dX12_refuse_24 rfl ?_
    exact am_ireturn 28 dX12_refuse_28 rfl rfl ⟨rfl, rfl, rfl⟩
theorem s_start (b : Bool) {w th : Int32} (hw : 0 < w) (h : f m = r_mo m th) : AM mX12_start 0 0 [.ref m, .int (m_bi b), .int w] n f (am_is (some (.int (m_bi b))) n (va_up f m (r_mo m (if b then w else 0)))) := by
  show AW mX12_start 0 0 0 [some (.ref m), some (.int (m_bi b)), some (.int w)] [] n f _
  unfold r_mo at h
  have hr := s_refuse (n := n) (f := va_up f m (r_mo m 0)) (m := m) b hw am_ue
  rw [am_uu] at hr
  refine am_aload_n 0 dX12_start_0 rfl ?_
  refine am_iconst 1 (v := 0) dX12_start_1 (by decide) ?_
  refine am_putfield 2 dX12_start_2 pX12_40 (by repeat (first | assumption | exact am_ue | refine am_un (by first | assumption | decide | omega) ?_)) rfl rfl (Nat.le_of_ble_eq_true rfl) ?_
  rw [show List.set [Value.int th, .ref (m + 1), .ref (m + 2), .int 0, .int 4, .int 12, .ref (m + 3), .ref (m + 4), .int 0, .int 0, .int 0, .int 0, .int 0] 0 (.int 0) = [.int 0, .ref (m + 1), .ref (m + 2), .int 0, .int 4, .int 12, .ref (m + 3), .ref (m + 4), .int 0, .int 0, .int 0, .int 0, .int 0] from rfl]
  show AW mX12_start 0 0 5 [some (.ref m), some (.int (m_bi b)), some (.int w)] [] n (va_up f m (r_mo m 0)) _
  refine am_aload_n 5 dX12_start_5 rfl ?_
  refine am_iload_n 6 dX12_start_6 rfl ?_
  refine am_iload_n 7 dX12_start_7 rfl ?_
  refine am_V2 8 (mc' := 0) (ms' := 0) (rc := 0) (rs := 0) dX12_start_8 lX12_43 ⟨by decide, by decide⟩ am_ue (Nat.le_of_ble_eq_true rfl) (Nat.le_of_ble_eq_true rfl) (hr) ?_
  refine am_is_ct ?_
  exact am_ireturn 11 dX12_start_11 rfl (by cases b <;> rfl) ⟨rfl, rfl, rfl⟩
theorem s_charges {th : Int32} {w : Nat → Int32} (h : r_Mo f m th w) (hm : m + 4 < n) : AM mX12_charges 1 48 [.ref m] n f (fun o n' f' => o = .inl (some (.ref n)) ∧ n' = n + 1 ∧ f' = va_up f n (.inl (0, 48, .inl (fun k => 0 + w k)))) := by
  obtain ⟨h0, h1, h2, -⟩ := h
  unfold r_mo at h0
  show AW mX12_charges 1 48 0 [some (.ref m), none, none] [] n f _
  refine am_bipush 0 (v := 48) dX12_charges_0 (by decide) ?_
  refine am_newints 2 (t := 0) (N := 48) (rc := 0) (rs := 0) dX12_charges_2 ac_int rfl (by decide) (by decide) (by decide) ?_
  refine am_astore_n 4 dX12_charges_4 (by decide) ?_
  refine am_iconst 5 (v := 0) dX12_charges_5 (by decide) ?_
  refine am_istore_n 6 dX12_charges_6 (by decide) ?_
  refine am_for 48 (fun k (g : Nat → Int32) => ∀ x, x < k → g x = 0 + w x) (fun k g => AW mX12_charges 0 0 7 [some (.ref m), some (.ref n), some (.int (nI k))] [] (n + 1) (va_up f n (.inl (0, 48, .inl g))) _) ?_ ?_ 0 _ (by omega) (fun x hx => by omega)
  · intro g hg
    refine AW.ints (fun k => 0 + w k) am_ue hg ?_
    rw [am_uu]
    refine am_iload_n 7 dX12_charges_7 rfl ?_
    refine am_bipush 8 (v := 48) dX12_charges_8 (by decide) ?_
    refine am_icmp_ge 10 33 dX12_charges_10 rfl (fun c10 => ?_) (fun c10 => absurd (by decide) c10)
    refine am_aload_n 33 dX12_charges_33 rfl ?_
    exact am_areturn 34 dX12_charges_34 rfl (Or.inr ⟨_, rfl⟩) ⟨rfl, rfl, rfl⟩
  · intro k g hk hg ih
    refine am_iload_n 7 dX12_charges_7 rfl ?_
    refine am_bipush 8 (v := 48) dX12_charges_8 (by decide) ?_
    refine am_icmp_ge 10 33 dX12_charges_10 rfl (fun c10 => absurd c10 (nI_ge hk (by decide))) (fun c10 => ?_)
    refine am_aload_n 13 dX12_charges_13 rfl ?_
    refine am_iload_n 14 dX12_charges_14 rfl ?_
    refine am_aload_n 15 dX12_charges_15 rfl ?_
    refine am_getfield 16 dX12_charges_16 fX12_47 (by first | exact am_ue | exact am_un (by omega) h0 | exact am_un (by omega) h2) rfl ?_
    refine am_aload_n 19 dX12_charges_19 rfl ?_
    refine am_getfield 20 dX12_charges_20 fX12_17 (by first | exact am_ue | exact am_un (by omega) h0 | exact am_un (by omega) h2) rfl ?_
    refine am_iload_n 23 dX12_charges_23 rfl ?_
    refine am_iaload 24 dX12_charges_24 rfl (by first | exact am_ue | exact am_un (by omega) h0 | exact am_un (by omega) h2) (am_ix hk (by decide)) ?_
    rw [nI_clamp (n := k) (by omega)]
    refine am_iadd 25 dX12_charges_25 ?_
    refine am_iastore 26 dX12_charges_26 rfl (by first | exact am_ue | exact am_un (by omega) h0 | exact am_un (by omega) h2) (am_ix hk (by decide)) ?_
    rw [nI_clamp (n := k) (by omega), am_uu]
    refine am_iinc 27 (v := nI (k + 1)) dX12_charges_27 rfl (nI_1 (k)) (by decide) ?_
    refine am_goto 30 (tgt := 7) dX12_charges_30 rfl ?_
    refine ih _ (fun x hx => ?_)
    by_cases e : x = k
    · subst e; exact am_up_eq
    · rw [am_up_ne e]; exact hg x (by omega)
theorem s_isNone0 {x th : Int32} {w : Nat → Int32} (h : r_Mo f m th w) : AM mX12_isNone 0 0 [.ref m, .int x] n f (am_is (some (.int 1)) n f) := by
  obtain ⟨h0, h1, h2, h3, -⟩ := h
  unfold r_mo at h0
  show AW mX12_isNone 0 0 0 [some (.ref m), some (.int x)] [] n f _
  by_cases hx : (0 : Int32) ≤ x ∧ x ≤ 4
  · obtain ⟨k, hk, rfl⟩ := m_small_le 4 rfl (by decide) hx.1 hx.2
    refine am_iload_n 0 dX12_isNone_0 rfl ?_
    refine am_iconst 1 (v := 0) dX12_isNone_1 (by decide) ?_
    refine am_iconst 2 (v := 4) dX12_isNone_2 (by decide) ?_
    refine am_S3 3 (mc' := 0) (ms' := 0) (rc := 0) (rs := 0) dX12_isNone_3 lX12_3 ⟨by decide, by decide⟩ (Nat.le_of_ble_eq_true rfl) (Nat.le_of_ble_eq_true rfl) (s_isIn_t hx.1 hx.2) ?_
    refine am_is_ct ?_
    refine am_if_eq 6 18 dX12_isNone_6 rfl (fun c6 => absurd c6 (by decide)) (fun c6 => ?_)
    refine am_aload_n 9 dX12_isNone_9 rfl ?_
    refine am_getfield 10 dX12_isNone_10 fX12_29 (by repeat (first | assumption | exact am_ue | refine am_un (by first | assumption | decide | omega) ?_)) rfl ?_
    refine am_iload_n 13 dX12_isNone_13 rfl ?_
    refine am_aaload 14 dX12_isNone_14 rfl (by repeat (first | assumption | exact am_ue | refine am_un (by first | assumption | decide | omega) ?_)) (am_ix (show k < 5 by omega) (by decide)) ?_
    refine am_ifnonnullN 15 dX12_isNone_15 ?_
    refine am_iconst 18 (v := 1) dX12_isNone_18 (by decide) ?_
    refine am_goto 19 (tgt := 23) dX12_isNone_19 rfl ?_
    exact am_ireturn 23 dX12_isNone_23 rfl rfl ⟨rfl, rfl, rfl⟩
  · refine am_iload_n 0 dX12_isNone_0 rfl ?_
    refine am_iconst 1 (v := 0) dX12_isNone_1 (by decide) ?_
    refine am_iconst 2 (v := 4) dX12_isNone_2 (by decide) ?_
    refine am_S3 3 (mc' := 0) (ms' := 0) (rc := 0) (rs := 0) dX12_isNone_3 lX12_3 ⟨by decide, by decide⟩ (Nat.le_of_ble_eq_true rfl) (Nat.le_of_ble_eq_true rfl) (s_isIn_f hx) ?_
    refine am_is_ct ?_
    refine am_if_eq 6 18 dX12_isNone_6 rfl (fun c6 => ?_) (fun c6 => absurd (by decide) c6)
    refine am_iconst 18 (v := 1) dX12_isNone_18 (by decide) ?_
    refine am_goto 19 (tgt := 23) dX12_isNone_19 rfl ?_
    exact am_ireturn 23 dX12_isNone_23 rfl rfl ⟨rfl, rfl, rfl⟩
theorem s_contactsNow0 {th : Int32} {w : Nat → Int32} (h : r_Mo f m th w) : AM mX12_contactsNow 0 0 [.ref m] n f (am_is (some (.int 0)) n f) := by
  obtain ⟨h0, h1, h2, h3, -⟩ := h
  unfold r_mo at h0
  show AW mX12_contactsNow 0 0 0 [some (.ref m), none, none, none, none, none] [] n f _
  refine am_iconst 0 (v := 0) dX12_contactsNow_0 (by decide) ?_
  refine am_istore_n 1 dX12_contactsNow_1 (by decide) ?_
  refine am_aload_n 2 dX12_contactsNow_2 rfl ?_
  refine am_getfield 3 dX12_contactsNow_3 fX12_29 (by repeat (first | assumption | exact am_ue | refine am_un (by first | assumption | decide | omega) ?_)) rfl ?_
  refine am_astore_n 6 dX12_contactsNow_6 (by decide) ?_
  refine am_aload_n 7 dX12_contactsNow_7 rfl ?_
  refine am_arraylength 8 dX12_contactsNow_8 rfl (by repeat (first | assumption | exact am_ue | refine am_un (by first | assumption | decide | omega) ?_)) ?_
  refine am_istore_n 9 dX12_contactsNow_9 (by decide) ?_
  refine am_iconst 10 (v := 0) dX12_contactsNow_10 (by decide) ?_
  refine am_istore 11 dX12_contactsNow_11 (by decide) ?_
  refine am_for 5 (fun _ (_ : Option Value) => True) (fun k z => AW mX12_contactsNow 0 0 13 [some (.ref m), some (.int 0), some (.ref (m + 3)), some (.int (Int32.ofNat 5)), some (.int (nI k)), z] [] n f _) ?_ ?_ 0 _ (by omega) trivial
  · rintro z -
    refine am_iload 13 dX12_contactsNow_13 rfl ?_
    refine am_iload_n 15 dX12_contactsNow_15 rfl ?_
    refine am_icmp_ge 16 44 dX12_contactsNow_16 rfl (fun c16 => ?_) (fun c16 => absurd (by decide) c16)
    refine am_iload_n 44 dX12_contactsNow_44 rfl ?_
    exact am_ireturn 45 dX12_contactsNow_45 rfl rfl ⟨rfl, rfl, rfl⟩
  · rintro k z hk - ih
    refine am_iload 13 dX12_contactsNow_13 rfl ?_
    refine am_iload_n 15 dX12_contactsNow_15 rfl ?_
    refine am_icmp_ge 16 44 dX12_contactsNow_16 rfl (fun c16 => absurd c16 (nI_ge hk (by decide))) (fun c16 => ?_)
    refine am_aload_n 19 dX12_contactsNow_19 rfl ?_
    refine am_iload 20 dX12_contactsNow_20 rfl ?_
    refine am_aaload 22 dX12_contactsNow_22 rfl (by repeat (first | assumption | exact am_ue | refine am_un (by first | assumption | decide | omega) ?_)) (am_ix hk (by decide)) ?_
    refine am_astoreN 23 dX12_contactsNow_23 (by decide) ?_
    refine am_iload_n 25 dX12_contactsNow_25 rfl ?_
    refine am_aloadN 26 dX12_contactsNow_26 rfl ?_
    refine am_ifnonnullN 28 dX12_contactsNow_28 ?_
    refine am_iconst 31 (v := 0) dX12_contactsNow_31 (by decide) ?_
    refine am_goto 32 (tgt := 36) dX12_contactsNow_32 rfl ?_
    refine am_iadd 36 dX12_contactsNow_36 ?_
    rw [show (0 : Int32) + 0 = 0 from rfl]
    refine am_istore_n 37 dX12_contactsNow_37 (by decide) ?_
    refine am_iinc 38 (v := nI (k + 1)) dX12_contactsNow_38 rfl (nI_1 (k)) (by decide) ?_
    refine am_goto 41 (tgt := 13) dX12_contactsNow_41 rfl ?_
    exact ih _ trivial
theorem s_clean {th : Int32} {w : Nat → Int32} {r : List Value} (h0 : f m = .inr (12, .int th :: .ref (m + 1) :: .ref (m + 2) :: r)) (h2 : f (m + 2) = .inl (0, 48, .inl w)) : AM mX12_clean 0 0 [.ref m] n f (am_is none n (va_up f (m + 2) (.inl (0, 48, .inl (fun _ => 0))))) := by
  show AW mX12_clean 0 0 0 [some (.ref m), none] [] n f _
  refine am_iconst 0 (v := 0) dX12_clean_0 (by decide) ?_
  refine am_istore_n 1 dX12_clean_1 (by decide) ?_
  have hh := am_for 48 (fun k (g : Nat → Int32) => ∀ x, x < k → g x = 0) (fun k g => AW mX12_clean 0 0 2 [some (.ref m), some (.int (nI k))] [] n (va_up f (m + 2) (.inl (0, 48, .inl g))) (am_is none n (va_up f (m + 2) (.inl (0, 48, .inl (fun _ => 0)))))) ?_ ?_ 0 w (by omega) (fun x hx => by omega)
  · rw [am_self h2] at hh
    exact hh
  · intro g hg
    refine am_iload_n 2 dX12_clean_2 rfl ?_
    refine am_bipush 3 (v := 48) dX12_clean_3 (by decide) ?_
    refine am_icmp_ge 5 21 dX12_clean_5 rfl (fun c5 => ?_) (fun c5 => absurd (by decide) c5)
    refine AW.ints (fun _ => 0) am_ue hg ?_
    rw [am_uu]
    exact am_return 21 dX12_clean_21 rfl ⟨rfl, rfl, rfl⟩
  · intro k g hk hg ih
    refine am_iload_n 2 dX12_clean_2 rfl ?_
    refine am_bipush 3 (v := 48) dX12_clean_3 (by decide) ?_
    refine am_icmp_ge 5 21 dX12_clean_5 rfl (fun c5 => absurd c5 (nI_ge hk (by decide))) (fun c5 => ?_)
    refine am_aload_n 8 dX12_clean_8 rfl ?_
    refine am_getfield 9 dX12_clean_9 fX12_17 (by first | exact am_ue | exact am_un (by omega) h0) rfl ?_
    refine am_iload_n 12 dX12_clean_12 rfl ?_
    refine am_iconst 13 (v := 0) dX12_clean_13 (by decide) ?_
    refine am_iastore 14 dX12_clean_14 rfl (by first | exact am_ue | exact am_un (by omega) h0) (am_ix hk (by decide)) ?_
    rw [nI_clamp (n := k) (by omega), am_uu]
    refine am_iinc 15 (v := nI (k + 1)) dX12_clean_15 rfl (nI_1 (k)) (by decide) ?_
    refine am_goto 18 (tgt := 2) dX12_clean_18 rfl ?_
    refine ih _ (fun x hx => ?_)
    by_cases e : x = k
    · subst e; exact am_up_eq
    · rw [am_up_ne e]; exact hg x (by omega)
/-! ArrayList -/
theorem s_AC_init : AM mJxa1e45_init_da8c8 0 0 [.ref l] n f (am_is none n f) := by
  show AW mJxa1e45_init_da8c8 0 0 0 [some (.ref l)] [] n f _
  refine am_aload_n 0 dJxa1e45_init_da8c8_0 rfl ?_
  refine am_OI 1 dJxa1e45_init_da8c8_1 lJxa1e45_1 (by decide) (Nat.le_of_ble_eq_true rfl) ?_
  exact am_return 4 dJxa1e45_init_da8c8_4 rfl ⟨rfl, rfl, rfl⟩
theorem s_AB_init {e s : Value} (h : f l = .inr (13, [.int 0, e, s])) : AM mJxc12de_init_da8c8 0 0 [.ref l] n f (am_is none n f) := by
  show AW mJxc12de_init_da8c8 0 0 0 [some (.ref l)] [] n f _
  refine am_aload_n 0 dJxc12de_init_da8c8_0 rfl ?_
  refine am_I0 1 (mc' := 0) (ms' := 0) (rc := 0) (rs := 0) dJxc12de_init_da8c8_1 lJxc12de_1 ⟨by decide, by decide⟩ (Nat.le_of_ble_eq_true rfl) (Nat.le_of_ble_eq_true rfl) (s_AC_init) ?_
  rintro o n' f' ⟨rfl, rfl, rfl⟩
  refine ⟨_, rfl, ?_⟩
  refine am_aload_n 4 dJxc12de_init_da8c8_4 rfl ?_
  refine am_iconst 5 (v := 0) dJxc12de_init_da8c8_5 (by decide) ?_
  refine am_putfield 6 dJxc12de_init_da8c8_6 pJxc12de_7 (by repeat (first | assumption | exact am_ue | refine am_un (by first | assumption | decide | omega) ?_)) rfl rfl (Nat.le_of_ble_eq_true rfl) ?_
  rw [show List.set [Value.int 0, e, s] 0 (.int 0) = [.int 0, e, s] from rfl, am_self h]
  exact am_return 9 dJxc12de_init_da8c8_9 rfl ⟨rfl, rfl, rfl⟩
theorem s_AL_init (h : f l = .inr (13, [.int 0, .null, .int 0])) : AM mJx4a65c_init_da8c8 0 0 [.ref l] n f (am_is none n (va_up f l (.inr (13, [.int 0, .ref 1, .int 0])))) := by
  show AW mJx4a65c_init_da8c8 0 0 0 [some (.ref l)] [] n f _
  refine am_aload_n 0 dJx4a65c_init_da8c8_0 rfl ?_
  refine am_I0 1 (mc' := 0) (ms' := 0) (rc := 0) (rs := 0) dJx4a65c_init_da8c8_1 lJx4a65c_1 ⟨by decide, by decide⟩ (Nat.le_of_ble_eq_true rfl) (Nat.le_of_ble_eq_true rfl) (s_AB_init h) ?_
  rintro o n' f' ⟨rfl, rfl, rfl⟩
  refine ⟨_, rfl, ?_⟩
  refine am_aload_n 4 dJx4a65c_init_da8c8_4 rfl ?_
  refine am_getsE 5 dJx4a65c_init_da8c8_5 zJx4a65c_39 ?_
  refine am_putfield 8 dJx4a65c_init_da8c8_8 pJx4a65c_9 (by repeat (first | assumption | exact am_ue | refine am_un (by first | assumption | decide | omega) ?_)) rfl rfl (Nat.le_of_ble_eq_true rfl) ?_
  exact am_return 11 dJx4a65c_init_da8c8_11 rfl ⟨rfl, rfl, rfl⟩
theorem s_size {a b : Value} {k : Int32} (h : f l = .inr (13, [a, b, .int k])) : AM mJx4a65c_size_8abf5 0 0 [.ref l] n f (am_is (some (.int k)) n f) := by
  show AW mJx4a65c_size_8abf5 0 0 0 [some (.ref l)] [] n f _
  refine am_aload_n 0 dJx4a65c_size_8abf5_0 rfl ?_
  refine am_getfield 1 dJx4a65c_size_8abf5_1 fJx4a65c_48 (by repeat (first | assumption | exact am_ue | refine am_un (by first | assumption | decide | omega) ?_)) rfl ?_
  exact am_ireturn 4 dJx4a65c_size_8abf5_4 rfl rfl ⟨rfl, rfl, rfl⟩
theorem s_grow {k : Int32} (h : f l = .inr (13, [.int k, .ref 1, .int 0])) (hl : l < n) : AM mJx4a65c_grow_92f84 1 10 [.ref l, .int 1] n f (fun o n' f' => o = .inl (some (.ref n)) ∧ n' = n + 1 ∧ f' = va_up (va_up f n (.inl (8, 10, .inr (.inr (.inr (.inr (fun _ => none))))))) l (.inr (13, [.int k, .ref n, .int 0]))) := by
  show AW mJx4a65c_grow_92f84 1 10 0 [some (.ref l), some (.int 1), none, none] [] n f _
  refine am_aload_n 0 dJx4a65c_grow_92f84_0 rfl ?_
  refine am_getfield 1 dJx4a65c_grow_92f84_1 fJx4a65c_9 (by repeat (first | assumption | exact am_ue | refine am_un (by first | assumption | decide | omega) ?_)) rfl ?_
  refine am_elen 4 dJx4a65c_grow_92f84_4 ?_
  refine am_istore_n 5 dJx4a65c_grow_92f84_5 (by decide) ?_
  refine am_iload_n 6 dJx4a65c_grow_92f84_6 rfl ?_
  refine am_if_gt 7 20 dJx4a65c_grow_92f84_7 rfl (fun c7 => absurd c7 (by decide)) (fun c7 => ?_)
  refine am_aload_n 10 dJx4a65c_grow_92f84_10 rfl ?_
  refine am_getfield 11 dJx4a65c_grow_92f84_11 fJx4a65c_9 (by repeat (first | assumption | exact am_ue | refine am_un (by first | assumption | decide | omega) ?_)) rfl ?_
  refine am_getsE 14 dJx4a65c_grow_92f84_14 zJx4a65c_39 ?_
  refine am_acmpT 17 (tgt := 45) dJx4a65c_grow_92f84_17 rfl ?_
  refine am_aload_n 45 dJx4a65c_grow_92f84_45 rfl ?_
  refine am_bipush 46 (v := 10) dJx4a65c_grow_92f84_46 (by decide) ?_
  refine am_iload_n 48 dJx4a65c_grow_92f84_48 rfl ?_
  refine am_max 49 dJx4a65c_grow_92f84_49 jJx4a65c_79 (by decide) (Nat.le_of_ble_eq_true rfl) ?_
  refine am_anewarray 52 (t := 8) (N := 10) (rc := 0) (rs := 0) dJx4a65c_grow_92f84_52 cJx4a65c_7 (by decide) rfl (by decide) (by decide) (by decide) ?_
  refine am_dup_x1 55 dJx4a65c_grow_92f84_55 rfl rfl ?_
  refine am_putfield 56 dJx4a65c_grow_92f84_56 pJx4a65c_9 (by repeat (first | assumption | exact am_ue | refine am_un (by first | assumption | decide | omega) ?_)) rfl rfl (Nat.le_of_ble_eq_true rfl) ?_
  exact am_areturn 59 dJx4a65c_grow_92f84_59 rfl (Or.inr ⟨_, rfl⟩) ⟨rfl, rfl, rfl⟩
theorem s_grow1 {k : Int32} (h : f l = .inr (13, [.int k, .ref 1, .int 0])) (hl : l < n) : AM mJx4a65c_grow_d5877 1 10 [.ref l] n f (fun o n' f' => o = .inl (some (.ref n)) ∧ n' = n + 1 ∧ f' = va_up (va_up f n (.inl (8, 10, .inr (.inr (.inr (.inr (fun _ => none))))))) l (.inr (13, [.int k, .ref n, .int 0]))) := by
  show AW mJx4a65c_grow_d5877 1 10 0 [some (.ref l)] [] n f _
  refine am_aload_n 0 dJx4a65c_grow_d5877_0 rfl ?_
  refine am_aload_n 1 dJx4a65c_grow_d5877_1 rfl ?_
  refine am_getfield 2 dJx4a65c_grow_d5877_2 fJx4a65c_48 (by repeat (first | assumption | exact am_ue | refine am_un (by first | assumption | decide | omega) ?_)) rfl ?_
  refine am_iconst 5 (v := 1) dJx4a65c_grow_d5877_5 (by decide) ?_
  refine am_iadd 6 dJx4a65c_grow_d5877_6 ?_
  refine am_V1 7 (mc' := 1) (ms' := 10) (rc := 0) (rs := 0) dJx4a65c_grow_d5877_7 lJx4a65c_69 ⟨by decide, by decide⟩ (by repeat (first | assumption | exact am_ue | refine am_un (by first | assumption | decide | omega) ?_)) (Nat.le_of_ble_eq_true rfl) (Nat.le_of_ble_eq_true rfl) (s_grow h hl) ?_
  rintro o n' f' ⟨rfl, rfl, rfl⟩
  refine am_ct_in ?_
  exact am_areturn 10 dJx4a65c_grow_d5877_10 rfl (Or.inr ⟨_, rfl⟩) ⟨rfl, rfl, rfl⟩
theorem s_add3 {k : Int32} {a : Nat} {vs : List Value} (h : f l = .inr (13, [.int k, .ref 1, .int 0])) (hl : l < n) (ha : f a = .inr (8, vs)) (han : a < n) (hal : a ≠ l) : AM mJx4a65c_add_72be8 1 10 [.ref l, .ref a, .ref 1, .int 0] n f (fun o n' f' => o = .inl none ∧ n' = n + 1 ∧ f' l = .inr (13, [.int k, .ref n, .int 1]) ∧ ∀ x, x ≠ l → x < n → f' x = f x) := by
  show AW mJx4a65c_add_72be8 1 10 0 [some (.ref l), some (.ref a), some (.ref 1), some (.int 0)] [] n f _
  refine am_iload_n 0 dJx4a65c_add_72be8_0 rfl ?_
  refine am_aload_n 1 dJx4a65c_add_72be8_1 rfl ?_
  refine am_elen 2 dJx4a65c_add_72be8_2 ?_
  refine am_icmp_ne 3 11 dJx4a65c_add_72be8_3 rfl (fun c3 => absurd c3 (by decide)) (fun c3 => ?_)
  refine am_aload_n 6 dJx4a65c_add_72be8_6 rfl ?_
  refine am_V0 7 (mc' := 1) (ms' := 10) (rc := 0) (rs := 0) dJx4a65c_add_72be8_7 lJx4a65c_129 ⟨by decide, by decide⟩ (by repeat (first | assumption | exact am_ue | refine am_un (by first | assumption | decide | omega) ?_)) (Nat.le_of_ble_eq_true rfl) (Nat.le_of_ble_eq_true rfl) (s_grow1 h hl) ?_
  rintro o n' f' ⟨rfl, rfl, rfl⟩
  refine am_ct_in ?_
  refine am_astore_n 10 dJx4a65c_add_72be8_10 (by decide) ?_
  refine am_aload_n 11 dJx4a65c_add_72be8_11 rfl ?_
  refine am_iload_n 12 dJx4a65c_add_72be8_12 rfl ?_
  refine am_aload_n 13 dJx4a65c_add_72be8_13 rfl ?_
  refine am_aastoreO 14 (t := 8) dJx4a65c_add_72be8_14 rfl (am_un (by omega) am_ue) (am_un hal (am_un (by omega) ha)) rfl foX8 (am_ix (c := 0) (by decide) (by decide)) ?_
  refine am_aload_n 15 dJx4a65c_add_72be8_15 rfl ?_
  refine am_iload_n 16 dJx4a65c_add_72be8_16 rfl ?_
  refine am_iconst 17 (v := 1) dJx4a65c_add_72be8_17 (by decide) ?_
  refine am_iadd 18 dJx4a65c_add_72be8_18 ?_
  refine am_putfield 19 dJx4a65c_add_72be8_19 pJx4a65c_48 (am_un (by omega) am_ue) rfl rfl (Nat.le_of_ble_eq_true rfl) ?_
  refine am_return 22 dJx4a65c_add_72be8_22 rfl ?_
  exact ⟨rfl, rfl, am_ue, fun x h1 h2 => by rw [am_up_ne h1, am_up_ne (by omega), am_up_ne h1, am_up_ne (by omega)]⟩
theorem s_add {a : Nat} {vs : List Value} (h : f l = .inr (13, [.int 0, .ref 1, .int 0])) (hl : l < n) (ha : f a = .inr (8, vs)) (han : a < n) (hal : a ≠ l) : AM mJx4a65c_add_9ea2d 1 10 [.ref l, .ref a] n f (fun o n' f' => o = .inl (some (.int 1)) ∧ n' = n + 1 ∧ f' l = .inr (13, [.int 1, .ref n, .int 1]) ∧ ∀ x, x ≠ l → x < n → f' x = f x) := by
  show AW mJx4a65c_add_9ea2d 1 10 0 [some (.ref l), some (.ref a)] [] n f _
  refine am_aload_n 0 dJx4a65c_add_9ea2d_0 rfl ?_
  refine am_dup 1 dJx4a65c_add_9ea2d_1 rfl ?_
  refine am_getfieldS 2 dJx4a65c_add_9ea2d_2 sJx4a65c_63 (by repeat (first | assumption | exact am_ue | refine am_un (by first | assumption | decide | omega) ?_)) rfl ?_
  refine am_iconst 5 (v := 1) dJx4a65c_add_9ea2d_5 (by decide) ?_
  refine am_iadd 6 dJx4a65c_add_9ea2d_6 ?_
  refine am_putfieldS 7 dJx4a65c_add_9ea2d_7 sJx4a65c_63 (by repeat (first | assumption | exact am_ue | refine am_un (by first | assumption | decide | omega) ?_)) rfl rfl (Nat.le_of_ble_eq_true rfl) ?_
  refine am_aload_n 10 dJx4a65c_add_9ea2d_10 rfl ?_
  refine am_aload_n 11 dJx4a65c_add_9ea2d_11 rfl ?_
  refine am_aload_n 12 dJx4a65c_add_9ea2d_12 rfl ?_
  refine am_getfield 13 dJx4a65c_add_9ea2d_13 fJx4a65c_9 (by repeat (first | assumption | exact am_ue | refine am_un (by first | assumption | decide | omega) ?_)) rfl ?_
  refine am_aload_n 16 dJx4a65c_add_9ea2d_16 rfl ?_
  refine am_getfield 17 dJx4a65c_add_9ea2d_17 fJx4a65c_48 (by repeat (first | assumption | exact am_ue | refine am_un (by first | assumption | decide | omega) ?_)) rfl ?_
  refine am_V3 20 (mc' := 1) (ms' := 10) (rc := 0) (rs := 0) dJx4a65c_add_9ea2d_20 lJx4a65c_131 ⟨by decide, by decide⟩ am_ue (Nat.le_of_ble_eq_true rfl) (Nat.le_of_ble_eq_true rfl) (s_add3 (k := 1) am_ue hl (am_un hal ha) han hal) ?_
  rintro o n' f' ⟨rfl, rfl, e1, e2⟩
  refine am_ct_in ?_
  refine am_iconst 23 (v := 1) dJx4a65c_add_9ea2d_23 (by decide) ?_
  refine am_ireturn 24 dJx4a65c_add_9ea2d_24 rfl rfl ?_
  exact ⟨rfl, rfl, e1, fun x h1 h2 => (e2 x h1 h2).trans (am_up_ne h1)⟩
theorem s_mArea_init {x y z w : Int32} {i : Nat} (h0 : f i = .inr (8, [.int 0, .int 0, .int 0, .int 0, .null])) : AM mX8_init 1 4 [.ref i, .int x, .int y, .int z, .int w] (i + 1) f (fun o n' f' => o = .inl none ∧ n' = i + 2 ∧ (∃ vs, f' i = .inr (8, vs)) ∧ ∀ x, x < i → f' x = f x) := by
  show AW mX8_init 1 4 0 [some (.ref i), some (.int x), some (.int y), some (.int z), some (.int w)] [] (i + 1) f _
  refine am_aload_n 0 dX8_init_0 rfl ?_
  refine am_OI 1 dX8_init_1 lX8_1 (by decide) (Nat.le_of_ble_eq_true rfl) ?_
  refine am_aload_n 4 dX8_init_4 rfl ?_
  refine am_iconst 5 (v := 4) dX8_init_5 (by decide) ?_
  refine am_newints 6 (t := 0) (N := 4) (rc := 0) (rs := 0) dX8_init_6 ac_int rfl (by decide) (by decide) (by decide) ?_
  refine am_putfinal 8 dX8_init_8 rfl qX8_7 (by repeat (first | assumption | exact am_ue | refine am_un (by first | assumption | decide | omega) ?_)) rfl rfl (Nat.le_of_ble_eq_true rfl) ?_
  refine am_aload_n 11 dX8_init_11 rfl ?_
  refine am_iload_n 12 dX8_init_12 rfl ?_
  refine am_putfinal 13 dX8_init_13 rfl qX8_13 (by repeat (first | assumption | exact am_ue | refine am_un (by first | assumption | decide | omega) ?_)) rfl rfl (Nat.le_of_ble_eq_true rfl) ?_
  refine am_aload_n 16 dX8_init_16 rfl ?_
  refine am_iload_n 17 dX8_init_17 rfl ?_
  refine am_putfinal 18 dX8_init_18 rfl qX8_17 (by repeat (first | assumption | exact am_ue | refine am_un (by first | assumption | decide | omega) ?_)) rfl rfl (Nat.le_of_ble_eq_true rfl) ?_
  refine am_aload_n 21 dX8_init_21 rfl ?_
  refine am_iload_n 22 dX8_init_22 rfl ?_
  refine am_putfinal 23 dX8_init_23 rfl qX8_20 (by repeat (first | assumption | exact am_ue | refine am_un (by first | assumption | decide | omega) ?_)) rfl rfl (Nat.le_of_ble_eq_true rfl) ?_
  refine am_aload_n 26 dX8_init_26 rfl ?_
  refine am_iload 27 dX8_init_27 rfl ?_
  refine am_putfinal 29 dX8_init_29 rfl qX8_23 (by repeat (first | assumption | exact am_ue | refine am_un (by first | assumption | decide | omega) ?_)) rfl rfl (Nat.le_of_ble_eq_true rfl) ?_
  refine am_return 32 dX8_init_32 rfl ?_
  exact ⟨rfl, rfl, ⟨_, am_ue⟩, fun x hx => by repeat rw [am_up_ne (by omega)]⟩
theorem s_Model_init (h0 : f m = .inr (12, [.int 0, .null, .null, .int 0, .int 0, .int 0, .null, .null, .int 0, .int 0, .int 0, .int 0, .int 0])) : AM mX12_init 4 104 [.ref m] (m + 1) f (fun o n' f' => o = .inl none ∧ n' = m + 5 ∧ r_Mo f' m 0 (fun _ => 0) ∧ ∀ x, x < m → f' x = f x) := by
  show AW mX12_init 4 104 0 [some (.ref m)] [] (m + 1) f _
  refine am_aload_n 0 dX12_init_0 rfl ?_
  refine am_OI 1 dX12_init_1 lX12_7 (by decide) (Nat.le_of_ble_eq_true rfl) ?_
  refine am_aload_n 4 dX12_init_4 rfl ?_
  refine am_bipush 5 (v := 48) dX12_init_5 (by decide) ?_
  refine am_newints 7 (t := 0) (N := 48) (rc := 3) (rs := 56) dX12_init_7 ac_int rfl (by decide) (by decide) (by decide) ?_
  refine am_putfinal 9 dX12_init_9 rfl qX12_13 (by repeat (first | assumption | exact am_ue | refine am_un (by first | assumption | decide | omega) ?_)) rfl rfl (Nat.le_of_ble_eq_true rfl) ?_
  refine am_aload_n 12 dX12_init_12 rfl ?_
  refine am_bipush 13 (v := 48) dX12_init_13 (by decide) ?_
  refine am_newints 15 (t := 0) (N := 48) (rc := 2) (rs := 8) dX12_init_15 ac_int rfl (by decide) (by decide) (by decide) ?_
  refine am_putfinal 17 dX12_init_17 rfl qX12_17 (by repeat (first | assumption | exact am_ue | refine am_un (by first | assumption | decide | omega) ?_)) rfl rfl (Nat.le_of_ble_eq_true rfl) ?_
  refine am_aload_n 20 dX12_init_20 rfl ?_
  refine am_iconst 21 (v := 4) dX12_init_21 (by decide) ?_
  refine am_putfield 22 dX12_init_22 pX12_20 (by repeat (first | assumption | exact am_ue | refine am_un (by first | assumption | decide | omega) ?_)) rfl rfl (Nat.le_of_ble_eq_true rfl) ?_
  refine am_aload_n 25 dX12_init_25 rfl ?_
  refine am_bipush 26 (v := 12) dX12_init_26 (by decide) ?_
  refine am_putfield 28 dX12_init_28 pX12_24 (by repeat (first | assumption | exact am_ue | refine am_un (by first | assumption | decide | omega) ?_)) rfl rfl (Nat.le_of_ble_eq_true rfl) ?_
  refine am_aload_n 31 dX12_init_31 rfl ?_
  refine am_iconst 32 (v := 5) dX12_init_32 (by decide) ?_
  refine am_anewarray 33 (t := 7) (N := 5) (rc := 1) (rs := 3) dX12_init_33 cX12_27 (by decide) rfl (by decide) (by decide) (by decide) ?_
  refine am_putfinal 36 dX12_init_36 rfl qX12_29 (by repeat (first | assumption | exact am_ue | refine am_un (by first | assumption | decide | omega) ?_)) rfl rfl (Nat.le_of_ble_eq_true rfl) ?_
  refine am_aload_n 39 dX12_init_39 rfl ?_
  refine am_new 40 (rc := 0) (rs := 0) (N := 3) dX12_init_40 nX12_33 ?_
  refine am_dup 43 dX12_init_43 rfl ?_
  refine am_I0 44 (mc' := 0) (ms' := 0) (rc := 0) (rs := 0) dX12_init_44 lX12_35 ⟨by decide, by decide⟩ (Nat.le_of_ble_eq_true rfl) (Nat.le_of_ble_eq_true rfl) (s_AL_init am_ue) ?_
  rintro o n' f' ⟨rfl, rfl, rfl⟩
  refine ⟨_, rfl, ?_⟩
  refine am_putfinal 47 dX12_init_47 rfl qX12_36 (by repeat (first | assumption | exact am_ue | refine am_un (by first | assumption | decide | omega) ?_)) rfl rfl (Nat.le_of_ble_eq_true rfl) ?_
  refine am_return 50 dX12_init_50 rfl ?_
  refine ⟨rfl, rfl, ⟨am_ue, ?_, ?_, ?_, ?_⟩, fun x hx => by repeat rw [am_up_ne (by omega)]⟩
  all_goals repeat (first | exact am_ue | refine am_un (by omega) ?_)
end Ref0
