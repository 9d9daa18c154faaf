/-! ===== the reference's search, walked: it finds the least of all ways ===== -/
section XGo
variable {m n v u t P : Nat} {f : Nat → am_C} {cs : Nat → Option Nat} {xs ys : Nat → Int32} {nw bs : Nat → Int32} {mo le : Int32} {PX PY X Y : Nat → Nat} {e : Nat → Nat}
def x_dist (PX PY X Y : Nat → Nat) (j k : Nat) : Nat := x_sq (PX k) (X j) + x_sq (PY k) (Y j)
def x_may (cs : Nat → Option Nat) (PX PY X Y : Nat → Nat) (j k : Nat) : Prop := cs j ≠ none ∧ x_dist PX PY X Y j k ≤ 256
theorem x_may_le : ∀ j k, j < 5 → x_may cs PX PY X Y j k → x_dist PX PY X Y j k ≤ 256 := fun _ _ _ h => h.2
theorem x_sq57 : ∀ a, a < 57 → ∀ b, b < 57 → (nI a - nI b) * (nI a - nI b) = nI (x_sq a b) ∧ x_sq a b ≤ 3136 := by decide +kernel
/-- what the search reads -/
def x_Mt (f : Nat → am_C) (t v m P : Nat) (cs : Nat → Option Nat) (xs ys : Nat → Int32) (PX PY X Y : Nat → Nat) : Prop := (v < t ∧ m + 3 < t ∧ P ≤ 48) ∧ (∃ a b c, f v = .inr (11, [a, b, c, .int (nI P)])) ∧ (∃ a0 a1 a2 a3 a4 a5 r, f m = .inr (12, a0 :: a1 :: a2 :: a3 :: a4 :: a5 :: .ref (m + 3) :: r)) ∧ f (m + 3) = .inl (7, 5, .inr (.inr (.inr (.inr cs)))) ∧ f (t + 3) = .inl (0, P, .inl xs) ∧ f (t + 4) = .inl (0, P, .inl ys) ∧ (∀ k, k < P → xs k = nI (PX k) ∧ ys k = nI (PY k) ∧ PX k ≤ 56 ∧ PY k ≤ 56) ∧ ∀ j, j < 5 → ∀ c, cs j = some c → c < t ∧ X j ≤ 56 ∧ Y j ≤ 56 ∧ ∃ ap κ, f c = .inr (9, r_kF ap κ) ∧ κ.1 2 = nI (X j) ∧ κ.1 3 = nI (Y j)
/-- where it ends: all ways that begin so have been tried -/
def x_gQ (f : Nat → am_C) (t v m P n name D : Nat) (nw : Nat → Int32) (far : Nat → Nat → Nat) (ok : Nat → Nat → Prop) : am_P := fun o n' f' => ∃ (nw' bs' : Nat → Int32) (mo' le' : Int32), o = .inl none ∧ n = n' ∧ f' = r_gp f t v m nw' bs' mo' le' ∧ (∀ j, j < name → nw' j = nw j) ∧ x_st far ok P D mo' le' bs'
theorem s_xgo5 {l : Int64} {pa su : Int32} (hM : x_Mt f t v m P cs xs ys PX PY X Y) (hv : x_pv (x_may cs PX PY X Y) P 5 e) (hnw : ∀ j, j < 5 → nw j = x_dg (e j)) (hpa : pa = nI (x_np e 5)) (hsu : su = nI (x_ns (x_dist PX PY X Y) e 5)) (hst : x_st (x_dist PX PY X Y) (x_may cs PX PY X Y) P (x_pre e 5) mo le bs) : AM mgo5 0 0 [.ref t, .int 5, .long l, .int pa, .int su] n (r_gp f t v m nw bs mo le) (x_gQ f t v m P n 5 (x_pre e 5 + 1) nw (x_dist PX PY X Y) (x_may cs PX PY X Y)) := by
  have hP : P ≤ 63 := by have := hM.1.2.2; omega
  have he : x_val (x_may cs PX PY X Y) P e := ⟨hv.1, hv.2⟩
  rw [x_pre5] at hst ⊢
  subst hpa
  subst hsu
  generalize hQ : x_gQ f t v m P n 5 (x_lo e + 1) nw (x_dist PX PY X Y) (x_may cs PX PY X Y) = Q
  have no : (nI (x_np e 5) < mo ∨ (nI (x_np e 5) = mo ∧ le ≤ nI (x_ns (x_dist PX PY X Y) e 5))) → Q (.inl none) n (r_gp f t v m nw bs mo le) := fun h => by
    rw [← hQ]
    exact ⟨nw, bs, mo, le, rfl, rfl, rfl, fun _ _ => rfl, x_leaf_no hP x_may_le hst he h⟩
  show AW mgo5 0 0 0 [some (.ref t), some (.int 5), some (.long l), none, some (.int (nI (x_np e 5))), some (.int (nI (x_ns (x_dist PX PY X Y) e 5))), none, none] [] n _ Q
  have h33 : ¬ nI (x_np e 5) < mo → (nI (x_np e 5) = mo → ¬ le ≤ nI (x_ns (x_dist PX PY X Y) e 5)) → AW mgo5 0 0 33 [some (.ref t), some (.int 5), some (.long l), none, some (.int (nI (x_np e 5))), some (.int (nI (x_ns (x_dist PX PY X Y) e 5))), none, none] [] n (r_gp f t v m nw bs mo le) Q := by
    intro h1 h2
    have fin := fun bs' hb => x_leaf_yes (bs' := bs') hP x_may_le hst he h1 h2 hb
    generalize nI (x_np e 5) = pa at fin
    generalize nI (x_ns (x_dist PX PY X Y) e 5) = su at fin
    refine am_aload_n 33 dX10_go_33 rfl ?_
    refine am_iload 34 dX10_go_34 rfl ?_
    refine am_putfield 36 dX10_go_36 pX10_19 (by first | exact r_g0 | exact r_g1 | exact r_g2 | exact hgx0 | exact hgx1 | exact hgx2 | exact hgx3 | exact hgx4 | assumption) rfl rfl (Nat.le_of_ble_eq_true rfl) ?_
    rw [show List.set [Value.ref v, .ref (t + 3), .ref (t + 4), .ref (t + 1), .int mo, .int le, .ref (t + 2), .ref m] 4 (.int pa) = [.ref v, .ref (t + 3), .ref (t + 4), .ref (t + 1), .int pa, .int le, .ref (t + 2), .ref m] from rfl, r_gu0]
    refine am_aload_n 39 dX10_go_39 rfl ?_
    refine am_iload 40 dX10_go_40 rfl ?_
    refine am_putfield 42 dX10_go_42 pX10_52 (by first | exact r_g0 | exact r_g1 | exact r_g2 | exact hgx0 | exact hgx1 | exact hgx2 | exact hgx3 | exact hgx4 | assumption) rfl rfl (Nat.le_of_ble_eq_true rfl) ?_
    rw [show List.set [Value.ref v, .ref (t + 3), .ref (t + 4), .ref (t + 1), .int pa, .int le, .ref (t + 2), .ref m] 5 (.int su) = [.ref v, .ref (t + 3), .ref (t + 4), .ref (t + 1), .int pa, .int su, .ref (t + 2), .ref m] from rfl, r_gu0]
    refine am_aload_n 45 dX10_go_45 rfl ?_
    refine am_getfield 46 dX10_go_46 fX10_15 (by first | exact r_g0 | exact r_g1 | exact r_g2 | exact hgx0 | exact hgx1 | exact hgx2 | exact hgx3 | exact hgx4 | assumption) rfl ?_
    refine am_iconst 49 (v := 0) dX10_go_49 (by decide) ?_
    refine am_aload_n 50 dX10_go_50 rfl ?_
    refine am_getfield 51 dX10_go_51 fX10_23 (by first | exact r_g0 | exact r_g1 | exact r_g2 | exact hgx0 | exact hgx1 | exact hgx2 | exact hgx3 | exact hgx4 | assumption) rfl ?_
    refine am_iconst 54 (v := 0) dX10_go_54 (by decide) ?_
    refine am_iconst 55 (v := 5) dX10_go_55 (by decide) ?_
    refine am_acopy 56 dX10_go_56 vX10_55 rfl r_g1 r_g2 (by decide) (by decide) (by decide) (by decide) (by decide) (by decide) (by decide) ?_
    rw [r_gu2]
    refine am_return 59 dX10_go_59 rfl ?_
    subst hQ
    refine ⟨_, _, _, _, rfl, rfl, rfl, fun _ _ => rfl, fin _ fun j hj => ?_⟩
    have hj2 : j = 0 ∨ j = 1 ∨ j = 2 ∨ j = 3 ∨ j = 4 := by omega
    rcases hj2 with rfl | rfl | rfl | rfl | rfl
    · exact hnw 0 (by decide)
    · exact hnw 1 (by decide)
    · exact hnw 2 (by decide)
    · exact hnw 3 (by decide)
    · exact hnw 4 (by decide)
  by_cases a1 : nI (x_np e 5) < mo
  · refine am_iload_n 0 dX10_go_0 rfl ?_
    refine am_iconst 1 (v := 5) dX10_go_1 (by decide) ?_
    refine am_icmp_ne 2 60 dX10_go_2 rfl (fun c2 => absurd c2 (by decide)) (fun c2 => ?_)
    refine am_iload 5 dX10_go_5 rfl ?_
    refine am_aload_n 7 dX10_go_7 rfl ?_
    refine am_getfield 8 dX10_go_8 fX10_19 (by first | exact r_g0 | exact r_g1 | exact r_g2 | exact hgx0 | exact hgx1 | exact hgx2 | exact hgx3 | exact hgx4 | assumption) rfl ?_
    refine am_icmp_lt 11 32 dX10_go_11 rfl (fun c11 => ?_) (fun c11 => absurd a1 c11)
    refine am_return 32 dX10_go_32 rfl ?_
    exact no (Or.inl a1)
  by_cases a2 : nI (x_np e 5) = mo
  · by_cases a3 : le ≤ nI (x_ns (x_dist PX PY X Y) e 5)
    · have a4 : ¬ nI (x_ns (x_dist PX PY X Y) e 5) < le := Int32.not_lt.mpr a3
      refine am_iload_n 0 dX10_go_0 rfl ?_
      refine am_iconst 1 (v := 5) dX10_go_1 (by decide) ?_
      refine am_icmp_ne 2 60 dX10_go_2 rfl (fun c2 => absurd c2 (by decide)) (fun c2 => ?_)
      refine am_iload 5 dX10_go_5 rfl ?_
      refine am_aload_n 7 dX10_go_7 rfl ?_
      refine am_getfield 8 dX10_go_8 fX10_19 (by first | exact r_g0 | exact r_g1 | exact r_g2 | exact hgx0 | exact hgx1 | exact hgx2 | exact hgx3 | exact hgx4 | assumption) rfl ?_
      refine am_icmp_lt 11 32 dX10_go_11 rfl (fun c11 => absurd c11 a1) (fun c11 => ?_)
      refine am_iload 14 dX10_go_14 rfl ?_
      refine am_aload_n 16 dX10_go_16 rfl ?_
      refine am_getfield 17 dX10_go_17 fX10_19 (by first | exact r_g0 | exact r_g1 | exact r_g2 | exact hgx0 | exact hgx1 | exact hgx2 | exact hgx3 | exact hgx4 | assumption) rfl ?_
      refine am_icmp_ne 20 33 dX10_go_20 rfl (fun c20 => absurd c20 (fun q => q a2)) (fun c20 => ?_)
      refine am_iload 23 dX10_go_23 rfl ?_
      refine am_aload_n 25 dX10_go_25 rfl ?_
      refine am_getfield 26 dX10_go_26 fX10_52 (by first | exact r_g0 | exact r_g1 | exact r_g2 | exact hgx0 | exact hgx1 | exact hgx2 | exact hgx3 | exact hgx4 | assumption) rfl ?_
      refine am_icmp_lt 29 33 dX10_go_29 rfl (fun c29 => absurd c29 a4) (fun c29 => ?_)
      refine am_return 32 dX10_go_32 rfl ?_
      exact no (Or.inr ⟨a2, a3⟩)
    · have a4 : nI (x_ns (x_dist PX PY X Y) e 5) < le := Int32.not_le.mp a3
      refine am_iload_n 0 dX10_go_0 rfl ?_
      refine am_iconst 1 (v := 5) dX10_go_1 (by decide) ?_
      refine am_icmp_ne 2 60 dX10_go_2 rfl (fun c2 => absurd c2 (by decide)) (fun c2 => ?_)
      refine am_iload 5 dX10_go_5 rfl ?_
      refine am_aload_n 7 dX10_go_7 rfl ?_
      refine am_getfield 8 dX10_go_8 fX10_19 (by first | exact r_g0 | exact r_g1 | exact r_g2 | exact hgx0 | exact hgx1 | exact hgx2 | exact hgx3 | exact hgx4 | assumption) rfl ?_
      refine am_icmp_lt 11 32 dX10_go_11 rfl (fun c11 => absurd c11 a1) (fun c11 => ?_)
      refine am_iload 14 dX10_go_14 rfl ?_
      refine am_aload_n 16 dX10_go_16 rfl ?_
      refine am_getfield 17 dX10_go_17 fX10_19 (by first | exact r_g0 | exact r_g1 | exact r_g2 | exact hgx0 | exact hgx1 | exact hgx2 | exact hgx3 | exact hgx4 | assumption) rfl ?_
      refine am_icmp_ne 20 33 dX10_go_20 rfl (fun c20 => absurd c20 (fun q => q a2)) (fun c20 => ?_)
      refine am_iload 23 dX10_go_23 rfl ?_
      refine am_aload_n 25 dX10_go_25 rfl ?_
      refine am_getfield 26 dX10_go_26 fX10_52 (by first | exact r_g0 | exact r_g1 | exact r_g2 | exact hgx0 | exact hgx1 | exact hgx2 | exact hgx3 | exact hgx4 | assumption) rfl ?_
      refine am_icmp_lt 29 33 dX10_go_29 rfl (fun c29 => ?_) (fun c29 => absurd a4 c29)
      exact h33 a1 (fun _ => a3)
  · refine am_iload_n 0 dX10_go_0 rfl ?_
    refine am_iconst 1 (v := 5) dX10_go_1 (by decide) ?_
    refine am_icmp_ne 2 60 dX10_go_2 rfl (fun c2 => absurd c2 (by decide)) (fun c2 => ?_)
    refine am_iload 5 dX10_go_5 rfl ?_
    refine am_aload_n 7 dX10_go_7 rfl ?_
    refine am_getfield 8 dX10_go_8 fX10_19 (by first | exact r_g0 | exact r_g1 | exact r_g2 | exact hgx0 | exact hgx1 | exact hgx2 | exact hgx3 | exact hgx4 | assumption) rfl ?_
    refine am_icmp_lt 11 32 dX10_go_11 rfl (fun c11 => absurd c11 a1) (fun c11 => ?_)
    refine am_iload 14 dX10_go_14 rfl ?_
    refine am_aload_n 16 dX10_go_16 rfl ?_
    refine am_getfield 17 dX10_go_17 fX10_19 (by first | exact r_g0 | exact r_g1 | exact r_g2 | exact hgx0 | exact hgx1 | exact hgx2 | exact hgx3 | exact hgx4 | assumption) rfl ?_
    refine am_icmp_ne 20 33 dX10_go_20 rfl (fun c20 => ?_) (fun c20 => absurd c20 a2)
    exact h33 a1 (fun q => absurd q a2)
/-- a name's next way: this peak for it, or none -/
theorem x_next {ok : Nat → Nat → Prop} {name k : Nat} (hv : x_pv ok P name e) (hk : k = 63 ∨ (k < P ∧ ok name k ∧ ∀ j, j < name → e j ≠ k)) (hP : P ≤ 48) : x_pv ok P (name + 1) (va_up e name k) := by
  refine ⟨fun j hj => ?_, fun i j hi hj hne he => ?_⟩
  · by_cases q : j = name
    · rw [q, am_up_eq]
      exact hk.imp id fun h => ⟨h.1, h.2.1⟩
    · rw [am_up_ne q]
      exact hv.1 j (by omega)
  · by_cases qi : i = name
    · by_cases qj : j = name
      · rw [qi, qj]
      · rw [qi, am_up_eq, am_up_ne qj] at he
        rw [qi, am_up_eq] at hne
        exact absurd he.symm ((hk.resolve_left hne).2.2 j (by omega))
    · by_cases qj : j = name
      · rw [qj, am_up_eq, am_up_ne qi] at he
        rw [am_up_ne qi] at hne
        rcases hk with z | z
        · exact absurd (he.trans z) hne
        · exact absurd he (z.2.2 i (by omega))
      · rw [am_up_ne qi, am_up_ne qj] at he
        rw [am_up_ne qi] at hne
        exact hv.2 i j (by omega) (by omega) hne he
theorem x_low {name k j : Nat} (h : j < name) : va_up e name k j = e j := am_up_ne (by omega)
theorem x_np_up {name k : Nat} : x_np (va_up e name k) (name + 1) = x_np e name + (if k = 63 then 0 else 1) := by
  have h : ∀ i, i ≤ name → x_np (va_up e name k) i = x_np e i := by
    intro i
    induction i with
    | zero => exact fun _ => rfl
    | succ i ih =>
      intro hi
      show x_np (va_up e name k) i + x_p1 (va_up e name k) i = x_np e i + x_p1 e i
      unfold x_p1
      rw [ih (by omega), am_up_ne (by omega)]
  show x_np (va_up e name k) name + x_p1 (va_up e name k) name = _
  unfold x_p1
  rw [h name (Nat.le_refl _), am_up_eq]
theorem x_ns_up {far : Nat → Nat → Nat} {name k : Nat} : x_ns far (va_up e name k) (name + 1) = x_ns far e name + (if k = 63 then 0 else far name k) := by
  have h : ∀ i, i ≤ name → x_ns far (va_up e name k) i = x_ns far e i := by
    intro i
    induction i with
    | zero => exact fun _ => rfl
    | succ i ih =>
      intro hi
      show x_ns far (va_up e name k) i + x_s1 far (va_up e name k) i = x_ns far e i + x_s1 far e i
      unfold x_s1
      rw [ih (by omega), am_up_ne (by omega)]
  show x_ns far (va_up e name k) name + x_s1 far (va_up e name k) name = _
  unfold x_s1
  rw [h name (Nat.le_refl _), am_up_eq]
theorem x_tk_up {name k : Nat} : x_tk (va_up e name k) (name + 1) = if k = 63 then x_tk e name else x_tk e name ||| 2 ^ k := by
  have h : ∀ i, i ≤ name → x_tk (va_up e name k) i = x_tk e i := by
    intro i
    induction i with
    | zero => exact fun _ => rfl
    | succ i ih =>
      intro hi
      show (if va_up e name k i = 63 then x_tk (va_up e name k) i else x_tk (va_up e name k) i ||| 2 ^ va_up e name k i) = _
      rw [ih (by omega), am_up_ne (by omega)]
      rfl
  show (if va_up e name k name = 63 then x_tk (va_up e name k) name else x_tk (va_up e name k) name ||| 2 ^ va_up e name k name) = _
  rw [h name (Nat.le_refl _), am_up_eq]
theorem x_pre_up {name k : Nat} : x_pre (va_up e name k) (name + 1) = x_pre e name * 64 + k := by
  show x_pre (va_up e name k) name * 64 + va_up e name k name = _
  rw [x_pre_congr (d := e) name fun j hj => x_low hj, am_up_eq]
theorem x_dg_up {nw1 : Nat → Int32} {name k : Nat} {x : Int32} (h : ∀ j, j < name → nw1 j = x_dg (e j)) (hx : x = x_dg k) : ∀ j, j < name + 1 → va_up nw1 name x j = x_dg (va_up e name k j) := fun j hj => by
  by_cases q : j = name
  · rw [q, am_up_eq, am_up_eq, hx]
  · rw [am_up_ne q, am_up_ne q]
    exact h j (by omega)
set_option maxHeartbeats 2000000 in
theorem s_xgo4 {l : Int64} {pa su : Int32} (hM : x_Mt f t v m P cs xs ys PX PY X Y) (hv : x_pv (x_may cs PX PY X Y) P 4 e) (hnw : ∀ j, j < 4 → nw j = x_dg (e j)) (hl : l = lN (x_tk e 4)) (hpa : pa = nI (x_np e 4)) (hsu : su = nI (x_ns (x_dist PX PY X Y) e 4)) (hst : x_st (x_dist PX PY X Y) (x_may cs PX PY X Y) P (x_pre e 4 * 64 ^ (5 - 4)) mo le bs) : AM mgo4 0 0 [.ref t, .int 4, .long l, .int pa, .int su] n (r_gp f t v m nw bs mo le) (x_gQ f t v m P n 4 ((x_pre e 4 + 1) * 64 ^ (5 - 4)) nw (x_dist PX PY X Y) (x_may cs PX PY X Y)) := by
  have hM0 := hM
  obtain ⟨⟨hvt, hm3, hP⟩, ⟨w0, w1, w2, hvw⟩, ⟨a0, a1, a2, a3, a4, a5, r, h0⟩, h3, hx, hy, hpk, hcs⟩ := hM
  have hk4 : 4 < 5 := by decide
  have he63 : ∀ j, j < 4 → e j = 63 ∨ e j < 48 := fun j hj => (hv.1 j hj).imp id fun h => by omega
  have htk := x_tk_lt 4 he63
  generalize hQ : (x_gQ f t v m P n 4 ((x_pre e 4 + 1) * 64 ^ (5 - 4)) nw (x_dist PX PY X Y) (x_may cs PX PY X Y)) = Q
  -- one name more: this peak, or none
  have next : ∀ (d : Nat) (nw1 bs1 : Nat → Int32) (mo1 le1 : Int32) (l1 : Int64) (p1 s1 : Int32), (d = 63 ∨ (d < P ∧ (x_may cs PX PY X Y) 4 d ∧ ∀ j, j < 4 → e j ≠ d)) → (∀ j, j < 4 → nw1 j = nw j) → l1 = lN (if d = 63 then x_tk e 4 else x_tk e 4 ||| 2 ^ d) → p1 = nI (x_np e 4 + (if d = 63 then 0 else 1)) → s1 = nI (x_ns (x_dist PX PY X Y) e 4 + (if d = 63 then 0 else (x_dist PX PY X Y) 4 d)) → x_st (x_dist PX PY X Y) (x_may cs PX PY X Y) P ((x_pre e 4 * 64 + d) * 64 ^ (4 - 4)) mo1 le1 bs1 → AM mgo5 0 0 [.ref t, .int (4 + 1), .long l1, .int p1, .int s1] n (r_gp f t v m (va_up nw1 4 (x_dg d)) bs1 mo1 le1) (fun o n' f' => ∃ (nw' bs' : Nat → Int32) (mo' le' : Int32), o = .inl none ∧ n = n' ∧ f' = r_gp f t v m nw' bs' mo' le' ∧ (∀ j, j < 4 → nw' j = nw j) ∧ x_st (x_dist PX PY X Y) (x_may cs PX PY X Y) P ((x_pre e 4 * 64 + d + 1) * 64 ^ (4 - 4)) mo' le' bs') := by
    intro d nw1 bs1 mo1 le1 l1 p1 s1 hd hn1 hl1 hp1 hs1 hst1
    refine AW.mono ?_ (s_xgo5 (e := va_up e 4 d) hM0 (x_next hv hd hP) (x_dg_up (fun j hj => (hn1 j hj).trans (hnw j hj)) rfl)  (by rw [x_np_up]; exact hp1) (by rw [x_ns_up]; exact hs1) (by rw [x_pre_up]; exact by rw [show (64 : Nat) ^ (4 - 4) = 1 from rfl, Nat.mul_one] at hst1; exact hst1))
    rintro o n' f' ⟨nw', bs', mo', le', q1, q2, q3, q4, q5⟩
    refine ⟨nw', bs', mo', le', q1, q2, q3, fun j hj => ?_, ?_⟩
    · rw [q4 j (by omega), am_up_ne (by omega)]
      exact hn1 j hj
    · rw [x_pre_up] at q5
      rw [show (64 : Nat) ^ (4 - 4) = 1 from rfl, Nat.mul_one]; exact q5
  show AW mgo4 0 0 0 [some (.ref t), some (.int 4), some (.long l), none, some (.int pa), some (.int su), none, none] [] n _ Q
  refine am_iload_n 0 dX10_go_0 rfl ?_
  refine am_iconst 1 (v := 5) dX10_go_1 (by decide) ?_
  refine am_icmp_ne 2 60 dX10_go_2 rfl (fun c2 => ?_) (fun c2 => absurd c2 (by decide))
  refine am_iconst 60 (v := 0) dX10_go_60 (by decide) ?_
  refine am_istore 61 dX10_go_61 (by decide) ?_
  have hend : ∀ (nw1 bs1 : Nat → Int32) (mo1 le1 : Int32) (x6 : Int32) (x7 : Option Value), (∀ j, j < 4 → nw1 j = nw j) → x_st (x_dist PX PY X Y) (x_may cs PX PY X Y) P ((x_pre e 4 * 64 + 63) * 64 ^ (4 - 4)) mo1 le1 bs1 → AW mgo4 0 0 173 [some (.ref t), some (.int 4), some (.long l), none, some (.int pa), some (.int su), some (.int x6), x7] [] n (r_gp f t v m nw1 bs1 mo1 le1) Q := by
    intro nw1 bs1 mo1 le1 x6 x7 e1 e2
    have nx := next 63 nw1 bs1 mo1 le1 l pa su (Or.inl rfl) e1 hl hpa hsu e2
    refine am_aload_n 173 dX10_go_173 rfl ?_
    refine am_getfield 174 dX10_go_174 fX10_15 (by first | exact r_g0 | exact r_g1 | exact r_g2 | exact hgx0 | exact hgx1 | exact hgx2 | exact hgx3 | exact hgx4 | assumption) rfl ?_
    refine am_iload_n 177 dX10_go_177 rfl ?_
    refine am_iconst 178 (v := (-1)) dX10_go_178 (by decide) ?_
    refine am_iastore 179 dX10_go_179 rfl (by first | exact r_g0 | exact r_g1 | exact r_g2 | exact hgx0 | exact hgx1 | exact hgx2 | exact hgx3 | exact hgx4 | assumption) (am_ix (c := 4) (by decide) (by decide)) ?_
    rw [show (4 : Int32).toNatClampNeg = 4 from rfl, r_gu1]
    refine am_aload_n 180 dX10_go_180 rfl ?_
    refine am_iload_n 181 dX10_go_181 rfl ?_
    refine am_iconst 182 (v := 1) dX10_go_182 (by decide) ?_
    refine am_iadd 183 dX10_go_183 ?_
    refine am_lload_n 184 dX10_go_184 rfl ?_
    refine am_iload 185 dX10_go_185 rfl ?_
    refine am_iload 187 dX10_go_187 rfl ?_
    refine am_V4 189 (mc' := 0) (ms' := 0) (rc := 0) (rs := 0) dX10_go_189 (show am_cV RX10 48 mgo5 4 10 from lX10_48) ⟨by decide, by decide⟩ r_g0 (Nat.le_of_ble_eq_true rfl) (Nat.le_of_ble_eq_true rfl) (nx) ?_
    rintro o n' f' ⟨nw2, bs2, mo2, le2, rfl, rfl, rfl, q1, q2⟩
    refine am_ctI ?_
    refine am_return 192 dX10_go_192 rfl ?_
    subst hQ
    refine ⟨nw2, bs2, mo2, le2, rfl, rfl, rfl, q1, ?_⟩
    rw [show (x_pre e 4 + 1) * 64 ^ (5 - 4) = (x_pre e 4 * 64 + 63 + 1) * 64 ^ (4 - 4) by rw [show (64 : Nat) ^ (5 - 4) = 64 from rfl, show (64 : Nat) ^ (4 - 4) = 1 from rfl]; omega]
    exact q2
  have hstart : x_st (x_dist PX PY X Y) (x_may cs PX PY X Y) P ((x_pre e 4 * 64 + 0) * 64 ^ (4 - 4)) mo le bs := by
    rw [show (x_pre e 4 * 64 + 0) * 64 ^ (4 - 4) = x_pre e 4 * 64 ^ (5 - 4) by rw [show (64 : Nat) ^ (5 - 4) = 64 from rfl, show (64 : Nat) ^ (4 - 4) = 1 from rfl]; omega]
    exact hst
  refine am_for P (fun j (s : ((Nat → Int32) × (Nat → Int32)) × (Int32 × Int32) × Option Value) => (∀ i, i < 4 → s.1.1 i = nw i) ∧ x_st (x_dist PX PY X Y) (x_may cs PX PY X Y) P ((x_pre e 4 * 64 + j) * 64 ^ (4 - 4)) s.2.1.1 s.2.1.2 s.1.2) (fun j s => AW mgo4 0 0 63 [some (.ref t), some (.int 4), some (.long l), none, some (.int pa), some (.int su), some (.int (nI j)), s.2.2] [] n (r_gp f t v m s.1.1 s.1.2 s.2.1.1 s.2.1.2) Q) ?_ ?_ 0 ((nw, bs), (mo, le), none) (by omega) ⟨fun _ _ => rfl, hstart⟩
  · rintro ⟨⟨nw1, bs1⟩, ⟨mo1, le1⟩, z⟩ ⟨e1, e2⟩
    have e1 : ∀ i, i < 4 → nw1 i = nw i := e1
    have e2 : x_st (x_dist PX PY X Y) (x_may cs PX PY X Y) P ((x_pre e 4 * 64 + P) * 64 ^ (4 - 4)) mo1 le1 bs1 := e2
    show AW mgo4 0 0 63 [some (.ref t), some (.int 4), some (.long l), none, some (.int pa), some (.int su), some (.int (nI P)), z] [] n (r_gp f t v m nw1 bs1 mo1 le1) _
    have hgx0 : r_gp f t v m nw1 bs1 mo1 le1 v = _ := (r_gx (Or.inl hvt)).trans hvw
    have e3 := x_skips (by omega) hk4 hv (63 - P) P (by omega) (fun k' h1 _ => Or.inl h1) e2
    refine am_iload 63 dX10_go_63 rfl ?_
    refine am_aload_n 65 dX10_go_65 rfl ?_
    refine am_getfield 66 dX10_go_66 fX10_26 (by first | exact r_g0 | exact r_g1 | exact r_g2 | exact hgx0 | exact hgx1 | exact hgx2 | exact hgx3 | exact hgx4 | assumption) rfl ?_
    refine am_getfield 69 dX10_go_69 fX10_30 (by first | exact r_g0 | exact r_g1 | exact r_g2 | exact hgx0 | exact hgx1 | exact hgx2 | exact hgx3 | exact hgx4 | assumption) rfl ?_
    refine am_icmp_ge 72 173 dX10_go_72 rfl (fun c72 => ?_) (fun c72 => absurd (Int32.le_refl _) c72)
    exact hend _ _ _ _ _ _ e1 e3
  · rintro j ⟨⟨nw1, bs1⟩, ⟨mo1, le1⟩, z⟩ hj ⟨e1, e2⟩ ih
    have e1 : ∀ i, i < 4 → nw1 i = nw i := e1
    have e2 : x_st (x_dist PX PY X Y) (x_may cs PX PY X Y) P ((x_pre e 4 * 64 + j) * 64 ^ (4 - 4)) mo1 le1 bs1 := e2
    show AW mgo4 0 0 63 [some (.ref t), some (.int 4), some (.long l), none, some (.int pa), some (.int su), some (.int (nI j)), z] [] n (r_gp f t v m nw1 bs1 mo1 le1) _
    have hgx0 : r_gp f t v m nw1 bs1 mo1 le1 v = _ := (r_gx (Or.inl hvt)).trans hvw
    have hgx1 : r_gp f t v m nw1 bs1 mo1 le1 m = _ := (r_gx (Or.inl (by omega))).trans h0
    have hgx2 : r_gp f t v m nw1 bs1 mo1 le1 (m + 3) = _ := (r_gx (Or.inl hm3)).trans h3
    have hgx3 : r_gp f t v m nw1 bs1 mo1 le1 (t + 3) = _ := (r_gx (Or.inr (by omega))).trans hx
    have hgx4 : r_gp f t v m nw1 bs1 mo1 le1 (t + 4) = _ := (r_gx (Or.inr (by omega))).trans hy
    have more : ∀ (nw1 bs1 : Nat → Int32) (mo1 le1 : Int32) (x7 : Option Value), (∀ i, i < 4 → nw1 i = nw i) → x_st (x_dist PX PY X Y) (x_may cs PX PY X Y) P ((x_pre e 4 * 64 + j + 1) * 64 ^ (4 - 4)) mo1 le1 bs1 → AW mgo4 0 0 167 [some (.ref t), some (.int 4), some (.long l), none, some (.int pa), some (.int su), some (.int (nI j)), x7] [] n (r_gp f t v m nw1 bs1 mo1 le1) Q := by
      intro nw1 bs1 mo1 le1 x7 e1 e2
      refine am_iinc 167 (v := nI (j + 1)) dX10_go_167 rfl (nI_1 (j)) (by decide) ?_
      refine am_goto 170 (tgt := 63) dX10_go_170 rfl ?_
      exact ih ((_, _), (_, _), _) ⟨e1, e2⟩
    have hPj : ¬ nI P ≤ nI j := nI_ge hj (by omega)
    rcases hc : cs 4 with _ | c
    · have e3 := x_skips (by omega) hk4 hv (63 - j) j (by omega) (fun k' _ _ => Or.inr (Or.inl fun q => q.1 hc)) e2
      refine am_iload 63 dX10_go_63 rfl ?_
      refine am_aload_n 65 dX10_go_65 rfl ?_
      refine am_getfield 66 dX10_go_66 fX10_26 (by first | exact r_g0 | exact r_g1 | exact r_g2 | exact hgx0 | exact hgx1 | exact hgx2 | exact hgx3 | exact hgx4 | assumption) rfl ?_
      refine am_getfield 69 dX10_go_69 fX10_30 (by first | exact r_g0 | exact r_g1 | exact r_g2 | exact hgx0 | exact hgx1 | exact hgx2 | exact hgx3 | exact hgx4 | assumption) rfl ?_
      refine am_icmp_ge 72 173 dX10_go_72 rfl (fun c72 => absurd c72 hPj) (fun c72 => ?_)
      refine am_aload_n 75 dX10_go_75 rfl ?_
      refine am_getfield 76 dX10_go_76 fX10_3 (by first | exact r_g0 | exact r_g1 | exact r_g2 | exact hgx0 | exact hgx1 | exact hgx2 | exact hgx3 | exact hgx4 | assumption) rfl ?_
      refine am_getfieldN 79 dX10_go_79 fnX10_61 (by first | exact r_g0 | exact r_g1 | exact r_g2 | exact hgx0 | exact hgx1 | exact hgx2 | exact hgx3 | exact hgx4 | assumption) rfl ?_
      refine am_iload_n 82 dX10_go_82 rfl ?_
      refine am_aaload 83 dX10_go_83 rfl (by first | exact r_g0 | exact r_g1 | exact r_g2 | exact hgx0 | exact hgx1 | exact hgx2 | exact hgx3 | exact hgx4 | assumption) (am_ix (c := 4) (by decide) (by decide)) ?_
      rw [show (4 : Int32).toNatClampNeg = 4 from rfl, hc, show va_rf none = Value.null from rfl]
      refine am_ifnullN 84 (tgt := 173) dX10_go_84 rfl ?_
      exact hend _ _ _ _ _ _ e1 e3
    · obtain ⟨c1, cx, cy, ap, κ, c2, c4, c5⟩ := hcs 4 hk4 c hc
      obtain ⟨px1, py1, px2, py2⟩ := hpk j hj
      obtain ⟨sq1, sq2⟩ := x_sq57 (PX j) (by omega) (X 4) (by omega)
      obtain ⟨sq3, sq4⟩ := x_sq57 (PY j) (by omega) (Y 4) (by omega)
      have c3 : r_gp f t v m nw1 bs1 mo1 le1 c = _ := (r_gx (Or.inl c1)).trans c2
      have hF : (x_dist PX PY X Y) 4 j ≤ 6272 := by unfold x_dist; omega
      have far : AM mX9_far 0 0 [.ref c, .int (nI (PX j)), .int (nI (PY j))] n (r_gp f t v m nw1 bs1 mo1 le1) (am_is (some (.int (nI ((x_dist PX PY X Y) 4 j)))) n (r_gp f t v m nw1 bs1 mo1 le1)) := by
        have h := s_rfar (n := n) (x := nI (PX j)) (y := nI (PY j)) c3
        rw [c4, c5, sq1, sq3, nI_add] at h
        exact h
      unfold r_kF at c3
      have pre := fun Q9 : Prop => Q9
      by_cases q1 : (x_dist PX PY X Y) 4 j ≤ 256
      · have q1' : ¬ (256 : Int32) < nI ((x_dist PX PY X Y) 4 j) := fun z => by
          have := (nI_ltI (a := 256) (b := (x_dist PX PY X Y) 4 j) (by decide) (by omega)).mp z
          omega
        by_cases q2 : (x_tk e 4).testBit j = true
        · have hb := (x_bit_iff htk (by omega : j < 48)).mpr q2
          rw [← hl] at hb
          have e3 := x_skip (by omega) hk4 hv (by omega) (Or.inr (Or.inr ((x_tk_bit (by omega) 4).mp q2))) e2
          refine am_iload 63 dX10_go_63 rfl ?_
          refine am_aload_n 65 dX10_go_65 rfl ?_
          refine am_getfield 66 dX10_go_66 fX10_26 (by first | exact r_g0 | exact r_g1 | exact r_g2 | exact hgx0 | exact hgx1 | exact hgx2 | exact hgx3 | exact hgx4 | assumption) rfl ?_
          refine am_getfield 69 dX10_go_69 fX10_30 (by first | exact r_g0 | exact r_g1 | exact r_g2 | exact hgx0 | exact hgx1 | exact hgx2 | exact hgx3 | exact hgx4 | assumption) rfl ?_
          refine am_icmp_ge 72 173 dX10_go_72 rfl (fun c72 => absurd c72 hPj) (fun c72 => ?_)
          refine am_aload_n 75 dX10_go_75 rfl ?_
          refine am_getfield 76 dX10_go_76 fX10_3 (by first | exact r_g0 | exact r_g1 | exact r_g2 | exact hgx0 | exact hgx1 | exact hgx2 | exact hgx3 | exact hgx4 | assumption) rfl ?_
          refine am_getfieldN 79 dX10_go_79 fnX10_61 (by first | exact r_g0 | exact r_g1 | exact r_g2 | exact hgx0 | exact hgx1 | exact hgx2 | exact hgx3 | exact hgx4 | assumption) rfl ?_
          refine am_iload_n 82 dX10_go_82 rfl ?_
          refine am_aaload 83 dX10_go_83 rfl (by first | exact r_g0 | exact r_g1 | exact r_g2 | exact hgx0 | exact hgx1 | exact hgx2 | exact hgx3 | exact hgx4 | assumption) (am_ix (c := 4) (by decide) (by decide)) ?_
          rw [show (4 : Int32).toNatClampNeg = 4 from rfl, hc, show va_rf (some c) = Value.ref c from rfl]
          refine am_ifnull 84 dX10_go_84 ?_
          refine am_aload_n 87 dX10_go_87 rfl ?_
          refine am_getfield 88 dX10_go_88 fX10_3 (by first | exact r_g0 | exact r_g1 | exact r_g2 | exact hgx0 | exact hgx1 | exact hgx2 | exact hgx3 | exact hgx4 | assumption) rfl ?_
          refine am_getfieldN 91 dX10_go_91 fnX10_61 (by first | exact r_g0 | exact r_g1 | exact r_g2 | exact hgx0 | exact hgx1 | exact hgx2 | exact hgx3 | exact hgx4 | assumption) rfl ?_
          refine am_iload_n 94 dX10_go_94 rfl ?_
          refine am_aaload 95 dX10_go_95 rfl (by first | exact r_g0 | exact r_g1 | exact r_g2 | exact hgx0 | exact hgx1 | exact hgx2 | exact hgx3 | exact hgx4 | assumption) (am_ix (c := 4) (by decide) (by decide)) ?_
          rw [show (4 : Int32).toNatClampNeg = 4 from rfl, hc, show va_rf (some c) = Value.ref c from rfl]
          refine am_aload_n 96 dX10_go_96 rfl ?_
          refine am_getfield 97 dX10_go_97 fX10_35 (by first | exact r_g0 | exact r_g1 | exact r_g2 | exact hgx0 | exact hgx1 | exact hgx2 | exact hgx3 | exact hgx4 | assumption) rfl ?_
          refine am_iload 100 dX10_go_100 rfl ?_
          refine am_iaload 102 dX10_go_102 rfl (by first | exact r_g0 | exact r_g1 | exact r_g2 | exact hgx0 | exact hgx1 | exact hgx2 | exact hgx3 | exact hgx4 | assumption) (am_ix hj (by omega)) ?_
          rw [nI_clamp (n := j) (by omega), px1]
          refine am_aload_n 103 dX10_go_103 rfl ?_
          refine am_getfield 104 dX10_go_104 fX10_38 (by first | exact r_g0 | exact r_g1 | exact r_g2 | exact hgx0 | exact hgx1 | exact hgx2 | exact hgx3 | exact hgx4 | assumption) rfl ?_
          refine am_iload 107 dX10_go_107 rfl ?_
          refine am_iaload 109 dX10_go_109 rfl (by first | exact r_g0 | exact r_g1 | exact r_g2 | exact hgx0 | exact hgx1 | exact hgx2 | exact hgx3 | exact hgx4 | assumption) (am_ix hj (by omega)) ?_
          rw [nI_clamp (n := j) (by omega), py1]
          refine am_V2 110 (mc' := 0) (ms' := 0) (rc := 0) (rs := 0) dX10_go_110 lX10_65 ⟨by decide, by decide⟩ c3 (Nat.le_of_ble_eq_true rfl) (Nat.le_of_ble_eq_true rfl) (far) ?_
          refine am_is_ct ?_
          refine am_istore 113 dX10_go_113 (by decide) ?_
          refine am_iload 115 dX10_go_115 rfl ?_
          refine am_sipush 117 (v := 256) dX10_go_117 (by decide) ?_
          refine am_icmp_gt 120 167 dX10_go_120 rfl (fun c120 => absurd c120 q1') (fun c120 => ?_)
          refine am_lload_n 123 dX10_go_123 rfl ?_
          refine am_iload 124 dX10_go_124 rfl ?_
          refine am_lshr 126 dX10_go_126 ?_
          refine am_lconst 127 (v := 1) dX10_go_127 rfl ?_
          refine am_land 128 dX10_go_128 ?_
          refine am_lconst 129 (v := 1) dX10_go_129 rfl ?_
          refine am_lcmp 130 dX10_go_130 ?_
          refine am_if_ne 131 137 dX10_go_131 rfl (fun c131 => absurd c131 (fun q => q hb)) (fun c131 => ?_)
          refine am_goto 134 (tgt := 167) dX10_go_134 rfl ?_
          exact more _ _ _ _ _ e1 e3
        · have hb : ¬ lg_cmp (l >>> ((nI j).toInt64 &&& 63) &&& 1) 1 = 0 := fun z => q2 ((x_bit_iff htk (by omega : j < 48)).mp (by rw [← hl]; exact z))
          have nx := next j nw1 bs1 mo1 le1 (l ||| 1 <<< ((nI j).toInt64 &&& 63)) (pa + 1) (su + nI ((x_dist PX PY X Y) 4 j)) (Or.inr ⟨hj, ⟨(fun z => by rw [hc] at z; cases z), q1⟩, fun i hi z => q2 ((x_tk_bit (by omega) 4).mpr ⟨i, hi, z⟩)⟩) e1 (by rw [hl, x_shl j (by omega), x_or, if_neg (by omega)]) (by rw [hpa, nI_1, if_neg (by omega)]) (by rw [hsu, nI_add, if_neg (by omega)]) e2
          rw [show x_dg j = nI j from if_neg (by omega)] at nx
          refine am_iload 63 dX10_go_63 rfl ?_
          refine am_aload_n 65 dX10_go_65 rfl ?_
          refine am_getfield 66 dX10_go_66 fX10_26 (by first | exact r_g0 | exact r_g1 | exact r_g2 | exact hgx0 | exact hgx1 | exact hgx2 | exact hgx3 | exact hgx4 | assumption) rfl ?_
          refine am_getfield 69 dX10_go_69 fX10_30 (by first | exact r_g0 | exact r_g1 | exact r_g2 | exact hgx0 | exact hgx1 | exact hgx2 | exact hgx3 | exact hgx4 | assumption) rfl ?_
          refine am_icmp_ge 72 173 dX10_go_72 rfl (fun c72 => absurd c72 hPj) (fun c72 => ?_)
          refine am_aload_n 75 dX10_go_75 rfl ?_
          refine am_getfield 76 dX10_go_76 fX10_3 (by first | exact r_g0 | exact r_g1 | exact r_g2 | exact hgx0 | exact hgx1 | exact hgx2 | exact hgx3 | exact hgx4 | assumption) rfl ?_
          refine am_getfieldN 79 dX10_go_79 fnX10_61 (by first | exact r_g0 | exact r_g1 | exact r_g2 | exact hgx0 | exact hgx1 | exact hgx2 | exact hgx3 | exact hgx4 | assumption) rfl ?_
          refine am_iload_n 82 dX10_go_82 rfl ?_
          refine am_aaload 83 dX10_go_83 rfl (by first | exact r_g0 | exact r_g1 | exact r_g2 | exact hgx0 | exact hgx1 | exact hgx2 | exact hgx3 | exact hgx4 | assumption) (am_ix (c := 4) (by decide) (by decide)) ?_
          rw [show (4 : Int32).toNatClampNeg = 4 from rfl, hc, show va_rf (some c) = Value.ref c from rfl]
          refine am_ifnull 84 dX10_go_84 ?_
          refine am_aload_n 87 dX10_go_87 rfl ?_
          refine am_getfield 88 dX10_go_88 fX10_3 (by first | exact r_g0 | exact r_g1 | exact r_g2 | exact hgx0 | exact hgx1 | exact hgx2 | exact hgx3 | exact hgx4 | assumption) rfl ?_
          refine am_getfieldN 91 dX10_go_91 fnX10_61 (by first | exact r_g0 | exact r_g1 | exact r_g2 | exact hgx0 | exact hgx1 | exact hgx2 | exact hgx3 | exact hgx4 | assumption) rfl ?_
          refine am_iload_n 94 dX10_go_94 rfl ?_
          refine am_aaload 95 dX10_go_95 rfl (by first | exact r_g0 | exact r_g1 | exact r_g2 | exact hgx0 | exact hgx1 | exact hgx2 | exact hgx3 | exact hgx4 | assumption) (am_ix (c := 4) (by decide) (by decide)) ?_
          rw [show (4 : Int32).toNatClampNeg = 4 from rfl, hc, show va_rf (some c) = Value.ref c from rfl]
          refine am_aload_n 96 dX10_go_96 rfl ?_
          refine am_getfield 97 dX10_go_97 fX10_35 (by first | exact r_g0 | exact r_g1 | exact r_g2 | exact hgx0 | exact hgx1 | exact hgx2 | exact hgx3 | exact hgx4 | assumption) rfl ?_
          refine am_iload 100 dX10_go_100 rfl ?_
          refine am_iaload 102 dX10_go_102 rfl (by first | exact r_g0 | exact r_g1 | exact r_g2 | exact hgx0 | exact hgx1 | exact hgx2 | exact hgx3 | exact hgx4 | assumption) (am_ix hj (by omega)) ?_
          rw [nI_clamp (n := j) (by omega), px1]
          refine am_aload_n 103 dX10_go_103 rfl ?_
          refine am_getfield 104 dX10_go_104 fX10_38 (by first | exact r_g0 | exact r_g1 | exact r_g2 | exact hgx0 | exact hgx1 | exact hgx2 | exact hgx3 | exact hgx4 | assumption) rfl ?_
          refine am_iload 107 dX10_go_107 rfl ?_
          refine am_iaload 109 dX10_go_109 rfl (by first | exact r_g0 | exact r_g1 | exact r_g2 | exact hgx0 | exact hgx1 | exact hgx2 | exact hgx3 | exact hgx4 | assumption) (am_ix hj (by omega)) ?_
          rw [nI_clamp (n := j) (by omega), py1]
          refine am_V2 110 (mc' := 0) (ms' := 0) (rc := 0) (rs := 0) dX10_go_110 lX10_65 ⟨by decide, by decide⟩ c3 (Nat.le_of_ble_eq_true rfl) (Nat.le_of_ble_eq_true rfl) (far) ?_
          refine am_is_ct ?_
          refine am_istore 113 dX10_go_113 (by decide) ?_
          refine am_iload 115 dX10_go_115 rfl ?_
          refine am_sipush 117 (v := 256) dX10_go_117 (by decide) ?_
          refine am_icmp_gt 120 167 dX10_go_120 rfl (fun c120 => absurd c120 q1') (fun c120 => ?_)
          refine am_lload_n 123 dX10_go_123 rfl ?_
          refine am_iload 124 dX10_go_124 rfl ?_
          refine am_lshr 126 dX10_go_126 ?_
          refine am_lconst 127 (v := 1) dX10_go_127 rfl ?_
          refine am_land 128 dX10_go_128 ?_
          refine am_lconst 129 (v := 1) dX10_go_129 rfl ?_
          refine am_lcmp 130 dX10_go_130 ?_
          refine am_if_ne 131 137 dX10_go_131 rfl (fun c131 => ?_) (fun c131 => absurd c131 hb)
          refine am_aload_n 137 dX10_go_137 rfl ?_
          refine am_getfield 138 dX10_go_138 fX10_15 (by first | exact r_g0 | exact r_g1 | exact r_g2 | exact hgx0 | exact hgx1 | exact hgx2 | exact hgx3 | exact hgx4 | assumption) rfl ?_
          refine am_iload_n 141 dX10_go_141 rfl ?_
          refine am_iload 142 dX10_go_142 rfl ?_
          refine am_iastore 144 dX10_go_144 rfl (by first | exact r_g0 | exact r_g1 | exact r_g2 | exact hgx0 | exact hgx1 | exact hgx2 | exact hgx3 | exact hgx4 | assumption) (am_ix (c := 4) (by decide) (by decide)) ?_
          rw [show (4 : Int32).toNatClampNeg = 4 from rfl, r_gu1]
          refine am_aload_n 145 dX10_go_145 rfl ?_
          refine am_iload_n 146 dX10_go_146 rfl ?_
          refine am_iconst 147 (v := 1) dX10_go_147 (by decide) ?_
          refine am_iadd 148 dX10_go_148 ?_
          refine am_lload_n 149 dX10_go_149 rfl ?_
          refine am_lconst 150 (v := 1) dX10_go_150 rfl ?_
          refine am_iload 151 dX10_go_151 rfl ?_
          refine am_lshl 153 dX10_go_153 ?_
          refine am_lor 154 dX10_go_154 ?_
          refine am_iload 155 dX10_go_155 rfl ?_
          refine am_iconst 157 (v := 1) dX10_go_157 (by decide) ?_
          refine am_iadd 158 dX10_go_158 ?_
          refine am_iload 159 dX10_go_159 rfl ?_
          refine am_iload 161 dX10_go_161 rfl ?_
          refine am_iadd 163 dX10_go_163 ?_
          refine am_V4 164 (mc' := 0) (ms' := 0) (rc := 0) (rs := 0) dX10_go_164 (show am_cV RX10 48 mgo5 4 10 from lX10_48) ⟨by decide, by decide⟩ r_g0 (Nat.le_of_ble_eq_true rfl) (Nat.le_of_ble_eq_true rfl) (nx) ?_
          rintro o n' f' ⟨nw2, bs2, mo2, le2, rfl, rfl, rfl, q1, q2⟩
          refine am_ctI ?_
          exact more _ _ _ _ _ q1 q2
      · have q1' : (256 : Int32) < nI ((x_dist PX PY X Y) 4 j) := (nI_ltI (a := 256) (b := (x_dist PX PY X Y) 4 j) (by decide) (by omega)).mpr (by omega)
        have e3 := x_skip (by omega) hk4 hv (by omega) (Or.inr (Or.inl fun z => q1 z.2)) e2
        refine am_iload 63 dX10_go_63 rfl ?_
        refine am_aload_n 65 dX10_go_65 rfl ?_
        refine am_getfield 66 dX10_go_66 fX10_26 (by first | exact r_g0 | exact r_g1 | exact r_g2 | exact hgx0 | exact hgx1 | exact hgx2 | exact hgx3 | exact hgx4 | assumption) rfl ?_
        refine am_getfield 69 dX10_go_69 fX10_30 (by first | exact r_g0 | exact r_g1 | exact r_g2 | exact hgx0 | exact hgx1 | exact hgx2 | exact hgx3 | exact hgx4 | assumption) rfl ?_
        refine am_icmp_ge 72 173 dX10_go_72 rfl (fun c72 => absurd c72 hPj) (fun c72 => ?_)
        refine am_aload_n 75 dX10_go_75 rfl ?_
        refine am_getfield 76 dX10_go_76 fX10_3 (by first | exact r_g0 | exact r_g1 | exact r_g2 | exact hgx0 | exact hgx1 | exact hgx2 | exact hgx3 | exact hgx4 | assumption) rfl ?_
        refine am_getfieldN 79 dX10_go_79 fnX10_61 (by first | exact r_g0 | exact r_g1 | exact r_g2 | exact hgx0 | exact hgx1 | exact hgx2 | exact hgx3 | exact hgx4 | assumption) rfl ?_
        refine am_iload_n 82 dX10_go_82 rfl ?_
        refine am_aaload 83 dX10_go_83 rfl (by first | exact r_g0 | exact r_g1 | exact r_g2 | exact hgx0 | exact hgx1 | exact hgx2 | exact hgx3 | exact hgx4 | assumption) (am_ix (c := 4) (by decide) (by decide)) ?_
        rw [show (4 : Int32).toNatClampNeg = 4 from rfl, hc, show va_rf (some c) = Value.ref c from rfl]
        refine am_ifnull 84 dX10_go_84 ?_
        refine am_aload_n 87 dX10_go_87 rfl ?_
        refine am_getfield 88 dX10_go_88 fX10_3 (by first | exact r_g0 | exact r_g1 | exact r_g2 | exact hgx0 | exact hgx1 | exact hgx2 | exact hgx3 | exact hgx4 | assumption) rfl ?_
        refine am_getfieldN 91 dX10_go_91 fnX10_61 (by first | exact r_g0 | exact r_g1 | exact r_g2 | exact hgx0 | exact hgx1 | exact hgx2 | exact hgx3 | exact hgx4 | assumption) rfl ?_
        refine am_iload_n 94 dX10_go_94 rfl ?_
        refine am_aaload 95 dX10_go_95 rfl (by first | exact r_g0 | exact r_g1 | exact r_g2 | exact hgx0 | exact hgx1 | exact hgx2 | exact hgx3 | exact hgx4 | assumption) (am_ix (c := 4) (by decide) (by decide)) ?_
        rw [show (4 : Int32).toNatClampNeg = 4 from rfl, hc, show va_rf (some c) = Value.ref c from rfl]
        refine am_aload_n 96 dX10_go_96 rfl ?_
        refine am_getfield 97 dX10_go_97 fX10_35 (by first | exact r_g0 | exact r_g1 | exact r_g2 | exact hgx0 | exact hgx1 | exact hgx2 | exact hgx3 | exact hgx4 | assumption) rfl ?_
        refine am_iload 100 dX10_go_100 rfl ?_
        refine am_iaload 102 dX10_go_102 rfl (by first | exact r_g0 | exact r_g1 | exact r_g2 | exact hgx0 | exact hgx1 | exact hgx2 | exact hgx3 | exact hgx4 | assumption) (am_ix hj (by omega)) ?_
        rw [nI_clamp (n := j) (by omega), px1]
        refine am_aload_n 103 dX10_go_103 rfl ?_
        refine am_getfield 104 dX10_go_104 fX10_38 (by first | exact r_g0 | exact r_g1 | exact r_g2 | exact hgx0 | exact hgx1 | exact hgx2 | exact hgx3 | exact hgx4 | assumption) rfl ?_
        refine am_iload 107 dX10_go_107 rfl ?_
        refine am_iaload 109 dX10_go_109 rfl (by first | exact r_g0 | exact r_g1 | exact r_g2 | exact hgx0 | exact hgx1 | exact hgx2 | exact hgx3 | exact hgx4 | assumption) (am_ix hj (by omega)) ?_
        rw [nI_clamp (n := j) (by omega), py1]
        refine am_V2 110 (mc' := 0) (ms' := 0) (rc := 0) (rs := 0) dX10_go_110 lX10_65 ⟨by decide, by decide⟩ c3 (Nat.le_of_ble_eq_true rfl) (Nat.le_of_ble_eq_true rfl) (far) ?_
        refine am_is_ct ?_
        refine am_istore 113 dX10_go_113 (by decide) ?_
        refine am_iload 115 dX10_go_115 rfl ?_
        refine am_sipush 117 (v := 256) dX10_go_117 (by decide) ?_
        refine am_icmp_gt 120 167 dX10_go_120 rfl (fun c120 => ?_) (fun c120 => absurd q1' c120)
        exact more _ _ _ _ _ e1 e3
set_option maxHeartbeats 2000000 in
theorem s_xgo3 {l : Int64} {pa su : Int32} (hM : x_Mt f t v m P cs xs ys PX PY X Y) (hv : x_pv (x_may cs PX PY X Y) P 3 e) (hnw : ∀ j, j < 3 → nw j = x_dg (e j)) (hl : l = lN (x_tk e 3)) (hpa : pa = nI (x_np e 3)) (hsu : su = nI (x_ns (x_dist PX PY X Y) e 3)) (hst : x_st (x_dist PX PY X Y) (x_may cs PX PY X Y) P (x_pre e 3 * 64 ^ (5 - 3)) mo le bs) : AM mgo3 0 0 [.ref t, .int 3, .long l, .int pa, .int su] n (r_gp f t v m nw bs mo le) (x_gQ f t v m P n 3 ((x_pre e 3 + 1) * 64 ^ (5 - 3)) nw (x_dist PX PY X Y) (x_may cs PX PY X Y)) := by
  have hM0 := hM
  obtain ⟨⟨hvt, hm3, hP⟩, ⟨w0, w1, w2, hvw⟩, ⟨a0, a1, a2, a3, a4, a5, r, h0⟩, h3, hx, hy, hpk, hcs⟩ := hM
  have hk3 : 3 < 5 := by decide
  have he63 : ∀ j, j < 3 → e j = 63 ∨ e j < 48 := fun j hj => (hv.1 j hj).imp id fun h => by omega
  have htk := x_tk_lt 3 he63
  generalize hQ : (x_gQ f t v m P n 3 ((x_pre e 3 + 1) * 64 ^ (5 - 3)) nw (x_dist PX PY X Y) (x_may cs PX PY X Y)) = Q
  -- one name more: this peak, or none
  have next : ∀ (d : Nat) (nw1 bs1 : Nat → Int32) (mo1 le1 : Int32) (l1 : Int64) (p1 s1 : Int32), (d = 63 ∨ (d < P ∧ (x_may cs PX PY X Y) 3 d ∧ ∀ j, j < 3 → e j ≠ d)) → (∀ j, j < 3 → nw1 j = nw j) → l1 = lN (if d = 63 then x_tk e 3 else x_tk e 3 ||| 2 ^ d) → p1 = nI (x_np e 3 + (if d = 63 then 0 else 1)) → s1 = nI (x_ns (x_dist PX PY X Y) e 3 + (if d = 63 then 0 else (x_dist PX PY X Y) 3 d)) → x_st (x_dist PX PY X Y) (x_may cs PX PY X Y) P ((x_pre e 3 * 64 + d) * 64 ^ (4 - 3)) mo1 le1 bs1 → AM mgo4 0 0 [.ref t, .int (3 + 1), .long l1, .int p1, .int s1] n (r_gp f t v m (va_up nw1 3 (x_dg d)) bs1 mo1 le1) (fun o n' f' => ∃ (nw' bs' : Nat → Int32) (mo' le' : Int32), o = .inl none ∧ n = n' ∧ f' = r_gp f t v m nw' bs' mo' le' ∧ (∀ j, j < 3 → nw' j = nw j) ∧ x_st (x_dist PX PY X Y) (x_may cs PX PY X Y) P ((x_pre e 3 * 64 + d + 1) * 64 ^ (4 - 3)) mo' le' bs') := by
    intro d nw1 bs1 mo1 le1 l1 p1 s1 hd hn1 hl1 hp1 hs1 hst1
    refine AW.mono ?_ (s_xgo4 (e := va_up e 3 d) hM0 (x_next hv hd hP) (x_dg_up (fun j hj => (hn1 j hj).trans (hnw j hj)) rfl) (by rw [x_tk_up]; exact hl1) (by rw [x_np_up]; exact hp1) (by rw [x_ns_up]; exact hs1) (by rw [x_pre_up]; exact hst1))
    rintro o n' f' ⟨nw', bs', mo', le', q1, q2, q3, q4, q5⟩
    refine ⟨nw', bs', mo', le', q1, q2, q3, fun j hj => ?_, ?_⟩
    · rw [q4 j (by omega), am_up_ne (by omega)]
      exact hn1 j hj
    · rw [x_pre_up] at q5
      exact q5
  show AW mgo3 0 0 0 [some (.ref t), some (.int 3), some (.long l), none, some (.int pa), some (.int su), none, none] [] n _ Q
  refine am_iload_n 0 dX10_go_0 rfl ?_
  refine am_iconst 1 (v := 5) dX10_go_1 (by decide) ?_
  refine am_icmp_ne 2 60 dX10_go_2 rfl (fun c2 => ?_) (fun c2 => absurd c2 (by decide))
  refine am_iconst 60 (v := 0) dX10_go_60 (by decide) ?_
  refine am_istore 61 dX10_go_61 (by decide) ?_
  have hend : ∀ (nw1 bs1 : Nat → Int32) (mo1 le1 : Int32) (x6 : Int32) (x7 : Option Value), (∀ j, j < 3 → nw1 j = nw j) → x_st (x_dist PX PY X Y) (x_may cs PX PY X Y) P ((x_pre e 3 * 64 + 63) * 64 ^ (4 - 3)) mo1 le1 bs1 → AW mgo3 0 0 173 [some (.ref t), some (.int 3), some (.long l), none, some (.int pa), some (.int su), some (.int x6), x7] [] n (r_gp f t v m nw1 bs1 mo1 le1) Q := by
    intro nw1 bs1 mo1 le1 x6 x7 e1 e2
    have nx := next 63 nw1 bs1 mo1 le1 l pa su (Or.inl rfl) e1 hl hpa hsu e2
    refine am_aload_n 173 dX10_go_173 rfl ?_
    refine am_getfield 174 dX10_go_174 fX10_15 (by first | exact r_g0 | exact r_g1 | exact r_g2 | exact hgx0 | exact hgx1 | exact hgx2 | exact hgx3 | exact hgx4 | assumption) rfl ?_
    refine am_iload_n 177 dX10_go_177 rfl ?_
    refine am_iconst 178 (v := (-1)) dX10_go_178 (by decide) ?_
    refine am_iastore 179 dX10_go_179 rfl (by first | exact r_g0 | exact r_g1 | exact r_g2 | exact hgx0 | exact hgx1 | exact hgx2 | exact hgx3 | exact hgx4 | assumption) (am_ix (c := 3) (by decide) (by decide)) ?_
    rw [show (3 : Int32).toNatClampNeg = 3 from rfl, r_gu1]
    refine am_aload_n 180 dX10_go_180 rfl ?_
    refine am_iload_n 181 dX10_go_181 rfl ?_
    refine am_iconst 182 (v := 1) dX10_go_182 (by decide) ?_
    refine am_iadd 183 dX10_go_183 ?_
    refine am_lload_n 184 dX10_go_184 rfl ?_
    refine am_iload 185 dX10_go_185 rfl ?_
    refine am_iload 187 dX10_go_187 rfl ?_
    refine am_V4 189 (mc' := 0) (ms' := 0) (rc := 0) (rs := 0) dX10_go_189 (show am_cV RX10 48 mgo4 4 10 from lX10_48) ⟨by decide, by decide⟩ r_g0 (Nat.le_of_ble_eq_true rfl) (Nat.le_of_ble_eq_true rfl) (nx) ?_
    rintro o n' f' ⟨nw2, bs2, mo2, le2, rfl, rfl, rfl, q1, q2⟩
    refine am_ctI ?_
    refine am_return 192 dX10_go_192 rfl ?_
    subst hQ
    refine ⟨nw2, bs2, mo2, le2, rfl, rfl, rfl, q1, ?_⟩
    rw [show (x_pre e 3 + 1) * 64 ^ (5 - 3) = (x_pre e 3 * 64 + 63 + 1) * 64 ^ (4 - 3) by rw [show (64 : Nat) ^ (5 - 3) = 4096 from rfl, show (64 : Nat) ^ (4 - 3) = 64 from rfl]; omega]
    exact q2
  have hstart : x_st (x_dist PX PY X Y) (x_may cs PX PY X Y) P ((x_pre e 3 * 64 + 0) * 64 ^ (4 - 3)) mo le bs := by
    rw [show (x_pre e 3 * 64 + 0) * 64 ^ (4 - 3) = x_pre e 3 * 64 ^ (5 - 3) by rw [show (64 : Nat) ^ (5 - 3) = 4096 from rfl, show (64 : Nat) ^ (4 - 3) = 64 from rfl]; omega]
    exact hst
  refine am_for P (fun j (s : ((Nat → Int32) × (Nat → Int32)) × (Int32 × Int32) × Option Value) => (∀ i, i < 3 → s.1.1 i = nw i) ∧ x_st (x_dist PX PY X Y) (x_may cs PX PY X Y) P ((x_pre e 3 * 64 + j) * 64 ^ (4 - 3)) s.2.1.1 s.2.1.2 s.1.2) (fun j s => AW mgo3 0 0 63 [some (.ref t), some (.int 3), some (.long l), none, some (.int pa), some (.int su), some (.int (nI j)), s.2.2] [] n (r_gp f t v m s.1.1 s.1.2 s.2.1.1 s.2.1.2) Q) ?_ ?_ 0 ((nw, bs), (mo, le), none) (by omega) ⟨fun _ _ => rfl, hstart⟩
  · rintro ⟨⟨nw1, bs1⟩, ⟨mo1, le1⟩, z⟩ ⟨e1, e2⟩
    have e1 : ∀ i, i < 3 → nw1 i = nw i := e1
    have e2 : x_st (x_dist PX PY X Y) (x_may cs PX PY X Y) P ((x_pre e 3 * 64 + P) * 64 ^ (4 - 3)) mo1 le1 bs1 := e2
    show AW mgo3 0 0 63 [some (.ref t), some (.int 3), some (.long l), none, some (.int pa), some (.int su), some (.int (nI P)), z] [] n (r_gp f t v m nw1 bs1 mo1 le1) _
    have hgx0 : r_gp f t v m nw1 bs1 mo1 le1 v = _ := (r_gx (Or.inl hvt)).trans hvw
    have e3 := x_skips (by omega) hk3 hv (63 - P) P (by omega) (fun k' h1 _ => Or.inl h1) e2
    refine am_iload 63 dX10_go_63 rfl ?_
    refine am_aload_n 65 dX10_go_65 rfl ?_
    refine am_getfield 66 dX10_go_66 fX10_26 (by first | exact r_g0 | exact r_g1 | exact r_g2 | exact hgx0 | exact hgx1 | exact hgx2 | exact hgx3 | exact hgx4 | assumption) rfl ?_
    refine am_getfield 69 dX10_go_69 fX10_30 (by first | exact r_g0 | exact r_g1 | exact r_g2 | exact hgx0 | exact hgx1 | exact hgx2 | exact hgx3 | exact hgx4 | assumption) rfl ?_
    refine am_icmp_ge 72 173 dX10_go_72 rfl (fun c72 => ?_) (fun c72 => absurd (Int32.le_refl _) c72)
    exact hend _ _ _ _ _ _ e1 e3
  · rintro j ⟨⟨nw1, bs1⟩, ⟨mo1, le1⟩, z⟩ hj ⟨e1, e2⟩ ih
    have e1 : ∀ i, i < 3 → nw1 i = nw i := e1
    have e2 : x_st (x_dist PX PY X Y) (x_may cs PX PY X Y) P ((x_pre e 3 * 64 + j) * 64 ^ (4 - 3)) mo1 le1 bs1 := e2
    show AW mgo3 0 0 63 [some (.ref t), some (.int 3), some (.long l), none, some (.int pa), some (.int su), some (.int (nI j)), z] [] n (r_gp f t v m nw1 bs1 mo1 le1) _
    have hgx0 : r_gp f t v m nw1 bs1 mo1 le1 v = _ := (r_gx (Or.inl hvt)).trans hvw
    have hgx1 : r_gp f t v m nw1 bs1 mo1 le1 m = _ := (r_gx (Or.inl (by omega))).trans h0
    have hgx2 : r_gp f t v m nw1 bs1 mo1 le1 (m + 3) = _ := (r_gx (Or.inl hm3)).trans h3
    have hgx3 : r_gp f t v m nw1 bs1 mo1 le1 (t + 3) = _ := (r_gx (Or.inr (by omega))).trans hx
    have hgx4 : r_gp f t v m nw1 bs1 mo1 le1 (t + 4) = _ := (r_gx (Or.inr (by omega))).trans hy
    have more : ∀ (nw1 bs1 : Nat → Int32) (mo1 le1 : Int32) (x7 : Option Value), (∀ i, i < 3 → nw1 i = nw i) → x_st (x_dist PX PY X Y) (x_may cs PX PY X Y) P ((x_pre e 3 * 64 + j + 1) * 64 ^ (4 - 3)) mo1 le1 bs1 → AW mgo3 0 0 167 [some (.ref t), some (.int 3), some (.long l), none, some (.int pa), some (.int su), some (.int (nI j)), x7] [] n (r_gp f t v m nw1 bs1 mo1 le1) Q := by
      intro nw1 bs1 mo1 le1 x7 e1 e2
      refine am_iinc 167 (v := nI (j + 1)) dX10_go_167 rfl (nI_1 (j)) (by decide) ?_
      refine am_goto 170 (tgt := 63) dX10_go_170 rfl ?_
      exact ih ((_, _), (_, _), _) ⟨e1, e2⟩
    have hPj : ¬ nI P ≤ nI j := nI_ge hj (by omega)
    rcases hc : cs 3 with _ | c
    · have e3 := x_skips (by omega) hk3 hv (63 - j) j (by omega) (fun k' _ _ => Or.inr (Or.inl fun q => q.1 hc)) e2
      refine am_iload 63 dX10_go_63 rfl ?_
      refine am_aload_n 65 dX10_go_65 rfl ?_
      refine am_getfield 66 dX10_go_66 fX10_26 (by first | exact r_g0 | exact r_g1 | exact r_g2 | exact hgx0 | exact hgx1 | exact hgx2 | exact hgx3 | exact hgx4 | assumption) rfl ?_
      refine am_getfield 69 dX10_go_69 fX10_30 (by first | exact r_g0 | exact r_g1 | exact r_g2 | exact hgx0 | exact hgx1 | exact hgx2 | exact hgx3 | exact hgx4 | assumption) rfl ?_
      refine am_icmp_ge 72 173 dX10_go_72 rfl (fun c72 => absurd c72 hPj) (fun c72 => ?_)
      refine am_aload_n 75 dX10_go_75 rfl ?_
      refine am_getfield 76 dX10_go_76 fX10_3 (by first | exact r_g0 | exact r_g1 | exact r_g2 | exact hgx0 | exact hgx1 | exact hgx2 | exact hgx3 | exact hgx4 | assumption) rfl ?_
      refine am_getfieldN 79 dX10_go_79 fnX10_61 (by first | exact r_g0 | exact r_g1 | exact r_g2 | exact hgx0 | exact hgx1 | exact hgx2 | exact hgx3 | exact hgx4 | assumption) rfl ?_
      refine am_iload_n 82 dX10_go_82 rfl ?_
      refine am_aaload 83 dX10_go_83 rfl (by first | exact r_g0 | exact r_g1 | exact r_g2 | exact hgx0 | exact hgx1 | exact hgx2 | exact hgx3 | exact hgx4 | assumption) (am_ix (c := 3) (by decide) (by decide)) ?_
      rw [show (3 : Int32).toNatClampNeg = 3 from rfl, hc, show va_rf none = Value.null from rfl]
      refine am_ifnullN 84 (tgt := 173) dX10_go_84 rfl ?_
      exact hend _ _ _ _ _ _ e1 e3
    · obtain ⟨c1, cx, cy, ap, κ, c2, c4, c5⟩ := hcs 3 hk3 c hc
      obtain ⟨px1, py1, px2, py2⟩ := hpk j hj
      obtain ⟨sq1, sq2⟩ := x_sq57 (PX j) (by omega) (X 3) (by omega)
      obtain ⟨sq3, sq4⟩ := x_sq57 (PY j) (by omega) (Y 3) (by omega)
      have c3 : r_gp f t v m nw1 bs1 mo1 le1 c = _ := (r_gx (Or.inl c1)).trans c2
      have hF : (x_dist PX PY X Y) 3 j ≤ 6272 := by unfold x_dist; omega
      have far : AM mX9_far 0 0 [.ref c, .int (nI (PX j)), .int (nI (PY j))] n (r_gp f t v m nw1 bs1 mo1 le1) (am_is (some (.int (nI ((x_dist PX PY X Y) 3 j)))) n (r_gp f t v m nw1 bs1 mo1 le1)) := by
        have h := s_rfar (n := n) (x := nI (PX j)) (y := nI (PY j)) c3
        rw [c4, c5, sq1, sq3, nI_add] at h
        exact h
      unfold r_kF at c3
      have pre := fun Q9 : Prop => Q9
      by_cases q1 : (x_dist PX PY X Y) 3 j ≤ 256
      · have q1' : ¬ (256 : Int32) < nI ((x_dist PX PY X Y) 3 j) := fun z => by
          have := (nI_ltI (a := 256) (b := (x_dist PX PY X Y) 3 j) (by decide) (by omega)).mp z
          omega
        by_cases q2 : (x_tk e 3).testBit j = true
        · have hb := (x_bit_iff htk (by omega : j < 48)).mpr q2
          rw [← hl] at hb
          have e3 := x_skip (by omega) hk3 hv (by omega) (Or.inr (Or.inr ((x_tk_bit (by omega) 3).mp q2))) e2
          refine am_iload 63 dX10_go_63 rfl ?_
          refine am_aload_n 65 dX10_go_65 rfl ?_
          refine am_getfield 66 dX10_go_66 fX10_26 (by first | exact r_g0 | exact r_g1 | exact r_g2 | exact hgx0 | exact hgx1 | exact hgx2 | exact hgx3 | exact hgx4 | assumption) rfl ?_
          refine am_getfield 69 dX10_go_69 fX10_30 (by first | exact r_g0 | exact r_g1 | exact r_g2 | exact hgx0 | exact hgx1 | exact hgx2 | exact hgx3 | exact hgx4 | assumption) rfl ?_
          refine am_icmp_ge 72 173 dX10_go_72 rfl (fun c72 => absurd c72 hPj) (fun c72 => ?_)
          refine am_aload_n 75 dX10_go_75 rfl ?_
          refine am_getfield 76 dX10_go_76 fX10_3 (by first | exact r_g0 | exact r_g1 | exact r_g2 | exact hgx0 | exact hgx1 | exact hgx2 | exact hgx3 | exact hgx4 | assumption) rfl ?_
          refine am_getfieldN 79 dX10_go_79 fnX10_61 (by first | exact r_g0 | exact r_g1 | exact r_g2 | exact hgx0 | exact hgx1 | exact hgx2 | exact hgx3 | exact hgx4 | assumption) rfl ?_
          refine am_iload_n 82 dX10_go_82 rfl ?_
          refine am_aaload 83 dX10_go_83 rfl (by first | exact r_g0 | exact r_g1 | exact r_g2 | exact hgx0 | exact hgx1 | exact hgx2 | exact hgx3 | exact hgx4 | assumption) (am_ix (c := 3) (by decide) (by decide)) ?_
          rw [show (3 : Int32).toNatClampNeg = 3 from rfl, hc, show va_rf (some c) = Value.ref c from rfl]
          refine am_ifnull 84 dX10_go_84 ?_
          refine am_aload_n 87 dX10_go_87 rfl ?_
          refine am_getfield 88 dX10_go_88 fX10_3 (by first | exact r_g0 | exact r_g1 | exact r_g2 | exact hgx0 | exact hgx1 | exact hgx2 | exact hgx3 | exact hgx4 | assumption) rfl ?_
          refine am_getfieldN 91 dX10_go_91 fnX10_61 (by first | exact r_g0 | exact r_g1 | exact r_g2 | exact hgx0 | exact hgx1 | exact hgx2 | exact hgx3 | exact hgx4 | assumption) rfl ?_
          refine am_iload_n 94 dX10_go_94 rfl ?_
          refine am_aaload 95 dX10_go_95 rfl (by first | exact r_g0 | exact r_g1 | exact r_g2 | exact hgx0 | exact hgx1 | exact hgx2 | exact hgx3 | exact hgx4 | assumption) (am_ix (c := 3) (by decide) (by decide)) ?_
          rw [show (3 : Int32).toNatClampNeg = 3 from rfl, hc, show va_rf (some c) = Value.ref c from rfl]
          refine am_aload_n 96 dX10_go_96 rfl ?_
          refine am_getfield 97 dX10_go_97 fX10_35 (by first | exact r_g0 | exact r_g1 | exact r_g2 | exact hgx0 | exact hgx1 | exact hgx2 | exact hgx3 | exact hgx4 | assumption) rfl ?_
          refine am_iload 100 dX10_go_100 rfl ?_
          refine am_iaload 102 dX10_go_102 rfl (by first | exact r_g0 | exact r_g1 | exact r_g2 | exact hgx0 | exact hgx1 | exact hgx2 | exact hgx3 | exact hgx4 | assumption) (am_ix hj (by omega)) ?_
          rw [nI_clamp (n := j) (by omega), px1]
          refine am_aload_n 103 dX10_go_103 rfl ?_
          refine am_getfield 104 dX10_go_104 fX10_38 (by first | exact r_g0 | exact r_g1 | exact r_g2 | exact hgx0 | exact hgx1 | exact hgx2 | exact hgx3 | exact hgx4 | assumption) rfl ?_
          refine am_iload 107 dX10_go_107 rfl ?_
          refine am_iaload 109 dX10_go_109 rfl (by first | exact r_g0 | exact r_g1 | exact r_g2 | exact hgx0 | exact hgx1 | exact hgx2 | exact hgx3 | exact hgx4 | assumption) (am_ix hj (by omega)) ?_
          rw [nI_clamp (n := j) (by omega), py1]
          refine am_V2 110 (mc' := 0) (ms' := 0) (rc := 0) (rs := 0) dX10_go_110 lX10_65 ⟨by decide, by decide⟩ c3 (Nat.le_of_ble_eq_true rfl) (Nat.le_of_ble_eq_true rfl) (far) ?_
          refine am_is_ct ?_
          refine am_istore 113 dX10_go_113 (by decide) ?_
          refine am_iload 115 dX10_go_115 rfl ?_
          refine am_sipush 117 (v := 256) dX10_go_117 (by decide) ?_
          refine am_icmp_gt 120 167 dX10_go_120 rfl (fun c120 => absurd c120 q1') (fun c120 => ?_)
          refine am_lload_n 123 dX10_go_123 rfl ?_
          refine am_iload 124 dX10_go_124 rfl ?_
          refine am_lshr 126 dX10_go_126 ?_
          refine am_lconst 127 (v := 1) dX10_go_127 rfl ?_
          refine am_land 128 dX10_go_128 ?_
          refine am_lconst 129 (v := 1) dX10_go_129 rfl ?_
          refine am_lcmp 130 dX10_go_130 ?_
          refine am_if_ne 131 137 dX10_go_131 rfl (fun c131 => absurd c131 (fun q => q hb)) (fun c131 => ?_)
          refine am_goto 134 (tgt := 167) dX10_go_134 rfl ?_
          exact more _ _ _ _ _ e1 e3
        · have hb : ¬ lg_cmp (l >>> ((nI j).toInt64 &&& 63) &&& 1) 1 = 0 := fun z => q2 ((x_bit_iff htk (by omega : j < 48)).mp (by rw [← hl]; exact z))
          have nx := next j nw1 bs1 mo1 le1 (l ||| 1 <<< ((nI j).toInt64 &&& 63)) (pa + 1) (su + nI ((x_dist PX PY X Y) 3 j)) (Or.inr ⟨hj, ⟨(fun z => by rw [hc] at z; cases z), q1⟩, fun i hi z => q2 ((x_tk_bit (by omega) 3).mpr ⟨i, hi, z⟩)⟩) e1 (by rw [hl, x_shl j (by omega), x_or, if_neg (by omega)]) (by rw [hpa, nI_1, if_neg (by omega)]) (by rw [hsu, nI_add, if_neg (by omega)]) e2
          rw [show x_dg j = nI j from if_neg (by omega)] at nx
          refine am_iload 63 dX10_go_63 rfl ?_
          refine am_aload_n 65 dX10_go_65 rfl ?_
          refine am_getfield 66 dX10_go_66 fX10_26 (by first | exact r_g0 | exact r_g1 | exact r_g2 | exact hgx0 | exact hgx1 | exact hgx2 | exact hgx3 | exact hgx4 | assumption) rfl ?_
          refine am_getfield 69 dX10_go_69 fX10_30 (by first | exact r_g0 | exact r_g1 | exact r_g2 | exact hgx0 | exact hgx1 | exact hgx2 | exact hgx3 | exact hgx4 | assumption) rfl ?_
          refine am_icmp_ge 72 173 dX10_go_72 rfl (fun c72 => absurd c72 hPj) (fun c72 => ?_)
          refine am_aload_n 75 dX10_go_75 rfl ?_
          refine am_getfield 76 dX10_go_76 fX10_3 (by first | exact r_g0 | exact r_g1 | exact r_g2 | exact hgx0 | exact hgx1 | exact hgx2 | exact hgx3 | exact hgx4 | assumption) rfl ?_
          refine am_getfieldN 79 dX10_go_79 fnX10_61 (by first | exact r_g0 | exact r_g1 | exact r_g2 | exact hgx0 | exact hgx1 | exact hgx2 | exact hgx3 | exact hgx4 | assumption) rfl ?_
          refine am_iload_n 82 dX10_go_82 rfl ?_
          refine am_aaload 83 dX10_go_83 rfl (by first | exact r_g0 | exact r_g1 | exact r_g2 | exact hgx0 | exact hgx1 | exact hgx2 | exact hgx3 | exact hgx4 | assumption) (am_ix (c := 3) (by decide) (by decide)) ?_
          rw [show (3 : Int32).toNatClampNeg = 3 from rfl, hc, show va_rf (some c) = Value.ref c from rfl]
          refine am_ifnull 84 dX10_go_84 ?_
          refine am_aload_n 87 dX10_go_87 rfl ?_
          refine am_getfield 88 dX10_go_88 fX10_3 (by first | exact r_g0 | exact r_g1 | exact r_g2 | exact hgx0 | exact hgx1 | exact hgx2 | exact hgx3 | exact hgx4 | assumption) rfl ?_
          refine am_getfieldN 91 dX10_go_91 fnX10_61 (by first | exact r_g0 | exact r_g1 | exact r_g2 | exact hgx0 | exact hgx1 | exact hgx2 | exact hgx3 | exact hgx4 | assumption) rfl ?_
          refine am_iload_n 94 dX10_go_94 rfl ?_
          refine am_aaload 95 dX10_go_95 rfl (by first | exact r_g0 | exact r_g1 | exact r_g2 | exact hgx0 | exact hgx1 | exact hgx2 | exact hgx3 | exact hgx4 | assumption) (am_ix (c := 3) (by decide) (by decide)) ?_
          rw [show (3 : Int32).toNatClampNeg = 3 from rfl, hc, show va_rf (some c) = Value.ref c from rfl]
          refine am_aload_n 96 dX10_go_96 rfl ?_
          refine am_getfield 97 dX10_go_97 fX10_35 (by first | exact r_g0 | exact r_g1 | exact r_g2 | exact hgx0 | exact hgx1 | exact hgx2 | exact hgx3 | exact hgx4 | assumption) rfl ?_
          refine am_iload 100 dX10_go_100 rfl ?_
          refine am_iaload 102 dX10_go_102 rfl (by first | exact r_g0 | exact r_g1 | exact r_g2 | exact hgx0 | exact hgx1 | exact hgx2 | exact hgx3 | exact hgx4 | assumption) (am_ix hj (by omega)) ?_
          rw [nI_clamp (n := j) (by omega), px1]
          refine am_aload_n 103 dX10_go_103 rfl ?_
          refine am_getfield 104 dX10_go_104 fX10_38 (by first | exact r_g0 | exact r_g1 | exact r_g2 | exact hgx0 | exact hgx1 | exact hgx2 | exact hgx3 | exact hgx4 | assumption) rfl ?_
          refine am_iload 107 dX10_go_107 rfl ?_
          refine am_iaload 109 dX10_go_109 rfl (by first | exact r_g0 | exact r_g1 | exact r_g2 | exact hgx0 | exact hgx1 | exact hgx2 | exact hgx3 | exact hgx4 | assumption) (am_ix hj (by omega)) ?_
          rw [nI_clamp (n := j) (by omega), py1]
          refine am_V2 110 (mc' := 0) (ms' := 0) (rc := 0) (rs := 0) dX10_go_110 lX10_65 ⟨by decide, by decide⟩ c3 (Nat.le_of_ble_eq_true rfl) (Nat.le_of_ble_eq_true rfl) (far) ?_
          refine am_is_ct ?_
          refine am_istore 113 dX10_go_113 (by decide) ?_
          refine am_iload 115 dX10_go_115 rfl ?_
          refine am_sipush 117 (v := 256) dX10_go_117 (by decide) ?_
          refine am_icmp_gt 120 167 dX10_go_120 rfl (fun c120 => absurd c120 q1') (fun c120 => ?_)
          refine am_lload_n 123 dX10_go_123 rfl ?_
          refine am_iload 124 dX10_go_124 rfl ?_
          refine am_lshr 126 dX10_go_126 ?_
          refine am_lconst 127 (v := 1) dX10_go_127 rfl ?_
          refine am_land 128 dX10_go_128 ?_
          refine am_lconst 129 (v := 1) dX10_go_129 rfl ?_
          refine am_lcmp 130 dX10_go_130 ?_
          refine am_if_ne 131 137 dX10_go_131 rfl (fun c131 => ?_) (fun c131 => absurd c131 hb)
          refine am_aload_n 137 dX10_go_137 rfl ?_
          refine am_getfield 138 dX10_go_138 fX10_15 (by first | exact r_g0 | exact r_g1 | exact r_g2 | exact hgx0 | exact hgx1 | exact hgx2 | exact hgx3 | exact hgx4 | assumption) rfl ?_
          refine am_iload_n 141 dX10_go_141 rfl ?_
          refine am_iload 142 dX10_go_142 rfl ?_
          refine am_iastore 144 dX10_go_144 rfl (by first | exact r_g0 | exact r_g1 | exact r_g2 | exact hgx0 | exact hgx1 | exact hgx2 | exact hgx3 | exact hgx4 | assumption) (am_ix (c := 3) (by decide) (by decide)) ?_
          rw [show (3 : Int32).toNatClampNeg = 3 from rfl, r_gu1]
          refine am_aload_n 145 dX10_go_145 rfl ?_
          refine am_iload_n 146 dX10_go_146 rfl ?_
          refine am_iconst 147 (v := 1) dX10_go_147 (by decide) ?_
          refine am_iadd 148 dX10_go_148 ?_
          refine am_lload_n 149 dX10_go_149 rfl ?_
          refine am_lconst 150 (v := 1) dX10_go_150 rfl ?_
          refine am_iload 151 dX10_go_151 rfl ?_
          refine am_lshl 153 dX10_go_153 ?_
          refine am_lor 154 dX10_go_154 ?_
          refine am_iload 155 dX10_go_155 rfl ?_
          refine am_iconst 157 (v := 1) dX10_go_157 (by decide) ?_
          refine am_iadd 158 dX10_go_158 ?_
          refine am_iload 159 dX10_go_159 rfl ?_
          refine am_iload 161 dX10_go_161 rfl ?_
          refine am_iadd 163 dX10_go_163 ?_
          refine am_V4 164 (mc' := 0) (ms' := 0) (rc := 0) (rs := 0) dX10_go_164 (show am_cV RX10 48 mgo4 4 10 from lX10_48) ⟨by decide, by decide⟩ r_g0 (Nat.le_of_ble_eq_true rfl) (Nat.le_of_ble_eq_true rfl) (nx) ?_
          rintro o n' f' ⟨nw2, bs2, mo2, le2, rfl, rfl, rfl, q1, q2⟩
          refine am_ctI ?_
          exact more _ _ _ _ _ q1 q2
      · have q1' : (256 : Int32) < nI ((x_dist PX PY X Y) 3 j) := (nI_ltI (a := 256) (b := (x_dist PX PY X Y) 3 j) (by decide) (by omega)).mpr (by omega)
        have e3 := x_skip (by omega) hk3 hv (by omega) (Or.inr (Or.inl fun z => q1 z.2)) e2
        refine am_iload 63 dX10_go_63 rfl ?_
        refine am_aload_n 65 dX10_go_65 rfl ?_
        refine am_getfield 66 dX10_go_66 fX10_26 (by first | exact r_g0 | exact r_g1 | exact r_g2 | exact hgx0 | exact hgx1 | exact hgx2 | exact hgx3 | exact hgx4 | assumption) rfl ?_
        refine am_getfield 69 dX10_go_69 fX10_30 (by first | exact r_g0 | exact r_g1 | exact r_g2 | exact hgx0 | exact hgx1 | exact hgx2 | exact hgx3 | exact hgx4 | assumption) rfl ?_
        refine am_icmp_ge 72 173 dX10_go_72 rfl (fun c72 => absurd c72 hPj) (fun c72 => ?_)
        refine am_aload_n 75 dX10_go_75 rfl ?_
        refine am_getfield 76 dX10_go_76 fX10_3 (by first | exact r_g0 | exact r_g1 | exact r_g2 | exact hgx0 | exact hgx1 | exact hgx2 | exact hgx3 | exact hgx4 | assumption) rfl ?_
        refine am_getfieldN 79 dX10_go_79 fnX10_61 (by first | exact r_g0 | exact r_g1 | exact r_g2 | exact hgx0 | exact hgx1 | exact hgx2 | exact hgx3 | exact hgx4 | assumption) rfl ?_
        refine am_iload_n 82 dX10_go_82 rfl ?_
        refine am_aaload 83 dX10_go_83 rfl (by first | exact r_g0 | exact r_g1 | exact r_g2 | exact hgx0 | exact hgx1 | exact hgx2 | exact hgx3 | exact hgx4 | assumption) (am_ix (c := 3) (by decide) (by decide)) ?_
        rw [show (3 : Int32).toNatClampNeg = 3 from rfl, hc, show va_rf (some c) = Value.ref c from rfl]
        refine am_ifnull 84 dX10_go_84 ?_
        refine am_aload_n 87 dX10_go_87 rfl ?_
        refine am_getfield 88 dX10_go_88 fX10_3 (by first | exact r_g0 | exact r_g1 | exact r_g2 | exact hgx0 | exact hgx1 | exact hgx2 | exact hgx3 | exact hgx4 | assumption) rfl ?_
        refine am_getfieldN 91 dX10_go_91 fnX10_61 (by first | exact r_g0 | exact r_g1 | exact r_g2 | exact hgx0 | exact hgx1 | exact hgx2 | exact hgx3 | exact hgx4 | assumption) rfl ?_
        refine am_iload_n 94 dX10_go_94 rfl ?_
        refine am_aaload 95 dX10_go_95 rfl (by first | exact r_g0 | exact r_g1 | exact r_g2 | exact hgx0 | exact hgx1 | exact hgx2 | exact hgx3 | exact hgx4 | assumption) (am_ix (c := 3) (by decide) (by decide)) ?_
        rw [show (3 : Int32).toNatClampNeg = 3 from rfl, hc, show va_rf (some c) = Value.ref c from rfl]
        refine am_aload_n 96 dX10_go_96 rfl ?_
        refine am_getfield 97 dX10_go_97 fX10_35 (by first | exact r_g0 | exact r_g1 | exact r_g2 | exact hgx0 | exact hgx1 | exact hgx2 | exact hgx3 | exact hgx4 | assumption) rfl ?_
        refine am_iload 100 dX10_go_100 rfl ?_
        refine am_iaload 102 dX10_go_102 rfl (by first | exact r_g0 | exact r_g1 | exact r_g2 | exact hgx0 | exact hgx1 | exact hgx2 | exact hgx3 | exact hgx4 | assumption) (am_ix hj (by omega)) ?_
        rw [nI_clamp (n := j) (by omega), px1]
        refine am_aload_n 103 dX10_go_103 rfl ?_
        refine am_getfield 104 dX10_go_104 fX10_38 (by first | exact r_g0 | exact r_g1 | exact r_g2 | exact hgx0 | exact hgx1 | exact hgx2 | exact hgx3 | exact hgx4 | assumption) rfl ?_
        refine am_iload 107 dX10_go_107 rfl ?_
        refine am_iaload 109 dX10_go_109 rfl (by first | exact r_g0 | exact r_g1 | exact r_g2 | exact hgx0 | exact hgx1 | exact hgx2 | exact hgx3 | exact hgx4 | assumption) (am_ix hj (by omega)) ?_
        rw [nI_clamp (n := j) (by omega), py1]
        refine am_V2 110 (mc' := 0) (ms' := 0) (rc := 0) (rs := 0) dX10_go_110 lX10_65 ⟨by decide, by decide⟩ c3 (Nat.le_of_ble_eq_true rfl) (Nat.le_of_ble_eq_true rfl) (far) ?_
        refine am_is_ct ?_
        refine am_istore 113 dX10_go_113 (by decide) ?_
        refine am_iload 115 dX10_go_115 rfl ?_
        refine am_sipush 117 (v := 256) dX10_go_117 (by decide) ?_
        refine am_icmp_gt 120 167 dX10_go_120 rfl (fun c120 => ?_) (fun c120 => absurd q1' c120)
        exact more _ _ _ _ _ e1 e3
set_option maxHeartbeats 2000000 in
theorem s_xgo2 {l : Int64} {pa su : Int32} (hM : x_Mt f t v m P cs xs ys PX PY X Y) (hv : x_pv (x_may cs PX PY X Y) P 2 e) (hnw : ∀ j, j < 2 → nw j = x_dg (e j)) (hl : l = lN (x_tk e 2)) (hpa : pa = nI (x_np e 2)) (hsu : su = nI (x_ns (x_dist PX PY X Y) e 2)) (hst : x_st (x_dist PX PY X Y) (x_may cs PX PY X Y) P (x_pre e 2 * 64 ^ (5 - 2)) mo le bs) : AM mgo2 0 0 [.ref t, .int 2, .long l, .int pa, .int su] n (r_gp f t v m nw bs mo le) (x_gQ f t v m P n 2 ((x_pre e 2 + 1) * 64 ^ (5 - 2)) nw (x_dist PX PY X Y) (x_may cs PX PY X Y)) := by
  have hM0 := hM
  obtain ⟨⟨hvt, hm3, hP⟩, ⟨w0, w1, w2, hvw⟩, ⟨a0, a1, a2, a3, a4, a5, r, h0⟩, h3, hx, hy, hpk, hcs⟩ := hM
  have hk2 : 2 < 5 := by decide
  have he63 : ∀ j, j < 2 → e j = 63 ∨ e j < 48 := fun j hj => (hv.1 j hj).imp id fun h => by omega
  have htk := x_tk_lt 2 he63
  generalize hQ : (x_gQ f t v m P n 2 ((x_pre e 2 + 1) * 64 ^ (5 - 2)) nw (x_dist PX PY X Y) (x_may cs PX PY X Y)) = Q
  -- one name more: this peak, or none
  have next : ∀ (d : Nat) (nw1 bs1 : Nat → Int32) (mo1 le1 : Int32) (l1 : Int64) (p1 s1 : Int32), (d = 63 ∨ (d < P ∧ (x_may cs PX PY X Y) 2 d ∧ ∀ j, j < 2 → e j ≠ d)) → (∀ j, j < 2 → nw1 j = nw j) → l1 = lN (if d = 63 then x_tk e 2 else x_tk e 2 ||| 2 ^ d) → p1 = nI (x_np e 2 + (if d = 63 then 0 else 1)) → s1 = nI (x_ns (x_dist PX PY X Y) e 2 + (if d = 63 then 0 else (x_dist PX PY X Y) 2 d)) → x_st (x_dist PX PY X Y) (x_may cs PX PY X Y) P ((x_pre e 2 * 64 + d) * 64 ^ (4 - 2)) mo1 le1 bs1 → AM mgo3 0 0 [.ref t, .int (2 + 1), .long l1, .int p1, .int s1] n (r_gp f t v m (va_up nw1 2 (x_dg d)) bs1 mo1 le1) (fun o n' f' => ∃ (nw' bs' : Nat → Int32) (mo' le' : Int32), o = .inl none ∧ n = n' ∧ f' = r_gp f t v m nw' bs' mo' le' ∧ (∀ j, j < 2 → nw' j = nw j) ∧ x_st (x_dist PX PY X Y) (x_may cs PX PY X Y) P ((x_pre e 2 * 64 + d + 1) * 64 ^ (4 - 2)) mo' le' bs') := by
    intro d nw1 bs1 mo1 le1 l1 p1 s1 hd hn1 hl1 hp1 hs1 hst1
    refine AW.mono ?_ (s_xgo3 (e := va_up e 2 d) hM0 (x_next hv hd hP) (x_dg_up (fun j hj => (hn1 j hj).trans (hnw j hj)) rfl) (by rw [x_tk_up]; exact hl1) (by rw [x_np_up]; exact hp1) (by rw [x_ns_up]; exact hs1) (by rw [x_pre_up]; exact hst1))
    rintro o n' f' ⟨nw', bs', mo', le', q1, q2, q3, q4, q5⟩
    refine ⟨nw', bs', mo', le', q1, q2, q3, fun j hj => ?_, ?_⟩
    · rw [q4 j (by omega), am_up_ne (by omega)]
      exact hn1 j hj
    · rw [x_pre_up] at q5
      exact q5
  show AW mgo2 0 0 0 [some (.ref t), some (.int 2), some (.long l), none, some (.int pa), some (.int su), none, none] [] n _ Q
  refine am_iload_n 0 dX10_go_0 rfl ?_
  refine am_iconst 1 (v := 5) dX10_go_1 (by decide) ?_
  refine am_icmp_ne 2 60 dX10_go_2 rfl (fun c2 => ?_) (fun c2 => absurd c2 (by decide))
  refine am_iconst 60 (v := 0) dX10_go_60 (by decide) ?_
  refine am_istore 61 dX10_go_61 (by decide) ?_
  have hend : ∀ (nw1 bs1 : Nat → Int32) (mo1 le1 : Int32) (x6 : Int32) (x7 : Option Value), (∀ j, j < 2 → nw1 j = nw j) → x_st (x_dist PX PY X Y) (x_may cs PX PY X Y) P ((x_pre e 2 * 64 + 63) * 64 ^ (4 - 2)) mo1 le1 bs1 → AW mgo2 0 0 173 [some (.ref t), some (.int 2), some (.long l), none, some (.int pa), some (.int su), some (.int x6), x7] [] n (r_gp f t v m nw1 bs1 mo1 le1) Q := by
    intro nw1 bs1 mo1 le1 x6 x7 e1 e2
    have nx := next 63 nw1 bs1 mo1 le1 l pa su (Or.inl rfl) e1 hl hpa hsu e2
    refine am_aload_n 173 dX10_go_173 rfl ?_
    refine am_getfield 174 dX10_go_174 fX10_15 (by first | exact r_g0 | exact r_g1 | exact r_g2 | exact hgx0 | exact hgx1 | exact hgx2 | exact hgx3 | exact hgx4 | assumption) rfl ?_
    refine am_iload_n 177 dX10_go_177 rfl ?_
    refine am_iconst 178 (v := (-1)) dX10_go_178 (by decide) ?_
    refine am_iastore 179 dX10_go_179 rfl (by first | exact r_g0 | exact r_g1 | exact r_g2 | exact hgx0 | exact hgx1 | exact hgx2 | exact hgx3 | exact hgx4 | assumption) (am_ix (c := 2) (by decide) (by decide)) ?_
    rw [show (2 : Int32).toNatClampNeg = 2 from rfl, r_gu1]
    refine am_aload_n 180 dX10_go_180 rfl ?_
    refine am_iload_n 181 dX10_go_181 rfl ?_
    refine am_iconst 182 (v := 1) dX10_go_182 (by decide) ?_
    refine am_iadd 183 dX10_go_183 ?_
    refine am_lload_n 184 dX10_go_184 rfl ?_
    refine am_iload 185 dX10_go_185 rfl ?_
    refine am_iload 187 dX10_go_187 rfl ?_
    refine am_V4 189 (mc' := 0) (ms' := 0) (rc := 0) (rs := 0) dX10_go_189 (show am_cV RX10 48 mgo3 4 10 from lX10_48) ⟨by decide, by decide⟩ r_g0 (Nat.le_of_ble_eq_true rfl) (Nat.le_of_ble_eq_true rfl) (nx) ?_
    rintro o n' f' ⟨nw2, bs2, mo2, le2, rfl, rfl, rfl, q1, q2⟩
    refine am_ctI ?_
    refine am_return 192 dX10_go_192 rfl ?_
    subst hQ
    refine ⟨nw2, bs2, mo2, le2, rfl, rfl, rfl, q1, ?_⟩
    rw [show (x_pre e 2 + 1) * 64 ^ (5 - 2) = (x_pre e 2 * 64 + 63 + 1) * 64 ^ (4 - 2) by rw [show (64 : Nat) ^ (5 - 2) = 262144 from rfl, show (64 : Nat) ^ (4 - 2) = 4096 from rfl]; omega]
    exact q2
  have hstart : x_st (x_dist PX PY X Y) (x_may cs PX PY X Y) P ((x_pre e 2 * 64 + 0) * 64 ^ (4 - 2)) mo le bs := by
    rw [show (x_pre e 2 * 64 + 0) * 64 ^ (4 - 2) = x_pre e 2 * 64 ^ (5 - 2) by rw [show (64 : Nat) ^ (5 - 2) = 262144 from rfl, show (64 : Nat) ^ (4 - 2) = 4096 from rfl]; omega]
    exact hst
  refine am_for P (fun j (s : ((Nat → Int32) × (Nat → Int32)) × (Int32 × Int32) × Option Value) => (∀ i, i < 2 → s.1.1 i = nw i) ∧ x_st (x_dist PX PY X Y) (x_may cs PX PY X Y) P ((x_pre e 2 * 64 + j) * 64 ^ (4 - 2)) s.2.1.1 s.2.1.2 s.1.2) (fun j s => AW mgo2 0 0 63 [some (.ref t), some (.int 2), some (.long l), none, some (.int pa), some (.int su), some (.int (nI j)), s.2.2] [] n (r_gp f t v m s.1.1 s.1.2 s.2.1.1 s.2.1.2) Q) ?_ ?_ 0 ((nw, bs), (mo, le), none) (by omega) ⟨fun _ _ => rfl, hstart⟩
  · rintro ⟨⟨nw1, bs1⟩, ⟨mo1, le1⟩, z⟩ ⟨e1, e2⟩
    have e1 : ∀ i, i < 2 → nw1 i = nw i := e1
    have e2 : x_st (x_dist PX PY X Y) (x_may cs PX PY X Y) P ((x_pre e 2 * 64 + P) * 64 ^ (4 - 2)) mo1 le1 bs1 := e2
    show AW mgo2 0 0 63 [some (.ref t), some (.int 2), some (.long l), none, some (.int pa), some (.int su), some (.int (nI P)), z] [] n (r_gp f t v m nw1 bs1 mo1 le1) _
    have hgx0 : r_gp f t v m nw1 bs1 mo1 le1 v = _ := (r_gx (Or.inl hvt)).trans hvw
    have e3 := x_skips (by omega) hk2 hv (63 - P) P (by omega) (fun k' h1 _ => Or.inl h1) e2
    refine am_iload 63 dX10_go_63 rfl ?_
    refine am_aload_n 65 dX10_go_65 rfl ?_
    refine am_getfield 66 dX10_go_66 fX10_26 (by first | exact r_g0 | exact r_g1 | exact r_g2 | exact hgx0 | exact hgx1 | exact hgx2 | exact hgx3 | exact hgx4 | assumption) rfl ?_
    refine am_getfield 69 dX10_go_69 fX10_30 (by first | exact r_g0 | exact r_g1 | exact r_g2 | exact hgx0 | exact hgx1 | exact hgx2 | exact hgx3 | exact hgx4 | assumption) rfl ?_
    refine am_icmp_ge 72 173 dX10_go_72 rfl (fun c72 => ?_) (fun c72 => absurd (Int32.le_refl _) c72)
    exact hend _ _ _ _ _ _ e1 e3
  · rintro j ⟨⟨nw1, bs1⟩, ⟨mo1, le1⟩, z⟩ hj ⟨e1, e2⟩ ih
    have e1 : ∀ i, i < 2 → nw1 i = nw i := e1
    have e2 : x_st (x_dist PX PY X Y) (x_may cs PX PY X Y) P ((x_pre e 2 * 64 + j) * 64 ^ (4 - 2)) mo1 le1 bs1 := e2
    show AW mgo2 0 0 63 [some (.ref t), some (.int 2), some (.long l), none, some (.int pa), some (.int su), some (.int (nI j)), z] [] n (r_gp f t v m nw1 bs1 mo1 le1) _
    have hgx0 : r_gp f t v m nw1 bs1 mo1 le1 v = _ := (r_gx (Or.inl hvt)).trans hvw
    have hgx1 : r_gp f t v m nw1 bs1 mo1 le1 m = _ := (r_gx (Or.inl (by omega))).trans h0
    have hgx2 : r_gp f t v m nw1 bs1 mo1 le1 (m + 3) = _ := (r_gx (Or.inl hm3)).trans h3
    have hgx3 : r_gp f t v m nw1 bs1 mo1 le1 (t + 3) = _ := (r_gx (Or.inr (by omega))).trans hx
    have hgx4 : r_gp f t v m nw1 bs1 mo1 le1 (t + 4) = _ := (r_gx (Or.inr (by omega))).trans hy
    have more : ∀ (nw1 bs1 : Nat → Int32) (mo1 le1 : Int32) (x7 : Option Value), (∀ i, i < 2 → nw1 i = nw i) → x_st (x_dist PX PY X Y) (x_may cs PX PY X Y) P ((x_pre e 2 * 64 + j + 1) * 64 ^ (4 - 2)) mo1 le1 bs1 → AW mgo2 0 0 167 [some (.ref t), some (.int 2), some (.long l), none, some (.int pa), some (.int su), some (.int (nI j)), x7] [] n (r_gp f t v m nw1 bs1 mo1 le1) Q := by
      intro nw1 bs1 mo1 le1 x7 e1 e2
      refine am_iinc 167 (v := nI (j + 1)) dX10_go_167 rfl (nI_1 (j)) (by decide) ?_
      refine am_goto 170 (tgt := 63) dX10_go_170 rfl ?_
      exact ih ((_, _), (_, _), _) ⟨e1, e2⟩
    have hPj : ¬ nI P ≤ nI j := nI_ge hj (by omega)
    rcases hc : cs 2 with _ | c
    · have e3 := x_skips (by omega) hk2 hv (63 - j) j (by omega) (fun k' _ _ => Or.inr (Or.inl fun q => q.1 hc)) e2
      refine am_iload 63 dX10_go_63 rfl ?_
      refine am_aload_n 65 dX10_go_65 rfl ?_
      refine am_getfield 66 dX10_go_66 fX10_26 (by first | exact r_g0 | exact r_g1 | exact r_g2 | exact hgx0 | exact hgx1 | exact hgx2 | exact hgx3 | exact hgx4 | assumption) rfl ?_
      refine am_getfield 69 dX10_go_69 fX10_30 (by first | exact r_g0 | exact r_g1 | exact r_g2 | exact hgx0 | exact hgx1 | exact hgx2 | exact hgx3 | exact hgx4 | assumption) rfl ?_
      refine am_icmp_ge 72 173 dX10_go_72 rfl (fun c72 => absurd c72 hPj) (fun c72 => ?_)
      refine am_aload_n 75 dX10_go_75 rfl ?_
      refine am_getfield 76 dX10_go_76 fX10_3 (by first | exact r_g0 | exact r_g1 | exact r_g2 | exact hgx0 | exact hgx1 | exact hgx2 | exact hgx3 | exact hgx4 | assumption) rfl ?_
      refine am_getfieldN 79 dX10_go_79 fnX10_61 (by first | exact r_g0 | exact r_g1 | exact r_g2 | exact hgx0 | exact hgx1 | exact hgx2 | exact hgx3 | exact hgx4 | assumption) rfl ?_
      refine am_iload_n 82 dX10_go_82 rfl ?_
      refine am_aaload 83 dX10_go_83 rfl (by first | exact r_g0 | exact r_g1 | exact r_g2 | exact hgx0 | exact hgx1 | exact hgx2 | exact hgx3 | exact hgx4 | assumption) (am_ix (c := 2) (by decide) (by decide)) ?_
      rw [show (2 : Int32).toNatClampNeg = 2 from rfl, hc, show va_rf none = Value.null from rfl]
      refine am_ifnullN 84 (tgt := 173) dX10_go_84 rfl ?_
      exact hend _ _ _ _ _ _ e1 e3
    · obtain ⟨c1, cx, cy, ap, κ, c2, c4, c5⟩ := hcs 2 hk2 c hc
      obtain ⟨px1, py1, px2, py2⟩ := hpk j hj
      obtain ⟨sq1, sq2⟩ := x_sq57 (PX j) (by omega) (X 2) (by omega)
      obtain ⟨sq3, sq4⟩ := x_sq57 (PY j) (by omega) (Y 2) (by omega)
      have c3 : r_gp f t v m nw1 bs1 mo1 le1 c = _ := (r_gx (Or.inl c1)).trans c2
      have hF : (x_dist PX PY X Y) 2 j ≤ 6272 := by unfold x_dist; omega
      have far : AM mX9_far 0 0 [.ref c, .int (nI (PX j)), .int (nI (PY j))] n (r_gp f t v m nw1 bs1 mo1 le1) (am_is (some (.int (nI ((x_dist PX PY X Y) 2 j)))) n (r_gp f t v m nw1 bs1 mo1 le1)) := by
        have h := s_rfar (n := n) (x := nI (PX j)) (y := nI (PY j)) c3
        rw [c4, c5, sq1, sq3, nI_add] at h
        exact h
      unfold r_kF at c3
      have pre := fun Q9 : Prop => Q9
      by_cases q1 : (x_dist PX PY X Y) 2 j ≤ 256
      · have q1' : ¬ (256 : Int32) < nI ((x_dist PX PY X Y) 2 j) := fun z => by
          have := (nI_ltI (a := 256) (b := (x_dist PX PY X Y) 2 j) (by decide) (by omega)).mp z
          omega
        by_cases q2 : (x_tk e 2).testBit j = true
        · have hb := (x_bit_iff htk (by omega : j < 48)).mpr q2
          rw [← hl] at hb
          have e3 := x_skip (by omega) hk2 hv (by omega) (Or.inr (Or.inr ((x_tk_bit (by omega) 2).mp q2))) e2
          refine am_iload 63 dX10_go_63 rfl ?_
          refine am_aload_n 65 dX10_go_65 rfl ?_
          refine am_getfield 66 dX10_go_66 fX10_26 (by first | exact r_g0 | exact r_g1 | exact r_g2 | exact hgx0 | exact hgx1 | exact hgx2 | exact hgx3 | exact hgx4 | assumption) rfl ?_
          refine am_getfield 69 dX10_go_69 fX10_30 (by first | exact r_g0 | exact r_g1 | exact r_g2 | exact hgx0 | exact hgx1 | exact hgx2 | exact hgx3 | exact hgx4 | assumption) rfl ?_
          refine am_icmp_ge 72 173 dX10_go_72 rfl (fun c72 => absurd c72 hPj) (fun c72 => ?_)
          refine am_aload_n 75 dX10_go_75 rfl ?_
          refine am_getfield 76 dX10_go_76 fX10_3 (by first | exact r_g0 | exact r_g1 | exact r_g2 | exact hgx0 | exact hgx1 | exact hgx2 | exact hgx3 | exact hgx4 | assumption) rfl ?_
          refine am_getfieldN 79 dX10_go_79 fnX10_61 (by first | exact r_g0 | exact r_g1 | exact r_g2 | exact hgx0 | exact hgx1 | exact hgx2 | exact hgx3 | exact hgx4 | assumption) rfl ?_
          refine am_iload_n 82 dX10_go_82 rfl ?_
          refine am_aaload 83 dX10_go_83 rfl (by first | exact r_g0 | exact r_g1 | exact r_g2 | exact hgx0 | exact hgx1 | exact hgx2 | exact hgx3 | exact hgx4 | assumption) (am_ix (c := 2) (by decide) (by decide)) ?_
          rw [show (2 : Int32).toNatClampNeg = 2 from rfl, hc, show va_rf (some c) = Value.ref c from rfl]
          refine am_ifnull 84 dX10_go_84 ?_
          refine am_aload_n 87 dX10_go_87 rfl ?_
          refine am_getfield 88 dX10_go_88 fX10_3 (by first | exact r_g0 | exact r_g1 | exact r_g2 | exact hgx0 | exact hgx1 | exact hgx2 | exact hgx3 | exact hgx4 | assumption) rfl ?_
          refine am_getfieldN 91 dX10_go_91 fnX10_61 (by first | exact r_g0 | exact r_g1 | exact r_g2 | exact hgx0 | exact hgx1 | exact hgx2 | exact hgx3 | exact hgx4 | assumption) rfl ?_
          refine am_iload_n 94 dX10_go_94 rfl ?_
          refine am_aaload 95 dX10_go_95 rfl (by first | exact r_g0 | exact r_g1 | exact r_g2 | exact hgx0 | exact hgx1 | exact hgx2 | exact hgx3 | exact hgx4 | assumption) (am_ix (c := 2) (by decide) (by decide)) ?_
          rw [show (2 : Int32).toNatClampNeg = 2 from rfl, hc, show va_rf (some c) = Value.ref c from rfl]
          refine am_aload_n 96 dX10_go_96 rfl ?_
          refine am_getfield 97 dX10_go_97 fX10_35 (by first | exact r_g0 | exact r_g1 | exact r_g2 | exact hgx0 | exact hgx1 | exact hgx2 | exact hgx3 | exact hgx4 | assumption) rfl ?_
          refine am_iload 100 dX10_go_100 rfl ?_
          refine am_iaload 102 dX10_go_102 rfl (by first | exact r_g0 | exact r_g1 | exact r_g2 | exact hgx0 | exact hgx1 | exact hgx2 | exact hgx3 | exact hgx4 | assumption) (am_ix hj (by omega)) ?_
          rw [nI_clamp (n := j) (by omega), px1]
          refine am_aload_n 103 dX10_go_103 rfl ?_
          refine am_getfield 104 dX10_go_104 fX10_38 (by first | exact r_g0 | exact r_g1 | exact r_g2 | exact hgx0 | exact hgx1 | exact hgx2 | exact hgx3 | exact hgx4 | assumption) rfl ?_
          refine am_iload 107 dX10_go_107 rfl ?_
          refine am_iaload 109 dX10_go_109 rfl (by first | exact r_g0 | exact r_g1 | exact r_g2 | exact hgx0 | exact hgx1 | exact hgx2 | exact hgx3 | exact hgx4 | assumption) (am_ix hj (by omega)) ?_
          rw [nI_clamp (n := j) (by omega), py1]
          refine am_V2 110 (mc' := 0) (ms' := 0) (rc := 0) (rs := 0) dX10_go_110 lX10_65 ⟨by decide, by decide⟩ c3 (Nat.le_of_ble_eq_true rfl) (Nat.le_of_ble_eq_true rfl) (far) ?_
          refine am_is_ct ?_
          refine am_istore 113 dX10_go_113 (by decide) ?_
          refine am_iload 115 dX10_go_115 rfl ?_
          refine am_sipush 117 (v := 256) dX10_go_117 (by decide) ?_
          refine am_icmp_gt 120 167 dX10_go_120 rfl (fun c120 => absurd c120 q1') (fun c120 => ?_)
          refine am_lload_n 123 dX10_go_123 rfl ?_
          refine am_iload 124 dX10_go_124 rfl ?_
          refine am_lshr 126 dX10_go_126 ?_
          refine am_lconst 127 (v := 1) dX10_go_127 rfl ?_
          refine am_land 128 dX10_go_128 ?_
          refine am_lconst 129 (v := 1) dX10_go_129 rfl ?_
          refine am_lcmp 130 dX10_go_130 ?_
          refine am_if_ne 131 137 dX10_go_131 rfl (fun c131 => absurd c131 (fun q => q hb)) (fun c131 => ?_)
          refine am_goto 134 (tgt := 167) dX10_go_134 rfl ?_
          exact more _ _ _ _ _ e1 e3
        · have hb : ¬ lg_cmp (l >>> ((nI j).toInt64 &&& 63) &&& 1) 1 = 0 := fun z => q2 ((x_bit_iff htk (by omega : j < 48)).mp (by rw [← hl]; exact z))
          have nx := next j nw1 bs1 mo1 le1 (l ||| 1 <<< ((nI j).toInt64 &&& 63)) (pa + 1) (su + nI ((x_dist PX PY X Y) 2 j)) (Or.inr ⟨hj, ⟨(fun z => by rw [hc] at z; cases z), q1⟩, fun i hi z => q2 ((x_tk_bit (by omega) 2).mpr ⟨i, hi, z⟩)⟩) e1 (by rw [hl, x_shl j (by omega), x_or, if_neg (by omega)]) (by rw [hpa, nI_1, if_neg (by omega)]) (by rw [hsu, nI_add, if_neg (by omega)]) e2
          rw [show x_dg j = nI j from if_neg (by omega)] at nx
          refine am_iload 63 dX10_go_63 rfl ?_
          refine am_aload_n 65 dX10_go_65 rfl ?_
          refine am_getfield 66 dX10_go_66 fX10_26 (by first | exact r_g0 | exact r_g1 | exact r_g2 | exact hgx0 | exact hgx1 | exact hgx2 | exact hgx3 | exact hgx4 | assumption) rfl ?_
          refine am_getfield 69 dX10_go_69 fX10_30 (by first | exact r_g0 | exact r_g1 | exact r_g2 | exact hgx0 | exact hgx1 | exact hgx2 | exact hgx3 | exact hgx4 | assumption) rfl ?_
          refine am_icmp_ge 72 173 dX10_go_72 rfl (fun c72 => absurd c72 hPj) (fun c72 => ?_)
          refine am_aload_n 75 dX10_go_75 rfl ?_
          refine am_getfield 76 dX10_go_76 fX10_3 (by first | exact r_g0 | exact r_g1 | exact r_g2 | exact hgx0 | exact hgx1 | exact hgx2 | exact hgx3 | exact hgx4 | assumption) rfl ?_
          refine am_getfieldN 79 dX10_go_79 fnX10_61 (by first | exact r_g0 | exact r_g1 | exact r_g2 | exact hgx0 | exact hgx1 | exact hgx2 | exact hgx3 | exact hgx4 | assumption) rfl ?_
          refine am_iload_n 82 dX10_go_82 rfl ?_
          refine am_aaload 83 dX10_go_83 rfl (by first | exact r_g0 | exact r_g1 | exact r_g2 | exact hgx0 | exact hgx1 | exact hgx2 | exact hgx3 | exact hgx4 | assumption) (am_ix (c := 2) (by decide) (by decide)) ?_
          rw [show (2 : Int32).toNatClampNeg = 2 from rfl, hc, show va_rf (some c) = Value.ref c from rfl]
          refine am_ifnull 84 dX10_go_84 ?_
          refine am_aload_n 87 dX10_go_87 rfl ?_
          refine am_getfield 88 dX10_go_88 fX10_3 (by first | exact r_g0 | exact r_g1 | exact r_g2 | exact hgx0 | exact hgx1 | exact hgx2 | exact hgx3 | exact hgx4 | assumption) rfl ?_
          refine am_getfieldN 91 dX10_go_91 fnX10_61 (by first | exact r_g0 | exact r_g1 | exact r_g2 | exact hgx0 | exact hgx1 | exact hgx2 | exact hgx3 | exact hgx4 | assumption) rfl ?_
          refine am_iload_n 94 dX10_go_94 rfl ?_
          refine am_aaload 95 dX10_go_95 rfl (by first | exact r_g0 | exact r_g1 | exact r_g2 | exact hgx0 | exact hgx1 | exact hgx2 | exact hgx3 | exact hgx4 | assumption) (am_ix (c := 2) (by decide) (by decide)) ?_
          rw [show (2 : Int32).toNatClampNeg = 2 from rfl, hc, show va_rf (some c) = Value.ref c from rfl]
          refine am_aload_n 96 dX10_go_96 rfl ?_
          refine am_getfield 97 dX10_go_97 fX10_35 (by first | exact r_g0 | exact r_g1 | exact r_g2 | exact hgx0 | exact hgx1 | exact hgx2 | exact hgx3 | exact hgx4 | assumption) rfl ?_
          refine am_iload 100 dX10_go_100 rfl ?_
          refine am_iaload 102 dX10_go_102 rfl (by first | exact r_g0 | exact r_g1 | exact r_g2 | exact hgx0 | exact hgx1 | exact hgx2 | exact hgx3 | exact hgx4 | assumption) (am_ix hj (by omega)) ?_
          rw [nI_clamp (n := j) (by omega), px1]
          refine am_aload_n 103 dX10_go_103 rfl ?_
          refine am_getfield 104 dX10_go_104 fX10_38 (by first | exact r_g0 | exact r_g1 | exact r_g2 | exact hgx0 | exact hgx1 | exact hgx2 | exact hgx3 | exact hgx4 | assumption) rfl ?_
          refine am_iload 107 dX10_go_107 rfl ?_
          refine am_iaload 109 dX10_go_109 rfl (by first | exact r_g0 | exact r_g1 | exact r_g2 | exact hgx0 | exact hgx1 | exact hgx2 | exact hgx3 | exact hgx4 | assumption) (am_ix hj (by omega)) ?_
          rw [nI_clamp (n := j) (by omega), py1]
          refine am_V2 110 (mc' := 0) (ms' := 0) (rc := 0) (rs := 0) dX10_go_110 lX10_65 ⟨by decide, by decide⟩ c3 (Nat.le_of_ble_eq_true rfl) (Nat.le_of_ble_eq_true rfl) (far) ?_
          refine am_is_ct ?_
          refine am_istore 113 dX10_go_113 (by decide) ?_
          refine am_iload 115 dX10_go_115 rfl ?_
          refine am_sipush 117 (v := 256) dX10_go_117 (by decide) ?_
          refine am_icmp_gt 120 167 dX10_go_120 rfl (fun c120 => absurd c120 q1') (fun c120 => ?_)
          refine am_lload_n 123 dX10_go_123 rfl ?_
          refine am_iload 124 dX10_go_124 rfl ?_
          refine am_lshr 126 dX10_go_126 ?_
          refine am_lconst 127 (v := 1) dX10_go_127 rfl ?_
          refine am_land 128 dX10_go_128 ?_
          refine am_lconst 129 (v := 1) dX10_go_129 rfl ?_
          refine am_lcmp 130 dX10_go_130 ?_
          refine am_if_ne 131 137 dX10_go_131 rfl (fun c131 => ?_) (fun c131 => absurd c131 hb)
          refine am_aload_n 137 dX10_go_137 rfl ?_
          refine am_getfield 138 dX10_go_138 fX10_15 (by first | exact r_g0 | exact r_g1 | exact r_g2 | exact hgx0 | exact hgx1 | exact hgx2 | exact hgx3 | exact hgx4 | assumption) rfl ?_
          refine am_iload_n 141 dX10_go_141 rfl ?_
          refine am_iload 142 dX10_go_142 rfl ?_
          refine am_iastore 144 dX10_go_144 rfl (by first | exact r_g0 | exact r_g1 | exact r_g2 | exact hgx0 | exact hgx1 | exact hgx2 | exact hgx3 | exact hgx4 | assumption) (am_ix (c := 2) (by decide) (by decide)) ?_
          rw [show (2 : Int32).toNatClampNeg = 2 from rfl, r_gu1]
          refine am_aload_n 145 dX10_go_145 rfl ?_
          refine am_iload_n 146 dX10_go_146 rfl ?_
          refine am_iconst 147 (v := 1) dX10_go_147 (by decide) ?_
          refine am_iadd 148 dX10_go_148 ?_
          refine am_lload_n 149 dX10_go_149 rfl ?_
          refine am_lconst 150 (v := 1) dX10_go_150 rfl ?_
          refine am_iload 151 dX10_go_151 rfl ?_
          refine am_lshl 153 dX10_go_153 ?_
          refine am_lor 154 dX10_go_154 ?_
          refine am_iload 155 dX10_go_155 rfl ?_
          refine am_iconst 157 (v := 1) dX10_go_157 (by decide) ?_
          refine am_iadd 158 dX10_go_158 ?_
          refine am_iload 159 dX10_go_159 rfl ?_
          refine am_iload 161 dX10_go_161 rfl ?_
          refine am_iadd 163 dX10_go_163 ?_
          refine am_V4 164 (mc' := 0) (ms' := 0) (rc := 0) (rs := 0) dX10_go_164 (show am_cV RX10 48 mgo3 4 10 from lX10_48) ⟨by decide, by decide⟩ r_g0 (Nat.le_of_ble_eq_true rfl) (Nat.le_of_ble_eq_true rfl) (nx) ?_
          rintro o n' f' ⟨nw2, bs2, mo2, le2, rfl, rfl, rfl, q1, q2⟩
          refine am_ctI ?_
          exact more _ _ _ _ _ q1 q2
      · have q1' : (256 : Int32) < nI ((x_dist PX PY X Y) 2 j) := (nI_ltI (a := 256) (b := (x_dist PX PY X Y) 2 j) (by decide) (by omega)).mpr (by omega)
        have e3 := x_skip (by omega) hk2 hv (by omega) (Or.inr (Or.inl fun z => q1 z.2)) e2
        refine am_iload 63 dX10_go_63 rfl ?_
        refine am_aload_n 65 dX10_go_65 rfl ?_
        refine am_getfield 66 dX10_go_66 fX10_26 (by first | exact r_g0 | exact r_g1 | exact r_g2 | exact hgx0 | exact hgx1 | exact hgx2 | exact hgx3 | exact hgx4 | assumption) rfl ?_
        refine am_getfield 69 dX10_go_69 fX10_30 (by first | exact r_g0 | exact r_g1 | exact r_g2 | exact hgx0 | exact hgx1 | exact hgx2 | exact hgx3 | exact hgx4 | assumption) rfl ?_
        refine am_icmp_ge 72 173 dX10_go_72 rfl (fun c72 => absurd c72 hPj) (fun c72 => ?_)
        refine am_aload_n 75 dX10_go_75 rfl ?_
        refine am_getfield 76 dX10_go_76 fX10_3 (by first | exact r_g0 | exact r_g1 | exact r_g2 | exact hgx0 | exact hgx1 | exact hgx2 | exact hgx3 | exact hgx4 | assumption) rfl ?_
        refine am_getfieldN 79 dX10_go_79 fnX10_61 (by first | exact r_g0 | exact r_g1 | exact r_g2 | exact hgx0 | exact hgx1 | exact hgx2 | exact hgx3 | exact hgx4 | assumption) rfl ?_
        refine am_iload_n 82 dX10_go_82 rfl ?_
        refine am_aaload 83 dX10_go_83 rfl (by first | exact r_g0 | exact r_g1 | exact r_g2 | exact hgx0 | exact hgx1 | exact hgx2 | exact hgx3 | exact hgx4 | assumption) (am_ix (c := 2) (by decide) (by decide)) ?_
        rw [show (2 : Int32).toNatClampNeg = 2 from rfl, hc, show va_rf (some c) = Value.ref c from rfl]
        refine am_ifnull 84 dX10_go_84 ?_
        refine am_aload_n 87 dX10_go_87 rfl ?_
        refine am_getfield 88 dX10_go_88 fX10_3 (by first | exact r_g0 | exact r_g1 | exact r_g2 | exact hgx0 | exact hgx1 | exact hgx2 | exact hgx3 | exact hgx4 | assumption) rfl ?_
        refine am_getfieldN 91 dX10_go_91 fnX10_61 (by first | exact r_g0 | exact r_g1 | exact r_g2 | exact hgx0 | exact hgx1 | exact hgx2 | exact hgx3 | exact hgx4 | assumption) rfl ?_
        refine am_iload_n 94 dX10_go_94 rfl ?_
        refine am_aaload 95 dX10_go_95 rfl (by first | exact r_g0 | exact r_g1 | exact r_g2 | exact hgx0 | exact hgx1 | exact hgx2 | exact hgx3 | exact hgx4 | assumption) (am_ix (c := 2) (by decide) (by decide)) ?_
        rw [show (2 : Int32).toNatClampNeg = 2 from rfl, hc, show va_rf (some c) = Value.ref c from rfl]
        refine am_aload_n 96 dX10_go_96 rfl ?_
        refine am_getfield 97 dX10_go_97 fX10_35 (by first | exact r_g0 | exact r_g1 | exact r_g2 | exact hgx0 | exact hgx1 | exact hgx2 | exact hgx3 | exact hgx4 | assumption) rfl ?_
        refine am_iload 100 dX10_go_100 rfl ?_
        refine am_iaload 102 dX10_go_102 rfl (by first | exact r_g0 | exact r_g1 | exact r_g2 | exact hgx0 | exact hgx1 | exact hgx2 | exact hgx3 | exact hgx4 | assumption) (am_ix hj (by omega)) ?_
        rw [nI_clamp (n := j) (by omega), px1]
        refine am_aload_n 103 dX10_go_103 rfl ?_
        refine am_getfield 104 dX10_go_104 fX10_38 (by first | exact r_g0 | exact r_g1 | exact r_g2 | exact hgx0 | exact hgx1 | exact hgx2 | exact hgx3 | exact hgx4 | assumption) rfl ?_
        refine am_iload 107 dX10_go_107 rfl ?_
        refine am_iaload 109 dX10_go_109 rfl (by first | exact r_g0 | exact r_g1 | exact r_g2 | exact hgx0 | exact hgx1 | exact hgx2 | exact hgx3 | exact hgx4 | assumption) (am_ix hj (by omega)) ?_
        rw [nI_clamp (n := j) (by omega), py1]
        refine am_V2 110 (mc' := 0) (ms' := 0) (rc := 0) (rs := 0) dX10_go_110 lX10_65 ⟨by decide, by decide⟩ c3 (Nat.le_of_ble_eq_true rfl) (Nat.le_of_ble_eq_true rfl) (far) ?_
        refine am_is_ct ?_
        refine am_istore 113 dX10_go_113 (by decide) ?_
        refine am_iload 115 dX10_go_115 rfl ?_
        refine am_sipush 117 (v := 256) dX10_go_117 (by decide) ?_
        refine am_icmp_gt 120 167 dX10_go_120 rfl (fun c120 => ?_) (fun c120 => absurd q1' c120)
        exact more _ _ _ _ _ e1 e3
set_option maxHeartbeats 2000000 in
theorem s_xgo1 {l : Int64} {pa su : Int32} (hM : x_Mt f t v m P cs xs ys PX PY X Y) (hv : x_pv (x_may cs PX PY X Y) P 1 e) (hnw : ∀ j, j < 1 → nw j = x_dg (e j)) (hl : l = lN (x_tk e 1)) (hpa : pa = nI (x_np e 1)) (hsu : su = nI (x_ns (x_dist PX PY X Y) e 1)) (hst : x_st (x_dist PX PY X Y) (x_may cs PX PY X Y) P (x_pre e 1 * 64 ^ (5 - 1)) mo le bs) : AM mgo1 0 0 [.ref t, .int 1, .long l, .int pa, .int su] n (r_gp f t v m nw bs mo le) (x_gQ f t v m P n 1 ((x_pre e 1 + 1) * 64 ^ (5 - 1)) nw (x_dist PX PY X Y) (x_may cs PX PY X Y)) := by
  have hM0 := hM
  obtain ⟨⟨hvt, hm3, hP⟩, ⟨w0, w1, w2, hvw⟩, ⟨a0, a1, a2, a3, a4, a5, r, h0⟩, h3, hx, hy, hpk, hcs⟩ := hM
  have hk1 : 1 < 5 := by decide
  have he63 : ∀ j, j < 1 → e j = 63 ∨ e j < 48 := fun j hj => (hv.1 j hj).imp id fun h => by omega
  have htk := x_tk_lt 1 he63
  generalize hQ : (x_gQ f t v m P n 1 ((x_pre e 1 + 1) * 64 ^ (5 - 1)) nw (x_dist PX PY X Y) (x_may cs PX PY X Y)) = Q
  -- one name more: this peak, or none
  have next : ∀ (d : Nat) (nw1 bs1 : Nat → Int32) (mo1 le1 : Int32) (l1 : Int64) (p1 s1 : Int32), (d = 63 ∨ (d < P ∧ (x_may cs PX PY X Y) 1 d ∧ ∀ j, j < 1 → e j ≠ d)) → (∀ j, j < 1 → nw1 j = nw j) → l1 = lN (if d = 63 then x_tk e 1 else x_tk e 1 ||| 2 ^ d) → p1 = nI (x_np e 1 + (if d = 63 then 0 else 1)) → s1 = nI (x_ns (x_dist PX PY X Y) e 1 + (if d = 63 then 0 else (x_dist PX PY X Y) 1 d)) → x_st (x_dist PX PY X Y) (x_may cs PX PY X Y) P ((x_pre e 1 * 64 + d) * 64 ^ (4 - 1)) mo1 le1 bs1 → AM mgo2 0 0 [.ref t, .int (1 + 1), .long l1, .int p1, .int s1] n (r_gp f t v m (va_up nw1 1 (x_dg d)) bs1 mo1 le1) (fun o n' f' => ∃ (nw' bs' : Nat → Int32) (mo' le' : Int32), o = .inl none ∧ n = n' ∧ f' = r_gp f t v m nw' bs' mo' le' ∧ (∀ j, j < 1 → nw' j = nw j) ∧ x_st (x_dist PX PY X Y) (x_may cs PX PY X Y) P ((x_pre e 1 * 64 + d + 1) * 64 ^ (4 - 1)) mo' le' bs') := by
    intro d nw1 bs1 mo1 le1 l1 p1 s1 hd hn1 hl1 hp1 hs1 hst1
    refine AW.mono ?_ (s_xgo2 (e := va_up e 1 d) hM0 (x_next hv hd hP) (x_dg_up (fun j hj => (hn1 j hj).trans (hnw j hj)) rfl) (by rw [x_tk_up]; exact hl1) (by rw [x_np_up]; exact hp1) (by rw [x_ns_up]; exact hs1) (by rw [x_pre_up]; exact hst1))
    rintro o n' f' ⟨nw', bs', mo', le', q1, q2, q3, q4, q5⟩
    refine ⟨nw', bs', mo', le', q1, q2, q3, fun j hj => ?_, ?_⟩
    · rw [q4 j (by omega), am_up_ne (by omega)]
      exact hn1 j hj
    · rw [x_pre_up] at q5
      exact q5
  show AW mgo1 0 0 0 [some (.ref t), some (.int 1), some (.long l), none, some (.int pa), some (.int su), none, none] [] n _ Q
  refine am_iload_n 0 dX10_go_0 rfl ?_
  refine am_iconst 1 (v := 5) dX10_go_1 (by decide) ?_
  refine am_icmp_ne 2 60 dX10_go_2 rfl (fun c2 => ?_) (fun c2 => absurd c2 (by decide))
  refine am_iconst 60 (v := 0) dX10_go_60 (by decide) ?_
  refine am_istore 61 dX10_go_61 (by decide) ?_
  have hend : ∀ (nw1 bs1 : Nat → Int32) (mo1 le1 : Int32) (x6 : Int32) (x7 : Option Value), (∀ j, j < 1 → nw1 j = nw j) → x_st (x_dist PX PY X Y) (x_may cs PX PY X Y) P ((x_pre e 1 * 64 + 63) * 64 ^ (4 - 1)) mo1 le1 bs1 → AW mgo1 0 0 173 [some (.ref t), some (.int 1), some (.long l), none, some (.int pa), some (.int su), some (.int x6), x7] [] n (r_gp f t v m nw1 bs1 mo1 le1) Q := by
    intro nw1 bs1 mo1 le1 x6 x7 e1 e2
    have nx := next 63 nw1 bs1 mo1 le1 l pa su (Or.inl rfl) e1 hl hpa hsu e2
    refine am_aload_n 173 dX10_go_173 rfl ?_
    refine am_getfield 174 dX10_go_174 fX10_15 (by first | exact r_g0 | exact r_g1 | exact r_g2 | exact hgx0 | exact hgx1 | exact hgx2 | exact hgx3 | exact hgx4 | assumption) rfl ?_
    refine am_iload_n 177 dX10_go_177 rfl ?_
    refine am_iconst 178 (v := (-1)) dX10_go_178 (by decide) ?_
    refine am_iastore 179 dX10_go_179 rfl (by first | exact r_g0 | exact r_g1 | exact r_g2 | exact hgx0 | exact hgx1 | exact hgx2 | exact hgx3 | exact hgx4 | assumption) (am_ix (c := 1) (by decide) (by decide)) ?_
    rw [show (1 : Int32).toNatClampNeg = 1 from rfl, r_gu1]
    refine am_aload_n 180 dX10_go_180 rfl ?_
    refine am_iload_n 181 dX10_go_181 rfl ?_
    refine am_iconst 182 (v := 1) dX10_go_182 (by decide) ?_
    refine am_iadd 183 dX10_go_183 ?_
    refine am_lload_n 184 dX10_go_184 rfl ?_
    refine am_iload 185 dX10_go_185 rfl ?_
    refine am_iload 187 dX10_go_187 rfl ?_
    refine am_V4 189 (mc' := 0) (ms' := 0) (rc := 0) (rs := 0) dX10_go_189 (show am_cV RX10 48 mgo2 4 10 from lX10_48) ⟨by decide, by decide⟩ r_g0 (Nat.le_of_ble_eq_true rfl) (Nat.le_of_ble_eq_true rfl) (nx) ?_
    rintro o n' f' ⟨nw2, bs2, mo2, le2, rfl, rfl, rfl, q1, q2⟩
    refine am_ctI ?_
    refine am_return 192 dX10_go_192 rfl ?_
    subst hQ
    refine ⟨nw2, bs2, mo2, le2, rfl, rfl, rfl, q1, ?_⟩
    rw [show (x_pre e 1 + 1) * 64 ^ (5 - 1) = (x_pre e 1 * 64 + 63 + 1) * 64 ^ (4 - 1) by rw [show (64 : Nat) ^ (5 - 1) = 16777216 from rfl, show (64 : Nat) ^ (4 - 1) = 262144 from rfl]; omega]
    exact q2
  have hstart : x_st (x_dist PX PY X Y) (x_may cs PX PY X Y) P ((x_pre e 1 * 64 + 0) * 64 ^ (4 - 1)) mo le bs := by
    rw [show (x_pre e 1 * 64 + 0) * 64 ^ (4 - 1) = x_pre e 1 * 64 ^ (5 - 1) by rw [show (64 : Nat) ^ (5 - 1) = 16777216 from rfl, show (64 : Nat) ^ (4 - 1) = 262144 from rfl]; omega]
    exact hst
  refine am_for P (fun j (s : ((Nat → Int32) × (Nat → Int32)) × (Int32 × Int32) × Option Value) => (∀ i, i < 1 → s.1.1 i = nw i) ∧ x_st (x_dist PX PY X Y) (x_may cs PX PY X Y) P ((x_pre e 1 * 64 + j) * 64 ^ (4 - 1)) s.2.1.1 s.2.1.2 s.1.2) (fun j s => AW mgo1 0 0 63 [some (.ref t), some (.int 1), some (.long l), none, some (.int pa), some (.int su), some (.int (nI j)), s.2.2] [] n (r_gp f t v m s.1.1 s.1.2 s.2.1.1 s.2.1.2) Q) ?_ ?_ 0 ((nw, bs), (mo, le), none) (by omega) ⟨fun _ _ => rfl, hstart⟩
  · rintro ⟨⟨nw1, bs1⟩, ⟨mo1, le1⟩, z⟩ ⟨e1, e2⟩
    have e1 : ∀ i, i < 1 → nw1 i = nw i := e1
    have e2 : x_st (x_dist PX PY X Y) (x_may cs PX PY X Y) P ((x_pre e 1 * 64 + P) * 64 ^ (4 - 1)) mo1 le1 bs1 := e2
    show AW mgo1 0 0 63 [some (.ref t), some (.int 1), some (.long l), none, some (.int pa), some (.int su), some (.int (nI P)), z] [] n (r_gp f t v m nw1 bs1 mo1 le1) _
    have hgx0 : r_gp f t v m nw1 bs1 mo1 le1 v = _ := (r_gx (Or.inl hvt)).trans hvw
    have e3 := x_skips (by omega) hk1 hv (63 - P) P (by omega) (fun k' h1 _ => Or.inl h1) e2
    refine am_iload 63 dX10_go_63 rfl ?_
    refine am_aload_n 65 dX10_go_65 rfl ?_
    refine am_getfield 66 dX10_go_66 fX10_26 (by first | exact r_g0 | exact r_g1 | exact r_g2 | exact hgx0 | exact hgx1 | exact hgx2 | exact hgx3 | exact hgx4 | assumption) rfl ?_
    refine am_getfield 69 dX10_go_69 fX10_30 (by first | exact r_g0 | exact r_g1 | exact r_g2 | exact hgx0 | exact hgx1 | exact hgx2 | exact hgx3 | exact hgx4 | assumption) rfl ?_
    refine am_icmp_ge 72 173 dX10_go_72 rfl (fun c72 => ?_) (fun c72 => absurd (Int32.le_refl _) c72)
    exact hend _ _ _ _ _ _ e1 e3
  · rintro j ⟨⟨nw1, bs1⟩, ⟨mo1, le1⟩, z⟩ hj ⟨e1, e2⟩ ih
    have e1 : ∀ i, i < 1 → nw1 i = nw i := e1
    have e2 : x_st (x_dist PX PY X Y) (x_may cs PX PY X Y) P ((x_pre e 1 * 64 + j) * 64 ^ (4 - 1)) mo1 le1 bs1 := e2
    show AW mgo1 0 0 63 [some (.ref t), some (.int 1), some (.long l), none, some (.int pa), some (.int su), some (.int (nI j)), z] [] n (r_gp f t v m nw1 bs1 mo1 le1) _
    have hgx0 : r_gp f t v m nw1 bs1 mo1 le1 v = _ := (r_gx (Or.inl hvt)).trans hvw
    have hgx1 : r_gp f t v m nw1 bs1 mo1 le1 m = _ := (r_gx (Or.inl (by omega))).trans h0
    have hgx2 : r_gp f t v m nw1 bs1 mo1 le1 (m + 3) = _ := (r_gx (Or.inl hm3)).trans h3
    have hgx3 : r_gp f t v m nw1 bs1 mo1 le1 (t + 3) = _ := (r_gx (Or.inr (by omega))).trans hx
    have hgx4 : r_gp f t v m nw1 bs1 mo1 le1 (t + 4) = _ := (r_gx (Or.inr (by omega))).trans hy
    have more : ∀ (nw1 bs1 : Nat → Int32) (mo1 le1 : Int32) (x7 : Option Value), (∀ i, i < 1 → nw1 i = nw i) → x_st (x_dist PX PY X Y) (x_may cs PX PY X Y) P ((x_pre e 1 * 64 + j + 1) * 64 ^ (4 - 1)) mo1 le1 bs1 → AW mgo1 0 0 167 [some (.ref t), some (.int 1), some (.long l), none, some (.int pa), some (.int su), some (.int (nI j)), x7] [] n (r_gp f t v m nw1 bs1 mo1 le1) Q := by
      intro nw1 bs1 mo1 le1 x7 e1 e2
      refine am_iinc 167 (v := nI (j + 1)) dX10_go_167 rfl (nI_1 (j)) (by decide) ?_
      refine am_goto 170 (tgt := 63) dX10_go_170 rfl ?_
      exact ih ((_, _), (_, _), _) ⟨e1, e2⟩
    have hPj : ¬ nI P ≤ nI j := nI_ge hj (by omega)
    rcases hc : cs 1 with _ | c
    · have e3 := x_skips (by omega) hk1 hv (63 - j) j (by omega) (fun k' _ _ => Or.inr (Or.inl fun q => q.1 hc)) e2
      refine am_iload 63 dX10_go_63 rfl ?_
      refine am_aload_n 65 dX10_go_65 rfl ?_
      refine am_getfield 66 dX10_go_66 fX10_26 (by first | exact r_g0 | exact r_g1 | exact r_g2 | exact hgx0 | exact hgx1 | exact hgx2 | exact hgx3 | exact hgx4 | assumption) rfl ?_
      refine am_getfield 69 dX10_go_69 fX10_30 (by first | exact r_g0 | exact r_g1 | exact r_g2 | exact hgx0 | exact hgx1 | exact hgx2 | exact hgx3 | exact hgx4 | assumption) rfl ?_
      refine am_icmp_ge 72 173 dX10_go_72 rfl (fun c72 => absurd c72 hPj) (fun c72 => ?_)
      refine am_aload_n 75 dX10_go_75 rfl ?_
      refine am_getfield 76 dX10_go_76 fX10_3 (by first | exact r_g0 | exact r_g1 | exact r_g2 | exact hgx0 | exact hgx1 | exact hgx2 | exact hgx3 | exact hgx4 | assumption) rfl ?_
      refine am_getfieldN 79 dX10_go_79 fnX10_61 (by first | exact r_g0 | exact r_g1 | exact r_g2 | exact hgx0 | exact hgx1 | exact hgx2 | exact hgx3 | exact hgx4 | assumption) rfl ?_
      refine am_iload_n 82 dX10_go_82 rfl ?_
      refine am_aaload 83 dX10_go_83 rfl (by first | exact r_g0 | exact r_g1 | exact r_g2 | exact hgx0 | exact hgx1 | exact hgx2 | exact hgx3 | exact hgx4 | assumption) (am_ix (c := 1) (by decide) (by decide)) ?_
      rw [show (1 : Int32).toNatClampNeg = 1 from rfl, hc, show va_rf none = Value.null from rfl]
      refine am_ifnullN 84 (tgt := 173) dX10_go_84 rfl ?_
      exact hend _ _ _ _ _ _ e1 e3
    · obtain ⟨c1, cx, cy, ap, κ, c2, c4, c5⟩ := hcs 1 hk1 c hc
      obtain ⟨px1, py1, px2, py2⟩ := hpk j hj
      obtain ⟨sq1, sq2⟩ := x_sq57 (PX j) (by omega) (X 1) (by omega)
      obtain ⟨sq3, sq4⟩ := x_sq57 (PY j) (by omega) (Y 1) (by omega)
      have c3 : r_gp f t v m nw1 bs1 mo1 le1 c = _ := (r_gx (Or.inl c1)).trans c2
      have hF : (x_dist PX PY X Y) 1 j ≤ 6272 := by unfold x_dist; omega
      have far : AM mX9_far 0 0 [.ref c, .int (nI (PX j)), .int (nI (PY j))] n (r_gp f t v m nw1 bs1 mo1 le1) (am_is (some (.int (nI ((x_dist PX PY X Y) 1 j)))) n (r_gp f t v m nw1 bs1 mo1 le1)) := by
        have h := s_rfar (n := n) (x := nI (PX j)) (y := nI (PY j)) c3
        rw [c4, c5, sq1, sq3, nI_add] at h
        exact h
      unfold r_kF at c3
      have pre := fun Q9 : Prop => Q9
      by_cases q1 : (x_dist PX PY X Y) 1 j ≤ 256
      · have q1' : ¬ (256 : Int32) < nI ((x_dist PX PY X Y) 1 j) := fun z => by
          have := (nI_ltI (a := 256) (b := (x_dist PX PY X Y) 1 j) (by decide) (by omega)).mp z
          omega
        by_cases q2 : (x_tk e 1).testBit j = true
        · have hb := (x_bit_iff htk (by omega : j < 48)).mpr q2
          rw [← hl] at hb
          have e3 := x_skip (by omega) hk1 hv (by omega) (Or.inr (Or.inr ((x_tk_bit (by omega) 1).mp q2))) e2
          refine am_iload 63 dX10_go_63 rfl ?_
          refine am_aload_n 65 dX10_go_65 rfl ?_
          refine am_getfield 66 dX10_go_66 fX10_26 (by first | exact r_g0 | exact r_g1 | exact r_g2 | exact hgx0 | exact hgx1 | exact hgx2 | exact hgx3 | exact hgx4 | assumption) rfl ?_
          refine am_getfield 69 dX10_go_69 fX10_30 (by first | exact r_g0 | exact r_g1 | exact r_g2 | exact hgx0 | exact hgx1 | exact hgx2 | exact hgx3 | exact hgx4 | assumption) rfl ?_
          refine am_icmp_ge 72 173 dX10_go_72 rfl (fun c72 => absurd c72 hPj) (fun c72 => ?_)
          refine am_aload_n 75 dX10_go_75 rfl ?_
          refine am_getfield 76 dX10_go_76 fX10_3 (by first | exact r_g0 | exact r_g1 | exact r_g2 | exact hgx0 | exact hgx1 | exact hgx2 | exact hgx3 | exact hgx4 | assumption) rfl ?_
          refine am_getfieldN 79 dX10_go_79 fnX10_61 (by first | exact r_g0 | exact r_g1 | exact r_g2 | exact hgx0 | exact hgx1 | exact hgx2 | exact hgx3 | exact hgx4 | assumption) rfl ?_
          refine am_iload_n 82 dX10_go_82 rfl ?_
          refine am_aaload 83 dX10_go_83 rfl (by first | exact r_g0 | exact r_g1 | exact r_g2 | exact hgx0 | exact hgx1 | exact hgx2 | exact hgx3 | exact hgx4 | assumption) (am_ix (c := 1) (by decide) (by decide)) ?_
          rw [show (1 : Int32).toNatClampNeg = 1 from rfl, hc, show va_rf (some c) = Value.ref c from rfl]
          refine am_ifnull 84 dX10_go_84 ?_
          refine am_aload_n 87 dX10_go_87 rfl ?_
          refine am_getfield 88 dX10_go_88 fX10_3 (by first | exact r_g0 | exact r_g1 | exact r_g2 | exact hgx0 | exact hgx1 | exact hgx2 | exact hgx3 | exact hgx4 | assumption) rfl ?_
          refine am_getfieldN 91 dX10_go_91 fnX10_61 (by first | exact r_g0 | exact r_g1 | exact r_g2 | exact hgx0 | exact hgx1 | exact hgx2 | exact hgx3 | exact hgx4 | assumption) rfl ?_
          refine am_iload_n 94 dX10_go_94 rfl ?_
          refine am_aaload 95 dX10_go_95 rfl (by first | exact r_g0 | exact r_g1 | exact r_g2 | exact hgx0 | exact hgx1 | exact hgx2 | exact hgx3 | exact hgx4 | assumption) (am_ix (c := 1) (by decide) (by decide)) ?_
          rw [show (1 : Int32).toNatClampNeg = 1 from rfl, hc, show va_rf (some c) = Value.ref c from rfl]
          refine am_aload_n 96 dX10_go_96 rfl ?_
          refine am_getfield 97 dX10_go_97 fX10_35 (by first | exact r_g0 | exact r_g1 | exact r_g2 | exact hgx0 | exact hgx1 | exact hgx2 | exact hgx3 | exact hgx4 | assumption) rfl ?_
          refine am_iload 100 dX10_go_100 rfl ?_
          refine am_iaload 102 dX10_go_102 rfl (by first | exact r_g0 | exact r_g1 | exact r_g2 | exact hgx0 | exact hgx1 | exact hgx2 | exact hgx3 | exact hgx4 | assumption) (am_ix hj (by omega)) ?_
          rw [nI_clamp (n := j) (by omega), px1]
          refine am_aload_n 103 dX10_go_103 rfl ?_
          refine am_getfield 104 dX10_go_104 fX10_38 (by first | exact r_g0 | exact r_g1 | exact r_g2 | exact hgx0 | exact hgx1 | exact hgx2 | exact hgx3 | exact hgx4 | assumption) rfl ?_
          refine am_iload 107 dX10_go_107 rfl ?_
          refine am_iaload 109 dX10_go_109 rfl (by first | exact r_g0 | exact r_g1 | exact r_g2 | exact hgx0 | exact hgx1 | exact hgx2 | exact hgx3 | exact hgx4 | assumption) (am_ix hj (by omega)) ?_
          rw [nI_clamp (n := j) (by omega), py1]
          refine am_V2 110 (mc' := 0) (ms' := 0) (rc := 0) (rs := 0) dX10_go_110 lX10_65 ⟨by decide, by decide⟩ c3 (Nat.le_of_ble_eq_true rfl) (Nat.le_of_ble_eq_true rfl) (far) ?_
          refine am_is_ct ?_
          refine am_istore 113 dX10_go_113 (by decide) ?_
          refine am_iload 115 dX10_go_115 rfl ?_
          refine am_sipush 117 (v := 256) dX10_go_117 (by decide) ?_
          refine am_icmp_gt 120 167 dX10_go_120 rfl (fun c120 => absurd c120 q1') (fun c120 => ?_)
          refine am_lload_n 123 dX10_go_123 rfl ?_
          refine am_iload 124 dX10_go_124 rfl ?_
          refine am_lshr 126 dX10_go_126 ?_
          refine am_lconst 127 (v := 1) dX10_go_127 rfl ?_
          refine am_land 128 dX10_go_128 ?_
          refine am_lconst 129 (v := 1) dX10_go_129 rfl ?_
          refine am_lcmp 130 dX10_go_130 ?_
          refine am_if_ne 131 137 dX10_go_131 rfl (fun c131 => absurd c131 (fun q => q hb)) (fun c131 => ?_)
          refine am_goto 134 (tgt := 167) dX10_go_134 rfl ?_
          exact more _ _ _ _ _ e1 e3
        · have hb : ¬ lg_cmp (l >>> ((nI j).toInt64 &&& 63) &&& 1) 1 = 0 := fun z => q2 ((x_bit_iff htk (by omega : j < 48)).mp (by rw [← hl]; exact z))
          have nx := next j nw1 bs1 mo1 le1 (l ||| 1 <<< ((nI j).toInt64 &&& 63)) (pa + 1) (su + nI ((x_dist PX PY X Y) 1 j)) (Or.inr ⟨hj, ⟨(fun z => by rw [hc] at z; cases z), q1⟩, fun i hi z => q2 ((x_tk_bit (by omega) 1).mpr ⟨i, hi, z⟩)⟩) e1 (by rw [hl, x_shl j (by omega), x_or, if_neg (by omega)]) (by rw [hpa, nI_1, if_neg (by omega)]) (by rw [hsu, nI_add, if_neg (by omega)]) e2
          rw [show x_dg j = nI j from if_neg (by omega)] at nx
          refine am_iload 63 dX10_go_63 rfl ?_
          refine am_aload_n 65 dX10_go_65 rfl ?_
          refine am_getfield 66 dX10_go_66 fX10_26 (by first | exact r_g0 | exact r_g1 | exact r_g2 | exact hgx0 | exact hgx1 | exact hgx2 | exact hgx3 | exact hgx4 | assumption) rfl ?_
          refine am_getfield 69 dX10_go_69 fX10_30 (by first | exact r_g0 | exact r_g1 | exact r_g2 | exact hgx0 | exact hgx1 | exact hgx2 | exact hgx3 | exact hgx4 | assumption) rfl ?_
          refine am_icmp_ge 72 173 dX10_go_72 rfl (fun c72 => absurd c72 hPj) (fun c72 => ?_)
          refine am_aload_n 75 dX10_go_75 rfl ?_
          refine am_getfield 76 dX10_go_76 fX10_3 (by first | exact r_g0 | exact r_g1 | exact r_g2 | exact hgx0 | exact hgx1 | exact hgx2 | exact hgx3 | exact hgx4 | assumption) rfl ?_
          refine am_getfieldN 79 dX10_go_79 fnX10_61 (by first | exact r_g0 | exact r_g1 | exact r_g2 | exact hgx0 | exact hgx1 | exact hgx2 | exact hgx3 | exact hgx4 | assumption) rfl ?_
          refine am_iload_n 82 dX10_go_82 rfl ?_
          refine am_aaload 83 dX10_go_83 rfl (by first | exact r_g0 | exact r_g1 | exact r_g2 | exact hgx0 | exact hgx1 | exact hgx2 | exact hgx3 | exact hgx4 | assumption) (am_ix (c := 1) (by decide) (by decide)) ?_
          rw [show (1 : Int32).toNatClampNeg = 1 from rfl, hc, show va_rf (some c) = Value.ref c from rfl]
          refine am_ifnull 84 dX10_go_84 ?_
          refine am_aload_n 87 dX10_go_87 rfl ?_
          refine am_getfield 88 dX10_go_88 fX10_3 (by first | exact r_g0 | exact r_g1 | exact r_g2 | exact hgx0 | exact hgx1 | exact hgx2 | exact hgx3 | exact hgx4 | assumption) rfl ?_
          refine am_getfieldN 91 dX10_go_91 fnX10_61 (by first | exact r_g0 | exact r_g1 | exact r_g2 | exact hgx0 | exact hgx1 | exact hgx2 | exact hgx3 | exact hgx4 | assumption) rfl ?_
          refine am_iload_n 94 dX10_go_94 rfl ?_
          refine am_aaload 95 dX10_go_95 rfl (by first | exact r_g0 | exact r_g1 | exact r_g2 | exact hgx0 | exact hgx1 | exact hgx2 | exact hgx3 | exact hgx4 | assumption) (am_ix (c := 1) (by decide) (by decide)) ?_
          rw [show (1 : Int32).toNatClampNeg = 1 from rfl, hc, show va_rf (some c) = Value.ref c from rfl]
          refine am_aload_n 96 dX10_go_96 rfl ?_
          refine am_getfield 97 dX10_go_97 fX10_35 (by first | exact r_g0 | exact r_g1 | exact r_g2 | exact hgx0 | exact hgx1 | exact hgx2 | exact hgx3 | exact hgx4 | assumption) rfl ?_
          refine am_iload 100 dX10_go_100 rfl ?_
          refine am_iaload 102 dX10_go_102 rfl (by first | exact r_g0 | exact r_g1 | exact r_g2 | exact hgx0 | exact hgx1 | exact hgx2 | exact hgx3 | exact hgx4 | assumption) (am_ix hj (by omega)) ?_
          rw [nI_clamp (n := j) (by omega), px1]
          refine am_aload_n 103 dX10_go_103 rfl ?_
          refine am_getfield 104 dX10_go_104 fX10_38 (by first | exact r_g0 | exact r_g1 | exact r_g2 | exact hgx0 | exact hgx1 | exact hgx2 | exact hgx3 | exact hgx4 | assumption) rfl ?_
          refine am_iload 107 dX10_go_107 rfl ?_
          refine am_iaload 109 dX10_go_109 rfl (by first | exact r_g0 | exact r_g1 | exact r_g2 | exact hgx0 | exact hgx1 | exact hgx2 | exact hgx3 | exact hgx4 | assumption) (am_ix hj (by omega)) ?_
          rw [nI_clamp (n := j) (by omega), py1]
          refine am_V2 110 (mc' := 0) (ms' := 0) (rc := 0) (rs := 0) dX10_go_110 lX10_65 ⟨by decide, by decide⟩ c3 (Nat.le_of_ble_eq_true rfl) (Nat.le_of_ble_eq_true rfl) (far) ?_
          refine am_is_ct ?_
          refine am_istore 113 dX10_go_113 (by decide) ?_
          refine am_iload 115 dX10_go_115 rfl ?_
          refine am_sipush 117 (v := 256) dX10_go_117 (by decide) ?_
          refine am_icmp_gt 120 167 dX10_go_120 rfl (fun c120 => absurd c120 q1') (fun c120 => ?_)
          refine am_lload_n 123 dX10_go_123 rfl ?_
          refine am_iload 124 dX10_go_124 rfl ?_
          refine am_lshr 126 dX10_go_126 ?_
          refine am_lconst 127 (v := 1) dX10_go_127 rfl ?_
          refine am_land 128 dX10_go_128 ?_
          refine am_lconst 129 (v := 1) dX10_go_129 rfl ?_
          refine am_lcmp 130 dX10_go_130 ?_
          refine am_if_ne 131 137 dX10_go_131 rfl (fun c131 => ?_) (fun c131 => absurd c131 hb)
          refine am_aload_n 137 dX10_go_137 rfl ?_
          refine am_getfield 138 dX10_go_138 fX10_15 (by first | exact r_g0 | exact r_g1 | exact r_g2 | exact hgx0 | exact hgx1 | exact hgx2 | exact hgx3 | exact hgx4 | assumption) rfl ?_
          refine am_iload_n 141 dX10_go_141 rfl ?_
          refine am_iload 142 dX10_go_142 rfl ?_
          refine am_iastore 144 dX10_go_144 rfl (by first | exact r_g0 | exact r_g1 | exact r_g2 | exact hgx0 | exact hgx1 | exact hgx2 | exact hgx3 | exact hgx4 | assumption) (am_ix (c := 1) (by decide) (by decide)) ?_
          rw [show (1 : Int32).toNatClampNeg = 1 from rfl, r_gu1]
          refine am_aload_n 145 dX10_go_145 rfl ?_
          refine am_iload_n 146 dX10_go_146 rfl ?_
          refine am_iconst 147 (v := 1) dX10_go_147 (by decide) ?_
          refine am_iadd 148 dX10_go_148 ?_
          refine am_lload_n 149 dX10_go_149 rfl ?_
          refine am_lconst 150 (v := 1) dX10_go_150 rfl ?_
          refine am_iload 151 dX10_go_151 rfl ?_
          refine am_lshl 153 dX10_go_153 ?_
          refine am_lor 154 dX10_go_154 ?_
          refine am_iload 155 dX10_go_155 rfl ?_
          refine am_iconst 157 (v := 1) dX10_go_157 (by decide) ?_
          refine am_iadd 158 dX10_go_158 ?_
          refine am_iload 159 dX10_go_159 rfl ?_
          refine am_iload 161 dX10_go_161 rfl ?_
          refine am_iadd 163 dX10_go_163 ?_
          refine am_V4 164 (mc' := 0) (ms' := 0) (rc := 0) (rs := 0) dX10_go_164 (show am_cV RX10 48 mgo2 4 10 from lX10_48) ⟨by decide, by decide⟩ r_g0 (Nat.le_of_ble_eq_true rfl) (Nat.le_of_ble_eq_true rfl) (nx) ?_
          rintro o n' f' ⟨nw2, bs2, mo2, le2, rfl, rfl, rfl, q1, q2⟩
          refine am_ctI ?_
          exact more _ _ _ _ _ q1 q2
      · have q1' : (256 : Int32) < nI ((x_dist PX PY X Y) 1 j) := (nI_ltI (a := 256) (b := (x_dist PX PY X Y) 1 j) (by decide) (by omega)).mpr (by omega)
        have e3 := x_skip (by omega) hk1 hv (by omega) (Or.inr (Or.inl fun z => q1 z.2)) e2
        refine am_iload 63 dX10_go_63 rfl ?_
        refine am_aload_n 65 dX10_go_65 rfl ?_
        refine am_getfield 66 dX10_go_66 fX10_26 (by first | exact r_g0 | exact r_g1 | exact r_g2 | exact hgx0 | exact hgx1 | exact hgx2 | exact hgx3 | exact hgx4 | assumption) rfl ?_
        refine am_getfield 69 dX10_go_69 fX10_30 (by first | exact r_g0 | exact r_g1 | exact r_g2 | exact hgx0 | exact hgx1 | exact hgx2 | exact hgx3 | exact hgx4 | assumption) rfl ?_
        refine am_icmp_ge 72 173 dX10_go_72 rfl (fun c72 => absurd c72 hPj) (fun c72 => ?_)
        refine am_aload_n 75 dX10_go_75 rfl ?_
        refine am_getfield 76 dX10_go_76 fX10_3 (by first | exact r_g0 | exact r_g1 | exact r_g2 | exact hgx0 | exact hgx1 | exact hgx2 | exact hgx3 | exact hgx4 | assumption) rfl ?_
        refine am_getfieldN 79 dX10_go_79 fnX10_61 (by first | exact r_g0 | exact r_g1 | exact r_g2 | exact hgx0 | exact hgx1 | exact hgx2 | exact hgx3 | exact hgx4 | assumption) rfl ?_
        refine am_iload_n 82 dX10_go_82 rfl ?_
        refine am_aaload 83 dX10_go_83 rfl (by first | exact r_g0 | exact r_g1 | exact r_g2 | exact hgx0 | exact hgx1 | exact hgx2 | exact hgx3 | exact hgx4 | assumption) (am_ix (c := 1) (by decide) (by decide)) ?_
        rw [show (1 : Int32).toNatClampNeg = 1 from rfl, hc, show va_rf (some c) = Value.ref c from rfl]
        refine am_ifnull 84 dX10_go_84 ?_
        refine am_aload_n 87 dX10_go_87 rfl ?_
        refine am_getfield 88 dX10_go_88 fX10_3 (by first | exact r_g0 | exact r_g1 | exact r_g2 | exact hgx0 | exact hgx1 | exact hgx2 | exact hgx3 | exact hgx4 | assumption) rfl ?_
        refine am_getfieldN 91 dX10_go_91 fnX10_61 (by first | exact r_g0 | exact r_g1 | exact r_g2 | exact hgx0 | exact hgx1 | exact hgx2 | exact hgx3 | exact hgx4 | assumption) rfl ?_
        refine am_iload_n 94 dX10_go_94 rfl ?_
        refine am_aaload 95 dX10_go_95 rfl (by first | exact r_g0 | exact r_g1 | exact r_g2 | exact hgx0 | exact hgx1 | exact hgx2 | exact hgx3 | exact hgx4 | assumption) (am_ix (c := 1) (by decide) (by decide)) ?_
        rw [show (1 : Int32).toNatClampNeg = 1 from rfl, hc, show va_rf (some c) = Value.ref c from rfl]
        refine am_aload_n 96 dX10_go_96 rfl ?_
        refine am_getfield 97 dX10_go_97 fX10_35 (by first | exact r_g0 | exact r_g1 | exact r_g2 | exact hgx0 | exact hgx1 | exact hgx2 | exact hgx3 | exact hgx4 | assumption) rfl ?_
        refine am_iload 100 dX10_go_100 rfl ?_
        refine am_iaload 102 dX10_go_102 rfl (by first | exact r_g0 | exact r_g1 | exact r_g2 | exact hgx0 | exact hgx1 | exact hgx2 | exact hgx3 | exact hgx4 | assumption) (am_ix hj (by omega)) ?_
        rw [nI_clamp (n := j) (by omega), px1]
        refine am_aload_n 103 dX10_go_103 rfl ?_
        refine am_getfield 104 dX10_go_104 fX10_38 (by first | exact r_g0 | exact r_g1 | exact r_g2 | exact hgx0 | exact hgx1 | exact hgx2 | exact hgx3 | exact hgx4 | assumption) rfl ?_
        refine am_iload 107 dX10_go_107 rfl ?_
        refine am_iaload 109 dX10_go_109 rfl (by first | exact r_g0 | exact r_g1 | exact r_g2 | exact hgx0 | exact hgx1 | exact hgx2 | exact hgx3 | exact hgx4 | assumption) (am_ix hj (by omega)) ?_
        rw [nI_clamp (n := j) (by omega), py1]
        refine am_V2 110 (mc' := 0) (ms' := 0) (rc := 0) (rs := 0) dX10_go_110 lX10_65 ⟨by decide, by decide⟩ c3 (Nat.le_of_ble_eq_true rfl) (Nat.le_of_ble_eq_true rfl) (far) ?_
        refine am_is_ct ?_
        refine am_istore 113 dX10_go_113 (by decide) ?_
        refine am_iload 115 dX10_go_115 rfl ?_
        refine am_sipush 117 (v := 256) dX10_go_117 (by decide) ?_
        refine am_icmp_gt 120 167 dX10_go_120 rfl (fun c120 => ?_) (fun c120 => absurd q1' c120)
        exact more _ _ _ _ _ e1 e3
set_option maxHeartbeats 2000000 in
theorem s_xgo0 {l : Int64} {pa su : Int32} (hM : x_Mt f t v m P cs xs ys PX PY X Y) (hv : x_pv (x_may cs PX PY X Y) P 0 e) (hnw : ∀ j, j < 0 → nw j = x_dg (e j)) (hl : l = lN (x_tk e 0)) (hpa : pa = nI (x_np e 0)) (hsu : su = nI (x_ns (x_dist PX PY X Y) e 0)) (hst : x_st (x_dist PX PY X Y) (x_may cs PX PY X Y) P (x_pre e 0 * 64 ^ (5 - 0)) mo le bs) : AM mgo0 0 0 [.ref t, .int 0, .long l, .int pa, .int su] n (r_gp f t v m nw bs mo le) (x_gQ f t v m P n 0 ((x_pre e 0 + 1) * 64 ^ (5 - 0)) nw (x_dist PX PY X Y) (x_may cs PX PY X Y)) := by
  have hM0 := hM
  obtain ⟨⟨hvt, hm3, hP⟩, ⟨w0, w1, w2, hvw⟩, ⟨a0, a1, a2, a3, a4, a5, r, h0⟩, h3, hx, hy, hpk, hcs⟩ := hM
  have hk0 : 0 < 5 := by decide
  have he63 : ∀ j, j < 0 → e j = 63 ∨ e j < 48 := fun j hj => (hv.1 j hj).imp id fun h => by omega
  have htk := x_tk_lt 0 he63
  generalize hQ : (x_gQ f t v m P n 0 ((x_pre e 0 + 1) * 64 ^ (5 - 0)) nw (x_dist PX PY X Y) (x_may cs PX PY X Y)) = Q
  -- one name more: this peak, or none
  have next : ∀ (d : Nat) (nw1 bs1 : Nat → Int32) (mo1 le1 : Int32) (l1 : Int64) (p1 s1 : Int32), (d = 63 ∨ (d < P ∧ (x_may cs PX PY X Y) 0 d ∧ ∀ j, j < 0 → e j ≠ d)) → (∀ j, j < 0 → nw1 j = nw j) → l1 = lN (if d = 63 then x_tk e 0 else x_tk e 0 ||| 2 ^ d) → p1 = nI (x_np e 0 + (if d = 63 then 0 else 1)) → s1 = nI (x_ns (x_dist PX PY X Y) e 0 + (if d = 63 then 0 else (x_dist PX PY X Y) 0 d)) → x_st (x_dist PX PY X Y) (x_may cs PX PY X Y) P ((x_pre e 0 * 64 + d) * 64 ^ (4 - 0)) mo1 le1 bs1 → AM mgo1 0 0 [.ref t, .int (0 + 1), .long l1, .int p1, .int s1] n (r_gp f t v m (va_up nw1 0 (x_dg d)) bs1 mo1 le1) (fun o n' f' => ∃ (nw' bs' : Nat → Int32) (mo' le' : Int32), o = .inl none ∧ n = n' ∧ f' = r_gp f t v m nw' bs' mo' le' ∧ (∀ j, j < 0 → nw' j = nw j) ∧ x_st (x_dist PX PY X Y) (x_may cs PX PY X Y) P ((x_pre e 0 * 64 + d + 1) * 64 ^ (4 - 0)) mo' le' bs') := by
    intro d nw1 bs1 mo1 le1 l1 p1 s1 hd hn1 hl1 hp1 hs1 hst1
    refine AW.mono ?_ (s_xgo1 (e := va_up e 0 d) hM0 (x_next hv hd hP) (x_dg_up (fun j hj => (hn1 j hj).trans (hnw j hj)) rfl) (by rw [x_tk_up]; exact hl1) (by rw [x_np_up]; exact hp1) (by rw [x_ns_up]; exact hs1) (by rw [x_pre_up]; exact hst1))
    rintro o n' f' ⟨nw', bs', mo', le', q1, q2, q3, q4, q5⟩
    refine ⟨nw', bs', mo', le', q1, q2, q3, fun j hj => ?_, ?_⟩
    · rw [q4 j (by omega), am_up_ne (by omega)]
      exact hn1 j hj
    · rw [x_pre_up] at q5
      exact q5
  show AW mgo0 0 0 0 [some (.ref t), some (.int 0), some (.long l), none, some (.int pa), some (.int su), none, none] [] n _ Q
  refine am_iload_n 0 dX10_go_0 rfl ?_
  refine am_iconst 1 (v := 5) dX10_go_1 (by decide) ?_
  refine am_icmp_ne 2 60 dX10_go_2 rfl (fun c2 => ?_) (fun c2 => absurd c2 (by decide))
  refine am_iconst 60 (v := 0) dX10_go_60 (by decide) ?_
  refine am_istore 61 dX10_go_61 (by decide) ?_
  have hend : ∀ (nw1 bs1 : Nat → Int32) (mo1 le1 : Int32) (x6 : Int32) (x7 : Option Value), (∀ j, j < 0 → nw1 j = nw j) → x_st (x_dist PX PY X Y) (x_may cs PX PY X Y) P ((x_pre e 0 * 64 + 63) * 64 ^ (4 - 0)) mo1 le1 bs1 → AW mgo0 0 0 173 [some (.ref t), some (.int 0), some (.long l), none, some (.int pa), some (.int su), some (.int x6), x7] [] n (r_gp f t v m nw1 bs1 mo1 le1) Q := by
    intro nw1 bs1 mo1 le1 x6 x7 e1 e2
    have nx := next 63 nw1 bs1 mo1 le1 l pa su (Or.inl rfl) e1 hl hpa hsu e2
    refine am_aload_n 173 dX10_go_173 rfl ?_
    refine am_getfield 174 dX10_go_174 fX10_15 (by first | exact r_g0 | exact r_g1 | exact r_g2 | exact hgx0 | exact hgx1 | exact hgx2 | exact hgx3 | exact hgx4 | assumption) rfl ?_
    refine am_iload_n 177 dX10_go_177 rfl ?_
    refine am_iconst 178 (v := (-1)) dX10_go_178 (by decide) ?_
    refine am_iastore 179 dX10_go_179 rfl (by first | exact r_g0 | exact r_g1 | exact r_g2 | exact hgx0 | exact hgx1 | exact hgx2 | exact hgx3 | exact hgx4 | assumption) (am_ix (c := 0) (by decide) (by decide)) ?_
    rw [show (0 : Int32).toNatClampNeg = 0 from rfl, r_gu1]
    refine am_aload_n 180 dX10_go_180 rfl ?_
    refine am_iload_n 181 dX10_go_181 rfl ?_
    refine am_iconst 182 (v := 1) dX10_go_182 (by decide) ?_
    refine am_iadd 183 dX10_go_183 ?_
    refine am_lload_n 184 dX10_go_184 rfl ?_
    refine am_iload 185 dX10_go_185 rfl ?_
    refine am_iload 187 dX10_go_187 rfl ?_
    refine am_V4 189 (mc' := 0) (ms' := 0) (rc := 0) (rs := 0) dX10_go_189 (show am_cV RX10 48 mgo1 4 10 from lX10_48) ⟨by decide, by decide⟩ r_g0 (Nat.le_of_ble_eq_true rfl) (Nat.le_of_ble_eq_true rfl) (nx) ?_
    rintro o n' f' ⟨nw2, bs2, mo2, le2, rfl, rfl, rfl, q1, q2⟩
    refine am_ctI ?_
    refine am_return 192 dX10_go_192 rfl ?_
    subst hQ
    refine ⟨nw2, bs2, mo2, le2, rfl, rfl, rfl, q1, ?_⟩
    rw [show (x_pre e 0 + 1) * 64 ^ (5 - 0) = (x_pre e 0 * 64 + 63 + 1) * 64 ^ (4 - 0) by rw [show (64 : Nat) ^ (5 - 0) = 1073741824 from rfl, show (64 : Nat) ^ (4 - 0) = 16777216 from rfl]; omega]
    exact q2
  have hstart : x_st (x_dist PX PY X Y) (x_may cs PX PY X Y) P ((x_pre e 0 * 64 + 0) * 64 ^ (4 - 0)) mo le bs := by
    rw [show (x_pre e 0 * 64 + 0) * 64 ^ (4 - 0) = x_pre e 0 * 64 ^ (5 - 0) by rw [show (64 : Nat) ^ (5 - 0) = 1073741824 from rfl, show (64 : Nat) ^ (4 - 0) = 16777216 from rfl]; omega]
    exact hst
  refine am_for P (fun j (s : ((Nat → Int32) × (Nat → Int32)) × (Int32 × Int32) × Option Value) => (∀ i, i < 0 → s.1.1 i = nw i) ∧ x_st (x_dist PX PY X Y) (x_may cs PX PY X Y) P ((x_pre e 0 * 64 + j) * 64 ^ (4 - 0)) s.2.1.1 s.2.1.2 s.1.2) (fun j s => AW mgo0 0 0 63 [some (.ref t), some (.int 0), some (.long l), none, some (.int pa), some (.int su), some (.int (nI j)), s.2.2] [] n (r_gp f t v m s.1.1 s.1.2 s.2.1.1 s.2.1.2) Q) ?_ ?_ 0 ((nw, bs), (mo, le), none) (by omega) ⟨fun _ _ => rfl, hstart⟩
  · rintro ⟨⟨nw1, bs1⟩, ⟨mo1, le1⟩, z⟩ ⟨e1, e2⟩
    have e1 : ∀ i, i < 0 → nw1 i = nw i := e1
    have e2 : x_st (x_dist PX PY X Y) (x_may cs PX PY X Y) P ((x_pre e 0 * 64 + P) * 64 ^ (4 - 0)) mo1 le1 bs1 := e2
    show AW mgo0 0 0 63 [some (.ref t), some (.int 0), some (.long l), none, some (.int pa), some (.int su), some (.int (nI P)), z] [] n (r_gp f t v m nw1 bs1 mo1 le1) _
    have hgx0 : r_gp f t v m nw1 bs1 mo1 le1 v = _ := (r_gx (Or.inl hvt)).trans hvw
    have e3 := x_skips (by omega) hk0 hv (63 - P) P (by omega) (fun k' h1 _ => Or.inl h1) e2
    refine am_iload 63 dX10_go_63 rfl ?_
    refine am_aload_n 65 dX10_go_65 rfl ?_
    refine am_getfield 66 dX10_go_66 fX10_26 (by first | exact r_g0 | exact r_g1 | exact r_g2 | exact hgx0 | exact hgx1 | exact hgx2 | exact hgx3 | exact hgx4 | assumption) rfl ?_
    refine am_getfield 69 dX10_go_69 fX10_30 (by first | exact r_g0 | exact r_g1 | exact r_g2 | exact hgx0 | exact hgx1 | exact hgx2 | exact hgx3 | exact hgx4 | assumption) rfl ?_
    refine am_icmp_ge 72 173 dX10_go_72 rfl (fun c72 => ?_) (fun c72 => absurd (Int32.le_refl _) c72)
    exact hend _ _ _ _ _ _ e1 e3
  · rintro j ⟨⟨nw1, bs1⟩, ⟨mo1, le1⟩, z⟩ hj ⟨e1, e2⟩ ih
    have e1 : ∀ i, i < 0 → nw1 i = nw i := e1
    have e2 : x_st (x_dist PX PY X Y) (x_may cs PX PY X Y) P ((x_pre e 0 * 64 + j) * 64 ^ (4 - 0)) mo1 le1 bs1 := e2
    show AW mgo0 0 0 63 [some (.ref t), some (.int 0), some (.long l), none, some (.int pa), some (.int su), some (.int (nI j)), z] [] n (r_gp f t v m nw1 bs1 mo1 le1) _
    have hgx0 : r_gp f t v m nw1 bs1 mo1 le1 v = _ := (r_gx (Or.inl hvt)).trans hvw
    have hgx1 : r_gp f t v m nw1 bs1 mo1 le1 m = _ := (r_gx (Or.inl (by omega))).trans h0
    have hgx2 : r_gp f t v m nw1 bs1 mo1 le1 (m + 3) = _ := (r_gx (Or.inl hm3)).trans h3
    have hgx3 : r_gp f t v m nw1 bs1 mo1 le1 (t + 3) = _ := (r_gx (Or.inr (by omega))).trans hx
    have hgx4 : r_gp f t v m nw1 bs1 mo1 le1 (t + 4) = _ := (r_gx (Or.inr (by omega))).trans hy
    have more : ∀ (nw1 bs1 : Nat → Int32) (mo1 le1 : Int32) (x7 : Option Value), (∀ i, i < 0 → nw1 i = nw i) → x_st (x_dist PX PY X Y) (x_may cs PX PY X Y) P ((x_pre e 0 * 64 + j + 1) * 64 ^ (4 - 0)) mo1 le1 bs1 → AW mgo0 0 0 167 [some (.ref t), some (.int 0), some (.long l), none, some (.int pa), some (.int su), some (.int (nI j)), x7] [] n (r_gp f t v m nw1 bs1 mo1 le1) Q := by
      intro nw1 bs1 mo1 le1 x7 e1 e2
      refine am_iinc 167 (v := nI (j + 1)) dX10_go_167 rfl (nI_1 (j)) (by decide) ?_
      refine am_goto 170 (tgt := 63) dX10_go_170 rfl ?_
      exact ih ((_, _), (_, _), _) ⟨e1, e2⟩
    have hPj : ¬ nI P ≤ nI j := nI_ge hj (by omega)
    rcases hc : cs 0 with _ | c
    · have e3 := x_skips (by omega) hk0 hv (63 - j) j (by omega) (fun k' _ _ => Or.inr (Or.inl fun q => q.1 hc)) e2
      refine am_iload 63 dX10_go_63 rfl ?_
      refine am_aload_n 65 dX10_go_65 rfl ?_
      refine am_getfield 66 dX10_go_66 fX10_26 (by first | exact r_g0 | exact r_g1 | exact r_g2 | exact hgx0 | exact hgx1 | exact hgx2 | exact hgx3 | exact hgx4 | assumption) rfl ?_
      refine am_getfield 69 dX10_go_69 fX10_30 (by first | exact r_g0 | exact r_g1 | exact r_g2 | exact hgx0 | exact hgx1 | exact hgx2 | exact hgx3 | exact hgx4 | assumption) rfl ?_
      refine am_icmp_ge 72 173 dX10_go_72 rfl (fun c72 => absurd c72 hPj) (fun c72 => ?_)
      refine am_aload_n 75 dX10_go_75 rfl ?_
      refine am_getfield 76 dX10_go_76 fX10_3 (by first | exact r_g0 | exact r_g1 | exact r_g2 | exact hgx0 | exact hgx1 | exact hgx2 | exact hgx3 | exact hgx4 | assumption) rfl ?_
      refine am_getfieldN 79 dX10_go_79 fnX10_61 (by first | exact r_g0 | exact r_g1 | exact r_g2 | exact hgx0 | exact hgx1 | exact hgx2 | exact hgx3 | exact hgx4 | assumption) rfl ?_
      refine am_iload_n 82 dX10_go_82 rfl ?_
      refine am_aaload 83 dX10_go_83 rfl (by first | exact r_g0 | exact r_g1 | exact r_g2 | exact hgx0 | exact hgx1 | exact hgx2 | exact hgx3 | exact hgx4 | assumption) (am_ix (c := 0) (by decide) (by decide)) ?_
      rw [show (0 : Int32).toNatClampNeg = 0 from rfl, hc, show va_rf none = Value.null from rfl]
      refine am_ifnullN 84 (tgt := 173) dX10_go_84 rfl ?_
      exact hend _ _ _ _ _ _ e1 e3
    · obtain ⟨c1, cx, cy, ap, κ, c2, c4, c5⟩ := hcs 0 hk0 c hc
      obtain ⟨px1, py1, px2, py2⟩ := hpk j hj
      obtain ⟨sq1, sq2⟩ := x_sq57 (PX j) (by omega) (X 0) (by omega)
      obtain ⟨sq3, sq4⟩ := x_sq57 (PY j) (by omega) (Y 0) (by omega)
      have c3 : r_gp f t v m nw1 bs1 mo1 le1 c = _ := (r_gx (Or.inl c1)).trans c2
      have hF : (x_dist PX PY X Y) 0 j ≤ 6272 := by unfold x_dist; omega
      have far : AM mX9_far 0 0 [.ref c, .int (nI (PX j)), .int (nI (PY j))] n (r_gp f t v m nw1 bs1 mo1 le1) (am_is (some (.int (nI ((x_dist PX PY X Y) 0 j)))) n (r_gp f t v m nw1 bs1 mo1 le1)) := by
        have h := s_rfar (n := n) (x := nI (PX j)) (y := nI (PY j)) c3
        rw [c4, c5, sq1, sq3, nI_add] at h
        exact h
      unfold r_kF at c3
      have pre := fun Q9 : Prop => Q9
      by_cases q1 : (x_dist PX PY X Y) 0 j ≤ 256
      · have q1' : ¬ (256 : Int32) < nI ((x_dist PX PY X Y) 0 j) := fun z => by
          have := (nI_ltI (a := 256) (b := (x_dist PX PY X Y) 0 j) (by decide) (by omega)).mp z
          omega
        by_cases q2 : (x_tk e 0).testBit j = true
        · have hb := (x_bit_iff htk (by omega : j < 48)).mpr q2
          rw [← hl] at hb
          have e3 := x_skip (by omega) hk0 hv (by omega) (Or.inr (Or.inr ((x_tk_bit (by omega) 0).mp q2))) e2
          refine am_iload 63 dX10_go_63 rfl ?_
          refine am_aload_n 65 dX10_go_65 rfl ?_
          refine am_getfield 66 dX10_go_66 fX10_26 (by first | exact r_g0 | exact r_g1 | exact r_g2 | exact hgx0 | exact hgx1 | exact hgx2 | exact hgx3 | exact hgx4 | assumption) rfl ?_
          refine am_getfield 69 dX10_go_69 fX10_30 (by first | exact r_g0 | exact r_g1 | exact r_g2 | exact hgx0 | exact hgx1 | exact hgx2 | exact hgx3 | exact hgx4 | assumption) rfl ?_
          refine am_icmp_ge 72 173 dX10_go_72 rfl (fun c72 => absurd c72 hPj) (fun c72 => ?_)
          refine am_aload_n 75 dX10_go_75 rfl ?_
          refine am_getfield 76 dX10_go_76 fX10_3 (by first | exact r_g0 | exact r_g1 | exact r_g2 | exact hgx0 | exact hgx1 | exact hgx2 | exact hgx3 | exact hgx4 | assumption) rfl ?_
          refine am_getfieldN 79 dX10_go_79 fnX10_61 (by first | exact r_g0 | exact r_g1 | exact r_g2 | exact hgx0 | exact hgx1 | exact hgx2 | exact hgx3 | exact hgx4 | assumption) rfl ?_
          refine am_iload_n 82 dX10_go_82 rfl ?_
          refine am_aaload 83 dX10_go_83 rfl (by first | exact r_g0 | exact r_g1 | exact r_g2 | exact hgx0 | exact hgx1 | exact hgx2 | exact hgx3 | exact hgx4 | assumption) (am_ix (c := 0) (by decide) (by decide)) ?_
          rw [show (0 : Int32).toNatClampNeg = 0 from rfl, hc, show va_rf (some c) = Value.ref c from rfl]
          refine am_ifnull 84 dX10_go_84 ?_
          refine am_aload_n 87 dX10_go_87 rfl ?_
          refine am_getfield 88 dX10_go_88 fX10_3 (by first | exact r_g0 | exact r_g1 | exact r_g2 | exact hgx0 | exact hgx1 | exact hgx2 | exact hgx3 | exact hgx4 | assumption) rfl ?_
          refine am_getfieldN 91 dX10_go_91 fnX10_61 (by first | exact r_g0 | exact r_g1 | exact r_g2 | exact hgx0 | exact hgx1 | exact hgx2 | exact hgx3 | exact hgx4 | assumption) rfl ?_
          refine am_iload_n 94 dX10_go_94 rfl ?_
          refine am_aaload 95 dX10_go_95 rfl (by first | exact r_g0 | exact r_g1 | exact r_g2 | exact hgx0 | exact hgx1 | exact hgx2 | exact hgx3 | exact hgx4 | assumption) (am_ix (c := 0) (by decide) (by decide)) ?_
          rw [show (0 : Int32).toNatClampNeg = 0 from rfl, hc, show va_rf (some c) = Value.ref c from rfl]
          refine am_aload_n 96 dX10_go_96 rfl ?_
          refine am_getfield 97 dX10_go_97 fX10_35 (by first | exact r_g0 | exact r_g1 | exact r_g2 | exact hgx0 | exact hgx1 | exact hgx2 | exact hgx3 | exact hgx4 | assumption) rfl ?_
          refine am_iload 100 dX10_go_100 rfl ?_
          refine am_iaload 102 dX10_go_102 rfl (by first | exact r_g0 | exact r_g1 | exact r_g2 | exact hgx0 | exact hgx1 | exact hgx2 | exact hgx3 | exact hgx4 | assumption) (am_ix hj (by omega)) ?_
          rw [nI_clamp (n := j) (by omega), px1]
          refine am_aload_n 103 dX10_go_103 rfl ?_
          refine am_getfield 104 dX10_go_104 fX10_38 (by first | exact r_g0 | exact r_g1 | exact r_g2 | exact hgx0 | exact hgx1 | exact hgx2 | exact hgx3 | exact hgx4 | assumption) rfl ?_
          refine am_iload 107 dX10_go_107 rfl ?_
          refine am_iaload 109 dX10_go_109 rfl (by first | exact r_g0 | exact r_g1 | exact r_g2 | exact hgx0 | exact hgx1 | exact hgx2 | exact hgx3 | exact hgx4 | assumption) (am_ix hj (by omega)) ?_
          rw [nI_clamp (n := j) (by omega), py1]
          refine am_V2 110 (mc' := 0) (ms' := 0) (rc := 0) (rs := 0) dX10_go_110 lX10_65 ⟨by decide, by decide⟩ c3 (Nat.le_of_ble_eq_true rfl) (Nat.le_of_ble_eq_true rfl) (far) ?_
          refine am_is_ct ?_
          refine am_istore 113 dX10_go_113 (by decide) ?_
          refine am_iload 115 dX10_go_115 rfl ?_
          refine am_sipush 117 (v := 256) dX10_go_117 (by decide) ?_
          refine am_icmp_gt 120 167 dX10_go_120 rfl (fun c120 => absurd c120 q1') (fun c120 => ?_)
          refine am_lload_n 123 dX10_go_123 rfl ?_
          refine am_iload 124 dX10_go_124 rfl ?_
          refine am_lshr 126 dX10_go_126 ?_
          refine am_lconst 127 (v := 1) dX10_go_127 rfl ?_
          refine am_land 128 dX10_go_128 ?_
          refine am_lconst 129 (v := 1) dX10_go_129 rfl ?_
          refine am_lcmp 130 dX10_go_130 ?_
          refine am_if_ne 131 137 dX10_go_131 rfl (fun c131 => absurd c131 (fun q => q hb)) (fun c131 => ?_)
          refine am_goto 134 (tgt := 167) dX10_go_134 rfl ?_
          exact more _ _ _ _ _ e1 e3
        · have hb : ¬ lg_cmp (l >>> ((nI j).toInt64 &&& 63) &&& 1) 1 = 0 := fun z => q2 ((x_bit_iff htk (by omega : j < 48)).mp (by rw [← hl]; exact z))
          have nx := next j nw1 bs1 mo1 le1 (l ||| 1 <<< ((nI j).toInt64 &&& 63)) (pa + 1) (su + nI ((x_dist PX PY X Y) 0 j)) (Or.inr ⟨hj, ⟨(fun z => by rw [hc] at z; cases z), q1⟩, fun i hi z => q2 ((x_tk_bit (by omega) 0).mpr ⟨i, hi, z⟩)⟩) e1 (by rw [hl, x_shl j (by omega), x_or, if_neg (by omega)]) (by rw [hpa, nI_1, if_neg (by omega)]) (by rw [hsu, nI_add, if_neg (by omega)]) e2
          rw [show x_dg j = nI j from if_neg (by omega)] at nx
          refine am_iload 63 dX10_go_63 rfl ?_
          refine am_aload_n 65 dX10_go_65 rfl ?_
          refine am_getfield 66 dX10_go_66 fX10_26 (by first | exact r_g0 | exact r_g1 | exact r_g2 | exact hgx0 | exact hgx1 | exact hgx2 | exact hgx3 | exact hgx4 | assumption) rfl ?_
          refine am_getfield 69 dX10_go_69 fX10_30 (by first | exact r_g0 | exact r_g1 | exact r_g2 | exact hgx0 | exact hgx1 | exact hgx2 | exact hgx3 | exact hgx4 | assumption) rfl ?_
          refine am_icmp_ge 72 173 dX10_go_72 rfl (fun c72 => absurd c72 hPj) (fun c72 => ?_)
          refine am_aload_n 75 dX10_go_75 rfl ?_
          refine am_getfield 76 dX10_go_76 fX10_3 (by first | exact r_g0 | exact r_g1 | exact r_g2 | exact hgx0 | exact hgx1 | exact hgx2 | exact hgx3 | exact hgx4 | assumption) rfl ?_
          refine am_getfieldN 79 dX10_go_79 fnX10_61 (by first | exact r_g0 | exact r_g1 | exact r_g2 | exact hgx0 | exact hgx1 | exact hgx2 | exact hgx3 | exact hgx4 | assumption) rfl ?_
          refine am_iload_n 82 dX10_go_82 rfl ?_
          refine am_aaload 83 dX10_go_83 rfl (by first | exact r_g0 | exact r_g1 | exact r_g2 | exact hgx0 | exact hgx1 | exact hgx2 | exact hgx3 | exact hgx4 | assumption) (am_ix (c := 0) (by decide) (by decide)) ?_
          rw [show (0 : Int32).toNatClampNeg = 0 from rfl, hc, show va_rf (some c) = Value.ref c from rfl]
          refine am_ifnull 84 dX10_go_84 ?_
          refine am_aload_n 87 dX10_go_87 rfl ?_
          refine am_getfield 88 dX10_go_88 fX10_3 (by first | exact r_g0 | exact r_g1 | exact r_g2 | exact hgx0 | exact hgx1 | exact hgx2 | exact hgx3 | exact hgx4 | assumption) rfl ?_
          refine am_getfieldN 91 dX10_go_91 fnX10_61 (by first | exact r_g0 | exact r_g1 | exact r_g2 | exact hgx0 | exact hgx1 | exact hgx2 | exact hgx3 | exact hgx4 | assumption) rfl ?_
          refine am_iload_n 94 dX10_go_94 rfl ?_
          refine am_aaload 95 dX10_go_95 rfl (by first | exact r_g0 | exact r_g1 | exact r_g2 | exact hgx0 | exact hgx1 | exact hgx2 | exact hgx3 | exact hgx4 | assumption) (am_ix (c := 0) (by decide) (by decide)) ?_
          rw [show (0 : Int32).toNatClampNeg = 0 from rfl, hc, show va_rf (some c) = Value.ref c from rfl]
          refine am_aload_n 96 dX10_go_96 rfl ?_
          refine am_getfield 97 dX10_go_97 fX10_35 (by first | exact r_g0 | exact r_g1 | exact r_g2 | exact hgx0 | exact hgx1 | exact hgx2 | exact hgx3 | exact hgx4 | assumption) rfl ?_
          refine am_iload 100 dX10_go_100 rfl ?_
          refine am_iaload 102 dX10_go_102 rfl (by first | exact r_g0 | exact r_g1 | exact r_g2 | exact hgx0 | exact hgx1 | exact hgx2 | exact hgx3 | exact hgx4 | assumption) (am_ix hj (by omega)) ?_
          rw [nI_clamp (n := j) (by omega), px1]
          refine am_aload_n 103 dX10_go_103 rfl ?_
          refine am_getfield 104 dX10_go_104 fX10_38 (by first | exact r_g0 | exact r_g1 | exact r_g2 | exact hgx0 | exact hgx1 | exact hgx2 | exact hgx3 | exact hgx4 | assumption) rfl ?_
          refine am_iload 107 dX10_go_107 rfl ?_
          refine am_iaload 109 dX10_go_109 rfl (by first | exact r_g0 | exact r_g1 | exact r_g2 | exact hgx0 | exact hgx1 | exact hgx2 | exact hgx3 | exact hgx4 | assumption) (am_ix hj (by omega)) ?_
          rw [nI_clamp (n := j) (by omega), py1]
          refine am_V2 110 (mc' := 0) (ms' := 0) (rc := 0) (rs := 0) dX10_go_110 lX10_65 ⟨by decide, by decide⟩ c3 (Nat.le_of_ble_eq_true rfl) (Nat.le_of_ble_eq_true rfl) (far) ?_
          refine am_is_ct ?_
          refine am_istore 113 dX10_go_113 (by decide) ?_
          refine am_iload 115 dX10_go_115 rfl ?_
          refine am_sipush 117 (v := 256) dX10_go_117 (by decide) ?_
          refine am_icmp_gt 120 167 dX10_go_120 rfl (fun c120 => absurd c120 q1') (fun c120 => ?_)
          refine am_lload_n 123 dX10_go_123 rfl ?_
          refine am_iload 124 dX10_go_124 rfl ?_
          refine am_lshr 126 dX10_go_126 ?_
          refine am_lconst 127 (v := 1) dX10_go_127 rfl ?_
          refine am_land 128 dX10_go_128 ?_
          refine am_lconst 129 (v := 1) dX10_go_129 rfl ?_
          refine am_lcmp 130 dX10_go_130 ?_
          refine am_if_ne 131 137 dX10_go_131 rfl (fun c131 => ?_) (fun c131 => absurd c131 hb)
          refine am_aload_n 137 dX10_go_137 rfl ?_
          refine am_getfield 138 dX10_go_138 fX10_15 (by first | exact r_g0 | exact r_g1 | exact r_g2 | exact hgx0 | exact hgx1 | exact hgx2 | exact hgx3 | exact hgx4 | assumption) rfl ?_
          refine am_iload_n 141 dX10_go_141 rfl ?_
          refine am_iload 142 dX10_go_142 rfl ?_
          refine am_iastore 144 dX10_go_144 rfl (by first | exact r_g0 | exact r_g1 | exact r_g2 | exact hgx0 | exact hgx1 | exact hgx2 | exact hgx3 | exact hgx4 | assumption) (am_ix (c := 0) (by decide) (by decide)) ?_
          rw [show (0 : Int32).toNatClampNeg = 0 from rfl, r_gu1]
          refine am_aload_n 145 dX10_go_145 rfl ?_
          refine am_iload_n 146 dX10_go_146 rfl ?_
          refine am_iconst 147 (v := 1) dX10_go_147 (by decide) ?_
          refine am_iadd 148 dX10_go_148 ?_
          refine am_lload_n 149 dX10_go_149 rfl ?_
          refine am_lconst 150 (v := 1) dX10_go_150 rfl ?_
          refine am_iload 151 dX10_go_151 rfl ?_
          refine am_lshl 153 dX10_go_153 ?_
          refine am_lor 154 dX10_go_154 ?_
          refine am_iload 155 dX10_go_155 rfl ?_
          refine am_iconst 157 (v := 1) dX10_go_157 (by decide) ?_
          refine am_iadd 158 dX10_go_158 ?_
          refine am_iload 159 dX10_go_159 rfl ?_
          refine am_iload 161 dX10_go_161 rfl ?_
          refine am_iadd 163 dX10_go_163 ?_
          refine am_V4 164 (mc' := 0) (ms' := 0) (rc := 0) (rs := 0) dX10_go_164 (show am_cV RX10 48 mgo1 4 10 from lX10_48) ⟨by decide, by decide⟩ r_g0 (Nat.le_of_ble_eq_true rfl) (Nat.le_of_ble_eq_true rfl) (nx) ?_
          rintro o n' f' ⟨nw2, bs2, mo2, le2, rfl, rfl, rfl, q1, q2⟩
          refine am_ctI ?_
          exact more _ _ _ _ _ q1 q2
      · have q1' : (256 : Int32) < nI ((x_dist PX PY X Y) 0 j) := (nI_ltI (a := 256) (b := (x_dist PX PY X Y) 0 j) (by decide) (by omega)).mpr (by omega)
        have e3 := x_skip (by omega) hk0 hv (by omega) (Or.inr (Or.inl fun z => q1 z.2)) e2
        refine am_iload 63 dX10_go_63 rfl ?_
        refine am_aload_n 65 dX10_go_65 rfl ?_
        refine am_getfield 66 dX10_go_66 fX10_26 (by first | exact r_g0 | exact r_g1 | exact r_g2 | exact hgx0 | exact hgx1 | exact hgx2 | exact hgx3 | exact hgx4 | assumption) rfl ?_
        refine am_getfield 69 dX10_go_69 fX10_30 (by first | exact r_g0 | exact r_g1 | exact r_g2 | exact hgx0 | exact hgx1 | exact hgx2 | exact hgx3 | exact hgx4 | assumption) rfl ?_
        refine am_icmp_ge 72 173 dX10_go_72 rfl (fun c72 => absurd c72 hPj) (fun c72 => ?_)
        refine am_aload_n 75 dX10_go_75 rfl ?_
        refine am_getfield 76 dX10_go_76 fX10_3 (by first | exact r_g0 | exact r_g1 | exact r_g2 | exact hgx0 | exact hgx1 | exact hgx2 | exact hgx3 | exact hgx4 | assumption) rfl ?_
        refine am_getfieldN 79 dX10_go_79 fnX10_61 (by first | exact r_g0 | exact r_g1 | exact r_g2 | exact hgx0 | exact hgx1 | exact hgx2 | exact hgx3 | exact hgx4 | assumption) rfl ?_
        refine am_iload_n 82 dX10_go_82 rfl ?_
        refine am_aaload 83 dX10_go_83 rfl (by first | exact r_g0 | exact r_g1 | exact r_g2 | exact hgx0 | exact hgx1 | exact hgx2 | exact hgx3 | exact hgx4 | assumption) (am_ix (c := 0) (by decide) (by decide)) ?_
        rw [show (0 : Int32).toNatClampNeg = 0 from rfl, hc, show va_rf (some c) = Value.ref c from rfl]
        refine am_ifnull 84 dX10_go_84 ?_
        refine am_aload_n 87 dX10_go_87 rfl ?_
        refine am_getfield 88 dX10_go_88 fX10_3 (by first | exact r_g0 | exact r_g1 | exact r_g2 | exact hgx0 | exact hgx1 | exact hgx2 | exact hgx3 | exact hgx4 | assumption) rfl ?_
        refine am_getfieldN 91 dX10_go_91 fnX10_61 (by first | exact r_g0 | exact r_g1 | exact r_g2 | exact hgx0 | exact hgx1 | exact hgx2 | exact hgx3 | exact hgx4 | assumption) rfl ?_
        refine am_iload_n 94 dX10_go_94 rfl ?_
        refine am_aaload 95 dX10_go_95 rfl (by first | exact r_g0 | exact r_g1 | exact r_g2 | exact hgx0 | exact hgx1 | exact hgx2 | exact hgx3 | exact hgx4 | assumption) (am_ix (c := 0) (by decide) (by decide)) ?_
        rw [show (0 : Int32).toNatClampNeg = 0 from rfl, hc, show va_rf (some c) = Value.ref c from rfl]
        refine am_aload_n 96 dX10_go_96 rfl ?_
        refine am_getfield 97 dX10_go_97 fX10_35 (by first | exact r_g0 | exact r_g1 | exact r_g2 | exact hgx0 | exact hgx1 | exact hgx2 | exact hgx3 | exact hgx4 | assumption) rfl ?_
        refine am_iload 100 dX10_go_100 rfl ?_
        refine am_iaload 102 dX10_go_102 rfl (by first | exact r_g0 | exact r_g1 | exact r_g2 | exact hgx0 | exact hgx1 | exact hgx2 | exact hgx3 | exact hgx4 | assumption) (am_ix hj (by omega)) ?_
        rw [nI_clamp (n := j) (by omega), px1]
        refine am_aload_n 103 dX10_go_103 rfl ?_
        refine am_getfield 104 dX10_go_104 fX10_38 (by first | exact r_g0 | exact r_g1 | exact r_g2 | exact hgx0 | exact hgx1 | exact hgx2 | exact hgx3 | exact hgx4 | assumption) rfl ?_
        refine am_iload 107 dX10_go_107 rfl ?_
        refine am_iaload 109 dX10_go_109 rfl (by first | exact r_g0 | exact r_g1 | exact r_g2 | exact hgx0 | exact hgx1 | exact hgx2 | exact hgx3 | exact hgx4 | assumption) (am_ix hj (by omega)) ?_
        rw [nI_clamp (n := j) (by omega), py1]
        refine am_V2 110 (mc' := 0) (ms' := 0) (rc := 0) (rs := 0) dX10_go_110 lX10_65 ⟨by decide, by decide⟩ c3 (Nat.le_of_ble_eq_true rfl) (Nat.le_of_ble_eq_true rfl) (far) ?_
        refine am_is_ct ?_
        refine am_istore 113 dX10_go_113 (by decide) ?_
        refine am_iload 115 dX10_go_115 rfl ?_
        refine am_sipush 117 (v := 256) dX10_go_117 (by decide) ?_
        refine am_icmp_gt 120 167 dX10_go_120 rfl (fun c120 => ?_) (fun c120 => absurd q1' c120)
        exact more _ _ _ _ _ e1 e3
end XGo
