/-! ===== the reference: view, match, track, frame on a new object ===== -/
section Match
variable {m n v u t : Nat} {f : Nat → am_C} {th : Int32}
def r_V (f : Nat → am_C) (v u : Nat) (sig : Nat → Int32) : Prop := ∃ (q : Nat) (sz pk : Nat → Int32), f v = .inr (11, [.ref u, .ref (u + 1), .ref (u + 2), .int (nI q)]) ∧ f u = .inl (0, 48, .inl sig) ∧ f (u + 1) = .inl (0, 48, .inl sz) ∧ f (u + 2) = .inl (0, 48, .inl pk) ∧ r_q q 48 sz pk sig
theorem s_view {w : Nat → Int32} (h : r_Mo f m th w) (hm : m + 4 < n) : AM mX12_view 7 292 [.ref m] n f (fun o n' f' => o = .inl (some (.ref n)) ∧ n' = n + 7 ∧ r_V f' n (n + 2) w ∧ ∀ x, x < n → f' x = f x) := by
  have hh := h
  obtain ⟨h0, h1, h2, h3, h4⟩ := h
  unfold r_mo at h0
  show AW mX12_view 7 292 0 [some (.ref m)] [] n f _
  have hx : r_Mo (va_up f n (.inr (11, [.null, .null, .null, .int 0]))) m th w := hh.on fun x a b => am_up_ne (by omega)
  refine am_new 0 (rc := 6) (rs := 288) (N := 4) dX12_view_0 nX12_50 ?_
  refine am_dup 3 dX12_view_3 rfl ?_
  refine am_aload_n 4 dX12_view_4 rfl ?_
  refine am_V0 5 (mc' := 1) (ms' := 48) (rc := 5) (rs := 240) dX12_view_5 lX12_52 ⟨by decide, by decide⟩ hx.1 (Nat.le_of_ble_eq_true rfl) (Nat.le_of_ble_eq_true rfl) (s_charges hx (by omega)) ?_
  rintro o n' f' ⟨rfl, rfl, rfl⟩
  refine am_ct_in ?_
  refine am_aload_n 8 dX12_view_8 rfl ?_
  refine am_getfield 9 dX12_view_9 fX12_13 (am_un (by omega) (am_un (by omega) h0)) rfl ?_
  refine am_I2 12 (mc' := 5) (ms' := 240) (rc := 0) (rs := 0) dX12_view_12 lX12_56 ⟨by decide, by decide⟩ (Nat.le_of_ble_eq_true rfl) (Nat.le_of_ble_eq_true rfl) (s_View_init (u := n + 2) (am_un (by omega) am_ue) am_ue (am_un (by omega) (am_un (by omega) h1)) (by omega) (by omega) (by omega)) ?_
  rintro o n' f' ⟨sz, pk, g, w', q, rfl, hn, rfl, hq⟩
  obtain rfl : n' = n + 7 := hn
  refine ⟨_, rfl, ?_⟩
  have es : (fun k => (0 : Int32) + w k - 0) = w := by funext k; rw [m_iadd0]
  rw [es] at hq ⊢
  refine am_areturn 15 dX12_view_15 rfl (Or.inl ⟨_, rfl⟩) ?_
  exact ⟨rfl, rfl, ⟨q, sz, pk, r_a0, r_a1 (by omega), r_a2 (by omega), r_a3 (by omega), hq⟩, fun x hx => by rw [r_out (by omega), am_up_ne (by omega), am_up_ne (by omega)]⟩
def r_V0 (f : Nat → am_C) (v u : Nat) : Prop := f v = .inr (11, [.ref u, .ref (u + 1), .ref (u + 2), .int 0]) ∧ f u = .inl (0, 48, .inl (fun _ => 0)) ∧ f (u + 1) = .inl (0, 48, .inl (fun _ => 0)) ∧ ∃ pk, f (u + 2) = .inl (0, 48, .inl pk)
theorem r_V.zero (h : r_V f v u (fun _ => 0)) : r_V0 f v u := by
  obtain ⟨q, sz, pk, h1, h2, h3, h4, h5⟩ := h
  obtain ⟨rfl, rfl⟩ := h5.2 (fun x _ => show ¬ (20 : Int32) ≤ 0 by decide)
  exact ⟨h1, h2, h3, pk, h4⟩
theorem r_V0.on {f' : Nat → am_C} (h : r_V0 f v u) (e : ∀ x, x = v ∨ (u ≤ x ∧ x ≤ u + 2) → f' x = f x) : r_V0 f' v u := by
  obtain ⟨h1, h2, h3, pk, h4⟩ := h
  exact ⟨(e _ (by omega)).trans h1, (e _ (by omega)).trans h2, (e _ (by omega)).trans h3, pk, (e _ (by omega)).trans h4⟩
def r_ob (t v m : Nat) (mo le : Int32) : am_C := .inr (10, [.ref v, .ref (t + 3), .ref (t + 4), .ref (t + 1), .int mo, .int le, .ref (t + 2), .ref m])
def r_gp (f : Nat → am_C) (t v m : Nat) (nw bs : Nat → Int32) (mo le : Int32) : Nat → am_C := fun x => if x = t then r_ob t v m mo le else if x = t + 1 then .inl (0, 5, .inl nw) else if x = t + 2 then .inl (0, 5, .inl bs) else f x
variable {nw bs : Nat → Int32} {mo le : Int32}
theorem r_g0 : r_gp f t v m nw bs mo le t = .inr (10, [.ref v, .ref (t + 3), .ref (t + 4), .ref (t + 1), .int mo, .int le, .ref (t + 2), .ref m]) := by simp [r_gp, r_ob]
theorem r_g1 : r_gp f t v m nw bs mo le (t + 1) = .inl (0, 5, .inl nw) := by simp [r_gp]
theorem r_g2 : r_gp f t v m nw bs mo le (t + 2) = .inl (0, 5, .inl bs) := by simp [r_gp]
theorem r_gx {x : Nat} (h : x < t ∨ t + 2 < x) : r_gp f t v m nw bs mo le x = f x := by
  unfold r_gp
  rw [if_neg (by omega), if_neg (by omega), if_neg (by omega)]
theorem r_gu0 {a b : Int32} : va_up (r_gp f t v m nw bs mo le) t (.inr (10, [.ref v, .ref (t + 3), .ref (t + 4), .ref (t + 1), .int a, .int b, .ref (t + 2), .ref m])) = r_gp f t v m nw bs a b := by
  funext x; unfold va_up r_gp r_ob; repeat' split
  all_goals first | rfl | omega
theorem r_gu1 {a : Nat → Int32} : va_up (r_gp f t v m nw bs mo le) (t + 1) (.inl (0, 5, .inl a)) = r_gp f t v m a bs mo le := by
  funext x; unfold va_up r_gp r_ob; repeat' split
  all_goals first | rfl | omega
theorem r_gu2 {a : Nat → Int32} : va_up (r_gp f t v m nw bs mo le) (t + 2) (.inl (0, 5, .inl a)) = r_gp f t v m nw a mo le := by
  funext x; unfold va_up r_gp r_ob; repeat' split
  all_goals first | rfl | omega
abbrev mgo0 : am_M := (yX10_go, cX10_go, 8, none, [], 7, 210)
abbrev mgo1 : am_M := (yX10_go, cX10_go, 8, none, [], 6, 180)
abbrev mgo2 : am_M := (yX10_go, cX10_go, 8, none, [], 5, 150)
abbrev mgo3 : am_M := (yX10_go, cX10_go, 8, none, [], 4, 120)
abbrev mgo4 : am_M := (yX10_go, cX10_go, 8, none, [], 3, 90)
abbrev mgo5 : am_M := (yX10_go, cX10_go, 8, none, [], 2, 60)
theorem s_go5 {l : Int64} (hv : f v = .inr (11, [.ref u, .ref (u + 1), .ref (u + 2), .int 0])) (hvt : v < t) (hn : ∀ j, j < 5 → nw j = -1) : AM mgo5 0 0 [.ref t, .int 5, .long l, .int 0, .int 0] n (r_gp f t v m nw bs (-1) le) (fun o n' f' => ∃ (nw' bs' : Nat → Int32), o = .inl none ∧ n' = n ∧ f' = r_gp f t v m nw' bs' 0 0 ∧ ∀ j, j < 5 → bs' j = -1) := by
  have hgx : ∀ x, x < t → r_gp f t v m nw bs (-1) le x = f x := fun x hx => r_gx (Or.inl hx)
  have hv2 := (hgx v hvt).trans hv
  show AW mgo5 0 0 0 [some (.ref t), some (.int 5), some (.long l), none, some (.int 0), some (.int 0), none, none] [] n _ _
  refine am_iload_n 0 dX10_go_0 rfl ?_
  refine am_iconst 1 (v := 5) dX10_go_1 (by decide) ?_
  refine am_icmp_ne 2 60 dX10_go_2 rfl (fun c2 => absurd c2 (by decide)) (fun c2 => ?_)
  refine am_iload 5 dX10_go_5 rfl ?_
  refine am_aload_n 7 dX10_go_7 rfl ?_
  refine am_getfield 8 dX10_go_8 fX10_19 (by first | exact r_g0 | exact r_g1 | exact r_g2 | exact hgx _ (by omega) | assumption) rfl ?_
  refine am_icmp_lt 11 32 dX10_go_11 rfl (fun c11 => absurd c11 (by decide)) (fun c11 => ?_)
  refine am_iload 14 dX10_go_14 rfl ?_
  refine am_aload_n 16 dX10_go_16 rfl ?_
  refine am_getfield 17 dX10_go_17 fX10_19 (by first | exact r_g0 | exact r_g1 | exact r_g2 | exact hgx _ (by omega) | assumption) rfl ?_
  refine am_icmp_ne 20 33 dX10_go_20 rfl (fun c20 => ?_) (fun c20 => absurd c20 (by decide))
  refine am_aload_n 33 dX10_go_33 rfl ?_
  refine am_iload 34 dX10_go_34 rfl ?_
  refine am_putfield 36 dX10_go_36 pX10_19 (by first | exact r_g0 | exact r_g1 | exact r_g2 | exact hgx _ (by omega) | assumption) rfl rfl (Nat.le_of_ble_eq_true rfl) ?_
  rw [show List.set [Value.ref v, .ref (t + 3), .ref (t + 4), .ref (t + 1), .int (-1), .int le, .ref (t + 2), .ref m] 4 (.int 0) = [.ref v, .ref (t + 3), .ref (t + 4), .ref (t + 1), .int 0, .int le, .ref (t + 2), .ref m] from rfl, r_gu0]
  refine am_aload_n 39 dX10_go_39 rfl ?_
  refine am_iload 40 dX10_go_40 rfl ?_
  refine am_putfield 42 dX10_go_42 pX10_52 (by first | exact r_g0 | exact r_g1 | exact r_g2 | exact hgx _ (by omega) | assumption) rfl rfl (Nat.le_of_ble_eq_true rfl) ?_
  rw [show List.set [Value.ref v, .ref (t + 3), .ref (t + 4), .ref (t + 1), .int 0, .int le, .ref (t + 2), .ref m] 5 (.int 0) = [.ref v, .ref (t + 3), .ref (t + 4), .ref (t + 1), .int 0, .int 0, .ref (t + 2), .ref m] from rfl, r_gu0]
  refine am_aload_n 45 dX10_go_45 rfl ?_
  refine am_getfield 46 dX10_go_46 fX10_15 (by first | exact r_g0 | exact r_g1 | exact r_g2 | exact hgx _ (by omega) | assumption) rfl ?_
  refine am_iconst 49 (v := 0) dX10_go_49 (by decide) ?_
  refine am_aload_n 50 dX10_go_50 rfl ?_
  refine am_getfield 51 dX10_go_51 fX10_23 (by first | exact r_g0 | exact r_g1 | exact r_g2 | exact hgx _ (by omega) | assumption) rfl ?_
  refine am_iconst 54 (v := 0) dX10_go_54 (by decide) ?_
  refine am_iconst 55 (v := 5) dX10_go_55 (by decide) ?_
  refine am_acopy 56 dX10_go_56 vX10_55 rfl r_g1 r_g2 (by decide) (by decide) (by decide) (by decide) (by decide) (by decide) (by decide) ?_
  rw [r_gu2]
  refine am_return 59 dX10_go_59 rfl ?_
  refine ⟨_, _, rfl, rfl, rfl, fun j hj => ?_⟩
  rw [← hn j hj]
  have hj2 : j = 0 ∨ j = 1 ∨ j = 2 ∨ j = 3 ∨ j = 4 := by omega
  rcases hj2 with rfl | rfl | rfl | rfl | rfl <;> rfl
theorem s_go4 {l : Int64} (hv : f v = .inr (11, [.ref u, .ref (u + 1), .ref (u + 2), .int 0])) (hvt : v < t) (hn : ∀ j, j < 5 → nw j = -1) : AM mgo4 0 0 [.ref t, .int 4, .long l, .int 0, .int 0] n (r_gp f t v m nw bs (-1) le) (fun o n' f' => ∃ (nw' bs' : Nat → Int32), o = .inl none ∧ n' = n ∧ f' = r_gp f t v m nw' bs' 0 0 ∧ ∀ j, j < 5 → bs' j = -1) := by
  have hgx : ∀ x, x < t → r_gp f t v m nw bs (-1) le x = f x := fun x hx => r_gx (Or.inl hx)
  have hv2 := (hgx v hvt).trans hv
  show AW mgo4 0 0 0 [some (.ref t), some (.int 4), some (.long l), none, some (.int 0), some (.int 0), none, none] [] n _ _
  have hn2 : ∀ j, j < 5 → va_up nw 4 (-1) j = -1 := fun j hj => by
    by_cases e : j = 4
    · rw [e, am_up_eq]
    · rw [am_up_ne e]; exact hn j hj
  refine am_iload_n 0 dX10_go_0 rfl ?_
  refine am_iconst 1 (v := 5) dX10_go_1 (by decide) ?_
  refine am_icmp_ne 2 60 dX10_go_2 rfl (fun c2 => ?_) (fun c2 => absurd c2 (by decide))
  refine am_iconst 60 (v := 0) dX10_go_60 (by decide) ?_
  refine am_istore 61 dX10_go_61 (by decide) ?_
  refine am_iload 63 dX10_go_63 rfl ?_
  refine am_aload_n 65 dX10_go_65 rfl ?_
  refine am_getfield 66 dX10_go_66 fX10_26 (by first | exact r_g0 | exact r_g1 | exact r_g2 | exact hgx _ (by omega) | assumption) rfl ?_
  refine am_getfield 69 dX10_go_69 fX10_30 hv2 rfl ?_
  refine am_icmp_ge 72 173 dX10_go_72 rfl (fun c72 => ?_) (fun c72 => absurd (Int32.le_refl _) c72)
  refine am_aload_n 173 dX10_go_173 rfl ?_
  refine am_getfield 174 dX10_go_174 fX10_15 (by first | exact r_g0 | exact r_g1 | exact r_g2 | exact hgx _ (by omega) | assumption) rfl ?_
  refine am_iload_n 177 dX10_go_177 rfl ?_
  refine am_iconst 178 (v := (-1)) dX10_go_178 (by decide) ?_
  refine am_iastore 179 dX10_go_179 rfl (by first | exact r_g0 | exact r_g1 | exact r_g2 | exact hgx _ (by omega) | assumption) (am_ix (c := 4) (by decide) (by decide)) ?_
  rw [show (4 : Int32).toNatClampNeg = 4 from rfl, r_gu1]
  refine am_aload_n 180 dX10_go_180 rfl ?_
  refine am_iload_n 181 dX10_go_181 rfl ?_
  refine am_iconst 182 (v := 1) dX10_go_182 (by decide) ?_
  refine am_iadd 183 dX10_go_183 ?_
  refine am_lload_n 184 dX10_go_184 rfl ?_
  refine am_iload 185 dX10_go_185 rfl ?_
  refine am_iload 187 dX10_go_187 rfl ?_
  refine am_V4 189 (mc' := 0) (ms' := 0) (rc := 0) (rs := 0) dX10_go_189 (show am_cV RX10 48 mgo5 4 10 from lX10_48) ⟨by decide, by decide⟩ r_g0 (Nat.le_of_ble_eq_true rfl) (Nat.le_of_ble_eq_true rfl) (s_go5 hv hvt hn2) ?_
  rintro o n' f' ⟨nw2, bs2, rfl, rfl, rfl, hb⟩
  refine am_ct_in ?_
  refine am_return 192 dX10_go_192 rfl ?_
  exact ⟨nw2, bs2, rfl, rfl, rfl, hb⟩
theorem s_go3 {l : Int64} (hv : f v = .inr (11, [.ref u, .ref (u + 1), .ref (u + 2), .int 0])) (hvt : v < t) (hn : ∀ j, j < 5 → nw j = -1) : AM mgo3 0 0 [.ref t, .int 3, .long l, .int 0, .int 0] n (r_gp f t v m nw bs (-1) le) (fun o n' f' => ∃ (nw' bs' : Nat → Int32), o = .inl none ∧ n' = n ∧ f' = r_gp f t v m nw' bs' 0 0 ∧ ∀ j, j < 5 → bs' j = -1) := by
  have hgx : ∀ x, x < t → r_gp f t v m nw bs (-1) le x = f x := fun x hx => r_gx (Or.inl hx)
  have hv2 := (hgx v hvt).trans hv
  show AW mgo3 0 0 0 [some (.ref t), some (.int 3), some (.long l), none, some (.int 0), some (.int 0), none, none] [] n _ _
  have hn2 : ∀ j, j < 5 → va_up nw 3 (-1) j = -1 := fun j hj => by
    by_cases e : j = 3
    · rw [e, am_up_eq]
    · rw [am_up_ne e]; exact hn j hj
  refine am_iload_n 0 dX10_go_0 rfl ?_
  refine am_iconst 1 (v := 5) dX10_go_1 (by decide) ?_
  refine am_icmp_ne 2 60 dX10_go_2 rfl (fun c2 => ?_) (fun c2 => absurd c2 (by decide))
  refine am_iconst 60 (v := 0) dX10_go_60 (by decide) ?_
  refine am_istore 61 dX10_go_61 (by decide) ?_
  refine am_iload 63 dX10_go_63 rfl ?_
  refine am_aload_n 65 dX10_go_65 rfl ?_
  refine am_getfield 66 dX10_go_66 fX10_26 (by first | exact r_g0 | exact r_g1 | exact r_g2 | exact hgx _ (by omega) | assumption) rfl ?_
  refine am_getfield 69 dX10_go_69 fX10_30 hv2 rfl ?_
  refine am_icmp_ge 72 173 dX10_go_72 rfl (fun c72 => ?_) (fun c72 => absurd (Int32.le_refl _) c72)
  refine am_aload_n 173 dX10_go_173 rfl ?_
  refine am_getfield 174 dX10_go_174 fX10_15 (by first | exact r_g0 | exact r_g1 | exact r_g2 | exact hgx _ (by omega) | assumption) rfl ?_
  refine am_iload_n 177 dX10_go_177 rfl ?_
  refine am_iconst 178 (v := (-1)) dX10_go_178 (by decide) ?_
  refine am_iastore 179 dX10_go_179 rfl (by first | exact r_g0 | exact r_g1 | exact r_g2 | exact hgx _ (by omega) | assumption) (am_ix (c := 3) (by decide) (by decide)) ?_
  rw [show (3 : Int32).toNatClampNeg = 3 from rfl, r_gu1]
  refine am_aload_n 180 dX10_go_180 rfl ?_
  refine am_iload_n 181 dX10_go_181 rfl ?_
  refine am_iconst 182 (v := 1) dX10_go_182 (by decide) ?_
  refine am_iadd 183 dX10_go_183 ?_
  refine am_lload_n 184 dX10_go_184 rfl ?_
  refine am_iload 185 dX10_go_185 rfl ?_
  refine am_iload 187 dX10_go_187 rfl ?_
  refine am_V4 189 (mc' := 0) (ms' := 0) (rc := 0) (rs := 0) dX10_go_189 (show am_cV RX10 48 mgo4 4 10 from lX10_48) ⟨by decide, by decide⟩ r_g0 (Nat.le_of_ble_eq_true rfl) (Nat.le_of_ble_eq_true rfl) (s_go4 hv hvt hn2) ?_
  rintro o n' f' ⟨nw2, bs2, rfl, rfl, rfl, hb⟩
  refine am_ct_in ?_
  refine am_return 192 dX10_go_192 rfl ?_
  exact ⟨nw2, bs2, rfl, rfl, rfl, hb⟩
theorem s_go2 {l : Int64} (hv : f v = .inr (11, [.ref u, .ref (u + 1), .ref (u + 2), .int 0])) (hvt : v < t) (hn : ∀ j, j < 5 → nw j = -1) : AM mgo2 0 0 [.ref t, .int 2, .long l, .int 0, .int 0] n (r_gp f t v m nw bs (-1) le) (fun o n' f' => ∃ (nw' bs' : Nat → Int32), o = .inl none ∧ n' = n ∧ f' = r_gp f t v m nw' bs' 0 0 ∧ ∀ j, j < 5 → bs' j = -1) := by
  have hgx : ∀ x, x < t → r_gp f t v m nw bs (-1) le x = f x := fun x hx => r_gx (Or.inl hx)
  have hv2 := (hgx v hvt).trans hv
  show AW mgo2 0 0 0 [some (.ref t), some (.int 2), some (.long l), none, some (.int 0), some (.int 0), none, none] [] n _ _
  have hn2 : ∀ j, j < 5 → va_up nw 2 (-1) j = -1 := fun j hj => by
    by_cases e : j = 2
    · rw [e, am_up_eq]
    · rw [am_up_ne e]; exact hn j hj
  refine am_iload_n 0 dX10_go_0 rfl ?_
  refine am_iconst 1 (v := 5) dX10_go_1 (by decide) ?_
  refine am_icmp_ne 2 60 dX10_go_2 rfl (fun c2 => ?_) (fun c2 => absurd c2 (by decide))
  refine am_iconst 60 (v := 0) dX10_go_60 (by decide) ?_
  refine am_istore 61 dX10_go_61 (by decide) ?_
  refine am_iload 63 dX10_go_63 rfl ?_
  refine am_aload_n 65 dX10_go_65 rfl ?_
  refine am_getfield 66 dX10_go_66 fX10_26 (by first | exact r_g0 | exact r_g1 | exact r_g2 | exact hgx _ (by omega) | assumption) rfl ?_
  refine am_getfield 69 dX10_go_69 fX10_30 hv2 rfl ?_
  refine am_icmp_ge 72 173 dX10_go_72 rfl (fun c72 => ?_) (fun c72 => absurd (Int32.le_refl _) c72)
  refine am_aload_n 173 dX10_go_173 rfl ?_
  refine am_getfield 174 dX10_go_174 fX10_15 (by first | exact r_g0 | exact r_g1 | exact r_g2 | exact hgx _ (by omega) | assumption) rfl ?_
  refine am_iload_n 177 dX10_go_177 rfl ?_
  refine am_iconst 178 (v := (-1)) dX10_go_178 (by decide) ?_
  refine am_iastore 179 dX10_go_179 rfl (by first | exact r_g0 | exact r_g1 | exact r_g2 | exact hgx _ (by omega) | assumption) (am_ix (c := 2) (by decide) (by decide)) ?_
  rw [show (2 : Int32).toNatClampNeg = 2 from rfl, r_gu1]
  refine am_aload_n 180 dX10_go_180 rfl ?_
  refine am_iload_n 181 dX10_go_181 rfl ?_
  refine am_iconst 182 (v := 1) dX10_go_182 (by decide) ?_
  refine am_iadd 183 dX10_go_183 ?_
  refine am_lload_n 184 dX10_go_184 rfl ?_
  refine am_iload 185 dX10_go_185 rfl ?_
  refine am_iload 187 dX10_go_187 rfl ?_
  refine am_V4 189 (mc' := 0) (ms' := 0) (rc := 0) (rs := 0) dX10_go_189 (show am_cV RX10 48 mgo3 4 10 from lX10_48) ⟨by decide, by decide⟩ r_g0 (Nat.le_of_ble_eq_true rfl) (Nat.le_of_ble_eq_true rfl) (s_go3 hv hvt hn2) ?_
  rintro o n' f' ⟨nw2, bs2, rfl, rfl, rfl, hb⟩
  refine am_ct_in ?_
  refine am_return 192 dX10_go_192 rfl ?_
  exact ⟨nw2, bs2, rfl, rfl, rfl, hb⟩
theorem s_go1 {l : Int64} (hv : f v = .inr (11, [.ref u, .ref (u + 1), .ref (u + 2), .int 0])) (hvt : v < t) (hn : ∀ j, j < 5 → nw j = -1) : AM mgo1 0 0 [.ref t, .int 1, .long l, .int 0, .int 0] n (r_gp f t v m nw bs (-1) le) (fun o n' f' => ∃ (nw' bs' : Nat → Int32), o = .inl none ∧ n' = n ∧ f' = r_gp f t v m nw' bs' 0 0 ∧ ∀ j, j < 5 → bs' j = -1) := by
  have hgx : ∀ x, x < t → r_gp f t v m nw bs (-1) le x = f x := fun x hx => r_gx (Or.inl hx)
  have hv2 := (hgx v hvt).trans hv
  show AW mgo1 0 0 0 [some (.ref t), some (.int 1), some (.long l), none, some (.int 0), some (.int 0), none, none] [] n _ _
  have hn2 : ∀ j, j < 5 → va_up nw 1 (-1) j = -1 := fun j hj => by
    by_cases e : j = 1
    · rw [e, am_up_eq]
    · rw [am_up_ne e]; exact hn j hj
  refine am_iload_n 0 dX10_go_0 rfl ?_
  refine am_iconst 1 (v := 5) dX10_go_1 (by decide) ?_
  refine am_icmp_ne 2 60 dX10_go_2 rfl (fun c2 => ?_) (fun c2 => absurd c2 (by decide))
  refine am_iconst 60 (v := 0) dX10_go_60 (by decide) ?_
  refine am_istore 61 dX10_go_61 (by decide) ?_
  refine am_iload 63 dX10_go_63 rfl ?_
  refine am_aload_n 65 dX10_go_65 rfl ?_
  refine am_getfield 66 dX10_go_66 fX10_26 (by first | exact r_g0 | exact r_g1 | exact r_g2 | exact hgx _ (by omega) | assumption) rfl ?_
  refine am_getfield 69 dX10_go_69 fX10_30 hv2 rfl ?_
  refine am_icmp_ge 72 173 dX10_go_72 rfl (fun c72 => ?_) (fun c72 => absurd (Int32.le_refl _) c72)
  refine am_aload_n 173 dX10_go_173 rfl ?_
  refine am_getfield 174 dX10_go_174 fX10_15 (by first | exact r_g0 | exact r_g1 | exact r_g2 | exact hgx _ (by omega) | assumption) rfl ?_
  refine am_iload_n 177 dX10_go_177 rfl ?_
  refine am_iconst 178 (v := (-1)) dX10_go_178 (by decide) ?_
  refine am_iastore 179 dX10_go_179 rfl (by first | exact r_g0 | exact r_g1 | exact r_g2 | exact hgx _ (by omega) | assumption) (am_ix (c := 1) (by decide) (by decide)) ?_
  rw [show (1 : Int32).toNatClampNeg = 1 from rfl, r_gu1]
  refine am_aload_n 180 dX10_go_180 rfl ?_
  refine am_iload_n 181 dX10_go_181 rfl ?_
  refine am_iconst 182 (v := 1) dX10_go_182 (by decide) ?_
  refine am_iadd 183 dX10_go_183 ?_
  refine am_lload_n 184 dX10_go_184 rfl ?_
  refine am_iload 185 dX10_go_185 rfl ?_
  refine am_iload 187 dX10_go_187 rfl ?_
  refine am_V4 189 (mc' := 0) (ms' := 0) (rc := 0) (rs := 0) dX10_go_189 (show am_cV RX10 48 mgo2 4 10 from lX10_48) ⟨by decide, by decide⟩ r_g0 (Nat.le_of_ble_eq_true rfl) (Nat.le_of_ble_eq_true rfl) (s_go2 hv hvt hn2) ?_
  rintro o n' f' ⟨nw2, bs2, rfl, rfl, rfl, hb⟩
  refine am_ct_in ?_
  refine am_return 192 dX10_go_192 rfl ?_
  exact ⟨nw2, bs2, rfl, rfl, rfl, hb⟩
theorem s_go0 {l : Int64} (hv : f v = .inr (11, [.ref u, .ref (u + 1), .ref (u + 2), .int 0])) (hvt : v < t) (hn : ∀ j, j < 5 → nw j = -1) : AM mgo0 0 0 [.ref t, .int 0, .long l, .int 0, .int 0] n (r_gp f t v m nw bs (-1) le) (fun o n' f' => ∃ (nw' bs' : Nat → Int32), o = .inl none ∧ n' = n ∧ f' = r_gp f t v m nw' bs' 0 0 ∧ ∀ j, j < 5 → bs' j = -1) := by
  have hgx : ∀ x, x < t → r_gp f t v m nw bs (-1) le x = f x := fun x hx => r_gx (Or.inl hx)
  have hv2 := (hgx v hvt).trans hv
  show AW mgo0 0 0 0 [some (.ref t), some (.int 0), some (.long l), none, some (.int 0), some (.int 0), none, none] [] n _ _
  have hn2 : ∀ j, j < 5 → va_up nw 0 (-1) j = -1 := fun j hj => by
    by_cases e : j = 0
    · rw [e, am_up_eq]
    · rw [am_up_ne e]; exact hn j hj
  refine am_iload_n 0 dX10_go_0 rfl ?_
  refine am_iconst 1 (v := 5) dX10_go_1 (by decide) ?_
  refine am_icmp_ne 2 60 dX10_go_2 rfl (fun c2 => ?_) (fun c2 => absurd c2 (by decide))
  refine am_iconst 60 (v := 0) dX10_go_60 (by decide) ?_
  refine am_istore 61 dX10_go_61 (by decide) ?_
  refine am_iload 63 dX10_go_63 rfl ?_
  refine am_aload_n 65 dX10_go_65 rfl ?_
  refine am_getfield 66 dX10_go_66 fX10_26 (by first | exact r_g0 | exact r_g1 | exact r_g2 | exact hgx _ (by omega) | assumption) rfl ?_
  refine am_getfield 69 dX10_go_69 fX10_30 hv2 rfl ?_
  refine am_icmp_ge 72 173 dX10_go_72 rfl (fun c72 => ?_) (fun c72 => absurd (Int32.le_refl _) c72)
  refine am_aload_n 173 dX10_go_173 rfl ?_
  refine am_getfield 174 dX10_go_174 fX10_15 (by first | exact r_g0 | exact r_g1 | exact r_g2 | exact hgx _ (by omega) | assumption) rfl ?_
  refine am_iload_n 177 dX10_go_177 rfl ?_
  refine am_iconst 178 (v := (-1)) dX10_go_178 (by decide) ?_
  refine am_iastore 179 dX10_go_179 rfl (by first | exact r_g0 | exact r_g1 | exact r_g2 | exact hgx _ (by omega) | assumption) (am_ix (c := 0) (by decide) (by decide)) ?_
  rw [show (0 : Int32).toNatClampNeg = 0 from rfl, r_gu1]
  refine am_aload_n 180 dX10_go_180 rfl ?_
  refine am_iload_n 181 dX10_go_181 rfl ?_
  refine am_iconst 182 (v := 1) dX10_go_182 (by decide) ?_
  refine am_iadd 183 dX10_go_183 ?_
  refine am_lload_n 184 dX10_go_184 rfl ?_
  refine am_iload 185 dX10_go_185 rfl ?_
  refine am_iload 187 dX10_go_187 rfl ?_
  refine am_V4 189 (mc' := 0) (ms' := 0) (rc := 0) (rs := 0) dX10_go_189 (show am_cV RX10 48 mgo1 4 10 from lX10_48) ⟨by decide, by decide⟩ r_g0 (Nat.le_of_ble_eq_true rfl) (Nat.le_of_ble_eq_true rfl) (s_go1 hv hvt hn2) ?_
  rintro o n' f' ⟨nw2, bs2, rfl, rfl, rfl, hb⟩
  refine am_ct_in ?_
  refine am_return 192 dX10_go_192 rfl ?_
  exact ⟨nw2, bs2, rfl, rfl, rfl, hb⟩
theorem s_Match_init0 (h0 : f t = .inr (10, [.null, .null, .null, .null, .int 0, .int 0, .null, .null])) (hv : r_V0 f v u) (hvt : v < t) (hmt : m < t) : AM mX10_init 4 10 [.ref t, .ref m, .ref v] (t + 1) f (fun o n' f' => o = .inl none ∧ n' = t + 5 ∧ (∃ mo le, f' t = r_ob t v m mo le) ∧ (∃ gb : Nat → Int32, f' (t + 2) = .inl (0, 5, .inl gb) ∧ ∀ j, j < 5 → gb j = -1) ∧ ∀ x, x < t → f' x = f x) := by
  have hv1 := hv.1
  have z0 : (0 : Int32).toNatClampNeg = 0 := rfl
  have z1 : (1 : Int32).toNatClampNeg = 1 := rfl
  have z2 : (2 : Int32).toNatClampNeg = 2 := rfl
  have z3 : (3 : Int32).toNatClampNeg = 3 := rfl
  have z4 : (4 : Int32).toNatClampNeg = 4 := rfl
  show AW mX10_init 4 10 0 [some (.ref t), some (.ref m), some (.ref v), none] [] (t + 1) f _
  refine am_aload_n 0 dX10_init_0 rfl ?_
  refine am_aload_n 1 dX10_init_1 rfl ?_
  refine am_putfinal 2 dX10_init_2 rfl qX10_3 (by repeat (first | assumption | exact am_ue | refine am_un (by first | assumption | decide | omega) ?_)) rfl rfl (Nat.le_of_ble_eq_true rfl) ?_
  refine am_aload_n 5 dX10_init_5 rfl ?_
  refine am_OI 6 dX10_init_6 lX10_9 (by decide) (Nat.le_of_ble_eq_true rfl) ?_
  refine am_aload_n 9 dX10_init_9 rfl ?_
  refine am_iconst 10 (v := 5) dX10_init_10 (by decide) ?_
  refine am_newints 11 (t := 0) (N := 5) (rc := 3) (rs := 5) dX10_init_11 ac_int rfl (by decide) (by decide) (by decide) ?_
  refine am_dup 13 dX10_init_13 rfl ?_
  refine am_iconst 14 (v := 0) dX10_init_14 (by decide) ?_
  refine am_iconst 15 (v := (-1)) dX10_init_15 (by decide) ?_
  refine am_iastore 16 dX10_init_16 rfl (by repeat (first | assumption | exact am_ue | refine am_un (by first | assumption | decide | omega) ?_)) (am_ix (c := 0) (by decide) (by decide)) ?_
  refine am_dup 17 dX10_init_17 rfl ?_
  refine am_iconst 18 (v := 1) dX10_init_18 (by decide) ?_
  refine am_iconst 19 (v := (-1)) dX10_init_19 (by decide) ?_
  refine am_iastore 20 dX10_init_20 rfl (by repeat (first | assumption | exact am_ue | refine am_un (by first | assumption | decide | omega) ?_)) (am_ix (c := 1) (by decide) (by decide)) ?_
  refine am_dup 21 dX10_init_21 rfl ?_
  refine am_iconst 22 (v := 2) dX10_init_22 (by decide) ?_
  refine am_iconst 23 (v := (-1)) dX10_init_23 (by decide) ?_
  refine am_iastore 24 dX10_init_24 rfl (by repeat (first | assumption | exact am_ue | refine am_un (by first | assumption | decide | omega) ?_)) (am_ix (c := 2) (by decide) (by decide)) ?_
  refine am_dup 25 dX10_init_25 rfl ?_
  refine am_iconst 26 (v := 3) dX10_init_26 (by decide) ?_
  refine am_iconst 27 (v := (-1)) dX10_init_27 (by decide) ?_
  refine am_iastore 28 dX10_init_28 rfl (by repeat (first | assumption | exact am_ue | refine am_un (by first | assumption | decide | omega) ?_)) (am_ix (c := 3) (by decide) (by decide)) ?_
  refine am_dup 29 dX10_init_29 rfl ?_
  refine am_iconst 30 (v := 4) dX10_init_30 (by decide) ?_
  refine am_iconst 31 (v := (-1)) dX10_init_31 (by decide) ?_
  refine am_iastore 32 dX10_init_32 rfl (by repeat (first | assumption | exact am_ue | refine am_un (by first | assumption | decide | omega) ?_)) (am_ix (c := 4) (by decide) (by decide)) ?_
  refine am_putfinal 33 dX10_init_33 rfl qX10_15 (by repeat (first | assumption | exact am_ue | refine am_un (by first | assumption | decide | omega) ?_)) rfl rfl (Nat.le_of_ble_eq_true rfl) ?_
  refine am_aload_n 36 dX10_init_36 rfl ?_
  refine am_iconst 37 (v := (-1)) dX10_init_37 (by decide) ?_
  refine am_putfield 38 dX10_init_38 pX10_19 (by repeat (first | assumption | exact am_ue | refine am_un (by first | assumption | decide | omega) ?_)) rfl rfl (Nat.le_of_ble_eq_true rfl) ?_
  refine am_aload_n 41 dX10_init_41 rfl ?_
  refine am_iconst 42 (v := 5) dX10_init_42 (by decide) ?_
  refine am_newints 43 (t := 0) (N := 5) (rc := 2) (rs := 0) dX10_init_43 ac_int rfl (by decide) (by decide) (by decide) ?_
  refine am_dup 45 dX10_init_45 rfl ?_
  refine am_iconst 46 (v := 0) dX10_init_46 (by decide) ?_
  refine am_iconst 47 (v := (-1)) dX10_init_47 (by decide) ?_
  refine am_iastore 48 dX10_init_48 rfl (by repeat (first | assumption | exact am_ue | refine am_un (by first | assumption | decide | omega) ?_)) (am_ix (c := 0) (by decide) (by decide)) ?_
  refine am_dup 49 dX10_init_49 rfl ?_
  refine am_iconst 50 (v := 1) dX10_init_50 (by decide) ?_
  refine am_iconst 51 (v := (-1)) dX10_init_51 (by decide) ?_
  refine am_iastore 52 dX10_init_52 rfl (by repeat (first | assumption | exact am_ue | refine am_un (by first | assumption | decide | omega) ?_)) (am_ix (c := 1) (by decide) (by decide)) ?_
  refine am_dup 53 dX10_init_53 rfl ?_
  refine am_iconst 54 (v := 2) dX10_init_54 (by decide) ?_
  refine am_iconst 55 (v := (-1)) dX10_init_55 (by decide) ?_
  refine am_iastore 56 dX10_init_56 rfl (by repeat (first | assumption | exact am_ue | refine am_un (by first | assumption | decide | omega) ?_)) (am_ix (c := 2) (by decide) (by decide)) ?_
  refine am_dup 57 dX10_init_57 rfl ?_
  refine am_iconst 58 (v := 3) dX10_init_58 (by decide) ?_
  refine am_iconst 59 (v := (-1)) dX10_init_59 (by decide) ?_
  refine am_iastore 60 dX10_init_60 rfl (by repeat (first | assumption | exact am_ue | refine am_un (by first | assumption | decide | omega) ?_)) (am_ix (c := 3) (by decide) (by decide)) ?_
  refine am_dup 61 dX10_init_61 rfl ?_
  refine am_iconst 62 (v := 4) dX10_init_62 (by decide) ?_
  refine am_iconst 63 (v := (-1)) dX10_init_63 (by decide) ?_
  refine am_iastore 64 dX10_init_64 rfl (by repeat (first | assumption | exact am_ue | refine am_un (by first | assumption | decide | omega) ?_)) (am_ix (c := 4) (by decide) (by decide)) ?_
  refine am_putfield 65 dX10_init_65 pX10_23 (by repeat (first | assumption | exact am_ue | refine am_un (by first | assumption | decide | omega) ?_)) rfl rfl (Nat.le_of_ble_eq_true rfl) ?_
  refine am_aload_n 68 dX10_init_68 rfl ?_
  refine am_aload_n 69 dX10_init_69 rfl ?_
  refine am_putfinal 70 dX10_init_70 rfl qX10_26 (by repeat (first | assumption | exact am_ue | refine am_un (by first | assumption | decide | omega) ?_)) rfl rfl (Nat.le_of_ble_eq_true rfl) ?_
  refine am_aload_n 73 dX10_init_73 rfl ?_
  refine am_aload_n 74 dX10_init_74 rfl ?_
  refine am_getfield 75 dX10_init_75 fX10_30 (by repeat (first | assumption | exact am_ue | refine am_un (by first | assumption | decide | omega) ?_)) rfl ?_
  refine am_newints 78 (t := 0) (N := 0) (rc := 1) (rs := 0) dX10_init_78 ac_int rfl (by decide) (by decide) (by decide) ?_
  refine am_putfinal 80 dX10_init_80 rfl qX10_35 (by repeat (first | assumption | exact am_ue | refine am_un (by first | assumption | decide | omega) ?_)) rfl rfl (Nat.le_of_ble_eq_true rfl) ?_
  refine am_aload_n 83 dX10_init_83 rfl ?_
  refine am_aload_n 84 dX10_init_84 rfl ?_
  refine am_getfield 85 dX10_init_85 fX10_30 (by repeat (first | assumption | exact am_ue | refine am_un (by first | assumption | decide | omega) ?_)) rfl ?_
  refine am_newints 88 (t := 0) (N := 0) (rc := 0) (rs := 0) dX10_init_88 ac_int rfl (by decide) (by decide) (by decide) ?_
  refine am_putfinal 90 dX10_init_90 rfl qX10_38 (by repeat (first | assumption | exact am_ue | refine am_un (by first | assumption | decide | omega) ?_)) rfl rfl (Nat.le_of_ble_eq_true rfl) ?_
  refine am_iconst 93 (v := 0) dX10_init_93 (by decide) ?_
  refine am_istore_n 94 dX10_init_94 (by decide) ?_
  refine am_iload_n 95 dX10_init_95 rfl ?_
  refine am_aload_n 96 dX10_init_96 rfl ?_
  refine am_getfield 97 dX10_init_97 fX10_30 (by repeat (first | assumption | exact am_ue | refine am_un (by first | assumption | decide | omega) ?_)) rfl ?_
  refine am_icmp_ge 100 143 dX10_init_100 rfl (fun c100 => ?_) (fun c100 => absurd (Int32.le_refl _) c100)
  generalize hg : va_up _ t _ = f9
  have b0 : f9 t = .inr (10, [.ref v, .ref (t + 3), .ref (t + 4), .ref (t + 1), .int (-1), .int 0, .ref (t + 2), .ref m]) := by rw [← hg]; exact am_ue
  have b1 : ∃ nw : Nat → Int32, f9 (t + 1) = .inl (0, 5, .inl nw) ∧ ∀ j, j < 5 → nw j = -1 := by
    refine ⟨_, by rw [← hg]; repeat (first | exact am_ue | refine am_un (by omega) ?_), fun j hj => ?_⟩
    have hj2 : j = 0 ∨ j = 1 ∨ j = 2 ∨ j = 3 ∨ j = 4 := by omega
    simp only [z0, z1, z2, z3, z4]
    rcases hj2 with rfl | rfl | rfl | rfl | rfl <;> rfl
  have b2 : ∃ bs : Nat → Int32, f9 (t + 2) = .inl (0, 5, .inl bs) := ⟨_, by rw [← hg]; repeat (first | exact am_ue | refine am_un (by omega) ?_)⟩
  have b3 : ∀ x, x < t → f9 x = f x := fun x hx => by rw [← hg]; repeat rw [am_up_ne (by omega)]
  clear hg
  obtain ⟨nw, b1, hnw⟩ := b1
  obtain ⟨bs, b2⟩ := b2
  have e9 : f9 = r_gp f9 t v m nw bs (-1) 0 := by
    funext x
    by_cases hx : x < t ∨ t + 2 < x
    · rw [r_gx hx]
    · have hx2 : x = t ∨ x = t + 1 ∨ x = t + 2 := by omega
      rcases hx2 with rfl | rfl | rfl
      · rw [r_g0, b0]
      · rw [r_g1, b1]
      · rw [r_g2, b2]
  have hvf : f9 v = .inr (11, [.ref u, .ref (u + 1), .ref (u + 2), .int 0]) := (b3 v hvt).trans hv1
  rw [e9]
  show AW mX10_init 0 0 143 [some (.ref t), some (.ref m), some (.ref v), some (.int 0)] [] (t + 5) (r_gp f9 t v m nw bs (-1) 0) _
  refine am_aload_n 143 dX10_init_143 rfl ?_
  refine am_iconst 144 (v := 0) dX10_init_144 (by decide) ?_
  refine am_lconst 145 (v := 0) dX10_init_145 rfl ?_
  refine am_iconst 146 (v := 0) dX10_init_146 (by decide) ?_
  refine am_iconst 147 (v := 0) dX10_init_147 (by decide) ?_
  refine am_V4 148 (mc' := 0) (ms' := 0) (rc := 0) (rs := 0) dX10_init_148 (show am_cV RX10 48 mgo0 4 10 from lX10_48) ⟨by decide, by decide⟩ r_g0 (Nat.le_of_ble_eq_true rfl) (Nat.le_of_ble_eq_true rfl) (s_go0 hvf hvt hnw) ?_
  rintro o n' f' ⟨nw2, bs2, rfl, rfl, rfl, hb⟩
  refine am_ct_in ?_
  refine am_return 151 dX10_init_151 rfl ?_
  exact ⟨rfl, rfl, ⟨0, 0, by rw [r_g0]; rfl⟩, ⟨bs2, r_g2, hb⟩, fun x hx => (r_gx (Or.inl hx)).trans (b3 x hx)⟩
theorem s_mayClaim0 {k : Nat} {w : Nat → Int32} (h0 : f m = .inr (12, [.int th, .ref (m + 1), .ref (m + 2), .int 0, .int 4, .int 12, .ref (m + 3), .ref (m + 4), .int 0, .int 0, .int 0, .int 0, .int 0])) (h3 : f (m + 3) = .inl (7, 5, .inr (.inr (.inr (.inr (fun _ => none)))))) (hk : k < 5) : AM mX12_mayClaim 0 0 [.ref m, .int (nI k)] n f (am_is (some (.int 0)) n f) := by
  show AW mX12_mayClaim 0 0 0 [some (.ref m), some (.int (nI k))] [] n f _
  refine am_aload_n 0 dX12_mayClaim_0 rfl ?_
  refine am_getfield 1 dX12_mayClaim_1 fX12_29 (by repeat (first | assumption | exact am_ue | refine am_un (by first | assumption | decide | omega) ?_)) rfl ?_
  refine am_iload_n 4 dX12_mayClaim_4 rfl ?_
  refine am_aaload 5 dX12_mayClaim_5 rfl (by repeat (first | assumption | exact am_ue | refine am_un (by first | assumption | decide | omega) ?_)) (am_ix hk (by decide)) ?_
  refine am_ifnullN 6 (tgt := 37) dX12_mayClaim_6 rfl ?_
  refine am_iconst 37 (v := 0) dX12_mayClaim_37 (by decide) ?_
  exact am_ireturn 38 dX12_mayClaim_38 rfl rfl ⟨rfl, rfl, rfl⟩
theorem s_claims0 {w : Nat → Int32} (h : r_Mo f m th w) : AM mX12_claims 0 0 [.ref m] n f (am_is none n f) := by
  obtain ⟨h0, h1, h2, h3, h4⟩ := h
  unfold r_mo at h0
  show AW mX12_claims 0 0 0 [some (.ref m), none, none] [] n f _
  refine am_iconst 0 (v := 0) dX12_claims_0 (by decide) ?_
  refine am_istore_n 1 dX12_claims_1 (by decide) ?_
  refine am_for 5 (fun _ (_ : Option Value) => True) (fun k z => AW mX12_claims 0 0 2 [some (.ref m), some (.int (nI k)), z] [] n f _) ?_ ?_ 0 _ (by omega) trivial
  · rintro z -
    refine am_iload_n 2 dX12_claims_2 rfl ?_
    refine am_iconst 3 (v := 5) dX12_claims_3 (by decide) ?_
    refine am_icmp_ge 4 95 dX12_claims_4 rfl (fun c4 => ?_) (fun c4 => absurd (by decide) c4)
    refine am_iconst 95 (v := 0) dX12_claims_95 (by decide) ?_
    refine am_istore_n 96 dX12_claims_96 (by decide) ?_
    refine am_for 5 (fun _ (_ : Unit) => True) (fun k _ => AW mX12_claims 0 0 97 [some (.ref m), some (.int (nI k)), z] [] n f _) ?_ ?_ 0 () (by omega) trivial
    · rintro ⟨⟩ -
      refine am_iload_n 97 dX12_claims_97 rfl ?_
      refine am_iconst 98 (v := 5) dX12_claims_98 (by decide) ?_
      refine am_icmp_ge 99 163 dX12_claims_99 rfl (fun c99 => ?_) (fun c99 => absurd (by decide) c99)
      exact am_return 163 dX12_claims_163 rfl ⟨rfl, rfl, rfl⟩
    · rintro k ⟨⟩ hk - ih
      refine am_iload_n 97 dX12_claims_97 rfl ?_
      refine am_iconst 98 (v := 5) dX12_claims_98 (by decide) ?_
      refine am_icmp_ge 99 163 dX12_claims_99 rfl (fun c99 => absurd c99 (nI_ge hk (by decide))) (fun c99 => ?_)
      refine am_aload_n 102 dX12_claims_102 rfl ?_
      refine am_iload_n 103 dX12_claims_103 rfl ?_
      refine am_V1 104 (mc' := 0) (ms' := 0) (rc := 0) (rs := 0) dX12_claims_104 lX12_168 ⟨by decide, by decide⟩ (by repeat (first | assumption | exact am_ue | refine am_un (by first | assumption | decide | omega) ?_)) (Nat.le_of_ble_eq_true rfl) (Nat.le_of_ble_eq_true rfl) (s_mayClaim0 (w := w) h0 h3 hk) ?_
      refine am_is_ct ?_
      refine am_if_ne 107 113 dX12_claims_107 rfl (fun c107 => absurd c107 (by decide)) (fun c107 => ?_)
      refine am_goto 110 (tgt := 157) dX12_claims_110 rfl ?_
      refine am_iinc 157 (v := nI (k + 1)) dX12_claims_157 rfl (nI_1 (k)) (by decide) ?_
      refine am_goto 160 (tgt := 97) dX12_claims_160 rfl ?_
      exact ih () trivial
  · rintro k z hk - ih
    refine am_iload_n 2 dX12_claims_2 rfl ?_
    refine am_iconst 3 (v := 5) dX12_claims_3 (by decide) ?_
    refine am_icmp_ge 4 95 dX12_claims_4 rfl (fun c4 => absurd c4 (nI_ge hk (by decide))) (fun c4 => ?_)
    refine am_iload_n 7 dX12_claims_7 rfl ?_
    refine am_iconst 8 (v := 1) dX12_claims_8 (by decide) ?_
    refine am_iadd 9 dX12_claims_9 ?_
    rw [nI_1]
    refine am_istore_n 10 dX12_claims_10 (by decide) ?_
    refine am_for 5 (fun _ (_ : Unit) => True) (fun j _ => AW mX12_claims 0 0 11 [some (.ref m), some (.int (nI k)), some (.int (nI j))] [] n f _) ?_ ?_ (k + 1) () (by omega) trivial
    · rintro ⟨⟩ -
      refine am_iload_n 11 dX12_claims_11 rfl ?_
      refine am_iconst 12 (v := 5) dX12_claims_12 (by decide) ?_
      refine am_icmp_ge 13 89 dX12_claims_13 rfl (fun c13 => ?_) (fun c13 => absurd (by decide) c13)
      refine am_iinc 89 (v := nI (k + 1)) dX12_claims_89 rfl (nI_1 (k)) (by decide) ?_
      refine am_goto 92 (tgt := 2) dX12_claims_92 rfl ?_
      exact ih _ trivial
    · rintro j ⟨⟩ hj - ih2
      refine am_iload_n 11 dX12_claims_11 rfl ?_
      refine am_iconst 12 (v := 5) dX12_claims_12 (by decide) ?_
      refine am_icmp_ge 13 89 dX12_claims_13 rfl (fun c13 => absurd c13 (nI_ge hj (by decide))) (fun c13 => ?_)
      refine am_aload_n 16 dX12_claims_16 rfl ?_
      refine am_iload_n 17 dX12_claims_17 rfl ?_
      refine am_V1 18 (mc' := 0) (ms' := 0) (rc := 0) (rs := 0) dX12_claims_18 lX12_168 ⟨by decide, by decide⟩ (by repeat (first | assumption | exact am_ue | refine am_un (by first | assumption | decide | omega) ?_)) (Nat.le_of_ble_eq_true rfl) (Nat.le_of_ble_eq_true rfl) (s_mayClaim0 (w := w) h0 h3 hk) ?_
      refine am_is_ct ?_
      refine am_if_eq 21 83 dX12_claims_21 rfl (fun c21 => ?_) (fun c21 => absurd (by decide) c21)
      refine am_iinc 83 (v := nI (j + 1)) dX12_claims_83 rfl (nI_1 (j)) (by decide) ?_
      refine am_goto 86 (tgt := 11) dX12_claims_86 rfl ?_
      exact ih2 () trivial
theorem s_track0 {w : Nat → Int32} (h : r_Mo f m th w) (hv : r_V0 f v u) (hmn : m + 4 < n) (hvn : v < n) (hun : u + 2 < n) (hvm : v < m ∨ m + 4 < v) : AM mX12_track 6 66 [.ref m, .ref v] n f (fun o n' f' => o = .inl none ∧ n ≤ n' ∧ f' m = .inr (12, [.int th, .ref (m + 1), .ref (m + 2), .int 0, .int 4, .int 12, .ref (m + 3), .ref (m + 4), .int 1, .int 0, .int 0, .int 0, .int 0]) ∧ ∀ x, x ≠ m → x < n → f' x = f x) := by
  show AW mX12_track 6 66 0 [some (.ref m), some (.ref v), none, none, none, none] [] n f _
  refine am_new 0 (rc := 5) (rs := 58) (N := 8) dX12_track_0 nX12_184 ?_
  refine am_dup 3 dX12_track_3 rfl ?_
  refine am_aload_n 4 dX12_track_4 rfl ?_
  refine am_aload_n 5 dX12_track_5 rfl ?_
  refine am_I2 6 (mc' := 4) (ms' := 10) (rc := 1) (rs := 48) dX12_track_6 lX12_186 ⟨by decide, by decide⟩ (Nat.le_of_ble_eq_true rfl) (Nat.le_of_ble_eq_true rfl) (s_Match_init0 am_ue (hv.on fun x hx => am_up_ne (by omega)) hvn (by omega)) ?_
  rintro o n' f1 ⟨rfl, rfl, ⟨mo, le, c0⟩, ⟨gb, c2, hgb⟩, c3⟩
  refine ⟨_, rfl, ?_⟩
  unfold r_ob at c0
  have ex : ∀ x, x < n → f1 x = f x := fun x hx => (c3 x hx).trans (am_up_ne (by omega))
  refine am_getfield 9 dX12_track_9 fX12_189 (by repeat (first | assumption | exact am_ue | refine am_un (by first | assumption | decide | omega) ?_)) rfl ?_
  refine am_astore_n 12 dX12_track_12 (by decide) ?_
  show AW mX12_track 1 48 13 [some (.ref m), some (.ref v), some (.ref (n + 2)), none, none, none] [] (n + 5) f1 _
  have hM : r_Mo f1 m th w := h.on fun x a b => ex x (by omega)
  have hV : r_V0 f1 v u := hv.on fun x hx => ex x (by omega)
  refine am_bipush 13 (v := 48) dX12_track_13 (by decide) ?_
  refine am_newbools 15 (t := 3) (N := 48) (rc := 0) (rs := 0) dX12_track_15 ac_boolean rfl (by decide) (by decide) (by decide) ?_
  generalize hf2 : va_up f1 (n + 5) _ = f2
  have ex2 : ∀ x, x < n + 5 → f2 x = f1 x := fun x hx => by rw [← hf2, am_up_ne (by omega)]
  have hM2 : r_Mo f2 m th w := hM.on fun x a b => ex2 x (by omega)
  have hV2 : r_V0 f2 v u := hV.on fun x hx => ex2 x (by omega)
  have cb : f2 (n + 2) = .inl (0, 5, .inl gb) := (ex2 _ (by omega)).trans c2
  have hM3 := hM2
  obtain ⟨m0, m1, m2, m3, m4⟩ := hM2
  unfold r_mo at m0
  have v0 := hV2.1
  show AW mX12_track 0 0 17 [some (.ref m), some (.ref v), some (.ref (n + 2)), none, none, none] [.ref (n + 5)] (n + 5 + 1) f2 _
  refine am_astore_n 17 dX12_track_17 (by decide) ?_
  refine am_iconst 18 (v := 0) dX12_track_18 (by decide) ?_
  refine am_istore 19 dX12_track_19 (by decide) ?_
  refine am_for 5 (fun _ (_ : Unit) => True) (fun k _ => AW mX12_track 0 0 21 [some (.ref m), some (.ref v), some (.ref (n + 2)), some (.ref (n + 5)), some (.int (nI k)), none] [] (n + 5 + 1) f2 _) ?_ ?_ 0 () (by omega) trivial
  · rintro ⟨⟩ -
    refine am_iload 21 dX12_track_21 rfl ?_
    refine am_iconst 23 (v := 5) dX12_track_23 (by decide) ?_
    refine am_icmp_ge 24 129 dX12_track_24 rfl (fun c24 => ?_) (fun c24 => absurd (by decide) c24)
    refine am_iconst 129 (v := 0) dX12_track_129 (by decide) ?_
    refine am_istore 130 dX12_track_130 (by decide) ?_
    refine am_for 5 (fun _ (_ : Unit) => True) (fun k _ => AW mX12_track 0 0 132 [some (.ref m), some (.ref v), some (.ref (n + 2)), some (.ref (n + 5)), some (.int (nI k)), none] [] (n + 5 + 1) f2 _) ?_ ?_ 0 () (by omega) trivial
    · rintro ⟨⟩ -
      refine am_iload 132 dX12_track_132 rfl ?_
      refine am_iconst 134 (v := 5) dX12_track_134 (by decide) ?_
      refine am_icmp_ge 135 168 dX12_track_135 rfl (fun c135 => ?_) (fun c135 => absurd (by decide) c135)
      refine am_iconst 168 (v := 0) dX12_track_168 (by decide) ?_
      refine am_istore 169 dX12_track_169 (by decide) ?_
      refine am_iload 171 dX12_track_171 rfl ?_
      refine am_aload_n 173 dX12_track_173 rfl ?_
      refine am_getfield 174 dX12_track_174 fX12_212 (by repeat (first | assumption | exact am_ue | refine am_un (by first | assumption | decide | omega) ?_)) rfl ?_
      refine am_icmp_ge 177 242 dX12_track_177 rfl (fun c177 => ?_) (fun c177 => absurd (Int32.le_refl _) c177)
      refine am_aload_n 242 dX12_track_242 rfl ?_
      refine am_V0 243 (mc' := 0) (ms' := 0) (rc := 0) (rs := 0) dX12_track_243 lX12_218 ⟨by decide, by decide⟩ (by repeat (first | assumption | exact am_ue | refine am_un (by first | assumption | decide | omega) ?_)) (Nat.le_of_ble_eq_true rfl) (Nat.le_of_ble_eq_true rfl) (s_claims0 hM3) ?_
      refine am_is_ct ?_
      refine am_aload_n 246 dX12_track_246 rfl ?_
      refine am_dup 247 dX12_track_247 rfl ?_
      refine am_getfield 248 dX12_track_248 fX12_220 (by repeat (first | assumption | exact am_ue | refine am_un (by first | assumption | decide | omega) ?_)) rfl ?_
      refine am_iconst 251 (v := 1) dX12_track_251 (by decide) ?_
      refine am_iadd 252 dX12_track_252 ?_
      refine am_putfield 253 dX12_track_253 pX12_220 (by repeat (first | assumption | exact am_ue | refine am_un (by first | assumption | decide | omega) ?_)) rfl rfl (Nat.le_of_ble_eq_true rfl) ?_
      refine am_return 256 dX12_track_256 rfl ?_
      exact ⟨rfl, by omega, am_ue, fun x h1 h2 => (am_up_ne h1).trans ((ex2 x (by omega)).trans (ex x h2))⟩
    · rintro k ⟨⟩ hk - ih
      refine am_iload 132 dX12_track_132 rfl ?_
      refine am_iconst 134 (v := 5) dX12_track_134 (by decide) ?_
      refine am_icmp_ge 135 168 dX12_track_135 rfl (fun c135 => absurd c135 (nI_ge hk (by decide))) (fun c135 => ?_)
      refine am_aload_n 138 dX12_track_138 rfl ?_
      refine am_getfield 139 dX12_track_139 fX12_29 (by repeat (first | assumption | exact am_ue | refine am_un (by first | assumption | decide | omega) ?_)) rfl ?_
      refine am_iload 142 dX12_track_142 rfl ?_
      refine am_aaload 144 dX12_track_144 rfl (by repeat (first | assumption | exact am_ue | refine am_un (by first | assumption | decide | omega) ?_)) (am_ix hk (by decide)) ?_
      refine am_ifnullN 145 (tgt := 162) dX12_track_145 rfl ?_
      refine am_iinc 162 (v := nI (k + 1)) dX12_track_162 rfl (nI_1 (k)) (by decide) ?_
      refine am_goto 165 (tgt := 132) dX12_track_165 rfl ?_
      exact ih () trivial
  · rintro k ⟨⟩ hk - ih
    refine am_iload 21 dX12_track_21 rfl ?_
    refine am_iconst 23 (v := 5) dX12_track_23 (by decide) ?_
    refine am_icmp_ge 24 129 dX12_track_24 rfl (fun c24 => absurd c24 (nI_ge hk (by decide))) (fun c24 => ?_)
    refine am_aload_n 27 dX12_track_27 rfl ?_
    refine am_getfield 28 dX12_track_28 fX12_29 (by repeat (first | assumption | exact am_ue | refine am_un (by first | assumption | decide | omega) ?_)) rfl ?_
    refine am_iload 31 dX12_track_31 rfl ?_
    refine am_aaload 33 dX12_track_33 rfl (by repeat (first | assumption | exact am_ue | refine am_un (by first | assumption | decide | omega) ?_)) (am_ix hk (by decide)) ?_
    refine am_ifnullN 34 (tgt := 48) dX12_track_34 rfl ?_
    refine am_aload_n 48 dX12_track_48 rfl ?_
    refine am_iload 49 dX12_track_49 rfl ?_
    refine am_iaload 51 dX12_track_51 rfl (by repeat (first | assumption | exact am_ue | refine am_un (by first | assumption | decide | omega) ?_)) (am_ix hk (by decide)) ?_
    rw [nI_clamp (n := k) (by omega), hgb k hk]
    refine am_iconst 52 (v := (-1)) dX12_track_52 (by decide) ?_
    refine am_icmp_ne 53 59 dX12_track_53 rfl (fun c53 => absurd c53 (by decide)) (fun c53 => ?_)
    refine am_goto 56 (tgt := 123) dX12_track_56 rfl ?_
    refine am_iinc 123 (v := nI (k + 1)) dX12_track_123 rfl (nI_1 (k)) (by decide) ?_
    refine am_goto 126 (tgt := 21) dX12_track_126 rfl ?_
    exact ih () trivial
end Match
