/-! ===== the reference in any state: matching ===== -/
section RMatch
variable {m n v u t P : Nat} {f : Nat → am_C} {cs : Nat → Option Nat} {xs ys : Nat → Int32} {nw bs : Nat → Int32} {mo le : Int32}
def r_ob (t v m : Nat) (mo le : Int32) : am_C := .inr (10, [.ref v, .ref (t + 3), .ref (t + 4), .ref (t + 1), .int mo, .int le, .ref (t + 2), .ref m])
def r_gp (f : Nat → am_C) (t v m : Nat) (nw bs : Nat → Int32) (mo le : Int32) : Nat → am_C := fun x => if x = t then r_ob t v m mo le else if x = t + 1 then .inl (0, 5, .inl nw) else if x = t + 2 then .inl (0, 5, .inl bs) else f x
theorem r_g0 : r_gp f t v m nw bs mo le t = .inr (10, [.ref v, .ref (t + 3), .ref (t + 4), .ref (t + 1), .int mo, .int le, .ref (t + 2), .ref m]) := by simp [r_gp, r_ob]
theorem r_g1 : r_gp f t v m nw bs mo le (t + 1) = .inl (0, 5, .inl nw) := by simp [r_gp]
theorem r_g2 : r_gp f t v m nw bs mo le (t + 2) = .inl (0, 5, .inl bs) := by simp [r_gp]
theorem r_gx {x : Nat} (h : x < t ∨ t + 2 < x) : r_gp f t v m nw bs mo le x = f x := by
  unfold r_gp
  rw [if_neg (by omega), if_neg (by omega), if_neg (by omega)]
theorem r_gu0 {a b : Int32} : va_up (r_gp f t v m nw bs mo le) t (.inr (10, [.ref v, .ref (t + 3), .ref (t + 4), .ref (t + 1), .int a, .int b, .ref (t + 2), .ref m])) = r_gp f t v m nw bs a b := by
  funext x; unfold va_up r_gp r_ob; repeat' split
  all_goals first | rfl | omega
theorem r_gu1 {a : Nat → Int32} : va_up (r_gp f t v m nw bs mo le) (t + 1) (.inl (0, 5, .inl a)) = r_gp f t v m a bs mo le := by
  funext x; unfold va_up r_gp r_ob; repeat' split
  all_goals first | rfl | omega
theorem r_gu2 {a : Nat → Int32} : va_up (r_gp f t v m nw bs mo le) (t + 2) (.inl (0, 5, .inl a)) = r_gp f t v m nw a mo le := by
  funext x; unfold va_up r_gp r_ob; repeat' split
  all_goals first | rfl | omega
/-- a way to match that may be: nobody, or a peak there is for a contact there is -/
def r_gd (cs : Nat → Option Nat) (P : Nat) (g : Nat → Int32) : Prop := ∀ j, j < 5 → g j = -1 ∨ ∃ p c, p < P ∧ g j = nI p ∧ cs j = some c
theorem r_gd.up {g : Nat → Int32} (h : r_gd cs P g) {k : Nat} {x : Int32} (hx : x = -1 ∨ ∃ p c, p < P ∧ x = nI p ∧ cs k = some c) : r_gd cs P (va_up g k x) := fun j hj => by
  by_cases e : j = k
  · subst e
    rw [am_up_eq]
    exact hx
  · rw [am_up_ne e]
    exact h j hj
/-- what the matching reads -/
def r_Mt (f : Nat → am_C) (t v m P : Nat) (cs : Nat → Option Nat) (xs ys : Nat → Int32) : Prop := (v < t ∧ m + 3 < t ∧ P ≤ 48) ∧ (∃ a b c, f v = .inr (11, [a, b, c, .int (nI P)])) ∧ (∃ a0 a1 a2 a3 a4 a5 r, f m = .inr (12, a0 :: a1 :: a2 :: a3 :: a4 :: a5 :: .ref (m + 3) :: r)) ∧ f (m + 3) = .inl (7, 5, .inr (.inr (.inr (.inr cs)))) ∧ f (t + 3) = .inl (0, P, .inl xs) ∧ f (t + 4) = .inl (0, P, .inl ys) ∧ ∀ j, j < 5 → ∀ c, cs j = some c → c < t ∧ ∃ ap κ, f c = .inr (9, r_kF ap κ)
abbrev mgo0 : am_M := (yX10_go, cX10_go, 8, none, [], 7, 210)
abbrev mgo1 : am_M := (yX10_go, cX10_go, 8, none, [], 6, 180)
abbrev mgo2 : am_M := (yX10_go, cX10_go, 8, none, [], 5, 150)
abbrev mgo3 : am_M := (yX10_go, cX10_go, 8, none, [], 4, 120)
abbrev mgo4 : am_M := (yX10_go, cX10_go, 8, none, [], 3, 90)
abbrev mgo5 : am_M := (yX10_go, cX10_go, 8, none, [], 2, 60)
/-- where it ends: other ways, other numbers -/
def r_gQ (f : Nat → am_C) (t v m P n : Nat) (cs : Nat → Option Nat) : am_P := fun o n' f' => ∃ (nw' bs' : Nat → Int32) (mo' le' : Int32), o = .inl none ∧ n = n' ∧ f' = r_gp f t v m nw' bs' mo' le' ∧ r_gd cs P nw' ∧ r_gd cs P bs'
theorem s_vgo5 {l : Int64} {pa su : Int32} (hM : r_Mt f t v m P cs xs ys) (hn : r_gd cs P nw) (hb : r_gd cs P bs) : AM mgo5 0 0 [.ref t, .int 5, .long l, .int pa, .int su] n (r_gp f t v m nw bs mo le) (r_gQ f t v m P n cs) := by
  have no : ∀ {a b}, r_gQ f t v m P n cs (.inl none) n (r_gp f t v m nw bs a b) := fun {a b} => ⟨nw, bs, a, b, rfl, rfl, rfl, hn, hb⟩
  show AW mgo5 0 0 0 [some (.ref t), some (.int 5), some (.long l), none, some (.int pa), some (.int su), none, none] [] n _ _
  have h33 : AW mgo5 0 0 33 [some (.ref t), some (.int 5), some (.long l), none, some (.int pa), some (.int su), none, none] [] n (r_gp f t v m nw bs mo le) (r_gQ f t v m P n cs) := by
    refine am_aload_n 33 dX10_go_33 rfl ?_
    refine am_iload 34 dX10_go_34 rfl ?_
    refine am_putfield 36 dX10_go_36 pX10_19 (by first | exact r_g0 | exact r_g1 | exact r_g2 | exact hgx0 | exact hgx1 | exact hgx2 | exact hgx3 | exact hgx4 | assumption) rfl rfl (Nat.le_of_ble_eq_true rfl) ?_
    rw [show List.set [Value.ref v, .ref (t + 3), .ref (t + 4), .ref (t + 1), .int mo, .int le, .ref (t + 2), .ref m] 4 (.int pa) = [.ref v, .ref (t + 3), .ref (t + 4), .ref (t + 1), .int pa, .int le, .ref (t + 2), .ref m] from rfl, r_gu0]
    refine am_aload_n 39 dX10_go_39 rfl ?_
    refine am_iload 40 dX10_go_40 rfl ?_
    refine am_putfield 42 dX10_go_42 pX10_52 (by first | exact r_g0 | exact r_g1 | exact r_g2 | exact hgx0 | exact hgx1 | exact hgx2 | exact hgx3 | exact hgx4 | assumption) rfl rfl (Nat.le_of_ble_eq_true rfl) ?_
    rw [show List.set [Value.ref v, .ref (t + 3), .ref (t + 4), .ref (t + 1), .int pa, .int le, .ref (t + 2), .ref m] 5 (.int su) = [.ref v, .ref (t + 3), .ref (t + 4), .ref (t + 1), .int pa, .int su, .ref (t + 2), .ref m] from rfl, r_gu0]
    refine am_aload_n 45 dX10_go_45 rfl ?_
    refine am_getfield 46 dX10_go_46 fX10_15 (by first | exact r_g0 | exact r_g1 | exact r_g2 | exact hgx0 | exact hgx1 | exact hgx2 | exact hgx3 | exact hgx4 | assumption) rfl ?_
    refine am_iconst 49 (v := 0) dX10_go_49 (by decide) ?_
    refine am_aload_n 50 dX10_go_50 rfl ?_
    refine am_getfield 51 dX10_go_51 fX10_23 (by first | exact r_g0 | exact r_g1 | exact r_g2 | exact hgx0 | exact hgx1 | exact hgx2 | exact hgx3 | exact hgx4 | assumption) rfl ?_
    refine am_iconst 54 (v := 0) dX10_go_54 (by decide) ?_
    refine am_iconst 55 (v := 5) dX10_go_55 (by decide) ?_
    refine am_acopy 56 dX10_go_56 vX10_55 rfl r_g1 r_g2 (by decide) (by decide) (by decide) (by decide) (by decide) (by decide) (by decide) ?_
    rw [r_gu2]
    refine am_return 59 dX10_go_59 rfl ?_
    refine ⟨_, _, _, _, rfl, rfl, rfl, hn, fun j hj => ?_⟩
    have hj2 : j = 0 ∨ j = 1 ∨ j = 2 ∨ j = 3 ∨ j = 4 := by omega
    rcases hj2 with rfl | rfl | rfl | rfl | rfl
    · exact hn 0 (by decide)
    · exact hn 1 (by decide)
    · exact hn 2 (by decide)
    · exact hn 3 (by decide)
    · exact hn 4 (by decide)
  refine am_iload_n 0 dX10_go_0 rfl ?_
  refine am_iconst 1 (v := 5) dX10_go_1 (by decide) ?_
  refine am_icmp_ne 2 60 dX10_go_2 rfl (fun c2 => absurd c2 (by decide)) (fun c2 => ?_)
  refine am_iload 5 dX10_go_5 rfl ?_
  refine am_aload_n 7 dX10_go_7 rfl ?_
  refine am_getfield 8 dX10_go_8 fX10_19 (by first | exact r_g0 | exact r_g1 | exact r_g2 | exact hgx0 | exact hgx1 | exact hgx2 | exact hgx3 | exact hgx4 | assumption) rfl ?_
  refine am_icmp_lt 11 32 dX10_go_11 rfl (fun c11 => ?_) (fun c11 => ?_)
  · refine am_return 32 dX10_go_32 rfl ?_
    exact no
  · refine am_iload 14 dX10_go_14 rfl ?_
    refine am_aload_n 16 dX10_go_16 rfl ?_
    refine am_getfield 17 dX10_go_17 fX10_19 (by first | exact r_g0 | exact r_g1 | exact r_g2 | exact hgx0 | exact hgx1 | exact hgx2 | exact hgx3 | exact hgx4 | assumption) rfl ?_
    refine am_icmp_ne 20 33 dX10_go_20 rfl (fun c20 => ?_) (fun c20 => ?_)
    · exact h33
    · refine am_iload 23 dX10_go_23 rfl ?_
      refine am_aload_n 25 dX10_go_25 rfl ?_
      refine am_getfield 26 dX10_go_26 fX10_52 (by first | exact r_g0 | exact r_g1 | exact r_g2 | exact hgx0 | exact hgx1 | exact hgx2 | exact hgx3 | exact hgx4 | assumption) rfl ?_
      refine am_icmp_lt 29 33 dX10_go_29 rfl (fun c29 => ?_) (fun c29 => ?_)
      · exact h33
      · refine am_return 32 dX10_go_32 rfl ?_
        exact no
theorem s_vgo4 {l : Int64} {pa su : Int32} (hM : r_Mt f t v m P cs xs ys) (hn : r_gd cs P nw) (hb : r_gd cs P bs) : AM mgo4 0 0 [.ref t, .int 4, .long l, .int pa, .int su] n (r_gp f t v m nw bs mo le) (r_gQ f t v m P n cs) := by
  have hM0 := hM
  obtain ⟨⟨hvt, hm3, hP⟩, ⟨w0, w1, w2, hv⟩, ⟨a0, a1, a2, a3, a4, a5, r, h0⟩, h3, hx, hy, hcs⟩ := hM
  show AW mgo4 0 0 0 [some (.ref t), some (.int 4), some (.long l), none, some (.int pa), some (.int su), none, none] [] n _ _
  refine am_iload_n 0 dX10_go_0 rfl ?_
  refine am_iconst 1 (v := 5) dX10_go_1 (by decide) ?_
  refine am_icmp_ne 2 60 dX10_go_2 rfl (fun c2 => ?_) (fun c2 => absurd c2 (by decide))
  refine am_iconst 60 (v := 0) dX10_go_60 (by decide) ?_
  refine am_istore 61 dX10_go_61 (by decide) ?_
  have next : ∀ (nw1 bs1 : Nat → Int32) (mo1 le1 : Int32), r_gd cs P nw1 → r_gd cs P bs1 → ∀ (l1 : Int64) (p1 s1 : Int32), AM mgo5 0 0 [.ref t, .int (4 + 1), .long l1, .int p1, .int s1] n (r_gp f t v m nw1 bs1 mo1 le1) (r_gQ f t v m P n cs) := fun nw1 bs1 mo1 le1 e1 e2 l1 p1 s1 => s_vgo5 hM0 e1 e2
  have hend : ∀ (nw1 bs1 : Nat → Int32) (mo1 le1 : Int32) (x6 : Int32) (x7 : Option Value), r_gd cs P nw1 → r_gd cs P bs1 → AW mgo4 0 0 173 [some (.ref t), some (.int 4), some (.long l), none, some (.int pa), some (.int su), some (.int x6), x7] [] n (r_gp f t v m nw1 bs1 mo1 le1) (r_gQ f t v m P n cs) := by
    intro nw1 bs1 mo1 le1 x6 x7 e1 e2
    refine am_aload_n 173 dX10_go_173 rfl ?_
    refine am_getfield 174 dX10_go_174 fX10_15 (by first | exact r_g0 | exact r_g1 | exact r_g2 | exact hgx0 | exact hgx1 | exact hgx2 | exact hgx3 | exact hgx4 | assumption) rfl ?_
    refine am_iload_n 177 dX10_go_177 rfl ?_
    refine am_iconst 178 (v := (-1)) dX10_go_178 (by decide) ?_
    refine am_iastore 179 dX10_go_179 rfl (by first | exact r_g0 | exact r_g1 | exact r_g2 | exact hgx0 | exact hgx1 | exact hgx2 | exact hgx3 | exact hgx4 | assumption) (am_ix (c := 4) (by decide) (by decide)) ?_
    rw [show (4 : Int32).toNatClampNeg = 4 from rfl, r_gu1]
    refine am_aload_n 180 dX10_go_180 rfl ?_
    refine am_iload_n 181 dX10_go_181 rfl ?_
    refine am_iconst 182 (v := 1) dX10_go_182 (by decide) ?_
    refine am_iadd 183 dX10_go_183 ?_
    refine am_lload_n 184 dX10_go_184 rfl ?_
    refine am_iload 185 dX10_go_185 rfl ?_
    refine am_iload 187 dX10_go_187 rfl ?_
    refine am_V4 189 (mc' := 0) (ms' := 0) (rc := 0) (rs := 0) dX10_go_189 (show am_cV RX10 48 mgo5 4 10 from lX10_48) ⟨by decide, by decide⟩ r_g0 (Nat.le_of_ble_eq_true rfl) (Nat.le_of_ble_eq_true rfl) (next _ _ _ _ (e1.up (k := 4) (Or.inl rfl)) e2 _ _ _) ?_
    rintro o n' f' ⟨nw2, bs2, mo2, le2, rfl, rfl, rfl, q1, q2⟩
    refine am_ctI ?_
    refine am_return 192 dX10_go_192 rfl ?_
    exact ⟨nw2, bs2, mo2, le2, rfl, rfl, rfl, q1, q2⟩
  refine am_for P (fun _ (s : ((Nat → Int32) × (Nat → Int32)) × (Int32 × Int32) × Option Value) => r_gd cs P s.1.1 ∧ r_gd cs P s.1.2) (fun j s => AW mgo4 0 0 63 [some (.ref t), some (.int 4), some (.long l), none, some (.int pa), some (.int su), some (.int (nI j)), s.2.2] [] n (r_gp f t v m s.1.1 s.1.2 s.2.1.1 s.2.1.2) (r_gQ f t v m P n cs)) ?_ ?_ 0 ((nw, bs), (mo, le), none) (by omega) ⟨hn, hb⟩
  · rintro ⟨⟨nw1, bs1⟩, ⟨mo1, le1⟩, z⟩ ⟨e1, e2⟩
    show AW mgo4 0 0 63 [some (.ref t), some (.int 4), some (.long l), none, some (.int pa), some (.int su), some (.int (nI P)), z] [] n (r_gp f t v m nw1 bs1 mo1 le1) _
    have hgx0 : r_gp f t v m nw1 bs1 mo1 le1 v = _ := (r_gx (Or.inl hvt)).trans hv
    refine am_iload 63 dX10_go_63 rfl ?_
    refine am_aload_n 65 dX10_go_65 rfl ?_
    refine am_getfield 66 dX10_go_66 fX10_26 (by first | exact r_g0 | exact r_g1 | exact r_g2 | exact hgx0 | exact hgx1 | exact hgx2 | exact hgx3 | exact hgx4 | assumption) rfl ?_
    refine am_getfield 69 dX10_go_69 fX10_30 (by first | exact r_g0 | exact r_g1 | exact r_g2 | exact hgx0 | exact hgx1 | exact hgx2 | exact hgx3 | exact hgx4 | assumption) rfl ?_
    refine am_icmp_ge 72 173 dX10_go_72 rfl (fun c72 => ?_) (fun c72 => absurd (Int32.le_refl _) c72)
    exact hend _ _ _ _ _ _ e1 e2
  · rintro j ⟨⟨nw1, bs1⟩, ⟨mo1, le1⟩, z⟩ hj ⟨e1, e2⟩ ih
    show AW mgo4 0 0 63 [some (.ref t), some (.int 4), some (.long l), none, some (.int pa), some (.int su), some (.int (nI j)), z] [] n (r_gp f t v m nw1 bs1 mo1 le1) _
    have hgx0 : r_gp f t v m nw1 bs1 mo1 le1 v = _ := (r_gx (Or.inl hvt)).trans hv
    have hgx1 : r_gp f t v m nw1 bs1 mo1 le1 m = _ := (r_gx (Or.inl (by omega))).trans h0
    have hgx2 : r_gp f t v m nw1 bs1 mo1 le1 (m + 3) = _ := (r_gx (Or.inl hm3)).trans h3
    have hgx3 : r_gp f t v m nw1 bs1 mo1 le1 (t + 3) = _ := (r_gx (Or.inr (by omega))).trans hx
    have hgx4 : r_gp f t v m nw1 bs1 mo1 le1 (t + 4) = _ := (r_gx (Or.inr (by omega))).trans hy
    have more : ∀ (nw1 bs1 : Nat → Int32) (mo1 le1 : Int32) (x7 : Option Value), r_gd cs P nw1 → r_gd cs P bs1 → AW mgo4 0 0 167 [some (.ref t), some (.int 4), some (.long l), none, some (.int pa), some (.int su), some (.int (nI j)), x7] [] n (r_gp f t v m nw1 bs1 mo1 le1) (r_gQ f t v m P n cs) := by
      intro nw1 bs1 mo1 le1 x7 e1 e2
      refine am_iinc 167 (v := nI (j + 1)) dX10_go_167 rfl (nI_1 (j)) (by decide) ?_
      refine am_goto 170 (tgt := 63) dX10_go_170 rfl ?_
      exact ih ((_, _), (_, _), _) ⟨e1, e2⟩
    have hk4 : 4 < 5 := by decide
    have hPj : ¬ nI P ≤ nI j := nI_ge hj (by omega)
    rcases hc : cs 4 with _ | c
    · refine am_iload 63 dX10_go_63 rfl ?_
      refine am_aload_n 65 dX10_go_65 rfl ?_
      refine am_getfield 66 dX10_go_66 fX10_26 (by first | exact r_g0 | exact r_g1 | exact r_g2 | exact hgx0 | exact hgx1 | exact hgx2 | exact hgx3 | exact hgx4 | assumption) rfl ?_
      refine am_getfield 69 dX10_go_69 fX10_30 (by first | exact r_g0 | exact r_g1 | exact r_g2 | exact hgx0 | exact hgx1 | exact hgx2 | exact hgx3 | exact hgx4 | assumption) rfl ?_
      refine am_icmp_ge 72 173 dX10_go_72 rfl (fun c72 => absurd c72 hPj) (fun c72 => ?_)
      refine am_aload_n 75 dX10_go_75 rfl ?_
      refine am_getfield 76 dX10_go_76 fX10_3 (by first | exact r_g0 | exact r_g1 | exact r_g2 | exact hgx0 | exact hgx1 | exact hgx2 | exact hgx3 | exact hgx4 | assumption) rfl ?_
      refine am_getfieldN 79 dX10_go_79 fnX10_61 (by first | exact r_g0 | exact r_g1 | exact r_g2 | exact hgx0 | exact hgx1 | exact hgx2 | exact hgx3 | exact hgx4 | assumption) rfl ?_
      refine am_iload_n 82 dX10_go_82 rfl ?_
      refine am_aaload 83 dX10_go_83 rfl (by first | exact r_g0 | exact r_g1 | exact r_g2 | exact hgx0 | exact hgx1 | exact hgx2 | exact hgx3 | exact hgx4 | assumption) (am_ix (c := 4) (by decide) (by decide)) ?_
      rw [show (4 : Int32).toNatClampNeg = 4 from rfl, hc, show va_rf none = Value.null from rfl]
      refine am_ifnullN 84 (tgt := 173) dX10_go_84 rfl ?_
      exact hend _ _ _ _ _ _ e1 e2
    · obtain ⟨c1, ap, κ, c2⟩ := hcs 4 hk4 c hc
      have c3 : r_gp f t v m nw1 bs1 mo1 le1 c = _ := (r_gx (Or.inl c1)).trans c2
      have far := fun x y => s_rfar (n := n) (x := x) (y := y) c3
      unfold r_kF at c3
      refine am_iload 63 dX10_go_63 rfl ?_
      refine am_aload_n 65 dX10_go_65 rfl ?_
      refine am_getfield 66 dX10_go_66 fX10_26 (by first | exact r_g0 | exact r_g1 | exact r_g2 | exact hgx0 | exact hgx1 | exact hgx2 | exact hgx3 | exact hgx4 | assumption) rfl ?_
      refine am_getfield 69 dX10_go_69 fX10_30 (by first | exact r_g0 | exact r_g1 | exact r_g2 | exact hgx0 | exact hgx1 | exact hgx2 | exact hgx3 | exact hgx4 | assumption) rfl ?_
      refine am_icmp_ge 72 173 dX10_go_72 rfl (fun c72 => absurd c72 hPj) (fun c72 => ?_)
      refine am_aload_n 75 dX10_go_75 rfl ?_
      refine am_getfield 76 dX10_go_76 fX10_3 (by first | exact r_g0 | exact r_g1 | exact r_g2 | exact hgx0 | exact hgx1 | exact hgx2 | exact hgx3 | exact hgx4 | assumption) rfl ?_
      refine am_getfieldN 79 dX10_go_79 fnX10_61 (by first | exact r_g0 | exact r_g1 | exact r_g2 | exact hgx0 | exact hgx1 | exact hgx2 | exact hgx3 | exact hgx4 | assumption) rfl ?_
      refine am_iload_n 82 dX10_go_82 rfl ?_
      refine am_aaload 83 dX10_go_83 rfl (by first | exact r_g0 | exact r_g1 | exact r_g2 | exact hgx0 | exact hgx1 | exact hgx2 | exact hgx3 | exact hgx4 | assumption) (am_ix (c := 4) (by decide) (by decide)) ?_
      rw [show (4 : Int32).toNatClampNeg = 4 from rfl, hc, show va_rf (some c) = Value.ref c from rfl]
      refine am_ifnull 84 dX10_go_84 ?_
      refine am_aload_n 87 dX10_go_87 rfl ?_
      refine am_getfield 88 dX10_go_88 fX10_3 (by first | exact r_g0 | exact r_g1 | exact r_g2 | exact hgx0 | exact hgx1 | exact hgx2 | exact hgx3 | exact hgx4 | assumption) rfl ?_
      refine am_getfieldN 91 dX10_go_91 fnX10_61 (by first | exact r_g0 | exact r_g1 | exact r_g2 | exact hgx0 | exact hgx1 | exact hgx2 | exact hgx3 | exact hgx4 | assumption) rfl ?_
      refine am_iload_n 94 dX10_go_94 rfl ?_
      refine am_aaload 95 dX10_go_95 rfl (by first | exact r_g0 | exact r_g1 | exact r_g2 | exact hgx0 | exact hgx1 | exact hgx2 | exact hgx3 | exact hgx4 | assumption) (am_ix (c := 4) (by decide) (by decide)) ?_
      rw [show (4 : Int32).toNatClampNeg = 4 from rfl, hc, show va_rf (some c) = Value.ref c from rfl]
      refine am_aload_n 96 dX10_go_96 rfl ?_
      refine am_getfield 97 dX10_go_97 fX10_35 (by first | exact r_g0 | exact r_g1 | exact r_g2 | exact hgx0 | exact hgx1 | exact hgx2 | exact hgx3 | exact hgx4 | assumption) rfl ?_
      refine am_iload 100 dX10_go_100 rfl ?_
      refine am_iaload 102 dX10_go_102 rfl (by first | exact r_g0 | exact r_g1 | exact r_g2 | exact hgx0 | exact hgx1 | exact hgx2 | exact hgx3 | exact hgx4 | assumption) (am_ix hj (by omega)) ?_
      refine am_aload_n 103 dX10_go_103 rfl ?_
      refine am_getfield 104 dX10_go_104 fX10_38 (by first | exact r_g0 | exact r_g1 | exact r_g2 | exact hgx0 | exact hgx1 | exact hgx2 | exact hgx3 | exact hgx4 | assumption) rfl ?_
      refine am_iload 107 dX10_go_107 rfl ?_
      refine am_iaload 109 dX10_go_109 rfl (by first | exact r_g0 | exact r_g1 | exact r_g2 | exact hgx0 | exact hgx1 | exact hgx2 | exact hgx3 | exact hgx4 | assumption) (am_ix hj (by omega)) ?_
      refine am_V2 110 (mc' := 0) (ms' := 0) (rc := 0) (rs := 0) dX10_go_110 lX10_65 ⟨by decide, by decide⟩ c3 (Nat.le_of_ble_eq_true rfl) (Nat.le_of_ble_eq_true rfl) (far _ _) ?_
      refine am_is_ct ?_
      refine am_istore 113 dX10_go_113 (by decide) ?_
      refine am_iload 115 dX10_go_115 rfl ?_
      refine am_sipush 117 (v := 256) dX10_go_117 (by decide) ?_
      refine am_icmp_gt 120 167 dX10_go_120 rfl (fun c120 => ?_) (fun c120 => ?_)
      · first | exact more _ _ _ _ _ q1 q2 | exact more _ _ _ _ _ e1 e2
      · refine am_lload_n 123 dX10_go_123 rfl ?_
        refine am_iload 124 dX10_go_124 rfl ?_
        refine am_lshr 126 dX10_go_126 ?_
        refine am_lconst 127 (v := 1) dX10_go_127 rfl ?_
        refine am_land 128 dX10_go_128 ?_
        refine am_lconst 129 (v := 1) dX10_go_129 rfl ?_
        refine am_lcmp 130 dX10_go_130 ?_
        refine am_if_ne 131 137 dX10_go_131 rfl (fun c131 => ?_) (fun c131 => ?_)
        · refine am_aload_n 137 dX10_go_137 rfl ?_
          refine am_getfield 138 dX10_go_138 fX10_15 (by first | exact r_g0 | exact r_g1 | exact r_g2 | exact hgx0 | exact hgx1 | exact hgx2 | exact hgx3 | exact hgx4 | assumption) rfl ?_
          refine am_iload_n 141 dX10_go_141 rfl ?_
          refine am_iload 142 dX10_go_142 rfl ?_
          refine am_iastore 144 dX10_go_144 rfl (by first | exact r_g0 | exact r_g1 | exact r_g2 | exact hgx0 | exact hgx1 | exact hgx2 | exact hgx3 | exact hgx4 | assumption) (am_ix (c := 4) (by decide) (by decide)) ?_
          rw [show (4 : Int32).toNatClampNeg = 4 from rfl, r_gu1]
          refine am_aload_n 145 dX10_go_145 rfl ?_
          refine am_iload_n 146 dX10_go_146 rfl ?_
          refine am_iconst 147 (v := 1) dX10_go_147 (by decide) ?_
          refine am_iadd 148 dX10_go_148 ?_
          refine am_lload_n 149 dX10_go_149 rfl ?_
          refine am_lconst 150 (v := 1) dX10_go_150 rfl ?_
          refine am_iload 151 dX10_go_151 rfl ?_
          refine am_lshl 153 dX10_go_153 ?_
          refine am_lor 154 dX10_go_154 ?_
          refine am_iload 155 dX10_go_155 rfl ?_
          refine am_iconst 157 (v := 1) dX10_go_157 (by decide) ?_
          refine am_iadd 158 dX10_go_158 ?_
          refine am_iload 159 dX10_go_159 rfl ?_
          refine am_iload 161 dX10_go_161 rfl ?_
          refine am_iadd 163 dX10_go_163 ?_
          refine am_V4 164 (mc' := 0) (ms' := 0) (rc := 0) (rs := 0) dX10_go_164 (show am_cV RX10 48 mgo5 4 10 from lX10_48) ⟨by decide, by decide⟩ r_g0 (Nat.le_of_ble_eq_true rfl) (Nat.le_of_ble_eq_true rfl) (next _ _ _ _ (e1.up (k := 4) (Or.inr ⟨j, c, hj, rfl, hc⟩)) e2 _ _ _) ?_
          rintro o n' f' ⟨nw2, bs2, mo2, le2, rfl, rfl, rfl, q1, q2⟩
          refine am_ctI ?_
          first | exact more _ _ _ _ _ q1 q2 | exact more _ _ _ _ _ e1 e2
        · refine am_goto 134 (tgt := 167) dX10_go_134 rfl ?_
          first | exact more _ _ _ _ _ q1 q2 | exact more _ _ _ _ _ e1 e2
theorem s_vgo3 {l : Int64} {pa su : Int32} (hM : r_Mt f t v m P cs xs ys) (hn : r_gd cs P nw) (hb : r_gd cs P bs) : AM mgo3 0 0 [.ref t, .int 3, .long l, .int pa, .int su] n (r_gp f t v m nw bs mo le) (r_gQ f t v m P n cs) := by
  have hM0 := hM
  obtain ⟨⟨hvt, hm3, hP⟩, ⟨w0, w1, w2, hv⟩, ⟨a0, a1, a2, a3, a4, a5, r, h0⟩, h3, hx, hy, hcs⟩ := hM
  show AW mgo3 0 0 0 [some (.ref t), some (.int 3), some (.long l), none, some (.int pa), some (.int su), none, none] [] n _ _
  refine am_iload_n 0 dX10_go_0 rfl ?_
  refine am_iconst 1 (v := 5) dX10_go_1 (by decide) ?_
  refine am_icmp_ne 2 60 dX10_go_2 rfl (fun c2 => ?_) (fun c2 => absurd c2 (by decide))
  refine am_iconst 60 (v := 0) dX10_go_60 (by decide) ?_
  refine am_istore 61 dX10_go_61 (by decide) ?_
  have next : ∀ (nw1 bs1 : Nat → Int32) (mo1 le1 : Int32), r_gd cs P nw1 → r_gd cs P bs1 → ∀ (l1 : Int64) (p1 s1 : Int32), AM mgo4 0 0 [.ref t, .int (3 + 1), .long l1, .int p1, .int s1] n (r_gp f t v m nw1 bs1 mo1 le1) (r_gQ f t v m P n cs) := fun nw1 bs1 mo1 le1 e1 e2 l1 p1 s1 => s_vgo4 hM0 e1 e2
  have hend : ∀ (nw1 bs1 : Nat → Int32) (mo1 le1 : Int32) (x6 : Int32) (x7 : Option Value), r_gd cs P nw1 → r_gd cs P bs1 → AW mgo3 0 0 173 [some (.ref t), some (.int 3), some (.long l), none, some (.int pa), some (.int su), some (.int x6), x7] [] n (r_gp f t v m nw1 bs1 mo1 le1) (r_gQ f t v m P n cs) := by
    intro nw1 bs1 mo1 le1 x6 x7 e1 e2
    refine am_aload_n 173 dX10_go_173 rfl ?_
    refine am_getfield 174 dX10_go_174 fX10_15 (by first | exact r_g0 | exact r_g1 | exact r_g2 | exact hgx0 | exact hgx1 | exact hgx2 | exact hgx3 | exact hgx4 | assumption) rfl ?_
    refine am_iload_n 177 dX10_go_177 rfl ?_
    refine am_iconst 178 (v := (-1)) dX10_go_178 (by decide) ?_
    refine am_iastore 179 dX10_go_179 rfl (by first | exact r_g0 | exact r_g1 | exact r_g2 | exact hgx0 | exact hgx1 | exact hgx2 | exact hgx3 | exact hgx4 | assumption) (am_ix (c := 3) (by decide) (by decide)) ?_
    rw [show (3 : Int32).toNatClampNeg = 3 from rfl, r_gu1]
    refine am_aload_n 180 dX10_go_180 rfl ?_
    refine am_iload_n 181 dX10_go_181 rfl ?_
    refine am_iconst 182 (v := 1) dX10_go_182 (by decide) ?_
    refine am_iadd 183 dX10_go_183 ?_
    refine am_lload_n 184 dX10_go_184 rfl ?_
    refine am_iload 185 dX10_go_185 rfl ?_
    refine am_iload 187 dX10_go_187 rfl ?_
    refine am_V4 189 (mc' := 0) (ms' := 0) (rc := 0) (rs := 0) dX10_go_189 (show am_cV RX10 48 mgo4 4 10 from lX10_48) ⟨by decide, by decide⟩ r_g0 (Nat.le_of_ble_eq_true rfl) (Nat.le_of_ble_eq_true rfl) (next _ _ _ _ (e1.up (k := 3) (Or.inl rfl)) e2 _ _ _) ?_
    rintro o n' f' ⟨nw2, bs2, mo2, le2, rfl, rfl, rfl, q1, q2⟩
    refine am_ctI ?_
    refine am_return 192 dX10_go_192 rfl ?_
    exact ⟨nw2, bs2, mo2, le2, rfl, rfl, rfl, q1, q2⟩
  refine am_for P (fun _ (s : ((Nat → Int32) × (Nat → Int32)) × (Int32 × Int32) × Option Value) => r_gd cs P s.1.1 ∧ r_gd cs P s.1.2) (fun j s => AW mgo3 0 0 63 [some (.ref t), some (.int 3), some (.long l), none, some (.int pa), some (.int su), some (.int (nI j)), s.2.2] [] n (r_gp f t v m s.1.1 s.1.2 s.2.1.1 s.2.1.2) (r_gQ f t v m P n cs)) ?_ ?_ 0 ((nw, bs), (mo, le), none) (by omega) ⟨hn, hb⟩
  · rintro ⟨⟨nw1, bs1⟩, ⟨mo1, le1⟩, z⟩ ⟨e1, e2⟩
    show AW mgo3 0 0 63 [some (.ref t), some (.int 3), some (.long l), none, some (.int pa), some (.int su), some (.int (nI P)), z] [] n (r_gp f t v m nw1 bs1 mo1 le1) _
    have hgx0 : r_gp f t v m nw1 bs1 mo1 le1 v = _ := (r_gx (Or.inl hvt)).trans hv
    refine am_iload 63 dX10_go_63 rfl ?_
    refine am_aload_n 65 dX10_go_65 rfl ?_
    refine am_getfield 66 dX10_go_66 fX10_26 (by first | exact r_g0 | exact r_g1 | exact r_g2 | exact hgx0 | exact hgx1 | exact hgx2 | exact hgx3 | exact hgx4 | assumption) rfl ?_
    refine am_getfield 69 dX10_go_69 fX10_30 (by first | exact r_g0 | exact r_g1 | exact r_g2 | exact hgx0 | exact hgx1 | exact hgx2 | exact hgx3 | exact hgx4 | assumption) rfl ?_
    refine am_icmp_ge 72 173 dX10_go_72 rfl (fun c72 => ?_) (fun c72 => absurd (Int32.le_refl _) c72)
    exact hend _ _ _ _ _ _ e1 e2
  · rintro j ⟨⟨nw1, bs1⟩, ⟨mo1, le1⟩, z⟩ hj ⟨e1, e2⟩ ih
    show AW mgo3 0 0 63 [some (.ref t), some (.int 3), some (.long l), none, some (.int pa), some (.int su), some (.int (nI j)), z] [] n (r_gp f t v m nw1 bs1 mo1 le1) _
    have hgx0 : r_gp f t v m nw1 bs1 mo1 le1 v = _ := (r_gx (Or.inl hvt)).trans hv
    have hgx1 : r_gp f t v m nw1 bs1 mo1 le1 m = _ := (r_gx (Or.inl (by omega))).trans h0
    have hgx2 : r_gp f t v m nw1 bs1 mo1 le1 (m + 3) = _ := (r_gx (Or.inl hm3)).trans h3
    have hgx3 : r_gp f t v m nw1 bs1 mo1 le1 (t + 3) = _ := (r_gx (Or.inr (by omega))).trans hx
    have hgx4 : r_gp f t v m nw1 bs1 mo1 le1 (t + 4) = _ := (r_gx (Or.inr (by omega))).trans hy
    have more : ∀ (nw1 bs1 : Nat → Int32) (mo1 le1 : Int32) (x7 : Option Value), r_gd cs P nw1 → r_gd cs P bs1 → AW mgo3 0 0 167 [some (.ref t), some (.int 3), some (.long l), none, some (.int pa), some (.int su), some (.int (nI j)), x7] [] n (r_gp f t v m nw1 bs1 mo1 le1) (r_gQ f t v m P n cs) := by
      intro nw1 bs1 mo1 le1 x7 e1 e2
      refine am_iinc 167 (v := nI (j + 1)) dX10_go_167 rfl (nI_1 (j)) (by decide) ?_
      refine am_goto 170 (tgt := 63) dX10_go_170 rfl ?_
      exact ih ((_, _), (_, _), _) ⟨e1, e2⟩
    have hk3 : 3 < 5 := by decide
    have hPj : ¬ nI P ≤ nI j := nI_ge hj (by omega)
    rcases hc : cs 3 with _ | c
    · refine am_iload 63 dX10_go_63 rfl ?_
      refine am_aload_n 65 dX10_go_65 rfl ?_
      refine am_getfield 66 dX10_go_66 fX10_26 (by first | exact r_g0 | exact r_g1 | exact r_g2 | exact hgx0 | exact hgx1 | exact hgx2 | exact hgx3 | exact hgx4 | assumption) rfl ?_
      refine am_getfield 69 dX10_go_69 fX10_30 (by first | exact r_g0 | exact r_g1 | exact r_g2 | exact hgx0 | exact hgx1 | exact hgx2 | exact hgx3 | exact hgx4 | assumption) rfl ?_
      refine am_icmp_ge 72 173 dX10_go_72 rfl (fun c72 => absurd c72 hPj) (fun c72 => ?_)
      refine am_aload_n 75 dX10_go_75 rfl ?_
      refine am_getfield 76 dX10_go_76 fX10_3 (by first | exact r_g0 | exact r_g1 | exact r_g2 | exact hgx0 | exact hgx1 | exact hgx2 | exact hgx3 | exact hgx4 | assumption) rfl ?_
      refine am_getfieldN 79 dX10_go_79 fnX10_61 (by first | exact r_g0 | exact r_g1 | exact r_g2 | exact hgx0 | exact hgx1 | exact hgx2 | exact hgx3 | exact hgx4 | assumption) rfl ?_
      refine am_iload_n 82 dX10_go_82 rfl ?_
      refine am_aaload 83 dX10_go_83 rfl (by first | exact r_g0 | exact r_g1 | exact r_g2 | exact hgx0 | exact hgx1 | exact hgx2 | exact hgx3 | exact hgx4 | assumption) (am_ix (c := 3) (by decide) (by decide)) ?_
      rw [show (3 : Int32).toNatClampNeg = 3 from rfl, hc, show va_rf none = Value.null from rfl]
      refine am_ifnullN 84 (tgt := 173) dX10_go_84 rfl ?_
      exact hend _ _ _ _ _ _ e1 e2
    · obtain ⟨c1, ap, κ, c2⟩ := hcs 3 hk3 c hc
      have c3 : r_gp f t v m nw1 bs1 mo1 le1 c = _ := (r_gx (Or.inl c1)).trans c2
      have far := fun x y => s_rfar (n := n) (x := x) (y := y) c3
      unfold r_kF at c3
      refine am_iload 63 dX10_go_63 rfl ?_
      refine am_aload_n 65 dX10_go_65 rfl ?_
      refine am_getfield 66 dX10_go_66 fX10_26 (by first | exact r_g0 | exact r_g1 | exact r_g2 | exact hgx0 | exact hgx1 | exact hgx2 | exact hgx3 | exact hgx4 | assumption) rfl ?_
      refine am_getfield 69 dX10_go_69 fX10_30 (by first | exact r_g0 | exact r_g1 | exact r_g2 | exact hgx0 | exact hgx1 | exact hgx2 | exact hgx3 | exact hgx4 | assumption) rfl ?_
      refine am_icmp_ge 72 173 dX10_go_72 rfl (fun c72 => absurd c72 hPj) (fun c72 => ?_)
      refine am_aload_n 75 dX10_go_75 rfl ?_
      refine am_getfield 76 dX10_go_76 fX10_3 (by first | exact r_g0 | exact r_g1 | exact r_g2 | exact hgx0 | exact hgx1 | exact hgx2 | exact hgx3 | exact hgx4 | assumption) rfl ?_
      refine am_getfieldN 79 dX10_go_79 fnX10_61 (by first | exact r_g0 | exact r_g1 | exact r_g2 | exact hgx0 | exact hgx1 | exact hgx2 | exact hgx3 | exact hgx4 | assumption) rfl ?_
      refine am_iload_n 82 dX10_go_82 rfl ?_
      refine am_aaload 83 dX10_go_83 rfl (by first | exact r_g0 | exact r_g1 | exact r_g2 | exact hgx0 | exact hgx1 | exact hgx2 | exact hgx3 | exact hgx4 | assumption) (am_ix (c := 3) (by decide) (by decide)) ?_
      rw [show (3 : Int32).toNatClampNeg = 3 from rfl, hc, show va_rf (some c) = Value.ref c from rfl]
      refine am_ifnull 84 dX10_go_84 ?_
      refine am_aload_n 87 dX10_go_87 rfl ?_
      refine am_getfield 88 dX10_go_88 fX10_3 (by first | exact r_g0 | exact r_g1 | exact r_g2 | exact hgx0 | exact hgx1 | exact hgx2 | exact hgx3 | exact hgx4 | assumption) rfl ?_
      refine am_getfieldN 91 dX10_go_91 fnX10_61 (by first | exact r_g0 | exact r_g1 | exact r_g2 | exact hgx0 | exact hgx1 | exact hgx2 | exact hgx3 | exact hgx4 | assumption) rfl ?_
      refine am_iload_n 94 dX10_go_94 rfl ?_
      refine am_aaload 95 dX10_go_95 rfl (by first | exact r_g0 | exact r_g1 | exact r_g2 | exact hgx0 | exact hgx1 | exact hgx2 | exact hgx3 | exact hgx4 | assumption) (am_ix (c := 3) (by decide) (by decide)) ?_
      rw [show (3 : Int32).toNatClampNeg = 3 from rfl, hc, show va_rf (some c) = Value.ref c from rfl]
      refine am_aload_n 96 dX10_go_96 rfl ?_
      refine am_getfield 97 dX10_go_97 fX10_35 (by first | exact r_g0 | exact r_g1 | exact r_g2 | exact hgx0 | exact hgx1 | exact hgx2 | exact hgx3 | exact hgx4 | assumption) rfl ?_
      refine am_iload 100 dX10_go_100 rfl ?_
      refine am_iaload 102 dX10_go_102 rfl (by first | exact r_g0 | exact r_g1 | exact r_g2 | exact hgx0 | exact hgx1 | exact hgx2 | exact hgx3 | exact hgx4 | assumption) (am_ix hj (by omega)) ?_
      refine am_aload_n 103 dX10_go_103 rfl ?_
      refine am_getfield 104 dX10_go_104 fX10_38 (by first | exact r_g0 | exact r_g1 | exact r_g2 | exact hgx0 | exact hgx1 | exact hgx2 | exact hgx3 | exact hgx4 | assumption) rfl ?_
      refine am_iload 107 dX10_go_107 rfl ?_
      refine am_iaload 109 dX10_go_109 rfl (by first | exact r_g0 | exact r_g1 | exact r_g2 | exact hgx0 | exact hgx1 | exact hgx2 | exact hgx3 | exact hgx4 | assumption) (am_ix hj (by omega)) ?_
      refine am_V2 110 (mc' := 0) (ms' := 0) (rc := 0) (rs := 0) dX10_go_110 lX10_65 ⟨by decide, by decide⟩ c3 (Nat.le_of_ble_eq_true rfl) (Nat.le_of_ble_eq_true rfl) (far _ _) ?_
      refine am_is_ct ?_
      refine am_istore 113 dX10_go_113 (by decide) ?_
      refine am_iload 115 dX10_go_115 rfl ?_
      refine am_sipush 117 (v := 256) dX10_go_117 (by decide) ?_
      refine am_icmp_gt 120 167 dX10_go_120 rfl (fun c120 => ?_) (fun c120 => ?_)
      · first | exact more _ _ _ _ _ q1 q2 | exact more _ _ _ _ _ e1 e2
      · refine am_lload_n 123 dX10_go_123 rfl ?_
        refine am_iload 124 dX10_go_124 rfl ?_
        refine am_lshr 126 dX10_go_126 ?_
        refine am_lconst 127 (v := 1) dX10_go_127 rfl ?_
        refine am_land 128 dX10_go_128 ?_
        refine am_lconst 129 (v := 1) dX10_go_129 rfl ?_
        refine am_lcmp 130 dX10_go_130 ?_
        refine am_if_ne 131 137 dX10_go_131 rfl (fun c131 => ?_) (fun c131 => ?_)
        · refine am_aload_n 137 dX10_go_137 rfl ?_
          refine am_getfield 138 dX10_go_138 fX10_15 (by first | exact r_g0 | exact r_g1 | exact r_g2 | exact hgx0 | exact hgx1 | exact hgx2 | exact hgx3 | exact hgx4 | assumption) rfl ?_
          refine am_iload_n 141 dX10_go_141 rfl ?_
          refine am_iload 142 dX10_go_142 rfl ?_
          refine am_iastore 144 dX10_go_144 rfl (by first | exact r_g0 | exact r_g1 | exact r_g2 | exact hgx0 | exact hgx1 | exact hgx2 | exact hgx3 | exact hgx4 | assumption) (am_ix (c := 3) (by decide) (by decide)) ?_
          rw [show (3 : Int32).toNatClampNeg = 3 from rfl, r_gu1]
          refine am_aload_n 145 dX10_go_145 rfl ?_
          refine am_iload_n 146 dX10_go_146 rfl ?_
          refine am_iconst 147 (v := 1) dX10_go_147 (by decide) ?_
          refine am_iadd 148 dX10_go_148 ?_
          refine am_lload_n 149 dX10_go_149 rfl ?_
          refine am_lconst 150 (v := 1) dX10_go_150 rfl ?_
          refine am_iload 151 dX10_go_151 rfl ?_
          refine am_lshl 153 dX10_go_153 ?_
          refine am_lor 154 dX10_go_154 ?_
          refine am_iload 155 dX10_go_155 rfl ?_
          refine am_iconst 157 (v := 1) dX10_go_157 (by decide) ?_
          refine am_iadd 158 dX10_go_158 ?_
          refine am_iload 159 dX10_go_159 rfl ?_
          refine am_iload 161 dX10_go_161 rfl ?_
          refine am_iadd 163 dX10_go_163 ?_
          refine am_V4 164 (mc' := 0) (ms' := 0) (rc := 0) (rs := 0) dX10_go_164 (show am_cV RX10 48 mgo4 4 10 from lX10_48) ⟨by decide, by decide⟩ r_g0 (Nat.le_of_ble_eq_true rfl) (Nat.le_of_ble_eq_true rfl) (next _ _ _ _ (e1.up (k := 3) (Or.inr ⟨j, c, hj, rfl, hc⟩)) e2 _ _ _) ?_
          rintro o n' f' ⟨nw2, bs2, mo2, le2, rfl, rfl, rfl, q1, q2⟩
          refine am_ctI ?_
          first | exact more _ _ _ _ _ q1 q2 | exact more _ _ _ _ _ e1 e2
        · refine am_goto 134 (tgt := 167) dX10_go_134 rfl ?_
          first | exact more _ _ _ _ _ q1 q2 | exact more _ _ _ _ _ e1 e2
theorem s_vgo2 {l : Int64} {pa su : Int32} (hM : r_Mt f t v m P cs xs ys) (hn : r_gd cs P nw) (hb : r_gd cs P bs) : AM mgo2 0 0 [.ref t, .int 2, .long l, .int pa, .int su] n (r_gp f t v m nw bs mo le) (r_gQ f t v m P n cs) := by
  have hM0 := hM
  obtain ⟨⟨hvt, hm3, hP⟩, ⟨w0, w1, w2, hv⟩, ⟨a0, a1, a2, a3, a4, a5, r, h0⟩, h3, hx, hy, hcs⟩ := hM
  show AW mgo2 0 0 0 [some (.ref t), some (.int 2), some (.long l), none, some (.int pa), some (.int su), none, none] [] n _ _
  refine am_iload_n 0 dX10_go_0 rfl ?_
  refine am_iconst 1 (v := 5) dX10_go_1 (by decide) ?_
  refine am_icmp_ne 2 60 dX10_go_2 rfl (fun c2 => ?_) (fun c2 => absurd c2 (by decide))
  refine am_iconst 60 (v := 0) dX10_go_60 (by decide) ?_
  refine am_istore 61 dX10_go_61 (by decide) ?_
  have next : ∀ (nw1 bs1 : Nat → Int32) (mo1 le1 : Int32), r_gd cs P nw1 → r_gd cs P bs1 → ∀ (l1 : Int64) (p1 s1 : Int32), AM mgo3 0 0 [.ref t, .int (2 + 1), .long l1, .int p1, .int s1] n (r_gp f t v m nw1 bs1 mo1 le1) (r_gQ f t v m P n cs) := fun nw1 bs1 mo1 le1 e1 e2 l1 p1 s1 => s_vgo3 hM0 e1 e2
  have hend : ∀ (nw1 bs1 : Nat → Int32) (mo1 le1 : Int32) (x6 : Int32) (x7 : Option Value), r_gd cs P nw1 → r_gd cs P bs1 → AW mgo2 0 0 173 [some (.ref t), some (.int 2), some (.long l), none, some (.int pa), some (.int su), some (.int x6), x7] [] n (r_gp f t v m nw1 bs1 mo1 le1) (r_gQ f t v m P n cs) := by
    intro nw1 bs1 mo1 le1 x6 x7 e1 e2
    refine am_aload_n 173 dX10_go_173 rfl ?_
    refine am_getfield 174 dX10_go_174 fX10_15 (by first | exact r_g0 | exact r_g1 | exact r_g2 | exact hgx0 | exact hgx1 | exact hgx2 | exact hgx3 | exact hgx4 | assumption) rfl ?_
    refine am_iload_n 177 dX10_go_177 rfl ?_
    refine am_iconst 178 (v := (-1)) dX10_go_178 (by decide) ?_
    refine am_iastore 179 dX10_go_179 rfl (by first | exact r_g0 | exact r_g1 | exact r_g2 | exact hgx0 | exact hgx1 | exact hgx2 | exact hgx3 | exact hgx4 | assumption) (am_ix (c := 2) (by decide) (by decide)) ?_
    rw [show (2 : Int32).toNatClampNeg = 2 from rfl, r_gu1]
    refine am_aload_n 180 dX10_go_180 rfl ?_
    refine am_iload_n 181 dX10_go_181 rfl ?_
    refine am_iconst 182 (v := 1) dX10_go_182 (by decide) ?_
    refine am_iadd 183 dX10_go_183 ?_
    refine am_lload_n 184 dX10_go_184 rfl ?_
    refine am_iload 185 dX10_go_185 rfl ?_
    refine am_iload 187 dX10_go_187 rfl ?_
    refine am_V4 189 (mc' := 0) (ms' := 0) (rc := 0) (rs := 0) dX10_go_189 (show am_cV RX10 48 mgo3 4 10 from lX10_48) ⟨by decide, by decide⟩ r_g0 (Nat.le_of_ble_eq_true rfl) (Nat.le_of_ble_eq_true rfl) (next _ _ _ _ (e1.up (k := 2) (Or.inl rfl)) e2 _ _ _) ?_
    rintro o n' f' ⟨nw2, bs2, mo2, le2, rfl, rfl, rfl, q1, q2⟩
    refine am_ctI ?_
    refine am_return 192 dX10_go_192 rfl ?_
    exact ⟨nw2, bs2, mo2, le2, rfl, rfl, rfl, q1, q2⟩
  refine am_for P (fun _ (s : ((Nat → Int32) × (Nat → Int32)) × (Int32 × Int32) × Option Value) => r_gd cs P s.1.1 ∧ r_gd cs P s.1.2) (fun j s => AW mgo2 0 0 63 [some (.ref t), some (.int 2), some (.long l), none, some (.int pa), some (.int su), some (.int (nI j)), s.2.2] [] n (r_gp f t v m s.1.1 s.1.2 s.2.1.1 s.2.1.2) (r_gQ f t v m P n cs)) ?_ ?_ 0 ((nw, bs), (mo, le), none) (by omega) ⟨hn, hb⟩
  · rintro ⟨⟨nw1, bs1⟩, ⟨mo1, le1⟩, z⟩ ⟨e1, e2⟩
    show AW mgo2 0 0 63 [some (.ref t), some (.int 2), some (.long l), none, some (.int pa), some (.int su), some (.int (nI P)), z] [] n (r_gp f t v m nw1 bs1 mo1 le1) _
    have hgx0 : r_gp f t v m nw1 bs1 mo1 le1 v = _ := (r_gx (Or.inl hvt)).trans hv
    refine am_iload 63 dX10_go_63 rfl ?_
    refine am_aload_n 65 dX10_go_65 rfl ?_
    refine am_getfield 66 dX10_go_66 fX10_26 (by first | exact r_g0 | exact r_g1 | exact r_g2 | exact hgx0 | exact hgx1 | exact hgx2 | exact hgx3 | exact hgx4 | assumption) rfl ?_
    refine am_getfield 69 dX10_go_69 fX10_30 (by first | exact r_g0 | exact r_g1 | exact r_g2 | exact hgx0 | exact hgx1 | exact hgx2 | exact hgx3 | exact hgx4 | assumption) rfl ?_
    refine am_icmp_ge 72 173 dX10_go_72 rfl (fun c72 => ?_) (fun c72 => absurd (Int32.le_refl _) c72)
    exact hend _ _ _ _ _ _ e1 e2
  · rintro j ⟨⟨nw1, bs1⟩, ⟨mo1, le1⟩, z⟩ hj ⟨e1, e2⟩ ih
    show AW mgo2 0 0 63 [some (.ref t), some (.int 2), some (.long l), none, some (.int pa), some (.int su), some (.int (nI j)), z] [] n (r_gp f t v m nw1 bs1 mo1 le1) _
    have hgx0 : r_gp f t v m nw1 bs1 mo1 le1 v = _ := (r_gx (Or.inl hvt)).trans hv
    have hgx1 : r_gp f t v m nw1 bs1 mo1 le1 m = _ := (r_gx (Or.inl (by omega))).trans h0
    have hgx2 : r_gp f t v m nw1 bs1 mo1 le1 (m + 3) = _ := (r_gx (Or.inl hm3)).trans h3
    have hgx3 : r_gp f t v m nw1 bs1 mo1 le1 (t + 3) = _ := (r_gx (Or.inr (by omega))).trans hx
    have hgx4 : r_gp f t v m nw1 bs1 mo1 le1 (t + 4) = _ := (r_gx (Or.inr (by omega))).trans hy
    have more : ∀ (nw1 bs1 : Nat → Int32) (mo1 le1 : Int32) (x7 : Option Value), r_gd cs P nw1 → r_gd cs P bs1 → AW mgo2 0 0 167 [some (.ref t), some (.int 2), some (.long l), none, some (.int pa), some (.int su), some (.int (nI j)), x7] [] n (r_gp f t v m nw1 bs1 mo1 le1) (r_gQ f t v m P n cs) := by
      intro nw1 bs1 mo1 le1 x7 e1 e2
      refine am_iinc 167 (v := nI (j + 1)) dX10_go_167 rfl (nI_1 (j)) (by decide) ?_
      refine am_goto 170 (tgt := 63) dX10_go_170 rfl ?_
      exact ih ((_, _), (_, _), _) ⟨e1, e2⟩
    have hk2 : 2 < 5 := by decide
    have hPj : ¬ nI P ≤ nI j := nI_ge hj (by omega)
    rcases hc : cs 2 with _ | c
    · refine am_iload 63 dX10_go_63 rfl ?_
      refine am_aload_n 65 dX10_go_65 rfl ?_
      refine am_getfield 66 dX10_go_66 fX10_26 (by first | exact r_g0 | exact r_g1 | exact r_g2 | exact hgx0 | exact hgx1 | exact hgx2 | exact hgx3 | exact hgx4 | assumption) rfl ?_
      refine am_getfield 69 dX10_go_69 fX10_30 (by first | exact r_g0 | exact r_g1 | exact r_g2 | exact hgx0 | exact hgx1 | exact hgx2 | exact hgx3 | exact hgx4 | assumption) rfl ?_
      refine am_icmp_ge 72 173 dX10_go_72 rfl (fun c72 => absurd c72 hPj) (fun c72 => ?_)
      refine am_aload_n 75 dX10_go_75 rfl ?_
      refine am_getfield 76 dX10_go_76 fX10_3 (by first | exact r_g0 | exact r_g1 | exact r_g2 | exact hgx0 | exact hgx1 | exact hgx2 | exact hgx3 | exact hgx4 | assumption) rfl ?_
      refine am_getfieldN 79 dX10_go_79 fnX10_61 (by first | exact r_g0 | exact r_g1 | exact r_g2 | exact hgx0 | exact hgx1 | exact hgx2 | exact hgx3 | exact hgx4 | assumption) rfl ?_
      refine am_iload_n 82 dX10_go_82 rfl ?_
      refine am_aaload 83 dX10_go_83 rfl (by first | exact r_g0 | exact r_g1 | exact r_g2 | exact hgx0 | exact hgx1 | exact hgx2 | exact hgx3 | exact hgx4 | assumption) (am_ix (c := 2) (by decide) (by decide)) ?_
      rw [show (2 : Int32).toNatClampNeg = 2 from rfl, hc, show va_rf none = Value.null from rfl]
      refine am_ifnullN 84 (tgt := 173) dX10_go_84 rfl ?_
      exact hend _ _ _ _ _ _ e1 e2
    · obtain ⟨c1, ap, κ, c2⟩ := hcs 2 hk2 c hc
      have c3 : r_gp f t v m nw1 bs1 mo1 le1 c = _ := (r_gx (Or.inl c1)).trans c2
      have far := fun x y => s_rfar (n := n) (x := x) (y := y) c3
      unfold r_kF at c3
      refine am_iload 63 dX10_go_63 rfl ?_
      refine am_aload_n 65 dX10_go_65 rfl ?_
      refine am_getfield 66 dX10_go_66 fX10_26 (by first | exact r_g0 | exact r_g1 | exact r_g2 | exact hgx0 | exact hgx1 | exact hgx2 | exact hgx3 | exact hgx4 | assumption) rfl ?_
      refine am_getfield 69 dX10_go_69 fX10_30 (by first | exact r_g0 | exact r_g1 | exact r_g2 | exact hgx0 | exact hgx1 | exact hgx2 | exact hgx3 | exact hgx4 | assumption) rfl ?_
      refine am_icmp_ge 72 173 dX10_go_72 rfl (fun c72 => absurd c72 hPj) (fun c72 => ?_)
      refine am_aload_n 75 dX10_go_75 rfl ?_
      refine am_getfield 76 dX10_go_76 fX10_3 (by first | exact r_g0 | exact r_g1 | exact r_g2 | exact hgx0 | exact hgx1 | exact hgx2 | exact hgx3 | exact hgx4 | assumption) rfl ?_
      refine am_getfieldN 79 dX10_go_79 fnX10_61 (by first | exact r_g0 | exact r_g1 | exact r_g2 | exact hgx0 | exact hgx1 | exact hgx2 | exact hgx3 | exact hgx4 | assumption) rfl ?_
      refine am_iload_n 82 dX10_go_82 rfl ?_
      refine am_aaload 83 dX10_go_83 rfl (by first | exact r_g0 | exact r_g1 | exact r_g2 | exact hgx0 | exact hgx1 | exact hgx2 | exact hgx3 | exact hgx4 | assumption) (am_ix (c := 2) (by decide) (by decide)) ?_
      rw [show (2 : Int32).toNatClampNeg = 2 from rfl, hc, show va_rf (some c) = Value.ref c from rfl]
      refine am_ifnull 84 dX10_go_84 ?_
      refine am_aload_n 87 dX10_go_87 rfl ?_
      refine am_getfield 88 dX10_go_88 fX10_3 (by first | exact r_g0 | exact r_g1 | exact r_g2 | exact hgx0 | exact hgx1 | exact hgx2 | exact hgx3 | exact hgx4 | assumption) rfl ?_
      refine am_getfieldN 91 dX10_go_91 fnX10_61 (by first | exact r_g0 | exact r_g1 | exact r_g2 | exact hgx0 | exact hgx1 | exact hgx2 | exact hgx3 | exact hgx4 | assumption) rfl ?_
      refine am_iload_n 94 dX10_go_94 rfl ?_
      refine am_aaload 95 dX10_go_95 rfl (by first | exact r_g0 | exact r_g1 | exact r_g2 | exact hgx0 | exact hgx1 | exact hgx2 | exact hgx3 | exact hgx4 | assumption) (am_ix (c := 2) (by decide) (by decide)) ?_
      rw [show (2 : Int32).toNatClampNeg = 2 from rfl, hc, show va_rf (some c) = Value.ref c from rfl]
      refine am_aload_n 96 dX10_go_96 rfl ?_
      refine am_getfield 97 dX10_go_97 fX10_35 (by first | exact r_g0 | exact r_g1 | exact r_g2 | exact hgx0 | exact hgx1 | exact hgx2 | exact hgx3 | exact hgx4 | assumption) rfl ?_
      refine am_iload 100 dX10_go_100 rfl ?_
      refine am_iaload 102 dX10_go_102 rfl (by first | exact r_g0 | exact r_g1 | exact r_g2 | exact hgx0 | exact hgx1 | exact hgx2 | exact hgx3 | exact hgx4 | assumption) (am_ix hj (by omega)) ?_
      refine am_aload_n 103 dX10_go_103 rfl ?_
      refine am_getfield 104 dX10_go_104 fX10_38 (by first | exact r_g0 | exact r_g1 | exact r_g2 | exact hgx0 | exact hgx1 | exact hgx2 | exact hgx3 | exact hgx4 | assumption) rfl ?_
      refine am_iload 107 dX10_go_107 rfl ?_
      refine am_iaload 109 dX10_go_109 rfl (by first | exact r_g0 | exact r_g1 | exact r_g2 | exact hgx0 | exact hgx1 | exact hgx2 | exact hgx3 | exact hgx4 | assumption) (am_ix hj (by omega)) ?_
      refine am_V2 110 (mc' := 0) (ms' := 0) (rc := 0) (rs := 0) dX10_go_110 lX10_65 ⟨by decide, by decide⟩ c3 (Nat.le_of_ble_eq_true rfl) (Nat.le_of_ble_eq_true rfl) (far _ _) ?_
      refine am_is_ct ?_
      refine am_istore 113 dX10_go_113 (by decide) ?_
      refine am_iload 115 dX10_go_115 rfl ?_
      refine am_sipush 117 (v := 256) dX10_go_117 (by decide) ?_
      refine am_icmp_gt 120 167 dX10_go_120 rfl (fun c120 => ?_) (fun c120 => ?_)
      · first | exact more _ _ _ _ _ q1 q2 | exact more _ _ _ _ _ e1 e2
      · refine am_lload_n 123 dX10_go_123 rfl ?_
        refine am_iload 124 dX10_go_124 rfl ?_
        refine am_lshr 126 dX10_go_126 ?_
        refine am_lconst 127 (v := 1) dX10_go_127 rfl ?_
        refine am_land 128 dX10_go_128 ?_
        refine am_lconst 129 (v := 1) dX10_go_129 rfl ?_
        refine am_lcmp 130 dX10_go_130 ?_
        refine am_if_ne 131 137 dX10_go_131 rfl (fun c131 => ?_) (fun c131 => ?_)
        · refine am_aload_n 137 dX10_go_137 rfl ?_
          refine am_getfield 138 dX10_go_138 fX10_15 (by first | exact r_g0 | exact r_g1 | exact r_g2 | exact hgx0 | exact hgx1 | exact hgx2 | exact hgx3 | exact hgx4 | assumption) rfl ?_
          refine am_iload_n 141 dX10_go_141 rfl ?_
          refine am_iload 142 dX10_go_142 rfl ?_
          refine am_iastore 144 dX10_go_144 rfl (by first | exact r_g0 | exact r_g1 | exact r_g2 | exact hgx0 | exact hgx1 | exact hgx2 | exact hgx3 | exact hgx4 | assumption) (am_ix (c := 2) (by decide) (by decide)) ?_
          rw [show (2 : Int32).toNatClampNeg = 2 from rfl, r_gu1]
          refine am_aload_n 145 dX10_go_145 rfl ?_
          refine am_iload_n 146 dX10_go_146 rfl ?_
          refine am_iconst 147 (v := 1) dX10_go_147 (by decide) ?_
          refine am_iadd 148 dX10_go_148 ?_
          refine am_lload_n 149 dX10_go_149 rfl ?_
          refine am_lconst 150 (v := 1) dX10_go_150 rfl ?_
          refine am_iload 151 dX10_go_151 rfl ?_
          refine am_lshl 153 dX10_go_153 ?_
          refine am_lor 154 dX10_go_154 ?_
          refine am_iload 155 dX10_go_155 rfl ?_
          refine am_iconst 157 (v := 1) dX10_go_157 (by decide) ?_
          refine am_iadd 158 dX10_go_158 ?_
          refine am_iload 159 dX10_go_159 rfl ?_
          refine am_iload 161 dX10_go_161 rfl ?_
          refine am_iadd 163 dX10_go_163 ?_
          refine am_V4 164 (mc' := 0) (ms' := 0) (rc := 0) (rs := 0) dX10_go_164 (show am_cV RX10 48 mgo3 4 10 from lX10_48) ⟨by decide, by decide⟩ r_g0 (Nat.le_of_ble_eq_true rfl) (Nat.le_of_ble_eq_true rfl) (next _ _ _ _ (e1.up (k := 2) (Or.inr ⟨j, c, hj, rfl, hc⟩)) e2 _ _ _) ?_
          rintro o n' f' ⟨nw2, bs2, mo2, le2, rfl, rfl, rfl, q1, q2⟩
          refine am_ctI ?_
          first | exact more _ _ _ _ _ q1 q2 | exact more _ _ _ _ _ e1 e2
        · refine am_goto 134 (tgt := 167) dX10_go_134 rfl ?_
          first | exact more _ _ _ _ _ q1 q2 | exact more _ _ _ _ _ e1 e2
theorem s_vgo1 {l : Int64} {pa su : Int32} (hM : r_Mt f t v m P cs xs ys) (hn : r_gd cs P nw) (hb : r_gd cs P bs) : AM mgo1 0 0 [.ref t, .int 1, .long l, .int pa, .int su] n (r_gp f t v m nw bs mo le) (r_gQ f t v m P n cs) := by
  have hM0 := hM
  obtain ⟨⟨hvt, hm3, hP⟩, ⟨w0, w1, w2, hv⟩, ⟨a0, a1, a2, a3, a4, a5, r, h0⟩, h3, hx, hy, hcs⟩ := hM
  show AW mgo1 0 0 0 [some (.ref t), some (.int 1), some (.long l), none, some (.int pa), some (.int su), none, none] [] n _ _
  refine am_iload_n 0 dX10_go_0 rfl ?_
  refine am_iconst 1 (v := 5) dX10_go_1 (by decide) ?_
  refine am_icmp_ne 2 60 dX10_go_2 rfl (fun c2 => ?_) (fun c2 => absurd c2 (by decide))
  refine am_iconst 60 (v := 0) dX10_go_60 (by decide) ?_
  refine am_istore 61 dX10_go_61 (by decide) ?_
  have next : ∀ (nw1 bs1 : Nat → Int32) (mo1 le1 : Int32), r_gd cs P nw1 → r_gd cs P bs1 → ∀ (l1 : Int64) (p1 s1 : Int32), AM mgo2 0 0 [.ref t, .int (1 + 1), .long l1, .int p1, .int s1] n (r_gp f t v m nw1 bs1 mo1 le1) (r_gQ f t v m P n cs) := fun nw1 bs1 mo1 le1 e1 e2 l1 p1 s1 => s_vgo2 hM0 e1 e2
  have hend : ∀ (nw1 bs1 : Nat → Int32) (mo1 le1 : Int32) (x6 : Int32) (x7 : Option Value), r_gd cs P nw1 → r_gd cs P bs1 → AW mgo1 0 0 173 [some (.ref t), some (.int 1), some (.long l), none, some (.int pa), some (.int su), some (.int x6), x7] [] n (r_gp f t v m nw1 bs1 mo1 le1) (r_gQ f t v m P n cs) := by
    intro nw1 bs1 mo1 le1 x6 x7 e1 e2
    refine am_aload_n 173 dX10_go_173 rfl ?_
    refine am_getfield 174 dX10_go_174 fX10_15 (by first | exact r_g0 | exact r_g1 | exact r_g2 | exact hgx0 | exact hgx1 | exact hgx2 | exact hgx3 | exact hgx4 | assumption) rfl ?_
    refine am_iload_n 177 dX10_go_177 rfl ?_
    refine am_iconst 178 (v := (-1)) dX10_go_178 (by decide) ?_
    refine am_iastore 179 dX10_go_179 rfl (by first | exact r_g0 | exact r_g1 | exact r_g2 | exact hgx0 | exact hgx1 | exact hgx2 | exact hgx3 | exact hgx4 | assumption) (am_ix (c := 1) (by decide) (by decide)) ?_
    rw [show (1 : Int32).toNatClampNeg = 1 from rfl, r_gu1]
    refine am_aload_n 180 dX10_go_180 rfl ?_
    refine am_iload_n 181 dX10_go_181 rfl ?_
    refine am_iconst 182 (v := 1) dX10_go_182 (by decide) ?_
    refine am_iadd 183 dX10_go_183 ?_
    refine am_lload_n 184 dX10_go_184 rfl ?_
    refine am_iload 185 dX10_go_185 rfl ?_
    refine am_iload 187 dX10_go_187 rfl ?_
    refine am_V4 189 (mc' := 0) (ms' := 0) (rc := 0) (rs := 0) dX10_go_189 (show am_cV RX10 48 mgo2 4 10 from lX10_48) ⟨by decide, by decide⟩ r_g0 (Nat.le_of_ble_eq_true rfl) (Nat.le_of_ble_eq_true rfl) (next _ _ _ _ (e1.up (k := 1) (Or.inl rfl)) e2 _ _ _) ?_
    rintro o n' f' ⟨nw2, bs2, mo2, le2, rfl, rfl, rfl, q1, q2⟩
    refine am_ctI ?_
    refine am_return 192 dX10_go_192 rfl ?_
    exact ⟨nw2, bs2, mo2, le2, rfl, rfl, rfl, q1, q2⟩
  refine am_for P (fun _ (s : ((Nat → Int32) × (Nat → Int32)) × (Int32 × Int32) × Option Value) => r_gd cs P s.1.1 ∧ r_gd cs P s.1.2) (fun j s => AW mgo1 0 0 63 [some (.ref t), some (.int 1), some (.long l), none, some (.int pa), some (.int su), some (.int (nI j)), s.2.2] [] n (r_gp f t v m s.1.1 s.1.2 s.2.1.1 s.2.1.2) (r_gQ f t v m P n cs)) ?_ ?_ 0 ((nw, bs), (mo, le), none) (by omega) ⟨hn, hb⟩
  · rintro ⟨⟨nw1, bs1⟩, ⟨mo1, le1⟩, z⟩ ⟨e1, e2⟩
    show AW mgo1 0 0 63 [some (.ref t), some (.int 1), some (.long l), none, some (.int pa), some (.int su), some (.int (nI P)), z] [] n (r_gp f t v m nw1 bs1 mo1 le1) _
    have hgx0 : r_gp f t v m nw1 bs1 mo1 le1 v = _ := (r_gx (Or.inl hvt)).trans hv
    refine am_iload 63 dX10_go_63 rfl ?_
    refine am_aload_n 65 dX10_go_65 rfl ?_
    refine am_getfield 66 dX10_go_66 fX10_26 (by first | exact r_g0 | exact r_g1 | exact r_g2 | exact hgx0 | exact hgx1 | exact hgx2 | exact hgx3 | exact hgx4 | assumption) rfl ?_
    refine am_getfield 69 dX10_go_69 fX10_30 (by first | exact r_g0 | exact r_g1 | exact r_g2 | exact hgx0 | exact hgx1 | exact hgx2 | exact hgx3 | exact hgx4 | assumption) rfl ?_
    refine am_icmp_ge 72 173 dX10_go_72 rfl (fun c72 => ?_) (fun c72 => absurd (Int32.le_refl _) c72)
    exact hend _ _ _ _ _ _ e1 e2
  · rintro j ⟨⟨nw1, bs1⟩, ⟨mo1, le1⟩, z⟩ hj ⟨e1, e2⟩ ih
    show AW mgo1 0 0 63 [some (.ref t), some (.int 1), some (.long l), none, some (.int pa), some (.int su), some (.int (nI j)), z] [] n (r_gp f t v m nw1 bs1 mo1 le1) _
    have hgx0 : r_gp f t v m nw1 bs1 mo1 le1 v = _ := (r_gx (Or.inl hvt)).trans hv
    have hgx1 : r_gp f t v m nw1 bs1 mo1 le1 m = _ := (r_gx (Or.inl (by omega))).trans h0
    have hgx2 : r_gp f t v m nw1 bs1 mo1 le1 (m + 3) = _ := (r_gx (Or.inl hm3)).trans h3
    have hgx3 : r_gp f t v m nw1 bs1 mo1 le1 (t + 3) = _ := (r_gx (Or.inr (by omega))).trans hx
    have hgx4 : r_gp f t v m nw1 bs1 mo1 le1 (t + 4) = _ := (r_gx (Or.inr (by omega))).trans hy
    have more : ∀ (nw1 bs1 : Nat → Int32) (mo1 le1 : Int32) (x7 : Option Value), r_gd cs P nw1 → r_gd cs P bs1 → AW mgo1 0 0 167 [some (.ref t), some (.int 1), some (.long l), none, some (.int pa), some (.int su), some (.int (nI j)), x7] [] n (r_gp f t v m nw1 bs1 mo1 le1) (r_gQ f t v m P n cs) := by
      intro nw1 bs1 mo1 le1 x7 e1 e2
      refine am_iinc 167 (v := nI (j + 1)) dX10_go_167 rfl (nI_1 (j)) (by decide) ?_
      refine am_goto 170 (tgt := 63) dX10_go_170 rfl ?_
      exact ih ((_, _), (_, _), _) ⟨e1, e2⟩
    have hk1 : 1 < 5 := by decide
    have hPj : ¬ nI P ≤ nI j := nI_ge hj (by omega)
    rcases hc : cs 1 with _ | c
    · refine am_iload 63 dX10_go_63 rfl ?_
      refine am_aload_n 65 dX10_go_65 rfl ?_
      refine am_getfield 66 dX10_go_66 fX10_26 (by first | exact r_g0 | exact r_g1 | exact r_g2 | exact hgx0 | exact hgx1 | exact hgx2 | exact hgx3 | exact hgx4 | assumption) rfl ?_
      refine am_getfield 69 dX10_go_69 fX10_30 (by first | exact r_g0 | exact r_g1 | exact r_g2 | exact hgx0 | exact hgx1 | exact hgx2 | exact hgx3 | exact hgx4 | assumption) rfl ?_
      refine am_icmp_ge 72 173 dX10_go_72 rfl (fun c72 => absurd c72 hPj) (fun c72 => ?_)
      refine am_aload_n 75 dX10_go_75 rfl ?_
      refine am_getfield 76 dX10_go_76 fX10_3 (by first | exact r_g0 | exact r_g1 | exact r_g2 | exact hgx0 | exact hgx1 | exact hgx2 | exact hgx3 | exact hgx4 | assumption) rfl ?_
      refine am_getfieldN 79 dX10_go_79 fnX10_61 (by first | exact r_g0 | exact r_g1 | exact r_g2 | exact hgx0 | exact hgx1 | exact hgx2 | exact hgx3 | exact hgx4 | assumption) rfl ?_
      refine am_iload_n 82 dX10_go_82 rfl ?_
      refine am_aaload 83 dX10_go_83 rfl (by first | exact r_g0 | exact r_g1 | exact r_g2 | exact hgx0 | exact hgx1 | exact hgx2 | exact hgx3 | exact hgx4 | assumption) (am_ix (c := 1) (by decide) (by decide)) ?_
      rw [show (1 : Int32).toNatClampNeg = 1 from rfl, hc, show va_rf none = Value.null from rfl]
      refine am_ifnullN 84 (tgt := 173) dX10_go_84 rfl ?_
      exact hend _ _ _ _ _ _ e1 e2
    · obtain ⟨c1, ap, κ, c2⟩ := hcs 1 hk1 c hc
      have c3 : r_gp f t v m nw1 bs1 mo1 le1 c = _ := (r_gx (Or.inl c1)).trans c2
      have far := fun x y => s_rfar (n := n) (x := x) (y := y) c3
      unfold r_kF at c3
      refine am_iload 63 dX10_go_63 rfl ?_
      refine am_aload_n 65 dX10_go_65 rfl ?_
      refine am_getfield 66 dX10_go_66 fX10_26 (by first | exact r_g0 | exact r_g1 | exact r_g2 | exact hgx0 | exact hgx1 | exact hgx2 | exact hgx3 | exact hgx4 | assumption) rfl ?_
      refine am_getfield 69 dX10_go_69 fX10_30 (by first | exact r_g0 | exact r_g1 | exact r_g2 | exact hgx0 | exact hgx1 | exact hgx2 | exact hgx3 | exact hgx4 | assumption) rfl ?_
      refine am_icmp_ge 72 173 dX10_go_72 rfl (fun c72 => absurd c72 hPj) (fun c72 => ?_)
      refine am_aload_n 75 dX10_go_75 rfl ?_
      refine am_getfield 76 dX10_go_76 fX10_3 (by first | exact r_g0 | exact r_g1 | exact r_g2 | exact hgx0 | exact hgx1 | exact hgx2 | exact hgx3 | exact hgx4 | assumption) rfl ?_
      refine am_getfieldN 79 dX10_go_79 fnX10_61 (by first | exact r_g0 | exact r_g1 | exact r_g2 | exact hgx0 | exact hgx1 | exact hgx2 | exact hgx3 | exact hgx4 | assumption) rfl ?_
      refine am_iload_n 82 dX10_go_82 rfl ?_
      refine am_aaload 83 dX10_go_83 rfl (by first | exact r_g0 | exact r_g1 | exact r_g2 | exact hgx0 | exact hgx1 | exact hgx2 | exact hgx3 | exact hgx4 | assumption) (am_ix (c := 1) (by decide) (by decide)) ?_
      rw [show (1 : Int32).toNatClampNeg = 1 from rfl, hc, show va_rf (some c) = Value.ref c from rfl]
      refine am_ifnull 84 dX10_go_84 ?_
      refine am_aload_n 87 dX10_go_87 rfl ?_
      refine am_getfield 88 dX10_go_88 fX10_3 (by first | exact r_g0 | exact r_g1 | exact r_g2 | exact hgx0 | exact hgx1 | exact hgx2 | exact hgx3 | exact hgx4 | assumption) rfl ?_
      refine am_getfieldN 91 dX10_go_91 fnX10_61 (by first | exact r_g0 | exact r_g1 | exact r_g2 | exact hgx0 | exact hgx1 | exact hgx2 | exact hgx3 | exact hgx4 | assumption) rfl ?_
      refine am_iload_n 94 dX10_go_94 rfl ?_
      refine am_aaload 95 dX10_go_95 rfl (by first | exact r_g0 | exact r_g1 | exact r_g2 | exact hgx0 | exact hgx1 | exact hgx2 | exact hgx3 | exact hgx4 | assumption) (am_ix (c := 1) (by decide) (by decide)) ?_
      rw [show (1 : Int32).toNatClampNeg = 1 from rfl, hc, show va_rf (some c) = Value.ref c from rfl]
      refine am_aload_n 96 dX10_go_96 rfl ?_
      refine am_getfield 97 dX10_go_97 fX10_35 (by first | exact r_g0 | exact r_g1 | exact r_g2 | exact hgx0 | exact hgx1 | exact hgx2 | exact hgx3 | exact hgx4 | assumption) rfl ?_
      refine am_iload 100 dX10_go_100 rfl ?_
      refine am_iaload 102 dX10_go_102 rfl (by first | exact r_g0 | exact r_g1 | exact r_g2 | exact hgx0 | exact hgx1 | exact hgx2 | exact hgx3 | exact hgx4 | assumption) (am_ix hj (by omega)) ?_
      refine am_aload_n 103 dX10_go_103 rfl ?_
      refine am_getfield 104 dX10_go_104 fX10_38 (by first | exact r_g0 | exact r_g1 | exact r_g2 | exact hgx0 | exact hgx1 | exact hgx2 | exact hgx3 | exact hgx4 | assumption) rfl ?_
      refine am_iload 107 dX10_go_107 rfl ?_
      refine am_iaload 109 dX10_go_109 rfl (by first | exact r_g0 | exact r_g1 | exact r_g2 | exact hgx0 | exact hgx1 | exact hgx2 | exact hgx3 | exact hgx4 | assumption) (am_ix hj (by omega)) ?_
      refine am_V2 110 (mc' := 0) (ms' := 0) (rc := 0) (rs := 0) dX10_go_110 lX10_65 ⟨by decide, by decide⟩ c3 (Nat.le_of_ble_eq_true rfl) (Nat.le_of_ble_eq_true rfl) (far _ _) ?_
      refine am_is_ct ?_
      refine am_istore 113 dX10_go_113 (by decide) ?_
      refine am_iload 115 dX10_go_115 rfl ?_
      refine am_sipush 117 (v := 256) dX10_go_117 (by decide) ?_
      refine am_icmp_gt 120 167 dX10_go_120 rfl (fun c120 => ?_) (fun c120 => ?_)
      · first | exact more _ _ _ _ _ q1 q2 | exact more _ _ _ _ _ e1 e2
      · refine am_lload_n 123 dX10_go_123 rfl ?_
        refine am_iload 124 dX10_go_124 rfl ?_
        refine am_lshr 126 dX10_go_126 ?_
        refine am_lconst 127 (v := 1) dX10_go_127 rfl ?_
        refine am_land 128 dX10_go_128 ?_
        refine am_lconst 129 (v := 1) dX10_go_129 rfl ?_
        refine am_lcmp 130 dX10_go_130 ?_
        refine am_if_ne 131 137 dX10_go_131 rfl (fun c131 => ?_) (fun c131 => ?_)
        · refine am_aload_n 137 dX10_go_137 rfl ?_
          refine am_getfield 138 dX10_go_138 fX10_15 (by first | exact r_g0 | exact r_g1 | exact r_g2 | exact hgx0 | exact hgx1 | exact hgx2 | exact hgx3 | exact hgx4 | assumption) rfl ?_
          refine am_iload_n 141 dX10_go_141 rfl ?_
          refine am_iload 142 dX10_go_142 rfl ?_
          refine am_iastore 144 dX10_go_144 rfl (by first | exact r_g0 | exact r_g1 | exact r_g2 | exact hgx0 | exact hgx1 | exact hgx2 | exact hgx3 | exact hgx4 | assumption) (am_ix (c := 1) (by decide) (by decide)) ?_
          rw [show (1 : Int32).toNatClampNeg = 1 from rfl, r_gu1]
          refine am_aload_n 145 dX10_go_145 rfl ?_
          refine am_iload_n 146 dX10_go_146 rfl ?_
          refine am_iconst 147 (v := 1) dX10_go_147 (by decide) ?_
          refine am_iadd 148 dX10_go_148 ?_
          refine am_lload_n 149 dX10_go_149 rfl ?_
          refine am_lconst 150 (v := 1) dX10_go_150 rfl ?_
          refine am_iload 151 dX10_go_151 rfl ?_
          refine am_lshl 153 dX10_go_153 ?_
          refine am_lor 154 dX10_go_154 ?_
          refine am_iload 155 dX10_go_155 rfl ?_
          refine am_iconst 157 (v := 1) dX10_go_157 (by decide) ?_
          refine am_iadd 158 dX10_go_158 ?_
          refine am_iload 159 dX10_go_159 rfl ?_
          refine am_iload 161 dX10_go_161 rfl ?_
          refine am_iadd 163 dX10_go_163 ?_
          refine am_V4 164 (mc' := 0) (ms' := 0) (rc := 0) (rs := 0) dX10_go_164 (show am_cV RX10 48 mgo2 4 10 from lX10_48) ⟨by decide, by decide⟩ r_g0 (Nat.le_of_ble_eq_true rfl) (Nat.le_of_ble_eq_true rfl) (next _ _ _ _ (e1.up (k := 1) (Or.inr ⟨j, c, hj, rfl, hc⟩)) e2 _ _ _) ?_
          rintro o n' f' ⟨nw2, bs2, mo2, le2, rfl, rfl, rfl, q1, q2⟩
          refine am_ctI ?_
          first | exact more _ _ _ _ _ q1 q2 | exact more _ _ _ _ _ e1 e2
        · refine am_goto 134 (tgt := 167) dX10_go_134 rfl ?_
          first | exact more _ _ _ _ _ q1 q2 | exact more _ _ _ _ _ e1 e2
theorem s_vgo0 {l : Int64} {pa su : Int32} (hM : r_Mt f t v m P cs xs ys) (hn : r_gd cs P nw) (hb : r_gd cs P bs) : AM mgo0 0 0 [.ref t, .int 0, .long l, .int pa, .int su] n (r_gp f t v m nw bs mo le) (r_gQ f t v m P n cs) := by
  have hM0 := hM
  obtain ⟨⟨hvt, hm3, hP⟩, ⟨w0, w1, w2, hv⟩, ⟨a0, a1, a2, a3, a4, a5, r, h0⟩, h3, hx, hy, hcs⟩ := hM
  show AW mgo0 0 0 0 [some (.ref t), some (.int 0), some (.long l), none, some (.int pa), some (.int su), none, none] [] n _ _
  refine am_iload_n 0 dX10_go_0 rfl ?_
  refine am_iconst 1 (v := 5) dX10_go_1 (by decide) ?_
  refine am_icmp_ne 2 60 dX10_go_2 rfl (fun c2 => ?_) (fun c2 => absurd c2 (by decide))
  refine am_iconst 60 (v := 0) dX10_go_60 (by decide) ?_
  refine am_istore 61 dX10_go_61 (by decide) ?_
  have next : ∀ (nw1 bs1 : Nat → Int32) (mo1 le1 : Int32), r_gd cs P nw1 → r_gd cs P bs1 → ∀ (l1 : Int64) (p1 s1 : Int32), AM mgo1 0 0 [.ref t, .int (0 + 1), .long l1, .int p1, .int s1] n (r_gp f t v m nw1 bs1 mo1 le1) (r_gQ f t v m P n cs) := fun nw1 bs1 mo1 le1 e1 e2 l1 p1 s1 => s_vgo1 hM0 e1 e2
  have hend : ∀ (nw1 bs1 : Nat → Int32) (mo1 le1 : Int32) (x6 : Int32) (x7 : Option Value), r_gd cs P nw1 → r_gd cs P bs1 → AW mgo0 0 0 173 [some (.ref t), some (.int 0), some (.long l), none, some (.int pa), some (.int su), some (.int x6), x7] [] n (r_gp f t v m nw1 bs1 mo1 le1) (r_gQ f t v m P n cs) := by
    intro nw1 bs1 mo1 le1 x6 x7 e1 e2
    refine am_aload_n 173 dX10_go_173 rfl ?_
    refine am_getfield 174 dX10_go_174 fX10_15 (by first | exact r_g0 | exact r_g1 | exact r_g2 | exact hgx0 | exact hgx1 | exact hgx2 | exact hgx3 | exact hgx4 | assumption) rfl ?_
    refine am_iload_n 177 dX10_go_177 rfl ?_
    refine am_iconst 178 (v := (-1)) dX10_go_178 (by decide) ?_
    refine am_iastore 179 dX10_go_179 rfl (by first | exact r_g0 | exact r_g1 | exact r_g2 | exact hgx0 | exact hgx1 | exact hgx2 | exact hgx3 | exact hgx4 | assumption) (am_ix (c := 0) (by decide) (by decide)) ?_
    rw [show (0 : Int32).toNatClampNeg = 0 from rfl, r_gu1]
    refine am_aload_n 180 dX10_go_180 rfl ?_
    refine am_iload_n 181 dX10_go_181 rfl ?_
    refine am_iconst 182 (v := 1) dX10_go_182 (by decide) ?_
    refine am_iadd 183 dX10_go_183 ?_
    refine am_lload_n 184 dX10_go_184 rfl ?_
    refine am_iload 185 dX10_go_185 rfl ?_
    refine am_iload 187 dX10_go_187 rfl ?_
    refine am_V4 189 (mc' := 0) (ms' := 0) (rc := 0) (rs := 0) dX10_go_189 (show am_cV RX10 48 mgo1 4 10 from lX10_48) ⟨by decide, by decide⟩ r_g0 (Nat.le_of_ble_eq_true rfl) (Nat.le_of_ble_eq_true rfl) (next _ _ _ _ (e1.up (k := 0) (Or.inl rfl)) e2 _ _ _) ?_
    rintro o n' f' ⟨nw2, bs2, mo2, le2, rfl, rfl, rfl, q1, q2⟩
    refine am_ctI ?_
    refine am_return 192 dX10_go_192 rfl ?_
    exact ⟨nw2, bs2, mo2, le2, rfl, rfl, rfl, q1, q2⟩
  refine am_for P (fun _ (s : ((Nat → Int32) × (Nat → Int32)) × (Int32 × Int32) × Option Value) => r_gd cs P s.1.1 ∧ r_gd cs P s.1.2) (fun j s => AW mgo0 0 0 63 [some (.ref t), some (.int 0), some (.long l), none, some (.int pa), some (.int su), some (.int (nI j)), s.2.2] [] n (r_gp f t v m s.1.1 s.1.2 s.2.1.1 s.2.1.2) (r_gQ f t v m P n cs)) ?_ ?_ 0 ((nw, bs), (mo, le), none) (by omega) ⟨hn, hb⟩
  · rintro ⟨⟨nw1, bs1⟩, ⟨mo1, le1⟩, z⟩ ⟨e1, e2⟩
    show AW mgo0 0 0 63 [some (.ref t), some (.int 0), some (.long l), none, some (.int pa), some (.int su), some (.int (nI P)), z] [] n (r_gp f t v m nw1 bs1 mo1 le1) _
    have hgx0 : r_gp f t v m nw1 bs1 mo1 le1 v = _ := (r_gx (Or.inl hvt)).trans hv
    refine am_iload 63 dX10_go_63 rfl ?_
    refine am_aload_n 65 dX10_go_65 rfl ?_
    refine am_getfield 66 dX10_go_66 fX10_26 (by first | exact r_g0 | exact r_g1 | exact r_g2 | exact hgx0 | exact hgx1 | exact hgx2 | exact hgx3 | exact hgx4 | assumption) rfl ?_
    refine am_getfield 69 dX10_go_69 fX10_30 (by first | exact r_g0 | exact r_g1 | exact r_g2 | exact hgx0 | exact hgx1 | exact hgx2 | exact hgx3 | exact hgx4 | assumption) rfl ?_
    refine am_icmp_ge 72 173 dX10_go_72 rfl (fun c72 => ?_) (fun c72 => absurd (Int32.le_refl _) c72)
    exact hend _ _ _ _ _ _ e1 e2
  · rintro j ⟨⟨nw1, bs1⟩, ⟨mo1, le1⟩, z⟩ hj ⟨e1, e2⟩ ih
    show AW mgo0 0 0 63 [some (.ref t), some (.int 0), some (.long l), none, some (.int pa), some (.int su), some (.int (nI j)), z] [] n (r_gp f t v m nw1 bs1 mo1 le1) _
    have hgx0 : r_gp f t v m nw1 bs1 mo1 le1 v = _ := (r_gx (Or.inl hvt)).trans hv
    have hgx1 : r_gp f t v m nw1 bs1 mo1 le1 m = _ := (r_gx (Or.inl (by omega))).trans h0
    have hgx2 : r_gp f t v m nw1 bs1 mo1 le1 (m + 3) = _ := (r_gx (Or.inl hm3)).trans h3
    have hgx3 : r_gp f t v m nw1 bs1 mo1 le1 (t + 3) = _ := (r_gx (Or.inr (by omega))).trans hx
    have hgx4 : r_gp f t v m nw1 bs1 mo1 le1 (t + 4) = _ := (r_gx (Or.inr (by omega))).trans hy
    have more : ∀ (nw1 bs1 : Nat → Int32) (mo1 le1 : Int32) (x7 : Option Value), r_gd cs P nw1 → r_gd cs P bs1 → AW mgo0 0 0 167 [some (.ref t), some (.int 0), some (.long l), none, some (.int pa), some (.int su), some (.int (nI j)), x7] [] n (r_gp f t v m nw1 bs1 mo1 le1) (r_gQ f t v m P n cs) := by
      intro nw1 bs1 mo1 le1 x7 e1 e2
      refine am_iinc 167 (v := nI (j + 1)) dX10_go_167 rfl (nI_1 (j)) (by decide) ?_
      refine am_goto 170 (tgt := 63) dX10_go_170 rfl ?_
      exact ih ((_, _), (_, _), _) ⟨e1, e2⟩
    have hk0 : 0 < 5 := by decide
    have hPj : ¬ nI P ≤ nI j := nI_ge hj (by omega)
    rcases hc : cs 0 with _ | c
    · refine am_iload 63 dX10_go_63 rfl ?_
      refine am_aload_n 65 dX10_go_65 rfl ?_
      refine am_getfield 66 dX10_go_66 fX10_26 (by first | exact r_g0 | exact r_g1 | exact r_g2 | exact hgx0 | exact hgx1 | exact hgx2 | exact hgx3 | exact hgx4 | assumption) rfl ?_
      refine am_getfield 69 dX10_go_69 fX10_30 (by first | exact r_g0 | exact r_g1 | exact r_g2 | exact hgx0 | exact hgx1 | exact hgx2 | exact hgx3 | exact hgx4 | assumption) rfl ?_
      refine am_icmp_ge 72 173 dX10_go_72 rfl (fun c72 => absurd c72 hPj) (fun c72 => ?_)
      refine am_aload_n 75 dX10_go_75 rfl ?_
      refine am_getfield 76 dX10_go_76 fX10_3 (by first | exact r_g0 | exact r_g1 | exact r_g2 | exact hgx0 | exact hgx1 | exact hgx2 | exact hgx3 | exact hgx4 | assumption) rfl ?_
      refine am_getfieldN 79 dX10_go_79 fnX10_61 (by first | exact r_g0 | exact r_g1 | exact r_g2 | exact hgx0 | exact hgx1 | exact hgx2 | exact hgx3 | exact hgx4 | assumption) rfl ?_
      refine am_iload_n 82 dX10_go_82 rfl ?_
      refine am_aaload 83 dX10_go_83 rfl (by first | exact r_g0 | exact r_g1 | exact r_g2 | exact hgx0 | exact hgx1 | exact hgx2 | exact hgx3 | exact hgx4 | assumption) (am_ix (c := 0) (by decide) (by decide)) ?_
      rw [show (0 : Int32).toNatClampNeg = 0 from rfl, hc, show va_rf none = Value.null from rfl]
      refine am_ifnullN 84 (tgt := 173) dX10_go_84 rfl ?_
      exact hend _ _ _ _ _ _ e1 e2
    · obtain ⟨c1, ap, κ, c2⟩ := hcs 0 hk0 c hc
      have c3 : r_gp f t v m nw1 bs1 mo1 le1 c = _ := (r_gx (Or.inl c1)).trans c2
      have far := fun x y => s_rfar (n := n) (x := x) (y := y) c3
      unfold r_kF at c3
      refine am_iload 63 dX10_go_63 rfl ?_
      refine am_aload_n 65 dX10_go_65 rfl ?_
      refine am_getfield 66 dX10_go_66 fX10_26 (by first | exact r_g0 | exact r_g1 | exact r_g2 | exact hgx0 | exact hgx1 | exact hgx2 | exact hgx3 | exact hgx4 | assumption) rfl ?_
      refine am_getfield 69 dX10_go_69 fX10_30 (by first | exact r_g0 | exact r_g1 | exact r_g2 | exact hgx0 | exact hgx1 | exact hgx2 | exact hgx3 | exact hgx4 | assumption) rfl ?_
      refine am_icmp_ge 72 173 dX10_go_72 rfl (fun c72 => absurd c72 hPj) (fun c72 => ?_)
      refine am_aload_n 75 dX10_go_75 rfl ?_
      refine am_getfield 76 dX10_go_76 fX10_3 (by first | exact r_g0 | exact r_g1 | exact r_g2 | exact hgx0 | exact hgx1 | exact hgx2 | exact hgx3 | exact hgx4 | assumption) rfl ?_
      refine am_getfieldN 79 dX10_go_79 fnX10_61 (by first | exact r_g0 | exact r_g1 | exact r_g2 | exact hgx0 | exact hgx1 | exact hgx2 | exact hgx3 | exact hgx4 | assumption) rfl ?_
      refine am_iload_n 82 dX10_go_82 rfl ?_
      refine am_aaload 83 dX10_go_83 rfl (by first | exact r_g0 | exact r_g1 | exact r_g2 | exact hgx0 | exact hgx1 | exact hgx2 | exact hgx3 | exact hgx4 | assumption) (am_ix (c := 0) (by decide) (by decide)) ?_
      rw [show (0 : Int32).toNatClampNeg = 0 from rfl, hc, show va_rf (some c) = Value.ref c from rfl]
      refine am_ifnull 84 dX10_go_84 ?_
      refine am_aload_n 87 dX10_go_87 rfl ?_
      refine am_getfield 88 dX10_go_88 fX10_3 (by first | exact r_g0 | exact r_g1 | exact r_g2 | exact hgx0 | exact hgx1 | exact hgx2 | exact hgx3 | exact hgx4 | assumption) rfl ?_
      refine am_getfieldN 91 dX10_go_91 fnX10_61 (by first | exact r_g0 | exact r_g1 | exact r_g2 | exact hgx0 | exact hgx1 | exact hgx2 | exact hgx3 | exact hgx4 | assumption) rfl ?_
      refine am_iload_n 94 dX10_go_94 rfl ?_
      refine am_aaload 95 dX10_go_95 rfl (by first | exact r_g0 | exact r_g1 | exact r_g2 | exact hgx0 | exact hgx1 | exact hgx2 | exact hgx3 | exact hgx4 | assumption) (am_ix (c := 0) (by decide) (by decide)) ?_
      rw [show (0 : Int32).toNatClampNeg = 0 from rfl, hc, show va_rf (some c) = Value.ref c from rfl]
      refine am_aload_n 96 dX10_go_96 rfl ?_
      refine am_getfield 97 dX10_go_97 fX10_35 (by first | exact r_g0 | exact r_g1 | exact r_g2 | exact hgx0 | exact hgx1 | exact hgx2 | exact hgx3 | exact hgx4 | assumption) rfl ?_
      refine am_iload 100 dX10_go_100 rfl ?_
      refine am_iaload 102 dX10_go_102 rfl (by first | exact r_g0 | exact r_g1 | exact r_g2 | exact hgx0 | exact hgx1 | exact hgx2 | exact hgx3 | exact hgx4 | assumption) (am_ix hj (by omega)) ?_
      refine am_aload_n 103 dX10_go_103 rfl ?_
      refine am_getfield 104 dX10_go_104 fX10_38 (by first | exact r_g0 | exact r_g1 | exact r_g2 | exact hgx0 | exact hgx1 | exact hgx2 | exact hgx3 | exact hgx4 | assumption) rfl ?_
      refine am_iload 107 dX10_go_107 rfl ?_
      refine am_iaload 109 dX10_go_109 rfl (by first | exact r_g0 | exact r_g1 | exact r_g2 | exact hgx0 | exact hgx1 | exact hgx2 | exact hgx3 | exact hgx4 | assumption) (am_ix hj (by omega)) ?_
      refine am_V2 110 (mc' := 0) (ms' := 0) (rc := 0) (rs := 0) dX10_go_110 lX10_65 ⟨by decide, by decide⟩ c3 (Nat.le_of_ble_eq_true rfl) (Nat.le_of_ble_eq_true rfl) (far _ _) ?_
      refine am_is_ct ?_
      refine am_istore 113 dX10_go_113 (by decide) ?_
      refine am_iload 115 dX10_go_115 rfl ?_
      refine am_sipush 117 (v := 256) dX10_go_117 (by decide) ?_
      refine am_icmp_gt 120 167 dX10_go_120 rfl (fun c120 => ?_) (fun c120 => ?_)
      · first | exact more _ _ _ _ _ q1 q2 | exact more _ _ _ _ _ e1 e2
      · refine am_lload_n 123 dX10_go_123 rfl ?_
        refine am_iload 124 dX10_go_124 rfl ?_
        refine am_lshr 126 dX10_go_126 ?_
        refine am_lconst 127 (v := 1) dX10_go_127 rfl ?_
        refine am_land 128 dX10_go_128 ?_
        refine am_lconst 129 (v := 1) dX10_go_129 rfl ?_
        refine am_lcmp 130 dX10_go_130 ?_
        refine am_if_ne 131 137 dX10_go_131 rfl (fun c131 => ?_) (fun c131 => ?_)
        · refine am_aload_n 137 dX10_go_137 rfl ?_
          refine am_getfield 138 dX10_go_138 fX10_15 (by first | exact r_g0 | exact r_g1 | exact r_g2 | exact hgx0 | exact hgx1 | exact hgx2 | exact hgx3 | exact hgx4 | assumption) rfl ?_
          refine am_iload_n 141 dX10_go_141 rfl ?_
          refine am_iload 142 dX10_go_142 rfl ?_
          refine am_iastore 144 dX10_go_144 rfl (by first | exact r_g0 | exact r_g1 | exact r_g2 | exact hgx0 | exact hgx1 | exact hgx2 | exact hgx3 | exact hgx4 | assumption) (am_ix (c := 0) (by decide) (by decide)) ?_
          rw [show (0 : Int32).toNatClampNeg = 0 from rfl, r_gu1]
          refine am_aload_n 145 dX10_go_145 rfl ?_
          refine am_iload_n 146 dX10_go_146 rfl ?_
          refine am_iconst 147 (v := 1) dX10_go_147 (by decide) ?_
          refine am_iadd 148 dX10_go_148 ?_
          refine am_lload_n 149 dX10_go_149 rfl ?_
          refine am_lconst 150 (v := 1) dX10_go_150 rfl ?_
          refine am_iload 151 dX10_go_151 rfl ?_
          refine am_lshl 153 dX10_go_153 ?_
          refine am_lor 154 dX10_go_154 ?_
          refine am_iload 155 dX10_go_155 rfl ?_
          refine am_iconst 157 (v := 1) dX10_go_157 (by decide) ?_
          refine am_iadd 158 dX10_go_158 ?_
          refine am_iload 159 dX10_go_159 rfl ?_
          refine am_iload 161 dX10_go_161 rfl ?_
          refine am_iadd 163 dX10_go_163 ?_
          refine am_V4 164 (mc' := 0) (ms' := 0) (rc := 0) (rs := 0) dX10_go_164 (show am_cV RX10 48 mgo1 4 10 from lX10_48) ⟨by decide, by decide⟩ r_g0 (Nat.le_of_ble_eq_true rfl) (Nat.le_of_ble_eq_true rfl) (next _ _ _ _ (e1.up (k := 0) (Or.inr ⟨j, c, hj, rfl, hc⟩)) e2 _ _ _) ?_
          rintro o n' f' ⟨nw2, bs2, mo2, le2, rfl, rfl, rfl, q1, q2⟩
          refine am_ctI ?_
          first | exact more _ _ _ _ _ q1 q2 | exact more _ _ _ _ _ e1 e2
        · refine am_goto 134 (tgt := 167) dX10_go_134 rfl ?_
          first | exact more _ _ _ _ _ q1 q2 | exact more _ _ _ _ _ e1 e2
end RMatch
