/-! ===== the reference: how it looks ===== -/
section View
theorem am_SN2 (pc : Nat) {M N : am_M} {rc rs mc' ms' n ix : Nat} {x1 x2 : Value} {L : List (Option Value)} {st : List Value} {f : Nat → am_C} {P P' : am_P} (hd : decode (am_by M) pc = .ok (.invokestatic ix, 3)) (hc : am_cSN (am_y M).cls ix N 2) (hG2 : am_G2 M N) (hr : (st.map fun v => v.category).sum ≤ 8) (hlen : (lg_sl [x1, x2]).length ≤ am_mL N) (hs : AM N mc' ms' [x1, x2] n f P') (k : ∀ o n' f', P' o n' f' → ∃ v, o = .inl v ∧ AW M rc rs (pc + 3) L (v.toList ++ st) n' f' P) : AW M (mc' + rc) (ms' + rs) pc L (x2 :: x1 :: st) n f P := by
  obtain ⟨h1, ⟨host, h2⟩, h3⟩ := hc
  exact am_invSN (as := [x1, x2]) (host := host) pc hd h1 hG2 h2 h3 rfl hr hlen (AW.mono (fun o n' f' h => by obtain ⟨v, rfl, h2⟩ := k o n' f' h; exact h2) hs)
def r_put (f : Nat → am_C) (v u : Nat) (sig sz pk : Nat → Int32) (mn : Int32) (g w : Nat → Int32) : Nat → am_C := fun x =>
  if x = v then .inr (11, [.ref (u), .ref (u + 1), .ref (u + 2), .int mn]) else if x = u then .inl (0, 48, .inl sig) else if x = u + 1 then .inl (0, 48, .inl sz) else if x = u + 2 then .inl (0, 48, .inl pk)
  else if x = u + 3 then .inl (3, 48, .inl g) else if x = u + 4 then .inl (0, 48, .inl w) else f x
variable {v u n : Nat} {f : Nat → am_C} {sig sz pk g w : Nat → Int32} {mn : Int32}
theorem r_a0 : r_put f v u sig sz pk mn g w v = .inr (11, [.ref (u), .ref (u + 1), .ref (u + 2), .int mn]) := by simp [r_put]
theorem r_a1 (hv : v < u) : r_put f v u sig sz pk mn g w (u) = .inl (0, 48, .inl sig) := by
  unfold r_put
  repeat first | rw [if_pos rfl] | rw [if_neg (by omega)]
theorem r_a2 (hv : v < u) : r_put f v u sig sz pk mn g w (u + 1) = .inl (0, 48, .inl sz) := by
  unfold r_put
  repeat first | rw [if_pos rfl] | rw [if_neg (by omega)]
theorem r_a3 (hv : v < u) : r_put f v u sig sz pk mn g w (u + 2) = .inl (0, 48, .inl pk) := by
  unfold r_put
  repeat first | rw [if_pos rfl] | rw [if_neg (by omega)]
theorem r_a4 (hv : v < u) : r_put f v u sig sz pk mn g w (u + 3) = .inl (3, 48, .inl g) := by
  unfold r_put
  repeat first | rw [if_pos rfl] | rw [if_neg (by omega)]
theorem r_a5 (hv : v < u) : r_put f v u sig sz pk mn g w (u + 4) = .inl (0, 48, .inl w) := by
  unfold r_put
  repeat first | rw [if_pos rfl] | rw [if_neg (by omega)]
theorem r_out {x : Nat} (h : x ≠ v ∧ (x < u ∨ u + 4 < x)) : r_put f v u sig sz pk mn g w x = f x := by
  unfold r_put
  rw [if_neg h.1, if_neg (by omega), if_neg (by omega), if_neg (by omega), if_neg (by omega), if_neg (by omega)]
theorem r_u0 (hv : v < u) {a : Int32} : va_up (r_put f v u sig sz pk mn g w) v (.inr (11, [.ref (u), .ref (u + 1), .ref (u + 2), .int a])) = r_put f v u sig sz pk a g w := by
  funext x; unfold va_up r_put; repeat' split
  all_goals first | rfl | omega
theorem r_u1 (hv : v < u) {a : Nat → Int32} : va_up (r_put f v u sig sz pk mn g w) (u) (.inl (0, 48, .inl a)) = r_put f v u a sz pk mn g w := by
  funext x; unfold va_up r_put; repeat' split
  all_goals first | rfl | omega
theorem r_u2 (hv : v < u) {a : Nat → Int32} : va_up (r_put f v u sig sz pk mn g w) (u + 1) (.inl (0, 48, .inl a)) = r_put f v u sig a pk mn g w := by
  funext x; unfold va_up r_put; repeat' split
  all_goals first | rfl | omega
theorem r_u3 (hv : v < u) {a : Nat → Int32} : va_up (r_put f v u sig sz pk mn g w) (u + 2) (.inl (0, 48, .inl a)) = r_put f v u sig sz a mn g w := by
  funext x; unfold va_up r_put; repeat' split
  all_goals first | rfl | omega
theorem r_u4 (hv : v < u) {a : Nat → Int32} : va_up (r_put f v u sig sz pk mn g w) (u + 3) (.inl (3, 48, .inl a)) = r_put f v u sig sz pk mn a w := by
  funext x; unfold va_up r_put; repeat' split
  all_goals first | rfl | omega
theorem r_u5 (hv : v < u) {a : Nat → Int32} : va_up (r_put f v u sig sz pk mn g w) (u + 4) (.inl (0, 48, .inl a)) = r_put f v u sig sz pk mn g a := by
  funext x; unfold va_up r_put; repeat' split
  all_goals first | rfl | omega
theorem s_vTouched {c : Nat} (h0 : f v = .inr (11, [.ref (u), .ref (u + 1), .ref (u + 2), .int mn])) (h1 : f (u) = .inl (0, 48, .inl sig)) (hc : c < 48) : AM mX11_isTouched 0 0 [.ref v, .int (nI c)] n f (am_is (some (.int (m_tc sig c))) n f) := by
  show AW mX11_isTouched 0 0 0 [some (.ref v), some (.int (nI c))] [] n f _
  refine am_aload_n 0 dX11_isTouched_0 rfl ?_
  refine am_getfield 1 dX11_isTouched_1 fX11_9 (by repeat (first | assumption | exact am_ue | refine am_un (by first | assumption | decide | omega) ?_)) rfl ?_
  refine am_iload_n 4 dX11_isTouched_4 rfl ?_
  refine am_iaload 5 dX11_isTouched_5 rfl (by repeat (first | assumption | exact am_ue | refine am_un (by first | assumption | decide | omega) ?_)) (am_ix hc (by decide)) ?_
  rw [nI_clamp (n := c) (by omega)]
  refine am_bipush 6 (v := 20) dX11_isTouched_6 (by decide) ?_
  refine am_icmp_lt 8 15 dX11_isTouched_8 rfl (fun c8 => ?_) (fun c8 => ?_)
  · refine am_iconst 15 (v := 0) dX11_isTouched_15 (by decide) ?_
    refine am_ireturn 16 dX11_isTouched_16 rfl rfl ?_
    exact ⟨by simp [m_tc, *], rfl, rfl⟩
  · refine am_iconst 11 (v := 1) dX11_isTouched_11 (by decide) ?_
    refine am_goto 12 (tgt := 16) dX11_isTouched_12 rfl ?_
    refine am_ireturn 16 dX11_isTouched_16 rfl rfl ?_
    exact ⟨by simp [m_tc, *], rfl, rfl⟩
def r_F (g : Nat → Int32) : Nat → Nat := fun k => if g k = 0 then 0 else 1
def r_cnt (g : Nat → Int32) : Nat := m_S (r_F g) 48
theorem r_cnt_up {c : Nat} (hc : c < 48) (h : g c = 0) : r_cnt (va_up g c 1) = r_cnt g + 1 := by
  have e : r_F (va_up g c 1) = va_up (r_F g) c (r_F g c + 1) := by
    funext k
    unfold r_F
    by_cases hk : k = c
    · subst hk
      rw [am_up_eq, am_up_eq, h]
      rfl
    · rw [am_up_ne hk, am_up_ne hk]
  unfold r_cnt
  rw [e, m_S_up hc]
theorem r_cnt_le : r_cnt g ≤ 48 := by
  refine Nat.le_trans (m_S_le (h := fun _ => 1) fun j _ => ?_) (by rw [m_S_const]; decide)
  unfold r_F; split <;> omega
def r_I (g w : Nat → Int32) (h : Nat) : Prop := h ≤ r_cnt g ∧ ∀ j, j < h → ∃ c, c < 48 ∧ w j = nI c
theorem r_I_push {h c : Nat} (hI : r_I g w h) (hc : c < 48) (h0 : g c = 0) : h < 48 ∧ r_I (va_up g c 1) (va_up w h (nI c)) (h + 1) := by
  have h1 := r_cnt_up hc h0
  have h2 := r_cnt_le (g := va_up g c 1)
  have h3 := hI.1
  refine ⟨by omega, by omega, fun j hj => ?_⟩
  by_cases e : j = h
  · subst e
    exact ⟨c, hc, am_up_eq⟩
  · rw [am_up_ne e]
    exact hI.2 j (by omega)
theorem s_spread {x y : Int32} {h : Nat} (hv : v < u) (hI : r_I g w h) : AM mX11_spread 0 0 [.ref v, .int x, .int y, .ref (u + 3), .ref (u + 4), .int (nI h)] n (r_put f v u sig sz pk mn g w) (fun o n' f' => ∃ (g' w' : Nat → Int32) (h' : Nat), o = .inl (some (.int (nI h'))) ∧ n' = n ∧ f' = r_put f v u sig sz pk mn g' w' ∧ r_I g' w' h') := by
  have hh48 : h ≤ 48 := Nat.le_trans hI.1 r_cnt_le
  show AW mX11_spread 0 0 0 [some (.ref v), some (.int x), some (.int y), some (.ref (u + 3)), some (.ref (u + 4)), some (.int (nI h))] [] n _ _
  by_cases hb : x < 0 ∨ 8 ≤ x ∨ y < 0 ∨ 6 ≤ y
  · refine am_iload_n 0 dX11_spread_0 rfl ?_
    refine am_iload_n 1 dX11_spread_1 rfl ?_
    refine am_SN2 2 (mc' := 0) (ms' := 0) (rc := 0) (rs := 0) dX11_spread_2 lX11_40 ⟨by decide, by decide⟩ (Nat.le_of_ble_eq_true rfl) (Nat.le_of_ble_eq_true rfl) (s_isGlass_f hb) ?_
    rintro o n' f' ⟨rfl, rfl, rfl⟩
    refine ⟨_, rfl, ?_⟩
    refine am_if_eq 5 30 dX11_spread_5 rfl (fun c5 => ?_) (fun c5 => absurd (by decide) c5)
    refine am_iload 30 dX11_spread_30 rfl ?_
    refine am_ireturn 32 dX11_spread_32 rfl rfl ?_
    exact ⟨g, w, h, rfl, rfl, rfl, hI⟩
  · obtain ⟨a, ha, rfl⟩ := m_small 8 rfl (by decide) (fun z => hb (Or.inl z)) (fun z => hb (Or.inr (Or.inl z)))
    obtain ⟨b, hb2, rfl⟩ := m_small 6 rfl (by decide) (fun z => hb (Or.inr (Or.inr (Or.inl z)))) (fun z => hb (Or.inr (Or.inr (Or.inr z))))
    have hc : 8 * b + a < 48 := by omega
    refine am_iload_n 0 dX11_spread_0 rfl ?_
    refine am_iload_n 1 dX11_spread_1 rfl ?_
    refine am_SN2 2 (mc' := 0) (ms' := 0) (rc := 0) (rs := 0) dX11_spread_2 lX11_40 ⟨by decide, by decide⟩ (Nat.le_of_ble_eq_true rfl) (Nat.le_of_ble_eq_true rfl) (s_isGlass_t ha hb2) ?_
    rintro o n' f' ⟨rfl, rfl, rfl⟩
    refine ⟨_, rfl, ?_⟩
    refine am_if_eq 5 30 dX11_spread_5 rfl (fun c5 => absurd c5 (by decide)) (fun c5 => ?_)
    refine am_aload_n 8 dX11_spread_8 rfl ?_
    refine am_iload_n 9 dX11_spread_9 rfl ?_
    refine am_iload_n 10 dX11_spread_10 rfl ?_
    refine am_SN2 11 (mc' := 0) (ms' := 0) (rc := 0) (rs := 0) dX11_spread_11 lX11_44 ⟨by decide, by decide⟩ (Nat.le_of_ble_eq_true rfl) (Nat.le_of_ble_eq_true rfl) (s_cell) ?_
    rintro o n' f' ⟨rfl, rfl, rfl⟩
    refine ⟨_, rfl, ?_⟩
    refine am_zaload 14 dX11_spread_14 rfl (by first | exact r_a0 | exact (r_a1 hv) | exact (r_a2 hv) | exact (r_a3 hv) | exact (r_a4 hv) | exact (r_a5 hv) | assumption) (am_ix hc (by decide)) ?_
    rw [nI_clamp (n := 8 * b + a) (by omega)]
    refine am_if_ne 15 30 dX11_spread_15 rfl (fun c15 => ?_) (fun c15 => ?_)
    · refine am_iload 30 dX11_spread_30 rfl ?_
      refine am_ireturn 32 dX11_spread_32 rfl rfl ?_
      exact ⟨g, w, h, rfl, rfl, rfl, hI⟩
    · have hI2 := r_I_push hI hc c15
      refine am_aload_n 18 dX11_spread_18 rfl ?_
      refine am_iload_n 19 dX11_spread_19 rfl ?_
      refine am_iload_n 20 dX11_spread_20 rfl ?_
      refine am_SN2 21 (mc' := 0) (ms' := 0) (rc := 0) (rs := 0) dX11_spread_21 lX11_44 ⟨by decide, by decide⟩ (Nat.le_of_ble_eq_true rfl) (Nat.le_of_ble_eq_true rfl) (s_cell) ?_
      rintro o n' f' ⟨rfl, rfl, rfl⟩
      refine ⟨_, rfl, ?_⟩
      refine am_V1 24 (mc' := 0) (ms' := 0) (rc := 0) (rs := 0) dX11_spread_24 lX11_21 ⟨by decide, by decide⟩ (by first | exact r_a0 | exact (r_a1 hv) | exact (r_a2 hv) | exact (r_a3 hv) | exact (r_a4 hv) | exact (r_a5 hv) | assumption) (Nat.le_of_ble_eq_true rfl) (Nat.le_of_ble_eq_true rfl) (s_vTouched r_a0 (r_a1 hv) hc) ?_
      refine am_is_ct ?_
      refine am_if_ne 27 33 dX11_spread_27 rfl (fun c27 => ?_) (fun c27 => ?_)
      · refine am_aload_n 33 dX11_spread_33 rfl ?_
        refine am_iload_n 34 dX11_spread_34 rfl ?_
        refine am_iload_n 35 dX11_spread_35 rfl ?_
        refine am_SN2 36 (mc' := 0) (ms' := 0) (rc := 0) (rs := 0) dX11_spread_36 lX11_44 ⟨by decide, by decide⟩ (Nat.le_of_ble_eq_true rfl) (Nat.le_of_ble_eq_true rfl) (s_cell) ?_
        rintro o n' f' ⟨rfl, rfl, rfl⟩
        refine ⟨_, rfl, ?_⟩
        refine am_iconst 39 (v := 1) dX11_spread_39 (by decide) ?_
        refine am_zastore 40 dX11_spread_40 rfl (by first | exact r_a0 | exact (r_a1 hv) | exact (r_a2 hv) | exact (r_a3 hv) | exact (r_a4 hv) | exact (r_a5 hv) | assumption) (am_ix hc (by decide)) ?_
        rw [nI_clamp (n := 8 * b + a) (by omega), show vp_nar .boolean 1 = (1 : Int32) from rfl, r_u4 hv]
        refine am_aload 41 dX11_spread_41 rfl ?_
        refine am_iload 43 dX11_spread_43 rfl ?_
        refine am_iload_n 45 dX11_spread_45 rfl ?_
        refine am_iload_n 46 dX11_spread_46 rfl ?_
        refine am_SN2 47 (mc' := 0) (ms' := 0) (rc := 0) (rs := 0) dX11_spread_47 lX11_44 ⟨by decide, by decide⟩ (Nat.le_of_ble_eq_true rfl) (Nat.le_of_ble_eq_true rfl) (s_cell) ?_
        rintro o n' f' ⟨rfl, rfl, rfl⟩
        refine ⟨_, rfl, ?_⟩
        refine am_iastore 50 dX11_spread_50 rfl (by first | exact r_a0 | exact (r_a1 hv) | exact (r_a2 hv) | exact (r_a3 hv) | exact (r_a4 hv) | exact (r_a5 hv) | assumption) (am_ix hI2.1 (by decide)) ?_
        rw [nI_clamp (n := h) (by omega), r_u5 hv]
        refine am_iload 51 dX11_spread_51 rfl ?_
        refine am_iconst 53 (v := 1) dX11_spread_53 (by decide) ?_
        refine am_iadd 54 dX11_spread_54 ?_
        rw [nI_1]
        refine am_ireturn 55 dX11_spread_55 rfl rfl ?_
        exact ⟨_, _, h + 1, rfl, rfl, rfl, hI2.2⟩
      · refine am_iload 30 dX11_spread_30 rfl ?_
        refine am_ireturn 32 dX11_spread_32 rfl rfl ?_
        exact ⟨g, w, h, rfl, rfl, rfl, hI⟩
theorem s_vregion {c : Nat} (hv : v < u) (hc : c < 48) (h0 : g c = 0) : AM mX11_region 0 0 [.ref v, .int (nI c), .ref (u + 3), .ref (u + 4)] n (r_put f v u sig sz pk mn g w) (fun o n' f' => ∃ (sz' g' w' : Nat → Int32), o = .inl none ∧ n' = n ∧ f' = r_put f v u sig sz' pk mn g' w') := by
  show AW mX11_region 0 0 0 [some (.ref v), some (.int (nI c)), some (.ref (u + 3)), some (.ref (u + 4)), none, none, none, none] [] n _ _
  have hI1 : r_I (va_up g c 1) (va_up w 0 (nI c)) 1 := (r_I_push (h := 0) (w := w) ⟨Nat.zero_le _, fun j hj => by omega⟩ hc h0).2
  have hend : ∀ (g' w' : Nat → Int32) (h : Nat) (z1 z2 z3 : Option Value), r_I g' w' h → AW mX11_region 0 0 109 [some (.ref v), some (.int (nI c)), some (.ref (u + 3)), some (.ref (u + 4)), some (.int (nI h)), z1, z2, z3] [] n (r_put f v u sig sz pk mn g' w') (fun o n' f' => ∃ (sz' g' w' : Nat → Int32), o = .inl none ∧ n' = n ∧ f' = r_put f v u sig sz' pk mn g' w') := by
    intro g' w' h z1 z2 z3 hI
    have hh48 : h ≤ 48 := Nat.le_trans hI.1 r_cnt_le
    refine am_iconst 109 (v := 0) dX11_region_109 (by decide) ?_
    refine am_istore 110 dX11_region_110 (by decide) ?_
    refine am_for h (fun _ (_ : Nat → Int32) => True) (fun k s' => AW mX11_region 0 0 112 [some (.ref v), some (.int (nI c)), some (.ref (u + 3)), some (.ref (u + 4)), some (.int (nI h)), some (.int (nI k)), z2, z3] [] n (r_put f v u sig s' pk mn g' w') _) ?_ ?_ 0 _ (by omega) trivial
    · intro s' _
      refine am_iload 112 dX11_region_112 rfl ?_
      refine am_iload 114 dX11_region_114 rfl ?_
      refine am_icmp_ge 116 136 dX11_region_116 rfl (fun c116 => ?_) (fun c116 => absurd (Int32.le_refl _) c116)
      refine am_return 136 dX11_region_136 rfl ?_
      exact ⟨_, _, _, rfl, rfl, rfl⟩
    · intro k s' hk _ ih
      obtain ⟨d, hd, he⟩ := hI.2 k hk
      refine am_iload 112 dX11_region_112 rfl ?_
      refine am_iload 114 dX11_region_114 rfl ?_
      refine am_icmp_ge 116 136 dX11_region_116 rfl (fun c116 => absurd c116 (nI_ge hk (by omega))) (fun c116 => ?_)
      refine am_aload_n 119 dX11_region_119 rfl ?_
      refine am_getfield 120 dX11_region_120 fX11_15 (by first | exact r_a0 | exact (r_a1 hv) | exact (r_a2 hv) | exact (r_a3 hv) | exact (r_a4 hv) | exact (r_a5 hv) | assumption) rfl ?_
      refine am_aload_n 123 dX11_region_123 rfl ?_
      refine am_iload 124 dX11_region_124 rfl ?_
      refine am_iaload 126 dX11_region_126 rfl (by first | exact r_a0 | exact (r_a1 hv) | exact (r_a2 hv) | exact (r_a3 hv) | exact (r_a4 hv) | exact (r_a5 hv) | assumption) (am_ix (by omega) (by decide)) ?_
      rw [nI_clamp (n := k) (by omega), he]
      refine am_iload 127 dX11_region_127 rfl ?_
      refine am_iastore 129 dX11_region_129 rfl (by first | exact r_a0 | exact (r_a1 hv) | exact (r_a2 hv) | exact (r_a3 hv) | exact (r_a4 hv) | exact (r_a5 hv) | assumption) (am_ix hd (by decide)) ?_
      rw [r_u2 hv]
      refine am_iinc 130 (v := nI (k + 1)) dX11_region_130 rfl (nI_1 (k)) (by decide) ?_
      refine am_goto 133 (tgt := 112) dX11_region_133 rfl ?_
      exact ih _ trivial
  refine am_iconst 0 (v := 1) dX11_region_0 (by decide) ?_
  refine am_istore 1 dX11_region_1 (by decide) ?_
  refine am_aload_n 3 dX11_region_3 rfl ?_
  refine am_iconst 4 (v := 0) dX11_region_4 (by decide) ?_
  refine am_iload_n 5 dX11_region_5 rfl ?_
  refine am_iastore 6 dX11_region_6 rfl (by first | exact r_a0 | exact (r_a1 hv) | exact (r_a2 hv) | exact (r_a3 hv) | exact (r_a4 hv) | exact (r_a5 hv) | assumption) (am_ix (c := 0) (by decide) (by decide)) ?_
  rw [r_u5 hv, show (0 : Int32).toNatClampNeg = 0 from rfl]
  refine am_aload_n 7 dX11_region_7 rfl ?_
  refine am_iload_n 8 dX11_region_8 rfl ?_
  refine am_iconst 9 (v := 1) dX11_region_9 (by decide) ?_
  refine am_zastore 10 dX11_region_10 rfl (by first | exact r_a0 | exact (r_a1 hv) | exact (r_a2 hv) | exact (r_a3 hv) | exact (r_a4 hv) | exact (r_a5 hv) | assumption) (am_ix hc (by decide)) ?_
  rw [nI_clamp (n := c) (by omega), show vp_nar .boolean 1 = (1 : Int32) from rfl, r_u4 hv]
  refine am_iconst 11 (v := 0) dX11_region_11 (by decide) ?_
  refine am_istore 12 dX11_region_12 (by decide) ?_
  refine am_for 48 (fun _ (z : ((Nat → Int32) × (Nat → Int32)) × Nat × Option Value × Option Value) => r_I z.1.1 z.1.2 z.2.1) (fun k z => AW mX11_region 0 0 14 [some (.ref v), some (.int (nI c)), some (.ref (u + 3)), some (.ref (u + 4)), some (.int (nI z.2.1)), some (.int (nI k)), z.2.2.1, z.2.2.2] [] n (r_put f v u sig sz pk mn z.1.1 z.1.2) _) ?_ ?_ 0 ((_, _), 1, _, _) (by omega) hI1
  · rintro ⟨⟨g', w'⟩, h, z2, z3⟩ hI
    have hI : r_I g' w' h := hI
    have hh48 : h ≤ 48 := Nat.le_trans hI.1 r_cnt_le
    show AW mX11_region 0 0 14 [some (.ref v), some (.int (nI c)), some (.ref (u + 3)), some (.ref (u + 4)), some (.int (nI h)), some (.int (nI 48)), z2, z3] [] n (r_put f v u sig sz pk mn g' w') _
    refine am_iload 14 dX11_region_14 rfl ?_
    refine am_iload 16 dX11_region_16 rfl ?_
    refine am_icmp_ge 18 109 dX11_region_18 rfl (fun c18 => ?_) (fun c18 => absurd ((nI_leI (by omega) (by decide)).mpr hh48) c18)
    exact hend _ _ _ _ _ _ hI
  · rintro k ⟨⟨g', w'⟩, h, z2, z3⟩ hk hI ih
    have hI : r_I g' w' h := hI
    have hh48 : h ≤ 48 := Nat.le_trans hI.1 r_cnt_le
    show AW mX11_region 0 0 14 [some (.ref v), some (.int (nI c)), some (.ref (u + 3)), some (.ref (u + 4)), some (.int (nI h)), some (.int (nI k)), z2, z3] [] n (r_put f v u sig sz pk mn g' w') _
    refine am_iload 14 dX11_region_14 rfl ?_
    refine am_iload 16 dX11_region_16 rfl ?_
    refine am_icmp_ge 18 109 dX11_region_18 rfl (fun c18 => ?_) (fun c18 => ?_)
    · exact hend _ _ _ _ _ _ hI
    · obtain ⟨d, hd, he⟩ := hI.2 k (am_nleN h c18 (by omega) (by omega))
      refine am_aload_n 21 dX11_region_21 rfl ?_
      refine am_iload 22 dX11_region_22 rfl ?_
      refine am_iaload 24 dX11_region_24 rfl (by first | exact r_a0 | exact (r_a1 hv) | exact (r_a2 hv) | exact (r_a3 hv) | exact (r_a4 hv) | exact (r_a5 hv) | assumption) (am_ix hk (by decide)) ?_
      rw [nI_clamp (n := k) (by omega), he]
      refine am_bipush 25 (v := 8) dX11_region_25 (by decide) ?_
      refine am_irem 27 dX11_region_27 (by decide) ?_
      refine am_istore 28 dX11_region_28 (by decide) ?_
      refine am_aload_n 30 dX11_region_30 rfl ?_
      refine am_iload 31 dX11_region_31 rfl ?_
      refine am_iaload 33 dX11_region_33 rfl (by first | exact r_a0 | exact (r_a1 hv) | exact (r_a2 hv) | exact (r_a3 hv) | exact (r_a4 hv) | exact (r_a5 hv) | assumption) (am_ix hk (by decide)) ?_
      rw [nI_clamp (n := k) (by omega), he]
      refine am_bipush 34 (v := 8) dX11_region_34 (by decide) ?_
      refine am_idiv 36 dX11_region_36 (by decide) ?_
      refine am_istore 37 dX11_region_37 (by decide) ?_
      refine am_aload_n 39 dX11_region_39 rfl ?_
      refine am_iload 40 dX11_region_40 rfl ?_
      refine am_iconst 42 (v := 1) dX11_region_42 (by decide) ?_
      refine am_isub 43 dX11_region_43 ?_
      refine am_iload 44 dX11_region_44 rfl ?_
      refine am_aload_n 46 dX11_region_46 rfl ?_
      refine am_aload_n 47 dX11_region_47 rfl ?_
      refine am_iload 48 dX11_region_48 rfl ?_
      refine am_V5 50 (mc' := 0) (ms' := 0) (rc := 0) (rs := 0) dX11_region_50 lX11_36 ⟨by decide, by decide⟩ r_a0 (Nat.le_of_ble_eq_true rfl) (Nat.le_of_ble_eq_true rfl) (s_spread hv hI) ?_
      rintro o n' f' ⟨g1, w1, h1, rfl, rfl, rfl, hI1⟩
      refine am_ct_in ?_
      refine am_istore 53 dX11_region_53 (by decide) ?_
      refine am_aload_n 55 dX11_region_55 rfl ?_
      refine am_iload 56 dX11_region_56 rfl ?_
      refine am_iconst 58 (v := 1) dX11_region_58 (by decide) ?_
      refine am_iadd 59 dX11_region_59 ?_
      refine am_iload 60 dX11_region_60 rfl ?_
      refine am_aload_n 62 dX11_region_62 rfl ?_
      refine am_aload_n 63 dX11_region_63 rfl ?_
      refine am_iload 64 dX11_region_64 rfl ?_
      refine am_V5 66 (mc' := 0) (ms' := 0) (rc := 0) (rs := 0) dX11_region_66 lX11_36 ⟨by decide, by decide⟩ r_a0 (Nat.le_of_ble_eq_true rfl) (Nat.le_of_ble_eq_true rfl) (s_spread hv hI1) ?_
      rintro o n' f' ⟨g2, w2, h2, rfl, rfl, rfl, hI2⟩
      refine am_ct_in ?_
      refine am_istore 69 dX11_region_69 (by decide) ?_
      refine am_aload_n 71 dX11_region_71 rfl ?_
      refine am_iload 72 dX11_region_72 rfl ?_
      refine am_iload 74 dX11_region_74 rfl ?_
      refine am_iconst 76 (v := 1) dX11_region_76 (by decide) ?_
      refine am_isub 77 dX11_region_77 ?_
      refine am_aload_n 78 dX11_region_78 rfl ?_
      refine am_aload_n 79 dX11_region_79 rfl ?_
      refine am_iload 80 dX11_region_80 rfl ?_
      refine am_V5 82 (mc' := 0) (ms' := 0) (rc := 0) (rs := 0) dX11_region_82 lX11_36 ⟨by decide, by decide⟩ r_a0 (Nat.le_of_ble_eq_true rfl) (Nat.le_of_ble_eq_true rfl) (s_spread hv hI2) ?_
      rintro o n' f' ⟨g3, w3, h3, rfl, rfl, rfl, hI3⟩
      refine am_ct_in ?_
      refine am_istore 85 dX11_region_85 (by decide) ?_
      refine am_aload_n 87 dX11_region_87 rfl ?_
      refine am_iload 88 dX11_region_88 rfl ?_
      refine am_iload 90 dX11_region_90 rfl ?_
      refine am_iconst 92 (v := 1) dX11_region_92 (by decide) ?_
      refine am_iadd 93 dX11_region_93 ?_
      refine am_aload_n 94 dX11_region_94 rfl ?_
      refine am_aload_n 95 dX11_region_95 rfl ?_
      refine am_iload 96 dX11_region_96 rfl ?_
      refine am_V5 98 (mc' := 0) (ms' := 0) (rc := 0) (rs := 0) dX11_region_98 lX11_36 ⟨by decide, by decide⟩ r_a0 (Nat.le_of_ble_eq_true rfl) (Nat.le_of_ble_eq_true rfl) (s_spread hv hI3) ?_
      rintro o n' f' ⟨g4, w4, h4, rfl, rfl, rfl, hI4⟩
      refine am_ct_in ?_
      refine am_istore 101 dX11_region_101 (by decide) ?_
      refine am_iinc 103 (v := nI (k + 1)) dX11_region_103 rfl (nI_1 (k)) (by decide) ?_
      refine am_goto 106 (tgt := 14) dX11_region_106 rfl ?_
      exact ih ((_, _), _, _, _) hI4
theorem r_off {x j : Nat} (hx : x < 100) (hj : j < 100) : (nI x - 1 + nI j).toInt = (x : Int) - 1 + j := by
  have e1 : (nI x - 1).toInt = (x : Int) - 1 := by
    rw [Int32.toInt_sub, nI_toInt (by omega), show (1 : Int32).toInt = 1 from rfl, Int.bmod_eq_of_le (by omega) (by omega)]
  rw [Int32.toInt_add, e1, nI_toInt (by omega), Int.bmod_eq_of_le (by omega) (by omega)]
theorem r_gt {x j : Nat} (hx : x < 50) (hj : j < 50) : nI x + 1 < nI x - 1 + nI j ↔ 3 ≤ j := by
  rw [nI_1, Int32.lt_iff_toInt_lt, r_off (by omega) (by omega), nI_toInt (by omega)]
  omega
theorem r_inc {x j : Nat} : nI x - 1 + nI j + 1 = nI x - 1 + nI (j + 1) := by rw [← nI_1, Int32.add_assoc]
theorem s_isPeak {c : Nat} (h0 : f v = .inr (11, [.ref (u), .ref (u + 1), .ref (u + 2), .int mn])) (h1 : f (u) = .inl (0, 48, .inl sig)) (hc : c < 48) : AM mX11_isPeak 0 0 [.ref v, .int (nI c)] n f (fun o n' f' => ∃ b : Bool, o = .inl (some (.int (m_bi b))) ∧ n = n' ∧ f = f' ∧ (¬ 20 ≤ sig c → b = false)) := by
  show AW mX11_isPeak 0 0 0 [some (.ref v), some (.int (nI c)), none, none, none, none, none] [] n f _
  rcases Classical.em (¬ 20 ≤ sig c) with h20 | h20
  · refine am_aload_n 0 dX11_isPeak_0 rfl ?_
    refine am_iload_n 1 dX11_isPeak_1 rfl ?_
    refine am_V1 2 (mc' := 0) (ms' := 0) (rc := 0) (rs := 0) dX11_isPeak_2 lX11_21 ⟨by decide, by decide⟩ (by repeat (first | assumption | exact am_ue | refine am_un (by first | assumption | decide | omega) ?_)) (Nat.le_of_ble_eq_true rfl) (Nat.le_of_ble_eq_true rfl) (s_vTouched h0 h1 hc) ?_
    refine am_is_ct ?_
    refine am_if_ne 5 10 dX11_isPeak_5 rfl (fun c5 => absurd c5 (fun z => z (m_tc_0.mpr h20))) (fun c5 => ?_)
    refine am_iconst 8 (v := 0) dX11_isPeak_8 (by decide) ?_
    refine am_ireturn 9 dX11_isPeak_9 rfl rfl ?_
    exact ⟨false, rfl, rfl, rfl, fun _ => rfl⟩
  have h20 : 20 ≤ sig c := Classical.not_not.mp h20
  refine am_aload_n 0 dX11_isPeak_0 rfl ?_
  refine am_iload_n 1 dX11_isPeak_1 rfl ?_
  refine am_V1 2 (mc' := 0) (ms' := 0) (rc := 0) (rs := 0) dX11_isPeak_2 lX11_21 ⟨by decide, by decide⟩ (by repeat (first | assumption | exact am_ue | refine am_un (by first | assumption | decide | omega) ?_)) (Nat.le_of_ble_eq_true rfl) (Nat.le_of_ble_eq_true rfl) (s_vTouched h0 h1 hc) ?_
  refine am_is_ct ?_
  refine am_if_ne 5 10 dX11_isPeak_5 rfl (fun c5 => ?_) (fun c5 => False.elim (m_tc_0.mp c5 h20))
  refine am_iload_n 10 dX11_isPeak_10 rfl ?_
  refine am_bipush 11 (v := 8) dX11_isPeak_11 (by decide) ?_
  refine am_irem 13 dX11_isPeak_13 (by decide) ?_
  rw [am_rem8 (by omega)]
  refine am_istore_n 14 dX11_isPeak_14 (by decide) ?_
  refine am_iload_n 15 dX11_isPeak_15 rfl ?_
  refine am_bipush 16 (v := 8) dX11_isPeak_16 (by decide) ?_
  refine am_idiv 18 dX11_isPeak_18 (by decide) ?_
  rw [am_div8 (by omega)]
  refine am_istore_n 19 dX11_isPeak_19 (by decide) ?_
  refine am_iload_n 20 dX11_isPeak_20 rfl ?_
  refine am_iconst 21 (v := 1) dX11_isPeak_21 (by decide) ?_
  refine am_isub 22 dX11_isPeak_22 ?_
  rw [show nI (c % 8) - 1 = nI (c % 8) - 1 + nI 0 from (Int32.add_zero _).symm]
  refine am_istore 23 dX11_isPeak_23 (by decide) ?_
  refine am_for 3 (fun _ (_ : (Option Value) × (Option Value)) => True) (fun i z => AW mX11_isPeak 0 0 25 [some (.ref v), some (.int (nI c)), some (.int (nI (c % 8))), some (.int (nI (c / 8))), some (.int (nI (c % 8) - 1 + nI i)), z.1, z.2] [] n f _) ?_ ?_ 0 (none, none) (by omega) trivial
  · rintro ⟨z1, z2⟩ -
    refine am_iload 25 dX11_isPeak_25 rfl ?_
    refine am_iload_n 27 dX11_isPeak_27 rfl ?_
    refine am_iconst 28 (v := 1) dX11_isPeak_28 (by decide) ?_
    refine am_iadd 29 dX11_isPeak_29 ?_
    refine am_icmp_gt 30 131 dX11_isPeak_30 rfl (fun c30 => ?_) (fun c30 => absurd ((r_gt (by omega) (by decide)).mpr (by decide)) c30)
    refine am_iconst 131 (v := 1) dX11_isPeak_131 (by decide) ?_
    refine am_ireturn 132 dX11_isPeak_132 rfl rfl ?_
    exact ⟨true, rfl, rfl, rfl, fun z => absurd h20 z⟩
  · rintro i ⟨z1, z2⟩ hi - ih
    show AW mX11_isPeak 0 0 25 [some (.ref v), some (.int (nI c)), some (.int (nI (c % 8))), some (.int (nI (c / 8))), some (.int (nI (c % 8) - 1 + nI i)), z1, z2] [] n f _
    refine am_iload 25 dX11_isPeak_25 rfl ?_
    refine am_iload_n 27 dX11_isPeak_27 rfl ?_
    refine am_iconst 28 (v := 1) dX11_isPeak_28 (by decide) ?_
    refine am_iadd 29 dX11_isPeak_29 ?_
    refine am_icmp_gt 30 131 dX11_isPeak_30 rfl (fun c30 => absurd c30 (fun z => by have := (r_gt (by omega) (by omega)).mp z; omega)) (fun c30 => ?_)
    refine am_iload_n 33 dX11_isPeak_33 rfl ?_
    refine am_iconst 34 (v := 1) dX11_isPeak_34 (by decide) ?_
    refine am_isub 35 dX11_isPeak_35 ?_
    rw [show nI (c / 8) - 1 = nI (c / 8) - 1 + nI 0 from (Int32.add_zero _).symm]
    refine am_istore 36 dX11_isPeak_36 (by decide) ?_
    refine am_for 3 (fun _ (_ : Option Value) => True) (fun j z => AW mX11_isPeak 0 0 38 [some (.ref v), some (.int (nI c)), some (.int (nI (c % 8))), some (.int (nI (c / 8))), some (.int (nI (c % 8) - 1 + nI i)), some (.int (nI (c / 8) - 1 + nI j)), z] [] n f _) ?_ ?_ 0 z2 (by omega) trivial
    · rintro z -
      refine am_iload 38 dX11_isPeak_38 rfl ?_
      refine am_iload_n 40 dX11_isPeak_40 rfl ?_
      refine am_iconst 41 (v := 1) dX11_isPeak_41 (by decide) ?_
      refine am_iadd 42 dX11_isPeak_42 ?_
      refine am_icmp_gt 43 125 dX11_isPeak_43 rfl (fun c43 => ?_) (fun c43 => absurd ((r_gt (by omega) (by decide)).mpr (by decide)) c43)
      refine am_iinc 125 (v := nI (c % 8) - 1 + nI (i + 1)) dX11_isPeak_125 rfl r_inc (by decide) ?_
      refine am_goto 128 (tgt := 25) dX11_isPeak_128 rfl ?_
      exact ih (_, _) trivial
    · rintro j z hj - ih2
      by_cases hb : (nI (c % 8) - 1 + nI i) < 0 ∨ 8 ≤ (nI (c % 8) - 1 + nI i) ∨ (nI (c / 8) - 1 + nI j) < 0 ∨ 6 ≤ (nI (c / 8) - 1 + nI j)
      · refine am_iload 38 dX11_isPeak_38 rfl ?_
        refine am_iload_n 40 dX11_isPeak_40 rfl ?_
        refine am_iconst 41 (v := 1) dX11_isPeak_41 (by decide) ?_
        refine am_iadd 42 dX11_isPeak_42 ?_
        refine am_icmp_gt 43 125 dX11_isPeak_43 rfl (fun c43 => absurd c43 (fun z => by have := (r_gt (by omega) (by omega)).mp z; omega)) (fun c43 => ?_)
        refine am_iload 46 dX11_isPeak_46 rfl ?_
        refine am_iload 48 dX11_isPeak_48 rfl ?_
        refine am_SN2 50 (mc' := 0) (ms' := 0) (rc := 0) (rs := 0) dX11_isPeak_50 lX11_40 ⟨by decide, by decide⟩ (Nat.le_of_ble_eq_true rfl) (Nat.le_of_ble_eq_true rfl) (s_isGlass_f hb) ?_
        rintro o n' f' ⟨rfl, rfl, rfl⟩
        refine ⟨_, rfl, ?_⟩
        refine am_if_eq 53 119 dX11_isPeak_53 rfl (fun c53 => ?_) (fun c53 => absurd (by decide) c53)
        refine am_iinc 119 (v := nI (c / 8) - 1 + nI (j + 1)) dX11_isPeak_119 rfl r_inc (by decide) ?_
        refine am_goto 122 (tgt := 38) dX11_isPeak_122 rfl ?_
        exact ih2 _ trivial
      · obtain ⟨a, ha, ea⟩ := m_small 8 rfl (by decide) (fun z => hb (Or.inl z)) (fun z => hb (Or.inr (Or.inl z)))
        obtain ⟨b, hb2, eb⟩ := m_small 6 rfl (by decide) (fun z => hb (Or.inr (Or.inr (Or.inl z)))) (fun z => hb (Or.inr (Or.inr (Or.inr z))))
        have hc2 : 8 * b + a < 48 := by omega
        refine am_iload 38 dX11_isPeak_38 rfl ?_
        refine am_iload_n 40 dX11_isPeak_40 rfl ?_
        refine am_iconst 41 (v := 1) dX11_isPeak_41 (by decide) ?_
        refine am_iadd 42 dX11_isPeak_42 ?_
        refine am_icmp_gt 43 125 dX11_isPeak_43 rfl (fun c43 => absurd c43 (fun z => by have := (r_gt (by omega) (by omega)).mp z; omega)) (fun c43 => ?_)
        refine am_iload 46 dX11_isPeak_46 rfl ?_
        refine am_iload 48 dX11_isPeak_48 rfl ?_
        rw [ea, eb]
        refine am_SN2 50 (mc' := 0) (ms' := 0) (rc := 0) (rs := 0) dX11_isPeak_50 lX11_40 ⟨by decide, by decide⟩ (Nat.le_of_ble_eq_true rfl) (Nat.le_of_ble_eq_true rfl) (s_isGlass_t ha hb2) ?_
        rintro o n' f' ⟨rfl, rfl, rfl⟩
        refine ⟨_, rfl, ?_⟩
        refine am_if_eq 53 119 dX11_isPeak_53 rfl (fun c53 => absurd c53 (by decide)) (fun c53 => ?_)
        refine am_iload 56 dX11_isPeak_56 rfl ?_
        refine am_iload 58 dX11_isPeak_58 rfl ?_
        refine am_SN2 60 (mc' := 0) (ms' := 0) (rc := 0) (rs := 0) dX11_isPeak_60 lX11_44 ⟨by decide, by decide⟩ (Nat.le_of_ble_eq_true rfl) (Nat.le_of_ble_eq_true rfl) (s_cell) ?_
        rintro o n' f' ⟨rfl, rfl, rfl⟩
        refine ⟨_, rfl, ?_⟩
        refine am_iload_n 63 dX11_isPeak_63 rfl ?_
        refine am_icmp_ne 64 70 dX11_isPeak_64 rfl (fun c64 => ?_) (fun c64 => ?_)
        · refine am_iload 70 dX11_isPeak_70 rfl ?_
          refine am_iload 72 dX11_isPeak_72 rfl ?_
          refine am_SN2 74 (mc' := 0) (ms' := 0) (rc := 0) (rs := 0) dX11_isPeak_74 lX11_44 ⟨by decide, by decide⟩ (Nat.le_of_ble_eq_true rfl) (Nat.le_of_ble_eq_true rfl) (s_cell) ?_
          rintro o n' f' ⟨rfl, rfl, rfl⟩
          refine ⟨_, rfl, ?_⟩
          refine am_istore 77 dX11_isPeak_77 (by decide) ?_
          refine am_aload_n 79 dX11_isPeak_79 rfl ?_
          refine am_getfield 80 dX11_isPeak_80 fX11_9 (by repeat (first | assumption | exact am_ue | refine am_un (by first | assumption | decide | omega) ?_)) rfl ?_
          refine am_iload 83 dX11_isPeak_83 rfl ?_
          refine am_iaload 85 dX11_isPeak_85 rfl (by repeat (first | assumption | exact am_ue | refine am_un (by first | assumption | decide | omega) ?_)) (am_ix hc2 (by decide)) ?_
          refine am_aload_n 86 dX11_isPeak_86 rfl ?_
          refine am_getfield 87 dX11_isPeak_87 fX11_9 (by repeat (first | assumption | exact am_ue | refine am_un (by first | assumption | decide | omega) ?_)) rfl ?_
          refine am_iload_n 90 dX11_isPeak_90 rfl ?_
          refine am_iaload 91 dX11_isPeak_91 rfl (by repeat (first | assumption | exact am_ue | refine am_un (by first | assumption | decide | omega) ?_)) (am_ix hc (by decide)) ?_
          refine am_icmp_gt 92 117 dX11_isPeak_92 rfl (fun c92 => ?_) (fun c92 => ?_)
          · refine am_iconst 117 (v := 0) dX11_isPeak_117 (by decide) ?_
            refine am_ireturn 118 dX11_isPeak_118 rfl rfl ?_
            exact ⟨false, rfl, rfl, rfl, fun _ => rfl⟩
          · refine am_aload_n 95 dX11_isPeak_95 rfl ?_
            refine am_getfield 96 dX11_isPeak_96 fX11_9 (by repeat (first | assumption | exact am_ue | refine am_un (by first | assumption | decide | omega) ?_)) rfl ?_
            refine am_iload 99 dX11_isPeak_99 rfl ?_
            refine am_iaload 101 dX11_isPeak_101 rfl (by repeat (first | assumption | exact am_ue | refine am_un (by first | assumption | decide | omega) ?_)) (am_ix hc2 (by decide)) ?_
            refine am_aload_n 102 dX11_isPeak_102 rfl ?_
            refine am_getfield 103 dX11_isPeak_103 fX11_9 (by repeat (first | assumption | exact am_ue | refine am_un (by first | assumption | decide | omega) ?_)) rfl ?_
            refine am_iload_n 106 dX11_isPeak_106 rfl ?_
            refine am_iaload 107 dX11_isPeak_107 rfl (by repeat (first | assumption | exact am_ue | refine am_un (by first | assumption | decide | omega) ?_)) (am_ix hc (by decide)) ?_
            refine am_icmp_ne 108 119 dX11_isPeak_108 rfl (fun c108 => ?_) (fun c108 => ?_)
            · refine am_iinc 119 (v := nI (c / 8) - 1 + nI (j + 1)) dX11_isPeak_119 rfl (by rw [← eb]; exact r_inc) (by decide) ?_
              refine am_goto 122 (tgt := 38) dX11_isPeak_122 rfl ?_
              rw [← ea]
              exact ih2 _ trivial
            · refine am_iload 111 dX11_isPeak_111 rfl ?_
              refine am_iload_n 113 dX11_isPeak_113 rfl ?_
              refine am_icmp_ge 114 119 dX11_isPeak_114 rfl (fun c114 => ?_) (fun c114 => ?_)
              · refine am_iinc 119 (v := nI (c / 8) - 1 + nI (j + 1)) dX11_isPeak_119 rfl (by rw [← eb]; exact r_inc) (by decide) ?_
                refine am_goto 122 (tgt := 38) dX11_isPeak_122 rfl ?_
                rw [← ea]
                exact ih2 _ trivial
              · refine am_iconst 117 (v := 0) dX11_isPeak_117 (by decide) ?_
                refine am_ireturn 118 dX11_isPeak_118 rfl rfl ?_
                exact ⟨false, rfl, rfl, rfl, fun _ => rfl⟩
        · refine am_goto 67 (tgt := 119) dX11_isPeak_67 rfl ?_
          refine am_iinc 119 (v := nI (c / 8) - 1 + nI (j + 1)) dX11_isPeak_119 rfl (by rw [← eb]; exact r_inc) (by decide) ?_
          refine am_goto 122 (tgt := 38) dX11_isPeak_122 rfl ?_
          rw [← ea]
          exact ih2 _ trivial
end View
