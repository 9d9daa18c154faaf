/-! ===== the reference: how it looks, to the letter ===== -/
section View
theorem am_SN2 (pc : Nat) {M N : am_M} {rc rs mc' ms' n ix : Nat} {x1 x2 : Value} {L : List (Option Value)} {st : List Value} {f : Nat → am_C} {P P' : am_P} (hd : decode (am_by M) pc = .ok (.invokestatic ix, 3)) (hc : am_cSN (am_y M).cls ix N 2) (hG2 : am_G2 M N) (hr : (st.map fun v => v.category).sum ≤ 8) (hlen : (lg_sl [x1, x2]).length ≤ am_mL N) (hs : AM N mc' ms' [x1, x2] n f P') (k : ∀ o n' f', P' o n' f' → ∃ v, o = .inl v ∧ AW M rc rs (pc + 3) L (v.toList ++ st) n' f' P) : AW M (mc' + rc) (ms' + rs) pc L (x2 :: x1 :: st) n f P := by
  obtain ⟨h1, ⟨host, h2⟩, h3⟩ := hc
  exact am_invSN (as := [x1, x2]) (host := host) pc hd h1 hG2 h2 h3 rfl hr hlen (AW.mono (fun o n' f' h => by obtain ⟨v, rfl, h2⟩ := k o n' f' h; exact h2) hs)
def r_put (f : Nat → am_C) (v u : Nat) (sig sz pk : Nat → Int32) (mn : Int32) (g w : Nat → Int32) : Nat → am_C := fun x =>
  if x = v then .inr (11, [.ref (u), .ref (u + 1), .ref (u + 2), .int mn]) else if x = u then .inl (0, 48, .inl sig) else if x = u + 1 then .inl (0, 48, .inl sz) else if x = u + 2 then .inl (0, 48, .inl pk)
  else if x = u + 3 then .inl (3, 48, .inl g) else if x = u + 4 then .inl (0, 48, .inl w) else f x
variable {v u n : Nat} {f : Nat → am_C} {sig sz pk g w : Nat → Int32} {mn : Int32}
theorem r_a0 : r_put f v u sig sz pk mn g w v = .inr (11, [.ref (u), .ref (u + 1), .ref (u + 2), .int mn]) := by simp [r_put]
theorem r_a1 (hv : v < u) : r_put f v u sig sz pk mn g w (u) = .inl (0, 48, .inl sig) := by
  unfold r_put
  repeat first | rw [if_pos rfl] | rw [if_neg (by omega)]
theorem r_a2 (hv : v < u) : r_put f v u sig sz pk mn g w (u + 1) = .inl (0, 48, .inl sz) := by
  unfold r_put
  repeat first | rw [if_pos rfl] | rw [if_neg (by omega)]
theorem r_a3 (hv : v < u) : r_put f v u sig sz pk mn g w (u + 2) = .inl (0, 48, .inl pk) := by
  unfold r_put
  repeat first | rw [if_pos rfl] | rw [if_neg (by omega)]
theorem r_a4 (hv : v < u) : r_put f v u sig sz pk mn g w (u + 3) = .inl (3, 48, .inl g) := by
  unfold r_put
  repeat first | rw [if_pos rfl] | rw [if_neg (by omega)]
theorem r_a5 (hv : v < u) : r_put f v u sig sz pk mn g w (u + 4) = .inl (0, 48, .inl w) := by
  unfold r_put
  repeat first | rw [if_pos rfl] | rw [if_neg (by omega)]
theorem r_out {x : Nat} (h : x ≠ v ∧ (x < u ∨ u + 4 < x)) : r_put f v u sig sz pk mn g w x = f x := by
  unfold r_put
  rw [if_neg h.1, if_neg (by omega), if_neg (by omega), if_neg (by omega), if_neg (by omega), if_neg (by omega)]
theorem r_u0 (hv : v < u) {a : Int32} : va_up (r_put f v u sig sz pk mn g w) v (.inr (11, [.ref (u), .ref (u + 1), .ref (u + 2), .int a])) = r_put f v u sig sz pk a g w := by
  funext x; unfold va_up r_put; repeat' split
  all_goals first | rfl | omega
theorem r_u1 (hv : v < u) {a : Nat → Int32} : va_up (r_put f v u sig sz pk mn g w) (u) (.inl (0, 48, .inl a)) = r_put f v u a sz pk mn g w := by
  funext x; unfold va_up r_put; repeat' split
  all_goals first | rfl | omega
theorem r_u2 (hv : v < u) {a : Nat → Int32} : va_up (r_put f v u sig sz pk mn g w) (u + 1) (.inl (0, 48, .inl a)) = r_put f v u sig a pk mn g w := by
  funext x; unfold va_up r_put; repeat' split
  all_goals first | rfl | omega
theorem r_u3 (hv : v < u) {a : Nat → Int32} : va_up (r_put f v u sig sz pk mn g w) (u + 2) (.inl (0, 48, .inl a)) = r_put f v u sig sz a mn g w := by
  funext x; unfold va_up r_put; repeat' split
  all_goals first | rfl | omega
theorem r_u4 (hv : v < u) {a : Nat → Int32} : va_up (r_put f v u sig sz pk mn g w) (u + 3) (.inl (3, 48, .inl a)) = r_put f v u sig sz pk mn a w := by
  funext x; unfold va_up r_put; repeat' split
  all_goals first | rfl | omega
theorem r_u5 (hv : v < u) {a : Nat → Int32} : va_up (r_put f v u sig sz pk mn g w) (u + 4) (.inl (0, 48, .inl a)) = r_put f v u sig sz pk mn g a := by
  funext x; unfold va_up r_put; repeat' split
  all_goals first | rfl | omega
theorem s_vTouched {c : Nat} (h0 : f v = .inr (11, [.ref (u), .ref (u + 1), .ref (u + 2), .int mn])) (h1 : f (u) = .inl (0, 48, .inl sig)) (hc : c < 48) : AM mX11_isTouched 0 0 [.ref v, .int (nI c)] n f (am_is (some (.int (m_tc sig c))) n f) := by
  show AW mX11_isTouched 0 0 0 [some (.ref v), some (.int (nI c))] [] n f _
  refine am_aload_n 0 dX11_isTouched_0 rfl ?_
  refine am_getfield 1 dX11_isTouched_1 fX11_9 (by repeat (first | assumption | exact am_ue | refine am_un (by first | assumption | decide | omega) ?_)) rfl ?_
  refine am_iload_n 4 dX11_isTouched_4 rfl ?_
  refine am_iaload 5 dX11_isTouched_5 rfl (by repeat (first | assumption | exact am_ue | refine am_un (by first | assumption | decide | omega) ?_)) (am_ix hc (by decide)) ?_
  rw [nI_clamp (n := c) (by omega)]
  refine am_bipush 6 (v := 20) dX11_isTouched_6 (by decide) ?_
  refine am_icmp_lt 8 15 dX11_isTouched_8 rfl (fun c8 => ?_) (fun c8 => ?_)
  · refine am_iconst 15 (v := 0) dX11_isTouched_15 (by decide) ?_
    refine am_ireturn 16 dX11_isTouched_16 rfl rfl ?_
    exact ⟨by simp [m_tc, *], rfl, rfl⟩
  · refine am_iconst 11 (v := 1) dX11_isTouched_11 (by decide) ?_
    refine am_goto 12 (tgt := 16) dX11_isTouched_12 rfl ?_
    refine am_ireturn 16 dX11_isTouched_16 rfl rfl ?_
    exact ⟨by simp [m_tc, *], rfl, rfl⟩
def r_sn (reg : Nat → Int32) : Nat → Int32 := fun x => if reg x = 0 then 0 else 1
theorem r_sn0 {reg : Nat → Int32} {c : Nat} (h : reg c = 0) : r_sn reg c = 0 := if_pos h
theorem r_sn1 {reg : Nat → Int32} {c : Nat} (h : reg c ≠ 0) : r_sn reg c ≠ 0 := by
  unfold r_sn
  rw [if_neg h]
  decide
theorem r_sn_up {reg : Nat → Int32} {c : Nat} : r_sn (va_up reg c 1) = va_up (r_sn reg) c 1 := by
  funext x
  unfold r_sn
  by_cases e : x = c
  · subst e
    rw [am_up_eq, am_up_eq]
    rfl
  · rw [am_up_ne e, am_up_ne e]
variable {reg : Nat → Int32} {r : m_R}
theorem r_try_yes {c : Nat} (hQ : q_Q reg r) (hc : c < 48) (ht : 20 ≤ sig c) (h0 : r.1 c = 0) : m_try sig c r = (va_up r.1 c 1, r.2 ++ [c]) := by
  unfold m_try
  rw [if_pos ⟨q_Q_lt hQ hc h0, ht, h0⟩]
theorem r_try_no {c : Nat} (h : ¬ (20 ≤ sig c ∧ r.1 c = 0)) : m_try sig c r = r := by
  unfold m_try
  rw [if_neg fun q => h q.2]
theorem s_spread {x y : Int32} {c : Option Nat} (hv : v < u) (hat : m_at x y c) (hQ : q_Q reg r) (hw : m_chn w r.2) : AM mX11_spread 0 0 [.ref v, .int x, .int y, .ref (u + 3), .ref (u + 4), .int (nI r.2.length)] n (r_put f v u sig sz pk mn (r_sn r.1) w) (fun o n' f' => ∃ w' : Nat → Int32, o = .inl (some (.int (nI (m_tryO sig c r).2.length))) ∧ n' = n ∧ f' = r_put f v u sig sz pk mn (r_sn (m_tryO sig c r).1) w' ∧ m_chn w' (m_tryO sig c r).2) := by
  have hl48 : r.2.length ≤ 48 := by have := hQ.1; omega
  show AW mX11_spread 0 0 0 [some (.ref v), some (.int x), some (.int y), some (.ref (u + 3)), some (.ref (u + 4)), some (.int (nI r.2.length))] [] n _ _
  rcases hat with ⟨a, b, ha, hb2, rfl, rfl, rfl⟩ | ⟨rfl, hb⟩
  · have hc : 8 * b + a < 48 := by omega
    by_cases h0 : r.1 (8 * b + a) = 0
    · by_cases ht : 20 ≤ sig (8 * b + a)
      · rw [show m_tryO sig (some (8 * b + a)) r = (va_up r.1 (8 * b + a) 1, r.2 ++ [8 * b + a]) from r_try_yes hQ hc ht h0]
        have hl := q_Q_lt hQ hc h0
        refine am_iload_n 0 dX11_spread_0 rfl ?_
        refine am_iload_n 1 dX11_spread_1 rfl ?_
        refine am_SN2 2 (mc' := 0) (ms' := 0) (rc := 0) (rs := 0) dX11_spread_2 lX11_40 ⟨by decide, by decide⟩ (Nat.le_of_ble_eq_true rfl) (Nat.le_of_ble_eq_true rfl) (s_isGlass_t ha hb2) ?_
        rintro o n' f' ⟨rfl, rfl, rfl⟩
        refine ⟨_, rfl, ?_⟩
        refine am_if_eq 5 30 dX11_spread_5 rfl (fun c5 => absurd c5 (by decide)) (fun c5 => ?_)
        refine am_aload_n 8 dX11_spread_8 rfl ?_
        refine am_iload_n 9 dX11_spread_9 rfl ?_
        refine am_iload_n 10 dX11_spread_10 rfl ?_
        refine am_SN2 11 (mc' := 0) (ms' := 0) (rc := 0) (rs := 0) dX11_spread_11 lX11_44 ⟨by decide, by decide⟩ (Nat.le_of_ble_eq_true rfl) (Nat.le_of_ble_eq_true rfl) (s_cell) ?_
        rintro o n' f' ⟨rfl, rfl, rfl⟩
        refine ⟨_, rfl, ?_⟩
        refine am_zaload 14 dX11_spread_14 rfl (by first | exact r_a0 | exact (r_a1 hv) | exact (r_a2 hv) | exact (r_a3 hv) | exact (r_a4 hv) | exact (r_a5 hv) | assumption) (am_ix hc (by decide)) ?_
        rw [nI_clamp (n := 8 * b + a) (by omega)]
        refine am_if_ne 15 30 dX11_spread_15 rfl (fun c15 => absurd c15 (fun q => q (r_sn0 h0))) (fun c15 => ?_)
        refine am_aload_n 18 dX11_spread_18 rfl ?_
        refine am_iload_n 19 dX11_spread_19 rfl ?_
        refine am_iload_n 20 dX11_spread_20 rfl ?_
        refine am_SN2 21 (mc' := 0) (ms' := 0) (rc := 0) (rs := 0) dX11_spread_21 lX11_44 ⟨by decide, by decide⟩ (Nat.le_of_ble_eq_true rfl) (Nat.le_of_ble_eq_true rfl) (s_cell) ?_
        rintro o n' f' ⟨rfl, rfl, rfl⟩
        refine ⟨_, rfl, ?_⟩
        refine am_V1 24 (mc' := 0) (ms' := 0) (rc := 0) (rs := 0) dX11_spread_24 lX11_21 ⟨by decide, by decide⟩ r_a0 (Nat.le_of_ble_eq_true rfl) (Nat.le_of_ble_eq_true rfl) (s_vTouched r_a0 (r_a1 hv) hc) ?_
        refine am_is_ct ?_
        refine am_if_ne 27 33 dX11_spread_27 rfl (fun c27 => ?_) (fun c27 => absurd c27 (fun z => m_tc_0.mp z ht))
        refine am_aload_n 33 dX11_spread_33 rfl ?_
        refine am_iload_n 34 dX11_spread_34 rfl ?_
        refine am_iload_n 35 dX11_spread_35 rfl ?_
        refine am_SN2 36 (mc' := 0) (ms' := 0) (rc := 0) (rs := 0) dX11_spread_36 lX11_44 ⟨by decide, by decide⟩ (Nat.le_of_ble_eq_true rfl) (Nat.le_of_ble_eq_true rfl) (s_cell) ?_
        rintro o n' f' ⟨rfl, rfl, rfl⟩
        refine ⟨_, rfl, ?_⟩
        refine am_iconst 39 (v := 1) dX11_spread_39 (by decide) ?_
        refine am_zastore 40 dX11_spread_40 rfl (by first | exact r_a0 | exact (r_a1 hv) | exact (r_a2 hv) | exact (r_a3 hv) | exact (r_a4 hv) | exact (r_a5 hv) | assumption) (am_ix hc (by decide)) ?_
        rw [nI_clamp (n := 8 * b + a) (by omega), show vp_nar .boolean 1 = (1 : Int32) from rfl, r_u4 hv]
        refine am_aload 41 dX11_spread_41 rfl ?_
        refine am_iload 43 dX11_spread_43 rfl ?_
        refine am_iload_n 45 dX11_spread_45 rfl ?_
        refine am_iload_n 46 dX11_spread_46 rfl ?_
        refine am_SN2 47 (mc' := 0) (ms' := 0) (rc := 0) (rs := 0) dX11_spread_47 lX11_44 ⟨by decide, by decide⟩ (Nat.le_of_ble_eq_true rfl) (Nat.le_of_ble_eq_true rfl) (s_cell) ?_
        rintro o n' f' ⟨rfl, rfl, rfl⟩
        refine ⟨_, rfl, ?_⟩
        refine am_iastore 50 dX11_spread_50 rfl (by first | exact r_a0 | exact (r_a1 hv) | exact (r_a2 hv) | exact (r_a3 hv) | exact (r_a4 hv) | exact (r_a5 hv) | assumption) (am_ix hl (by decide)) ?_
        rw [nI_clamp (n := r.2.length) (by omega), r_u5 hv]
        refine am_iload 51 dX11_spread_51 rfl ?_
        refine am_iconst 53 (v := 1) dX11_spread_53 (by decide) ?_
        refine am_iadd 54 dX11_spread_54 ?_
        rw [nI_1]
        refine am_ireturn 55 dX11_spread_55 rfl rfl ?_
        exact ⟨_, by rw [List.length_append]; rfl, rfl, by rw [r_sn_up], m_chn_push hw⟩
      · rw [show m_tryO sig (some (8 * b + a)) r = r from r_try_no fun q => ht q.1]
        refine am_iload_n 0 dX11_spread_0 rfl ?_
        refine am_iload_n 1 dX11_spread_1 rfl ?_
        refine am_SN2 2 (mc' := 0) (ms' := 0) (rc := 0) (rs := 0) dX11_spread_2 lX11_40 ⟨by decide, by decide⟩ (Nat.le_of_ble_eq_true rfl) (Nat.le_of_ble_eq_true rfl) (s_isGlass_t ha hb2) ?_
        rintro o n' f' ⟨rfl, rfl, rfl⟩
        refine ⟨_, rfl, ?_⟩
        refine am_if_eq 5 30 dX11_spread_5 rfl (fun c5 => absurd c5 (by decide)) (fun c5 => ?_)
        refine am_aload_n 8 dX11_spread_8 rfl ?_
        refine am_iload_n 9 dX11_spread_9 rfl ?_
        refine am_iload_n 10 dX11_spread_10 rfl ?_
        refine am_SN2 11 (mc' := 0) (ms' := 0) (rc := 0) (rs := 0) dX11_spread_11 lX11_44 ⟨by decide, by decide⟩ (Nat.le_of_ble_eq_true rfl) (Nat.le_of_ble_eq_true rfl) (s_cell) ?_
        rintro o n' f' ⟨rfl, rfl, rfl⟩
        refine ⟨_, rfl, ?_⟩
        refine am_zaload 14 dX11_spread_14 rfl (by first | exact r_a0 | exact (r_a1 hv) | exact (r_a2 hv) | exact (r_a3 hv) | exact (r_a4 hv) | exact (r_a5 hv) | assumption) (am_ix hc (by decide)) ?_
        rw [nI_clamp (n := 8 * b + a) (by omega)]
        refine am_if_ne 15 30 dX11_spread_15 rfl (fun c15 => absurd c15 (fun q => q (r_sn0 h0))) (fun c15 => ?_)
        refine am_aload_n 18 dX11_spread_18 rfl ?_
        refine am_iload_n 19 dX11_spread_19 rfl ?_
        refine am_iload_n 20 dX11_spread_20 rfl ?_
        refine am_SN2 21 (mc' := 0) (ms' := 0) (rc := 0) (rs := 0) dX11_spread_21 lX11_44 ⟨by decide, by decide⟩ (Nat.le_of_ble_eq_true rfl) (Nat.le_of_ble_eq_true rfl) (s_cell) ?_
        rintro o n' f' ⟨rfl, rfl, rfl⟩
        refine ⟨_, rfl, ?_⟩
        refine am_V1 24 (mc' := 0) (ms' := 0) (rc := 0) (rs := 0) dX11_spread_24 lX11_21 ⟨by decide, by decide⟩ r_a0 (Nat.le_of_ble_eq_true rfl) (Nat.le_of_ble_eq_true rfl) (s_vTouched r_a0 (r_a1 hv) hc) ?_
        refine am_is_ct ?_
        refine am_if_ne 27 33 dX11_spread_27 rfl (fun c27 => absurd c27 (fun z => z (m_tc_0.mpr ht))) (fun c27 => ?_)
        refine am_iload 30 dX11_spread_30 rfl ?_
        refine am_ireturn 32 dX11_spread_32 rfl rfl ?_
        exact ⟨w, rfl, rfl, rfl, hw⟩
    · rw [show m_tryO sig (some (8 * b + a)) r = r from r_try_no fun q => h0 q.2]
      refine am_iload_n 0 dX11_spread_0 rfl ?_
      refine am_iload_n 1 dX11_spread_1 rfl ?_
      refine am_SN2 2 (mc' := 0) (ms' := 0) (rc := 0) (rs := 0) dX11_spread_2 lX11_40 ⟨by decide, by decide⟩ (Nat.le_of_ble_eq_true rfl) (Nat.le_of_ble_eq_true rfl) (s_isGlass_t ha hb2) ?_
      rintro o n' f' ⟨rfl, rfl, rfl⟩
      refine ⟨_, rfl, ?_⟩
      refine am_if_eq 5 30 dX11_spread_5 rfl (fun c5 => absurd c5 (by decide)) (fun c5 => ?_)
      refine am_aload_n 8 dX11_spread_8 rfl ?_
      refine am_iload_n 9 dX11_spread_9 rfl ?_
      refine am_iload_n 10 dX11_spread_10 rfl ?_
      refine am_SN2 11 (mc' := 0) (ms' := 0) (rc := 0) (rs := 0) dX11_spread_11 lX11_44 ⟨by decide, by decide⟩ (Nat.le_of_ble_eq_true rfl) (Nat.le_of_ble_eq_true rfl) (s_cell) ?_
      rintro o n' f' ⟨rfl, rfl, rfl⟩
      refine ⟨_, rfl, ?_⟩
      refine am_zaload 14 dX11_spread_14 rfl (by first | exact r_a0 | exact (r_a1 hv) | exact (r_a2 hv) | exact (r_a3 hv) | exact (r_a4 hv) | exact (r_a5 hv) | assumption) (am_ix hc (by decide)) ?_
      rw [nI_clamp (n := 8 * b + a) (by omega)]
      refine am_if_ne 15 30 dX11_spread_15 rfl (fun c15 => ?_) (fun c15 => absurd c15 (r_sn1 h0))
      refine am_iload 30 dX11_spread_30 rfl ?_
      refine am_ireturn 32 dX11_spread_32 rfl rfl ?_
      exact ⟨w, rfl, rfl, rfl, hw⟩
  · refine am_iload_n 0 dX11_spread_0 rfl ?_
    refine am_iload_n 1 dX11_spread_1 rfl ?_
    refine am_SN2 2 (mc' := 0) (ms' := 0) (rc := 0) (rs := 0) dX11_spread_2 lX11_40 ⟨by decide, by decide⟩ (Nat.le_of_ble_eq_true rfl) (Nat.le_of_ble_eq_true rfl) (s_isGlass_f hb) ?_
    rintro o n' f' ⟨rfl, rfl, rfl⟩
    refine ⟨_, rfl, ?_⟩
    refine am_if_eq 5 30 dX11_spread_5 rfl (fun c5 => ?_) (fun c5 => absurd (by decide) c5)
    refine am_iload 30 dX11_spread_30 rfl ?_
    refine am_ireturn 32 dX11_spread_32 rfl rfl ?_
    exact ⟨w, rfl, rfl, rfl, hw⟩
theorem r_bfs_end : ∀ (d k : Nat) {r : m_R}, r.2.length ≤ k → m_bfs sig d k r = r
  | 0, _, _, _ => rfl
  | d + 1, k, r, h => by
    unfold m_bfs
    rw [if_neg (by omega)]
theorem r_bfs_step {k : Nat} (hk : k < 48) (h : k < r.2.length) : m_bfs sig (48 - k) k r = m_bfs sig (48 - (k + 1)) (k + 1) (m_exp sig (r.2.getD k 0) r) := by
  obtain ⟨d, hd⟩ : ∃ d, 48 - k = d + 1 := ⟨48 - k - 1, by omega⟩
  rw [hd, show 48 - (k + 1) = d by omega]
  show (if k < r.2.length then _ else r) = _
  rw [if_pos h]
theorem r_Q0 {reg : Nat → Int32} : q_Q reg ((reg, []) : m_R) := by
  refine ⟨?_, fun x hx => by simp at hx, fun x _ => rfl⟩
  show 0 + m_S (fun x => if reg x = 0 then 1 else 0) 48 ≤ 48
  have := m_S_le (N := 48) (g := fun x => if reg x = 0 then 1 else 0) (h := fun _ => 1) (fun j _ => by show (if reg j = 0 then 1 else 0) ≤ 1; split <;> omega)
  rw [m_S_const] at this
  omega
theorem r_Q_bfs : ∀ (d k : Nat) {r : m_R}, q_Q reg r → q_Q reg (m_bfs sig d k r)
  | 0, _, _, h => h
  | d + 1, k, r, h => by
    unfold m_bfs
    split
    · rename_i q
      have hm : r.2.getD k 0 ∈ r.2 := by
        rw [List.getD_eq_getElem?_getD, List.getElem?_eq_getElem q]
        exact List.getElem_mem q
      exact r_Q_bfs d (k + 1) (q_Q_exp (sig := sig) h (h.2.1 _ hm).1).1
    · exact h
theorem r_mem {k : Nat} {q : List Nat} (h : k < q.length) : q.getD k 0 ∈ q := by
  rw [List.getD_eq_getElem?_getD, List.getElem?_eq_getElem h]
  exact List.getElem_mem h
theorem s_vregion {c : Nat} (hv : v < u) (hc : c < 48) (ht : 20 ≤ sig c) (h0 : reg c = 0) : AM mX11_region 0 0 [.ref v, .int (nI c), .ref (u + 3), .ref (u + 4)] n (r_put f v u sig reg pk mn (r_sn reg) w) (fun o n' f' => ∃ w' : Nat → Int32, o = .inl none ∧ n' = n ∧ f' = r_put f v u sig (m_region sig c reg) pk mn (r_sn (m_region sig c reg)) w') := by
  show AW mX11_region 0 0 0 [some (.ref v), some (.int (nI c)), some (.ref (u + 3)), some (.ref (u + 4)), none, none, none, none] [] n _ _
  have hQ1 : q_Q reg (m_try sig c (reg, [])) := q_Q_try r_Q0 hc
  have e0 : m_try sig c (reg, []) = (va_up reg c 1, [c]) := r_try_yes (r := (reg, [])) r_Q0 hc ht h0
  generalize hR : m_bfs sig 48 0 (m_try sig c (reg, [])) = R
  have hQR : q_Q reg R := by rw [← hR]; exact r_Q_bfs 48 0 hQ1
  have hRl : R.2.length ≤ 48 := by have := hQR.1; omega
  have hRp : ∀ x, x ∈ R.2 → nI R.2.length ≠ 0 := by
    intro x hx
    have : 0 < R.2.length := List.length_pos_of_mem hx
    exact nI_ne0 (by omega) (by omega)
  have eR : m_region sig c reg = fun x => if x ∈ R.2 then nI R.2.length else reg x := by
    funext x
    unfold m_region
    rw [hR]
    by_cases q : x ∈ R.2
    · rw [if_pos q, if_pos q]
    · rw [if_neg q, if_neg q]
      exact hQR.2.2 x q
  have key : ∀ x, m_region sig c reg x = 0 ↔ R.1 x = 0 := by
    intro x
    rw [congrFun eR x]
    show (if x ∈ R.2 then nI R.2.length else reg x) = 0 ↔ _
    by_cases q : x ∈ R.2
    · rw [if_pos q]
      exact ⟨fun z => absurd z (hRp x q), fun z => absurd z (hQR.2.1 x q).2.1⟩
    · rw [if_neg q, hQR.2.2 x q]
  have eS : r_sn (m_region sig c reg) = r_sn R.1 := by
    funext x
    unfold r_sn
    exact am_cond (key x)
  rw [eS, eR]
  have hend : ∀ (w' : Nat → Int32) (z1 z2 z3 : Option Value), m_chn w' R.2 → AW mX11_region 0 0 109 [some (.ref v), some (.int (nI c)), some (.ref (u + 3)), some (.ref (u + 4)), some (.int (nI R.2.length)), z1, z2, z3] [] n (r_put f v u sig reg pk mn (r_sn R.1) w') (fun o n' f' => ∃ w' : Nat → Int32, o = .inl none ∧ n' = n ∧ f' = r_put f v u sig (fun x => if x ∈ R.2 then nI R.2.length else reg x) pk mn (r_sn R.1) w') := by
    intro w' z1 z2 z3 hw
    refine am_iconst 109 (v := 0) dX11_region_109 (by decide) ?_
    refine am_istore 110 dX11_region_110 (by decide) ?_
    refine am_for R.2.length (fun k (s' : Nat → Int32) => ∀ x, s' x = if x ∈ R.2.take k then nI R.2.length else reg x) (fun k s' => AW mX11_region 0 0 112 [some (.ref v), some (.int (nI c)), some (.ref (u + 3)), some (.ref (u + 4)), some (.int (nI R.2.length)), some (.int (nI k)), z2, z3] [] n (r_put f v u sig s' pk mn (r_sn R.1) w') _) ?_ ?_ 0 _ (by omega) (fun x => by simp)
    · intro s' hs
      have es : s' = fun x => if x ∈ R.2 then nI R.2.length else reg x := by
        funext x
        rw [hs x, List.take_length]
      subst es
      refine am_iload 112 dX11_region_112 rfl ?_
      refine am_iload 114 dX11_region_114 rfl ?_
      refine am_icmp_ge 116 136 dX11_region_116 rfl (fun c116 => ?_) (fun c116 => absurd (Int32.le_refl _) c116)
      refine am_return 136 dX11_region_136 rfl ?_
      exact ⟨_, rfl, rfl, rfl⟩
    · intro k s' hk hs ih
      have hd : R.2.getD k 0 < 48 := (hQR.2.1 _ (r_mem hk)).1
      refine am_iload 112 dX11_region_112 rfl ?_
      refine am_iload 114 dX11_region_114 rfl ?_
      refine am_icmp_ge 116 136 dX11_region_116 rfl (fun c116 => absurd c116 (nI_ge hk (by omega))) (fun c116 => ?_)
      refine am_aload_n 119 dX11_region_119 rfl ?_
      refine am_getfield 120 dX11_region_120 fX11_15 (by first | exact r_a0 | exact (r_a1 hv) | exact (r_a2 hv) | exact (r_a3 hv) | exact (r_a4 hv) | exact (r_a5 hv) | assumption) rfl ?_
      refine am_aload_n 123 dX11_region_123 rfl ?_
      refine am_iload 124 dX11_region_124 rfl ?_
      refine am_iaload 126 dX11_region_126 rfl (by first | exact r_a0 | exact (r_a1 hv) | exact (r_a2 hv) | exact (r_a3 hv) | exact (r_a4 hv) | exact (r_a5 hv) | assumption) (am_ix (by omega) (by decide)) ?_
      rw [nI_clamp (n := k) (by omega), hw k hk]
      refine am_iload 127 dX11_region_127 rfl ?_
      refine am_iastore 129 dX11_region_129 rfl (by first | exact r_a0 | exact (r_a1 hv) | exact (r_a2 hv) | exact (r_a3 hv) | exact (r_a4 hv) | exact (r_a5 hv) | assumption) (am_ix hd (by decide)) ?_
      rw [nI_clamp (n := R.2.getD k 0) (by omega), r_u2 hv]
      refine am_iinc 130 (v := nI (k + 1)) dX11_region_130 rfl (nI_1 (k)) (by decide) ?_
      refine am_goto 133 (tgt := 112) dX11_region_133 rfl ?_
      refine ih _ (fun x => ?_)
      by_cases e : x = R.2.getD k 0
      · subst e
        rw [am_up_eq, if_pos ((m_take_in hk).mpr (Or.inr rfl))]
      · rw [am_up_ne e, hs x]
        exact am_cond ⟨fun q => (m_take_in hk).mpr (Or.inl q), fun q => ((m_take_in hk).mp q).elim id (fun q => absurd q e)⟩
  refine am_iconst 0 (v := 1) dX11_region_0 (by decide) ?_
  refine am_istore 1 dX11_region_1 (by decide) ?_
  refine am_aload_n 3 dX11_region_3 rfl ?_
  refine am_iconst 4 (v := 0) dX11_region_4 (by decide) ?_
  refine am_iload_n 5 dX11_region_5 rfl ?_
  refine am_iastore 6 dX11_region_6 rfl (by first | exact r_a0 | exact (r_a1 hv) | exact (r_a2 hv) | exact (r_a3 hv) | exact (r_a4 hv) | exact (r_a5 hv) | assumption) (am_ix (c := 0) (by decide) (by decide)) ?_
  rw [r_u5 hv, show (0 : Int32).toNatClampNeg = 0 from rfl]
  refine am_aload_n 7 dX11_region_7 rfl ?_
  refine am_iload_n 8 dX11_region_8 rfl ?_
  refine am_iconst 9 (v := 1) dX11_region_9 (by decide) ?_
  refine am_zastore 10 dX11_region_10 rfl (by first | exact r_a0 | exact (r_a1 hv) | exact (r_a2 hv) | exact (r_a3 hv) | exact (r_a4 hv) | exact (r_a5 hv) | assumption) (am_ix hc (by decide)) ?_
  rw [nI_clamp (n := c) (by omega), show vp_nar .boolean 1 = (1 : Int32) from rfl, r_u4 hv, ← r_sn_up]
  refine am_iconst 11 (v := 0) dX11_region_11 (by decide) ?_
  refine am_istore 12 dX11_region_12 (by decide) ?_
  refine am_for 48 (fun k (z : (m_R × (Nat → Int32)) × Option Value × Option Value) => q_Q reg z.1.1 ∧ m_chn z.1.2 z.1.1.2 ∧ k ≤ z.1.1.2.length ∧ m_bfs sig (48 - k) k z.1.1 = R) (fun k z => AW mX11_region 0 0 14 [some (.ref v), some (.int (nI c)), some (.ref (u + 3)), some (.ref (u + 4)), some (.int (nI z.1.1.2.length)), some (.int (nI k)), z.2.1, z.2.2] [] n (r_put f v u sig reg pk mn (r_sn z.1.1.1) z.1.2) _) ?_ ?_ 0 (((va_up reg c 1, [c]), va_up w 0 (nI c)), none, none) (by omega) ⟨e0 ▸ hQ1, fun j hj => ?_, Nat.zero_le _, e0 ▸ hR⟩
  · rintro ⟨⟨r, w'⟩, z2, z3⟩ ⟨hQ, hw, hl, hb⟩
    have hQ : q_Q reg r := hQ
    have hw : m_chn w' r.2 := hw
    have hl48 : r.2.length ≤ 48 := by have := hQ.1; omega
    obtain rfl : r = R := hb
    show AW mX11_region 0 0 14 [some (.ref v), some (.int (nI c)), some (.ref (u + 3)), some (.ref (u + 4)), some (.int (nI r.2.length)), some (.int (nI 48)), z2, z3] [] n (r_put f v u sig reg pk mn (r_sn r.1) w') _
    refine am_iload 14 dX11_region_14 rfl ?_
    refine am_iload 16 dX11_region_16 rfl ?_
    refine am_icmp_ge 18 109 dX11_region_18 rfl (fun c18 => ?_) (fun c18 => absurd ((nI_leI (by omega) (by decide)).mpr hl48) c18)
    exact hend _ _ _ _ hw
  · rintro k ⟨⟨r, w'⟩, z2, z3⟩ hk ⟨hQ, hw, hl, hb⟩ ih
    have hQ : q_Q reg r := hQ
    have hw : m_chn w' r.2 := hw
    have hb : m_bfs sig (48 - k) k r = R := hb
    have hl48 : r.2.length ≤ 48 := by have := hQ.1; omega
    show AW mX11_region 0 0 14 [some (.ref v), some (.int (nI c)), some (.ref (u + 3)), some (.ref (u + 4)), some (.int (nI r.2.length)), some (.int (nI k)), z2, z3] [] n (r_put f v u sig reg pk mn (r_sn r.1) w') _
    by_cases hkl : k < r.2.length
    · have hd := (hQ.2.1 _ (r_mem hkl)).1
      have hst := (r_bfs_step (sig := sig) hk hkl).symm.trans hb
      have hwk := hw k hkl
      have hlen := (q_exp_len (sig := sig) (r := r) (c := r.2.getD k 0)).1
      generalize r.2.getD k 0 = d at hd hst hwk hlen
      unfold m_exp at hst hlen
      refine am_iload 14 dX11_region_14 rfl ?_
      refine am_iload 16 dX11_region_16 rfl ?_
      refine am_icmp_ge 18 109 dX11_region_18 rfl (fun c18 => absurd c18 (nI_ge hkl (by omega))) (fun c18 => ?_)
      refine am_aload_n 21 dX11_region_21 rfl ?_
      refine am_iload 22 dX11_region_22 rfl ?_
      refine am_iaload 24 dX11_region_24 rfl (by first | exact r_a0 | exact (r_a1 hv) | exact (r_a2 hv) | exact (r_a3 hv) | exact (r_a4 hv) | exact (r_a5 hv) | assumption) (am_ix hk (by decide)) ?_
      rw [nI_clamp (n := k) (by omega), hwk]
      refine am_bipush 25 (v := 8) dX11_region_25 (by decide) ?_
      refine am_irem 27 dX11_region_27 (by decide) ?_
      rw [am_rem8 (by omega)]
      refine am_istore 28 dX11_region_28 (by decide) ?_
      refine am_aload_n 30 dX11_region_30 rfl ?_
      refine am_iload 31 dX11_region_31 rfl ?_
      refine am_iaload 33 dX11_region_33 rfl (by first | exact r_a0 | exact (r_a1 hv) | exact (r_a2 hv) | exact (r_a3 hv) | exact (r_a4 hv) | exact (r_a5 hv) | assumption) (am_ix hk (by decide)) ?_
      rw [nI_clamp (n := k) (by omega), hwk]
      refine am_bipush 34 (v := 8) dX11_region_34 (by decide) ?_
      refine am_idiv 36 dX11_region_36 (by decide) ?_
      rw [am_div8 (by omega)]
      refine am_istore 37 dX11_region_37 (by decide) ?_
      refine am_aload_n 39 dX11_region_39 rfl ?_
      refine am_iload 40 dX11_region_40 rfl ?_
      refine am_iconst 42 (v := 1) dX11_region_42 (by decide) ?_
      refine am_isub 43 dX11_region_43 ?_
      refine am_iload 44 dX11_region_44 rfl ?_
      refine am_aload_n 46 dX11_region_46 rfl ?_
      refine am_aload_n 47 dX11_region_47 rfl ?_
      refine am_iload 48 dX11_region_48 rfl ?_
      refine am_V5 50 (mc' := 0) (ms' := 0) (rc := 0) (rs := 0) dX11_region_50 lX11_36 ⟨by decide, by decide⟩ r_a0 (Nat.le_of_ble_eq_true rfl) (Nat.le_of_ble_eq_true rfl) (s_spread hv (m_at_left hd) hQ hw) ?_
      rintro o n' f' ⟨w1, rfl, rfl, rfl, hw1⟩
      have hA1 := q_Q_tryO (sig := sig) (c := m_left d) hQ (fun _ q => m_left_lt hd q)
      generalize hr1 : m_tryO sig (m_left d) r = r1 at hst hlen hw1 hA1 ⊢
      refine am_ctI ?_
      refine am_istore 53 dX11_region_53 (by decide) ?_
      refine am_aload_n 55 dX11_region_55 rfl ?_
      refine am_iload 56 dX11_region_56 rfl ?_
      refine am_iconst 58 (v := 1) dX11_region_58 (by decide) ?_
      refine am_iadd 59 dX11_region_59 ?_
      refine am_iload 60 dX11_region_60 rfl ?_
      refine am_aload_n 62 dX11_region_62 rfl ?_
      refine am_aload_n 63 dX11_region_63 rfl ?_
      refine am_iload 64 dX11_region_64 rfl ?_
      refine am_V5 66 (mc' := 0) (ms' := 0) (rc := 0) (rs := 0) dX11_region_66 lX11_36 ⟨by decide, by decide⟩ r_a0 (Nat.le_of_ble_eq_true rfl) (Nat.le_of_ble_eq_true rfl) (s_spread hv (m_at_right hd) hA1 hw1) ?_
      rintro o n' f' ⟨w2, rfl, rfl, rfl, hw2⟩
      have hA2 := q_Q_tryO (sig := sig) (c := m_right d) hA1 (fun _ q => m_right_lt hd q)
      generalize hr2 : m_tryO sig (m_right d) r1 = r2 at hst hlen hw2 hA2 ⊢
      refine am_ctI ?_
      refine am_istore 69 dX11_region_69 (by decide) ?_
      refine am_aload_n 71 dX11_region_71 rfl ?_
      refine am_iload 72 dX11_region_72 rfl ?_
      refine am_iload 74 dX11_region_74 rfl ?_
      refine am_iconst 76 (v := 1) dX11_region_76 (by decide) ?_
      refine am_isub 77 dX11_region_77 ?_
      refine am_aload_n 78 dX11_region_78 rfl ?_
      refine am_aload_n 79 dX11_region_79 rfl ?_
      refine am_iload 80 dX11_region_80 rfl ?_
      refine am_V5 82 (mc' := 0) (ms' := 0) (rc := 0) (rs := 0) dX11_region_82 lX11_36 ⟨by decide, by decide⟩ r_a0 (Nat.le_of_ble_eq_true rfl) (Nat.le_of_ble_eq_true rfl) (s_spread hv (m_at_up hd) hA2 hw2) ?_
      rintro o n' f' ⟨w3, rfl, rfl, rfl, hw3⟩
      have hA3 := q_Q_tryO (sig := sig) (c := m_up d) hA2 (fun _ q => m_up_lt hd q)
      generalize hr3 : m_tryO sig (m_up d) r2 = r3 at hst hlen hw3 hA3 ⊢
      refine am_ctI ?_
      refine am_istore 85 dX11_region_85 (by decide) ?_
      refine am_aload_n 87 dX11_region_87 rfl ?_
      refine am_iload 88 dX11_region_88 rfl ?_
      refine am_iload 90 dX11_region_90 rfl ?_
      refine am_iconst 92 (v := 1) dX11_region_92 (by decide) ?_
      refine am_iadd 93 dX11_region_93 ?_
      refine am_aload_n 94 dX11_region_94 rfl ?_
      refine am_aload_n 95 dX11_region_95 rfl ?_
      refine am_iload 96 dX11_region_96 rfl ?_
      refine am_V5 98 (mc' := 0) (ms' := 0) (rc := 0) (rs := 0) dX11_region_98 lX11_36 ⟨by decide, by decide⟩ r_a0 (Nat.le_of_ble_eq_true rfl) (Nat.le_of_ble_eq_true rfl) (s_spread hv (m_at_down hd) hA3 hw3) ?_
      rintro o n' f' ⟨w4, rfl, rfl, rfl, hw4⟩
      have hA4 := q_Q_tryO (sig := sig) (c := m_down d) hA3 (fun _ q => m_down_lt hd q)
      generalize hr4 : m_tryO sig (m_down d) r3 = r4 at hst hlen hw4 hA4 ⊢
      refine am_ctI ?_
      refine am_istore 101 dX11_region_101 (by decide) ?_
      refine am_iinc 103 (v := nI (k + 1)) dX11_region_103 rfl (nI_1 (k)) (by decide) ?_
      refine am_goto 106 (tgt := 14) dX11_region_106 rfl ?_
      exact ih ((r4, w4), _, _) ⟨hA4, hw4, by show k + 1 ≤ r4.2.length; omega, hst⟩
    · rw [r_bfs_end _ _ (by omega)] at hb
      subst hb
      refine am_iload 14 dX11_region_14 rfl ?_
      refine am_iload 16 dX11_region_16 rfl ?_
      refine am_icmp_ge 18 109 dX11_region_18 rfl (fun c18 => ?_) (fun c18 => absurd ((nI_leI (by omega) (by omega)).mpr (by omega)) c18)
      exact hend _ _ _ _ hw
  · have : j = 0 := by simp at hj; omega
    subst this
    exact (am_up_eq : va_up w 0 (nI c) 0 = nI c)
end View
