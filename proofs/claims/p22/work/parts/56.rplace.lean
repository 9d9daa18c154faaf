/-! ===== the reference: a place, to the letter ===== -/
section RPlace
variable {v u n : Nat} {f : Nat → am_C} {sig : Nat → Int32}
def r_pF (sig : Nat → Int32) (c i j : Nat) : Nat → Nat := fun o => if (c / 8 ≤ o / 8 + 1 ∧ o / 8 ≤ c / 8 + 1 ∧ c % 8 ≤ o % 8 + 1 ∧ o % 8 ≤ c % 8 + 1) ∧ (o % 8 + 1 < c % 8 + i ∨ (o % 8 + 1 = c % 8 + i ∧ o / 8 + 1 < c / 8 + j)) then m_sp sig o else 0
def r_mF (sig : Nat → Int32) (y : Bool) (c i j : Nat) : Nat → Nat := fun o => if (c / 8 ≤ o / 8 + 1 ∧ o / 8 ≤ c / 8 + 1 ∧ c % 8 ≤ o % 8 + 1 ∧ o % 8 ≤ c % 8 + 1) ∧ (o % 8 + 1 < c % 8 + i ∨ (o % 8 + 1 = c % 8 + i ∧ o / 8 + 1 < c / 8 + j)) then 16 * m_sp sig o * (if y then o / 8 else o % 8) else 0
def r_pS (sig : Nat → Int32) (c i j : Nat) : Nat := m_S (r_pF sig c i j) 48
def r_mS (sig : Nat → Int32) (y : Bool) (c i j : Nat) : Nat := m_S (r_mF sig y c i j) 48
theorem r_pS_step {c i j a b : Nat} (xa : a + 1 = c % 8 + i) (xb : b + 1 = c / 8 + j) (ha : a < 8) (hb : b < 6) (hi : i < 3) (hj : j < 3) : r_pS sig c i (j + 1) = r_pS sig c i j + m_sp sig (8 * b + a) := by
  have e1 : (8 * b + a) / 8 = b := by omega
  have e2 : (8 * b + a) % 8 = a := by omega
  have : r_pF sig c i (j + 1) = va_up (r_pF sig c i j) (8 * b + a) (r_pF sig c i j (8 * b + a) + m_sp sig (8 * b + a)) := by
    funext o
    by_cases e : o = 8 * b + a
    · subst e
      rw [am_up_eq]
      unfold r_pF
      rw [e1, e2, if_pos (by omega), if_neg (by omega)]
      omega
    · rw [am_up_ne e]
      unfold r_pF
      exact am_cond (by omega)
  unfold r_pS
  rw [this, m_S_up (by omega)]
theorem r_mS_step {y : Bool} {c i j a b : Nat} (xa : a + 1 = c % 8 + i) (xb : b + 1 = c / 8 + j) (ha : a < 8) (hb : b < 6) (hi : i < 3) (hj : j < 3) : r_mS sig y c i (j + 1) = r_mS sig y c i j + 16 * m_sp sig (8 * b + a) * (if y then b else a) := by
  have e1 : (8 * b + a) / 8 = b := by omega
  have e2 : (8 * b + a) % 8 = a := by omega
  have : r_mF sig y c i (j + 1) = va_up (r_mF sig y c i j) (8 * b + a) (r_mF sig y c i j (8 * b + a) + 16 * m_sp sig (8 * b + a) * (if y then b else a)) := by
    funext o
    by_cases e : o = 8 * b + a
    · subst e
      rw [am_up_eq]
      unfold r_mF
      rw [e1, e2]
      generalize (if y = true then b else a) = t
      rw [if_pos (by omega), if_neg (by omega)]
      exact (Nat.zero_add _).symm
    · rw [am_up_ne e]
      unfold r_mF
      exact am_cond (by omega)
  unfold r_mS
  rw [this, m_S_up (by omega)]
theorem r_S_off {y : Bool} {c i j : Nat} (h : ∀ o, o < 48 → ¬ (o % 8 + 1 = c % 8 + i ∧ o / 8 + 1 = c / 8 + j)) : r_pS sig c i (j + 1) = r_pS sig c i j ∧ r_mS sig y c i (j + 1) = r_mS sig y c i j := by
  refine ⟨m_S_congr fun o ho => ?_, m_S_congr fun o ho => ?_⟩
  · have := h o ho
    unfold r_pF
    exact am_cond (by omega)
  · have := h o ho
    unfold r_mF
    exact am_cond (by omega)
theorem r_S_no {y : Bool} {c i j a b : Nat} (xa : a + 1 = c % 8 + i) (xb : b + 1 = c / 8 + j) (ha : a < 8) (hb : b < 6) (hi : i < 3) (hj : j < 3) (h0 : m_sp sig (8 * b + a) = 0) : r_pS sig c i (j + 1) = r_pS sig c i j ∧ r_mS sig y c i (j + 1) = r_mS sig y c i j := by
  rw [r_pS_step xa xb ha hb hi hj, r_mS_step xa xb ha hb hi hj, h0]
  simp
theorem r_S_col {y : Bool} {c i : Nat} : r_pS sig c i 3 = r_pS sig c (i + 1) 0 ∧ r_mS sig y c i 3 = r_mS sig y c (i + 1) 0 := by
  refine ⟨m_S_congr fun o ho => ?_, m_S_congr fun o ho => ?_⟩
  · unfold r_pF
    exact am_cond (by omega)
  · unfold r_mF
    exact am_cond (by omega)
theorem r_S_0 {y : Bool} {c : Nat} : r_pS sig c 0 0 = 0 ∧ r_mS sig y c 0 0 = 0 := by
  refine ⟨?_, ?_⟩
  · unfold r_pS
    rw [m_S_congr (h := fun _ => 0) fun o ho => by unfold r_pF; rw [if_neg (by omega)], m_S_const]
  · unfold r_mS
    rw [m_S_congr (h := fun _ => 0) fun o ho => by unfold r_mF; rw [if_neg (by omega)], m_S_const]
theorem r_S_end {y : Bool} {c : Nat} : r_pS sig c 3 0 = m_wt sig (c % 8) (c / 8) 6 0 ∧ r_mS sig y c 3 0 = m_mo sig y (c % 8) (c / 8) 6 0 := by
  refine ⟨m_S_congr fun o ho => ?_, m_S_congr fun o ho => ?_⟩
  · unfold r_pF m_wtF
    exact am_cond (by omega)
  · unfold r_mF m_moF
    exact am_cond (by omega)
theorem r_S_le {y : Bool} {c i j : Nat} (hs : ∀ x, x < 48 → (sig x).toInt.natAbs ≤ 300000) : r_pS sig c i j ≤ 48 * 300000 ∧ r_mS sig y c i j ≤ 48 * 33600000 := by
  have hp : ∀ o, o < 48 → m_sp sig o ≤ 300000 := by
    intro o ho
    have := hs o ho
    unfold m_sp
    omega
  refine ⟨Nat.le_trans (m_S_le (h := fun _ => 300000) fun o ho => ?_) (by rw [m_S_const]; decide), Nat.le_trans (m_S_le (h := fun _ => 33600000) fun o ho => ?_) (by rw [m_S_const]; decide)⟩
  · unfold r_pF
    have := hp o ho
    split <;> omega
  · unfold r_mF
    have h1 := hp o ho
    split
    · have h2 : (if y = true then o / 8 else o % 8) ≤ 7 := by split <;> omega
      have h3 := Nat.mul_le_mul (show 16 * m_sp sig o ≤ 4800000 by omega) h2
      omega
    · omega
theorem r_sp_pos {o : Nat} (h : 0 < sig o) : sig o = nI (m_sp sig o) ∧ 0 < m_sp sig o := by
  have h1 := Int32.lt_iff_toInt_lt.mp h
  rw [show (0 : Int32).toInt = 0 from rfl] at h1
  have h2 := (sig o).toInt_lt
  unfold m_sp
  refine ⟨Int32.toInt_inj.mp ?_, by omega⟩
  rw [nI_toInt (by omega)]
  omega
theorem r_sp_0 {o : Nat} (h : ¬ 0 < sig o) : m_sp sig o = 0 := by
  have h1 := Int32.le_iff_toInt_le.mp (Int32.not_lt.mp h)
  rw [show (0 : Int32).toInt = 0 from rfl] at h1
  unfold m_sp
  omega
theorem s_place {c : Nat} {y : Bool} (hW : r_W f v u sig) (hc : c < 48) (h20 : 20 ≤ sig c) (hs : ∀ x, x < 48 → (sig x).toInt.natAbs ≤ 300000) : AM mX11_place 0 0 [.ref v, .int (nI c), .int (m_bi y)] n f (am_is (some (.int (nI (m_placeN sig c y)))) n f) := by
  obtain ⟨pk, h0, h1, h2, h3, h4⟩ := hW
  show AW mX11_place 0 0 0 [some (.ref v), some (.int (nI c)), some (.int (m_bi y)), none, none, none, none] [] n f _
  refine am_iconst 0 (v := 0) dX11_place_0 (by decide) ?_
  refine am_istore_n 1 dX11_place_1 (by decide) ?_
  refine am_iconst 2 (v := 0) dX11_place_2 (by decide) ?_
  refine am_istore 3 dX11_place_3 (by decide) ?_
  refine am_iload_n 5 dX11_place_5 rfl ?_
  refine am_bipush 6 (v := 8) dX11_place_6 (by decide) ?_
  refine am_irem 8 dX11_place_8 (by decide) ?_
  rw [am_rem8 (by omega)]
  refine am_iconst 9 (v := 1) dX11_place_9 (by decide) ?_
  refine am_isub 10 dX11_place_10 ?_
  rw [show nI (c % 8) - 1 = nI (c % 8) - 1 + nI 0 from (Int32.add_zero _).symm]
  refine am_istore 11 dX11_place_11 (by decide) ?_
  have hh := am_for 3 (fun _ (_ : Option Value) => True) (fun i z => AW mX11_place 0 0 13 [some (.ref v), some (.int (nI c)), some (.int (m_bi y)), some (.int (nI (r_mS sig y c i 0))), some (.int (nI (r_pS sig c i 0))), some (.int (nI (c % 8) - 1 + nI i)), z] [] n f (am_is (some (.int (nI (m_placeN sig c y)))) n f)) ?_ ?_ 0 none (by omega) trivial
  · rw [(r_S_0 (y := y)).1, (r_S_0 (y := y)).2] at hh
    exact hh
  · rintro z -
    have hb := r_S_le (y := y) (c := c) (i := 3) (j := 0) hs
    have hp : 0 < r_pS sig c 3 0 := by
      have hps : (0 : Int32) < sig c := Int32.lt_of_lt_of_le (by decide) h20
      refine Nat.lt_of_lt_of_le (r_sp_pos hps).2 ?_
      have := m_S_one (g := r_pF sig c 3 0) hc
      refine Nat.le_trans ?_ this
      unfold r_pF
      rw [if_pos (by omega)]
      exact Nat.le_refl _
    have e : m_placeN sig c y = (r_mS sig y c 3 0 + r_pS sig c 3 0) / (2 * r_pS sig c 3 0) := by
      rw [(r_S_end (y := y)).1, (r_S_end (y := y)).2]
      rw [(r_S_end (y := y)).1] at hp
      unfold m_placeN
      rw [if_pos hp]
    rw [e]
    generalize r_mS sig y c 3 0 = S at hb
    generalize r_pS sig c 3 0 = A at hb hp
    refine am_iload 13 dX11_place_13 rfl ?_
    refine am_iload_n 15 dX11_place_15 rfl ?_
    refine am_bipush 16 (v := 8) dX11_place_16 (by decide) ?_
    refine am_irem 18 dX11_place_18 (by decide) ?_
    rw [am_rem8 (by omega)]
    refine am_iconst 19 (v := 1) dX11_place_19 (by decide) ?_
    refine am_iadd 20 dX11_place_20 ?_
    refine am_icmp_gt 21 130 dX11_place_21 rfl (fun c21 => ?_) (fun c21 => absurd ((r_gt (by omega) (by decide)).mpr (by decide)) c21)
    refine am_iload_n 130 dX11_place_130 rfl ?_
    refine am_iload 131 dX11_place_131 rfl ?_
    refine am_iadd 133 dX11_place_133 ?_
    rw [nI_add]
    refine am_iconst 134 (v := 2) dX11_place_134 (by decide) ?_
    refine am_iload 135 dX11_place_135 rfl ?_
    refine am_imul 137 dX11_place_137 ?_
    rw [show (2 : Int32) = nI 2 from rfl, pk_mul]
    refine am_idiv 138 dX11_place_138 (nI_ne0 (by omega) (by omega)) ?_
    rw [pk_div (by omega) (by omega) (by omega)]
    exact am_ireturn 139 dX11_place_139 rfl rfl ⟨rfl, rfl, rfl⟩
  · rintro i z hi - ih
    refine am_iload 13 dX11_place_13 rfl ?_
    refine am_iload_n 15 dX11_place_15 rfl ?_
    refine am_bipush 16 (v := 8) dX11_place_16 (by decide) ?_
    refine am_irem 18 dX11_place_18 (by decide) ?_
    rw [am_rem8 (by omega)]
    refine am_iconst 19 (v := 1) dX11_place_19 (by decide) ?_
    refine am_iadd 20 dX11_place_20 ?_
    refine am_icmp_gt 21 130 dX11_place_21 rfl (fun c21 => absurd c21 (fun z => by have := (r_gt (by omega) (by omega)).mp z; omega)) (fun c21 => ?_)
    refine am_iload_n 24 dX11_place_24 rfl ?_
    refine am_bipush 25 (v := 8) dX11_place_25 (by decide) ?_
    refine am_idiv 27 dX11_place_27 (by decide) ?_
    rw [am_div8 (by omega)]
    refine am_iconst 28 (v := 1) dX11_place_28 (by decide) ?_
    refine am_isub 29 dX11_place_29 ?_
    rw [show nI (c / 8) - 1 = nI (c / 8) - 1 + nI 0 from (Int32.add_zero _).symm]
    refine am_istore 30 dX11_place_30 (by decide) ?_
    refine am_for 3 (fun _ (_ : Unit) => True) (fun j _ => AW mX11_place 0 0 32 [some (.ref v), some (.int (nI c)), some (.int (m_bi y)), some (.int (nI (r_mS sig y c i j))), some (.int (nI (r_pS sig c i j))), some (.int (nI (c % 8) - 1 + nI i)), some (.int (nI (c / 8) - 1 + nI j))] [] n f _) ?_ ?_ 0 () (by omega) trivial
    · rintro ⟨⟩ -
      rw [(r_S_col (y := y)).1, (r_S_col (y := y)).2]
      refine am_iload 32 dX11_place_32 rfl ?_
      refine am_iload_n 34 dX11_place_34 rfl ?_
      refine am_bipush 35 (v := 8) dX11_place_35 (by decide) ?_
      refine am_idiv 37 dX11_place_37 (by decide) ?_
      rw [am_div8 (by omega)]
      refine am_iconst 38 (v := 1) dX11_place_38 (by decide) ?_
      refine am_iadd 39 dX11_place_39 ?_
      refine am_icmp_gt 40 124 dX11_place_40 rfl (fun c40 => ?_) (fun c40 => absurd ((r_gt (by omega) (by decide)).mpr (by decide)) c40)
      refine am_iinc 124 (v := nI (c % 8) - 1 + nI (i + 1)) dX11_place_124 rfl r_inc (by decide) ?_
      refine am_goto 127 (tgt := 13) dX11_place_127 rfl ?_
      exact ih _ trivial
    · rintro j ⟨⟩ hj - ih2
      have ih2 := ih2 () trivial
      by_cases hb : (nI (c % 8) - 1 + nI i) < 0 ∨ 8 ≤ (nI (c % 8) - 1 + nI i) ∨ (nI (c / 8) - 1 + nI j) < 0 ∨ 6 ≤ (nI (c / 8) - 1 + nI j)
      · have hno : ∀ o, o < 48 → ¬ (o % 8 + 1 = c % 8 + i ∧ o / 8 + 1 = c / 8 + j) := by
          rintro o ho ⟨e1, e2⟩
          rw [(r_xa (by omega) (by omega) (by omega)).mpr e1, (r_xa (by omega) (by omega) (by omega)).mpr e2] at hb
          rcases hb with g | g | g | g
          · exact nI_pos (by omega) g
          · exact nI_ge (a := o % 8) (b := 8) (by omega) (by decide) g
          · exact nI_pos (by omega) g
          · exact nI_ge (a := o / 8) (b := 6) (by omega) (by decide) g
        rw [(r_S_off (y := y) hno).1, (r_S_off (y := y) hno).2] at ih2
        refine am_iload 32 dX11_place_32 rfl ?_
        refine am_iload_n 34 dX11_place_34 rfl ?_
        refine am_bipush 35 (v := 8) dX11_place_35 (by decide) ?_
        refine am_idiv 37 dX11_place_37 (by decide) ?_
        rw [am_div8 (by omega)]
        refine am_iconst 38 (v := 1) dX11_place_38 (by decide) ?_
        refine am_iadd 39 dX11_place_39 ?_
        refine am_icmp_gt 40 124 dX11_place_40 rfl (fun c40 => absurd c40 (fun z => by have := (r_gt (by omega) (by omega)).mp z; omega)) (fun c40 => ?_)
        refine am_iload 43 dX11_place_43 rfl ?_
        refine am_iload 45 dX11_place_45 rfl ?_
        refine am_SN2 47 (mc' := 0) (ms' := 0) (rc := 0) (rs := 0) dX11_place_47 lX11_40 ⟨by decide, by decide⟩ (Nat.le_of_ble_eq_true rfl) (Nat.le_of_ble_eq_true rfl) (s_isGlass_f hb) ?_
        rintro o n' f' ⟨rfl, rfl, rfl⟩
        refine ⟨_, rfl, ?_⟩
        refine am_if_eq 50 118 dX11_place_50 rfl (fun c50 => ?_) (fun c50 => absurd (by decide) c50)
        refine am_iinc 118 (v := nI (c / 8) - 1 + nI (j + 1)) dX11_place_118 rfl r_inc (by decide) ?_
        refine am_goto 121 (tgt := 32) dX11_place_121 rfl ?_
        exact ih2
      · obtain ⟨a, ha, ea⟩ := m_small 8 rfl (by decide) (fun z => hb (Or.inl z)) (fun z => hb (Or.inr (Or.inl z)))
        obtain ⟨b, hb2, eb⟩ := m_small 6 rfl (by decide) (fun z => hb (Or.inr (Or.inr (Or.inl z)))) (fun z => hb (Or.inr (Or.inr (Or.inr z))))
        have xa := (r_xa (by omega) (by omega) (by omega)).mp ea
        have xb := (r_xa (by omega) (by omega) (by omega)).mp eb
        by_cases hp : 0 < sig (8 * b + a)
        · obtain ⟨es, -⟩ := r_sp_pos hp
          rw [r_pS_step xa xb ha hb2 hi hj, r_mS_step xa xb ha hb2 hi hj] at ih2
          cases y
          · refine am_iload 32 dX11_place_32 rfl ?_
            refine am_iload_n 34 dX11_place_34 rfl ?_
            refine am_bipush 35 (v := 8) dX11_place_35 (by decide) ?_
            refine am_idiv 37 dX11_place_37 (by decide) ?_
            rw [am_div8 (by omega)]
            refine am_iconst 38 (v := 1) dX11_place_38 (by decide) ?_
            refine am_iadd 39 dX11_place_39 ?_
            refine am_icmp_gt 40 124 dX11_place_40 rfl (fun c40 => absurd c40 (fun z => by have := (r_gt (by omega) (by omega)).mp z; omega)) (fun c40 => ?_)
            refine am_iload 43 dX11_place_43 rfl ?_
            refine am_iload 45 dX11_place_45 rfl ?_
            rw [ea, eb]
            refine am_SN2 47 (mc' := 0) (ms' := 0) (rc := 0) (rs := 0) dX11_place_47 lX11_40 ⟨by decide, by decide⟩ (Nat.le_of_ble_eq_true rfl) (Nat.le_of_ble_eq_true rfl) (s_isGlass_t ha hb2) ?_
            rintro o n' f' ⟨rfl, rfl, rfl⟩
            refine ⟨_, rfl, ?_⟩
            refine am_if_eq 50 118 dX11_place_50 rfl (fun c50 => absurd c50 (by decide)) (fun c50 => ?_)
            refine am_aload_n 53 dX11_place_53 rfl ?_
            refine am_getfield 54 dX11_place_54 fX11_9 (by repeat (first | assumption | exact am_ue | refine am_un (by first | assumption | decide | omega) ?_)) rfl ?_
            refine am_iload 57 dX11_place_57 rfl ?_
            refine am_iload 59 dX11_place_59 rfl ?_
            refine am_SN2 61 (mc' := 0) (ms' := 0) (rc := 0) (rs := 0) dX11_place_61 lX11_44 ⟨by decide, by decide⟩ (Nat.le_of_ble_eq_true rfl) (Nat.le_of_ble_eq_true rfl) (s_cell) ?_
            rintro o n' f' ⟨rfl, rfl, rfl⟩
            refine ⟨_, rfl, ?_⟩
            refine am_iaload 64 dX11_place_64 rfl (by repeat (first | assumption | exact am_ue | refine am_un (by first | assumption | decide | omega) ?_)) (am_ix (show 8 * b + a < 48 by omega) (by decide)) ?_
            rw [nI_clamp (n := 8 * b + a) (by omega)]
            refine am_if_gt 65 71 dX11_place_65 rfl (fun c65 => ?_) (fun c65 => absurd hp c65)
            refine am_iload_n 71 dX11_place_71 rfl ?_
            refine am_bipush 72 (v := 16) dX11_place_72 (by decide) ?_
            refine am_aload_n 74 dX11_place_74 rfl ?_
            refine am_getfield 75 dX11_place_75 fX11_9 (by repeat (first | assumption | exact am_ue | refine am_un (by first | assumption | decide | omega) ?_)) rfl ?_
            refine am_iload 78 dX11_place_78 rfl ?_
            refine am_iload 80 dX11_place_80 rfl ?_
            refine am_SN2 82 (mc' := 0) (ms' := 0) (rc := 0) (rs := 0) dX11_place_82 lX11_44 ⟨by decide, by decide⟩ (Nat.le_of_ble_eq_true rfl) (Nat.le_of_ble_eq_true rfl) (s_cell) ?_
            rintro o n' f' ⟨rfl, rfl, rfl⟩
            refine ⟨_, rfl, ?_⟩
            refine am_iaload 85 dX11_place_85 rfl (by repeat (first | assumption | exact am_ue | refine am_un (by first | assumption | decide | omega) ?_)) (am_ix (show 8 * b + a < 48 by omega) (by decide)) ?_
            rw [nI_clamp (n := 8 * b + a) (by omega)]
            refine am_imul 86 dX11_place_86 ?_
            rw [es, show (16 : Int32) = nI 16 from rfl, pk_mul]
            refine am_iload_n 87 dX11_place_87 rfl ?_
            refine am_if_eq 88 96 dX11_place_88 rfl (fun c88 => ?_) (fun c88 => absurd rfl c88)
            refine am_iload 96 dX11_place_96 rfl ?_
            refine am_imul 98 dX11_place_98 ?_
            rw [pk_mul]
            refine am_iadd 99 dX11_place_99 ?_
            rw [nI_add]
            refine am_istore_n 100 dX11_place_100 (by decide) ?_
            refine am_iload 101 dX11_place_101 rfl ?_
            refine am_aload_n 103 dX11_place_103 rfl ?_
            refine am_getfield 104 dX11_place_104 fX11_9 (by repeat (first | assumption | exact am_ue | refine am_un (by first | assumption | decide | omega) ?_)) rfl ?_
            refine am_iload 107 dX11_place_107 rfl ?_
            refine am_iload 109 dX11_place_109 rfl ?_
            refine am_SN2 111 (mc' := 0) (ms' := 0) (rc := 0) (rs := 0) dX11_place_111 lX11_44 ⟨by decide, by decide⟩ (Nat.le_of_ble_eq_true rfl) (Nat.le_of_ble_eq_true rfl) (s_cell) ?_
            rintro o n' f' ⟨rfl, rfl, rfl⟩
            refine ⟨_, rfl, ?_⟩
            refine am_iaload 114 dX11_place_114 rfl (by repeat (first | assumption | exact am_ue | refine am_un (by first | assumption | decide | omega) ?_)) (am_ix (show 8 * b + a < 48 by omega) (by decide)) ?_
            rw [nI_clamp (n := 8 * b + a) (by omega)]
            refine am_iadd 115 dX11_place_115 ?_
            rw [es, nI_add]
            refine am_istore 116 dX11_place_116 (by decide) ?_
            refine am_iinc 118 (v := nI (c / 8) - 1 + nI (j + 1)) dX11_place_118 rfl (by rw [← eb]; exact r_inc) (by decide) ?_
            refine am_goto 121 (tgt := 32) dX11_place_121 rfl ?_
            rw [← ea]
            exact ih2
          · refine am_iload 32 dX11_place_32 rfl ?_
            refine am_iload_n 34 dX11_place_34 rfl ?_
            refine am_bipush 35 (v := 8) dX11_place_35 (by decide) ?_
            refine am_idiv 37 dX11_place_37 (by decide) ?_
            rw [am_div8 (by omega)]
            refine am_iconst 38 (v := 1) dX11_place_38 (by decide) ?_
            refine am_iadd 39 dX11_place_39 ?_
            refine am_icmp_gt 40 124 dX11_place_40 rfl (fun c40 => absurd c40 (fun z => by have := (r_gt (by omega) (by omega)).mp z; omega)) (fun c40 => ?_)
            refine am_iload 43 dX11_place_43 rfl ?_
            refine am_iload 45 dX11_place_45 rfl ?_
            rw [ea, eb]
            refine am_SN2 47 (mc' := 0) (ms' := 0) (rc := 0) (rs := 0) dX11_place_47 lX11_40 ⟨by decide, by decide⟩ (Nat.le_of_ble_eq_true rfl) (Nat.le_of_ble_eq_true rfl) (s_isGlass_t ha hb2) ?_
            rintro o n' f' ⟨rfl, rfl, rfl⟩
            refine ⟨_, rfl, ?_⟩
            refine am_if_eq 50 118 dX11_place_50 rfl (fun c50 => absurd c50 (by decide)) (fun c50 => ?_)
            refine am_aload_n 53 dX11_place_53 rfl ?_
            refine am_getfield 54 dX11_place_54 fX11_9 (by repeat (first | assumption | exact am_ue | refine am_un (by first | assumption | decide | omega) ?_)) rfl ?_
            refine am_iload 57 dX11_place_57 rfl ?_
            refine am_iload 59 dX11_place_59 rfl ?_
            refine am_SN2 61 (mc' := 0) (ms' := 0) (rc := 0) (rs := 0) dX11_place_61 lX11_44 ⟨by decide, by decide⟩ (Nat.le_of_ble_eq_true rfl) (Nat.le_of_ble_eq_true rfl) (s_cell) ?_
            rintro o n' f' ⟨rfl, rfl, rfl⟩
            refine ⟨_, rfl, ?_⟩
            refine am_iaload 64 dX11_place_64 rfl (by repeat (first | assumption | exact am_ue | refine am_un (by first | assumption | decide | omega) ?_)) (am_ix (show 8 * b + a < 48 by omega) (by decide)) ?_
            rw [nI_clamp (n := 8 * b + a) (by omega)]
            refine am_if_gt 65 71 dX11_place_65 rfl (fun c65 => ?_) (fun c65 => absurd hp c65)
            refine am_iload_n 71 dX11_place_71 rfl ?_
            refine am_bipush 72 (v := 16) dX11_place_72 (by decide) ?_
            refine am_aload_n 74 dX11_place_74 rfl ?_
            refine am_getfield 75 dX11_place_75 fX11_9 (by repeat (first | assumption | exact am_ue | refine am_un (by first | assumption | decide | omega) ?_)) rfl ?_
            refine am_iload 78 dX11_place_78 rfl ?_
            refine am_iload 80 dX11_place_80 rfl ?_
            refine am_SN2 82 (mc' := 0) (ms' := 0) (rc := 0) (rs := 0) dX11_place_82 lX11_44 ⟨by decide, by decide⟩ (Nat.le_of_ble_eq_true rfl) (Nat.le_of_ble_eq_true rfl) (s_cell) ?_
            rintro o n' f' ⟨rfl, rfl, rfl⟩
            refine ⟨_, rfl, ?_⟩
            refine am_iaload 85 dX11_place_85 rfl (by repeat (first | assumption | exact am_ue | refine am_un (by first | assumption | decide | omega) ?_)) (am_ix (show 8 * b + a < 48 by omega) (by decide)) ?_
            rw [nI_clamp (n := 8 * b + a) (by omega)]
            refine am_imul 86 dX11_place_86 ?_
            rw [es, show (16 : Int32) = nI 16 from rfl, pk_mul]
            refine am_iload_n 87 dX11_place_87 rfl ?_
            refine am_if_eq 88 96 dX11_place_88 rfl (fun c88 => absurd c88 (by decide)) (fun c88 => ?_)
            refine am_iload 91 dX11_place_91 rfl ?_
            refine am_goto 93 (tgt := 98) dX11_place_93 rfl ?_
            refine am_imul 98 dX11_place_98 ?_
            rw [pk_mul]
            refine am_iadd 99 dX11_place_99 ?_
            rw [nI_add]
            refine am_istore_n 100 dX11_place_100 (by decide) ?_
            refine am_iload 101 dX11_place_101 rfl ?_
            refine am_aload_n 103 dX11_place_103 rfl ?_
            refine am_getfield 104 dX11_place_104 fX11_9 (by repeat (first | assumption | exact am_ue | refine am_un (by first | assumption | decide | omega) ?_)) rfl ?_
            refine am_iload 107 dX11_place_107 rfl ?_
            refine am_iload 109 dX11_place_109 rfl ?_
            refine am_SN2 111 (mc' := 0) (ms' := 0) (rc := 0) (rs := 0) dX11_place_111 lX11_44 ⟨by decide, by decide⟩ (Nat.le_of_ble_eq_true rfl) (Nat.le_of_ble_eq_true rfl) (s_cell) ?_
            rintro o n' f' ⟨rfl, rfl, rfl⟩
            refine ⟨_, rfl, ?_⟩
            refine am_iaload 114 dX11_place_114 rfl (by repeat (first | assumption | exact am_ue | refine am_un (by first | assumption | decide | omega) ?_)) (am_ix (show 8 * b + a < 48 by omega) (by decide)) ?_
            rw [nI_clamp (n := 8 * b + a) (by omega)]
            refine am_iadd 115 dX11_place_115 ?_
            rw [es, nI_add]
            refine am_istore 116 dX11_place_116 (by decide) ?_
            refine am_iinc 118 (v := nI (c / 8) - 1 + nI (j + 1)) dX11_place_118 rfl (by rw [← eb]; exact r_inc) (by decide) ?_
            refine am_goto 121 (tgt := 32) dX11_place_121 rfl ?_
            rw [← ea]
            exact ih2
        · have hn := r_S_no (y := y) xa xb ha hb2 hi hj (r_sp_0 hp)
          rw [hn.1, hn.2] at ih2
          refine am_iload 32 dX11_place_32 rfl ?_
          refine am_iload_n 34 dX11_place_34 rfl ?_
          refine am_bipush 35 (v := 8) dX11_place_35 (by decide) ?_
          refine am_idiv 37 dX11_place_37 (by decide) ?_
          rw [am_div8 (by omega)]
          refine am_iconst 38 (v := 1) dX11_place_38 (by decide) ?_
          refine am_iadd 39 dX11_place_39 ?_
          refine am_icmp_gt 40 124 dX11_place_40 rfl (fun c40 => absurd c40 (fun z => by have := (r_gt (by omega) (by omega)).mp z; omega)) (fun c40 => ?_)
          refine am_iload 43 dX11_place_43 rfl ?_
          refine am_iload 45 dX11_place_45 rfl ?_
          rw [ea, eb]
          refine am_SN2 47 (mc' := 0) (ms' := 0) (rc := 0) (rs := 0) dX11_place_47 lX11_40 ⟨by decide, by decide⟩ (Nat.le_of_ble_eq_true rfl) (Nat.le_of_ble_eq_true rfl) (s_isGlass_t ha hb2) ?_
          rintro o n' f' ⟨rfl, rfl, rfl⟩
          refine ⟨_, rfl, ?_⟩
          refine am_if_eq 50 118 dX11_place_50 rfl (fun c50 => absurd c50 (by decide)) (fun c50 => ?_)
          refine am_aload_n 53 dX11_place_53 rfl ?_
          refine am_getfield 54 dX11_place_54 fX11_9 (by repeat (first | assumption | exact am_ue | refine am_un (by first | assumption | decide | omega) ?_)) rfl ?_
          refine am_iload 57 dX11_place_57 rfl ?_
          refine am_iload 59 dX11_place_59 rfl ?_
          refine am_SN2 61 (mc' := 0) (ms' := 0) (rc := 0) (rs := 0) dX11_place_61 lX11_44 ⟨by decide, by decide⟩ (Nat.le_of_ble_eq_true rfl) (Nat.le_of_ble_eq_true rfl) (s_cell) ?_
          rintro o n' f' ⟨rfl, rfl, rfl⟩
          refine ⟨_, rfl, ?_⟩
          refine am_iaload 64 dX11_place_64 rfl (by repeat (first | assumption | exact am_ue | refine am_un (by first | assumption | decide | omega) ?_)) (am_ix (show 8 * b + a < 48 by omega) (by decide)) ?_
          rw [nI_clamp (n := 8 * b + a) (by omega)]
          refine am_if_gt 65 71 dX11_place_65 rfl (fun c65 => absurd c65 hp) (fun c65 => ?_)
          refine am_goto 68 (tgt := 118) dX11_place_68 rfl ?_
          refine am_iinc 118 (v := nI (c / 8) - 1 + nI (j + 1)) dX11_place_118 rfl (by rw [← eb]; exact r_inc) (by decide) ?_
          refine am_goto 121 (tgt := 32) dX11_place_121 rfl ?_
          rw [← ea]
          exact ih2
end RPlace
