/-! ===== the glass in any state: what it holds, what is asked of it ===== -/
/-- waits, bases, heat; contacts; began, lifted, cancelled; areas told, their sides, their counts; dial, limit, taken, thrown -/
abbrev m_Z : Type := ((Nat → Int32) × (Nat → Int32) × Int32) × (Nat → m_K) × (Nat × Nat × Nat) × (Nat × (Nat → Nat → Int32) × (Nat → Nat → Nat)) × (Nat × Int32 × Int32 × Int32)
abbrev z_w (z : m_Z) := z.1.1
abbrev z_b (z : m_Z) := z.1.2.1
abbrev z_h (z : m_Z) := z.1.2.2
abbrev z_K (z : m_Z) := z.2.1
abbrev z_be (z : m_Z) := z.2.2.1.1
abbrev z_li (z : m_Z) := z.2.2.1.2.1
abbrev z_ca (z : m_Z) := z.2.2.1.2.2
abbrev z_to (z : m_Z) := z.2.2.2.1.1
abbrev z_A (z : m_Z) := z.2.2.2.1.2.1
abbrev z_C (z : m_Z) := z.2.2.2.1.2.2
abbrev z_d (z : m_Z) := z.2.2.2.2.1
abbrev z_lim (z : m_Z) := z.2.2.2.2.2.1
abbrev z_ta (z : m_Z) := z.2.2.2.2.2.2.1
abbrev z_th (z : m_Z) := z.2.2.2.2.2.2.2
def m_sg (z : m_Z) : Nat → Int32 := fun k => z_h z + z_w z k - z_b z k
/-- what is tried out: a sheet, a picture, the pairing -/
def m_Tr (f : Nat → am_C) (p : Nat) : Prop := (∃ w b h, m_Sh f (p + 11) w b h) ∧ (∃ sig reg pc px py chn pk hm, m_Pic f (p + 14) sig reg pc px py chn pk hm) ∧ ∃ le we be, m_Pr f (p + 21) le we be
def m_pF (p : Nat) (d : Nat) (lim ta th : Int32) : List Value := [.ref (p + 1), .ref (p + 4), .ref (p + 11), .ref (p + 14), .ref (p + 21), .ref (p + 24), .ref (p + 34), .int (nI d), .int lim, .int ta, .int th]
def m_G (f : Nat → am_C) (p T : Nat) (z : m_Z) : Prop :=
  f p = .inr (7, m_pF p (z_d z) (z_lim z) (z_ta z) (z_th z)) ∧ m_Sh f (p + 1) (z_w z) (z_b z) (z_h z) ∧ m_Look f (p + 4) (m_sg z) ∧ m_Tr f p ∧ m_As f (p + 24) (z_to z) (z_A z) (z_C z) ∧ m_Ha f (p + 34) (p + 24) (z_K z) (z_be z) (z_li z) (z_ca z) ∧ m_Inv (z_to z) T (z_K z) (z_be z) (z_li z) (z_ca z) (z_C z) ∧ (1 ≤ z_d z ∧ z_d z ≤ 4 ∧ z_be z ≤ 48 * T ∧ -30 ≤ z_h z ∧ z_h z ≤ 30)
theorem m_Tr.on {f f' : Nat → am_C} {p : Nat} (h : m_Tr f p) (e : ∀ x, p + 11 ≤ x → x ≤ p + 23 → f' x = f x) : m_Tr f' p := by
  obtain ⟨⟨w, b, h, h1⟩, ⟨sig, reg, pc, px, py, chn, pk, hm, h2⟩, le, we, be, h3⟩ := h
  exact ⟨⟨w, b, h, h1.on fun x a b => e x (by omega) (by omega)⟩, ⟨sig, reg, pc, px, py, chn, pk, hm, h2.on fun x a b => e x (by omega) (by omega)⟩, le, we, be, h3.on fun x a b => e x (by omega) (by omega)⟩
theorem m_G.on {f f' : Nat → am_C} {p T : Nat} {z : m_Z} (h : m_G f p T z) (e : ∀ x, p ≤ x → x ≤ p + 45 → f' x = f x) : m_G f' p T z := by
  obtain ⟨h0, h1, h2, h3, h4, h5, h6, h7⟩ := h
  exact ⟨(e _ (by omega) (by omega)).trans h0, h1.on fun x a b => e x (by omega) (by omega), h2.on fun x a b => e x (by omega) (by omega), h3.on fun x a b => e x (by omega) (by omega), h4.on fun x a b => e x (by omega) (by omega), h5.on fun x a b => e x (by omega) (by omega), h6, h7⟩
/-- only what is tried out has changed -/
theorem m_G.try {f f' : Nat → am_C} {p T : Nat} {z : m_Z} (h : m_G f p T z) (e : ∀ x, (x < p + 11 ∨ p + 23 < x) → f' x = f x) (ht : m_Tr f' p) : m_G f' p T z := by
  obtain ⟨h0, h1, h2, h3, h4, h5, h6, h7⟩ := h
  exact ⟨(e _ (by omega)).trans h0, h1.on fun x a b => e x (by omega), h2.on fun x a b => e x (by omega), ht, h4.on fun x a b => e x (by omega), h5.on fun x a b => e x (by omega), h6, h7⟩
/-- a call that answers v and changes nothing but what is tried out -/
def m_ask (p T : Nat) (z : m_Z) (n : Nat) (f : Nat → am_C) (v : Value) : am_P := fun o n' f' => o = .inl (some v) ∧ n' = n ∧ m_G f' p T z ∧ ∀ x, (x < p ∨ p + 45 < x) → f' x = f x
theorem am_ctO {M : am_M} {rc rs pc n E : Nat} {L : List (Option Value)} {rest : List Value} {f : Nat → am_C} {P : am_P} (hh : am_hh M = []) (hP : P (.inr E) n f) : am_ct M rc rs pc L rest P (.inr E) n f := AX.out hh hP
/-! answers -/
abbrev m_pkAt (z : m_Z) (k : Nat) : Nat := (m_pks (m_sg z) 48).getD k 0
abbrev m_P (z : m_Z) : Nat := (m_pks (m_sg z) 48).length
def m_cellA (z : m_Z) (c : Nat) : Nat → Int32
  | 0 => z_h z + z_w z c
  | 1 => z_b z c
  | 2 => m_sg z c
  | 3 => m_tc (m_sg z) c
  | _ => m_reg (m_sg z) c
def m_peakA (z : m_Z) (k : Nat) : Nat → Int32
  | 0 => nI (m_pkAt z k)
  | 1 => nI (m_placeN (m_sg z) (m_pkAt z k) false)
  | 2 => nI (m_placeN (m_sg z) (m_pkAt z k) true)
  | 3 => m_reg (m_sg z) (m_pkAt z k)
  | _ => if 14 < m_reg (m_sg z) (m_pkAt z k) then 1 else 0
def m_conA (κ : m_K) : Nat → Int32
  | 0 => κ.1 2
  | 1 => κ.1 3
  | 2 => κ.1 4
  | 3 => κ.1 5
  | 4 => κ.1 6
  | _ => κ.1 7
def m_whA (κ : m_K) : Nat → UInt32
  | 0 => κ.2.1 0
  | 1 => κ.2.1 1
  | 2 => κ.2.1 2
  | 3 => κ.2.1 3
  | _ => κ.2.1 4
noncomputable def m_rowA (z : m_Z) (y : Nat) : Nat → Int32
  | 0 => m_I (fun x => m_sg z (8 * y + x)) 8
  | 1 => m_I (fun x => m_tc (m_sg z) (8 * y + x)) 8
  | _ => m_I (fun k => if m_pkAt z k / 8 = y then 1 else 0) (m_P z)
noncomputable def m_areaA (z : m_Z) (a j : Nat) : Int32 := if j < 4 then nI (z_C z a j) else nI (m_N (m_in (z_K z) (nI a)) 5)
noncomputable def m_manyA (z : m_Z) : Nat → Int32
  | 0 => z_ta z
  | 1 => z_th z
  | 2 => nI (m_N (m_th (z_K z)) 5)
  | 3 => nI (z_be z)
  | 4 => nI (z_li z)
  | 5 => nI (z_ca z)
  | 6 => nI (z_to z)
  | 7 => m_hum (m_sg z)
  | 8 => nI (m_P z)
  | _ => m_I (fun k => if 14 < m_reg (m_sg z) (m_pkAt z k) then 1 else 0) (m_P z)
theorem m_tc_01 (sig : Nat → Int32) (c : Nat) : m_tc sig c = 0 ∨ m_tc sig c = 1 := by
  unfold m_tc
  split
  · exact Or.inl rfl
  · exact Or.inr rfl
section Gla
variable {p T n : Nat} {f : Nat → am_C} {z : m_Z}
theorem s_ckRow {y : Nat} (hy : y < 6) : AM mX7_checkRow 0 0 [.int (nI y)] n f (am_is none n f) := by
  show AW mX7_checkRow 0 0 0 [some (.int (nI y))] [] n f _
  refine am_iload_n 0 dX7_checkRow_0 rfl ?_
  refine am_if_lt 1 10 dX7_checkRow_1 rfl (fun c1 => absurd c1 (nI_pos (by omega))) (fun c1 => ?_)
  refine am_iload_n 4 dX7_checkRow_4 rfl ?_
  refine am_bipush 5 (v := 6) dX7_checkRow_5 (by decide) ?_
  refine am_icmp_lt 7 20 dX7_checkRow_7 rfl (fun c7 => ?_) (fun c7 => absurd (nI_lt hy (by decide)) c7)
  exact am_return 20 dX7_checkRow_20 rfl ⟨rfl, rfl, rfl⟩
theorem s_ckCell {x y : Nat} (hx : x < 8) (hy : y < 6) : AM mX7_checkCell 0 0 [.int (nI x), .int (nI y)] n f (am_is none n f) := by
  show AW mX7_checkCell 0 0 0 [some (.int (nI x)), some (.int (nI y))] [] n f _
  refine am_iload_n 0 dX7_checkCell_0 rfl ?_
  refine am_if_lt 1 10 dX7_checkCell_1 rfl (fun c1 => absurd c1 (nI_pos (by omega))) (fun c1 => ?_)
  refine am_iload_n 4 dX7_checkCell_4 rfl ?_
  refine am_bipush 5 (v := 8) dX7_checkCell_5 (by decide) ?_
  refine am_icmp_lt 7 20 dX7_checkCell_7 rfl (fun c7 => ?_) (fun c7 => absurd (nI_lt hx (by decide)) c7)
  refine am_iload_n 20 dX7_checkCell_20 rfl ?_
  refine am_S1 21 (mc' := 0) (ms' := 0) (rc := 0) (rs := 0) dX7_checkCell_21 lX7_107 ⟨by decide, by decide⟩ (Nat.le_of_ble_eq_true rfl) (Nat.le_of_ble_eq_true rfl) (s_ckRow hy) ?_
  refine am_is_ct ?_
  exact am_return 24 dX7_checkCell_24 rfl ⟨rfl, rfl, rfl⟩
theorem s_ckStrength {s : Nat} (h1 : 1 ≤ s) (h2 : s ≤ 200) : AM mX7_checkStrength 0 0 [.int (nI s)] n f (am_is none n f) := by
  show AW mX7_checkStrength 0 0 0 [some (.int (nI s))] [] n f _
  refine am_iload_n 0 dX7_checkStrength_0 rfl ?_
  refine am_iconst 1 (v := 1) dX7_checkStrength_1 (by decide) ?_
  refine am_icmp_lt 2 12 dX7_checkStrength_2 rfl (fun c2 => absurd c2 (nI_nlt (b := 1) h1 (by omega))) (fun c2 => ?_)
  refine am_iload_n 5 dX7_checkStrength_5 rfl ?_
  refine am_sipush 6 (v := 200) dX7_checkStrength_6 (by decide) ?_
  refine am_icmp_le 9 22 dX7_checkStrength_9 rfl (fun c9 => ?_) (fun c9 => absurd ((nI_leI (b := 200) (by omega) (by decide)).mpr h2) c9)
  exact am_return 22 dX7_checkStrength_22 rfl ⟨rfl, rfl, rfl⟩
theorem s_ckWhat {w m : Nat} (hw : w ≤ m) (hm : m < 2 ^ 31) : AM mX7_checkWhat 0 0 [.int (nI w), .int (nI m)] n f (am_is none n f) := by
  show AW mX7_checkWhat 0 0 0 [some (.int (nI w)), some (.int (nI m))] [] n f _
  refine am_iload_n 0 dX7_checkWhat_0 rfl ?_
  refine am_if_lt 1 9 dX7_checkWhat_1 rfl (fun c1 => absurd c1 (nI_pos (by omega))) (fun c1 => ?_)
  refine am_iload_n 4 dX7_checkWhat_4 rfl ?_
  refine am_iload_n 5 dX7_checkWhat_5 rfl ?_
  refine am_icmp_le 6 19 dX7_checkWhat_6 rfl (fun c6 => ?_) (fun c6 => absurd ((nI_leI (by omega) hm).mpr hw) c6)
  exact am_return 19 dX7_checkWhat_19 rfl ⟨rfl, rfl, rfl⟩
theorem s_ckName {x : Nat} (hG : m_G f p T z) (hx : x < 5) (hth : (z_K z x).1 0 ≠ 0) : AM mX7_checkName 0 0 [.ref p, .int (nI x)] n f (am_is none n f) := by
  obtain ⟨h0, h1, h2, h3, h4, h5, h6, h7⟩ := hG
  have hh := h5.1
  show AW mX7_checkName 0 0 0 [some (.ref p), some (.int (nI x))] [] n f _
  refine am_aload_n 0 dX7_checkName_0 rfl ?_
  refine am_getfield 1 dX7_checkName_1 fX7_48 (by repeat (first | assumption | exact am_ue | refine am_un (by first | assumption | decide | omega) ?_)) rfl ?_
  refine am_iload_n 4 dX7_checkName_4 rfl ?_
  refine am_V1 5 (mc' := 0) (ms' := 0) (rc := 0) (rs := 0) dX7_checkName_5 lX7_225 ⟨by decide, by decide⟩ (by repeat (first | assumption | exact am_ue | refine am_un (by first | assumption | decide | omega) ?_)) (Nat.le_of_ble_eq_true rfl) (Nat.le_of_ble_eq_true rfl) (s_has hx h5) ?_
  refine am_is_ct ?_
  rw [if_pos hth]
  refine am_if_ne 8 21 dX7_checkName_8 rfl (fun c8 => ?_) (fun c8 => absurd c8 (by decide))
  exact am_return 21 dX7_checkName_21 rfl ⟨rfl, rfl, rfl⟩
theorem s_ckNameT {x : Nat} (hG : m_G f p T z) (hx : x < 5) (hth : (z_K z x).1 0 = 0) : AM mX7_checkName 1 6 [.ref p, .int (nI x)] n f (am_th 2 n f) := by
  obtain ⟨h0, h1, h2, h3, h4, h5, h6, h7⟩ := hG
  have hh := h5.1
  show AW mX7_checkName 1 6 0 [some (.ref p), some (.int (nI x))] [] n f _
  refine am_aload_n 0 dX7_checkName_0 rfl ?_
  refine am_getfield 1 dX7_checkName_1 fX7_48 (by repeat (first | assumption | exact am_ue | refine am_un (by first | assumption | decide | omega) ?_)) rfl ?_
  refine am_iload_n 4 dX7_checkName_4 rfl ?_
  refine am_V1 5 (mc' := 0) (ms' := 0) (rc := 1) (rs := 6) dX7_checkName_5 lX7_225 ⟨by decide, by decide⟩ (by repeat (first | assumption | exact am_ue | refine am_un (by first | assumption | decide | omega) ?_)) (Nat.le_of_ble_eq_true rfl) (Nat.le_of_ble_eq_true rfl) (s_has hx h5) ?_
  refine am_is_ct ?_
  rw [if_neg (fun q => q hth)]
  refine am_if_ne 8 21 dX7_checkName_8 rfl (fun c8 => absurd c8 (fun q => q rfl)) (fun c8 => ?_)
  exact am_throw 11 rfl tX7_163_244 dX7_checkName_11 dX7_checkName_14 dX7_checkName_15 dX7_checkName_17 dX7_checkName_20 (by decide) (by decide) ⟨rfl, rfl, rfl⟩
theorem s_cellAnswer {c j : Nat} (hG : m_G f p T z) (hc : c < 48) (hj : j ≤ 4) : AM mX7_cellAnswer 0 0 [.ref p, .int (nI c), .int (nI j)] n f (am_is (some (.int (m_cellA z c j))) n f) := by
  obtain ⟨h0, h1, h2, -⟩ := hG
  obtain ⟨pc, px, py, chn, hp, -⟩ := h2
  obtain ⟨p0, p1, p2, p3, p4, p5, p6⟩ := id hp
  have hs := h1.1
  have hs1 := h1.2.1
  have hs2 := h1.2.2
  show AW mX7_cellAnswer 0 0 0 [some (.ref p), some (.int (nI c)), some (.int (nI j))] [] n f _
  have hcs : j = 0 ∨ j = 1 ∨ j = 2 ∨ j = 3 ∨ j = 4 := by omega
  rcases hcs with rfl | rfl | rfl | rfl | rfl
  · refine am_iload_n 0 dX7_cellAnswer_0 rfl ?_
    refine am_tableIn 1 (off := 31) (tgt := 32) dX7_cellAnswer_1 (by decide) (by decide) rfl rfl ?_
    refine am_aload_n 32 dX7_cellAnswer_32 rfl ?_
    refine am_getfield 33 dX7_cellAnswer_33 fX7_10 (by repeat (first | assumption | exact am_ue | refine am_un (by first | assumption | decide | omega) ?_)) rfl ?_
    refine am_iload_n 36 dX7_cellAnswer_36 rfl ?_
    refine am_V1 37 (mc' := 0) (ms' := 0) (rc := 0) (rs := 0) dX7_cellAnswer_37 lX7_246 ⟨by decide, by decide⟩ (by repeat (first | assumption | exact am_ue | refine am_un (by first | assumption | decide | omega) ?_)) (Nat.le_of_ble_eq_true rfl) (Nat.le_of_ble_eq_true rfl) (s_chargeOf hs hs1 hc) ?_
    refine am_is_ct ?_
    exact am_ireturn 40 dX7_cellAnswer_40 rfl rfl ⟨rfl, rfl, rfl⟩
  · refine am_iload_n 0 dX7_cellAnswer_0 rfl ?_
    refine am_tableIn 1 (off := 40) (tgt := 41) dX7_cellAnswer_1 (by decide) (by decide) rfl rfl ?_
    refine am_aload_n 41 dX7_cellAnswer_41 rfl ?_
    refine am_getfield 42 dX7_cellAnswer_42 fX7_10 (by repeat (first | assumption | exact am_ue | refine am_un (by first | assumption | decide | omega) ?_)) rfl ?_
    refine am_getfield 45 dX7_cellAnswer_45 fX7_249 (by repeat (first | assumption | exact am_ue | refine am_un (by first | assumption | decide | omega) ?_)) rfl ?_
    refine am_iload_n 48 dX7_cellAnswer_48 rfl ?_
    refine am_iaload 49 dX7_cellAnswer_49 rfl (by repeat (first | assumption | exact am_ue | refine am_un (by first | assumption | decide | omega) ?_)) (am_ix hc (by decide)) ?_
    rw [nI_clamp (n := c) (by omega)]
    exact am_ireturn 50 dX7_cellAnswer_50 rfl rfl ⟨rfl, rfl, rfl⟩
  · refine am_iload_n 0 dX7_cellAnswer_0 rfl ?_
    refine am_tableIn 1 (off := 50) (tgt := 51) dX7_cellAnswer_1 (by decide) (by decide) rfl rfl ?_
    refine am_aload_n 51 dX7_cellAnswer_51 rfl ?_
    refine am_getfield 52 dX7_cellAnswer_52 fX7_19 (by repeat (first | assumption | exact am_ue | refine am_un (by first | assumption | decide | omega) ?_)) rfl ?_
    refine am_getfield 55 dX7_cellAnswer_55 fX7_103 (by repeat (first | assumption | exact am_ue | refine am_un (by first | assumption | decide | omega) ?_)) rfl ?_
    refine am_iload_n 58 dX7_cellAnswer_58 rfl ?_
    refine am_iaload 59 dX7_cellAnswer_59 rfl (by repeat (first | assumption | exact am_ue | refine am_un (by first | assumption | decide | omega) ?_)) (am_ix hc (by decide)) ?_
    rw [nI_clamp (n := c) (by omega)]
    exact am_ireturn 60 dX7_cellAnswer_60 rfl rfl ⟨rfl, rfl, rfl⟩
  · rcases m_tc_01 (m_sg z) c with e | e
    · rw [show m_cellA z c 3 = 0 from e]
      refine am_iload_n 0 dX7_cellAnswer_0 rfl ?_
      refine am_tableIn 1 (off := 60) (tgt := 61) dX7_cellAnswer_1 (by decide) (by decide) rfl rfl ?_
      refine am_aload_n 61 dX7_cellAnswer_61 rfl ?_
      refine am_getfield 62 dX7_cellAnswer_62 fX7_19 (by repeat (first | assumption | exact am_ue | refine am_un (by first | assumption | decide | omega) ?_)) rfl ?_
      refine am_iload_n 65 dX7_cellAnswer_65 rfl ?_
      refine am_V1 66 (mc' := 0) (ms' := 0) (rc := 0) (rs := 0) dX7_cellAnswer_66 lX7_252 ⟨by decide, by decide⟩ (by repeat (first | assumption | exact am_ue | refine am_un (by first | assumption | decide | omega) ?_)) (Nat.le_of_ble_eq_true rfl) (Nat.le_of_ble_eq_true rfl) (s_isTouched hp hc) ?_
      refine am_is_ct ?_
      rw [e]
      refine am_if_eq 69 76 dX7_cellAnswer_69 rfl (fun c69 => ?_) (fun c69 => absurd rfl c69)
      refine am_iconst 76 (v := 0) dX7_cellAnswer_76 (by decide) ?_
      exact am_ireturn 77 dX7_cellAnswer_77 rfl rfl ⟨rfl, rfl, rfl⟩
    · rw [show m_cellA z c 3 = 1 from e]
      refine am_iload_n 0 dX7_cellAnswer_0 rfl ?_
      refine am_tableIn 1 (off := 60) (tgt := 61) dX7_cellAnswer_1 (by decide) (by decide) rfl rfl ?_
      refine am_aload_n 61 dX7_cellAnswer_61 rfl ?_
      refine am_getfield 62 dX7_cellAnswer_62 fX7_19 (by repeat (first | assumption | exact am_ue | refine am_un (by first | assumption | decide | omega) ?_)) rfl ?_
      refine am_iload_n 65 dX7_cellAnswer_65 rfl ?_
      refine am_V1 66 (mc' := 0) (ms' := 0) (rc := 0) (rs := 0) dX7_cellAnswer_66 lX7_252 ⟨by decide, by decide⟩ (by repeat (first | assumption | exact am_ue | refine am_un (by first | assumption | decide | omega) ?_)) (Nat.le_of_ble_eq_true rfl) (Nat.le_of_ble_eq_true rfl) (s_isTouched hp hc) ?_
      refine am_is_ct ?_
      rw [e]
      refine am_if_eq 69 76 dX7_cellAnswer_69 rfl (fun c69 => absurd c69 (by decide)) (fun c69 => ?_)
      refine am_iconst 72 (v := 1) dX7_cellAnswer_72 (by decide) ?_
      refine am_goto 73 (tgt := 77) dX7_cellAnswer_73 rfl ?_
      exact am_ireturn 77 dX7_cellAnswer_77 rfl rfl ⟨rfl, rfl, rfl⟩
  · refine am_iload_n 0 dX7_cellAnswer_0 rfl ?_
    refine am_tableOut 1 (tgt := 78) dX7_cellAnswer_1 (by decide) rfl ?_
    refine am_aload_n 78 dX7_cellAnswer_78 rfl ?_
    refine am_getfield 79 dX7_cellAnswer_79 fX7_19 (by repeat (first | assumption | exact am_ue | refine am_un (by first | assumption | decide | omega) ?_)) rfl ?_
    refine am_getfield 82 dX7_cellAnswer_82 fX7_255 (by repeat (first | assumption | exact am_ue | refine am_un (by first | assumption | decide | omega) ?_)) rfl ?_
    refine am_iload_n 85 dX7_cellAnswer_85 rfl ?_
    refine am_iaload 86 dX7_cellAnswer_86 rfl (by repeat (first | assumption | exact am_ue | refine am_un (by first | assumption | decide | omega) ?_)) (am_ix hc (by decide)) ?_
    rw [nI_clamp (n := c) (by omega)]
    exact am_ireturn 87 dX7_cellAnswer_87 rfl rfl ⟨rfl, rfl, rfl⟩
theorem s_ofCell {x y j : Nat} (hG : m_G f p T z) (hx : x < 8) (hy : y < 6) (hj : j ≤ 4) : AM mX7_ofCell 0 0 [.ref p, .int (nI x), .int (nI y), .int (nI j)] n f (am_is (some (.int (m_cellA z (8 * y + x) j))) n f) := by
  have h0 := hG.1
  show AW mX7_ofCell 0 0 0 [some (.ref p), some (.int (nI x)), some (.int (nI y)), some (.int (nI j))] [] n f _
  refine am_iload_n 0 dX7_ofCell_0 rfl ?_
  refine am_iload_n 1 dX7_ofCell_1 rfl ?_
  refine am_S2 2 (mc' := 0) (ms' := 0) (rc := 0) (rs := 0) dX7_ofCell_2 lX7_91 ⟨by decide, by decide⟩ (Nat.le_of_ble_eq_true rfl) (Nat.le_of_ble_eq_true rfl) (s_ckCell hx hy) ?_
  refine am_is_ct ?_
  refine am_iload_n 5 dX7_ofCell_5 rfl ?_
  refine am_iconst 6 (v := 4) dX7_ofCell_6 (by decide) ?_
  refine am_S2 7 (mc' := 0) (ms' := 0) (rc := 0) (rs := 0) dX7_ofCell_7 lX7_153 ⟨by decide, by decide⟩ (Nat.le_of_ble_eq_true rfl) (Nat.le_of_ble_eq_true rfl) (s_ckWhat (m := 4) hj (by decide)) ?_
  refine am_is_ct ?_
  refine am_aload_n 10 dX7_ofCell_10 rfl ?_
  refine am_iload_n 11 dX7_ofCell_11 rfl ?_
  refine am_bipush 12 (v := 8) dX7_ofCell_12 (by decide) ?_
  refine am_imul 14 dX7_ofCell_14 ?_
  refine am_iload_n 15 dX7_ofCell_15 rfl ?_
  refine am_iadd 16 dX7_ofCell_16 ?_
  rw [am_cellN]
  refine am_iload_n 17 dX7_ofCell_17 rfl ?_
  refine am_V2 18 (mc' := 0) (ms' := 0) (rc := 0) (rs := 0) dX7_ofCell_18 lX7_156 ⟨by decide, by decide⟩ (by repeat (first | assumption | exact am_ue | refine am_un (by first | assumption | decide | omega) ?_)) (Nat.le_of_ble_eq_true rfl) (Nat.le_of_ble_eq_true rfl) (s_cellAnswer hG (by omega) hj) ?_
  refine am_is_ct ?_
  exact am_ireturn 21 dX7_ofCell_21 rfl rfl ⟨rfl, rfl, rfl⟩
theorem s_peakAnswer {k j : Nat} (hG : m_G f p T z) (hk : k < m_P z) (hj : j ≤ 4) : AM mX7_peakAnswer 0 0 [.ref p, .int (nI k), .int (nI j)] n f (am_is (some (.int (m_peakA z k j))) n f) := by
  obtain ⟨h0, h1, h2, -⟩ := hG
  have hP := m_pks_len (sig := m_sg z) (k := 48)
  have hk48 : k < 48 := Nat.lt_of_lt_of_le hk hP
  obtain ⟨pc, px, py, chn, hp, hok⟩ := id h2
  obtain ⟨p0, p1, p2, p3, p4, p5, p6⟩ := id hp
  obtain ⟨x1, x2, x3⟩ := hok k hk
  show AW mX7_peakAnswer 0 0 0 [some (.ref p), some (.int (nI k)), some (.int (nI j))] [] n f _
  have hcs : j = 0 ∨ j = 1 ∨ j = 2 ∨ j = 3 ∨ j = 4 := by omega
  rcases hcs with rfl | rfl | rfl | rfl | rfl
  · refine am_iload_n 0 dX7_peakAnswer_0 rfl ?_
    refine am_tableIn 1 (off := 31) (tgt := 32) dX7_peakAnswer_1 (by decide) (by decide) rfl rfl ?_
    refine am_aload_n 32 dX7_peakAnswer_32 rfl ?_
    refine am_getfield 33 dX7_peakAnswer_33 fX7_19 (by repeat (first | assumption | exact am_ue | refine am_un (by first | assumption | decide | omega) ?_)) rfl ?_
    refine am_getfield 36 dX7_peakAnswer_36 fX7_258 (by repeat (first | assumption | exact am_ue | refine am_un (by first | assumption | decide | omega) ?_)) rfl ?_
    refine am_iload_n 39 dX7_peakAnswer_39 rfl ?_
    refine am_iaload 40 dX7_peakAnswer_40 rfl (by repeat (first | assumption | exact am_ue | refine am_un (by first | assumption | decide | omega) ?_)) (am_ix hk48 (by decide)) ?_
    rw [nI_clamp (n := k) (by omega)]
    rw [x1]
    exact am_ireturn 41 dX7_peakAnswer_41 rfl rfl ⟨rfl, rfl, rfl⟩
  · refine am_iload_n 0 dX7_peakAnswer_0 rfl ?_
    refine am_tableIn 1 (off := 41) (tgt := 42) dX7_peakAnswer_1 (by decide) (by decide) rfl rfl ?_
    refine am_aload_n 42 dX7_peakAnswer_42 rfl ?_
    refine am_getfield 43 dX7_peakAnswer_43 fX7_19 (by repeat (first | assumption | exact am_ue | refine am_un (by first | assumption | decide | omega) ?_)) rfl ?_
    refine am_getfield 46 dX7_peakAnswer_46 fX7_261 (by repeat (first | assumption | exact am_ue | refine am_un (by first | assumption | decide | omega) ?_)) rfl ?_
    refine am_iload_n 49 dX7_peakAnswer_49 rfl ?_
    refine am_iaload 50 dX7_peakAnswer_50 rfl (by repeat (first | assumption | exact am_ue | refine am_un (by first | assumption | decide | omega) ?_)) (am_ix hk48 (by decide)) ?_
    rw [nI_clamp (n := k) (by omega)]
    rw [x2]
    exact am_ireturn 51 dX7_peakAnswer_51 rfl rfl ⟨rfl, rfl, rfl⟩
  · refine am_iload_n 0 dX7_peakAnswer_0 rfl ?_
    refine am_tableIn 1 (off := 51) (tgt := 52) dX7_peakAnswer_1 (by decide) (by decide) rfl rfl ?_
    refine am_aload_n 52 dX7_peakAnswer_52 rfl ?_
    refine am_getfield 53 dX7_peakAnswer_53 fX7_19 (by repeat (first | assumption | exact am_ue | refine am_un (by first | assumption | decide | omega) ?_)) rfl ?_
    refine am_getfield 56 dX7_peakAnswer_56 fX7_264 (by repeat (first | assumption | exact am_ue | refine am_un (by first | assumption | decide | omega) ?_)) rfl ?_
    refine am_iload_n 59 dX7_peakAnswer_59 rfl ?_
    refine am_iaload 60 dX7_peakAnswer_60 rfl (by repeat (first | assumption | exact am_ue | refine am_un (by first | assumption | decide | omega) ?_)) (am_ix hk48 (by decide)) ?_
    rw [nI_clamp (n := k) (by omega)]
    rw [x3]
    exact am_ireturn 61 dX7_peakAnswer_61 rfl rfl ⟨rfl, rfl, rfl⟩
  · refine am_iload_n 0 dX7_peakAnswer_0 rfl ?_
    refine am_tableIn 1 (off := 61) (tgt := 62) dX7_peakAnswer_1 (by decide) (by decide) rfl rfl ?_
    refine am_aload_n 62 dX7_peakAnswer_62 rfl ?_
    refine am_getfield 63 dX7_peakAnswer_63 fX7_19 (by repeat (first | assumption | exact am_ue | refine am_un (by first | assumption | decide | omega) ?_)) rfl ?_
    refine am_iload_n 66 dX7_peakAnswer_66 rfl ?_
    refine am_V1 67 (mc' := 0) (ms' := 0) (rc := 0) (rs := 0) dX7_peakAnswer_67 lX7_267 ⟨by decide, by decide⟩ (by repeat (first | assumption | exact am_ue | refine am_un (by first | assumption | decide | omega) ?_)) (Nat.le_of_ble_eq_true rfl) (Nat.le_of_ble_eq_true rfl) (s_sizeOf h2 hk) ?_
    refine am_is_ct ?_
    exact am_ireturn 70 dX7_peakAnswer_70 rfl rfl ⟨rfl, rfl, rfl⟩
  · by_cases hp14 : 14 < m_reg (m_sg z) (m_pkAt z k)
    · have e : m_peakA z k 4 = 1 := if_pos hp14
      rw [e]
      refine am_iload_n 0 dX7_peakAnswer_0 rfl ?_
      refine am_tableOut 1 (tgt := 71) dX7_peakAnswer_1 (by decide) rfl ?_
      refine am_aload_n 71 dX7_peakAnswer_71 rfl ?_
      refine am_getfield 72 dX7_peakAnswer_72 fX7_19 (by repeat (first | assumption | exact am_ue | refine am_un (by first | assumption | decide | omega) ?_)) rfl ?_
      refine am_iload_n 75 dX7_peakAnswer_75 rfl ?_
      refine am_V1 76 (mc' := 0) (ms' := 0) (rc := 0) (rs := 0) dX7_peakAnswer_76 lX7_270 ⟨by decide, by decide⟩ (by repeat (first | assumption | exact am_ue | refine am_un (by first | assumption | decide | omega) ?_)) (Nat.le_of_ble_eq_true rfl) (Nat.le_of_ble_eq_true rfl) (s_isPalm h2 hk) ?_
      refine am_is_ct ?_
      rw [if_pos hp14]
      refine am_if_eq 79 86 dX7_peakAnswer_79 rfl (fun c79 => absurd c79 (by decide)) (fun c79 => ?_)
      refine am_iconst 82 (v := 1) dX7_peakAnswer_82 (by decide) ?_
      refine am_goto 83 (tgt := 87) dX7_peakAnswer_83 rfl ?_
      exact am_ireturn 87 dX7_peakAnswer_87 rfl rfl ⟨rfl, rfl, rfl⟩
    · have e : m_peakA z k 4 = 0 := if_neg hp14
      rw [e]
      refine am_iload_n 0 dX7_peakAnswer_0 rfl ?_
      refine am_tableOut 1 (tgt := 71) dX7_peakAnswer_1 (by decide) rfl ?_
      refine am_aload_n 71 dX7_peakAnswer_71 rfl ?_
      refine am_getfield 72 dX7_peakAnswer_72 fX7_19 (by repeat (first | assumption | exact am_ue | refine am_un (by first | assumption | decide | omega) ?_)) rfl ?_
      refine am_iload_n 75 dX7_peakAnswer_75 rfl ?_
      refine am_V1 76 (mc' := 0) (ms' := 0) (rc := 0) (rs := 0) dX7_peakAnswer_76 lX7_270 ⟨by decide, by decide⟩ (by repeat (first | assumption | exact am_ue | refine am_un (by first | assumption | decide | omega) ?_)) (Nat.le_of_ble_eq_true rfl) (Nat.le_of_ble_eq_true rfl) (s_isPalm h2 hk) ?_
      refine am_is_ct ?_
      rw [if_neg hp14]
      refine am_if_eq 79 86 dX7_peakAnswer_79 rfl (fun c79 => ?_) (fun c79 => absurd rfl c79)
      refine am_iconst 86 (v := 0) dX7_peakAnswer_86 (by decide) ?_
      exact am_ireturn 87 dX7_peakAnswer_87 rfl rfl ⟨rfl, rfl, rfl⟩
theorem s_ofPeak {k j : Nat} (hG : m_G f p T z) (hk : k < m_P z) (hj : j ≤ 4) : AM mX7_ofPeak 0 0 [.ref p, .int (nI k), .int (nI j)] n f (am_is (some (.int (m_peakA z k j))) n f) := by
  have h0 := hG.1
  have hP : m_P z ≤ 48 := m_pks_len (sig := m_sg z) (k := 48)
  obtain ⟨pc, px, py, chn, hp, hok⟩ := id hG.2.2.1
  have p0 := hp.1
  show AW mX7_ofPeak 0 0 0 [some (.ref p), some (.int (nI k)), some (.int (nI j))] [] n f _
  refine am_iload_n 0 dX7_ofPeak_0 rfl ?_
  refine am_if_lt 1 15 dX7_ofPeak_1 rfl (fun c1 => absurd c1 (nI_pos (by omega))) (fun c1 => ?_)
  refine am_iload_n 4 dX7_ofPeak_4 rfl ?_
  refine am_aload_n 5 dX7_ofPeak_5 rfl ?_
  refine am_getfield 6 dX7_ofPeak_6 fX7_19 (by repeat (first | assumption | exact am_ue | refine am_un (by first | assumption | decide | omega) ?_)) rfl ?_
  refine am_getfield 9 dX7_ofPeak_9 fX7_160 (by repeat (first | assumption | exact am_ue | refine am_un (by first | assumption | decide | omega) ?_)) rfl ?_
  refine am_icmp_lt 12 25 dX7_ofPeak_12 rfl (fun c12 => ?_) (fun c12 => absurd (nI_lt hk (by omega)) c12)
  refine am_iload_n 25 dX7_ofPeak_25 rfl ?_
  refine am_iconst 26 (v := 4) dX7_ofPeak_26 (by decide) ?_
  refine am_S2 27 (mc' := 0) (ms' := 0) (rc := 0) (rs := 0) dX7_ofPeak_27 lX7_153 ⟨by decide, by decide⟩ (Nat.le_of_ble_eq_true rfl) (Nat.le_of_ble_eq_true rfl) (s_ckWhat (m := 4) hj (by decide)) ?_
  refine am_is_ct ?_
  refine am_aload_n 30 dX7_ofPeak_30 rfl ?_
  refine am_iload_n 31 dX7_ofPeak_31 rfl ?_
  refine am_iload_n 32 dX7_ofPeak_32 rfl ?_
  refine am_V2 33 (mc' := 0) (ms' := 0) (rc := 0) (rs := 0) dX7_ofPeak_33 lX7_168 ⟨by decide, by decide⟩ (by repeat (first | assumption | exact am_ue | refine am_un (by first | assumption | decide | omega) ?_)) (Nat.le_of_ble_eq_true rfl) (Nat.le_of_ble_eq_true rfl) (s_peakAnswer hG hk hj) ?_
  refine am_is_ct ?_
  exact am_ireturn 36 dX7_ofPeak_36 rfl rfl ⟨rfl, rfl, rfl⟩
theorem s_rowAnswer {y j : Nat} (hG : m_G f p T z) (hy : y < 6) (hj : j ≤ 2) : AM mX7_rowAnswer 0 0 [.ref p, .int (nI y), .int (nI j)] n f (am_is (some (.int (m_rowA z y j))) n f) := by
  obtain ⟨h0, h1, h2, -⟩ := hG
  obtain ⟨pc, px, py, chn, hp, -⟩ := id h2
  have p0 := hp.1
  show AW mX7_rowAnswer 0 0 0 [some (.ref p), some (.int (nI y)), some (.int (nI j))] [] n f _
  have hcs : j = 0 ∨ j = 1 ∨ j = 2 := by omega
  rcases hcs with rfl | rfl | rfl
  · refine am_iload_n 0 dX7_rowAnswer_0 rfl ?_
    refine am_lookup 1 (off := 27) (tgt := 28) dX7_rowAnswer_1 (by decide) (by decide) rfl ?_
    refine am_aload_n 28 dX7_rowAnswer_28 rfl ?_
    refine am_getfield 29 dX7_rowAnswer_29 fX7_19 (by repeat (first | assumption | exact am_ue | refine am_un (by first | assumption | decide | omega) ?_)) rfl ?_
    refine am_iload_n 32 dX7_rowAnswer_32 rfl ?_
    refine am_V1 33 (mc' := 0) (ms' := 0) (rc := 0) (rs := 0) dX7_rowAnswer_33 lX7_307 ⟨by decide, by decide⟩ (by repeat (first | assumption | exact am_ue | refine am_un (by first | assumption | decide | omega) ?_)) (Nat.le_of_ble_eq_true rfl) (Nat.le_of_ble_eq_true rfl) (s_signalOfRow hp hy) ?_
    refine am_is_ct ?_
    exact am_ireturn 36 dX7_rowAnswer_36 rfl rfl ⟨rfl, rfl, rfl⟩
  · refine am_iload_n 0 dX7_rowAnswer_0 rfl ?_
    refine am_lookup 1 (off := 36) (tgt := 37) dX7_rowAnswer_1 (by decide) (by decide) rfl ?_
    refine am_aload_n 37 dX7_rowAnswer_37 rfl ?_
    refine am_getfield 38 dX7_rowAnswer_38 fX7_19 (by repeat (first | assumption | exact am_ue | refine am_un (by first | assumption | decide | omega) ?_)) rfl ?_
    refine am_iload_n 41 dX7_rowAnswer_41 rfl ?_
    refine am_V1 42 (mc' := 0) (ms' := 0) (rc := 0) (rs := 0) dX7_rowAnswer_42 lX7_310 ⟨by decide, by decide⟩ (by repeat (first | assumption | exact am_ue | refine am_un (by first | assumption | decide | omega) ?_)) (Nat.le_of_ble_eq_true rfl) (Nat.le_of_ble_eq_true rfl) (s_touchedInRow hp hy) ?_
    refine am_is_ct ?_
    exact am_ireturn 45 dX7_rowAnswer_45 rfl rfl ⟨rfl, rfl, rfl⟩
  · refine am_iload_n 0 dX7_rowAnswer_0 rfl ?_
    refine am_lookup 1 (off := 45) (tgt := 46) dX7_rowAnswer_1 (by decide) (by decide) rfl ?_
    refine am_aload_n 46 dX7_rowAnswer_46 rfl ?_
    refine am_getfield 47 dX7_rowAnswer_47 fX7_19 (by repeat (first | assumption | exact am_ue | refine am_un (by first | assumption | decide | omega) ?_)) rfl ?_
    refine am_iload_n 50 dX7_rowAnswer_50 rfl ?_
    refine am_V1 51 (mc' := 0) (ms' := 0) (rc := 0) (rs := 0) dX7_rowAnswer_51 lX7_313 ⟨by decide, by decide⟩ (by repeat (first | assumption | exact am_ue | refine am_un (by first | assumption | decide | omega) ?_)) (Nat.le_of_ble_eq_true rfl) (Nat.le_of_ble_eq_true rfl) (s_peaksInRow h2 hy) ?_
    refine am_is_ct ?_
    exact am_ireturn 54 dX7_rowAnswer_54 rfl rfl ⟨rfl, rfl, rfl⟩
theorem s_ofRow {y j : Nat} (hG : m_G f p T z) (hy : y < 6) (hj : j ≤ 2) : AM mX7_ofRow 0 0 [.ref p, .int (nI y), .int (nI j)] n f (am_is (some (.int (m_rowA z y j))) n f) := by
  have h0 := hG.1
  show AW mX7_ofRow 0 0 0 [some (.ref p), some (.int (nI y)), some (.int (nI j))] [] n f _
  refine am_iload_n 0 dX7_ofRow_0 rfl ?_
  refine am_S1 1 (mc' := 0) (ms' := 0) (rc := 0) (rs := 0) dX7_ofRow_1 lX7_107 ⟨by decide, by decide⟩ (Nat.le_of_ble_eq_true rfl) (Nat.le_of_ble_eq_true rfl) (s_ckRow hy) ?_
  refine am_is_ct ?_
  refine am_iload_n 4 dX7_ofRow_4 rfl ?_
  refine am_iconst 5 (v := 2) dX7_ofRow_5 (by decide) ?_
  refine am_S2 6 (mc' := 0) (ms' := 0) (rc := 0) (rs := 0) dX7_ofRow_6 lX7_153 ⟨by decide, by decide⟩ (Nat.le_of_ble_eq_true rfl) (Nat.le_of_ble_eq_true rfl) (s_ckWhat (m := 2) hj (by decide)) ?_
  refine am_is_ct ?_
  refine am_aload_n 9 dX7_ofRow_9 rfl ?_
  refine am_iload_n 10 dX7_ofRow_10 rfl ?_
  refine am_iload_n 11 dX7_ofRow_11 rfl ?_
  refine am_V2 12 (mc' := 0) (ms' := 0) (rc := 0) (rs := 0) dX7_ofRow_12 lX7_188 ⟨by decide, by decide⟩ (by repeat (first | assumption | exact am_ue | refine am_un (by first | assumption | decide | omega) ?_)) (Nat.le_of_ble_eq_true rfl) (Nat.le_of_ble_eq_true rfl) (s_rowAnswer hG hy hj) ?_
  refine am_is_ct ?_
  exact am_ireturn 15 dX7_ofRow_15 rfl rfl ⟨rfl, rfl, rfl⟩
theorem s_manyAnswer {j : Nat} (hG : m_G f p T z) (hj : j ≤ 9) : AM mX7_manyAnswer 0 0 [.ref p, .int (nI j)] n f (am_is (some (.int (m_manyA z j))) n f) := by
  obtain ⟨h0, h1, h2, h3, h4, h5, h6, h7⟩ := hG
  obtain ⟨pc, px, py, chn, hp, -⟩ := id h2
  have p0 := hp.1
  have hh := h5.1
  have ha := h4.1
  show AW mX7_manyAnswer 0 0 0 [some (.ref p), some (.int (nI j))] [] n f _
  have hcs : j = 0 ∨ j = 1 ∨ j = 2 ∨ j = 3 ∨ j = 4 ∨ j = 5 ∨ j = 6 ∨ j = 7 ∨ j = 8 ∨ j = 9 := by omega
  rcases hcs with rfl | rfl | rfl | rfl | rfl | rfl | rfl | rfl | rfl | rfl
  · refine am_iload_n 0 dX7_manyAnswer_0 rfl ?_
    refine am_tableIn 1 (off := 51) (tgt := 52) dX7_manyAnswer_1 (by decide) (by decide) rfl rfl ?_
    refine am_aload_n 52 dX7_manyAnswer_52 rfl ?_
    refine am_getfield 53 dX7_manyAnswer_53 fX7_121 (by repeat (first | assumption | exact am_ue | refine am_un (by first | assumption | decide | omega) ?_)) rfl ?_
    exact am_ireturn 56 dX7_manyAnswer_56 rfl rfl ⟨rfl, rfl, rfl⟩
  · refine am_iload_n 0 dX7_manyAnswer_0 rfl ?_
    refine am_tableIn 1 (off := 56) (tgt := 57) dX7_manyAnswer_1 (by decide) (by decide) rfl rfl ?_
    refine am_aload_n 57 dX7_manyAnswer_57 rfl ?_
    refine am_getfield 58 dX7_manyAnswer_58 fX7_118 (by repeat (first | assumption | exact am_ue | refine am_un (by first | assumption | decide | omega) ?_)) rfl ?_
    exact am_ireturn 61 dX7_manyAnswer_61 rfl rfl ⟨rfl, rfl, rfl⟩
  · refine am_iload_n 0 dX7_manyAnswer_0 rfl ?_
    refine am_tableIn 1 (off := 61) (tgt := 62) dX7_manyAnswer_1 (by decide) (by decide) rfl rfl ?_
    refine am_aload_n 62 dX7_manyAnswer_62 rfl ?_
    refine am_getfield 63 dX7_manyAnswer_63 fX7_48 (by repeat (first | assumption | exact am_ue | refine am_un (by first | assumption | decide | omega) ?_)) rfl ?_
    refine am_V0 66 (mc' := 0) (ms' := 0) (rc := 0) (rs := 0) dX7_manyAnswer_66 lX7_143 ⟨by decide, by decide⟩ (by repeat (first | assumption | exact am_ue | refine am_un (by first | assumption | decide | omega) ?_)) (Nat.le_of_ble_eq_true rfl) (Nat.le_of_ble_eq_true rfl) (s_countContacts h5) ?_
    refine am_is_ct ?_
    exact am_ireturn 69 dX7_manyAnswer_69 rfl rfl ⟨rfl, rfl, rfl⟩
  · refine am_iload_n 0 dX7_manyAnswer_0 rfl ?_
    refine am_tableIn 1 (off := 69) (tgt := 70) dX7_manyAnswer_1 (by decide) (by decide) rfl rfl ?_
    refine am_aload_n 70 dX7_manyAnswer_70 rfl ?_
    refine am_getfield 71 dX7_manyAnswer_71 fX7_48 (by repeat (first | assumption | exact am_ue | refine am_un (by first | assumption | decide | omega) ?_)) rfl ?_
    refine am_getfield 74 dX7_manyAnswer_74 fX7_322 (by repeat (first | assumption | exact am_ue | refine am_un (by first | assumption | decide | omega) ?_)) rfl ?_
    exact am_ireturn 77 dX7_manyAnswer_77 rfl rfl ⟨rfl, rfl, rfl⟩
  · refine am_iload_n 0 dX7_manyAnswer_0 rfl ?_
    refine am_tableIn 1 (off := 77) (tgt := 78) dX7_manyAnswer_1 (by decide) (by decide) rfl rfl ?_
    refine am_aload_n 78 dX7_manyAnswer_78 rfl ?_
    refine am_getfield 79 dX7_manyAnswer_79 fX7_48 (by repeat (first | assumption | exact am_ue | refine am_un (by first | assumption | decide | omega) ?_)) rfl ?_
    refine am_getfield 82 dX7_manyAnswer_82 fX7_325 (by repeat (first | assumption | exact am_ue | refine am_un (by first | assumption | decide | omega) ?_)) rfl ?_
    exact am_ireturn 85 dX7_manyAnswer_85 rfl rfl ⟨rfl, rfl, rfl⟩
  · refine am_iload_n 0 dX7_manyAnswer_0 rfl ?_
    refine am_tableIn 1 (off := 85) (tgt := 86) dX7_manyAnswer_1 (by decide) (by decide) rfl rfl ?_
    refine am_aload_n 86 dX7_manyAnswer_86 rfl ?_
    refine am_getfield 87 dX7_manyAnswer_87 fX7_48 (by repeat (first | assumption | exact am_ue | refine am_un (by first | assumption | decide | omega) ?_)) rfl ?_
    refine am_getfield 90 dX7_manyAnswer_90 fX7_328 (by repeat (first | assumption | exact am_ue | refine am_un (by first | assumption | decide | omega) ?_)) rfl ?_
    exact am_ireturn 93 dX7_manyAnswer_93 rfl rfl ⟨rfl, rfl, rfl⟩
  · refine am_iload_n 0 dX7_manyAnswer_0 rfl ?_
    refine am_tableIn 1 (off := 93) (tgt := 94) dX7_manyAnswer_1 (by decide) (by decide) rfl rfl ?_
    refine am_aload_n 94 dX7_manyAnswer_94 rfl ?_
    refine am_getfield 95 dX7_manyAnswer_95 fX7_39 (by repeat (first | assumption | exact am_ue | refine am_un (by first | assumption | decide | omega) ?_)) rfl ?_
    refine am_getfield 98 dX7_manyAnswer_98 fX7_66 (by repeat (first | assumption | exact am_ue | refine am_un (by first | assumption | decide | omega) ?_)) rfl ?_
    exact am_ireturn 101 dX7_manyAnswer_101 rfl rfl ⟨rfl, rfl, rfl⟩
  · refine am_iload_n 0 dX7_manyAnswer_0 rfl ?_
    refine am_tableIn 1 (off := 101) (tgt := 102) dX7_manyAnswer_1 (by decide) (by decide) rfl rfl ?_
    refine am_aload_n 102 dX7_manyAnswer_102 rfl ?_
    refine am_getfield 103 dX7_manyAnswer_103 fX7_19 (by repeat (first | assumption | exact am_ue | refine am_un (by first | assumption | decide | omega) ?_)) rfl ?_
    refine am_getfield 106 dX7_manyAnswer_106 fX7_115 (by repeat (first | assumption | exact am_ue | refine am_un (by first | assumption | decide | omega) ?_)) rfl ?_
    exact am_ireturn 109 dX7_manyAnswer_109 rfl rfl ⟨rfl, rfl, rfl⟩
  · refine am_iload_n 0 dX7_manyAnswer_0 rfl ?_
    refine am_tableIn 1 (off := 109) (tgt := 110) dX7_manyAnswer_1 (by decide) (by decide) rfl rfl ?_
    refine am_aload_n 110 dX7_manyAnswer_110 rfl ?_
    refine am_getfield 111 dX7_manyAnswer_111 fX7_19 (by repeat (first | assumption | exact am_ue | refine am_un (by first | assumption | decide | omega) ?_)) rfl ?_
    refine am_getfield 114 dX7_manyAnswer_114 fX7_160 (by repeat (first | assumption | exact am_ue | refine am_un (by first | assumption | decide | omega) ?_)) rfl ?_
    exact am_ireturn 117 dX7_manyAnswer_117 rfl rfl ⟨rfl, rfl, rfl⟩
  · refine am_iload_n 0 dX7_manyAnswer_0 rfl ?_
    refine am_tableOut 1 (tgt := 118) dX7_manyAnswer_1 (by decide) rfl ?_
    refine am_aload_n 118 dX7_manyAnswer_118 rfl ?_
    refine am_getfield 119 dX7_manyAnswer_119 fX7_19 (by repeat (first | assumption | exact am_ue | refine am_un (by first | assumption | decide | omega) ?_)) rfl ?_
    refine am_V0 122 (mc' := 0) (ms' := 0) (rc := 0) (rs := 0) dX7_manyAnswer_122 lX7_331 ⟨by decide, by decide⟩ (by repeat (first | assumption | exact am_ue | refine am_un (by first | assumption | decide | omega) ?_)) (Nat.le_of_ble_eq_true rfl) (Nat.le_of_ble_eq_true rfl) (s_countPalms h2) ?_
    refine am_is_ct ?_
    exact am_ireturn 125 dX7_manyAnswer_125 rfl rfl ⟨rfl, rfl, rfl⟩
theorem s_many {j : Nat} (hG : m_G f p T z) (hj : j ≤ 9) : AM mX7_many 0 0 [.ref p, .int (nI j)] n f (am_is (some (.int (m_manyA z j))) n f) := by
  have h0 := hG.1
  show AW mX7_many 0 0 0 [some (.ref p), some (.int (nI j))] [] n f _
  refine am_iload_n 0 dX7_many_0 rfl ?_
  refine am_bipush 1 (v := 9) dX7_many_1 (by decide) ?_
  refine am_S2 3 (mc' := 0) (ms' := 0) (rc := 0) (rs := 0) dX7_many_3 lX7_153 ⟨by decide, by decide⟩ (Nat.le_of_ble_eq_true rfl) (Nat.le_of_ble_eq_true rfl) (s_ckWhat (m := 9) hj (by decide)) ?_
  refine am_is_ct ?_
  refine am_aload_n 6 dX7_many_6 rfl ?_
  refine am_iload_n 7 dX7_many_7 rfl ?_
  refine am_V1 8 (mc' := 0) (ms' := 0) (rc := 0) (rs := 0) dX7_many_8 lX7_194 ⟨by decide, by decide⟩ (by repeat (first | assumption | exact am_ue | refine am_un (by first | assumption | decide | omega) ?_)) (Nat.le_of_ble_eq_true rfl) (Nat.le_of_ble_eq_true rfl) (s_manyAnswer hG hj) ?_
  refine am_is_ct ?_
  exact am_ireturn 11 dX7_many_11 rfl rfl ⟨rfl, rfl, rfl⟩
theorem s_contactAnswer {c j : Nat} {κ : m_K} (h : m_kC f c κ) (hj : j ≤ 5) : AM mX7_contactAnswer 0 0 [.ref c, .int (nI j)] n f (am_is (some (.int (m_conA κ j))) n f) := by
  have h0 := h.1
  show AW mX7_contactAnswer 0 0 0 [some (.ref c), some (.int (nI j))] [] n f _
  have hcs : j = 0 ∨ j = 1 ∨ j = 2 ∨ j = 3 ∨ j = 4 ∨ j = 5 := by omega
  rcases hcs with rfl | rfl | rfl | rfl | rfl | rfl
  · refine am_iload_n 0 dX7_contactAnswer_0 rfl ?_
    refine am_tableIn 1 (off := 35) (tgt := 36) dX7_contactAnswer_1 (by decide) (by decide) rfl rfl ?_
    refine am_aload_n 36 dX7_contactAnswer_36 rfl ?_
    refine am_getfield 37 dX7_contactAnswer_37 fX7_273 (by repeat (first | assumption | exact am_ue | refine am_un (by first | assumption | decide | omega) ?_)) rfl ?_
    exact am_ireturn 40 dX7_contactAnswer_40 rfl rfl ⟨rfl, rfl, rfl⟩
  · refine am_iload_n 0 dX7_contactAnswer_0 rfl ?_
    refine am_tableIn 1 (off := 40) (tgt := 41) dX7_contactAnswer_1 (by decide) (by decide) rfl rfl ?_
    refine am_aload_n 41 dX7_contactAnswer_41 rfl ?_
    refine am_getfield 42 dX7_contactAnswer_42 fX7_276 (by repeat (first | assumption | exact am_ue | refine am_un (by first | assumption | decide | omega) ?_)) rfl ?_
    exact am_ireturn 45 dX7_contactAnswer_45 rfl rfl ⟨rfl, rfl, rfl⟩
  · refine am_iload_n 0 dX7_contactAnswer_0 rfl ?_
    refine am_tableIn 1 (off := 45) (tgt := 46) dX7_contactAnswer_1 (by decide) (by decide) rfl rfl ?_
    refine am_aload_n 46 dX7_contactAnswer_46 rfl ?_
    refine am_getfield 47 dX7_contactAnswer_47 fX7_279 (by repeat (first | assumption | exact am_ue | refine am_un (by first | assumption | decide | omega) ?_)) rfl ?_
    exact am_ireturn 50 dX7_contactAnswer_50 rfl rfl ⟨rfl, rfl, rfl⟩
  · refine am_iload_n 0 dX7_contactAnswer_0 rfl ?_
    refine am_tableIn 1 (off := 50) (tgt := 51) dX7_contactAnswer_1 (by decide) (by decide) rfl rfl ?_
    refine am_aload_n 51 dX7_contactAnswer_51 rfl ?_
    refine am_getfield 52 dX7_contactAnswer_52 fX7_282 (by repeat (first | assumption | exact am_ue | refine am_un (by first | assumption | decide | omega) ?_)) rfl ?_
    exact am_ireturn 55 dX7_contactAnswer_55 rfl rfl ⟨rfl, rfl, rfl⟩
  · refine am_iload_n 0 dX7_contactAnswer_0 rfl ?_
    refine am_tableIn 1 (off := 55) (tgt := 56) dX7_contactAnswer_1 (by decide) (by decide) rfl rfl ?_
    refine am_aload_n 56 dX7_contactAnswer_56 rfl ?_
    refine am_getfield 57 dX7_contactAnswer_57 fX7_285 (by repeat (first | assumption | exact am_ue | refine am_un (by first | assumption | decide | omega) ?_)) rfl ?_
    exact am_ireturn 60 dX7_contactAnswer_60 rfl rfl ⟨rfl, rfl, rfl⟩
  · refine am_iload_n 0 dX7_contactAnswer_0 rfl ?_
    refine am_tableOut 1 (tgt := 61) dX7_contactAnswer_1 (by decide) rfl ?_
    refine am_aload_n 61 dX7_contactAnswer_61 rfl ?_
    refine am_getfield 62 dX7_contactAnswer_62 fX7_288 (by repeat (first | assumption | exact am_ue | refine am_un (by first | assumption | decide | omega) ?_)) rfl ?_
    exact am_ireturn 65 dX7_contactAnswer_65 rfl rfl ⟨rfl, rfl, rfl⟩
theorem s_whereAnswer {c j : Nat} {κ : m_K} (h : m_kC f c κ) (k : m_kOk κ) (hj : j ≤ 4) : AM mX7_whereAnswer 0 0 [.ref c, .int (nI j)] n f (am_is (some (.double (FP.f2d (m_whA κ j)))) n f) := by
  have h0 := h.1
  obtain ⟨k0, k1, k2, k3, k4, -⟩ := k
  show AW mX7_whereAnswer 0 0 0 [some (.ref c), some (.int (nI j))] [] n f _
  have hcs : j = 0 ∨ j = 1 ∨ j = 2 ∨ j = 3 ∨ j = 4 := by omega
  rcases hcs with rfl | rfl | rfl | rfl | rfl
  · refine am_iload_n 0 dX7_whereAnswer_0 rfl ?_
    refine am_tableIn 1 (off := 31) (tgt := 32) dX7_whereAnswer_1 (by decide) (by decide) rfl rfl ?_
    refine am_aload_n 32 dX7_whereAnswer_32 rfl ?_
    refine am_getfield 33 dX7_whereAnswer_33 fX7_291 (by repeat (first | assumption | exact am_ue | refine am_un (by first | assumption | decide | omega) ?_)) rfl ?_
    refine am_f2d 36 dX7_whereAnswer_36 (d_f2d k0.1) ?_
    exact am_dreturn 37 dX7_whereAnswer_37 rfl ⟨rfl, rfl, rfl⟩
  · refine am_iload_n 0 dX7_whereAnswer_0 rfl ?_
    refine am_tableIn 1 (off := 37) (tgt := 38) dX7_whereAnswer_1 (by decide) (by decide) rfl rfl ?_
    refine am_aload_n 38 dX7_whereAnswer_38 rfl ?_
    refine am_getfield 39 dX7_whereAnswer_39 fX7_295 (by repeat (first | assumption | exact am_ue | refine am_un (by first | assumption | decide | omega) ?_)) rfl ?_
    refine am_f2d 42 dX7_whereAnswer_42 (d_f2d k1.1) ?_
    exact am_dreturn 43 dX7_whereAnswer_43 rfl ⟨rfl, rfl, rfl⟩
  · refine am_iload_n 0 dX7_whereAnswer_0 rfl ?_
    refine am_tableIn 1 (off := 43) (tgt := 44) dX7_whereAnswer_1 (by decide) (by decide) rfl rfl ?_
    refine am_aload_n 44 dX7_whereAnswer_44 rfl ?_
    refine am_getfield 45 dX7_whereAnswer_45 fX7_298 (by repeat (first | assumption | exact am_ue | refine am_un (by first | assumption | decide | omega) ?_)) rfl ?_
    refine am_f2d 48 dX7_whereAnswer_48 (d_f2d k2.1) ?_
    exact am_dreturn 49 dX7_whereAnswer_49 rfl ⟨rfl, rfl, rfl⟩
  · refine am_iload_n 0 dX7_whereAnswer_0 rfl ?_
    refine am_tableIn 1 (off := 49) (tgt := 50) dX7_whereAnswer_1 (by decide) (by decide) rfl rfl ?_
    refine am_aload_n 50 dX7_whereAnswer_50 rfl ?_
    refine am_getfield 51 dX7_whereAnswer_51 fX7_301 (by repeat (first | assumption | exact am_ue | refine am_un (by first | assumption | decide | omega) ?_)) rfl ?_
    refine am_f2d 54 dX7_whereAnswer_54 (d_f2d k3.1) ?_
    exact am_dreturn 55 dX7_whereAnswer_55 rfl ⟨rfl, rfl, rfl⟩
  · refine am_iload_n 0 dX7_whereAnswer_0 rfl ?_
    refine am_tableOut 1 (tgt := 56) dX7_whereAnswer_1 (by decide) rfl ?_
    refine am_aload_n 56 dX7_whereAnswer_56 rfl ?_
    refine am_getfield 57 dX7_whereAnswer_57 fX7_304 (by repeat (first | assumption | exact am_ue | refine am_un (by first | assumption | decide | omega) ?_)) rfl ?_
    refine am_f2d 60 dX7_whereAnswer_60 (d_f2d k4.1) ?_
    exact am_dreturn 61 dX7_whereAnswer_61 rfl ⟨rfl, rfl, rfl⟩
theorem s_areaAnswer {a j : Nat} (hG : m_G f p T z) (ha : a < z_to z) (hj : j ≤ 4) : AM mX7_areaAnswer 0 0 [.ref p, .int (nI a), .int (nI j)] n f (am_is (some (.int (m_areaA z a j))) n f) := by
  obtain ⟨h0, h1, h2, h3, h4, h5, h6, h7⟩ := hG
  have hh := h5.1
  have hs := h4.1
  show AW mX7_areaAnswer 0 0 0 [some (.ref p), some (.int (nI a)), some (.int (nI j))] [] n f _
  by_cases h : j < 4
  · have e : m_areaA z a j = nI (z_C z a j) := if_pos h
    rw [e]
    refine am_iload_n 0 dX7_areaAnswer_0 rfl ?_
    refine am_iconst 1 (v := 4) dX7_areaAnswer_1 (by decide) ?_
    refine am_icmp_ge 2 17 dX7_areaAnswer_2 rfl (fun c2 => absurd c2 (nI_ge h (by decide))) (fun c2 => ?_)
    refine am_aload_n 5 dX7_areaAnswer_5 rfl ?_
    refine am_getfield 6 dX7_areaAnswer_6 fX7_39 (by repeat (first | assumption | exact am_ue | refine am_un (by first | assumption | decide | omega) ?_)) rfl ?_
    refine am_iload_n 9 dX7_areaAnswer_9 rfl ?_
    refine am_iload_n 10 dX7_areaAnswer_10 rfl ?_
    refine am_V2 11 (mc' := 0) (ms' := 0) (rc := 0) (rs := 0) dX7_areaAnswer_11 lX7_316 ⟨by decide, by decide⟩ (by repeat (first | assumption | exact am_ue | refine am_un (by first | assumption | decide | omega) ?_)) (Nat.le_of_ble_eq_true rfl) (Nat.le_of_ble_eq_true rfl) (s_countOf h4 ha h) ?_
    refine am_is_ct ?_
    refine am_goto 14 (tgt := 25) dX7_areaAnswer_14 rfl ?_
    exact am_ireturn 25 dX7_areaAnswer_25 rfl rfl ⟨rfl, rfl, rfl⟩
  · have e : m_areaA z a j = nI (m_N (m_in (z_K z) (nI a)) 5) := if_neg h
    rw [e]
    refine am_iload_n 0 dX7_areaAnswer_0 rfl ?_
    refine am_iconst 1 (v := 4) dX7_areaAnswer_1 (by decide) ?_
    refine am_icmp_ge 2 17 dX7_areaAnswer_2 rfl (fun c2 => ?_) (fun c2 => absurd ((nI_leI (a := 4) (by decide) (by omega)).mpr (by omega)) c2)
    refine am_aload_n 17 dX7_areaAnswer_17 rfl ?_
    refine am_getfield 18 dX7_areaAnswer_18 fX7_48 (by repeat (first | assumption | exact am_ue | refine am_un (by first | assumption | decide | omega) ?_)) rfl ?_
    refine am_iload_n 21 dX7_areaAnswer_21 rfl ?_
    refine am_V1 22 (mc' := 0) (ms' := 0) (rc := 0) (rs := 0) dX7_areaAnswer_22 lX7_319 ⟨by decide, by decide⟩ (by repeat (first | assumption | exact am_ue | refine am_un (by first | assumption | decide | omega) ?_)) (Nat.le_of_ble_eq_true rfl) (Nat.le_of_ble_eq_true rfl) (s_contactsIn h5) ?_
    refine am_is_ct ?_
    exact am_ireturn 25 dX7_areaAnswer_25 rfl rfl ⟨rfl, rfl, rfl⟩
theorem s_ofArea {a j : Nat} (hG : m_G f p T z) (ha : a < z_to z) (hj : j ≤ 4) : AM mX7_ofArea 0 0 [.ref p, .int (nI a), .int (nI j)] n f (am_is (some (.int (m_areaA z a j))) n f) := by
  have h0 := hG.1
  have hs := hG.2.2.2.2.1.1
  have ht := hG.2.2.2.2.1.2.2.1
  show AW mX7_ofArea 0 0 0 [some (.ref p), some (.int (nI a)), some (.int (nI j))] [] n f _
  refine am_iload_n 0 dX7_ofArea_0 rfl ?_
  refine am_if_lt 1 15 dX7_ofArea_1 rfl (fun c1 => absurd c1 (nI_pos (by omega))) (fun c1 => ?_)
  refine am_iload_n 4 dX7_ofArea_4 rfl ?_
  refine am_aload_n 5 dX7_ofArea_5 rfl ?_
  refine am_getfield 6 dX7_ofArea_6 fX7_39 (by repeat (first | assumption | exact am_ue | refine am_un (by first | assumption | decide | omega) ?_)) rfl ?_
  refine am_getfield 9 dX7_ofArea_9 fX7_66 (by repeat (first | assumption | exact am_ue | refine am_un (by first | assumption | decide | omega) ?_)) rfl ?_
  refine am_icmp_lt 12 25 dX7_ofArea_12 rfl (fun c12 => ?_) (fun c12 => absurd (nI_lt ha (by omega)) c12)
  refine am_iload_n 25 dX7_ofArea_25 rfl ?_
  refine am_iconst 26 (v := 4) dX7_ofArea_26 (by decide) ?_
  refine am_S2 27 (mc' := 0) (ms' := 0) (rc := 0) (rs := 0) dX7_ofArea_27 lX7_153 ⟨by decide, by decide⟩ (Nat.le_of_ble_eq_true rfl) (Nat.le_of_ble_eq_true rfl) (s_ckWhat (m := 4) hj (by decide)) ?_
  refine am_is_ct ?_
  refine am_aload_n 30 dX7_ofArea_30 rfl ?_
  refine am_iload_n 31 dX7_ofArea_31 rfl ?_
  refine am_iload_n 32 dX7_ofArea_32 rfl ?_
  refine am_V2 33 (mc' := 0) (ms' := 0) (rc := 0) (rs := 0) dX7_ofArea_33 lX7_191 ⟨by decide, by decide⟩ (by repeat (first | assumption | exact am_ue | refine am_un (by first | assumption | decide | omega) ?_)) (Nat.le_of_ble_eq_true rfl) (Nat.le_of_ble_eq_true rfl) (s_areaAnswer hG ha hj) ?_
  refine am_is_ct ?_
  exact am_ireturn 36 dX7_ofArea_36 rfl rfl ⟨rfl, rfl, rfl⟩
theorem s_ofContact {x j : Nat} (hG : m_G f p T z) (hx : x < 5) (hj : j ≤ 5) (hth : (z_K z x).1 0 ≠ 0) : AM mX7_ofContact 0 0 [.ref p, .int (nI x), .int (nI j)] n f (am_is (some (.int (m_conA (z_K z x) j))) n f) := by
  have h0 := hG.1
  have h5 := hG.2.2.2.2.2.1
  have hh := h5.1
  have hh1 := h5.2.1
  have hc := h5.2.2 x hx
  show AW mX7_ofContact 0 0 0 [some (.ref p), some (.int (nI x)), some (.int (nI j))] [] n f _
  refine am_aload_n 0 dX7_ofContact_0 rfl ?_
  refine am_iload_n 1 dX7_ofContact_1 rfl ?_
  refine am_V1 2 (mc' := 0) (ms' := 0) (rc := 0) (rs := 0) dX7_ofContact_2 lX7_171 ⟨by decide, by decide⟩ (by repeat (first | assumption | exact am_ue | refine am_un (by first | assumption | decide | omega) ?_)) (Nat.le_of_ble_eq_true rfl) (Nat.le_of_ble_eq_true rfl) (s_ckName hG hx hth) ?_
  refine am_is_ct ?_
  refine am_iload_n 5 dX7_ofContact_5 rfl ?_
  refine am_iconst 6 (v := 5) dX7_ofContact_6 (by decide) ?_
  refine am_S2 7 (mc' := 0) (ms' := 0) (rc := 0) (rs := 0) dX7_ofContact_7 lX7_153 ⟨by decide, by decide⟩ (Nat.le_of_ble_eq_true rfl) (Nat.le_of_ble_eq_true rfl) (s_ckWhat (m := 5) hj (by decide)) ?_
  refine am_is_ct ?_
  refine am_aload_n 10 dX7_ofContact_10 rfl ?_
  refine am_getfield 11 dX7_ofContact_11 fX7_48 (by repeat (first | assumption | exact am_ue | refine am_un (by first | assumption | decide | omega) ?_)) rfl ?_
  refine am_getfield 14 dX7_ofContact_14 fX7_124 (by repeat (first | assumption | exact am_ue | refine am_un (by first | assumption | decide | omega) ?_)) rfl ?_
  refine am_iload_n 17 dX7_ofContact_17 rfl ?_
  refine am_aaload 18 dX7_ofContact_18 rfl (by repeat (first | assumption | exact am_ue | refine am_un (by first | assumption | decide | omega) ?_)) (am_ix hx (by decide)) ?_
  rw [nI_clamp (n := x) (by omega), m_rf_at (by omega), show va_rf (some (p + 34 + 2 + 2 * x)) = Value.ref (p + 34 + 2 + 2 * x) from rfl]
  refine am_iload_n 19 dX7_ofContact_19 rfl ?_
  refine am_S2 20 (mc' := 0) (ms' := 0) (rc := 0) (rs := 0) dX7_ofContact_20 lX7_174 ⟨by decide, by decide⟩ (Nat.le_of_ble_eq_true rfl) (Nat.le_of_ble_eq_true rfl) (s_contactAnswer hc hj) ?_
  refine am_is_ct ?_
  exact am_ireturn 23 dX7_ofContact_23 rfl rfl ⟨rfl, rfl, rfl⟩
theorem s_ofContactT {x : Nat} {w : Int32} (hG : m_G f p T z) (hx : x < 5) (hth : (z_K z x).1 0 = 0) : AM mX7_ofContact 1 6 [.ref p, .int (nI x), .int w] n f (am_th 2 n f) := by
  have h0 := hG.1
  show AW mX7_ofContact 1 6 0 [some (.ref p), some (.int (nI x)), some (.int w)] [] n f _
  refine am_aload_n 0 dX7_ofContact_0 rfl ?_
  refine am_iload_n 1 dX7_ofContact_1 rfl ?_
  refine am_V1 2 (mc' := 1) (ms' := 6) (rc := 0) (rs := 0) dX7_ofContact_2 lX7_171 ⟨by decide, by decide⟩ (by repeat (first | assumption | exact am_ue | refine am_un (by first | assumption | decide | omega) ?_)) (Nat.le_of_ble_eq_true rfl) (Nat.le_of_ble_eq_true rfl) (s_ckNameT hG hx hth) ?_
  rintro o n' f' ⟨rfl, rfl, rfl⟩
  exact am_ctO rfl ⟨rfl, rfl, rfl⟩
theorem s_where {x j : Nat} (hG : m_G f p T z) (hx : x < 5) (hj : j ≤ 4) (hth : (z_K z x).1 0 ≠ 0) : AM mX7_where 0 0 [.ref p, .int (nI x), .int (nI j)] n f (am_is (some (.double (FP.f2d (m_whA (z_K z x) j)))) n f) := by
  have h0 := hG.1
  have h5 := hG.2.2.2.2.2.1
  have hk := (hG.2.2.2.2.2.2.1.1 x hx).1
  have hh := h5.1
  have hh1 := h5.2.1
  have hc := h5.2.2 x hx
  show AW mX7_where 0 0 0 [some (.ref p), some (.int (nI x)), some (.int (nI j))] [] n f _
  refine am_aload_n 0 dX7_where_0 rfl ?_
  refine am_iload_n 1 dX7_where_1 rfl ?_
  refine am_V1 2 (mc' := 0) (ms' := 0) (rc := 0) (rs := 0) dX7_where_2 lX7_171 ⟨by decide, by decide⟩ (by repeat (first | assumption | exact am_ue | refine am_un (by first | assumption | decide | omega) ?_)) (Nat.le_of_ble_eq_true rfl) (Nat.le_of_ble_eq_true rfl) (s_ckName hG hx hth) ?_
  refine am_is_ct ?_
  refine am_iload_n 5 dX7_where_5 rfl ?_
  refine am_iconst 6 (v := 4) dX7_where_6 (by decide) ?_
  refine am_S2 7 (mc' := 0) (ms' := 0) (rc := 0) (rs := 0) dX7_where_7 lX7_153 ⟨by decide, by decide⟩ (Nat.le_of_ble_eq_true rfl) (Nat.le_of_ble_eq_true rfl) (s_ckWhat (m := 4) hj (by decide)) ?_
  refine am_is_ct ?_
  refine am_aload_n 10 dX7_where_10 rfl ?_
  refine am_getfield 11 dX7_where_11 fX7_48 (by repeat (first | assumption | exact am_ue | refine am_un (by first | assumption | decide | omega) ?_)) rfl ?_
  refine am_getfield 14 dX7_where_14 fX7_124 (by repeat (first | assumption | exact am_ue | refine am_un (by first | assumption | decide | omega) ?_)) rfl ?_
  refine am_iload_n 17 dX7_where_17 rfl ?_
  refine am_aaload 18 dX7_where_18 rfl (by repeat (first | assumption | exact am_ue | refine am_un (by first | assumption | decide | omega) ?_)) (am_ix hx (by decide)) ?_
  rw [nI_clamp (n := x) (by omega), m_rf_at (by omega), show va_rf (some (p + 34 + 2 + 2 * x)) = Value.ref (p + 34 + 2 + 2 * x) from rfl]
  refine am_iload_n 19 dX7_where_19 rfl ?_
  refine am_S2 20 (mc' := 0) (ms' := 0) (rc := 0) (rs := 0) dX7_where_20 lX7_178 ⟨by decide, by decide⟩ (Nat.le_of_ble_eq_true rfl) (Nat.le_of_ble_eq_true rfl) (s_whereAnswer hc hk hj) ?_
  refine am_is_ct ?_
  exact am_dreturn 23 dX7_where_23 rfl ⟨rfl, rfl, rfl⟩
theorem s_apart {x y : Nat} (hG : m_G f p T z) (hx : x < 5) (hy : y < 5) (hth : (z_K z x).1 0 ≠ 0) (hth2 : (z_K z y).1 0 ≠ 0) : AM mX7_apart 0 0 [.ref p, .int (nI x), .int (nI y)] n f (am_is (some (.double (FP.f2d (m_dist ((z_K z x).2.1 0) ((z_K z x).2.1 1) ((z_K z y).2.1 0) ((z_K z y).2.1 1))))) n f) := by
  have h0 := hG.1
  have h5 := hG.2.2.2.2.2.1
  have hk := (hG.2.2.2.2.2.2.1.1 x hx).1
  have hk2 := (hG.2.2.2.2.2.2.1.1 y hy).1
  have hh := h5.1
  have hh1 := h5.2.1
  have hc := h5.2.2 x hx
  have hc2 := h5.2.2 y hy
  have hcx := hc.1
  obtain ⟨-, -, d3⟩ := f_dist hk.1 hk.2.1 hk2.1 hk2.2.1
  show AW mX7_apart 0 0 0 [some (.ref p), some (.int (nI x)), some (.int (nI y))] [] n f _
  refine am_aload_n 0 dX7_apart_0 rfl ?_
  refine am_iload_n 1 dX7_apart_1 rfl ?_
  refine am_V1 2 (mc' := 0) (ms' := 0) (rc := 0) (rs := 0) dX7_apart_2 lX7_171 ⟨by decide, by decide⟩ (by repeat (first | assumption | exact am_ue | refine am_un (by first | assumption | decide | omega) ?_)) (Nat.le_of_ble_eq_true rfl) (Nat.le_of_ble_eq_true rfl) (s_ckName hG hx hth) ?_
  refine am_is_ct ?_
  refine am_aload_n 5 dX7_apart_5 rfl ?_
  refine am_iload_n 6 dX7_apart_6 rfl ?_
  refine am_V1 7 (mc' := 0) (ms' := 0) (rc := 0) (rs := 0) dX7_apart_7 lX7_171 ⟨by decide, by decide⟩ (by repeat (first | assumption | exact am_ue | refine am_un (by first | assumption | decide | omega) ?_)) (Nat.le_of_ble_eq_true rfl) (Nat.le_of_ble_eq_true rfl) (s_ckName hG hy hth2) ?_
  refine am_is_ct ?_
  refine am_aload_n 10 dX7_apart_10 rfl ?_
  refine am_getfield 11 dX7_apart_11 fX7_48 (by repeat (first | assumption | exact am_ue | refine am_un (by first | assumption | decide | omega) ?_)) rfl ?_
  refine am_getfield 14 dX7_apart_14 fX7_124 (by repeat (first | assumption | exact am_ue | refine am_un (by first | assumption | decide | omega) ?_)) rfl ?_
  refine am_iload_n 17 dX7_apart_17 rfl ?_
  refine am_aaload 18 dX7_apart_18 rfl (by repeat (first | assumption | exact am_ue | refine am_un (by first | assumption | decide | omega) ?_)) (am_ix hx (by decide)) ?_
  rw [nI_clamp (n := x) (by omega), m_rf_at (by omega), show va_rf (some (p + 34 + 2 + 2 * x)) = Value.ref (p + 34 + 2 + 2 * x) from rfl]
  refine am_aload_n 19 dX7_apart_19 rfl ?_
  refine am_getfield 20 dX7_apart_20 fX7_48 (by repeat (first | assumption | exact am_ue | refine am_un (by first | assumption | decide | omega) ?_)) rfl ?_
  refine am_getfield 23 dX7_apart_23 fX7_124 (by repeat (first | assumption | exact am_ue | refine am_un (by first | assumption | decide | omega) ?_)) rfl ?_
  refine am_iload_n 26 dX7_apart_26 rfl ?_
  refine am_aaload 27 dX7_apart_27 rfl (by repeat (first | assumption | exact am_ue | refine am_un (by first | assumption | decide | omega) ?_)) (am_ix hy (by decide)) ?_
  rw [nI_clamp (n := y) (by omega), m_rf_at (by omega), show va_rf (some (p + 34 + 2 + 2 * y)) = Value.ref (p + 34 + 2 + 2 * y) from rfl]
  refine am_V1 28 (mc' := 0) (ms' := 0) (rc := 0) (rs := 0) dX7_apart_28 lX7_182 ⟨by decide, by decide⟩ (by repeat (first | assumption | exact am_ue | refine am_un (by first | assumption | decide | omega) ?_)) (Nat.le_of_ble_eq_true rfl) (Nat.le_of_ble_eq_true rfl) (s_distanceTo hc hc2 hk hk2) ?_
  refine am_is_ct ?_
  refine am_f2d 31 dX7_apart_31 (d_f2d d3.1) ?_
  exact am_dreturn 32 dX7_apart_32 rfl ⟨rfl, rfl, rfl⟩
theorem s_guess {x a : Nat} {isY : Bool} (hG : m_G f p T z) (hx : x < 5) (ha : a ≤ 9) (hth : (z_K z x).1 0 ≠ 0) : AM mX7_guess 0 0 [.ref p, .int (nI x), .int (nI a), .int (m_bi isY)] n f (am_is (some (.double (FP.f2d (m_guess (z_K z x) (nI a) isY)))) n f) := by
  have h0 := hG.1
  have h5 := hG.2.2.2.2.2.1
  have hk := (hG.2.2.2.2.2.2.1.1 x hx).1
  have hh := h5.1
  have hh1 := h5.2.1
  have hc := h5.2.2 x hx
  have hcx := hc.1
  have hg := f_guess (isY := isY) hk ha
  show AW mX7_guess 0 0 0 [some (.ref p), some (.int (nI x)), some (.int (nI a)), some (.int (m_bi isY))] [] n f _
  refine am_aload_n 0 dX7_guess_0 rfl ?_
  refine am_iload_n 1 dX7_guess_1 rfl ?_
  refine am_V1 2 (mc' := 0) (ms' := 0) (rc := 0) (rs := 0) dX7_guess_2 lX7_171 ⟨by decide, by decide⟩ (by repeat (first | assumption | exact am_ue | refine am_un (by first | assumption | decide | omega) ?_)) (Nat.le_of_ble_eq_true rfl) (Nat.le_of_ble_eq_true rfl) (s_ckName hG hx hth) ?_
  refine am_is_ct ?_
  refine am_iload_n 5 dX7_guess_5 rfl ?_
  refine am_if_lt 6 15 dX7_guess_6 rfl (fun c6 => absurd c6 (nI_pos (by omega))) (fun c6 => ?_)
  refine am_iload_n 9 dX7_guess_9 rfl ?_
  refine am_bipush 10 (v := 9) dX7_guess_10 (by decide) ?_
  refine am_icmp_le 12 25 dX7_guess_12 rfl (fun c12 => ?_) (fun c12 => absurd ((nI_leI (b := 9) (by omega) (by decide)).mpr ha) c12)
  refine am_aload_n 25 dX7_guess_25 rfl ?_
  refine am_getfield 26 dX7_guess_26 fX7_48 (by repeat (first | assumption | exact am_ue | refine am_un (by first | assumption | decide | omega) ?_)) rfl ?_
  refine am_getfield 29 dX7_guess_29 fX7_124 (by repeat (first | assumption | exact am_ue | refine am_un (by first | assumption | decide | omega) ?_)) rfl ?_
  refine am_iload_n 32 dX7_guess_32 rfl ?_
  refine am_aaload 33 dX7_guess_33 rfl (by repeat (first | assumption | exact am_ue | refine am_un (by first | assumption | decide | omega) ?_)) (am_ix hx (by decide)) ?_
  rw [nI_clamp (n := x) (by omega), m_rf_at (by omega), show va_rf (some (p + 34 + 2 + 2 * x)) = Value.ref (p + 34 + 2 + 2 * x) from rfl]
  refine am_iload_n 34 dX7_guess_34 rfl ?_
  refine am_iload_n 35 dX7_guess_35 rfl ?_
  refine am_V2 36 (mc' := 0) (ms' := 0) (rc := 0) (rs := 0) dX7_guess_36 lX7_200 ⟨by decide, by decide⟩ (by repeat (first | assumption | exact am_ue | refine am_un (by first | assumption | decide | omega) ?_)) (Nat.le_of_ble_eq_true rfl) (Nat.le_of_ble_eq_true rfl) (s_guessAt hc hk ha) ?_
  refine am_is_ct ?_
  refine am_f2d 39 dX7_guess_39 (d_f2d hg.1) ?_
  exact am_dreturn 40 dX7_guess_40 rfl ⟨rfl, rfl, rfl⟩
end Gla
