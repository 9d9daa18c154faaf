/-! ===== the hand and its counts, to the letter ===== -/
section YPure
/-- hand, counts, began, lifted, cancelled, frames taken and tossed -/
abbrev y_H : Type := (Nat → m_K) × (Nat → Nat → Nat) × Nat × Nat × Nat × (Int32 × Int32)
def y_K (S : y_H) : Nat → m_K := S.1
def y_C (S : y_H) : Nat → Nat → Nat := S.2.1
def y_be (S : y_H) : Nat := S.2.2.1
def y_li (S : y_H) : Nat := S.2.2.2.1
def y_ca (S : y_H) : Nat := S.2.2.2.2.1
def y_t (S : y_H) : Int32 × Int32 := S.2.2.2.2.2
variable {C C' : Nat → Nat → Nat} {ar : Int32} {kd cl : Nat} {up : Bool} {κ : m_K} {sig : Nat → Int32} {bst : Int64} {d told : Nat} {A : Nat → Nat → Int32} {S : y_H}
/-- a kind counted, or uncounted, in a contact's area -/
def y_ct (C : Nat → Nat → Nat) (ar : Int32) (kd : Nat) (up : Bool) : Nat → Nat → Nat := if ar = -1 then C else m_cu C ar.toNatClampNeg kd (if up then C ar.toNatClampNeg kd + 1 else C ar.toNatClampNeg kd - 1)
theorem y_ct_of (h : m_Ct C C' ar kd up) : C' = y_ct C ar kd up := by
  rcases h with ⟨rfl, rfl⟩ | ⟨a, ha, rfl, rfl⟩
  · exact (if_pos rfl).symm
  · unfold y_ct
    rw [if_neg (r_nm1 (k := a) (by omega)), nI_clamp (n := a) (by omega)]
/-- the counts once a contact is cancelled -/
def y_can (C : Nat → Nat → Nat) (κ : m_K) : Nat → Nat → Nat := if κ.1 6 = 0 then C else y_ct C (κ.1 7) (κ.1 6).toNatClampNeg false
theorem y_can_of (hcl : cl < 4) (e6 : κ.1 6 = nI cl) (h : (cl = 0 ∧ C' = C) ∨ (cl ≠ 0 ∧ m_Ct C C' (κ.1 7) cl false)) : C' = y_can C κ := by
  unfold y_can
  rcases h with ⟨rfl, rfl⟩ | ⟨h0, h⟩
  · rw [if_pos (show κ.1 6 = 0 from e6)]
  · rw [if_neg (show ¬ κ.1 6 = 0 from fun z => h0 ((nI_eq (b := 0) (by omega) (by decide)).mp (e6.symm.trans z))), e6, nI_clamp (n := cl) (by omega)]
    exact y_ct_of h
/-- the counts once one is lifted -/
def y_tap (C : Nat → Nat → Nat) (κ : m_K) : Nat → Nat → Nat := if κ.1 6 = 0 ∧ κ.1 4 ≤ 4 then y_ct C (κ.1 7) 0 true else C
/-- a contact follows its peak, or is cancelled -/
def y_fol (sig : Nat → Int32) (bst : Int64) (d : Nat) (S : y_H) (j : Nat) : y_H := if (y_K S j).1 0 ≠ 0 ∧ m_pk bst j ≠ -1 then (if 14 < m_reg sig (m_pkc sig (m_pk bst j)) then (va_up (y_K S) j (m_gone (y_K S j)), y_can (y_C S) (y_K S j), y_be S, y_li S, y_ca S + 1, y_t S) else (va_up (y_K S) j (m_move (y_K S j) (nI (m_placeN sig (m_pkc sig (m_pk bst j)) false)) (nI (m_placeN sig (m_pkc sig (m_pk bst j)) true)) (nI d)), y_C S, y_be S, y_li S, y_ca S, y_t S)) else S
/-- a contact is missed, or lifted -/
def y_mis (bst : Int64) (S : y_H) (j : Nat) : y_H := if (y_K S j).1 0 ≠ 0 ∧ m_pk bst j = -1 then (if (y_K S j).1 5 = 0 then (va_up (y_K S) j (m_miss (y_K S j)), y_C S, y_be S, y_li S, y_ca S, y_t S) else (va_up (y_K S) j (m_gone (m_miss (y_K S j))), y_tap (y_C S) (y_K S j), y_be S, y_li S + 1, y_ca S, y_t S)) else S
/-- how far two are apart is kept by both -/
def y_rem (m : Nat) (K : Nat → m_K) (k : Nat) : Nat → m_K := if (K k).1 0 ≠ 0 then va_up (va_up K m (m_fa (K m) (va_up (K m).2.2 k (m_dist ((K m).2.1 0) ((K m).2.1 1) ((K k).2.1 0) ((K k).2.1 1))))) k (m_fa (va_up K m (m_fa (K m) (va_up (K m).2.2 k (m_dist ((K m).2.1 0) ((K m).2.1 1) ((K k).2.1 0) ((K k).2.1 1)))) k) (va_up (va_up K m (m_fa (K m) (va_up (K m).2.2 k (m_dist ((K m).2.1 0) ((K m).2.1 1) ((K k).2.1 0) ((K k).2.1 1)))) k).2.2 m (m_dist ((K m).2.1 0) ((K m).2.1 1) ((K k).2.1 0) ((K k).2.1 1)))) else K
/-- a peak begins a contact -/
noncomputable def y_beg (sig : Nat → Int32) (bst : Int64) (A : Nat → Nat → Int32) (told : Nat) (S : y_H) (k : Nat) : y_H := @ite _ (x_nb sig bst k ∧ x_ff (y_K S) < 5) (Classical.propDecidable _) (y_it (y_rem (x_ff (y_K S))) (va_up (y_K S) (x_ff (y_K S)) (m_begin (y_K S (x_ff (y_K S))) (nI (m_placeN sig ((m_pks sig 48).getD k 0) false)) (nI (m_placeN sig ((m_pks sig 48).getD k 0) true)) (y_ar A ((m_pks sig 48).getD k 0) told))) 5, y_C S, y_be S + 1, y_li S, y_ca S, y_t S) S
def y_cl (κ : m_K) : Prop := κ.1 0 ≠ 0 ∧ κ.1 1 ≠ 0 ∧ κ.1 6 = 0
/-- a claim -/
def y_one (S : y_H) (k kd : Nat) : y_H := (va_up (y_K S) k (m_claim (y_K S k) kd), y_ct (y_C S) ((y_K S k).1 7) kd true, y_be S, y_li S, y_ca S, y_t S)
def y_pc (K : Nat → m_K) (m k : Nat) : Prop := ¬ Op.cmpValue (FP.fcmp (m_ws (FP.fsub (m_dist ((K m).2.1 0) ((K m).2.1 1) ((K k).2.1 0) ((K k).2.1 1)) ((K m).2.2 k))) 1098907648) .l ≤ 0
noncomputable def y_pin2 (m : Nat) (S : y_H) (k : Nat) : y_H := @ite _ (m < k ∧ y_cl (y_K S m) ∧ y_cl (y_K S k) ∧ y_pc (y_K S) m k) (Classical.propDecidable _) (y_one (y_one S m 1) k 1) S
noncomputable def y_pin (S : y_H) (m : Nat) : y_H := y_it (y_pin2 m) S 5
noncomputable def y_alo (S : y_H) (k : Nat) : y_H := @ite _ (y_cl (y_K S k)) (Classical.propDecidable _) (if ¬ Op.cmpValue (FP.fcmp ((y_K S k).2.1 4) 1094713344) .l ≤ 0 then y_one S k 2 else if 8 ≤ (y_K S k).1 4 then y_one S k 3 else S) S
/-- a frame's whole taking -/
noncomputable def y_take (sig : Nat → Int32) (bst : Int64) (d : Nat) (A : Nat → Nat → Int32) (told : Nat) (S : y_H) : y_H := y_it y_alo (y_it y_pin (y_it (y_beg sig bst A told) (y_it (y_mis bst) (y_it (y_fol sig bst d) S 5) 5) (m_pks sig 48).length) 5) 5
/-- one more frame taken, one more tossed -/
def y_tk (S : y_H) : y_H := (y_K S, y_C S, y_be S, y_li S, y_ca S, (y_t S).1 + 1, (y_t S).2)
def y_ts (S : y_H) : y_H := (y_K S, y_C S, y_be S, y_li S, y_ca S, (y_t S).1, (y_t S).2 + 1)
noncomputable def y_frM (sig : Nat → Int32) (li : Int32) (d : Nat) (A : Nat → Nat → Int32) (told : Nat) (S : y_H) : y_H := if m_hum sig ≤ li then y_tk (y_take sig (m_best (m_W sig (y_K S)) (m_pks sig 48).length) d A told S) else y_ts S
/-- all are cancelled -/
def y_wip (S : y_H) (j : Nat) : y_H := if (y_K S j).1 0 ≠ 0 then (va_up (y_K S) j (m_gone (y_K S j)), y_can (y_C S) (y_K S j), y_be S, y_li S, y_ca S + 1, y_t S) else S
theorem y_fol_at {j : Nat} : ∀ k, k ≤ j → y_K (y_it (y_fol sig bst d) S k) j = y_K S j
  | 0, _ => rfl
  | k + 1, h => by
    show y_K (y_fol sig bst d (y_it (y_fol sig bst d) S k) k) j = _
    rw [← y_fol_at k (by omega)]
    unfold y_fol
    repeat' split
    all_goals first | rfl | exact am_up_ne (by omega)
theorem y_mis_at {j : Nat} : ∀ k, k ≤ j → y_K (y_it (y_mis bst) S k) j = y_K S j
  | 0, _ => rfl
  | k + 1, h => by
    show y_K (y_mis bst (y_it (y_mis bst) S k) k) j = _
    rw [← y_mis_at k (by omega)]
    unfold y_mis
    repeat' split
    all_goals first | rfl | exact am_up_ne (by omega)
theorem y_fol_be : ∀ k, y_be (y_it (y_fol sig bst d) S k) = y_be S
  | 0 => rfl
  | k + 1 => by
    show y_be (y_fol sig bst d (y_it (y_fol sig bst d) S k) k) = _
    rw [← y_fol_be k]
    unfold y_fol
    repeat' split
    all_goals rfl
theorem y_mis_be : ∀ k, y_be (y_it (y_mis bst) S k) = y_be S
  | 0 => rfl
  | k + 1 => by
    show y_be (y_mis bst (y_it (y_mis bst) S k) k) = _
    rw [← y_mis_be k]
    unfold y_mis
    repeat' split
    all_goals rfl
theorem y_pin2_low {m : Nat} : ∀ k, k ≤ m + 1 → y_it (y_pin2 m) S k = S
  | 0, _ => rfl
  | k + 1, h => by
    show y_pin2 m (y_it (y_pin2 m) S k) k = S
    rw [y_pin2_low k (by omega)]
    unfold y_pin2
    rw [if_neg fun z => by omega]
theorem y_frM_no {li : Int32} (h : ¬ m_hum sig ≤ li) : y_frM sig li d A told S = y_ts S := if_neg h
theorem y_frM_yes {li : Int32} (h : m_hum sig ≤ li) : y_frM sig li d A told S = y_tk (y_take sig (m_best (m_W sig (y_K S)) (m_pks sig 48).length) d A told S) := if_pos h
/-- what every step leaves as it was -/
theorem y_it_t {F : y_H → Nat → y_H} (h : ∀ S k, y_t (F S k) = y_t S) : ∀ k, y_t (y_it F S k) = y_t S
  | 0 => rfl
  | k + 1 => (h _ k).trans (y_it_t h k)
theorem y_t_mk {a : Nat → m_K} {b : Nat → Nat → Nat} {c e g : Nat} {w : Int32 × Int32} : y_t (a, b, c, e, g, w) = w := rfl
theorem y_take_t : y_t (y_take sig bst d A told S) = y_t S := by
  unfold y_take
  rw [y_it_t, y_it_t, y_it_t, y_it_t, y_it_t]
  · intro S k
    unfold y_fol
    repeat' split
    all_goals first | exact y_t_mk | rfl
  · intro S k
    unfold y_mis
    repeat' split
    all_goals first | exact y_t_mk | rfl
  · intro S k
    unfold y_beg
    split <;> first | exact y_t_mk | rfl
  · intro S k
    show y_t (y_it (y_pin2 k) S 5) = _
    refine y_it_t (fun S k => ?_) 5
    unfold y_pin2
    split <;> first | exact y_t_mk | rfl
  · intro S k
    unfold y_alo
    repeat' split
    all_goals first | exact y_t_mk | rfl
end YPure
