/-! ===== the hand's names and the model's, side by side ===== -/
section XPure
variable {cs : Nat → Option Nat} {G : Nat → m_K} {K K' : Nat → m_K} {sig : Nat → Int32} {bst : Int64} {d : Nat} {gb : Nat → Int32}
/-- the same contacts there, with the same that is known of them -/
def x_R (K : Nat → m_K) (cs : Nat → Option Nat) (G : Nat → m_K) : Prop := (∀ j, j < 5 → ((K j).1 0 ≠ 0 ↔ cs j ≠ none) ∧ ∀ c, cs j = some c → x_eq (G c) (K j)) ∧ ∀ i j c, i < 5 → j < 5 → cs i = some c → cs j = some c → i = j
theorem x_R.off {j : Nat} (h : x_R K cs G) {κ : m_K} (h0 : κ.1 0 = 0) : x_R (va_up K j κ) (va_up cs j none) G := by
  refine ⟨fun i hi => ?_, fun i k c hi hk h1 h2 => ?_⟩
  · by_cases q : i = j
    · rw [q, am_up_eq, am_up_eq]
      exact ⟨⟨fun z => absurd h0 z, fun z => absurd rfl z⟩, fun c hc => by cases hc⟩
    · rw [am_up_ne q, am_up_ne q]
      exact h.1 i hi
  · by_cases q : i = j
    · rw [q, am_up_eq] at h1
      cases h1
    · by_cases q2 : k = j
      · rw [q2, am_up_eq] at h2
        cases h2
      · rw [am_up_ne q] at h1
        rw [am_up_ne q2] at h2
        exact h.2 i k c hi hk h1 h2
theorem x_R.set {j c : Nat} {κ κ' : m_K} (h : x_R K cs G) (hj : j < 5) (hc : cs j = some c) (h0 : κ.1 0 ≠ 0) (e : x_eq κ' κ) : x_R (va_up K j κ) cs (va_up G c κ') := by
  refine ⟨fun i hi => ?_, h.2⟩
  by_cases q : i = j
  · subst q
    rw [am_up_eq]
    exact ⟨⟨fun _ => by rw [hc]; exact Option.some_ne_none _, fun _ => h0⟩, fun c' hc' => by
      rw [hc] at hc'
      cases hc'
      rw [am_up_eq]
      exact e⟩
  · rw [am_up_ne q]
    exact ⟨(h.1 i hi).1, fun c' hc' => by
      rw [am_up_ne fun z => q (h.2 i j c hi hj (by rw [hc', z]) hc)]
      exact (h.1 i hi).2 c' hc'⟩
theorem x_R.new {j c : Nat} {κ κ' : m_K} (h : x_R K cs G) (hj : j < 5) (hn : ∀ i c', i < 5 → cs i = some c' → c' ≠ c) (h0 : κ.1 0 ≠ 0) (e : x_eq κ' κ) : x_R (va_up K j κ) (va_up cs j (some c)) (va_up G c κ') := by
  refine ⟨fun i hi => ?_, fun i k c' hi hk h1 h2 => ?_⟩
  · by_cases q : i = j
    · subst q
      rw [am_up_eq, am_up_eq]
      exact ⟨⟨fun _ => Option.some_ne_none _, fun _ => h0⟩, fun c' hc' => by
        cases hc'
        rw [am_up_eq]
        exact e⟩
    · rw [am_up_ne q, am_up_ne q]
      exact ⟨(h.1 i hi).1, fun c' hc' => by
        rw [am_up_ne (hn i c' hi hc')]
        exact (h.1 i hi).2 c' hc'⟩
  · by_cases q : i = j
    · by_cases q2 : k = j
      · rw [q, q2]
      · rw [q, am_up_eq] at h1
        cases h1
        rw [am_up_ne q2] at h2
        exact absurd rfl (hn k c hk h2)
    · by_cases q2 : k = j
      · rw [q2, am_up_eq] at h2
        cases h2
        rw [am_up_ne q] at h1
        exact absurd rfl (hn i c hi h1)
      · rw [am_up_ne q] at h1
        rw [am_up_ne q2] at h2
        exact h.2 i k c' hi hk h1 h2
theorem x_R.congr (h : x_R K cs G) (e : ∀ j, j < 5 → K' j = K j) : x_R K' cs G := ⟨fun j hj => by rw [e j hj]; exact h.1 j hj, h.2⟩
/-- those that agree on what is known -/
def x_eqs (K K' : Nat → m_K) : Prop := ∀ j, j < 5 → ((K j).1 0 ≠ 0 ↔ (K' j).1 0 ≠ 0) ∧ ((K j).1 0 ≠ 0 → x_eq (K j) (K' j))
theorem x_eq.trans {a b c : m_K} (h : x_eq a b) (h' : x_eq b c) : x_eq a c := ⟨h.1.trans h'.1, h.2.1.trans h'.2.1, h.2.2.1.trans h'.2.2.1, h.2.2.2.1.trans h'.2.2.2.1, h.2.2.2.2.trans h'.2.2.2.2⟩
theorem x_eq.refl {a : m_K} : x_eq a a := ⟨rfl, rfl, rfl, rfl, rfl⟩
theorem x_eqs.refl : x_eqs K K := fun _ _ => ⟨Iff.rfl, fun _ => x_eq.refl⟩
theorem x_R.eqs (h : x_R K cs G) (e : x_eqs K K') : x_R K' cs G := by
  refine ⟨fun j hj => ?_, h.2⟩
  obtain ⟨h1, h2⟩ := h.1 j hj
  obtain ⟨e1, e2⟩ := e j hj
  exact ⟨e1.symm.trans h1, fun c hc => (h2 c hc).trans (e2 (h1.mpr (by rw [hc]; exact Option.some_ne_none _)))⟩
/-- all, by one that goes over the names -/
def x_all (F : (Nat → m_K) → Nat → m_K) (K : Nat → m_K) (k : Nat) : Nat → m_K := fun j => if j < k then F K j else K j
theorem x_all_up {F : (Nat → m_K) → Nat → m_K} {k : Nat} : x_all F K (k + 1) = va_up (x_all F K k) k (F K k) := by
  funext j
  unfold x_all
  by_cases q : j = k
  · rw [q, am_up_eq, if_pos (by omega)]
  · rw [am_up_ne q]
    by_cases q2 : j < k
    · rw [if_pos q2, if_pos (by omega)]
    · rw [if_neg q2, if_neg (by omega)]
theorem x_all_at {F : (Nat → m_K) → Nat → m_K} {k : Nat} : x_all F K k k = K k := if_neg (Nat.lt_irrefl k)
theorem x_move {κ κ' : m_K} {px py d : Int32} (h : x_eq κ κ') : x_eq (m_move κ px py d) (m_move κ' px py d) := by
  refine ⟨rfl, rfl, rfl, ?_, ?_⟩
  · show FP.fadd (κ.2.1 0) (m_st (κ.2.1 0) px d) = FP.fadd (κ'.2.1 0) (m_st (κ'.2.1 0) px d)
    rw [h.2.2.2.1]
  · show FP.fadd (κ.2.1 1) (m_st (κ.2.1 1) py d) = FP.fadd (κ'.2.1 1) (m_st (κ'.2.1 1) py d)
    rw [h.2.2.2.2]
theorem x_rmove {κ κ' : m_K} {px py d : Int32} (h : x_eq κ κ') : x_eq (r_move κ px py d) (m_move κ' px py d) := by
  refine ⟨rfl, rfl, rfl, ?_, ?_⟩
  · show FP.fadd (κ.2.1 0) (m_st (κ.2.1 0) px d) = FP.fadd (κ'.2.1 0) (m_st (κ'.2.1 0) px d)
    rw [h.2.2.2.1]
  · show FP.fadd (κ.2.1 1) (m_st (κ.2.1 1) py d) = FP.fadd (κ'.2.1 1) (m_st (κ'.2.1 1) py d)
    rw [h.2.2.2.2]
theorem x_miss {κ κ' : m_K} (h : x_eq κ κ') : x_eq (m_miss κ) (m_miss κ') := ⟨h.1, h.2.1, congrArg (· + 1) h.2.2.1, h.2.2.2.1, h.2.2.2.2⟩
/-- the first name that is free; 5 if none is -/
def x_ff (K : Nat → m_K) : Nat := if (K 0).1 0 = 0 then 0 else if (K 1).1 0 = 0 then 1 else if (K 2).1 0 = 0 then 2 else if (K 3).1 0 = 0 then 3 else if (K 4).1 0 = 0 then 4 else 5
theorem x_ff_at {m : Nat} (hm : m < 5) (h : (K m).1 0 = 0) (hb : ∀ j, j < m → (K j).1 0 ≠ 0) : x_ff K = m := by
  have hc : m = 0 ∨ m = 1 ∨ m = 2 ∨ m = 3 ∨ m = 4 := by omega
  unfold x_ff
  rcases hc with rfl | rfl | rfl | rfl | rfl
  · rw [if_pos h]
  · rw [if_neg (hb 0 (by omega)), if_pos h]
  · rw [if_neg (hb 0 (by omega)), if_neg (hb 1 (by omega)), if_pos h]
  · rw [if_neg (hb 0 (by omega)), if_neg (hb 1 (by omega)), if_neg (hb 2 (by omega)), if_pos h]
  · rw [if_neg (hb 0 (by omega)), if_neg (hb 1 (by omega)), if_neg (hb 2 (by omega)), if_neg (hb 3 (by omega)), if_pos h]
theorem x_ff_5 (h : ∀ j, j < 5 → (K j).1 0 ≠ 0) : x_ff K = 5 := by
  unfold x_ff
  rw [if_neg (h 0 (by omega)), if_neg (h 1 (by omega)), if_neg (h 2 (by omega)), if_neg (h 3 (by omega)), if_neg (h 4 (by omega))]
theorem x_ff_eqs (e : x_eqs K K') : x_ff K = x_ff K' := by
  have z : ∀ j, j < 5 → ((K j).1 0 = 0 ↔ (K' j).1 0 = 0) := fun j hj => ⟨fun h => Classical.byContradiction fun q => (e j hj).1.mpr q h, fun h => Classical.byContradiction fun q => (e j hj).1.mp q h⟩
  unfold x_ff
  simp only [z 0 (by omega), z 1 (by omega), z 2 (by omega), z 3 (by omega), z 4 (by omega)]
/-- a peak that nobody follows, and that is no palm -/
def x_nb (sig : Nat → Int32) (bst : Int64) (k : Nat) : Prop := (∀ j, j < 5 → m_pk bst j ≠ nI k) ∧ ¬ 14 < m_reg sig ((m_pks sig 48).getD k 0)
/-- what a peak begins -/
noncomputable def x_b1 (sig : Nat → Int32) (bst : Int64) (K : Nat → m_K) (k : Nat) : Nat → m_K := @ite _ (x_nb sig bst k ∧ x_ff K < 5) (Classical.propDecidable _) (va_up K (x_ff K) (m_begin (K (x_ff K)) (nI (m_placeN sig ((m_pks sig 48).getD k 0) false)) (nI (m_placeN sig ((m_pks sig 48).getD k 0) true)) 0)) K
noncomputable def x_bN (sig : Nat → Int32) (bst : Int64) (K : Nat → m_K) : Nat → Nat → m_K
  | 0 => K
  | k + 1 => x_b1 sig bst (x_bN sig bst K k) k
theorem x_b1_no {k : Nat} (h : ¬ (x_nb sig bst k ∧ x_ff K < 5)) : x_b1 sig bst K k = K := if_neg h
theorem x_b1_yes {k : Nat} (h : x_nb sig bst k) (h2 : x_ff K < 5) : x_b1 sig bst K k = va_up K (x_ff K) (m_begin (K (x_ff K)) (nI (m_placeN sig ((m_pks sig 48).getD k 0) false)) (nI (m_placeN sig ((m_pks sig 48).getD k 0) true)) 0) := if_pos ⟨h, h2⟩
theorem x_begin {κ κ' : m_K} {px py a b : Int32} : x_eq (m_begin κ px py a) (m_begin κ' px py b) := ⟨rfl, rfl, rfl, rfl, rfl⟩
theorem x_eqs.up {j : Nat} {κ κ' : m_K} (h : x_eqs K K') (h0 : κ.1 0 ≠ 0) (h0' : κ'.1 0 ≠ 0) (e : x_eq κ κ') : x_eqs (va_up K j κ) (va_up K' j κ') := fun i hi => by
  by_cases q : i = j
  · rw [q, am_up_eq, am_up_eq]
    exact ⟨⟨fun _ => h0', fun _ => h0⟩, fun _ => e⟩
  · rw [am_up_ne q, am_up_ne q]
    exact h i hi
/-- what a frame makes of the hand -/
noncomputable def x_fr (sig : Nat → Int32) (bst : Int64) (d : Nat) (K : Nat → m_K) : Nat → m_K := x_bN sig bst (x_all (m_mis bst) (x_all (m_fol sig bst d) K 5) 5) (m_pks sig 48).length
theorem x_R.same {F : (Nat → m_K) → Nat → m_K} {k : Nat} (h : x_R (x_all F K k) cs G) (e : F K k = K k) : x_R (x_all F K (k + 1)) cs G := h.congr fun j _ => by
  rw [x_all_up]
  by_cases q : j = k
  · rw [q, am_up_eq, e, x_all_at]
  · rw [am_up_ne q]
theorem x_R.at {F : (Nat → m_K) → Nat → m_K} {k c : Nat} (h : x_R (x_all F K k) cs G) (hk : k < 5) (hc : cs k = some c) : (K k).1 0 ≠ 0 ∧ x_eq (G c) (K k) := by
  obtain ⟨h1, h2⟩ := h.1 k hk
  rw [x_all_at] at h1 h2
  exact ⟨h1.mpr (by rw [hc]; exact Option.some_ne_none _), h2 c hc⟩
theorem x_R.no {F : (Nat → m_K) → Nat → m_K} {k : Nat} (h : x_R (x_all F K k) cs G) (hk : k < 5) (hc : cs k = none) : (K k).1 0 = 0 := by
  obtain ⟨h1, -⟩ := h.1 k hk
  rw [x_all_at] at h1
  exact Classical.byContradiction fun q => h1.mp q hc
theorem x_mis_no {j : Nat} (h : (K j).1 0 = 0 ∨ m_pk bst j ≠ -1) : m_mis bst K j = K j := if_neg fun z => h.elim (fun q => z.1 q) fun q => q z.2
theorem x_mis_step {j c : Nat} {cs2 : Nat → Option Nat} (h : x_R (x_all (m_mis bst) K j) cs G) (hj : j < 5) (hc : cs j = some c) (h5 : (K j).1 5 = 0 ∨ (K j).1 5 = 1) (hb : m_pk bst j = -1) (q : (¬ 2 ≤ (G c).1 5 + 1 ∧ cs2 = cs) ∨ (2 ≤ (G c).1 5 + 1 ∧ cs2 = va_up cs j none)) : x_R (x_all (m_mis bst) K (j + 1)) cs2 (va_up G c (m_miss (G c))) := by
  obtain ⟨h1, h2⟩ := h.at hj hc
  have hs := h.set (κ := m_miss (K j)) hj hc h1 (x_miss h2)
  rw [h2.2.2.1] at q
  rw [x_all_up]
  rcases h5 with e | e
  · rw [show m_mis bst K j = m_miss (K j) from (if_pos ⟨h1, hb⟩).trans (if_pos e)]
    rcases q with ⟨-, rfl⟩ | ⟨q, -⟩
    · exact hs
    · rw [e] at q
      exact absurd q (by decide)
  · rw [show m_mis bst K j = m_gone (m_miss (K j)) from (if_pos ⟨h1, hb⟩).trans (if_neg (by rw [e]; decide))]
    rcases q with ⟨q, -⟩ | ⟨-, rfl⟩
    · rw [e] at q
      exact absurd (by decide) q
    · have := hs.off (j := j) (κ := m_gone (m_miss (K j))) rfl
      rw [am_uu] at this
      exact this
theorem x_fol_no {j : Nat} (h : (K j).1 0 = 0 ∨ m_pk bst j = -1) : m_fol sig bst d K j = K j := if_neg fun z => h.elim (fun q => z.1 q) fun q => z.2 q
theorem x_fol_palm {j c p : Nat} (h : x_R (x_all (m_fol sig bst d) K j) cs G) (hj : j < 5) (hc : cs j = some c) (hb : m_pk bst j = nI p) (hp : p < 48) (hr : 14 < m_reg sig ((m_pks sig 48).getD p 0)) : x_R (x_all (m_fol sig bst d) K (j + 1)) (va_up cs j none) G := by
  obtain ⟨h1, h2⟩ := h.at hj hc
  have e : m_pkc sig (m_pk bst j) = (m_pks sig 48).getD p 0 := by
    unfold m_pkc
    rw [hb, nI_clamp (n := p) (by omega)]
  have hn : m_pk bst j ≠ -1 := by
    rw [hb]
    exact r_nm1 (by omega)
  rw [x_all_up, show m_fol sig bst d K j = m_gone (K j) from (if_pos ⟨h1, hn⟩).trans (if_pos (by rw [e]; exact hr))]
  exact h.off rfl
theorem x_fol_go {j c p : Nat} (h : x_R (x_all (m_fol sig bst d) K j) cs G) (hj : j < 5) (hc : cs j = some c) (hb : m_pk bst j = nI p) (hp : p < 48) (hr : ¬ 14 < m_reg sig ((m_pks sig 48).getD p 0)) : x_R (x_all (m_fol sig bst d) K (j + 1)) cs (va_up G c (m_move (G c) (nI (m_placeN sig ((m_pks sig 48).getD p 0) false)) (nI (m_placeN sig ((m_pks sig 48).getD p 0) true)) (nI d))) := by
  obtain ⟨h1, h2⟩ := h.at hj hc
  have e : m_pkc sig (m_pk bst j) = (m_pks sig 48).getD p 0 := by
    unfold m_pkc
    rw [hb, nI_clamp (n := p) (by omega)]
  have hn : m_pk bst j ≠ -1 := by
    rw [hb]
    exact r_nm1 (by omega)
  rw [x_all_up, show m_fol sig bst d K j = m_move (K j) (nI (m_placeN sig (m_pkc sig (m_pk bst j)) false)) (nI (m_placeN sig (m_pkc sig (m_pk bst j)) true)) (nI d) from (if_pos ⟨h1, hn⟩).trans (if_neg (by rw [e]; exact hr)), e]
  exact h.set hj hc h1 (x_move h2)
theorem x_beg_new {k k1 N : Nat} (h : x_R (x_bN sig bst K k) cs G) (hk1 : k1 < 5) (hc : cs k1 = none) (hb : ∀ j, j < k1 → cs j ≠ none) (hn : ∀ i c', i < 5 → cs i = some c' → c' ≠ N) (nb : x_nb sig bst k) : x_R (x_bN sig bst K (k + 1)) (va_up cs k1 (some N)) (va_up G N (r_new (nI (m_placeN sig ((m_pks sig 48).getD k 0) false)) (nI (m_placeN sig ((m_pks sig 48).getD k 0) true)) 0)) := by
  have e : x_ff (x_bN sig bst K k) = k1 := x_ff_at hk1 (Classical.byContradiction fun q => (h.1 k1 hk1).1.mp q hc) fun j hj => (h.1 j (by omega)).1.mpr (hb j hj)
  show x_R (x_b1 sig bst (x_bN sig bst K k) k) _ _
  rw [x_b1_yes nb (by omega), e]
  exact h.new hk1 hn (fun z => by cases z) ⟨rfl, rfl, rfl, rfl, rfl⟩
theorem x_beg_full {k : Nat} (h : x_R (x_bN sig bst K k) cs G) (hf : ∀ j, j < 5 → cs j ≠ none) : x_R (x_bN sig bst K (k + 1)) cs G := by
  have e : x_ff (x_bN sig bst K k) = 5 := x_ff_5 fun j hj => (h.1 j hj).1.mpr (hf j hj)
  show x_R (x_b1 sig bst (x_bN sig bst K k) k) _ _
  rw [x_b1_no fun z => by omega]
  exact h
theorem x_beg_no {k : Nat} (h : x_R (x_bN sig bst K k) cs G) (nb : ¬ x_nb sig bst k) : x_R (x_bN sig bst K (k + 1)) cs G := by
  show x_R (x_b1 sig bst (x_bN sig bst K k) k) _ _
  rw [x_b1_no fun z => nb z.1]
  exact h
/-- the misses of those that follow -/
theorem x_fol5 {j : Nat} (h : (K j).1 0 ≠ 0 → (K j).1 5 = 0 ∨ (K j).1 5 = 1) (h0 : (m_fol sig bst d K j).1 0 ≠ 0) : (m_fol sig bst d K j).1 5 = 0 ∨ (m_fol sig bst d K j).1 5 = 1 := by
  by_cases q : (K j).1 0 ≠ 0 ∧ m_pk bst j ≠ -1
  · by_cases r : 14 < m_reg sig (m_pkc sig (m_pk bst j))
    · have e : m_fol sig bst d K j = m_gone (K j) := (if_pos q).trans (if_pos r)
      rw [e] at h0
      exact absurd rfl h0
    · have e : m_fol sig bst d K j = m_move (K j) _ _ _ := (if_pos q).trans (if_neg r)
      rw [e]
      exact Or.inl rfl
  · have e : m_fol sig bst d K j = K j := if_neg q
    rw [e] at h0 ⊢
    exact h h0
/-- what a call of frame makes of the hand -/
noncomputable def x_frM (sig : Nat → Int32) (li : Int32) (d : Nat) (K : Nat → m_K) : Nat → m_K := if m_hum sig ≤ li then x_fr sig (m_best (m_W sig K) (m_pks sig 48).length) d K else K
theorem x_frM_no {li : Int32} (h : ¬ m_hum sig ≤ li) : x_frM sig li d K = K := if_neg h
theorem x_frM_yes {li : Int32} (h : m_hum sig ≤ li) : x_frM sig li d K = x_fr sig (m_best (m_W sig K) (m_pks sig 48).length) d K := if_pos h
end XPure
