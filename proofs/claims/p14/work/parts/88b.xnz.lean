/-! ===== no place is a negative zero, frames kept ===== -/
section XNz
variable {sig : Nat → Int32} {bst : Int64} {K K' : Nat → m_K} {d : Nat}
theorem x_i2f : ∀ p, p < 57 → FP.i2f (nI p) ≠ 0x80000000 := by decide +kernel
theorem x_nz.eqs (h : x_nz K) (e : x_eqs K K') : x_nz K' := fun j hj h0 => by
  obtain ⟨e1, e2⟩ := e j hj
  have h1 := e1.mpr h0
  have e3 := e2 h1
  rw [← e3.2.2.2.1, ← e3.2.2.2.2]
  exact h j hj h1
theorem x_place56 {c : Nat} (c48 : c < 48) (c20 : 20 ≤ sig c) : m_placeN sig c false ≤ 56 ∧ m_placeN sig c true ≤ 56 := by
  have a := (m_place_spec (isY := false) c48 c20).2.2
  have b := (m_place_spec (isY := true) c48 c20).2.2
  simp only [if_true, Bool.false_eq_true, if_false] at a b
  omega
theorem x_nz.fr (h : x_nz K) (hk : ∀ j, j < 5 → m_kOk (K j)) (hb : m_bOk (fun j => (K j).1 0 ≠ 0) (m_pks sig 48).length bst) (hP : (m_pks sig 48).length ≤ 48) (h1 : 1 ≤ d) (h2 : d ≤ 4) : x_nz (x_fr sig bst d K) := by
  have a : x_nz (x_all (m_fol sig bst d) K 5) := fun j hj h0 => by
    have e0 : x_all (m_fol sig bst d) K 5 j = m_fol sig bst d K j := if_pos hj
    rw [e0] at h0 ⊢
    rcases m_pk_ok hb (by omega) hj with e | ⟨kk, hkk, hth, e⟩
    · have ef : m_fol sig bst d K j = K j := if_neg fun z => z.2 e
      rw [ef] at h0 ⊢
      exact h j hj h0
    · have e2 : m_pkc sig (m_pk bst j) = (m_pks sig 48).getD kk 0 := by
        unfold m_pkc
        rw [e, nI_clamp (n := kk) (by omega)]
      have hn : m_pk bst j ≠ -1 := by
        rw [e]
        exact r_nm1 (by omega)
      obtain ⟨c48, c20⟩ := m_pks48 hkk
      obtain ⟨px, py⟩ := x_place56 c48 c20
      by_cases hp : 14 < m_reg sig ((m_pks sig 48).getD kk 0)
      · have ef : m_fol sig bst d K j = m_gone (K j) := (if_pos ⟨hth, hn⟩).trans (if_pos (by rw [e2]; exact hp))
        rw [ef] at h0
        exact absurd rfl h0
      · have ef : m_fol sig bst d K j = m_move (K j) (nI (m_placeN sig ((m_pks sig 48).getD kk 0) false)) (nI (m_placeN sig ((m_pks sig 48).getD kk 0) true)) (nI d) := by
          refine (if_pos ⟨hth, hn⟩).trans ?_
          rw [if_neg (by rw [e2]; exact hp), e2]
        rw [ef]
        have kx := hk j hj
        obtain ⟨n1, n2⟩ := h j hj hth
        exact ⟨f_nz_add kx.1.1 (m_st_ok kx.1 px h1 h2).2.2.1.1 n1, f_nz_add kx.2.1.1 (m_st_ok kx.2.1 py h1 h2).2.2.1.1 n2⟩
  have b : x_nz (x_all (m_mis bst) (x_all (m_fol sig bst d) K 5) 5) := fun j hj h0 => by
    generalize x_all (m_fol sig bst d) K 5 = F at a h0 ⊢
    have e0 : x_all (m_mis bst) F 5 j = m_mis bst F j := if_pos hj
    rw [e0] at h0 ⊢
    by_cases q : (F j).1 0 ≠ 0 ∧ m_pk bst j = -1
    · by_cases r : (F j).1 5 = 0
      · have ef : m_mis bst F j = m_miss (F j) := (if_pos q).trans (if_pos r)
        rw [ef]
        exact a j hj q.1
      · have ef : m_mis bst F j = m_gone (m_miss (F j)) := (if_pos q).trans (if_neg r)
        rw [ef] at h0
        exact absurd rfl h0
    · have ef : m_mis bst F j = F j := if_neg q
      rw [ef] at h0 ⊢
      exact a j hj h0
  unfold x_fr
  generalize x_all (m_mis bst) (x_all (m_fol sig bst d) K 5) 5 = F at b
  have : ∀ k, k ≤ (m_pks sig 48).length → x_nz (x_bN sig bst F k) := by
    intro k
    induction k with
    | zero => exact fun _ => b
    | succ k ih =>
      intro hk1
      have i := ih (by omega)
      show x_nz (x_b1 sig bst (x_bN sig bst F k) k)
      by_cases q : x_nb sig bst k ∧ x_ff (x_bN sig bst F k) < 5
      · rw [x_b1_yes q.1 q.2]
        intro j hj h0
        by_cases e : j = x_ff (x_bN sig bst F k)
        · rw [e, am_up_eq]
          obtain ⟨c48, c20⟩ := m_pks48 (sig := sig) (j := k) (by omega)
          obtain ⟨px, py⟩ := x_place56 c48 c20
          exact ⟨x_i2f _ (by omega), x_i2f _ (by omega)⟩
        · rw [am_up_ne e] at h0 ⊢
          exact i j hj h0
      · rw [x_b1_no q]
        exact i
  exact this _ (Nat.le_refl _)
variable {f : Nat → am_C} {p T : Nat} {z z1 : m_Z} {li : Int32} {cs cs1 : Nat → Option Nat} {G G1 : Nat → m_K}
theorem x_frM_nz (hG : m_G f p T z) (h : x_nz (z_K z)) : x_nz (x_frM (m_sg z) (z_lim z) (z_d z) (z_K z)) := by
  by_cases q : m_hum (m_sg z) ≤ z_lim z
  · rw [x_frM_yes q]
    have h6 := hG.2.2.2.2.2.2.1
    have hP := m_pks_len (sig := m_sg z) (k := 48)
    exact h.fr (fun j hj => (h6.1 j hj).1) (m_best_ok (m_W_ok fun j hj => (h6.1 j hj).1.2.2.2.2.2.2.2.2) (by omega)) hP hG.2.2.2.2.2.2.2.1 hG.2.2.2.2.2.2.2.2.1
  · rw [x_frM_no q]
    exact h
/-- behind a frame -/
theorem l_X.fr (h : l_X z li cs G) (hG : m_G f p T z) (el : z_lim z1 = z_lim z) (e : x_eqs (x_frM (m_sg z) (z_lim z) (z_d z) (z_K z)) (z_K z1)) (r : x_R (x_frM (m_sg z) li (z_d z) (z_K z)) cs1 G1) : l_X z1 li cs1 G1 := ⟨h.1.trans el.symm, by have r2 := r; rw [h.1] at r2; exact r2.eqs e, (x_frM_nz hG h.2.2).eqs e⟩
/-- nobody on either side -/
theorem l_X.nobody (el : li = z_lim z1) (h1 : ∀ j, j < 5 → (z_K z1 j).1 0 = 0) (h2 : ∀ j, j < 5 → cs j = none) : l_X z1 li cs G :=
  ⟨el, ⟨fun j hj => ⟨⟨fun q => absurd (h1 j hj) q, fun q => absurd (h2 j hj) q⟩, fun c hc => by rw [h2 j hj] at hc; cases hc⟩, fun i j c hi _ a => by rw [h2 i hi] at a; cases a⟩, fun j hj h0 => absurd (h1 j hj) h0⟩
theorem x_xy (hG : m_G f p T z) : ∀ j, j < 5 → m_xy (z_K z j) := fun j hj => (hG.2.2.2.2.2.2.1.1 j hj).1.2.2.2.2.2.2.2.2
theorem x_m5 (hG : m_G f p T z) : ∀ j, j < 5 → (z_K z j).1 0 ≠ 0 → (z_K z j).1 5 = 0 ∨ (z_K z j).1 5 = 1 := fun j hj h0 => ((hG.2.2.2.2.2.2.1.1 j hj).2.2 h0).2.1
/-- the way between two that are there, on both sides -/
theorem x_apart {i j ci cj : Nat} (hG : m_G f p T z) (h : l_X z li cs G) (hi : i < 5) (hj : j < 5) (hci : cs i = some ci) (hcj : cs j = some cj) : (z_K z i).1 0 ≠ 0 ∧ (z_K z j).1 0 ≠ 0 ∧ m_dist ((z_K z i).2.1 0) ((z_K z i).2.1 1) ((z_K z j).2.1 0) ((z_K z j).2.1 1) = r_dist ((G ci).2.1 0) ((G ci).2.1 1) ((G cj).2.1 0) ((G cj).2.1 1) ∧ FP.Core.FFin (m_dist ((z_K z i).2.1 0) ((z_K z i).2.1 1) ((z_K z j).2.1 0) ((z_K z j).2.1 1)) := by
  obtain ⟨a1, a2⟩ := h.2.1.1 i hi
  obtain ⟨b1, b2⟩ := h.2.1.1 j hj
  have ta := a1.mpr (by rw [hci]; exact Option.some_ne_none _)
  have tb := b1.mpr (by rw [hcj]; exact Option.some_ne_none _)
  obtain ⟨-, -, -, e1, e2⟩ := a2 ci hci
  obtain ⟨-, -, -, e3, e4⟩ := b2 cj hcj
  have ki := (hG.2.2.2.2.2.2.1.1 i hi).1
  have kj := (hG.2.2.2.2.2.2.1.1 j hj).1
  obtain ⟨d1, d2, d3⟩ := f_dist ki.1 ki.2.1 kj.1 kj.2.1
  obtain ⟨n1, n2⟩ := h.2.2 i hi ta
  refine ⟨ta, tb, ?_, d3.1⟩
  rw [e1, e2, e3, e4]
  exact f_dist_eq ki.1.1 ki.2.1.1 kj.1.1 kj.2.1.1 d1.1 d2.1 n1 n2
/-- nobody of that name, on both sides -/
theorem x_nobody {x : Int32} (h : l_X z li cs G) (hx : ∀ k, k < 5 → x = nI k → cs k = none) : ∀ k, k < 5 → x = nI k → (z_K z k).1 0 = 0 := fun k hk e => Classical.byContradiction fun q => (h.2.1.1 k hk).1.mp q (hx k hk e)
theorem l_dc {a : UInt64} {x : UInt32} (h : a = FP.f2d x) (hx : FP.Core.FFin x) : Op.cmpValue (FP.dcmp a (FP.f2d x)) .l = 0 := by
  rw [h, f_dcmp hx hx]
  exact (f_cmp hx hx .l).2.1.mpr rfl
end XNz
