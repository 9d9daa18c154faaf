/-! ===== the pairing once more: its best way is the least of all ways ===== -/
section XDp
variable {P : Nat} {far : Nat → Nat → Nat} {ok : Nat → Nat → Prop} {W : Nat → Nat → Int64}
/-- a way for the names of a set: each has a peak of its own that it may have -/
def x_way (ok : Nat → Nat → Prop) (P s : Nat) (d : Nat → Nat) : Prop := (∀ j, j < 5 → s.testBit j = true → d j < P ∧ ok j (d j)) ∧ ∀ i j, i < 5 → j < 5 → s.testBit i = true → s.testBit j = true → d i = d j → i = j
def x_w1 (far : Nat → Nat → Nat) (s : Nat) (d : Nat → Nat) (j : Nat) : Nat := if s.testBit j then far j (d j) * 2 ^ 30 + d j * m_dg j else 0
def x_wt (far : Nat → Nat → Nat) (s : Nat) (d : Nat → Nat) : Nat := x_w1 far s d 0 + x_w1 far s d 1 + x_w1 far s d 2 + x_w1 far s d 3 + x_w1 far s d 4
/-- the weights are those of these distances -/
def x_W (far : Nat → Nat → Nat) (ok : Nat → Nat → Prop) (W : Nat → Nat → Int64) (P : Nat) : Prop := ∀ name, name < 5 → ∀ k, k < P → (ok name k ∧ far name k ≤ 256 ∧ W name k = lN (far name k * 2 ^ 30 + k * m_dg name)) ∨ (¬ ok name k ∧ W name k = m_IMP)
/-- the least of all ways of a set, or none -/
def x_min (far : Nat → Nat → Nat) (ok : Nat → Nat → Prop) (P s : Nat) (v : Int64) : Prop := (∃ a, a < 2 ^ 60 ∧ v = lN a ∧ (∃ d, x_way ok P s d ∧ a = x_wt far s d) ∧ ∀ d, x_way ok P s d → a ≤ x_wt far s d) ∨ (v = m_IMP ∧ ∀ d, ¬ x_way ok P s d)
theorem x_lt {a : Nat} (h : a < 2 ^ 60) : lN a < m_IMP := by
  rw [show m_IMP = lN (2 ^ 60) from rfl, m_lNlt (by omega) (by omega)]
  exact h
theorem x_irr {v : Int64} : ¬ v < v := fun h => by
  have := Int64.lt_iff_toInt_lt.mp h
  omega
theorem x_offN_out {we : Nat → Int64} {set x : Nat} (hx : x ≠ set) : ∀ (i : Nat) (g : Nat → Int64), m_offN we set i g x = g x := by
  intro i
  induction i with
  | zero => exact fun _ => rfl
  | succ i ih =>
    intro g
    show m_offS we set i (m_offN we set i g) x = _
    unfold m_offS
    split
    · rw [am_up_ne hx, ih]
    · exact ih g
/-- the weight of a way, with and without one name -/
theorem x_wt_sm {s i : Nat} {d : Nat → Nat} (hs : s < 32) (hi : i < 5) (hb : s.testBit i = true) : x_wt far s d = x_wt far (m_sm s i) d + (far i (d i) * 2 ^ 30 + d i * m_dg i) := by
  have hne : m_sm s i ≠ s := by
    have : ∀ s, s < 32 → ∀ i, i < 5 → s.testBit i = true → m_sm s i ≠ s := by decide +kernel
    exact this s hs i hi hb
  have b3 := ((m_sm_32 s hs i hi).2.2 hne).2.2
  have e : ∀ j, j < 5 → j ≠ i → x_w1 far (m_sm s i) d j = x_w1 far s d j := fun j hj hne2 => by
    unfold x_w1
    rw [b3 j hj]
    simp [hne2]
  have e0 : x_w1 far (m_sm s i) d i = 0 := by
    unfold x_w1
    rw [b3 i hi]
    simp
  have e1 : x_w1 far s d i = far i (d i) * 2 ^ 30 + d i * m_dg i := by
    unfold x_w1
    rw [if_pos hb]
  have hc : i = 0 ∨ i = 1 ∨ i = 2 ∨ i = 3 ∨ i = 4 := by omega
  unfold x_wt
  rcases hc with rfl | rfl | rfl | rfl | rfl
  · rw [e 1 (by omega) (by omega), e 2 (by omega) (by omega), e 3 (by omega) (by omega), e 4 (by omega) (by omega), e0, e1]; omega
  · rw [e 0 (by omega) (by omega), e 2 (by omega) (by omega), e 3 (by omega) (by omega), e 4 (by omega) (by omega), e0, e1]; omega
  · rw [e 0 (by omega) (by omega), e 1 (by omega) (by omega), e 3 (by omega) (by omega), e 4 (by omega) (by omega), e0, e1]; omega
  · rw [e 0 (by omega) (by omega), e 1 (by omega) (by omega), e 2 (by omega) (by omega), e 4 (by omega) (by omega), e0, e1]; omega
  · rw [e 0 (by omega) (by omega), e 1 (by omega) (by omega), e 2 (by omega) (by omega), e 3 (by omega) (by omega), e0, e1]; omega
theorem x_wt_congr {s : Nat} {d d' : Nat → Nat} (h : ∀ j, j < 5 → s.testBit j = true → d j = d' j) : x_wt far s d = x_wt far s d' := by
  have e : ∀ j, j < 5 → x_w1 far s d j = x_w1 far s d' j := fun j hj => by
    unfold x_w1
    split
    · next hb => rw [h j hj hb]
    · rfl
  unfold x_wt
  rw [e 0 (by omega), e 1 (by omega), e 2 (by omega), e 3 (by omega), e 4 (by omega)]
theorem x_w1_le {s : Nat} {d : Nat → Nat} {j : Nat} (hj : j < 5) (h : s.testBit j = true → d j < 63 ∧ far j (d j) ≤ 256) : x_w1 far s d j ≤ 2 ^ 39 := by
  unfold x_w1
  split
  · next hb =>
    obtain ⟨h1, h2⟩ := h hb
    have h3 : m_dg j ≤ 64 ^ 4 := Nat.pow_le_pow_right (by decide) (by omega)
    have h4 := Nat.mul_le_mul (Nat.le_of_lt h1) h3
    omega
  · omega
theorem x_wt_le {s : Nat} {d : Nat → Nat} (h : ∀ j, j < 5 → s.testBit j = true → d j < 63 ∧ far j (d j) ≤ 256) : x_wt far s d < 2 ^ 60 := by
  have a0 := x_w1_le (far := far) (s := s) (d := d) (j := 0) (by omega) (h 0 (by omega))
  have a1 := x_w1_le (far := far) (s := s) (d := d) (j := 1) (by omega) (h 1 (by omega))
  have a2 := x_w1_le (far := far) (s := s) (d := d) (j := 2) (by omega) (h 2 (by omega))
  have a3 := x_w1_le (far := far) (s := s) (d := d) (j := 3) (by omega) (h 3 (by omega))
  have a4 := x_w1_le (far := far) (s := s) (d := d) (j := 4) (by omega) (h 4 (by omega))
  unfold x_wt
  omega
/-- a way with one more peak: it has the new peak for one name, or for none -/
theorem x_way_split {s : Nat} {d : Nat → Nat} (hs : s < 32) (h : x_way ok (P + 1) s d) : x_way ok P s d ∨ ∃ i, i < 5 ∧ s.testBit i = true ∧ d i = P ∧ ok i P ∧ x_way ok P (m_sm s i) d := by
  by_cases q : ∃ i, i < 5 ∧ s.testBit i = true ∧ d i = P
  · obtain ⟨i, hi, hb, e⟩ := q
    have hne : m_sm s i ≠ s := by
      have : ∀ s, s < 32 → ∀ i, i < 5 → s.testBit i = true → m_sm s i ≠ s := by decide +kernel
      exact this s hs i hi hb
    have b3 := ((m_sm_32 s hs i hi).2.2 hne).2.2
    have hok := (h.1 i hi hb).2
    rw [e] at hok
    refine Or.inr ⟨i, hi, hb, e, hok, fun j hj hbj => ?_, fun a c ha hc hba hbc he => ?_⟩
    · rw [b3 j hj, Bool.and_eq_true, decide_eq_true_eq] at hbj
      have hj1 := h.1 j hj hbj.1
      refine ⟨?_, hj1.2⟩
      rcases Nat.lt_or_ge (d j) P with g | g
      · exact g
      · exact absurd (h.2 j i hj hi hbj.1 hb (by omega)) hbj.2
    · rw [b3 a ha, Bool.and_eq_true] at hba
      rw [b3 c hc, Bool.and_eq_true] at hbc
      exact h.2 a c ha hc hba.1 hbc.1 he
  · refine Or.inl ⟨fun j hj hb => ⟨?_, (h.1 j hj hb).2⟩, h.2⟩
    have h1 := (h.1 j hj hb).1
    rcases Nat.lt_or_ge (d j) P with g | g
    · exact g
    · exact absurd ⟨j, hj, hb, by omega⟩ q
theorem x_way_mono {s : Nat} {d : Nat → Nat} (h : x_way ok P s d) : x_way ok (P + 1) s d := ⟨fun j hj hb => ⟨Nat.lt_succ_of_lt (h.1 j hj hb).1, (h.1 j hj hb).2⟩, h.2⟩
theorem x_way_add {s i : Nat} {d : Nat → Nat} (hs : s < 32) (hi : i < 5) (hb : s.testBit i = true) (hok : ok i P) (h : x_way ok P (m_sm s i) d) : x_way ok (P + 1) s (va_up d i P) := by
  have hne : m_sm s i ≠ s := by
    have : ∀ s, s < 32 → ∀ i, i < 5 → s.testBit i = true → m_sm s i ≠ s := by decide +kernel
    exact this s hs i hi hb
  have b3 := ((m_sm_32 s hs i hi).2.2 hne).2.2
  have hbit : ∀ j, j < 5 → s.testBit j = true → j ≠ i → (m_sm s i).testBit j = true := fun j hj hb hne => by rw [b3 j hj, hb]; simp [hne]
  refine ⟨fun j hj hbj => ?_, fun a c ha hc hba hbc he => ?_⟩
  · by_cases q : j = i
    · rw [q, am_up_eq]; exact ⟨Nat.lt_succ_self P, hok⟩
    · rw [am_up_ne q]
      have := h.1 j hj (hbit j hj hbj q)
      exact ⟨by omega, this.2⟩
  · by_cases qa : a = i
    · by_cases qc : c = i
      · rw [qa, qc]
      · rw [qa, am_up_eq, am_up_ne qc] at he
        have := (h.1 c hc (hbit c hc hbc qc)).1
        omega
    · by_cases qc : c = i
      · rw [qc, am_up_eq, am_up_ne qa] at he
        have := (h.1 a ha (hbit a ha hba qa)).1
        omega
      · rw [am_up_ne qa, am_up_ne qc] at he
        exact h.2 a c ha hc (hbit a ha hba qa) (hbit c hc hbc qc) he
/-- the least over some ways of a set, or none is there -/
def x_least (far : Nat → Nat → Nat) (s : Nat) (Q : (Nat → Nat) → Prop) (v : Int64) : Prop := (∃ a, a < 2 ^ 60 ∧ v = lN a ∧ (∃ d, Q d ∧ a = x_wt far s d) ∧ ∀ d, Q d → a ≤ x_wt far s d) ∨ (v = m_IMP ∧ ∀ d, ¬ Q d)
theorem x_least.congr {s : Nat} {Q Q' : (Nat → Nat) → Prop} {v : Int64} (h : x_least far s Q v) (e : ∀ d, Q d ↔ Q' d) : x_least far s Q' v := by
  rcases h with ⟨a, h0, h1, ⟨d, h2, h3⟩, h4⟩ | ⟨h1, h2⟩
  · exact Or.inl ⟨a, h0, h1, ⟨d, (e d).mp h2, h3⟩, fun d hd => h4 d ((e d).mpr hd)⟩
  · exact Or.inr ⟨h1, fun d hd => h2 d ((e d).mpr hd)⟩
theorem x_least.none {s : Nat} {Q Q' : (Nat → Nat) → Prop} {v : Int64} (h : x_least far s Q v) (n : ∀ d, ¬ Q' d) : x_least far s (fun d => Q d ∨ Q' d) v := h.congr fun d => ⟨Or.inl, fun q => q.resolve_right (n d)⟩
theorem x_least.or {s : Nat} {Q Q' : (Nat → Nat) → Prop} {v v' : Int64} (h : x_least far s Q v) (h' : x_least far s Q' v') (hv : v' < m_IMP) : x_least far s (fun d => Q d ∨ Q' d) (if v' < v then v' else v) := by
  rcases h' with ⟨a', b0, b1, ⟨d', b2, b3⟩, b4⟩ | ⟨b1, -⟩
  · rcases h with ⟨a, h0, h1, ⟨d, h2, h3⟩, h4⟩ | ⟨h1, h2⟩
    · subst h1
      subst b1
      have e : (lN a' < lN a) = (a' < a) := propext (m_lNlt (by omega) (by omega))
      by_cases q : a' < a
      · rw [if_pos (e.mpr q)]
        refine Or.inl ⟨a', b0, rfl, ⟨d', Or.inr b2, b3⟩, fun x hx => ?_⟩
        rcases hx with hx | hx
        · have := h4 x hx; omega
        · exact b4 x hx
      · rw [if_neg (fun z => q (e.mp z))]
        refine Or.inl ⟨a, h0, rfl, ⟨d, Or.inl h2, h3⟩, fun x hx => ?_⟩
        rcases hx with hx | hx
        · exact h4 x hx
        · have := b4 x hx; omega
    · subst h1
      rw [if_pos hv]
      exact Or.inl ⟨a', b0, b1, ⟨d', Or.inr b2, b3⟩, fun x hx => b4 x (hx.resolve_left (h2 x))⟩
  · rw [b1] at hv
    exact absurd hv x_irr
/-- the ways in which the new peak, if it is had, is had by this name -/
theorem x_cand {s i : Nat} {u we : Int64} (hs : s < 32) (hi : i < 5) (hb : s.testBit i = true) (hP : P < 63) (hW : x_W far ok W (P + 1)) (h : x_least far (m_sm s i) (x_way ok P (m_sm s i)) u) : (¬ ok i P ∨ u = m_IMP → ∀ d, ¬ (d i = P ∧ x_way ok (P + 1) s d)) ∧ (ok i P → u ≠ m_IMP → x_least far s (fun d => d i = P ∧ x_way ok (P + 1) s d) (u + lN (far i P * 2 ^ 30 + P * m_dg i))) := by
  have hne : m_sm s i ≠ s := by
    have : ∀ s, s < 32 → ∀ i, i < 5 → s.testBit i = true → m_sm s i ≠ s := by decide +kernel
    exact this s hs i hi hb
  have b3 := ((m_sm_32 s hs i hi).2.2 hne).2.2
  have down : ∀ d, d i = P → x_way ok (P + 1) s d → ok i P ∧ x_way ok P (m_sm s i) d := by
    intro d e hd
    rcases x_way_split hs hd with g | ⟨k, hk, hbk, ek, hok, hw⟩
    · have := (g.1 i hi hb).1
      omega
    · obtain rfl : k = i := hd.2 k i hk hi hbk hb (by omega)
      exact ⟨hok, hw⟩
  refine ⟨fun hno d hd => ?_, fun hok hu => ?_⟩
  · obtain ⟨h1, h2⟩ := down d hd.1 hd.2
    rcases hno with g | g
    · exact g h1
    · rcases h with ⟨a, a0, a1, -⟩ | ⟨-, a2⟩
      · have := x_lt a0
        rw [← a1, g] at this
        exact x_irr this
      · exact a2 d h2
  · rcases h with ⟨a, a0, a1, ⟨d, a2, a3⟩, a4⟩ | ⟨g, -⟩
    · have hup := x_way_add hs hi hb hok a2
      have e1 : x_wt far s (va_up d i P) = x_wt far (m_sm s i) d + (far i P * 2 ^ 30 + P * m_dg i) := by
        have e0 : x_wt far (m_sm s i) (va_up d i P) = x_wt far (m_sm s i) d := x_wt_congr fun j hj hbj => am_up_ne fun q => by
          rw [b3 j hj, q] at hbj
          simp at hbj
        rw [x_wt_sm hs hi hb, e0, am_up_eq]
      have lt : x_wt far s (va_up d i P) < 2 ^ 60 := x_wt_le fun j hj hbj => by
        have h1 := hup.1 j hj hbj
        rcases hW j hj _ h1.1 with ⟨-, g, -⟩ | ⟨g, -⟩
        · exact ⟨by omega, g⟩
        · exact absurd h1.2 g
      refine Or.inl ⟨a + (far i P * 2 ^ 30 + P * m_dg i), by rw [a3, ← e1]; exact lt, by rw [a1, lN_add], ⟨va_up d i P, ⟨am_up_eq, hup⟩, by rw [e1, a3]⟩, fun x hx => ?_⟩
      have h2 := (down x hx.1 hx.2).2
      have h3 := a4 x h2
      rw [x_wt_sm hs hi hb, hx.1]
      omega
    · exact absurd g hu
theorem x_offN {s : Nat} {g : Nat → Int64} (hs : s < 32) (hP : P < 63) (hW : x_W far ok W (P + 1)) (h : ∀ t, t ≤ s → x_least far t (x_way ok P t) (g t)) : ∀ i, i ≤ 5 → x_least far s (fun d => x_way ok (P + 1) s d ∧ ∀ j, j < 5 → s.testBit j = true → d j = P → j < i) (m_offN (fun nm => W nm P) s i g s) := by
  intro i
  induction i with
  | zero =>
    intro _
    refine (h s (Nat.le_refl _)).congr fun d => ⟨fun hd => ⟨x_way_mono hd, fun j hj hb e => ?_⟩, fun ⟨h1, h2⟩ => ?_⟩
    · have := (hd.1 j hj hb).1
      omega
    · rcases x_way_split hs h1 with g | ⟨k, hk, hb, e, -⟩
      · exact g
      · exact absurd (h2 k hk hb e) (Nat.not_lt_zero _)
  | succ i ih =>
    intro hi
    have ih := ih (by omega)
    have hi5 : i < 5 := by omega
    have eq : ∀ Q' : (Nat → Nat) → Prop, (∀ d, Q' d ↔ s.testBit i = true ∧ d i = P ∧ x_way ok (P + 1) s d) → ∀ d, ((x_way ok (P + 1) s d ∧ ∀ j, j < 5 → s.testBit j = true → d j = P → j < i) ∨ Q' d) ↔ (x_way ok (P + 1) s d ∧ ∀ j, j < 5 → s.testBit j = true → d j = P → j < i + 1) := by
      intro Q' hQ d
      rw [hQ]
      constructor
      · rintro (⟨h1, h2⟩ | ⟨h0, h1, h2⟩)
        · exact ⟨h1, fun j hj hb e => Nat.lt_succ_of_lt (h2 j hj hb e)⟩
        · refine ⟨h2, fun j hj hb e => ?_⟩
          have := h2.2 j i hj hi5 hb h0 (by omega)
          omega
      · rintro ⟨h1, h2⟩
        by_cases q : s.testBit i = true ∧ d i = P
        · exact Or.inr ⟨q.1, q.2, h1⟩
        · refine Or.inl ⟨h1, fun j hj hb e => ?_⟩
          have := h2 j hj hb e
          rcases Nat.lt_or_ge j i with z | z
          · exact z
          · obtain rfl : j = i := by omega
            exact absurd ⟨hb, e⟩ q
    show x_least far s _ ((if m_sm s i ≠ s ∧ W i P < m_IMP ∧ m_offN (fun nm => W nm P) s i g (m_sm s i) < m_IMP then va_up (m_offN (fun nm => W nm P) s i g) s (if m_offN (fun nm => W nm P) s i g (m_sm s i) + W i P < m_offN (fun nm => W nm P) s i g s then m_offN (fun nm => W nm P) s i g (m_sm s i) + W i P else m_offN (fun nm => W nm P) s i g s) else m_offN (fun nm => W nm P) s i g) s)
    by_cases hb : s.testBit i = true
    · have hne : m_sm s i ≠ s := by
        have : ∀ s, s < 32 → ∀ i, i < 5 → s.testBit i = true → m_sm s i ≠ s := by decide +kernel
        exact this s hs i hi5 hb
      have hlt := ((m_sm_32 s hs i hi5).2.2 hne).1
      have e0 : m_offN (fun nm => W nm P) s i g (m_sm s i) = g (m_sm s i) := x_offN_out hne i g
      rw [e0]
      obtain ⟨c1, c2⟩ := x_cand (W := W) (we := W i P) hs hi5 hb hP hW (h _ (Nat.le_of_lt hlt))
      rcases hW i hi5 P (Nat.lt_succ_self P) with ⟨w1, w2, w3⟩ | ⟨w1, w2⟩
      · by_cases hu : g (m_sm s i) = m_IMP
        · rw [if_neg (fun z => by have := z.2.2; rw [hu] at this; exact x_irr this)]
          exact (ih.none (Q' := fun d => s.testBit i = true ∧ d i = P ∧ x_way ok (P + 1) s d) fun d hd => c1 (Or.inr hu) d hd.2).congr (eq _ fun d => Iff.rfl)
        · have hult : g (m_sm s i) < m_IMP := by
            rcases h _ (Nat.le_of_lt hlt) with ⟨a, a0, a1, -⟩ | ⟨a1, -⟩
            · rw [a1]; exact x_lt a0
            · exact absurd a1 hu
          have hwlt : W i P < m_IMP := by
            rw [w3]
            refine x_lt ?_
            have h3 : m_dg i ≤ 64 ^ 4 := Nat.pow_le_pow_right (by decide) (by omega)
            have h4 := Nat.mul_le_mul (Nat.le_of_lt hP) h3
            omega
          have h2 := c2 w1 hu
          rw [if_pos ⟨hne, hwlt, hult⟩, am_up_eq]
          have h5 : g (m_sm s i) + W i P < m_IMP := by
            rw [w3]
            rcases h2 with ⟨a, a0, a1, -⟩ | ⟨-, a2⟩
            · rw [a1]; exact x_lt a0
            · rcases h _ (Nat.le_of_lt hlt) with ⟨a, -, -, ⟨d, a3, -⟩, -⟩ | ⟨a1, -⟩
              · exact absurd ⟨am_up_eq, x_way_add hs hi5 hb w1 a3⟩ (a2 (va_up d i P))
              · exact absurd a1 hu
          rw [w3] at h5 ⊢
          exact (ih.or h2 h5).congr (eq _ fun d => ⟨fun q => ⟨hb, q⟩, fun q => q.2⟩)
      · rw [if_neg (fun z => by have := z.2.1; rw [w2] at this; exact x_irr this)]
        exact (ih.none (Q' := fun d => s.testBit i = true ∧ d i = P ∧ x_way ok (P + 1) s d) fun d hd => c1 (Or.inl w1) d hd.2).congr (eq _ fun d => Iff.rfl)
    · have hsm : m_sm s i = s := by unfold m_sm; rw [if_neg hb]
      rw [if_neg (fun z => z.1 hsm)]
      exact (ih.none (Q' := fun d => s.testBit i = true ∧ d i = P ∧ x_way ok (P + 1) s d) fun d hd => hb hd.1).congr (eq _ fun d => Iff.rfl)
theorem x_off {g : Nat → Int64} (hP : P < 63) (hW : x_W far ok W (P + 1)) (h : ∀ t, t < 32 → x_least far t (x_way ok P t) (g t)) : ∀ j, j ≤ 31 → ∀ s, s < 32 → (31 - j < s → x_least far s (x_way ok (P + 1) s) (m_off (fun nm => W nm P) j g s)) ∧ (s ≤ 31 - j → m_off (fun nm => W nm P) j g s = g s) := by
  intro j
  induction j with
  | zero => exact fun _ s hs => ⟨fun q => by omega, fun _ => rfl⟩
  | succ j ih =>
    intro hj s hs
    have ih := ih (by omega)
    show (31 - (j + 1) < s → x_least far s _ (m_offN (fun nm => W nm P) (31 - j) 5 (m_off (fun nm => W nm P) j g) s)) ∧ (s ≤ 31 - (j + 1) → m_offN (fun nm => W nm P) (31 - j) 5 (m_off (fun nm => W nm P) j g) s = g s)
    by_cases e : s = 31 - j
    · refine ⟨fun _ => ?_, fun q => by omega⟩
      rw [← e]
      have := x_offN (g := m_off (fun nm => W nm P) j g) hs hP hW (fun t ht => by rw [(ih t (by omega)).2 (by omega)]; exact h t (by omega)) 5 (Nat.le_refl _)
      exact this.congr fun d => ⟨fun q => q.1, fun q => ⟨q, fun j hj _ _ => hj⟩⟩
    · rw [x_offN_out e]
      exact ⟨fun q => (ih s hs).1 (by omega), fun q => (ih s hs).2 (by omega)⟩
theorem x_leP : ∀ P, P ≤ 63 → x_W far ok W P → ∀ s, s < 32 → x_least far s (x_way ok P s) (m_leP W P s)
  | 0, _, _, s, hs => by
    show x_least far s _ (m_le0 s)
    unfold m_le0
    by_cases e : s = 0
    · subst e
      rw [if_pos rfl]
      have z : ∀ d, x_wt far 0 d = 0 := fun d => by simp [x_wt, x_w1]
      refine Or.inl ⟨0, by decide, rfl, ⟨fun _ => 0, ⟨fun j _ hb => absurd hb (by simp), fun i j _ _ hb => absurd hb (by simp)⟩, (z _).symm⟩, fun d _ => Nat.zero_le _⟩
    · rw [if_neg e]
      refine Or.inr ⟨rfl, fun d hd => ?_⟩
      have : ∀ s, s < 32 → s ≠ 0 → ∃ j, j < 5 ∧ s.testBit j = true := by decide +kernel
      obtain ⟨j, hj, hb⟩ := this s hs e
      exact absurd (hd.1 j hj hb).1 (Nat.not_lt_zero _)
  | P + 1, hP, hW, s, hs => by
    have ih := x_leP P (by omega) (fun nm hn k hk => hW nm hn k (by omega))
    have := x_off (g := m_leP W P) (by omega) hW ih 31 (Nat.le_refl _) s hs
    show x_least far s _ (m_off (fun nm => W nm P) 31 (m_leP W P) s)
    by_cases e : s = 0
    · rw [this.2 (by omega)]
      exact (ih s hs).congr fun d => by
        subst e
        exact ⟨fun _ => ⟨fun j _ hb => absurd hb (by simp), fun i j _ _ hb => absurd hb (by simp)⟩, fun _ => ⟨fun j _ hb => absurd hb (by simp), fun i j _ _ hb => absurd hb (by simp)⟩⟩
    · exact this.1 (by omega)
/-! all five names: a way of all, nobody's peak told as 63 -/
def x_val (ok : Nat → Nat → Prop) (P : Nat) (e : Nat → Nat) : Prop := (∀ j, j < 5 → e j = 63 ∨ (e j < P ∧ ok j (e j))) ∧ ∀ i j, i < 5 → j < 5 → e i ≠ 63 → e i = e j → i = j
def x_k1 (far : Nat → Nat → Nat) (e : Nat → Nat) (j : Nat) : Nat := if e j = 63 then 2 ^ 44 + 63 * m_dg j else far j (e j) * 2 ^ 30 + e j * m_dg j
def x_key (far : Nat → Nat → Nat) (e : Nat → Nat) : Nat := x_k1 far e 0 + x_k1 far e 1 + x_k1 far e 2 + x_k1 far e 3 + x_k1 far e 4
def x_of (s : Nat) (d : Nat → Nat) : Nat → Nat := fun j => if s.testBit j then d j else 63
def x_set (e : Nat → Nat) : Nat := (if e 0 = 63 then 0 else 1) + (if e 1 = 63 then 0 else 2) + (if e 2 = 63 then 0 else 4) + (if e 3 = 63 then 0 else 8) + (if e 4 = 63 then 0 else 16)
theorem x_set_bit (e : Nat → Nat) : x_set e < 32 ∧ ∀ j, j < 5 → ((x_set e).testBit j = true ↔ e j ≠ 63) := by
  unfold x_set
  have hc : ∀ j, j < 5 → j = 0 ∨ j = 1 ∨ j = 2 ∨ j = 3 ∨ j = 4 := fun j hj => by omega
  by_cases h0 : e 0 = 63 <;> by_cases h1 : e 1 = 63 <;> by_cases h2 : e 2 = 63 <;> by_cases h3 : e 3 = 63 <;> by_cases h4 : e 4 = 63 <;> (simp only [h0, h1, h2, h3, h4, if_true, if_false]; refine ⟨by decide, fun j hj => ?_⟩; rcases hc j hj with rfl | rfl | rfl | rfl | rfl <;> simp [h0, h1, h2, h3, h4] <;> decide)
theorem x_key_of {s : Nat} {d : Nat → Nat} (hP : P ≤ 63) (h : x_way ok P s d) : x_val ok P (x_of s d) ∧ x_key far (x_of s d) = x_wt far s d + m_rest s 5 := by
  have lt : ∀ j, j < 5 → s.testBit j = true → d j < 63 := fun j hj hb => by have := (h.1 j hj hb).1; omega
  refine ⟨⟨fun j hj => ?_, fun i j hi hj hne he => ?_⟩, ?_⟩
  · unfold x_of
    by_cases hb : s.testBit j = true
    · rw [if_pos hb]; exact Or.inr (h.1 j hj hb)
    · rw [if_neg hb]; exact Or.inl rfl
  · unfold x_of at hne he
    by_cases hb : s.testBit i = true
    · rw [if_pos hb] at hne he
      by_cases hc : s.testBit j = true
      · rw [if_pos hc] at he
        exact h.2 i j hi hj hb hc he
      · rw [if_neg hc] at he
        exact absurd he hne
    · rw [if_neg hb] at hne
      exact absurd rfl hne
  · have e1 : ∀ j, j < 5 → x_k1 far (x_of s d) j = x_w1 far s d j + (if s.testBit j then 0 else 2 ^ 44 + 63 * m_dg j) := fun j hj => by
      unfold x_k1 x_w1 x_of
      by_cases hb : s.testBit j = true
      · have := lt j hj hb
        simp only [hb, if_true]
        rw [if_neg (by omega), Nat.add_zero]
      · simp only [hb, if_true]
        simp
    unfold x_key x_wt
    rw [e1 0 (by omega), e1 1 (by omega), e1 2 (by omega), e1 3 (by omega), e1 4 (by omega)]
    show _ = _ + (((((0 + (if s.testBit 0 then 0 else 2 ^ 44 + 63 * m_dg 0)) + (if s.testBit 1 then 0 else 2 ^ 44 + 63 * m_dg 1)) + (if s.testBit 2 then 0 else 2 ^ 44 + 63 * m_dg 2)) + (if s.testBit 3 then 0 else 2 ^ 44 + 63 * m_dg 3)) + (if s.testBit 4 then 0 else 2 ^ 44 + 63 * m_dg 4))
    omega
theorem x_way_of {e : Nat → Nat} (h : x_val ok P e) : x_way ok P (x_set e) e ∧ ∀ j, j < 5 → x_of (x_set e) e j = e j := by
  obtain ⟨h1, h2⟩ := x_set_bit e
  refine ⟨⟨fun j hj hb => (h.1 j hj).resolve_left ((h2 j hj).mp hb), fun i j hi hj hb _ he => h.2 i j hi hj ((h2 i hi).mp hb) he⟩, fun j hj => ?_⟩
  unfold x_of
  by_cases q : e j = 63
  · rw [if_neg (fun z => (h2 j hj).mp z q), q]
  · rw [if_pos ((h2 j hj).mpr q)]
theorem x_key_congr {e e' : Nat → Nat} (h : ∀ j, j < 5 → e j = e' j) : x_key far e = x_key far e' := by
  unfold x_key x_k1
  rw [h 0 (by omega), h 1 (by omega), h 2 (by omega), h 3 (by omega), h 4 (by omega)]
/-- the best is the least of all -/
theorem x_best (hP : P ≤ 63) (hW : x_W far ok W P) : ∃ e, x_val ok P e ∧ m_best W P = lN (x_key far e) ∧ ∀ e', x_val ok P e' → x_key far e ≤ x_key far e' := by
  have hl := x_leP P hP hW
  have rlt : ∀ s, s < 32 → m_rest s 5 < 2 ^ 47 := by decide +kernel
  have wlt : ∀ s d, s < 32 → x_way ok P s d → x_wt far s d < 2 ^ 42 := fun s d hs hd => by
    have g : ∀ j, j < 5 → x_w1 far s d j ≤ 2 ^ 39 := fun j hj => x_w1_le hj fun hb => by
      have h1 := hd.1 j hj hb
      rcases hW j hj _ h1.1 with ⟨-, g, -⟩ | ⟨g, -⟩
      · exact ⟨by omega, g⟩
      · exact absurd h1.2 g
    have g0 := g 0 (by omega)
    have g1 := g 1 (by omega)
    have g2 := g 2 (by omega)
    have g3 := g 3 (by omega)
    have g4 := g 4 (by omega)
    unfold x_wt
    omega
  -- up to the set s
  have key : ∀ s, s ≤ 32 → 0 < s → ∃ t d, t < s ∧ x_way ok P t d ∧ m_bst (m_leP W P) s = lN (x_wt far t d + m_rest t 5) ∧ ∀ t' d', t' < s → x_way ok P t' d' → x_wt far t d + m_rest t 5 ≤ x_wt far t' d' + m_rest t' 5 := by
    intro s
    induction s with
    | zero => exact fun _ z => absurd z (by omega)
    | succ s ih =>
      intro hs _
      show ∃ t d, t < s + 1 ∧ x_way ok P t d ∧ (if m_leP W P s + lN (m_rest s 5) < m_bst (m_leP W P) s then m_leP W P s + lN (m_rest s 5) else m_bst (m_leP W P) s) = _ ∧ _
      have r := rlt s (by omega)
      rcases Nat.eq_zero_or_pos s with rfl | hpos
      · rcases hl 0 (by omega) with ⟨a, a0, a1, ⟨d, a2, a3⟩, a4⟩ | ⟨-, a2⟩
        · have w := wlt 0 d (by omega) a2
          refine ⟨0, d, by omega, a2, ?_, fun t' d' ht hd => ?_⟩
          · rw [a1, lN_add, show m_bst (m_leP W P) 0 = m_IMP from rfl, if_pos (x_lt (by omega)), a3]
          · obtain rfl : t' = 0 := by omega
            have := a4 d' hd
            omega
        · exact absurd ⟨fun j _ hb => absurd hb (by simp), fun i j _ _ hb => absurd hb (by simp)⟩ (a2 fun _ => 0)
      · obtain ⟨t, d, h1, h2, h3, h4⟩ := ih (by omega) hpos
        have w1 := wlt t d (by omega) h2
        have r1 := rlt t (by omega)
        rw [h3]
        rcases hl s (by omega) with ⟨a, a0, a1, ⟨d2, a2, a3⟩, a4⟩ | ⟨a1, a2⟩
        · have w := wlt s d2 (by omega) a2
          rw [a1, lN_add]
          have e : (lN (a + m_rest s 5) < lN (x_wt far t d + m_rest t 5)) = (a + m_rest s 5 < x_wt far t d + m_rest t 5) := propext (m_lNlt (by omega) (by omega))
          by_cases q : a + m_rest s 5 < x_wt far t d + m_rest t 5
          · rw [if_pos (e.mpr q)]
            refine ⟨s, d2, by omega, a2, by rw [a3], fun t' d' ht hd => ?_⟩
            by_cases z : t' = s
            · subst z
              have := a4 d' hd
              omega
            · have := h4 t' d' (by omega) hd
              omega
          · rw [if_neg (fun z => q (e.mp z))]
            refine ⟨t, d, by omega, h2, rfl, fun t' d' ht hd => ?_⟩
            by_cases z : t' = s
            · subst z
              have := a4 d' hd
              omega
            · exact h4 t' d' (by omega) hd
        · have h5 : ∀ s, s < 32 → m_IMP.toInt ≤ (m_IMP + lN (m_rest s 5)).toInt := by decide +kernel
          have h6 := h5 s (by omega)
          rw [a1, if_neg]
          · refine ⟨t, d, by omega, h2, rfl, fun t' d' ht hd => ?_⟩
            by_cases z : t' = s
            · subst z
              exact absurd hd (a2 d')
            · exact h4 t' d' (by omega) hd
          · intro z
            have h7 := Int64.lt_iff_toInt_lt.mp z
            have h8 := Int64.lt_iff_toInt_lt.mp (x_lt (a := x_wt far t d + m_rest t 5) (by omega))
            omega
  obtain ⟨t, d, h1, h2, h3, h4⟩ := key 32 (Nat.le_refl _) (by omega)
  obtain ⟨k1, k2⟩ := x_key_of (far := far) hP h2
  refine ⟨x_of t d, k1, by rw [k2]; exact h3, fun e' he => ?_⟩
  obtain ⟨k3, k4⟩ := x_way_of he
  obtain ⟨-, k5⟩ := x_key_of (far := far) hP k3
  rw [x_key_congr k4] at k5
  rw [k2, k5]
  exact h4 _ _ (x_set_bit e').1 k3
end XDp
