/-! ===== a contact begins, on both sides ===== -/
section YBeg
variable {M M' : Nat → Prop} {told T : Nat} {A A' : Nat → Nat → Int32} {S : y_H} {cs : Nat → Option Nat} {G : Nat → m_K} {sig : Nat → Int32} {bst : Int64} {K : Nat → m_K}
theorem y_ar_ext {c : Nat} : ∀ t, (∀ k, k < t → ∀ i, i < 4 → A k i = A' k i) → y_ar A c t = y_ar A' c t
  | 0, _ => rfl
  | t + 1, h => by
    unfold y_ar
    rw [h t (by omega) 0 (by decide), h t (by omega) 1 (by decide), h t (by omega) 2 (by decide), h t (by omega) 3 (by decide), y_ar_ext t fun k hk => h k (by omega)]
theorem y_raG_12 {k n j x : Nat} : (y_raG cs k n G j x).1 = (G x).1 ∧ (y_raG cs k n G j x).2.1 = (G x).2.1 := by
  by_cases w : j = k
  · rw [show y_raG cs k n G j = G from if_pos w]
    exact ⟨rfl, rfl⟩
  · rcases hc : cs j with _ | c
    · rw [y_raG_no hc]
      exact ⟨rfl, rfl⟩
    · rw [y_raG_yes w hc]
      by_cases q : x = c + 1
      · rw [q, am_up_eq]
        exact ⟨rfl, rfl⟩
      · rw [am_up_ne q]
        by_cases q2 : x = n + 1
        · rw [q2, am_up_eq]
          exact ⟨rfl, rfl⟩
        · rw [am_up_ne q2]
          exact ⟨rfl, rfl⟩
/-- pairs whose distances are kept already -/
def y_Rpj (k j : Nat) (K : Nat → m_K) (cs : Nat → Option Nat) (G : Nat → m_K) : Prop := ∀ a b c, a < 5 → b < 5 → a ≠ b → cs a = some c → cs b ≠ none → (a = k → b < j) → (b = k → a < j) → (G (c + 1)).2.2 b = (K a).2.2 b
theorem y_apart {k N : Nat} {K0 : Nat → m_K} {cs0 : Nat → Option Nat} {G0 : Nat → m_K} (hk : k < 5) (hcs : cs0 = va_up cs k (some N)) (hd : y_Rd cs0) (hc : y_Rc M K0 cs0 G0) (hok : ∀ j, j < 5 → m_kOk (K0 j)) (hnz : y_nz K0) (hp : y_Rpj k 0 K0 cs0 G0) : ∀ j, j ≤ 5 → (y_Rc M (y_it (y_rem k) K0 j) cs0 (y_it (y_raG cs k N) G0 j) ∧ y_Rpj k j (y_it (y_rem k) K0 j) cs0 (y_it (y_raG cs k N) G0 j)) ∧ ∀ x, x < 5 → y_it (y_raG cs k N) G0 j x = G0 x
  | 0, _ => ⟨⟨hc, hp⟩, fun _ _ => rfl⟩
  | j + 1, hj => by
    obtain ⟨⟨ih1, ih2⟩, ih3⟩ := y_apart hk hcs hd hc hok hnz hp j (by omega)
    have ap0 := y_rem_ap (K := K0) hk hok j (by omega)
    have ap1 := y_rem_ap (K := K0) hk hok (j + 1) hj
    have ap1 : m_ap K0 (y_rem k (y_it (y_rem k) K0 j) j) := ap1
    show (y_Rc M (y_rem k (y_it (y_rem k) K0 j) j) cs0 (y_raG cs k N (y_it (y_raG cs k N) G0 j) j) ∧ y_Rpj k (j + 1) (y_rem k (y_it (y_rem k) K0 j) j) cs0 (y_raG cs k N (y_it (y_raG cs k N) G0 j) j)) ∧ ∀ x, x < 5 → y_raG cs k N (y_it (y_raG cs k N) G0 j) j x = G0 x
    generalize y_it (y_rem k) K0 j = Kj at *
    generalize y_it (y_raG cs k N) G0 j = Gj at *
    have hN5 : 5 ≤ N := hd.1 k N hk (by rw [hcs, am_up_eq])
    refine ⟨⟨fun i hi => ?_, ?_⟩, fun x hx => ?_⟩
    · obtain ⟨a1, a2⟩ := ih1 i hi
      have e1 : (y_rem k Kj j i).1 = (Kj i).1 := (ap1 i hi).1.trans (ap0 i hi).1.symm
      have e2 : (y_rem k Kj j i).2.1 = (Kj i).2.1 := (ap1 i hi).2.1.trans (ap0 i hi).2.1.symm
      refine ⟨by rw [e1]; exact a1, fun c hc => ?_⟩
      obtain ⟨b1, b2⟩ := y_raG_12 (cs := cs) (G := Gj) (k := k) (n := N) (j := j) (x := c)
      unfold y_e
      rw [e1, e2, b1, b2]
      exact a2 c hc
    · have hth := (ih1 j (by omega)).1
      by_cases q : j = k
      · subst q
        have er : y_raG cs j N Gj j = Gj := if_pos rfl
        rw [er]
        intro a b c ha hb hab h1 h2 h3 h4
        have e : (y_rem j Kj j a).2.2 b = (Kj a).2.2 b := by
          unfold y_rem
          split
          · by_cases w : a = j
            · subst w
              rw [am_up_eq, am_up_eq]
              show va_up (va_up (Kj a).2.2 a _) a _ b = _
              rw [am_up_ne (fun z => hab z.symm), am_up_ne (fun z => hab z.symm)]
            · rw [am_up_ne w, am_up_ne w]
          · rfl
        rw [e]
        refine ih2 a b c ha hb hab h1 h2 (fun w => ?_) fun w => ?_
        · have := h3 w
          omega
        · have := h4 w
          omega
      · have ecs : cs0 j = cs j := by rw [hcs, am_up_ne q]
        rcases hcj : cs j with _ | c1
        · have k0 : ¬ (Kj j).1 0 ≠ 0 := fun z => hth.mp z (by rw [ecs, hcj])
          rw [show y_rem k Kj j = Kj from if_neg k0, y_raG_no hcj]
          intro a b c ha hb hab h1 h2 h3 h4
          refine ih2 a b c ha hb hab h1 h2 (fun w => ?_) fun w => ?_
          · have := h3 w
            have : b ≠ j := fun z => h2 (by rw [z, ecs, hcj])
            omega
          · have := h4 w
            have : a ≠ j := fun z => by rw [z, ecs, hcj] at h1; cases h1
            omega
        · have h0j : (Kj j).1 0 ≠ 0 := hth.mpr (by rw [ecs, hcj]; exact Option.some_ne_none _)
          have hc1 : cs0 j = some c1 := ecs.trans hcj
          have hNk : cs0 k = some N := by rw [hcs, am_up_eq]
          have hc1N : c1 ≠ N := fun z => q (hd.2.2 j k c1 (by omega) hk hc1 (by rw [hNk, z]))
          obtain ⟨eN, -⟩ := (ih1 k hk).2 N hNk
          obtain ⟨e1, -⟩ := (ih1 j (by omega)).2 c1 hc1
          have kk := (ap0 k hk).2.2
          have kj := (ap0 j (by omega)).2.2
          have h0k : (K0 k).1 0 ≠ 0 := ((hc k hk).1).mpr (by rw [hNk]; exact Option.some_ne_none _)
          obtain ⟨n0, n1, -⟩ := hnz k hk h0k
          have ev : m_dist ((Kj k).2.1 0) ((Kj k).2.1 1) ((Kj j).2.1 0) ((Kj j).2.1 1) = r_dist ((Gj N).2.1 0) ((Gj N).2.1 1) ((Gj c1).2.1 0) ((Gj c1).2.1 1) := by
            rw [eN.2 0 (by decide), eN.2 1 (by decide), e1.2 0 (by decide), e1.2 1 (by decide)]
            obtain ⟨d1, d2, -⟩ := f_dist kk.1 kk.2.1 kj.1 kj.2.1
            exact f_dist_eq kk.1.1 kk.2.1.1 kj.1.1 kj.2.1.1 d1.1 d2.1 (by rw [(ap0 k hk).2.1]; exact n0) (by rw [(ap0 k hk).2.1]; exact n1)
          have er : y_raG cs k N Gj j = va_up (va_up Gj (N + 1) (m_fa (Gj (N + 1)) (va_up (Gj (N + 1)).2.2 j (r_dist ((Gj N).2.1 0) ((Gj N).2.1 1) ((Gj c1).2.1 0) ((Gj c1).2.1 1))))) (c1 + 1) (m_fa (Gj (c1 + 1)) (va_up (Gj (c1 + 1)).2.2 k (r_dist ((Gj N).2.1 0) ((Gj N).2.1 1) ((Gj c1).2.1 0) ((Gj c1).2.1 1)))) := y_raG_yes q hcj
          have em : y_rem k Kj j = va_up (va_up Kj k (m_fa (Kj k) (va_up (Kj k).2.2 j (r_dist ((Gj N).2.1 0) ((Gj N).2.1 1) ((Gj c1).2.1 0) ((Gj c1).2.1 1))))) j (m_fa (Kj j) (va_up (Kj j).2.2 k (r_dist ((Gj N).2.1 0) ((Gj N).2.1 1) ((Gj c1).2.1 0) ((Gj c1).2.1 1)))) := by
            unfold y_rem
            rw [if_pos h0j, ev, am_up_ne q]
          rw [er, em]
          generalize r_dist ((Gj N).2.1 0) ((Gj N).2.1 1) ((Gj c1).2.1 0) ((Gj c1).2.1 1) = v
          intro a b c ha hb hab h1 h2 h3 h4
          by_cases w1 : a = j
          · subst w1
            obtain rfl : c = c1 := Option.some.inj (h1.symm.trans hc1)
            rw [am_up_eq, am_up_eq]
            show va_up (Gj (c + 1)).2.2 k v b = va_up (Kj a).2.2 k v b
            by_cases w2 : b = k
            · rw [w2, am_up_eq, am_up_eq]
            · rw [am_up_ne w2, am_up_ne w2]
              exact ih2 a b c ha hb hab h1 h2 (fun z => absurd z q) fun z => absurd z w2
          · rw [am_up_ne w1]
            have hcc : c ≠ c1 := fun z => w1 (hd.2.2 a j c ha (by omega) h1 (by rw [hc1, z]))
            rw [am_up_ne (show c + 1 ≠ c1 + 1 by omega)]
            by_cases w2 : a = k
            · subst w2
              obtain rfl : c = N := Option.some.inj (h1.symm.trans hNk)
              rw [am_up_eq, am_up_eq]
              show va_up (Gj (c + 1)).2.2 j v b = va_up (Kj a).2.2 j v b
              by_cases w3 : b = j
              · rw [w3, am_up_eq, am_up_eq]
              · rw [am_up_ne w3, am_up_ne w3]
                refine ih2 a b c ha hb hab h1 h2 (fun _ => ?_) fun z => absurd z.symm hab
                have := h3 rfl
                omega
            · have hcN : c ≠ N := fun z => w2 (hd.2.2 a k c ha hk h1 (by rw [hNk, z]))
              rw [am_up_ne w2, am_up_ne (show c + 1 ≠ N + 1 by omega)]
              refine ih2 a b c ha hb hab h1 h2 (fun z => absurd z w2) fun z => ?_
              have := h4 z
              omega
    · rw [← ih3 x hx]
      by_cases q : j = k
      · subst q
        rw [show y_raG cs j N Gj j = Gj from if_pos rfl]
      · exact y_raG_lo hx hN5 fun c hc => hd.1 j c (by omega) (by rw [hcs, am_up_ne q]; exact hc)
theorem y_i2f : ∀ p, p < 57 → FP.i2f (nI p) ≠ 0x80000000 := by decide +kernel
set_option maxHeartbeats 6000000 in
theorem y_R.begin {k N p : Nat} (h : y_R M told A S cs G) (hI : y_I told T S) (ht : told ≤ 4) (hk : k < 5) (hck : cs k = none) (hbe : ∀ j, j < k → cs j ≠ none) (hN5 : 5 ≤ N) (hN : ∀ i c, i < 5 → cs i = some c → c + 1 < N) (nb : x_nb sig bst p) (hp : p < (m_pks sig 48).length) : y_R (fun i => M i ∨ i = k) told A (y_beg sig bst A told S p) (va_up cs k (some N)) (y_it (y_raG cs k N) (y_mkG G N (r_new (nI (m_placeN sig ((m_pks sig 48).getD p 0) false)) (nI (m_placeN sig ((m_pks sig 48).getD p 0) true)) (y_ar (fun k i => (G k).1 i) ((m_pks sig 48).getD p 0) told))) 5) := by
  obtain ⟨c48, c20⟩ := m_pks48 hp
  have px56 := (m_place_spec (isY := false) c48 c20).2.2
  have py40 := (m_place_spec (isY := true) c48 c20).2.2
  simp only [if_true, Bool.false_eq_true, if_false] at px56 py40
  have hfree := h.no hk hck
  have hff : x_ff (y_K S) = k := x_ff_at hk hfree fun j hj => (h.1 j (by omega)).1.mpr (hbe j hj)
  rw [y_beg_yes nb hff hk, y_ar_ext (A' := A) told fun k hk i hi => (h.2.2.2.1 k hk).1 i hi]
  have har := y_ar_in (A := A) (c := (m_pks sig 48).getD p 0) told
  generalize y_ar A ((m_pks sig 48).getD p 0) told = ar at har
  generalize m_placeN sig ((m_pks sig 48).getD p 0) false = px at px56
  generalize m_placeN sig ((m_pks sig 48).getD p 0) true = py at py40
  have iB := m_Inv.begin (px := px) (py := py) hI ht hk hfree (by omega) (by omega) har
  obtain ⟨a1, a2, a3, a4, a5, a6⟩ := h
  generalize hK0 : va_up (y_K S) k (m_begin (y_K S k) (nI px) (nI py) ar) = K0 at iB
  generalize hcs0 : va_up cs k (some N) = cs0
  generalize hG0 : y_mkG G N (r_new (nI px) (nI py) ar) = G0
  have K0k : K0 k = m_begin (y_K S k) (nI px) (nI py) ar := by rw [← hK0, am_up_eq]
  have K0x : ∀ i, i ≠ k → K0 i = y_K S i := fun i hi => by rw [← hK0, am_up_ne hi]
  have c0k : cs0 k = some N := by rw [← hcs0, am_up_eq]
  have c0x : ∀ i, i ≠ k → cs0 i = cs i := fun i hi => by rw [← hcs0, am_up_ne hi]
  have G0N : G0 N = r_new (nI px) (nI py) ar := by
    rw [← hG0]
    unfold y_mkG
    rw [am_up_ne (by omega), am_up_eq]
  have G0x : ∀ x, x ≠ N → x ≠ N + 1 → G0 x = y_nG G 2 x := fun x h1 h2 => by
    rw [← hG0]
    unfold y_mkG
    rw [am_up_ne h2, am_up_ne h1]
  have G05 : ∀ x, 5 ≤ x → x < N → G0 x = G x := fun x h1 h2 => (G0x x (by omega) (by omega)).trans (y_nG_x (by omega))
  have hd : y_Rd cs0 := by
    refine ⟨fun i c hi hc => ?_, fun i j c c' hi hj h1 h2 => ?_, fun i j c hi hj h1 h2 => ?_⟩
    · by_cases q : i = k
      · rw [q, c0k] at hc
        cases hc
        exact hN5
      · exact a2.1 i c hi ((c0x i q).symm.trans hc)
    · by_cases q : i = k
      · rw [q, c0k] at h1
        cases h1
        by_cases q2 : j = k
        · rw [q2, c0k] at h2
          cases h2
          omega
        · have := hN j c' hj ((c0x j q2).symm.trans h2)
          omega
      · have g1 := (c0x i q).symm.trans h1
        by_cases q2 : j = k
        · rw [q2, c0k] at h2
          cases h2
          have := hN i c hi g1
          omega
        · exact a2.2.1 i j c c' hi hj g1 ((c0x j q2).symm.trans h2)
    · by_cases q : i = k
      · by_cases q2 : j = k
        · rw [q, q2]
        · rw [q, c0k] at h1
          cases h1
          have := hN j N hj ((c0x j q2).symm.trans h2)
          omega
      · by_cases q2 : j = k
        · rw [q2, c0k] at h2
          cases h2
          have := hN i N hi ((c0x i q).symm.trans h1)
          omega
        · exact a2.2.2 i j c hi hj ((c0x i q).symm.trans h1) ((c0x j q2).symm.trans h2)
  have hc : y_Rc (fun i => M i ∨ i = k) K0 cs0 G0 := by
    intro i hi
    by_cases q : i = k
    · subst q
      rw [K0k, c0k]
      refine ⟨⟨fun _ => Option.some_ne_none _, fun _ z => by cases z⟩, fun c hc => ?_⟩
      cases hc
      rw [G0N]
      refine ⟨⟨fun j h1 h2 => ?_, fun j h1 => ?_⟩, fun _ => rfl⟩
      · have hj : j = 2 ∨ j = 3 ∨ j = 4 ∨ j = 5 ∨ j = 6 ∨ j = 7 := by omega
        rcases hj with rfl | rfl | rfl | rfl | rfl | rfl <;> rfl
      · have hj : j = 0 ∨ j = 1 ∨ j = 2 ∨ j = 3 ∨ j = 4 ∨ j = 5 ∨ j = 6 := by omega
        rcases hj with rfl | rfl | rfl | rfl | rfl | rfl | rfl <;> rfl
    · rw [K0x i q, c0x i q]
      refine ⟨(a1 i hi).1, fun c hc => ?_⟩
      rw [G05 c (a2.1 i c hi hc) (by have := hN i c hi hc; omega)]
      exact ⟨((a1 i hi).2 c hc).1, fun w => ((a1 i hi).2 c hc).2 (w.resolve_right q)⟩
  have hp0 : y_Rpj k 0 K0 cs0 G0 := by
    intro a b c ha hb hab h1 h2 h3 h4
    have qa : a ≠ k := fun z => Nat.not_lt_zero _ (h3 z)
    have qb : b ≠ k := fun z => Nat.not_lt_zero _ (h4 z)
    rw [c0x a qa] at h1
    rw [c0x b qb] at h2
    rw [K0x a qa, G05 (c + 1) (by have := a2.1 a c ha h1; omega) (hN a c ha h1)]
    exact a3 a b c ha hb hab h1 h2
  have hnz : y_nz K0 := by
    rw [← hK0]
    exact a6.set fun _ => ⟨y_i2f px (by omega), y_i2f py (by omega), by show FP.fconst0 ≠ _; decide⟩
  obtain ⟨⟨r1, r2⟩, r3⟩ := y_apart hk hcs0.symm hd hc (fun j hj => (iB.1 j hj).1) hnz hp0 5 (Nat.le_refl _)
  have ap := y_rem_ap (K := K0) hk (fun j hj => (iB.1 j hj).1) 5 (Nat.le_refl _)
  generalize y_it (y_rem k) K0 5 = K5 at r1 r2 ap ⊢
  generalize y_it (y_raG cs k N) G0 5 = G5 at r1 r2 r3 ⊢
  refine ⟨r1, hd, fun i j c hi hj hij h1 h2 => r2 i j c hi hj hij h1 h2 (fun _ => hj) fun _ => hi, ?_, ?_, fun j hj h0 => ?_⟩
  · exact a4.ext ht fun x hx => (r3 x (by omega)).trans ((G0x x (by omega) (by omega)).trans (y_nG_x (by omega)))
  · obtain ⟨n1, n2, n3, n4, n5⟩ := a5
    have hn : ∀ i, r_n G5 i = r_n (y_nG G 2) i := fun i => by
      unfold r_n
      rw [r3 4 (by decide), G0x 4 (by omega) (by omega)]
    refine ⟨(hn 2).trans (r_n_up.trans ?_), (hn 3).trans ((r_n_ne (by decide)).trans n2), (hn 4).trans ((r_n_ne (by decide)).trans n3), (hn 0).trans ((r_n_ne (by decide)).trans n4), (hn 1).trans ((r_n_ne (by decide)).trans n5)⟩
    rw [n1]
    exact nI_1 _
  · have e := ap j hj
    show (K5 j).2.1 0 ≠ _ ∧ (K5 j).2.1 1 ≠ _ ∧ (K5 j).2.1 4 ≠ _
    rw [e.2.1]
    exact hnz j hj (by rw [← e.1]; exact h0)
end YBeg
