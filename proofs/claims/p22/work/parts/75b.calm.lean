/-! ===== who would match, how long until it is calm: to the letter ===== -/
section YCalm
variable {m n v u sz T : Nat} {f : Nat → am_C} {κ : Nat → Nat} {th h di li : Int32} {cs : Nat → Option Nat} {w b sig : Nat → Int32} {G : Nat → m_K} {M : Nat → Prop} {A : Nat → Nat → Int32} {S : y_H}
noncomputable def y_matchA (S : y_H) (li : Int32) (sig : Nat → Int32) (x : Nat) : Int32 := if m_hum sig ≤ li then m_pk (m_best (m_W sig (y_K S)) (m_pks sig 48).length) x else -1
theorem s_XwouldNow {k : Nat} (s : r_M m n f κ sz G th h di li cs w b) (hR : y_R M sz A S cs G) (hI : y_I sz T S) (hW : r_W f v u sig) (hs : ∀ x, x < 48 → (sig x).toInt.natAbs ≤ 300000) (hv : v < n) (hu : u + 2 < n) (hk : k < 5) : AM mX12_wouldMatchNow (4 + 1) ((0 + (m_pks sig 48).length + (m_pks sig 48).length + 5 + 5) + 8) [.ref m, .int (nI k), .ref v] n f (fun o n' f' => n ≤ n' ∧ o = .inl (some (.int (y_matchA S li sig k))) ∧ ∀ x, x < n → f' x = f x) := by
  obtain ⟨⟨e0, -⟩, -⟩ := id s
  unfold r_m12 at e0
  have hm5 := s.1.n5
  obtain ⟨pk, v0, v1, -⟩ := id hW
  have hxy : ∀ j, j < 5 → m_xy (y_K S j) := fun j hj => (hI.1 j hj).1.2.2.2.2.2.2.2.2
  have hgbE : ∀ gb : Nat → Int32, x_lst cs sig (fun j => ((y_K S j).1 2).toNatClampNeg) (fun j => ((y_K S j).1 3).toNatClampNeg) gb → ∀ j, j < 5 → m_pk (m_best (m_W sig (y_K S)) (m_pks sig 48).length) j = gb j := fun gb hl => x_same (fun j hj => by
    obtain ⟨a, b, h1, h2, h3, h4⟩ := hxy j hj
    simp only [h3, h4, nI_clamp (n := a) (by omega), nI_clamp (n := b) (by omega)]
    exact ⟨h1, h2, trivial, trivial⟩) (fun j hj => (hR.1 j hj).1) hl
  have hK : ∀ j, j < 5 → ∀ c, cs j = some c → (fun j => ((y_K S j).1 2).toNatClampNeg) j ≤ 56 ∧ (fun j => ((y_K S j).1 3).toNatClampNeg) j ≤ 56 ∧ (G c).1 2 = nI ((fun j => ((y_K S j).1 2).toNatClampNeg) j) ∧ (G c).1 3 = nI ((fun j => ((y_K S j).1 3).toNatClampNeg) j) := fun j hj c hc => by
    have he := ((hR.1 j hj).2 c hc).1
    have e2 := he.1 2 (by decide) (by decide)
    have e3 := he.1 3 (by decide) (by decide)
    obtain ⟨a, b, h1, h2, h3, h4⟩ := hxy j hj
    rw [e2, e3]
    simp only [h3, h4, nI_clamp (n := a) (by omega), nI_clamp (n := b) (by omega)]
    exact ⟨h1, h2, trivial, trivial⟩
  generalize hQ : (fun (o : Option Value ⊕ Nat) (n' : Nat) (f' : Nat → am_C) => n ≤ n' ∧ o = .inl (some (.int (y_matchA S li sig k))) ∧ ∀ x, x < n → f' x = f x) = Q
  have hnew := fun g0 g1 => s_xMatch (f := va_up f n (.inr (10, [.null, .null, .null, .null, .int 0, .int 0, .null, .null]))) (t := n) (v := v) (u := u) (sig := sig) am_ue (s.1.far (Nat.le_refl _) (am_up_ne (by omega)) (am_up_ne (by omega)) (am_up_ne (by omega)) (fun x _ hx => Or.inl (am_up_ne (by omega)))) (hW.on fun x hx => am_up_ne (by omega)) g0 g1 hs hK
  have hum := s_vhum (n := n) v0 v1 hs
  generalize hRS : 0 + (m_pks sig 48).length + (m_pks sig 48).length + 5 + 5 = RS at hnew
  have h15 : m_hum sig ≤ li → AW mX12_wouldMatchNow (4 + 1) (RS + 8) 15 [some (.ref m), some (.int (nI k)), some (.ref v)] [] n f Q := by
    intro hle
    refine am_new 15 (rc := 4) (rs := RS) (N := 8) dX12_wouldMatchNow_15 nX12_184 ?_
    refine am_dup 18 dX12_wouldMatchNow_18 rfl ?_
    refine am_aload_n 19 dX12_wouldMatchNow_19 rfl ?_
    refine am_aload_n 20 dX12_wouldMatchNow_20 rfl ?_
    refine am_I2 21 (mc' := 4) (ms' := RS) (rc := 0) (rs := 0) dX12_wouldMatchNow_21 lX12_186 ⟨by decide, by decide⟩ (Nat.le_of_ble_eq_true rfl) (Nat.le_of_ble_eq_true rfl) (hnew hv hu) ?_
    rintro o n' f1 ⟨rfl, rfl, ⟨mo, le, c0⟩, ⟨gb, c2, hgb⟩, c3⟩
    refine ⟨_, rfl, ?_⟩
    unfold r_ob at c0
    have eg : gb k = y_matchA S li sig k := ((if_pos hle : y_matchA S li sig k = _).trans (hgbE gb hgb k hk)).symm
    refine am_getfield 24 dX12_wouldMatchNow_24 fX12_189 (by repeat (first | assumption | exact am_ue | refine am_un (by first | assumption | decide | omega) ?_)) rfl ?_
    refine am_iload_n 27 dX12_wouldMatchNow_27 rfl ?_
    refine am_iaload 28 dX12_wouldMatchNow_28 rfl c2 (am_ix hk (by decide)) ?_
    rw [nI_clamp (n := k) (by omega), eg]
    refine am_ireturn 29 dX12_wouldMatchNow_29 rfl rfl ?_
    subst hQ
    exact ⟨by omega, rfl, fun x hx => (c3 x hx).trans (am_up_ne (by omega))⟩
  refine AW.more (rc := 0 + (4 + 1)) (rs := 0 + (RS + 8)) (by omega) (by omega) ?_
  show AW mX12_wouldMatchNow (0 + (4 + 1)) (0 + (RS + 8)) 0 [some (.ref m), some (.int (nI k)), some (.ref v)] [] n f Q
  refine am_aload_n 0 dX12_wouldMatchNow_0 rfl ?_
  refine am_V0 1 (mc' := 0) (ms' := 0) (rc := 4 + 1) (rs := RS + 8) dX12_wouldMatchNow_1 lX12_96 ⟨by decide, by decide⟩ v0 (Nat.le_of_ble_eq_true rfl) (Nat.le_of_ble_eq_true rfl) (hum) ?_
  refine am_is_ct ?_
  refine am_aload_n 4 dX12_wouldMatchNow_4 rfl ?_
  refine am_getfield 5 dX12_wouldMatchNow_5 fX12_24 e0 rfl ?_
  refine am_icmp_le 8 15 dX12_wouldMatchNow_8 rfl (fun c8 => ?_) (fun c8 => ?_)
  · exact h15 c8
  · refine am_iconst 11 (v := (-1)) dX12_wouldMatchNow_11 (by decide) ?_
    refine am_goto 12 (tgt := 29) dX12_wouldMatchNow_12 rfl ?_
    refine am_ireturn 29 dX12_wouldMatchNow_29 rfl rfl ?_
    subst hQ
    exact ⟨Nat.le_refl _, by rw [show y_matchA S li sig k = -1 from if_neg c8], fun _ _ => rfl⟩
/-! calm -/
theorem y_step_le {s : Int32} (hs : s.toInt.natAbs ≤ 300000) : (s - m_step s).toInt.natAbs ≤ s.toInt.natAbs := by
  have h10 : (-10 : Int32).toInt = -10 := rfl
  have h10' : (10 : Int32).toInt = 10 := rfl
  have h0 : (0 : Int32).toInt = 0 := rfl
  unfold m_step
  split
  · rename_i q1
    have q1 := Int32.lt_iff_toInt_lt.mp q1
    split
    · rename_i q2
      have q2 := Int32.lt_iff_toInt_lt.mp q2
      unfold m_cmp
      split
      · rename_i q3
        have q3 := Int32.le_iff_toInt_le.mp q3
        split
        · rename_i q4
          rw [q4]
          decide
        · rename_i q4
          have q4 : s.toInt ≠ 0 := fun z => q4 (Int32.toInt_inj.mp z)
          rw [Int32.toInt_sub, show (1 : Int32).toInt = 1 from rfl, Int.bmod_eq_of_le (by omega) (by omega)]
          omega
      · rename_i q3
        have q3 : ¬ 0 ≤ s.toInt := fun z => q3 (Int32.le_iff_toInt_le.mpr (by rw [h0]; exact z))
        rw [Int32.toInt_sub, show (-1 : Int32).toInt = -1 from rfl, Int.bmod_eq_of_le (by omega) (by omega)]
        omega
    · rename_i q2
      have q2 : ¬ s.toInt < 10 := fun z => q2 (Int32.lt_iff_toInt_lt.mpr (by rw [h10']; exact z))
      rw [Int32.toInt_sub, show (4 : Int32).toInt = 4 from rfl, Int.bmod_eq_of_le (by omega) (by omega)]
      omega
  · rename_i q1
    have q1 : ¬ -10 < s.toInt := fun z => q1 (Int32.lt_iff_toInt_lt.mpr (by rw [h10]; exact z))
    rw [Int32.toInt_sub, show (-4 : Int32).toInt = -4 from rfl, Int.bmod_eq_of_le (by omega) (by omega)]
    omega
theorem y_cb_le (hb : ∀ x, x < 48 → (h + 0 - b x).toInt.natAbs ≤ 300000) : ∀ k x, x < 48 → (h + 0 - m_cb b h k x).toInt.natAbs ≤ 300000
  | 0, x, hx => hb x hx
  | k + 1, x, hx => by
    have ih := y_cb_le hb k x hx
    show (h + 0 - m_settle (fun x => h + 0 - m_cb b h k x) (m_reg (fun x => h + 0 - m_cb b h k x)) (m_cb b h k) x).toInt.natAbs ≤ 300000
    unfold m_settle
    split
    · exact ih
    · have e : h + 0 - (m_cb b h k x + m_step (h + 0 - m_cb b h k x)) = (h + 0 - m_cb b h k x) - m_step (h + 0 - m_cb b h k x) := by
        rw [Int32.sub_eq_add_neg, Int32.neg_add, Int32.sub_eq_add_neg, Int32.sub_eq_add_neg, Int32.sub_eq_add_neg, Int32.add_assoc (h + 0)]
      rw [e]
      exact Nat.le_trans (y_step_le ih) ih
theorem y_S0 {g : Nat → Nat} : ∀ k, m_S g k = 0 ↔ ∀ j, j < k → g j = 0
  | 0 => ⟨fun _ j hj => absurd hj (Nat.not_lt_zero j), fun _ => rfl⟩
  | k + 1 => by
    have ih := y_S0 (g := g) k
    show m_S g k + g k = 0 ↔ _
    refine ⟨fun z j hj => ?_, fun z => ?_⟩
    · by_cases q : j = k
      · rw [q]
        omega
      · exact ih.mp (by omega) j (by omega)
    · rw [ih.mpr fun j hj => z j (by omega), z k (by omega)]
set_option maxHeartbeats 2000000 in
theorem s_XcalmNow (s : r_M m n f κ sz G th h di li cs w b) (hb : ∀ x, x < 48 → (h + 0 - b x).toInt.natAbs ≤ 300000) : AM mX12_calmInNow (366 + 1 + 1) (14884 + 48 + 48) [.ref m] n f (fun o n' f' => n ≤ n' ∧ o = .inl (some (.int (m_cv b h 61))) ∧ ∀ x, x < n → f' x = f x) := by
  obtain ⟨⟨h0, -⟩, h1, h2⟩ := id s
  unfold r_m12 at h0
  have hm5 := s.1.n5
  have hcb := y_cb_le hb
  generalize hQ : (fun (o : Option Value ⊕ Nat) (n' : Nat) (f' : Nat → am_C) => n ≤ n' ∧ o = .inl (some (.int (m_cv b h 61))) ∧ ∀ x, x < n → f' x = f x) = Q
  -- the frames, one after another
  have loop : ∀ (g : Nat → am_C), g n = .inl (0, 48, .inl (fun _ => h + 0)) → g (n + 1) = .inl (0, 48, .inl b) → (∀ x, x < n → g x = f x) → AW mX12_calmInNow 366 14884 42 [some (.ref m), some (.ref n), some (.ref (n + 1)), some (.int (nI 0)), none, none, none] [] (n + 2) g Q := by
    intro g hg1 hg2 hg3
    refine am_for 61 (fun k (st : (Nat × (Nat → am_C)) × Option Value × Option Value × Option Value) => n + 2 ≤ st.1.1 ∧ st.1.2 n = .inl (0, 48, .inl (fun _ => h + 0)) ∧ st.1.2 (n + 1) = .inl (0, 48, .inl (m_cb b h k)) ∧ (∀ x, x < n → st.1.2 x = f x) ∧ m_cv b h (61 - k) = m_cv b h 61) (fun k st => AW mX12_calmInNow (6 * (61 - k)) (244 * (61 - k)) 42 [some (.ref m), some (.ref n), some (.ref (n + 1)), some (.int (nI k)), st.2.1, st.2.2.1, st.2.2.2] [] st.1.1 st.1.2 Q) ?_ ?_ 0 ((n + 2, g), none, none, none) (by omega) ⟨Nat.le_refl _, hg1, hg2, hg3, rfl⟩
    · rintro ⟨⟨N, g⟩, z4, z5, z6⟩ ⟨a1, a2, a3, a4, a5⟩
      show AW mX12_calmInNow (6 * (61 - 61)) (244 * (61 - 61)) 42 [some (.ref m), some (.ref n), some (.ref (n + 1)), some (.int (nI 61)), z4, z5, z6] [] N g Q
      have a1 : n + 2 ≤ N := a1
      have a5 : m_cv b h 0 = m_cv b h 61 := a5
      refine am_iload_n 42 dX12_calmInNow_42 rfl ?_
      refine am_bipush 43 (v := 60) dX12_calmInNow_43 (by decide) ?_
      refine am_icmp_gt 45 121 dX12_calmInNow_45 rfl (fun c45 => ?_) (fun c45 => absurd (by decide) c45)
      refine am_iconst 121 (v := (-1)) dX12_calmInNow_121 (by decide) ?_
      refine am_ireturn 122 dX12_calmInNow_122 rfl rfl ?_
      subst hQ
      exact ⟨by omega, by rw [← a5]; rfl, a4⟩
    · rintro k ⟨⟨N, g⟩, z4, z5, z6⟩ hk ⟨a1, a2, a3, a4, a5⟩ ih
      have a1 : n + 2 ≤ N := a1
      have a2 : g n = .inl (0, 48, .inl (fun _ => h + 0)) := a2
      have a3 : g (n + 1) = .inl (0, 48, .inl (m_cb b h k)) := a3
      have a4 : ∀ x, x < n → g x = f x := a4
      have hd : m_cv b h (61 - k) = if m_calmB b h k = true then nI k else m_cv b h (61 - (k + 1)) := by
        have e : 61 - k = (60 - k) + 1 := by omega
        rw [e]
        show (if m_calmB b h (60 - (60 - k)) = true then nI (60 - (60 - k)) else m_cv b h (60 - k)) = _
        rw [show 60 - (60 - k) = k by omega, show 61 - (k + 1) = 60 - k by omega]
      have a5 : m_cv b h (61 - k) = m_cv b h 61 := a5
      rw [hd] at a5
      have hnx : m_cb b h (k + 1) = m_settle (fun x => h + 0 - m_cb b h k x) (m_reg (fun x => h + 0 - m_cb b h k x)) (m_cb b h k) := rfl
      have hcal : m_calmB b h k = true ↔ ∀ x, x < 48 → h + 0 - m_cb b h k x = 0 := by
        unfold m_calmB
        simp only [List.all_eq_true, List.mem_range, decide_eq_true_eq]
      have hsk := hcb k
      have ih : ∀ (N : Nat) (g : Nat → am_C) (z4 z5 z6 : Option Value), n + 2 ≤ N → g n = .inl (0, 48, .inl (fun _ => h + 0)) → g (n + 1) = .inl (0, 48, .inl (m_cb b h (k + 1))) → (∀ x, x < n → g x = f x) → m_cv b h (61 - (k + 1)) = m_cv b h 61 → AW mX12_calmInNow (6 * (61 - (k + 1))) (244 * (61 - (k + 1))) 42 [some (.ref m), some (.ref n), some (.ref (n + 1)), some (.int (nI (k + 1))), z4, z5, z6] [] N g Q := fun N g z4 z5 z6 b1 b2 b3 b4 b5 => ih ((N, g), z4, z5, z6) ⟨b1, b2, b3, b4, b5⟩
      show AW mX12_calmInNow (6 * (61 - k)) (244 * (61 - k)) 42 [some (.ref m), some (.ref n), some (.ref (n + 1)), some (.int (nI k)), z4, z5, z6] [] N g Q
      refine AW.more (rc := 6 * (61 - (k + 1)) + 5 + 1) (rs := 244 * (61 - (k + 1)) + 240 + 4) (by omega) (by omega) ?_
      have h60 : ¬ (60 : Int32) < nI k := fun z => by
        have := (nI_ltI (a := 60) (b := k) (by decide) (by omega)).mp z
        omega
      generalize hRC : 6 * (61 - (k + 1)) = RC at ih
      generalize hRS : 244 * (61 - (k + 1)) = RS at ih
      generalize m_cb b h (k + 1) = B1 at *
      generalize m_cb b h k = B0 at *
      generalize m_cv b h (61 - (k + 1)) = cv1 at *
      generalize hsg : (fun x => h + 0 - B0 x) = sig at hnx
      have hsig : ∀ x, h + 0 - B0 x = sig x := fun x => by rw [← hsg]
      simp only [hsig] at hcal hsk
      have hnxx : ∀ x, B1 x = m_settle sig (m_reg sig) B0 x := fun x => by rw [hnx]
      refine AW.more (rc := 5 + RC + 1) (rs := 240 + RS + 4) (by omega) (by omega) ?_
      refine am_iload_n 42 dX12_calmInNow_42 rfl ?_
      refine am_bipush 43 (v := 60) dX12_calmInNow_43 (by decide) ?_
      refine am_icmp_gt 45 121 dX12_calmInNow_45 rfl (fun c45 => absurd c45 h60) (fun c45 => ?_)
      refine am_new 48 (rc := 5 + RC) (rs := 240 + RS) (N := 4) dX12_calmInNow_48 nX12_50 ?_
      refine am_dup 51 dX12_calmInNow_51 rfl ?_
      refine am_aload_n 52 dX12_calmInNow_52 rfl ?_
      refine am_aload_n 53 dX12_calmInNow_53 rfl ?_
      refine am_I2 54 (mc' := 5) (ms' := 240) (rc := RC) (rs := RS) dX12_calmInNow_54 lX12_56 ⟨by decide, by decide⟩ (Nat.le_of_ble_eq_true rfl) (Nat.le_of_ble_eq_true rfl) (s_View_init (u := N + 1) am_ue (am_un (by omega) a2) (am_un (by omega) a3) (by omega) (by omega) (by omega)) ?_
      rintro o n' f1 ⟨pk, gg, w', rfl, rfl, rfl, hq⟩
      refine ⟨_, rfl, ?_⟩
      refine am_astore 57 dX12_calmInNow_57 (by decide) ?_
      refine am_iconst 59 (v := 0) dX12_calmInNow_59 (by decide) ?_
      refine am_istore 60 dX12_calmInNow_60 (by decide) ?_
      refine am_iconst 62 (v := 0) dX12_calmInNow_62 (by decide) ?_
      refine am_istore 63 dX12_calmInNow_63 (by decide) ?_
      rw [hsg] at hq ⊢
      generalize hf1 : r_put _ N (N + 1) _ _ pk _ gg w' = f1
      have hW : r_W f1 N (N + 1) sig := ⟨pk, by rw [← hf1]; exact r_a0, by rw [← hf1]; exact r_a1 (by omega), by rw [← hf1]; exact r_a2 (by omega), by rw [← hf1]; exact r_a3 (by omega), hq⟩
      have o1 : ∀ x, x < N → f1 x = g x := fun x hx => by rw [← hf1, r_out (by omega), am_up_ne (by omega)]
      clear hf1
      have b2 := (o1 n (by omega)).trans a2
      have b3 := (o1 (n + 1) (by omega)).trans a3
      rw [show f1 = va_up f1 (n + 1) (.inl (0, 48, .inl B0)) from (am_self b3).symm]
      show AW mX12_calmInNow RC RS 65 [some (.ref m), some (.ref n), some (.ref (n + 1)), some (.int (nI k)), some (.ref N), some (.int (nI (m_S (fun i => (sig i).toInt.natAbs) 0))), some (.int (nI 0))] [] (N + 1 + 5) (va_up f1 (n + 1) (.inl (0, 48, .inl B0))) Q
      refine am_for 48 (fun j (y : Nat → Int32) => (∀ i, i < j → y i = B1 i) ∧ ∀ i, j ≤ i → y i = B0 i) (fun j y => AW mX12_calmInNow RC RS 65 [some (.ref m), some (.ref n), some (.ref (n + 1)), some (.int (nI k)), some (.ref N), some (.int (nI (m_S (fun i => (sig i).toInt.natAbs) j))), some (.int (nI j))] [] (N + 1 + 5) (va_up f1 (n + 1) (.inl (0, 48, .inl y))) Q) ?_ ?_ 0 B0 (by omega) ⟨fun i hi => absurd hi (Nat.not_lt_zero i), fun _ _ => rfl⟩
      · rintro y1 ⟨hy1, -⟩
        refine AW.ints B1 am_ue hy1 ?_
        rw [am_uu]
        have fin : ∀ x, x < n → va_up f1 (n + 1) (.inl (0, 48, .inl B1)) x = f x := fun x hx => by rw [am_up_ne (by omega), o1 x (by omega), a4 x hx]
        have hsum : m_S (fun i => (sig i).toInt.natAbs) 48 ≤ 48 * 300000 := Nat.le_trans (m_S_le (h := fun _ => 300000) fun j hj => hsk j hj) (by rw [m_S_const]; exact Nat.le_refl _)
        have hz : m_calmB b h k = true ↔ m_S (fun i => (sig i).toInt.natAbs) 48 = 0 := by
          rw [hcal, y_S0]
          refine ⟨fun z j hj => by rw [z j hj]; rfl, fun z x hx => Int32.toInt_inj.mp ?_⟩
          have := z x hx
          rw [show (0 : Int32).toInt = 0 from rfl]
          omega
        generalize m_S (fun i => (sig i).toInt.natAbs) 48 = s5 at hsum hz
        by_cases q : s5 = 0
        · rw [if_pos (hz.mpr q)] at a5
          rw [q]
          refine am_iload 65 dX12_calmInNow_65 rfl ?_
          refine am_bipush 67 (v := 48) dX12_calmInNow_67 (by decide) ?_
          refine am_icmp_ge 69 108 dX12_calmInNow_69 rfl (fun c69 => ?_) (fun c69 => absurd (by decide) c69)
          refine am_iload 108 dX12_calmInNow_108 rfl ?_
          refine am_if_ne 110 115 dX12_calmInNow_110 rfl (fun c110 => absurd c110 (fun z => z rfl)) (fun c110 => ?_)
          refine am_iload_n 113 dX12_calmInNow_113 rfl ?_
          refine am_ireturn 114 dX12_calmInNow_114 rfl rfl ?_
          subst hQ
          exact ⟨by omega, by rw [← a5], fin⟩
        · rw [if_neg fun z => q (hz.mp z)] at a5
          have nz : ¬ nI s5 = 0 := fun z => q (am_eqN 0 (k := s5) z (by decide) (by omega))
          refine am_iload 65 dX12_calmInNow_65 rfl ?_
          refine am_bipush 67 (v := 48) dX12_calmInNow_67 (by decide) ?_
          refine am_icmp_ge 69 108 dX12_calmInNow_69 rfl (fun c69 => ?_) (fun c69 => absurd (by decide) c69)
          refine am_iload 108 dX12_calmInNow_108 rfl ?_
          refine am_if_ne 110 115 dX12_calmInNow_110 rfl (fun c110 => ?_) (fun c110 => absurd c110 nz)
          refine am_iinc 115 (v := nI (k + 1)) dX12_calmInNow_115 rfl (nI_1 (k)) (by decide) ?_
          refine am_goto 118 (tgt := 42) dX12_calmInNow_118 rfl ?_
          exact ih _ _ _ _ _ (by omega) (am_un (by omega) b2) am_ue fin a5
      · rintro j y1 hj ⟨hy1, hy2⟩ ih2
        have hW2 : r_W (va_up f1 (n + 1) (.inl (0, 48, .inl y1))) N (N + 1) sig := hW.on fun x hx => am_up_ne (by omega)
        obtain ⟨pk2, w0, w1, -⟩ := id hW2
        have hdr := s_drift (n := N + 1 + 5) hW2 hj
        have hn : y1 j + r_dr sig j = B1 j := by rw [hy2 j (Nat.le_refl _), hnxx]; exact r_dr_settle sig B0 j
        have ab := r_abs (hsk j hj)
        have ea : nI (m_S (fun i => (sig i).toInt.natAbs) j) + nI (sig j).toInt.natAbs = nI (m_S (fun i => (sig i).toInt.natAbs) (j + 1)) := nI_add _ _
        refine AW.more (rc := 0 + RC) (rs := 0 + RS) (by omega) (by omega) ?_
        refine am_iload 65 dX12_calmInNow_65 rfl ?_
        refine am_bipush 67 (v := 48) dX12_calmInNow_67 (by decide) ?_
        refine am_icmp_ge 69 108 dX12_calmInNow_69 rfl (fun c69 => absurd c69 (nI_ge hj (by decide))) (fun c69 => ?_)
        refine am_iload 72 dX12_calmInNow_72 rfl ?_
        refine am_aload 74 dX12_calmInNow_74 rfl ?_
        refine am_getfield 76 dX12_calmInNow_76 fX12_239 w0 rfl ?_
        refine am_iload 79 dX12_calmInNow_79 rfl ?_
        refine am_iaload 81 dX12_calmInNow_81 rfl w1 (am_ix hj (by decide)) ?_
        rw [nI_clamp (n := j) (by omega)]
        refine am_abs 82 dX12_calmInNow_82 jX12_83 (by decide) (Nat.le_of_ble_eq_true rfl) ?_
        rw [ab]
        refine am_iadd 85 dX12_calmInNow_85 ?_
        rw [ea]
        refine am_istore 86 dX12_calmInNow_86 (by decide) ?_
        refine am_aload_n 88 dX12_calmInNow_88 rfl ?_
        refine am_iload 89 dX12_calmInNow_89 rfl ?_
        refine am_dup2 91 dX12_calmInNow_91 rfl rfl ?_
        refine am_iaload 92 dX12_calmInNow_92 rfl am_ue (am_ix hj (by decide)) ?_
        rw [nI_clamp (n := j) (by omega)]
        refine am_aload 93 dX12_calmInNow_93 rfl ?_
        refine am_iload 95 dX12_calmInNow_95 rfl ?_
        refine AW.more (rc := 0 + (RC)) (rs := 0 + (RS)) (by omega) (by omega) ?_
        refine am_V1 97 (mc' := 0) (ms' := 0) (rc := RC) (rs := RS) dX12_calmInNow_97 lX12_230 ⟨by decide, by decide⟩ w0 (Nat.le_of_ble_eq_true rfl) (Nat.le_of_ble_eq_true rfl) (hdr) ?_
        refine am_is_ct ?_
        refine am_iadd 100 dX12_calmInNow_100 ?_
        rw [hn]
        refine am_iastore 101 dX12_calmInNow_101 rfl am_ue (am_ix hj (by decide)) ?_
        rw [nI_clamp (n := j) (by omega), am_uu]
        refine am_iinc 102 (v := nI (j + 1)) dX12_calmInNow_102 rfl (nI_1 (j)) (by decide) ?_
        refine am_goto 105 (tgt := 65) dX12_calmInNow_105 rfl ?_
        refine ih2 _ ⟨fun i hi => ?_, fun i hi => ?_⟩
        · by_cases e : i = j
          · rw [e, am_up_eq]
          · rw [am_up_ne e]; exact hy1 i (by omega)
        · rw [am_up_ne (by omega)]; exact hy2 i (by omega)
  show AW mX12_calmInNow (366 + 1 + 1) (14884 + 48 + 48) 0 [some (.ref m), none, none, none, none, none, none] [] n f Q
  refine am_bipush 0 (v := 48) dX12_calmInNow_0 (by decide) ?_
  refine am_newints 2 (t := 0) (N := 48) (rc := 366 + 1) (rs := 14884 + 48) dX12_calmInNow_2 ac_int rfl (by decide) (by decide) (by decide) ?_
  refine am_astore_n 4 dX12_calmInNow_4 (by decide) ?_
  refine am_bipush 5 (v := 48) dX12_calmInNow_5 (by decide) ?_
  refine am_newints 7 (t := 0) (N := 48) (rc := 366) (rs := 14884) dX12_calmInNow_7 ac_int rfl (by decide) (by decide) (by decide) ?_
  refine am_astore_n 9 dX12_calmInNow_9 (by decide) ?_
  refine am_iconst 10 (v := 0) dX12_calmInNow_10 (by decide) ?_
  refine am_istore_n 11 dX12_calmInNow_11 (by decide) ?_
  refine am_for 48 (fun k (z : (Nat → Int32) × (Nat → Int32)) => (∀ i, i < k → z.1 i = h) ∧ ∀ i, i < k → z.2 i = b i) (fun k z => AW mX12_calmInNow 366 14884 12 [some (.ref m), some (.ref n), some (.ref (n + 1)), some (.int (nI k)), none, none, none] [] (n + 1 + 1) (va_up (va_up f n (.inl (0, 48, .inl z.1))) (n + 1) (.inl (0, 48, .inl z.2))) Q) ?_ ?_ 0 (_, _) (by omega) ⟨fun i hi => absurd hi (Nat.not_lt_zero i), fun i hi => absurd hi (Nat.not_lt_zero i)⟩
  · rintro ⟨a, c⟩ ⟨ha, hc⟩
    have ha : ∀ i, i < 48 → a i = h := ha
    have hc : ∀ i, i < 48 → c i = b i := hc
    show AW mX12_calmInNow 366 14884 12 [some (.ref m), some (.ref n), some (.ref (n + 1)), some (.int (nI 48)), none, none, none] [] (n + 1 + 1) (va_up (va_up f n (.inl (0, 48, .inl a))) (n + 1) (.inl (0, 48, .inl c))) Q
    refine AW.ints b am_ue hc ?_
    refine AW.ints (fun _ => h + 0) (am_un (by omega) (am_un (by omega) am_ue)) (fun i hi => (ha i hi).trans (Int32.add_zero h).symm) ?_
    refine am_iload_n 12 dX12_calmInNow_12 rfl ?_
    refine am_bipush 13 (v := 48) dX12_calmInNow_13 (by decide) ?_
    refine am_icmp_ge 15 40 dX12_calmInNow_15 rfl (fun c15 => ?_) (fun c15 => absurd (by decide) c15)
    refine am_iconst 40 (v := 0) dX12_calmInNow_40 (by decide) ?_
    refine am_istore_n 41 dX12_calmInNow_41 (by decide) ?_
    exact loop _ am_ue (am_un (by omega) am_ue) (fun x hx => by repeat rw [am_up_ne (by omega)])
  · rintro k ⟨a, c⟩ hk ⟨ha, hc⟩ ih
    have ha : ∀ i, i < k → a i = h := ha
    have hc : ∀ i, i < k → c i = b i := hc
    show AW mX12_calmInNow 366 14884 12 [some (.ref m), some (.ref n), some (.ref (n + 1)), some (.int (nI k)), none, none, none] [] (n + 1 + 1) (va_up (va_up f n (.inl (0, 48, .inl a))) (n + 1) (.inl (0, 48, .inl c))) Q
    refine am_iload_n 12 dX12_calmInNow_12 rfl ?_
    refine am_bipush 13 (v := 48) dX12_calmInNow_13 (by decide) ?_
    refine am_icmp_ge 15 40 dX12_calmInNow_15 rfl (fun c15 => absurd c15 (nI_ge hk (by decide))) (fun c15 => ?_)
    refine am_aload_n 18 dX12_calmInNow_18 rfl ?_
    refine am_iload_n 19 dX12_calmInNow_19 rfl ?_
    refine am_aload_n 20 dX12_calmInNow_20 rfl ?_
    refine am_getfield 21 dX12_calmInNow_21 fX12_47 (by first | exact am_ue | exact am_un (by omega) am_ue | exact am_un (by omega) (am_un (by omega) h0) | exact am_un (by omega) (am_un (by omega) h1)) rfl ?_
    refine am_iastore 24 dX12_calmInNow_24 rfl (by first | exact am_ue | exact am_un (by omega) am_ue | exact am_un (by omega) (am_un (by omega) h0) | exact am_un (by omega) (am_un (by omega) h1)) (am_ix hk (by decide)) ?_
    rw [nI_clamp (n := k) (by omega), am_us (i := n + 1) (j := n) (by omega), am_uu]
    refine am_aload_n 25 dX12_calmInNow_25 rfl ?_
    refine am_iload_n 26 dX12_calmInNow_26 rfl ?_
    refine am_aload_n 27 dX12_calmInNow_27 rfl ?_
    refine am_getfield 28 dX12_calmInNow_28 fX12_13 (by first | exact am_ue | exact am_un (by omega) am_ue | exact am_un (by omega) (am_un (by omega) h0) | exact am_un (by omega) (am_un (by omega) h1)) rfl ?_
    refine am_iload_n 31 dX12_calmInNow_31 rfl ?_
    refine am_iaload 32 dX12_calmInNow_32 rfl (by first | exact am_ue | exact am_un (by omega) am_ue | exact am_un (by omega) (am_un (by omega) h0) | exact am_un (by omega) (am_un (by omega) h1)) (am_ix hk (by decide)) ?_
    rw [nI_clamp (n := k) (by omega)]
    refine am_iastore 33 dX12_calmInNow_33 rfl (by first | exact am_ue | exact am_un (by omega) am_ue | exact am_un (by omega) (am_un (by omega) h0) | exact am_un (by omega) (am_un (by omega) h1)) (am_ix hk (by decide)) ?_
    rw [nI_clamp (n := k) (by omega), am_uu]
    refine am_iinc 34 (v := nI (k + 1)) dX12_calmInNow_34 rfl (nI_1 (k)) (by decide) ?_
    refine am_goto 37 (tgt := 12) dX12_calmInNow_37 rfl ?_
    refine ih (_, _) ⟨fun i hi => ?_, fun i hi => ?_⟩
    · show va_up a k h i = h
      by_cases e : i = k
      · rw [e, am_up_eq]
      · rw [am_up_ne e]; exact ha i (by omega)
    · show va_up c k (b k) i = b i
      by_cases e : i = k
      · rw [e, am_up_eq]
      · rw [am_up_ne e]; exact hc i (by omega)
end YCalm
