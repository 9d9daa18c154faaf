/-! ===== the reference in any state: what is counted, to the letter ===== -/
section RCount
variable {m n sz : Nat} {f : Nat → am_C} {κ : Nat → Nat} {G : Nat → m_K}
theorem r_nm1 {k : Nat} (h : k < 2 ^ 31) : ¬ nI k = -1 := fun z => by
  have e := congrArg Int32.toInt z
  rw [nI_toInt h, show (-1 : Int32).toInt = -1 from rfl] at e
  omega
/-- the model's counters: taken, tossed, began, lifted, cancelled -/
def r_n (G : Nat → m_K) (i : Nat) : Int32 := (G 4).1 i
/-- the areas: sides, counts; one behind another -/
def y_Ar (f : Nat → am_C) (sz : Nat) (G : Nat → m_K) (κ : Nat → Nat) (R : Nat → Option Nat) : Prop := (∀ k, k < sz → ∃ (a : Nat) (g : Nat → Int32), R k = some a ∧ κ a = 3 ∧ κ (a + 1) = 4 ∧ f a = .inr (8, [.int ((G k).1 0), .int ((G k).1 1), .int ((G k).1 2), .int ((G k).1 3), .ref (a + 1)]) ∧ f (a + 1) = .inl (0, 4, .inl g) ∧ ∀ j, j < 4 → g j = (G k).1 (4 + j)) ∧ ∀ i j a b, i < j → j < sz → R i = some a → R j = some b → a < b
def r_ar (f : Nat → am_C) (m n sz : Nat) (G : Nat → m_K) (κ : Nat → Nat) : Prop := sz ≤ 4 ∧ m + 5 ≤ n ∧ ∃ (el : Nat) (mc : Int32) (R : Nat → Option Nat), f (m + 4) = .inr (13, [.int mc, .ref el, .int (nI sz)]) ∧ (sz = 0 → mc = 0 ∧ el = 1) ∧ (0 < sz → (m + 5 ≤ el ∧ el < n) ∧ κ el = 0 ∧ f el = .inl (8, 10, .inr (.inr (.inr (.inr R)))) ∧ ∀ k, k < sz → ∃ a, R k = some a ∧ κ a = 3) ∧ y_Ar f sz G κ R
/-- the areas stay -/
theorem y_Ar.on {f' : Nat → am_C} {G2 : Nat → m_K} {κ' : Nat → Nat} {R : Nat → Option Nat} (h : y_Ar f sz G κ R) (hk : ∀ x, κ x = 3 ∨ κ x = 4 → κ' x = κ x ∧ f' x = f x) (hG : ∀ k, k < sz → G2 k = G k) : y_Ar f' sz G2 κ' R := by
  refine ⟨fun k hks => ?_, h.2⟩
  obtain ⟨a, g, h1, h2, h3, h4, h5, h6⟩ := h.1 k hks
  rw [hG k hks]
  exact ⟨a, g, h1, (hk a (Or.inl h2)).1.trans h2, (hk _ (Or.inr h3)).1.trans h3, (hk a (Or.inl h2)).2.trans h4, (hk _ (Or.inr h3)).2.trans h5, h6⟩
theorem r_ar.on {n' : Nat} {f' : Nat → am_C} {G2 : Nat → m_K} {κ' : Nat → Nat} (a : r_ar f m n sz G κ) (hty : r_ty m n sz G κ f) (hn : n ≤ n') (hk : ∀ x, x < n → κ' x = κ x) (e : ∀ x, m + 4 ≤ x → x < n → κ x = 0 ∨ κ x = 3 ∨ κ x = 4 → f' x = f x) (hG : ∀ k, k < 4 → G2 k = G k) : r_ar f' m n' sz G2 κ' := by
  obtain ⟨a1, a2, el, mc, R, a3, a5, a4, a6⟩ := a
  have k4 : κ (m + 4) = 0 := Classical.byContradiction fun q => by have := ((hty (m + 4)).1 q).1; omega
  refine ⟨a1, by omega, el, mc, R, (e _ (by omega) (by omega) (Or.inl k4)).trans a3, a5, fun hs => ?_, a6.on (fun x hx => ?_) fun k hk => hG k (by omega)⟩
  · obtain ⟨b1, b2, b3, b4⟩ := a4 hs
    refine ⟨⟨b1.1, by omega⟩, (hk el b1.2).trans b2, (e el (by omega) b1.2 (Or.inl b2)).trans b3, fun k hks => ?_⟩
    obtain ⟨a, c1, c2⟩ := b4 k hks
    exact ⟨a, c1, (hk a ((hty a).1 (by omega)).2).trans c2⟩
  · obtain ⟨q1, q2⟩ := (hty x).1 (by omega)
    exact ⟨hk x q2, e x (by omega) q2 (Or.inr hx)⟩
/-- what is counted, added in the ghost -/
def y_cG (G : Nat → m_K) (ar : Int32) (j : Nat) (by1 : Int32) : Nat → m_K := if ar = -1 then G else va_up G ar.toNatClampNeg (va_up (G ar.toNatClampNeg).1 (4 + j) ((G ar.toNatClampNeg).1 (4 + j) + by1), (G ar.toNatClampNeg).2)
theorem y_cG_no {j : Nat} {by1 : Int32} : y_cG G (-1) j by1 = G := if_pos rfl
theorem y_cG_at {k j : Nat} {by1 : Int32} (hk : k < 4) : y_cG G (nI k) j by1 = va_up G k (va_up (G k).1 (4 + j) ((G k).1 (4 + j) + by1), (G k).2) := by
  unfold y_cG
  rw [if_neg (r_nm1 (by omega)), nI_clamp (n := k) (by omega)]
theorem y_cG_x {ar : Int32} {j x : Nat} {by1 : Int32} (h : ar = -1 ∨ ∃ k, k < sz ∧ ar = nI k) (hs : sz ≤ 4) (hx : 4 ≤ x) : y_cG G ar j by1 x = G x := by
  rcases h with rfl | ⟨k, hk, rfl⟩
  · rw [y_cG_no]
  · rw [y_cG_at (by omega), am_up_ne (by omega)]
theorem s_rcount {c j : Nat} {by1 : Int32} {a0 a1 a2 a3 a4 a5 a6 : Value} {r : List Value} (h0 : f m = .inr (12, a0 :: a1 :: a2 :: a3 :: a4 :: a5 :: a6 :: .ref (m + 4) :: r)) (har : r_ar f m n sz G κ) (hty : r_ty m n sz G κ f) (hc : κ c = 1) (hj : j ≤ 3) : AM mX12_count 0 0 [.ref m, .ref c, .int (nI j), .int by1] n f (fun o n' f' => o = .inl none ∧ n = n' ∧ r_ar f' m n sz (y_cG G ((G c).1 7) j by1) κ ∧ r_ty m n sz (y_cG G ((G c).1 7) j by1) κ f' ∧ ∀ x, κ x ≠ 4 → f' x = f x) := by
  obtain ⟨ap, cl, kk, g0, g1, g2, g3, g4, g5, rfl, g7⟩ := (hty c).2.1 hc
  unfold r_kF at g0
  show AW mX12_count 0 0 0 [some (.ref m), some (.ref c), some (.int (nI j)), some (.int by1)] [] n f _
  rcases g3 with e | ⟨k, hk, e⟩
  · rw [e] at g0 ⊢
    rw [y_cG_no]
    refine am_aload_n 0 dX12_count_0 rfl ?_
    refine am_getfield 1 dX12_count_1 fX12_99 (by repeat (first | assumption | exact am_ue | refine am_un (by first | assumption | decide | omega) ?_)) rfl ?_
    refine am_iconst 4 (v := (-1)) dX12_count_4 (by decide) ?_
    refine am_icmp_eq 5 31 dX12_count_5 rfl (fun c5 => ?_) (fun c5 => absurd (by decide) c5)
    refine am_return 31 dX12_count_31 rfl ?_
    exact ⟨rfl, rfl, har, hty, fun _ _ => rfl⟩
  · rw [e] at g0 ⊢
    obtain ⟨hs4, m5, el, mc, R, l0, l2, l1, lA⟩ := har
    rw [y_cG_at (by omega)]
    obtain ⟨l1a, l1b, l3, l4⟩ := l1 (by omega)
    obtain ⟨a, g, l5, l6, b1, b0, b2, b3⟩ := lA.1 k hk
    have hG : ∀ x, m + 5 ≤ x → va_up G k (va_up (G k).1 (4 + j) ((G k).1 (4 + j) + by1), (G k).2) x = G x := fun x hx => am_up_ne (by omega)
    have k4 : κ (m + 4) = 0 := Classical.byContradiction fun q => by have := ((hty (m + 4)).1 q).1; omega
    have hput := (hty.put (x := a + 1) (X := .inl (0, 4, .inl (va_up g j (g j + by1)))) (fun z => by omega) (fun z => by omega) (fun z => by omega) (fun _ => ⟨_, rfl⟩)).ghost hG
    have hne : ∀ x, κ x ≠ 4 → va_up f (a + 1) (.inl (0, 4, .inl (va_up g j (g j + by1)))) x = f x := fun x hx => am_up_ne fun z => hx (by rw [z]; exact b1)
    have hAr : r_ar (va_up f (a + 1) (.inl (0, 4, .inl (va_up g j (g j + by1))))) m n sz (va_up G k (va_up (G k).1 (4 + j) ((G k).1 (4 + j) + by1), (G k).2)) κ := by
      refine ⟨hs4, m5, el, mc, R, (hne _ (by omega)).trans l0, l2, fun _ => ⟨l1a, l1b, (hne _ (by omega)).trans l3, l4⟩, fun i hi => ?_, lA.2⟩
      obtain ⟨a', g', q1, q2, q3, q4, q5, q6⟩ := lA.1 i hi
      by_cases ei : i = k
      · subst ei
        obtain rfl : a' = a := Option.some.inj (q1.symm.trans l5)
        rw [am_up_eq]
        refine ⟨a', _, q1, q2, q3, (hne _ (by omega)).trans ?_, am_up_eq, fun i hi => ?_⟩
        · rw [q4]
          show (_ : am_C) = .inr (8, [Value.int (va_up (G i).1 (4 + j) ((G i).1 (4 + j) + by1) 0), .int (va_up (G i).1 (4 + j) ((G i).1 (4 + j) + by1) 1), .int (va_up (G i).1 (4 + j) ((G i).1 (4 + j) + by1) 2), .int (va_up (G i).1 (4 + j) ((G i).1 (4 + j) + by1) 3), .ref (a' + 1)])
          rw [am_up_ne (by omega), am_up_ne (by omega), am_up_ne (by omega), am_up_ne (by omega)]
        · show va_up g j (g j + by1) i = va_up (G _).1 (4 + j) ((G _).1 (4 + j) + by1) (4 + i)
          by_cases e2 : i = j
          · rw [e2, am_up_eq, am_up_eq, b3 j (by omega)]
          · rw [am_up_ne e2, am_up_ne (by omega), b3 i hi]
      · rw [am_up_ne ei]
        have hna : a' ≠ a := by
          rcases (show i < k ∨ k < i by omega) with w | w
          · have := lA.2 i k a' a w hk q1 l5
            omega
          · have := lA.2 k i a a' w hi l5 q1
            omega
        exact ⟨a', g', q1, q2, q3, (hne _ (by omega)).trans q4, (am_up_ne (by omega)).trans q5, q6⟩
    refine am_aload_n 0 dX12_count_0 rfl ?_
    refine am_getfield 1 dX12_count_1 fX12_99 (by repeat (first | assumption | exact am_ue | refine am_un (by first | assumption | decide | omega) ?_)) rfl ?_
    refine am_iconst 4 (v := (-1)) dX12_count_4 (by decide) ?_
    refine am_icmp_eq 5 31 dX12_count_5 rfl (fun c5 => absurd c5 (r_nm1 (by omega))) (fun c5 => ?_)
    refine am_aload_n 8 dX12_count_8 rfl ?_
    refine am_getfield 9 dX12_count_9 fX12_36 (by repeat (first | assumption | exact am_ue | refine am_un (by first | assumption | decide | omega) ?_)) rfl ?_
    refine am_aload_n 12 dX12_count_12 rfl ?_
    refine am_getfield 13 dX12_count_13 fX12_99 (by repeat (first | assumption | exact am_ue | refine am_un (by first | assumption | decide | omega) ?_)) rfl ?_
    refine am_V1 16 (mc' := 0) (ms' := 0) (rc := 0) (rs := 0) dX12_count_16 lX12_102 ⟨by decide, by decide⟩ l0 (Nat.le_of_ble_eq_true rfl) (Nat.le_of_ble_eq_true rfl) (s_get l0 l3 hk (by omega) l5) ?_
    refine am_is_ct ?_
    refine am_cast 19 dX12_count_19 cX12_66 rfl rfl (by repeat (first | assumption | exact am_ue | refine am_un (by first | assumption | decide | omega) ?_)) ?_
    refine am_getfield 22 dX12_count_22 fX12_106 (by repeat (first | assumption | exact am_ue | refine am_un (by first | assumption | decide | omega) ?_)) rfl ?_
    refine am_iload_n 25 dX12_count_25 rfl ?_
    refine am_dup2 26 dX12_count_26 rfl rfl ?_
    refine am_iaload 27 dX12_count_27 rfl (by repeat (first | assumption | exact am_ue | refine am_un (by first | assumption | decide | omega) ?_)) (am_ix (show j < 4 by omega) (by decide)) ?_
    rw [nI_clamp (n := j) (by omega)]
    refine am_iload_n 28 dX12_count_28 rfl ?_
    refine am_iadd 29 dX12_count_29 ?_
    refine am_iastore 30 dX12_count_30 rfl (by repeat (first | assumption | exact am_ue | refine am_un (by first | assumption | decide | omega) ?_)) (am_ix (show j < 4 by omega) (by decide)) ?_
    rw [nI_clamp (n := j) (by omega)]
    refine am_return 31 dX12_count_31 rfl ?_
    exact ⟨rfl, rfl, hAr, hput, hne⟩
end RCount
