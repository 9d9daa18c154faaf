/-! ===== small helpers ===== -/
theorem am_leN (N : Nat) {k : Nat} (c : nI N ≤ nI k) (hN : N < 2 ^ 31) (hk : k < 2 ^ 31) : N ≤ k := (nI_leI hN hk).mp c
theorem am_nleN (N : Nat) {k : Nat} (c : ¬ nI N ≤ nI k) (hN : N < 2 ^ 31) (hk : k < 2 ^ 31) : k < N := Nat.lt_of_not_le fun h => c ((nI_leI hN hk).mpr h)
theorem am_ltN (N : Nat) {k : Nat} (c : nI k < nI N) (hN : N < 2 ^ 31) (hk : k < 2 ^ 31) : k < N := (nI_ltI hk hN).mp c
theorem am_nltN (N : Nat) {k : Nat} (c : ¬ nI k < nI N) (hN : N < 2 ^ 31) (hk : k < 2 ^ 31) : N ≤ k := Nat.le_of_not_lt fun h => c ((nI_ltI hk hN).mpr h)
theorem am_gtN (N : Nat) {k : Nat} (c : nI N < nI k) (hN : N < 2 ^ 31) (hk : k < 2 ^ 31) : N < k := (nI_ltI hN hk).mp c
theorem am_ngtN (N : Nat) {k : Nat} (c : ¬ nI N < nI k) (hN : N < 2 ^ 31) (hk : k < 2 ^ 31) : k ≤ N := Nat.le_of_not_lt fun h => c ((nI_ltI hN hk).mpr h)
theorem am_eqN (N : Nat) {k : Nat} (c : nI k = nI N) (hN : N < 2 ^ 31) (hk : k < 2 ^ 31) : k = N := (nI_eq hk hN).mp c
theorem am_neN (N : Nat) {k : Nat} (c : ¬ nI k = nI N) : k ≠ N := fun h => c (by rw [h])
theorem am_up_eq {α : Type} {f : Nat → α} {i : Nat} {c : α} : va_up f i c i = c := by simp [va_up]
theorem am_up_ne {α : Type} {f : Nat → α} {i j : Nat} {c : α} (h : j ≠ i) : va_up f i c j = f j := by simp [va_up, h]
/-- an index within, in either form -/
theorem am_ix {c N : Nat} (h : c < N) (hN : N < 2 ^ 31) : vp_in (nI c) N := vp_in_nI h hN
/-- a counting loop: from k to N with a thing s that changes -/
theorem am_for {σ : Type} (N : Nat) (I : Nat → σ → Prop) (G : Nat → σ → Prop) (hx : ∀ s, I N s → G N s) (hs : ∀ k s, k < N → I k s → (∀ s', I (k + 1) s' → G (k + 1) s') → G k s) : ∀ k s, k ≤ N → I k s → G k s := by
  intro k
  generalize hd : N - k = d
  induction d generalizing k with
  | zero =>
    intro s hk hI
    have e : k = N := by omega
    subst e
    exact hx s hI
  | succ d ih =>
    intro s hk hI
    exact hs k s (by omega) hI (fun s' hI' => ih (k + 1) (by omega) s' (by omega) hI')
theorem am_lo1 {y : Nat} (h : y < 2 ^ 30) : (if nI y - 1 < 0 then 0 else nI y - 1) = nI (y - 1) := by
  cases y with
  | zero => decide
  | succ y => rw [nI_pred, if_neg (nI_pos (by omega))]; rfl
theorem am_hi1 (N : Nat) {y : Nat} (h : y < 2 ^ 30) (hN : N < 2 ^ 30) : (if nI N < nI y + 1 then nI N else nI y + 1) = nI (min (y + 1) N) := by
  rw [nI_1]
  by_cases c : N < y + 1
  · rw [if_pos (nI_lt c (by omega)), Nat.min_eq_right (by omega)]
  · rw [if_neg (nI_nlt (by omega) (by omega)), Nat.min_eq_left (by omega)]
theorem am_cellN (r c : Nat) : nI r * 8 + nI c = nI (8 * r + c) := by
  rw [show (8 : Int32) = nI 8 from rfl, pk_mul, nI_add, Nat.mul_comm]
theorem am_cond {α : Type} {c d : Prop} [Decidable c] [Decidable d] {x y : α} (h : c ↔ d) : (if c then x else y) = (if d then x else y) := by
  by_cases hc : c
  · rw [if_pos hc, if_pos (h.mp hc)]
  · rw [if_neg hc, if_neg (fun q => hc (h.mpr q))]
