/-! ===== small helpers ===== -/
theorem am_leN (N : Nat) {k : Nat} (c : nI N ≤ nI k) (hN : N < 2 ^ 31) (hk : k < 2 ^ 31) : N ≤ k := (nI_leI hN hk).mp c
theorem am_nleN (N : Nat) {k : Nat} (c : ¬ nI N ≤ nI k) (hN : N < 2 ^ 31) (hk : k < 2 ^ 31) : k < N := Nat.lt_of_not_le fun h => c ((nI_leI hN hk).mpr h)
theorem am_ltN (N : Nat) {k : Nat} (c : nI k < nI N) (hN : N < 2 ^ 31) (hk : k < 2 ^ 31) : k < N := (nI_ltI hk hN).mp c
theorem am_nltN (N : Nat) {k : Nat} (c : ¬ nI k < nI N) (hN : N < 2 ^ 31) (hk : k < 2 ^ 31) : N ≤ k := Nat.le_of_not_lt fun h => c ((nI_ltI hk hN).mpr h)
theorem am_gtN (N : Nat) {k : Nat} (c : nI N < nI k) (hN : N < 2 ^ 31) (hk : k < 2 ^ 31) : N < k := (nI_ltI hN hk).mp c
theorem am_ngtN (N : Nat) {k : Nat} (c : ¬ nI N < nI k) (hN : N < 2 ^ 31) (hk : k < 2 ^ 31) : k ≤ N := Nat.le_of_not_lt fun h => c ((nI_ltI hN hk).mpr h)
theorem am_eqN (N : Nat) {k : Nat} (c : nI k = nI N) (hN : N < 2 ^ 31) (hk : k < 2 ^ 31) : k = N := (nI_eq hk hN).mp c
theorem am_neN (N : Nat) {k : Nat} (c : ¬ nI k = nI N) : k ≠ N := fun h => c (by rw [h])
theorem am_up_eq {α : Type} {f : Nat → α} {i : Nat} {c : α} : va_up f i c i = c := by simp [va_up]
theorem am_up_ne {α : Type} {f : Nat → α} {i j : Nat} {c : α} (h : j ≠ i) : va_up f i c j = f j := by simp [va_up, h]
/-- an index within, in either form -/
theorem am_ix {c N : Nat} (h : c < N) (hN : N < 2 ^ 31) : vp_in (nI c) N := vp_in_nI h hN
/-- a counting loop: from k to N with a thing s that changes -/
theorem am_for {σ : Type} (N : Nat) (I : Nat → σ → Prop) (G : Nat → σ → Prop) (hx : ∀ s, I N s → G N s) (hs : ∀ k s, k < N → I k s → (∀ s', I (k + 1) s' → G (k + 1) s') → G k s) : ∀ k s, k ≤ N → I k s → G k s := by
  intro k
  generalize hd : N - k = d
  induction d generalizing k with
  | zero =>
    intro s hk hI
    have e : k = N := by omega
    subst e
    exact hx s hI
  | succ d ih =>
    intro s hk hI
    exact hs k s (by omega) hI (fun s' hI' => ih (k + 1) (by omega) s' (by omega) hI')
