/-! ===== what is gone over; the area of a cell ===== -/
section YIt
variable {A : Nat → Nat → Int32}
def y_it {σ : Type} (F : σ → Nat → σ) (s : σ) : Nat → σ
  | 0 => s
  | k + 1 => F (y_it F s k) k
/-- the latest area that holds a cell -/
def y_ar (A : Nat → Nat → Int32) (c : Nat) : Nat → Int32
  | 0 => -1
  | k + 1 => if A k 0 ≤ nI (c % 8) ∧ nI (c % 8) ≤ A k 1 ∧ A k 2 ≤ nI (c / 8) ∧ nI (c / 8) ≤ A k 3 then nI k else y_ar A c k
theorem y_ar_in {c : Nat} : ∀ t, y_ar A c t = -1 ∨ ∃ a, a < t ∧ y_ar A c t = nI a
  | 0 => Or.inl rfl
  | t + 1 => by
    unfold y_ar
    split
    · exact Or.inr ⟨t, by omega, rfl⟩
    · exact (y_ar_in t).imp id fun ⟨a, h, e⟩ => ⟨a, by omega, e⟩
end YIt
