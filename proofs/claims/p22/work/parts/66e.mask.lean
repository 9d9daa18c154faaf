/-! ===== the reference's search: which peaks are taken, as bits of a long ===== -/
section XMask
def x_tk (e : Nat → Nat) : Nat → Nat
  | 0 => 0
  | k + 1 => if e k = 63 then x_tk e k else x_tk e k ||| 2 ^ e k
theorem x_tk_lt {e : Nat → Nat} : ∀ k, (∀ j, j < k → e j = 63 ∨ e j < 48) → x_tk e k < 2 ^ 48 := by
  intro k
  induction k with
  | zero =>
    intro _
    show (0 : Nat) < 2 ^ 48
    decide
  | succ k ih =>
    intro h
    have ih := ih fun j hj => h j (by omega)
    show (if e k = 63 then x_tk e k else x_tk e k ||| 2 ^ e k) < 2 ^ 48
    split
    · exact ih
    · next q => exact Nat.or_lt_two_pow ih (Nat.pow_lt_pow_right (by decide) ((h k (by omega)).resolve_left q))
theorem x_tk_bit {e : Nat → Nat} {p : Nat} (hp : p < 48) : ∀ k, (x_tk e k).testBit p = true ↔ ∃ j, j < k ∧ e j = p := by
  intro k
  induction k with
  | zero => exact ⟨fun h => absurd h (by simp [x_tk]), fun ⟨j, hj, _⟩ => absurd hj (Nat.not_lt_zero j)⟩
  | succ k ih =>
    show (if e k = 63 then x_tk e k else x_tk e k ||| 2 ^ e k).testBit p = true ↔ _
    by_cases q : e k = 63
    · rw [if_pos q, ih]
      constructor
      · rintro ⟨j, hj, he⟩
        exact ⟨j, by omega, he⟩
      · rintro ⟨j, hj, he⟩
        by_cases z : j = k
        · rw [z, q] at he
          omega
        · exact ⟨j, by omega, he⟩
    · rw [if_neg q, Nat.testBit_or, Nat.testBit_two_pow, Bool.or_eq_true, decide_eq_true_eq, ih]
      constructor
      · rintro (⟨j, hj, he⟩ | he)
        · exact ⟨j, by omega, he⟩
        · exact ⟨k, by omega, he⟩
      · rintro ⟨j, hj, he⟩
        by_cases z : j = k
        · rw [z] at he
          exact Or.inr he
        · exact Or.inl ⟨j, by omega, he⟩
theorem x_lN_bv (a : Nat) : (lN a).toBitVec = BitVec.ofNat 64 a := rfl
theorem x_and1 (m : Nat) : lN m &&& 1 = lN (m % 2) := by
  apply Int64.toBitVec_inj.mp
  apply BitVec.eq_of_toNat_eq
  rw [Int64.toBitVec_and, BitVec.toNat_and, x_lN_bv, x_lN_bv]
  show (m % 2 ^ 64) &&& (2 ^ 1 - 1) = m % 2 % 2 ^ 64
  rw [Nat.and_two_pow_sub_one_eq_mod]
  omega
theorem x_or (a b : Nat) : lN a ||| lN b = lN (a ||| b) := by
  apply Int64.toBitVec_inj.mp
  rw [Int64.toBitVec_or, x_lN_bv, x_lN_bv, x_lN_bv]
  apply BitVec.eq_of_toNat_eq
  rw [BitVec.toNat_or]
  show (a % 2 ^ 64) ||| (b % 2 ^ 64) = (a ||| b) % 2 ^ 64
  rw [Nat.or_mod_two_pow]
theorem x_shl : ∀ k, k < 48 → (1 : Int64) <<< ((nI k).toInt64 &&& 63) = lN (2 ^ k) := by decide +kernel
theorem x_smod : ∀ k, k < 48 → (((nI k).toInt64 &&& 63).toBitVec.smod 64).toNat = k := by decide +kernel
/-- a peak's bit, looked at -/
theorem x_bit {m p : Nat} (hm : m < 2 ^ 48) (hp : p < 48) : lN m >>> ((nI p).toInt64 &&& 63) &&& 1 = lN (m / 2 ^ p % 2) := by
  rw [m_lshr _ (by omega) (x_smod p hp), x_and1]
theorem x_bit_iff {m p : Nat} (hm : m < 2 ^ 48) (hp : p < 48) : lg_cmp (lN m >>> ((nI p).toInt64 &&& 63) &&& 1) 1 = 0 ↔ m.testBit p = true := by
  rw [x_bit hm hp, lg_cmp_eq, Nat.testBit_eq_decide_div_mod_eq, decide_eq_true_eq]
  constructor
  · intro h
    have := congrArg Int64.toInt h
    rw [m_lN (by omega), show (1 : Int64).toInt = 1 from rfl] at this
    omega
  · intro h
    rw [h]
    rfl
end XMask
