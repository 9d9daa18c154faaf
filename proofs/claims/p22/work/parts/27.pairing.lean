/-! ===== the pairing: weights, the best of all ways, its digits ===== -/
abbrev m_IMP : Int64 := 1152921504606846976
def m_sm (set name : Nat) : Nat := if set.testBit name then set - 2 ^ name else set
def m_offS (we : Nat → Int64) (set name : Nat) (le : Nat → Int64) : Nat → Int64 := if m_sm set name ≠ set ∧ we name < m_IMP ∧ le (m_sm set name) < m_IMP then va_up le set (if le (m_sm set name) + we name < le set then le (m_sm set name) + we name else le set) else le
def m_offN (we : Nat → Int64) (set : Nat) : Nat → (Nat → Int64) → (Nat → Int64)
  | 0, le => le
  | k + 1, le => m_offS we set k (m_offN we set k le)
def m_off (we : Nat → Int64) : Nat → (Nat → Int64) → (Nat → Int64)
  | 0, le => le
  | j + 1, le => m_offN we (31 - j) 5 (m_off we j le)
def m_le0 : Nat → Int64 := fun s => if s = 0 then 0 else m_IMP
def m_leP (W : Nat → Nat → Int64) : Nat → (Nat → Int64)
  | 0 => m_le0
  | k + 1 => m_off (fun nm => W nm k) 31 (m_leP W k)
def m_dg (name : Nat) : Nat := 64 ^ (4 - name)
def m_rest (s : Nat) : Nat → Nat
  | 0 => 0
  | k + 1 => m_rest s k + (if s.testBit k then 0 else 2 ^ 44 + 63 * m_dg k)
def m_bst (le : Nat → Int64) : Nat → Int64
  | 0 => m_IMP
  | s + 1 => if le s + lN (m_rest s 5) < m_bst le s then le s + lN (m_rest s 5) else m_bst le s
def m_best (W : Nat → Nat → Int64) (P : Nat) : Int64 := m_bst (m_leP W P) 32
def m_pk (be : Int64) (name : Nat) : Int32 := if (be >>> ((6 * (4 - nI name)).toInt64 &&& 63)).toInt32 &&& 63 = 63 then -1 else (be >>> ((6 * (4 - nI name)).toInt64 &&& 63)).toInt32 &&& 63
theorem m_sm_32 : ∀ set, set < 32 → ∀ name, name < 5 → nI set &&& (((1 : Int32) <<< (nI name &&& 31)) ^^^ (-1)) = nI (m_sm set name) ∧ m_sm set name < 32 ∧ (m_sm set name ≠ set → m_sm set name < set ∧ set.testBit name = true ∧ ∀ j, j < 5 → (m_sm set name).testBit j = (set.testBit j && decide (j ≠ name))) := by decide +kernel
theorem m_bit_32 : ∀ set, set < 32 → ∀ name, name < 5 → (nI set &&& ((1 : Int32) <<< (nI name &&& 31)) = 0 ↔ set.testBit name = false) := by decide +kernel
theorem m_lNlt {a b : Nat} (ha : a < 2 ^ 63) (hb : b < 2 ^ 63) : lN a < lN b ↔ a < b := by
  rw [Int64.lt_iff_toInt_lt, m_lN ha, m_lN hb]
  omega
/-- a way's weight: squares on top, the peaks as digits below; 0 where nobody is -/
def m_dgs (d : Nat → Nat) (set : Nat) : Nat := (if set.testBit 0 then d 0 else 0) * 64 ^ 4 + (if set.testBit 1 then d 1 else 0) * 64 ^ 3 + (if set.testBit 2 then d 2 else 0) * 64 ^ 2 + (if set.testBit 3 then d 3 else 0) * 64 + (if set.testBit 4 then d 4 else 0)
def m_gd (th : Nat → Prop) (P set : Nat) (v : Int64) : Prop := v = m_IMP ∨ ∃ (s : Nat) (d : Nat → Nat), s ≤ 256 * set ∧ (∀ j, j < 5 → set.testBit j = true → d j < P ∧ th j) ∧ v = lN (s * 2 ^ 30 + m_dgs d set)
def m_wOk (th : Nat → Prop) (W : Nat → Nat → Int64) (P : Nat) : Prop := ∀ name, name < 5 → ∀ k, k < P → W name k = m_IMP ∨ (th name ∧ ∃ s, s ≤ 256 ∧ W name k = lN (s * 2 ^ 30 + k * m_dg name))
theorem m_gd.mono {th : Nat → Prop} {P Q set : Nat} {v : Int64} (h : m_gd th P set v) (hPQ : P ≤ Q) : m_gd th Q set v := by
  rcases h with h | ⟨s, d, h1, h2, h3⟩
  · exact Or.inl h
  · exact Or.inr ⟨s, d, h1, fun j hj hb => ⟨Nat.lt_of_lt_of_le (h2 j hj hb).1 hPQ, (h2 j hj hb).2⟩, h3⟩
theorem m_gd.up {th : Nat → Prop} {P k set name s2 : Nat} {v : Int64} (hn : name < 5) (hs : set < 32) (hd : m_sm set name ≠ set) (h : m_gd th P (m_sm set name) v) (hv : v ≠ m_IMP) (hk : k < P) (hth : th name) (h2 : s2 ≤ 256) : m_gd th P set (v + lN (s2 * 2 ^ 30 + k * m_dg name)) := by
  rcases h with h | ⟨s, d, a1, a2, a3⟩
  · exact absurd h hv
  · obtain ⟨-, -, b⟩ := m_sm_32 set hs name hn
    obtain ⟨b1, b2, b3⟩ := b hd
    refine Or.inr ⟨s + s2, va_up d name k, by omega, ?_, ?_⟩
    · intro j hj hb
      by_cases hjn : j = name
      · subst hjn
        rw [am_up_eq]
        exact ⟨hk, hth⟩
      · rw [am_up_ne hjn]
        refine a2 j hj ?_
        rw [b3 j hj, hb]
        simp [hjn]
    · rw [a3, lN_add]
      have e : m_dgs (va_up d name k) set = m_dgs d (m_sm set name) + k * m_dg name := by
        unfold m_dgs m_dg
        rw [b3 0 (by omega), b3 1 (by omega), b3 2 (by omega), b3 3 (by omega), b3 4 (by omega)]
        have : name = 0 ∨ name = 1 ∨ name = 2 ∨ name = 3 ∨ name = 4 := by omega
        rcases this with rfl | rfl | rfl | rfl | rfl <;> simp [va_up, b2] <;> omega
      exact congrArg lN (by rw [e]; omega)
theorem m_off_ok {th : Nat → Prop} {W : Nat → Nat → Int64} {P k : Nat} (hW : m_wOk th W P) (hk : k < P) : ∀ (j : Nat), j ≤ 31 → ∀ (le : Nat → Int64), (∀ s, s < 32 → m_gd th P s (le s)) → ∀ s, s < 32 → m_gd th P s (m_off (fun nm => W nm k) j le s)
  | 0, _, le, h, s, hs => h s hs
  | j + 1, hj, le, h, s, hs => by
    have ih := m_off_ok hW hk j (by omega) le h
    have : ∀ i, i ≤ 5 → ∀ s, s < 32 → m_gd th P s (m_offN (fun nm => W nm k) (31 - j) i (m_off (fun nm => W nm k) j le) s) := by
      intro i
      induction i with
      | zero => exact fun _ => ih
      | succ i ih2 =>
        intro hi s hs
        have h2 := ih2 (by omega)
        show m_gd th P s (m_offS (fun nm => W nm k) (31 - j) i (m_offN (fun nm => W nm k) (31 - j) i (m_off (fun nm => W nm k) j le)) s)
        generalize m_offN (fun nm => W nm k) (31 - j) i (m_off (fun nm => W nm k) j le) = g at h2 ⊢
        unfold m_offS
        split
        · next hc =>
          obtain ⟨c1, c2, c3⟩ := hc
          by_cases hse : s = 31 - j
          · subst hse
            rw [am_up_eq]
            split
            · have hv : g (m_sm (31 - j) i) ≠ m_IMP := fun z => absurd c3 (by rw [z]; decide)
              rcases hW i (by omega) k hk with hw | ⟨hth, s2, hs2, hw⟩
              · exact absurd c2 (by show ¬ W i k < m_IMP; rw [hw]; decide)
              · show m_gd th P (31 - j) (g (m_sm (31 - j) i) + W i k)
                rw [hw]
                exact m_gd.up (by omega) hs c1 (h2 _ (m_sm_32 _ hs i (by omega)).2.1) hv hk hth hs2
            · exact h2 _ hs
          · rw [am_up_ne hse]
            exact h2 s hs
        · exact h2 s hs
    exact this 5 (by omega) s hs
theorem m_wOk.mono {th : Nat → Prop} {W : Nat → Nat → Int64} {P Q : Nat} (h : m_wOk th W Q) (hPQ : P ≤ Q) : m_wOk th W P := fun name hn k hk => h name hn k (by omega)
theorem m_leP_ok {th : Nat → Prop} {W : Nat → Nat → Int64} : ∀ (P : Nat), m_wOk th W P → ∀ s, s < 32 → m_gd th P s (m_leP W P s)
  | 0, _, s, _ => by
    show m_gd th 0 s (m_le0 s)
    unfold m_le0
    split
    · next h =>
      subst h
      exact Or.inr ⟨0, fun _ => 0, by omega, fun j _ hb => absurd hb (by simp), by simp [m_dgs]; rfl⟩
    · exact Or.inl rfl
  | P + 1, hW, s, hs => m_off_ok hW (Nat.lt_succ_self P) 31 (Nat.le_refl _) _ (fun s hs => (m_leP_ok P (hW.mono (Nat.le_succ P)) s hs).mono (Nat.le_succ P)) s hs
theorem m_off_0 (we : Nat → Int64) : ∀ j, j ≤ 31 → ∀ le : Nat → Int64, m_off we j le 0 = le 0
  | 0, _, _ => rfl
  | j + 1, hj, le => by
    have : ∀ i g, m_offN we (31 - j) i g 0 = g 0 := by
      intro i
      induction i with
      | zero => exact fun _ => rfl
      | succ i ih =>
        intro g
        show m_offS we (31 - j) i (m_offN we (31 - j) i g) 0 = _
        unfold m_offS
        split
        · rw [am_up_ne (by omega), ih]
        · exact ih g
    show m_offN we (31 - j) 5 (m_off we j le) 0 = le 0
    rw [this, m_off_0 we j (by omega)]
theorem m_leP_0 (W : Nat → Nat → Int64) : ∀ P, m_leP W P 0 = 0
  | 0 => rfl
  | P + 1 => by
    show m_off _ 31 (m_leP W P) 0 = 0
    rw [m_off_0 _ 31 (Nat.le_refl _), m_leP_0 W P]
/-- the best way: its digits -/
def m_bOk (th : Nat → Prop) (P : Nat) (v : Int64) : Prop := ∃ (H : Nat) (e : Nat → Nat), H < 2 ^ 20 ∧ (∀ j, j < 5 → e j = 63 ∨ (e j < P ∧ th j)) ∧ v = lN (H * 2 ^ 30 + (e 0 * 64 ^ 4 + e 1 * 64 ^ 3 + e 2 * 64 ^ 2 + e 3 * 64 + e 4))
theorem m_rest_32 : ∀ set, set < 32 → m_rest set 5 = ((if set.testBit 0 then 0 else 2 ^ 14) + (if set.testBit 1 then 0 else 2 ^ 14) + (if set.testBit 2 then 0 else 2 ^ 14) + (if set.testBit 3 then 0 else 2 ^ 14) + (if set.testBit 4 then 0 else 2 ^ 14)) * 2 ^ 30 + ((if set.testBit 0 then 0 else 63) * 64 ^ 4 + (if set.testBit 1 then 0 else 63) * 64 ^ 3 + (if set.testBit 2 then 0 else 63) * 64 ^ 2 + (if set.testBit 3 then 0 else 63) * 64 + (if set.testBit 4 then 0 else 63)) := by decide +kernel
theorem m_sum_ok {th : Nat → Prop} {P set : Nat} {v : Int64} (hs : set < 32) (h : m_gd th P set v) (hv : v ≠ m_IMP) : m_bOk th P (v + lN (m_rest set 5)) := by
  rcases h with h | ⟨s, d, a1, a2, a3⟩
  · exact absurd h hv
  · have hr := m_rest_32 set hs
    refine ⟨s + ((if set.testBit 0 then 0 else 2 ^ 14) + (if set.testBit 1 then 0 else 2 ^ 14) + (if set.testBit 2 then 0 else 2 ^ 14) + (if set.testBit 3 then 0 else 2 ^ 14) + (if set.testBit 4 then 0 else 2 ^ 14)), fun j => if set.testBit j then d j else 63, ?_, ?_, ?_⟩
    · have : ∀ b : Bool, (if b = true then 0 else 2 ^ 14) ≤ 2 ^ 14 := by decide
      have b0 := this (set.testBit 0)
      have b1 := this (set.testBit 1)
      have b2 := this (set.testBit 2)
      have b3 := this (set.testBit 3)
      have b4 := this (set.testBit 4)
      omega
    · intro j hj
      show (if set.testBit j then d j else 63) = 63 ∨ _
      by_cases hb : set.testBit j = true
      · refine Or.inr ⟨?_, (a2 j hj hb).2⟩
        show (if set.testBit j = true then d j else 63) < P
        rw [if_pos hb]
        exact (a2 j hj hb).1
      · rw [if_neg hb]
        exact Or.inl rfl
    · rw [a3, lN_add, hr]
      refine congrArg lN ?_
      unfold m_dgs
      dsimp only
      have hw : ∀ (b : Bool) (d : Nat), (if b = true then d else 63) = (if b = true then d else 0) + (if b = true then 0 else 63) := fun b d => by cases b <;> simp
      rw [hw (set.testBit 0) (d 0), hw (set.testBit 1) (d 1), hw (set.testBit 2) (d 2), hw (set.testBit 3) (d 3), hw (set.testBit 4) (d 4)]
      clear a1 a2 a3 hr hs hw
      generalize (if set.testBit 0 = true then d 0 else 0) = x0
      generalize (if set.testBit 0 = true then 0 else 63) = z0
      generalize (if set.testBit 0 = true then 0 else 2 ^ 14) = y0
      generalize (if set.testBit 1 = true then d 1 else 0) = x1
      generalize (if set.testBit 1 = true then 0 else 63) = z1
      generalize (if set.testBit 1 = true then 0 else 2 ^ 14) = y1
      generalize (if set.testBit 2 = true then d 2 else 0) = x2
      generalize (if set.testBit 2 = true then 0 else 63) = z2
      generalize (if set.testBit 2 = true then 0 else 2 ^ 14) = y2
      generalize (if set.testBit 3 = true then d 3 else 0) = x3
      generalize (if set.testBit 3 = true then 0 else 63) = z3
      generalize (if set.testBit 3 = true then 0 else 2 ^ 14) = y3
      generalize (if set.testBit 4 = true then d 4 else 0) = x4
      generalize (if set.testBit 4 = true then 0 else 63) = z4
      generalize (if set.testBit 4 = true then 0 else 2 ^ 14) = y4
      omega
theorem m_bOk.lt {th : Nat → Prop} {P : Nat} {v : Int64} (hP : P ≤ 63) (h : m_bOk th P v) : v < m_IMP := by
  obtain ⟨H, e, h1, h2, rfl⟩ := h
  have g : ∀ j, j < 5 → e j ≤ 63 := fun j hj => by rcases h2 j hj with h | h <;> omega
  have g0 := g 0 (by omega)
  have g1 := g 1 (by omega)
  have g2 := g 2 (by omega)
  have g3 := g 3 (by omega)
  have g4 := g 4 (by omega)
  rw [show m_IMP = lN (2 ^ 60) from rfl, m_lNlt (by omega) (by omega)]
  omega
theorem m_best_ok {th : Nat → Prop} {W : Nat → Nat → Int64} {P : Nat} (hW : m_wOk th W P) (hP : P ≤ 63) : m_bOk th P (m_best W P) := by
  have h := m_leP_ok P hW
  have h0 := m_leP_0 W P
  have key : ∀ s, s ≤ 32 → 0 < s → m_bOk th P (m_bst (m_leP W P) s) := by
    intro s
    induction s with
    | zero => exact fun _ z => absurd z (by omega)
    | succ s ih =>
      intro hs _
      show m_bOk th P (if m_leP W P s + lN (m_rest s 5) < m_bst (m_leP W P) s then m_leP W P s + lN (m_rest s 5) else m_bst (m_leP W P) s)
      rcases Nat.eq_zero_or_pos s with rfl | hpos
      · rw [h0]
        have : m_bOk th P ((0 : Int64) + lN (m_rest 0 5)) := by
          have := m_sum_ok (by omega) (h 0 (by omega)) (by rw [h0]; decide)
          rwa [h0] at this
        rw [show m_bst (m_leP W P) 0 = m_IMP from rfl, if_pos (this.lt hP)]
        exact this
      · have ih' := ih (by omega) hpos
        split
        · next hlt =>
          refine m_sum_ok (by omega) (h s (by omega)) fun z => ?_
          have h1 := Int64.lt_iff_toInt_lt.mp hlt
          have h2 := Int64.lt_iff_toInt_lt.mp (ih'.lt hP)
          rw [z] at h1
          have h3 : ∀ s, s < 32 → m_IMP.toInt ≤ (m_IMP + lN (m_rest s 5)).toInt := by decide +kernel
          have := h3 s (by omega)
          omega
        · exact ih'
  exact key 32 (Nat.le_refl _) (by omega)
theorem m_and63 (m : Nat) : nI m &&& 63 = nI (m % 64) := by
  apply Int32.toBitVec_inj.mp
  apply BitVec.eq_of_toNat_eq
  rw [Int32.toBitVec_and, BitVec.toNat_and]
  show (m % 2 ^ 32) &&& (2 ^ 6 - 1) = m % 64 % 2 ^ 32
  rw [Nat.and_two_pow_sub_one_eq_mod]
  omega
theorem m_lshr {m k : Nat} (n : Int64) (hm : m < 2 ^ 62) (hn : (n.toBitVec.smod 64).toNat = k) : lN m >>> n = lN (m / 2 ^ k) := by
  apply Int64.toInt_inj.mp
  have h1 : m / 2 ^ k ≤ m := Nat.div_le_self _ _
  show ((lN m).toBitVec.sshiftRight (n.toBitVec.smod 64).toNat).toInt = _
  rw [hn, BitVec.toInt_sshiftRight, m_lN (by omega), Int.shiftRight_eq_div_pow]
  show (lN m).toInt / ((2 ^ k : Nat) : Int) = _
  rw [m_lN (by omega)]
  rfl
theorem m_pk_ok {th : Nat → Prop} {P name : Nat} {v : Int64} (h : m_bOk th P v) (hP : P ≤ 63) (hn : name < 5) : m_pk v name = -1 ∨ ∃ k, k < P ∧ th name ∧ m_pk v name = nI k := by
  obtain ⟨H, e, h1, h2, rfl⟩ := h
  have g : ∀ j, j < 5 → e j ≤ 63 := fun j hj => by rcases h2 j hj with h | h <;> omega
  have g0 := g 0 (by omega)
  have g1 := g 1 (by omega)
  have g2 := g 2 (by omega)
  have g3 := g 3 (by omega)
  have g4 := g 4 (by omega)
  have hd : (lN (H * 2 ^ 30 + (e 0 * 64 ^ 4 + e 1 * 64 ^ 3 + e 2 * 64 ^ 2 + e 3 * 64 + e 4)) >>> ((6 * (4 - nI name)).toInt64 &&& 63)).toInt32 &&& 63 = nI (e name) := by
    have hc : name = 0 ∨ name = 1 ∨ name = 2 ∨ name = 3 ∨ name = 4 := by omega
    rcases hc with rfl | rfl | rfl | rfl | rfl
    · rw [m_lshr (k := 24) _ (by omega) (by decide), lN_i, m_and63]; congr 1; omega
    · rw [m_lshr (k := 18) _ (by omega) (by decide), lN_i, m_and63]; congr 1; omega
    · rw [m_lshr (k := 12) _ (by omega) (by decide), lN_i, m_and63]; congr 1; omega
    · rw [m_lshr (k := 6) _ (by omega) (by decide), lN_i, m_and63]; congr 1; omega
    · rw [m_lshr (k := 0) _ (by omega) (by decide), lN_i, m_and63]; congr 1; omega
  unfold m_pk
  rw [hd]
  rcases h2 name hn with h | ⟨h, ht⟩
  · rw [h]
    exact Or.inl rfl
  · refine Or.inr ⟨e name, h, ht, ?_⟩
    rw [if_neg]
    intro z
    have := (nI_eq (b := 63) (by omega) (by omega)).mp z
    omega
