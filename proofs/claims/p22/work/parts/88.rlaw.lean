/-! ===== the model's calls as the law needs them ===== -/
section RLaw
variable {G : Nat → m_K}
variable {m n sz : Nat} {f : Nat → am_C} {κ : Nat → Nat} {th h di li : Int32} {cs : Nat → Option Nat} {w b : Nat → Int32}
theorem s_rwouldB {x : Int32} (s : r_M m n f κ sz G th h di li cs w b) (hs : ∀ x, x < 48 → (h + w x - b x).toInt.natAbs ≤ 300000) : AM mX12_wouldMatch 12 342 [.ref m, .int x] n f (r_sP m n f κ sz G h di li cs w b r_vI) := by
  have := q_le12s (fun k => h + w k - b k)
  exact AW.more (by omega) (by omega) (s_rwouldMatch s hs)
theorem s_rframeB {d : Nat} (s : r_M m n f κ sz G th h (nI d) li cs w b) (hs : ∀ x, x < 48 → (h + w x - b x).toInt.natAbs ≤ 300000) (hd1 : 1 ≤ d) (hd4 : d ≤ 4) {T : Nat} {S : y_H} {A : Nat → Nat → Int32} (hR : y_R (fun _ => False) sz A S cs G) (hI : y_I sz T S) : AM mX12_frame (7 + (4 + (10 + 1) + 1)) 482 [.ref m] n f (fun o n' f' => (∃ v, o = .inl (some (.int v))) ∧ n ≤ n' ∧ ∃ κ' cs' G', r_M m n' f' κ' sz G' 0 h (nI d) li cs' (fun _ => 0) (m_settle (fun k => h + w k - b k) (m_reg (fun k => h + w k - b k)) b) ∧ r_out9 m n κ κ' f f' ∧ y_R (fun _ => False) sz A (y_frM (fun k => h + w k - b k) li d A sz S) cs' G') := by
  have := q_le12s (fun k => h + w k - b k)
  exact AW.more (Nat.le_refl _) (by omega) (s_rframe s hs hd1 hd4 rfl hR hI)
theorem s_rofRowX {y d : Int32} (s : r_M m n f κ sz G th h di li cs w b) : AM mX12_ofRow 7 292 [.ref m, .int y, .int d] n f (r_sP m n f κ sz G h di li cs w b r_vI) := by
  have up : ∀ {t : Int32} {v : Int32}, ∀ a b, r_is t (.int v) a b → r_vI a b := fun {t} {v} a b h => ⟨v, h.2⟩
  rcases c_row y with ⟨k, hk, rfl⟩ | hy
  · by_cases hd : 0 ≤ d ∧ d ≤ 2
    · obtain ⟨i, hi, rfl⟩ := m_small_le 2 rfl (by decide) hd.1 hd.2
      exact AW.mono (fun o n' f' a => a.mono up) (s_rofRow_t s hk hi)
    · exact AW.more (Nat.zero_le _) (Nat.zero_le _) (AW.mono (fun o n' f' a => a.mono up) (s_rofRow_g s hk hd))
  · have hy : ¬ (0 ≤ y ∧ y ≤ 5) := fun w => hy.elim (fun q => Int32.not_lt.mpr w.1 q) (fun q => (r_leP 5 rfl rfl (by decide)).mp w.2 q)
    exact AW.more (Nat.zero_le _) (Nat.zero_le _) (AW.mono (fun o n' f' a => a.mono up) (s_rofRow_f s hy))
theorem s_rkeepB {x d : Int32} {B : Nat} (s : r_M m n f κ sz G th h di li cs w b) (hs : ∀ D, D ≤ 200 → ∀ c, c < 48 → ∀ x, x < 48 → (h + m_press w (nI D) (c % 8) (c / 8) x - b x).toInt.natAbs ≤ 300000) (hB : (∃ j, j < 5 ∧ cs j ≠ none) → ∀ D, D ≤ 200 → 14880 + 2 * m_S (q_tr w b h (nI D)) 48 ≤ B) : AM mX12_keepBy 576 B [.ref m, .int x, .int d] n f (r_sP m n f κ sz G h di li cs w b r_vI) := by
  rcases r_name cs x with ⟨k, c, hk, rfl, hc⟩ | hx
  · by_cases hd : 1 ≤ d ∧ d ≤ 200
    · obtain ⟨i, hi, rfl⟩ := m_small_le 200 rfl (by decide) (Int32.le_trans (by decide) hd.1) hd.2
      exact AW.more (Nat.le_refl _) (hB ⟨k, hk, by rw [hc]; exact fun q => by cases q⟩ i hi) (s_rkeepBy_t s (hs i hi) hk hc hd)
    · exact AW.more (Nat.zero_le _) (Nat.zero_le _) (s_rkeepBy_g s hk hc hd)
  · exact AW.more (Nat.zero_le _) (Nat.zero_le _) (s_rkeepBy_f s hx)
end RLaw
