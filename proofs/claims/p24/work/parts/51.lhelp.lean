/-! ===== the law's helpers ===== -/
section Lhe
variable {p T n : Nat} {f : Nat → am_C} {z : m_Z}
theorem s_Lcell {N j : Nat} {xs : Nat → Int32} (hs : f 0 = .inl (20, N, .inl xs)) (hN : N ≤ 260) (hj : j < 100) : AM mL_cell 0 0 [.ref 0, .int (nI j)] n f (fun o n' f' => ∃ v, o = .inl (some (.int v)) ∧ n = n' ∧ f = f') := by
  show AW mL_cell 0 0 0 [some (.ref 0), some (.int (nI j))] [] n f _
  by_cases h : j < N
  · have h1 : ¬ Int32.ofNat N ≤ nI j := fun q => absurd ((nI_leI (a := N) (by omega) (by omega)).mp q) (by omega)
    refine am_iload_n 0 dL_cell_0 rfl ?_
    refine am_aload_n 1 dL_cell_1 rfl ?_
    refine am_slen 2 dL_cell_2 hs ?_
    refine am_icmp_ge 3 12 dL_cell_3 rfl (fun c3 => absurd c3 h1) (fun c3 => ?_)
    refine am_aload_n 6 dL_cell_6 rfl ?_
    refine am_iload_n 7 dL_cell_7 rfl ?_
    refine am_saload 8 dL_cell_8 hs (am_ix h (by omega)) ?_
    refine am_goto 9 (tgt := 18) dL_cell_9 rfl ?_
    refine am_ireturn 18 dL_cell_18 rfl rfl ?_
    exact ⟨_, rfl, rfl, rfl⟩
  · have h1 : Int32.ofNat N ≤ nI j := (nI_leI (a := N) (by omega) (by omega)).mpr (by omega)
    refine am_iload_n 0 dL_cell_0 rfl ?_
    refine am_aload_n 1 dL_cell_1 rfl ?_
    refine am_slen 2 dL_cell_2 hs ?_
    refine am_icmp_ge 3 12 dL_cell_3 rfl (fun c3 => ?_) (fun c3 => absurd h1 c3)
    refine am_ldc 12 dL_cell_12 kL_8 ?_
    refine am_iload_n 14 dL_cell_14 rfl ?_
    refine am_iconst 15 (v := 3) dL_cell_15 (by decide) ?_
    refine am_iadd 16 dL_cell_16 ?_
    refine am_imul 17 dL_cell_17 ?_
    refine am_ireturn 18 dL_cell_18 rfl rfl ?_
    exact ⟨_, rfl, rfl, rfl⟩
theorem m_below (v : Int32) {m : Nat} (h1 : 1 ≤ m) (h2 : m < 2 ^ 31) : ∃ r, r < m ∧ (v &&& 2147483647) - (v &&& 2147483647) / nI m * nI m = nI r := by
  obtain ⟨k, hk, e⟩ : ∃ k, k < 2 ^ 31 ∧ v &&& 2147483647 = nI k := by
    refine ⟨v.toBitVec.toNat % 2 ^ 31, Nat.mod_lt _ (by decide), ?_⟩
    apply Int32.toBitVec_inj.mp
    apply BitVec.eq_of_toNat_eq
    rw [Int32.toBitVec_and, BitVec.toNat_and]
    show v.toBitVec.toNat &&& (2 ^ 31 - 1) = v.toBitVec.toNat % 2 ^ 31 % 2 ^ 32
    rw [Nat.and_two_pow_sub_one_eq_mod]
    omega
  refine ⟨k % m, Nat.mod_lt _ h1, ?_⟩
  rw [e]
  have hd : nI k / nI m = nI (k / m) := pk_div hk h1 h2
  have hm : k / m * m ≤ k := Nat.div_mul_le_self k m
  rw [hd, pk_mul]
  have e2 : nI (k / m * m) + nI (k % m) = nI k := by
    rw [nI_add]
    congr 1
    rw [Nat.mul_comm]
    exact Nat.div_add_mod k m
  rw [← e2, Int32.add_comm, Int32.add_sub_cancel]
theorem s_Lbelow {v : Int32} {m : Nat} (h1 : 1 ≤ m) (h2 : m < 2 ^ 31) : AM mL_below 0 0 [.int v, .int (nI m)] n f (fun o n' f' => ∃ r, r < m ∧ o = .inl (some (.int (nI r))) ∧ n = n' ∧ f = f') := by
  obtain ⟨r, hr, e⟩ := m_below v h1 h2
  have hne : ¬ nI m = 0 := fun q => absurd ((nI_eq (b := 0) h2 (by decide)).mp q) (by omega)
  show AW mL_below 0 0 0 [some (.int v), some (.int (nI m))] [] n f _
  refine am_iload_n 0 dL_below_0 rfl ?_
  refine am_ldc 1 dL_below_1 kL_7 ?_
  refine am_iand 3 dL_below_3 ?_
  refine am_iload_n 4 dL_below_4 rfl ?_
  refine am_irem 5 dL_below_5 hne ?_
  rw [e]
  refine am_ireturn 6 dL_below_6 rfl rfl ?_
  exact ⟨r, hr, rfl, rfl, rfl⟩
/-- a contact's frames; 0 without one -/
def m_frs (z : m_Z) (x : Nat) : Int32 := if (z_K z x).1 0 ≠ 0 then (z_K z x).1 4 else 0
theorem s_Lframes {x : Nat} (hG : m_G f p T z) (hx : x < 5) : AM mL_frames 1 6 [.ref p, .int (nI x)] n f (am_is (some (.int (m_frs z x))) n f) := by
  have h0 := hG.1
  show AW mL_frames 1 6 0 [some (.ref p), some (.int (nI x)), none] [] n f _
  by_cases hth : (z_K z x).1 0 ≠ 0
  · rw [show m_frs z x = (z_K z x).1 4 from if_pos hth]
    refine am_aload_n 0 dL_frames_0 rfl ?_
    refine am_iload_n 1 dL_frames_1 rfl ?_
    refine am_iconst 2 (v := 2) dL_frames_2 (by decide) ?_
    refine am_V2 3 (mc' := 0) (ms' := 0) (rc := 1) (rs := 6) dL_frames_3 lL_92 ⟨by decide, by decide⟩ (by repeat (first | assumption | exact am_ue | refine am_un (by first | assumption | decide | omega) ?_)) (Nat.le_of_ble_eq_true rfl) (Nat.le_of_ble_eq_true rfl) (s_ofContact hG hx (j := 2) (by decide) hth) ?_
    refine am_is_ct ?_
    exact am_ireturn 6 dL_frames_6 rfl rfl ⟨rfl, rfl, rfl⟩
  · rw [show m_frs z x = 0 from if_neg hth]
    refine am_aload_n 0 dL_frames_0 rfl ?_
    refine am_iload_n 1 dL_frames_1 rfl ?_
    refine am_iconst 2 (v := 2) dL_frames_2 (by decide) ?_
    refine am_V2 3 (mc' := 1) (ms' := 6) (rc := 0) (rs := 0) dL_frames_3 lL_92 ⟨by decide, by decide⟩ (by repeat (first | assumption | exact am_ue | refine am_un (by first | assumption | decide | omega) ?_)) (Nat.le_of_ble_eq_true rfl) (Nat.le_of_ble_eq_true rfl) (s_ofContactT hG hx (Classical.not_not.mp hth)) ?_
    rintro o n' f' ⟨rfl, rfl, rfl⟩
    refine AX.catch_n [] (0, 6, 7, 95) [] rfl (by intro z hz; cases hz) (by decide) (by decide) cL_95 fc_2 dL_frames_7 (by decide) ?_
    refine am_iconst 8 (v := 0) dL_frames_8 (by decide) ?_
    exact am_ireturn 9 dL_frames_9 rfl rfl ⟨rfl, rfl, rfl⟩
theorem m_frs_in (hI : m_Inv (z_to z) T (z_K z) (z_be z) (z_li z) (z_ca z) (z_C z)) (hT : T ≤ 1000) {x : Nat} (hx : x < 5) : ((z_K z x).1 0 = 0 ∧ m_frs z x = 0) ∨ ((z_K z x).1 0 ≠ 0 ∧ ∃ fr, 1 ≤ fr ∧ fr ≤ 1001 ∧ m_frs z x = nI fr ∧ (z_K z x).1 4 = nI fr) := by
  by_cases hth : (z_K z x).1 0 ≠ 0
  · obtain ⟨⟨fr, h1, h2, h3⟩, -⟩ := (hI.1 x hx).2.2 hth
    refine Or.inr ⟨hth, fr, h1, by omega, ?_, h3⟩
    unfold m_frs
    rw [if_pos hth, h3]
  · refine Or.inl ⟨Classical.not_not.mp hth, ?_⟩
    unfold m_frs
    rw [if_neg hth]
end Lhe
