/-! ===== the law's body, whole ===== -/
theorem m_and31 (x : Int32) : ∃ k, k < 32 ∧ x &&& 31 = nI k := by
  have h1 : (x &&& 31).toBitVec.toNat < 32 := by
    rw [Int32.toBitVec_and, BitVec.toNat_and]
    exact Nat.lt_of_le_of_lt Nat.and_le_right (by decide)
  have h2 : (x &&& 31).toInt = ((x &&& 31).toBitVec.toNat : Int) := by
    show (x &&& 31).toBitVec.toInt = _
    rw [BitVec.toInt_eq_toNat_cond]
    split <;> omega
  refine m_small 32 (v := 32) rfl (by decide) ?_ ?_
  · rw [Int32.lt_iff_toInt_lt, h2]
    show ¬ ((x &&& 31).toBitVec.toNat : Int) < 0
    omega
  · rw [Int32.le_iff_toInt_le, h2]
    show ¬ (32 : Int) ≤ ((x &&& 31).toBitVec.toNat : Int)
    omega
theorem am_newdoubles (pc : Nat) {M : am_M} {rc rs n t N : Nat} {i : Int32} {L : List (Option Value)} {st : List Value} {f : Nat → am_C} {P : am_P} (hd : decode (am_by M) pc = .ok (.newarray .double, 2)) (ha : Cond.arrayClass .double ∈ am_W) (ht : am_tyl[t]? = some .double) (hi : ¬ i < 0) (hN : i.toNatClampNeg = N) (hb : N ≤ 1000) (kk : AW M rc rs (pc + 2) L (.ref n :: st) (n + 1) (va_up f n (.inl (t, N, .inr (.inr (.inr (.inl (fun _ => 0))))))) P) : AW M (rc + 1) (rs + N) pc L (.int i :: st) n f P :=
  am_newarray (a := (N, .inr (.inr (.inr (.inl (fun _ => 0)))))) pc hd ha rfl ht (fun _ _ _ h1 h2 => Option.some.inj (h1.symm.trans h2)) (fun _ => rfl) (fun _ => rfl) trivial hi hN (by show N * 8 ≤ _; omega) kk
section Main
variable {f : Nat → am_C} {g : Nat → Int64} {xs : Nat → Int32} {P : am_P}
set_option maxHeartbeats 4000000 in
theorem l_sw (hF : m_Fr f 2) (hM : r_Mo f 48 0 (fun _ => 0)) (hs : f 0 = .inl (20, 5, .inl xs)) (ho : f 53 = .inl (1, 1, .inr (.inl g))) (hE : l_E xs P) : ∀ k : Nat, k < 32 → AW mL_law 15 632 44 [some (.ref 0), some (.ref 2), some (.ref 48), some (.ref 53), some (.ref 54), some (.int 0), none, none, none] [.int (nI k)] 55 f P
  | 0, _ => by
    refine am_tableIn 44 (off := 100) (tgt := 144) dL_law_44 (by decide) (by decide) rfl rfl ?_
    exact AW.more (by omega) (by omega) (l_area hF hM hs ho hE)
  | 1, _ => by
    refine am_tableIn 44 (off := 192) (tgt := 236) dL_law_44 (by decide) (by decide) rfl rfl ?_
    exact AW.more (by omega) (by omega) (l_dial hF hM hs ho hE)
  | 2, _ => by
    refine am_tableIn 44 (off := 248) (tgt := 292) dL_law_44 (by decide) (by decide) rfl rfl ?_
    exact AW.more (by omega) (by omega) (l_limit hF hM hs ho hE)
  | 3, _ => by
    refine am_tableIn 44 (off := 304) (tgt := 348) dL_law_44 (by decide) (by decide) rfl rfl ?_
    exact AW.more (by omega) (by omega) (l_heat hF hM hs ho hE)
  | 4, _ => by
    refine am_tableIn 44 (off := 360) (tgt := 404) dL_law_44 (by decide) (by decide) rfl rfl ?_
    exact AW.more (by omega) (by omega) (l_press hF hM hs ho hE)
  | 5, _ => by
    refine am_tableIn 44 (off := 440) (tgt := 484) dL_law_44 (by decide) (by decide) rfl rfl ?_
    exact AW.more (by omega) (by omega) (l_noise hF hM hs ho hE)
  | 6, _ => by
    refine am_tableIn 44 (off := 508) (tgt := 552) dL_law_44 (by decide) (by decide) rfl rfl ?_
    exact AW.more (by omega) (by omega) (l_frame hF hM hs ho hE)
  | 7, _ => by
    refine am_tableIn 44 (off := 521) (tgt := 565) dL_law_44 (by decide) (by decide) rfl rfl ?_
    exact AW.more (by omega) (by omega) (l_wipe hF hM hs ho hE)
  | 8, _ => by
    refine am_tableIn 44 (off := 534) (tgt := 578) dL_law_44 (by decide) (by decide) rfl rfl ?_
    exact AW.more (by omega) (by omega) (l_ofCell hF hM hs ho hE)
  | 9, _ => by
    refine am_tableIn 44 (off := 614) (tgt := 658) dL_law_44 (by decide) (by decide) rfl rfl ?_
    exact AW.more (by omega) (by omega) (l_ofPeak hF hM hs ho hE)
  | 10, _ => by
    refine am_tableIn 44 (off := 682) (tgt := 726) dL_law_44 (by decide) (by decide) rfl rfl ?_
    exact AW.more (by omega) (by omega) (l_ofContact hF hM hs ho hE)
  | 11, _ => by
    refine am_tableIn 44 (off := 750) (tgt := 794) dL_law_44 (by decide) (by decide) rfl rfl ?_
    exact AW.more (by omega) (by omega) (l_where hF hM hs ho hE)
  | 12, _ => by
    refine am_tableIn 44 (off := 839) (tgt := 883) dL_law_44 (by decide) (by decide) rfl rfl ?_
    exact AW.more (by omega) (by omega) (l_apart hF hM hs ho hE)
  | 13, _ => by
    refine am_tableIn 44 (off := 928) (tgt := 972) dL_law_44 (by decide) (by decide) rfl rfl ?_
    exact AW.more (by omega) (by omega) (l_ofRow hF hM hs ho hE)
  | 14, _ => by
    refine am_tableIn 44 (off := 996) (tgt := 1040) dL_law_44 (by decide) (by decide) rfl rfl ?_
    exact AW.more (by omega) (by omega) (l_ofArea hF hM hs ho hE)
  | 15, _ => by
    refine am_tableIn 44 (off := 1064) (tgt := 1108) dL_law_44 (by decide) (by decide) rfl rfl ?_
    exact AW.more (by omega) (by omega) (l_many hF hM hs ho hE)
  | 16, _ => by
    refine am_tableIn 44 (off := 1120) (tgt := 1164) dL_law_44 (by decide) (by decide) rfl rfl ?_
    exact AW.more (by omega) (by omega) (l_guess hF hM hs ho hE)
  | 17, _ => by
    refine am_tableIn 44 (off := 1237) (tgt := 1281) dL_law_44 (by decide) (by decide) rfl rfl ?_
    exact AW.more (by omega) (by omega) (l_wouldMatch hF hM hs ho hE)
  | 18, _ => by
    refine am_tableIn 44 (off := 1293) (tgt := 1337) dL_law_44 (by decide) (by decide) rfl rfl ?_
    exact AW.more (by omega) (by omega) (l_calmIn hF hM hs ho hE)
  | 19, _ => by
    refine am_tableIn 44 (off := 1306) (tgt := 1350) dL_law_44 (by decide) (by decide) rfl rfl ?_
    exact AW.more (by omega) (by omega) (l_keepBy hF hM hs ho hE)
  | 20, _ => by
    refine am_tableIn 44 (off := 1374) (tgt := 1418) dL_law_44 (by decide) (by decide) rfl rfl ?_
    exact AW.more (by omega) (by omega) (l_digest hF hM hs ho hE)
  | k + 21, h => by
    refine am_tableOut 44 (tgt := 1432) dL_law_44 (Or.inr (by rw [nI_toInt (by omega)]; omega)) rfl ?_
    exact AW.more (rc := 0) (rs := 0) (by omega) (by omega) (hE _ _ _ _ _ _ _ hs)
def l_P : am_P := fun o _ _ => o = .inl (some (.int 1))
theorem l_end : l_E xs l_P := by
  intro rc rs z6 z7 z8 n f' hs
  refine am_iinc 1432 dL_law_1432 rfl rfl (by decide) ?_
  refine am_goto 1435 (tgt := 28) dL_law_1435 rfl ?_
  refine am_iload 28 dL_law_28 rfl ?_
  refine am_aload_n 30 dL_law_30 rfl ?_
  refine am_slen 31 dL_law_31 hs ?_
  refine am_iconst 32 (v := 5) dL_law_32 (by decide) ?_
  refine am_isub 33 dL_law_33 ?_
  refine am_icmp_gt 34 1438 dL_law_34 rfl (fun c34 => ?_) (fun c34 => absurd (by decide) c34)
  refine am_iconst 1438 (v := 1) dL_law_1438 (by decide) ?_
  refine am_ireturn 1439 dL_law_1439 rfl rfl ?_
  rfl
theorem l_five (hF : m_Fr f 2) (hM : r_Mo f 48 0 (fun _ => 0)) (hs : f 0 = .inl (20, 5, .inl xs)) (ho : f 53 = .inl (1, 1, .inr (.inl g))) : AW mL_law 15 632 28 [some (.ref 0), some (.ref 2), some (.ref 48), some (.ref 53), some (.ref 54), some (.int 0), none, none, none] [] 55 f l_P := by
  obtain ⟨k, hk, ek⟩ := m_and31 (xs (0 : Int32).toNatClampNeg)
  refine am_iload 28 dL_law_28 rfl ?_
  refine am_aload_n 30 dL_law_30 rfl ?_
  refine am_slen 31 dL_law_31 hs ?_
  refine am_iconst 32 (v := 5) dL_law_32 (by decide) ?_
  refine am_isub 33 dL_law_33 ?_
  refine am_icmp_gt 34 1438 dL_law_34 rfl (fun c34 => absurd c34 (by decide)) (fun c34 => ?_)
  refine am_aload_n 37 dL_law_37 rfl ?_
  refine am_iload 38 dL_law_38 rfl ?_
  refine am_saload 40 dL_law_40 hs (am_ix (c := 0) (by decide) (by decide)) ?_
  refine am_bipush 41 (v := 31) dL_law_41 (by decide) ?_
  refine am_iand 43 dL_law_43 ?_
  rw [ek]
  exact l_sw hF hM hs ho l_end k hk
theorem l_few {N : Nat} (hN : N < 5) (hs : f 0 = .inl (20, N, .inl xs)) : AW mL_law 15 632 28 [some (.ref 0), some (.ref 2), some (.ref 48), some (.ref 53), some (.ref 54), some (.int 0), none, none, none] [] 55 f l_P := by
  have hc : Int32.ofNat N - 5 < 0 := by
    have : ∀ m, m < 5 → Int32.ofNat m - 5 < 0 := by decide
    exact this N hN
  refine am_iload 28 dL_law_28 rfl ?_
  refine am_aload_n 30 dL_law_30 rfl ?_
  refine am_slen 31 dL_law_31 hs ?_
  refine am_iconst 32 (v := 5) dL_law_32 (by decide) ?_
  refine am_isub 33 dL_law_33 ?_
  refine am_icmp_gt 34 1438 dL_law_34 rfl (fun c34 => ?_) (fun c34 => absurd hc c34)
  refine am_iconst 1438 (v := 1) dL_law_1438 (by decide) ?_
  refine am_ireturn 1439 dL_law_1439 rfl rfl ?_
  rfl
set_option maxHeartbeats 4000000 in
theorem l_law {N : Nat} (hs : f 0 = .inl (20, N, .inl xs)) (hN : N ≤ 5) : AW mL_law 68 1749 0 [some (.ref 0), none, none, none, none, none, none, none, none] [] 2 f l_P := by
  refine am_new 0 (rc := 67) (rs := 1738) (N := 11) dL_law_0 nL_8 ?_
  refine am_dup 3 dL_law_3 rfl ?_
  refine am_I0 4 (mc' := 45) (ms' := 987) (rc := 22) (rs := 751) dL_law_4 lL_72 ⟨by decide, by decide⟩ (Nat.le_of_ble_eq_true rfl) (Nat.le_of_ble_eq_true rfl) (s_Palmward_init am_ue) ?_
  rintro o n1 f1 ⟨rfl, rfl, hF1, e1⟩
  refine ⟨_, rfl, ?_⟩
  have hs1 : f1 0 = .inl (20, N, .inl xs) := (e1 0 (by omega)).trans (am_un (by omega) hs)
  refine am_astore_n 7 dL_law_7 (by decide) ?_
  refine am_new 8 (rc := 21) (rs := 738) (N := 13) dL_law_8 nL_73 ?_
  refine am_dup 11 dL_law_11 rfl ?_
  refine am_I0 12 (mc' := 4) (ms' := 104) (rc := 17) (rs := 634) dL_law_12 lL_75 ⟨by decide, by decide⟩ (Nat.le_of_ble_eq_true rfl) (Nat.le_of_ble_eq_true rfl) (s_Model_init am_ue) ?_
  rintro o n2 f2 ⟨rfl, rfl, hM2, e2⟩
  refine ⟨_, rfl, ?_⟩
  have hs2 : f2 0 = .inl (20, N, .inl xs) := (e2 0 (by omega)).trans (am_un (by omega) hs1)
  have hF2 : m_Fr f2 2 := hF1.on fun x a b => (e2 x (by omega)).trans (am_un (by omega) rfl)
  refine am_astore_n 15 dL_law_15 (by decide) ?_
  refine am_iconst 16 (v := 1) dL_law_16 (by decide) ?_
  refine am_newlongs 17 (t := 1) (N := 1) (rc := 16) (rs := 633) dL_law_17 ac_long rfl (by decide) (by decide) (by decide) ?_
  refine am_astore_n 19 dL_law_19 (by decide) ?_
  refine am_iconst 20 (v := 1) dL_law_20 (by decide) ?_
  refine am_newdoubles 21 (t := 6) (N := 1) (rc := 15) (rs := 632) dL_law_21 ac_double rfl (by decide) (by decide) (by decide) ?_
  refine am_astore 23 dL_law_23 (by decide) ?_
  refine am_iconst 25 (v := 0) dL_law_25 (by decide) ?_
  refine am_istore 26 dL_law_26 (by decide) ?_
  have hs3 : va_up (va_up f2 53 (.inl (1, 1, .inr (.inl (fun _ => 0))))) 54 (.inl (6, 1, .inr (.inr (.inr (.inl (fun _ => 0)))))) 0 = .inl (20, N, .inl xs) := am_un (by omega) (am_un (by omega) hs2)
  have hF3 : m_Fr (va_up (va_up f2 53 (.inl (1, 1, .inr (.inl (fun _ => 0))))) 54 (.inl (6, 1, .inr (.inr (.inr (.inl (fun _ => 0))))))) 2 := hF2.on fun x a b => am_un (by omega) (am_un (by omega) rfl)
  have hM3 : r_Mo (va_up (va_up f2 53 (.inl (1, 1, .inr (.inl (fun _ => 0))))) 54 (.inl (6, 1, .inr (.inr (.inr (.inl (fun _ => 0))))))) 48 0 (fun _ => 0) := hM2.on fun x a b => am_un (by omega) (am_un (by omega) rfl)
  rcases Nat.lt_or_eq_of_le hN with h5 | rfl
  · exact l_few h5 hs3
  · exact l_five hF3 hM3 hs3 (am_un (by omega) am_ue)
end Main
