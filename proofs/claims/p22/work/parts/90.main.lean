/-! ===== the law's body ===== -/
theorem m_and31 (x : Int32) : ∃ k, k < 32 ∧ x &&& 31 = nI k := by
  have h1 : (x &&& 31).toBitVec.toNat < 32 := by
    rw [Int32.toBitVec_and, BitVec.toNat_and]
    exact Nat.lt_of_le_of_lt Nat.and_le_right (by decide)
  have h2 : (x &&& 31).toInt = ((x &&& 31).toBitVec.toNat : Int) := by
    show (x &&& 31).toBitVec.toInt = _
    rw [BitVec.toInt_eq_toNat_cond]
    split <;> omega
  refine m_small 32 (v := 32) rfl (by decide) ?_ ?_
  · rw [Int32.lt_iff_toInt_lt, h2]
    show ¬ ((x &&& 31).toBitVec.toNat : Int) < 0
    omega
  · rw [Int32.le_iff_toInt_le, h2]
    show ¬ (32 : Int) ≤ ((x &&& 31).toBitVec.toNat : Int)
    omega
theorem am_newdoubles (pc : Nat) {M : am_M} {rc rs n t N : Nat} {i : Int32} {L : List (Option Value)} {st : List Value} {f : Nat → am_C} {P : am_P} (hd : decode (am_by M) pc = .ok (.newarray .double, 2)) (ha : Cond.arrayClass .double ∈ am_W) (ht : am_tyl[t]? = some .double) (hi : ¬ i < 0) (hN : i.toNatClampNeg = N) (hb : N ≤ 1000) (kk : AW M rc rs (pc + 2) L (.ref n :: st) (n + 1) (va_up f n (.inl (t, N, .inr (.inr (.inr (.inl (fun _ => 0))))))) P) : AW M (rc + 1) (rs + N) pc L (.int i :: st) n f P :=
  am_newarray (a := (N, .inr (.inr (.inr (.inl (fun _ => 0)))))) pc hd ha rfl ht (fun _ _ _ h1 h2 => Option.some.inj (h1.symm.trans h2)) (fun _ => rfl) (fun _ => rfl) trivial hi hN (by show N * 8 ≤ _; omega) kk
theorem l_idle {xs : Nat → Int32} {N c s n : Nat} {f : Nat → am_C} (j0 : l_J xs N c s n f) : l_J xs N (c + 1) s n f := by
  obtain ⟨z, T, κ, sz, th, li, cs, A, C, fr, k, hc, wp, G, ⟨⟨h1, h2, h3, h4, hX⟩, h5, h6, h7, h8, ⟨h9, h10⟩, h11, h12⟩⟩ := j0
  exact ⟨z, T, κ, sz, th, li, cs, A, C, fr, k, hc, wp, G, ⟨⟨h1, h2, by omega, by omega, hX⟩, h5, h6, h7, h8, ⟨h9.up, h10⟩, h11, h12⟩⟩
theorem l_i5 (c : Nat) : nI (5 * c) + 5 = nI (5 * (c + 1)) := by
  rw [show (5 : Int32) = nI 5 from rfl, nI_add, Nat.mul_succ]
section Main3
variable {f : Nat → am_C} {xs : Nat → Int32} {P : am_P} {N c s n R S S1 : Nat} {z6 z7 z8 : Option Value}
set_option maxHeartbeats 4000000 in
theorem l_sw (j0 : l_J xs N c s n f) (hc5 : 5 * c + 5 ≤ N) (hN : N ≤ 2560) (hE : l_E xs N c s R S P) (hE1 : l_E xs N c (s + 1) R S1 P) (hS : S1 + 482 ≤ l_C s + S) : ∀ k : Nat, k < 32 → AW mL_law (640 + R) (l_C s + S) 44 [some (.ref 0), some (.ref 2), some (.ref 48), some (.ref 53), some (.ref 54), some (.int (nI (5 * c))), z6, z7, z8] [.int (nI k)] n f P
  | 0, _ => by
    refine am_tableIn 44 (off := 100) (tgt := 144) dL_law_44 (by decide) (by decide) rfl rfl ?_
    exact l_area j0 hc5 hN hE
  | 1, _ => by
    refine am_tableIn 44 (off := 164) (tgt := 208) dL_law_44 (by decide) (by decide) rfl rfl ?_
    exact l_dial j0 hc5 hN hE
  | 2, _ => by
    refine am_tableIn 44 (off := 192) (tgt := 236) dL_law_44 (by decide) (by decide) rfl rfl ?_
    exact l_limit j0 hc5 hN hE
  | 3, _ => by
    refine am_tableIn 44 (off := 220) (tgt := 264) dL_law_44 (by decide) (by decide) rfl rfl ?_
    exact l_heat j0 hc5 hN hE hE1 hS
  | 4, _ => by
    refine am_tableIn 44 (off := 248) (tgt := 292) dL_law_44 (by decide) (by decide) rfl rfl ?_
    exact l_press j0 hc5 hN hE hE1 hS
  | 5, _ => by
    refine am_tableIn 44 (off := 300) (tgt := 344) dL_law_44 (by decide) (by decide) rfl rfl ?_
    exact l_noise j0 hc5 hN hE hE1 hS
  | 6, _ => by
    refine am_tableIn 44 (off := 340) (tgt := 384) dL_law_44 (by decide) (by decide) rfl rfl ?_
    exact l_frame j0 hc5 hN hE hE1 hS
  | 7, _ => by
    refine am_tableIn 44 (off := 353) (tgt := 397) dL_law_44 (by decide) (by decide) rfl rfl ?_
    exact l_wipe j0 hc5 hN hE hE1 hS
  | 8, _ => by
    refine am_tableIn 44 (off := 366) (tgt := 410) dL_law_44 (by decide) (by decide) rfl rfl ?_
    exact l_ofCell j0 hc5 hN hE
  | 9, _ => by
    refine am_tableIn 44 (off := 418) (tgt := 462) dL_law_44 (by decide) (by decide) rfl rfl ?_
    exact l_ofPeak j0 hc5 hN hE
  | 10, _ => by
    refine am_tableIn 44 (off := 458) (tgt := 502) dL_law_44 (by decide) (by decide) rfl rfl ?_
    exact l_ofContact j0 hc5 hN hE
  | 11, _ => by
    refine am_tableIn 44 (off := 498) (tgt := 542) dL_law_44 (by decide) (by decide) rfl rfl ?_
    exact l_where j0 hc5 hN hE
  | 12, _ => by
    refine am_tableIn 44 (off := 539) (tgt := 583) dL_law_44 (by decide) (by decide) rfl rfl ?_
    exact l_apart j0 hc5 hN hE
  | 13, _ => by
    refine am_tableIn 44 (off := 580) (tgt := 624) dL_law_44 (by decide) (by decide) rfl rfl ?_
    exact l_ofRow j0 hc5 hN hE
  | 14, _ => by
    refine am_tableIn 44 (off := 620) (tgt := 664) dL_law_44 (by decide) (by decide) rfl rfl ?_
    exact l_ofArea j0 hc5 hN hE
  | 15, _ => by
    refine am_tableIn 44 (off := 660) (tgt := 704) dL_law_44 (by decide) (by decide) rfl rfl ?_
    exact l_many j0 hc5 hN hE
  | 16, _ => by
    refine am_tableIn 44 (off := 688) (tgt := 732) dL_law_44 (by decide) (by decide) rfl rfl ?_
    exact l_guess j0 hc5 hN hE
  | 17, _ => by
    refine am_tableIn 44 (off := 757) (tgt := 801) dL_law_44 (by decide) (by decide) rfl rfl ?_
    exact l_wouldMatch j0 hc5 hN hE
  | 18, _ => by
    refine am_tableIn 44 (off := 785) (tgt := 829) dL_law_44 (by decide) (by decide) rfl rfl ?_
    exact l_calmIn j0 hc5 hN hE
  | 19, _ => by
    refine am_tableIn 44 (off := 798) (tgt := 842) dL_law_44 (by decide) (by decide) rfl rfl ?_
    exact l_keepBy j0 hc5 hN hE
  | 20, _ => by
    refine am_tableIn 44 (off := 838) (tgt := 882) dL_law_44 (by decide) (by decide) rfl rfl ?_
    exact l_digest j0 hc5 hN hE
  | k + 21, h => by
    refine am_tableOut 44 (tgt := 896) dL_law_44 (Or.inr (by rw [nI_toInt (by omega)]; omega)) rfl ?_
    refine AW.more (rc := R) (rs := S) (by omega) (by omega) ?_
    exact hE _ _ _ _ _ (l_idle j0)
def l_P : am_P := fun o _ _ => o = .inl (some (.int 1))
theorem l_5c {c N : Nat} (hN : N ≤ 2560) (hc : c ≤ 513) : (Int32.ofNat N - 5 < nI (5 * c)) ↔ N < 5 * c + 5 := by
  rw [Int32.lt_iff_toInt_lt, Int32.toInt_sub, nI_toInt (by omega), show (Int32.ofNat N).toInt = (nI N).toInt from rfl, nI_toInt (by omega), show (5 : Int32).toInt = 5 from rfl, Int.bmod_eq_of_le (by omega) (by omega)]
  omega
set_option maxHeartbeats 2000000 in
theorem l_loop (hN : N ≤ 2560) : ∀ (d c : Nat), c + d = 512 → ∀ (s n : Nat) (f : Nat → am_C) (z6 z7 z8 : Option Value), l_J xs N c s n f → AW mL_law (640 * d) (l_cap - l_U c s) 28 [some (.ref 0), some (.ref 2), some (.ref 48), some (.ref 53), some (.ref 54), some (.int (nI (5 * c))), z6, z7, z8] [] n f l_P
  | 0, c, hd, s, n, f, z6, z7, z8, j0 => by
    obtain rfl : c = 512 := hd
    obtain ⟨z, T, κ, sz, th, li, cs, A, C, fr, k, hc, wp, G, ⟨⟨hs, -⟩, -⟩⟩ := id j0
    have hgt := (l_5c (c := 512) hN (by decide)).mpr (by omega)
    refine am_iload 28 dL_law_28 rfl ?_
    refine am_aload_n 30 dL_law_30 rfl ?_
    refine am_slen 31 dL_law_31 hs ?_
    refine am_iconst 32 (v := 5) dL_law_32 (by decide) ?_
    refine am_isub 33 dL_law_33 ?_
    refine am_icmp_gt 34 902 dL_law_34 rfl (fun c34 => ?_) (fun c34 => absurd hgt c34)
    refine am_iconst 902 (v := 1) dL_law_902 (by decide) ?_
    refine am_ireturn 903 dL_law_903 rfl rfl ?_
    rfl
  | d + 1, c, hd, s, n, f, z6, z7, z8, j0 => by
    have ih := l_loop hN d (c + 1) (by omega)
    have hsc : s ≤ c := by
      obtain ⟨z, T, κ, sz, th, li, cs, A, C, fr, k, hc, wp, G, ⟨⟨-, -, -, h, -⟩, -⟩⟩ := id j0
      exact h
    have hs : f 0 = .inl (20, N, .inl xs) := by
      obtain ⟨z, T, κ, sz, th, li, cs, A, C, fr, k, hc, wp, G, ⟨⟨h, -⟩, -⟩⟩ := id j0
      exact h
    by_cases hlast : N < 5 * c + 5
    · have hgt := (l_5c (c := c) hN (by omega)).mpr hlast
      refine am_iload 28 dL_law_28 rfl ?_
      refine am_aload_n 30 dL_law_30 rfl ?_
      refine am_slen 31 dL_law_31 hs ?_
      refine am_iconst 32 (v := 5) dL_law_32 (by decide) ?_
      refine am_isub 33 dL_law_33 ?_
      refine am_icmp_gt 34 902 dL_law_34 rfl (fun c34 => ?_) (fun c34 => absurd hgt c34)
      refine am_iconst 902 (v := 1) dL_law_902 (by decide) ?_
      refine am_ireturn 903 dL_law_903 rfl rfl ?_
      rfl
    · have hgt : ¬ Int32.ofNat N - 5 < nI (5 * c) := fun q => hlast ((l_5c (c := c) hN (by omega)).mp q)
      have hE : ∀ s', l_E xs N c s' (640 * d) (l_cap - l_U (c + 1) s') l_P := by
        intro s' n' f' z6 z7 z8 j1
        refine am_iinc 896 (v := nI (5 * (c + 1))) dL_law_896 rfl (l_i5 c) (by decide) ?_
        refine am_goto 899 (tgt := 28) dL_law_899 rfl ?_
        exact ih s' _ _ _ _ _ j1
      have u1 := l_U_same hsc
      have u2 := l_U_next hsc
      have u3 := l_U_cap (c := c + 1) (s := s) (by omega) (by omega)
      have u4 := l_U_cap (c := c + 1) (s := s + 1) (by omega) (by omega)
      have i0 : vp_in (nI (5 * c)) N := vp_in_nI (by omega) (by omega)
      obtain ⟨k, hk, ek⟩ := m_and31 (xs (nI (5 * c)).toNatClampNeg)
      refine AW.more (rc := 640 + 640 * d) (rs := l_C s + (l_cap - l_U (c + 1) s)) (by omega) (by omega) ?_
      refine am_iload 28 dL_law_28 rfl ?_
      refine am_aload_n 30 dL_law_30 rfl ?_
      refine am_slen 31 dL_law_31 hs ?_
      refine am_iconst 32 (v := 5) dL_law_32 (by decide) ?_
      refine am_isub 33 dL_law_33 ?_
      refine am_icmp_gt 34 902 dL_law_34 rfl (fun c34 => absurd c34 hgt) (fun c34 => ?_)
      refine am_aload_n 37 dL_law_37 rfl ?_
      refine am_iload 38 dL_law_38 rfl ?_
      refine am_saload 40 dL_law_40 hs i0 ?_
      refine am_bipush 41 (v := 31) dL_law_41 (by decide) ?_
      refine am_iand 43 dL_law_43 ?_
      rw [ek]
      exact l_sw j0 (by omega) hN (hE s) (hE (s + 1)) (by omega) k hk
set_option maxHeartbeats 4000000 in
theorem l_law (hs : f 0 = .inl (20, N, .inl xs)) (hN : N ≤ 2560) : AW mL_law 327733 8104666 0 [some (.ref 0), none, none, none, none, none, none, none, none] [] 2 f l_P := by
  refine am_new 0 (rc := 327732) (rs := 8104655) (N := 11) dL_law_0 nL_8 ?_
  refine am_dup 3 dL_law_3 rfl ?_
  refine am_I0 4 (mc' := 45) (ms' := 987) (rc := 327687) (rs := 8103668) dL_law_4 lL_72 ⟨by decide, by decide⟩ (Nat.le_of_ble_eq_true rfl) (Nat.le_of_ble_eq_true rfl) (s_Palmward_init am_ue) ?_
  rintro o n1 f1 ⟨rfl, rfl, hF1, e1⟩
  refine ⟨_, rfl, ?_⟩
  have hs1 : f1 0 = .inl (20, N, .inl xs) := (e1 0 (by omega)).trans (am_un (by omega) hs)
  refine am_astore_n 7 dL_law_7 (by decide) ?_
  refine am_new 8 (rc := 327686) (rs := 8103655) (N := 13) dL_law_8 nL_73 ?_
  refine am_dup 11 dL_law_11 rfl ?_
  refine am_I0 12 (mc' := 4) (ms' := 104) (rc := 327682) (rs := 8103551) dL_law_12 lL_75 ⟨by decide, by decide⟩ (Nat.le_of_ble_eq_true rfl) (Nat.le_of_ble_eq_true rfl) (s_rM_init (G := fun _ => z_K m_z0 0) (fun _ _ => rfl) am_ue) ?_
  rintro o n2 f2 ⟨rfl, rfl, hM2, e2⟩
  refine ⟨_, rfl, ?_⟩
  have hs2 : f2 0 = .inl (20, N, .inl xs) := (e2 0 (by omega)).trans (am_un (by omega) hs1)
  have hF2 : m_G f2 2 0 m_z0 := (m_Fr_G hF1).on fun x a b => (e2 x (by omega)).trans (am_un (by omega) rfl)
  refine am_astore_n 15 dL_law_15 (by decide) ?_
  refine am_iconst 16 (v := 1) dL_law_16 (by decide) ?_
  refine am_newlongs 17 (t := 1) (N := 1) (rc := 327681) (rs := 8103550) dL_law_17 ac_long rfl (by decide) (by decide) (by decide) ?_
  refine am_astore_n 19 dL_law_19 (by decide) ?_
  refine am_iconst 20 (v := 1) dL_law_20 (by decide) ?_
  refine am_newdoubles 21 (t := 6) (N := 1) (rc := 327680) (rs := 8103549) dL_law_21 ac_double rfl (by decide) (by decide) (by decide) ?_
  refine am_astore 23 dL_law_23 (by decide) ?_
  refine am_iconst 25 (v := 0) dL_law_25 (by decide) ?_
  refine am_istore 26 dL_law_26 (by decide) ?_
  generalize hf3 : va_up (va_up f2 53 _) 54 _ = f3
  have e3 : ∀ x, x < 53 → f3 x = f2 x := fun x hx => by rw [← hf3, am_up_ne (by omega), am_up_ne (by omega)]
  have o3 : f3 53 = .inl (1, 1, .inr (.inl (fun _ => 0))) := by rw [← hf3]; exact am_un (by omega) am_ue
  have o4 : f3 54 = .inl (6, 1, .inr (.inr (.inr (.inl (fun _ => 0))))) := by rw [← hf3]; exact am_ue
  have hF3 : m_G f3 2 0 m_z0 := hF2.on fun x a b => e3 x (by omega)
  have hM3 := (hM2.more (n' := 55) (by omega) e3).1
  have jj : l_J xs N 0 0 55 f3 := ⟨m_z0, 0, fun _ => 0, 0, 0, 12, fun _ => none, [], [], 0, 0, 0, 0, fun _ => z_K m_z0 0, ⟨(e3 0 (by omega)).trans hs2, by omega, Nat.le_refl _, Nat.le_refl _, l_X.first rfl rfl rfl rfl⟩, hF3, hM3, ⟨rfl, rfl⟩, fun ⟨j, _, h⟩ => absurd rfl h, ⟨q_Sh_init, rfl⟩, ⟨_, o3⟩, _, o4⟩
  exact l_loop hN 512 0 rfl 0 55 f3 none none none jj
end Main3
