/-! ===== the reference's calls in any state: digest ===== -/
section YDigest
variable {G : Nat → m_K}
variable {m n v u sz : Nat} {f : Nat → am_C} {κ : Nat → Nat} {th h di li : Int32} {cs : Nat → Option Nat} {w b sig : Nat → Int32} {M : Nat → Prop} {A : Nat → Nat → Int32} {S : y_H} {T : Nat}
noncomputable def y_mixC (κ : m_K) (x : Nat) (d : Int64) (pk : Int32) : Int64 := (m_fo (fun j => m_six (m_whA κ j)) (m_fo (fun j => (m_conA κ j).toInt64) (d * 31 + (nI x).toInt64) 6 * 31 + pk.toInt64) 5 * 31 + m_six (m_guess κ (nI 2) false)) * 31 + m_six (m_guess κ (nI 2) true)
noncomputable def y_g1 (S : y_H) (sz : Nat) (sig : Nat → Int32) : Nat → Int64 := fun j => (y_manyA S sz sig j).toInt64
def y_g2 (b sig : Nat → Int32) : Nat → Int64 → Int64 := fun c d => (d * 31 + (b c).toInt64) * 31 + (sig c).toInt64
def y_g3 (sig : Nat → Int32) : Nat → Int64 → Int64 := fun k d => m_fo (fun j => (y_peakA sig k j).toInt64) d 5
noncomputable def y_g4 (S : y_H) (li : Int32) (sig : Nat → Int32) : Nat → Int64 → Int64 := fun x d => if (y_K S x).1 0 ≠ 0 then y_mixC (y_K S x) x d (y_matchA S li sig x) else d
noncomputable def y_g5 (S : y_H) : Nat → Int64 → Int64 := fun a d => m_fo (fun j => (y_areaA S a j).toInt64) d 5
noncomputable def y_g6 (sig : Nat → Int32) : Nat → Int64 → Int64 := fun y d => m_fo (fun j => (r_rowA sig y j).toInt64) d 3
noncomputable def y_dig (S : y_H) (sz : Nat) (li h : Int32) (b sig : Nat → Int32) : Int64 := m_fs (y_g6 sig) (m_fs (y_g5 S) (m_fs (y_g4 S li sig) (m_fs (y_g3 sig) (m_fs (y_g2 b sig) (m_fo (y_g1 S sz sig) 58249 10) 48) (m_pks sig 48).length) 5) sz) 6 * 31 + (m_cv b h 61).toInt64
theorem y_e.con {a b : m_K} (h : y_e a b) (j : Nat) : m_conA a j = m_conA b j := by
  unfold m_conA
  split <;> exact h.1 _ (by decide) (by decide)
theorem y_e.wh {a b : m_K} (h : y_e a b) (j : Nat) : m_whA a j = m_whA b j := by
  unfold m_whA
  split <;> exact h.2 _ (by decide)
theorem y_e.guess {a b : m_K} (h : y_e a b) (t : Int32) (isY : Bool) : m_guess a t isY = m_guess b t isY := by
  have e : m_at9 a t isY = m_at9 b t isY := by
    unfold m_at9
    rw [h.2 0 (by decide), h.2 1 (by decide), h.2 2 (by decide), h.2 3 (by decide)]
  unfold m_guess
  rw [e]
theorem y_e.mix {a b : m_K} (h : y_e a b) (x : Nat) (d : Int64) (pk : Int32) : y_mixC a x d pk = y_mixC b x d pk := by
  have e1 : (fun j => m_six (m_whA a j)) = fun j => m_six (m_whA b j) := funext fun j => by rw [h.wh j]
  have e2 : (fun j => (m_conA a j).toInt64) = fun j => (m_conA b j).toInt64 := funext fun j => by rw [h.con j]
  unfold y_mixC
  rw [e1, e2, h.guess, h.guess]
theorem y_dig_eq (z : m_Z) (S : y_H) (hS : S = (z_K z, z_C z, z_be z, z_li z, z_ca z, z_ta z, z_th z)) : m_dig z = y_dig S (z_to z) (z_lim z) (z_h z) (z_b z) (m_sg z) := by
  subst hS
  have a1 : (fun j => (m_manyA z j).toInt64) = y_g1 (z_K z, z_C z, z_be z, z_li z, z_ca z, z_ta z, z_th z) (z_to z) (m_sg z) := funext fun j => congrArg Int32.toInt64 (show m_manyA z j = y_manyA (z_K z, z_C z, z_be z, z_li z, z_ca z, z_ta z, z_th z) (z_to z) (m_sg z) j from match j with
    | 0 => rfl
    | 1 => rfl
    | 2 => rfl
    | 3 => rfl
    | 4 => rfl
    | 5 => rfl
    | 6 => rfl
    | 7 => rfl
    | 8 => rfl
    | _ + 9 => rfl)
  have a2 : (fun (c : Nat) (d : Int64) => (d * 31 + (m_cellA z c 1).toInt64) * 31 + (m_cellA z c 2).toInt64) = y_g2 (z_b z) (m_sg z) := rfl
  have a3 : (fun (k : Nat) (d : Int64) => m_fo (fun j => (m_peakA z k j).toInt64) d 5) = y_g3 (m_sg z) := funext fun k => funext fun d => by
    have e : (fun j => (m_peakA z k j).toInt64) = fun j => (y_peakA (m_sg z) k j).toInt64 := funext fun j => congrArg Int32.toInt64 (show m_peakA z k j = y_peakA (m_sg z) k j from match j with
      | 0 => rfl
      | 1 => rfl
      | 2 => rfl
      | 3 => rfl
      | _ + 4 => rfl)
    unfold y_g3
    rw [e]
  have a4 : (fun (x : Nat) (d : Int64) => if (z_K z x).1 0 ≠ 0 then m_mixC z x d else d) = y_g4 (z_K z, z_C z, z_be z, z_li z, z_ca z, z_ta z, z_th z) (z_lim z) (m_sg z) := rfl
  have a5 : (fun (a : Nat) (d : Int64) => m_fo (fun j => (m_areaA z a j).toInt64) d 5) = y_g5 (z_K z, z_C z, z_be z, z_li z, z_ca z, z_ta z, z_th z) := rfl
  have a6 : (fun (y : Nat) (d : Int64) => m_fo (fun j => (m_rowA z y j).toInt64) d 3) = y_g6 (m_sg z) := funext fun k => funext fun d => by
    have e : (fun j => (m_rowA z k j).toInt64) = fun j => (r_rowA (m_sg z) k j).toInt64 := funext fun j => congrArg Int32.toInt64 (show m_rowA z k j = r_rowA (m_sg z) k j from match j with
      | 0 => rfl
      | 1 => rfl
      | _ + 2 => rfl)
    unfold y_g6
    rw [e]
  unfold m_dig m_d6 m_d5 m_d4 m_d3 m_d2 m_d1 y_dig
  rw [a1, a2, a3, a4, a5, a6]
set_option maxHeartbeats 2000000 in
theorem s_XdigCon {k c : Nat} {d : Int64} {pk : Int32} (hR : y_R M sz A S cs G) (s : r_M m n f κ sz G th h di li cs w b) (hk : k < 5) (hc : cs k = some c) : AM mX12_digestContact 6 36 [.ref m, .long d, .int (nI k), .int pk] n f (fun o n' f' => n ≤ n' ∧ o = .inl (some (.long (y_mixC (y_K S k) k d pk))) ∧ ∀ x, x < n → f' x = f x) := by
  obtain ⟨⟨e0, ⟨e3, ew⟩, -, ety⟩, -⟩ := id s
  unfold r_m12 at e0
  obtain ⟨ap, cl, kk, q0, q1, q2, -, -, -, rfl, -⟩ := (ety c).2.1 (ew k hk c hc)
  obtain ⟨h0, he, -⟩ := hR.at hk hc
  obtain ⟨n0, n1, -⟩ := hR.2.2.2.2.2 k hk h0
  rw [← he.2 0 (by decide)] at n0
  rw [← he.2 1 (by decide)] at n1
  rw [← he.mix]
  have hcn := (s.1.cn hk hc).2.2
  clear he h0 hR ety s
  generalize G c = kk at q0 q2 n0 n1 ⊢
  generalize hQ : (fun (o : Option Value ⊕ Nat) (n' : Nat) (f' : Nat → am_C) => n ≤ n' ∧ o = .inl (some (.long (y_mixC kk k d pk))) ∧ ∀ x, x < n → f' x = f x) = Q
  have fin : ∀ (N : Nat) (g : Nat → am_C) (x : Int64) (z8 : Option Value), x = m_fo (fun j => (m_conA kk j).toInt64) (d * 31 + (nI k).toInt64) 6 → n ≤ N → (∀ x, x < n → g x = f x) → AW mX12_digestContact 0 0 47 [some (.ref m), some (.long d), none, some (.int (nI k)), some (.int pk), some (.ref c), some (.long x), none, z8] [] N g Q := by
    intro N g x z8 hx hN hg
    have q0g := (hg c hcn).trans q0
    have gu0 := s_XguessNow (n := N) (a := 2) (isY := false) q0g q2 (by decide) n0 n1
    have gu1 := s_XguessNow (n := N) (a := 2) (isY := true) q0g q2 (by decide) n0 n1
    have hga := f_guess (isY := false) (a := 2) q2 (by decide)
    have hgb := f_guess (isY := true) (a := 2) q2 (by decide)
    refine am_lload 47 dX12_digestContact_47 rfl ?_
    refine am_iload 49 dX12_digestContact_49 rfl ?_
    refine am_i2l 51 dX12_digestContact_51 ?_
    refine am_S2 52 (mc' := 0) (ms' := 0) (rc := 0) (rs := 0) dX12_digestContact_52 lX12_312 ⟨by decide, by decide⟩ (Nat.le_of_ble_eq_true rfl) (Nat.le_of_ble_eq_true rfl) (s_radd) ?_
    refine am_is_ct ?_
    refine am_lstore 55 dX12_digestContact_55 (by decide) ?_
    refine am_iconst 57 (v := 0) dX12_digestContact_57 (by decide) ?_
    refine am_istore 58 dX12_digestContact_58 (by decide) ?_
    refine am_for 5 (fun i (x : Int64) => x = m_fo (fun j => m_six (m_whA kk j)) (m_fo (fun j => (m_conA kk j).toInt64) (d * 31 + (nI k).toInt64) 6 * 31 + pk.toInt64) i) (fun j x => AW mX12_digestContact 0 0 60 [some (.ref m), some (.long d), none, some (.int (nI k)), some (.int pk), some (.ref c), some (.long x), none, some (.int (nI j))] [] N g Q) ?_ ?_ 0 (x * 31 + Int32.toInt64 pk) (by omega) (by rw [hx]; rfl)
    · intro x hx2
      have hfin : (x * 31 + m_six (m_guess kk (nI 2) false)) * 31 + m_six (m_guess kk (nI 2) true) = y_mixC kk k d pk := by rw [show x = _ from hx2]; rfl
      clear hx hx2
      refine am_iload 60 dX12_digestContact_60 rfl ?_
      refine am_iconst 62 (v := 5) dX12_digestContact_62 (by decide) ?_
      refine am_icmp_ge 63 91 dX12_digestContact_63 rfl (fun c63 => ?_) (fun c63 => absurd (by decide) c63)
      refine am_lload 91 dX12_digestContact_91 rfl ?_
      refine am_ldc2d 93 dX12_digestContact_93 kX12_315 ?_
      refine am_aload 96 dX12_digestContact_96 rfl ?_
      refine am_iconst 98 (v := 2) dX12_digestContact_98 (by decide) ?_
      refine am_iconst 99 (v := 0) dX12_digestContact_99 (by decide) ?_
      refine am_S3 100 (mc' := 0) (ms' := 0) (rc := 0) (rs := 0) dX12_digestContact_100 lX12_297 ⟨by decide, by decide⟩ (Nat.le_of_ble_eq_true rfl) (Nat.le_of_ble_eq_true rfl) (gu0) ?_
      refine am_is_ct ?_
      refine am_dmul 103 dX12_digestContact_103 (d_mul d_16 (f_d hga.1).1) ?_
      refine am_d2l 104 dX12_digestContact_104 ?_
      refine am_S2 105 (mc' := 0) (ms' := 0) (rc := 0) (rs := 0) dX12_digestContact_105 lX12_312 ⟨by decide, by decide⟩ (Nat.le_of_ble_eq_true rfl) (Nat.le_of_ble_eq_true rfl) (s_radd) ?_
      refine am_is_ct ?_
      refine am_ldc2d 108 dX12_digestContact_108 kX12_315 ?_
      refine am_aload 111 dX12_digestContact_111 rfl ?_
      refine am_iconst 113 (v := 2) dX12_digestContact_113 (by decide) ?_
      refine am_iconst 114 (v := 1) dX12_digestContact_114 (by decide) ?_
      refine am_S3 115 (mc' := 0) (ms' := 0) (rc := 0) (rs := 0) dX12_digestContact_115 lX12_297 ⟨by decide, by decide⟩ (Nat.le_of_ble_eq_true rfl) (Nat.le_of_ble_eq_true rfl) (gu1) ?_
      refine am_is_ct ?_
      refine am_dmul 118 dX12_digestContact_118 (d_mul d_16 (f_d hgb.1).1) ?_
      refine am_d2l 119 dX12_digestContact_119 ?_
      refine am_S2 120 (mc' := 0) (ms' := 0) (rc := 0) (rs := 0) dX12_digestContact_120 lX12_312 ⟨by decide, by decide⟩ (Nat.le_of_ble_eq_true rfl) (Nat.le_of_ble_eq_true rfl) (s_radd) ?_
      refine am_is_ct ?_
      refine am_lreturn 123 dX12_digestContact_123 rfl ?_
      subst hQ
      exact ⟨hN, congrArg (fun t => (.inl (some (.long t)) : Option Value ⊕ Nat)) hfin, hg⟩
    · intro j x hj hx2 ih
      have ih := ih (x * 31 + m_six (m_whA kk j)) (by rw [show x = _ from hx2]; rfl)
      clear hx hx2
      refine am_iload 60 dX12_digestContact_60 rfl ?_
      refine am_iconst 62 (v := 5) dX12_digestContact_62 (by decide) ?_
      refine am_icmp_ge 63 91 dX12_digestContact_63 rfl (fun c63 => absurd c63 (nI_ge hj (by decide))) (fun c63 => ?_)
      refine am_lload 66 dX12_digestContact_66 rfl ?_
      refine am_ldc2d 68 dX12_digestContact_68 kX12_315 ?_
      refine am_aload 71 dX12_digestContact_71 rfl ?_
      refine am_iload 73 dX12_digestContact_73 rfl ?_
      refine am_S2 75 (mc' := 0) (ms' := 0) (rc := 0) (rs := 0) dX12_digestContact_75 lX12_274 ⟨by decide, by decide⟩ (Nat.le_of_ble_eq_true rfl) (Nat.le_of_ble_eq_true rfl) (s_rwhereNow (j := j) q0g q2 (by omega)) ?_
      refine am_is_ct ?_
      refine am_dmul 78 dX12_digestContact_78 (d_mul d_16 (f_d (m_whA_fin q2 j)).1) ?_
      refine am_d2l 79 dX12_digestContact_79 ?_
      refine am_S2 80 (mc' := 0) (ms' := 0) (rc := 0) (rs := 0) dX12_digestContact_80 lX12_312 ⟨by decide, by decide⟩ (Nat.le_of_ble_eq_true rfl) (Nat.le_of_ble_eq_true rfl) (s_radd) ?_
      refine am_is_ct ?_
      refine am_lstore 83 dX12_digestContact_83 (by decide) ?_
      refine am_iinc 85 (v := nI (j + 1)) dX12_digestContact_85 rfl (nI_1 (j)) (by decide) ?_
      refine am_goto 88 (tgt := 60) dX12_digestContact_88 rfl ?_
      exact ih
  show AW mX12_digestContact 6 36 0 [some (.ref m), some (.long d), none, some (.int (nI k)), some (.int pk), none, none, none, none] [] n f Q
  refine am_aload_n 0 dX12_digestContact_0 rfl ?_
  refine am_getfield 1 dX12_digestContact_1 fX12_29 (by repeat (first | assumption | exact am_ue | refine am_un (by first | assumption | decide | omega) ?_)) rfl ?_
  refine am_iload_n 4 dX12_digestContact_4 rfl ?_
  refine am_aaload 5 dX12_digestContact_5 rfl (by repeat (first | assumption | exact am_ue | refine am_un (by first | assumption | decide | omega) ?_)) (am_ix hk (by decide)) ?_
  rw [nI_clamp (n := k) (by omega), hc, show va_rf (some c) = Value.ref c from rfl]
  refine am_astore 6 dX12_digestContact_6 (by decide) ?_
  refine am_lload_n 8 dX12_digestContact_8 rfl ?_
  refine am_iload_n 9 dX12_digestContact_9 rfl ?_
  refine am_i2l 10 dX12_digestContact_10 ?_
  refine am_S2 11 (mc' := 0) (ms' := 0) (rc := 6) (rs := 36) dX12_digestContact_11 lX12_312 ⟨by decide, by decide⟩ (Nat.le_of_ble_eq_true rfl) (Nat.le_of_ble_eq_true rfl) (s_radd) ?_
  refine am_is_ct ?_
  refine am_lstore 14 dX12_digestContact_14 (by decide) ?_
  refine am_iconst 16 (v := 0) dX12_digestContact_16 (by decide) ?_
  refine am_istore 17 dX12_digestContact_17 (by decide) ?_
  refine am_for 6 (fun i (st : (Nat × (Nat → am_C)) × Int64) => n ≤ st.1.1 ∧ (∀ x, x < n → st.1.2 x = f x) ∧ st.2 = m_fo (fun j => (m_conA kk j).toInt64) (d * 31 + (nI k).toInt64) i) (fun j st => AW mX12_digestContact (6 - j) (6 * (6 - j)) 19 [some (.ref m), some (.long d), none, some (.int (nI k)), some (.int pk), some (.ref c), some (.long st.2), none, some (.int (nI j))] [] st.1.1 st.1.2 Q) ?_ ?_ 0 ((n, f), _) (by omega) ⟨Nat.le_refl _, fun _ _ => rfl, rfl⟩
  · rintro ⟨⟨N, g⟩, x⟩ ⟨hN, hg, hx⟩
    have hx : x = m_fo (fun j => (m_conA kk j).toInt64) (d * 31 + (nI k).toInt64) 6 := hx
    show AW mX12_digestContact (6 - 6) (6 * (6 - 6)) 19 [some (.ref m), some (.long d), none, some (.int (nI k)), some (.int pk), some (.ref c), some (.long x), none, some (.int (nI 6))] [] N g Q
    refine am_iload 19 dX12_digestContact_19 rfl ?_
    refine am_bipush 21 (v := 6) dX12_digestContact_21 (by decide) ?_
    refine am_icmp_ge 23 47 dX12_digestContact_23 rfl (fun c23 => ?_) (fun c23 => absurd (by decide) c23)
    exact fin _ _ _ _ hx hN hg
  · rintro j ⟨⟨N, g⟩, x⟩ hj ⟨hN, hg, hx⟩ ih
    have hx : x = m_fo (fun j => (m_conA kk j).toInt64) (d * 31 + (nI k).toInt64) j := hx
    have hx1 : x * 31 + (m_conA kk j).toInt64 = m_fo (fun j => (m_conA kk j).toInt64) (d * 31 + (nI k).toInt64) (j + 1) := by rw [hx]; rfl
    clear hx fin
    have hN : n ≤ N := hN
    have hg : ∀ x, x < n → g x = f x := hg
    show AW mX12_digestContact (6 - j) (6 * (6 - j)) 19 [some (.ref m), some (.long d), none, some (.int (nI k)), some (.int pk), some (.ref c), some (.long x), none, some (.int (nI j))] [] N g Q
    have q0g := (hg c hcn).trans q0
    have hcon := s_XcontactNow (n := N) (j := j) q0g (by omega) (by omega)
    generalize hRC : 6 - (j + 1) = RC at ih
    have ih : ∀ (N : Nat) (g : Nat → am_C) (x : Int64), n ≤ N → (∀ x, x < n → g x = f x) → x = m_fo (fun j => (m_conA kk j).toInt64) (d * 31 + (nI k).toInt64) (j + 1) → AW mX12_digestContact RC (6 * RC) 19 [some (.ref m), some (.long d), none, some (.int (nI k)), some (.int pk), some (.ref c), some (.long x), none, some (.int (nI (j + 1)))] [] N g Q := fun N g x b1 b2 b3 => ih ((N, g), x) ⟨b1, b2, b3⟩
    refine AW.more (rc := 1 + (0 + RC)) (rs := 6 + (0 + 6 * RC)) (by omega) (by omega) ?_
    refine am_iload 19 dX12_digestContact_19 rfl ?_
    refine am_bipush 21 (v := 6) dX12_digestContact_21 (by decide) ?_
    refine am_icmp_ge 23 47 dX12_digestContact_23 rfl (fun c23 => absurd c23 (nI_ge hj (by decide))) (fun c23 => ?_)
    refine am_lload 26 dX12_digestContact_26 rfl ?_
    refine am_aload 28 dX12_digestContact_28 rfl ?_
    refine am_iload 30 dX12_digestContact_30 rfl ?_
    refine am_S2 32 (mc' := 1) (ms' := 6) (rc := 0 + RC) (rs := 0 + 6 * RC) dX12_digestContact_32 lX12_264 ⟨by decide, by decide⟩ (Nat.le_of_ble_eq_true rfl) (Nat.le_of_ble_eq_true rfl) (hcon) ?_
    rintro o n' f3 ⟨rfl, rfl, e4⟩
    refine am_ctI ?_
    refine am_i2l 35 dX12_digestContact_35 ?_
    refine am_S2 36 (mc' := 0) (ms' := 0) (rc := RC) (rs := 6 * RC) dX12_digestContact_36 lX12_312 ⟨by decide, by decide⟩ (Nat.le_of_ble_eq_true rfl) (Nat.le_of_ble_eq_true rfl) (s_radd) ?_
    refine am_is_ct ?_
    refine am_lstore 39 dX12_digestContact_39 (by decide) ?_
    refine am_iinc 41 (v := nI (j + 1)) dX12_digestContact_41 rfl (nI_1 (j)) (by decide) ?_
    refine am_goto 44 (tgt := 19) dX12_digestContact_44 rfl ?_
    exact ih _ _ _ (by omega) (fun x hx => (e4 x (by omega)).trans (hg x hx)) hx1
set_option maxHeartbeats 4000000 in
theorem s_Xdigest (hR : y_R M sz A S cs G) (hI : y_I sz T S) (hb : ∀ x, x < 48 → (h + 0 - b x).toInt.natAbs ≤ 300000) (s : r_M m n f κ sz G th h di li cs w b) (hs : ∀ x, x < 48 → (h + w x - b x).toInt.natAbs ≤ 300000) : AM mX12_digest (7 + (55 + (366 + 1 + 1))) (292 + (390 + (14884 + 48 + 48))) [.ref m] n f (r_sP m n f κ sz G h di li cs w b (r_is 0 (.long (y_dig S sz li h b (fun k => h + w k - b k))))) := by
  obtain ⟨⟨h0, -⟩, -⟩ := id s
  obtain ⟨s1, g1⟩ := s.scal (th' := 0) (h' := h) (di' := di) (li' := li)
  have hvw := s_rview s1
  have hm5 := s.1.n5
  unfold r_m12 at h0
  generalize hRC : 366 + 1 + 1 = RC
  generalize hRS : 14884 + 48 + 48 = RS
  generalize hsg : (fun k => h + w k - b k) = sig at hvw ⊢
  unfold y_dig
  generalize hD1 : m_fo (y_g1 S sz sig) 58249 10 = D1
  generalize hD2 : m_fs (y_g2 b sig) D1 48 = D2
  generalize hD3 : m_fs (y_g3 sig) D2 (m_pks sig 48).length = D3
  generalize hD4 : m_fs (y_g4 S li sig) D3 5 = D4
  generalize hD5 : m_fs (y_g5 S) D4 sz = D5
  generalize hD6 : m_fs (y_g6 sig) D5 6 = D6
  generalize hCV : m_cv b h 61 = CV
  generalize hQ : r_sP m n f κ sz G h di li cs w b (r_is 0 (.long (D6 * 31 + CV.toInt64))) = Q
  have hs' : ∀ x, x < 48 → (sig x).toInt.natAbs ≤ 300000 := fun x hx => by rw [← hsg]; exact hs x hx
  have hP12 := q_le12s sig
  show AW mX12_digest (7 + (55 + RC)) (292 + (390 + RS)) 0 [some (.ref m), none, none, none, none, none] [] n f Q
  refine am_aload_n 0 dX12_digest_0 rfl ?_
  refine am_iconst 1 (v := 0) dX12_digest_1 (by decide) ?_
  refine am_putfield 2 dX12_digest_2 pX12_40 (by repeat (first | assumption | exact am_ue | refine am_un (by first | assumption | decide | omega) ?_)) rfl rfl (Nat.le_of_ble_eq_true rfl) ?_
  generalize hf1 : va_up f m _ = f1
  have hf1' : va_up f m (r_m12 m 0 h di li (r_n G 0) (r_n G 1) (r_n G 2) (r_n G 3) (r_n G 4)) = f1 := hf1
  rw [hf1'] at s1 g1 hvw
  obtain ⟨⟨e0, -⟩, -⟩ := id s1
  unfold r_m12 at e0
  refine am_aload_n 5 dX12_digest_5 rfl ?_
  refine am_V0 6 (mc' := 7) (ms' := 292) (rc := 55 + RC) (rs := 390 + RS) dX12_digest_6 lX12_92 ⟨by decide, by decide⟩ e0 (Nat.le_of_ble_eq_true rfl) (Nat.le_of_ble_eq_true rfl) (hvw) ?_
  rintro o n' f2 ⟨rfl, rfl, hW, e2⟩
  refine am_ctI ?_
  refine am_astore_n 9 dX12_digest_9 (by decide) ?_
  refine am_ldc2 10 dX12_digest_10 kX12_317 ?_
  refine am_lstore_n 13 dX12_digest_13 (by decide) ?_
  refine am_iconst 14 (v := 0) dX12_digest_14 (by decide) ?_
  refine am_istore 15 dX12_digest_15 (by decide) ?_
  obtain ⟨s2, g2⟩ := s1.more (n' := n + 7) (by omega) e2
  have go2 : r_go m n κ κ f f2 := g1.trans g2 (Nat.le_refl _)
  -- a later world: more is there
  have later : ∀ (N : Nat) (g : Nat → am_C), n + 7 ≤ N → (∀ x, x < n + 7 → g x = f2 x) → r_M m N g κ sz G 0 h di li cs w b ∧ r_out9 m n κ κ f g ∧ r_W g n (n + 2) sig := fun N g hN hg => by
    obtain ⟨s3, g3⟩ := s2.more hN hg
    exact ⟨s3, (go2.trans g3 (by omega)).out, hW.on fun x hx => hg x (by omega)⟩
  have wfin : ∀ (N : Nat) (g : Nat → am_C) (z4 z5 : Option Value), n + 7 ≤ N → (∀ x, x < n + 7 → g x = f2 x) → AW mX12_digest RC RS 265 [some (.ref m), some (.ref n), some (.long D6), none, z4, z5] [] N g Q := by
    intro N g z4 z5 hN hg
    obtain ⟨s3, g3, -⟩ := later N g hN hg
    obtain ⟨⟨y0, -⟩, -⟩ := id s3
    unfold r_m12 at y0
    have hc := s_XcalmNow s3 hb
    rw [hRC, hRS, hCV] at hc
    refine am_lload_n 265 dX12_digest_265 rfl ?_
    refine am_aload_n 266 dX12_digest_266 rfl ?_
    refine am_V0 267 (mc' := RC) (ms' := RS) (rc := 0) (rs := 0) dX12_digest_267 lX12_304 ⟨by decide, by decide⟩ y0 (Nat.le_of_ble_eq_true rfl) (Nat.le_of_ble_eq_true rfl) (hc) ?_
    rintro o n' f4 ⟨hn4, rfl, e4⟩
    refine am_ctI ?_
    obtain ⟨s5, g5⟩ := s3.more hn4 e4
    refine am_i2l 270 dX12_digest_270 ?_
    refine am_S2 271 (mc' := 0) (ms' := 0) (rc := 0) (rs := 0) dX12_digest_271 lX12_312 ⟨by decide, by decide⟩ (Nat.le_of_ble_eq_true rfl) (Nat.le_of_ble_eq_true rfl) (s_radd) ?_
    refine am_is_ct ?_
    refine am_lreturn 274 dX12_digest_274 rfl ?_
    subst hQ
    exact ⟨by omega, _, _, rfl, ⟨rfl, rfl⟩, s5, g3.trans g5.out (by omega)⟩
  have wrow : ∀ (N : Nat) (g : Nat → am_C) (z5 : Option Value), n + 7 ≤ N → (∀ x, x < n + 7 → g x = f2 x) → AW mX12_digest RC RS 223 [some (.ref m), some (.ref n), some (.long D5), none, some (.int (nI 0)), z5] [] N g Q := by
    intro N g z5 hN hg
    obtain ⟨s3, g3, hW3⟩ := later N g hN hg
    obtain ⟨pk, p0, p1, p2, p3, p4⟩ := id hW3
    refine am_for 6 (fun k (st : Int64 × Option Value) => st.1 = m_fs (y_g6 sig) D5 k) (fun k st => AW mX12_digest RC RS 223 [some (.ref m), some (.ref n), some (.long st.1), none, some (.int (nI k)), st.2] [] N g Q) ?_ ?_ 0 (D5, z5) (by omega) rfl
    · rintro ⟨x, z5⟩ hx
      obtain rfl : x = D6 := (show x = m_fs (y_g6 sig) D5 6 from hx).trans hD6
      show AW mX12_digest RC RS 223 [some (.ref m), some (.ref n), some (.long x), none, some (.int (nI 6)), z5] [] N g Q
      refine am_iload 223 dX12_digest_223 rfl ?_
      refine am_bipush 225 (v := 6) dX12_digest_225 (by decide) ?_
      refine am_icmp_ge 227 265 dX12_digest_227 rfl (fun c227 => ?_) (fun c227 => absurd (by decide) c227)
      exact wfin _ _ _ _ hN hg
    · rintro k ⟨x, z5⟩ hk hx ih
      have hx : x = m_fs (y_g6 sig) D5 k := hx
      have ih : ∀ z5, AW mX12_digest RC RS 223 [some (.ref m), some (.ref n), some (.long (m_fo (fun j => (r_rowA sig k j).toInt64) x 3)), none, some (.int (nI (k + 1))), z5] [] N g Q := fun z5 => ih (_, z5) (by rw [hx]; rfl)
      clear hx
      show AW mX12_digest RC RS 223 [some (.ref m), some (.ref n), some (.long x), none, some (.int (nI k)), z5] [] N g Q
      refine am_iload 223 dX12_digest_223 rfl ?_
      refine am_bipush 225 (v := 6) dX12_digest_225 (by decide) ?_
      refine am_icmp_ge 227 265 dX12_digest_227 rfl (fun c227 => absurd c227 (nI_ge hk (by decide))) (fun c227 => ?_)
      refine am_iconst 230 (v := 0) dX12_digest_230 (by decide) ?_
      refine am_istore 231 dX12_digest_231 (by decide) ?_
      refine am_for 3 (fun j (y : Int64) => y = m_fo (fun j => (r_rowA sig k j).toInt64) x j) (fun j x => AW mX12_digest RC RS 233 [some (.ref m), some (.ref n), some (.long x), none, some (.int (nI k)), some (.int (nI j))] [] N g Q) ?_ ?_ 0 x (by omega) rfl
      · intro y hy
        have hy : y = m_fo (fun j => (r_rowA sig k j).toInt64) x 3 := hy
        rw [hy]
        refine am_iload 233 dX12_digest_233 rfl ?_
        refine am_iconst 235 (v := 3) dX12_digest_235 (by decide) ?_
        refine am_icmp_ge 236 259 dX12_digest_236 rfl (fun c236 => ?_) (fun c236 => absurd (by decide) c236)
        refine am_iinc 259 (v := nI (k + 1)) dX12_digest_259 rfl (nI_1 (k)) (by decide) ?_
        refine am_goto 262 (tgt := 223) dX12_digest_262 rfl ?_
        exact ih _
      · intro j y hj hy ih2
        have hy : y = m_fo (fun j => (r_rowA sig k j).toInt64) x j := hy
        have ih2 := ih2 (y * 31 + (r_rowA sig k j).toInt64) (by rw [hy]; rfl)
        have row := s_rofRowNow (n := N) (j := j) hW3 hk (by omega)
        refine AW.more (rc := 0 + (0 + RC)) (rs := 0 + (0 + RS)) (by omega) (by omega) ?_
        refine am_iload 233 dX12_digest_233 rfl ?_
        refine am_iconst 235 (v := 3) dX12_digest_235 (by decide) ?_
        refine am_icmp_ge 236 259 dX12_digest_236 rfl (fun c236 => absurd c236 (nI_ge hj (by decide))) (fun c236 => ?_)
        refine am_lload_n 239 dX12_digest_239 rfl ?_
        refine am_iload 240 dX12_digest_240 rfl ?_
        refine am_iload 242 dX12_digest_242 rfl ?_
        refine am_aload_n 244 dX12_digest_244 rfl ?_
        refine am_S3 245 (mc' := 0) (ms' := 0) (rc := 0 + RC) (rs := 0 + RS) dX12_digest_245 lX12_278 ⟨by decide, by decide⟩ (Nat.le_of_ble_eq_true rfl) (Nat.le_of_ble_eq_true rfl) (row) ?_
        refine am_is_ct ?_
        refine am_i2l 248 dX12_digest_248 ?_
        refine am_S2 249 (mc' := 0) (ms' := 0) (rc := RC) (rs := RS) dX12_digest_249 lX12_312 ⟨by decide, by decide⟩ (Nat.le_of_ble_eq_true rfl) (Nat.le_of_ble_eq_true rfl) (s_radd) ?_
        refine am_is_ct ?_
        refine am_lstore_n 252 dX12_digest_252 (by decide) ?_
        refine am_iinc 253 (v := nI (j + 1)) dX12_digest_253 rfl (nI_1 (j)) (by decide) ?_
        refine am_goto 256 (tgt := 233) dX12_digest_256 rfl ?_
        exact ih2
  have ware : ∀ (N : Nat) (g : Nat → am_C) (z5 : Option Value), n + 7 ≤ N → (∀ x, x < n + 7 → g x = f2 x) → AW mX12_digest RC RS 173 [some (.ref m), some (.ref n), some (.long D4), none, some (.int (nI 0)), z5] [] N g Q := by
    intro N g z5 hN hg
    obtain ⟨s3, g3, hW3⟩ := later N g hN hg
    obtain ⟨⟨y0, -, ⟨hs4, -, el, mc, R, l0, -⟩, -⟩, -⟩ := id s3
    unfold r_m12 at y0
    have siz := s_size (n := N) l0
    refine am_for sz (fun k (st : Int64 × Option Value) => st.1 = m_fs (y_g5 S) D4 k) (fun k st => AW mX12_digest RC RS 173 [some (.ref m), some (.ref n), some (.long st.1), none, some (.int (nI k)), st.2] [] N g Q) ?_ ?_ 0 (D4, z5) (by omega) rfl
    · rintro ⟨x, z5⟩ hx
      obtain rfl : x = D5 := (show x = m_fs (y_g5 S) D4 sz from hx).trans hD5
      show AW mX12_digest RC RS 173 [some (.ref m), some (.ref n), some (.long x), none, some (.int (nI sz)), z5] [] N g Q
      refine AW.more (rc := 0 + RC) (rs := 0 + RS) (by omega) (by omega) ?_
      refine am_iload 173 dX12_digest_173 rfl ?_
      refine am_aload_n 175 dX12_digest_175 rfl ?_
      refine am_getfield 176 dX12_digest_176 fX12_36 (by repeat (first | assumption | exact am_ue | refine am_un (by first | assumption | decide | omega) ?_)) rfl ?_
      refine am_V0 179 (mc' := 0) (ms' := 0) (rc := RC) (rs := RS) dX12_digest_179 lX12_62 ⟨by decide, by decide⟩ l0 (Nat.le_of_ble_eq_true rfl) (Nat.le_of_ble_eq_true rfl) (siz) ?_
      refine am_is_ct ?_
      refine am_icmp_ge 182 220 dX12_digest_182 rfl (fun c182 => ?_) (fun c182 => absurd (Int32.le_refl _) c182)
      refine am_iconst 220 (v := 0) dX12_digest_220 (by decide) ?_
      refine am_istore 221 dX12_digest_221 (by decide) ?_
      exact wrow _ _ _ hN hg
    · rintro k ⟨x, z5⟩ hk hx ih
      have hx : x = m_fs (y_g5 S) D4 k := hx
      have ih : ∀ z5, AW mX12_digest RC RS 173 [some (.ref m), some (.ref n), some (.long (m_fo (fun j => (y_areaA S k j).toInt64) x 5)), none, some (.int (nI (k + 1))), z5] [] N g Q := fun z5 => ih (_, z5) (by rw [hx]; rfl)
      clear hx
      show AW mX12_digest RC RS 173 [some (.ref m), some (.ref n), some (.long x), none, some (.int (nI k)), z5] [] N g Q
      have hsk : ¬ nI sz ≤ nI k := nI_ge hk (by omega)
      refine AW.more (rc := 0 + RC) (rs := 0 + RS) (by omega) (by omega) ?_
      refine am_iload 173 dX12_digest_173 rfl ?_
      refine am_aload_n 175 dX12_digest_175 rfl ?_
      refine am_getfield 176 dX12_digest_176 fX12_36 (by repeat (first | assumption | exact am_ue | refine am_un (by first | assumption | decide | omega) ?_)) rfl ?_
      refine am_V0 179 (mc' := 0) (ms' := 0) (rc := RC) (rs := RS) dX12_digest_179 lX12_62 ⟨by decide, by decide⟩ l0 (Nat.le_of_ble_eq_true rfl) (Nat.le_of_ble_eq_true rfl) (siz) ?_
      refine am_is_ct ?_
      refine am_icmp_ge 182 220 dX12_digest_182 rfl (fun c182 => absurd c182 hsk) (fun c182 => ?_)
      refine am_iconst 185 (v := 0) dX12_digest_185 (by decide) ?_
      refine am_istore 186 dX12_digest_186 (by decide) ?_
      refine am_for 5 (fun j (y : Int64) => y = m_fo (fun j => (y_areaA S k j).toInt64) x j) (fun j x => AW mX12_digest RC RS 188 [some (.ref m), some (.ref n), some (.long x), none, some (.int (nI k)), some (.int (nI j))] [] N g Q) ?_ ?_ 0 x (by omega) rfl
      · intro y hy
        have hy : y = m_fo (fun j => (y_areaA S k j).toInt64) x 5 := hy
        rw [hy]
        refine am_iload 188 dX12_digest_188 rfl ?_
        refine am_iconst 190 (v := 5) dX12_digest_190 (by decide) ?_
        refine am_icmp_ge 191 214 dX12_digest_191 rfl (fun c191 => ?_) (fun c191 => absurd (by decide) c191)
        refine am_iinc 214 (v := nI (k + 1)) dX12_digest_214 rfl (nI_1 (k)) (by decide) ?_
        refine am_goto 217 (tgt := 173) dX12_digest_217 rfl ?_
        exact ih _
      · intro j y hj hy ih2
        have hy : y = m_fo (fun j => (y_areaA S k j).toInt64) x j := hy
        have ih2 := ih2 (y * 31 + (y_areaA S k j).toInt64) (by rw [hy]; rfl)
        have row := s_XareaNow s3 hR hk (j := j) (by omega)
        refine AW.more (rc := 0 + (0 + RC)) (rs := 0 + (0 + RS)) (by omega) (by omega) ?_
        refine am_iload 188 dX12_digest_188 rfl ?_
        refine am_iconst 190 (v := 5) dX12_digest_190 (by decide) ?_
        refine am_icmp_ge 191 214 dX12_digest_191 rfl (fun c191 => absurd c191 (nI_ge hj (by decide))) (fun c191 => ?_)
        refine am_lload_n 194 dX12_digest_194 rfl ?_
        refine am_aload_n 195 dX12_digest_195 rfl ?_
        refine am_iload 196 dX12_digest_196 rfl ?_
        refine am_iload 198 dX12_digest_198 rfl ?_
        refine am_V2 200 (mc' := 0) (ms' := 0) (rc := 0 + RC) (rs := 0 + RS) dX12_digest_200 lX12_281 ⟨by decide, by decide⟩ y0 (Nat.le_of_ble_eq_true rfl) (Nat.le_of_ble_eq_true rfl) (row) ?_
        refine am_is_ct ?_
        refine am_i2l 203 dX12_digest_203 ?_
        refine am_S2 204 (mc' := 0) (ms' := 0) (rc := RC) (rs := RS) dX12_digest_204 lX12_312 ⟨by decide, by decide⟩ (Nat.le_of_ble_eq_true rfl) (Nat.le_of_ble_eq_true rfl) (s_radd) ?_
        refine am_is_ct ?_
        refine am_lstore_n 207 dX12_digest_207 (by decide) ?_
        refine am_iinc 208 (v := nI (j + 1)) dX12_digest_208 rfl (nI_1 (j)) (by decide) ?_
        refine am_goto 211 (tgt := 188) dX12_digest_211 rfl ?_
        exact ih2
  have wcon : ∀ (z5 : Option Value), AW mX12_digest (55 + RC) (390 + RS) 133 [some (.ref m), some (.ref n), some (.long D3), none, some (.int (nI 0)), z5] [] (n + 7) f2 Q := by
    intro z5
    refine am_for 5 (fun k (st : (Nat × (Nat → am_C)) × Int64) => n + 7 ≤ st.1.1 ∧ (∀ x, x < n + 7 → st.1.2 x = f2 x) ∧ st.2 = m_fs (y_g4 S li sig) D3 k) (fun k st => AW mX12_digest (11 * (5 - k) + RC) (78 * (5 - k) + RS) 133 [some (.ref m), some (.ref n), some (.long st.2), none, some (.int (nI k)), z5] [] st.1.1 st.1.2 Q) ?_ ?_ 0 ((n + 7, f2), D3) (by omega) ⟨Nat.le_refl _, fun _ _ => rfl, rfl⟩
    · rintro ⟨⟨N, g⟩, x⟩ ⟨hN, hg, hx⟩
      obtain rfl : x = D4 := (show x = m_fs (y_g4 S li sig) D3 5 from hx).trans hD4
      show AW mX12_digest (11 * (5 - 5) + RC) (78 * (5 - 5) + RS) 133 [some (.ref m), some (.ref n), some (.long x), none, some (.int (nI 5)), z5] [] N g Q
      refine AW.more (rc := RC) (rs := RS) (by omega) (by omega) ?_
      refine am_iload 133 dX12_digest_133 rfl ?_
      refine am_iconst 135 (v := 5) dX12_digest_135 (by decide) ?_
      refine am_icmp_ge 136 170 dX12_digest_136 rfl (fun c136 => ?_) (fun c136 => absurd (by decide) c136)
      refine am_iconst 170 (v := 0) dX12_digest_170 (by decide) ?_
      refine am_istore 171 dX12_digest_171 (by decide) ?_
      exact ware _ _ _ hN hg
    · rintro k ⟨⟨N, g⟩, x0⟩ hk ⟨hN, hg, hx⟩ ih
      have hx : x0 = m_fs (y_g4 S li sig) D3 k := hx
      have hx1 : y_g4 S li sig k x0 = m_fs (y_g4 S li sig) D3 (k + 1) := by rw [hx]; rfl
      clear hx
      have hN : n + 7 ≤ N := hN
      have hg : ∀ x, x < n + 7 → g x = f2 x := hg
      show AW mX12_digest (11 * (5 - k) + RC) (78 * (5 - k) + RS) 133 [some (.ref m), some (.ref n), some (.long x0), none, some (.int (nI k)), z5] [] N g Q
      generalize hR1 : 11 * (5 - (k + 1)) + RC = R1 at ih
      generalize hR2 : 78 * (5 - (k + 1)) + RS = R2 at ih
      have ih : ∀ (N : Nat) (g : Nat → am_C) (x : Int64), x = y_g4 S li sig k x0 → n + 7 ≤ N → (∀ x, x < n + 7 → g x = f2 x) → AW mX12_digest R1 R2 133 [some (.ref m), some (.ref n), some (.long x), none, some (.int (nI (k + 1))), z5] [] N g Q := fun N g x b0 b1 b2 => ih ((N, g), x) ⟨b1, b2, b0.trans hx1⟩
      obtain ⟨s3, g3, hW3⟩ := later N g hN hg
      obtain ⟨⟨y0, ⟨y3, yw⟩, -⟩, -⟩ := id s3
      unfold r_m12 at y0
      have hwn := s_XwouldNow s3 hR hI hW3 hs' (by omega) (by omega) hk
      generalize hP : (m_pks sig 48).length = P at hwn hP12
      refine AW.more (rc := (4 + 1) + (6 + R1)) (rs := ((0 + P + P + 5 + 5) + 8) + (36 + R2)) (by omega) (by omega) ?_
      rcases hc : cs k with _ | c
      · refine am_iload 133 dX12_digest_133 rfl ?_
        refine am_iconst 135 (v := 5) dX12_digest_135 (by decide) ?_
        refine am_icmp_ge 136 170 dX12_digest_136 rfl (fun c136 => absurd c136 (nI_ge hk (by decide))) (fun c136 => ?_)
        refine am_aload_n 139 dX12_digest_139 rfl ?_
        refine am_getfield 140 dX12_digest_140 fX12_29 (by repeat (first | assumption | exact am_ue | refine am_un (by first | assumption | decide | omega) ?_)) rfl ?_
        refine am_iload 143 dX12_digest_143 rfl ?_
        refine am_aaload 145 dX12_digest_145 rfl (by repeat (first | assumption | exact am_ue | refine am_un (by first | assumption | decide | omega) ?_)) (am_ix hk (by decide)) ?_
        rw [nI_clamp (n := k) (by omega), hc, show va_rf none = Value.null from rfl]
        refine am_ifnullN 146 (tgt := 164) dX12_digest_146 rfl ?_
        refine am_iinc 164 (v := nI (k + 1)) dX12_digest_164 rfl (nI_1 (k)) (by decide) ?_
        refine am_goto 167 (tgt := 133) dX12_digest_167 rfl ?_
        refine AW.more (rc := R1) (rs := R2) (by omega) (by omega) ?_
        exact ih _ _ _ (if_neg fun z => z (hR.no hk hc)).symm hN hg
      · refine am_iload 133 dX12_digest_133 rfl ?_
        refine am_iconst 135 (v := 5) dX12_digest_135 (by decide) ?_
        refine am_icmp_ge 136 170 dX12_digest_136 rfl (fun c136 => absurd c136 (nI_ge hk (by decide))) (fun c136 => ?_)
        refine am_aload_n 139 dX12_digest_139 rfl ?_
        refine am_getfield 140 dX12_digest_140 fX12_29 (by repeat (first | assumption | exact am_ue | refine am_un (by first | assumption | decide | omega) ?_)) rfl ?_
        refine am_iload 143 dX12_digest_143 rfl ?_
        refine am_aaload 145 dX12_digest_145 rfl (by repeat (first | assumption | exact am_ue | refine am_un (by first | assumption | decide | omega) ?_)) (am_ix hk (by decide)) ?_
        rw [nI_clamp (n := k) (by omega), hc, show va_rf (some c) = Value.ref c from rfl]
        refine am_ifnull 146 dX12_digest_146 ?_
        refine am_aload_n 149 dX12_digest_149 rfl ?_
        refine am_lload_n 150 dX12_digest_150 rfl ?_
        refine am_iload 151 dX12_digest_151 rfl ?_
        refine am_aload_n 153 dX12_digest_153 rfl ?_
        refine am_iload 154 dX12_digest_154 rfl ?_
        refine am_aload_n 156 dX12_digest_156 rfl ?_
        refine am_V2 157 (mc' := 4 + 1) (ms' := (0 + P + P + 5 + 5) + 8) (rc := 6 + R1) (rs := 36 + R2) dX12_digest_157 lX12_301 ⟨by decide, by decide⟩ y0 (Nat.le_of_ble_eq_true rfl) (Nat.le_of_ble_eq_true rfl) (hwn) ?_
        rintro o n' f5 ⟨hn5, rfl, e5⟩
        refine am_ctI ?_
        obtain ⟨s5, -⟩ := s3.more hn5 e5
        have y05 := (e5 m (by omega)).trans y0
        refine am_V3 160 (mc' := 6) (ms' := 36) (rc := R1) (rs := R2) dX12_digest_160 lX12_319 ⟨by decide, by decide⟩ y05 (Nat.le_of_ble_eq_true rfl) (Nat.le_of_ble_eq_true rfl) (s_XdigCon hR s5 hk hc) ?_
        rintro o n' f6 ⟨hn6, rfl, e6⟩
        refine am_ctI ?_
        refine am_lstore_n 163 dX12_digest_163 (by decide) ?_
        refine am_iinc 164 (v := nI (k + 1)) dX12_digest_164 rfl (nI_1 (k)) (by decide) ?_
        refine am_goto 167 (tgt := 133) dX12_digest_167 rfl ?_
        exact ih _ _ _ (if_pos (hR.at hk hc).1).symm (by omega) (fun x hx => (e6 x (by omega)).trans ((e5 x (by omega)).trans (hg x hx)))
  obtain ⟨⟨m0, -⟩, m1, -⟩ := id s2
  unfold r_m12 at m0
  obtain ⟨pk, v0, v1, v2, v3, v4⟩ := id hW
  generalize hRC1 : 55 + RC = RC1 at wcon
  generalize hRS1 : 390 + RS = RS1 at wcon
  have wpk : AW mX12_digest RC1 RS1 86 [some (.ref m), some (.ref n), some (.long D2), none, some (.int (nI 0)), none] [] (n + 7) f2 Q := by
    refine am_for (m_pks sig 48).length (fun k (st : Int64 × Option Value) => st.1 = m_fs (y_g3 sig) D2 k) (fun k st => AW mX12_digest RC1 RS1 86 [some (.ref m), some (.ref n), some (.long st.1), none, some (.int (nI k)), st.2] [] (n + 7) f2 Q) ?_ ?_ 0 (D2, none) (by omega) rfl
    · rintro ⟨x, z5⟩ hx
      obtain rfl : x = D3 := (show x = m_fs (y_g3 sig) D2 (m_pks sig 48).length from hx).trans hD3
      show AW mX12_digest RC1 RS1 86 [some (.ref m), some (.ref n), some (.long x), none, some (.int (nI (m_pks sig 48).length)), z5] [] (n + 7) f2 Q
      refine am_iload 86 dX12_digest_86 rfl ?_
      refine am_aload_n 88 dX12_digest_88 rfl ?_
      refine am_getfield 89 dX12_digest_89 fX12_212 (by repeat (first | assumption | exact am_ue | refine am_un (by first | assumption | decide | omega) ?_)) rfl ?_
      refine am_icmp_ge 92 130 dX12_digest_92 rfl (fun c92 => ?_) (fun c92 => absurd (Int32.le_refl _) c92)
      refine am_iconst 130 (v := 0) dX12_digest_130 (by decide) ?_
      refine am_istore 131 dX12_digest_131 (by decide) ?_
      exact wcon _
    · rintro k ⟨x, z5⟩ hk hx ih
      have hx : x = m_fs (y_g3 sig) D2 k := hx
      have ih : ∀ z5, AW mX12_digest RC1 RS1 86 [some (.ref m), some (.ref n), some (.long (m_fo (fun j => (y_peakA sig k j).toInt64) x 5)), none, some (.int (nI (k + 1))), z5] [] (n + 7) f2 Q := fun z5 => ih (_, z5) (by rw [hx]; rfl)
      clear hx
      show AW mX12_digest RC1 RS1 86 [some (.ref m), some (.ref n), some (.long x), none, some (.int (nI k)), z5] [] (n + 7) f2 Q
      have hpk : ¬ nI (m_pks sig 48).length ≤ nI k := nI_ge hk (by omega)
      refine am_iload 86 dX12_digest_86 rfl ?_
      refine am_aload_n 88 dX12_digest_88 rfl ?_
      refine am_getfield 89 dX12_digest_89 fX12_212 (by repeat (first | assumption | exact am_ue | refine am_un (by first | assumption | decide | omega) ?_)) rfl ?_
      refine am_icmp_ge 92 130 dX12_digest_92 rfl (fun c92 => absurd c92 hpk) (fun c92 => ?_)
      refine am_iconst 95 (v := 0) dX12_digest_95 (by decide) ?_
      refine am_istore 96 dX12_digest_96 (by decide) ?_
      refine am_for 5 (fun j (y : Int64) => y = m_fo (fun j => (y_peakA sig k j).toInt64) x j) (fun j x => AW mX12_digest RC1 RS1 98 [some (.ref m), some (.ref n), some (.long x), none, some (.int (nI k)), some (.int (nI j))] [] (n + 7) f2 Q) ?_ ?_ 0 x (by omega) rfl
      · intro y hy
        have hy : y = m_fo (fun j => (y_peakA sig k j).toInt64) x 5 := hy
        rw [hy]
        refine am_iload 98 dX12_digest_98 rfl ?_
        refine am_iconst 100 (v := 5) dX12_digest_100 (by decide) ?_
        refine am_icmp_ge 101 124 dX12_digest_101 rfl (fun c101 => ?_) (fun c101 => absurd (by decide) c101)
        refine am_iinc 124 (v := nI (k + 1)) dX12_digest_124 rfl (nI_1 (k)) (by decide) ?_
        refine am_goto 127 (tgt := 86) dX12_digest_127 rfl ?_
        exact ih _
      · intro j y hj hy ih2
        have hy : y = m_fo (fun j => (y_peakA sig k j).toInt64) x j := hy
        have ih2 := ih2 (y * 31 + (y_peakA sig k j).toInt64) (by rw [hy]; rfl)
        have row := s_XpeakNow (n := n + 7) (j := j) hW hs' hk (by omega)
        refine AW.more (rc := 0 + (0 + RC1)) (rs := 0 + (0 + RS1)) (by omega) (by omega) ?_
        refine am_iload 98 dX12_digest_98 rfl ?_
        refine am_iconst 100 (v := 5) dX12_digest_100 (by decide) ?_
        refine am_icmp_ge 101 124 dX12_digest_101 rfl (fun c101 => absurd c101 (nI_ge hj (by decide))) (fun c101 => ?_)
        refine am_lload_n 104 dX12_digest_104 rfl ?_
        refine am_iload 105 dX12_digest_105 rfl ?_
        refine am_iload 107 dX12_digest_107 rfl ?_
        refine am_aload_n 109 dX12_digest_109 rfl ?_
        refine am_S3 110 (mc' := 0) (ms' := 0) (rc := 0 + RC1) (rs := 0 + RS1) dX12_digest_110 lX12_252 ⟨by decide, by decide⟩ (Nat.le_of_ble_eq_true rfl) (Nat.le_of_ble_eq_true rfl) (row) ?_
        refine am_is_ct ?_
        refine am_i2l 113 dX12_digest_113 ?_
        refine am_S2 114 (mc' := 0) (ms' := 0) (rc := RC1) (rs := RS1) dX12_digest_114 lX12_312 ⟨by decide, by decide⟩ (Nat.le_of_ble_eq_true rfl) (Nat.le_of_ble_eq_true rfl) (s_radd) ?_
        refine am_is_ct ?_
        refine am_lstore_n 117 dX12_digest_117 (by decide) ?_
        refine am_iinc 118 (v := nI (j + 1)) dX12_digest_118 rfl (nI_1 (j)) (by decide) ?_
        refine am_goto 121 (tgt := 98) dX12_digest_121 rfl ?_
        exact ih2
  have wbas : AW mX12_digest RC1 RS1 46 [some (.ref m), some (.ref n), some (.long D1), none, some (.int (nI 0)), none] [] (n + 7) f2 Q := by
    refine am_for 48 (fun k (x : Int64) => x = m_fs (y_g2 b sig) D1 k) (fun k x => AW mX12_digest RC1 RS1 46 [some (.ref m), some (.ref n), some (.long x), none, some (.int (nI k)), none] [] (n + 7) f2 Q) ?_ ?_ 0 D1 (by omega) rfl
    · intro x hx
      obtain rfl : x = D2 := (show x = m_fs (y_g2 b sig) D1 48 from hx).trans hD2
      refine am_iload 46 dX12_digest_46 rfl ?_
      refine am_bipush 48 (v := 48) dX12_digest_48 (by decide) ?_
      refine am_icmp_ge 50 83 dX12_digest_50 rfl (fun c50 => ?_) (fun c50 => absurd (by decide) c50)
      refine am_iconst 83 (v := 0) dX12_digest_83 (by decide) ?_
      refine am_istore 84 dX12_digest_84 (by decide) ?_
      exact wpk
    · intro k x hk hx ih
      have ih := ih ((x * 31 + (b k).toInt64) * 31 + (sig k).toInt64) (by rw [show x = _ from hx]; rfl)
      refine AW.more (rc := 0 + (0 + RC1)) (rs := 0 + (0 + RS1)) (by omega) (by omega) ?_
      refine am_iload 46 dX12_digest_46 rfl ?_
      refine am_bipush 48 (v := 48) dX12_digest_48 (by decide) ?_
      refine am_icmp_ge 50 83 dX12_digest_50 rfl (fun c50 => absurd c50 (nI_ge hk (by decide))) (fun c50 => ?_)
      refine am_lload_n 53 dX12_digest_53 rfl ?_
      refine am_aload_n 54 dX12_digest_54 rfl ?_
      refine am_getfield 55 dX12_digest_55 fX12_13 (by repeat (first | assumption | exact am_ue | refine am_un (by first | assumption | decide | omega) ?_)) rfl ?_
      refine am_iload 58 dX12_digest_58 rfl ?_
      refine am_iaload 60 dX12_digest_60 rfl m1 (am_ix hk (by decide)) ?_
      rw [nI_clamp (n := k) (by omega)]
      refine am_i2l 61 dX12_digest_61 ?_
      refine am_S2 62 (mc' := 0) (ms' := 0) (rc := 0 + RC1) (rs := 0 + RS1) dX12_digest_62 lX12_312 ⟨by decide, by decide⟩ (Nat.le_of_ble_eq_true rfl) (Nat.le_of_ble_eq_true rfl) (s_radd) ?_
      refine am_is_ct ?_
      refine am_aload_n 65 dX12_digest_65 rfl ?_
      refine am_getfield 66 dX12_digest_66 fX12_239 (by repeat (first | assumption | exact am_ue | refine am_un (by first | assumption | decide | omega) ?_)) rfl ?_
      refine am_iload 69 dX12_digest_69 rfl ?_
      refine am_iaload 71 dX12_digest_71 rfl v1 (am_ix hk (by decide)) ?_
      rw [nI_clamp (n := k) (by omega)]
      refine am_i2l 72 dX12_digest_72 ?_
      refine am_S2 73 (mc' := 0) (ms' := 0) (rc := RC1) (rs := RS1) dX12_digest_73 lX12_312 ⟨by decide, by decide⟩ (Nat.le_of_ble_eq_true rfl) (Nat.le_of_ble_eq_true rfl) (s_radd) ?_
      refine am_is_ct ?_
      refine am_lstore_n 76 dX12_digest_76 (by decide) ?_
      refine am_iinc 77 (v := nI (k + 1)) dX12_digest_77 rfl (nI_1 (k)) (by decide) ?_
      refine am_goto 80 (tgt := 46) dX12_digest_80 rfl ?_
      exact ih
  show AW mX12_digest RC1 RS1 17 [some (.ref m), some (.ref n), some (.long 58249), none, some (.int (nI 0)), none] [] (n + 7) f2 Q
  refine am_for 10 (fun k (x : Int64) => x = m_fo (y_g1 S sz sig) 58249 k) (fun k x => AW mX12_digest RC1 RS1 17 [some (.ref m), some (.ref n), some (.long x), none, some (.int (nI k)), none] [] (n + 7) f2 Q) ?_ ?_ 0 58249 (by omega) rfl
  · intro x hx
    obtain rfl : x = D1 := (show x = m_fo (y_g1 S sz sig) 58249 10 from hx).trans hD1
    refine am_iload 17 dX12_digest_17 rfl ?_
    refine am_bipush 19 (v := 10) dX12_digest_19 (by decide) ?_
    refine am_icmp_ge 21 43 dX12_digest_21 rfl (fun c21 => ?_) (fun c21 => absurd (by decide) c21)
    refine am_iconst 43 (v := 0) dX12_digest_43 (by decide) ?_
    refine am_istore 44 dX12_digest_44 (by decide) ?_
    exact wbas
  · intro k x hk hx ih
    have ih := ih (x * 31 + (y_manyA S sz sig k).toInt64) (by rw [show x = _ from hx]; rfl)
    have row := s_XmanyNow s2 hR hW hs' (j := k) (by omega)
    refine AW.more (rc := 0 + (0 + RC1)) (rs := 0 + (0 + RS1)) (by omega) (by omega) ?_
    refine am_iload 17 dX12_digest_17 rfl ?_
    refine am_bipush 19 (v := 10) dX12_digest_19 (by decide) ?_
    refine am_icmp_ge 21 43 dX12_digest_21 rfl (fun c21 => absurd c21 (nI_ge hk (by decide))) (fun c21 => ?_)
    refine am_lload_n 24 dX12_digest_24 rfl ?_
    refine am_aload_n 25 dX12_digest_25 rfl ?_
    refine am_iload 26 dX12_digest_26 rfl ?_
    refine am_aload_n 28 dX12_digest_28 rfl ?_
    refine am_V2 29 (mc' := 0) (ms' := 0) (rc := 0 + RC1) (rs := 0 + RS1) dX12_digest_29 lX12_284 ⟨by decide, by decide⟩ m0 (Nat.le_of_ble_eq_true rfl) (Nat.le_of_ble_eq_true rfl) (row) ?_
    refine am_is_ct ?_
    refine am_i2l 32 dX12_digest_32 ?_
    refine am_S2 33 (mc' := 0) (ms' := 0) (rc := RC1) (rs := RS1) dX12_digest_33 lX12_312 ⟨by decide, by decide⟩ (Nat.le_of_ble_eq_true rfl) (Nat.le_of_ble_eq_true rfl) (s_radd) ?_
    refine am_is_ct ?_
    refine am_lstore_n 36 dX12_digest_36 (by decide) ?_
    refine am_iinc 37 (v := nI (k + 1)) dX12_digest_37 rfl (nI_1 (k)) (by decide) ?_
    refine am_goto 40 (tgt := 17) dX12_digest_40 rfl ?_
    exact ih
end YDigest
