/-! ===== the hand takes a frame ===== -/
section Tak
variable {h s told T be li ca n i q d : Nat} {A : Nat → Nat → Int32} {C : Nat → Nat → Nat} {f : Nat → am_C} {K : Nat → m_K} {sig : Nat → Int32} {bst : Int64}
set_option maxHeartbeats 2000000 in
theorem s_take (hh : m_Ha f h s K be li ca) (hS : m_As f s told A C) (hI : m_Inv told T K be li ca C) (hB : be < 2 ^ 31) (hq : f q = .inr (4, [.ref (q + 1), .ref (q + 2), .long bst])) (hL : m_Look f i sig) (hb : m_bOk (fun j => (K j).1 0 ≠ 0) (m_pks sig 48).length bst) (h1 : 1 ≤ d) (h2 : d ≤ 4) (hd : s + 9 < h ∨ h + 11 < s) (hd2 : (q < s ∨ s + 9 < q) ∧ (q < h ∨ h + 11 < q)) (hd3 : (i + 6 < s ∨ s + 9 < i) ∧ (i + 6 < h ∨ h + 11 < i)) : AM mX3_take 0 0 [.ref h, .ref i, .ref q, .int (nI d)] n f (fun o n' f' => o = .inl none ∧ n' = n ∧ (∃ K' be' li' C', m_Ha f' h s K' be' li' (ca + m_N (m_pal sig bst K) 5) ∧ m_As f' s told A C' ∧ m_Inv told (T + 1) K' be' li' (ca + m_N (m_pal sig bst K) 5) C' ∧ be' ≤ be + 48 ∧ ∀ j, j < 5 → (K j).1 0 ≠ 0 → m_pk bst j ≠ -1 → ¬ 14 < m_reg sig (m_pkc sig (m_pk bst j)) → (K' j).1 0 ≠ 0 ∧ (K' j).1 4 = (K j).1 4 + 1 ∧ (K' j).1 5 = 0) ∧ ∀ x, (x < s ∨ s + 9 < x) → (x < h ∨ h + 11 < x) → f' x = f x) := by
  show AW mX3_take 0 0 0 [some (.ref h), some (.ref i), some (.ref q), some (.int (nI d))] [] n f _
  have h0 := hh.1
  refine am_aload_n 0 dX3_take_0 rfl ?_
  refine am_aload_n 1 dX3_take_1 rfl ?_
  refine am_aload_n 2 dX3_take_2 rfl ?_
  refine am_iload_n 3 dX3_take_3 rfl ?_
  refine am_V3 4 (mc' := 0) (ms' := 0) (rc := 0) (rs := 0) dX3_take_4 lX3_30 ⟨by decide, by decide⟩ (by repeat (first | assumption | exact am_ue | refine am_un (by first | assumption | decide | omega) ?_)) (Nat.le_of_ble_eq_true rfl) (Nat.le_of_ble_eq_true rfl) (s_followMatched hh hS hI hB hq hL hb h1 h2 hd hd2 hd3) ?_
  rintro o n' f1 ⟨rfl, rfl, a1, ⟨C1, a2, a3⟩, a4⟩
  refine am_ctI ?_
  have ha0 := a1.1
  have q1 := (a4 q hd2.1 hd2.2).trans hq
  have L1 := hL.on (f' := f1) fun x a b => a4 x (by omega) (by omega)
  refine am_aload_n 7 dX3_take_7 rfl ?_
  refine am_aload_n 8 dX3_take_8 rfl ?_
  refine am_V1 9 (mc' := 0) (ms' := 0) (rc := 0) (rs := 0) dX3_take_9 lX3_34 ⟨by decide, by decide⟩ (by repeat (first | assumption | exact am_ue | refine am_un (by first | assumption | decide | omega) ?_)) (Nat.le_of_ble_eq_true rfl) (Nat.le_of_ble_eq_true rfl) (s_missUnmatched a1 a2 a3 q1 hd hd2) ?_
  rintro o n' f2 ⟨rfl, rfl, ⟨l2, C2, b1, b2, b3⟩, b4⟩
  refine am_ctI ?_
  have hb0 := b1.1
  have q2 := (b4 q hd2.1 hd2.2).trans q1
  have L2 := L1.on (f' := f2) fun x a b => b4 x (by omega) (by omega)
  refine am_aload_n 12 dX3_take_12 rfl ?_
  refine am_aload_n 13 dX3_take_13 rfl ?_
  refine am_aload_n 14 dX3_take_14 rfl ?_
  refine am_V2 15 (mc' := 0) (ms' := 0) (rc := 0) (rs := 0) dX3_take_15 lX3_38 ⟨by decide, by decide⟩ (by repeat (first | assumption | exact am_ue | refine am_un (by first | assumption | decide | omega) ?_)) (Nat.le_of_ble_eq_true rfl) (Nat.le_of_ble_eq_true rfl) (s_beginUnmatched b1 b2 b3 q2 L2 hd hd2.2 hd3.2) ?_
  rintro o n' f3 ⟨rfl, rfl, ⟨K3, be3, c1, c2, c3, c5⟩, c4⟩
  refine am_ctI ?_
  have hc0 := c1.1
  have S3 := b2.on (f' := f3) fun x a b => c4 x (by omega)
  refine am_aload_n 18 dX3_take_18 rfl ?_
  refine am_V0 19 (mc' := 0) (ms' := 0) (rc := 0) (rs := 0) dX3_take_19 lX3_42 ⟨by decide, by decide⟩ (by repeat (first | assumption | exact am_ue | refine am_un (by first | assumption | decide | omega) ?_)) (Nat.le_of_ble_eq_true rfl) (Nat.le_of_ble_eq_true rfl) (s_claimPinches c1 S3 c3 hd) ?_
  rintro o n' f4 ⟨rfl, rfl, ⟨K4, C4, d1, d2, d3, d5⟩, d4⟩
  refine am_ctI ?_
  have hd0 := d1.1
  refine am_aload_n 22 dX3_take_22 rfl ?_
  refine am_V0 23 (mc' := 0) (ms' := 0) (rc := 0) (rs := 0) dX3_take_23 lX3_45 ⟨by decide, by decide⟩ (by repeat (first | assumption | exact am_ue | refine am_un (by first | assumption | decide | omega) ?_)) (Nat.le_of_ble_eq_true rfl) (Nat.le_of_ble_eq_true rfl) (s_claimAlone d1 d2 d3 hd) ?_
  rintro o n' f5 ⟨rfl, rfl, ⟨K5, C5, e1, e2, e3, e5⟩, e4⟩
  refine am_ctI ?_
  refine am_return 26 dX3_take_26 rfl ?_
  refine ⟨rfl, rfl, ⟨K5, be3, l2, C5, e1, e2, e3, c2, fun j hj hth hpk hnp => ?_⟩, fun x a b => (e4 x a b).trans ((d4 x a b).trans ((c4 x b).trans ((b4 x a b).trans (a4 x a b))))⟩
  have k1 : (fun j => if j < 5 then m_fol sig bst d K j else K j) j = m_move (K j) (nI (m_placeN sig (m_pkc sig (m_pk bst j)) false)) (nI (m_placeN sig (m_pkc sig (m_pk bst j)) true)) (nI d) := (if_pos hj).trans ((if_pos ⟨hth, hpk⟩).trans (if_neg hnp))
  have k2 : (fun j_1 => if j_1 < 5 then m_mis bst (fun j => if j < 5 then m_fol sig bst d K j else K j) j_1 else (fun j => if j < 5 then m_fol sig bst d K j else K j) j_1) j = _ := (if_pos hj).trans ((if_neg (fun z => hpk z.2)).trans k1)
  obtain ⟨t1, -⟩ := c5 j hj (by rw [k2]; exact hth)
  rw [k2] at t1
  have u := fun i hi => ((e5 j hj).1 i hi).trans (((d5 j hj).1 i hi).trans (congrFun t1 i))
  exact ⟨by rw [u 0 (by decide)]; exact hth, u 4 (by decide), u 5 (by decide)⟩
end Tak
