/-! ===== the model's apart, with its value ===== -/
section RApartX
variable {G : Nat → m_K}
variable {m n v u sz : Nat} {f : Nat → am_C} {κ : Nat → Nat} {th h di li : Int32} {cs : Nat → Option Nat} {w b sig : Nat → Int32}
theorem s_rapart_t {k j c d : Nat} (s : r_M m n f κ sz G th h di li cs w b) (hk : k < 5) (hj : j < 5) (hc : cs k = some c) (hd : cs j = some d) : AM mX12_apart 0 0 [.ref m, .int (nI k), .int (nI j)] n f (r_sP m n f κ sz G h di li cs w b (r_is 0 (.double (FP.f2d (r_dist ((G c).2.1 0) ((G c).2.1 1) ((G d).2.1 0) ((G d).2.1 1)))))) := by
  obtain ⟨⟨⟨ta, to, be, lf, ca, e0⟩, -⟩, -⟩ := id s
  unfold r_m12 at e0
  show AW mX12_apart 0 0 0 [some (.ref m), some (.int (nI k)), some (.int (nI j))] [] n f _
  refine am_aload_n 0 dX12_apart_0 rfl ?_
  refine am_aload_n 1 dX12_apart_1 rfl ?_
  refine am_iload_n 2 dX12_apart_2 rfl ?_
  refine am_V1 3 (mc' := 0) (ms' := 0) (rc := 0) (rs := 0) dX12_apart_3 lX12_261 ⟨by decide, by decide⟩ e0 (Nat.le_of_ble_eq_true rfl) (Nat.le_of_ble_eq_true rfl) (s_rnone_f s hk hc) ?_
  refine am_is_ct ?_
  refine am_if_ne 6 17 dX12_apart_6 rfl (fun c6 => absurd c6 (by decide)) (fun c6 => ?_)
  refine am_aload_n 9 dX12_apart_9 rfl ?_
  refine am_iload_n 10 dX12_apart_10 rfl ?_
  refine am_V1 11 (mc' := 0) (ms' := 0) (rc := 0) (rs := 0) dX12_apart_11 lX12_261 ⟨by decide, by decide⟩ e0 (Nat.le_of_ble_eq_true rfl) (Nat.le_of_ble_eq_true rfl) (s_rnone_f s hj hd) ?_
  refine am_is_ct ?_
  refine am_if_eq 14 21 dX12_apart_14 rfl (fun c14 => ?_) (fun c14 => absurd (by decide) c14)
  refine am_iconst 21 (v := 0) dX12_apart_21 (by decide) ?_
  refine am_iconst 22 (v := 1) dX12_apart_22 (by decide) ?_
  refine am_V2 23 (mc' := 0) (ms' := 0) (rc := 0) (rs := 0) dX12_apart_23 lX12_59 ⟨by decide, by decide⟩ e0 (Nat.le_of_ble_eq_true rfl) (Nat.le_of_ble_eq_true rfl) (s_rstart false (by decide) s) ?_
  rintro o n' f1 ⟨rfl, rfl, s1, g1⟩
  refine am_ctI ?_
  obtain ⟨⟨⟨tax, tox, bex, lfx, cax, e0x⟩, ⟨e3x, ewx⟩, earx, etyx⟩, e1x, e2x⟩ := id s1
  unfold r_m12 at e0x
  refine am_if_eq 26 33 dX12_apart_26 rfl (fun c26 => ?_) (fun c26 => absurd (by decide) c26)
  refine am_aload_n 33 dX12_apart_33 rfl ?_
  refine am_getfield 34 dX12_apart_34 fX12_29 (by repeat (first | assumption | exact am_ue | refine am_un (by first | assumption | decide | omega) ?_)) rfl ?_
  refine am_iload_n 37 dX12_apart_37 rfl ?_
  refine am_aaload 38 dX12_apart_38 rfl (by repeat (first | assumption | exact am_ue | refine am_un (by first | assumption | decide | omega) ?_)) (am_ix hk (by decide)) ?_
  rw [nI_clamp (n := k) (by omega), hc, show va_rf (some c) = Value.ref c from rfl]
  refine am_aload_n 39 dX12_apart_39 rfl ?_
  refine am_getfield 40 dX12_apart_40 fX12_29 (by repeat (first | assumption | exact am_ue | refine am_un (by first | assumption | decide | omega) ?_)) rfl ?_
  refine am_iload_n 43 dX12_apart_43 rfl ?_
  refine am_aaload 44 dX12_apart_44 rfl (by repeat (first | assumption | exact am_ue | refine am_un (by first | assumption | decide | omega) ?_)) (am_ix hj (by decide)) ?_
  rw [nI_clamp (n := j) (by omega), hd, show va_rf (some d) = Value.ref d from rfl]
  obtain ⟨ap, cl, kk, q0, q1, q2, -, -, -, q3⟩ := (etyx c).2.1 (ewx k hk c hc)
  obtain ⟨ap2, cl2, kk2, z0, z1, z2, -, -, -, z3⟩ := (etyx d).2.1 (ewx j hj d hd)
  have hdi := (r_dist_ok q2.1 q2.2.1 z2.1 z2.2.1).2.2
  have q0x := q0
  unfold r_kF at q0x
  refine am_V1 45 (mc' := 0) (ms' := 0) (rc := 0) (rs := 0) dX12_apart_45 lX12_160 ⟨by decide, by decide⟩ q0x (Nat.le_of_ble_eq_true rfl) (Nat.le_of_ble_eq_true rfl) (s_rto q0 z0 q2 z2) ?_
  refine am_is_ct ?_
  refine am_f2d 48 dX12_apart_48 (d_f2d hdi.1) ?_
  refine am_dreturn 49 dX12_apart_49 rfl ?_
  exact ⟨Nat.le_refl _, _, _, rfl, ⟨rfl, by rw [q3.2.2.2.1, q3.2.2.2.2, z3.2.2.2.1, z3.2.2.2.2]⟩, s1, g1.out⟩
def r_1D : Int32 → Option Value → Prop := fun t v => t = 1 ∧ ∃ x, v = some (.double x)
theorem s_rapart_f {k c : Nat} {y : Int32} (s : r_M m n f κ sz G th h di li cs w b) (hk : k < 5) (hc : cs k = some c) (hy : ∀ k, k < 5 → y = nI k → cs k = none) : AM mX12_apart 0 0 [.ref m, .int (nI k), .int y] n f (r_sP m n f κ sz G h di li cs w b r_1D) := by
  obtain ⟨⟨⟨ta, to, be, lf, ca, e0⟩, -⟩, -⟩ := id s
  unfold r_m12 at e0
  show AW mX12_apart 0 0 0 [some (.ref m), some (.int (nI k)), some (.int y)] [] n f _
  refine am_aload_n 0 dX12_apart_0 rfl ?_
  refine am_aload_n 1 dX12_apart_1 rfl ?_
  refine am_iload_n 2 dX12_apart_2 rfl ?_
  refine am_V1 3 (mc' := 0) (ms' := 0) (rc := 0) (rs := 0) dX12_apart_3 lX12_261 ⟨by decide, by decide⟩ e0 (Nat.le_of_ble_eq_true rfl) (Nat.le_of_ble_eq_true rfl) (s_rnone_f s hk hc) ?_
  refine am_is_ct ?_
  refine am_if_ne 6 17 dX12_apart_6 rfl (fun c6 => absurd c6 (by decide)) (fun c6 => ?_)
  refine am_aload_n 9 dX12_apart_9 rfl ?_
  refine am_iload_n 10 dX12_apart_10 rfl ?_
  refine am_V1 11 (mc' := 0) (ms' := 0) (rc := 0) (rs := 0) dX12_apart_11 lX12_261 ⟨by decide, by decide⟩ e0 (Nat.le_of_ble_eq_true rfl) (Nat.le_of_ble_eq_true rfl) (s_rnone_t s hy) ?_
  refine am_is_ct ?_
  refine am_if_eq 14 21 dX12_apart_14 rfl (fun c14 => absurd c14 (by decide)) (fun c14 => ?_)
  refine am_iconst 17 (v := 1) dX12_apart_17 (by decide) ?_
  refine am_goto 18 (tgt := 22) dX12_apart_18 rfl ?_
  refine am_iconst 22 (v := 1) dX12_apart_22 (by decide) ?_
  refine am_V2 23 (mc' := 0) (ms' := 0) (rc := 0) (rs := 0) dX12_apart_23 lX12_59 ⟨by decide, by decide⟩ e0 (Nat.le_of_ble_eq_true rfl) (Nat.le_of_ble_eq_true rfl) (s_rstart true (by decide) s) ?_
  rintro o n' f1 ⟨rfl, rfl, s1, g1⟩
  refine am_ctI ?_
  obtain ⟨⟨⟨tax, tox, bex, lfx, cax, e0x⟩, ⟨e3x, ewx⟩, earx, etyx⟩, e1x, e2x⟩ := id s1
  unfold r_m12 at e0x
  refine am_if_eq 26 33 dX12_apart_26 rfl (fun c26 => absurd c26 (by decide)) (fun c26 => ?_)
  refine am_dconst0 29 dX12_apart_29 ?_
  refine am_goto 30 (tgt := 49) dX12_apart_30 rfl ?_
  refine am_dreturn 49 dX12_apart_49 rfl ?_
  exact ⟨Nat.le_refl _, _, _, rfl, ⟨rfl, _, rfl⟩, s1, g1.out⟩
theorem s_rapart_g {x y : Int32} (s : r_M m n f κ sz G th h di li cs w b) (hx : ∀ k, k < 5 → x = nI k → cs k = none) : AM mX12_apart 0 0 [.ref m, .int x, .int y] n f (r_sP m n f κ sz G h di li cs w b r_1D) := by
  obtain ⟨⟨⟨ta, to, be, lf, ca, e0⟩, -⟩, -⟩ := id s
  unfold r_m12 at e0
  show AW mX12_apart 0 0 0 [some (.ref m), some (.int x), some (.int y)] [] n f _
  refine am_aload_n 0 dX12_apart_0 rfl ?_
  refine am_aload_n 1 dX12_apart_1 rfl ?_
  refine am_iload_n 2 dX12_apart_2 rfl ?_
  refine am_V1 3 (mc' := 0) (ms' := 0) (rc := 0) (rs := 0) dX12_apart_3 lX12_261 ⟨by decide, by decide⟩ e0 (Nat.le_of_ble_eq_true rfl) (Nat.le_of_ble_eq_true rfl) (s_rnone_t s hx) ?_
  refine am_is_ct ?_
  refine am_if_ne 6 17 dX12_apart_6 rfl (fun c6 => ?_) (fun c6 => absurd c6 (by decide))
  refine am_iconst 17 (v := 1) dX12_apart_17 (by decide) ?_
  refine am_goto 18 (tgt := 22) dX12_apart_18 rfl ?_
  refine am_iconst 22 (v := 1) dX12_apart_22 (by decide) ?_
  refine am_V2 23 (mc' := 0) (ms' := 0) (rc := 0) (rs := 0) dX12_apart_23 lX12_59 ⟨by decide, by decide⟩ e0 (Nat.le_of_ble_eq_true rfl) (Nat.le_of_ble_eq_true rfl) (s_rstart true (by decide) s) ?_
  rintro o n' f1 ⟨rfl, rfl, s1, g1⟩
  refine am_ctI ?_
  obtain ⟨⟨⟨tax, tox, bex, lfx, cax, e0x⟩, ⟨e3x, ewx⟩, earx, etyx⟩, e1x, e2x⟩ := id s1
  unfold r_m12 at e0x
  refine am_if_eq 26 33 dX12_apart_26 rfl (fun c26 => absurd c26 (by decide)) (fun c26 => ?_)
  refine am_dconst0 29 dX12_apart_29 ?_
  refine am_goto 30 (tgt := 49) dX12_apart_30 rfl ?_
  refine am_dreturn 49 dX12_apart_49 rfl ?_
  exact ⟨Nat.le_refl _, _, _, rfl, ⟨rfl, _, rfl⟩, s1, g1.out⟩
end RApartX
