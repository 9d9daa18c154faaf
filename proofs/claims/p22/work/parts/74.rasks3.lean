/-! ===== the reference's calls in any state: what is asked, the rest ===== -/
/-! a float of the constants, told by a wide index -/
theorem n_ldcwF {p : Program} {l : Launch} {e : Env} {R : Room} {s : State} {m : MethodId} {args : Array Value} {below : List Frame} {meth : Method} {c : Code} {locs : List Loc} {cells slots : Nat} {T : State} (X : Stand p l e R s m args below meth c T locs cells slots) (hexec : p.tables.exec = Jvm.exec) {own : String} {index : Nat} {v : UInt32} (hown : s.vm.findClass own = some m.cls)
    (hconst : (Cond.constantFloat own index v).before args s = true) {g : JFrame} (hg : g.method = m) (hdg : decode c.code g.pc = .ok (.ldc_w index, 3)) :
    ∀ target, Steps p.tables e below (T.setTop { g with pc := g.pc + 3, stack := .float v :: g.stack }) target → Steps p.tables e below (T.setTop g) target := by
  obtain ⟨k, cf, hk, hcf, hcp⟩ := Cond.constantFloat_spec hown hconst
  obtain ⟨k', hk', he⟩ := X.warmed.alike.2.2 _ _ hk
  intro target hrest
  subst hg
  jvm_step X.here [hexec, hdg, ldc_w.wp_float (s := T) (f := g) X.here.top hk' (by rw [he]; exact hcf) hcp]
  exact hrest
theorem am_ldcfw (pc : Nat) {M : am_M} {rc rs n : Nat} {L : List (Option Value)} {st : List Value} {f : Nat → am_C} {P : am_P} {ix : Nat} {v : UInt32} (hd : decode (am_by M) pc = .ok (.ldc_w ix, 3)) (hw : Cond.constantFloat (am_y M).cls ix v ∈ am_W) (k : AW M rc rs (pc + 3) L (.float v :: st) n f P) : AW M rc rs pc L (st) n f P := by
  intro D cA p l e R s m args below meth c A n0 ρ0 mc ms hC hR H locs cells slots ρ ls hT hcs T hT2 X
  obtain ⟨t, a, b⟩ := am_k k hC hR (st := .float v :: st) ⟨⟨trivial, hT.1⟩, hT.2⟩ hcs T hT2 X
  exact ⟨t, n_ldcwF X hC.1 hC.2.2.2.2.1 (hC.2.2.2.2.2.1 _ hw) (g := F0 m pc ls (st.map (am_v ρ))) rfl (by show decode c.code pc = _; rw [hC.2.1]; exact hd) t a, b⟩
section RAsks3
variable {G : Nat → m_K}
variable {m n v u sz : Nat} {f : Nat → am_C} {κ : Nat → Nat} {th h di li : Int32} {cs : Nat → Option Nat} {w b sig : Nat → Int32}
theorem s_rofRow_t {y j : Nat} (s : r_M m n f κ sz G th h di li cs w b) (hy : y < 6) (hj : j ≤ 2) : AM mX12_ofRow 7 292 [.ref m, .int (nI y), .int (nI j)] n f (r_sP m n f κ sz G h di li cs w b (r_is 0 (.int (r_rowA (fun k => h + w k - b k) y j)))) := by
  obtain ⟨⟨e0, -⟩, -⟩ := id s
  unfold r_m12 at e0
  have hm5 := s.1.n5
  have h5 : (0 : Int32) ≤ nI y ∧ nI y ≤ 5 := ⟨m_nI0 (by omega), (r_leP 5 rfl rfl (by decide)).mpr (nI_ge hy (by decide))⟩
  have h2 : (0 : Int32) ≤ nI j ∧ nI j ≤ 2 := ⟨m_nI0 (by omega), (r_leP 2 rfl rfl (by decide)).mpr (nI_ge (show j < 3 by omega) (by decide))⟩
  show AW mX12_ofRow 7 292 0 [some (.ref m), some (.int (nI y)), some (.int (nI j))] [] n f _
  refine am_aload_n 0 dX12_ofRow_0 rfl ?_
  refine am_iload_n 1 dX12_ofRow_1 rfl ?_
  refine am_iconst 2 (v := 0) dX12_ofRow_2 (by decide) ?_
  refine am_iconst 3 (v := 5) dX12_ofRow_3 (by decide) ?_
  refine am_S3 4 (mc' := 0) (ms' := 0) (rc := 7) (rs := 292) dX12_ofRow_4 lX12_3 ⟨by decide, by decide⟩ (Nat.le_of_ble_eq_true rfl) (Nat.le_of_ble_eq_true rfl) (s_isIn_t h5.1 h5.2) ?_
  refine am_is_ct ?_
  refine am_if_ne 7 14 dX12_ofRow_7 rfl (fun c7 => ?_) (fun c7 => absurd c7 (by decide))
  refine am_iconst 14 (v := 0) dX12_ofRow_14 (by decide) ?_
  refine am_iconst 15 (v := 1) dX12_ofRow_15 (by decide) ?_
  refine am_V2 16 (mc' := 0) (ms' := 0) (rc := 7) (rs := 292) dX12_ofRow_16 lX12_59 ⟨by decide, by decide⟩ e0 (Nat.le_of_ble_eq_true rfl) (Nat.le_of_ble_eq_true rfl) (s_rstart false (by decide) s) ?_
  rintro o n' f1 ⟨rfl, rfl, s1, g1⟩
  refine am_ctI ?_
  obtain ⟨⟨e0x, ⟨e3x, ewx⟩, earx, etyx⟩, e1x, e2x⟩ := id s1
  unfold r_m12 at e0x
  refine am_if_ne 19 44 dX12_ofRow_19 rfl (fun c19 => absurd c19 (by decide)) (fun c19 => ?_)
  refine am_aload_n 22 dX12_ofRow_22 rfl ?_
  refine am_iload_n 23 dX12_ofRow_23 rfl ?_
  refine am_iconst 24 (v := 0) dX12_ofRow_24 (by decide) ?_
  refine am_iconst 25 (v := 2) dX12_ofRow_25 (by decide) ?_
  refine am_S3 26 (mc' := 0) (ms' := 0) (rc := 7) (rs := 292) dX12_ofRow_26 lX12_3 ⟨by decide, by decide⟩ (Nat.le_of_ble_eq_true rfl) (Nat.le_of_ble_eq_true rfl) (s_isIn_t h2.1 h2.2) ?_
  refine am_is_ct ?_
  refine am_if_ne 29 36 dX12_ofRow_29 rfl (fun c29 => ?_) (fun c29 => absurd c29 (by decide))
  refine am_iconst 36 (v := 0) dX12_ofRow_36 (by decide) ?_
  refine am_iconst 37 (v := 2) dX12_ofRow_37 (by decide) ?_
  refine am_V2 38 (mc' := 0) (ms' := 0) (rc := 7) (rs := 292) dX12_ofRow_38 lX12_43 ⟨by decide, by decide⟩ e0x (Nat.le_of_ble_eq_true rfl) (Nat.le_of_ble_eq_true rfl) (s_rrefuse false (by decide) s1) ?_
  rintro o n' f2 ⟨rfl, rfl, s2, g2⟩
  refine am_ctI ?_
  obtain ⟨⟨e0y, ⟨e3y, ewy⟩, eary, etyy⟩, e1y, e2y⟩ := id s2
  unfold r_m12 at e0y
  refine am_if_eq 41 48 dX12_ofRow_41 rfl (fun c41 => ?_) (fun c41 => absurd (by decide) c41)
  refine am_iload_n 48 dX12_ofRow_48 rfl ?_
  refine am_iload_n 49 dX12_ofRow_49 rfl ?_
  refine am_aload_n 50 dX12_ofRow_50 rfl ?_
  refine am_V0 51 (mc' := 7) (ms' := 292) (rc := 0) (rs := 0) dX12_ofRow_51 lX12_92 ⟨by decide, by decide⟩ e0y (Nat.le_of_ble_eq_true rfl) (Nat.le_of_ble_eq_true rfl) (s_rview s2) ?_
  rintro o n' f3 ⟨rfl, rfl, hW, e4⟩
  refine am_ctI ?_
  obtain ⟨s3, g3⟩ := s2.more (n' := n + 7) (by omega) e4
  obtain ⟨⟨e0z, ⟨e3z, ewz⟩, earz, etyz⟩, e1z, e2z⟩ := id s3
  unfold r_m12 at e0z
  refine am_S3 54 (mc' := 0) (ms' := 0) (rc := 0) (rs := 0) dX12_ofRow_54 lX12_278 ⟨by decide, by decide⟩ (Nat.le_of_ble_eq_true rfl) (Nat.le_of_ble_eq_true rfl) (s_rofRowNow hW hy hj) ?_
  refine am_is_ct ?_
  refine am_ireturn 57 dX12_ofRow_57 rfl rfl ?_
  exact ⟨by omega, _, _, rfl, ⟨rfl, rfl⟩, s3, ((g1.trans g2 (Nat.le_refl _)).trans g3 (Nat.le_refl _)).out⟩
theorem s_rofRow_g {y : Nat} {d : Int32} (s : r_M m n f κ sz G th h di li cs w b) (hy : y < 6) (hd : ¬ (0 ≤ d ∧ d ≤ 2)) : AM mX12_ofRow 0 0 [.ref m, .int (nI y), .int d] n f (r_sP m n f κ sz G h di li cs w b (r_is 2 (.int 0))) := by
  obtain ⟨⟨e0, -⟩, -⟩ := id s
  unfold r_m12 at e0
  have h5 : (0 : Int32) ≤ nI y ∧ nI y ≤ 5 := ⟨m_nI0 (by omega), (r_leP 5 rfl rfl (by decide)).mpr (nI_ge hy (by decide))⟩
  show AW mX12_ofRow 0 0 0 [some (.ref m), some (.int (nI y)), some (.int d)] [] n f _
  refine am_aload_n 0 dX12_ofRow_0 rfl ?_
  refine am_iload_n 1 dX12_ofRow_1 rfl ?_
  refine am_iconst 2 (v := 0) dX12_ofRow_2 (by decide) ?_
  refine am_iconst 3 (v := 5) dX12_ofRow_3 (by decide) ?_
  refine am_S3 4 (mc' := 0) (ms' := 0) (rc := 0) (rs := 0) dX12_ofRow_4 lX12_3 ⟨by decide, by decide⟩ (Nat.le_of_ble_eq_true rfl) (Nat.le_of_ble_eq_true rfl) (s_isIn_t h5.1 h5.2) ?_
  refine am_is_ct ?_
  refine am_if_ne 7 14 dX12_ofRow_7 rfl (fun c7 => ?_) (fun c7 => absurd c7 (by decide))
  refine am_iconst 14 (v := 0) dX12_ofRow_14 (by decide) ?_
  refine am_iconst 15 (v := 1) dX12_ofRow_15 (by decide) ?_
  refine am_V2 16 (mc' := 0) (ms' := 0) (rc := 0) (rs := 0) dX12_ofRow_16 lX12_59 ⟨by decide, by decide⟩ e0 (Nat.le_of_ble_eq_true rfl) (Nat.le_of_ble_eq_true rfl) (s_rstart false (by decide) s) ?_
  rintro o n' f1 ⟨rfl, rfl, s1, g1⟩
  refine am_ctI ?_
  obtain ⟨⟨e0x, ⟨e3x, ewx⟩, earx, etyx⟩, e1x, e2x⟩ := id s1
  unfold r_m12 at e0x
  refine am_if_ne 19 44 dX12_ofRow_19 rfl (fun c19 => absurd c19 (by decide)) (fun c19 => ?_)
  refine am_aload_n 22 dX12_ofRow_22 rfl ?_
  refine am_iload_n 23 dX12_ofRow_23 rfl ?_
  refine am_iconst 24 (v := 0) dX12_ofRow_24 (by decide) ?_
  refine am_iconst 25 (v := 2) dX12_ofRow_25 (by decide) ?_
  refine am_S3 26 (mc' := 0) (ms' := 0) (rc := 0) (rs := 0) dX12_ofRow_26 lX12_3 ⟨by decide, by decide⟩ (Nat.le_of_ble_eq_true rfl) (Nat.le_of_ble_eq_true rfl) (s_isIn_f hd) ?_
  refine am_is_ct ?_
  refine am_if_ne 29 36 dX12_ofRow_29 rfl (fun c29 => absurd c29 (by decide)) (fun c29 => ?_)
  refine am_iconst 32 (v := 1) dX12_ofRow_32 (by decide) ?_
  refine am_goto 33 (tgt := 37) dX12_ofRow_33 rfl ?_
  refine am_iconst 37 (v := 2) dX12_ofRow_37 (by decide) ?_
  refine am_V2 38 (mc' := 0) (ms' := 0) (rc := 0) (rs := 0) dX12_ofRow_38 lX12_43 ⟨by decide, by decide⟩ e0x (Nat.le_of_ble_eq_true rfl) (Nat.le_of_ble_eq_true rfl) (s_rrefuse true (by decide) s1) ?_
  rintro o n' f2 ⟨rfl, rfl, s2, g2⟩
  refine am_ctI ?_
  obtain ⟨⟨e0y, ⟨e3y, ewy⟩, eary, etyy⟩, e1y, e2y⟩ := id s2
  unfold r_m12 at e0y
  refine am_if_eq 41 48 dX12_ofRow_41 rfl (fun c41 => absurd c41 (by decide)) (fun c41 => ?_)
  refine am_iconst 44 (v := 0) dX12_ofRow_44 (by decide) ?_
  refine am_goto 45 (tgt := 57) dX12_ofRow_45 rfl ?_
  refine am_ireturn 57 dX12_ofRow_57 rfl rfl ?_
  exact ⟨Nat.le_refl _, _, _, rfl, ⟨rfl, rfl⟩, s2, (g1.trans g2 (Nat.le_refl _)).out⟩
theorem s_rofRow_f {y d : Int32} (s : r_M m n f κ sz G th h di li cs w b) (hy : ¬ (0 ≤ y ∧ y ≤ 5)) : AM mX12_ofRow 0 0 [.ref m, .int y, .int d] n f (r_sP m n f κ sz G h di li cs w b (r_is 1 (.int 0))) := by
  obtain ⟨⟨e0, -⟩, -⟩ := id s
  unfold r_m12 at e0
  show AW mX12_ofRow 0 0 0 [some (.ref m), some (.int y), some (.int d)] [] n f _
  refine am_aload_n 0 dX12_ofRow_0 rfl ?_
  refine am_iload_n 1 dX12_ofRow_1 rfl ?_
  refine am_iconst 2 (v := 0) dX12_ofRow_2 (by decide) ?_
  refine am_iconst 3 (v := 5) dX12_ofRow_3 (by decide) ?_
  refine am_S3 4 (mc' := 0) (ms' := 0) (rc := 0) (rs := 0) dX12_ofRow_4 lX12_3 ⟨by decide, by decide⟩ (Nat.le_of_ble_eq_true rfl) (Nat.le_of_ble_eq_true rfl) (s_isIn_f hy) ?_
  refine am_is_ct ?_
  refine am_if_ne 7 14 dX12_ofRow_7 rfl (fun c7 => absurd c7 (by decide)) (fun c7 => ?_)
  refine am_iconst 10 (v := 1) dX12_ofRow_10 (by decide) ?_
  refine am_goto 11 (tgt := 15) dX12_ofRow_11 rfl ?_
  refine am_iconst 15 (v := 1) dX12_ofRow_15 (by decide) ?_
  refine am_V2 16 (mc' := 0) (ms' := 0) (rc := 0) (rs := 0) dX12_ofRow_16 lX12_59 ⟨by decide, by decide⟩ e0 (Nat.le_of_ble_eq_true rfl) (Nat.le_of_ble_eq_true rfl) (s_rstart true (by decide) s) ?_
  rintro o n' f1 ⟨rfl, rfl, s1, g1⟩
  refine am_ctI ?_
  obtain ⟨⟨e0x, ⟨e3x, ewx⟩, earx, etyx⟩, e1x, e2x⟩ := id s1
  unfold r_m12 at e0x
  refine am_if_ne 19 44 dX12_ofRow_19 rfl (fun c19 => ?_) (fun c19 => absurd c19 (by decide))
  refine am_iconst 44 (v := 0) dX12_ofRow_44 (by decide) ?_
  refine am_goto 45 (tgt := 57) dX12_ofRow_45 rfl ?_
  refine am_ireturn 57 dX12_ofRow_57 rfl rfl ?_
  exact ⟨Nat.le_refl _, _, _, rfl, ⟨rfl, rfl⟩, s1, g1.out⟩
theorem s_rofAreaNow {k j : Nat} (s : r_M m n f κ sz G th h di li cs w b) (hk : k < sz) (hj : j ≤ 4) : AM mX12_ofAreaNow 0 0 [.ref m, .int (nI k), .int (nI j)] n f (fun o n' f' => n = n' ∧ f = f' ∧ ∃ x, o = .inl (some (.int x))) := by
  obtain ⟨⟨e0, ⟨e3, ew⟩, ⟨hs4, -, el, mc, R, l0, -, l1⟩, ety⟩, -⟩ := id s
  unfold r_m12 at e0
  obtain ⟨l2, l3, l5, l4⟩ := l1.1 (by omega)
  obtain ⟨a, l6, l7⟩ := l4 k hk
  obtain ⟨p, q, r, t, y, b0, b1⟩ := (ety a).2.2.2.1 l7
  obtain ⟨g, b2⟩ := (ety y).2.2.2.2 b1
  show AW mX12_ofAreaNow 0 0 0 [some (.ref m), some (.int (nI k)), some (.int (nI j)), none, none, none, none, none] [] n f _
  by_cases hj4 : j < 4
  · refine am_iload_n 0 dX12_ofAreaNow_0 rfl ?_
    refine am_iconst 1 (v := 4) dX12_ofAreaNow_1 (by decide) ?_
    refine am_icmp_ge 2 22 dX12_ofAreaNow_2 rfl (fun c2 => absurd c2 (nI_ge hj4 (by decide))) (fun c2 => ?_)
    refine am_aload_n 5 dX12_ofAreaNow_5 rfl ?_
    refine am_getfield 6 dX12_ofAreaNow_6 fX12_36 (by repeat (first | assumption | exact am_ue | refine am_un (by first | assumption | decide | omega) ?_)) rfl ?_
    refine am_iload_n 9 dX12_ofAreaNow_9 rfl ?_
    refine am_V1 10 (mc' := 0) (ms' := 0) (rc := 0) (rs := 0) dX12_ofAreaNow_10 lX12_102 ⟨by decide, by decide⟩ l0 (Nat.le_of_ble_eq_true rfl) (Nat.le_of_ble_eq_true rfl) (s_get l0 l5 hk (by omega) l6) ?_
    refine am_is_ct ?_
    refine am_cast 13 dX12_ofAreaNow_13 cX12_66 rfl rfl b0 ?_
    refine am_getfield 16 dX12_ofAreaNow_16 fX12_106 (by repeat (first | assumption | exact am_ue | refine am_un (by first | assumption | decide | omega) ?_)) rfl ?_
    refine am_iload_n 19 dX12_ofAreaNow_19 rfl ?_
    refine am_iaload 20 dX12_ofAreaNow_20 rfl (by repeat (first | assumption | exact am_ue | refine am_un (by first | assumption | decide | omega) ?_)) (am_ix hj4 (by decide)) ?_
    refine am_ireturn 21 dX12_ofAreaNow_21 rfl rfl ?_
    exact ⟨rfl, rfl, _, rfl⟩
  · obtain rfl : j = 4 := by omega
    refine am_iload_n 0 dX12_ofAreaNow_0 rfl ?_
    refine am_iconst 1 (v := 4) dX12_ofAreaNow_1 (by decide) ?_
    refine am_icmp_ge 2 22 dX12_ofAreaNow_2 rfl (fun c2 => ?_) (fun c2 => absurd (Int32.le_refl _) c2)
    refine am_iconst 22 (v := 0) dX12_ofAreaNow_22 (by decide) ?_
    refine am_istore_n 23 dX12_ofAreaNow_23 (by decide) ?_
    refine am_aload_n 24 dX12_ofAreaNow_24 rfl ?_
    refine am_getfield 25 dX12_ofAreaNow_25 fX12_29 (by repeat (first | assumption | exact am_ue | refine am_un (by first | assumption | decide | omega) ?_)) rfl ?_
    refine am_astore 28 dX12_ofAreaNow_28 (by decide) ?_
    refine am_aload 30 dX12_ofAreaNow_30 rfl ?_
    refine am_arraylength 32 dX12_ofAreaNow_32 rfl (by repeat (first | assumption | exact am_ue | refine am_un (by first | assumption | decide | omega) ?_)) ?_
    refine am_istore 33 dX12_ofAreaNow_33 (by decide) ?_
    refine am_iconst 35 (v := 0) dX12_ofAreaNow_35 (by decide) ?_
    refine am_istore 36 dX12_ofAreaNow_36 (by decide) ?_
    refine am_for 5 (fun _ (_ : Int32 × Option Value) => True) (fun i st => AW mX12_ofAreaNow 0 0 38 [some (.ref m), some (.int (nI k)), some (.int (nI 4)), some (.int st.1), some (.ref (m + 3)), some (.int (Int32.ofNat 5)), some (.int (nI i)), st.2] [] n f _) ?_ ?_ 0 (0, none) (by omega) trivial
    · rintro ⟨x, z⟩ -
      show AW mX12_ofAreaNow 0 0 38 [some (.ref m), some (.int (nI k)), some (.int (nI 4)), some (.int x), some (.ref (m + 3)), some (.int (Int32.ofNat 5)), some (.int (nI 5)), z] [] n f _
      refine am_iload 38 dX12_ofAreaNow_38 rfl ?_
      refine am_iload 40 dX12_ofAreaNow_40 rfl ?_
      refine am_icmp_ge 42 80 dX12_ofAreaNow_42 rfl (fun c42 => ?_) (fun c42 => absurd (by decide) c42)
      refine am_iload_n 80 dX12_ofAreaNow_80 rfl ?_
      refine am_ireturn 81 dX12_ofAreaNow_81 rfl rfl ?_
      exact ⟨rfl, rfl, _, rfl⟩
    · rintro i ⟨x, z⟩ hi - ih
      show AW mX12_ofAreaNow 0 0 38 [some (.ref m), some (.int (nI k)), some (.int (nI 4)), some (.int x), some (.ref (m + 3)), some (.int (Int32.ofNat 5)), some (.int (nI i)), z] [] n f _
      rcases hc : cs i with _ | c
      · refine am_iload 38 dX12_ofAreaNow_38 rfl ?_
        refine am_iload 40 dX12_ofAreaNow_40 rfl ?_
        refine am_icmp_ge 42 80 dX12_ofAreaNow_42 rfl (fun c42 => absurd c42 (nI_ge hi (by decide))) (fun c42 => ?_)
        refine am_aload 45 dX12_ofAreaNow_45 rfl ?_
        refine am_iload 47 dX12_ofAreaNow_47 rfl ?_
        refine am_aaload 49 dX12_ofAreaNow_49 rfl (by repeat (first | assumption | exact am_ue | refine am_un (by first | assumption | decide | omega) ?_)) (am_ix hi (by decide)) ?_
        rw [nI_clamp (n := i) (by omega), hc, show va_rf none = Value.null from rfl]
        refine am_astoreN 50 dX12_ofAreaNow_50 (by decide) ?_
        refine am_iload_n 52 dX12_ofAreaNow_52 rfl ?_
        refine am_aloadN 53 dX12_ofAreaNow_53 rfl ?_
        refine am_ifnullN 55 (tgt := 71) dX12_ofAreaNow_55 rfl ?_
        refine am_iconst 71 (v := 0) dX12_ofAreaNow_71 (by decide) ?_
        refine am_iadd 72 dX12_ofAreaNow_72 ?_
        refine am_istore_n 73 dX12_ofAreaNow_73 (by decide) ?_
        refine am_iinc 74 (v := nI (i + 1)) dX12_ofAreaNow_74 rfl (nI_1 (i)) (by decide) ?_
        refine am_goto 77 (tgt := 38) dX12_ofAreaNow_77 rfl ?_
        exact ih (_, _) trivial
      · obtain ⟨ap, cl, kk, q0, -⟩ := (ety c).2.1 (ew i hi c hc)
        unfold r_kF at q0
        refine am_iload 38 dX12_ofAreaNow_38 rfl ?_
        refine am_iload 40 dX12_ofAreaNow_40 rfl ?_
        refine am_icmp_ge 42 80 dX12_ofAreaNow_42 rfl (fun c42 => absurd c42 (nI_ge hi (by decide))) (fun c42 => ?_)
        refine am_aload 45 dX12_ofAreaNow_45 rfl ?_
        refine am_iload 47 dX12_ofAreaNow_47 rfl ?_
        refine am_aaload 49 dX12_ofAreaNow_49 rfl (by repeat (first | assumption | exact am_ue | refine am_un (by first | assumption | decide | omega) ?_)) (am_ix hi (by decide)) ?_
        rw [nI_clamp (n := i) (by omega), hc, show va_rf (some c) = Value.ref c from rfl]
        refine am_astore 50 dX12_ofAreaNow_50 (by decide) ?_
        refine am_iload_n 52 dX12_ofAreaNow_52 rfl ?_
        refine am_aload 53 dX12_ofAreaNow_53 rfl ?_
        refine am_ifnull 55 dX12_ofAreaNow_55 ?_
        refine am_aload 58 dX12_ofAreaNow_58 rfl ?_
        refine am_getfield 60 dX12_ofAreaNow_60 fX12_99 q0 rfl ?_
        refine am_iload_n 63 dX12_ofAreaNow_63 rfl ?_
        refine am_icmp_ne 64 71 dX12_ofAreaNow_64 rfl (fun c64 => ?_) (fun c64 => ?_)
        · refine am_iconst 71 (v := 0) dX12_ofAreaNow_71 (by decide) ?_
          refine am_iadd 72 dX12_ofAreaNow_72 ?_
          refine am_istore_n 73 dX12_ofAreaNow_73 (by decide) ?_
          refine am_iinc 74 (v := nI (i + 1)) dX12_ofAreaNow_74 rfl (nI_1 (i)) (by decide) ?_
          refine am_goto 77 (tgt := 38) dX12_ofAreaNow_77 rfl ?_
          exact ih (_, _) trivial
        · refine am_iconst 67 (v := 1) dX12_ofAreaNow_67 (by decide) ?_
          refine am_goto 68 (tgt := 72) dX12_ofAreaNow_68 rfl ?_
          refine am_iadd 72 dX12_ofAreaNow_72 ?_
          refine am_istore_n 73 dX12_ofAreaNow_73 (by decide) ?_
          refine am_iinc 74 (v := nI (i + 1)) dX12_ofAreaNow_74 rfl (nI_1 (i)) (by decide) ?_
          refine am_goto 77 (tgt := 38) dX12_ofAreaNow_77 rfl ?_
          exact ih (_, _) trivial
theorem s_rofArea {x d : Int32} (s : r_M m n f κ sz G th h di li cs w b) : AM mX12_ofArea 0 0 [.ref m, .int x, .int d] n f (r_sP m n f κ sz G h di li cs w b r_vI) := by
  obtain ⟨⟨e0, -, ⟨hs4, -, el, mc, R, l0, -⟩, -⟩, -⟩ := id s
  unfold r_m12 at e0
  show AW mX12_ofArea 0 0 0 [some (.ref m), some (.int x), some (.int d)] [] n f _
  rcases r_below sz x (by omega) with ⟨k, hk, rfl, hk1⟩ | hx
  · by_cases hd : 0 ≤ d ∧ d ≤ 4
    · obtain ⟨i, hi, rfl⟩ := m_small_le 4 rfl (by decide) hd.1 hd.2
      refine am_aload_n 0 dX12_ofArea_0 rfl ?_
      refine am_iload_n 1 dX12_ofArea_1 rfl ?_
      refine am_iconst 2 (v := 0) dX12_ofArea_2 (by decide) ?_
      refine am_aload_n 3 dX12_ofArea_3 rfl ?_
      refine am_getfield 4 dX12_ofArea_4 fX12_36 (by repeat (first | assumption | exact am_ue | refine am_un (by first | assumption | decide | omega) ?_)) rfl ?_
      refine am_V0 7 (mc' := 0) (ms' := 0) (rc := 0) (rs := 0) dX12_ofArea_7 lX12_62 ⟨by decide, by decide⟩ l0 (Nat.le_of_ble_eq_true rfl) (Nat.le_of_ble_eq_true rfl) (s_size l0) ?_
      refine am_is_ct ?_
      refine am_iconst 10 (v := 1) dX12_ofArea_10 (by decide) ?_
      refine am_isub 11 dX12_ofArea_11 ?_
      refine am_S3 12 (mc' := 0) (ms' := 0) (rc := 0) (rs := 0) dX12_ofArea_12 lX12_3 ⟨by decide, by decide⟩ (Nat.le_of_ble_eq_true rfl) (Nat.le_of_ble_eq_true rfl) (s_isIn_t hk1.1 hk1.2) ?_
      refine am_is_ct ?_
      refine am_if_ne 15 22 dX12_ofArea_15 rfl (fun c15 => ?_) (fun c15 => absurd c15 (by decide))
      refine am_iconst 22 (v := 0) dX12_ofArea_22 (by decide) ?_
      refine am_iconst 23 (v := 1) dX12_ofArea_23 (by decide) ?_
      refine am_V2 24 (mc' := 0) (ms' := 0) (rc := 0) (rs := 0) dX12_ofArea_24 lX12_59 ⟨by decide, by decide⟩ e0 (Nat.le_of_ble_eq_true rfl) (Nat.le_of_ble_eq_true rfl) (s_rstart false (by decide) s) ?_
      rintro o n' f1 ⟨rfl, rfl, s1, g1⟩
      refine am_ctI ?_
      obtain ⟨⟨e0x, ⟨e3x, ewx⟩, earx, etyx⟩, e1x, e2x⟩ := id s1
      unfold r_m12 at e0x
      refine am_if_ne 27 52 dX12_ofArea_27 rfl (fun c27 => absurd c27 (by decide)) (fun c27 => ?_)
      refine am_aload_n 30 dX12_ofArea_30 rfl ?_
      refine am_iload_n 31 dX12_ofArea_31 rfl ?_
      refine am_iconst 32 (v := 0) dX12_ofArea_32 (by decide) ?_
      refine am_iconst 33 (v := 4) dX12_ofArea_33 (by decide) ?_
      refine am_S3 34 (mc' := 0) (ms' := 0) (rc := 0) (rs := 0) dX12_ofArea_34 lX12_3 ⟨by decide, by decide⟩ (Nat.le_of_ble_eq_true rfl) (Nat.le_of_ble_eq_true rfl) (s_isIn_t hd.1 hd.2) ?_
      refine am_is_ct ?_
      refine am_if_ne 37 44 dX12_ofArea_37 rfl (fun c37 => ?_) (fun c37 => absurd c37 (by decide))
      refine am_iconst 44 (v := 0) dX12_ofArea_44 (by decide) ?_
      refine am_iconst 45 (v := 2) dX12_ofArea_45 (by decide) ?_
      refine am_V2 46 (mc' := 0) (ms' := 0) (rc := 0) (rs := 0) dX12_ofArea_46 lX12_43 ⟨by decide, by decide⟩ e0x (Nat.le_of_ble_eq_true rfl) (Nat.le_of_ble_eq_true rfl) (s_rrefuse false (by decide) s1) ?_
      rintro o n' f2 ⟨rfl, rfl, s2, g2⟩
      refine am_ctI ?_
      obtain ⟨⟨e0y, ⟨e3y, ewy⟩, eary, etyy⟩, e1y, e2y⟩ := id s2
      unfold r_m12 at e0y
      refine am_if_eq 49 56 dX12_ofArea_49 rfl (fun c49 => ?_) (fun c49 => absurd (by decide) c49)
      refine am_aload_n 56 dX12_ofArea_56 rfl ?_
      refine am_iload_n 57 dX12_ofArea_57 rfl ?_
      refine am_iload_n 58 dX12_ofArea_58 rfl ?_
      refine am_V2 59 (mc' := 0) (ms' := 0) (rc := 0) (rs := 0) dX12_ofArea_59 lX12_281 ⟨by decide, by decide⟩ e0y (Nat.le_of_ble_eq_true rfl) (Nat.le_of_ble_eq_true rfl) (s_rofAreaNow s2 hk hi) ?_
      rintro o n' f' ⟨rfl, rfl, x, rfl⟩
      refine am_ctI ?_
      refine am_ireturn 62 dX12_ofArea_62 rfl rfl ?_
      exact ⟨Nat.le_refl _, _, _, rfl, ⟨_, rfl⟩, s2, (g1.trans g2 (Nat.le_refl _)).out⟩
    · refine am_aload_n 0 dX12_ofArea_0 rfl ?_
      refine am_iload_n 1 dX12_ofArea_1 rfl ?_
      refine am_iconst 2 (v := 0) dX12_ofArea_2 (by decide) ?_
      refine am_aload_n 3 dX12_ofArea_3 rfl ?_
      refine am_getfield 4 dX12_ofArea_4 fX12_36 (by repeat (first | assumption | exact am_ue | refine am_un (by first | assumption | decide | omega) ?_)) rfl ?_
      refine am_V0 7 (mc' := 0) (ms' := 0) (rc := 0) (rs := 0) dX12_ofArea_7 lX12_62 ⟨by decide, by decide⟩ l0 (Nat.le_of_ble_eq_true rfl) (Nat.le_of_ble_eq_true rfl) (s_size l0) ?_
      refine am_is_ct ?_
      refine am_iconst 10 (v := 1) dX12_ofArea_10 (by decide) ?_
      refine am_isub 11 dX12_ofArea_11 ?_
      refine am_S3 12 (mc' := 0) (ms' := 0) (rc := 0) (rs := 0) dX12_ofArea_12 lX12_3 ⟨by decide, by decide⟩ (Nat.le_of_ble_eq_true rfl) (Nat.le_of_ble_eq_true rfl) (s_isIn_t hk1.1 hk1.2) ?_
      refine am_is_ct ?_
      refine am_if_ne 15 22 dX12_ofArea_15 rfl (fun c15 => ?_) (fun c15 => absurd c15 (by decide))
      refine am_iconst 22 (v := 0) dX12_ofArea_22 (by decide) ?_
      refine am_iconst 23 (v := 1) dX12_ofArea_23 (by decide) ?_
      refine am_V2 24 (mc' := 0) (ms' := 0) (rc := 0) (rs := 0) dX12_ofArea_24 lX12_59 ⟨by decide, by decide⟩ e0 (Nat.le_of_ble_eq_true rfl) (Nat.le_of_ble_eq_true rfl) (s_rstart false (by decide) s) ?_
      rintro o n' f1 ⟨rfl, rfl, s1, g1⟩
      refine am_ctI ?_
      obtain ⟨⟨e0x, ⟨e3x, ewx⟩, earx, etyx⟩, e1x, e2x⟩ := id s1
      unfold r_m12 at e0x
      refine am_if_ne 27 52 dX12_ofArea_27 rfl (fun c27 => absurd c27 (by decide)) (fun c27 => ?_)
      refine am_aload_n 30 dX12_ofArea_30 rfl ?_
      refine am_iload_n 31 dX12_ofArea_31 rfl ?_
      refine am_iconst 32 (v := 0) dX12_ofArea_32 (by decide) ?_
      refine am_iconst 33 (v := 4) dX12_ofArea_33 (by decide) ?_
      refine am_S3 34 (mc' := 0) (ms' := 0) (rc := 0) (rs := 0) dX12_ofArea_34 lX12_3 ⟨by decide, by decide⟩ (Nat.le_of_ble_eq_true rfl) (Nat.le_of_ble_eq_true rfl) (s_isIn_f hd) ?_
      refine am_is_ct ?_
      refine am_if_ne 37 44 dX12_ofArea_37 rfl (fun c37 => absurd c37 (by decide)) (fun c37 => ?_)
      refine am_iconst 40 (v := 1) dX12_ofArea_40 (by decide) ?_
      refine am_goto 41 (tgt := 45) dX12_ofArea_41 rfl ?_
      refine am_iconst 45 (v := 2) dX12_ofArea_45 (by decide) ?_
      refine am_V2 46 (mc' := 0) (ms' := 0) (rc := 0) (rs := 0) dX12_ofArea_46 lX12_43 ⟨by decide, by decide⟩ e0x (Nat.le_of_ble_eq_true rfl) (Nat.le_of_ble_eq_true rfl) (s_rrefuse true (by decide) s1) ?_
      rintro o n' f2 ⟨rfl, rfl, s2, g2⟩
      refine am_ctI ?_
      obtain ⟨⟨e0y, ⟨e3y, ewy⟩, eary, etyy⟩, e1y, e2y⟩ := id s2
      unfold r_m12 at e0y
      refine am_if_eq 49 56 dX12_ofArea_49 rfl (fun c49 => absurd c49 (by decide)) (fun c49 => ?_)
      refine am_iconst 52 (v := 0) dX12_ofArea_52 (by decide) ?_
      refine am_goto 53 (tgt := 62) dX12_ofArea_53 rfl ?_
      refine am_ireturn 62 dX12_ofArea_62 rfl rfl ?_
      exact ⟨Nat.le_refl _, _, _, rfl, ⟨_, rfl⟩, s2, (g1.trans g2 (Nat.le_refl _)).out⟩
  · refine am_aload_n 0 dX12_ofArea_0 rfl ?_
    refine am_iload_n 1 dX12_ofArea_1 rfl ?_
    refine am_iconst 2 (v := 0) dX12_ofArea_2 (by decide) ?_
    refine am_aload_n 3 dX12_ofArea_3 rfl ?_
    refine am_getfield 4 dX12_ofArea_4 fX12_36 (by repeat (first | assumption | exact am_ue | refine am_un (by first | assumption | decide | omega) ?_)) rfl ?_
    refine am_V0 7 (mc' := 0) (ms' := 0) (rc := 0) (rs := 0) dX12_ofArea_7 lX12_62 ⟨by decide, by decide⟩ l0 (Nat.le_of_ble_eq_true rfl) (Nat.le_of_ble_eq_true rfl) (s_size l0) ?_
    refine am_is_ct ?_
    refine am_iconst 10 (v := 1) dX12_ofArea_10 (by decide) ?_
    refine am_isub 11 dX12_ofArea_11 ?_
    refine am_S3 12 (mc' := 0) (ms' := 0) (rc := 0) (rs := 0) dX12_ofArea_12 lX12_3 ⟨by decide, by decide⟩ (Nat.le_of_ble_eq_true rfl) (Nat.le_of_ble_eq_true rfl) (s_isIn_f hx) ?_
    refine am_is_ct ?_
    refine am_if_ne 15 22 dX12_ofArea_15 rfl (fun c15 => absurd c15 (by decide)) (fun c15 => ?_)
    refine am_iconst 18 (v := 1) dX12_ofArea_18 (by decide) ?_
    refine am_goto 19 (tgt := 23) dX12_ofArea_19 rfl ?_
    refine am_iconst 23 (v := 1) dX12_ofArea_23 (by decide) ?_
    refine am_V2 24 (mc' := 0) (ms' := 0) (rc := 0) (rs := 0) dX12_ofArea_24 lX12_59 ⟨by decide, by decide⟩ e0 (Nat.le_of_ble_eq_true rfl) (Nat.le_of_ble_eq_true rfl) (s_rstart true (by decide) s) ?_
    rintro o n' f1 ⟨rfl, rfl, s1, g1⟩
    refine am_ctI ?_
    obtain ⟨⟨e0x, ⟨e3x, ewx⟩, earx, etyx⟩, e1x, e2x⟩ := id s1
    unfold r_m12 at e0x
    refine am_if_ne 27 52 dX12_ofArea_27 rfl (fun c27 => ?_) (fun c27 => absurd c27 (by decide))
    refine am_iconst 52 (v := 0) dX12_ofArea_52 (by decide) ?_
    refine am_goto 53 (tgt := 62) dX12_ofArea_53 rfl ?_
    refine am_ireturn 62 dX12_ofArea_62 rfl rfl ?_
    exact ⟨Nat.le_refl _, _, _, rfl, ⟨_, rfl⟩, s1, g1.out⟩
theorem s_rmanyNow {j : Nat} (s : r_M m n f κ sz G th h di li cs w b) (hW : r_W f v u sig) (hs : ∀ x, x < 48 → (sig x).toInt.natAbs ≤ 300000) (hj : j ≤ 9) : AM mX12_manyNow 0 0 [.ref m, .int (nI j), .ref v] n f (fun o n' f' => n = n' ∧ f = f' ∧ ∃ x, o = .inl (some (.int x))) := by
  have hPl := m_pks_len (sig := sig) (k := 48)
  have hW0 := hW
  obtain ⟨⟨e0, -, ⟨hs4, -, el, mc, R, l0, -⟩, -⟩, -⟩ := id s
  unfold r_m12 at e0
  obtain ⟨pk, v0, v1, v2, v3, v4⟩ := hW
  have hPk : ∀ k, k < (m_pks sig 48).length → ¬ nI (m_pks sig 48).length ≤ nI k := fun k hk => nI_ge hk (by omega)
  show AW mX12_manyNow 0 0 0 [some (.ref m), some (.int (nI j)), some (.ref v), none, none] [] n f _
  rcases (show j = 0 ∨ j = 1 ∨ j = 2 ∨ j = 3 ∨ j = 4 ∨ j = 5 ∨ j = 6 ∨ j = 7 ∨ j = 8 ∨ j = 9 by omega) with rfl | rfl | rfl | rfl | rfl | rfl | rfl | rfl | rfl | rfl
  · refine am_iload_n 0 dX12_manyNow_0 rfl ?_
    refine am_tableIn 1 (off := 51) (tgt := 52) dX12_manyNow_1 (by decide) (by decide) rfl rfl ?_
    refine am_aload_n 52 dX12_manyNow_52 rfl ?_
    refine am_getfield 53 dX12_manyNow_53 fX12_220 (by repeat (first | assumption | exact am_ue | refine am_un (by first | assumption | decide | omega) ?_)) rfl ?_
    refine am_ireturn 56 dX12_manyNow_56 rfl rfl ?_
    exact ⟨rfl, rfl, _, rfl⟩
  · refine am_iload_n 0 dX12_manyNow_0 rfl ?_
    refine am_tableIn 1 (off := 56) (tgt := 57) dX12_manyNow_1 (by decide) (by decide) rfl rfl ?_
    refine am_aload_n 57 dX12_manyNow_57 rfl ?_
    refine am_getfield 58 dX12_manyNow_58 fX12_223 (by repeat (first | assumption | exact am_ue | refine am_un (by first | assumption | decide | omega) ?_)) rfl ?_
    refine am_ireturn 61 dX12_manyNow_61 rfl rfl ?_
    exact ⟨rfl, rfl, _, rfl⟩
  · refine am_iload_n 0 dX12_manyNow_0 rfl ?_
    refine am_tableIn 1 (off := 61) (tgt := 62) dX12_manyNow_1 (by decide) (by decide) rfl rfl ?_
    refine am_aload_n 62 dX12_manyNow_62 rfl ?_
    refine am_V0 63 (mc' := 0) (ms' := 0) (rc := 0) (rs := 0) dX12_manyNow_63 lX12_236 ⟨by decide, by decide⟩ e0 (Nat.le_of_ble_eq_true rfl) (Nat.le_of_ble_eq_true rfl) (s_rcontactsNow s.1) ?_
    refine am_is_ct ?_
    refine am_ireturn 66 dX12_manyNow_66 rfl rfl ?_
    exact ⟨rfl, rfl, _, rfl⟩
  · refine am_iload_n 0 dX12_manyNow_0 rfl ?_
    refine am_tableIn 1 (off := 66) (tgt := 67) dX12_manyNow_1 (by decide) (by decide) rfl rfl ?_
    refine am_aload_n 67 dX12_manyNow_67 rfl ?_
    refine am_getfield 68 dX12_manyNow_68 fX12_153 (by repeat (first | assumption | exact am_ue | refine am_un (by first | assumption | decide | omega) ?_)) rfl ?_
    refine am_ireturn 71 dX12_manyNow_71 rfl rfl ?_
    exact ⟨rfl, rfl, _, rfl⟩
  · refine am_iload_n 0 dX12_manyNow_0 rfl ?_
    refine am_tableIn 1 (off := 71) (tgt := 72) dX12_manyNow_1 (by decide) (by decide) rfl rfl ?_
    refine am_aload_n 72 dX12_manyNow_72 rfl ?_
    refine am_getfield 73 dX12_manyNow_73 fX12_132 (by repeat (first | assumption | exact am_ue | refine am_un (by first | assumption | decide | omega) ?_)) rfl ?_
    refine am_ireturn 76 dX12_manyNow_76 rfl rfl ?_
    exact ⟨rfl, rfl, _, rfl⟩
  · refine am_iload_n 0 dX12_manyNow_0 rfl ?_
    refine am_tableIn 1 (off := 76) (tgt := 77) dX12_manyNow_1 (by decide) (by decide) rfl rfl ?_
    refine am_aload_n 77 dX12_manyNow_77 rfl ?_
    refine am_getfield 78 dX12_manyNow_78 fX12_116 (by repeat (first | assumption | exact am_ue | refine am_un (by first | assumption | decide | omega) ?_)) rfl ?_
    refine am_ireturn 81 dX12_manyNow_81 rfl rfl ?_
    exact ⟨rfl, rfl, _, rfl⟩
  · refine am_iload_n 0 dX12_manyNow_0 rfl ?_
    refine am_tableIn 1 (off := 81) (tgt := 82) dX12_manyNow_1 (by decide) (by decide) rfl rfl ?_
    refine am_aload_n 82 dX12_manyNow_82 rfl ?_
    refine am_getfield 83 dX12_manyNow_83 fX12_36 (by repeat (first | assumption | exact am_ue | refine am_un (by first | assumption | decide | omega) ?_)) rfl ?_
    refine am_V0 86 (mc' := 0) (ms' := 0) (rc := 0) (rs := 0) dX12_manyNow_86 lX12_62 ⟨by decide, by decide⟩ l0 (Nat.le_of_ble_eq_true rfl) (Nat.le_of_ble_eq_true rfl) (s_size l0) ?_
    refine am_is_ct ?_
    refine am_ireturn 89 dX12_manyNow_89 rfl rfl ?_
    exact ⟨rfl, rfl, _, rfl⟩
  · refine am_iload_n 0 dX12_manyNow_0 rfl ?_
    refine am_tableIn 1 (off := 89) (tgt := 90) dX12_manyNow_1 (by decide) (by decide) rfl rfl ?_
    refine am_aload_n 90 dX12_manyNow_90 rfl ?_
    refine am_V0 91 (mc' := 0) (ms' := 0) (rc := 0) (rs := 0) dX12_manyNow_91 lX12_96 ⟨by decide, by decide⟩ v0 (Nat.le_of_ble_eq_true rfl) (Nat.le_of_ble_eq_true rfl) (s_vhum v0 v1 hs) ?_
    refine am_is_ct ?_
    refine am_ireturn 94 dX12_manyNow_94 rfl rfl ?_
    exact ⟨rfl, rfl, _, rfl⟩
  · refine am_iload_n 0 dX12_manyNow_0 rfl ?_
    refine am_tableIn 1 (off := 94) (tgt := 95) dX12_manyNow_1 (by decide) (by decide) rfl rfl ?_
    refine am_aload_n 95 dX12_manyNow_95 rfl ?_
    refine am_getfield 96 dX12_manyNow_96 fX12_212 (by repeat (first | assumption | exact am_ue | refine am_un (by first | assumption | decide | omega) ?_)) rfl ?_
    refine am_ireturn 99 dX12_manyNow_99 rfl rfl ?_
    exact ⟨rfl, rfl, _, rfl⟩
  · refine am_iload_n 0 dX12_manyNow_0 rfl ?_
    refine am_tableOut 1 (tgt := 100) dX12_manyNow_1 (Or.inr (by decide)) rfl ?_
    refine am_iconst 100 (v := 0) dX12_manyNow_100 (by decide) ?_
    refine am_istore_n 101 dX12_manyNow_101 (by decide) ?_
    refine am_iconst 102 (v := 0) dX12_manyNow_102 (by decide) ?_
    refine am_istore 103 dX12_manyNow_103 (by decide) ?_
    refine am_for (m_pks sig 48).length (fun _ (_ : Int32) => True) (fun k x => AW mX12_manyNow 0 0 105 [some (.ref m), some (.int (nI 9)), some (.ref v), some (.int x), some (.int (nI k))] [] n f _) ?_ ?_ 0 0 (by omega) trivial
    · rintro x -
      refine am_iload 105 dX12_manyNow_105 rfl ?_
      refine am_aload_n 107 dX12_manyNow_107 rfl ?_
      refine am_getfield 108 dX12_manyNow_108 fX12_212 (by repeat (first | assumption | exact am_ue | refine am_un (by first | assumption | decide | omega) ?_)) rfl ?_
      refine am_icmp_ge 111 142 dX12_manyNow_111 rfl (fun c111 => ?_) (fun c111 => absurd (Int32.le_refl _) c111)
      refine am_iload_n 142 dX12_manyNow_142 rfl ?_
      refine am_ireturn 143 dX12_manyNow_143 rfl rfl ?_
      exact ⟨rfl, rfl, _, rfl⟩
    · rintro k x hk - ih
      obtain ⟨c48, c20⟩ := m_pks48 hk
      have hpk := v4 k hk
      have hk48 : k < 48 := by omega
      generalize (m_pks sig 48).getD k 0 = c at c48 c20 hpk
      refine am_iload 105 dX12_manyNow_105 rfl ?_
      refine am_aload_n 107 dX12_manyNow_107 rfl ?_
      refine am_getfield 108 dX12_manyNow_108 fX12_212 (by repeat (first | assumption | exact am_ue | refine am_un (by first | assumption | decide | omega) ?_)) rfl ?_
      refine am_icmp_ge 111 142 dX12_manyNow_111 rfl (fun c111 => absurd c111 (hPk k hk)) (fun c111 => ?_)
      refine am_iload_n 114 dX12_manyNow_114 rfl ?_
      refine am_aload_n 115 dX12_manyNow_115 rfl ?_
      refine am_aload_n 116 dX12_manyNow_116 rfl ?_
      refine am_getfield 117 dX12_manyNow_117 fX12_192 (by repeat (first | assumption | exact am_ue | refine am_un (by first | assumption | decide | omega) ?_)) rfl ?_
      refine am_iload 120 dX12_manyNow_120 rfl ?_
      refine am_iaload 122 dX12_manyNow_122 rfl (by repeat (first | assumption | exact am_ue | refine am_un (by first | assumption | decide | omega) ?_)) (am_ix hk48 (by decide)) ?_
      rw [nI_clamp (n := k) (by omega), hpk]
      refine am_V1 123 (mc' := 0) (ms' := 0) (rc := 0) (rs := 0) dX12_manyNow_123 lX12_195 ⟨by decide, by decide⟩ v0 (Nat.le_of_ble_eq_true rfl) (Nat.le_of_ble_eq_true rfl) (s_visPalm hW0 c48) ?_
      refine am_is_ct ?_
      refine am_if_eq 126 133 dX12_manyNow_126 rfl (fun c126 => ?_) (fun c126 => ?_)
      · refine am_iconst 133 (v := 0) dX12_manyNow_133 (by decide) ?_
        refine am_iadd 134 dX12_manyNow_134 ?_
        refine am_istore_n 135 dX12_manyNow_135 (by decide) ?_
        refine am_iinc 136 (v := nI (k + 1)) dX12_manyNow_136 rfl (nI_1 (k)) (by decide) ?_
        refine am_goto 139 (tgt := 105) dX12_manyNow_139 rfl ?_
        exact ih _ trivial
      · refine am_iconst 129 (v := 1) dX12_manyNow_129 (by decide) ?_
        refine am_goto 130 (tgt := 134) dX12_manyNow_130 rfl ?_
        refine am_iadd 134 dX12_manyNow_134 ?_
        refine am_istore_n 135 dX12_manyNow_135 (by decide) ?_
        refine am_iinc 136 (v := nI (k + 1)) dX12_manyNow_136 rfl (nI_1 (k)) (by decide) ?_
        refine am_goto 139 (tgt := 105) dX12_manyNow_139 rfl ?_
        exact ih _ trivial
theorem s_rmany {x : Int32} (s : r_M m n f κ sz G th h di li cs w b) (hs : ∀ x, x < 48 → (h + w x - b x).toInt.natAbs ≤ 300000) : AM mX12_many 7 292 [.ref m, .int x] n f (r_sP m n f κ sz G h di li cs w b r_vI) := by
  obtain ⟨⟨e0, -⟩, -⟩ := id s
  unfold r_m12 at e0
  have hm5 := s.1.n5
  show AW mX12_many 7 292 0 [some (.ref m), some (.int x)] [] n f _
  by_cases hd : 0 ≤ x ∧ x ≤ 9
  · obtain ⟨i, hi, rfl⟩ := m_small_le 9 rfl (by decide) hd.1 hd.2
    refine am_aload_n 0 dX12_many_0 rfl ?_
    refine am_iload_n 1 dX12_many_1 rfl ?_
    refine am_iconst 2 (v := 0) dX12_many_2 (by decide) ?_
    refine am_bipush 3 (v := 9) dX12_many_3 (by decide) ?_
    refine am_S3 5 (mc' := 0) (ms' := 0) (rc := 7) (rs := 292) dX12_many_5 lX12_3 ⟨by decide, by decide⟩ (Nat.le_of_ble_eq_true rfl) (Nat.le_of_ble_eq_true rfl) (s_isIn_t hd.1 hd.2) ?_
    refine am_is_ct ?_
    refine am_if_ne 8 15 dX12_many_8 rfl (fun c8 => ?_) (fun c8 => absurd c8 (by decide))
    refine am_iconst 15 (v := 0) dX12_many_15 (by decide) ?_
    refine am_iconst 16 (v := 1) dX12_many_16 (by decide) ?_
    refine am_V2 17 (mc' := 0) (ms' := 0) (rc := 7) (rs := 292) dX12_many_17 lX12_59 ⟨by decide, by decide⟩ e0 (Nat.le_of_ble_eq_true rfl) (Nat.le_of_ble_eq_true rfl) (s_rstart false (by decide) s) ?_
    rintro o n' f1 ⟨rfl, rfl, s1, g1⟩
    refine am_ctI ?_
    obtain ⟨⟨e0x, ⟨e3x, ewx⟩, earx, etyx⟩, e1x, e2x⟩ := id s1
    unfold r_m12 at e0x
    refine am_if_eq 20 27 dX12_many_20 rfl (fun c20 => ?_) (fun c20 => absurd (by decide) c20)
    refine am_aload_n 27 dX12_many_27 rfl ?_
    refine am_iload_n 28 dX12_many_28 rfl ?_
    refine am_aload_n 29 dX12_many_29 rfl ?_
    refine am_V0 30 (mc' := 7) (ms' := 292) (rc := 0) (rs := 0) dX12_many_30 lX12_92 ⟨by decide, by decide⟩ e0x (Nat.le_of_ble_eq_true rfl) (Nat.le_of_ble_eq_true rfl) (s_rview s1) ?_
    rintro o n' f3 ⟨rfl, rfl, hW, e4⟩
    refine am_ctI ?_
    obtain ⟨s3, g3⟩ := s1.more (n' := n + 7) (by omega) e4
    obtain ⟨⟨e0z, ⟨e3z, ewz⟩, earz, etyz⟩, e1z, e2z⟩ := id s3
    unfold r_m12 at e0z
    refine am_V2 33 (mc' := 0) (ms' := 0) (rc := 0) (rs := 0) dX12_many_33 lX12_284 ⟨by decide, by decide⟩ e0z (Nat.le_of_ble_eq_true rfl) (Nat.le_of_ble_eq_true rfl) (s_rmanyNow s3 hW hs hi) ?_
    rintro o n' f' ⟨rfl, rfl, x, rfl⟩
    refine am_ctI ?_
    refine am_ireturn 36 dX12_many_36 rfl rfl ?_
    exact ⟨by omega, _, _, rfl, ⟨_, rfl⟩, s3, (g1.trans g3 (Nat.le_refl _)).out⟩
  · refine am_aload_n 0 dX12_many_0 rfl ?_
    refine am_iload_n 1 dX12_many_1 rfl ?_
    refine am_iconst 2 (v := 0) dX12_many_2 (by decide) ?_
    refine am_bipush 3 (v := 9) dX12_many_3 (by decide) ?_
    refine am_S3 5 (mc' := 0) (ms' := 0) (rc := 7) (rs := 292) dX12_many_5 lX12_3 ⟨by decide, by decide⟩ (Nat.le_of_ble_eq_true rfl) (Nat.le_of_ble_eq_true rfl) (s_isIn_f hd) ?_
    refine am_is_ct ?_
    refine am_if_ne 8 15 dX12_many_8 rfl (fun c8 => absurd c8 (by decide)) (fun c8 => ?_)
    refine am_iconst 11 (v := 1) dX12_many_11 (by decide) ?_
    refine am_goto 12 (tgt := 16) dX12_many_12 rfl ?_
    refine am_iconst 16 (v := 1) dX12_many_16 (by decide) ?_
    refine am_V2 17 (mc' := 0) (ms' := 0) (rc := 7) (rs := 292) dX12_many_17 lX12_59 ⟨by decide, by decide⟩ e0 (Nat.le_of_ble_eq_true rfl) (Nat.le_of_ble_eq_true rfl) (s_rstart true (by decide) s) ?_
    rintro o n' f1 ⟨rfl, rfl, s1, g1⟩
    refine am_ctI ?_
    obtain ⟨⟨e0x, ⟨e3x, ewx⟩, earx, etyx⟩, e1x, e2x⟩ := id s1
    unfold r_m12 at e0x
    refine am_if_eq 20 27 dX12_many_20 rfl (fun c20 => absurd c20 (by decide)) (fun c20 => ?_)
    refine am_iconst 23 (v := 0) dX12_many_23 (by decide) ?_
    refine am_goto 24 (tgt := 36) dX12_many_24 rfl ?_
    refine am_ireturn 36 dX12_many_36 rfl rfl ?_
    exact ⟨Nat.le_refl _, _, _, rfl, ⟨_, rfl⟩, s1, g1.out⟩
theorem s_rguessNowV {c a ap : Nat} {kk : m_K} {isY : Bool} (h0 : f c = .inr (9, r_kF ap kk)) (k : m_kOk kk) (ha : a ≤ 9) : AM mX12_guessNow 0 0 [.ref c, .int (nI a), .int (m_bi isY)] n f (am_is (some (.double (FP.f2d (Native.java_lang_Math.nans.pick32 true FP.fconst0 (Native.java_lang_Math.nans.pick32 false (if isY then 1109393408 else 1113587712) (m_at9 kk (nI a) isY)))))) n f) := by
  unfold r_kF at h0
  obtain ⟨b1, b2, b3⟩ := f_at9 (isY := isY) k ha
  have b4 := f_n32 b1.1
  have z0 : FP.Core.FFin FP.fconst0 := f_0.1
  have nz := n_nn z0
  show AW mX12_guessNow 0 0 0 [some (.ref c), some (.int (nI a)), some (.int (m_bi isY)), none] [] n f _
  cases isY
  · have hp : fB (Native.java_lang_Math.nans.pick32 false 1113587712 (m_at9 kk (nI a) false)) (-504) 560 := n_fB_pick (fB_mono f_56 (by decide) (by decide)) b1
    have hq : FP.Core.FFin (Native.java_lang_Math.nans.pick32 true FP.fconst0 (Native.java_lang_Math.nans.pick32 false 1113587712 (m_at9 kk (nI a) false))) := by
      unfold Native.java_lang_Math.nans.pick32
      repeat' split
      all_goals first | exact z0 | exact f_56.1 | exact b1.1
    refine am_iload_n 0 dX12_guessNow_0 rfl ?_
    refine am_if_eq 1 19 dX12_guessNow_1 rfl (fun c1 => ?_) (fun c1 => absurd rfl c1)
    refine am_aload_n 19 dX12_guessNow_19 rfl ?_
    refine am_getfield 20 dX12_guessNow_20 fX12_268 (by repeat (first | assumption | exact am_ue | refine am_un (by first | assumption | decide | omega) ?_)) rfl ?_
    refine am_aload_n 23 dX12_guessNow_23 rfl ?_
    refine am_getfield 24 dX12_guessNow_24 fX12_122 (by repeat (first | assumption | exact am_ue | refine am_un (by first | assumption | decide | omega) ?_)) rfl ?_
    refine am_iload_n 27 dX12_guessNow_27 rfl ?_
    refine am_i2f 28 dX12_guessNow_28 ?_
    refine am_fmul 29 dX12_guessNow_29 b2 ?_
    refine am_fadd 30 dX12_guessNow_30 b4 ?_
    refine am_fstore_n 31 dX12_guessNow_31 (by decide) ?_
    refine am_fconst0 32 dX12_guessNow_32 ?_
    refine am_iload_n 33 dX12_guessNow_33 rfl ?_
    refine am_if_eq 34 43 dX12_guessNow_34 rfl (fun c34 => ?_) (fun c34 => absurd rfl c34)
    refine am_ldcfw 43 dX12_guessNow_43 kX12_289 ?_
    refine am_fload_n 46 dX12_guessNow_46 rfl ?_
    refine am_fmin 47 dX12_guessNow_47 jX12_290 (n_nn f_56.1) (n_nn b1.1) (by decide) (Nat.le_of_ble_eq_true rfl) ?_
    refine am_fmax 50 dX12_guessNow_50 jX12_294 nz (n_nn hp.1) (by decide) (Nat.le_of_ble_eq_true rfl) ?_
    refine am_f2d 53 dX12_guessNow_53 (d_f2d hq) ?_
    exact am_dreturn 54 dX12_guessNow_54 rfl ⟨rfl, rfl, rfl⟩
  · have hp : fB (Native.java_lang_Math.nans.pick32 false 1109393408 (m_at9 kk (nI a) true)) (-504) 560 := n_fB_pick (fB_mono f_40 (by decide) (by decide)) b1
    have hq : FP.Core.FFin (Native.java_lang_Math.nans.pick32 true FP.fconst0 (Native.java_lang_Math.nans.pick32 false 1109393408 (m_at9 kk (nI a) true))) := by
      unfold Native.java_lang_Math.nans.pick32
      repeat' split
      all_goals first | exact z0 | exact f_40.1 | exact b1.1
    refine am_iload_n 0 dX12_guessNow_0 rfl ?_
    refine am_if_eq 1 19 dX12_guessNow_1 rfl (fun c1 => absurd c1 (by decide)) (fun c1 => ?_)
    refine am_aload_n 4 dX12_guessNow_4 rfl ?_
    refine am_getfield 5 dX12_guessNow_5 fX12_271 (by repeat (first | assumption | exact am_ue | refine am_un (by first | assumption | decide | omega) ?_)) rfl ?_
    refine am_aload_n 8 dX12_guessNow_8 rfl ?_
    refine am_getfield 9 dX12_guessNow_9 fX12_126 (by repeat (first | assumption | exact am_ue | refine am_un (by first | assumption | decide | omega) ?_)) rfl ?_
    refine am_iload_n 12 dX12_guessNow_12 rfl ?_
    refine am_i2f 13 dX12_guessNow_13 ?_
    refine am_fmul 14 dX12_guessNow_14 b3 ?_
    refine am_fadd 15 dX12_guessNow_15 b4 ?_
    refine am_goto 16 (tgt := 31) dX12_guessNow_16 rfl ?_
    refine am_fstore_n 31 dX12_guessNow_31 (by decide) ?_
    refine am_fconst0 32 dX12_guessNow_32 ?_
    refine am_iload_n 33 dX12_guessNow_33 rfl ?_
    refine am_if_eq 34 43 dX12_guessNow_34 rfl (fun c34 => absurd c34 (by decide)) (fun c34 => ?_)
    refine am_ldcfw 37 dX12_guessNow_37 kX12_288 ?_
    refine am_goto 40 (tgt := 46) dX12_guessNow_40 rfl ?_
    refine am_fload_n 46 dX12_guessNow_46 rfl ?_
    refine am_fmin 47 dX12_guessNow_47 jX12_290 (n_nn f_40.1) (n_nn b1.1) (by decide) (Nat.le_of_ble_eq_true rfl) ?_
    refine am_fmax 50 dX12_guessNow_50 jX12_294 nz (n_nn hp.1) (by decide) (Nat.le_of_ble_eq_true rfl) ?_
    refine am_f2d 53 dX12_guessNow_53 (d_f2d hq) ?_
    exact am_dreturn 54 dX12_guessNow_54 rfl ⟨rfl, rfl, rfl⟩
theorem s_rguessNow {c a ap : Nat} {kk : m_K} {isY : Bool} (h0 : f c = .inr (9, r_kF ap kk)) (k : m_kOk kk) (ha : a ≤ 9) : AM mX12_guessNow 0 0 [.ref c, .int (nI a), .int (m_bi isY)] n f (fun o n' f' => n = n' ∧ f = f' ∧ ∃ x, FP.Core.FFin x ∧ o = .inl (some (.double (FP.f2d x)))) := by
  refine AW.mono ?_ (s_rguessNowV h0 k ha)
  rintro o n' f' ⟨rfl, rfl, rfl⟩
  obtain ⟨b1, b2, b3⟩ := f_at9 (isY := isY) k ha
  refine ⟨rfl, rfl, _, ?_, rfl⟩
  have f5 : FP.Core.FFin (if isY then (1109393408 : UInt32) else 1113587712) := by
    cases isY
    · exact f_56.1
    · exact f_40.1
  unfold Native.java_lang_Math.nans.pick32
  repeat' split
  all_goals first | exact f_0.1 | exact f5 | exact b1.1 | exact f_40.1 | exact f_56.1
theorem s_rguess {x d : Int32} {isY : Bool} (s : r_M m n f κ sz G th h di li cs w b) : AM mX12_guess 0 0 [.ref m, .int x, .int d, .int (m_bi isY)] n f (r_sP m n f κ sz G h di li cs w b r_vD) := by
  obtain ⟨⟨e0, -⟩, -⟩ := id s
  unfold r_m12 at e0
  show AW mX12_guess 0 0 0 [some (.ref m), some (.int x), some (.int d), some (.int (m_bi isY))] [] n f _
  rcases r_name cs x with ⟨k, c, hk, rfl, hc⟩ | hx
  · by_cases hd : 0 ≤ d ∧ d ≤ 9
    · obtain ⟨i, hi, rfl⟩ := m_small_le 9 rfl (by decide) hd.1 hd.2
      refine am_aload_n 0 dX12_guess_0 rfl ?_
      refine am_aload_n 1 dX12_guess_1 rfl ?_
      refine am_iload_n 2 dX12_guess_2 rfl ?_
      refine am_V1 3 (mc' := 0) (ms' := 0) (rc := 0) (rs := 0) dX12_guess_3 lX12_261 ⟨by decide, by decide⟩ e0 (Nat.le_of_ble_eq_true rfl) (Nat.le_of_ble_eq_true rfl) (s_rnone_f s hk hc) ?_
      refine am_is_ct ?_
      refine am_iconst 6 (v := 1) dX12_guess_6 (by decide) ?_
      refine am_V2 7 (mc' := 0) (ms' := 0) (rc := 0) (rs := 0) dX12_guess_7 lX12_59 ⟨by decide, by decide⟩ e0 (Nat.le_of_ble_eq_true rfl) (Nat.le_of_ble_eq_true rfl) (s_rstart false (by decide) s) ?_
      rintro o n' f1 ⟨rfl, rfl, s1, g1⟩
      refine am_ctI ?_
      obtain ⟨⟨e0x, ⟨e3x, ewx⟩, earx, etyx⟩, e1x, e2x⟩ := id s1
      unfold r_m12 at e0x
      refine am_if_ne 10 36 dX12_guess_10 rfl (fun c10 => absurd c10 (by decide)) (fun c10 => ?_)
      refine am_aload_n 13 dX12_guess_13 rfl ?_
      refine am_iload_n 14 dX12_guess_14 rfl ?_
      refine am_iconst 15 (v := 0) dX12_guess_15 (by decide) ?_
      refine am_bipush 16 (v := 9) dX12_guess_16 (by decide) ?_
      refine am_S3 18 (mc' := 0) (ms' := 0) (rc := 0) (rs := 0) dX12_guess_18 lX12_3 ⟨by decide, by decide⟩ (Nat.le_of_ble_eq_true rfl) (Nat.le_of_ble_eq_true rfl) (s_isIn_t hd.1 hd.2) ?_
      refine am_is_ct ?_
      refine am_if_ne 21 28 dX12_guess_21 rfl (fun c21 => ?_) (fun c21 => absurd c21 (by decide))
      refine am_iconst 28 (v := 0) dX12_guess_28 (by decide) ?_
      refine am_iconst 29 (v := 2) dX12_guess_29 (by decide) ?_
      refine am_V2 30 (mc' := 0) (ms' := 0) (rc := 0) (rs := 0) dX12_guess_30 lX12_43 ⟨by decide, by decide⟩ e0x (Nat.le_of_ble_eq_true rfl) (Nat.le_of_ble_eq_true rfl) (s_rrefuse false (by decide) s1) ?_
      rintro o n' f2 ⟨rfl, rfl, s2, g2⟩
      refine am_ctI ?_
      obtain ⟨⟨e0y, ⟨e3y, ewy⟩, eary, etyy⟩, e1y, e2y⟩ := id s2
      unfold r_m12 at e0y
      refine am_if_eq 33 40 dX12_guess_33 rfl (fun c33 => ?_) (fun c33 => absurd (by decide) c33)
      refine am_aload_n 40 dX12_guess_40 rfl ?_
      refine am_getfield 41 dX12_guess_41 fX12_29 (by repeat (first | assumption | exact am_ue | refine am_un (by first | assumption | decide | omega) ?_)) rfl ?_
      refine am_iload_n 44 dX12_guess_44 rfl ?_
      refine am_aaload 45 dX12_guess_45 rfl (by repeat (first | assumption | exact am_ue | refine am_un (by first | assumption | decide | omega) ?_)) (am_ix hk (by decide)) ?_
      rw [nI_clamp (n := k) (by omega), hc, show va_rf (some c) = Value.ref c from rfl]
      obtain ⟨ap, cl, kk, q0, q1, q2, -⟩ := (etyy c).2.1 (ewy k hk c hc)
      refine am_iload_n 46 dX12_guess_46 rfl ?_
      refine am_iload_n 47 dX12_guess_47 rfl ?_
      refine am_S3 48 (mc' := 0) (ms' := 0) (rc := 0) (rs := 0) dX12_guess_48 lX12_297 ⟨by decide, by decide⟩ (Nat.le_of_ble_eq_true rfl) (Nat.le_of_ble_eq_true rfl) (s_rguessNow q0 q2 hi) ?_
      rintro o n' f' ⟨rfl, rfl, x, -, rfl⟩
      refine am_ctI ?_
      refine am_dreturn 51 dX12_guess_51 rfl ?_
      exact ⟨Nat.le_refl _, _, _, rfl, ⟨_, rfl⟩, s2, (g1.trans g2 (Nat.le_refl _)).out⟩
    · refine am_aload_n 0 dX12_guess_0 rfl ?_
      refine am_aload_n 1 dX12_guess_1 rfl ?_
      refine am_iload_n 2 dX12_guess_2 rfl ?_
      refine am_V1 3 (mc' := 0) (ms' := 0) (rc := 0) (rs := 0) dX12_guess_3 lX12_261 ⟨by decide, by decide⟩ e0 (Nat.le_of_ble_eq_true rfl) (Nat.le_of_ble_eq_true rfl) (s_rnone_f s hk hc) ?_
      refine am_is_ct ?_
      refine am_iconst 6 (v := 1) dX12_guess_6 (by decide) ?_
      refine am_V2 7 (mc' := 0) (ms' := 0) (rc := 0) (rs := 0) dX12_guess_7 lX12_59 ⟨by decide, by decide⟩ e0 (Nat.le_of_ble_eq_true rfl) (Nat.le_of_ble_eq_true rfl) (s_rstart false (by decide) s) ?_
      rintro o n' f1 ⟨rfl, rfl, s1, g1⟩
      refine am_ctI ?_
      obtain ⟨⟨e0x, ⟨e3x, ewx⟩, earx, etyx⟩, e1x, e2x⟩ := id s1
      unfold r_m12 at e0x
      refine am_if_ne 10 36 dX12_guess_10 rfl (fun c10 => absurd c10 (by decide)) (fun c10 => ?_)
      refine am_aload_n 13 dX12_guess_13 rfl ?_
      refine am_iload_n 14 dX12_guess_14 rfl ?_
      refine am_iconst 15 (v := 0) dX12_guess_15 (by decide) ?_
      refine am_bipush 16 (v := 9) dX12_guess_16 (by decide) ?_
      refine am_S3 18 (mc' := 0) (ms' := 0) (rc := 0) (rs := 0) dX12_guess_18 lX12_3 ⟨by decide, by decide⟩ (Nat.le_of_ble_eq_true rfl) (Nat.le_of_ble_eq_true rfl) (s_isIn_f hd) ?_
      refine am_is_ct ?_
      refine am_if_ne 21 28 dX12_guess_21 rfl (fun c21 => absurd c21 (by decide)) (fun c21 => ?_)
      refine am_iconst 24 (v := 1) dX12_guess_24 (by decide) ?_
      refine am_goto 25 (tgt := 29) dX12_guess_25 rfl ?_
      refine am_iconst 29 (v := 2) dX12_guess_29 (by decide) ?_
      refine am_V2 30 (mc' := 0) (ms' := 0) (rc := 0) (rs := 0) dX12_guess_30 lX12_43 ⟨by decide, by decide⟩ e0x (Nat.le_of_ble_eq_true rfl) (Nat.le_of_ble_eq_true rfl) (s_rrefuse true (by decide) s1) ?_
      rintro o n' f2 ⟨rfl, rfl, s2, g2⟩
      refine am_ctI ?_
      obtain ⟨⟨e0y, ⟨e3y, ewy⟩, eary, etyy⟩, e1y, e2y⟩ := id s2
      unfold r_m12 at e0y
      refine am_if_eq 33 40 dX12_guess_33 rfl (fun c33 => absurd c33 (by decide)) (fun c33 => ?_)
      refine am_dconst0 36 dX12_guess_36 ?_
      refine am_goto 37 (tgt := 51) dX12_guess_37 rfl ?_
      refine am_dreturn 51 dX12_guess_51 rfl ?_
      exact ⟨Nat.le_refl _, _, _, rfl, ⟨_, rfl⟩, s2, (g1.trans g2 (Nat.le_refl _)).out⟩
  · refine am_aload_n 0 dX12_guess_0 rfl ?_
    refine am_aload_n 1 dX12_guess_1 rfl ?_
    refine am_iload_n 2 dX12_guess_2 rfl ?_
    refine am_V1 3 (mc' := 0) (ms' := 0) (rc := 0) (rs := 0) dX12_guess_3 lX12_261 ⟨by decide, by decide⟩ e0 (Nat.le_of_ble_eq_true rfl) (Nat.le_of_ble_eq_true rfl) (s_rnone_t s hx) ?_
    refine am_is_ct ?_
    refine am_iconst 6 (v := 1) dX12_guess_6 (by decide) ?_
    refine am_V2 7 (mc' := 0) (ms' := 0) (rc := 0) (rs := 0) dX12_guess_7 lX12_59 ⟨by decide, by decide⟩ e0 (Nat.le_of_ble_eq_true rfl) (Nat.le_of_ble_eq_true rfl) (s_rstart true (by decide) s) ?_
    rintro o n' f1 ⟨rfl, rfl, s1, g1⟩
    refine am_ctI ?_
    obtain ⟨⟨e0x, ⟨e3x, ewx⟩, earx, etyx⟩, e1x, e2x⟩ := id s1
    unfold r_m12 at e0x
    refine am_if_ne 10 36 dX12_guess_10 rfl (fun c10 => ?_) (fun c10 => absurd c10 (by decide))
    refine am_dconst0 36 dX12_guess_36 ?_
    refine am_goto 37 (tgt := 51) dX12_guess_37 rfl ?_
    refine am_dreturn 51 dX12_guess_51 rfl ?_
    exact ⟨Nat.le_refl _, _, _, rfl, ⟨_, rfl⟩, s1, g1.out⟩
/-- who matches: nobody, or one of the peaks -/
theorem s_rwouldNow {k : Nat} (s : r_M m n f κ sz G th h di li cs w b) (hW : r_W f v u sig) (hs : ∀ x, x < 48 → (sig x).toInt.natAbs ≤ 300000) (hv : v < n) (hu : u + 2 < n) (hk : k < 5) : AM mX12_wouldMatchNow (4 + 1) ((0 + (m_pks sig 48).length + (m_pks sig 48).length + 5 + 5) + 8) [.ref m, .int (nI k), .ref v] n f (fun o n' f' => n ≤ n' ∧ (∃ x, o = .inl (some (.int x)) ∧ (x = -1 ∨ ∃ p, p < (m_pks sig 48).length ∧ x = nI p)) ∧ ∀ x, x < n → f' x = f x) := by
  obtain ⟨⟨e0, -⟩, -⟩ := id s
  unfold r_m12 at e0
  have hm5 := s.1.n5
  obtain ⟨pk, v0, v1, -⟩ := id hW
  generalize hQ : (fun (o : Option Value ⊕ Nat) (n' : Nat) (f' : Nat → am_C) => n ≤ n' ∧ (∃ x, o = .inl (some (.int x)) ∧ (x = -1 ∨ ∃ p, p < (m_pks sig 48).length ∧ x = nI p)) ∧ ∀ x, x < n → f' x = f x) = Q
  have hnew := fun g0 g1 => s_vMatch (f := va_up f n (.inr (10, [.null, .null, .null, .null, .int 0, .int 0, .null, .null]))) (t := n) (v := v) (u := u) (sig := sig) am_ue (s.1.far (Nat.le_refl _) (am_up_ne (by omega)) (am_up_ne (by omega)) (am_up_ne (by omega)) (fun x _ hx => Or.inl (am_up_ne (by omega)))) (hW.on fun x hx => am_up_ne (by omega)) g0 g1 hs
  have hum := s_vhum (n := n) v0 v1 hs
  generalize hRS : 0 + (m_pks sig 48).length + (m_pks sig 48).length + 5 + 5 = RS at hnew
  have h15 : AW mX12_wouldMatchNow (4 + 1) (RS + 8) 15 [some (.ref m), some (.int (nI k)), some (.ref v)] [] n f Q := by
    refine am_new 15 (rc := 4) (rs := RS) (N := 8) dX12_wouldMatchNow_15 nX12_184 ?_
    refine am_dup 18 dX12_wouldMatchNow_18 rfl ?_
    refine am_aload_n 19 dX12_wouldMatchNow_19 rfl ?_
    refine am_aload_n 20 dX12_wouldMatchNow_20 rfl ?_
    refine am_I2 21 (mc' := 4) (ms' := RS) (rc := 0) (rs := 0) dX12_wouldMatchNow_21 lX12_186 ⟨by decide, by decide⟩ (Nat.le_of_ble_eq_true rfl) (Nat.le_of_ble_eq_true rfl) (hnew hv hu) ?_
    rintro o n' f1 ⟨rfl, rfl, ⟨mo, le, c0⟩, ⟨gb, c2, hgb⟩, c3⟩
    refine ⟨_, rfl, ?_⟩
    unfold r_ob at c0
    refine am_getfield 24 dX12_wouldMatchNow_24 fX12_189 (by repeat (first | assumption | exact am_ue | refine am_un (by first | assumption | decide | omega) ?_)) rfl ?_
    refine am_iload_n 27 dX12_wouldMatchNow_27 rfl ?_
    refine am_iaload 28 dX12_wouldMatchNow_28 rfl c2 (am_ix hk (by decide)) ?_
    rw [nI_clamp (n := k) (by omega)]
    refine am_ireturn 29 dX12_wouldMatchNow_29 rfl rfl ?_
    subst hQ
    refine ⟨by omega, ⟨_, rfl, ?_⟩, fun x hx => (c3 x hx).trans (am_up_ne (by omega))⟩
    rcases hgb k hk with e | ⟨p, c, hp, e, -⟩
    · exact Or.inl e
    · exact Or.inr ⟨p, hp, e⟩
  refine AW.more (rc := 0 + (4 + 1)) (rs := 0 + (RS + 8)) (by omega) (by omega) ?_
  show AW mX12_wouldMatchNow (0 + (4 + 1)) (0 + (RS + 8)) 0 [some (.ref m), some (.int (nI k)), some (.ref v)] [] n f Q
  refine am_aload_n 0 dX12_wouldMatchNow_0 rfl ?_
  refine am_V0 1 (mc' := 0) (ms' := 0) (rc := 4 + 1) (rs := RS + 8) dX12_wouldMatchNow_1 lX12_96 ⟨by decide, by decide⟩ v0 (Nat.le_of_ble_eq_true rfl) (Nat.le_of_ble_eq_true rfl) (hum) ?_
  refine am_is_ct ?_
  refine am_aload_n 4 dX12_wouldMatchNow_4 rfl ?_
  refine am_getfield 5 dX12_wouldMatchNow_5 fX12_24 e0 rfl ?_
  refine am_icmp_le 8 15 dX12_wouldMatchNow_8 rfl (fun c8 => ?_) (fun c8 => ?_)
  · exact h15
  · refine am_iconst 11 (v := (-1)) dX12_wouldMatchNow_11 (by decide) ?_
    refine am_goto 12 (tgt := 29) dX12_wouldMatchNow_12 rfl ?_
    refine am_ireturn 29 dX12_wouldMatchNow_29 rfl rfl ?_
    subst hQ
    exact ⟨Nat.le_refl _, ⟨_, rfl, Or.inl rfl⟩, fun _ _ => rfl⟩
theorem s_rwouldMatch {x : Int32} (s : r_M m n f κ sz G th h di li cs w b) (hs : ∀ x, x < 48 → (h + w x - b x).toInt.natAbs ≤ 300000) : AM mX12_wouldMatch (7 + (4 + 1)) (292 + ((0 + (m_pks (fun k => h + w k - b k) 48).length + (m_pks (fun k => h + w k - b k) 48).length + 5 + 5) + 8)) [.ref m, .int x] n f (r_sP m n f κ sz G h di li cs w b r_vI) := by
  obtain ⟨⟨e0, -⟩, -⟩ := id s
  unfold r_m12 at e0
  have hm5 := s.1.n5
  generalize hRS : (0 + (m_pks (fun k => h + w k - b k) 48).length + (m_pks (fun k => h + w k - b k) 48).length + 5 + 5) + 8 = RS
  show AW mX12_wouldMatch (7 + (4 + 1)) (292 + RS) 0 [some (.ref m), some (.int x)] [] n f _
  rcases r_name cs x with ⟨k, c, hk, rfl, hc⟩ | hx
  · refine AW.more (rc := 0 + (7 + (4 + 1))) (rs := 0 + (292 + RS)) (by omega) (by omega) ?_
    refine am_aload_n 0 dX12_wouldMatch_0 rfl ?_
    refine am_aload_n 1 dX12_wouldMatch_1 rfl ?_
    refine am_iload_n 2 dX12_wouldMatch_2 rfl ?_
    refine am_V1 3 (mc' := 0) (ms' := 0) (rc := 7 + (4 + 1)) (rs := 292 + RS) dX12_wouldMatch_3 lX12_261 ⟨by decide, by decide⟩ e0 (Nat.le_of_ble_eq_true rfl) (Nat.le_of_ble_eq_true rfl) (s_rnone_f s hk hc) ?_
    refine am_is_ct ?_
    refine am_iconst 6 (v := 1) dX12_wouldMatch_6 (by decide) ?_
    refine AW.more (rc := 0 + (7 + (4 + 1))) (rs := 0 + (292 + RS)) (by omega) (by omega) ?_
    refine am_V2 7 (mc' := 0) (ms' := 0) (rc := 7 + (4 + 1)) (rs := 292 + RS) dX12_wouldMatch_7 lX12_59 ⟨by decide, by decide⟩ e0 (Nat.le_of_ble_eq_true rfl) (Nat.le_of_ble_eq_true rfl) (s_rstart false (by decide) s) ?_
    rintro o n' f1 ⟨rfl, rfl, s1, g1⟩
    refine am_ctI ?_
    obtain ⟨⟨e0x, ⟨e3x, ewx⟩, earx, etyx⟩, e1x, e2x⟩ := id s1
    unfold r_m12 at e0x
    refine am_if_eq 10 17 dX12_wouldMatch_10 rfl (fun c10 => ?_) (fun c10 => absurd (by decide) c10)
    refine am_aload_n 17 dX12_wouldMatch_17 rfl ?_
    refine am_iload_n 18 dX12_wouldMatch_18 rfl ?_
    refine am_aload_n 19 dX12_wouldMatch_19 rfl ?_
    refine am_V0 20 (mc' := 7) (ms' := 292) (rc := 4 + 1) (rs := RS) dX12_wouldMatch_20 lX12_92 ⟨by decide, by decide⟩ e0x (Nat.le_of_ble_eq_true rfl) (Nat.le_of_ble_eq_true rfl) (s_rview s1) ?_
    rintro o n' f3 ⟨rfl, rfl, hW, e4⟩
    refine am_ctI ?_
    obtain ⟨s3, g3⟩ := s1.more (n' := n + 7) (by omega) e4
    obtain ⟨⟨e0z, ⟨e3z, ewz⟩, earz, etyz⟩, e1z, e2z⟩ := id s3
    unfold r_m12 at e0z
    have hwn := s_rwouldNow s3 hW hs (by omega) (by omega) hk
    rw [hRS] at hwn
    refine am_V2 23 (mc' := 4 + 1) (ms' := RS) (rc := 0) (rs := 0) dX12_wouldMatch_23 lX12_301 ⟨by decide, by decide⟩ e0z (Nat.le_of_ble_eq_true rfl) (Nat.le_of_ble_eq_true rfl) (hwn) ?_
    rintro o n' f4 ⟨hn4, ⟨x, rfl, -⟩, e5⟩
    refine am_ctI ?_
    obtain ⟨s5, g5⟩ := s3.more hn4 e5
    refine am_ireturn 26 dX12_wouldMatch_26 rfl rfl ?_
    exact ⟨by omega, _, _, rfl, ⟨_, rfl⟩, s5, ((g1.trans g3 (Nat.le_refl _)).trans g5 (by omega)).out⟩
  · refine AW.more (rc := 0) (rs := 0) (by omega) (by omega) ?_
    refine am_aload_n 0 dX12_wouldMatch_0 rfl ?_
    refine am_aload_n 1 dX12_wouldMatch_1 rfl ?_
    refine am_iload_n 2 dX12_wouldMatch_2 rfl ?_
    refine am_V1 3 (mc' := 0) (ms' := 0) (rc := 0) (rs := 0) dX12_wouldMatch_3 lX12_261 ⟨by decide, by decide⟩ e0 (Nat.le_of_ble_eq_true rfl) (Nat.le_of_ble_eq_true rfl) (s_rnone_t s hx) ?_
    refine am_is_ct ?_
    refine am_iconst 6 (v := 1) dX12_wouldMatch_6 (by decide) ?_
    refine am_V2 7 (mc' := 0) (ms' := 0) (rc := 0) (rs := 0) dX12_wouldMatch_7 lX12_59 ⟨by decide, by decide⟩ e0 (Nat.le_of_ble_eq_true rfl) (Nat.le_of_ble_eq_true rfl) (s_rstart true (by decide) s) ?_
    rintro o n' f1 ⟨rfl, rfl, s1, g1⟩
    refine am_ctI ?_
    obtain ⟨⟨e0x, ⟨e3x, ewx⟩, earx, etyx⟩, e1x, e2x⟩ := id s1
    unfold r_m12 at e0x
    refine am_if_eq 10 17 dX12_wouldMatch_10 rfl (fun c10 => absurd c10 (by decide)) (fun c10 => ?_)
    refine am_iconst 13 (v := 0) dX12_wouldMatch_13 (by decide) ?_
    refine am_goto 14 (tgt := 26) dX12_wouldMatch_14 rfl ?_
    refine am_ireturn 26 dX12_wouldMatch_26 rfl rfl ?_
    exact ⟨Nat.le_refl _, _, _, rfl, ⟨_, rfl⟩, s1, g1.out⟩
end RAsks3
