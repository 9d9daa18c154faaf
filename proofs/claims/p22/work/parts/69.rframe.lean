/-! ===== the reference in any state: frame, wipe ===== -/
section RFrame
variable {G : Nat → m_K}
variable {m n sz : Nat} {f : Nat → am_C} {κ : Nat → Nat} {th h di li : Int32} {cs : Nat → Option Nat} {w b : Nat → Int32}
/-- the model, whole: also what waits, and the bases -/
def r_M (m n : Nat) (f : Nat → am_C) (κ : Nat → Nat) (sz : Nat) (G : Nat → m_K) (th h di li : Int32) (cs : Nat → Option Nat) (w b : Nat → Int32) : Prop := r_S m n f κ sz G th h di li cs ∧ f (m + 1) = .inl (0, 48, .inl b) ∧ f (m + 2) = .inl (0, 48, .inl w)
/-- what a call of the model leaves as it was -/
def r_out9 (m n : Nat) (κ κ' : Nat → Nat) (f f' : Nat → am_C) : Prop := (∀ x, x < n → κ' x = κ x) ∧ ∀ x, x < n → κ x = 0 → (x < m ∨ m + 4 < x ∧ ∃ t a, f x = .inl (t, a) ∧ t ≠ 8) → f' x = f x
theorem r_go.out {κ' : Nat → Nat} {f' : Nat → am_C} (g : r_go m n κ κ' f f') : r_out9 m n κ κ' f f' := ⟨g.1, fun x hx hk hm => g.2 x hx hk (by omega) (by omega)⟩
theorem r_out9.refl : r_out9 m n κ κ f f := ⟨fun _ _ => rfl, fun _ _ _ _ => rfl⟩
theorem r_out9.trans {n1 : Nat} {κ1 κ2 : Nat → Nat} {f1 f2 : Nat → am_C} (a : r_out9 m n κ κ1 f f1) (b : r_out9 m n1 κ1 κ2 f1 f2) (hn : n ≤ n1) : r_out9 m n κ κ2 f f2 :=
  ⟨fun x hx => (b.1 x (by omega)).trans (a.1 x hx), fun x hx k0 hm => by
    have e := a.2 x hx k0 hm
    refine (b.2 x (by omega) ((a.1 x hx).trans k0) ?_).trans e
    rcases hm with q | ⟨q, t, c, q1, q2⟩
    · exact Or.inl q
    · exact Or.inr ⟨q, t, c, e.trans q1, q2⟩⟩
/-- the sheets changed -/
theorem r_S.arr {w' b' : Nat → Int32} {f' : Nat → am_C} (s : r_S m n f κ sz G th h di li cs) (e : ∀ x, x ≠ m + 1 → x ≠ m + 2 → f' x = f x) : r_S m n f' κ sz G th h di li cs := by
  refine s.far (Nat.le_refl _) (e _ (by omega) (by omega)) (e _ (by omega) (by omega)) (e _ (by omega) (by omega)) fun x hx _ => Or.inl (e x (by omega) (by omega))
theorem r_M.arr {w' b' : Nat → Int32} {f' : Nat → am_C} (s : r_M m n f κ sz G th h di li cs w b) (e : ∀ x, x ≠ m + 1 → x ≠ m + 2 → f' x = f x) (h1 : f' (m + 1) = .inl (0, 48, .inl b')) (h2 : f' (m + 2) = .inl (0, 48, .inl w')) : r_M m n f' κ sz G th h di li cs w' b' ∧ r_out9 m n κ κ f f' :=
  ⟨⟨r_S.arr (w' := w) (b' := b) s.1 e, h1, h2⟩, ⟨fun _ _ => rfl, fun x hx hk hm => e x (by omega) (by omega)⟩⟩
theorem r_M.go {G2 : Nat → m_K} {n' : Nat} {κ' : Nat → Nat} {f' : Nat → am_C} {th' h' di' li' : Int32} {cs' : Nat → Option Nat} (s : r_M m n f κ sz G th h di li cs w b) (t : r_S m n' f' κ' sz G2 th' h' di' li' cs') (g : r_go m n κ κ' f f') : r_M m n' f' κ' sz G2 th' h' di' li' cs' w b := by
  have := s.1.n5
  exact ⟨t, (g.2 _ (by omega) (s.1.k0 (by omega)) (by omega) (by omega)).trans s.2.1, (g.2 _ (by omega) (s.1.k0 (by omega)) (by omega) (by omega)).trans s.2.2⟩
theorem r_M.cnt {G2 : Nat → m_K} {th' h' di' li' : Int32} (s : r_M m n f κ sz G th h di li cs w b) (hG : ∀ x, x ≠ 4 → G2 x = G x) : r_M m n (va_up f m (r_m12 m th' h' di' li' (r_n G2 0) (r_n G2 1) (r_n G2 2) (r_n G2 3) (r_n G2 4))) κ sz G2 th' h' di' li' cs w b ∧ r_go m n κ κ f (va_up f m (r_m12 m th' h' di' li' (r_n G2 0) (r_n G2 1) (r_n G2 2) (r_n G2 3) (r_n G2 4))) := by
  obtain ⟨a, g⟩ := s.1.cnt (G2 := G2) (th' := th') (h' := h') (di' := di') (li' := li') hG
  exact ⟨s.go a g, g⟩
theorem r_M.scal {th' h' di' li' : Int32} (s : r_M m n f κ sz G th h di li cs w b) : r_M m n (va_up f m (r_m12 m th' h' di' li' (r_n G 0) (r_n G 1) (r_n G 2) (r_n G 3) (r_n G 4))) κ sz G th' h' di' li' cs w b ∧ r_go m n κ κ f (va_up f m (r_m12 m th' h' di' li' (r_n G 0) (r_n G 1) (r_n G 2) (r_n G 3) (r_n G 4))) := by
  obtain ⟨a, g⟩ := s.1.scal (th' := th') (h' := h') (di' := di') (li' := li')
  exact ⟨s.go a g, g⟩
theorem r_M.more {n' : Nat} {f' : Nat → am_C} (s : r_M m n f κ sz G th h di li cs w b) (hn : n ≤ n') (e : ∀ x, x < n → f' x = f x) : r_M m n' f' κ sz G th h di li cs w b ∧ r_go m n κ κ f f' := by
  have := s.1.n5
  exact ⟨⟨s.1.far hn (e _ (by omega)) (e _ (by omega)) (e _ (by omega)) fun x _ hx => Or.inl (e x hx), (e _ (by omega)).trans s.2.1, (e _ (by omega)).trans s.2.2⟩, fun _ _ => rfl, fun x hx _ _ _ => e x hx⟩
theorem s_rview (s : r_M m n f κ sz G th h di li cs w b) : AM mX12_view 7 292 [.ref m] n f (fun o n' f' => o = .inl (some (.ref n)) ∧ n' = n + 7 ∧ r_W f' n (n + 2) (fun k => h + w k - b k) ∧ ∀ x, x < n → f' x = f x) := by
  have := s.1.n5
  obtain ⟨⟨h0, -⟩, h1, h2⟩ := s
  unfold r_m12 at h0
  exact s_view h0 h1 h2 (by omega)
theorem s_rclean (s : r_M m n f κ sz G th h di li cs w b) : AM mX12_clean 0 0 [.ref m] n f (am_is none n (va_up f (m + 2) (.inl (0, 48, .inl (fun _ => 0))))) := by
  obtain ⟨⟨h0, -⟩, h1, h2⟩ := s
  unfold r_m12 at h0
  show AW mX12_clean 0 0 0 [some (.ref m), none] [] n f _
  refine am_iconst 0 (v := 0) dX12_clean_0 (by decide) ?_
  refine am_istore_n 1 dX12_clean_1 (by decide) ?_
  rw [show f = va_up f (m + 2) (.inl (0, 48, .inl w)) from (am_self h2).symm]
  refine am_for 48 (fun k (g : Nat → Int32) => ∀ x, x < k → g x = 0) (fun k g => AW mX12_clean 0 0 2 [some (.ref m), some (.int (nI k))] [] n (va_up f (m + 2) (.inl (0, 48, .inl g))) _) ?_ ?_ 0 w (by omega) (fun x hx => by omega)
  · intro g hg
    refine AW.ints (fun _ => 0) am_ue hg ?_
    rw [am_uu]
    refine am_iload_n 2 dX12_clean_2 rfl ?_
    refine am_bipush 3 (v := 48) dX12_clean_3 (by decide) ?_
    refine am_icmp_ge 5 21 dX12_clean_5 rfl (fun c5 => ?_) (fun c5 => absurd (by decide) c5)
    refine am_return 21 dX12_clean_21 rfl ?_
    exact ⟨rfl, rfl, by rw [am_uu]⟩
  · intro k g hk hg ih
    refine am_iload_n 2 dX12_clean_2 rfl ?_
    refine am_bipush 3 (v := 48) dX12_clean_3 (by decide) ?_
    refine am_icmp_ge 5 21 dX12_clean_5 rfl (fun c5 => absurd c5 (nI_ge hk (by decide))) (fun c5 => ?_)
    refine am_aload_n 8 dX12_clean_8 rfl ?_
    refine am_getfield 9 dX12_clean_9 fX12_17 (by first | exact am_ue | exact am_un (by omega) h0) rfl ?_
    refine am_iload_n 12 dX12_clean_12 rfl ?_
    refine am_iconst 13 (v := 0) dX12_clean_13 (by decide) ?_
    refine am_iastore 14 dX12_clean_14 rfl (by first | exact am_ue | exact am_un (by omega) h0) (am_ix hk (by decide)) ?_
    rw [nI_clamp (n := k) (by omega), am_uu]
    refine am_iinc 15 (v := nI (k + 1)) dX12_clean_15 rfl (nI_1 (k)) (by decide) ?_
    refine am_goto 18 (tgt := 2) dX12_clean_18 rfl ?_
    refine ih _ (fun x hx => ?_)
    by_cases e : x = k
    · subst e; exact am_up_eq
    · rw [am_up_ne e]; exact hg x (by omega)
set_option maxHeartbeats 2000000 in
theorem s_rframe {d : Nat} (s : r_M m n f κ sz G th h di li cs w b) (hs : ∀ x, x < 48 → (h + w x - b x).toInt.natAbs ≤ 300000) (hd1 : 1 ≤ d) (hd4 : d ≤ 4) (hdi : di = nI d) {T : Nat} {S : y_H} {A : Nat → Nat → Int32} (hR : y_R (fun _ => False) sz A S cs G) (hI : y_I sz T S) : AM mX12_frame (7 + (4 + (10 + 1) + 1)) (292 + ((0 + (m_pks (fun k => h + w k - b k) 48).length + (m_pks (fun k => h + w k - b k) 48).length + 5 + 5) + (100 + 48) + 8)) [.ref m] n f (fun o n' f' => (∃ v, o = .inl (some (.int v))) ∧ n ≤ n' ∧ ∃ κ' cs' G', r_M m n' f' κ' sz G' 0 h di li cs' (fun _ => 0) (m_settle (fun k => h + w k - b k) (m_reg (fun k => h + w k - b k)) b) ∧ r_out9 m n κ κ' f f' ∧ y_R (fun _ => False) sz A (y_frM (fun k => h + w k - b k) li d A sz S) cs' G') := by
  have hm5 := s.1.n5
  have hsz := s.1.2.2.1.1
  have s0 := s
  obtain ⟨⟨h0, c3, -⟩, h1, h2⟩ := s
  generalize hsg : (fun k => h + w k - b k) = sig at *
  have hs' : ∀ x, x < 48 → (sig x).toInt.natAbs ≤ 300000 := fun x hx => by rw [← hsg]; exact hs x hx
  generalize hRC : 4 + (10 + 1) + 1 = RC
  generalize hRS : (0 + (m_pks sig 48).length + (m_pks sig 48).length + 5 + 5) + (100 + 48) + 8 = RS
  obtain ⟨S5, hS5⟩ : ∃ S5, y_frM sig li d A sz S = S5 := ⟨_, rfl⟩
  rw [hS5]
  generalize hQ : (fun (o : Option Value ⊕ Nat) (n' : Nat) (f' : Nat → am_C) => (∃ v, o = .inl (some (.int v))) ∧ n ≤ n' ∧ ∃ κ' cs' G', r_M m n' f' κ' sz G' 0 h di li cs' (fun _ => 0) (m_settle sig (m_reg sig) b) ∧ r_out9 m n κ κ' f f' ∧ y_R (fun _ => False) sz A S5 cs' G') = Q
  -- what comes behind
  have tail : ∀ (N : Nat) (g : Nat → am_C) (κ1 : Nat → Nat) (cs1 : Nat → Option Nat) (x2 : Int32) (G2 : Nat → m_K), y_R (fun _ => False) sz A S5 cs1 G2 → n + 7 ≤ N → r_M m N g κ1 sz G2 0 h di li cs1 w b → r_out9 m n κ κ1 f g → r_W g n (n + 2) sig → AW mX12_frame 0 0 49 [some (.ref m), some (.ref n), some (.int x2), none] [] N g Q := by
    intro N g κ1 cs1 x2 G2 hr hN a g1 hW
    have a0 := a
    obtain ⟨⟨e0, -⟩, e1, e2⟩ := a
    unfold r_m12 at e0
    refine am_iconst 49 (v := 0) dX12_frame_49 (by decide) ?_
    refine am_istore_n 50 dX12_frame_50 (by decide) ?_
    rw [show g = va_up g (m + 1) (.inl (0, 48, .inl b)) from (am_self e1).symm]
    refine am_for 48 (fun k (y : Nat → Int32) => (∀ x, x < k → y x = m_settle sig (m_reg sig) b x) ∧ ∀ x, k ≤ x → y x = b x) (fun k y => AW mX12_frame 0 0 51 [some (.ref m), some (.ref n), some (.int x2), some (.int (nI k))] [] N (va_up g (m + 1) (.inl (0, 48, .inl y))) Q) ?_ ?_ 0 b (by omega) ⟨fun x hx => by omega, fun _ _ => rfl⟩
    · rintro y ⟨hy, -⟩
      refine AW.ints (m_settle sig (m_reg sig) b) am_ue hy ?_
      rw [am_uu]
      obtain ⟨a1, g2⟩ := a0.arr (f' := va_up g (m + 1) (.inl (0, 48, .inl (m_settle sig (m_reg sig) b)))) (b' := m_settle sig (m_reg sig) b) (fun x h1 h2 => am_up_ne h1) am_ue (am_un (by omega) e2)
      obtain ⟨a2, g3⟩ := a1.arr (f' := va_up (va_up g (m + 1) (.inl (0, 48, .inl (m_settle sig (m_reg sig) b)))) (m + 2) (.inl (0, 48, .inl (fun _ => 0)))) (w' := fun _ => 0) (b' := m_settle sig (m_reg sig) b) (fun x h1 h2 => am_up_ne h2) (am_un (by omega) am_ue) am_ue
      have hout := (g1.trans g2 (by omega)).trans g3 (by omega)
      generalize hz : va_up (va_up g (m + 1) (.inl (0, 48, .inl (m_settle sig (m_reg sig) b)))) (m + 2) (.inl (0, 48, .inl (fun _ => 0))) = gz at a2 hout g3
      have cl := s_rclean a1
      rw [hz] at cl
      obtain ⟨⟨y0, -⟩, -⟩ := id a2
      unfold r_m12 at y0
      refine am_iload_n 51 dX12_frame_51 rfl ?_
      refine am_bipush 52 (v := 48) dX12_frame_52 (by decide) ?_
      refine am_icmp_ge 54 77 dX12_frame_54 rfl (fun c54 => ?_) (fun c54 => absurd (by decide) c54)
      refine am_aload_n 77 dX12_frame_77 rfl ?_
      refine am_V0 78 (mc' := 0) (ms' := 0) (rc := 0) (rs := 0) dX12_frame_78 lX12_233 ⟨by decide, by decide⟩ (am_un (by omega) e0) (Nat.le_of_ble_eq_true rfl) (Nat.le_of_ble_eq_true rfl) (cl) ?_
      refine am_is_ct ?_
      refine am_iload_n 81 dX12_frame_81 rfl ?_
      refine am_if_eq 82 90 dX12_frame_82 rfl (fun c82 => ?_) (fun c82 => ?_)
      · refine am_aload_n 90 dX12_frame_90 rfl ?_
        refine am_V0 91 (mc' := 0) (ms' := 0) (rc := 0) (rs := 0) dX12_frame_91 lX12_236 ⟨by decide, by decide⟩ y0 (Nat.le_of_ble_eq_true rfl) (Nat.le_of_ble_eq_true rfl) (s_rcontactsNow a2.1) ?_
        refine am_is_ct ?_
        refine am_ireturn 94 dX12_frame_94 rfl rfl ?_
        subst hQ
        exact ⟨⟨_, rfl⟩, by omega, κ1, cs1, G2, a2, hout, hr⟩
      · refine am_bipush 85 (v := (-2)) dX12_frame_85 (by decide) ?_
        refine am_goto 87 (tgt := 94) dX12_frame_87 rfl ?_
        refine am_ireturn 94 dX12_frame_94 rfl rfl ?_
        subst hQ
        exact ⟨⟨_, rfl⟩, by omega, κ1, cs1, G2, a2, hout, hr⟩
    · rintro k y hk ⟨hy1, hy2⟩ ih
      have hW2 : r_W (va_up g (m + 1) (.inl (0, 48, .inl y))) n (n + 2) sig := hW.on fun x hx => am_up_ne (by omega)
      obtain ⟨pk, w0, -⟩ := id hW2
      have hdr := s_drift (n := N) hW2 hk
      have hn : y k + r_dr sig k = m_settle sig (m_reg sig) b k := by rw [hy2 k (Nat.le_refl _)]; exact r_dr_settle sig b k
      refine am_iload_n 51 dX12_frame_51 rfl ?_
      refine am_bipush 52 (v := 48) dX12_frame_52 (by decide) ?_
      refine am_icmp_ge 54 77 dX12_frame_54 rfl (fun c54 => absurd c54 (nI_ge hk (by decide))) (fun c54 => ?_)
      refine am_aload_n 57 dX12_frame_57 rfl ?_
      refine am_getfield 58 dX12_frame_58 fX12_13 (am_un (by omega) e0) rfl ?_
      refine am_iload_n 61 dX12_frame_61 rfl ?_
      refine am_dup2 62 dX12_frame_62 rfl rfl ?_
      refine am_iaload 63 dX12_frame_63 rfl am_ue (am_ix hk (by decide)) ?_
      rw [nI_clamp (n := k) (by omega)]
      refine am_aload_n 64 dX12_frame_64 rfl ?_
      refine am_iload_n 65 dX12_frame_65 rfl ?_
      refine am_V1 66 (mc' := 0) (ms' := 0) (rc := 0) (rs := 0) dX12_frame_66 lX12_230 ⟨by decide, by decide⟩ w0 (Nat.le_of_ble_eq_true rfl) (Nat.le_of_ble_eq_true rfl) (hdr) ?_
      refine am_is_ct ?_
      refine am_iadd 69 dX12_frame_69 ?_
      rw [hn]
      refine am_iastore 70 dX12_frame_70 rfl am_ue (am_ix hk (by decide)) ?_
      rw [nI_clamp (n := k) (by omega), am_uu]
      refine am_iinc 71 (v := nI (k + 1)) dX12_frame_71 rfl (nI_1 (k)) (by decide) ?_
      refine am_goto 74 (tgt := 51) dX12_frame_74 rfl ?_
      refine ih _ ⟨fun x hx => ?_, fun x hx => ?_⟩
      · by_cases e : x = k
        · subst e; rw [am_up_eq]
        · rw [am_up_ne e]; exact hy1 x (by omega)
      · rw [am_up_ne (by omega)]; exact hy2 x (by omega)
  -- the frame itself
  obtain ⟨s1, g1⟩ := s0.scal (th' := 0) (h' := h) (di' := di) (li' := li)
  have hvw := s_rview s1
  rw [hsg] at hvw
  unfold r_m12 at h0
  show AW mX12_frame (7 + RC) (292 + RS) 0 [some (.ref m), none, none, none] [] n f Q
  refine am_aload_n 0 dX12_frame_0 rfl ?_
  refine am_iconst 1 (v := 0) dX12_frame_1 (by decide) ?_
  refine am_putfield 2 dX12_frame_2 pX12_40 (by repeat (first | assumption | exact am_ue | refine am_un (by first | assumption | decide | omega) ?_)) rfl rfl (Nat.le_of_ble_eq_true rfl) ?_
  rw [show List.set _ 0 (Value.int 0) = [.int 0, .ref (m + 1), .ref (m + 2), .int h, .int di, .int li, .ref (m + 3), .ref (m + 4), .int (r_n G 0), .int (r_n G 1), .int (r_n G 2), .int (r_n G 3), .int (r_n G 4)] from rfl]
  generalize hf1 : va_up f m _ = f1
  have hf1' : va_up f m (r_m12 m 0 h di li (r_n G 0) (r_n G 1) (r_n G 2) (r_n G 3) (r_n G 4)) = f1 := hf1
  rw [hf1'] at s1 g1 hvw
  have m0 : f1 m = r_m12 m 0 h di li (r_n G 0) (r_n G 1) (r_n G 2) (r_n G 3) (r_n G 4) := by rw [← hf1]; exact am_ue
  unfold r_m12 at m0
  refine am_aload_n 5 dX12_frame_5 rfl ?_
  refine am_V0 6 (mc' := 7) (ms' := 292) (rc := RC) (rs := RS) dX12_frame_6 lX12_92 ⟨by decide, by decide⟩ m0 (Nat.le_of_ble_eq_true rfl) (Nat.le_of_ble_eq_true rfl) (hvw) ?_
  rintro o n' f2 ⟨rfl, rfl, hW, e2⟩
  refine am_ctI ?_
  obtain ⟨s2, g2⟩ := s1.more (n' := n + 7) (by omega) e2
  have m02 := (e2 m (by omega)).trans m0
  obtain ⟨pk, w0, w1, -⟩ := id hW
  have hum := s_vhum (n := n + 7) w0 w1 hs'
  have go2 := g1.trans g2 (Nat.le_refl _)
  have hvv : r_vw m (n + 7) n (n + 2) κ := ⟨by omega, fun x hx => ⟨Classical.byContradiction fun q => by have := ((s0.1.2.2.2 x).1 q).2; omega, by omega, by omega, by omega⟩⟩
  have trk := s_ytrack s2.1 hvv hW hs' hd1 hd4 hdi hR hI
  rw [hRC, hRS] at trk
  obtain ⟨s3, g3⟩ := s2.cnt (G2 := y_nG G 1) (th' := 0) (h' := h) (di' := di) (li' := li) (fun x hx => y_nG_x hx)
  rw [r_n_up, r_n_ne (by decide), r_n_ne (by decide), r_n_ne (by decide), r_n_ne (by decide)] at s3 g3
  have hW3 : r_W (va_up f2 m (r_m12 m 0 h di li (r_n G 0) (r_n G 1 + 1) (r_n G 2) (r_n G 3) (r_n G 4))) n (n + 2) sig := hW.on fun x hx => am_up_ne (by omega)
  have end1 : ¬ m_hum sig ≤ li → ∀ x2 : Int32, AW mX12_frame RC RS 31 [some (.ref m), some (.ref n), some (.int x2), none] [] (n + 7) f2 Q := by
    intro hhum x2
    refine AW.more (rc := 0) (rs := 0) (by omega) (by omega) ?_
    refine am_aload_n 31 dX12_frame_31 rfl ?_
    refine am_dup 32 dX12_frame_32 rfl ?_
    refine am_getfield 33 dX12_frame_33 fX12_223 m02 rfl ?_
    refine am_iconst 36 (v := 1) dX12_frame_36 (by decide) ?_
    refine am_iadd 37 dX12_frame_37 ?_
    refine am_putfield 38 dX12_frame_38 pX12_223 m02 rfl rfl (Nat.le_of_ble_eq_true rfl) ?_
    refine am_goto 41 (tgt := 49) dX12_frame_41 rfl ?_
    exact tail _ _ _ _ _ (y_nG G 1) (by rw [← hS5, y_frM_no hhum]; exact hR.tossed hsz) (Nat.le_refl _) s3 (go2.trans g3 (by omega)).out hW3
  have end2 : m_hum sig ≤ li → ∀ x2 : Int32, AW mX12_frame RC RS 44 [some (.ref m), some (.ref n), some (.int x2), none] [] (n + 7) f2 Q := by
    intro hhum x2
    refine am_aload_n 44 dX12_frame_44 rfl ?_
    refine am_aload_n 45 dX12_frame_45 rfl ?_
    refine am_V1 46 (mc' := RC) (ms' := RS) (rc := 0) (rs := 0) dX12_frame_46 lX12_226 ⟨by decide, by decide⟩ m02 (Nat.le_of_ble_eq_true rfl) (Nat.le_of_ble_eq_true rfl) (trk) ?_
    rintro o n' f3 ⟨rfl, hn3, κ3, cs3, G3, s4, g4, hr4⟩
    refine am_ctI ?_
    have kz : ∀ x, n ≤ x → κ x = 0 := fun x hx => Classical.byContradiction fun q => by have := ((s0.1.2.2.2 x).1 q).2; omega
    exact tail _ _ _ _ _ (y_nG G3 0) (by rw [← hS5, y_frM_yes hhum]; exact (hr4.taken hsz).flag fun _ _ _ _ w => w.elim) hn3 (s2.go s4 g4) (go2.trans g4 (by omega)).out (hW.on fun x hx => g4.2 x (by omega) (kz x (by omega)) (by omega) (by omega))
  refine AW.more (rc := 0 + RC) (rs := 0 + RS) (by omega) (by omega) ?_
  show AW mX12_frame (0 + RC) (0 + RS) 9 [some (.ref m), none, none, none] [.ref n] (n + 7) f2 Q
  refine am_astore_n 9 dX12_frame_9 (by decide) ?_
  refine am_aload_n 10 dX12_frame_10 rfl ?_
  refine am_V0 11 (mc' := 0) (ms' := 0) (rc := RC) (rs := RS) dX12_frame_11 lX12_96 ⟨by decide, by decide⟩ w0 (Nat.le_of_ble_eq_true rfl) (Nat.le_of_ble_eq_true rfl) (hum) ?_
  refine am_is_ct ?_
  refine am_aload_n 14 dX12_frame_14 rfl ?_
  refine am_getfield 15 dX12_frame_15 fX12_24 m02 rfl ?_
  refine am_icmp_le 18 25 dX12_frame_18 rfl (fun c18 => ?_) (fun c18 => ?_)
  · refine am_iconst 25 (v := 0) dX12_frame_25 (by decide) ?_
    refine am_istore_n 26 dX12_frame_26 (by decide) ?_
    refine am_iload_n 27 dX12_frame_27 rfl ?_
    refine am_if_eq 28 44 dX12_frame_28 rfl (fun c28 => ?_) (fun c28 => ?_)
    · first | exact end2 c18 _ | exact absurd rfl c28 | exact absurd c28 (by decide)
    · first | exact end1 c18 _ | exact absurd rfl c28 | exact absurd c28 (by decide)
  · refine am_iconst 21 (v := 1) dX12_frame_21 (by decide) ?_
    refine am_goto 22 (tgt := 26) dX12_frame_22 rfl ?_
    refine am_istore_n 26 dX12_frame_26 (by decide) ?_
    refine am_iload_n 27 dX12_frame_27 rfl ?_
    refine am_if_eq 28 44 dX12_frame_28 rfl (fun c28 => ?_) (fun c28 => ?_)
    · first | exact end2 c18 _ | exact absurd rfl c28 | exact absurd c28 (by decide)
    · first | exact end1 c18 _ | exact absurd rfl c28 | exact absurd c28 (by decide)
end RFrame
