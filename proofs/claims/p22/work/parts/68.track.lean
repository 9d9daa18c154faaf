/-! ===== the reference: a frame followed, to the letter ===== -/
section RTrack2
variable {G : Nat → m_K}
variable {m n v u sz : Nat} {f : Nat → am_C} {κ : Nat → Nat} {th h di li : Int32} {cs : Nat → Option Nat} {sig : Nat → Int32} {T : Nat} {S : y_H} {A : Nat → Nat → Int32}
/-- while a frame is followed: the state, the view, the best way to match, the peaks that are taken -/
def r_tk (m n v u N : Nat) (f g : Nat → am_C) (κ κ' : Nat → Nat) (sz : Nat) (G : Nat → m_K) (th h di li : Int32) (cs' : Nat → Option Nat) (gb : Nat → Int32) (sig mt : Nat → Int32) : Prop :=
  n + 6 ≤ N ∧ r_S m N g κ' sz G th h di li cs' ∧ r_go m n κ κ' f g ∧ r_W g v u sig ∧ g (n + 2) = .inl (0, 5, .inl gb) ∧ g (n + 5) = .inl (3, 48, .inl mt) ∧ κ' (n + 2) = 0 ∧ κ' (n + 5) = 0
/-- what of the view is known: no kind, not the model's -/
def r_vw (m n v u : Nat) (κ : Nat → Nat) : Prop := m + 5 ≤ n ∧ ∀ x, x = v ∨ (u ≤ x ∧ x ≤ u + 2) → κ x = 0 ∧ x < n ∧ x ≠ m ∧ x ≠ m + 3
theorem r_tk.step {N N2 : Nat} {g g2 : Nat → am_C} {κ1 κ2 : Nat → Nat} {cs1 cs2 : Nat → Option Nat} {gb mt : Nat → Int32} {G2 : Nat → m_K} (hv : r_vw m n v u κ) (a : r_tk m n v u N f g κ κ1 sz G th h di li cs1 gb sig mt) (hN : N ≤ N2) (s : r_S m N2 g2 κ2 sz G2 th h di li cs2) (b : r_go m N κ1 κ2 g g2) : r_tk m n v u N2 f g2 κ κ2 sz G2 th h di li cs2 gb sig mt := by
  obtain ⟨a1, a2, a3, a4, a5, a6, a7, a8⟩ := a
  refine ⟨by omega, s, a3.trans b (by omega), a4.on fun x hx => ?_, (b.2 _ (by omega) a7 (by have := hv.1; omega) (by have := hv.1; omega)).trans a5, (b.2 _ (by omega) a8 (by have := hv.1; omega) (by have := hv.1; omega)).trans a6, (b.1 _ (by omega)).trans a7, (b.1 _ (by omega)).trans a8⟩
  obtain ⟨h1, h2, h3, h4⟩ := hv.2 x hx
  exact b.2 x (by omega) ((a3.1 x h2).trans h1) h3 h4
/-- the peaks that are taken, as far as the names have been gone over -/
def x_mt (gb mt : Nat → Int32) (k : Nat) : Prop := ∀ p, p < 48 → (mt p = 0 ∨ mt p = 1) ∧ (mt p = 0 ↔ ∀ i, i < k → gb i ≠ nI p)
theorem x_mt.no {gb mt : Nat → Int32} {k : Nat} (h : x_mt gb mt k) (e : gb k = -1) : x_mt gb mt (k + 1) := fun p hp => ⟨(h p hp).1, (h p hp).2.trans ⟨fun z i hi => by
  by_cases q : i = k
  · rw [q, e]
    exact fun w => r_nm1 (by omega : p < 2 ^ 31) w.symm
  · exact z i (by omega), fun z i hi => z i (by omega)⟩⟩
theorem x_mt.up {gb mt : Nat → Int32} {k q : Nat} (h : x_mt gb mt k) (hq : q < 48) (e : gb k = nI q) : x_mt gb (va_up mt q 1) (k + 1) := fun p hp => by
  by_cases w : p = q
  · subst w
    rw [am_up_eq]
    exact ⟨Or.inr rfl, ⟨fun z => absurd z (by decide), fun z => absurd e (z k (by omega))⟩⟩
  · rw [am_up_ne w]
    refine ⟨(h p hp).1, (h p hp).2.trans ⟨fun z i hi => ?_, fun z i hi => z i (by omega)⟩⟩
    by_cases v : i = k
    · rw [v, e]
      exact fun y => w ((nI_eq (by omega) (by omega)).mp y).symm
    · exact z i (by omega)
/-- a frame taken, a frame tossed, on both sides -/
theorem y_R.tick {M : Nat → Prop} {told i : Nat} {S2 : y_H} (h : y_R M told A S cs G) (ht : told ≤ 4) (hi : i < 2) (h1 : y_K S2 = y_K S) (h2 : y_C S2 = y_C S) (h3 : y_be S2 = y_be S ∧ y_li S2 = y_li S ∧ y_ca S2 = y_ca S) (h4 : r_n (y_nG G i) 0 = (y_t S2).1 ∧ r_n (y_nG G i) 1 = (y_t S2).2) : y_R M told A S2 cs (y_nG G i) := by
  obtain ⟨a1, a2, a3, a4, a5, a6⟩ := h
  unfold y_R
  rw [h1, h2]
  refine ⟨fun j hj => ⟨(a1 j hj).1, fun c hc => ?_⟩, a2, fun a b c ha hb hab h1 h2 => ?_, a4.ext ht fun k hk => y_nG_x (by omega), ⟨by rw [h3.1]; exact (r_n_ne (by omega)).trans a5.1, by rw [h3.2.1]; exact (r_n_ne (by omega)).trans a5.2.1, by rw [h3.2.2]; exact (r_n_ne (by omega)).trans a5.2.2.1, h4⟩, a6⟩
  · rw [y_nG_x (by have := a2.1 j c hj hc; omega)]
    exact (a1 j hj).2 c hc
  · rw [y_nG_x (by have := a2.1 a c ha h1; omega)]
    exact a3 a b c ha hb hab h1 h2
theorem y_R.tossed {M : Nat → Prop} {told : Nat} (h : y_R M told A S cs G) (ht : told ≤ 4) : y_R M told A (y_ts S) cs (y_nG G 1) := h.tick ht (by decide) rfl rfl ⟨rfl, rfl, rfl⟩ ⟨(r_n_ne (by decide)).trans h.2.2.2.2.1.2.2.2.1, by rw [r_n_up, h.2.2.2.2.1.2.2.2.2]; rfl⟩
theorem y_R.taken {M : Nat → Prop} {told : Nat} (h : y_R M told A S cs G) (ht : told ≤ 4) : y_R M told A (y_tk S) cs (y_nG G 0) := h.tick ht (by decide) rfl rfl ⟨rfl, rfl, rfl⟩ ⟨by rw [r_n_up, h.2.2.2.2.1.2.2.2.1]; rfl, (r_n_ne (by decide)).trans h.2.2.2.2.1.2.2.2.2⟩
theorem y_fol_no {j : Nat} {bst : Int64} {d : Nat} (h : m_pk bst j = -1) : y_fol sig bst d S j = S := if_neg fun z => z.2 h
theorem y_mis_no {j : Nat} {bst : Int64} (h : (y_K S j).1 0 = 0 ∨ m_pk bst j ≠ -1) : y_mis bst S j = S := if_neg fun z => h.elim (fun q => z.1 q) fun q => q z.2
theorem y_beg_full {told k : Nat} {bst : Int64} {M : Nat → Prop} (h : y_R M told A S cs G) (hf : ∀ j, j < 5 → cs j ≠ none) : y_beg sig bst A told S k = S := y_beg_no fun z => by
  have := x_ff_5 fun j hj => (h.1 j hj).1.mpr (hf j hj)
  omega
set_option maxHeartbeats 8000000 in
theorem s_ytrack {d : Nat} (s : r_S m n f κ sz G th h di li cs) (hvw : r_vw m n v u κ) (hW : r_W f v u sig) (hs : ∀ x, x < 48 → (sig x).toInt.natAbs ≤ 300000) (hd1 : 1 ≤ d) (hd4 : d ≤ 4) (hdi : di = nI d) (hR : y_R (fun _ => False) sz A S cs G) (hI : y_I sz T S) : AM mX12_track (4 + (10 + 1) + 1) ((0 + (m_pks sig 48).length + (m_pks sig 48).length + 5 + 5) + (100 + 48) + 8) [.ref m, .ref v] n f (fun o n' f' => o = .inl none ∧ n ≤ n' ∧ ∃ κ' cs' G', r_S m n' f' κ' sz (y_nG G' 0) th h di li cs' ∧ r_go m n κ κ' f f' ∧ y_R (fun _ => True) sz A (y_take sig (m_best (m_W sig (y_K S)) (m_pks sig 48).length) d A sz S) cs' G') := by
  have hPl := m_pks_len (sig := sig) (k := 48)
  have ht := s.2.2.1.1
  obtain ⟨hm5, hvk⟩ := id hvw
  obtain ⟨vv0, vv1, vv2, vv3⟩ := hvk v (Or.inl rfl)
  obtain ⟨uu0, uu1, uu2, uu3⟩ := hvk (u + 2) (by omega)
  have hxy : ∀ j, j < 5 → m_xy (y_K S j) := fun j hj => (hI.1 j hj).1.2.2.2.2.2.2.2.2
  have hgbE : ∀ gb : Nat → Int32, x_lst cs sig (fun j => ((y_K S j).1 2).toNatClampNeg) (fun j => ((y_K S j).1 3).toNatClampNeg) gb → ∀ j, j < 5 → m_pk (m_best (m_W sig (y_K S)) (m_pks sig 48).length) j = gb j := fun gb hl => x_same (fun j hj => by
    obtain ⟨a, b, h1, h2, h3, h4⟩ := hxy j hj
    simp only [h3, h4, nI_clamp (n := a) (by omega), nI_clamp (n := b) (by omega)]
    exact ⟨h1, h2, trivial, trivial⟩) (fun j hj => (hR.1 j hj).1) hl
  have hbok := m_best_ok (m_W_ok (sig := sig) hxy) (show (m_pks sig 48).length ≤ 63 by omega)
  generalize hBe : m_best (m_W sig (y_K S)) (m_pks sig 48).length = bst at hgbE hbok
  have hIf := y_I_fol hI ht hbok hPl hd1 hd4
  obtain ⟨S1, hS1⟩ : ∃ S1, y_it (y_fol sig bst d) S 5 = S1 := ⟨_, rfl⟩
  have hI1 : y_I sz (T + 1) S1 := by rw [← hS1]; exact hIf 5 (Nat.le_refl _)
  have hIm := y_I_mis (bst := bst) hI1 ht
  obtain ⟨S2, hS2⟩ : ∃ S2, y_it (y_mis bst) S1 5 = S2 := ⟨_, rfl⟩
  have hI2 : y_I sz (T + 1) S2 := by rw [← hS2]; exact hIm 5 (Nat.le_refl _)
  have hIb := y_I_beg (sig := sig) (bst := bst) (A := A) hI2 ht
  obtain ⟨S3, hS3⟩ : ∃ S3, y_it (y_beg sig bst A sz) S2 (m_pks sig 48).length = S3 := ⟨_, rfl⟩
  have hI3 : y_I sz (T + 1) S3 := by rw [← hS3]; exact hIb _ (Nat.le_refl _)
  have hT : y_take sig bst d A sz S = y_it y_alo (y_it y_pin S3 5) 5 := by
    unfold y_take
    rw [hS1, hS2, hS3]
  rw [hT]
  generalize hS5 : y_it y_alo (y_it y_pin S3 5) 5 = S5
  generalize hQ : (fun (o : Option Value ⊕ Nat) (n' : Nat) (f' : Nat → am_C) => o = .inl none ∧ n ≤ n' ∧ ∃ κ' cs' G', r_S m n' f' κ' sz (y_nG G' 0) th h di li cs' ∧ r_go m n κ κ' f f' ∧ y_R (fun _ => True) sz A S5 cs' G') = Q
  have kn : ∀ x, n ≤ x → κ x = 0 := fun x hx => Classical.byContradiction fun q => by have := ((s.2.2.2 x).1 q).2; omega
  -- the end: claims, and one more frame taken
  have hclm : ∀ (N : Nat) (g : Nat → am_C) (κ1 : Nat → Nat) (cs1 : Nat → Option Nat) (gb : Nat → Int32) (x4 : Int32) (z5 : Option Value) (mt : Nat → Int32) (G : Nat → m_K), r_tk m n v u N f g κ κ1 sz G th h di li cs1 gb sig mt → y_R (fun _ => True) sz A S3 cs1 G → AW mX12_track 0 0 242 [some (.ref m), some (.ref v), some (.ref (n + 2)), some (.ref (n + 5)), some (.int x4), z5] [] N g Q := by
    intro N g κ1 cs1 gb x4 z5 mt G a hr
    have a2 := a.2.1
    obtain ⟨e0, -, -, -⟩ := a2
    unfold r_m12 at e0
    refine am_aload_n 242 dX12_track_242 rfl ?_
    refine am_V0 243 (mc' := 0) (ms' := 0) (rc := 0) (rs := 0) dX12_track_243 lX12_218 ⟨by decide, by decide⟩ e0 (Nat.le_of_ble_eq_true rfl) (Nat.le_of_ble_eq_true rfl) (s_xclaims a.2.1 hr hI3) ?_
    rintro o n' g2 ⟨rfl, rfl, G2, s2, g2', r2⟩
    refine am_ctI ?_
    have b := r_tk.step hvw a (Nat.le_refl _) s2 g2'
    have b2 := b.2.1
    obtain ⟨y0, -, -, -⟩ := b2
    unfold r_m12 at y0
    refine am_aload_n 246 dX12_track_246 rfl ?_
    refine am_dup 247 dX12_track_247 rfl ?_
    refine am_getfield 248 dX12_track_248 fX12_220 y0 rfl ?_
    refine am_iconst 251 (v := 1) dX12_track_251 (by decide) ?_
    refine am_iadd 252 dX12_track_252 ?_
    refine am_putfield 253 dX12_track_253 pX12_220 y0 rfl rfl (Nat.le_of_ble_eq_true rfl) ?_
    refine am_return 256 dX12_track_256 rfl ?_
    subst hQ
    obtain ⟨s3, g3⟩ := b.2.1.cnt (G2 := y_nG G2 0) (th' := th) (h' := h) (di' := di) (li' := li) (fun x hx => y_nG_x hx)
    rw [r_n_up, r_n_ne (by decide), r_n_ne (by decide), r_n_ne (by decide), r_n_ne (by decide)] at s3 g3
    have := b.1
    exact ⟨rfl, by omega, κ1, cs1, G2, s3, b.2.2.1.trans g3 (by omega), by rw [hS5] at r2; exact r2⟩
  -- the peaks that nobody follows
  have hbeg : ∀ (N : Nat) (g : Nat → am_C) (κ1 : Nat → Nat) (cs1 : Nat → Option Nat) (gb : Nat → Int32) (z5 : Option Value) (mt : Nat → Int32) (G : Nat → m_K), r_tk m n v u N f g κ κ1 sz G th h di li cs1 gb sig mt → (∀ j, j < 5 → m_pk bst j = gb j) → x_mt gb mt 5 → y_R (fun _ => True) sz A S2 cs1 G → AW mX12_track 10 100 171 [some (.ref m), some (.ref v), some (.ref (n + 2)), some (.ref (n + 5)), some (.int (nI 0)), z5] [] N g Q := by
    intro N g κ1 cs1 gb z5 mt G a hgb hmt hr
    have hfr := r_fr_le (cs := cs1)
    refine AW.more (rc := 2 * r_fr cs1) (rs := 20 * r_fr cs1) (by omega) (by omega) ?_
    refine am_for (m_pks sig 48).length (fun k (st : Nat × (Nat → am_C) × (Nat → Nat) × (Nat → Option Nat) × (Nat → m_K)) => r_tk m n v u st.1 f st.2.1 κ st.2.2.1 sz st.2.2.2.2 th h di li st.2.2.2.1 gb sig mt ∧ y_R (fun _ => True) sz A (y_it (y_beg sig bst A sz) S2 k) st.2.2.2.1 st.2.2.2.2) (fun k st => AW mX12_track (2 * r_fr st.2.2.2.1) (20 * r_fr st.2.2.2.1) 171 [some (.ref m), some (.ref v), some (.ref (n + 2)), some (.ref (n + 5)), some (.int (nI k)), z5] [] st.1 st.2.1 Q) ?_ ?_ 0 (N, g, κ1, cs1, G) (by omega) ⟨a, hr⟩
    · rintro ⟨N, g, κ1, cs1, G⟩ ⟨a, hr⟩
      have a : r_tk m n v u N f g κ κ1 sz G th h di li cs1 gb sig mt := a
      have hr : y_R (fun _ => True) sz A (y_it (y_beg sig bst A sz) S2 (m_pks sig 48).length) cs1 G := hr
      rw [hS3] at hr
      show AW mX12_track (2 * r_fr cs1) (20 * r_fr cs1) 171 [some (.ref m), some (.ref v), some (.ref (n + 2)), some (.ref (n + 5)), some (.int (nI (m_pks sig 48).length)), z5] [] N g Q
      refine AW.more (rc := 0) (rs := 0) (by omega) (by omega) ?_
      obtain ⟨pk, w0, w1, w2, w3, w4⟩ := a.2.2.2.1
      refine am_iload 171 dX12_track_171 rfl ?_
      refine am_aload_n 173 dX12_track_173 rfl ?_
      refine am_getfield 174 dX12_track_174 fX12_212 w0 rfl ?_
      refine am_icmp_ge 177 242 dX12_track_177 rfl (fun c177 => ?_) (fun c177 => absurd (Int32.le_refl _) c177)
      exact hclm _ _ _ _ _ _ _ _ _ a hr
    · rintro k ⟨N, g, κ1, cs1, G⟩ hk ⟨a, hr⟩ ih
      have a : r_tk m n v u N f g κ κ1 sz G th h di li cs1 gb sig mt := a
      have hr : y_R (fun _ => True) sz A (y_it (y_beg sig bst A sz) S2 k) cs1 G := hr
      have iIk := hIb k (by omega)
      show AW mX12_track (2 * r_fr cs1) (20 * r_fr cs1) 171 [some (.ref m), some (.ref v), some (.ref (n + 2)), some (.ref (n + 5)), some (.int (nI k)), z5] [] N g Q
      have next : ∀ (N : Nat) (g : Nat → am_C) (κ1 : Nat → Nat) (cs1 : Nat → Option Nat) (G : Nat → m_K), r_tk m n v u N f g κ κ1 sz G th h di li cs1 gb sig mt → y_R (fun _ => True) sz A (y_beg sig bst A sz (y_it (y_beg sig bst A sz) S2 k) k) cs1 G → AW mX12_track (2 * r_fr cs1) (20 * r_fr cs1) 236 [some (.ref m), some (.ref v), some (.ref (n + 2)), some (.ref (n + 5)), some (.int (nI k)), z5] [] N g Q := by
        intro N g κ1 cs1 G a hr
        refine am_iinc 236 (v := nI (k + 1)) dX12_track_236 rfl (nI_1 (k)) (by decide) ?_
        refine am_goto 239 (tgt := 171) dX12_track_239 rfl ?_
        exact ih (N, g, κ1, cs1, G) ⟨a, hr⟩
      clear ih
      generalize y_it (y_beg sig bst A sz) S2 k = Sk at *
      have a0 := a
      obtain ⟨a1, a2, a3, a4, a5, a6, a7, a8⟩ := a
      have a4' := a4
      obtain ⟨pk, w0, w1, w2, w3, w4⟩ := a4
      obtain ⟨c48, c20⟩ := m_pks48 hk
      have hPk : ¬ nI (m_pks sig 48).length ≤ nI k := nI_ge hk (by omega)
      have hk48 : k < 48 := by omega
      have px56 := (m_place_spec (isY := false) c48 c20).2.2
      have py40 := (m_place_spec (isY := true) c48 c20).2.2
      simp only [if_true, Bool.false_eq_true, if_false] at px56 py40
      have hpk : pk k = nI ((m_pks sig 48).getD k 0) := w4 k hk
      have hnbt : x_nb sig bst k ↔ (mt k = 0 ∧ ¬ 14 < m_reg sig ((m_pks sig 48).getD k 0)) := ⟨fun z => ⟨(hmt k hk48).2.mpr fun i hi => by rw [← hgb i hi]; exact z.1 i hi, z.2⟩, fun z => ⟨fun i hi => by rw [hgb i hi]; exact (hmt k hk48).2.mp z.1 i hi, z.2⟩⟩
      have hNc : ∀ i c, i < 5 → cs1 i = some c → c + 1 < N := fun i c hi hc => by
        obtain ⟨ap, cl, kk, b0, b1, b2, b3, b4, b5, b6, rfl⟩ := (a2.2.2.2 c).2.1 (a2.cn hi hc).1
        exact ((a2.2.2.2 (c + 1)).1 (by omega)).2
      have hnew := fun k1 h1 h2 h3 nb => (hr.begin (bst := bst) (k := k1) (N := N) (p := k) iIk ht h1 h2 h3 (by omega) hNc nb hk).flag (M' := fun _ => True) fun _ _ _ _ _ => Or.inl trivial
      generalize hcc : (m_pks sig 48).getD k 0 = c at c48 c20 px56 py40 hpk hnbt hnew
      have a2' := a2
      obtain ⟨e0, -, -, -⟩ := a2'
      unfold r_m12 at e0
      refine AW.more (rc := 0 + 2 * r_fr cs1) (rs := 0 + 20 * r_fr cs1) (by omega) (by omega) ?_
      have pal := s_visPalm (n := N) a4' c48
      have plx := s_place (n := N) (y := false) a4' c48 c20 hs
      have ply := s_place (n := N) (y := true) a4' c48 c20 hs
      have hmid : x_nb sig bst k → AW mX12_track (2 * r_fr cs1) (20 * r_fr cs1) 201 [some (.ref m), some (.ref v), some (.ref (n + 2)), some (.ref (n + 5)), some (.int (nI k)), z5] [] N g Q := by
        intro hnb
        rcases r_first cs1 with ⟨k1, k5, kc, kb⟩ | hfull
        · have hup := r_fr_up (x := N) k5 kc
          refine AW.more (rc := 2 + 2 * r_fr (va_up cs1 k1 (some N))) (rs := 20 + 20 * r_fr (va_up cs1 k1 (some N))) (by omega) (by omega) ?_
          refine am_aload_n 201 dX12_track_201 rfl ?_
          refine am_aload_n 202 dX12_track_202 rfl ?_
          refine am_getfield 203 dX12_track_203 fX12_192 w0 rfl ?_
          refine am_iload 206 dX12_track_206 rfl ?_
          refine am_iaload 208 dX12_track_208 rfl w3 (am_ix hk48 (by decide)) ?_
          rw [nI_clamp (n := k) (by omega), hpk]
          refine am_aload_n 209 dX12_track_209 rfl ?_
          refine am_aload_n 210 dX12_track_210 rfl ?_
          refine am_getfield 211 dX12_track_211 fX12_192 w0 rfl ?_
          refine am_iload 214 dX12_track_214 rfl ?_
          refine am_iaload 216 dX12_track_216 rfl w3 (am_ix hk48 (by decide)) ?_
          rw [nI_clamp (n := k) (by omega), hpk]
          refine am_iconst 217 (v := 0) dX12_track_217 (by decide) ?_
          refine AW.more (rc := 0 + (2 + 2 * r_fr (va_up cs1 k1 (some N)))) (rs := 0 + (20 + 20 * r_fr (va_up cs1 k1 (some N)))) (by omega) (by omega) ?_
          refine am_V2 218 (mc' := 0) (ms' := 0) (rc := 2 + 2 * r_fr (va_up cs1 k1 (some N))) (rs := 20 + 20 * r_fr (va_up cs1 k1 (some N))) dX12_track_218 lX12_202 ⟨by decide, by decide⟩ w0 (Nat.le_of_ble_eq_true rfl) (Nat.le_of_ble_eq_true rfl) (plx) ?_
          refine am_is_ct ?_
          refine am_aload_n 221 dX12_track_221 rfl ?_
          refine am_aload_n 222 dX12_track_222 rfl ?_
          refine am_getfield 223 dX12_track_223 fX12_192 w0 rfl ?_
          refine am_iload 226 dX12_track_226 rfl ?_
          refine am_iaload 228 dX12_track_228 rfl w3 (am_ix hk48 (by decide)) ?_
          rw [nI_clamp (n := k) (by omega), hpk]
          refine am_iconst 229 (v := 1) dX12_track_229 (by decide) ?_
          refine AW.more (rc := 0 + (2 + 2 * r_fr (va_up cs1 k1 (some N)))) (rs := 0 + (20 + 20 * r_fr (va_up cs1 k1 (some N)))) (by omega) (by omega) ?_
          refine am_V2 230 (mc' := 0) (ms' := 0) (rc := 2 + 2 * r_fr (va_up cs1 k1 (some N))) (rs := 20 + 20 * r_fr (va_up cs1 k1 (some N))) dX12_track_230 lX12_202 ⟨by decide, by decide⟩ w0 (Nat.le_of_ble_eq_true rfl) (Nat.le_of_ble_eq_true rfl) (ply) ?_
          refine am_is_ct ?_
          refine am_V3 233 (mc' := 2) (ms' := 20) (rc := 2 * r_fr (va_up cs1 k1 (some N))) (rs := 20 * r_fr (va_up cs1 k1 (some N))) dX12_track_233 lX12_215 ⟨by decide, by decide⟩ e0 (Nat.le_of_ble_eq_true rfl) (Nat.le_of_ble_eq_true rfl) (s_begin2 a2 c48 k5 kc kb (by omega) (by omega)) ?_
          rintro o n' g2 ⟨rfl, rfl, s2, go2⟩
          refine am_ctI ?_
          exact next _ _ _ _ _ (r_tk.step hvw a0 (by omega) s2 go2) (hnew k1 k5 kc kb hnb)
        · refine am_aload_n 201 dX12_track_201 rfl ?_
          refine am_aload_n 202 dX12_track_202 rfl ?_
          refine am_getfield 203 dX12_track_203 fX12_192 w0 rfl ?_
          refine am_iload 206 dX12_track_206 rfl ?_
          refine am_iaload 208 dX12_track_208 rfl w3 (am_ix hk48 (by decide)) ?_
          rw [nI_clamp (n := k) (by omega), hpk]
          refine am_aload_n 209 dX12_track_209 rfl ?_
          refine am_aload_n 210 dX12_track_210 rfl ?_
          refine am_getfield 211 dX12_track_211 fX12_192 w0 rfl ?_
          refine am_iload 214 dX12_track_214 rfl ?_
          refine am_iaload 216 dX12_track_216 rfl w3 (am_ix hk48 (by decide)) ?_
          rw [nI_clamp (n := k) (by omega), hpk]
          refine am_iconst 217 (v := 0) dX12_track_217 (by decide) ?_
          refine AW.more (rc := 0 + (2 * r_fr cs1)) (rs := 0 + (20 * r_fr cs1)) (by omega) (by omega) ?_
          refine am_V2 218 (mc' := 0) (ms' := 0) (rc := 2 * r_fr cs1) (rs := 20 * r_fr cs1) dX12_track_218 lX12_202 ⟨by decide, by decide⟩ w0 (Nat.le_of_ble_eq_true rfl) (Nat.le_of_ble_eq_true rfl) (plx) ?_
          refine am_is_ct ?_
          refine am_aload_n 221 dX12_track_221 rfl ?_
          refine am_aload_n 222 dX12_track_222 rfl ?_
          refine am_getfield 223 dX12_track_223 fX12_192 w0 rfl ?_
          refine am_iload 226 dX12_track_226 rfl ?_
          refine am_iaload 228 dX12_track_228 rfl w3 (am_ix hk48 (by decide)) ?_
          rw [nI_clamp (n := k) (by omega), hpk]
          refine am_iconst 229 (v := 1) dX12_track_229 (by decide) ?_
          refine AW.more (rc := 0 + (2 * r_fr cs1)) (rs := 0 + (20 * r_fr cs1)) (by omega) (by omega) ?_
          refine am_V2 230 (mc' := 0) (ms' := 0) (rc := 2 * r_fr cs1) (rs := 20 * r_fr cs1) dX12_track_230 lX12_202 ⟨by decide, by decide⟩ w0 (Nat.le_of_ble_eq_true rfl) (Nat.le_of_ble_eq_true rfl) (ply) ?_
          refine am_is_ct ?_
          refine AW.more (rc := 0 + (2 * r_fr cs1)) (rs := 0 + (20 * r_fr cs1)) (by omega) (by omega) ?_
          refine am_V3 233 (mc' := 0) (ms' := 0) (rc := 2 * r_fr cs1) (rs := 20 * r_fr cs1) dX12_track_233 lX12_215 ⟨by decide, by decide⟩ e0 (Nat.le_of_ble_eq_true rfl) (Nat.le_of_ble_eq_true rfl) (s_begin0 a2 hfull) ?_
          refine am_is_ct ?_
          exact next _ _ _ _ _ a0 (by rw [y_beg_full hr hfull]; exact hr)
      refine AW.more (rc := 2 * r_fr cs1) (rs := 20 * r_fr cs1) (by omega) (by omega) ?_
      refine am_iload 171 dX12_track_171 rfl ?_
      refine am_aload_n 173 dX12_track_173 rfl ?_
      refine am_getfield 174 dX12_track_174 fX12_212 w0 rfl ?_
      refine am_icmp_ge 177 242 dX12_track_177 rfl (fun c177 => absurd c177 hPk) (fun c177 => ?_)
      refine am_aload_n 180 dX12_track_180 rfl ?_
      refine am_iload 181 dX12_track_181 rfl ?_
      refine am_zaload 183 dX12_track_183 rfl a6 (am_ix hk48 (by decide)) ?_
      refine am_if_ne 184 236 dX12_track_184 rfl (fun c184 => ?_) (fun c184 => ?_)
      · first | exact next _ _ _ _ _ a0 (by rw [y_beg_no fun z => c184 (by rw [nI_clamp (n := k) (by omega)]; exact (hnbt.mp z.1).1)]; exact hr) | exact next _ _ _ _ _ a0 (by rw [y_beg_no fun z => c198 (by rw [decide_eq_false (hnbt.mp z.1).2]; rfl)]; exact hr)
      · refine am_aload_n 187 dX12_track_187 rfl ?_
        refine am_aload_n 188 dX12_track_188 rfl ?_
        refine am_getfield 189 dX12_track_189 fX12_192 w0 rfl ?_
        refine am_iload 192 dX12_track_192 rfl ?_
        refine am_iaload 194 dX12_track_194 rfl w3 (am_ix hk48 (by decide)) ?_
        rw [nI_clamp (n := k) (by omega), hpk]
        refine AW.more (rc := 0 + (2 * r_fr cs1)) (rs := 0 + (20 * r_fr cs1)) (by omega) (by omega) ?_
        refine am_V1 195 (mc' := 0) (ms' := 0) (rc := 2 * r_fr cs1) (rs := 20 * r_fr cs1) dX12_track_195 lX12_195 ⟨by decide, by decide⟩ w0 (Nat.le_of_ble_eq_true rfl) (Nat.le_of_ble_eq_true rfl) (pal) ?_
        refine am_is_ct ?_
        refine am_if_ne 198 236 dX12_track_198 rfl (fun c198 => ?_) (fun c198 => ?_)
        · first | exact next _ _ _ _ _ a0 (by rw [y_beg_no fun z => c184 (by rw [nI_clamp (n := k) (by omega)]; exact (hnbt.mp z.1).1)]; exact hr) | exact next _ _ _ _ _ a0 (by rw [y_beg_no fun z => c198 (by rw [decide_eq_false (hnbt.mp z.1).2]; rfl)]; exact hr)
        · rw [nI_clamp (n := k) (by omega)] at c184
          refine hmid (hnbt.mpr ⟨c184, fun z => ?_⟩)
          rw [decide_eq_true z] at c198
          exact absurd c198 (by decide)
  -- contacts that no peak is for
  have hmis : ∀ (N : Nat) (g : Nat → am_C) (cs1 : Nat → Option Nat) (gb : Nat → Int32) (z5 : Option Value) (mt : Nat → Int32) (G : Nat → m_K), r_tk m n v u N f g κ κ sz G th h di li cs1 gb sig mt → (∀ j, j < 5 → m_pk bst j = gb j) → x_mt gb mt 5 → y_R (fun i => m_pk bst i ≠ -1) sz A S1 cs1 G → (∀ i c, i < 5 → m_pk bst i = -1 → cs1 i = some c → (G c).1 1 = 0) → AW mX12_track 10 100 132 [some (.ref m), some (.ref v), some (.ref (n + 2)), some (.ref (n + 5)), some (.int (nI 0)), z5] [] N g Q := by
    intro N g cs1 gb z5 mt G a hgb hmt hr hz
    refine am_for 5 (fun j (st : (Nat → am_C) × (Nat → Option Nat) × (Nat → m_K)) => r_tk m n v u N f st.1 κ κ sz st.2.2 th h di li st.2.1 gb sig mt ∧ y_R (fun i => m_pk bst i ≠ -1 ∨ i < j) sz A (y_it (y_mis bst) S1 j) st.2.1 st.2.2 ∧ ∀ i c, j ≤ i → i < 5 → m_pk bst i = -1 → st.2.1 i = some c → (st.2.2 c).1 1 = 0) (fun j st => AW mX12_track 10 100 132 [some (.ref m), some (.ref v), some (.ref (n + 2)), some (.ref (n + 5)), some (.int (nI j)), z5] [] N st.1 Q) ?_ ?_ 0 (g, cs1, G) (by omega) ⟨a, hr.flag fun i c _ _ w => w.resolve_right (Nat.not_lt_zero i), fun i c _ => hz i c⟩
    · rintro ⟨g, cs1, G⟩ ⟨a, hr, -⟩
      have hr : y_R (fun i => m_pk bst i ≠ -1 ∨ i < 5) sz A (y_it (y_mis bst) S1 5) cs1 G := hr
      rw [hS2] at hr
      show AW mX12_track 10 100 132 [some (.ref m), some (.ref v), some (.ref (n + 2)), some (.ref (n + 5)), some (.int (nI 5)), z5] [] N g Q
      refine am_iload 132 dX12_track_132 rfl ?_
      refine am_iconst 134 (v := 5) dX12_track_134 (by decide) ?_
      refine am_icmp_ge 135 168 dX12_track_135 rfl (fun c135 => ?_) (fun c135 => absurd (by decide) c135)
      refine am_iconst 168 (v := 0) dX12_track_168 (by decide) ?_
      refine am_istore 169 dX12_track_169 (by decide) ?_
      exact hbeg _ _ _ _ _ _ _ _ a hgb hmt (hr.flag fun i c hi _ _ => Or.inr hi)
    · rintro j ⟨g, cs1, G⟩ hj ⟨a, hr, hz⟩ ih
      have a : r_tk m n v u N f g κ κ sz G th h di li cs1 gb sig mt := a
      have hr : y_R (fun i => m_pk bst i ≠ -1 ∨ i < j) sz A (y_it (y_mis bst) S1 j) cs1 G := hr
      have hz : ∀ i c, j ≤ i → i < 5 → m_pk bst i = -1 → cs1 i = some c → (G c).1 1 = 0 := hz
      have iIj := hIm j (by omega)
      show AW mX12_track 10 100 132 [some (.ref m), some (.ref v), some (.ref (n + 2)), some (.ref (n + 5)), some (.int (nI j)), z5] [] N g Q
      have next : ∀ (g : Nat → am_C) (cs1 : Nat → Option Nat) (G : Nat → m_K), r_tk m n v u N f g κ κ sz G th h di li cs1 gb sig mt → y_R (fun i => m_pk bst i ≠ -1 ∨ i < j + 1) sz A (y_mis bst (y_it (y_mis bst) S1 j) j) cs1 G → (∀ i c, j + 1 ≤ i → i < 5 → m_pk bst i = -1 → cs1 i = some c → (G c).1 1 = 0) → AW mX12_track 10 100 162 [some (.ref m), some (.ref v), some (.ref (n + 2)), some (.ref (n + 5)), some (.int (nI j)), z5] [] N g Q := by
        intro g cs1 G a hr hz
        refine am_iinc 162 (v := nI (j + 1)) dX12_track_162 rfl (nI_1 (j)) (by decide) ?_
        refine am_goto 165 (tgt := 132) dX12_track_165 rfl ?_
        exact ih (_, _, _) ⟨a, hr, hz⟩
      have a0 := a
      obtain ⟨a1, a2, a3, a4, a5, a6, a7, a8⟩ := a
      have a2' := a2
      obtain ⟨e0, ⟨e3, -⟩, -, -⟩ := a2'
      unfold r_m12 at e0
      clear ih
      generalize y_it (y_mis bst) S1 j = Sj at *
      have keep : y_mis bst Sj j = Sj → (m_pk bst j ≠ -1 ∨ cs1 j = none) → AW mX12_track 10 100 162 [some (.ref m), some (.ref v), some (.ref (n + 2)), some (.ref (n + 5)), some (.int (nI j)), z5] [] N g Q := fun e w => next _ _ _ a0 (by
        rw [e]
        refine hr.flag fun i c hi hc q => ?_
        rcases q with q | q
        · exact Or.inl q
        · by_cases e2 : i = j
          · rcases w with w | w
            · exact Or.inl (by rw [e2]; exact w)
            · rw [e2, w] at hc
              cases hc
          · exact Or.inr (by omega)) fun i c h1 h2 => hz i c (by omega) h2
      rcases hc : cs1 j with _ | c
      · refine am_iload 132 dX12_track_132 rfl ?_
        refine am_iconst 134 (v := 5) dX12_track_134 (by decide) ?_
        refine am_icmp_ge 135 168 dX12_track_135 rfl (fun c135 => absurd c135 (nI_ge hj (by decide))) (fun c135 => ?_)
        refine am_aload_n 138 dX12_track_138 rfl ?_
        refine am_getfield 139 dX12_track_139 fX12_29 (by repeat (first | assumption | exact am_ue | refine am_un (by first | assumption | decide | omega) ?_)) rfl ?_
        refine am_iload 142 dX12_track_142 rfl ?_
        refine am_aaload 144 dX12_track_144 rfl (by repeat (first | assumption | exact am_ue | refine am_un (by first | assumption | decide | omega) ?_)) (am_ix hj (by decide)) ?_
        rw [nI_clamp (n := j) (by omega), hc, show va_rf none = Value.null from rfl]
        refine am_ifnullN 145 (tgt := 162) dX12_track_145 rfl ?_
        exact keep (y_mis_no (Or.inl (hr.no hj hc))) (Or.inr hc)
      · obtain ⟨h0, he, -⟩ := hr.at hj hc
        have e5 := he.1 5 (by decide) (by decide)
        have h5 := ((iIj.1 j hj).2.2 h0).2.1
        have c5 := hr.2.1.1 j c hj hc
        have mis : m_pk bst j = -1 → ∀ (g2 : Nat → am_C) (cs2 : Nat → Option Nat) (G2 : Nat → m_K), ((¬ 2 ≤ (G c).1 5 + 1 ∧ cs2 = cs1 ∧ G2 = va_up G c (r_miss (G c))) ∨ (2 ≤ (G c).1 5 + 1 ∧ cs2 = va_up cs1 j none ∧ G2 = y_nG (y_tapG (va_up G c (r_miss (G c))) c) 3)) → r_S m N g2 κ sz G2 th h di li cs2 → r_go m N κ κ g g2 → AW mX12_track 10 100 162 [some (.ref m), some (.ref v), some (.ref (n + 2)), some (.ref (n + 5)), some (.int (nI j)), z5] [] N g2 Q := by
          intro hpk g2 cs2 G2 hq s2 go2
          have hflag : ∀ i, i < 5 → i ≠ j → (m_pk bst i ≠ -1 ∨ i < j + 1) → (m_pk bst i ≠ -1 ∨ i < j) := fun i _ h1 h2 => h2.imp id fun w => by omega
          rcases hq with ⟨q, rfl, rfl⟩ | ⟨q, rfl, rfl⟩
          · have k5 : (y_K Sj j).1 5 = 0 := by
              rcases h5 with w | w
              · exact w
              · rw [e5, w] at q
                exact absurd (by decide) q
            refine next _ _ _ (r_tk.step hvw a0 (Nat.le_refl _) s2 go2) ?_ fun i c' h1 h2 h3 h4 => ?_
            · rw [show y_mis bst Sj j = _ from (if_pos ⟨h0, hpk⟩).trans (if_pos k5)]
              exact hr.miss ht hj hc (hz j c (Nat.le_refl _) hj hpk hc) hflag
            · rw [am_up_ne fun w => by have := hr.2.1.2.2 i j c h2 hj (by rw [h4, w]) hc; omega]
              exact hz i c' (by omega) h2 h3 h4
          · have k5 : ¬ (y_K Sj j).1 5 = 0 := by
              intro w
              rw [e5, w] at q
              exact absurd q (by decide)
            obtain ⟨har, -, -, -⟩ := hr.ar iIj hj hc
            have har1 : (va_up G c (r_miss (G c)) c).1 7 = -1 ∨ ∃ k, k < sz ∧ (va_up G c (r_miss (G c)) c).1 7 = nI k := by rw [am_up_eq]; exact har
            refine next _ _ _ (r_tk.step hvw a0 (Nat.le_refl _) s2 go2) ?_ fun i c' h1 h2 h3 h4 => ?_
            · rw [show y_mis bst Sj j = _ from (if_pos ⟨h0, hpk⟩).trans (if_neg k5)]
              refine (hr.lift iIj ht hj hc).flag fun i c' hi hc' w => ?_
              by_cases e2 : i = j
              · rw [e2, am_up_eq] at hc'
                cases hc'
              · exact hflag i hi e2 w
            · rw [am_up_ne (by omega)] at h4
              have c5' := hr.2.1.1 i c' h2 h4
              rw [y_nG_x (by omega), y_tapG_x har1 ht (by omega), am_up_ne fun w => by have := hr.2.1.2.2 i j c h2 hj (by rw [h4, w]) hc; omega]
              exact hz i c' (by omega) h2 h3 h4
        refine am_iload 132 dX12_track_132 rfl ?_
        refine am_iconst 134 (v := 5) dX12_track_134 (by decide) ?_
        refine am_icmp_ge 135 168 dX12_track_135 rfl (fun c135 => absurd c135 (nI_ge hj (by decide))) (fun c135 => ?_)
        refine am_aload_n 138 dX12_track_138 rfl ?_
        refine am_getfield 139 dX12_track_139 fX12_29 (by repeat (first | assumption | exact am_ue | refine am_un (by first | assumption | decide | omega) ?_)) rfl ?_
        refine am_iload 142 dX12_track_142 rfl ?_
        refine am_aaload 144 dX12_track_144 rfl (by repeat (first | assumption | exact am_ue | refine am_un (by first | assumption | decide | omega) ?_)) (am_ix hj (by decide)) ?_
        rw [nI_clamp (n := j) (by omega), hc, show va_rf (some c) = Value.ref c from rfl]
        refine am_ifnull 145 dX12_track_145 ?_
        refine am_aload_n 148 dX12_track_148 rfl ?_
        refine am_iload 149 dX12_track_149 rfl ?_
        refine am_iaload 151 dX12_track_151 rfl a5 (am_ix hj (by decide)) ?_
        rw [nI_clamp (n := j) (by omega)]
        refine am_iconst 152 (v := (-1)) dX12_track_152 (by decide) ?_
        refine am_icmp_ne 153 162 dX12_track_153 rfl (fun c153 => ?_) (fun c153 => ?_)
        · first | exact mis ((hgb j hj).trans c153) _ _ _ hq2 s2 go2 | exact keep (y_mis_no (Or.inr fun z => c153 ((hgb j hj).symm.trans z))) (Or.inl fun z => c153 ((hgb j hj).symm.trans z))
        · refine am_aload_n 156 dX12_track_156 rfl ?_
          refine am_iload 157 dX12_track_157 rfl ?_
          refine AW.more (rc := 0 + (10)) (rs := 0 + (100)) (by omega) (by omega) ?_
          refine am_V1 159 (mc' := 0) (ms' := 0) (rc := 10) (rs := 100) dX12_track_159 lX12_209 ⟨by decide, by decide⟩ e0 (Nat.le_of_ble_eq_true rfl) (Nat.le_of_ble_eq_true rfl) (s_rmiss a2 hj hc) ?_
          rintro o n' g2 ⟨rfl, rfl, cs2, G2, hq2, s2, go2⟩
          refine am_ctI ?_
          first | exact mis ((hgb j hj).trans c153) _ _ _ hq2 s2 go2 | exact keep (y_mis_no (Or.inr fun z => c153 ((hgb j hj).symm.trans z))) (Or.inl fun z => c153 ((hgb j hj).symm.trans z))
  -- what each contact follows
  have hfol : ∀ (g : Nat → am_C) (gb mt : Nat → Int32), r_tk m n v u (n + 6) f g κ κ sz G th h di li cs gb sig mt → r_gd cs (m_pks sig 48).length gb → (∀ j, j < 5 → m_pk bst j = gb j) → x_mt gb mt 0 → AW mX12_track 10 100 21 [some (.ref m), some (.ref v), some (.ref (n + 2)), some (.ref (n + 5)), some (.int (nI 0)), none] [] (n + 6) g Q := by
    intro g gb mt a hgd hgb hmt
    refine am_for 5 (fun j (st : ((Nat → am_C) × (Nat → Option Nat) × (Nat → m_K) × (Nat → Int32)) × Option Value) => (r_tk m n v u (n + 6) f st.1.1 κ κ sz st.1.2.2.1 th h di li st.1.2.1 gb sig st.1.2.2.2 ∧ x_mt gb st.1.2.2.2 j ∧ y_R (fun i => i < j ∧ m_pk bst i ≠ -1) sz A (y_it (y_fol sig bst d) S j) st.1.2.1 st.1.2.2.1 ∧ ∀ i c, i < j → m_pk bst i = -1 → st.1.2.1 i = some c → (st.1.2.2.1 c).1 1 = 0) ∧ ∀ i, j ≤ i → i < 5 → st.1.2.1 i = cs i) (fun j st => AW mX12_track 10 100 21 [some (.ref m), some (.ref v), some (.ref (n + 2)), some (.ref (n + 5)), some (.int (nI j)), st.2] [] (n + 6) st.1.1 Q) ?_ ?_ 0 ((g, cs, G, mt), none) (by omega) ⟨⟨a, hmt, hR.flag fun i c _ _ w => absurd w.1 (Nat.not_lt_zero i), fun i c w => absurd w (Nat.not_lt_zero i)⟩, fun _ _ _ => rfl⟩
    · rintro ⟨⟨g, cs1, G, mt⟩, z5⟩ ⟨⟨a, hmt, hr, hz⟩, -⟩
      have hr : y_R (fun i => i < 5 ∧ m_pk bst i ≠ -1) sz A (y_it (y_fol sig bst d) S 5) cs1 G := hr
      rw [hS1] at hr
      show AW mX12_track 10 100 21 [some (.ref m), some (.ref v), some (.ref (n + 2)), some (.ref (n + 5)), some (.int (nI 5)), z5] [] (n + 6) g Q
      refine am_iload 21 dX12_track_21 rfl ?_
      refine am_iconst 23 (v := 5) dX12_track_23 (by decide) ?_
      refine am_icmp_ge 24 129 dX12_track_24 rfl (fun c24 => ?_) (fun c24 => absurd (by decide) c24)
      refine am_iconst 129 (v := 0) dX12_track_129 (by decide) ?_
      refine am_istore 130 dX12_track_130 (by decide) ?_
      exact hmis _ _ _ _ _ _ _ a hgb hmt (hr.flag fun i c hi _ w => ⟨hi, w⟩) fun i c hi => hz i c hi
    · rintro j ⟨⟨g, cs1, G, mt⟩, z5⟩ hj ⟨⟨a, hmt, hr, hz⟩, hcs1⟩ ih
      have hmt : x_mt gb mt j := hmt
      have hr : y_R (fun i => i < j ∧ m_pk bst i ≠ -1) sz A (y_it (y_fol sig bst d) S j) cs1 G := hr
      have hz : ∀ i c, i < j → m_pk bst i = -1 → cs1 i = some c → (G c).1 1 = 0 := hz
      have iIj := hIf j (by omega)
      have a : r_tk m n v u (n + 6) f g κ κ sz G th h di li cs1 gb sig mt := a
      have hcs1 : ∀ i, j ≤ i → i < 5 → cs1 i = cs i := hcs1
      show AW mX12_track 10 100 21 [some (.ref m), some (.ref v), some (.ref (n + 2)), some (.ref (n + 5)), some (.int (nI j)), z5] [] (n + 6) g Q
      have next : ∀ (g : Nat → am_C) (cs1 : Nat → Option Nat) (z5 : Option Value) (mt : Nat → Int32) (G : Nat → m_K), r_tk m n v u (n + 6) f g κ κ sz G th h di li cs1 gb sig mt → x_mt gb mt (j + 1) → y_R (fun i => i < j + 1 ∧ m_pk bst i ≠ -1) sz A (y_fol sig bst d (y_it (y_fol sig bst d) S j) j) cs1 G → (∀ i c, i < j + 1 → m_pk bst i = -1 → cs1 i = some c → (G c).1 1 = 0) → (∀ i, j + 1 ≤ i → i < 5 → cs1 i = cs i) → AW mX12_track 10 100 123 [some (.ref m), some (.ref v), some (.ref (n + 2)), some (.ref (n + 5)), some (.int (nI j)), z5] [] (n + 6) g Q := by
        intro g cs1 z5 mt G a hmt hr hz b
        refine am_iinc 123 (v := nI (j + 1)) dX12_track_123 rfl (nI_1 (j)) (by decide) ?_
        refine am_goto 126 (tgt := 21) dX12_track_126 rfl ?_
        exact ih ((_, _, _, _), _) ⟨⟨a, hmt, hr, hz⟩, b⟩
      have hcj := hcs1 j (Nat.le_refl _) hj
      clear ih
      generalize y_it (y_fol sig bst d) S j = Sj at *
      -- the second half, from the look at the peak on
      have half : ∀ (g1 : Nat → am_C) (G : Nat → m_K), r_tk m n v u (n + 6) f g1 κ κ sz G th h di li cs1 gb sig mt → y_R (fun i => i < j ∧ m_pk bst i ≠ -1) sz A Sj cs1 G → (∀ i c, i < j + 1 → m_pk bst i = -1 → cs1 i = some c → (G c).1 1 = 0) → AW mX12_track 10 100 48 [some (.ref m), some (.ref v), some (.ref (n + 2)), some (.ref (n + 5)), some (.int (nI j)), z5] [] (n + 6) g1 Q := by
        intro g1 G a hr hz
        have a0 := a
        obtain ⟨a1, a2, a3, a4, a5, a6, a7, a8⟩ := a
        rcases hgd j hj with e | ⟨p, c, hp, e, hc⟩
        · refine am_aload_n 48 dX12_track_48 rfl ?_
          refine am_iload 49 dX12_track_49 rfl ?_
          refine am_iaload 51 dX12_track_51 rfl a5 (am_ix hj (by decide)) ?_
          rw [nI_clamp (n := j) (by omega), e]
          refine am_iconst 52 (v := (-1)) dX12_track_52 (by decide) ?_
          refine am_icmp_ne 53 59 dX12_track_53 rfl (fun c53 => absurd c53 (fun q => q rfl)) (fun c53 => ?_)
          refine am_goto 56 (tgt := 123) dX12_track_56 rfl ?_
          exact next _ _ _ _ _ a0 (hmt.no e) (by rw [y_fol_no ((hgb j hj).trans e)]; exact hr.flag fun i c hi _ w => ⟨by by_cases e2 : i = j; exact absurd (by rw [e2]; exact (hgb j hj).trans e) w.2; have := w.1; omega, w.2⟩) hz fun i hi => hcs1 i (by omega)
        · obtain ⟨c48, c20⟩ := m_pks48 hp
          have px56 := (m_place_spec (isY := false) c48 c20).2.2
          have py40 := (m_place_spec (isY := true) c48 c20).2.2
          simp only [if_true, Bool.false_eq_true, if_false] at px56 py40
          obtain ⟨pk, w0, w1, w2, w3, w4⟩ := a4
          have hpk : pk p = nI ((m_pks sig 48).getD p 0) := w4 p hp
          have hbp := (hgb j hj).trans e
          have epk : m_pkc sig (m_pk bst j) = (m_pks sig 48).getD p 0 := by
            unfold m_pkc
            rw [hbp, nI_clamp (n := p) (by omega)]
          have hbn : m_pk bst j ≠ -1 := by
            rw [hbp]
            exact r_nm1 (by omega)
          have h0j := (hr.at hj (hcj.trans hc)).1
          have ep : 14 < m_reg sig ((m_pks sig 48).getD p 0) → y_fol sig bst d Sj j = (va_up (y_K Sj) j (m_gone (y_K Sj j)), y_can (y_C Sj) (y_K Sj j), y_be Sj, y_li Sj, y_ca Sj + 1, y_t Sj) := fun q => (if_pos ⟨h0j, hbn⟩).trans (if_pos (by rw [epk]; exact q))
          have eg : ¬ 14 < m_reg sig ((m_pks sig 48).getD p 0) → y_fol sig bst d Sj j = (va_up (y_K Sj) j (m_move (y_K Sj j) (nI (m_placeN sig ((m_pks sig 48).getD p 0) false)) (nI (m_placeN sig ((m_pks sig 48).getD p 0) true)) (nI d)), y_C Sj, y_be Sj, y_li Sj, y_ca Sj, y_t Sj) := fun q => by
            refine (if_pos ⟨h0j, hbn⟩).trans ?_
            rw [if_neg (by rw [epk]; exact q), epk]
          generalize hcc : (m_pks sig 48).getD p 0 = cl at c48 c20 px56 py40 hpk ep eg
          have hp48 : p < 48 := by omega
          have hc1 : cs1 j = some c := hcj.trans hc
          have hX : ∃ g2 : Nat → am_C, g2 = va_up g1 (n + 5) (.inl (3, 48, .inl (va_up mt p 1))) := ⟨_, rfl⟩
          obtain ⟨g2, hX⟩ := hX
          have x5 : g2 (n + 5) = .inl (3, 48, .inl (va_up mt p 1)) := by rw [hX, am_up_eq]
          have xz : ∀ z, z ≠ n + 5 → g2 z = g1 z := fun z hz => by rw [hX, am_up_ne hz]
          have s2 : r_S m (n + 6) g2 κ sz G th h di li cs1 := a2.far (Nat.le_refl _) (xz _ (by omega)) (xz _ (by omega)) (xz _ (by omega)) fun x h1 h2 => by
            by_cases q : x = n + 5
            · exact Or.inr ⟨kn x (by omega), 3, _, by rw [q]; exact a6, by decide⟩
            · exact Or.inl (xz x q)
          have b : r_tk m n v u (n + 6) f g2 κ κ sz G th h di li cs1 gb sig (va_up mt p 1) := ⟨a1, s2, a3.trans ⟨fun _ _ => rfl, fun x hx _ _ _ => xz x (by omega)⟩ (Nat.le_refl n), r_W.on ⟨pk, w0, w1, w2, w3, w4⟩ fun x hx => xz x (by have := (hvk x hx).2.1; omega), (xz _ (by omega)).trans a5, x5, a7, a8⟩
          have y0 := (xz v (by omega)).trans w0
          have y5 := (xz (n + 2) (by omega)).trans a5
          obtain ⟨-, -, -, b4, -⟩ := id b
          have pal := s_visPalm (n := n + 6) b4 c48
          have plx := s_place (n := n + 6) (y := false) b4 c48 c20 hs
          have ply := s_place (n := n + 6) (y := true) b4 c48 c20 hs
          have s2' := s2
          obtain ⟨e0, ⟨e3, ew⟩, -, et⟩ := s2'
          unfold r_m12 at e0
          obtain ⟨ap, cl0, kk, g0, q1, q2, q3, q4, q5, rfl, q7⟩ := (et c).2.1 (ew j hj c hc1)
          have hgo : AM mX9_go 0 0 [.ref c, .int (nI (m_placeN sig cl false)), .int (nI (m_placeN sig cl true)), .int di] (n + 6) g2 (am_is none (n + 6) (va_up g2 c (.inr (9, r_kF ap (r_move (G c) (nI (m_placeN sig cl false)) (nI (m_placeN sig cl true)) (nI d)))))) := by
            rw [hdi]
            exact s_rgo g0 q2 (by omega) (by omega) hd1 hd4
          have hk2 := r_move_ok (px := m_placeN sig cl false) (py := m_placeN sig cl true) q2 (by omega) (by omega) hd1 hd4
          obtain ⟨s3, g3⟩ := s2.kin (f' := va_up g2 c (.inr (9, r_kF ap (r_move (G c) (nI (m_placeN sig cl false)) (nI (m_placeN sig cl true)) (nI d))))) (et.conG (G2 := va_up G c (r_move (G c) (nI (m_placeN sig cl false)) (nI (m_placeN sig cl true)) (nI d))) (ew j hj c hc1) (fun z hz => am_up_ne hz) (fun z hz => am_up_ne hz) ⟨ap, cl0, _, am_ue, q1, hk2, q3, q4, q5, am_up_eq.symm, q7⟩) (fun z hz => am_up_ne fun w => by rw [w] at hz; have := ew j hj c hc1; omega) (fun k hk => am_up_ne (by have := hr.2.1.1 j c hj hc1; omega))
          have nm : ¬ nI p = -1 := r_nm1 (by omega)
          have c5 := hr.2.1.1 j c hj hc1
          have har := (hr.ar iIj hj hc1).1
          have palm : ∀ g3, r_S m (n + 6) g3 κ sz (y_nG (y_caG G c) 4) th h di li (va_up cs1 j none) → r_go m (n + 6) κ κ g2 g3 → 14 < m_reg sig cl → AW mX12_track 10 100 123 [some (.ref m), some (.ref v), some (.ref (n + 2)), some (.ref (n + 5)), some (.int (nI j)), some (.int (nI cl))] [] (n + 6) g3 Q := by
            intro g3 s4 g4 q
            refine next _ _ _ _ _ (r_tk.step hvw b (Nat.le_refl _) s4 g4) (hmt.up (by omega) e) ?_ (fun i c' h1 h2 h3 => ?_) (fun i h1 h2 => (am_up_ne (by omega)).trans (hcs1 i (by omega) h2))
            · rw [ep q]
              refine (hr.cancel iIj ht hj hc1).flag fun i c' hi hc' w => ?_
              by_cases e2 : i = j
              · rw [e2, am_up_eq] at hc'
                cases hc'
              · exact ⟨by have := w.1; omega, w.2⟩
            · by_cases e2 : i = j
              · rw [e2, am_up_eq] at h3
                cases h3
              · rw [am_up_ne e2] at h3
                have c5' := hr.2.1.1 i c' (by omega) h3
                rw [y_nG_x (by omega), y_caG_x har ht (by omega)]
                exact hz i c' h1 h2 h3
          have goes : ¬ 14 < m_reg sig cl → AW mX12_track 10 100 123 [some (.ref m), some (.ref v), some (.ref (n + 2)), some (.ref (n + 5)), some (.int (nI j)), some (.int (nI cl))] [] (n + 6) (va_up g2 c (.inr (9, r_kF ap (r_move (G c) (nI (m_placeN sig cl false)) (nI (m_placeN sig cl true)) (nI d))))) Q := by
            intro q
            refine next _ _ _ _ _ (r_tk.step hvw b (Nat.le_refl _) s3 g3) (hmt.up (by omega) e) ?_ (fun i c' h1 h2 h3 => ?_) (fun i h1 h2 => hcs1 i (by omega) h2)
            · rw [eg q]
              exact hr.go iIj ht hj hc1 (by omega) (by omega) hd1 hd4 fun i hi h1 w => ⟨by have := w.1; omega, w.2⟩
            · have hi5 : i < 5 := by omega
              have hcc' : c' ≠ c := fun w => by
                have := hr.2.1.2.2 i j c hi5 hj (by rw [h3, w]) hc1
                rw [this] at h2
                exact hbn h2
              rw [am_up_ne hcc']
              exact hz i c' h1 h2 h3
          refine am_aload_n 48 dX12_track_48 rfl ?_
          refine am_iload 49 dX12_track_49 rfl ?_
          refine am_iaload 51 dX12_track_51 rfl a5 (am_ix hj (by decide)) ?_
          rw [nI_clamp (n := j) (by omega), e]
          refine am_iconst 52 (v := (-1)) dX12_track_52 (by decide) ?_
          refine am_icmp_ne 53 59 dX12_track_53 rfl (fun c53 => ?_) (fun c53 => absurd c53 nm)
          refine am_aload_n 59 dX12_track_59 rfl ?_
          refine am_getfield 60 dX12_track_60 fX12_192 w0 rfl ?_
          refine am_aload_n 63 dX12_track_63 rfl ?_
          refine am_iload 64 dX12_track_64 rfl ?_
          refine am_iaload 66 dX12_track_66 rfl a5 (am_ix hj (by decide)) ?_
          rw [nI_clamp (n := j) (by omega), e]
          refine am_iaload 67 dX12_track_67 rfl w3 (am_ix hp48 (by decide)) ?_
          rw [nI_clamp (n := p) (by omega), hpk]
          refine am_istore 68 dX12_track_68 (by decide) ?_
          refine am_aload_n 70 dX12_track_70 rfl ?_
          refine am_aload_n 71 dX12_track_71 rfl ?_
          refine am_iload 72 dX12_track_72 rfl ?_
          refine am_iaload 74 dX12_track_74 rfl a5 (am_ix hj (by decide)) ?_
          rw [nI_clamp (n := j) (by omega), e]
          refine am_iconst 75 (v := 1) dX12_track_75 (by decide) ?_
          refine am_zastore 76 dX12_track_76 rfl a6 (am_ix hp48 (by decide)) ?_
          rw [nI_clamp (n := p) (by omega)]
          generalize hY : va_up g1 (n + 5) _ = gy
          obtain rfl : gy = g2 := hY.symm.trans hX.symm
          refine am_aload_n 77 dX12_track_77 rfl ?_
          refine am_iload 78 dX12_track_78 rfl ?_
          refine AW.more (rc := 0 + (10)) (rs := 0 + (100)) (by omega) (by omega) ?_
          refine am_V1 80 (mc' := 0) (ms' := 0) (rc := 10) (rs := 100) dX12_track_80 lX12_195 ⟨by decide, by decide⟩ y0 (Nat.le_of_ble_eq_true rfl) (Nat.le_of_ble_eq_true rfl) (pal) ?_
          refine am_is_ct ?_
          refine am_if_eq 83 95 dX12_track_83 rfl (fun c83 => ?_) (fun c83 => ?_)
          · refine am_aload_n 95 dX12_track_95 rfl ?_
            refine am_getfield 96 dX12_track_96 fX12_29 e0 rfl ?_
            refine am_iload 99 dX12_track_99 rfl ?_
            refine am_aaload 101 dX12_track_101 rfl e3 (am_ix hj (by decide)) ?_
            rw [nI_clamp (n := j) (by omega), hc1, show va_rf (some c) = Value.ref c from rfl]
            refine am_aload_n 102 dX12_track_102 rfl ?_
            refine am_iload 103 dX12_track_103 rfl ?_
            refine am_iconst 105 (v := 0) dX12_track_105 (by decide) ?_
            refine AW.more (rc := 0 + (10)) (rs := 0 + (100)) (by omega) (by omega) ?_
            refine am_V2 106 (mc' := 0) (ms' := 0) (rc := 10) (rs := 100) dX12_track_106 lX12_202 ⟨by decide, by decide⟩ y0 (Nat.le_of_ble_eq_true rfl) (Nat.le_of_ble_eq_true rfl) (plx) ?_
            refine am_is_ct ?_
            refine am_aload_n 109 dX12_track_109 rfl ?_
            refine am_iload 110 dX12_track_110 rfl ?_
            refine am_iconst 112 (v := 1) dX12_track_112 (by decide) ?_
            refine AW.more (rc := 0 + (10)) (rs := 0 + (100)) (by omega) (by omega) ?_
            refine am_V2 113 (mc' := 0) (ms' := 0) (rc := 10) (rs := 100) dX12_track_113 lX12_202 ⟨by decide, by decide⟩ y0 (Nat.le_of_ble_eq_true rfl) (Nat.le_of_ble_eq_true rfl) (ply) ?_
            refine am_is_ct ?_
            refine am_aload_n 116 dX12_track_116 rfl ?_
            refine am_getfield 117 dX12_track_117 fX12_20 e0 rfl ?_
            refine AW.more (rc := 0 + (10)) (rs := 0 + (100)) (by omega) (by omega) ?_
            refine am_V3 120 (mc' := 0) (ms' := 0) (rc := 10) (rs := 100) dX12_track_120 lX12_206 ⟨by decide, by decide⟩ g0 (Nat.le_of_ble_eq_true rfl) (Nat.le_of_ble_eq_true rfl) (hgo) ?_
            refine am_is_ct ?_
            first | exact palm _ s4 g4 (Classical.byContradiction fun z => c83 (by rw [decide_eq_false z]; rfl)) | exact goes (fun z => by rw [decide_eq_true z] at c83; exact absurd c83 (by decide))
          · refine am_aload_n 86 dX12_track_86 rfl ?_
            refine am_iload 87 dX12_track_87 rfl ?_
            refine AW.more (rc := 0 + (10)) (rs := 0 + (100)) (by omega) (by omega) ?_
            refine am_V1 89 (mc' := 0) (ms' := 0) (rc := 10) (rs := 100) dX12_track_89 lX12_198 ⟨by decide, by decide⟩ e0 (Nat.le_of_ble_eq_true rfl) (Nat.le_of_ble_eq_true rfl) (s_rcancel s2 hj hc1) ?_
            rintro o n' g3 ⟨rfl, rfl, s4, g4⟩
            refine am_ctI ?_
            refine am_goto 92 (tgt := 123) dX12_track_92 rfl ?_
            first | exact palm _ s4 g4 (Classical.byContradiction fun z => c83 (by rw [decide_eq_false z]; rfl)) | exact goes (fun z => by rw [decide_eq_true z] at c83; exact absurd c83 (by decide))
      have a0 := a
      obtain ⟨a1, a2, a3, a4, a5, a6, a7, a8⟩ := a
      have a2' := a2
      obtain ⟨e0, ⟨e3, ew⟩, -, et⟩ := a2'
      unfold r_m12 at e0
      rcases hc : cs1 j with _ | c
      · refine am_iload 21 dX12_track_21 rfl ?_
        refine am_iconst 23 (v := 5) dX12_track_23 (by decide) ?_
        refine am_icmp_ge 24 129 dX12_track_24 rfl (fun c24 => absurd c24 (nI_ge hj (by decide))) (fun c24 => ?_)
        refine am_aload_n 27 dX12_track_27 rfl ?_
        refine am_getfield 28 dX12_track_28 fX12_29 (by repeat (first | assumption | exact am_ue | refine am_un (by first | assumption | decide | omega) ?_)) rfl ?_
        refine am_iload 31 dX12_track_31 rfl ?_
        refine am_aaload 33 dX12_track_33 rfl (by repeat (first | assumption | exact am_ue | refine am_un (by first | assumption | decide | omega) ?_)) (am_ix hj (by decide)) ?_
        rw [nI_clamp (n := j) (by omega), hc, show va_rf none = Value.null from rfl]
        refine am_ifnullN 34 (tgt := 48) dX12_track_34 rfl ?_
        exact half _ _ a0 hr fun i c h1 h2 h3 => (by by_cases e2 : i = j; rw [e2, hc] at h3; cases h3; exact hz i c (by omega) h2 h3)
      · obtain ⟨ap, cl0, kk, g0, q1, q2, q3, q4, q5, rfl, q7⟩ := (et c).2.1 (ew j hj c hc)
        have c5 := hr.2.1.1 j c hj hc
        obtain ⟨s3, g3⟩ := a2.kin (f' := va_up g c (.inr (9, r_kF ap (va_up (G c).1 1 0, (G c).2)))) (et.conG (G2 := va_up G c (va_up (G c).1 1 0, (G c).2)) (ew j hj c hc) (fun z hz => am_up_ne hz) (fun z hz => am_up_ne hz) ⟨ap, cl0, _, am_ue, q1, q2, q3, q4, q5, am_up_eq.symm, q7⟩) (fun z hz => am_up_ne fun w => by rw [w] at hz; have := ew j hj c hc; omega) (fun k hk => am_up_ne (by omega))
        have r3 := hr.unm (M' := fun i => i < j ∧ m_pk bst i ≠ -1) ht hj hc fun i hi w => ⟨by omega, w⟩
        have z3 : ∀ i c', i < j + 1 → m_pk bst i = -1 → cs1 i = some c' → (va_up G c (va_up (G c).1 1 0, (G c).2) c').1 1 = 0 := fun i c' h1 h2 h3 => by
          by_cases e2 : c' = c
          · rw [e2, am_up_eq]
            exact (am_up_eq : va_up (G c).1 1 0 1 = 0)
          · rw [am_up_ne e2]
            refine hz i c' ?_ h2 h3
            have : i ≠ j := fun w => e2 (Option.some.inj (by rw [← h3, w, hc]))
            omega
        unfold r_kF at g0
        refine am_iload 21 dX12_track_21 rfl ?_
        refine am_iconst 23 (v := 5) dX12_track_23 (by decide) ?_
        refine am_icmp_ge 24 129 dX12_track_24 rfl (fun c24 => absurd c24 (nI_ge hj (by decide))) (fun c24 => ?_)
        refine am_aload_n 27 dX12_track_27 rfl ?_
        refine am_getfield 28 dX12_track_28 fX12_29 (by repeat (first | assumption | exact am_ue | refine am_un (by first | assumption | decide | omega) ?_)) rfl ?_
        refine am_iload 31 dX12_track_31 rfl ?_
        refine am_aaload 33 dX12_track_33 rfl (by repeat (first | assumption | exact am_ue | refine am_un (by first | assumption | decide | omega) ?_)) (am_ix hj (by decide)) ?_
        rw [nI_clamp (n := j) (by omega), hc, show va_rf (some c) = Value.ref c from rfl]
        refine am_ifnull 34 dX12_track_34 ?_
        refine am_aload_n 37 dX12_track_37 rfl ?_
        refine am_getfield 38 dX12_track_38 fX12_29 (by repeat (first | assumption | exact am_ue | refine am_un (by first | assumption | decide | omega) ?_)) rfl ?_
        refine am_iload 41 dX12_track_41 rfl ?_
        refine am_aaload 43 dX12_track_43 rfl (by repeat (first | assumption | exact am_ue | refine am_un (by first | assumption | decide | omega) ?_)) (am_ix hj (by decide)) ?_
        rw [nI_clamp (n := j) (by omega), hc, show va_rf (some c) = Value.ref c from rfl]
        refine am_iconst 44 (v := 0) dX12_track_44 (by decide) ?_
        refine am_putfield 45 dX12_track_45 pX12_164 (by repeat (first | assumption | exact am_ue | refine am_un (by first | assumption | decide | omega) ?_)) rfl rfl (Nat.le_of_ble_eq_true rfl) ?_
        exact half _ _ (r_tk.step hvw a0 (Nat.le_refl _) s3 g3) r3 z3
  have hK : ∀ j, j < 5 → ∀ c, cs j = some c → (fun j => ((y_K S j).1 2).toNatClampNeg) j ≤ 56 ∧ (fun j => ((y_K S j).1 3).toNatClampNeg) j ≤ 56 ∧ (G c).1 2 = nI ((fun j => ((y_K S j).1 2).toNatClampNeg) j) ∧ (G c).1 3 = nI ((fun j => ((y_K S j).1 3).toNatClampNeg) j) := fun j hj c hc => by
    have he := ((hR.1 j hj).2 c hc).1
    have e2 := he.1 2 (by decide) (by decide)
    have e3 := he.1 3 (by decide) (by decide)
    obtain ⟨a, b, h1, h2, h3, h4⟩ := hxy j hj
    rw [e2, e3]
    simp only [h3, h4, nI_clamp (n := a) (by omega), nI_clamp (n := b) (by omega)]
    exact ⟨h1, h2, trivial, trivial⟩
  show AW mX12_track (4 + (10 + 1) + 1) ((0 + (m_pks sig 48).length + (m_pks sig 48).length + 5 + 5) + (100 + 48) + 8) 0 [some (.ref m), some (.ref v), none, none, none, none] [] n f Q
  refine am_new 0 (rc := 4 + (10 + 1)) (rs := (0 + (m_pks sig 48).length + (m_pks sig 48).length + 5 + 5) + (100 + 48)) (N := 8) dX12_track_0 nX12_184 ?_
  refine am_dup 3 dX12_track_3 rfl ?_
  refine am_aload_n 4 dX12_track_4 rfl ?_
  refine am_aload_n 5 dX12_track_5 rfl ?_
  refine am_I2 6 (mc' := 4) (ms' := 0 + (m_pks sig 48).length + (m_pks sig 48).length + 5 + 5) (rc := 10 + 1) (rs := 100 + 48) dX12_track_6 lX12_186 ⟨by decide, by decide⟩ (Nat.le_of_ble_eq_true rfl) (Nat.le_of_ble_eq_true rfl) (s_xMatch am_ue (s.far (Nat.le_refl _) (am_up_ne (by omega)) (am_up_ne (by omega)) (am_up_ne (by omega)) (fun x _ hx => Or.inl (am_up_ne (by omega)))) (hW.on fun x hx => am_up_ne (by have := (hvk x hx).2.1; omega)) (by omega) (by omega) hs hK) ?_
  rintro o n' f1 ⟨rfl, rfl, ⟨mo, le, c0⟩, ⟨gb, c2, hgb⟩, c3⟩
  refine ⟨_, rfl, ?_⟩
  unfold r_ob at c0
  have ex : ∀ x, x < n → f1 x = f x := fun x hx => (c3 x hx).trans (am_up_ne (by omega))
  refine am_getfield 9 dX12_track_9 fX12_189 (by repeat (first | assumption | exact am_ue | refine am_un (by first | assumption | decide | omega) ?_)) rfl ?_
  refine am_astore_n 12 dX12_track_12 (by decide) ?_
  refine am_bipush 13 (v := 48) dX12_track_13 (by decide) ?_
  refine am_newbools 15 (t := 3) (N := 48) (rc := 10) (rs := 100) dX12_track_15 ac_boolean rfl (by decide) (by decide) (by decide) ?_
  refine am_astore_n 17 dX12_track_17 (by decide) ?_
  refine am_iconst 18 (v := 0) dX12_track_18 (by decide) ?_
  refine am_istore 19 dX12_track_19 (by decide) ?_
  generalize hf2 : va_up f1 (n + 5) _ = f2
  have ex2 : ∀ x, x < n + 5 → f2 x = f1 x := fun x hx => by rw [← hf2, am_up_ne (by omega)]
  have ex3 : ∀ x, x < n → f2 x = f x := fun x hx => (ex2 x (by omega)).trans (ex x hx)
  refine hfol f2 gb (fun _ => 0) ⟨Nat.le_refl _, s.far (by omega) (ex3 _ (by omega)) (ex3 _ (by omega)) (ex3 _ (by omega)) (fun x _ hx => Or.inl (ex3 x hx)), ⟨fun _ _ => rfl, fun x hx _ _ _ => ex3 x hx⟩, hW.on fun x hx => ex3 x (hvk x hx).2.1, (ex2 _ (by omega)).trans c2, (by rw [← hf2]; exact am_up_eq), kn _ (by omega), kn _ (by omega)⟩ hgb.gd (hgbE gb hgb) (fun p hp => ⟨Or.inl rfl, ⟨fun _ i hi => absurd hi (Nat.not_lt_zero i), fun _ => rfl⟩⟩)
end RTrack2
