/-! ===== the reference: a frame followed, to the letter ===== -/
section RTrack2
variable {G : Nat → m_K}
variable {m n v u sz : Nat} {f : Nat → am_C} {κ : Nat → Nat} {th h di li : Int32} {cs : Nat → Option Nat} {sig : Nat → Int32} {K : Nat → m_K}
/-- while a frame is followed: the state, the view, the best way to match, the peaks that are taken -/
def r_tk (m n v u N : Nat) (f g : Nat → am_C) (κ κ' : Nat → Nat) (sz : Nat) (G : Nat → m_K) (th h di li : Int32) (cs' : Nat → Option Nat) (gb : Nat → Int32) (sig mt : Nat → Int32) : Prop :=
  n + 6 ≤ N ∧ r_S m N g κ' sz G th h di li cs' ∧ r_go m n κ κ' f g ∧ r_W g v u sig ∧ g (n + 2) = .inl (0, 5, .inl gb) ∧ g (n + 5) = .inl (3, 48, .inl mt) ∧ κ' (n + 2) = 0 ∧ κ' (n + 5) = 0
/-- what of the view is known: no kind, not the model's -/
def r_vw (m n v u : Nat) (κ : Nat → Nat) : Prop := m + 5 ≤ n ∧ ∀ x, x = v ∨ (u ≤ x ∧ x ≤ u + 2) → κ x = 0 ∧ x < n ∧ x ≠ m ∧ x ≠ m + 3
theorem r_tk.step {N N2 : Nat} {g g2 : Nat → am_C} {κ1 κ2 : Nat → Nat} {cs1 cs2 : Nat → Option Nat} {gb mt : Nat → Int32} {G2 : Nat → m_K} (hv : r_vw m n v u κ) (a : r_tk m n v u N f g κ κ1 sz G th h di li cs1 gb sig mt) (hN : N ≤ N2) (s : r_S m N2 g2 κ2 sz G2 th h di li cs2) (b : r_go m N κ1 κ2 g g2) : r_tk m n v u N2 f g2 κ κ2 sz G2 th h di li cs2 gb sig mt := by
  obtain ⟨a1, a2, a3, a4, a5, a6, a7, a8⟩ := a
  refine ⟨by omega, s, a3.trans b (by omega), a4.on fun x hx => ?_, (b.2 _ (by omega) a7 (by have := hv.1; omega) (by have := hv.1; omega)).trans a5, (b.2 _ (by omega) a8 (by have := hv.1; omega) (by have := hv.1; omega)).trans a6, (b.1 _ (by omega)).trans a7, (b.1 _ (by omega)).trans a8⟩
  obtain ⟨h1, h2, h3, h4⟩ := hv.2 x hx
  exact b.2 x (by omega) ((a3.1 x h2).trans h1) h3 h4
/-- the peaks that are taken, as far as the names have been gone over -/
def x_mt (gb mt : Nat → Int32) (k : Nat) : Prop := ∀ p, p < 48 → (mt p = 0 ∨ mt p = 1) ∧ (mt p = 0 ↔ ∀ i, i < k → gb i ≠ nI p)
theorem x_mt.no {gb mt : Nat → Int32} {k : Nat} (h : x_mt gb mt k) (e : gb k = -1) : x_mt gb mt (k + 1) := fun p hp => ⟨(h p hp).1, (h p hp).2.trans ⟨fun z i hi => by
  by_cases q : i = k
  · rw [q, e]
    exact fun w => r_nm1 (by omega : p < 2 ^ 31) w.symm
  · exact z i (by omega), fun z i hi => z i (by omega)⟩⟩
theorem x_mt.up {gb mt : Nat → Int32} {k q : Nat} (h : x_mt gb mt k) (hq : q < 48) (e : gb k = nI q) : x_mt gb (va_up mt q 1) (k + 1) := fun p hp => by
  by_cases w : p = q
  · subst w
    rw [am_up_eq]
    exact ⟨Or.inr rfl, ⟨fun z => absurd z (by decide), fun z => absurd e (z k (by omega))⟩⟩
  · rw [am_up_ne w]
    refine ⟨(h p hp).1, (h p hp).2.trans ⟨fun z i hi => ?_, fun z i hi => z i (by omega)⟩⟩
    by_cases v : i = k
    · rw [v, e]
      exact fun y => w ((nI_eq (by omega) (by omega)).mp y).symm
    · exact z i (by omega)
set_option maxHeartbeats 4000000 in
theorem s_xtrack {d : Nat} (s : r_S m n f κ sz G th h di li cs) (hvw : r_vw m n v u κ) (hW : r_W f v u sig) (hs : ∀ x, x < 48 → (sig x).toInt.natAbs ≤ 300000) (hd1 : 1 ≤ d) (hd4 : d ≤ 4) (hdi : di = nI d) (hR : x_R K cs G) (hxy : ∀ j, j < 5 → m_xy (K j)) (h5 : ∀ j, j < 5 → (K j).1 0 ≠ 0 → (K j).1 5 = 0 ∨ (K j).1 5 = 1) : AM mX12_track (4 + (10 + 1) + 1) ((0 + (m_pks sig 48).length + (m_pks sig 48).length + 5 + 5) + (100 + 48) + 8) [.ref m, .ref v] n f (fun o n' f' => o = .inl none ∧ n ≤ n' ∧ ∃ κ' cs' G', r_S m n' f' κ' sz G' th h di li cs' ∧ r_go m n κ κ' f f' ∧ x_R (x_fr sig (m_best (m_W sig K) (m_pks sig 48).length) d K) cs' G') := by
  have hPl := m_pks_len (sig := sig) (k := 48)
  obtain ⟨hm5, hvk⟩ := id hvw
  obtain ⟨vv0, vv1, vv2, vv3⟩ := hvk v (Or.inl rfl)
  obtain ⟨uu0, uu1, uu2, uu3⟩ := hvk (u + 2) (by omega)
  have hgbE : ∀ gb : Nat → Int32, x_lst cs sig (fun j => ((K j).1 2).toNatClampNeg) (fun j => ((K j).1 3).toNatClampNeg) gb → ∀ j, j < 5 → m_pk (m_best (m_W sig K) (m_pks sig 48).length) j = gb j := fun gb hl => x_same (fun j hj => by
    obtain ⟨a, b, h1, h2, h3, h4⟩ := hxy j hj
    simp only [h3, h4, nI_clamp (n := a) (by omega), nI_clamp (n := b) (by omega)]
    exact ⟨h1, h2, trivial, trivial⟩) (fun j hj => (hR.1 j hj).1) hl
  generalize hBe : m_best (m_W sig K) (m_pks sig 48).length = bst at hgbE
  generalize hQ : (fun (o : Option Value ⊕ Nat) (n' : Nat) (f' : Nat → am_C) => o = .inl none ∧ n ≤ n' ∧ ∃ κ' cs' G', r_S m n' f' κ' sz G' th h di li cs' ∧ r_go m n κ κ' f f' ∧ x_R (x_fr sig bst d K) cs' G') = Q
  have kn : ∀ x, n ≤ x → κ x = 0 := fun x hx => Classical.byContradiction fun q => by have := ((s.2.2.2 x).1 q).2; omega
  -- the end: claims, and one more frame taken
  have hclm : ∀ (N : Nat) (g : Nat → am_C) (κ1 : Nat → Nat) (cs1 : Nat → Option Nat) (gb : Nat → Int32) (x4 : Int32) (z5 : Option Value) (mt : Nat → Int32) (G : Nat → m_K), r_tk m n v u N f g κ κ1 sz G th h di li cs1 gb sig mt → x_R (x_fr sig bst d K) cs1 G → AW mX12_track 0 0 242 [some (.ref m), some (.ref v), some (.ref (n + 2)), some (.ref (n + 5)), some (.int x4), z5] [] N g Q := by
    intro N g κ1 cs1 gb x4 z5 mt G a hr
    have a2 := a.2.1
    obtain ⟨⟨ta, to, be, lf, ca, e0⟩, -, -, -⟩ := a2
    unfold r_m12 at e0
    refine am_aload_n 242 dX12_track_242 rfl ?_
    refine am_V0 243 (mc' := 0) (ms' := 0) (rc := 0) (rs := 0) dX12_track_243 lX12_218 ⟨by decide, by decide⟩ e0 (Nat.le_of_ble_eq_true rfl) (Nat.le_of_ble_eq_true rfl) (s_rclaims a.2.1) ?_
    rintro o n' g2 ⟨rfl, rfl, s2, g2'⟩
    refine am_ctI ?_
    have b := r_tk.step hvw a (Nat.le_refl _) s2 g2'
    have b2 := b.2.1
    obtain ⟨⟨ta2, to2, be2, lf2, ca2, y0⟩, -, -, -⟩ := b2
    unfold r_m12 at y0
    refine am_aload_n 246 dX12_track_246 rfl ?_
    refine am_dup 247 dX12_track_247 rfl ?_
    refine am_getfield 248 dX12_track_248 fX12_220 y0 rfl ?_
    refine am_iconst 251 (v := 1) dX12_track_251 (by decide) ?_
    refine am_iadd 252 dX12_track_252 ?_
    refine am_putfield 253 dX12_track_253 pX12_220 y0 rfl rfl (Nat.le_of_ble_eq_true rfl) ?_
    refine am_return 256 dX12_track_256 rfl ?_
    subst hQ
    obtain ⟨s3, g3⟩ := b.2.1.scal (th' := th) (h' := h) (di' := di) (li' := li) (ta := ta2 + 1) (to := to2) (be := be2) (lf := lf2) (ca := ca2)
    have := b.1
    exact ⟨rfl, by omega, κ1, cs1, G, s3, b.2.2.1.trans g3 (by omega), hr⟩
  -- the peaks that nobody follows
  have hbeg : ∀ (N : Nat) (g : Nat → am_C) (κ1 : Nat → Nat) (cs1 : Nat → Option Nat) (gb : Nat → Int32) (z5 : Option Value) (mt : Nat → Int32) (G : Nat → m_K), r_tk m n v u N f g κ κ1 sz G th h di li cs1 gb sig mt → (∀ j, j < 5 → m_pk bst j = gb j) → x_mt gb mt 5 → x_R (x_all (m_mis bst) (x_all (m_fol sig bst d) K 5) 5) cs1 G → AW mX12_track 10 100 171 [some (.ref m), some (.ref v), some (.ref (n + 2)), some (.ref (n + 5)), some (.int (nI 0)), z5] [] N g Q := by
    intro N g κ1 cs1 gb z5 mt G a hgb hmt hr
    have hfr := r_fr_le (cs := cs1)
    refine AW.more (rc := 2 * r_fr cs1) (rs := 20 * r_fr cs1) (by omega) (by omega) ?_
    refine am_for (m_pks sig 48).length (fun k (st : Nat × (Nat → am_C) × (Nat → Nat) × (Nat → Option Nat) × (Nat → m_K)) => r_tk m n v u st.1 f st.2.1 κ st.2.2.1 sz st.2.2.2.2 th h di li st.2.2.2.1 gb sig mt ∧ x_R (x_bN sig bst (x_all (m_mis bst) (x_all (m_fol sig bst d) K 5) 5) k) st.2.2.2.1 st.2.2.2.2) (fun k st => AW mX12_track (2 * r_fr st.2.2.2.1) (20 * r_fr st.2.2.2.1) 171 [some (.ref m), some (.ref v), some (.ref (n + 2)), some (.ref (n + 5)), some (.int (nI k)), z5] [] st.1 st.2.1 Q) ?_ ?_ 0 (N, g, κ1, cs1, G) (by omega) ⟨a, hr⟩
    · rintro ⟨N, g, κ1, cs1, G⟩ ⟨a, hr⟩
      have a : r_tk m n v u N f g κ κ1 sz G th h di li cs1 gb sig mt := a
      have hr : x_R (x_fr sig bst d K) cs1 G := hr
      show AW mX12_track (2 * r_fr cs1) (20 * r_fr cs1) 171 [some (.ref m), some (.ref v), some (.ref (n + 2)), some (.ref (n + 5)), some (.int (nI (m_pks sig 48).length)), z5] [] N g Q
      refine AW.more (rc := 0) (rs := 0) (by omega) (by omega) ?_
      obtain ⟨pk, w0, w1, w2, w3, w4⟩ := a.2.2.2.1
      refine am_iload 171 dX12_track_171 rfl ?_
      refine am_aload_n 173 dX12_track_173 rfl ?_
      refine am_getfield 174 dX12_track_174 fX12_212 w0 rfl ?_
      refine am_icmp_ge 177 242 dX12_track_177 rfl (fun c177 => ?_) (fun c177 => absurd (Int32.le_refl _) c177)
      exact hclm _ _ _ _ _ _ _ _ _ a hr
    · rintro k ⟨N, g, κ1, cs1, G⟩ hk ⟨a, hr⟩ ih
      have a : r_tk m n v u N f g κ κ1 sz G th h di li cs1 gb sig mt := a
      have hr : x_R (x_bN sig bst (x_all (m_mis bst) (x_all (m_fol sig bst d) K 5) 5) k) cs1 G := hr
      show AW mX12_track (2 * r_fr cs1) (20 * r_fr cs1) 171 [some (.ref m), some (.ref v), some (.ref (n + 2)), some (.ref (n + 5)), some (.int (nI k)), z5] [] N g Q
      have next : ∀ (N : Nat) (g : Nat → am_C) (κ1 : Nat → Nat) (cs1 : Nat → Option Nat) (G : Nat → m_K), r_tk m n v u N f g κ κ1 sz G th h di li cs1 gb sig mt → x_R (x_bN sig bst (x_all (m_mis bst) (x_all (m_fol sig bst d) K 5) 5) (k + 1)) cs1 G → AW mX12_track (2 * r_fr cs1) (20 * r_fr cs1) 236 [some (.ref m), some (.ref v), some (.ref (n + 2)), some (.ref (n + 5)), some (.int (nI k)), z5] [] N g Q := by
        intro N g κ1 cs1 G a hr
        refine am_iinc 236 (v := nI (k + 1)) dX12_track_236 rfl (nI_1 (k)) (by decide) ?_
        refine am_goto 239 (tgt := 171) dX12_track_239 rfl ?_
        exact ih (N, g, κ1, cs1, G) ⟨a, hr⟩
      have a0 := a
      obtain ⟨a1, a2, a3, a4, a5, a6, a7, a8⟩ := a
      have a4' := a4
      obtain ⟨pk, w0, w1, w2, w3, w4⟩ := a4
      obtain ⟨c48, c20⟩ := m_pks48 hk
      have hPk : ¬ nI (m_pks sig 48).length ≤ nI k := nI_ge hk (by omega)
      have hk48 : k < 48 := by omega
      have px56 := (m_place_spec (isY := false) c48 c20).2.2
      have py40 := (m_place_spec (isY := true) c48 c20).2.2
      simp only [if_true, Bool.false_eq_true, if_false] at px56 py40
      have hpk : pk k = nI ((m_pks sig 48).getD k 0) := w4 k hk
      have hnbt : x_nb sig bst k ↔ (mt k = 0 ∧ ¬ 14 < m_reg sig ((m_pks sig 48).getD k 0)) := ⟨fun z => ⟨(hmt k hk48).2.mpr fun i hi => by rw [← hgb i hi]; exact z.1 i hi, z.2⟩, fun z => ⟨fun i hi => by rw [hgb i hi]; exact (hmt k hk48).2.mp z.1 i hi, z.2⟩⟩
      have hnew := fun k1 h1 h2 h3 h4 nb => x_beg_new (k1 := k1) (N := N) hr h1 h2 h3 h4 nb
      generalize hcc : (m_pks sig 48).getD k 0 = c at c48 c20 px56 py40 hpk hnbt hnew
      have a2' := a2
      obtain ⟨⟨ta, to, be, lf, ca, e0⟩, -, -, -⟩ := a2'
      unfold r_m12 at e0
      refine AW.more (rc := 0 + 2 * r_fr cs1) (rs := 0 + 20 * r_fr cs1) (by omega) (by omega) ?_
      have pal := s_visPalm (n := N) a4' c48
      have plx := s_place (n := N) (y := false) a4' c48 c20 hs
      have ply := s_place (n := N) (y := true) a4' c48 c20 hs
      have hmid : x_nb sig bst k → AW mX12_track (2 * r_fr cs1) (20 * r_fr cs1) 201 [some (.ref m), some (.ref v), some (.ref (n + 2)), some (.ref (n + 5)), some (.int (nI k)), z5] [] N g Q := by
        intro hnb
        rcases r_first cs1 with ⟨k1, k5, kc, kb⟩ | hfull
        · have hup := r_fr_up (x := N) k5 kc
          refine AW.more (rc := 2 + 2 * r_fr (va_up cs1 k1 (some N))) (rs := 20 + 20 * r_fr (va_up cs1 k1 (some N))) (by omega) (by omega) ?_
          refine am_aload_n 201 dX12_track_201 rfl ?_
          refine am_aload_n 202 dX12_track_202 rfl ?_
          refine am_getfield 203 dX12_track_203 fX12_192 w0 rfl ?_
          refine am_iload 206 dX12_track_206 rfl ?_
          refine am_iaload 208 dX12_track_208 rfl w3 (am_ix hk48 (by decide)) ?_
          rw [nI_clamp (n := k) (by omega), hpk]
          refine am_aload_n 209 dX12_track_209 rfl ?_
          refine am_aload_n 210 dX12_track_210 rfl ?_
          refine am_getfield 211 dX12_track_211 fX12_192 w0 rfl ?_
          refine am_iload 214 dX12_track_214 rfl ?_
          refine am_iaload 216 dX12_track_216 rfl w3 (am_ix hk48 (by decide)) ?_
          rw [nI_clamp (n := k) (by omega), hpk]
          refine am_iconst 217 (v := 0) dX12_track_217 (by decide) ?_
          refine AW.more (rc := 0 + (2 + 2 * r_fr (va_up cs1 k1 (some N)))) (rs := 0 + (20 + 20 * r_fr (va_up cs1 k1 (some N)))) (by omega) (by omega) ?_
          refine am_V2 218 (mc' := 0) (ms' := 0) (rc := 2 + 2 * r_fr (va_up cs1 k1 (some N))) (rs := 20 + 20 * r_fr (va_up cs1 k1 (some N))) dX12_track_218 lX12_202 ⟨by decide, by decide⟩ w0 (Nat.le_of_ble_eq_true rfl) (Nat.le_of_ble_eq_true rfl) (plx) ?_
          refine am_is_ct ?_
          refine am_aload_n 221 dX12_track_221 rfl ?_
          refine am_aload_n 222 dX12_track_222 rfl ?_
          refine am_getfield 223 dX12_track_223 fX12_192 w0 rfl ?_
          refine am_iload 226 dX12_track_226 rfl ?_
          refine am_iaload 228 dX12_track_228 rfl w3 (am_ix hk48 (by decide)) ?_
          rw [nI_clamp (n := k) (by omega), hpk]
          refine am_iconst 229 (v := 1) dX12_track_229 (by decide) ?_
          refine AW.more (rc := 0 + (2 + 2 * r_fr (va_up cs1 k1 (some N)))) (rs := 0 + (20 + 20 * r_fr (va_up cs1 k1 (some N)))) (by omega) (by omega) ?_
          refine am_V2 230 (mc' := 0) (ms' := 0) (rc := 2 + 2 * r_fr (va_up cs1 k1 (some N))) (rs := 20 + 20 * r_fr (va_up cs1 k1 (some N))) dX12_track_230 lX12_202 ⟨by decide, by decide⟩ w0 (Nat.le_of_ble_eq_true rfl) (Nat.le_of_ble_eq_true rfl) (ply) ?_
          refine am_is_ct ?_
          refine am_V3 233 (mc' := 2) (ms' := 20) (rc := 2 * r_fr (va_up cs1 k1 (some N))) (rs := 20 * r_fr (va_up cs1 k1 (some N))) dX12_track_233 lX12_215 ⟨by decide, by decide⟩ e0 (Nat.le_of_ble_eq_true rfl) (Nat.le_of_ble_eq_true rfl) (s_begin2 a2 k5 kc kb (by omega) (by omega)) ?_
          rintro o n' g2 ⟨rfl, rfl, s2, go2⟩
          refine am_ctI ?_
          exact next _ _ _ _ _ (r_tk.step hvw a0 (by omega) s2 go2) (hnew k1 k5 kc kb (fun i c2 hi hc2 => by have := (a2.cn hi hc2).2.2; omega) hnb)
        · refine am_aload_n 201 dX12_track_201 rfl ?_
          refine am_aload_n 202 dX12_track_202 rfl ?_
          refine am_getfield 203 dX12_track_203 fX12_192 w0 rfl ?_
          refine am_iload 206 dX12_track_206 rfl ?_
          refine am_iaload 208 dX12_track_208 rfl w3 (am_ix hk48 (by decide)) ?_
          rw [nI_clamp (n := k) (by omega), hpk]
          refine am_aload_n 209 dX12_track_209 rfl ?_
          refine am_aload_n 210 dX12_track_210 rfl ?_
          refine am_getfield 211 dX12_track_211 fX12_192 w0 rfl ?_
          refine am_iload 214 dX12_track_214 rfl ?_
          refine am_iaload 216 dX12_track_216 rfl w3 (am_ix hk48 (by decide)) ?_
          rw [nI_clamp (n := k) (by omega), hpk]
          refine am_iconst 217 (v := 0) dX12_track_217 (by decide) ?_
          refine AW.more (rc := 0 + (2 * r_fr cs1)) (rs := 0 + (20 * r_fr cs1)) (by omega) (by omega) ?_
          refine am_V2 218 (mc' := 0) (ms' := 0) (rc := 2 * r_fr cs1) (rs := 20 * r_fr cs1) dX12_track_218 lX12_202 ⟨by decide, by decide⟩ w0 (Nat.le_of_ble_eq_true rfl) (Nat.le_of_ble_eq_true rfl) (plx) ?_
          refine am_is_ct ?_
          refine am_aload_n 221 dX12_track_221 rfl ?_
          refine am_aload_n 222 dX12_track_222 rfl ?_
          refine am_getfield 223 dX12_track_223 fX12_192 w0 rfl ?_
          refine am_iload 226 dX12_track_226 rfl ?_
          refine am_iaload 228 dX12_track_228 rfl w3 (am_ix hk48 (by decide)) ?_
          rw [nI_clamp (n := k) (by omega), hpk]
          refine am_iconst 229 (v := 1) dX12_track_229 (by decide) ?_
          refine AW.more (rc := 0 + (2 * r_fr cs1)) (rs := 0 + (20 * r_fr cs1)) (by omega) (by omega) ?_
          refine am_V2 230 (mc' := 0) (ms' := 0) (rc := 2 * r_fr cs1) (rs := 20 * r_fr cs1) dX12_track_230 lX12_202 ⟨by decide, by decide⟩ w0 (Nat.le_of_ble_eq_true rfl) (Nat.le_of_ble_eq_true rfl) (ply) ?_
          refine am_is_ct ?_
          refine AW.more (rc := 0 + (2 * r_fr cs1)) (rs := 0 + (20 * r_fr cs1)) (by omega) (by omega) ?_
          refine am_V3 233 (mc' := 0) (ms' := 0) (rc := 2 * r_fr cs1) (rs := 20 * r_fr cs1) dX12_track_233 lX12_215 ⟨by decide, by decide⟩ e0 (Nat.le_of_ble_eq_true rfl) (Nat.le_of_ble_eq_true rfl) (s_begin0 a2 hfull) ?_
          refine am_is_ct ?_
          exact next _ _ _ _ _ a0 (x_beg_full hr hfull)
      refine AW.more (rc := 2 * r_fr cs1) (rs := 20 * r_fr cs1) (by omega) (by omega) ?_
      refine am_iload 171 dX12_track_171 rfl ?_
      refine am_aload_n 173 dX12_track_173 rfl ?_
      refine am_getfield 174 dX12_track_174 fX12_212 w0 rfl ?_
      refine am_icmp_ge 177 242 dX12_track_177 rfl (fun c177 => absurd c177 hPk) (fun c177 => ?_)
      refine am_aload_n 180 dX12_track_180 rfl ?_
      refine am_iload 181 dX12_track_181 rfl ?_
      refine am_zaload 183 dX12_track_183 rfl a6 (am_ix hk48 (by decide)) ?_
      refine am_if_ne 184 236 dX12_track_184 rfl (fun c184 => ?_) (fun c184 => ?_)
      · first | exact next _ _ _ _ _ a0 (x_beg_no hr fun z => c184 (by rw [nI_clamp (n := k) (by omega)]; exact (hnbt.mp z).1)) | exact next _ _ _ _ _ a0 (x_beg_no hr fun z => c198 (by rw [decide_eq_false (hnbt.mp z).2]; rfl))
      · refine am_aload_n 187 dX12_track_187 rfl ?_
        refine am_aload_n 188 dX12_track_188 rfl ?_
        refine am_getfield 189 dX12_track_189 fX12_192 w0 rfl ?_
        refine am_iload 192 dX12_track_192 rfl ?_
        refine am_iaload 194 dX12_track_194 rfl w3 (am_ix hk48 (by decide)) ?_
        rw [nI_clamp (n := k) (by omega), hpk]
        refine AW.more (rc := 0 + (2 * r_fr cs1)) (rs := 0 + (20 * r_fr cs1)) (by omega) (by omega) ?_
        refine am_V1 195 (mc' := 0) (ms' := 0) (rc := 2 * r_fr cs1) (rs := 20 * r_fr cs1) dX12_track_195 lX12_195 ⟨by decide, by decide⟩ w0 (Nat.le_of_ble_eq_true rfl) (Nat.le_of_ble_eq_true rfl) (pal) ?_
        refine am_is_ct ?_
        refine am_if_ne 198 236 dX12_track_198 rfl (fun c198 => ?_) (fun c198 => ?_)
        · first | exact next _ _ _ _ _ a0 (x_beg_no hr fun z => c184 (by rw [nI_clamp (n := k) (by omega)]; exact (hnbt.mp z).1)) | exact next _ _ _ _ _ a0 (x_beg_no hr fun z => c198 (by rw [decide_eq_false (hnbt.mp z).2]; rfl))
        · rw [nI_clamp (n := k) (by omega)] at c184
          refine hmid (hnbt.mpr ⟨c184, fun z => ?_⟩)
          rw [decide_eq_true z] at c198
          exact absurd c198 (by decide)
  -- contacts that no peak is for
  have hmis : ∀ (N : Nat) (g : Nat → am_C) (cs1 : Nat → Option Nat) (gb : Nat → Int32) (z5 : Option Value) (mt : Nat → Int32) (G : Nat → m_K), r_tk m n v u N f g κ κ sz G th h di li cs1 gb sig mt → (∀ j, j < 5 → m_pk bst j = gb j) → x_mt gb mt 5 → x_R (x_all (m_fol sig bst d) K 5) cs1 G → AW mX12_track 10 100 132 [some (.ref m), some (.ref v), some (.ref (n + 2)), some (.ref (n + 5)), some (.int (nI 0)), z5] [] N g Q := by
    intro N g cs1 gb z5 mt G a hgb hmt hr
    refine am_for 5 (fun j (st : (Nat → am_C) × (Nat → Option Nat) × (Nat → m_K)) => r_tk m n v u N f st.1 κ κ sz st.2.2 th h di li st.2.1 gb sig mt ∧ x_R (x_all (m_mis bst) (x_all (m_fol sig bst d) K 5) j) st.2.1 st.2.2) (fun j st => AW mX12_track 10 100 132 [some (.ref m), some (.ref v), some (.ref (n + 2)), some (.ref (n + 5)), some (.int (nI j)), z5] [] N st.1 Q) ?_ ?_ 0 (g, cs1, G) (by omega) ⟨a, hr.congr fun j _ => if_neg (Nat.not_lt_zero j)⟩
    · rintro ⟨g, cs1, G⟩ ⟨a, hr⟩
      show AW mX12_track 10 100 132 [some (.ref m), some (.ref v), some (.ref (n + 2)), some (.ref (n + 5)), some (.int (nI 5)), z5] [] N g Q
      refine am_iload 132 dX12_track_132 rfl ?_
      refine am_iconst 134 (v := 5) dX12_track_134 (by decide) ?_
      refine am_icmp_ge 135 168 dX12_track_135 rfl (fun c135 => ?_) (fun c135 => absurd (by decide) c135)
      refine am_iconst 168 (v := 0) dX12_track_168 (by decide) ?_
      refine am_istore 169 dX12_track_169 (by decide) ?_
      exact hbeg _ _ _ _ _ _ _ _ a hgb hmt hr
    · rintro j ⟨g, cs1, G⟩ hj ⟨a, hr⟩ ih
      have a : r_tk m n v u N f g κ κ sz G th h di li cs1 gb sig mt := a
      have hr : x_R (x_all (m_mis bst) (x_all (m_fol sig bst d) K 5) j) cs1 G := hr
      show AW mX12_track 10 100 132 [some (.ref m), some (.ref v), some (.ref (n + 2)), some (.ref (n + 5)), some (.int (nI j)), z5] [] N g Q
      have next : ∀ (g : Nat → am_C) (cs1 : Nat → Option Nat) (G : Nat → m_K), r_tk m n v u N f g κ κ sz G th h di li cs1 gb sig mt → x_R (x_all (m_mis bst) (x_all (m_fol sig bst d) K 5) (j + 1)) cs1 G → AW mX12_track 10 100 162 [some (.ref m), some (.ref v), some (.ref (n + 2)), some (.ref (n + 5)), some (.int (nI j)), z5] [] N g Q := by
        intro g cs1 G a hr
        refine am_iinc 162 (v := nI (j + 1)) dX12_track_162 rfl (nI_1 (j)) (by decide) ?_
        refine am_goto 165 (tgt := 132) dX12_track_165 rfl ?_
        exact ih (_, _, _) ⟨a, hr⟩
      have a0 := a
      obtain ⟨a1, a2, a3, a4, a5, a6, a7, a8⟩ := a
      have a2' := a2
      obtain ⟨⟨ta, to, be, lf, ca, e0⟩, ⟨e3, -⟩, -, -⟩ := a2'
      unfold r_m12 at e0
      have h51 : (x_all (m_fol sig bst d) K 5 j).1 0 ≠ 0 → (x_all (m_fol sig bst d) K 5 j).1 5 = 0 ∨ (x_all (m_fol sig bst d) K 5 j).1 5 = 1 := by
        rw [show x_all (m_fol sig bst d) K 5 j = m_fol sig bst d K j from if_pos hj]
        exact x_fol5 (h5 j hj)
      rcases hc : cs1 j with _ | c
      · refine am_iload 132 dX12_track_132 rfl ?_
        refine am_iconst 134 (v := 5) dX12_track_134 (by decide) ?_
        refine am_icmp_ge 135 168 dX12_track_135 rfl (fun c135 => absurd c135 (nI_ge hj (by decide))) (fun c135 => ?_)
        refine am_aload_n 138 dX12_track_138 rfl ?_
        refine am_getfield 139 dX12_track_139 fX12_29 (by repeat (first | assumption | exact am_ue | refine am_un (by first | assumption | decide | omega) ?_)) rfl ?_
        refine am_iload 142 dX12_track_142 rfl ?_
        refine am_aaload 144 dX12_track_144 rfl (by repeat (first | assumption | exact am_ue | refine am_un (by first | assumption | decide | omega) ?_)) (am_ix hj (by decide)) ?_
        rw [nI_clamp (n := j) (by omega), hc, show va_rf none = Value.null from rfl]
        refine am_ifnullN 145 (tgt := 162) dX12_track_145 rfl ?_
        exact next _ _ _ a0 (hr.same (x_mis_no (Or.inl (hr.no hj hc))))
      · refine am_iload 132 dX12_track_132 rfl ?_
        refine am_iconst 134 (v := 5) dX12_track_134 (by decide) ?_
        refine am_icmp_ge 135 168 dX12_track_135 rfl (fun c135 => absurd c135 (nI_ge hj (by decide))) (fun c135 => ?_)
        refine am_aload_n 138 dX12_track_138 rfl ?_
        refine am_getfield 139 dX12_track_139 fX12_29 (by repeat (first | assumption | exact am_ue | refine am_un (by first | assumption | decide | omega) ?_)) rfl ?_
        refine am_iload 142 dX12_track_142 rfl ?_
        refine am_aaload 144 dX12_track_144 rfl (by repeat (first | assumption | exact am_ue | refine am_un (by first | assumption | decide | omega) ?_)) (am_ix hj (by decide)) ?_
        rw [nI_clamp (n := j) (by omega), hc, show va_rf (some c) = Value.ref c from rfl]
        refine am_ifnull 145 dX12_track_145 ?_
        refine am_aload_n 148 dX12_track_148 rfl ?_
        refine am_iload 149 dX12_track_149 rfl ?_
        refine am_iaload 151 dX12_track_151 rfl a5 (am_ix hj (by decide)) ?_
        rw [nI_clamp (n := j) (by omega)]
        refine am_iconst 152 (v := (-1)) dX12_track_152 (by decide) ?_
        refine am_icmp_ne 153 162 dX12_track_153 rfl (fun c153 => ?_) (fun c153 => ?_)
        · first | exact next _ _ _ (r_tk.step hvw a0 (Nat.le_refl _) s2 go2) (x_mis_step hr hj hc (h51 (hr.at hj hc).1) ((hgb j hj).trans c153) hq2) | exact next _ _ _ a0 (hr.same (x_mis_no (Or.inr fun z => c153 ((hgb j hj).symm.trans z))))
        · refine am_aload_n 156 dX12_track_156 rfl ?_
          refine am_iload 157 dX12_track_157 rfl ?_
          refine AW.more (rc := 0 + (10)) (rs := 0 + (100)) (by omega) (by omega) ?_
          refine am_V1 159 (mc' := 0) (ms' := 0) (rc := 10) (rs := 100) dX12_track_159 lX12_209 ⟨by decide, by decide⟩ e0 (Nat.le_of_ble_eq_true rfl) (Nat.le_of_ble_eq_true rfl) (s_rmiss a2 hj hc) ?_
          rintro o n' g2 ⟨rfl, rfl, cs2, hq2, s2, go2⟩
          refine am_ctI ?_
          first | exact next _ _ _ (r_tk.step hvw a0 (Nat.le_refl _) s2 go2) (x_mis_step hr hj hc (h51 (hr.at hj hc).1) ((hgb j hj).trans c153) hq2) | exact next _ _ _ a0 (hr.same (x_mis_no (Or.inr fun z => c153 ((hgb j hj).symm.trans z))))
  -- what each contact follows
  have hfol : ∀ (g : Nat → am_C) (gb mt : Nat → Int32), r_tk m n v u (n + 6) f g κ κ sz G th h di li cs gb sig mt → r_gd cs (m_pks sig 48).length gb → (∀ j, j < 5 → m_pk bst j = gb j) → x_mt gb mt 0 → AW mX12_track 10 100 21 [some (.ref m), some (.ref v), some (.ref (n + 2)), some (.ref (n + 5)), some (.int (nI 0)), none] [] (n + 6) g Q := by
    intro g gb mt a hgd hgb hmt
    refine am_for 5 (fun j (st : ((Nat → am_C) × (Nat → Option Nat) × (Nat → m_K) × (Nat → Int32)) × Option Value) => (r_tk m n v u (n + 6) f st.1.1 κ κ sz st.1.2.2.1 th h di li st.1.2.1 gb sig st.1.2.2.2 ∧ x_mt gb st.1.2.2.2 j ∧ x_R (x_all (m_fol sig bst d) K j) st.1.2.1 st.1.2.2.1) ∧ ∀ i, j ≤ i → i < 5 → st.1.2.1 i = cs i) (fun j st => AW mX12_track 10 100 21 [some (.ref m), some (.ref v), some (.ref (n + 2)), some (.ref (n + 5)), some (.int (nI j)), st.2] [] (n + 6) st.1.1 Q) ?_ ?_ 0 ((g, cs, G, mt), none) (by omega) ⟨⟨a, hmt, hR.congr fun j _ => if_neg (Nat.not_lt_zero j)⟩, fun _ _ _ => rfl⟩
    · rintro ⟨⟨g, cs1, G, mt⟩, z5⟩ ⟨⟨a, hmt, hr⟩, -⟩
      show AW mX12_track 10 100 21 [some (.ref m), some (.ref v), some (.ref (n + 2)), some (.ref (n + 5)), some (.int (nI 5)), z5] [] (n + 6) g Q
      refine am_iload 21 dX12_track_21 rfl ?_
      refine am_iconst 23 (v := 5) dX12_track_23 (by decide) ?_
      refine am_icmp_ge 24 129 dX12_track_24 rfl (fun c24 => ?_) (fun c24 => absurd (by decide) c24)
      refine am_iconst 129 (v := 0) dX12_track_129 (by decide) ?_
      refine am_istore 130 dX12_track_130 (by decide) ?_
      exact hmis _ _ _ _ _ _ _ a hgb hmt hr
    · rintro j ⟨⟨g, cs1, G, mt⟩, z5⟩ hj ⟨⟨a, hmt, hr⟩, hcs1⟩ ih
      have hmt : x_mt gb mt j := hmt
      have hr : x_R (x_all (m_fol sig bst d) K j) cs1 G := hr
      have a : r_tk m n v u (n + 6) f g κ κ sz G th h di li cs1 gb sig mt := a
      have hcs1 : ∀ i, j ≤ i → i < 5 → cs1 i = cs i := hcs1
      show AW mX12_track 10 100 21 [some (.ref m), some (.ref v), some (.ref (n + 2)), some (.ref (n + 5)), some (.int (nI j)), z5] [] (n + 6) g Q
      have next : ∀ (g : Nat → am_C) (cs1 : Nat → Option Nat) (z5 : Option Value) (mt : Nat → Int32) (G : Nat → m_K), r_tk m n v u (n + 6) f g κ κ sz G th h di li cs1 gb sig mt → x_mt gb mt (j + 1) → x_R (x_all (m_fol sig bst d) K (j + 1)) cs1 G → (∀ i, j + 1 ≤ i → i < 5 → cs1 i = cs i) → AW mX12_track 10 100 123 [some (.ref m), some (.ref v), some (.ref (n + 2)), some (.ref (n + 5)), some (.int (nI j)), z5] [] (n + 6) g Q := by
        intro g cs1 z5 mt G a hmt hr b
        refine am_iinc 123 (v := nI (j + 1)) dX12_track_123 rfl (nI_1 (j)) (by decide) ?_
        refine am_goto 126 (tgt := 21) dX12_track_126 rfl ?_
        exact ih ((_, _, _, _), _) ⟨⟨a, hmt, hr⟩, b⟩
      have hcj := hcs1 j (Nat.le_refl _) hj
      -- the second half, from the look at the peak on
      have half : ∀ g1 : Nat → am_C, r_tk m n v u (n + 6) f g1 κ κ sz G th h di li cs1 gb sig mt → AW mX12_track 10 100 48 [some (.ref m), some (.ref v), some (.ref (n + 2)), some (.ref (n + 5)), some (.int (nI j)), z5] [] (n + 6) g1 Q := by
        intro g1 a
        have a0 := a
        obtain ⟨a1, a2, a3, a4, a5, a6, a7, a8⟩ := a
        rcases hgd j hj with e | ⟨p, c, hp, e, hc⟩
        · refine am_aload_n 48 dX12_track_48 rfl ?_
          refine am_iload 49 dX12_track_49 rfl ?_
          refine am_iaload 51 dX12_track_51 rfl a5 (am_ix hj (by decide)) ?_
          rw [nI_clamp (n := j) (by omega), e]
          refine am_iconst 52 (v := (-1)) dX12_track_52 (by decide) ?_
          refine am_icmp_ne 53 59 dX12_track_53 rfl (fun c53 => absurd c53 (fun q => q rfl)) (fun c53 => ?_)
          refine am_goto 56 (tgt := 123) dX12_track_56 rfl ?_
          exact next _ _ _ _ _ a0 (hmt.no e) (hr.same (x_fol_no (Or.inr ((hgb j hj).trans e)))) fun i hi => hcs1 i (by omega)
        · obtain ⟨c48, c20⟩ := m_pks48 hp
          have px56 := (m_place_spec (isY := false) c48 c20).2.2
          have py40 := (m_place_spec (isY := true) c48 c20).2.2
          simp only [if_true, Bool.false_eq_true, if_false] at px56 py40
          obtain ⟨pk, w0, w1, w2, w3, w4⟩ := a4
          have hpk : pk p = nI ((m_pks sig 48).getD p 0) := w4 p hp
          have hbp := (hgb j hj).trans e
          have hfp := x_fol_palm hr hj (hcj.trans hc) hbp (by omega)
          have hfg := x_fol_go hr hj (hcj.trans hc) hbp (by omega)
          generalize hcc : (m_pks sig 48).getD p 0 = cl at c48 c20 px56 py40 hpk hfp hfg
          have hp48 : p < 48 := by omega
          have hc1 : cs1 j = some c := hcj.trans hc
          have hX : ∃ g2 : Nat → am_C, g2 = va_up g1 (n + 5) (.inl (3, 48, .inl (va_up mt p 1))) := ⟨_, rfl⟩
          obtain ⟨g2, hX⟩ := hX
          have x5 : g2 (n + 5) = .inl (3, 48, .inl (va_up mt p 1)) := by rw [hX, am_up_eq]
          have xz : ∀ z, z ≠ n + 5 → g2 z = g1 z := fun z hz => by rw [hX, am_up_ne hz]
          have s2 : r_S m (n + 6) g2 κ sz G th h di li cs1 := a2.far (Nat.le_refl _) (xz _ (by omega)) (xz _ (by omega)) (xz _ (by omega)) fun x h1 h2 => by
            by_cases q : x = n + 5
            · exact Or.inr ⟨kn x (by omega), 3, _, by rw [q]; exact a6, by decide⟩
            · exact Or.inl (xz x q)
          have b : r_tk m n v u (n + 6) f g2 κ κ sz G th h di li cs1 gb sig (va_up mt p 1) := ⟨a1, s2, a3.trans ⟨fun _ _ => rfl, fun x hx _ _ _ => xz x (by omega)⟩ (Nat.le_refl n), r_W.on ⟨pk, w0, w1, w2, w3, w4⟩ fun x hx => xz x (by have := (hvk x hx).2.1; omega), (xz _ (by omega)).trans a5, x5, a7, a8⟩
          have y0 := (xz v (by omega)).trans w0
          have y5 := (xz (n + 2) (by omega)).trans a5
          obtain ⟨-, -, -, b4, -⟩ := id b
          have pal := s_visPalm (n := n + 6) b4 c48
          have plx := s_place (n := n + 6) (y := false) b4 c48 c20 hs
          have ply := s_place (n := n + 6) (y := true) b4 c48 c20 hs
          have s2' := s2
          obtain ⟨⟨ta, to, be, lf, ca, e0⟩, ⟨e3, ew⟩, -, et⟩ := s2'
          unfold r_m12 at e0
          obtain ⟨ap, cl0, kk, g0, q1, q2, q3, q4, q5⟩ := (et c).2.1 (ew j hj c hc1)
          have hgo : AM mX9_go 0 0 [.ref c, .int (nI (m_placeN sig cl false)), .int (nI (m_placeN sig cl true)), .int di] (n + 6) g2 (am_is none (n + 6) (va_up g2 c (.inr (9, r_kF ap (r_move kk (nI (m_placeN sig cl false)) (nI (m_placeN sig cl true)) (nI d)))))) := by
            rw [hdi]
            exact s_rgo g0 q2 (by omega) (by omega) hd1 hd4
          have hk2 := r_move_ok (px := m_placeN sig cl false) (py := m_placeN sig cl true) q2 (by omega) (by omega) hd1 hd4
          obtain ⟨s3, g3⟩ := s2.kin (f' := va_up g2 c (.inr (9, r_kF ap (r_move kk (nI (m_placeN sig cl false)) (nI (m_placeN sig cl true)) (nI d))))) (et.conG (G2 := va_up G c (m_move (G c) (nI (m_placeN sig cl false)) (nI (m_placeN sig cl true)) (nI d))) (ew j hj c hc1) (fun z hz => am_up_ne hz) (fun z hz => am_up_ne hz) ⟨ap, cl0, _, am_ue, q1, hk2, q3, q4, q5.1, by rw [am_up_eq]; exact x_rmove q5.2⟩) (fun z hz => am_up_ne fun w => by rw [w] at hz; have := ew j hj c hc1; omega)
          have nm : ¬ nI p = -1 := r_nm1 (by omega)
          refine am_aload_n 48 dX12_track_48 rfl ?_
          refine am_iload 49 dX12_track_49 rfl ?_
          refine am_iaload 51 dX12_track_51 rfl a5 (am_ix hj (by decide)) ?_
          rw [nI_clamp (n := j) (by omega), e]
          refine am_iconst 52 (v := (-1)) dX12_track_52 (by decide) ?_
          refine am_icmp_ne 53 59 dX12_track_53 rfl (fun c53 => ?_) (fun c53 => absurd c53 nm)
          refine am_aload_n 59 dX12_track_59 rfl ?_
          refine am_getfield 60 dX12_track_60 fX12_192 w0 rfl ?_
          refine am_aload_n 63 dX12_track_63 rfl ?_
          refine am_iload 64 dX12_track_64 rfl ?_
          refine am_iaload 66 dX12_track_66 rfl a5 (am_ix hj (by decide)) ?_
          rw [nI_clamp (n := j) (by omega), e]
          refine am_iaload 67 dX12_track_67 rfl w3 (am_ix hp48 (by decide)) ?_
          rw [nI_clamp (n := p) (by omega), hpk]
          refine am_istore 68 dX12_track_68 (by decide) ?_
          refine am_aload_n 70 dX12_track_70 rfl ?_
          refine am_aload_n 71 dX12_track_71 rfl ?_
          refine am_iload 72 dX12_track_72 rfl ?_
          refine am_iaload 74 dX12_track_74 rfl a5 (am_ix hj (by decide)) ?_
          rw [nI_clamp (n := j) (by omega), e]
          refine am_iconst 75 (v := 1) dX12_track_75 (by decide) ?_
          refine am_zastore 76 dX12_track_76 rfl a6 (am_ix hp48 (by decide)) ?_
          rw [nI_clamp (n := p) (by omega)]
          generalize hY : va_up g1 (n + 5) _ = gy
          obtain rfl : gy = g2 := hY.symm.trans hX.symm
          refine am_aload_n 77 dX12_track_77 rfl ?_
          refine am_iload 78 dX12_track_78 rfl ?_
          refine AW.more (rc := 0 + (10)) (rs := 0 + (100)) (by omega) (by omega) ?_
          refine am_V1 80 (mc' := 0) (ms' := 0) (rc := 10) (rs := 100) dX12_track_80 lX12_195 ⟨by decide, by decide⟩ y0 (Nat.le_of_ble_eq_true rfl) (Nat.le_of_ble_eq_true rfl) (pal) ?_
          refine am_is_ct ?_
          refine am_if_eq 83 95 dX12_track_83 rfl (fun c83 => ?_) (fun c83 => ?_)
          · refine am_aload_n 95 dX12_track_95 rfl ?_
            refine am_getfield 96 dX12_track_96 fX12_29 e0 rfl ?_
            refine am_iload 99 dX12_track_99 rfl ?_
            refine am_aaload 101 dX12_track_101 rfl e3 (am_ix hj (by decide)) ?_
            rw [nI_clamp (n := j) (by omega), hc1, show va_rf (some c) = Value.ref c from rfl]
            refine am_aload_n 102 dX12_track_102 rfl ?_
            refine am_iload 103 dX12_track_103 rfl ?_
            refine am_iconst 105 (v := 0) dX12_track_105 (by decide) ?_
            refine AW.more (rc := 0 + (10)) (rs := 0 + (100)) (by omega) (by omega) ?_
            refine am_V2 106 (mc' := 0) (ms' := 0) (rc := 10) (rs := 100) dX12_track_106 lX12_202 ⟨by decide, by decide⟩ y0 (Nat.le_of_ble_eq_true rfl) (Nat.le_of_ble_eq_true rfl) (plx) ?_
            refine am_is_ct ?_
            refine am_aload_n 109 dX12_track_109 rfl ?_
            refine am_iload 110 dX12_track_110 rfl ?_
            refine am_iconst 112 (v := 1) dX12_track_112 (by decide) ?_
            refine AW.more (rc := 0 + (10)) (rs := 0 + (100)) (by omega) (by omega) ?_
            refine am_V2 113 (mc' := 0) (ms' := 0) (rc := 10) (rs := 100) dX12_track_113 lX12_202 ⟨by decide, by decide⟩ y0 (Nat.le_of_ble_eq_true rfl) (Nat.le_of_ble_eq_true rfl) (ply) ?_
            refine am_is_ct ?_
            refine am_aload_n 116 dX12_track_116 rfl ?_
            refine am_getfield 117 dX12_track_117 fX12_20 e0 rfl ?_
            refine AW.more (rc := 0 + (10)) (rs := 0 + (100)) (by omega) (by omega) ?_
            refine am_V3 120 (mc' := 0) (ms' := 0) (rc := 10) (rs := 100) dX12_track_120 lX12_206 ⟨by decide, by decide⟩ g0 (Nat.le_of_ble_eq_true rfl) (Nat.le_of_ble_eq_true rfl) (hgo) ?_
            refine am_is_ct ?_
            first | exact next _ _ _ _ _ (r_tk.step hvw b (Nat.le_refl _) s4 g4) (hmt.up (by omega) e) (hfp (Classical.byContradiction fun z => c83 (by rw [decide_eq_false z]; rfl))) (fun i h1 h2 => (am_up_ne (by omega)).trans (hcs1 i (by omega) h2)) | exact next _ _ _ _ _ (r_tk.step hvw b (Nat.le_refl _) s3 g3) (hmt.up (by omega) e) (hfg fun z => by rw [decide_eq_true z] at c83; exact absurd c83 (by decide)) (fun i h1 h2 => hcs1 i (by omega) h2)
          · refine am_aload_n 86 dX12_track_86 rfl ?_
            refine am_iload 87 dX12_track_87 rfl ?_
            refine AW.more (rc := 0 + (10)) (rs := 0 + (100)) (by omega) (by omega) ?_
            refine am_V1 89 (mc' := 0) (ms' := 0) (rc := 10) (rs := 100) dX12_track_89 lX12_198 ⟨by decide, by decide⟩ e0 (Nat.le_of_ble_eq_true rfl) (Nat.le_of_ble_eq_true rfl) (s_rcancel s2 hj hc1) ?_
            rintro o n' g3 ⟨rfl, rfl, s4, g4⟩
            refine am_ctI ?_
            refine am_goto 92 (tgt := 123) dX12_track_92 rfl ?_
            first | exact next _ _ _ _ _ (r_tk.step hvw b (Nat.le_refl _) s4 g4) (hmt.up (by omega) e) (hfp (Classical.byContradiction fun z => c83 (by rw [decide_eq_false z]; rfl))) (fun i h1 h2 => (am_up_ne (by omega)).trans (hcs1 i (by omega) h2)) | exact next _ _ _ _ _ (r_tk.step hvw b (Nat.le_refl _) s3 g3) (hmt.up (by omega) e) (hfg fun z => by rw [decide_eq_true z] at c83; exact absurd c83 (by decide)) (fun i h1 h2 => hcs1 i (by omega) h2)
      have a0 := a
      obtain ⟨a1, a2, a3, a4, a5, a6, a7, a8⟩ := a
      have a2' := a2
      obtain ⟨⟨ta, to, be, lf, ca, e0⟩, ⟨e3, ew⟩, -, et⟩ := a2'
      unfold r_m12 at e0
      rcases hc : cs1 j with _ | c
      · refine am_iload 21 dX12_track_21 rfl ?_
        refine am_iconst 23 (v := 5) dX12_track_23 (by decide) ?_
        refine am_icmp_ge 24 129 dX12_track_24 rfl (fun c24 => absurd c24 (nI_ge hj (by decide))) (fun c24 => ?_)
        refine am_aload_n 27 dX12_track_27 rfl ?_
        refine am_getfield 28 dX12_track_28 fX12_29 (by repeat (first | assumption | exact am_ue | refine am_un (by first | assumption | decide | omega) ?_)) rfl ?_
        refine am_iload 31 dX12_track_31 rfl ?_
        refine am_aaload 33 dX12_track_33 rfl (by repeat (first | assumption | exact am_ue | refine am_un (by first | assumption | decide | omega) ?_)) (am_ix hj (by decide)) ?_
        rw [nI_clamp (n := j) (by omega), hc, show va_rf none = Value.null from rfl]
        refine am_ifnullN 34 (tgt := 48) dX12_track_34 rfl ?_
        exact half _ a0
      · obtain ⟨ap, cl0, kk, g0, q1, q2, q3, q4, q5⟩ := (et c).2.1 (ew j hj c hc)
        obtain ⟨s3, g3⟩ := a2.kin (f' := va_up g c (.inr (9, r_kF ap (va_up kk.1 1 0, kk.2)))) (et.con (ew j hj c hc) (fun z hz => am_up_ne hz) ⟨ap, cl0, _, am_ue, q1, q2, q3, q4, q5⟩) (fun z hz => am_up_ne fun w => by rw [w] at hz; have := ew j hj c hc; omega)
        unfold r_kF at g0
        refine am_iload 21 dX12_track_21 rfl ?_
        refine am_iconst 23 (v := 5) dX12_track_23 (by decide) ?_
        refine am_icmp_ge 24 129 dX12_track_24 rfl (fun c24 => absurd c24 (nI_ge hj (by decide))) (fun c24 => ?_)
        refine am_aload_n 27 dX12_track_27 rfl ?_
        refine am_getfield 28 dX12_track_28 fX12_29 (by repeat (first | assumption | exact am_ue | refine am_un (by first | assumption | decide | omega) ?_)) rfl ?_
        refine am_iload 31 dX12_track_31 rfl ?_
        refine am_aaload 33 dX12_track_33 rfl (by repeat (first | assumption | exact am_ue | refine am_un (by first | assumption | decide | omega) ?_)) (am_ix hj (by decide)) ?_
        rw [nI_clamp (n := j) (by omega), hc, show va_rf (some c) = Value.ref c from rfl]
        refine am_ifnull 34 dX12_track_34 ?_
        refine am_aload_n 37 dX12_track_37 rfl ?_
        refine am_getfield 38 dX12_track_38 fX12_29 (by repeat (first | assumption | exact am_ue | refine am_un (by first | assumption | decide | omega) ?_)) rfl ?_
        refine am_iload 41 dX12_track_41 rfl ?_
        refine am_aaload 43 dX12_track_43 rfl (by repeat (first | assumption | exact am_ue | refine am_un (by first | assumption | decide | omega) ?_)) (am_ix hj (by decide)) ?_
        rw [nI_clamp (n := j) (by omega), hc, show va_rf (some c) = Value.ref c from rfl]
        refine am_iconst 44 (v := 0) dX12_track_44 (by decide) ?_
        refine am_putfield 45 dX12_track_45 pX12_164 (by repeat (first | assumption | exact am_ue | refine am_un (by first | assumption | decide | omega) ?_)) rfl rfl (Nat.le_of_ble_eq_true rfl) ?_
        exact half _ (r_tk.step hvw a0 (Nat.le_refl _) s3 g3)
  have hK : ∀ j, j < 5 → ∀ c, cs j = some c → (fun j => ((K j).1 2).toNatClampNeg) j ≤ 56 ∧ (fun j => ((K j).1 3).toNatClampNeg) j ≤ 56 ∧ (G c).1 2 = nI ((fun j => ((K j).1 2).toNatClampNeg) j) ∧ (G c).1 3 = nI ((fun j => ((K j).1 3).toNatClampNeg) j) := fun j hj c hc => by
    obtain ⟨e2, e3, -⟩ := (hR.1 j hj).2 c hc
    obtain ⟨a, b, h1, h2, h3, h4⟩ := hxy j hj
    rw [e2, e3]
    simp only [h3, h4, nI_clamp (n := a) (by omega), nI_clamp (n := b) (by omega)]
    exact ⟨h1, h2, trivial, trivial⟩
  show AW mX12_track (4 + (10 + 1) + 1) ((0 + (m_pks sig 48).length + (m_pks sig 48).length + 5 + 5) + (100 + 48) + 8) 0 [some (.ref m), some (.ref v), none, none, none, none] [] n f Q
  refine am_new 0 (rc := 4 + (10 + 1)) (rs := (0 + (m_pks sig 48).length + (m_pks sig 48).length + 5 + 5) + (100 + 48)) (N := 8) dX12_track_0 nX12_184 ?_
  refine am_dup 3 dX12_track_3 rfl ?_
  refine am_aload_n 4 dX12_track_4 rfl ?_
  refine am_aload_n 5 dX12_track_5 rfl ?_
  refine am_I2 6 (mc' := 4) (ms' := 0 + (m_pks sig 48).length + (m_pks sig 48).length + 5 + 5) (rc := 10 + 1) (rs := 100 + 48) dX12_track_6 lX12_186 ⟨by decide, by decide⟩ (Nat.le_of_ble_eq_true rfl) (Nat.le_of_ble_eq_true rfl) (s_xMatch am_ue (s.far (Nat.le_refl _) (am_up_ne (by omega)) (am_up_ne (by omega)) (am_up_ne (by omega)) (fun x _ hx => Or.inl (am_up_ne (by omega)))) (hW.on fun x hx => am_up_ne (by have := (hvk x hx).2.1; omega)) (by omega) (by omega) hs hK) ?_
  rintro o n' f1 ⟨rfl, rfl, ⟨mo, le, c0⟩, ⟨gb, c2, hgb⟩, c3⟩
  refine ⟨_, rfl, ?_⟩
  unfold r_ob at c0
  have ex : ∀ x, x < n → f1 x = f x := fun x hx => (c3 x hx).trans (am_up_ne (by omega))
  refine am_getfield 9 dX12_track_9 fX12_189 (by repeat (first | assumption | exact am_ue | refine am_un (by first | assumption | decide | omega) ?_)) rfl ?_
  refine am_astore_n 12 dX12_track_12 (by decide) ?_
  refine am_bipush 13 (v := 48) dX12_track_13 (by decide) ?_
  refine am_newbools 15 (t := 3) (N := 48) (rc := 10) (rs := 100) dX12_track_15 ac_boolean rfl (by decide) (by decide) (by decide) ?_
  refine am_astore_n 17 dX12_track_17 (by decide) ?_
  refine am_iconst 18 (v := 0) dX12_track_18 (by decide) ?_
  refine am_istore 19 dX12_track_19 (by decide) ?_
  generalize hf2 : va_up f1 (n + 5) _ = f2
  have ex2 : ∀ x, x < n + 5 → f2 x = f1 x := fun x hx => by rw [← hf2, am_up_ne (by omega)]
  have ex3 : ∀ x, x < n → f2 x = f x := fun x hx => (ex2 x (by omega)).trans (ex x hx)
  refine hfol f2 gb (fun _ => 0) ⟨Nat.le_refl _, s.far (by omega) (ex3 _ (by omega)) (ex3 _ (by omega)) (ex3 _ (by omega)) (fun x _ hx => Or.inl (ex3 x hx)), ⟨fun _ _ => rfl, fun x hx _ _ _ => ex3 x hx⟩, hW.on fun x hx => ex3 x (hvk x hx).2.1, (ex2 _ (by omega)).trans c2, (by rw [← hf2]; exact am_up_eq), kn _ (by omega), kn _ (by omega)⟩ hgb.gd (hgbE gb hgb) (fun p hp => ⟨Or.inl rfl, ⟨fun _ i hi => absurd hi (Nat.not_lt_zero i), fun _ => rfl⟩⟩)
end RTrack2
