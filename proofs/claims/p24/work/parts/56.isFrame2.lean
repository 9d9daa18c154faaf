/-! ===== a frame, as the law looks at it: what has become ===== -/
section Is2
variable {p T n : Nat} {f g : Nat → am_C} {z : m_Z}
theorem m_bv_up {k : Nat} {b : Nat} (h : m_bv z k = b) : nI (m_N (m_bv z) k) + nI b = nI (m_N (m_bv z) (k + 1)) := by
  rw [nI_add, ← h]
  rfl
set_option maxHeartbeats 1000000 in
theorem l_isF2a {lim : Int32} {bb : Nat → Int32} {Q : am_P} (hG : m_G g p T z) (hT : T ≤ 999) (hn : p + 45 < n) (a0 : g n = .inl (0, 5, .inl (m_tv z))) (a1 : g (n + 1) = .inl (0, 5, .inl (m_frs z))) (a2 : g (n + 2) = .inl (3, 5, .inl bb)) (hbb : ∀ j, j < 5 → bb j = nI (m_bv z j)) (hle : m_hum (m_sg z) ≤ z_lim z)
    (hQ : ∀ g', (∃ z', m_G g' p (T + 1) z' ∧ z_lim z' = z_lim z) → (∀ x, x < n → (x < p ∨ p + 45 < x) → g' x = g x) → Q (.inl (some (.int 1))) (n + 3) g') :
    AW mL_isFrame 10 60 108 [some (.ref p), some (.int lim), some (.int 0), some (.ref n), some (.ref (n + 1)), some (.ref (n + 2)), some (.int (nI 5)), none, none, none, none, none, none] [] (n + 3) g Q := by
  have hI := hG.2.2.2.2.2.2.1
  have gp := hG.1
  have hP : m_P z ≤ 48 := m_pks_len
  refine AW.more (rc := 5) (rs := 30) (by omega) (by omega) ?_
  refine am_aload_n 108 dL_isFrame_108 rfl ?_
  refine am_iconst 109 (v := 2) dL_isFrame_109 (by decide) ?_
  refine AW.more (rc := 0 + (5)) (rs := 0 + (30)) (by omega) (by omega) ?_
  refine am_V1 110 (mc' := 0) (ms' := 0) (rc := 5) (rs := 30) dL_isFrame_110 lL_22 ⟨by decide, by decide⟩ (by repeat (first | assumption | exact am_ue | refine am_un (by first | assumption | decide | omega) ?_)) (Nat.le_of_ble_eq_true rfl) (Nat.le_of_ble_eq_true rfl) (s_many hG (j := 2) (by decide)) ?_
  refine am_is_ct ?_
  refine am_istore 113 dL_isFrame_113 (by decide) ?_
  refine am_aload_n 115 dL_isFrame_115 rfl ?_
  refine am_iconst 116 (v := 3) dL_isFrame_116 (by decide) ?_
  refine AW.more (rc := 0 + (5)) (rs := 0 + (30)) (by omega) (by omega) ?_
  refine am_V1 117 (mc' := 0) (ms' := 0) (rc := 5) (rs := 30) dL_isFrame_117 lL_22 ⟨by decide, by decide⟩ (by repeat (first | assumption | exact am_ue | refine am_un (by first | assumption | decide | omega) ?_)) (Nat.le_of_ble_eq_true rfl) (Nat.le_of_ble_eq_true rfl) (s_many hG (j := 3) (by decide)) ?_
  refine am_is_ct ?_
  refine am_istore 120 dL_isFrame_120 (by decide) ?_
  refine am_aload_n 122 dL_isFrame_122 rfl ?_
  refine am_iconst 123 (v := 5) dL_isFrame_123 (by decide) ?_
  refine AW.more (rc := 0 + (5)) (rs := 0 + (30)) (by omega) (by omega) ?_
  refine am_V1 124 (mc' := 0) (ms' := 0) (rc := 5) (rs := 30) dL_isFrame_124 lL_22 ⟨by decide, by decide⟩ (by repeat (first | assumption | exact am_ue | refine am_un (by first | assumption | decide | omega) ?_)) (Nat.le_of_ble_eq_true rfl) (Nat.le_of_ble_eq_true rfl) (s_many hG (j := 5) (by decide)) ?_
  refine am_is_ct ?_
  refine am_istore 127 dL_isFrame_127 (by decide) ?_
  refine am_aload_n 129 dL_isFrame_129 rfl ?_
  refine am_iconst 130 (v := 0) dL_isFrame_130 (by decide) ?_
  refine AW.more (rc := 0 + (5)) (rs := 0 + (30)) (by omega) (by omega) ?_
  refine am_V1 131 (mc' := 0) (ms' := 0) (rc := 5) (rs := 30) dL_isFrame_131 lL_22 ⟨by decide, by decide⟩ (by repeat (first | assumption | exact am_ue | refine am_un (by first | assumption | decide | omega) ?_)) (Nat.le_of_ble_eq_true rfl) (Nat.le_of_ble_eq_true rfl) (s_many hG (j := 0) (by decide)) ?_
  refine am_is_ct ?_
  refine am_aload_n 134 dL_isFrame_134 rfl ?_
  refine am_iconst 135 (v := 1) dL_isFrame_135 (by decide) ?_
  refine AW.more (rc := 0 + (5)) (rs := 0 + (30)) (by omega) (by omega) ?_
  refine am_V1 136 (mc' := 0) (ms' := 0) (rc := 5) (rs := 30) dL_isFrame_136 lL_22 ⟨by decide, by decide⟩ (by repeat (first | assumption | exact am_ue | refine am_un (by first | assumption | decide | omega) ?_)) (Nat.le_of_ble_eq_true rfl) (Nat.le_of_ble_eq_true rfl) (s_many hG (j := 1) (by decide)) ?_
  refine am_is_ct ?_
  refine am_iadd 139 dL_isFrame_139 ?_
  refine am_istore 140 dL_isFrame_140 (by decide) ?_
  refine am_aload_n 142 dL_isFrame_142 rfl ?_
  refine AW.more (rc := 0 + (5)) (rs := 0 + (30)) (by omega) (by omega) ?_
  refine am_V0 143 (mc' := 0) (ms' := 0) (rc := 5) (rs := 30) dL_isFrame_143 lL_89 ⟨by decide, by decide⟩ (by repeat (first | assumption | exact am_ue | refine am_un (by first | assumption | decide | omega) ?_)) (Nat.le_of_ble_eq_true rfl) (Nat.le_of_ble_eq_true rfl) (s_frame hG (by omega)) ?_
  rintro o n' g2 ⟨rfl, ⟨z', q1, q2⟩, q3⟩
  obtain ⟨-, ql, -, q2⟩ := q2
  rw [if_pos hle] at q2
  obtain ⟨rfl, qta, qth, qca, qk⟩ := q2
  refine am_ctI ?_
  have b0 : g2 n = _ := (q3 n (by omega)).trans a0
  have b1 : g2 (n + 1) = _ := (q3 (n + 1) (by omega)).trans a1
  have b2 : g2 (n + 2) = _ := (q3 (n + 2) (by omega)).trans a2
  have gp2 := q1.1
  have hsum : m_manyA z' 0 + m_manyA z' 1 = m_manyA z 0 + m_manyA z 1 + 1 := by
    show z_ta z' + z_th z' = z_ta z + z_th z + 1
    rw [qta, qth, Int32.add_assoc, Int32.add_comm 1, ← Int32.add_assoc]
  refine am_istore 146 dL_isFrame_146 (by decide) ?_
  refine am_iload 148 dL_isFrame_148 rfl ?_
  refine am_iload_n 150 dL_isFrame_150 rfl ?_
  refine am_if_eq 151 159 dL_isFrame_151 rfl (fun c151 => ?_) (fun c151 => absurd rfl c151)
  refine am_aload_n 159 dL_isFrame_159 rfl ?_
  refine am_iconst 160 (v := 2) dL_isFrame_160 (by decide) ?_
  refine AW.more (rc := 0 + (5)) (rs := 0 + (30)) (by omega) (by omega) ?_
  refine am_V1 161 (mc' := 0) (ms' := 0) (rc := 5) (rs := 30) dL_isFrame_161 lL_22 ⟨by decide, by decide⟩ (by repeat (first | assumption | exact am_ue | refine am_un (by first | assumption | decide | omega) ?_)) (Nat.le_of_ble_eq_true rfl) (Nat.le_of_ble_eq_true rfl) (s_many q1 (j := 2) (by decide)) ?_
  refine am_is_ct ?_
  refine am_icmp_ne 164 185 dL_isFrame_164 rfl (fun c164 => absurd c164 (fun q => q rfl)) (fun c164 => ?_)
  refine am_aload_n 167 dL_isFrame_167 rfl ?_
  refine am_iconst 168 (v := 0) dL_isFrame_168 (by decide) ?_
  refine AW.more (rc := 0 + (5)) (rs := 0 + (30)) (by omega) (by omega) ?_
  refine am_V1 169 (mc' := 0) (ms' := 0) (rc := 5) (rs := 30) dL_isFrame_169 lL_22 ⟨by decide, by decide⟩ (by repeat (first | assumption | exact am_ue | refine am_un (by first | assumption | decide | omega) ?_)) (Nat.le_of_ble_eq_true rfl) (Nat.le_of_ble_eq_true rfl) (s_many q1 (j := 0) (by decide)) ?_
  refine am_is_ct ?_
  refine am_aload_n 172 dL_isFrame_172 rfl ?_
  refine am_iconst 173 (v := 1) dL_isFrame_173 (by decide) ?_
  refine AW.more (rc := 0 + (5)) (rs := 0 + (30)) (by omega) (by omega) ?_
  refine am_V1 174 (mc' := 0) (ms' := 0) (rc := 5) (rs := 30) dL_isFrame_174 lL_22 ⟨by decide, by decide⟩ (by repeat (first | assumption | exact am_ue | refine am_un (by first | assumption | decide | omega) ?_)) (Nat.le_of_ble_eq_true rfl) (Nat.le_of_ble_eq_true rfl) (s_many q1 (j := 1) (by decide)) ?_
  refine am_is_ct ?_
  refine am_iadd 177 dL_isFrame_177 ?_
  refine am_iload 178 dL_isFrame_178 rfl ?_
  refine am_iconst 180 (v := 1) dL_isFrame_180 (by decide) ?_
  refine am_iadd 181 dL_isFrame_181 ?_
  refine am_icmp_eq 182 187 dL_isFrame_182 rfl (fun c182 => ?_) (fun c182 => absurd hsum c182)
  refine am_iconst 187 (v := 0) dL_isFrame_187 (by decide) ?_
  refine am_istore 188 dL_isFrame_188 (by decide) ?_
  refine am_iconst 190 (v := 0) dL_isFrame_190 (by decide) ?_
  refine am_istore 191 dL_isFrame_191 (by decide) ?_
  refine am_for 5 (fun k (w : Int32) => w = nI (m_N (m_bv z) k)) (fun k w => AW mL_isFrame (5 - k) (6 * (5 - k)) 193 [some (.ref p), some (.int lim), some (.int 0), some (.ref n), some (.ref (n + 1)), some (.ref (n + 2)), some (.int (m_manyA z 2)), some (.int (m_manyA z 3)), some (.int (m_manyA z 5)), some (.int (m_manyA z 0 + m_manyA z 1)), some (.int (nI (m_N (m_th (z_K z')) 5))), some (.int w), some (.int (nI k))] [] (n + 3) g2 Q) ?_ ?_ 0 0 (by omega) rfl
  · intro w h
    have h : w = nI (m_N (m_bv z) 5) := h
    show AW mL_isFrame 0 0 193 [some (.ref p), some (.int lim), some (.int 0), some (.ref n), some (.ref (n + 1)), some (.ref (n + 2)), some (.int (m_manyA z 2)), some (.int (m_manyA z 3)), some (.int (m_manyA z 5)), some (.int (m_manyA z 0 + m_manyA z 1)), some (.int (nI (m_N (m_th (z_K z')) 5))), some (.int w), some (.int (nI 5))] [] (n + 3) g2 Q
    rw [h]
    have hbp : m_N (m_bv z) 5 = m_N (m_pal (m_sg z) (m_best (m_W (m_sg z) (z_K z)) (m_P z)) (z_K z)) 5 := m_N_congr _ fun k _ => by
      unfold m_bv m_pal m_matchA
      rw [if_pos hle]
    have hca : m_manyA z' 5 = m_manyA z 5 + nI (m_N (m_bv z) 5) := by
      show nI (z_ca z') = nI (z_ca z) + nI (m_N (m_bv z) 5)
      rw [nI_add, hbp, qca]
    refine am_iload 193 dL_isFrame_193 rfl ?_
    refine am_iconst 195 (v := 5) dL_isFrame_195 (by decide) ?_
    refine am_icmp_ge 196 298 dL_isFrame_196 rfl (fun c196 => ?_) (fun c196 => absurd (by decide) c196)
    refine am_aload_n 298 dL_isFrame_298 rfl ?_
    refine am_iconst 299 (v := 5) dL_isFrame_299 (by decide) ?_
    refine am_V1 300 (mc' := 0) (ms' := 0) (rc := 0) (rs := 0) dL_isFrame_300 lL_22 ⟨by decide, by decide⟩ (by repeat (first | assumption | exact am_ue | refine am_un (by first | assumption | decide | omega) ?_)) (Nat.le_of_ble_eq_true rfl) (Nat.le_of_ble_eq_true rfl) (s_many q1 (j := 5) (by decide)) ?_
    refine am_is_ct ?_
    refine am_iload 303 dL_isFrame_303 rfl ?_
    refine am_iload 305 dL_isFrame_305 rfl ?_
    refine am_iadd 307 dL_isFrame_307 ?_
    refine am_icmp_ne 308 339 dL_isFrame_308 rfl (fun c308 => absurd c308 (fun q => q hca)) (fun c308 => ?_)
    refine am_iload_n 311 dL_isFrame_311 rfl ?_
    refine am_if_eq 312 335 dL_isFrame_312 rfl (fun c312 => ?_) (fun c312 => absurd rfl c312)
    refine am_iconst 335 (v := 1) dL_isFrame_335 (by decide) ?_
    refine am_goto 336 (tgt := 340) dL_isFrame_336 rfl ?_
    refine am_ireturn 340 dL_isFrame_340 rfl rfl ?_
    exact hQ g2 ⟨z', q1, ql⟩ fun x _ b => q3 x b
  · intro k w hk h ih
    have h : w = nI (m_N (m_bv z) k) := h
    show AW mL_isFrame (5 - k) (6 * (5 - k)) 193 [some (.ref p), some (.int lim), some (.int 0), some (.ref n), some (.ref (n + 1)), some (.ref (n + 2)), some (.int (m_manyA z 2)), some (.int (m_manyA z 3)), some (.int (m_manyA z 5)), some (.int (m_manyA z 0 + m_manyA z 1)), some (.int (nI (m_N (m_th (z_K z')) 5))), some (.int w), some (.int (nI k))] [] (n + 3) g2 Q
    rw [h]
    have ih2 : AW mL_isFrame (5 - (k + 1)) (6 * (5 - (k + 1))) 193 [some (.ref p), some (.int lim), some (.int 0), some (.ref n), some (.ref (n + 1)), some (.ref (n + 2)), some (.int (m_manyA z 2)), some (.int (m_manyA z 3)), some (.int (m_manyA z 5)), some (.int (m_manyA z 0 + m_manyA z 1)), some (.int (nI (m_N (m_th (z_K z')) 5))), some (.int (nI (m_N (m_bv z) (k + 1)))), some (.int (nI (k + 1)))] [] (n + 3) g2 Q := ih _ rfl
    clear ih
    rcases m_frs_in hI (by omega) hk with ⟨hth, e⟩ | ⟨hth, fr, f1, f2, e, e4⟩
    · have eb : m_bv z k = 0 := if_neg (fun q => q.1 hth)
      have hw : nI (m_N (m_bv z) k) + 0 = nI (m_N (m_bv z) (k + 1)) := m_bv_up eb
      refine AW.more (rc := 5 - (k + 1)) (rs := 6 * (5 - (k + 1))) (by omega) (by omega) ?_
      refine am_iload 193 dL_isFrame_193 rfl ?_
      refine am_iconst 195 (v := 5) dL_isFrame_195 (by decide) ?_
      refine am_icmp_ge 196 298 dL_isFrame_196 rfl (fun c196 => absurd c196 (nI_ge hk (by decide))) (fun c196 => ?_)
      refine am_iload 199 dL_isFrame_199 rfl ?_
      refine am_aload 201 dL_isFrame_201 rfl ?_
      refine am_iload 203 dL_isFrame_203 rfl ?_
      refine am_zaload 205 dL_isFrame_205 rfl (by repeat (first | assumption | exact am_ue | refine am_un (by first | assumption | decide | omega) ?_)) (am_ix hk (by decide)) ?_
      rw [nI_clamp (n := k) (by omega), hbb k hk, eb]
      refine am_if_eq 206 213 dL_isFrame_206 rfl (fun c206 => ?_) (fun c206 => absurd rfl c206)
      refine am_iconst 213 (v := 0) dL_isFrame_213 (by decide) ?_
      refine am_iadd 214 dL_isFrame_214 ?_
      rw [hw]
      refine am_istore 215 dL_isFrame_215 (by decide) ?_
      refine am_aload 217 dL_isFrame_217 rfl ?_
      refine am_iload 219 dL_isFrame_219 rfl ?_
      refine am_iaload 221 dL_isFrame_221 rfl (by repeat (first | assumption | exact am_ue | refine am_un (by first | assumption | decide | omega) ?_)) (am_ix hk (by decide)) ?_
      rw [nI_clamp (n := k) (by omega), e]
      refine am_if_ne 222 228 dL_isFrame_222 rfl (fun c222 => absurd c222 (fun q => q rfl)) (fun c222 => ?_)
      refine am_goto 225 (tgt := 292) dL_isFrame_225 rfl ?_
      refine am_iinc 292 (v := nI (k + 1)) dL_isFrame_292 rfl (nI_1 (k)) (by decide) ?_
      refine am_goto 295 (tgt := 193) dL_isFrame_295 rfl ?_
      exact ih2
    · have hne : ¬ nI fr = 0 := fun q => absurd ((nI_eq (b := 0) (by omega) (by decide)).mp q) (by omega)
      have etm : m_tv z k = m_matchA z k := if_pos hth
      have emp : m_matchA z k = m_pk (m_best (m_W (m_sg z) (z_K z)) (m_P z)) k := if_pos hle
      rcases m_match_in hI hk with em | ⟨kk, hkk, em⟩
      · have et : m_tv z k = -1 := etm.trans em
        have eb : m_bv z k = 0 := if_neg (fun q => q.2.1 em)
        have hw : nI (m_N (m_bv z) k) + 0 = nI (m_N (m_bv z) (k + 1)) := m_bv_up eb
        refine AW.more (rc := 5 - (k + 1)) (rs := 6 * (5 - (k + 1))) (by omega) (by omega) ?_
        refine am_iload 193 dL_isFrame_193 rfl ?_
        refine am_iconst 195 (v := 5) dL_isFrame_195 (by decide) ?_
        refine am_icmp_ge 196 298 dL_isFrame_196 rfl (fun c196 => absurd c196 (nI_ge hk (by decide))) (fun c196 => ?_)
        refine am_iload 199 dL_isFrame_199 rfl ?_
        refine am_aload 201 dL_isFrame_201 rfl ?_
        refine am_iload 203 dL_isFrame_203 rfl ?_
        refine am_zaload 205 dL_isFrame_205 rfl (by repeat (first | assumption | exact am_ue | refine am_un (by first | assumption | decide | omega) ?_)) (am_ix hk (by decide)) ?_
        rw [nI_clamp (n := k) (by omega), hbb k hk, eb]
        refine am_if_eq 206 213 dL_isFrame_206 rfl (fun c206 => ?_) (fun c206 => absurd rfl c206)
        refine am_iconst 213 (v := 0) dL_isFrame_213 (by decide) ?_
        refine am_iadd 214 dL_isFrame_214 ?_
        rw [hw]
        refine am_istore 215 dL_isFrame_215 (by decide) ?_
        refine am_aload 217 dL_isFrame_217 rfl ?_
        refine am_iload 219 dL_isFrame_219 rfl ?_
        refine am_iaload 221 dL_isFrame_221 rfl (by repeat (first | assumption | exact am_ue | refine am_un (by first | assumption | decide | omega) ?_)) (am_ix hk (by decide)) ?_
        rw [nI_clamp (n := k) (by omega), e]
        refine am_if_ne 222 228 dL_isFrame_222 rfl (fun c222 => ?_) (fun c222 => absurd c222 hne)
        refine am_iload_n 228 dL_isFrame_228 rfl ?_
        refine am_if_eq 229 249 dL_isFrame_229 rfl (fun c229 => ?_) (fun c229 => absurd rfl c229)
        refine am_aload_n 249 dL_isFrame_249 rfl ?_
        refine am_iload 250 dL_isFrame_250 rfl ?_
        refine am_iaload 252 dL_isFrame_252 rfl (by repeat (first | assumption | exact am_ue | refine am_un (by first | assumption | decide | omega) ?_)) (am_ix hk (by decide)) ?_
        rw [nI_clamp (n := k) (by omega), et]
        refine am_if_lt 253 292 dL_isFrame_253 rfl (fun c253 => ?_) (fun c253 => absurd (by decide) c253)
        refine am_iinc 292 (v := nI (k + 1)) dL_isFrame_292 rfl (nI_1 (k)) (by decide) ?_
        refine am_goto 295 (tgt := 193) dL_isFrame_295 rfl ?_
        exact ih2
      · have et : m_tv z k = nI kk := etm.trans em
        have hm1 : m_matchA z k ≠ -1 := by rw [em]; exact m_nIm1 (by omega)
        by_cases hb : 14 < m_reg (m_sg z) (m_pkc (m_sg z) (m_matchA z k))
        · have eb : m_bv z k = 1 := if_pos ⟨hth, hm1, hb⟩
          have hw : nI (m_N (m_bv z) k) + 1 = nI (m_N (m_bv z) (k + 1)) := m_bv_up eb
          refine AW.more (rc := 5 - (k + 1)) (rs := 6 * (5 - (k + 1))) (by omega) (by omega) ?_
          refine am_iload 193 dL_isFrame_193 rfl ?_
          refine am_iconst 195 (v := 5) dL_isFrame_195 (by decide) ?_
          refine am_icmp_ge 196 298 dL_isFrame_196 rfl (fun c196 => absurd c196 (nI_ge hk (by decide))) (fun c196 => ?_)
          refine am_iload 199 dL_isFrame_199 rfl ?_
          refine am_aload 201 dL_isFrame_201 rfl ?_
          refine am_iload 203 dL_isFrame_203 rfl ?_
          refine am_zaload 205 dL_isFrame_205 rfl (by repeat (first | assumption | exact am_ue | refine am_un (by first | assumption | decide | omega) ?_)) (am_ix hk (by decide)) ?_
          rw [nI_clamp (n := k) (by omega), hbb k hk, eb]
          refine am_if_eq 206 213 dL_isFrame_206 rfl (fun c206 => absurd c206 (by decide)) (fun c206 => ?_)
          refine am_iconst 209 (v := 1) dL_isFrame_209 (by decide) ?_
          refine am_goto 210 (tgt := 214) dL_isFrame_210 rfl ?_
          refine am_iadd 214 dL_isFrame_214 ?_
          rw [hw]
          refine am_istore 215 dL_isFrame_215 (by decide) ?_
          refine am_aload 217 dL_isFrame_217 rfl ?_
          refine am_iload 219 dL_isFrame_219 rfl ?_
          refine am_iaload 221 dL_isFrame_221 rfl (by repeat (first | assumption | exact am_ue | refine am_un (by first | assumption | decide | omega) ?_)) (am_ix hk (by decide)) ?_
          rw [nI_clamp (n := k) (by omega), e]
          refine am_if_ne 222 228 dL_isFrame_222 rfl (fun c222 => ?_) (fun c222 => absurd c222 hne)
          refine am_iload_n 228 dL_isFrame_228 rfl ?_
          refine am_if_eq 229 249 dL_isFrame_229 rfl (fun c229 => ?_) (fun c229 => absurd rfl c229)
          refine am_aload_n 249 dL_isFrame_249 rfl ?_
          refine am_iload 250 dL_isFrame_250 rfl ?_
          refine am_iaload 252 dL_isFrame_252 rfl (by repeat (first | assumption | exact am_ue | refine am_un (by first | assumption | decide | omega) ?_)) (am_ix hk (by decide)) ?_
          rw [nI_clamp (n := k) (by omega), et]
          refine am_if_lt 253 292 dL_isFrame_253 rfl (fun c253 => absurd c253 (nI_pos (by omega))) (fun c253 => ?_)
          refine am_aload 256 dL_isFrame_256 rfl ?_
          refine am_iload 258 dL_isFrame_258 rfl ?_
          refine am_zaload 260 dL_isFrame_260 rfl (by repeat (first | assumption | exact am_ue | refine am_un (by first | assumption | decide | omega) ?_)) (am_ix hk (by decide)) ?_
          rw [nI_clamp (n := k) (by omega), hbb k hk, eb]
          refine am_if_ne 261 292 dL_isFrame_261 rfl (fun c261 => ?_) (fun c261 => absurd c261 (by decide))
          refine am_iinc 292 (v := nI (k + 1)) dL_isFrame_292 rfl (nI_1 (k)) (by decide) ?_
          refine am_goto 295 (tgt := 193) dL_isFrame_295 rfl ?_
          exact ih2
        · have eb : m_bv z k = 0 := if_neg (fun q => hb q.2.2)
          have hw : nI (m_N (m_bv z) k) + 0 = nI (m_N (m_bv z) (k + 1)) := m_bv_up eb
          obtain ⟨hth2, e42, e5⟩ := qk k hk hth (by rw [← emp]; exact hm1) (by rw [← emp]; exact hb)
          have e5 : m_conA (z_K z' k) 3 = 0 := e5
          have efr : m_frs z' k = nI fr + 1 := by
            unfold m_frs
            rw [if_pos hth2, e42, e4]
          refine AW.more (rc := 1 + (5 - (k + 1))) (rs := 6 + 6 * (5 - (k + 1))) (by omega) (by omega) ?_
          refine am_iload 193 dL_isFrame_193 rfl ?_
          refine am_iconst 195 (v := 5) dL_isFrame_195 (by decide) ?_
          refine am_icmp_ge 196 298 dL_isFrame_196 rfl (fun c196 => absurd c196 (nI_ge hk (by decide))) (fun c196 => ?_)
          refine am_iload 199 dL_isFrame_199 rfl ?_
          refine am_aload 201 dL_isFrame_201 rfl ?_
          refine am_iload 203 dL_isFrame_203 rfl ?_
          refine am_zaload 205 dL_isFrame_205 rfl (by repeat (first | assumption | exact am_ue | refine am_un (by first | assumption | decide | omega) ?_)) (am_ix hk (by decide)) ?_
          rw [nI_clamp (n := k) (by omega), hbb k hk, eb]
          refine am_if_eq 206 213 dL_isFrame_206 rfl (fun c206 => ?_) (fun c206 => absurd rfl c206)
          refine am_iconst 213 (v := 0) dL_isFrame_213 (by decide) ?_
          refine am_iadd 214 dL_isFrame_214 ?_
          rw [hw]
          refine am_istore 215 dL_isFrame_215 (by decide) ?_
          refine am_aload 217 dL_isFrame_217 rfl ?_
          refine am_iload 219 dL_isFrame_219 rfl ?_
          refine am_iaload 221 dL_isFrame_221 rfl (by repeat (first | assumption | exact am_ue | refine am_un (by first | assumption | decide | omega) ?_)) (am_ix hk (by decide)) ?_
          rw [nI_clamp (n := k) (by omega), e]
          refine am_if_ne 222 228 dL_isFrame_222 rfl (fun c222 => ?_) (fun c222 => absurd c222 hne)
          refine am_iload_n 228 dL_isFrame_228 rfl ?_
          refine am_if_eq 229 249 dL_isFrame_229 rfl (fun c229 => ?_) (fun c229 => absurd rfl c229)
          refine am_aload_n 249 dL_isFrame_249 rfl ?_
          refine am_iload 250 dL_isFrame_250 rfl ?_
          refine am_iaload 252 dL_isFrame_252 rfl (by repeat (first | assumption | exact am_ue | refine am_un (by first | assumption | decide | omega) ?_)) (am_ix hk (by decide)) ?_
          rw [nI_clamp (n := k) (by omega), et]
          refine am_if_lt 253 292 dL_isFrame_253 rfl (fun c253 => absurd c253 (nI_pos (by omega))) (fun c253 => ?_)
          refine am_aload 256 dL_isFrame_256 rfl ?_
          refine am_iload 258 dL_isFrame_258 rfl ?_
          refine am_zaload 260 dL_isFrame_260 rfl (by repeat (first | assumption | exact am_ue | refine am_un (by first | assumption | decide | omega) ?_)) (am_ix hk (by decide)) ?_
          rw [nI_clamp (n := k) (by omega), hbb k hk, eb]
          refine am_if_ne 261 292 dL_isFrame_261 rfl (fun c261 => absurd c261 (fun q => q rfl)) (fun c261 => ?_)
          refine am_aload_n 264 dL_isFrame_264 rfl ?_
          refine am_iload 265 dL_isFrame_265 rfl ?_
          refine am_SW2 267 (mc' := 1) (ms' := 6) (rc := 5 - (k + 1)) (rs := 6 * (5 - (k + 1))) dL_isFrame_267 lL_79 ⟨by decide, by decide⟩ (Nat.le_of_ble_eq_true rfl) (Nat.le_of_ble_eq_true rfl) (s_Lframes q1 hk) ?_
          refine am_is_ct ?_
          rw [efr]
          refine am_aload 270 dL_isFrame_270 rfl ?_
          refine am_iload 272 dL_isFrame_272 rfl ?_
          refine am_iaload 274 dL_isFrame_274 rfl (by repeat (first | assumption | exact am_ue | refine am_un (by first | assumption | decide | omega) ?_)) (am_ix hk (by decide)) ?_
          rw [nI_clamp (n := k) (by omega), e]
          refine am_iconst 275 (v := 1) dL_isFrame_275 (by decide) ?_
          refine am_iadd 276 dL_isFrame_276 ?_
          refine am_icmp_ne 277 290 dL_isFrame_277 rfl (fun c277 => absurd c277 (fun q => q rfl)) (fun c277 => ?_)
          refine am_aload_n 280 dL_isFrame_280 rfl ?_
          refine am_iload 281 dL_isFrame_281 rfl ?_
          refine am_iconst 283 (v := 3) dL_isFrame_283 (by decide) ?_
          refine AW.more (rc := 0 + (5 - (k + 1))) (rs := 0 + (6 * (5 - (k + 1)))) (by omega) (by omega) ?_
          refine am_V2 284 (mc' := 0) (ms' := 0) (rc := 5 - (k + 1)) (rs := 6 * (5 - (k + 1))) dL_isFrame_284 lL_92 ⟨by decide, by decide⟩ (by repeat (first | assumption | exact am_ue | refine am_un (by first | assumption | decide | omega) ?_)) (Nat.le_of_ble_eq_true rfl) (Nat.le_of_ble_eq_true rfl) (s_ofContact q1 hk (j := 3) (by decide) hth2) ?_
          refine am_is_ct ?_
          rw [e5]
          refine am_if_eq 287 292 dL_isFrame_287 rfl (fun c287 => ?_) (fun c287 => absurd rfl c287)
          refine am_iinc 292 (v := nI (k + 1)) dL_isFrame_292 rfl (nI_1 (k)) (by decide) ?_
          refine am_goto 295 (tgt := 193) dL_isFrame_295 rfl ?_
          exact ih2
set_option maxHeartbeats 1000000 in
theorem l_isF2b {lim : Int32} {bb : Nat → Int32} {Q : am_P} (hG : m_G g p T z) (hT : T ≤ 999) (hn : p + 45 < n) (a0 : g n = .inl (0, 5, .inl (m_tv z))) (a1 : g (n + 1) = .inl (0, 5, .inl (m_frs z))) (a2 : g (n + 2) = .inl (3, 5, .inl bb)) (hbb : ∀ j, j < 5 → bb j = nI (m_bv z j)) (hle : ¬ m_hum (m_sg z) ≤ z_lim z)
    (hQ : ∀ g', (∃ z', m_G g' p (T + 1) z' ∧ z_lim z' = z_lim z) → (∀ x, x < n → (x < p ∨ p + 45 < x) → g' x = g x) → Q (.inl (some (.int 1))) (n + 3) g') :
    AW mL_isFrame 10 60 108 [some (.ref p), some (.int lim), some (.int 1), some (.ref n), some (.ref (n + 1)), some (.ref (n + 2)), some (.int (nI 5)), none, none, none, none, none, none] [] (n + 3) g Q := by
  have hI := hG.2.2.2.2.2.2.1
  have gp := hG.1
  have hbv : ∀ k, m_bv z k = 0 := fun k => if_neg (fun q => q.2.1 (if_neg hle))
  refine AW.more (rc := 5) (rs := 30) (by omega) (by omega) ?_
  refine am_aload_n 108 dL_isFrame_108 rfl ?_
  refine am_iconst 109 (v := 2) dL_isFrame_109 (by decide) ?_
  refine AW.more (rc := 0 + (5)) (rs := 0 + (30)) (by omega) (by omega) ?_
  refine am_V1 110 (mc' := 0) (ms' := 0) (rc := 5) (rs := 30) dL_isFrame_110 lL_22 ⟨by decide, by decide⟩ (by repeat (first | assumption | exact am_ue | refine am_un (by first | assumption | decide | omega) ?_)) (Nat.le_of_ble_eq_true rfl) (Nat.le_of_ble_eq_true rfl) (s_many hG (j := 2) (by decide)) ?_
  refine am_is_ct ?_
  refine am_istore 113 dL_isFrame_113 (by decide) ?_
  refine am_aload_n 115 dL_isFrame_115 rfl ?_
  refine am_iconst 116 (v := 3) dL_isFrame_116 (by decide) ?_
  refine AW.more (rc := 0 + (5)) (rs := 0 + (30)) (by omega) (by omega) ?_
  refine am_V1 117 (mc' := 0) (ms' := 0) (rc := 5) (rs := 30) dL_isFrame_117 lL_22 ⟨by decide, by decide⟩ (by repeat (first | assumption | exact am_ue | refine am_un (by first | assumption | decide | omega) ?_)) (Nat.le_of_ble_eq_true rfl) (Nat.le_of_ble_eq_true rfl) (s_many hG (j := 3) (by decide)) ?_
  refine am_is_ct ?_
  refine am_istore 120 dL_isFrame_120 (by decide) ?_
  refine am_aload_n 122 dL_isFrame_122 rfl ?_
  refine am_iconst 123 (v := 5) dL_isFrame_123 (by decide) ?_
  refine AW.more (rc := 0 + (5)) (rs := 0 + (30)) (by omega) (by omega) ?_
  refine am_V1 124 (mc' := 0) (ms' := 0) (rc := 5) (rs := 30) dL_isFrame_124 lL_22 ⟨by decide, by decide⟩ (by repeat (first | assumption | exact am_ue | refine am_un (by first | assumption | decide | omega) ?_)) (Nat.le_of_ble_eq_true rfl) (Nat.le_of_ble_eq_true rfl) (s_many hG (j := 5) (by decide)) ?_
  refine am_is_ct ?_
  refine am_istore 127 dL_isFrame_127 (by decide) ?_
  refine am_aload_n 129 dL_isFrame_129 rfl ?_
  refine am_iconst 130 (v := 0) dL_isFrame_130 (by decide) ?_
  refine AW.more (rc := 0 + (5)) (rs := 0 + (30)) (by omega) (by omega) ?_
  refine am_V1 131 (mc' := 0) (ms' := 0) (rc := 5) (rs := 30) dL_isFrame_131 lL_22 ⟨by decide, by decide⟩ (by repeat (first | assumption | exact am_ue | refine am_un (by first | assumption | decide | omega) ?_)) (Nat.le_of_ble_eq_true rfl) (Nat.le_of_ble_eq_true rfl) (s_many hG (j := 0) (by decide)) ?_
  refine am_is_ct ?_
  refine am_aload_n 134 dL_isFrame_134 rfl ?_
  refine am_iconst 135 (v := 1) dL_isFrame_135 (by decide) ?_
  refine AW.more (rc := 0 + (5)) (rs := 0 + (30)) (by omega) (by omega) ?_
  refine am_V1 136 (mc' := 0) (ms' := 0) (rc := 5) (rs := 30) dL_isFrame_136 lL_22 ⟨by decide, by decide⟩ (by repeat (first | assumption | exact am_ue | refine am_un (by first | assumption | decide | omega) ?_)) (Nat.le_of_ble_eq_true rfl) (Nat.le_of_ble_eq_true rfl) (s_many hG (j := 1) (by decide)) ?_
  refine am_is_ct ?_
  refine am_iadd 139 dL_isFrame_139 ?_
  refine am_istore 140 dL_isFrame_140 (by decide) ?_
  refine am_aload_n 142 dL_isFrame_142 rfl ?_
  refine AW.more (rc := 0 + (5)) (rs := 0 + (30)) (by omega) (by omega) ?_
  refine am_V0 143 (mc' := 0) (ms' := 0) (rc := 5) (rs := 30) dL_isFrame_143 lL_89 ⟨by decide, by decide⟩ (by repeat (first | assumption | exact am_ue | refine am_un (by first | assumption | decide | omega) ?_)) (Nat.le_of_ble_eq_true rfl) (Nat.le_of_ble_eq_true rfl) (s_frame hG (by omega)) ?_
  rintro o n' g2 ⟨rfl, ⟨z', q1, q2⟩, q3⟩
  obtain ⟨-, ql, -, q2⟩ := q2
  rw [if_neg hle] at q2
  obtain ⟨rfl, qta, qth, qK, qbe, qca⟩ := q2
  refine am_ctI ?_
  have b0 : g2 n = _ := (q3 n (by omega)).trans a0
  have b1 : g2 (n + 1) = _ := (q3 (n + 1) (by omega)).trans a1
  have b2 : g2 (n + 2) = _ := (q3 (n + 2) (by omega)).trans a2
  have gp2 := q1.1
  have hsum : m_manyA z' 0 + m_manyA z' 1 = m_manyA z 0 + m_manyA z 1 + 1 := by
    show z_ta z' + z_th z' = z_ta z + z_th z + 1
    rw [qta, qth, Int32.add_assoc]
  refine am_istore 146 dL_isFrame_146 (by decide) ?_
  refine am_iload 148 dL_isFrame_148 rfl ?_
  refine am_iload_n 150 dL_isFrame_150 rfl ?_
  refine am_if_eq 151 159 dL_isFrame_151 rfl (fun c151 => absurd c151 (by decide)) (fun c151 => ?_)
  refine am_bipush 154 (v := (-2)) dL_isFrame_154 (by decide) ?_
  refine am_goto 156 (tgt := 164) dL_isFrame_156 rfl ?_
  refine am_icmp_ne 164 185 dL_isFrame_164 rfl (fun c164 => absurd c164 (fun q => q rfl)) (fun c164 => ?_)
  refine am_aload_n 167 dL_isFrame_167 rfl ?_
  refine am_iconst 168 (v := 0) dL_isFrame_168 (by decide) ?_
  refine AW.more (rc := 0 + (5)) (rs := 0 + (30)) (by omega) (by omega) ?_
  refine am_V1 169 (mc' := 0) (ms' := 0) (rc := 5) (rs := 30) dL_isFrame_169 lL_22 ⟨by decide, by decide⟩ (by repeat (first | assumption | exact am_ue | refine am_un (by first | assumption | decide | omega) ?_)) (Nat.le_of_ble_eq_true rfl) (Nat.le_of_ble_eq_true rfl) (s_many q1 (j := 0) (by decide)) ?_
  refine am_is_ct ?_
  refine am_aload_n 172 dL_isFrame_172 rfl ?_
  refine am_iconst 173 (v := 1) dL_isFrame_173 (by decide) ?_
  refine AW.more (rc := 0 + (5)) (rs := 0 + (30)) (by omega) (by omega) ?_
  refine am_V1 174 (mc' := 0) (ms' := 0) (rc := 5) (rs := 30) dL_isFrame_174 lL_22 ⟨by decide, by decide⟩ (by repeat (first | assumption | exact am_ue | refine am_un (by first | assumption | decide | omega) ?_)) (Nat.le_of_ble_eq_true rfl) (Nat.le_of_ble_eq_true rfl) (s_many q1 (j := 1) (by decide)) ?_
  refine am_is_ct ?_
  refine am_iadd 177 dL_isFrame_177 ?_
  refine am_iload 178 dL_isFrame_178 rfl ?_
  refine am_iconst 180 (v := 1) dL_isFrame_180 (by decide) ?_
  refine am_iadd 181 dL_isFrame_181 ?_
  refine am_icmp_eq 182 187 dL_isFrame_182 rfl (fun c182 => ?_) (fun c182 => absurd hsum c182)
  refine am_iconst 187 (v := 0) dL_isFrame_187 (by decide) ?_
  refine am_istore 188 dL_isFrame_188 (by decide) ?_
  refine am_iconst 190 (v := 0) dL_isFrame_190 (by decide) ?_
  refine am_istore 191 dL_isFrame_191 (by decide) ?_
  refine am_for 5 (fun k (w : Int32) => w = nI (m_N (m_bv z) k)) (fun k w => AW mL_isFrame (5 - k) (6 * (5 - k)) 193 [some (.ref p), some (.int lim), some (.int 1), some (.ref n), some (.ref (n + 1)), some (.ref (n + 2)), some (.int (m_manyA z 2)), some (.int (m_manyA z 3)), some (.int (m_manyA z 5)), some (.int (m_manyA z 0 + m_manyA z 1)), some (.int (-2)), some (.int w), some (.int (nI k))] [] (n + 3) g2 Q) ?_ ?_ 0 0 (by omega) rfl
  · intro w h
    have h : w = nI (m_N (m_bv z) 5) := h
    show AW mL_isFrame 0 0 193 [some (.ref p), some (.int lim), some (.int 1), some (.ref n), some (.ref (n + 1)), some (.ref (n + 2)), some (.int (m_manyA z 2)), some (.int (m_manyA z 3)), some (.int (m_manyA z 5)), some (.int (m_manyA z 0 + m_manyA z 1)), some (.int (-2)), some (.int w), some (.int (nI 5))] [] (n + 3) g2 Q
    rw [h]
    have hb0 : m_N (m_bv z) 5 = 0 := by
      show 0 + m_bv z 0 + m_bv z 1 + m_bv z 2 + m_bv z 3 + m_bv z 4 = 0
      rw [hbv, hbv, hbv, hbv, hbv]
    have hca : m_manyA z' 5 = m_manyA z 5 + nI (m_N (m_bv z) 5) := by
      show nI (z_ca z') = nI (z_ca z) + nI (m_N (m_bv z) 5)
      rw [nI_add, hb0, qca]
      rfl
    have h2 : m_manyA z' 2 = m_manyA z 2 := by
      show nI (m_N (m_th (z_K z')) 5) = nI (m_N (m_th (z_K z)) 5)
      rw [qK]
    have h3 : m_manyA z' 3 = m_manyA z 3 := by
      show nI (z_be z') = nI (z_be z)
      rw [qbe]
    refine am_iload 193 dL_isFrame_193 rfl ?_
    refine am_iconst 195 (v := 5) dL_isFrame_195 (by decide) ?_
    refine am_icmp_ge 196 298 dL_isFrame_196 rfl (fun c196 => ?_) (fun c196 => absurd (by decide) c196)
    refine am_aload_n 298 dL_isFrame_298 rfl ?_
    refine am_iconst 299 (v := 5) dL_isFrame_299 (by decide) ?_
    refine am_V1 300 (mc' := 0) (ms' := 0) (rc := 0) (rs := 0) dL_isFrame_300 lL_22 ⟨by decide, by decide⟩ (by repeat (first | assumption | exact am_ue | refine am_un (by first | assumption | decide | omega) ?_)) (Nat.le_of_ble_eq_true rfl) (Nat.le_of_ble_eq_true rfl) (s_many q1 (j := 5) (by decide)) ?_
    refine am_is_ct ?_
    refine am_iload 303 dL_isFrame_303 rfl ?_
    refine am_iload 305 dL_isFrame_305 rfl ?_
    refine am_iadd 307 dL_isFrame_307 ?_
    refine am_icmp_ne 308 339 dL_isFrame_308 rfl (fun c308 => absurd c308 (fun q => q hca)) (fun c308 => ?_)
    refine am_iload_n 311 dL_isFrame_311 rfl ?_
    refine am_if_eq 312 335 dL_isFrame_312 rfl (fun c312 => absurd c312 (by decide)) (fun c312 => ?_)
    refine am_aload_n 315 dL_isFrame_315 rfl ?_
    refine am_iconst 316 (v := 2) dL_isFrame_316 (by decide) ?_
    refine am_V1 317 (mc' := 0) (ms' := 0) (rc := 0) (rs := 0) dL_isFrame_317 lL_22 ⟨by decide, by decide⟩ (by repeat (first | assumption | exact am_ue | refine am_un (by first | assumption | decide | omega) ?_)) (Nat.le_of_ble_eq_true rfl) (Nat.le_of_ble_eq_true rfl) (s_many q1 (j := 2) (by decide)) ?_
    refine am_is_ct ?_
    refine am_iload 320 dL_isFrame_320 rfl ?_
    refine am_icmp_ne 322 339 dL_isFrame_322 rfl (fun c322 => absurd c322 (fun q => q h2)) (fun c322 => ?_)
    refine am_aload_n 325 dL_isFrame_325 rfl ?_
    refine am_iconst 326 (v := 3) dL_isFrame_326 (by decide) ?_
    refine am_V1 327 (mc' := 0) (ms' := 0) (rc := 0) (rs := 0) dL_isFrame_327 lL_22 ⟨by decide, by decide⟩ (by repeat (first | assumption | exact am_ue | refine am_un (by first | assumption | decide | omega) ?_)) (Nat.le_of_ble_eq_true rfl) (Nat.le_of_ble_eq_true rfl) (s_many q1 (j := 3) (by decide)) ?_
    refine am_is_ct ?_
    refine am_iload 330 dL_isFrame_330 rfl ?_
    refine am_icmp_ne 332 339 dL_isFrame_332 rfl (fun c332 => absurd c332 (fun q => q h3)) (fun c332 => ?_)
    refine am_iconst 335 (v := 1) dL_isFrame_335 (by decide) ?_
    refine am_goto 336 (tgt := 340) dL_isFrame_336 rfl ?_
    refine am_ireturn 340 dL_isFrame_340 rfl rfl ?_
    exact hQ g2 ⟨z', q1, ql⟩ fun x _ b => q3 x b
  · intro k w hk h ih
    have h : w = nI (m_N (m_bv z) k) := h
    show AW mL_isFrame (5 - k) (6 * (5 - k)) 193 [some (.ref p), some (.int lim), some (.int 1), some (.ref n), some (.ref (n + 1)), some (.ref (n + 2)), some (.int (m_manyA z 2)), some (.int (m_manyA z 3)), some (.int (m_manyA z 5)), some (.int (m_manyA z 0 + m_manyA z 1)), some (.int (-2)), some (.int w), some (.int (nI k))] [] (n + 3) g2 Q
    rw [h]
    have ih2 : AW mL_isFrame (5 - (k + 1)) (6 * (5 - (k + 1))) 193 [some (.ref p), some (.int lim), some (.int 1), some (.ref n), some (.ref (n + 1)), some (.ref (n + 2)), some (.int (m_manyA z 2)), some (.int (m_manyA z 3)), some (.int (m_manyA z 5)), some (.int (m_manyA z 0 + m_manyA z 1)), some (.int (-2)), some (.int (nI (m_N (m_bv z) (k + 1)))), some (.int (nI (k + 1)))] [] (n + 3) g2 Q := ih _ rfl
    clear ih
    have eb := hbv k
    have hw : nI (m_N (m_bv z) k) + 0 = nI (m_N (m_bv z) (k + 1)) := m_bv_up eb
    rcases m_frs_in hI (by omega) hk with ⟨hth, e⟩ | ⟨hth, fr, f1, f2, e, e4⟩
    · refine AW.more (rc := 5 - (k + 1)) (rs := 6 * (5 - (k + 1))) (by omega) (by omega) ?_
      refine am_iload 193 dL_isFrame_193 rfl ?_
      refine am_iconst 195 (v := 5) dL_isFrame_195 (by decide) ?_
      refine am_icmp_ge 196 298 dL_isFrame_196 rfl (fun c196 => absurd c196 (nI_ge hk (by decide))) (fun c196 => ?_)
      refine am_iload 199 dL_isFrame_199 rfl ?_
      refine am_aload 201 dL_isFrame_201 rfl ?_
      refine am_iload 203 dL_isFrame_203 rfl ?_
      refine am_zaload 205 dL_isFrame_205 rfl (by repeat (first | assumption | exact am_ue | refine am_un (by first | assumption | decide | omega) ?_)) (am_ix hk (by decide)) ?_
      rw [nI_clamp (n := k) (by omega), hbb k hk, eb]
      refine am_if_eq 206 213 dL_isFrame_206 rfl (fun c206 => ?_) (fun c206 => absurd rfl c206)
      refine am_iconst 213 (v := 0) dL_isFrame_213 (by decide) ?_
      refine am_iadd 214 dL_isFrame_214 ?_
      rw [hw]
      refine am_istore 215 dL_isFrame_215 (by decide) ?_
      refine am_aload 217 dL_isFrame_217 rfl ?_
      refine am_iload 219 dL_isFrame_219 rfl ?_
      refine am_iaload 221 dL_isFrame_221 rfl (by repeat (first | assumption | exact am_ue | refine am_un (by first | assumption | decide | omega) ?_)) (am_ix hk (by decide)) ?_
      rw [nI_clamp (n := k) (by omega), e]
      refine am_if_ne 222 228 dL_isFrame_222 rfl (fun c222 => absurd c222 (fun q => q rfl)) (fun c222 => ?_)
      refine am_goto 225 (tgt := 292) dL_isFrame_225 rfl ?_
      refine am_iinc 292 (v := nI (k + 1)) dL_isFrame_292 rfl (nI_1 (k)) (by decide) ?_
      refine am_goto 295 (tgt := 193) dL_isFrame_295 rfl ?_
      exact ih2
    · have hne : ¬ nI fr = 0 := fun q => absurd ((nI_eq (b := 0) (by omega) (by decide)).mp q) (by omega)
      have efr : m_frs z' k = nI fr := by
        rw [← e]
        unfold m_frs
        rw [qK]
      refine AW.more (rc := 1 + (5 - (k + 1))) (rs := 6 + 6 * (5 - (k + 1))) (by omega) (by omega) ?_
      refine am_iload 193 dL_isFrame_193 rfl ?_
      refine am_iconst 195 (v := 5) dL_isFrame_195 (by decide) ?_
      refine am_icmp_ge 196 298 dL_isFrame_196 rfl (fun c196 => absurd c196 (nI_ge hk (by decide))) (fun c196 => ?_)
      refine am_iload 199 dL_isFrame_199 rfl ?_
      refine am_aload 201 dL_isFrame_201 rfl ?_
      refine am_iload 203 dL_isFrame_203 rfl ?_
      refine am_zaload 205 dL_isFrame_205 rfl (by repeat (first | assumption | exact am_ue | refine am_un (by first | assumption | decide | omega) ?_)) (am_ix hk (by decide)) ?_
      rw [nI_clamp (n := k) (by omega), hbb k hk, eb]
      refine am_if_eq 206 213 dL_isFrame_206 rfl (fun c206 => ?_) (fun c206 => absurd rfl c206)
      refine am_iconst 213 (v := 0) dL_isFrame_213 (by decide) ?_
      refine am_iadd 214 dL_isFrame_214 ?_
      rw [hw]
      refine am_istore 215 dL_isFrame_215 (by decide) ?_
      refine am_aload 217 dL_isFrame_217 rfl ?_
      refine am_iload 219 dL_isFrame_219 rfl ?_
      refine am_iaload 221 dL_isFrame_221 rfl (by repeat (first | assumption | exact am_ue | refine am_un (by first | assumption | decide | omega) ?_)) (am_ix hk (by decide)) ?_
      rw [nI_clamp (n := k) (by omega), e]
      refine am_if_ne 222 228 dL_isFrame_222 rfl (fun c222 => ?_) (fun c222 => absurd c222 hne)
      refine am_iload_n 228 dL_isFrame_228 rfl ?_
      refine am_if_eq 229 249 dL_isFrame_229 rfl (fun c229 => absurd c229 (by decide)) (fun c229 => ?_)
      refine am_aload_n 232 dL_isFrame_232 rfl ?_
      refine am_iload 233 dL_isFrame_233 rfl ?_
      refine am_SW2 235 (mc' := 1) (ms' := 6) (rc := 5 - (k + 1)) (rs := 6 * (5 - (k + 1))) dL_isFrame_235 lL_79 ⟨by decide, by decide⟩ (Nat.le_of_ble_eq_true rfl) (Nat.le_of_ble_eq_true rfl) (s_Lframes q1 hk) ?_
      refine am_is_ct ?_
      rw [efr]
      refine am_aload 238 dL_isFrame_238 rfl ?_
      refine am_iload 240 dL_isFrame_240 rfl ?_
      refine am_iaload 242 dL_isFrame_242 rfl (by repeat (first | assumption | exact am_ue | refine am_un (by first | assumption | decide | omega) ?_)) (am_ix hk (by decide)) ?_
      rw [nI_clamp (n := k) (by omega), e]
      refine am_icmp_eq 243 292 dL_isFrame_243 rfl (fun c243 => ?_) (fun c243 => absurd rfl c243)
      refine am_iinc 292 (v := nI (k + 1)) dL_isFrame_292 rfl (nI_1 (k)) (by decide) ?_
      refine am_goto 295 (tgt := 193) dL_isFrame_295 rfl ?_
      exact ih2
theorem s_LisFrame {lim : Int32} (hG : m_G f p T z) (hT : T ≤ 999) (hl : z_lim z = lim) (hn : p + 45 < n) : AM mL_isFrame 18 105 [.ref p, .int lim] n f (fun o n' f' => o = .inl (some (.int 1)) ∧ n' = n + 3 ∧ (∃ z', m_G f' p (T + 1) z' ∧ z_lim z' = lim) ∧ ∀ x, x < n → (x < p ∨ p + 45 < x) → f' x = f x) := by
  have gp := hG.1
  show AW mL_isFrame 18 105 0 [some (.ref p), some (.int lim), none, none, none, none, none, none, none, none, none, none, none] [] n f _
  subst hl
  by_cases hle : m_hum (m_sg z) ≤ z_lim z
  · refine am_aload_n 0 dL_isFrame_0 rfl ?_
    refine am_bipush 1 (v := 7) dL_isFrame_1 (by decide) ?_
    refine AW.more (rc := 0 + (18)) (rs := 0 + (105)) (by omega) (by omega) ?_
    refine am_V1 3 (mc' := 0) (ms' := 0) (rc := 18) (rs := 105) dL_isFrame_3 lL_22 ⟨by decide, by decide⟩ (by repeat (first | assumption | exact am_ue | refine am_un (by first | assumption | decide | omega) ?_)) (Nat.le_of_ble_eq_true rfl) (Nat.le_of_ble_eq_true rfl) (s_many hG (j := 7) (by decide)) ?_
    refine am_is_ct ?_
    refine am_iload_n 6 dL_isFrame_6 rfl ?_
    refine am_icmp_le 7 14 dL_isFrame_7 rfl (fun c7 => ?_) (fun c7 => absurd hle c7)
    refine am_iconst 14 (v := 0) dL_isFrame_14 (by decide) ?_
    refine am_istore_n 15 dL_isFrame_15 (by decide) ?_
    refine am_iconst 16 (v := 5) dL_isFrame_16 (by decide) ?_
    refine am_newints 17 (t := 0) (N := 5) (rc := 17) (rs := 100) dL_isFrame_17 ac_int rfl (by decide) (by decide) (by decide) ?_
    refine am_astore_n 19 dL_isFrame_19 (by decide) ?_
    refine am_iconst 20 (v := 5) dL_isFrame_20 (by decide) ?_
    refine am_newints 21 (t := 0) (N := 5) (rc := 16) (rs := 95) dL_isFrame_21 ac_int rfl (by decide) (by decide) (by decide) ?_
    refine am_astore 23 dL_isFrame_23 (by decide) ?_
    refine am_iconst 25 (v := 5) dL_isFrame_25 (by decide) ?_
    refine am_newbools 26 (t := 3) (N := 5) (rc := 15) (rs := 90) dL_isFrame_26 ac_boolean rfl (by decide) (by decide) (by decide) ?_
    refine am_astore 28 dL_isFrame_28 (by decide) ?_
    refine am_iconst 30 (v := 0) dL_isFrame_30 (by decide) ?_
    refine am_istore 31 dL_isFrame_31 (by decide) ?_
    refine l_isF1 (hG.on fun x a b => by rw [am_up_ne (by omega), am_up_ne (by omega), am_up_ne (by omega)]) (by omega) hn (am_un (by omega) (am_un (by omega) am_ue)) (am_un (by omega) am_ue) am_ue fun g u1 u2 u3 u4 u5 => ?_
    refine l_isF2a u1 hT hn u2 u3 u4 (fun _ _ => rfl) hle fun g2 v1 v2 => ?_
    exact ⟨rfl, rfl, v1, fun x a b => (v2 x a b).trans ((u5 x a b).trans (by rw [am_up_ne (by omega), am_up_ne (by omega), am_up_ne (by omega)]))⟩
  · refine am_aload_n 0 dL_isFrame_0 rfl ?_
    refine am_bipush 1 (v := 7) dL_isFrame_1 (by decide) ?_
    refine AW.more (rc := 0 + (18)) (rs := 0 + (105)) (by omega) (by omega) ?_
    refine am_V1 3 (mc' := 0) (ms' := 0) (rc := 18) (rs := 105) dL_isFrame_3 lL_22 ⟨by decide, by decide⟩ (by repeat (first | assumption | exact am_ue | refine am_un (by first | assumption | decide | omega) ?_)) (Nat.le_of_ble_eq_true rfl) (Nat.le_of_ble_eq_true rfl) (s_many hG (j := 7) (by decide)) ?_
    refine am_is_ct ?_
    refine am_iload_n 6 dL_isFrame_6 rfl ?_
    refine am_icmp_le 7 14 dL_isFrame_7 rfl (fun c7 => absurd c7 hle) (fun c7 => ?_)
    refine am_iconst 10 (v := 1) dL_isFrame_10 (by decide) ?_
    refine am_goto 11 (tgt := 15) dL_isFrame_11 rfl ?_
    refine am_istore_n 15 dL_isFrame_15 (by decide) ?_
    refine am_iconst 16 (v := 5) dL_isFrame_16 (by decide) ?_
    refine am_newints 17 (t := 0) (N := 5) (rc := 17) (rs := 100) dL_isFrame_17 ac_int rfl (by decide) (by decide) (by decide) ?_
    refine am_astore_n 19 dL_isFrame_19 (by decide) ?_
    refine am_iconst 20 (v := 5) dL_isFrame_20 (by decide) ?_
    refine am_newints 21 (t := 0) (N := 5) (rc := 16) (rs := 95) dL_isFrame_21 ac_int rfl (by decide) (by decide) (by decide) ?_
    refine am_astore 23 dL_isFrame_23 (by decide) ?_
    refine am_iconst 25 (v := 5) dL_isFrame_25 (by decide) ?_
    refine am_newbools 26 (t := 3) (N := 5) (rc := 15) (rs := 90) dL_isFrame_26 ac_boolean rfl (by decide) (by decide) (by decide) ?_
    refine am_astore 28 dL_isFrame_28 (by decide) ?_
    refine am_iconst 30 (v := 0) dL_isFrame_30 (by decide) ?_
    refine am_istore 31 dL_isFrame_31 (by decide) ?_
    refine l_isF1 (hG.on fun x a b => by rw [am_up_ne (by omega), am_up_ne (by omega), am_up_ne (by omega)]) (by omega) hn (am_un (by omega) (am_un (by omega) am_ue)) (am_un (by omega) am_ue) am_ue fun g u1 u2 u3 u4 u5 => ?_
    refine l_isF2b u1 hT hn u2 u3 u4 (fun _ _ => rfl) hle fun g2 v1 v2 => ?_
    exact ⟨rfl, rfl, v1, fun x a b => (v2 x a b).trans ((u5 x a b).trans (by rw [am_up_ne (by omega), am_up_ne (by omega), am_up_ne (by omega)]))⟩
end Is2
