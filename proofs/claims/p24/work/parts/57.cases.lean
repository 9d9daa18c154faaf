/-! ===== the law's turns, case by case ===== -/
/-- ahead of turn k: a glass whose limit the law knows, the script, where the fingers are -/
def l_I (k N : Nat) (xs : Nat → Int32) (lim : Int32) (g : Nat → Int32) (n : Nat) (f : Nat → am_C) : Prop := (∃ z T, T ≤ k ∧ m_G f 1 T z ∧ z_lim z = lim) ∧ f 0 = .inl (20, N, .inl xs) ∧ f 47 = .inl (0, 4, .inl g) ∧ (∀ j, j < 4 → ∃ c, c < 48 ∧ g j = nI c) ∧ 48 ≤ n
/-- behind a turn: all must be well -/
def l_J (k N : Nat) (xs : Nat → Int32) (R S : Nat) (Q : am_P) : Prop := ∀ (lim : Int32) (g : Nat → Int32) (n : Nat) (f : Nat → am_C) (a5 a6 a7 a8 a9 a10 a11 a12 a13 a14 a15 : Option Value), l_I (k + 1) N xs lim g n f → AW mL_law R S 555 [some (.ref 0), some (.ref 1), some (.ref 47), some (.int lim), some (.int (nI k)), a5, a6, a7, a8, a9, a10, a11, a12, a13, a14, a15] [] n f Q
section Cas
variable {k N R S n : Nat} {xs g : Nat → Int32} {lim x y : Int32} {f : Nat → am_C} {Q : am_P} {z7 z8 z9 z10 z11 z12 z13 z14 z15 : Option Value}
theorem l_I.up (h : l_I k N xs lim g n f) : l_I (k + 1) N xs lim g n f := by
  obtain ⟨⟨z, T, h1, h2⟩, h3⟩ := h
  exact ⟨⟨z, T, by omega, h2⟩, h3⟩
theorem m_add1 {r : Nat} : 1 + nI r = nI (1 + r) := nI_add 1 r
theorem m_add4 {r : Nat} : 4 + nI r = nI (4 + r) := nI_add 4 r
theorem m_add30 {r : Nat} : 30 + nI r = nI (30 + r) := nI_add 30 r
theorem m_h61 : ∀ r, r < 61 → -30 ≤ nI r - 30 ∧ nI r - 30 ≤ 30 := by decide +kernel
theorem m_n81 : ∀ r, r < 81 → -40 ≤ nI r - 40 ∧ nI r - 40 ≤ 40 := by decide +kernel
theorem m_abs30 {h : Int32} (h1 : -30 ≤ h) (h2 : h ≤ 30) : (if 0 ≤ h then h else 0 - h) ≤ 30 := by
  by_cases c : 0 ≤ h
  · rw [if_pos c]
    exact h2
  · rw [if_neg c]
    have a1 := Int32.le_iff_toInt_le.mp h1
    have a2 := Int32.lt_iff_toInt_lt.mp (Int32.not_le.mp c)
    rw [show (-30 : Int32).toInt = -30 from rfl] at a1
    rw [show (0 : Int32).toInt = 0 from rfl] at a2
    rw [Int32.le_iff_toInt_le, Int32.toInt_sub, show (0 : Int32).toInt = 0 from rfl, show (30 : Int32).toInt = 30 from rfl, Int.bmod_eq_of_le (by omega) (by omega)]
    omega
theorem m_cv_0 (h : Int32) : m_cv (fun _ => h) h 61 = 0 := by
  show (if m_calmB (fun _ => h) h (60 - 60) = true then nI (60 - 60) else m_cv (fun _ => h) h 60) = 0
  rw [if_pos]
  · rfl
  · unfold m_calmB
    rw [List.all_eq_true]
    intro c _
    show decide (h + 0 - h = 0) = true
    rw [decide_eq_true_iff, Int32.add_zero, Int32.sub_self]
theorem m_cv_in (b : Nat → Int32) (h : Int32) : ∀ d, m_cv b h d = -1 ∨ ∃ k, k ≤ 60 ∧ m_cv b h d = nI k
  | 0 => Or.inl rfl
  | d + 1 => by
    show (if m_calmB b h (60 - d) = true then nI (60 - d) else m_cv b h d) = -1 ∨ ∃ k, k ≤ 60 ∧ (if m_calmB b h (60 - d) = true then nI (60 - d) else m_cv b h d) = nI k
    split
    · exact Or.inr ⟨60 - d, by omega, rfl⟩
    · exact m_cv_in b h d
theorem m_press_sg {z : m_Z} {s : Int32} {j k : Nat} (hj : j < 8) (hk : k < 6) : m_sg ((m_press (z_w z) s j k, z_b z, z_h z), z.2) (8 * k + j) = m_cellA z (8 * k + j) 2 + s := by
  show z_h z + m_press (z_w z) s j k (8 * k + j) - z_b z (8 * k + j) = z_h z + z_w z (8 * k + j) - z_b z (8 * k + j) + s
  rw [m_press_at hj hk, Int32.sub_eq_add_neg, Int32.sub_eq_add_neg, ← Int32.add_assoc, Int32.add_assoc _ s, Int32.add_comm s, ← Int32.add_assoc]
set_option maxHeartbeats 1000000 in
theorem l_c0 (hI : l_I k N xs lim g n f) (hk : k < 44) (hC : l_J k N xs R S Q) : AW mL_law R S 160 [some (.ref 0), some (.ref 1), some (.ref 47), some (.int lim), some (.int (nI k)), some (.int x), some (.int y), z7, z8, z9, z10, z11, z12, z13, z14, z15] [] n f Q := by
  have hI0 := hI.up
  obtain ⟨⟨z, T, hT, hG, hl⟩, hs, ha, hg, hn⟩ := hI
  have h0 := hG.1
  have ht4 := hG.2.2.2.2.1.2.2.1
  refine am_iload 160 dL_law_160 rfl ?_
  refine am_iconst 162 (v := 3) dL_law_162 (by decide) ?_
  refine am_idiv 163 dL_law_163 (by decide) ?_
  refine am_bipush 164 (v := 8) dL_law_164 (by decide) ?_
  refine AW.more (rc := 0 + (R)) (rs := 0 + (S)) (by omega) (by omega) ?_
  refine am_S2 166 (mc' := 0) (ms' := 0) (rc := R) (rs := S) dL_law_166 lL_18 ⟨by decide, by decide⟩ (Nat.le_of_ble_eq_true rfl) (Nat.le_of_ble_eq_true rfl) (s_Lbelow (m := 8) (by decide) (by decide)) ?_
  rintro o n' f' ⟨a, ha8, rfl, rfl, rfl⟩
  refine am_ctI ?_
  refine am_istore 169 dL_law_169 (by decide) ?_
  refine am_iload 171 dL_law_171 rfl ?_
  refine am_bipush 173 (v := 6) dL_law_173 (by decide) ?_
  refine AW.more (rc := 0 + (R)) (rs := 0 + (S)) (by omega) (by omega) ?_
  refine am_S2 175 (mc' := 0) (ms' := 0) (rc := R) (rs := S) dL_law_175 lL_18 ⟨by decide, by decide⟩ (Nat.le_of_ble_eq_true rfl) (Nat.le_of_ble_eq_true rfl) (s_Lbelow (m := 6) (by decide) (by decide)) ?_
  rintro o n' f' ⟨b, hb6, rfl, rfl, rfl⟩
  refine am_ctI ?_
  refine am_istore 178 dL_law_178 (by decide) ?_
  refine am_aload_n 180 dL_law_180 rfl ?_
  refine am_bipush 181 (v := 6) dL_law_181 (by decide) ?_
  refine AW.more (rc := 0 + (R)) (rs := 0 + (S)) (by omega) (by omega) ?_
  refine am_V1 183 (mc' := 0) (ms' := 0) (rc := R) (rs := S) dL_law_183 lL_22 ⟨by decide, by decide⟩ (by repeat (first | assumption | exact am_ue | refine am_un (by first | assumption | decide | omega) ?_)) (Nat.le_of_ble_eq_true rfl) (Nat.le_of_ble_eq_true rfl) (s_many hG (j := 6) (by decide)) ?_
  refine am_is_ct ?_
  refine am_iconst 186 (v := 4) dL_law_186 (by decide) ?_
  refine am_icmp_ge 187 555 dL_law_187 rfl (fun c187 => ?_) (fun c187 => ?_)
  · exact hC _ _ _ _ _ _ _ _ _ _ _ _ _ _ _ hI0
  · have ht : z_to z < 4 := Nat.lt_of_not_le fun q => c187 ((nI_leI (a := 4) (by decide) (by omega)).mpr q)
    refine am_aload_n 190 dL_law_190 rfl ?_
    refine am_iload 191 dL_law_191 rfl ?_
    refine am_bipush 193 (v := 7) dL_law_193 (by decide) ?_
    refine am_iload 195 dL_law_195 rfl ?_
    refine am_iconst 197 (v := 5) dL_law_197 (by decide) ?_
    refine AW.more (rc := 0 + (R)) (rs := 0 + (S)) (by omega) (by omega) ?_
    refine am_V4 198 (mc' := 0) (ms' := 0) (rc := R) (rs := S) dL_law_198 lL_26 ⟨by decide, by decide⟩ (by repeat (first | assumption | exact am_ue | refine am_un (by first | assumption | decide | omega) ?_)) (Nat.le_of_ble_eq_true rfl) (Nat.le_of_ble_eq_true rfl) (s_area hG ha8 hb6 ht) ?_
    rintro o n' f2 ⟨A', rfl, en, g1, g2⟩
    refine am_ctI ?_
    rw [en]
    have j0 := g1.1
    have g0 := (g2 0 (by omega)).trans hs
    have g47 := (g2 47 (by omega)).trans ha
    have hI0 : l_I (k + 1) N xs lim g n f2 := ⟨⟨_, T, by omega, g1, hl⟩, g0, g47, hg, hn⟩
    refine am_aload_n 201 dL_law_201 rfl ?_
    refine am_bipush 202 (v := 6) dL_law_202 (by decide) ?_
    refine AW.more (rc := 0 + (R)) (rs := 0 + (S)) (by omega) (by omega) ?_
    refine am_V1 204 (mc' := 0) (ms' := 0) (rc := R) (rs := S) dL_law_204 lL_22 ⟨by decide, by decide⟩ (by repeat (first | assumption | exact am_ue | refine am_un (by first | assumption | decide | omega) ?_)) (Nat.le_of_ble_eq_true rfl) (Nat.le_of_ble_eq_true rfl) (s_many g1 (j := 6) (by decide)) ?_
    refine am_is_ct ?_
    refine am_iconst 207 (v := 1) dL_law_207 (by decide) ?_
    refine am_isub 208 dL_law_208 ?_
    rw [show m_manyA (z.1, z.2.1, z.2.2.1, (z_to z + 1, A', z_C z), z.2.2.2.2) 6 - 1 = nI (z_to z) from m_sub1]
    refine am_icmp_eq 209 555 dL_law_209 rfl (fun c209 => ?_) (fun c209 => absurd rfl c209)
    exact hC _ _ _ _ _ _ _ _ _ _ _ _ _ _ _ hI0
set_option maxHeartbeats 1000000 in
theorem l_c1 (hI : l_I k N xs lim g n f) (hk : k < 44) (hC : l_J k N xs R S Q) : AW mL_law R S 214 [some (.ref 0), some (.ref 1), some (.ref 47), some (.int lim), some (.int (nI k)), some (.int x), some (.int y), z7, z8, z9, z10, z11, z12, z13, z14, z15] [] n f Q := by
  obtain ⟨⟨z, T, hT, hG, hl⟩, hs, ha, hg, hn⟩ := hI
  have h0 := hG.1
  have hd := hG.2.2.2.2.2.2.2
  have hd1 : 1 ≤ nI (z_d z) := (nI_leI (a := 1) (by decide) (by omega)).mpr hd.1
  refine am_aload_n 214 dL_law_214 rfl ?_
  refine am_iconst 215 (v := 1) dL_law_215 (by decide) ?_
  refine am_iload 216 dL_law_216 rfl ?_
  refine am_iconst 218 (v := 4) dL_law_218 (by decide) ?_
  refine AW.more (rc := 0 + (R)) (rs := 0 + (S)) (by omega) (by omega) ?_
  refine am_S2 219 (mc' := 0) (ms' := 0) (rc := R) (rs := S) dL_law_219 lL_18 ⟨by decide, by decide⟩ (Nat.le_of_ble_eq_true rfl) (Nat.le_of_ble_eq_true rfl) (s_Lbelow (m := 4) (by decide) (by decide)) ?_
  rintro o n' f' ⟨r, hr, rfl, rfl, rfl⟩
  refine am_ctI ?_
  refine am_iadd 222 dL_law_222 ?_
  rw [m_add1]
  refine AW.more (rc := 0 + (R)) (rs := 0 + (S)) (by omega) (by omega) ?_
  refine am_V1 223 (mc' := 0) (ms' := 0) (rc := R) (rs := S) dL_law_223 lL_30 ⟨by decide, by decide⟩ (by repeat (first | assumption | exact am_ue | refine am_un (by first | assumption | decide | omega) ?_)) (Nat.le_of_ble_eq_true rfl) (Nat.le_of_ble_eq_true rfl) (s_dial hG (d := 1 + r) (by omega) (by omega)) ?_
  rintro o n' f2 ⟨rfl, en, g1, g2⟩
  refine am_ctI ?_
  rw [en]
  have g0 := (g2 0 (by omega)).trans hs
  have g47 := (g2 47 (by omega)).trans ha
  have hI0 : l_I (k + 1) N xs lim g n f2 := ⟨⟨_, T, by omega, g1, hl⟩, g0, g47, hg, hn⟩
  refine am_iconst 226 (v := 1) dL_law_226 (by decide) ?_
  refine am_icmp_ge 227 555 dL_law_227 rfl (fun c227 => ?_) (fun c227 => absurd hd1 c227)
  exact hC _ _ _ _ _ _ _ _ _ _ _ _ _ _ _ hI0
set_option maxHeartbeats 1000000 in
theorem l_c2 (hI : l_I k N xs lim g n f) (hk : k < 44) (hC : l_J k N xs R S Q) : AW mL_law R S 232 [some (.ref 0), some (.ref 1), some (.ref 47), some (.int lim), some (.int (nI k)), some (.int x), some (.int y), z7, z8, z9, z10, z11, z12, z13, z14, z15] [] n f Q := by
  obtain ⟨⟨z, T, hT, hG, hl⟩, hs, ha, hg, hn⟩ := hI
  have h0 := hG.1
  refine am_iconst 232 (v := 4) dL_law_232 (by decide) ?_
  refine am_iload 233 dL_law_233 rfl ?_
  refine am_bipush 235 (v := 27) dL_law_235 (by decide) ?_
  refine AW.more (rc := 0 + (R)) (rs := 0 + (S)) (by omega) (by omega) ?_
  refine am_S2 237 (mc' := 0) (ms' := 0) (rc := R) (rs := S) dL_law_237 lL_18 ⟨by decide, by decide⟩ (Nat.le_of_ble_eq_true rfl) (Nat.le_of_ble_eq_true rfl) (s_Lbelow (m := 27) (by decide) (by decide)) ?_
  rintro o n' f' ⟨r, hr, rfl, rfl, rfl⟩
  refine am_ctI ?_
  refine am_iadd 240 dL_law_240 ?_
  rw [m_add4]
  refine am_istore 241 dL_law_241 (by decide) ?_
  refine am_aload_n 243 dL_law_243 rfl ?_
  refine am_iload 244 dL_law_244 rfl ?_
  refine AW.more (rc := 0 + (R)) (rs := 0 + (S)) (by omega) (by omega) ?_
  refine am_V1 246 (mc' := 0) (ms' := 0) (rc := R) (rs := S) dL_law_246 lL_33 ⟨by decide, by decide⟩ (by repeat (first | assumption | exact am_ue | refine am_un (by first | assumption | decide | omega) ?_)) (Nat.le_of_ble_eq_true rfl) (Nat.le_of_ble_eq_true rfl) (s_limit hG (d := 4 + r) (by omega) (by omega)) ?_
  rintro o n' f2 ⟨rfl, en, g1, g2⟩
  refine am_ctI ?_
  rw [en]
  have g0 := (g2 0 (by omega)).trans hs
  have g47 := (g2 47 (by omega)).trans ha
  have hI0 : l_I (k + 1) N xs (nI (4 + r)) g n f2 := ⟨⟨_, T, by omega, g1, rfl⟩, g0, g47, hg, hn⟩
  refine am_iload_n 249 dL_law_249 rfl ?_
  refine am_icmp_eq 250 255 dL_law_250 rfl (fun c250 => ?_) (fun c250 => absurd hl c250)
  refine am_iload 255 dL_law_255 rfl ?_
  refine am_istore_n 257 dL_law_257 (by decide) ?_
  refine am_goto 258 (tgt := 555) dL_law_258 rfl ?_
  exact hC _ _ _ _ _ _ _ _ _ _ _ _ _ _ _ hI0
set_option maxHeartbeats 1000000 in
theorem l_c3 (hI : l_I k N xs lim g n f) (hk : k < 44) (hC : l_J k N xs R S Q) : AW mL_law R S 261 [some (.ref 0), some (.ref 1), some (.ref 47), some (.int lim), some (.int (nI k)), some (.int x), some (.int y), z7, z8, z9, z10, z11, z12, z13, z14, z15] [] n f Q := by
  have hI0 := hI.up
  obtain ⟨⟨z, T, hT, hG, hl⟩, hs, ha, hg, hn⟩ := hI
  have h0 := hG.1
  have hd := hG.2.2.2.2.2.2.2
  have h30 := m_abs30 hd.2.2.2.1 hd.2.2.2.2
  refine am_iload 261 dL_law_261 rfl ?_
  refine am_iconst 263 (v := 3) dL_law_263 (by decide) ?_
  refine AW.more (rc := 0 + (R)) (rs := 0 + (S)) (by omega) (by omega) ?_
  refine am_S2 264 (mc' := 0) (ms' := 0) (rc := R) (rs := S) dL_law_264 lL_18 ⟨by decide, by decide⟩ (Nat.le_of_ble_eq_true rfl) (Nat.le_of_ble_eq_true rfl) (s_Lbelow (m := 3) (by decide) (by decide)) ?_
  rintro o n' f' ⟨r, hr, rfl, rfl, rfl⟩
  refine am_ctI ?_
  refine am_if_ne 267 555 dL_law_267 rfl (fun c267 => ?_) (fun c267 => ?_)
  · exact hC _ _ _ _ _ _ _ _ _ _ _ _ _ _ _ hI0
  · refine am_aload_n 270 dL_law_270 rfl ?_
    refine am_iload 271 dL_law_271 rfl ?_
    refine am_iconst 273 (v := 3) dL_law_273 (by decide) ?_
    refine am_idiv 274 dL_law_274 (by decide) ?_
    refine am_bipush 275 (v := 61) dL_law_275 (by decide) ?_
    refine AW.more (rc := 0 + (R)) (rs := 0 + (S)) (by omega) (by omega) ?_
    refine am_S2 277 (mc' := 0) (ms' := 0) (rc := R) (rs := S) dL_law_277 lL_18 ⟨by decide, by decide⟩ (Nat.le_of_ble_eq_true rfl) (Nat.le_of_ble_eq_true rfl) (s_Lbelow (m := 61) (by decide) (by decide)) ?_
    rintro o n' f' ⟨b, hb, rfl, rfl, rfl⟩
    refine am_ctI ?_
    obtain ⟨b1, b2⟩ := m_h61 b hb
    refine am_bipush 280 (v := 30) dL_law_280 (by decide) ?_
    refine am_isub 282 dL_law_282 ?_
    refine AW.more (rc := 0 + (R)) (rs := 0 + (S)) (by omega) (by omega) ?_
    refine am_V1 283 (mc' := 0) (ms' := 0) (rc := R) (rs := S) dL_law_283 lL_36 ⟨by decide, by decide⟩ (by repeat (first | assumption | exact am_ue | refine am_un (by first | assumption | decide | omega) ?_)) (Nat.le_of_ble_eq_true rfl) (Nat.le_of_ble_eq_true rfl) (s_heat hG b1 b2) ?_
    rintro o n' f2 ⟨rfl, en, g1, g2⟩
    refine am_ctI ?_
    rw [en]
    have g0 := (g2 0 (by omega)).trans hs
    have g47 := (g2 47 (by omega)).trans ha
    have hI0 : l_I (k + 1) N xs lim g n f2 := ⟨⟨_, T, by omega, g1, hl⟩, g0, g47, hg, hn⟩
    refine am_abs 286 dL_law_286 jL_39 (by decide) (Nat.le_of_ble_eq_true rfl) ?_
    refine am_bipush 289 (v := 30) dL_law_289 (by decide) ?_
    refine am_icmp_le 291 555 dL_law_291 rfl (fun c291 => ?_) (fun c291 => absurd h30 c291)
    exact hC _ _ _ _ _ _ _ _ _ _ _ _ _ _ _ hI0
set_option maxHeartbeats 1000000 in
theorem l_c4 (hI : l_I k N xs lim g n f) (hk : k < 44) (hC : l_J k N xs R S Q) : AW mL_law R S 296 [some (.ref 0), some (.ref 1), some (.ref 47), some (.int lim), some (.int (nI k)), some (.int x), some (.int y), z7, z8, z9, z10, z11, z12, z13, z14, z15] [] n f Q := by
  obtain ⟨⟨z, T, hT, hG, hl⟩, hs, ha, hg, hn⟩ := hI
  have h0 := hG.1
  refine am_aload_n 296 dL_law_296 rfl ?_
  refine am_iload 297 dL_law_297 rfl ?_
  refine am_iconst 299 (v := 3) dL_law_299 (by decide) ?_
  refine am_idiv 300 dL_law_300 (by decide) ?_
  refine am_bipush 301 (v := 6) dL_law_301 (by decide) ?_
  refine AW.more (rc := 0 + (R)) (rs := 0 + (S)) (by omega) (by omega) ?_
  refine am_S2 303 (mc' := 0) (ms' := 0) (rc := R) (rs := S) dL_law_303 lL_18 ⟨by decide, by decide⟩ (Nat.le_of_ble_eq_true rfl) (Nat.le_of_ble_eq_true rfl) (s_Lbelow (m := 6) (by decide) (by decide)) ?_
  rintro o n' f' ⟨r, hr, rfl, rfl, rfl⟩
  refine am_ctI ?_
  refine am_iload 306 dL_law_306 rfl ?_
  refine am_bipush 308 (v := 81) dL_law_308 (by decide) ?_
  refine AW.more (rc := 0 + (R)) (rs := 0 + (S)) (by omega) (by omega) ?_
  refine am_S2 310 (mc' := 0) (ms' := 0) (rc := R) (rs := S) dL_law_310 lL_18 ⟨by decide, by decide⟩ (Nat.le_of_ble_eq_true rfl) (Nat.le_of_ble_eq_true rfl) (s_Lbelow (m := 81) (by decide) (by decide)) ?_
  rintro o n' f' ⟨b, hb, rfl, rfl, rfl⟩
  refine am_ctI ?_
  obtain ⟨b1, b2⟩ := m_n81 b hb
  refine am_bipush 313 (v := 40) dL_law_313 (by decide) ?_
  refine am_isub 315 dL_law_315 ?_
  refine AW.more (rc := 0 + (R)) (rs := 0 + (S)) (by omega) (by omega) ?_
  refine am_V2 316 (mc' := 0) (ms' := 0) (rc := R) (rs := S) dL_law_316 lL_44 ⟨by decide, by decide⟩ (by repeat (first | assumption | exact am_ue | refine am_un (by first | assumption | decide | omega) ?_)) (Nat.le_of_ble_eq_true rfl) (Nat.le_of_ble_eq_true rfl) (s_noise hG hr b1 b2) ?_
  rintro o n' f2 ⟨rfl, en, g1, g2⟩
  refine am_ctI ?_
  rw [en]
  have j0 := g1.1
  have g0 := (g2 0 (by omega)).trans hs
  have g47 := (g2 47 (by omega)).trans ha
  have hI0 : l_I (k + 1) N xs lim g n f2 := ⟨⟨_, T, by omega, g1, hl⟩, g0, g47, hg, hn⟩
  refine am_aload_n 319 dL_law_319 rfl ?_
  refine am_bipush 320 (v := 7) dL_law_320 (by decide) ?_
  refine AW.more (rc := 0 + (R)) (rs := 0 + (S)) (by omega) (by omega) ?_
  refine am_V1 322 (mc' := 0) (ms' := 0) (rc := R) (rs := S) dL_law_322 lL_22 ⟨by decide, by decide⟩ (by repeat (first | assumption | exact am_ue | refine am_un (by first | assumption | decide | omega) ?_)) (Nat.le_of_ble_eq_true rfl) (Nat.le_of_ble_eq_true rfl) (s_many g1 (j := 7) (by decide)) ?_
  refine am_is_ct ?_
  refine am_icmp_eq 325 555 dL_law_325 rfl (fun c325 => ?_) (fun c325 => absurd rfl c325)
  exact hC _ _ _ _ _ _ _ _ _ _ _ _ _ _ _ hI0
set_option maxHeartbeats 1000000 in
theorem l_c5 (hI : l_I k N xs lim g n f) (hk : k < 44) (hC : l_J k N xs R S Q) : AW mL_law R S 330 [some (.ref 0), some (.ref 1), some (.ref 47), some (.int lim), some (.int (nI k)), some (.int x), some (.int y), z7, z8, z9, z10, z11, z12, z13, z14, z15] [] n f Q := by
  have hI0 := hI.up
  obtain ⟨⟨z, T, hT, hG, hl⟩, hs, ha, hg, hn⟩ := hI
  have h0 := hG.1
  have h5 := m_th_5 (K := z_K z)
  refine am_iload 330 dL_law_330 rfl ?_
  refine am_iconst 332 (v := 5) dL_law_332 (by decide) ?_
  refine AW.more (rc := 0 + (R)) (rs := 0 + (S)) (by omega) (by omega) ?_
  refine am_S2 333 (mc' := 0) (ms' := 0) (rc := R) (rs := S) dL_law_333 lL_18 ⟨by decide, by decide⟩ (Nat.le_of_ble_eq_true rfl) (Nat.le_of_ble_eq_true rfl) (s_Lbelow (m := 5) (by decide) (by decide)) ?_
  rintro o n' f' ⟨r, hr, rfl, rfl, rfl⟩
  refine am_ctI ?_
  refine am_if_ne 336 555 dL_law_336 rfl (fun c336 => ?_) (fun c336 => ?_)
  · exact hC _ _ _ _ _ _ _ _ _ _ _ _ _ _ _ hI0
  · refine am_aload_n 339 dL_law_339 rfl ?_
    refine AW.more (rc := 0 + (R)) (rs := 0 + (S)) (by omega) (by omega) ?_
    refine am_V0 340 (mc' := 0) (ms' := 0) (rc := R) (rs := S) dL_law_340 lL_47 ⟨by decide, by decide⟩ (by repeat (first | assumption | exact am_ue | refine am_un (by first | assumption | decide | omega) ?_)) (Nat.le_of_ble_eq_true rfl) (Nat.le_of_ble_eq_true rfl) (s_wipe hG (by omega)) ?_
    rintro o n' f2 ⟨K', ca', C', hK0, rfl, en, g1, g2⟩
    refine am_ctI ?_
    rw [en]
    have j0 := g1.1
    have g0 := (g2 0 (by omega)).trans hs
    have g47 := (g2 47 (by omega)).trans ha
    have e2 : m_manyA ((fun _ => 0, fun _ => z_h z, z_h z), K', (z_be z, z_li z, ca'), (z_to z, z_A z, C'), z.2.2.2.2) 2 = 0 := by
      show nI (0 + m_th K' 0 + m_th K' 1 + m_th K' 2 + m_th K' 3 + m_th K' 4) = 0
      unfold m_th
      rw [if_neg (fun q => q (hK0 0 (by decide))), if_neg (fun q => q (hK0 1 (by decide))), if_neg (fun q => q (hK0 2 (by decide))), if_neg (fun q => q (hK0 3 (by decide))), if_neg (fun q => q (hK0 4 (by decide)))]
      rfl
    refine am_if_lt 343 361 dL_law_343 rfl (fun c343 => absurd c343 (nI_pos (by omega))) (fun c343 => ?_)
    refine am_aload_n 346 dL_law_346 rfl ?_
    refine am_iconst 347 (v := 2) dL_law_347 (by decide) ?_
    refine AW.more (rc := 0 + (R)) (rs := 0 + (S)) (by omega) (by omega) ?_
    refine am_V1 348 (mc' := 0) (ms' := 0) (rc := R) (rs := S) dL_law_348 lL_22 ⟨by decide, by decide⟩ (by repeat (first | assumption | exact am_ue | refine am_un (by first | assumption | decide | omega) ?_)) (Nat.le_of_ble_eq_true rfl) (Nat.le_of_ble_eq_true rfl) (s_many g1 (j := 2) (by decide)) ?_
    refine am_is_ct ?_
    rw [e2]
    refine am_if_ne 351 361 dL_law_351 rfl (fun c351 => absurd c351 (fun q => q rfl)) (fun c351 => ?_)
    refine am_aload_n 354 dL_law_354 rfl ?_
    refine AW.more (rc := 0 + (R)) (rs := 0 + (S)) (by omega) (by omega) ?_
    refine am_V0 355 (mc' := 0) (ms' := 0) (rc := R) (rs := S) dL_law_355 lL_51 ⟨by decide, by decide⟩ (by repeat (first | assumption | exact am_ue | refine am_un (by first | assumption | decide | omega) ?_)) (Nat.le_of_ble_eq_true rfl) (Nat.le_of_ble_eq_true rfl) (s_calmIn g1) ?_
    rintro o n'' f3 ⟨rfl, en, g3, g4⟩
    refine am_ctI ?_
    rw [en]
    have k0 := (g4 0 (by omega)).trans g0
    have k47 := (g4 47 (by omega)).trans g47
    have hI0 : l_I (k + 1) N xs lim g n f3 := ⟨⟨_, T, by omega, g3, hl⟩, k0, k47, hg, hn⟩
    rw [show m_cv (fun _ => z_h z) (z_h z) 61 = 0 from m_cv_0 _]
    refine am_if_eq 358 555 dL_law_358 rfl (fun c358 => ?_) (fun c358 => absurd rfl c358)
    exact hC _ _ _ _ _ _ _ _ _ _ _ _ _ _ _ hI0
end Cas
