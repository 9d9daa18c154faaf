/-! ===== the law's cases, at one call on new objects ===== -/
section Ops
variable {f : Nat → am_C} {g : Nat → Int64} {xs : Nat → Int32} {P : am_P}
def l_E (xs : Nat → Int32) (P : am_P) : Prop := ∀ (rc rs : Nat) (z6 z7 z8 : Option Value) (n' : Nat) (f' : Nat → am_C), f' 0 = .inl (20, 5, .inl xs) → AW mL_law rc rs 1432 [some (.ref 0), some (.ref 2), some (.ref 48), some (.ref 53), some (.ref 54), some (.int 0), z6, z7, z8] [] n' f' P
theorem l_lg {a b : Int64} (h : a = b) : lg_cmp a b = 0 := (lg_cmp_eq _ _).mpr h
set_option maxHeartbeats 4000000 in
theorem l_area (hF : m_Fr f 2) (hM : r_Mo f 48 0 (fun _ => 0)) (hs : f 0 = .inl (20, 5, .inl xs)) (ho : f 53 = .inl (1, 1, .inr (.inl g))) (hE : l_E xs P) : AW mL_law 4 25 144 [some (.ref 0), some (.ref 2), some (.ref 48), some (.ref 53), some (.ref 54), some (.int 0), none, none, none] [] 55 f P := by
  rcases Classical.em ((0 ≤ (xs ((0 : Int32) + 1).toNatClampNeg) ∧ (xs ((0 : Int32) + 1).toNatClampNeg) ≤ 7) ∧ ((xs ((0 : Int32) + 1).toNatClampNeg) ≤ (xs ((0 : Int32) + 2).toNatClampNeg) ∧ (xs ((0 : Int32) + 2).toNatClampNeg) ≤ 7) ∧ (0 ≤ (xs ((0 : Int32) + 3).toNatClampNeg) ∧ (xs ((0 : Int32) + 3).toNatClampNeg) ≤ 5) ∧ ((xs ((0 : Int32) + 3).toNatClampNeg) ≤ (xs ((0 : Int32) + 4).toNatClampNeg) ∧ (xs ((0 : Int32) + 4).toNatClampNeg) ≤ 5)) with hc | hc
  · have hv : m_oArea (xs ((0 : Int32) + 1).toNatClampNeg) (xs ((0 : Int32) + 2).toNatClampNeg) (xs ((0 : Int32) + 3).toNatClampNeg) (xs ((0 : Int32) + 4).toNatClampNeg) = m_iv 0 := by
      obtain ⟨h1, h2, h3, h4⟩ := hc
      unfold m_oArea
      rw [if_pos ⟨Int32.not_lt.mpr h1.1, Int32.not_lt.mpr h2.1, (m_leP 7 rfl rfl (by decide)).mp h2.2, Int32.not_lt.mpr h3.1, Int32.not_lt.mpr h4.1, (m_leP 5 rfl rfl (by decide)).mp h4.2⟩]
    refine am_aload_n 144 dL_law_144 rfl ?_
    refine am_aload_n 145 dL_law_145 rfl ?_
    refine am_iload 146 dL_law_146 rfl ?_
    refine am_iconst 148 (v := 1) dL_law_148 (by decide) ?_
    refine am_iadd 149 dL_law_149 ?_
    refine am_saload 150 dL_law_150 hs (am_ix (c := 1) (by decide) (by decide)) ?_
    refine am_aload_n 151 dL_law_151 rfl ?_
    refine am_iload 152 dL_law_152 rfl ?_
    refine am_iconst 154 (v := 2) dL_law_154 (by decide) ?_
    refine am_iadd 155 dL_law_155 ?_
    refine am_saload 156 dL_law_156 hs (am_ix (c := 2) (by decide) (by decide)) ?_
    refine am_aload_n 157 dL_law_157 rfl ?_
    refine am_iload 158 dL_law_158 rfl ?_
    refine am_iconst 160 (v := 3) dL_law_160 (by decide) ?_
    refine am_iadd 161 dL_law_161 ?_
    refine am_saload 162 dL_law_162 hs (am_ix (c := 3) (by decide) (by decide)) ?_
    refine am_aload_n 163 dL_law_163 rfl ?_
    refine am_iload 164 dL_law_164 rfl ?_
    refine am_iconst 166 (v := 4) dL_law_166 (by decide) ?_
    refine am_iadd 167 dL_law_167 ?_
    refine am_saload 168 dL_law_168 hs (am_ix (c := 4) (by decide) (by decide)) ?_
    refine am_aload_n 169 dL_law_169 rfl ?_
    refine am_SW6 170 (mc' := 1) (ms' := 6) (rc := 3) (rs := 19) dL_law_170 lL_76 ⟨by decide, by decide⟩ (Nat.le_of_ble_eq_true rfl) (Nat.le_of_ble_eq_true rfl) (s_Larea_ok hF ho (by decide) hv) ?_
    rintro o n' f1 ⟨rfl, rfl, e1, e2⟩
    have hs1 : f1 0 = .inl (20, 5, .inl xs) := (e2 0 (by omega) (by omega)).trans hs
    have hM1 : r_Mo f1 48 0 (fun _ => 0) := hM.on fun x a b => e2 x (by omega) (by omega)
    refine am_ct_in ?_
    refine am_istore 173 dL_law_173 (by decide) ?_
    refine am_aload_n 175 dL_law_175 rfl ?_
    refine am_aload_n 176 dL_law_176 rfl ?_
    refine am_iload 177 dL_law_177 rfl ?_
    refine am_iconst 179 (v := 1) dL_law_179 (by decide) ?_
    refine am_iadd 180 dL_law_180 ?_
    refine am_saload 181 dL_law_181 hs1 (am_ix (c := 1) (by decide) (by decide)) ?_
    refine am_aload_n 182 dL_law_182 rfl ?_
    refine am_iload 183 dL_law_183 rfl ?_
    refine am_iconst 185 (v := 2) dL_law_185 (by decide) ?_
    refine am_iadd 186 dL_law_186 ?_
    refine am_saload 187 dL_law_187 hs1 (am_ix (c := 2) (by decide) (by decide)) ?_
    refine am_aload_n 188 dL_law_188 rfl ?_
    refine am_iload 189 dL_law_189 rfl ?_
    refine am_iconst 191 (v := 3) dL_law_191 (by decide) ?_
    refine am_iadd 192 dL_law_192 ?_
    refine am_saload 193 dL_law_193 hs1 (am_ix (c := 3) (by decide) (by decide)) ?_
    refine am_aload_n 194 dL_law_194 rfl ?_
    refine am_iload 195 dL_law_195 rfl ?_
    refine am_iconst 197 (v := 4) dL_law_197 (by decide) ?_
    refine am_iadd 198 dL_law_198 ?_
    refine am_saload 199 dL_law_199 hs1 (am_ix (c := 4) (by decide) (by decide)) ?_
    refine am_V4 200 (mc' := 3) (ms' := 19) (rc := 0) (rs := 0) dL_law_200 lL_81 ⟨by decide, by decide⟩ hM1.1 (Nat.le_of_ble_eq_true rfl) (Nat.le_of_ble_eq_true rfl) (s_rarea_t hM1 (by omega) hc.1 hc.2.1 hc.2.2.1 hc.2.2.2) ?_
    rintro o n2 f2 ⟨rfl, hn, ⟨rest, t0⟩, e3⟩
    have hs2 : f2 0 = .inl (20, 5, .inl xs) := (e3 0 (by omega)).trans hs1
    have o2 := (e3 53 (by omega)).trans e1
    refine am_ct_in ?_
    refine am_istore 203 dL_law_203 (by decide) ?_
    refine am_aload_n 205 dL_law_205 rfl ?_
    refine am_V0 206 (mc' := 0) (ms' := 0) (rc := 0) (rs := 0) dL_law_206 lL_82 ⟨by decide, by decide⟩ t0 (Nat.le_of_ble_eq_true rfl) (Nat.le_of_ble_eq_true rfl) (s_thrown t0) ?_
    refine am_is_ct ?_
    refine am_iload 209 dL_law_209 rfl ?_
    refine am_icmp_eq 211 216 dL_law_211 rfl (fun c211 => ?_) (fun c211 => absurd rfl c211)
    refine am_iload 216 dL_law_216 rfl ?_
    refine am_if_ne 218 233 dL_law_218 rfl (fun c218 => absurd c218 (by decide)) (fun c218 => ?_)
    refine am_aload_n 221 dL_law_221 rfl ?_
    refine am_iconst 222 (v := 0) dL_law_222 (by decide) ?_
    refine am_laload 223 dL_law_223 rfl o2 (am_ix (c := 0) (by decide) (by decide)) ?_
    refine am_iload 224 dL_law_224 rfl ?_
    refine am_i2l 226 dL_law_226 ?_
    refine am_lcmp 227 dL_law_227 ?_
    refine am_if_eq 228 233 dL_law_228 rfl (fun c228 => ?_) (fun c228 => absurd (l_lg am_up_eq) c228)
    refine am_goto 233 (tgt := 1432) dL_law_233 rfl ?_
    exact hE _ _ _ _ _ _ _ hs2
  · have hv : m_oArea (xs ((0 : Int32) + 1).toNatClampNeg) (xs ((0 : Int32) + 2).toNatClampNeg) (xs ((0 : Int32) + 3).toNatClampNeg) (xs ((0 : Int32) + 4).toNatClampNeg) = .inr 0 := by
      unfold m_oArea
      rw [if_neg]
      rintro ⟨q1, q2, q3, q4, q5, q6⟩
      have b1 := Int32.not_lt.mp q1
      have b2 := Int32.not_lt.mp q2
      have b3 := (m_leP 7 rfl rfl (by decide)).mpr q3
      have b4 := Int32.not_lt.mp q4
      have b5 := Int32.not_lt.mp q5
      have b6 := (m_leP 5 rfl rfl (by decide)).mpr q6
      have b7 := Int32.le_trans b2 b3
      have b8 := Int32.le_trans b5 b6
      exact hc ⟨⟨b1, b7⟩, ⟨b2, b3⟩, ⟨b4, b8⟩, ⟨b5, b6⟩⟩
    refine AW.more (rc := 1) (rs := 6) (by omega) (by omega) ?_
    refine am_aload_n 144 dL_law_144 rfl ?_
    refine am_aload_n 145 dL_law_145 rfl ?_
    refine am_iload 146 dL_law_146 rfl ?_
    refine am_iconst 148 (v := 1) dL_law_148 (by decide) ?_
    refine am_iadd 149 dL_law_149 ?_
    refine am_saload 150 dL_law_150 hs (am_ix (c := 1) (by decide) (by decide)) ?_
    refine am_aload_n 151 dL_law_151 rfl ?_
    refine am_iload 152 dL_law_152 rfl ?_
    refine am_iconst 154 (v := 2) dL_law_154 (by decide) ?_
    refine am_iadd 155 dL_law_155 ?_
    refine am_saload 156 dL_law_156 hs (am_ix (c := 2) (by decide) (by decide)) ?_
    refine am_aload_n 157 dL_law_157 rfl ?_
    refine am_iload 158 dL_law_158 rfl ?_
    refine am_iconst 160 (v := 3) dL_law_160 (by decide) ?_
    refine am_iadd 161 dL_law_161 ?_
    refine am_saload 162 dL_law_162 hs (am_ix (c := 3) (by decide) (by decide)) ?_
    refine am_aload_n 163 dL_law_163 rfl ?_
    refine am_iload 164 dL_law_164 rfl ?_
    refine am_iconst 166 (v := 4) dL_law_166 (by decide) ?_
    refine am_iadd 167 dL_law_167 ?_
    refine am_saload 168 dL_law_168 hs (am_ix (c := 4) (by decide) (by decide)) ?_
    refine am_aload_n 169 dL_law_169 rfl ?_
    refine am_SW6 170 (mc' := 1) (ms' := 6) (rc := 0) (rs := 0) dL_law_170 lL_76 ⟨by decide, by decide⟩ (Nat.le_of_ble_eq_true rfl) (Nat.le_of_ble_eq_true rfl) (s_Larea_bad0 hF hv) ?_
    rintro o n' f1 ⟨rfl, rfl, e2⟩
    have hs1 : f1 0 = .inl (20, 5, .inl xs) := (e2 0 (by omega)).trans hs
    have hM1 : r_Mo f1 48 0 (fun _ => 0) := hM.on fun x a b => e2 x (by omega)
    refine am_ct_in ?_
    refine am_istore 173 dL_law_173 (by decide) ?_
    refine am_aload_n 175 dL_law_175 rfl ?_
    refine am_aload_n 176 dL_law_176 rfl ?_
    refine am_iload 177 dL_law_177 rfl ?_
    refine am_iconst 179 (v := 1) dL_law_179 (by decide) ?_
    refine am_iadd 180 dL_law_180 ?_
    refine am_saload 181 dL_law_181 hs1 (am_ix (c := 1) (by decide) (by decide)) ?_
    refine am_aload_n 182 dL_law_182 rfl ?_
    refine am_iload 183 dL_law_183 rfl ?_
    refine am_iconst 185 (v := 2) dL_law_185 (by decide) ?_
    refine am_iadd 186 dL_law_186 ?_
    refine am_saload 187 dL_law_187 hs1 (am_ix (c := 2) (by decide) (by decide)) ?_
    refine am_aload_n 188 dL_law_188 rfl ?_
    refine am_iload 189 dL_law_189 rfl ?_
    refine am_iconst 191 (v := 3) dL_law_191 (by decide) ?_
    refine am_iadd 192 dL_law_192 ?_
    refine am_saload 193 dL_law_193 hs1 (am_ix (c := 3) (by decide) (by decide)) ?_
    refine am_aload_n 194 dL_law_194 rfl ?_
    refine am_iload 195 dL_law_195 rfl ?_
    refine am_iconst 197 (v := 4) dL_law_197 (by decide) ?_
    refine am_iadd 198 dL_law_198 ?_
    refine am_saload 199 dL_law_199 hs1 (am_ix (c := 4) (by decide) (by decide)) ?_
    refine am_V4 200 (mc' := 0) (ms' := 0) (rc := 0) (rs := 0) dL_law_200 lL_81 ⟨by decide, by decide⟩ hM1.1 (Nat.le_of_ble_eq_true rfl) (Nat.le_of_ble_eq_true rfl) (s_rarea_f hM1 hc) ?_
    rintro o n2 f2 ⟨rfl, hn, ⟨rest, t0⟩, e3⟩
    have hs2 : f2 0 = .inl (20, 5, .inl xs) := (e3 0 (by omega)).trans hs1
    refine am_ct_in ?_
    refine am_istore 203 dL_law_203 (by decide) ?_
    refine am_aload_n 205 dL_law_205 rfl ?_
    refine am_V0 206 (mc' := 0) (ms' := 0) (rc := 0) (rs := 0) dL_law_206 lL_82 ⟨by decide, by decide⟩ t0 (Nat.le_of_ble_eq_true rfl) (Nat.le_of_ble_eq_true rfl) (s_thrown t0) ?_
    refine am_is_ct ?_
    refine am_iload 209 dL_law_209 rfl ?_
    refine am_icmp_eq 211 216 dL_law_211 rfl (fun c211 => ?_) (fun c211 => absurd rfl c211)
    refine am_iload 216 dL_law_216 rfl ?_
    refine am_if_ne 218 233 dL_law_218 rfl (fun c218 => ?_) (fun c218 => absurd c218 (by decide))
    refine am_goto 233 (tgt := 1432) dL_law_233 rfl ?_
    exact hE _ _ _ _ _ _ _ hs2
set_option maxHeartbeats 4000000 in
theorem l_dial (hF : m_Fr f 2) (hM : r_Mo f 48 0 (fun _ => 0)) (hs : f 0 = .inl (20, 5, .inl xs)) (ho : f 53 = .inl (1, 1, .inr (.inl g))) (hE : l_E xs P) : AW mL_law 1 6 236 [some (.ref 0), some (.ref 2), some (.ref 48), some (.ref 53), some (.ref 54), some (.int 0), none, none, none] [] 55 f P := by
  rcases Classical.em (1 ≤ (xs ((0 : Int32) + 1).toNatClampNeg) ∧ (xs ((0 : Int32) + 1).toNatClampNeg) ≤ 4) with hc | hc
  · refine am_aload_n 236 dL_law_236 rfl ?_
    refine am_aload_n 237 dL_law_237 rfl ?_
    refine am_iload 238 dL_law_238 rfl ?_
    refine am_iconst 240 (v := 1) dL_law_240 (by decide) ?_
    refine am_iadd 241 dL_law_241 ?_
    refine am_saload 242 dL_law_242 hs (am_ix (c := 1) (by decide) (by decide)) ?_
    refine am_aload_n 243 dL_law_243 rfl ?_
    refine am_SW3 244 (mc' := 1) (ms' := 6) (rc := 0) (rs := 0) dL_law_244 lL_86 ⟨by decide, by decide⟩ (Nat.le_of_ble_eq_true rfl) (Nat.le_of_ble_eq_true rfl) (s_Ldial_ok hF ho (by decide) (by unfold m_oDial; rw [if_pos hc])) ?_
    rintro o n' f1 ⟨rfl, rfl, e1, e2⟩
    have hs1 : f1 0 = .inl (20, 5, .inl xs) := (e2 0 (by omega) (by omega)).trans hs
    have hM1 : r_Mo f1 48 0 (fun _ => 0) := hM.on fun x a b => e2 x (by omega) (by omega)
    refine am_ct_in ?_
    refine am_istore 247 dL_law_247 (by decide) ?_
    refine am_aload_n 249 dL_law_249 rfl ?_
    refine am_aload_n 250 dL_law_250 rfl ?_
    refine am_iload 251 dL_law_251 rfl ?_
    refine am_iconst 253 (v := 1) dL_law_253 (by decide) ?_
    refine am_iadd 254 dL_law_254 ?_
    refine am_saload 255 dL_law_255 hs1 (am_ix (c := 1) (by decide) (by decide)) ?_
    refine am_V1 256 (mc' := 0) (ms' := 0) (rc := 0) (rs := 0) dL_law_256 lL_89 ⟨by decide, by decide⟩ hM1.1 (Nat.le_of_ble_eq_true rfl) (Nat.le_of_ble_eq_true rfl) (s_rdial_t hM1 hc) ?_
    rintro o n2 f2 ⟨rfl, hn, ⟨rest, t0⟩, e3⟩
    have hs2 : f2 0 = .inl (20, 5, .inl xs) := (e3 0 (by omega)).trans hs1
    have o2 := (e3 53 (by omega)).trans e1
    refine am_ct_in ?_
    refine am_istore 259 dL_law_259 (by decide) ?_
    refine am_aload_n 261 dL_law_261 rfl ?_
    refine am_V0 262 (mc' := 0) (ms' := 0) (rc := 0) (rs := 0) dL_law_262 lL_82 ⟨by decide, by decide⟩ t0 (Nat.le_of_ble_eq_true rfl) (Nat.le_of_ble_eq_true rfl) (s_thrown t0) ?_
    refine am_is_ct ?_
    refine am_iload 265 dL_law_265 rfl ?_
    refine am_icmp_eq 267 272 dL_law_267 rfl (fun c267 => ?_) (fun c267 => absurd rfl c267)
    refine am_iload 272 dL_law_272 rfl ?_
    refine am_if_ne 274 289 dL_law_274 rfl (fun c274 => absurd c274 (by decide)) (fun c274 => ?_)
    refine am_aload_n 277 dL_law_277 rfl ?_
    refine am_iconst 278 (v := 0) dL_law_278 (by decide) ?_
    refine am_laload 279 dL_law_279 rfl o2 (am_ix (c := 0) (by decide) (by decide)) ?_
    refine am_iload 280 dL_law_280 rfl ?_
    refine am_i2l 282 dL_law_282 ?_
    refine am_lcmp 283 dL_law_283 ?_
    refine am_if_eq 284 289 dL_law_284 rfl (fun c284 => ?_) (fun c284 => absurd (l_lg am_up_eq) c284)
    refine am_goto 289 (tgt := 1432) dL_law_289 rfl ?_
    exact hE _ _ _ _ _ _ _ hs2
  · refine am_aload_n 236 dL_law_236 rfl ?_
    refine am_aload_n 237 dL_law_237 rfl ?_
    refine am_iload 238 dL_law_238 rfl ?_
    refine am_iconst 240 (v := 1) dL_law_240 (by decide) ?_
    refine am_iadd 241 dL_law_241 ?_
    refine am_saload 242 dL_law_242 hs (am_ix (c := 1) (by decide) (by decide)) ?_
    refine am_aload_n 243 dL_law_243 rfl ?_
    refine am_SW3 244 (mc' := 1) (ms' := 6) (rc := 0) (rs := 0) dL_law_244 lL_86 ⟨by decide, by decide⟩ (Nat.le_of_ble_eq_true rfl) (Nat.le_of_ble_eq_true rfl) (s_Ldial_bad0 hF (by unfold m_oDial; rw [if_neg hc])) ?_
    rintro o n' f1 ⟨rfl, rfl, e2⟩
    have hs1 : f1 0 = .inl (20, 5, .inl xs) := (e2 0 (by omega)).trans hs
    have hM1 : r_Mo f1 48 0 (fun _ => 0) := hM.on fun x a b => e2 x (by omega)
    refine am_ct_in ?_
    refine am_istore 247 dL_law_247 (by decide) ?_
    refine am_aload_n 249 dL_law_249 rfl ?_
    refine am_aload_n 250 dL_law_250 rfl ?_
    refine am_iload 251 dL_law_251 rfl ?_
    refine am_iconst 253 (v := 1) dL_law_253 (by decide) ?_
    refine am_iadd 254 dL_law_254 ?_
    refine am_saload 255 dL_law_255 hs1 (am_ix (c := 1) (by decide) (by decide)) ?_
    refine am_V1 256 (mc' := 0) (ms' := 0) (rc := 0) (rs := 0) dL_law_256 lL_89 ⟨by decide, by decide⟩ hM1.1 (Nat.le_of_ble_eq_true rfl) (Nat.le_of_ble_eq_true rfl) (s_rdial_f hM1 hc) ?_
    rintro o n2 f2 ⟨rfl, hn, ⟨rest, t0⟩, e3⟩
    have hs2 : f2 0 = .inl (20, 5, .inl xs) := (e3 0 (by omega)).trans hs1
    refine am_ct_in ?_
    refine am_istore 259 dL_law_259 (by decide) ?_
    refine am_aload_n 261 dL_law_261 rfl ?_
    refine am_V0 262 (mc' := 0) (ms' := 0) (rc := 0) (rs := 0) dL_law_262 lL_82 ⟨by decide, by decide⟩ t0 (Nat.le_of_ble_eq_true rfl) (Nat.le_of_ble_eq_true rfl) (s_thrown t0) ?_
    refine am_is_ct ?_
    refine am_iload 265 dL_law_265 rfl ?_
    refine am_icmp_eq 267 272 dL_law_267 rfl (fun c267 => ?_) (fun c267 => absurd rfl c267)
    refine am_iload 272 dL_law_272 rfl ?_
    refine am_if_ne 274 289 dL_law_274 rfl (fun c274 => ?_) (fun c274 => absurd c274 (by decide))
    refine am_goto 289 (tgt := 1432) dL_law_289 rfl ?_
    exact hE _ _ _ _ _ _ _ hs2
set_option maxHeartbeats 4000000 in
theorem l_limit (hF : m_Fr f 2) (hM : r_Mo f 48 0 (fun _ => 0)) (hs : f 0 = .inl (20, 5, .inl xs)) (ho : f 53 = .inl (1, 1, .inr (.inl g))) (hE : l_E xs P) : AW mL_law 1 6 292 [some (.ref 0), some (.ref 2), some (.ref 48), some (.ref 53), some (.ref 54), some (.int 0), none, none, none] [] 55 f P := by
  rcases Classical.em (1 ≤ (xs ((0 : Int32) + 1).toNatClampNeg) ∧ (xs ((0 : Int32) + 1).toNatClampNeg) ≤ 30) with hc | hc
  · refine am_aload_n 292 dL_law_292 rfl ?_
    refine am_aload_n 293 dL_law_293 rfl ?_
    refine am_iload 294 dL_law_294 rfl ?_
    refine am_iconst 296 (v := 1) dL_law_296 (by decide) ?_
    refine am_iadd 297 dL_law_297 ?_
    refine am_saload 298 dL_law_298 hs (am_ix (c := 1) (by decide) (by decide)) ?_
    refine am_aload_n 299 dL_law_299 rfl ?_
    refine am_SW3 300 (mc' := 1) (ms' := 6) (rc := 0) (rs := 0) dL_law_300 lL_90 ⟨by decide, by decide⟩ (Nat.le_of_ble_eq_true rfl) (Nat.le_of_ble_eq_true rfl) (s_Llimit_ok hF ho (by decide) (by unfold m_oLimit; rw [if_pos hc])) ?_
    rintro o n' f1 ⟨rfl, rfl, e1, e2⟩
    have hs1 : f1 0 = .inl (20, 5, .inl xs) := (e2 0 (by omega) (by omega)).trans hs
    have hM1 : r_Mo f1 48 0 (fun _ => 0) := hM.on fun x a b => e2 x (by omega) (by omega)
    refine am_ct_in ?_
    refine am_istore 303 dL_law_303 (by decide) ?_
    refine am_aload_n 305 dL_law_305 rfl ?_
    refine am_aload_n 306 dL_law_306 rfl ?_
    refine am_iload 307 dL_law_307 rfl ?_
    refine am_iconst 309 (v := 1) dL_law_309 (by decide) ?_
    refine am_iadd 310 dL_law_310 ?_
    refine am_saload 311 dL_law_311 hs1 (am_ix (c := 1) (by decide) (by decide)) ?_
    refine am_V1 312 (mc' := 0) (ms' := 0) (rc := 0) (rs := 0) dL_law_312 lL_92 ⟨by decide, by decide⟩ hM1.1 (Nat.le_of_ble_eq_true rfl) (Nat.le_of_ble_eq_true rfl) (s_rlimit_t hM1 hc) ?_
    rintro o n2 f2 ⟨rfl, hn, ⟨rest, t0⟩, e3⟩
    have hs2 : f2 0 = .inl (20, 5, .inl xs) := (e3 0 (by omega)).trans hs1
    have o2 := (e3 53 (by omega)).trans e1
    refine am_ct_in ?_
    refine am_istore 315 dL_law_315 (by decide) ?_
    refine am_aload_n 317 dL_law_317 rfl ?_
    refine am_V0 318 (mc' := 0) (ms' := 0) (rc := 0) (rs := 0) dL_law_318 lL_82 ⟨by decide, by decide⟩ t0 (Nat.le_of_ble_eq_true rfl) (Nat.le_of_ble_eq_true rfl) (s_thrown t0) ?_
    refine am_is_ct ?_
    refine am_iload 321 dL_law_321 rfl ?_
    refine am_icmp_eq 323 328 dL_law_323 rfl (fun c323 => ?_) (fun c323 => absurd rfl c323)
    refine am_iload 328 dL_law_328 rfl ?_
    refine am_if_ne 330 345 dL_law_330 rfl (fun c330 => absurd c330 (by decide)) (fun c330 => ?_)
    refine am_aload_n 333 dL_law_333 rfl ?_
    refine am_iconst 334 (v := 0) dL_law_334 (by decide) ?_
    refine am_laload 335 dL_law_335 rfl o2 (am_ix (c := 0) (by decide) (by decide)) ?_
    refine am_iload 336 dL_law_336 rfl ?_
    refine am_i2l 338 dL_law_338 ?_
    refine am_lcmp 339 dL_law_339 ?_
    refine am_if_eq 340 345 dL_law_340 rfl (fun c340 => ?_) (fun c340 => absurd (l_lg am_up_eq) c340)
    refine am_goto 345 (tgt := 1432) dL_law_345 rfl ?_
    exact hE _ _ _ _ _ _ _ hs2
  · refine am_aload_n 292 dL_law_292 rfl ?_
    refine am_aload_n 293 dL_law_293 rfl ?_
    refine am_iload 294 dL_law_294 rfl ?_
    refine am_iconst 296 (v := 1) dL_law_296 (by decide) ?_
    refine am_iadd 297 dL_law_297 ?_
    refine am_saload 298 dL_law_298 hs (am_ix (c := 1) (by decide) (by decide)) ?_
    refine am_aload_n 299 dL_law_299 rfl ?_
    refine am_SW3 300 (mc' := 1) (ms' := 6) (rc := 0) (rs := 0) dL_law_300 lL_90 ⟨by decide, by decide⟩ (Nat.le_of_ble_eq_true rfl) (Nat.le_of_ble_eq_true rfl) (s_Llimit_bad0 hF (by unfold m_oLimit; rw [if_neg hc])) ?_
    rintro o n' f1 ⟨rfl, rfl, e2⟩
    have hs1 : f1 0 = .inl (20, 5, .inl xs) := (e2 0 (by omega)).trans hs
    have hM1 : r_Mo f1 48 0 (fun _ => 0) := hM.on fun x a b => e2 x (by omega)
    refine am_ct_in ?_
    refine am_istore 303 dL_law_303 (by decide) ?_
    refine am_aload_n 305 dL_law_305 rfl ?_
    refine am_aload_n 306 dL_law_306 rfl ?_
    refine am_iload 307 dL_law_307 rfl ?_
    refine am_iconst 309 (v := 1) dL_law_309 (by decide) ?_
    refine am_iadd 310 dL_law_310 ?_
    refine am_saload 311 dL_law_311 hs1 (am_ix (c := 1) (by decide) (by decide)) ?_
    refine am_V1 312 (mc' := 0) (ms' := 0) (rc := 0) (rs := 0) dL_law_312 lL_92 ⟨by decide, by decide⟩ hM1.1 (Nat.le_of_ble_eq_true rfl) (Nat.le_of_ble_eq_true rfl) (s_rlimit_f hM1 hc) ?_
    rintro o n2 f2 ⟨rfl, hn, ⟨rest, t0⟩, e3⟩
    have hs2 : f2 0 = .inl (20, 5, .inl xs) := (e3 0 (by omega)).trans hs1
    refine am_ct_in ?_
    refine am_istore 315 dL_law_315 (by decide) ?_
    refine am_aload_n 317 dL_law_317 rfl ?_
    refine am_V0 318 (mc' := 0) (ms' := 0) (rc := 0) (rs := 0) dL_law_318 lL_82 ⟨by decide, by decide⟩ t0 (Nat.le_of_ble_eq_true rfl) (Nat.le_of_ble_eq_true rfl) (s_thrown t0) ?_
    refine am_is_ct ?_
    refine am_iload 321 dL_law_321 rfl ?_
    refine am_icmp_eq 323 328 dL_law_323 rfl (fun c323 => ?_) (fun c323 => absurd rfl c323)
    refine am_iload 328 dL_law_328 rfl ?_
    refine am_if_ne 330 345 dL_law_330 rfl (fun c330 => ?_) (fun c330 => absurd c330 (by decide))
    refine am_goto 345 (tgt := 1432) dL_law_345 rfl ?_
    exact hE _ _ _ _ _ _ _ hs2
set_option maxHeartbeats 4000000 in
theorem l_heat (hF : m_Fr f 2) (hM : r_Mo f 48 0 (fun _ => 0)) (hs : f 0 = .inl (20, 5, .inl xs)) (ho : f 53 = .inl (1, 1, .inr (.inl g))) (hE : l_E xs P) : AW mL_law 1 6 348 [some (.ref 0), some (.ref 2), some (.ref 48), some (.ref 53), some (.ref 54), some (.int 0), none, none, none] [] 55 f P := by
  rcases Classical.em (-30 ≤ (xs ((0 : Int32) + 1).toNatClampNeg) ∧ (xs ((0 : Int32) + 1).toNatClampNeg) ≤ 30) with hc | hc
  · refine am_aload_n 348 dL_law_348 rfl ?_
    refine am_aload_n 349 dL_law_349 rfl ?_
    refine am_iload 350 dL_law_350 rfl ?_
    refine am_iconst 352 (v := 1) dL_law_352 (by decide) ?_
    refine am_iadd 353 dL_law_353 ?_
    refine am_saload 354 dL_law_354 hs (am_ix (c := 1) (by decide) (by decide)) ?_
    refine am_aload_n 355 dL_law_355 rfl ?_
    refine am_SW3 356 (mc' := 1) (ms' := 6) (rc := 0) (rs := 0) dL_law_356 lL_93 ⟨by decide, by decide⟩ (Nat.le_of_ble_eq_true rfl) (Nat.le_of_ble_eq_true rfl) (s_Lheat_ok hF ho (by decide) (by unfold m_oHeat; rw [if_pos hc])) ?_
    rintro o n' f1 ⟨rfl, rfl, e1, e2⟩
    have hs1 : f1 0 = .inl (20, 5, .inl xs) := (e2 0 (by omega) (by omega)).trans hs
    have hM1 : r_Mo f1 48 0 (fun _ => 0) := hM.on fun x a b => e2 x (by omega) (by omega)
    refine am_ct_in ?_
    refine am_istore 359 dL_law_359 (by decide) ?_
    refine am_aload_n 361 dL_law_361 rfl ?_
    refine am_aload_n 362 dL_law_362 rfl ?_
    refine am_iload 363 dL_law_363 rfl ?_
    refine am_iconst 365 (v := 1) dL_law_365 (by decide) ?_
    refine am_iadd 366 dL_law_366 ?_
    refine am_saload 367 dL_law_367 hs1 (am_ix (c := 1) (by decide) (by decide)) ?_
    refine am_V1 368 (mc' := 0) (ms' := 0) (rc := 0) (rs := 0) dL_law_368 lL_95 ⟨by decide, by decide⟩ hM1.1 (Nat.le_of_ble_eq_true rfl) (Nat.le_of_ble_eq_true rfl) (s_rheat_t hM1 hc) ?_
    rintro o n2 f2 ⟨rfl, hn, ⟨rest, t0⟩, e3⟩
    have hs2 : f2 0 = .inl (20, 5, .inl xs) := (e3 0 (by omega)).trans hs1
    have o2 := (e3 53 (by omega)).trans e1
    refine am_ct_in ?_
    refine am_istore 371 dL_law_371 (by decide) ?_
    refine am_aload_n 373 dL_law_373 rfl ?_
    refine am_V0 374 (mc' := 0) (ms' := 0) (rc := 0) (rs := 0) dL_law_374 lL_82 ⟨by decide, by decide⟩ t0 (Nat.le_of_ble_eq_true rfl) (Nat.le_of_ble_eq_true rfl) (s_thrown t0) ?_
    refine am_is_ct ?_
    refine am_iload 377 dL_law_377 rfl ?_
    refine am_icmp_eq 379 384 dL_law_379 rfl (fun c379 => ?_) (fun c379 => absurd rfl c379)
    refine am_iload 384 dL_law_384 rfl ?_
    refine am_if_ne 386 401 dL_law_386 rfl (fun c386 => absurd c386 (by decide)) (fun c386 => ?_)
    refine am_aload_n 389 dL_law_389 rfl ?_
    refine am_iconst 390 (v := 0) dL_law_390 (by decide) ?_
    refine am_laload 391 dL_law_391 rfl o2 (am_ix (c := 0) (by decide) (by decide)) ?_
    refine am_iload 392 dL_law_392 rfl ?_
    refine am_i2l 394 dL_law_394 ?_
    refine am_lcmp 395 dL_law_395 ?_
    refine am_if_eq 396 401 dL_law_396 rfl (fun c396 => ?_) (fun c396 => absurd (l_lg am_up_eq) c396)
    refine am_goto 401 (tgt := 1432) dL_law_401 rfl ?_
    exact hE _ _ _ _ _ _ _ hs2
  · refine am_aload_n 348 dL_law_348 rfl ?_
    refine am_aload_n 349 dL_law_349 rfl ?_
    refine am_iload 350 dL_law_350 rfl ?_
    refine am_iconst 352 (v := 1) dL_law_352 (by decide) ?_
    refine am_iadd 353 dL_law_353 ?_
    refine am_saload 354 dL_law_354 hs (am_ix (c := 1) (by decide) (by decide)) ?_
    refine am_aload_n 355 dL_law_355 rfl ?_
    refine am_SW3 356 (mc' := 1) (ms' := 6) (rc := 0) (rs := 0) dL_law_356 lL_93 ⟨by decide, by decide⟩ (Nat.le_of_ble_eq_true rfl) (Nat.le_of_ble_eq_true rfl) (s_Lheat_bad0 hF (by unfold m_oHeat; rw [if_neg hc])) ?_
    rintro o n' f1 ⟨rfl, rfl, e2⟩
    have hs1 : f1 0 = .inl (20, 5, .inl xs) := (e2 0 (by omega)).trans hs
    have hM1 : r_Mo f1 48 0 (fun _ => 0) := hM.on fun x a b => e2 x (by omega)
    refine am_ct_in ?_
    refine am_istore 359 dL_law_359 (by decide) ?_
    refine am_aload_n 361 dL_law_361 rfl ?_
    refine am_aload_n 362 dL_law_362 rfl ?_
    refine am_iload 363 dL_law_363 rfl ?_
    refine am_iconst 365 (v := 1) dL_law_365 (by decide) ?_
    refine am_iadd 366 dL_law_366 ?_
    refine am_saload 367 dL_law_367 hs1 (am_ix (c := 1) (by decide) (by decide)) ?_
    refine am_V1 368 (mc' := 0) (ms' := 0) (rc := 0) (rs := 0) dL_law_368 lL_95 ⟨by decide, by decide⟩ hM1.1 (Nat.le_of_ble_eq_true rfl) (Nat.le_of_ble_eq_true rfl) (s_rheat_f hM1 hc) ?_
    rintro o n2 f2 ⟨rfl, hn, ⟨rest, t0⟩, e3⟩
    have hs2 : f2 0 = .inl (20, 5, .inl xs) := (e3 0 (by omega)).trans hs1
    refine am_ct_in ?_
    refine am_istore 371 dL_law_371 (by decide) ?_
    refine am_aload_n 373 dL_law_373 rfl ?_
    refine am_V0 374 (mc' := 0) (ms' := 0) (rc := 0) (rs := 0) dL_law_374 lL_82 ⟨by decide, by decide⟩ t0 (Nat.le_of_ble_eq_true rfl) (Nat.le_of_ble_eq_true rfl) (s_thrown t0) ?_
    refine am_is_ct ?_
    refine am_iload 377 dL_law_377 rfl ?_
    refine am_icmp_eq 379 384 dL_law_379 rfl (fun c379 => ?_) (fun c379 => absurd rfl c379)
    refine am_iload 384 dL_law_384 rfl ?_
    refine am_if_ne 386 401 dL_law_386 rfl (fun c386 => ?_) (fun c386 => absurd c386 (by decide))
    refine am_goto 401 (tgt := 1432) dL_law_401 rfl ?_
    exact hE _ _ _ _ _ _ _ hs2
set_option maxHeartbeats 4000000 in
theorem l_press (hF : m_Fr f 2) (hM : r_Mo f 48 0 (fun _ => 0)) (hs : f 0 = .inl (20, 5, .inl xs)) (ho : f 53 = .inl (1, 1, .inr (.inl g))) (hE : l_E xs P) : AW mL_law 2 12 404 [some (.ref 0), some (.ref 2), some (.ref 48), some (.ref 53), some (.ref 54), some (.int 0), none, none, none] [] 55 f P := by
  rcases Classical.em ((xs ((0 : Int32) + 1).toNatClampNeg) < 0 ∨ 8 ≤ (xs ((0 : Int32) + 1).toNatClampNeg) ∨ (xs ((0 : Int32) + 2).toNatClampNeg) < 0 ∨ 6 ≤ (xs ((0 : Int32) + 2).toNatClampNeg)) with hb | hb
  · refine AW.more (rc := 2) (rs := 12) (by omega) (by omega) ?_
    refine am_aload_n 404 dL_law_404 rfl ?_
    refine am_aload_n 405 dL_law_405 rfl ?_
    refine am_iload 406 dL_law_406 rfl ?_
    refine am_iconst 408 (v := 1) dL_law_408 (by decide) ?_
    refine am_iadd 409 dL_law_409 ?_
    refine am_saload 410 dL_law_410 hs (am_ix (c := 1) (by decide) (by decide)) ?_
    refine am_aload_n 411 dL_law_411 rfl ?_
    refine am_iload 412 dL_law_412 rfl ?_
    refine am_iconst 414 (v := 2) dL_law_414 (by decide) ?_
    refine am_iadd 415 dL_law_415 ?_
    refine am_saload 416 dL_law_416 hs (am_ix (c := 2) (by decide) (by decide)) ?_
    refine am_aload_n 417 dL_law_417 rfl ?_
    refine am_iload 418 dL_law_418 rfl ?_
    refine am_iconst 420 (v := 3) dL_law_420 (by decide) ?_
    refine am_iadd 421 dL_law_421 ?_
    refine am_saload 422 dL_law_422 hs (am_ix (c := 3) (by decide) (by decide)) ?_
    refine am_aload_n 423 dL_law_423 rfl ?_
    refine am_SW5 424 (mc' := 2) (ms' := 12) (rc := 0) (rs := 0) dL_law_424 lL_96 ⟨by decide, by decide⟩ (Nat.le_of_ble_eq_true rfl) (Nat.le_of_ble_eq_true rfl) (s_Lpress_bad2 hF (by unfold m_oPress; rw [if_pos hb])) ?_
    rintro o n' f1 ⟨rfl, rfl, e2⟩
    have hs1 : f1 0 = .inl (20, 5, .inl xs) := (e2 0 (by omega)).trans hs
    have hM1 : r_Mo f1 48 0 (fun _ => 0) := hM.on fun x a b => e2 x (by omega)
    refine am_ct_in ?_
    refine am_istore 427 dL_law_427 (by decide) ?_
    refine am_aload_n 429 dL_law_429 rfl ?_
    refine am_aload_n 430 dL_law_430 rfl ?_
    refine am_iload 431 dL_law_431 rfl ?_
    refine am_iconst 433 (v := 1) dL_law_433 (by decide) ?_
    refine am_iadd 434 dL_law_434 ?_
    refine am_saload 435 dL_law_435 hs1 (am_ix (c := 1) (by decide) (by decide)) ?_
    refine am_aload_n 436 dL_law_436 rfl ?_
    refine am_iload 437 dL_law_437 rfl ?_
    refine am_iconst 439 (v := 2) dL_law_439 (by decide) ?_
    refine am_iadd 440 dL_law_440 ?_
    refine am_saload 441 dL_law_441 hs1 (am_ix (c := 2) (by decide) (by decide)) ?_
    refine am_aload_n 442 dL_law_442 rfl ?_
    refine am_iload 443 dL_law_443 rfl ?_
    refine am_iconst 445 (v := 3) dL_law_445 (by decide) ?_
    refine am_iadd 446 dL_law_446 ?_
    refine am_saload 447 dL_law_447 hs1 (am_ix (c := 3) (by decide) (by decide)) ?_
    refine am_V3 448 (mc' := 0) (ms' := 0) (rc := 0) (rs := 0) dL_law_448 lL_99 ⟨by decide, by decide⟩ hM1.1 (Nat.le_of_ble_eq_true rfl) (Nat.le_of_ble_eq_true rfl) (s_rpress_f1 hM1 hb) ?_
    rintro o n2 f2 ⟨rfl, hn, ⟨rest, t0⟩, e3⟩
    have hs2 : f2 0 = .inl (20, 5, .inl xs) := (e3 0 (by omega)).trans hs1
    refine am_ct_in ?_
    refine am_istore 451 dL_law_451 (by decide) ?_
    refine am_aload_n 453 dL_law_453 rfl ?_
    refine am_V0 454 (mc' := 0) (ms' := 0) (rc := 0) (rs := 0) dL_law_454 lL_82 ⟨by decide, by decide⟩ t0 (Nat.le_of_ble_eq_true rfl) (Nat.le_of_ble_eq_true rfl) (s_thrown t0) ?_
    refine am_is_ct ?_
    refine am_iload 457 dL_law_457 rfl ?_
    refine am_icmp_eq 459 464 dL_law_459 rfl (fun c459 => ?_) (fun c459 => absurd rfl c459)
    refine am_iload 464 dL_law_464 rfl ?_
    refine am_if_ne 466 481 dL_law_466 rfl (fun c466 => ?_) (fun c466 => absurd c466 (by decide))
    refine am_goto 481 (tgt := 1432) dL_law_481 rfl ?_
    exact hE _ _ _ _ _ _ _ hs2
  · obtain ⟨j, hj, ej⟩ := m_small 8 rfl (by decide) (fun z => hb (Or.inl z)) (fun z => hb (Or.inr (Or.inl z)))
    obtain ⟨k, hk, ek⟩ := m_small 6 rfl (by decide) (fun z => hb (Or.inr (Or.inr (Or.inl z)))) (fun z => hb (Or.inr (Or.inr (Or.inr z))))
    rcases Classical.em (1 ≤ (xs ((0 : Int32) + 3).toNatClampNeg) ∧ (xs ((0 : Int32) + 3).toNatClampNeg) ≤ 200) with hc | hc
    · refine am_aload_n 404 dL_law_404 rfl ?_
      refine am_aload_n 405 dL_law_405 rfl ?_
      refine am_iload 406 dL_law_406 rfl ?_
      refine am_iconst 408 (v := 1) dL_law_408 (by decide) ?_
      refine am_iadd 409 dL_law_409 ?_
      refine am_saload 410 dL_law_410 hs (am_ix (c := 1) (by decide) (by decide)) ?_
      refine am_aload_n 411 dL_law_411 rfl ?_
      refine am_iload 412 dL_law_412 rfl ?_
      refine am_iconst 414 (v := 2) dL_law_414 (by decide) ?_
      refine am_iadd 415 dL_law_415 ?_
      refine am_saload 416 dL_law_416 hs (am_ix (c := 2) (by decide) (by decide)) ?_
      refine am_aload_n 417 dL_law_417 rfl ?_
      refine am_iload 418 dL_law_418 rfl ?_
      refine am_iconst 420 (v := 3) dL_law_420 (by decide) ?_
      refine am_iadd 421 dL_law_421 ?_
      refine am_saload 422 dL_law_422 hs (am_ix (c := 3) (by decide) (by decide)) ?_
      refine am_aload_n 423 dL_law_423 rfl ?_
      refine am_SW5 424 (mc' := 2) (ms' := 12) (rc := 0) (rs := 0) dL_law_424 lL_96 ⟨by decide, by decide⟩ (Nat.le_of_ble_eq_true rfl) (Nat.le_of_ble_eq_true rfl) (s_Lpress_ok hF ho (by decide) (by unfold m_oPress; rw [if_neg hb, if_pos hc])) ?_
      rintro o n' f1 ⟨rfl, rfl, e1, e2⟩
      have hs1 : f1 0 = .inl (20, 5, .inl xs) := (e2 0 (by omega) (by omega)).trans hs
      have hM1 : r_Mo f1 48 0 (fun _ => 0) := hM.on fun x a b => e2 x (by omega) (by omega)
      refine am_ct_in ?_
      refine am_istore 427 dL_law_427 (by decide) ?_
      refine am_aload_n 429 dL_law_429 rfl ?_
      refine am_aload_n 430 dL_law_430 rfl ?_
      refine am_iload 431 dL_law_431 rfl ?_
      refine am_iconst 433 (v := 1) dL_law_433 (by decide) ?_
      refine am_iadd 434 dL_law_434 ?_
      refine am_saload 435 dL_law_435 hs1 (am_ix (c := 1) (by decide) (by decide)) ?_
      refine am_aload_n 436 dL_law_436 rfl ?_
      refine am_iload 437 dL_law_437 rfl ?_
      refine am_iconst 439 (v := 2) dL_law_439 (by decide) ?_
      refine am_iadd 440 dL_law_440 ?_
      refine am_saload 441 dL_law_441 hs1 (am_ix (c := 2) (by decide) (by decide)) ?_
      refine am_aload_n 442 dL_law_442 rfl ?_
      refine am_iload 443 dL_law_443 rfl ?_
      refine am_iconst 445 (v := 3) dL_law_445 (by decide) ?_
      refine am_iadd 446 dL_law_446 ?_
      refine am_saload 447 dL_law_447 hs1 (am_ix (c := 3) (by decide) (by decide)) ?_
      rw [ej, ek]
      refine am_V3 448 (mc' := 0) (ms' := 0) (rc := 0) (rs := 0) dL_law_448 lL_99 ⟨by decide, by decide⟩ hM1.1 (Nat.le_of_ble_eq_true rfl) (Nat.le_of_ble_eq_true rfl) (s_rpress_t hM1 hj hk hc) ?_
      rintro o n2 f2 ⟨rfl, hn, ⟨rest, t0⟩, e3⟩
      have hs2 : f2 0 = .inl (20, 5, .inl xs) := (e3 0 (by omega)).trans hs1
      have o2 := (e3 53 (by omega)).trans e1
      refine am_ct_in ?_
      refine am_istore 451 dL_law_451 (by decide) ?_
      refine am_aload_n 453 dL_law_453 rfl ?_
      refine am_V0 454 (mc' := 0) (ms' := 0) (rc := 0) (rs := 0) dL_law_454 lL_82 ⟨by decide, by decide⟩ t0 (Nat.le_of_ble_eq_true rfl) (Nat.le_of_ble_eq_true rfl) (s_thrown t0) ?_
      refine am_is_ct ?_
      refine am_iload 457 dL_law_457 rfl ?_
      refine am_icmp_eq 459 464 dL_law_459 rfl (fun c459 => ?_) (fun c459 => absurd rfl c459)
      refine am_iload 464 dL_law_464 rfl ?_
      refine am_if_ne 466 481 dL_law_466 rfl (fun c466 => absurd c466 (by decide)) (fun c466 => ?_)
      refine am_aload_n 469 dL_law_469 rfl ?_
      refine am_iconst 470 (v := 0) dL_law_470 (by decide) ?_
      refine am_laload 471 dL_law_471 rfl o2 (am_ix (c := 0) (by decide) (by decide)) ?_
      refine am_iload 472 dL_law_472 rfl ?_
      refine am_i2l 474 dL_law_474 ?_
      refine am_lcmp 475 dL_law_475 ?_
      refine am_if_eq 476 481 dL_law_476 rfl (fun c476 => ?_) (fun c476 => absurd (l_lg am_up_eq) c476)
      refine am_goto 481 (tgt := 1432) dL_law_481 rfl ?_
      exact hE _ _ _ _ _ _ _ hs2
    · refine AW.more (rc := 2) (rs := 12) (by omega) (by omega) ?_
      refine am_aload_n 404 dL_law_404 rfl ?_
      refine am_aload_n 405 dL_law_405 rfl ?_
      refine am_iload 406 dL_law_406 rfl ?_
      refine am_iconst 408 (v := 1) dL_law_408 (by decide) ?_
      refine am_iadd 409 dL_law_409 ?_
      refine am_saload 410 dL_law_410 hs (am_ix (c := 1) (by decide) (by decide)) ?_
      refine am_aload_n 411 dL_law_411 rfl ?_
      refine am_iload 412 dL_law_412 rfl ?_
      refine am_iconst 414 (v := 2) dL_law_414 (by decide) ?_
      refine am_iadd 415 dL_law_415 ?_
      refine am_saload 416 dL_law_416 hs (am_ix (c := 2) (by decide) (by decide)) ?_
      refine am_aload_n 417 dL_law_417 rfl ?_
      refine am_iload 418 dL_law_418 rfl ?_
      refine am_iconst 420 (v := 3) dL_law_420 (by decide) ?_
      refine am_iadd 421 dL_law_421 ?_
      refine am_saload 422 dL_law_422 hs (am_ix (c := 3) (by decide) (by decide)) ?_
      refine am_aload_n 423 dL_law_423 rfl ?_
      refine am_SW5 424 (mc' := 2) (ms' := 12) (rc := 0) (rs := 0) dL_law_424 lL_96 ⟨by decide, by decide⟩ (Nat.le_of_ble_eq_true rfl) (Nat.le_of_ble_eq_true rfl) (s_Lpress_bad0 hF (by unfold m_oPress; rw [if_neg hb, if_neg hc])) ?_
      rintro o n' f1 ⟨rfl, rfl, e2⟩
      have hs1 : f1 0 = .inl (20, 5, .inl xs) := (e2 0 (by omega)).trans hs
      have hM1 : r_Mo f1 48 0 (fun _ => 0) := hM.on fun x a b => e2 x (by omega)
      refine am_ct_in ?_
      refine am_istore 427 dL_law_427 (by decide) ?_
      refine am_aload_n 429 dL_law_429 rfl ?_
      refine am_aload_n 430 dL_law_430 rfl ?_
      refine am_iload 431 dL_law_431 rfl ?_
      refine am_iconst 433 (v := 1) dL_law_433 (by decide) ?_
      refine am_iadd 434 dL_law_434 ?_
      refine am_saload 435 dL_law_435 hs1 (am_ix (c := 1) (by decide) (by decide)) ?_
      refine am_aload_n 436 dL_law_436 rfl ?_
      refine am_iload 437 dL_law_437 rfl ?_
      refine am_iconst 439 (v := 2) dL_law_439 (by decide) ?_
      refine am_iadd 440 dL_law_440 ?_
      refine am_saload 441 dL_law_441 hs1 (am_ix (c := 2) (by decide) (by decide)) ?_
      refine am_aload_n 442 dL_law_442 rfl ?_
      refine am_iload 443 dL_law_443 rfl ?_
      refine am_iconst 445 (v := 3) dL_law_445 (by decide) ?_
      refine am_iadd 446 dL_law_446 ?_
      refine am_saload 447 dL_law_447 hs1 (am_ix (c := 3) (by decide) (by decide)) ?_
      rw [ej, ek]
      refine am_V3 448 (mc' := 0) (ms' := 0) (rc := 0) (rs := 0) dL_law_448 lL_99 ⟨by decide, by decide⟩ hM1.1 (Nat.le_of_ble_eq_true rfl) (Nat.le_of_ble_eq_true rfl) (s_rpress_f2 hM1 hj hk hc) ?_
      rintro o n2 f2 ⟨rfl, hn, ⟨rest, t0⟩, e3⟩
      have hs2 : f2 0 = .inl (20, 5, .inl xs) := (e3 0 (by omega)).trans hs1
      refine am_ct_in ?_
      refine am_istore 451 dL_law_451 (by decide) ?_
      refine am_aload_n 453 dL_law_453 rfl ?_
      refine am_V0 454 (mc' := 0) (ms' := 0) (rc := 0) (rs := 0) dL_law_454 lL_82 ⟨by decide, by decide⟩ t0 (Nat.le_of_ble_eq_true rfl) (Nat.le_of_ble_eq_true rfl) (s_thrown t0) ?_
      refine am_is_ct ?_
      refine am_iload 457 dL_law_457 rfl ?_
      refine am_icmp_eq 459 464 dL_law_459 rfl (fun c459 => ?_) (fun c459 => absurd rfl c459)
      refine am_iload 464 dL_law_464 rfl ?_
      refine am_if_ne 466 481 dL_law_466 rfl (fun c466 => ?_) (fun c466 => absurd c466 (by decide))
      refine am_goto 481 (tgt := 1432) dL_law_481 rfl ?_
      exact hE _ _ _ _ _ _ _ hs2
set_option maxHeartbeats 4000000 in
theorem l_ofCell (hF : m_Fr f 2) (hM : r_Mo f 48 0 (fun _ => 0)) (hs : f 0 = .inl (20, 5, .inl xs)) (ho : f 53 = .inl (1, 1, .inr (.inl g))) (hE : l_E xs P) : AW mL_law 9 304 578 [some (.ref 0), some (.ref 2), some (.ref 48), some (.ref 53), some (.ref 54), some (.int 0), none, none, none] [] 55 f P := by
  rcases Classical.em ((xs ((0 : Int32) + 1).toNatClampNeg) < 0 ∨ 8 ≤ (xs ((0 : Int32) + 1).toNatClampNeg) ∨ (xs ((0 : Int32) + 2).toNatClampNeg) < 0 ∨ 6 ≤ (xs ((0 : Int32) + 2).toNatClampNeg)) with hb | hb
  · refine AW.more (rc := 2) (rs := 12) (by omega) (by omega) ?_
    refine am_aload_n 578 dL_law_578 rfl ?_
    refine am_aload_n 579 dL_law_579 rfl ?_
    refine am_iload 580 dL_law_580 rfl ?_
    refine am_iconst 582 (v := 1) dL_law_582 (by decide) ?_
    refine am_iadd 583 dL_law_583 ?_
    refine am_saload 584 dL_law_584 hs (am_ix (c := 1) (by decide) (by decide)) ?_
    refine am_aload_n 585 dL_law_585 rfl ?_
    refine am_iload 586 dL_law_586 rfl ?_
    refine am_iconst 588 (v := 2) dL_law_588 (by decide) ?_
    refine am_iadd 589 dL_law_589 ?_
    refine am_saload 590 dL_law_590 hs (am_ix (c := 2) (by decide) (by decide)) ?_
    refine am_aload_n 591 dL_law_591 rfl ?_
    refine am_iload 592 dL_law_592 rfl ?_
    refine am_iconst 594 (v := 3) dL_law_594 (by decide) ?_
    refine am_iadd 595 dL_law_595 ?_
    refine am_saload 596 dL_law_596 hs (am_ix (c := 3) (by decide) (by decide)) ?_
    refine am_aload_n 597 dL_law_597 rfl ?_
    refine am_SW5 598 (mc' := 2) (ms' := 12) (rc := 0) (rs := 0) dL_law_598 lL_112 ⟨by decide, by decide⟩ (Nat.le_of_ble_eq_true rfl) (Nat.le_of_ble_eq_true rfl) (s_LofCell_bad2 hF (by unfold m_oCell; rw [if_pos hb])) ?_
    rintro o n' f1 ⟨rfl, rfl, e2⟩
    have hs1 : f1 0 = .inl (20, 5, .inl xs) := (e2 0 (by omega)).trans hs
    have hM1 : r_Mo f1 48 0 (fun _ => 0) := hM.on fun x a b => e2 x (by omega)
    refine am_ct_in ?_
    refine am_istore 601 dL_law_601 (by decide) ?_
    refine am_aload_n 603 dL_law_603 rfl ?_
    refine am_aload_n 604 dL_law_604 rfl ?_
    refine am_iload 605 dL_law_605 rfl ?_
    refine am_iconst 607 (v := 1) dL_law_607 (by decide) ?_
    refine am_iadd 608 dL_law_608 ?_
    refine am_saload 609 dL_law_609 hs1 (am_ix (c := 1) (by decide) (by decide)) ?_
    refine am_aload_n 610 dL_law_610 rfl ?_
    refine am_iload 611 dL_law_611 rfl ?_
    refine am_iconst 613 (v := 2) dL_law_613 (by decide) ?_
    refine am_iadd 614 dL_law_614 ?_
    refine am_saload 615 dL_law_615 hs1 (am_ix (c := 2) (by decide) (by decide)) ?_
    refine am_aload_n 616 dL_law_616 rfl ?_
    refine am_iload 617 dL_law_617 rfl ?_
    refine am_iconst 619 (v := 3) dL_law_619 (by decide) ?_
    refine am_iadd 620 dL_law_620 ?_
    refine am_saload 621 dL_law_621 hs1 (am_ix (c := 3) (by decide) (by decide)) ?_
    refine am_V3 622 (mc' := 0) (ms' := 0) (rc := 0) (rs := 0) dL_law_622 lL_114 ⟨by decide, by decide⟩ hM1.1 (Nat.le_of_ble_eq_true rfl) (Nat.le_of_ble_eq_true rfl) (s_rofCell_f1 hM1 hb) ?_
    rintro o n2 f2 ⟨rfl, hn, ⟨rest, t0⟩, e3⟩
    have hs2 : f2 0 = .inl (20, 5, .inl xs) := (e3 0 (by omega)).trans hs1
    refine am_ct_in ?_
    refine am_istore 625 dL_law_625 (by decide) ?_
    refine am_aload_n 627 dL_law_627 rfl ?_
    refine am_V0 628 (mc' := 0) (ms' := 0) (rc := 0) (rs := 0) dL_law_628 lL_82 ⟨by decide, by decide⟩ t0 (Nat.le_of_ble_eq_true rfl) (Nat.le_of_ble_eq_true rfl) (s_thrown t0) ?_
    refine am_is_ct ?_
    refine am_iload 631 dL_law_631 rfl ?_
    refine am_icmp_eq 633 638 dL_law_633 rfl (fun c633 => ?_) (fun c633 => absurd rfl c633)
    refine am_iload 638 dL_law_638 rfl ?_
    refine am_if_ne 640 655 dL_law_640 rfl (fun c640 => ?_) (fun c640 => absurd c640 (by decide))
    refine am_goto 655 (tgt := 1432) dL_law_655 rfl ?_
    exact hE _ _ _ _ _ _ _ hs2
  · obtain ⟨j, hj, ej⟩ := m_small 8 rfl (by decide) (fun z => hb (Or.inl z)) (fun z => hb (Or.inr (Or.inl z)))
    obtain ⟨k, hk, ek⟩ := m_small 6 rfl (by decide) (fun z => hb (Or.inr (Or.inr (Or.inl z)))) (fun z => hb (Or.inr (Or.inr (Or.inr z))))
    rcases Classical.em (0 ≤ (xs ((0 : Int32) + 3).toNatClampNeg) ∧ (xs ((0 : Int32) + 3).toNatClampNeg) ≤ 4) with hc | hc
    · refine am_aload_n 578 dL_law_578 rfl ?_
      refine am_aload_n 579 dL_law_579 rfl ?_
      refine am_iload 580 dL_law_580 rfl ?_
      refine am_iconst 582 (v := 1) dL_law_582 (by decide) ?_
      refine am_iadd 583 dL_law_583 ?_
      refine am_saload 584 dL_law_584 hs (am_ix (c := 1) (by decide) (by decide)) ?_
      refine am_aload_n 585 dL_law_585 rfl ?_
      refine am_iload 586 dL_law_586 rfl ?_
      refine am_iconst 588 (v := 2) dL_law_588 (by decide) ?_
      refine am_iadd 589 dL_law_589 ?_
      refine am_saload 590 dL_law_590 hs (am_ix (c := 2) (by decide) (by decide)) ?_
      refine am_aload_n 591 dL_law_591 rfl ?_
      refine am_iload 592 dL_law_592 rfl ?_
      refine am_iconst 594 (v := 3) dL_law_594 (by decide) ?_
      refine am_iadd 595 dL_law_595 ?_
      refine am_saload 596 dL_law_596 hs (am_ix (c := 3) (by decide) (by decide)) ?_
      refine am_aload_n 597 dL_law_597 rfl ?_
      refine am_SW5 598 (mc' := 2) (ms' := 12) (rc := 7) (rs := 292) dL_law_598 lL_112 ⟨by decide, by decide⟩ (Nat.le_of_ble_eq_true rfl) (Nat.le_of_ble_eq_true rfl) (s_LofCell_ok hF ho (by decide) (by unfold m_oCell; rw [if_neg hb, if_pos hc])) ?_
      rintro o n' f1 ⟨rfl, rfl, e1, e2⟩
      have hs1 : f1 0 = .inl (20, 5, .inl xs) := (e2 0 (by omega) (by omega)).trans hs
      have hM1 : r_Mo f1 48 0 (fun _ => 0) := hM.on fun x a b => e2 x (by omega) (by omega)
      refine am_ct_in ?_
      refine am_istore 601 dL_law_601 (by decide) ?_
      refine am_aload_n 603 dL_law_603 rfl ?_
      refine am_aload_n 604 dL_law_604 rfl ?_
      refine am_iload 605 dL_law_605 rfl ?_
      refine am_iconst 607 (v := 1) dL_law_607 (by decide) ?_
      refine am_iadd 608 dL_law_608 ?_
      refine am_saload 609 dL_law_609 hs1 (am_ix (c := 1) (by decide) (by decide)) ?_
      refine am_aload_n 610 dL_law_610 rfl ?_
      refine am_iload 611 dL_law_611 rfl ?_
      refine am_iconst 613 (v := 2) dL_law_613 (by decide) ?_
      refine am_iadd 614 dL_law_614 ?_
      refine am_saload 615 dL_law_615 hs1 (am_ix (c := 2) (by decide) (by decide)) ?_
      refine am_aload_n 616 dL_law_616 rfl ?_
      refine am_iload 617 dL_law_617 rfl ?_
      refine am_iconst 619 (v := 3) dL_law_619 (by decide) ?_
      refine am_iadd 620 dL_law_620 ?_
      refine am_saload 621 dL_law_621 hs1 (am_ix (c := 3) (by decide) (by decide)) ?_
      rw [ej, ek]
      refine am_V3 622 (mc' := 7) (ms' := 292) (rc := 0) (rs := 0) dL_law_622 lL_114 ⟨by decide, by decide⟩ hM1.1 (Nat.le_of_ble_eq_true rfl) (Nat.le_of_ble_eq_true rfl) (s_rofCell_t hM1 (by omega) hj hk hc) ?_
      rintro o n2 f2 ⟨rfl, hn, ⟨rest, t0⟩, e3⟩
      have hs2 : f2 0 = .inl (20, 5, .inl xs) := (e3 0 (by omega)).trans hs1
      have o2 := (e3 53 (by omega)).trans e1
      refine am_ct_in ?_
      refine am_istore 625 dL_law_625 (by decide) ?_
      refine am_aload_n 627 dL_law_627 rfl ?_
      refine am_V0 628 (mc' := 0) (ms' := 0) (rc := 0) (rs := 0) dL_law_628 lL_82 ⟨by decide, by decide⟩ t0 (Nat.le_of_ble_eq_true rfl) (Nat.le_of_ble_eq_true rfl) (s_thrown t0) ?_
      refine am_is_ct ?_
      refine am_iload 631 dL_law_631 rfl ?_
      refine am_icmp_eq 633 638 dL_law_633 rfl (fun c633 => ?_) (fun c633 => absurd rfl c633)
      refine am_iload 638 dL_law_638 rfl ?_
      refine am_if_ne 640 655 dL_law_640 rfl (fun c640 => absurd c640 (by decide)) (fun c640 => ?_)
      refine am_aload_n 643 dL_law_643 rfl ?_
      refine am_iconst 644 (v := 0) dL_law_644 (by decide) ?_
      refine am_laload 645 dL_law_645 rfl o2 (am_ix (c := 0) (by decide) (by decide)) ?_
      refine am_iload 646 dL_law_646 rfl ?_
      refine am_i2l 648 dL_law_648 ?_
      refine am_lcmp 649 dL_law_649 ?_
      refine am_if_eq 650 655 dL_law_650 rfl (fun c650 => ?_) (fun c650 => absurd (l_lg am_up_eq) c650)
      refine am_goto 655 (tgt := 1432) dL_law_655 rfl ?_
      exact hE _ _ _ _ _ _ _ hs2
    · refine AW.more (rc := 2) (rs := 12) (by omega) (by omega) ?_
      refine am_aload_n 578 dL_law_578 rfl ?_
      refine am_aload_n 579 dL_law_579 rfl ?_
      refine am_iload 580 dL_law_580 rfl ?_
      refine am_iconst 582 (v := 1) dL_law_582 (by decide) ?_
      refine am_iadd 583 dL_law_583 ?_
      refine am_saload 584 dL_law_584 hs (am_ix (c := 1) (by decide) (by decide)) ?_
      refine am_aload_n 585 dL_law_585 rfl ?_
      refine am_iload 586 dL_law_586 rfl ?_
      refine am_iconst 588 (v := 2) dL_law_588 (by decide) ?_
      refine am_iadd 589 dL_law_589 ?_
      refine am_saload 590 dL_law_590 hs (am_ix (c := 2) (by decide) (by decide)) ?_
      refine am_aload_n 591 dL_law_591 rfl ?_
      refine am_iload 592 dL_law_592 rfl ?_
      refine am_iconst 594 (v := 3) dL_law_594 (by decide) ?_
      refine am_iadd 595 dL_law_595 ?_
      refine am_saload 596 dL_law_596 hs (am_ix (c := 3) (by decide) (by decide)) ?_
      refine am_aload_n 597 dL_law_597 rfl ?_
      refine am_SW5 598 (mc' := 2) (ms' := 12) (rc := 0) (rs := 0) dL_law_598 lL_112 ⟨by decide, by decide⟩ (Nat.le_of_ble_eq_true rfl) (Nat.le_of_ble_eq_true rfl) (s_LofCell_bad0 hF (by unfold m_oCell; rw [if_neg hb, if_neg hc])) ?_
      rintro o n' f1 ⟨rfl, rfl, e2⟩
      have hs1 : f1 0 = .inl (20, 5, .inl xs) := (e2 0 (by omega)).trans hs
      have hM1 : r_Mo f1 48 0 (fun _ => 0) := hM.on fun x a b => e2 x (by omega)
      refine am_ct_in ?_
      refine am_istore 601 dL_law_601 (by decide) ?_
      refine am_aload_n 603 dL_law_603 rfl ?_
      refine am_aload_n 604 dL_law_604 rfl ?_
      refine am_iload 605 dL_law_605 rfl ?_
      refine am_iconst 607 (v := 1) dL_law_607 (by decide) ?_
      refine am_iadd 608 dL_law_608 ?_
      refine am_saload 609 dL_law_609 hs1 (am_ix (c := 1) (by decide) (by decide)) ?_
      refine am_aload_n 610 dL_law_610 rfl ?_
      refine am_iload 611 dL_law_611 rfl ?_
      refine am_iconst 613 (v := 2) dL_law_613 (by decide) ?_
      refine am_iadd 614 dL_law_614 ?_
      refine am_saload 615 dL_law_615 hs1 (am_ix (c := 2) (by decide) (by decide)) ?_
      refine am_aload_n 616 dL_law_616 rfl ?_
      refine am_iload 617 dL_law_617 rfl ?_
      refine am_iconst 619 (v := 3) dL_law_619 (by decide) ?_
      refine am_iadd 620 dL_law_620 ?_
      refine am_saload 621 dL_law_621 hs1 (am_ix (c := 3) (by decide) (by decide)) ?_
      rw [ej, ek]
      refine am_V3 622 (mc' := 0) (ms' := 0) (rc := 0) (rs := 0) dL_law_622 lL_114 ⟨by decide, by decide⟩ hM1.1 (Nat.le_of_ble_eq_true rfl) (Nat.le_of_ble_eq_true rfl) (s_rofCell_f2 hM1 hj hk hc) ?_
      rintro o n2 f2 ⟨rfl, hn, ⟨rest, t0⟩, e3⟩
      have hs2 : f2 0 = .inl (20, 5, .inl xs) := (e3 0 (by omega)).trans hs1
      refine am_ct_in ?_
      refine am_istore 625 dL_law_625 (by decide) ?_
      refine am_aload_n 627 dL_law_627 rfl ?_
      refine am_V0 628 (mc' := 0) (ms' := 0) (rc := 0) (rs := 0) dL_law_628 lL_82 ⟨by decide, by decide⟩ t0 (Nat.le_of_ble_eq_true rfl) (Nat.le_of_ble_eq_true rfl) (s_thrown t0) ?_
      refine am_is_ct ?_
      refine am_iload 631 dL_law_631 rfl ?_
      refine am_icmp_eq 633 638 dL_law_633 rfl (fun c633 => ?_) (fun c633 => absurd rfl c633)
      refine am_iload 638 dL_law_638 rfl ?_
      refine am_if_ne 640 655 dL_law_640 rfl (fun c640 => ?_) (fun c640 => absurd c640 (by decide))
      refine am_goto 655 (tgt := 1432) dL_law_655 rfl ?_
      exact hE _ _ _ _ _ _ _ hs2
set_option maxHeartbeats 4000000 in
theorem l_noise (hF : m_Fr f 2) (hM : r_Mo f 48 0 (fun _ => 0)) (hs : f 0 = .inl (20, 5, .inl xs)) (ho : f 53 = .inl (1, 1, .inr (.inl g))) (hE : l_E xs P) : AW mL_law 9 304 484 [some (.ref 0), some (.ref 2), some (.ref 48), some (.ref 53), some (.ref 54), some (.int 0), none, none, none] [] 55 f P := by
  rcases Classical.em ((xs ((0 : Int32) + 1).toNatClampNeg) < 0 ∨ 6 ≤ (xs ((0 : Int32) + 1).toNatClampNeg)) with hb | hb
  · have hy : ¬ (0 ≤ (xs ((0 : Int32) + 1).toNatClampNeg) ∧ (xs ((0 : Int32) + 1).toNatClampNeg) ≤ 5) := fun z => hb.elim (Int32.not_lt.mpr z.1) ((m_leP 5 rfl rfl (by decide)).mp z.2)
    refine AW.more (rc := 2) (rs := 12) (by omega) (by omega) ?_
    refine am_aload_n 484 dL_law_484 rfl ?_
    refine am_aload_n 485 dL_law_485 rfl ?_
    refine am_iload 486 dL_law_486 rfl ?_
    refine am_iconst 488 (v := 1) dL_law_488 (by decide) ?_
    refine am_iadd 489 dL_law_489 ?_
    refine am_saload 490 dL_law_490 hs (am_ix (c := 1) (by decide) (by decide)) ?_
    refine am_aload_n 491 dL_law_491 rfl ?_
    refine am_iload 492 dL_law_492 rfl ?_
    refine am_iconst 494 (v := 2) dL_law_494 (by decide) ?_
    refine am_iadd 495 dL_law_495 ?_
    refine am_saload 496 dL_law_496 hs (am_ix (c := 2) (by decide) (by decide)) ?_
    refine am_aload_n 497 dL_law_497 rfl ?_
    refine am_SW4 498 (mc' := 2) (ms' := 12) (rc := 0) (rs := 0) dL_law_498 lL_100 ⟨by decide, by decide⟩ (Nat.le_of_ble_eq_true rfl) (Nat.le_of_ble_eq_true rfl) (s_Lnoise_bad2 hF (by unfold m_oNoise; rw [if_pos hb])) ?_
    rintro o n' f1 ⟨rfl, rfl, e2⟩
    have hs1 : f1 0 = .inl (20, 5, .inl xs) := (e2 0 (by omega)).trans hs
    have hM1 : r_Mo f1 48 0 (fun _ => 0) := hM.on fun x a b => e2 x (by omega)
    refine am_ct_in ?_
    refine am_istore 501 dL_law_501 (by decide) ?_
    refine am_aload_n 503 dL_law_503 rfl ?_
    refine am_aload_n 504 dL_law_504 rfl ?_
    refine am_iload 505 dL_law_505 rfl ?_
    refine am_iconst 507 (v := 1) dL_law_507 (by decide) ?_
    refine am_iadd 508 dL_law_508 ?_
    refine am_saload 509 dL_law_509 hs1 (am_ix (c := 1) (by decide) (by decide)) ?_
    refine am_aload_n 510 dL_law_510 rfl ?_
    refine am_iload 511 dL_law_511 rfl ?_
    refine am_iconst 513 (v := 2) dL_law_513 (by decide) ?_
    refine am_iadd 514 dL_law_514 ?_
    refine am_saload 515 dL_law_515 hs1 (am_ix (c := 2) (by decide) (by decide)) ?_
    refine am_V2 516 (mc' := 0) (ms' := 0) (rc := 0) (rs := 0) dL_law_516 lL_103 ⟨by decide, by decide⟩ hM1.1 (Nat.le_of_ble_eq_true rfl) (Nat.le_of_ble_eq_true rfl) (s_rnoise_f1 hM1 hy) ?_
    rintro o n2 f2 ⟨rfl, hn, ⟨rest, t0⟩, e3⟩
    have hs2 : f2 0 = .inl (20, 5, .inl xs) := (e3 0 (by omega)).trans hs1
    refine am_ct_in ?_
    refine am_istore 519 dL_law_519 (by decide) ?_
    refine am_aload_n 521 dL_law_521 rfl ?_
    refine am_V0 522 (mc' := 0) (ms' := 0) (rc := 0) (rs := 0) dL_law_522 lL_82 ⟨by decide, by decide⟩ t0 (Nat.le_of_ble_eq_true rfl) (Nat.le_of_ble_eq_true rfl) (s_thrown t0) ?_
    refine am_is_ct ?_
    refine am_iload 525 dL_law_525 rfl ?_
    refine am_icmp_eq 527 532 dL_law_527 rfl (fun c527 => ?_) (fun c527 => absurd rfl c527)
    refine am_iload 532 dL_law_532 rfl ?_
    refine am_if_ne 534 549 dL_law_534 rfl (fun c534 => ?_) (fun c534 => absurd c534 (by decide))
    refine am_goto 549 (tgt := 1432) dL_law_549 rfl ?_
    exact hE _ _ _ _ _ _ _ hs2
  · obtain ⟨k, hk, ek⟩ := m_small 6 rfl (by decide) (fun z => hb (Or.inl z)) (fun z => hb (Or.inr z))
    have hy : 0 ≤ (xs ((0 : Int32) + 1).toNatClampNeg) ∧ (xs ((0 : Int32) + 1).toNatClampNeg) ≤ 5 := ⟨Int32.not_lt.mp fun z => hb (Or.inl z), (m_leP 5 rfl rfl (by decide)).mpr fun z => hb (Or.inr z)⟩
    rcases Classical.em (-40 ≤ (xs ((0 : Int32) + 2).toNatClampNeg) ∧ (xs ((0 : Int32) + 2).toNatClampNeg) ≤ 40) with hc | hc
    · have hv : m_oNoise (xs ((0 : Int32) + 1).toNatClampNeg) (xs ((0 : Int32) + 2).toNatClampNeg) = m_iv (m_hum (fun x => if x / 8 = k then (xs ((0 : Int32) + 2).toNatClampNeg) else 0)) := by
        unfold m_oNoise
        rw [if_neg hb, if_pos hc, ek, nI_toInt (by omega)]
        rfl
      refine am_aload_n 484 dL_law_484 rfl ?_
      refine am_aload_n 485 dL_law_485 rfl ?_
      refine am_iload 486 dL_law_486 rfl ?_
      refine am_iconst 488 (v := 1) dL_law_488 (by decide) ?_
      refine am_iadd 489 dL_law_489 ?_
      refine am_saload 490 dL_law_490 hs (am_ix (c := 1) (by decide) (by decide)) ?_
      refine am_aload_n 491 dL_law_491 rfl ?_
      refine am_iload 492 dL_law_492 rfl ?_
      refine am_iconst 494 (v := 2) dL_law_494 (by decide) ?_
      refine am_iadd 495 dL_law_495 ?_
      refine am_saload 496 dL_law_496 hs (am_ix (c := 2) (by decide) (by decide)) ?_
      refine am_aload_n 497 dL_law_497 rfl ?_
      refine am_SW4 498 (mc' := 2) (ms' := 12) (rc := 7) (rs := 292) dL_law_498 lL_100 ⟨by decide, by decide⟩ (Nat.le_of_ble_eq_true rfl) (Nat.le_of_ble_eq_true rfl) (s_Lnoise_ok hF ho (by decide) hv) ?_
      rintro o n' f1 ⟨rfl, rfl, e1, e2⟩
      have hs1 : f1 0 = .inl (20, 5, .inl xs) := (e2 0 (by omega) (by omega)).trans hs
      have hM1 : r_Mo f1 48 0 (fun _ => 0) := hM.on fun x a b => e2 x (by omega) (by omega)
      refine am_ct_in ?_
      refine am_istore 501 dL_law_501 (by decide) ?_
      refine am_aload_n 503 dL_law_503 rfl ?_
      refine am_aload_n 504 dL_law_504 rfl ?_
      refine am_iload 505 dL_law_505 rfl ?_
      refine am_iconst 507 (v := 1) dL_law_507 (by decide) ?_
      refine am_iadd 508 dL_law_508 ?_
      refine am_saload 509 dL_law_509 hs1 (am_ix (c := 1) (by decide) (by decide)) ?_
      refine am_aload_n 510 dL_law_510 rfl ?_
      refine am_iload 511 dL_law_511 rfl ?_
      refine am_iconst 513 (v := 2) dL_law_513 (by decide) ?_
      refine am_iadd 514 dL_law_514 ?_
      refine am_saload 515 dL_law_515 hs1 (am_ix (c := 2) (by decide) (by decide)) ?_
      rw [ek]
      refine am_V2 516 (mc' := 7) (ms' := 292) (rc := 0) (rs := 0) dL_law_516 lL_103 ⟨by decide, by decide⟩ hM1.1 (Nat.le_of_ble_eq_true rfl) (Nat.le_of_ble_eq_true rfl) (s_rnoise_t hM1 (by omega) hk hc) ?_
      rintro o n2 f2 ⟨rfl, hn, ⟨rest, t0⟩, e3⟩
      have hs2 : f2 0 = .inl (20, 5, .inl xs) := (e3 0 (by omega)).trans hs1
      have o2 := (e3 53 (by omega)).trans e1
      refine am_ct_in ?_
      refine am_istore 519 dL_law_519 (by decide) ?_
      refine am_aload_n 521 dL_law_521 rfl ?_
      refine am_V0 522 (mc' := 0) (ms' := 0) (rc := 0) (rs := 0) dL_law_522 lL_82 ⟨by decide, by decide⟩ t0 (Nat.le_of_ble_eq_true rfl) (Nat.le_of_ble_eq_true rfl) (s_thrown t0) ?_
      refine am_is_ct ?_
      refine am_iload 525 dL_law_525 rfl ?_
      refine am_icmp_eq 527 532 dL_law_527 rfl (fun c527 => ?_) (fun c527 => absurd rfl c527)
      refine am_iload 532 dL_law_532 rfl ?_
      refine am_if_ne 534 549 dL_law_534 rfl (fun c534 => absurd c534 (by decide)) (fun c534 => ?_)
      refine am_aload_n 537 dL_law_537 rfl ?_
      refine am_iconst 538 (v := 0) dL_law_538 (by decide) ?_
      refine am_laload 539 dL_law_539 rfl o2 (am_ix (c := 0) (by decide) (by decide)) ?_
      refine am_iload 540 dL_law_540 rfl ?_
      refine am_i2l 542 dL_law_542 ?_
      refine am_lcmp 543 dL_law_543 ?_
      refine am_if_eq 544 549 dL_law_544 rfl (fun c544 => ?_) (fun c544 => absurd (l_lg am_up_eq) c544)
      refine am_goto 549 (tgt := 1432) dL_law_549 rfl ?_
      exact hE _ _ _ _ _ _ _ hs2
    · refine AW.more (rc := 2) (rs := 12) (by omega) (by omega) ?_
      refine am_aload_n 484 dL_law_484 rfl ?_
      refine am_aload_n 485 dL_law_485 rfl ?_
      refine am_iload 486 dL_law_486 rfl ?_
      refine am_iconst 488 (v := 1) dL_law_488 (by decide) ?_
      refine am_iadd 489 dL_law_489 ?_
      refine am_saload 490 dL_law_490 hs (am_ix (c := 1) (by decide) (by decide)) ?_
      refine am_aload_n 491 dL_law_491 rfl ?_
      refine am_iload 492 dL_law_492 rfl ?_
      refine am_iconst 494 (v := 2) dL_law_494 (by decide) ?_
      refine am_iadd 495 dL_law_495 ?_
      refine am_saload 496 dL_law_496 hs (am_ix (c := 2) (by decide) (by decide)) ?_
      refine am_aload_n 497 dL_law_497 rfl ?_
      refine am_SW4 498 (mc' := 2) (ms' := 12) (rc := 0) (rs := 0) dL_law_498 lL_100 ⟨by decide, by decide⟩ (Nat.le_of_ble_eq_true rfl) (Nat.le_of_ble_eq_true rfl) (s_Lnoise_bad0 hF (by unfold m_oNoise; rw [if_neg hb, if_neg hc])) ?_
      rintro o n' f1 ⟨rfl, rfl, e2⟩
      have hs1 : f1 0 = .inl (20, 5, .inl xs) := (e2 0 (by omega)).trans hs
      have hM1 : r_Mo f1 48 0 (fun _ => 0) := hM.on fun x a b => e2 x (by omega)
      refine am_ct_in ?_
      refine am_istore 501 dL_law_501 (by decide) ?_
      refine am_aload_n 503 dL_law_503 rfl ?_
      refine am_aload_n 504 dL_law_504 rfl ?_
      refine am_iload 505 dL_law_505 rfl ?_
      refine am_iconst 507 (v := 1) dL_law_507 (by decide) ?_
      refine am_iadd 508 dL_law_508 ?_
      refine am_saload 509 dL_law_509 hs1 (am_ix (c := 1) (by decide) (by decide)) ?_
      refine am_aload_n 510 dL_law_510 rfl ?_
      refine am_iload 511 dL_law_511 rfl ?_
      refine am_iconst 513 (v := 2) dL_law_513 (by decide) ?_
      refine am_iadd 514 dL_law_514 ?_
      refine am_saload 515 dL_law_515 hs1 (am_ix (c := 2) (by decide) (by decide)) ?_
      refine am_V2 516 (mc' := 0) (ms' := 0) (rc := 0) (rs := 0) dL_law_516 lL_103 ⟨by decide, by decide⟩ hM1.1 (Nat.le_of_ble_eq_true rfl) (Nat.le_of_ble_eq_true rfl) (s_rnoise_f2 hM1 hy hc) ?_
      rintro o n2 f2 ⟨rfl, hn, ⟨rest, t0⟩, e3⟩
      have hs2 : f2 0 = .inl (20, 5, .inl xs) := (e3 0 (by omega)).trans hs1
      refine am_ct_in ?_
      refine am_istore 519 dL_law_519 (by decide) ?_
      refine am_aload_n 521 dL_law_521 rfl ?_
      refine am_V0 522 (mc' := 0) (ms' := 0) (rc := 0) (rs := 0) dL_law_522 lL_82 ⟨by decide, by decide⟩ t0 (Nat.le_of_ble_eq_true rfl) (Nat.le_of_ble_eq_true rfl) (s_thrown t0) ?_
      refine am_is_ct ?_
      refine am_iload 525 dL_law_525 rfl ?_
      refine am_icmp_eq 527 532 dL_law_527 rfl (fun c527 => ?_) (fun c527 => absurd rfl c527)
      refine am_iload 532 dL_law_532 rfl ?_
      refine am_if_ne 534 549 dL_law_534 rfl (fun c534 => ?_) (fun c534 => absurd c534 (by decide))
      refine am_goto 549 (tgt := 1432) dL_law_549 rfl ?_
      exact hE _ _ _ _ _ _ _ hs2
set_option maxHeartbeats 4000000 in
theorem l_ofRow (hF : m_Fr f 2) (hM : r_Mo f 48 0 (fun _ => 0)) (hs : f 0 = .inl (20, 5, .inl xs)) (ho : f 53 = .inl (1, 1, .inr (.inl g))) (hE : l_E xs P) : AW mL_law 9 304 972 [some (.ref 0), some (.ref 2), some (.ref 48), some (.ref 53), some (.ref 54), some (.int 0), none, none, none] [] 55 f P := by
  rcases Classical.em ((xs ((0 : Int32) + 1).toNatClampNeg) < 0 ∨ 6 ≤ (xs ((0 : Int32) + 1).toNatClampNeg)) with hb | hb
  · have hy : ¬ (0 ≤ (xs ((0 : Int32) + 1).toNatClampNeg) ∧ (xs ((0 : Int32) + 1).toNatClampNeg) ≤ 5) := fun z => hb.elim (Int32.not_lt.mpr z.1) ((m_leP 5 rfl rfl (by decide)).mp z.2)
    refine AW.more (rc := 2) (rs := 12) (by omega) (by omega) ?_
    refine am_aload_n 972 dL_law_972 rfl ?_
    refine am_aload_n 973 dL_law_973 rfl ?_
    refine am_iload 974 dL_law_974 rfl ?_
    refine am_iconst 976 (v := 1) dL_law_976 (by decide) ?_
    refine am_iadd 977 dL_law_977 ?_
    refine am_saload 978 dL_law_978 hs (am_ix (c := 1) (by decide) (by decide)) ?_
    refine am_aload_n 979 dL_law_979 rfl ?_
    refine am_iload 980 dL_law_980 rfl ?_
    refine am_iconst 982 (v := 2) dL_law_982 (by decide) ?_
    refine am_iadd 983 dL_law_983 ?_
    refine am_saload 984 dL_law_984 hs (am_ix (c := 2) (by decide) (by decide)) ?_
    refine am_aload_n 985 dL_law_985 rfl ?_
    refine am_SW4 986 (mc' := 2) (ms' := 12) (rc := 0) (rs := 0) dL_law_986 lL_128 ⟨by decide, by decide⟩ (Nat.le_of_ble_eq_true rfl) (Nat.le_of_ble_eq_true rfl) (s_LofRow_bad2 hF (by unfold m_oRow; rw [if_pos hb])) ?_
    rintro o n' f1 ⟨rfl, rfl, e2⟩
    have hs1 : f1 0 = .inl (20, 5, .inl xs) := (e2 0 (by omega)).trans hs
    have hM1 : r_Mo f1 48 0 (fun _ => 0) := hM.on fun x a b => e2 x (by omega)
    refine am_ct_in ?_
    refine am_istore 989 dL_law_989 (by decide) ?_
    refine am_aload_n 991 dL_law_991 rfl ?_
    refine am_aload_n 992 dL_law_992 rfl ?_
    refine am_iload 993 dL_law_993 rfl ?_
    refine am_iconst 995 (v := 1) dL_law_995 (by decide) ?_
    refine am_iadd 996 dL_law_996 ?_
    refine am_saload 997 dL_law_997 hs1 (am_ix (c := 1) (by decide) (by decide)) ?_
    refine am_aload_n 998 dL_law_998 rfl ?_
    refine am_iload 999 dL_law_999 rfl ?_
    refine am_iconst 1001 (v := 2) dL_law_1001 (by decide) ?_
    refine am_iadd 1002 dL_law_1002 ?_
    refine am_saload 1003 dL_law_1003 hs1 (am_ix (c := 2) (by decide) (by decide)) ?_
    refine am_V2 1004 (mc' := 0) (ms' := 0) (rc := 0) (rs := 0) dL_law_1004 lL_130 ⟨by decide, by decide⟩ hM1.1 (Nat.le_of_ble_eq_true rfl) (Nat.le_of_ble_eq_true rfl) (s_rofRow_f1 hM1 hy) ?_
    rintro o n2 f2 ⟨rfl, hn, ⟨rest, t0⟩, e3⟩
    have hs2 : f2 0 = .inl (20, 5, .inl xs) := (e3 0 (by omega)).trans hs1
    refine am_ct_in ?_
    refine am_istore 1007 dL_law_1007 (by decide) ?_
    refine am_aload_n 1009 dL_law_1009 rfl ?_
    refine am_V0 1010 (mc' := 0) (ms' := 0) (rc := 0) (rs := 0) dL_law_1010 lL_82 ⟨by decide, by decide⟩ t0 (Nat.le_of_ble_eq_true rfl) (Nat.le_of_ble_eq_true rfl) (s_thrown t0) ?_
    refine am_is_ct ?_
    refine am_iload 1013 dL_law_1013 rfl ?_
    refine am_icmp_eq 1015 1020 dL_law_1015 rfl (fun c1015 => ?_) (fun c1015 => absurd rfl c1015)
    refine am_iload 1020 dL_law_1020 rfl ?_
    refine am_if_ne 1022 1037 dL_law_1022 rfl (fun c1022 => ?_) (fun c1022 => absurd c1022 (by decide))
    refine am_goto 1037 (tgt := 1432) dL_law_1037 rfl ?_
    exact hE _ _ _ _ _ _ _ hs2
  · obtain ⟨k, hk, ek⟩ := m_small 6 rfl (by decide) (fun z => hb (Or.inl z)) (fun z => hb (Or.inr z))
    have hy : 0 ≤ (xs ((0 : Int32) + 1).toNatClampNeg) ∧ (xs ((0 : Int32) + 1).toNatClampNeg) ≤ 5 := ⟨Int32.not_lt.mp fun z => hb (Or.inl z), (m_leP 5 rfl rfl (by decide)).mpr fun z => hb (Or.inr z)⟩
    rcases Classical.em (0 ≤ (xs ((0 : Int32) + 2).toNatClampNeg) ∧ (xs ((0 : Int32) + 2).toNatClampNeg) ≤ 2) with hc | hc
    · refine am_aload_n 972 dL_law_972 rfl ?_
      refine am_aload_n 973 dL_law_973 rfl ?_
      refine am_iload 974 dL_law_974 rfl ?_
      refine am_iconst 976 (v := 1) dL_law_976 (by decide) ?_
      refine am_iadd 977 dL_law_977 ?_
      refine am_saload 978 dL_law_978 hs (am_ix (c := 1) (by decide) (by decide)) ?_
      refine am_aload_n 979 dL_law_979 rfl ?_
      refine am_iload 980 dL_law_980 rfl ?_
      refine am_iconst 982 (v := 2) dL_law_982 (by decide) ?_
      refine am_iadd 983 dL_law_983 ?_
      refine am_saload 984 dL_law_984 hs (am_ix (c := 2) (by decide) (by decide)) ?_
      refine am_aload_n 985 dL_law_985 rfl ?_
      refine am_SW4 986 (mc' := 2) (ms' := 12) (rc := 7) (rs := 292) dL_law_986 lL_128 ⟨by decide, by decide⟩ (Nat.le_of_ble_eq_true rfl) (Nat.le_of_ble_eq_true rfl) (s_LofRow_ok hF ho (by decide) (by unfold m_oRow; rw [if_neg hb, if_pos hc])) ?_
      rintro o n' f1 ⟨rfl, rfl, e1, e2⟩
      have hs1 : f1 0 = .inl (20, 5, .inl xs) := (e2 0 (by omega) (by omega)).trans hs
      have hM1 : r_Mo f1 48 0 (fun _ => 0) := hM.on fun x a b => e2 x (by omega) (by omega)
      refine am_ct_in ?_
      refine am_istore 989 dL_law_989 (by decide) ?_
      refine am_aload_n 991 dL_law_991 rfl ?_
      refine am_aload_n 992 dL_law_992 rfl ?_
      refine am_iload 993 dL_law_993 rfl ?_
      refine am_iconst 995 (v := 1) dL_law_995 (by decide) ?_
      refine am_iadd 996 dL_law_996 ?_
      refine am_saload 997 dL_law_997 hs1 (am_ix (c := 1) (by decide) (by decide)) ?_
      refine am_aload_n 998 dL_law_998 rfl ?_
      refine am_iload 999 dL_law_999 rfl ?_
      refine am_iconst 1001 (v := 2) dL_law_1001 (by decide) ?_
      refine am_iadd 1002 dL_law_1002 ?_
      refine am_saload 1003 dL_law_1003 hs1 (am_ix (c := 2) (by decide) (by decide)) ?_
      rw [ek]
      refine am_V2 1004 (mc' := 7) (ms' := 292) (rc := 0) (rs := 0) dL_law_1004 lL_130 ⟨by decide, by decide⟩ hM1.1 (Nat.le_of_ble_eq_true rfl) (Nat.le_of_ble_eq_true rfl) (s_rofRow_t hM1 (by omega) hk hc) ?_
      rintro o n2 f2 ⟨rfl, hn, ⟨rest, t0⟩, e3⟩
      have hs2 : f2 0 = .inl (20, 5, .inl xs) := (e3 0 (by omega)).trans hs1
      have o2 := (e3 53 (by omega)).trans e1
      refine am_ct_in ?_
      refine am_istore 1007 dL_law_1007 (by decide) ?_
      refine am_aload_n 1009 dL_law_1009 rfl ?_
      refine am_V0 1010 (mc' := 0) (ms' := 0) (rc := 0) (rs := 0) dL_law_1010 lL_82 ⟨by decide, by decide⟩ t0 (Nat.le_of_ble_eq_true rfl) (Nat.le_of_ble_eq_true rfl) (s_thrown t0) ?_
      refine am_is_ct ?_
      refine am_iload 1013 dL_law_1013 rfl ?_
      refine am_icmp_eq 1015 1020 dL_law_1015 rfl (fun c1015 => ?_) (fun c1015 => absurd rfl c1015)
      refine am_iload 1020 dL_law_1020 rfl ?_
      refine am_if_ne 1022 1037 dL_law_1022 rfl (fun c1022 => absurd c1022 (by decide)) (fun c1022 => ?_)
      refine am_aload_n 1025 dL_law_1025 rfl ?_
      refine am_iconst 1026 (v := 0) dL_law_1026 (by decide) ?_
      refine am_laload 1027 dL_law_1027 rfl o2 (am_ix (c := 0) (by decide) (by decide)) ?_
      refine am_iload 1028 dL_law_1028 rfl ?_
      refine am_i2l 1030 dL_law_1030 ?_
      refine am_lcmp 1031 dL_law_1031 ?_
      refine am_if_eq 1032 1037 dL_law_1032 rfl (fun c1032 => ?_) (fun c1032 => absurd (l_lg am_up_eq) c1032)
      refine am_goto 1037 (tgt := 1432) dL_law_1037 rfl ?_
      exact hE _ _ _ _ _ _ _ hs2
    · refine AW.more (rc := 2) (rs := 12) (by omega) (by omega) ?_
      refine am_aload_n 972 dL_law_972 rfl ?_
      refine am_aload_n 973 dL_law_973 rfl ?_
      refine am_iload 974 dL_law_974 rfl ?_
      refine am_iconst 976 (v := 1) dL_law_976 (by decide) ?_
      refine am_iadd 977 dL_law_977 ?_
      refine am_saload 978 dL_law_978 hs (am_ix (c := 1) (by decide) (by decide)) ?_
      refine am_aload_n 979 dL_law_979 rfl ?_
      refine am_iload 980 dL_law_980 rfl ?_
      refine am_iconst 982 (v := 2) dL_law_982 (by decide) ?_
      refine am_iadd 983 dL_law_983 ?_
      refine am_saload 984 dL_law_984 hs (am_ix (c := 2) (by decide) (by decide)) ?_
      refine am_aload_n 985 dL_law_985 rfl ?_
      refine am_SW4 986 (mc' := 2) (ms' := 12) (rc := 0) (rs := 0) dL_law_986 lL_128 ⟨by decide, by decide⟩ (Nat.le_of_ble_eq_true rfl) (Nat.le_of_ble_eq_true rfl) (s_LofRow_bad0 hF (by unfold m_oRow; rw [if_neg hb, if_neg hc])) ?_
      rintro o n' f1 ⟨rfl, rfl, e2⟩
      have hs1 : f1 0 = .inl (20, 5, .inl xs) := (e2 0 (by omega)).trans hs
      have hM1 : r_Mo f1 48 0 (fun _ => 0) := hM.on fun x a b => e2 x (by omega)
      refine am_ct_in ?_
      refine am_istore 989 dL_law_989 (by decide) ?_
      refine am_aload_n 991 dL_law_991 rfl ?_
      refine am_aload_n 992 dL_law_992 rfl ?_
      refine am_iload 993 dL_law_993 rfl ?_
      refine am_iconst 995 (v := 1) dL_law_995 (by decide) ?_
      refine am_iadd 996 dL_law_996 ?_
      refine am_saload 997 dL_law_997 hs1 (am_ix (c := 1) (by decide) (by decide)) ?_
      refine am_aload_n 998 dL_law_998 rfl ?_
      refine am_iload 999 dL_law_999 rfl ?_
      refine am_iconst 1001 (v := 2) dL_law_1001 (by decide) ?_
      refine am_iadd 1002 dL_law_1002 ?_
      refine am_saload 1003 dL_law_1003 hs1 (am_ix (c := 2) (by decide) (by decide)) ?_
      refine am_V2 1004 (mc' := 0) (ms' := 0) (rc := 0) (rs := 0) dL_law_1004 lL_130 ⟨by decide, by decide⟩ hM1.1 (Nat.le_of_ble_eq_true rfl) (Nat.le_of_ble_eq_true rfl) (s_rofRow_f2 hM1 hy hc) ?_
      rintro o n2 f2 ⟨rfl, hn, ⟨rest, t0⟩, e3⟩
      have hs2 : f2 0 = .inl (20, 5, .inl xs) := (e3 0 (by omega)).trans hs1
      refine am_ct_in ?_
      refine am_istore 1007 dL_law_1007 (by decide) ?_
      refine am_aload_n 1009 dL_law_1009 rfl ?_
      refine am_V0 1010 (mc' := 0) (ms' := 0) (rc := 0) (rs := 0) dL_law_1010 lL_82 ⟨by decide, by decide⟩ t0 (Nat.le_of_ble_eq_true rfl) (Nat.le_of_ble_eq_true rfl) (s_thrown t0) ?_
      refine am_is_ct ?_
      refine am_iload 1013 dL_law_1013 rfl ?_
      refine am_icmp_eq 1015 1020 dL_law_1015 rfl (fun c1015 => ?_) (fun c1015 => absurd rfl c1015)
      refine am_iload 1020 dL_law_1020 rfl ?_
      refine am_if_ne 1022 1037 dL_law_1022 rfl (fun c1022 => ?_) (fun c1022 => absurd c1022 (by decide))
      refine am_goto 1037 (tgt := 1432) dL_law_1037 rfl ?_
      exact hE _ _ _ _ _ _ _ hs2
set_option maxHeartbeats 4000000 in
theorem l_many (hF : m_Fr f 2) (hM : r_Mo f 48 0 (fun _ => 0)) (hs : f 0 = .inl (20, 5, .inl xs)) (ho : f 53 = .inl (1, 1, .inr (.inl g))) (hE : l_E xs P) : AW mL_law 8 298 1108 [some (.ref 0), some (.ref 2), some (.ref 48), some (.ref 53), some (.ref 54), some (.int 0), none, none, none] [] 55 f P := by
  rcases Classical.em (0 ≤ (xs ((0 : Int32) + 1).toNatClampNeg) ∧ (xs ((0 : Int32) + 1).toNatClampNeg) ≤ 9) with hc | hc
  · refine am_aload_n 1108 dL_law_1108 rfl ?_
    refine am_aload_n 1109 dL_law_1109 rfl ?_
    refine am_iload 1110 dL_law_1110 rfl ?_
    refine am_iconst 1112 (v := 1) dL_law_1112 (by decide) ?_
    refine am_iadd 1113 dL_law_1113 ?_
    refine am_saload 1114 dL_law_1114 hs (am_ix (c := 1) (by decide) (by decide)) ?_
    refine am_aload_n 1115 dL_law_1115 rfl ?_
    refine am_SW3 1116 (mc' := 1) (ms' := 6) (rc := 7) (rs := 292) dL_law_1116 lL_134 ⟨by decide, by decide⟩ (Nat.le_of_ble_eq_true rfl) (Nat.le_of_ble_eq_true rfl) (s_Lmany_ok hF ho (by decide) (by unfold m_oMany; rw [if_pos hc])) ?_
    rintro o n' f1 ⟨rfl, rfl, e1, e2⟩
    have hs1 : f1 0 = .inl (20, 5, .inl xs) := (e2 0 (by omega) (by omega)).trans hs
    have hM1 : r_Mo f1 48 0 (fun _ => 0) := hM.on fun x a b => e2 x (by omega) (by omega)
    refine am_ct_in ?_
    refine am_istore 1119 dL_law_1119 (by decide) ?_
    refine am_aload_n 1121 dL_law_1121 rfl ?_
    refine am_aload_n 1122 dL_law_1122 rfl ?_
    refine am_iload 1123 dL_law_1123 rfl ?_
    refine am_iconst 1125 (v := 1) dL_law_1125 (by decide) ?_
    refine am_iadd 1126 dL_law_1126 ?_
    refine am_saload 1127 dL_law_1127 hs1 (am_ix (c := 1) (by decide) (by decide)) ?_
    refine am_V1 1128 (mc' := 7) (ms' := 292) (rc := 0) (rs := 0) dL_law_1128 lL_136 ⟨by decide, by decide⟩ hM1.1 (Nat.le_of_ble_eq_true rfl) (Nat.le_of_ble_eq_true rfl) (s_rmany_t hM1 (by omega) hc) ?_
    rintro o n2 f2 ⟨rfl, hn, ⟨rest, t0⟩, e3⟩
    have hs2 : f2 0 = .inl (20, 5, .inl xs) := (e3 0 (by omega)).trans hs1
    have o2 := (e3 53 (by omega)).trans e1
    refine am_ct_in ?_
    refine am_istore 1131 dL_law_1131 (by decide) ?_
    refine am_aload_n 1133 dL_law_1133 rfl ?_
    refine am_V0 1134 (mc' := 0) (ms' := 0) (rc := 0) (rs := 0) dL_law_1134 lL_82 ⟨by decide, by decide⟩ t0 (Nat.le_of_ble_eq_true rfl) (Nat.le_of_ble_eq_true rfl) (s_thrown t0) ?_
    refine am_is_ct ?_
    refine am_iload 1137 dL_law_1137 rfl ?_
    refine am_icmp_eq 1139 1144 dL_law_1139 rfl (fun c1139 => ?_) (fun c1139 => absurd rfl c1139)
    refine am_iload 1144 dL_law_1144 rfl ?_
    refine am_if_ne 1146 1161 dL_law_1146 rfl (fun c1146 => absurd c1146 (by decide)) (fun c1146 => ?_)
    refine am_aload_n 1149 dL_law_1149 rfl ?_
    refine am_iconst 1150 (v := 0) dL_law_1150 (by decide) ?_
    refine am_laload 1151 dL_law_1151 rfl o2 (am_ix (c := 0) (by decide) (by decide)) ?_
    refine am_iload 1152 dL_law_1152 rfl ?_
    refine am_i2l 1154 dL_law_1154 ?_
    refine am_lcmp 1155 dL_law_1155 ?_
    refine am_if_eq 1156 1161 dL_law_1156 rfl (fun c1156 => ?_) (fun c1156 => absurd (l_lg am_up_eq) c1156)
    refine am_goto 1161 (tgt := 1432) dL_law_1161 rfl ?_
    exact hE _ _ _ _ _ _ _ hs2
  · refine AW.more (rc := 1) (rs := 6) (by omega) (by omega) ?_
    refine am_aload_n 1108 dL_law_1108 rfl ?_
    refine am_aload_n 1109 dL_law_1109 rfl ?_
    refine am_iload 1110 dL_law_1110 rfl ?_
    refine am_iconst 1112 (v := 1) dL_law_1112 (by decide) ?_
    refine am_iadd 1113 dL_law_1113 ?_
    refine am_saload 1114 dL_law_1114 hs (am_ix (c := 1) (by decide) (by decide)) ?_
    refine am_aload_n 1115 dL_law_1115 rfl ?_
    refine am_SW3 1116 (mc' := 1) (ms' := 6) (rc := 0) (rs := 0) dL_law_1116 lL_134 ⟨by decide, by decide⟩ (Nat.le_of_ble_eq_true rfl) (Nat.le_of_ble_eq_true rfl) (s_Lmany_bad0 hF (by unfold m_oMany; rw [if_neg hc])) ?_
    rintro o n' f1 ⟨rfl, rfl, e2⟩
    have hs1 : f1 0 = .inl (20, 5, .inl xs) := (e2 0 (by omega)).trans hs
    have hM1 : r_Mo f1 48 0 (fun _ => 0) := hM.on fun x a b => e2 x (by omega)
    refine am_ct_in ?_
    refine am_istore 1119 dL_law_1119 (by decide) ?_
    refine am_aload_n 1121 dL_law_1121 rfl ?_
    refine am_aload_n 1122 dL_law_1122 rfl ?_
    refine am_iload 1123 dL_law_1123 rfl ?_
    refine am_iconst 1125 (v := 1) dL_law_1125 (by decide) ?_
    refine am_iadd 1126 dL_law_1126 ?_
    refine am_saload 1127 dL_law_1127 hs1 (am_ix (c := 1) (by decide) (by decide)) ?_
    refine am_V1 1128 (mc' := 0) (ms' := 0) (rc := 0) (rs := 0) dL_law_1128 lL_136 ⟨by decide, by decide⟩ hM1.1 (Nat.le_of_ble_eq_true rfl) (Nat.le_of_ble_eq_true rfl) (s_rmany_f hM1 hc) ?_
    rintro o n2 f2 ⟨rfl, hn, ⟨rest, t0⟩, e3⟩
    have hs2 : f2 0 = .inl (20, 5, .inl xs) := (e3 0 (by omega)).trans hs1
    refine am_ct_in ?_
    refine am_istore 1131 dL_law_1131 (by decide) ?_
    refine am_aload_n 1133 dL_law_1133 rfl ?_
    refine am_V0 1134 (mc' := 0) (ms' := 0) (rc := 0) (rs := 0) dL_law_1134 lL_82 ⟨by decide, by decide⟩ t0 (Nat.le_of_ble_eq_true rfl) (Nat.le_of_ble_eq_true rfl) (s_thrown t0) ?_
    refine am_is_ct ?_
    refine am_iload 1137 dL_law_1137 rfl ?_
    refine am_icmp_eq 1139 1144 dL_law_1139 rfl (fun c1139 => ?_) (fun c1139 => absurd rfl c1139)
    refine am_iload 1144 dL_law_1144 rfl ?_
    refine am_if_ne 1146 1161 dL_law_1146 rfl (fun c1146 => ?_) (fun c1146 => absurd c1146 (by decide))
    refine am_goto 1161 (tgt := 1432) dL_law_1161 rfl ?_
    exact hE _ _ _ _ _ _ _ hs2
set_option maxHeartbeats 4000000 in
theorem l_ofPeak (hF : m_Fr f 2) (hM : r_Mo f 48 0 (fun _ => 0)) (hs : f 0 = .inl (20, 5, .inl xs)) (ho : f 53 = .inl (1, 1, .inr (.inl g))) (hE : l_E xs P) : AW mL_law 8 298 658 [some (.ref 0), some (.ref 2), some (.ref 48), some (.ref 53), some (.ref 54), some (.int 0), none, none, none] [] 55 f P := by
  refine am_aload_n 658 dL_law_658 rfl ?_
  refine am_aload_n 659 dL_law_659 rfl ?_
  refine am_iload 660 dL_law_660 rfl ?_
  refine am_iconst 662 (v := 1) dL_law_662 (by decide) ?_
  refine am_iadd 663 dL_law_663 ?_
  refine am_saload 664 dL_law_664 hs (am_ix (c := 1) (by decide) (by decide)) ?_
  refine am_aload_n 665 dL_law_665 rfl ?_
  refine am_iload 666 dL_law_666 rfl ?_
  refine am_iconst 668 (v := 2) dL_law_668 (by decide) ?_
  refine am_iadd 669 dL_law_669 ?_
  refine am_saload 670 dL_law_670 hs (am_ix (c := 2) (by decide) (by decide)) ?_
  refine am_aload_n 671 dL_law_671 rfl ?_
  refine am_SW4 672 (mc' := 1) (ms' := 6) (rc := 7) (rs := 292) dL_law_672 lL_115 ⟨by decide, by decide⟩ (Nat.le_of_ble_eq_true rfl) (Nat.le_of_ble_eq_true rfl) (s_LofPeak_bad2 hF) ?_
  rintro o n' f1 ⟨rfl, rfl, e2⟩
  have hs1 : f1 0 = .inl (20, 5, .inl xs) := (e2 0 (by omega)).trans hs
  have hM1 : r_Mo f1 48 0 (fun _ => 0) := hM.on fun x a b => e2 x (by omega)
  refine am_ct_in ?_
  refine am_istore 675 dL_law_675 (by decide) ?_
  refine am_aload_n 677 dL_law_677 rfl ?_
  refine am_aload_n 678 dL_law_678 rfl ?_
  refine am_iload 679 dL_law_679 rfl ?_
  refine am_iconst 681 (v := 1) dL_law_681 (by decide) ?_
  refine am_iadd 682 dL_law_682 ?_
  refine am_saload 683 dL_law_683 hs1 (am_ix (c := 1) (by decide) (by decide)) ?_
  refine am_aload_n 684 dL_law_684 rfl ?_
  refine am_iload 685 dL_law_685 rfl ?_
  refine am_iconst 687 (v := 2) dL_law_687 (by decide) ?_
  refine am_iadd 688 dL_law_688 ?_
  refine am_saload 689 dL_law_689 hs1 (am_ix (c := 2) (by decide) (by decide)) ?_
  refine am_V2 690 (mc' := 7) (ms' := 292) (rc := 0) (rs := 0) dL_law_690 lL_117 ⟨by decide, by decide⟩ hM1.1 (Nat.le_of_ble_eq_true rfl) (Nat.le_of_ble_eq_true rfl) (s_rofPeak hM1 (by omega)) ?_
  rintro o n2 f2 ⟨rfl, hn, ⟨rest, t0⟩, e3⟩
  have hs2 : f2 0 = .inl (20, 5, .inl xs) := (e3 0 (by omega)).trans hs1
  refine am_ct_in ?_
  refine am_istore 693 dL_law_693 (by decide) ?_
  refine am_aload_n 695 dL_law_695 rfl ?_
  refine am_V0 696 (mc' := 0) (ms' := 0) (rc := 0) (rs := 0) dL_law_696 lL_82 ⟨by decide, by decide⟩ t0 (Nat.le_of_ble_eq_true rfl) (Nat.le_of_ble_eq_true rfl) (s_thrown t0) ?_
  refine am_is_ct ?_
  refine am_iload 699 dL_law_699 rfl ?_
  refine am_icmp_eq 701 706 dL_law_701 rfl (fun c701 => ?_) (fun c701 => absurd rfl c701)
  refine am_iload 706 dL_law_706 rfl ?_
  refine am_if_ne 708 723 dL_law_708 rfl (fun c708 => ?_) (fun c708 => absurd c708 (by decide))
  refine am_goto 723 (tgt := 1432) dL_law_723 rfl ?_
  exact hE _ _ _ _ _ _ _ hs2
set_option maxHeartbeats 4000000 in
theorem l_ofContact (hF : m_Fr f 2) (hM : r_Mo f 48 0 (fun _ => 0)) (hs : f 0 = .inl (20, 5, .inl xs)) (ho : f 53 = .inl (1, 1, .inr (.inl g))) (hE : l_E xs P) : AW mL_law 1 6 726 [some (.ref 0), some (.ref 2), some (.ref 48), some (.ref 53), some (.ref 54), some (.int 0), none, none, none] [] 55 f P := by
  refine am_aload_n 726 dL_law_726 rfl ?_
  refine am_aload_n 727 dL_law_727 rfl ?_
  refine am_iload 728 dL_law_728 rfl ?_
  refine am_iconst 730 (v := 1) dL_law_730 (by decide) ?_
  refine am_iadd 731 dL_law_731 ?_
  refine am_saload 732 dL_law_732 hs (am_ix (c := 1) (by decide) (by decide)) ?_
  refine am_aload_n 733 dL_law_733 rfl ?_
  refine am_iload 734 dL_law_734 rfl ?_
  refine am_iconst 736 (v := 2) dL_law_736 (by decide) ?_
  refine am_iadd 737 dL_law_737 ?_
  refine am_saload 738 dL_law_738 hs (am_ix (c := 2) (by decide) (by decide)) ?_
  refine am_aload_n 739 dL_law_739 rfl ?_
  refine am_SW4 740 (mc' := 1) (ms' := 6) (rc := 0) (rs := 0) dL_law_740 lL_118 ⟨by decide, by decide⟩ (Nat.le_of_ble_eq_true rfl) (Nat.le_of_ble_eq_true rfl) (s_LofContact_bad2 hF) ?_
  rintro o n' f1 ⟨rfl, rfl, e2⟩
  have hs1 : f1 0 = .inl (20, 5, .inl xs) := (e2 0 (by omega)).trans hs
  have hM1 : r_Mo f1 48 0 (fun _ => 0) := hM.on fun x a b => e2 x (by omega)
  refine am_ct_in ?_
  refine am_istore 743 dL_law_743 (by decide) ?_
  refine am_aload_n 745 dL_law_745 rfl ?_
  refine am_aload_n 746 dL_law_746 rfl ?_
  refine am_iload 747 dL_law_747 rfl ?_
  refine am_iconst 749 (v := 1) dL_law_749 (by decide) ?_
  refine am_iadd 750 dL_law_750 ?_
  refine am_saload 751 dL_law_751 hs1 (am_ix (c := 1) (by decide) (by decide)) ?_
  refine am_aload_n 752 dL_law_752 rfl ?_
  refine am_iload 753 dL_law_753 rfl ?_
  refine am_iconst 755 (v := 2) dL_law_755 (by decide) ?_
  refine am_iadd 756 dL_law_756 ?_
  refine am_saload 757 dL_law_757 hs1 (am_ix (c := 2) (by decide) (by decide)) ?_
  refine am_V2 758 (mc' := 0) (ms' := 0) (rc := 0) (rs := 0) dL_law_758 lL_120 ⟨by decide, by decide⟩ hM1.1 (Nat.le_of_ble_eq_true rfl) (Nat.le_of_ble_eq_true rfl) (s_rofContact hM1) ?_
  rintro o n2 f2 ⟨rfl, hn, ⟨rest, t0⟩, e3⟩
  have hs2 : f2 0 = .inl (20, 5, .inl xs) := (e3 0 (by omega)).trans hs1
  refine am_ct_in ?_
  refine am_istore 761 dL_law_761 (by decide) ?_
  refine am_aload_n 763 dL_law_763 rfl ?_
  refine am_V0 764 (mc' := 0) (ms' := 0) (rc := 0) (rs := 0) dL_law_764 lL_82 ⟨by decide, by decide⟩ t0 (Nat.le_of_ble_eq_true rfl) (Nat.le_of_ble_eq_true rfl) (s_thrown t0) ?_
  refine am_is_ct ?_
  refine am_iload 767 dL_law_767 rfl ?_
  refine am_icmp_eq 769 774 dL_law_769 rfl (fun c769 => ?_) (fun c769 => absurd rfl c769)
  refine am_iload 774 dL_law_774 rfl ?_
  refine am_if_ne 776 791 dL_law_776 rfl (fun c776 => ?_) (fun c776 => absurd c776 (by decide))
  refine am_goto 791 (tgt := 1432) dL_law_791 rfl ?_
  exact hE _ _ _ _ _ _ _ hs2
set_option maxHeartbeats 4000000 in
theorem l_where (hF : m_Fr f 2) (hM : r_Mo f 48 0 (fun _ => 0)) (hs : f 0 = .inl (20, 5, .inl xs)) (ho : f 53 = .inl (1, 1, .inr (.inl g))) (hE : l_E xs P) : AW mL_law 1 6 794 [some (.ref 0), some (.ref 2), some (.ref 48), some (.ref 53), some (.ref 54), some (.int 0), none, none, none] [] 55 f P := by
  refine am_aload_n 794 dL_law_794 rfl ?_
  refine am_aload_n 795 dL_law_795 rfl ?_
  refine am_iload 796 dL_law_796 rfl ?_
  refine am_iconst 798 (v := 1) dL_law_798 (by decide) ?_
  refine am_iadd 799 dL_law_799 ?_
  refine am_saload 800 dL_law_800 hs (am_ix (c := 1) (by decide) (by decide)) ?_
  refine am_aload_n 801 dL_law_801 rfl ?_
  refine am_iload 802 dL_law_802 rfl ?_
  refine am_iconst 804 (v := 2) dL_law_804 (by decide) ?_
  refine am_iadd 805 dL_law_805 ?_
  refine am_saload 806 dL_law_806 hs (am_ix (c := 2) (by decide) (by decide)) ?_
  refine am_aload 807 dL_law_807 rfl ?_
  refine am_SW4 809 (mc' := 1) (ms' := 6) (rc := 0) (rs := 0) dL_law_809 lL_121 ⟨by decide, by decide⟩ (Nat.le_of_ble_eq_true rfl) (Nat.le_of_ble_eq_true rfl) (s_Lwhere_bad2 hF) ?_
  rintro o n' f1 ⟨rfl, rfl, e2⟩
  have hs1 : f1 0 = .inl (20, 5, .inl xs) := (e2 0 (by omega)).trans hs
  have hM1 : r_Mo f1 48 0 (fun _ => 0) := hM.on fun x a b => e2 x (by omega)
  refine am_ct_in ?_
  refine am_istore 812 dL_law_812 (by decide) ?_
  refine am_aload_n 814 dL_law_814 rfl ?_
  refine am_aload_n 815 dL_law_815 rfl ?_
  refine am_iload 816 dL_law_816 rfl ?_
  refine am_iconst 818 (v := 1) dL_law_818 (by decide) ?_
  refine am_iadd 819 dL_law_819 ?_
  refine am_saload 820 dL_law_820 hs1 (am_ix (c := 1) (by decide) (by decide)) ?_
  refine am_aload_n 821 dL_law_821 rfl ?_
  refine am_iload 822 dL_law_822 rfl ?_
  refine am_iconst 824 (v := 2) dL_law_824 (by decide) ?_
  refine am_iadd 825 dL_law_825 ?_
  refine am_saload 826 dL_law_826 hs1 (am_ix (c := 2) (by decide) (by decide)) ?_
  refine am_V2 827 (mc' := 0) (ms' := 0) (rc := 0) (rs := 0) dL_law_827 lL_124 ⟨by decide, by decide⟩ hM1.1 (Nat.le_of_ble_eq_true rfl) (Nat.le_of_ble_eq_true rfl) (s_rwhere hM1) ?_
  rintro o n2 f2 ⟨rfl, hn, ⟨rest, t0⟩, e3⟩
  have hs2 : f2 0 = .inl (20, 5, .inl xs) := (e3 0 (by omega)).trans hs1
  refine am_ct_in ?_
  refine am_dstore 830 dL_law_830 (by decide) ?_
  refine am_aload_n 832 dL_law_832 rfl ?_
  refine am_V0 833 (mc' := 0) (ms' := 0) (rc := 0) (rs := 0) dL_law_833 lL_82 ⟨by decide, by decide⟩ t0 (Nat.le_of_ble_eq_true rfl) (Nat.le_of_ble_eq_true rfl) (s_thrown t0) ?_
  refine am_is_ct ?_
  refine am_iload 836 dL_law_836 rfl ?_
  refine am_icmp_eq 838 843 dL_law_838 rfl (fun c838 => ?_) (fun c838 => absurd rfl c838)
  refine am_iload 843 dL_law_843 rfl ?_
  refine am_if_ne 845 880 dL_law_845 rfl (fun c845 => ?_) (fun c845 => absurd c845 (by decide))
  refine am_goto 880 (tgt := 1432) dL_law_880 rfl ?_
  exact hE _ _ _ _ _ _ _ hs2
set_option maxHeartbeats 4000000 in
theorem l_apart (hF : m_Fr f 2) (hM : r_Mo f 48 0 (fun _ => 0)) (hs : f 0 = .inl (20, 5, .inl xs)) (ho : f 53 = .inl (1, 1, .inr (.inl g))) (hE : l_E xs P) : AW mL_law 1 6 883 [some (.ref 0), some (.ref 2), some (.ref 48), some (.ref 53), some (.ref 54), some (.int 0), none, none, none] [] 55 f P := by
  refine am_aload_n 883 dL_law_883 rfl ?_
  refine am_aload_n 884 dL_law_884 rfl ?_
  refine am_iload 885 dL_law_885 rfl ?_
  refine am_iconst 887 (v := 1) dL_law_887 (by decide) ?_
  refine am_iadd 888 dL_law_888 ?_
  refine am_saload 889 dL_law_889 hs (am_ix (c := 1) (by decide) (by decide)) ?_
  refine am_aload_n 890 dL_law_890 rfl ?_
  refine am_iload 891 dL_law_891 rfl ?_
  refine am_iconst 893 (v := 2) dL_law_893 (by decide) ?_
  refine am_iadd 894 dL_law_894 ?_
  refine am_saload 895 dL_law_895 hs (am_ix (c := 2) (by decide) (by decide)) ?_
  refine am_aload 896 dL_law_896 rfl ?_
  refine am_SW4 898 (mc' := 1) (ms' := 6) (rc := 0) (rs := 0) dL_law_898 lL_125 ⟨by decide, by decide⟩ (Nat.le_of_ble_eq_true rfl) (Nat.le_of_ble_eq_true rfl) (s_Lapart_bad2 hF) ?_
  rintro o n' f1 ⟨rfl, rfl, e2⟩
  have hs1 : f1 0 = .inl (20, 5, .inl xs) := (e2 0 (by omega)).trans hs
  have hM1 : r_Mo f1 48 0 (fun _ => 0) := hM.on fun x a b => e2 x (by omega)
  refine am_ct_in ?_
  refine am_istore 901 dL_law_901 (by decide) ?_
  refine am_aload_n 903 dL_law_903 rfl ?_
  refine am_aload_n 904 dL_law_904 rfl ?_
  refine am_iload 905 dL_law_905 rfl ?_
  refine am_iconst 907 (v := 1) dL_law_907 (by decide) ?_
  refine am_iadd 908 dL_law_908 ?_
  refine am_saload 909 dL_law_909 hs1 (am_ix (c := 1) (by decide) (by decide)) ?_
  refine am_aload_n 910 dL_law_910 rfl ?_
  refine am_iload 911 dL_law_911 rfl ?_
  refine am_iconst 913 (v := 2) dL_law_913 (by decide) ?_
  refine am_iadd 914 dL_law_914 ?_
  refine am_saload 915 dL_law_915 hs1 (am_ix (c := 2) (by decide) (by decide)) ?_
  refine am_V2 916 (mc' := 0) (ms' := 0) (rc := 0) (rs := 0) dL_law_916 lL_127 ⟨by decide, by decide⟩ hM1.1 (Nat.le_of_ble_eq_true rfl) (Nat.le_of_ble_eq_true rfl) (s_rapart hM1) ?_
  rintro o n2 f2 ⟨rfl, hn, ⟨rest, t0⟩, e3⟩
  have hs2 : f2 0 = .inl (20, 5, .inl xs) := (e3 0 (by omega)).trans hs1
  refine am_ct_in ?_
  refine am_dstore 919 dL_law_919 (by decide) ?_
  refine am_aload_n 921 dL_law_921 rfl ?_
  refine am_V0 922 (mc' := 0) (ms' := 0) (rc := 0) (rs := 0) dL_law_922 lL_82 ⟨by decide, by decide⟩ t0 (Nat.le_of_ble_eq_true rfl) (Nat.le_of_ble_eq_true rfl) (s_thrown t0) ?_
  refine am_is_ct ?_
  refine am_iload 925 dL_law_925 rfl ?_
  refine am_icmp_eq 927 932 dL_law_927 rfl (fun c927 => ?_) (fun c927 => absurd rfl c927)
  refine am_iload 932 dL_law_932 rfl ?_
  refine am_if_ne 934 969 dL_law_934 rfl (fun c934 => ?_) (fun c934 => absurd c934 (by decide))
  refine am_goto 969 (tgt := 1432) dL_law_969 rfl ?_
  exact hE _ _ _ _ _ _ _ hs2
set_option maxHeartbeats 4000000 in
theorem l_ofArea (hF : m_Fr f 2) (hM : r_Mo f 48 0 (fun _ => 0)) (hs : f 0 = .inl (20, 5, .inl xs)) (ho : f 53 = .inl (1, 1, .inr (.inl g))) (hE : l_E xs P) : AW mL_law 1 6 1040 [some (.ref 0), some (.ref 2), some (.ref 48), some (.ref 53), some (.ref 54), some (.int 0), none, none, none] [] 55 f P := by
  refine am_aload_n 1040 dL_law_1040 rfl ?_
  refine am_aload_n 1041 dL_law_1041 rfl ?_
  refine am_iload 1042 dL_law_1042 rfl ?_
  refine am_iconst 1044 (v := 1) dL_law_1044 (by decide) ?_
  refine am_iadd 1045 dL_law_1045 ?_
  refine am_saload 1046 dL_law_1046 hs (am_ix (c := 1) (by decide) (by decide)) ?_
  refine am_aload_n 1047 dL_law_1047 rfl ?_
  refine am_iload 1048 dL_law_1048 rfl ?_
  refine am_iconst 1050 (v := 2) dL_law_1050 (by decide) ?_
  refine am_iadd 1051 dL_law_1051 ?_
  refine am_saload 1052 dL_law_1052 hs (am_ix (c := 2) (by decide) (by decide)) ?_
  refine am_aload_n 1053 dL_law_1053 rfl ?_
  refine am_SW4 1054 (mc' := 1) (ms' := 6) (rc := 0) (rs := 0) dL_law_1054 lL_131 ⟨by decide, by decide⟩ (Nat.le_of_ble_eq_true rfl) (Nat.le_of_ble_eq_true rfl) (s_LofArea_bad2 hF) ?_
  rintro o n' f1 ⟨rfl, rfl, e2⟩
  have hs1 : f1 0 = .inl (20, 5, .inl xs) := (e2 0 (by omega)).trans hs
  have hM1 : r_Mo f1 48 0 (fun _ => 0) := hM.on fun x a b => e2 x (by omega)
  refine am_ct_in ?_
  refine am_istore 1057 dL_law_1057 (by decide) ?_
  refine am_aload_n 1059 dL_law_1059 rfl ?_
  refine am_aload_n 1060 dL_law_1060 rfl ?_
  refine am_iload 1061 dL_law_1061 rfl ?_
  refine am_iconst 1063 (v := 1) dL_law_1063 (by decide) ?_
  refine am_iadd 1064 dL_law_1064 ?_
  refine am_saload 1065 dL_law_1065 hs1 (am_ix (c := 1) (by decide) (by decide)) ?_
  refine am_aload_n 1066 dL_law_1066 rfl ?_
  refine am_iload 1067 dL_law_1067 rfl ?_
  refine am_iconst 1069 (v := 2) dL_law_1069 (by decide) ?_
  refine am_iadd 1070 dL_law_1070 ?_
  refine am_saload 1071 dL_law_1071 hs1 (am_ix (c := 2) (by decide) (by decide)) ?_
  refine am_V2 1072 (mc' := 0) (ms' := 0) (rc := 0) (rs := 0) dL_law_1072 lL_133 ⟨by decide, by decide⟩ hM1.1 (Nat.le_of_ble_eq_true rfl) (Nat.le_of_ble_eq_true rfl) (s_rofArea hM1) ?_
  rintro o n2 f2 ⟨rfl, hn, ⟨rest, t0⟩, e3⟩
  have hs2 : f2 0 = .inl (20, 5, .inl xs) := (e3 0 (by omega)).trans hs1
  refine am_ct_in ?_
  refine am_istore 1075 dL_law_1075 (by decide) ?_
  refine am_aload_n 1077 dL_law_1077 rfl ?_
  refine am_V0 1078 (mc' := 0) (ms' := 0) (rc := 0) (rs := 0) dL_law_1078 lL_82 ⟨by decide, by decide⟩ t0 (Nat.le_of_ble_eq_true rfl) (Nat.le_of_ble_eq_true rfl) (s_thrown t0) ?_
  refine am_is_ct ?_
  refine am_iload 1081 dL_law_1081 rfl ?_
  refine am_icmp_eq 1083 1088 dL_law_1083 rfl (fun c1083 => ?_) (fun c1083 => absurd rfl c1083)
  refine am_iload 1088 dL_law_1088 rfl ?_
  refine am_if_ne 1090 1105 dL_law_1090 rfl (fun c1090 => ?_) (fun c1090 => absurd c1090 (by decide))
  refine am_goto 1105 (tgt := 1432) dL_law_1105 rfl ?_
  exact hE _ _ _ _ _ _ _ hs2
set_option maxHeartbeats 4000000 in
theorem l_guess (hF : m_Fr f 2) (hM : r_Mo f 48 0 (fun _ => 0)) (hs : f 0 = .inl (20, 5, .inl xs)) (ho : f 53 = .inl (1, 1, .inr (.inl g))) (hE : l_E xs P) : AW mL_law 1 6 1164 [some (.ref 0), some (.ref 2), some (.ref 48), some (.ref 53), some (.ref 54), some (.int 0), none, none, none] [] 55 f P := by
  refine am_aload_n 1164 dL_law_1164 rfl ?_
  refine am_aload_n 1165 dL_law_1165 rfl ?_
  refine am_iload 1166 dL_law_1166 rfl ?_
  refine am_iconst 1168 (v := 1) dL_law_1168 (by decide) ?_
  refine am_iadd 1169 dL_law_1169 ?_
  refine am_saload 1170 dL_law_1170 hs (am_ix (c := 1) (by decide) (by decide)) ?_
  refine am_aload_n 1171 dL_law_1171 rfl ?_
  refine am_iload 1172 dL_law_1172 rfl ?_
  refine am_iconst 1174 (v := 2) dL_law_1174 (by decide) ?_
  refine am_iadd 1175 dL_law_1175 ?_
  refine am_saload 1176 dL_law_1176 hs (am_ix (c := 2) (by decide) (by decide)) ?_
  refine am_aload_n 1177 dL_law_1177 rfl ?_
  refine am_iload 1178 dL_law_1178 rfl ?_
  refine am_iconst 1180 (v := 3) dL_law_1180 (by decide) ?_
  refine am_iadd 1181 dL_law_1181 ?_
  refine am_saload 1182 dL_law_1182 hs (am_ix (c := 3) (by decide) (by decide)) ?_
  refine am_if_eq 1183 1190 dL_law_1183 rfl (fun c1183 => ?_) (fun c1183 => ?_)
  · refine am_iconst 1190 (v := 0) dL_law_1190 (by decide) ?_
    refine am_aload 1191 dL_law_1191 rfl ?_
    refine am_SW5 1193 (mc' := 1) (ms' := 6) (rc := 0) (rs := 0) dL_law_1193 lL_137 ⟨by decide, by decide⟩ (Nat.le_of_ble_eq_true rfl) (Nat.le_of_ble_eq_true rfl) (s_Lguess_bad2 hF) ?_
    rintro o n' f1 ⟨rfl, rfl, e2⟩
    have hs1 : f1 0 = .inl (20, 5, .inl xs) := (e2 0 (by omega)).trans hs
    have hM1 : r_Mo f1 48 0 (fun _ => 0) := hM.on fun x a b => e2 x (by omega)
    refine am_ct_in ?_
    refine am_istore 1196 dL_law_1196 (by decide) ?_
    refine am_aload_n 1198 dL_law_1198 rfl ?_
    refine am_aload_n 1199 dL_law_1199 rfl ?_
    refine am_iload 1200 dL_law_1200 rfl ?_
    refine am_iconst 1202 (v := 1) dL_law_1202 (by decide) ?_
    refine am_iadd 1203 dL_law_1203 ?_
    refine am_saload 1204 dL_law_1204 hs1 (am_ix (c := 1) (by decide) (by decide)) ?_
    refine am_aload_n 1205 dL_law_1205 rfl ?_
    refine am_iload 1206 dL_law_1206 rfl ?_
    refine am_iconst 1208 (v := 2) dL_law_1208 (by decide) ?_
    refine am_iadd 1209 dL_law_1209 ?_
    refine am_saload 1210 dL_law_1210 hs1 (am_ix (c := 2) (by decide) (by decide)) ?_
    refine am_aload_n 1211 dL_law_1211 rfl ?_
    refine am_iload 1212 dL_law_1212 rfl ?_
    refine am_iconst 1214 (v := 3) dL_law_1214 (by decide) ?_
    refine am_iadd 1215 dL_law_1215 ?_
    refine am_saload 1216 dL_law_1216 hs1 (am_ix (c := 3) (by decide) (by decide)) ?_
    refine am_if_eq 1217 1224 dL_law_1217 rfl (fun c1217 => ?_) (fun c1217 => ?_)
    · refine am_iconst 1224 (v := 0) dL_law_1224 (by decide) ?_
      refine am_V3 1225 (mc' := 0) (ms' := 0) (rc := 0) (rs := 0) dL_law_1225 lL_140 ⟨by decide, by decide⟩ hM1.1 (Nat.le_of_ble_eq_true rfl) (Nat.le_of_ble_eq_true rfl) (s_rguess hM1) ?_
      rintro o n2 f2 ⟨rfl, hn, ⟨rest, t0⟩, e3⟩
      have hs2 : f2 0 = .inl (20, 5, .inl xs) := (e3 0 (by omega)).trans hs1
      refine am_ct_in ?_
      refine am_dstore 1228 dL_law_1228 (by decide) ?_
      refine am_aload_n 1230 dL_law_1230 rfl ?_
      refine am_V0 1231 (mc' := 0) (ms' := 0) (rc := 0) (rs := 0) dL_law_1231 lL_82 ⟨by decide, by decide⟩ t0 (Nat.le_of_ble_eq_true rfl) (Nat.le_of_ble_eq_true rfl) (s_thrown t0) ?_
      refine am_is_ct ?_
      refine am_iload 1234 dL_law_1234 rfl ?_
      refine am_icmp_eq 1236 1241 dL_law_1236 rfl (fun c1236 => ?_) (fun c1236 => absurd rfl c1236)
      refine am_iload 1241 dL_law_1241 rfl ?_
      refine am_if_ne 1243 1278 dL_law_1243 rfl (fun c1243 => ?_) (fun c1243 => absurd c1243 (by decide))
      refine am_goto 1278 (tgt := 1432) dL_law_1278 rfl ?_
      exact hE _ _ _ _ _ _ _ hs2
    · refine am_iconst 1220 (v := 1) dL_law_1220 (by decide) ?_
      refine am_goto 1221 (tgt := 1225) dL_law_1221 rfl ?_
      refine am_V3 1225 (mc' := 0) (ms' := 0) (rc := 0) (rs := 0) dL_law_1225 lL_140 ⟨by decide, by decide⟩ hM1.1 (Nat.le_of_ble_eq_true rfl) (Nat.le_of_ble_eq_true rfl) (s_rguess hM1) ?_
      rintro o n2 f2 ⟨rfl, hn, ⟨rest, t0⟩, e3⟩
      have hs2 : f2 0 = .inl (20, 5, .inl xs) := (e3 0 (by omega)).trans hs1
      refine am_ct_in ?_
      refine am_dstore 1228 dL_law_1228 (by decide) ?_
      refine am_aload_n 1230 dL_law_1230 rfl ?_
      refine am_V0 1231 (mc' := 0) (ms' := 0) (rc := 0) (rs := 0) dL_law_1231 lL_82 ⟨by decide, by decide⟩ t0 (Nat.le_of_ble_eq_true rfl) (Nat.le_of_ble_eq_true rfl) (s_thrown t0) ?_
      refine am_is_ct ?_
      refine am_iload 1234 dL_law_1234 rfl ?_
      refine am_icmp_eq 1236 1241 dL_law_1236 rfl (fun c1236 => ?_) (fun c1236 => absurd rfl c1236)
      refine am_iload 1241 dL_law_1241 rfl ?_
      refine am_if_ne 1243 1278 dL_law_1243 rfl (fun c1243 => ?_) (fun c1243 => absurd c1243 (by decide))
      refine am_goto 1278 (tgt := 1432) dL_law_1278 rfl ?_
      exact hE _ _ _ _ _ _ _ hs2
  · refine am_iconst 1186 (v := 1) dL_law_1186 (by decide) ?_
    refine am_goto 1187 (tgt := 1191) dL_law_1187 rfl ?_
    refine am_aload 1191 dL_law_1191 rfl ?_
    refine am_SW5 1193 (mc' := 1) (ms' := 6) (rc := 0) (rs := 0) dL_law_1193 lL_137 ⟨by decide, by decide⟩ (Nat.le_of_ble_eq_true rfl) (Nat.le_of_ble_eq_true rfl) (s_Lguess_bad2 hF) ?_
    rintro o n' f1 ⟨rfl, rfl, e2⟩
    have hs1 : f1 0 = .inl (20, 5, .inl xs) := (e2 0 (by omega)).trans hs
    have hM1 : r_Mo f1 48 0 (fun _ => 0) := hM.on fun x a b => e2 x (by omega)
    refine am_ct_in ?_
    refine am_istore 1196 dL_law_1196 (by decide) ?_
    refine am_aload_n 1198 dL_law_1198 rfl ?_
    refine am_aload_n 1199 dL_law_1199 rfl ?_
    refine am_iload 1200 dL_law_1200 rfl ?_
    refine am_iconst 1202 (v := 1) dL_law_1202 (by decide) ?_
    refine am_iadd 1203 dL_law_1203 ?_
    refine am_saload 1204 dL_law_1204 hs1 (am_ix (c := 1) (by decide) (by decide)) ?_
    refine am_aload_n 1205 dL_law_1205 rfl ?_
    refine am_iload 1206 dL_law_1206 rfl ?_
    refine am_iconst 1208 (v := 2) dL_law_1208 (by decide) ?_
    refine am_iadd 1209 dL_law_1209 ?_
    refine am_saload 1210 dL_law_1210 hs1 (am_ix (c := 2) (by decide) (by decide)) ?_
    refine am_aload_n 1211 dL_law_1211 rfl ?_
    refine am_iload 1212 dL_law_1212 rfl ?_
    refine am_iconst 1214 (v := 3) dL_law_1214 (by decide) ?_
    refine am_iadd 1215 dL_law_1215 ?_
    refine am_saload 1216 dL_law_1216 hs1 (am_ix (c := 3) (by decide) (by decide)) ?_
    refine am_if_eq 1217 1224 dL_law_1217 rfl (fun c1217 => ?_) (fun c1217 => ?_)
    · refine am_iconst 1224 (v := 0) dL_law_1224 (by decide) ?_
      refine am_V3 1225 (mc' := 0) (ms' := 0) (rc := 0) (rs := 0) dL_law_1225 lL_140 ⟨by decide, by decide⟩ hM1.1 (Nat.le_of_ble_eq_true rfl) (Nat.le_of_ble_eq_true rfl) (s_rguess hM1) ?_
      rintro o n2 f2 ⟨rfl, hn, ⟨rest, t0⟩, e3⟩
      have hs2 : f2 0 = .inl (20, 5, .inl xs) := (e3 0 (by omega)).trans hs1
      refine am_ct_in ?_
      refine am_dstore 1228 dL_law_1228 (by decide) ?_
      refine am_aload_n 1230 dL_law_1230 rfl ?_
      refine am_V0 1231 (mc' := 0) (ms' := 0) (rc := 0) (rs := 0) dL_law_1231 lL_82 ⟨by decide, by decide⟩ t0 (Nat.le_of_ble_eq_true rfl) (Nat.le_of_ble_eq_true rfl) (s_thrown t0) ?_
      refine am_is_ct ?_
      refine am_iload 1234 dL_law_1234 rfl ?_
      refine am_icmp_eq 1236 1241 dL_law_1236 rfl (fun c1236 => ?_) (fun c1236 => absurd rfl c1236)
      refine am_iload 1241 dL_law_1241 rfl ?_
      refine am_if_ne 1243 1278 dL_law_1243 rfl (fun c1243 => ?_) (fun c1243 => absurd c1243 (by decide))
      refine am_goto 1278 (tgt := 1432) dL_law_1278 rfl ?_
      exact hE _ _ _ _ _ _ _ hs2
    · refine am_iconst 1220 (v := 1) dL_law_1220 (by decide) ?_
      refine am_goto 1221 (tgt := 1225) dL_law_1221 rfl ?_
      refine am_V3 1225 (mc' := 0) (ms' := 0) (rc := 0) (rs := 0) dL_law_1225 lL_140 ⟨by decide, by decide⟩ hM1.1 (Nat.le_of_ble_eq_true rfl) (Nat.le_of_ble_eq_true rfl) (s_rguess hM1) ?_
      rintro o n2 f2 ⟨rfl, hn, ⟨rest, t0⟩, e3⟩
      have hs2 : f2 0 = .inl (20, 5, .inl xs) := (e3 0 (by omega)).trans hs1
      refine am_ct_in ?_
      refine am_dstore 1228 dL_law_1228 (by decide) ?_
      refine am_aload_n 1230 dL_law_1230 rfl ?_
      refine am_V0 1231 (mc' := 0) (ms' := 0) (rc := 0) (rs := 0) dL_law_1231 lL_82 ⟨by decide, by decide⟩ t0 (Nat.le_of_ble_eq_true rfl) (Nat.le_of_ble_eq_true rfl) (s_thrown t0) ?_
      refine am_is_ct ?_
      refine am_iload 1234 dL_law_1234 rfl ?_
      refine am_icmp_eq 1236 1241 dL_law_1236 rfl (fun c1236 => ?_) (fun c1236 => absurd rfl c1236)
      refine am_iload 1241 dL_law_1241 rfl ?_
      refine am_if_ne 1243 1278 dL_law_1243 rfl (fun c1243 => ?_) (fun c1243 => absurd c1243 (by decide))
      refine am_goto 1278 (tgt := 1432) dL_law_1278 rfl ?_
      exact hE _ _ _ _ _ _ _ hs2
set_option maxHeartbeats 4000000 in
theorem l_wouldMatch (hF : m_Fr f 2) (hM : r_Mo f 48 0 (fun _ => 0)) (hs : f 0 = .inl (20, 5, .inl xs)) (ho : f 53 = .inl (1, 1, .inr (.inl g))) (hE : l_E xs P) : AW mL_law 1 6 1281 [some (.ref 0), some (.ref 2), some (.ref 48), some (.ref 53), some (.ref 54), some (.int 0), none, none, none] [] 55 f P := by
  refine am_aload_n 1281 dL_law_1281 rfl ?_
  refine am_aload_n 1282 dL_law_1282 rfl ?_
  refine am_iload 1283 dL_law_1283 rfl ?_
  refine am_iconst 1285 (v := 1) dL_law_1285 (by decide) ?_
  refine am_iadd 1286 dL_law_1286 ?_
  refine am_saload 1287 dL_law_1287 hs (am_ix (c := 1) (by decide) (by decide)) ?_
  refine am_aload_n 1288 dL_law_1288 rfl ?_
  refine am_SW3 1289 (mc' := 1) (ms' := 6) (rc := 0) (rs := 0) dL_law_1289 lL_141 ⟨by decide, by decide⟩ (Nat.le_of_ble_eq_true rfl) (Nat.le_of_ble_eq_true rfl) (s_LwouldMatch_bad2 hF) ?_
  rintro o n' f1 ⟨rfl, rfl, e2⟩
  have hs1 : f1 0 = .inl (20, 5, .inl xs) := (e2 0 (by omega)).trans hs
  have hM1 : r_Mo f1 48 0 (fun _ => 0) := hM.on fun x a b => e2 x (by omega)
  refine am_ct_in ?_
  refine am_istore 1292 dL_law_1292 (by decide) ?_
  refine am_aload_n 1294 dL_law_1294 rfl ?_
  refine am_aload_n 1295 dL_law_1295 rfl ?_
  refine am_iload 1296 dL_law_1296 rfl ?_
  refine am_iconst 1298 (v := 1) dL_law_1298 (by decide) ?_
  refine am_iadd 1299 dL_law_1299 ?_
  refine am_saload 1300 dL_law_1300 hs1 (am_ix (c := 1) (by decide) (by decide)) ?_
  refine am_V1 1301 (mc' := 0) (ms' := 0) (rc := 0) (rs := 0) dL_law_1301 lL_143 ⟨by decide, by decide⟩ hM1.1 (Nat.le_of_ble_eq_true rfl) (Nat.le_of_ble_eq_true rfl) (s_rwouldMatch hM1) ?_
  rintro o n2 f2 ⟨rfl, hn, ⟨rest, t0⟩, e3⟩
  have hs2 : f2 0 = .inl (20, 5, .inl xs) := (e3 0 (by omega)).trans hs1
  refine am_ct_in ?_
  refine am_istore 1304 dL_law_1304 (by decide) ?_
  refine am_aload_n 1306 dL_law_1306 rfl ?_
  refine am_V0 1307 (mc' := 0) (ms' := 0) (rc := 0) (rs := 0) dL_law_1307 lL_82 ⟨by decide, by decide⟩ t0 (Nat.le_of_ble_eq_true rfl) (Nat.le_of_ble_eq_true rfl) (s_thrown t0) ?_
  refine am_is_ct ?_
  refine am_iload 1310 dL_law_1310 rfl ?_
  refine am_icmp_eq 1312 1317 dL_law_1312 rfl (fun c1312 => ?_) (fun c1312 => absurd rfl c1312)
  refine am_iload 1317 dL_law_1317 rfl ?_
  refine am_if_ne 1319 1334 dL_law_1319 rfl (fun c1319 => ?_) (fun c1319 => absurd c1319 (by decide))
  refine am_goto 1334 (tgt := 1432) dL_law_1334 rfl ?_
  exact hE _ _ _ _ _ _ _ hs2
set_option maxHeartbeats 4000000 in
theorem l_keepBy (hF : m_Fr f 2) (hM : r_Mo f 48 0 (fun _ => 0)) (hs : f 0 = .inl (20, 5, .inl xs)) (ho : f 53 = .inl (1, 1, .inr (.inl g))) (hE : l_E xs P) : AW mL_law 1 6 1350 [some (.ref 0), some (.ref 2), some (.ref 48), some (.ref 53), some (.ref 54), some (.int 0), none, none, none] [] 55 f P := by
  refine am_aload_n 1350 dL_law_1350 rfl ?_
  refine am_aload_n 1351 dL_law_1351 rfl ?_
  refine am_iload 1352 dL_law_1352 rfl ?_
  refine am_iconst 1354 (v := 1) dL_law_1354 (by decide) ?_
  refine am_iadd 1355 dL_law_1355 ?_
  refine am_saload 1356 dL_law_1356 hs (am_ix (c := 1) (by decide) (by decide)) ?_
  refine am_aload_n 1357 dL_law_1357 rfl ?_
  refine am_iload 1358 dL_law_1358 rfl ?_
  refine am_iconst 1360 (v := 2) dL_law_1360 (by decide) ?_
  refine am_iadd 1361 dL_law_1361 ?_
  refine am_saload 1362 dL_law_1362 hs (am_ix (c := 2) (by decide) (by decide)) ?_
  refine am_aload_n 1363 dL_law_1363 rfl ?_
  refine am_SW4 1364 (mc' := 1) (ms' := 6) (rc := 0) (rs := 0) dL_law_1364 lL_148 ⟨by decide, by decide⟩ (Nat.le_of_ble_eq_true rfl) (Nat.le_of_ble_eq_true rfl) (s_LkeepBy_bad2 hF) ?_
  rintro o n' f1 ⟨rfl, rfl, e2⟩
  have hs1 : f1 0 = .inl (20, 5, .inl xs) := (e2 0 (by omega)).trans hs
  have hM1 : r_Mo f1 48 0 (fun _ => 0) := hM.on fun x a b => e2 x (by omega)
  refine am_ct_in ?_
  refine am_istore 1367 dL_law_1367 (by decide) ?_
  refine am_aload_n 1369 dL_law_1369 rfl ?_
  refine am_aload_n 1370 dL_law_1370 rfl ?_
  refine am_iload 1371 dL_law_1371 rfl ?_
  refine am_iconst 1373 (v := 1) dL_law_1373 (by decide) ?_
  refine am_iadd 1374 dL_law_1374 ?_
  refine am_saload 1375 dL_law_1375 hs1 (am_ix (c := 1) (by decide) (by decide)) ?_
  refine am_aload_n 1376 dL_law_1376 rfl ?_
  refine am_iload 1377 dL_law_1377 rfl ?_
  refine am_iconst 1379 (v := 2) dL_law_1379 (by decide) ?_
  refine am_iadd 1380 dL_law_1380 ?_
  refine am_saload 1381 dL_law_1381 hs1 (am_ix (c := 2) (by decide) (by decide)) ?_
  refine am_V2 1382 (mc' := 0) (ms' := 0) (rc := 0) (rs := 0) dL_law_1382 lL_150 ⟨by decide, by decide⟩ hM1.1 (Nat.le_of_ble_eq_true rfl) (Nat.le_of_ble_eq_true rfl) (s_rkeepBy hM1) ?_
  rintro o n2 f2 ⟨rfl, hn, ⟨rest, t0⟩, e3⟩
  have hs2 : f2 0 = .inl (20, 5, .inl xs) := (e3 0 (by omega)).trans hs1
  refine am_ct_in ?_
  refine am_istore 1385 dL_law_1385 (by decide) ?_
  refine am_aload_n 1387 dL_law_1387 rfl ?_
  refine am_V0 1388 (mc' := 0) (ms' := 0) (rc := 0) (rs := 0) dL_law_1388 lL_82 ⟨by decide, by decide⟩ t0 (Nat.le_of_ble_eq_true rfl) (Nat.le_of_ble_eq_true rfl) (s_thrown t0) ?_
  refine am_is_ct ?_
  refine am_iload 1391 dL_law_1391 rfl ?_
  refine am_icmp_eq 1393 1398 dL_law_1393 rfl (fun c1393 => ?_) (fun c1393 => absurd rfl c1393)
  refine am_iload 1398 dL_law_1398 rfl ?_
  refine am_if_ne 1400 1415 dL_law_1400 rfl (fun c1400 => ?_) (fun c1400 => absurd c1400 (by decide))
  refine am_goto 1415 (tgt := 1432) dL_law_1415 rfl ?_
  exact hE _ _ _ _ _ _ _ hs2
set_option maxHeartbeats 4000000 in
theorem l_frame (hF : m_Fr f 2) (hM : r_Mo f 48 0 (fun _ => 0)) (hs : f 0 = .inl (20, 5, .inl xs)) (ho : f 53 = .inl (1, 1, .inr (.inl g))) (hE : l_E xs P) : AW mL_law 13 358 552 [some (.ref 0), some (.ref 2), some (.ref 48), some (.ref 53), some (.ref 54), some (.int 0), none, none, none] [] 55 f P := by
  have hp := hF.1
  refine am_aload_n 552 dL_law_552 rfl ?_
  refine am_V0 553 (mc' := 0) (ms' := 0) (rc := 13) (rs := 358) dL_law_553 lL_104 ⟨by decide, by decide⟩ hp (Nat.le_of_ble_eq_true rfl) (Nat.le_of_ble_eq_true rfl) (s_frame0 hF) ?_
  rintro o n' f1 ⟨rfl, rfl, e2⟩
  have hs1 : f1 0 = .inl (20, 5, .inl xs) := (e2 0 (by omega)).trans hs
  have hM1 : r_Mo f1 48 0 (fun _ => 0) := hM.on fun x a b => e2 x (by omega)
  refine am_ct_in ?_
  refine am_aload_n 556 dL_law_556 rfl ?_
  refine am_V0 557 (mc' := 13) (ms' := 358) (rc := 0) (rs := 0) dL_law_557 lL_107 ⟨by decide, by decide⟩ hM1.1 (Nat.le_of_ble_eq_true rfl) (Nat.le_of_ble_eq_true rfl) (s_rframe hM1 (by omega)) ?_
  rintro o n2 f2 ⟨rfl, hn, -, e3⟩
  have hs2 : f2 0 = .inl (20, 5, .inl xs) := (e3 0 (by omega)).trans hs1
  refine am_ct_in ?_
  refine am_icmp_eq 560 1432 dL_law_560 rfl (fun c560 => ?_) (fun c560 => absurd rfl c560)
  exact hE _ _ _ _ _ _ _ hs2
set_option maxHeartbeats 4000000 in
theorem l_wipe (hF : m_Fr f 2) (hM : r_Mo f 48 0 (fun _ => 0)) (hs : f 0 = .inl (20, 5, .inl xs)) (ho : f 53 = .inl (1, 1, .inr (.inl g))) (hE : l_E xs P) : AW mL_law 0 0 565 [some (.ref 0), some (.ref 2), some (.ref 48), some (.ref 53), some (.ref 54), some (.int 0), none, none, none] [] 55 f P := by
  have hp := hF.1
  refine am_aload_n 565 dL_law_565 rfl ?_
  refine am_V0 566 (mc' := 0) (ms' := 0) (rc := 0) (rs := 0) dL_law_566 lL_108 ⟨by decide, by decide⟩ hp (Nat.le_of_ble_eq_true rfl) (Nat.le_of_ble_eq_true rfl) (s_wipe0 hF) ?_
  rintro o n' f1 ⟨rfl, rfl, e2⟩
  have hs1 : f1 0 = .inl (20, 5, .inl xs) := (e2 0 (by omega)).trans hs
  have hM1 : r_Mo f1 48 0 (fun _ => 0) := hM.on fun x a b => e2 x (by omega)
  refine am_ct_in ?_
  refine am_aload_n 569 dL_law_569 rfl ?_
  refine am_V0 570 (mc' := 0) (ms' := 0) (rc := 0) (rs := 0) dL_law_570 lL_111 ⟨by decide, by decide⟩ hM1.1 (Nat.le_of_ble_eq_true rfl) (Nat.le_of_ble_eq_true rfl) (s_rwipe hM1) ?_
  rintro o n2 f2 ⟨rfl, hn, -, e3⟩
  have hs2 : f2 0 = .inl (20, 5, .inl xs) := (e3 0 (by omega)).trans hs1
  refine am_ct_in ?_
  refine am_icmp_eq 573 1432 dL_law_573 rfl (fun c573 => ?_) (fun c573 => absurd rfl c573)
  exact hE _ _ _ _ _ _ _ hs2
set_option maxHeartbeats 4000000 in
theorem l_calmIn (hF : m_Fr f 2) (hM : r_Mo f 48 0 (fun _ => 0)) (hs : f 0 = .inl (20, 5, .inl xs)) (ho : f 53 = .inl (1, 1, .inr (.inl g))) (hE : l_E xs P) : AW mL_law 8 340 1337 [some (.ref 0), some (.ref 2), some (.ref 48), some (.ref 53), some (.ref 54), some (.int 0), none, none, none] [] 55 f P := by
  have hp := hF.1
  refine am_aload_n 1337 dL_law_1337 rfl ?_
  refine am_V0 1338 (mc' := 0) (ms' := 0) (rc := 8) (rs := 340) dL_law_1338 lL_144 ⟨by decide, by decide⟩ hp (Nat.le_of_ble_eq_true rfl) (Nat.le_of_ble_eq_true rfl) (s_calmIn0 hF) ?_
  rintro o n' f1 ⟨rfl, rfl, e2⟩
  have hs1 : f1 0 = .inl (20, 5, .inl xs) := (e2 0 (by omega)).trans hs
  have hM1 : r_Mo f1 48 0 (fun _ => 0) := hM.on fun x a b => e2 x (by omega)
  refine am_ct_in ?_
  refine am_aload_n 1341 dL_law_1341 rfl ?_
  refine am_V0 1342 (mc' := 8) (ms' := 340) (rc := 0) (rs := 0) dL_law_1342 lL_147 ⟨by decide, by decide⟩ hM1.1 (Nat.le_of_ble_eq_true rfl) (Nat.le_of_ble_eq_true rfl) (s_rcalm hM1 (by omega)) ?_
  rintro o n2 f2 ⟨rfl, hn, -, e3⟩
  have hs2 : f2 0 = .inl (20, 5, .inl xs) := (e3 0 (by omega)).trans hs1
  refine am_ct_in ?_
  refine am_icmp_eq 1345 1432 dL_law_1345 rfl (fun c1345 => ?_) (fun c1345 => absurd rfl c1345)
  exact hE _ _ _ _ _ _ _ hs2
set_option maxHeartbeats 4000000 in
theorem l_digest (hF : m_Fr f 2) (hM : r_Mo f 48 0 (fun _ => 0)) (hs : f 0 = .inl (20, 5, .inl xs)) (ho : f 53 = .inl (1, 1, .inr (.inl g))) (hE : l_E xs P) : AW mL_law 15 632 1418 [some (.ref 0), some (.ref 2), some (.ref 48), some (.ref 53), some (.ref 54), some (.int 0), none, none, none] [] 55 f P := by
  have hp := hF.1
  refine am_aload_n 1418 dL_law_1418 rfl ?_
  refine am_V0 1419 (mc' := 0) (ms' := 0) (rc := 15) (rs := 632) dL_law_1419 lL_151 ⟨by decide, by decide⟩ hp (Nat.le_of_ble_eq_true rfl) (Nat.le_of_ble_eq_true rfl) (s_digest0 hF) ?_
  rintro o n' f1 ⟨rfl, rfl, e2⟩
  have hs1 : f1 0 = .inl (20, 5, .inl xs) := (e2 0 (by omega)).trans hs
  have hM1 : r_Mo f1 48 0 (fun _ => 0) := hM.on fun x a b => e2 x (by omega)
  refine am_ct_in ?_
  refine am_aload_n 1422 dL_law_1422 rfl ?_
  refine am_V0 1423 (mc' := 15) (ms' := 632) (rc := 0) (rs := 0) dL_law_1423 lL_155 ⟨by decide, by decide⟩ hM1.1 (Nat.le_of_ble_eq_true rfl) (Nat.le_of_ble_eq_true rfl) (s_rdigest hM1 (by omega)) ?_
  rintro o n2 f2 ⟨rfl, hn, -, e3⟩
  have hs2 : f2 0 = .inl (20, 5, .inl xs) := (e3 0 (by omega)).trans hs1
  refine am_ct_in ?_
  refine am_lcmp 1426 dL_law_1426 ?_
  refine am_if_eq 1427 1432 dL_law_1427 rfl (fun c1427 => ?_) (fun c1427 => absurd (l_lg rfl) c1427)
  exact hE _ _ _ _ _ _ _ hs2
end Ops
