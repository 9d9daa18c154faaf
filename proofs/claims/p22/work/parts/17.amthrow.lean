/-! ===== throws, handlers, calls of methods that have handlers ===== -/
def am_nms : List String := ["java/lang/RuntimeException", "java/lang/Exception"]
/-- 'throw new E("text")': what the tables must say -/
def am_Tw (own : String) (ik is ic k : Nat) : Prop := Bundle.fit (am_E k) = true ∧ Cond.classLink own ik (am_E k) ∈ am_W ∧ Cond.initialized (am_E k) ∈ am_W ∧ (∃ text, (own, is, text) ∈ am_str) ∧ ∀ w ∈ vx_atS own ic (am_E k) am_nms, w ∈ am_W ∨ w ∈ am_fW
theorem am_tw (own : String) (ic : Nat) (X : String) (h : (vx_atS own ic X am_nms).all (fun w => decide (w ∈ lw_tbl) && (goodWord w || (w.faceAtom && w.onTables))) = true) : ∀ w ∈ vx_atS own ic X am_nms, w ∈ am_W ∨ w ∈ am_fW := by
  intro w hw
  have h1 := List.all_eq_true.mp h w hw
  simp only [Bool.and_eq_true, Bool.or_eq_true, decide_eq_true_eq] at h1
  rcases h1.2 with g | g
  · exact Or.inl (List.mem_filter.mpr ⟨h1.1, g⟩)
  · exact Or.inr (List.mem_filter.mpr ⟨h1.1, by simp only [Bool.and_eq_true]; exact g⟩)
theorem am_throw (pc : Nat) {M : am_M} {rc rs n ik is ic k : Nat} {L : List (Option Value)} {st : List Value} {f : Nat → am_C} {P : am_P} (hh : am_hh M = []) (hTw : am_Tw (am_y M).cls ik is ic k) (d0 : decode (am_by M) pc = .ok (.new ik, 3)) (d3 : decode (am_by M) (pc + 3) = .ok (.dup, 1)) (d4 : decode (am_by M) (pc + 4) = .ok (.ldc is, 2)) (d6 : decode (am_by M) (pc + 6) = .ok (.invokespecial ic, 3)) (d9 : decode (am_by M) (pc + 9) = .ok (.athrow, 1)) (hfr : 6 ≤ am_fr M) (hlo : (st.map fun v => v.category).sum + 82 ≤ am_lo M) (hP : P (.inr k) n f) : AW M (rc + 1) (rs + 6) pc L st n f P := by
  intro D cA p l e R s m args below meth c A n0 ρ0 mc ms hC hR H locs cells slots ρ ls hT hcs
  obtain ⟨t1, t3, t4, ⟨text, t5⟩, t6⟩ := hTw
  have hW := hC.2.2.2.2.2.1
  obtain ⟨-, -, s3, -, -, s5, s6, s8⟩ := hC.2.2.2.2.2.2.2.2.2.2.2
  obtain ⟨sa, hsa⟩ := s3 _ t5
  have hfw : ∀ w ∈ am_fW, w.before args s = true := fun w hw => am_face_at hw (Vm.Alike.refl _) (s8 w hw)
  have hat : ∀ w ∈ vx_atS (am_y M).cls ic (am_E k) am_nms, w.before args s = true := fun w hw => (t6 w hw).elim (fun h => hW _ h) (fun h => hfw _ h)
  have hot : ∀ w, w ∈ am_W → vx_ot w = true := fun w hw => by simp [vx_ot, (List.mem_filter.mp hw).2]
  have hot2 : ∀ w, w ∈ am_fW → vx_ot w = true := fun w hw => by
    have h1 := (List.mem_filter.mp hw).2
    simp only [Bool.and_eq_true] at h1
    simp [vx_ot, h1.2]
  have hgood : ∀ w ∈ Cond.classLink (am_y M).cls ik (am_E k) :: Cond.initialized (am_E k) :: vx_atS (am_y M).cls ic (am_E k) am_nms, vx_ot w = true := fun w hw => by
    rcases List.mem_cons.mp hw with h | hw
    · rw [h]; exact hot _ t3
    · rcases List.mem_cons.mp hw with h | hw
      · rw [h]; exact hot _ t4
      · exact (t6 w hw).elim (hot w) (hot2 w)
  refine vx_throwS (names := am_nms) (A := A) hC.1 hC.2.1 hC.2.2.2.2.2.2.2.2.1 hC.2.2.2.2.1 t1 (by decide +kernel) (hW _ t3) (hW _ t4) hsa hat hgood s5 s6 hT.2.2.2.2.1 (by rw [hC.2.2.2.1]; exact hT.2.1.2.1) d0 d3 d4 d6 d9 (by rw [hC.2.2.2.2.2.2.2.1, hh]; intro x hx; cases hx) (Nat.lt_of_lt_of_le (show 2 + 3 < 6 by omega) (Nat.le_trans hfr hR.1)) (am_jroom hR hlo) (by have := hR.2.2.1; omega) (by have := hR.2.2.2; omega) hC.2.2.2.2.2.2.1 ?_ hT.2.2.2.2.1.2.2 (by omega) (by omega)
  intro t ha hsz hk
  exact ⟨⟨k, n, f, ρ, rfl, hP, fun z q hq => (hT.2.2.1 z q hq).kept (hk _ (vx_lt hT.2.2.1 hq)), hT.2.2.2.1, ⟨hT.2.2.2.2.2.1.1, hT.2.2.2.2.2.1.2.2.1⟩, hT.2.2.2.2.2.2.1, hT.2.2.2.2.2.2.2⟩, Nat.le_trans hT.2.2.2.2.1.1 hsz, fun q h1 h2 => (hk q (Nat.lt_of_lt_of_le h1 hT.2.2.2.2.1.1)).trans (hT.2.2.2.2.1.2.1 q h1 h2)⟩
/-- a local that is no longer known -/
def am_s0 (L : List (Option Value)) (i : Nat) : List (Option Value) := (am_cl L i).set i none
theorem am_s0_at {L : List (Option Value)} {i j : Nat} {w : Value} (h : (am_s0 L i)[j]? = some (some w)) : j ≠ i ∧ L[j]? = some (some w) ∧ ¬ (j + 1 = i ∧ w.category = 2) := by
  unfold am_s0 at h
  rw [List.getElem?_set] at h
  by_cases e : i = j
  · rw [if_pos e] at h
    split at h <;> simp at h
  · rw [if_neg e] at h
    exact ⟨fun q => e q.symm, am_cl_at L i j w h⟩
theorem am_ln_s0 {n : Nat} {L : List (Option Value)} {i : Nat} (h : am_ln n L) : am_ln n (am_s0 L i) := fun j w q => h j w (am_s0_at q).2.1
theorem am_L_s0 {ρ : Nat → Nat} {L : List (Option Value)} {nL i : Nat} {v' : Value} {ls : Array Slot} (h : lv_has ls nL ((i, v') :: (am_ll ρ L 0).filter (fun q => !(q.1 == i) && !(q.1 + 1 == i && q.2.category == 2)))) : am_L ρ (am_s0 L i) nL ls := by
  refine ⟨h.1, h.2.1, fun j w hw => ?_⟩
  obtain ⟨e1, e2, e3⟩ := am_s0_at hw
  refine h.2.2 (j, am_v ρ w) (List.mem_cons_of_mem _ (List.mem_filter.mpr ⟨by have := am_ll_mem ρ L 0 j w e2; rwa [Nat.zero_add] at this, ?_⟩))
  have e4 : ¬ (j + 1 = i ∧ (am_v ρ w).category = 2) := by rw [am_cat]; exact e3
  simp
  exact ⟨e1, Classical.not_and_iff_not_or_not.mp e4⟩
abbrev am_he (z : Nat × Nat × Nat × Nat) : ExceptionTableEntry := ⟨z.1, z.2.1, z.2.2.1, z.2.2.2⟩
theorem AX.catch {M : am_M} {rc rs pc E n i : Nat} {name : String} {L : List (Option Value)} {st : List Value} {f : Nat → am_C} {P : am_P} (pre : List (Nat × Nat × Nat × Nat)) (x : Nat × Nat × Nat × Nat) (suf : List (Nat × Nat × Nat × Nat)) (hh : am_hh M = pre ++ x :: suf) (hpass : ∀ z ∈ pre, covers (am_he z) pc = false ∨ (z.2.2.2 ≠ 0 ∧ ∃ nm, Cond.classLink (am_y M).cls z.2.2.2 nm ∈ am_W ∧ (am_E E, nm) ∈ am_ncs)) (hx : covers (am_he x) pc = true) (h0 : x.2.2.2 ≠ 0) (hlink : Cond.classLink (am_y M).cls x.2.2.2 name ∈ am_W) (hcast : Cond.castable (am_E E) name ∈ am_fW) (hd : decode (am_by M) x.2.2.1 = .ok (.astore i, 2)) (hi : i < am_mL M) (kk : AW M rc rs (x.2.2.1 + 2) (am_s0 L i) [] n f P) : AX M rc rs pc L st E n f P := by
  intro D cA p l e R s m args below meth c A n0 ρ0 mc ms hC hR H locs cells slots ρ ls q9 ce hT hcs hq hv hcl
  have hW := hC.2.2.2.2.2.1
  obtain ⟨-, -, -, s4, -, -, -, s8⟩ := hC.2.2.2.2.2.2.2.2.2.2.2
  refine vx_catch hC.2.2.2.2.1 (tableOf pre) (am_he x) (tableOf suf) (by rw [hC.2.2.2.2.2.2.2.1, hh]; simp [tableOf]) ?_ hx h0 (hW _ hlink) (am_face_at hcast (Vm.Alike.refl _) (s8 _ hcast)) hq hv hcl ?_
  · intro z hz
    obtain ⟨y, hy, rfl⟩ := List.mem_map.mp hz
    rcases hpass y hy with h | ⟨h1, nm, h2, h3⟩
    · exact Or.inl h
    · exact Or.inr ⟨h1, nm, hW _ h2, s4 _ h3⟩
  · refine lv_astore hC.1 hC.2.1 hd (am_L_has hT.2.1.2) hi rfl ?_
    intro ls hl
    exact am_k kk hC hR ⟨trivial, ⟨am_ln_s0 hT.2.1.1, am_L_s0 hl⟩, hT.2.2⟩ hcs
theorem AX.catch_n {M : am_M} {rc rs pc E n : Nat} {q : Fin 4} {name : String} {L : List (Option Value)} {st : List Value} {f : Nat → am_C} {P : am_P} (pre : List (Nat × Nat × Nat × Nat)) (x : Nat × Nat × Nat × Nat) (suf : List (Nat × Nat × Nat × Nat)) (hh : am_hh M = pre ++ x :: suf) (hpass : ∀ z ∈ pre, covers (am_he z) pc = false ∨ (z.2.2.2 ≠ 0 ∧ ∃ nm, Cond.classLink (am_y M).cls z.2.2.2 nm ∈ am_W ∧ (am_E E, nm) ∈ am_ncs)) (hx : covers (am_he x) pc = true) (h0 : x.2.2.2 ≠ 0) (hlink : Cond.classLink (am_y M).cls x.2.2.2 name ∈ am_W) (hcast : Cond.castable (am_E E) name ∈ am_fW) (hd : decode (am_by M) x.2.2.1 = .ok (.astore_n q, 1)) (hi : (q : Nat) < am_mL M) (kk : AW M rc rs (x.2.2.1 + 1) (am_s0 L (q : Nat)) [] n f P) : AX M rc rs pc L st E n f P := by
  intro D cA p l e R s m args below meth c A n0 ρ0 mc ms hC hR H locs cells slots ρ ls q9 ce hT hcs hq hv hcl
  have hW := hC.2.2.2.2.2.1
  obtain ⟨-, -, -, s4, -, -, -, s8⟩ := hC.2.2.2.2.2.2.2.2.2.2.2
  refine vx_catch hC.2.2.2.2.1 (tableOf pre) (am_he x) (tableOf suf) (by rw [hC.2.2.2.2.2.2.2.1, hh]; simp [tableOf]) ?_ hx h0 (hW _ hlink) (am_face_at hcast (Vm.Alike.refl _) (s8 _ hcast)) hq hv hcl ?_
  · intro z hz
    obtain ⟨y, hy, rfl⟩ := List.mem_map.mp hz
    rcases hpass y hy with h | ⟨h1, nm, h2, h3⟩
    · exact Or.inl h
    · exact Or.inr ⟨h1, nm, hW _ h2, s4 _ h3⟩
  · refine lv_astore_n hC.1 hC.2.1 hd rfl (am_L_has hT.2.1.2) hi rfl ?_
    intro ls hl
    exact am_k kk hC hR ⟨trivial, ⟨am_ln_s0 hT.2.1.1, am_L_s0 hl⟩, hT.2.2⟩ hcs
/-! methods with handlers, called -/
abbrev am_wsW (N : am_M) : List Cond := Cond.codeWith (am_y N) (am_by N) (am_mL N) (am_rt N) (am_hh N) :: am_W
def am_GW (N : am_M) (k : Nat) : Prop := plainName (am_y N).cls = true ∧ Cond.codeWith (am_y N) (am_by N) (am_mL N) (am_rt N) (am_hh N) ∈ am_W ∧ Cond.initialized (am_y N).cls ∈ am_W ∧ ((am_y N).cls ≠ "java/lang/invoke/MethodHandle" ∧ (am_y N).cls ≠ "java/lang/invoke/VarHandle") ∧ (parseMethodDescriptor (am_y N).desc).map (fun d => d.parameters.length) = some k
theorem am_metW {N : am_M} {mc' ms' n : Nat} {vs : List Value} {f : Nat → am_C} {P : am_P} (hpl : plainName (am_y N).cls = true) (k : AW N mc' ms' 0 (am_en (am_mL N) vs) [] n f P) {D : va_G} {cA : Nat → ClassId} {ρ : Nat → Nat} {l : Launch} (hl : l.stackTraces = false) (hvs : am_sn n vs) (hf : ∀ i, i < n → am_cn n (f i)) (hlen : (lg_sl vs).length ≤ am_mL N) (sz : Nat) :
    vx_Met l (am_y N) (am_wsW N) (am_rm N mc' ms') (am_Pc D cA ρ n f sz (vs.map (am_v ρ))) (am_Q D cA (va_A (am_w cA ρ n f) sz) (n, f) ρ P) (am_X D cA (va_A (am_w cA ρ n f) sz) (n, f) ρ P) mc' ms' (va_A (am_w cA ρ n f) sz) := by
  refine vx_ofWH (cc := am_by N) (maxL := am_mL N) (ret := am_rt N) (hh := am_hh N) hpl rfl ?_
  intro p e s m args below meth c s₁ B hml hv
  obtain ⟨rfl, hsz, hP, hD0, hS0, hk0, hE0⟩ := hv
  subst hsz
  rw [lg_entry_eq]
  have hts := atoms_spec (ws := am_wsW N) B.pre
  have htab : c.exceptionTable.toList = tableOf (am_hh N) := vx_table (x := am_y N) B (hts _ List.mem_cons_self)
  have hC : am_K N D cA p l s m (vs.map (am_v ρ)).toArray meth c (va_A (am_w cA ρ n f) s.heap.size) :=
    ⟨B.exec, B.bytes, B.returns, hml, findClass_of_methodNamed B.named, fun w h => hts w (List.mem_cons_of_mem _ h), B.notSynchronized, htab, hl, (name_of_methodNamed B.named B.method).1, fun q h => Or.inr h, hS0⟩
  exact am_k k hC ⟨Nat.le_refl _, Nat.le_refl _, Nat.le_refl _, Nat.le_refl _⟩
    ⟨trivial, ⟨am_en_n hvs, am_en_L (by rw [am_sl_len]; exact hlen)⟩, hP, hD0.self, va_S.rf, ⟨Nat.le_refl _, hk0, fun _ _ => rfl, hE0⟩, fun _ _ => rfl, hf⟩ ⟨by omega, by omega⟩
theorem am_invSW (pc : Nat) {M N : am_M} {rc rs mc' ms' n idx k : Nat} {L : List (Option Value)} {as rest : List Value} {f : Nat → am_C} {P : am_P} (hd : decode (am_by M) pc = .ok (.invokestatic idx, 3)) (hG : am_GW N k) (hG2 : am_G2 M N) (hl : Cond.methodLink (am_y M).cls idx (am_y N) ∈ am_W) (hi : Cond.static (am_y N) ∈ am_W)
    (hk : as.length = k) (hr : (rest.map fun v => v.category).sum ≤ 8) (hlen : (lg_sl as).length ≤ am_mL N)
    (kk : AW N mc' ms' 0 (am_en (am_mL N) as) [] n f (am_ct M rc rs pc L rest P)) : AW M (mc' + rc) (ms' + rs) pc L (as.reverse ++ rest) n f P := by
  intro D cA p l e R s m args below meth c A n0 ρ0 mc ms hC hR H locs cells slots ρ ls hT hcs
  have hst := am_sn_app.mp hT.1
  have hT2 : am_T D cA A s n0 ρ0 (am_mL M) n f L rest H locs ρ ls := ⟨hst.2, hT.2⟩
  have hvs : am_sn n as := am_sn_rev.mp hst.1
  obtain ⟨g0, g1, g2, g3, g4⟩ := hG
  have hgood : GoodIn am_W (am_wsW N) := fun w hw => (List.mem_cons.mp hw).elim (fun e => by rw [e]; exact ⟨g1, am_good _ g1⟩) (fun h => ⟨h, am_good _ h⟩)
  have hts := hC.2.2.2.2.2.1
  refine am_goX (mc' := mc') (ms' := ms') (a := (as.map (am_v ρ)).toArray) (vx_runSX (As := as.map (am_v ρ)) (n := k) (nL := am_mL M) ⟨hC.1, hC.2.1, hC.2.2.2.1, hC.2.2.2.2.1, hC.2.2.2.2.2.1⟩ (am_metW g0 kk (ρ := ρ) (D := D) (cA := cA) hC.2.2.2.2.2.2.2.2.1 hvs hT.2.2.2.2.2.2.2 hlen H.size)
    ⟨⟨rfl, rfl, Nat.le_trans hG2.1 hR.1, Nat.le_trans hG2.2 hR.2.1, pay_in hts hgood, List.mem_cons_self⟩, hts _ g1, hts _ g2, g3, fun sig h => (by rw [h] at g4; exact (Option.some.inj g4).symm), hts _ hl, hts _ hi⟩ ⟨am_Pc_blind, am_pre (vs := as) hC hT⟩
    rfl (by rw [List.length_map]; exact hk) hT.2.1.2.1 (by rw [← List.map_reverse, List.map_append]) (am_room8 hr) hd ⟨by have := hR.2.2.1; omega, by have := hR.2.2.2; omega⟩) hC hR hT2 ⟨by omega, by omega⟩
def am_cSW (own : String) (ix : Nat) (N : am_M) (k : Nat) : Prop := am_GW N k ∧ Cond.methodLink own ix (am_y N) ∈ am_W ∧ Cond.static (am_y N) ∈ am_W
theorem am_SW2 (pc : Nat) {M N : am_M} {rc rs mc' ms' n ix : Nat} {x1 x2 : Value} {L : List (Option Value)} {st : List Value} {f : Nat → am_C} {P P' : am_P} (hd : decode (am_by M) pc = .ok (.invokestatic ix, 3)) (hc : am_cSW (am_y M).cls ix N 2) (hG2 : am_G2 M N) (hr : (st.map fun v => v.category).sum ≤ 8) (hlen : (lg_sl [x1, x2]).length ≤ am_mL N) (hs : AM N mc' ms' [x1, x2] n f P') (k : ∀ o n' f', P' o n' f' → am_ct M rc rs pc L st P o n' f') : AW M (mc' + rc) (ms' + rs) pc L (x2 :: x1 :: st) n f P := by
  obtain ⟨h1, h2, h3⟩ := hc
  exact am_invSW (as := [x1, x2]) pc hd h1 hG2 h2 h3 rfl hr hlen (AW.mono k hs)
theorem am_SW3 (pc : Nat) {M N : am_M} {rc rs mc' ms' n ix : Nat} {x1 x2 x3 : Value} {L : List (Option Value)} {st : List Value} {f : Nat → am_C} {P P' : am_P} (hd : decode (am_by M) pc = .ok (.invokestatic ix, 3)) (hc : am_cSW (am_y M).cls ix N 3) (hG2 : am_G2 M N) (hr : (st.map fun v => v.category).sum ≤ 8) (hlen : (lg_sl [x1, x2, x3]).length ≤ am_mL N) (hs : AM N mc' ms' [x1, x2, x3] n f P') (k : ∀ o n' f', P' o n' f' → am_ct M rc rs pc L st P o n' f') : AW M (mc' + rc) (ms' + rs) pc L (x3 :: x2 :: x1 :: st) n f P := by
  obtain ⟨h1, h2, h3⟩ := hc
  exact am_invSW (as := [x1, x2, x3]) pc hd h1 hG2 h2 h3 rfl hr hlen (AW.mono k hs)
theorem am_SW4 (pc : Nat) {M N : am_M} {rc rs mc' ms' n ix : Nat} {x1 x2 x3 x4 : Value} {L : List (Option Value)} {st : List Value} {f : Nat → am_C} {P P' : am_P} (hd : decode (am_by M) pc = .ok (.invokestatic ix, 3)) (hc : am_cSW (am_y M).cls ix N 4) (hG2 : am_G2 M N) (hr : (st.map fun v => v.category).sum ≤ 8) (hlen : (lg_sl [x1, x2, x3, x4]).length ≤ am_mL N) (hs : AM N mc' ms' [x1, x2, x3, x4] n f P') (k : ∀ o n' f', P' o n' f' → am_ct M rc rs pc L st P o n' f') : AW M (mc' + rc) (ms' + rs) pc L (x4 :: x3 :: x2 :: x1 :: st) n f P := by
  obtain ⟨h1, h2, h3⟩ := hc
  exact am_invSW (as := [x1, x2, x3, x4]) pc hd h1 hG2 h2 h3 rfl hr hlen (AW.mono k hs)
theorem am_SW5 (pc : Nat) {M N : am_M} {rc rs mc' ms' n ix : Nat} {x1 x2 x3 x4 x5 : Value} {L : List (Option Value)} {st : List Value} {f : Nat → am_C} {P P' : am_P} (hd : decode (am_by M) pc = .ok (.invokestatic ix, 3)) (hc : am_cSW (am_y M).cls ix N 5) (hG2 : am_G2 M N) (hr : (st.map fun v => v.category).sum ≤ 8) (hlen : (lg_sl [x1, x2, x3, x4, x5]).length ≤ am_mL N) (hs : AM N mc' ms' [x1, x2, x3, x4, x5] n f P') (k : ∀ o n' f', P' o n' f' → am_ct M rc rs pc L st P o n' f') : AW M (mc' + rc) (ms' + rs) pc L (x5 :: x4 :: x3 :: x2 :: x1 :: st) n f P := by
  obtain ⟨h1, h2, h3⟩ := hc
  exact am_invSW (as := [x1, x2, x3, x4, x5]) pc hd h1 hG2 h2 h3 rfl hr hlen (AW.mono k hs)
theorem am_SW6 (pc : Nat) {M N : am_M} {rc rs mc' ms' n ix : Nat} {x1 x2 x3 x4 x5 x6 : Value} {L : List (Option Value)} {st : List Value} {f : Nat → am_C} {P P' : am_P} (hd : decode (am_by M) pc = .ok (.invokestatic ix, 3)) (hc : am_cSW (am_y M).cls ix N 6) (hG2 : am_G2 M N) (hr : (st.map fun v => v.category).sum ≤ 8) (hlen : (lg_sl [x1, x2, x3, x4, x5, x6]).length ≤ am_mL N) (hs : AM N mc' ms' [x1, x2, x3, x4, x5, x6] n f P') (k : ∀ o n' f', P' o n' f' → am_ct M rc rs pc L st P o n' f') : AW M (mc' + rc) (ms' + rs) pc L (x6 :: x5 :: x4 :: x3 :: x2 :: x1 :: st) n f P := by
  obtain ⟨h1, h2, h3⟩ := hc
  exact am_invSW (as := [x1, x2, x3, x4, x5, x6]) pc hd h1 hG2 h2 h3 rfl hr hlen (AW.mono k hs)
theorem am_I2 (pc : Nat) {M N : am_M} {rc rs mc' ms' n ix b : Nat} {x1 x2 : Value} {L : List (Option Value)} {st : List Value} {f : Nat → am_C} {P P' : am_P} (hd : decode (am_by M) pc = .ok (.invokespecial ix, 3)) (hc : am_cI (am_y M).cls ix N 2) (hG2 : am_G2 M N) (hr : (st.map fun v => v.category).sum ≤ 8) (hlen : (lg_sl [.ref b, x1, x2]).length ≤ am_mL N) (hs : AM N mc' ms' [.ref b, x1, x2] n f P') (k : ∀ o n' f', P' o n' f' → ∃ v, o = .inl v ∧ AW M rc rs (pc + 3) L (v.toList ++ st) n' f' P) : AW M (mc' + rc) (ms' + rs) pc L (x2 :: x1 :: .ref b :: st) n f P := by
  obtain ⟨h1, h2, h3, h4, h5⟩ := hc
  refine am_invI (as := [x1, x2]) pc hd h1 hG2 h4 h5 h2 h3 rfl hr hlen (AW.mono (fun o n' f' hp => ?_) hs)
  obtain ⟨v, rfl, h⟩ := k o n' f' hp
  exact h
theorem am_I3 (pc : Nat) {M N : am_M} {rc rs mc' ms' n ix b : Nat} {x1 x2 x3 : Value} {L : List (Option Value)} {st : List Value} {f : Nat → am_C} {P P' : am_P} (hd : decode (am_by M) pc = .ok (.invokespecial ix, 3)) (hc : am_cI (am_y M).cls ix N 3) (hG2 : am_G2 M N) (hr : (st.map fun v => v.category).sum ≤ 8) (hlen : (lg_sl [.ref b, x1, x2, x3]).length ≤ am_mL N) (hs : AM N mc' ms' [.ref b, x1, x2, x3] n f P') (k : ∀ o n' f', P' o n' f' → ∃ v, o = .inl v ∧ AW M rc rs (pc + 3) L (v.toList ++ st) n' f' P) : AW M (mc' + rc) (ms' + rs) pc L (x3 :: x2 :: x1 :: .ref b :: st) n f P := by
  obtain ⟨h1, h2, h3, h4, h5⟩ := hc
  refine am_invI (as := [x1, x2, x3]) pc hd h1 hG2 h4 h5 h2 h3 rfl hr hlen (AW.mono (fun o n' f' hp => ?_) hs)
  obtain ⟨v, rfl, h⟩ := k o n' f' hp
  exact h
theorem am_I4 (pc : Nat) {M N : am_M} {rc rs mc' ms' n ix b : Nat} {x1 x2 x3 x4 : Value} {L : List (Option Value)} {st : List Value} {f : Nat → am_C} {P P' : am_P} (hd : decode (am_by M) pc = .ok (.invokespecial ix, 3)) (hc : am_cI (am_y M).cls ix N 4) (hG2 : am_G2 M N) (hr : (st.map fun v => v.category).sum ≤ 8) (hlen : (lg_sl [.ref b, x1, x2, x3, x4]).length ≤ am_mL N) (hs : AM N mc' ms' [.ref b, x1, x2, x3, x4] n f P') (k : ∀ o n' f', P' o n' f' → ∃ v, o = .inl v ∧ AW M rc rs (pc + 3) L (v.toList ++ st) n' f' P) : AW M (mc' + rc) (ms' + rs) pc L (x4 :: x3 :: x2 :: x1 :: .ref b :: st) n f P := by
  obtain ⟨h1, h2, h3, h4, h5⟩ := hc
  refine am_invI (as := [x1, x2, x3, x4]) pc hd h1 hG2 h4 h5 h2 h3 rfl hr hlen (AW.mono (fun o n' f' hp => ?_) hs)
  obtain ⟨v, rfl, h⟩ := k o n' f' hp
  exact h
