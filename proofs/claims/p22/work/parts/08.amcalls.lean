/-! ===== calls ===== -/
abbrev am_ws (N : am_M) : List Cond := Cond.code (am_y N) (am_by N) (am_mL N) (am_rt N) :: am_W
/-- what the tables say of a method that is called: how many parameters, its code is a word, it has no handlers -/
def am_G (N : am_M) (k : Nat) : Prop := am_hh N = [] ∧ plainName (am_y N).cls = true ∧ Cond.code (am_y N) (am_by N) (am_mL N) (am_rt N) ∈ am_W ∧ Cond.initialized (am_y N).cls ∈ am_W ∧ ((am_y N).cls ≠ "java/lang/invoke/MethodHandle" ∧ (am_y N).cls ≠ "java/lang/invoke/VarHandle") ∧ (parseMethodDescriptor (am_y N).desc).map (fun d => d.parameters.length) = some k
/-- the room that it needs -/
def am_G2 (M N : am_M) : Prop := am_fr N + 1 ≤ am_fr M ∧ 8 + (am_mL N + 11) + am_lo N ≤ am_lo M
def am_Pc (D : va_G) (cA : Nat → ClassId) (ρ : Nat → Nat) (n : Nat) (f : Nat → am_C) (sz : Nat) (vs : List Value) : Array Value → State → Prop := va_Pc vs (fun U => U.heap.size = sz ∧ va_P D vwCl (am_w cA ρ n f) U.heap ∧ va_D (fun _ => True) (am_w cA ρ n f) ∧ (am_S D cA (va_A (am_w cA ρ n f) sz) U ∧ am_k0 ≤ n ∧ am_Ex (va_A (am_w cA ρ n f) sz) U ρ f))
abbrev am_rm (N : am_M) (mc ms : Nat) : Room := { frames := am_fr N, cells := mc, slots := ms, locals := am_lo N }
theorem am_Pc_blind {D : va_G} {cA : Nat → ClassId} {ρ : Nat → Nat} {n : Nat} {f : Nat → am_C} {sz : Nat} {vs : List Value} : FrameBlind (am_Pc D cA ρ n f sz vs) := fun a U g mk q => ⟨q.1, q.2.1, q.2.2.1, q.2.2.2.1, am_S_blind q.2.2.2.2.1, q.2.2.2.2.2.1, am_Ex_blind q.2.2.2.2.2.2⟩
theorem am_body {N : am_M} {mc' ms' n : Nat} {vs : List Value} {f : Nat → am_C} {P : am_P} (hhh : am_hh N = []) (k : AW N mc' ms' 0 (am_en (am_mL N) vs) [] n f P) {D : va_G} {cA : Nat → ClassId} {ρ : Nat → Nat} {l : Launch} (hl : l.stackTraces = false) (hvs : am_sn n vs) (hf : ∀ i, i < n → am_cn n (f i)) (hlen : (lg_sl vs).length ≤ am_mL N) {sz : Nat}
    {p : Program} {e : Env} {s : State} {m : MethodId} {args : Array Value} {below : List Frame} {meth : Method} {c : Code} {s₁ : State} (B : BodyLoose p l (am_y N) (headSpec (am_ws N) (am_rm N mc' ms')) (am_by N) (am_mL N) (am_rt N) e s m args below meth c s₁) (hml : c.maxLocals = am_mL N) (ht : ∀ x ∈ c.exceptionTable.toList, False) (hv : am_Pc D cA ρ n f sz (vs.map (am_v ρ)) args s) :
    W p l e (headSpec (am_ws N) (am_rm N mc' ms')).room s m args below meth c s.heap [] 0 0 (vx_MQ below (am_Q D cA (va_A (am_w cA ρ n f) sz) (n, f) ρ P) (am_X D cA (va_A (am_w cA ρ n f) sz) (n, f) ρ P) args s mc' ms' (va_A (am_w cA ρ n f) sz)) (entryFrame m args (am_mL N)) := by
  obtain ⟨rfl, hsz, hP, hD0, hS0, hk0, hE0⟩ := hv
  subst hsz
  rw [lg_entry_eq]
  have hts := atoms_spec (ws := am_ws N) B.pre
  have htab : c.exceptionTable.toList = tableOf (am_hh N) := by
    rw [hhh]
    exact List.eq_nil_iff_forall_not_mem.mpr (fun x hx => ht x hx)
  have hC : am_K N D cA p l s m (vs.map (am_v ρ)).toArray meth c (va_A (am_w cA ρ n f) s.heap.size) :=
    ⟨B.exec, B.bytes, B.returns, hml, findClass_of_methodNamed B.named, fun w h => hts w (List.mem_cons_of_mem _ h), B.notSynchronized, htab, hl, (name_of_methodNamed B.named B.method).1, fun q h => Or.inr h, hS0⟩
  exact am_k k hC ⟨Nat.le_refl _, Nat.le_refl _, Nat.le_refl _, Nat.le_refl _⟩
    ⟨trivial, ⟨am_en_n hvs, am_en_L (by rw [am_sl_len]; exact hlen)⟩, hP, hD0.self, va_S.rf, ⟨Nat.le_refl _, hk0, fun _ _ => rfl, hE0⟩, fun _ _ => rfl, hf⟩ ⟨by omega, by omega⟩
theorem am_met {N : am_M} {mc' ms' n : Nat} {vs : List Value} {f : Nat → am_C} {P : am_P} (hhh : am_hh N = []) (hpl : plainName (am_y N).cls = true) (k : AW N mc' ms' 0 (am_en (am_mL N) vs) [] n f P) {D : va_G} {cA : Nat → ClassId} {ρ : Nat → Nat} {l : Launch} (hl : l.stackTraces = false) (hvs : am_sn n vs) (hf : ∀ i, i < n → am_cn n (f i)) (hlen : (lg_sl vs).length ≤ am_mL N) (sz : Nat) :
    vx_Met l (am_y N) (am_ws N) (am_rm N mc' ms') (am_Pc D cA ρ n f sz (vs.map (am_v ρ))) (am_Q D cA (va_A (am_w cA ρ n f) sz) (n, f) ρ P) (am_X D cA (va_A (am_w cA ρ n f) sz) (n, f) ρ P) mc' ms' (va_A (am_w cA ρ n f) sz) :=
  vx_ofW (cc := am_by N) (maxL := am_mL N) (ret := am_rt N) hpl rfl fun _ _ _ _ _ _ _ _ _ B hml ht hv => am_body hhh k hl hvs hf hlen B hml ht hv
/-- the same for a method that doesn't throw -/
theorem am_metN {N : am_M} {mc' ms' n : Nat} {vs : List Value} {f : Nat → am_C} {P : am_P} (hhh : am_hh N = []) (hpl : plainName (am_y N).cls = true) (hno : ∀ E n' f', ¬ P (.inr E) n' f') (k : AW N mc' ms' 0 (am_en (am_mL N) vs) [] n f P) {D : va_G} {cA : Nat → ClassId} {ρ : Nat → Nat} {l : Launch} (hl : l.stackTraces = false) (hvs : am_sn n vs) (hf : ∀ i, i < n → am_cn n (f i)) (hlen : (lg_sl vs).length ≤ am_mL N) (sz : Nat) :
    Met l (am_y N) (am_ws N) (am_rm N mc' ms') (am_Pc D cA ρ n f sz (vs.map (am_v ρ))) (am_Q D cA (va_A (am_w cA ρ n f) sz) (n, f) ρ P) mc' ms' (va_A (am_w cA ρ n f) sz) := by
  have h := am_met hhh hpl k (D := D) (cA := cA) (ρ := ρ) hl hvs hf hlen sz
  intro p e ha hc hk s m args below hfr happ hP hKK
  obtain ⟨x, o, h1, h2, h3, h4⟩ := h p e ha hc hk s m args below hfr happ hP hKK
  refine ⟨x, o, h1, h2, h3, ?_⟩
  rcases h4 with h4 | ⟨q, -, E, ce, LL, ⟨⟨kk, n', f', ρ', -, hx, -⟩, -⟩, -⟩
  · exact h4
  · exact absurd hx (hno _ _ _)
theorem am_room8 {m : MethodId} {pc : Nat} {ls : Array Slot} {st rest : List Value} {ρ : Nat → Nat} (h : (rest.map fun v => v.category).sum ≤ 8) : 2 * (F0 m pc ls st).monitorRoom + ((rest.map (am_v ρ)).map fun v => v.category).sum ≤ 8 := by
  have e : (rest.map (am_v ρ)).map (fun v => v.category) = rest.map fun v => v.category := by
    rw [List.map_map]
    exact List.map_congr_left fun v _ => am_cat ρ v
  rw [e]
  exact lv_room h
/-- behind a call -/
def am_ct (M : am_M) (rc rs pc : Nat) (L : List (Option Value)) (rest : List Value) (P : am_P) : am_P := fun o n f => match o with
  | .inl v => AW M rc rs (pc + 3) L (v.toList ++ rest) n f P
  | .inr E => AX M rc rs pc L rest E n f P
section AMGO
variable {M : am_M} {rc rs mc' ms' pc n : Nat} {L : List (Option Value)} {rest : List Value} {f : Nat → am_C} {P : am_P} {D : va_G} {cA : Nat → ClassId} {p : Program} {l : Launch} {e : Env} {R : Room} {s : State} {m : MethodId} {args : Array Value} {below : List Frame} {meth : Method} {c : Code} {A : Nat → Prop} {n0 : am_n} {ρ0 : Nat → Nat} {mc ms : Nat} {H : Heap} {locs : List Loc} {cells slots : Nat} {ρ : Nat → Nat} {ls : Array Slot} {st0 : List Value} {a : Array Value}
theorem am_sub {A' : Nat → Prop} (hA' : A' = va_A (am_w cA ρ n f) H.size) (hC : am_K M D cA p l s m args meth c A) (hU : am_U D cA A s n0 ρ0 n f H locs ρ) : ∀ q, A' q → A q := by
  subst hA'
  rintro q (⟨k, x, h⟩ | h)
  · exact hU.2.1.2 k (q, x) h
  · exact hC.2.2.2.2.2.2.2.2.2.2.1 q (Nat.le_trans hU.2.2.1.1 h)
/-- the state behind a call -/
theorem am_back {n' : Nat} {f' : Nat → am_C} {ρ' : Nat → Nat} {H1 : Heap} {locs1 : List Loc} {t : State} (hC : am_K M D cA p l s m args meth c A) (hT : am_T D cA A s n0 ρ0 (am_mL M) n f L rest H locs ρ ls) (ht : t.heap = H1) (hR : am_R D cA (va_A (am_w cA ρ n f) H.size) (n, f) ρ n' f' ρ' t) (hS : va_S A s.heap H1 locs1) :
    am_T D cA A s n0 ρ0 (am_mL M) n' f' L rest H1 locs1 ρ' ls ∧ rest.map (am_v ρ') = rest.map (am_v ρ) := by
  obtain ⟨r1, r2, r3, r4, r5⟩ := hR
  subst ht
  have hin := am_sub (H := H) rfl hC hT.2.2
  refine ⟨⟨am_sn_mono r3.1 hT.1, ⟨am_ln_mono r3.1 hT.2.1.1, am_L_congr r4 hT.2.1.1 hT.2.1.2⟩, r1, r2.weaken (fun k q _ h => hin q.1 h), hS, ⟨Nat.le_trans hT.2.2.2.2.2.1.1 r3.1, hT.2.2.2.2.2.1.2.1, fun i hi => (r3.2 i hi).trans (hT.2.2.2.2.2.1.2.2.1 i hi), hT.2.2.2.2.2.1.2.2.2⟩, fun i hi => ?_, r5⟩, am_s_congr r4 hT.1⟩
  rw [r4 i (Nat.lt_of_lt_of_le hi hT.2.2.2.2.2.1.1), hT.2.2.2.2.2.2.1 i hi]
theorem am_goX (hr : vx_Run p l e R s m args below meth c H locs cells slots mc' ms' (F0 m pc ls st0) (rest.map (am_v ρ)) (am_Q D cA (va_A (am_w cA ρ n f) H.size) (n, f) ρ (am_ct M rc rs pc L rest P) a) (am_X D cA (va_A (am_w cA ρ n f) H.size) (n, f) ρ (am_ct M rc rs pc L rest P)) (va_A (am_w cA ρ n f) H.size))
    (hC : am_K M D cA p l s m args meth c A) (hR : am_room M R mc ms) (hT : am_T D cA A s n0 ρ0 (am_mL M) n f L rest H locs ρ ls) (hcs : cells + mc' + rc ≤ mc ∧ slots + ms' + rs ≤ ms) :
    W p l e R s m args below meth c H locs cells slots (vx_MQ below (am_Q D cA A n0 ρ0 P) (am_X D cA A n0 ρ0 P) args s mc ms A) (F0 m pc ls st0) := by
  intro T hTT X
  have hin := am_sub (H := H) rfl hC hT.2.2
  rcases hr T hTT X with ⟨v, st₀, t, T', LL, h0, X', hL, e1, e2, ⟨⟨v', n', f', ρ', hv, hk, hvn, hRR⟩, hF⟩, st⟩ | ⟨q, st₀, t, T', LL, E, ce, h0, X', hL, e1, e2, ⟨⟨kk, n', f', ρ', hE, hk, hRR⟩, hF⟩, hce, hcv, hcl, st⟩
  · obtain ⟨k1, k2, k3⟩ := vx_keep h0 e1 hT.2.2.2.2.1 (fun q _ h => hin q h) hin hL hF
    obtain ⟨b1, b2⟩ := am_back hC hT e1.symm hRR k3
    have e9 : v.toList ++ rest.map (am_v ρ) = (v'.toList ++ rest).map (am_v ρ') := by
      rw [List.map_append, b2]
      have hv9 : v = v'.map (am_v ρ') := by
        have := hv
        injection this
      rw [hv9]
      cases v' <;> rfl
    have hk' : AW M rc rs (pc + 3) L (v'.toList ++ rest) n' f' P := hk
    have hsn : am_sn n' (v'.toList ++ rest) := by
      cases v' with
      | none => exact b1.1
      | some w => exact ⟨hvn.1, b1.1⟩
    obtain ⟨t2, a1, b3⟩ := am_k hk' hC hR ⟨hsn, b1.2⟩ hcs T' rfl X'
    refine ⟨t2, st t2 ?_, b3⟩
    have e8 : ({ (F0 m pc ls st0) with pc := (F0 m pc ls st0).pc + 3, stack := v.toList ++ rest.map (am_v ρ) } : JFrame) = F0 m (pc + 3) ls ((v'.toList ++ rest).map (am_v ρ')) := by rw [e9]
    rw [e8]
    exact a1
  · obtain ⟨k1, k2, k3⟩ := vx_keep h0 e1 hT.2.2.2.2.1 (fun q _ h => hin q h) hin hL hF
    obtain ⟨b1, b2⟩ := am_back hC hT e1.symm hRR k3
    have hk' : AX M rc rs pc L rest kk n' f' P := hk
    obtain ⟨t2, a1, b3⟩ := hk' D cA p l e R s m args below meth c A n0 ρ0 mc ms hC hR T'.heap (locs ++ LL) (cells + mc') (slots + ms') ρ' ls q ce b1 hcs (by rw [e1]; exact hce) hcv (by rw [hE]; exact hcl) T' rfl X'
    refine ⟨t2, st.trans ?_, b3⟩
    have e8 : ({ (F0 m pc ls st0) with stack := rest.map (am_v ρ) } : JFrame) = F0 m pc ls (rest.map (am_v ρ')) := by rw [b2]
    rw [e8]
    exact a1
theorem am_goN (hr : va_Run p l e R s m args below meth c H locs cells slots mc' ms' (F0 m pc ls st0) (rest.map (am_v ρ)) (am_Q D cA (va_A (am_w cA ρ n f) H.size) (n, f) ρ (am_ct M rc rs pc L rest P) a) (va_A (am_w cA ρ n f) H.size))
    (hC : am_K M D cA p l s m args meth c A) (hR : am_room M R mc ms) (hT : am_T D cA A s n0 ρ0 (am_mL M) n f L rest H locs ρ ls) (hcs : cells + mc' + rc ≤ mc ∧ slots + ms' + rs ≤ ms) :
    W p l e R s m args below meth c H locs cells slots (vx_MQ below (am_Q D cA A n0 ρ0 P) (am_X D cA A n0 ρ0 P) args s mc ms A) (F0 m pc ls st0) := by
  refine am_goX (a := a) ?_ hC hR hT hcs
  intro T hTT X
  obtain ⟨v, st₀, t, T', LL, h0, X', hL, e1, e2, hq, st⟩ := hr T hTT X
  exact Or.inl ⟨v, st₀, t, T', LL, h0, X', hL, e1, e2, hq, st⟩
end AMGO
/-- the callee's start is met -/
theorem am_pre {M : am_M} {n : Nat} {L : List (Option Value)} {st vs : List Value} {f : Nat → am_C} {D : va_G} {cA : Nat → ClassId} {p : Program} {l : Launch} {s : State} {m : MethodId} {args : Array Value} {meth : Method} {c : Code} {A : Nat → Prop} {n0 : am_n} {ρ0 : Nat → Nat} {H : Heap} {locs : List Loc} {ρ : Nat → Nat} {ls : Array Slot}
    (hC : am_K M D cA p l s m args meth c A) (hT : am_T D cA A s n0 ρ0 (am_mL M) n f L st H locs ρ ls) : ∀ U : State, U.heap = H → s.WarmedH U.vm → am_Pc D cA ρ n f H.size (vs.map (am_v ρ)) (vs.map (am_v ρ)).toArray U := by
  intro U hU hW
  subst hU
  exact ⟨rfl, rfl, hT.2.2.1, hT.2.2.2.1.weaken (fun _ _ _ _ => trivial), am_S_at hC.2.2.2.2.2.2.2.2.2.2.2 hT.2.2.2.2.1 hW (am_sub (H := U.heap) rfl hC hT.2.2), Nat.le_trans hT.2.2.2.2.2.1.2.1 hT.2.2.2.2.2.1.1, am_Ex_at hT.2.2.2.2.2.1.2.2.2 hT.2.2.2.2.1 hW (am_sub (H := U.heap) rfl hC hT.2.2) (fun i hi => hT.2.2.2.2.2.2.1 i (Nat.lt_of_lt_of_le hi hT.2.2.2.2.2.1.2.1)) (fun i hi => hT.2.2.2.2.2.1.2.2.1 i hi)⟩
theorem am_calB {M N : am_M} {k mc' ms' : Nat} {R : Room} {s : State} {args : Array Value} {own : String} {idx : Nat} {rs mc ms : Nat} (hG : am_G N k) (hG2 : am_G2 M N) (hR : am_fr M ≤ R.frames ∧ am_lo M ≤ R.locals) (hts : ∀ w ∈ am_W, w.before args s = true) (hl : Cond.methodLink own idx (am_y N) ∈ am_W) :
    CallB R s args own idx (am_y N) (am_by N) (am_mL N) (am_rt N) (am_ws N) (am_rm N mc' ms') mc' ms' k := by
  obtain ⟨-, -, g1, g2, g3, g4⟩ := hG
  have hgood : GoodIn am_W (am_ws N) := fun w hw => (List.mem_cons.mp hw).elim (fun e => by rw [e]; exact ⟨g1, am_good _ g1⟩) (fun h => ⟨h, am_good _ h⟩)
  refine ⟨rfl, rfl, Nat.le_trans hG2.1 hR.1, Nat.le_trans hG2.2 hR.2, pay_in hts hgood, List.mem_cons_self, hts _ g1, hts _ g2, g3, fun sig h => ?_, hts _ hl⟩
  rw [h] at g4
  exact (Option.some.inj g4).symm
theorem am_calN {M N : am_M} {k mc' ms' : Nat} {R : Room} {s : State} {args : Array Value} {own host : String} {idx : Nat} (hG : am_G N k) (hG2 : am_G2 M N) (hR : am_fr M ≤ R.frames ∧ am_lo M ≤ R.locals) (hts : ∀ w ∈ am_W, w.before args s = true) (hl : va_Nw (.methodLinkNest own idx (am_y N) host) s) :
    va_CN R s args own idx (am_y N) host (am_by N) (am_mL N) (am_rt N) (am_ws N) (am_rm N mc' ms') mc' ms' k := by
  obtain ⟨-, -, g1, g2, g3, g4⟩ := hG
  have hgood : GoodIn am_W (am_ws N) := fun w hw => (List.mem_cons.mp hw).elim (fun e => by rw [e]; exact ⟨g1, am_good _ g1⟩) (fun h => ⟨h, am_good _ h⟩)
  refine ⟨⟨rfl, rfl, Nat.le_trans hG2.1 hR.1, Nat.le_trans hG2.2 hR.2, pay_in hts hgood, List.mem_cons_self⟩, hts _ g1, hts _ g2, g3, fun sig h => ?_, va_Nw.use rfl hl⟩
  rw [h] at g4
  exact (Option.some.inj g4).symm
theorem am_sn_app {n : Nat} : ∀ {a b : List Value}, am_sn n (a ++ b) ↔ am_sn n a ∧ am_sn n b
  | [], b => ⟨fun h => ⟨trivial, h⟩, fun h => h.2⟩
  | x :: a, b => by
    simp only [List.cons_append, am_sn, am_sn_app (a := a) (b := b), and_assoc]
theorem am_sn_rev {n : Nat} : ∀ {a : List Value}, am_sn n a.reverse ↔ am_sn n a
  | [] => Iff.rfl
  | x :: a => by
    rw [List.reverse_cons, am_sn_app, am_sn_rev (a := a)]
    simp only [am_sn, and_true]
    exact And.comm
theorem am_recv {n b ci : Nat} {fs : List Value} {f : Nat → am_C} {D : va_G} {cA : Nat → ClassId} {s : State} {H : Heap} {ρ : Nat → Nat} {q : vw_C} {tys : List (ClassId × FieldType)} (hK : va_K D vwCl tys s) (hP : va_P D vwCl (am_w cA ρ n f) H) (hb : f b = .inr (ci, fs)) (hn : b < n) (h0 : am_k0 ≤ b) (hc : vwCl[ci]? = some q) : ∃ cell : Cell, H[ρ b]? = some cell ∧ cell.vm.isStatics = false ∧ s.vm.findClass q.1 = some cell.cls :=
  va_recv hK hP hc (q0 := b - am_k0) (a := ρ b) (ci := ci) (fs := fs.map (am_v ρ)) (by rw [am_w_at hn h0, hb]; rfl)
/-- invokevirtual -/
theorem am_invV (pc : Nat) {M N : am_M} {rc rs mc' ms' n idx k b ci : Nat} {L : List (Option Value)} {as rest fs : List Value} {f : Nat → am_C} {P : am_P} {q : vw_C} (hd : decode (am_by M) pc = .ok (.invokevirtual idx, 3)) (hG : am_G N k) (hG2 : am_G2 M N) (hl : Cond.methodLink (am_y M).cls idx (am_y N) ∈ am_W) (hi : Cond.instanceMethod (am_y N) ∈ am_W) (hse : Cond.selects (am_y N).cls (am_y N) (am_y N) ∈ am_W)
    (hb : f b = .inr (ci, fs)) (hq : vwCl[ci]? = some q) (hqn : q.1 = (am_y N).cls) (hk : as.length = k) (hr : (rest.map fun v => v.category).sum ≤ 8) (hlen : (lg_sl (.ref b :: as)).length ≤ am_mL N)
    (kk : AW N mc' ms' 0 (am_en (am_mL N) (.ref b :: as)) [] n f (am_ct M rc rs pc L rest P)) : AW M (mc' + rc) (ms' + rs) pc L (as.reverse ++ .ref b :: rest) n f P := by
  intro D cA p l e R s m args below meth c A n0 ρ0 mc ms hC hR H locs cells slots ρ ls hT hcs
  have hst := am_sn_app.mp hT.1
  have hbn : b < n := hst.2.1
  have hT2 : am_T D cA A s n0 ρ0 (am_mL M) n f L rest H locs ρ ls := ⟨hst.2.2, hT.2⟩
  have hvs : am_sn n (.ref b :: as) := ⟨hbn, am_sn_rev.mp hst.1⟩
  obtain ⟨cell, c1, c2, c3⟩ := am_recv hC.2.2.2.2.2.2.2.2.2.2.2.1 hT.2.2.1 hb hbn (am_ownO hT.2.2.2.2.2.1 hb) hq
  rw [hqn] at c3
  refine am_goX (mc' := mc') (ms' := ms') (a := (Value.ref (ρ b) :: as.map (am_v ρ)).toArray) (vx_runV (As := as.map (am_v ρ)) (b := ρ b) (n := k) (nL := am_mL M) ⟨hC.1, hC.2.1, hC.2.2.2.1, hC.2.2.2.2.1, hC.2.2.2.2.2.1⟩ (am_met hG.1 hG.2.1 kk (ρ := ρ) (D := D) (cA := cA) hC.2.2.2.2.2.2.2.2.1 hvs hT.2.2.2.2.2.2.2 hlen H.size)
    ⟨am_calB (mc' := mc') (ms' := ms') (rs := 0) (mc := 0) (ms := 0) hG hG2 ⟨hR.1, hR.2.1⟩ hC.2.2.2.2.2.1 hl, hC.2.2.2.2.2.1 _ hi, hC.2.2.2.2.2.1 _ hse⟩ ⟨am_Pc_blind, ⟨cell, c1, c2, c3⟩, am_pre (vs := .ref b :: as) hC hT⟩
    rfl (by rw [List.length_map]; exact hk) hT.2.1.2.1 (by rw [← List.map_reverse, List.map_append]; rfl) (am_room8 hr) hd ⟨by have := hR.2.2.1; omega, by have := hR.2.2.2; omega⟩) hC hR hT2 ⟨by omega, by omega⟩
/-- invokestatic -/
theorem am_invS (pc : Nat) {M N : am_M} {rc rs mc' ms' n idx k : Nat} {L : List (Option Value)} {as rest : List Value} {f : Nat → am_C} {P : am_P} (hd : decode (am_by M) pc = .ok (.invokestatic idx, 3)) (hG : am_G N k) (hG2 : am_G2 M N) (hl : Cond.methodLink (am_y M).cls idx (am_y N) ∈ am_W) (hi : Cond.static (am_y N) ∈ am_W)
    (hk : as.length = k) (hr : (rest.map fun v => v.category).sum ≤ 8) (hlen : (lg_sl as).length ≤ am_mL N)
    (kk : AW N mc' ms' 0 (am_en (am_mL N) as) [] n f (am_ct M rc rs pc L rest P)) : AW M (mc' + rc) (ms' + rs) pc L (as.reverse ++ rest) n f P := by
  intro D cA p l e R s m args below meth c A n0 ρ0 mc ms hC hR H locs cells slots ρ ls hT hcs
  have hst := am_sn_app.mp hT.1
  have hT2 : am_T D cA A s n0 ρ0 (am_mL M) n f L rest H locs ρ ls := ⟨hst.2, hT.2⟩
  have hvs : am_sn n as := am_sn_rev.mp hst.1
  refine am_goX (mc' := mc') (ms' := ms') (a := (as.map (am_v ρ)).toArray) (vx_runS (As := as.map (am_v ρ)) (n := k) (nL := am_mL M) ⟨hC.1, hC.2.1, hC.2.2.2.1, hC.2.2.2.2.1, hC.2.2.2.2.2.1⟩ (am_met hG.1 hG.2.1 kk (ρ := ρ) (D := D) (cA := cA) hC.2.2.2.2.2.2.2.2.1 hvs hT.2.2.2.2.2.2.2 hlen H.size)
    ⟨am_calB (mc' := mc') (ms' := ms') (rs := 0) (mc := 0) (ms := 0) hG hG2 ⟨hR.1, hR.2.1⟩ hC.2.2.2.2.2.1 hl, hC.2.2.2.2.2.1 _ hi⟩ ⟨am_Pc_blind, am_pre (vs := as) hC hT⟩
    rfl (by rw [List.length_map]; exact hk) hT.2.1.2.1 (by rw [← List.map_reverse, List.map_append]) (am_room8 hr) hd ⟨by have := hR.2.2.1; omega, by have := hR.2.2.2; omega⟩) hC hR hT2 ⟨by omega, by omega⟩
/-- invokespecial of a constructor -/
theorem am_invI (pc : Nat) {M N : am_M} {rc rs mc' ms' n idx k b : Nat} {L : List (Option Value)} {as rest : List Value} {f : Nat → am_C} {P : am_P} (hd : decode (am_by M) pc = .ok (.invokespecial idx, 3)) (hG : am_G N k) (hG2 : am_G2 M N) (hv : am_rt N = none) (hy : (am_y N).name = "<init>") (hl : Cond.methodLink (am_y M).cls idx (am_y N) ∈ am_W) (hi : Cond.instanceMethod (am_y N) ∈ am_W)
    (hk : as.length = k) (hr : (rest.map fun v => v.category).sum ≤ 8) (hlen : (lg_sl (.ref b :: as)).length ≤ am_mL N)
    (kk : AW N mc' ms' 0 (am_en (am_mL N) (.ref b :: as)) [] n f (fun o n' f' => match o with | .inl v => AW M rc rs (pc + 3) L (v.toList ++ rest) n' f' P | .inr _ => False)) : AW M (mc' + rc) (ms' + rs) pc L (as.reverse ++ .ref b :: rest) n f P := by
  intro D cA p l e R s m args below meth c A n0 ρ0 mc ms hC hR H locs cells slots ρ ls hT hcs
  have hst := am_sn_app.mp hT.1
  have hT2 : am_T D cA A s n0 ρ0 (am_mL M) n f L rest H locs ρ ls := ⟨hst.2.2, hT.2⟩
  have hvs : am_sn n (.ref b :: as) := ⟨hst.2.1, am_sn_rev.mp hst.1⟩
  have hB := am_calB (mc' := mc') (ms' := ms') (rs := 0) (mc := 0) (ms := 0) hG hG2 ⟨hR.1, hR.2.1⟩ hC.2.2.2.2.2.1 hl
  have hM := am_metN hG.1 hG.2.1 (fun _ _ _ h => h) kk (ρ := ρ) (D := D) (cA := cA) hC.2.2.2.2.2.2.2.2.1 hvs hT.2.2.2.2.2.2.2 hlen H.size
  rw [hv] at hB
  have hM2 : Met l (am_y N) (am_ws N) (am_rm N mc' ms') (am_Pc D cA ρ n f H.size ((Value.ref b :: as).map (am_v ρ))) (am_Q D cA (va_A (am_w cA ρ n f) H.size) (n, f) ρ (am_ct M rc rs pc L rest P)) mc' ms' (va_A (am_w cA ρ n f) H.size) := by
    intro p e ha hc hk s m args below hfr happ hP hKK
    obtain ⟨x, o, h1, h2, h3, ⟨⟨v, n', f', ρ', h4, h5, h6⟩, h7⟩, h8⟩ := hM p e ha hc hk s m args below hfr happ hP hKK
    exact ⟨x, o, h1, h2, h3, ⟨⟨v, n', f', ρ', h4, h5, h6⟩, h7⟩, h8⟩
  refine am_goN (mc' := mc') (ms' := ms') (a := (Value.ref (ρ b) :: as.map (am_v ρ)).toArray) (va_runI (As := as.map (am_v ρ)) (b := ρ b) (n := k) (nL := am_mL M) ⟨hC.1, hC.2.1, hC.2.2.2.1, hC.2.2.2.2.1, hC.2.2.2.2.2.1⟩ hM2
    ⟨hB, hy, hC.2.2.2.2.2.1 _ hi⟩ ⟨am_Pc_blind, am_pre (vs := .ref b :: as) hC hT⟩
    rfl (by rw [List.length_map]; exact hk) hT.2.1.2.1 (by rw [← List.map_reverse, List.map_append]; rfl) (am_room8 hr) hd ⟨by have := hR.2.2.1; omega, by have := hR.2.2.2; omega⟩) hC hR hT2 ⟨by omega, by omega⟩
/-- a nest mate's private constructor -/
theorem am_invIN (pc : Nat) {M N : am_M} {rc rs mc' ms' n idx k b : Nat} {host : String} {L : List (Option Value)} {as rest : List Value} {f : Nat → am_C} {P : am_P} (hd : decode (am_by M) pc = .ok (.invokespecial idx, 3)) (hG : am_G N k) (hG2 : am_G2 M N) (hv : am_rt N = none) (hy : (am_y N).name = "<init>") (hl : ((am_y M).cls, idx, am_y N, host) ∈ am_nst) (hi : Cond.instanceMethod (am_y N) ∈ am_W)
    (hk : as.length = k) (hr : (rest.map fun v => v.category).sum ≤ 8) (hlen : (lg_sl (.ref b :: as)).length ≤ am_mL N)
    (kk : AW N mc' ms' 0 (am_en (am_mL N) (.ref b :: as)) [] n f (fun o n' f' => match o with | .inl v => AW M rc rs (pc + 3) L (v.toList ++ rest) n' f' P | .inr _ => False)) : AW M (mc' + rc) (ms' + rs) pc L (as.reverse ++ .ref b :: rest) n f P := by
  intro D cA p l e R s m args below meth c A n0 ρ0 mc ms hC hR H locs cells slots ρ ls hT hcs
  have hst := am_sn_app.mp hT.1
  have hT2 : am_T D cA A s n0 ρ0 (am_mL M) n f L rest H locs ρ ls := ⟨hst.2.2, hT.2⟩
  have hvs : am_sn n (.ref b :: as) := ⟨hst.2.1, am_sn_rev.mp hst.1⟩
  have hB := am_calN (mc' := mc') (ms' := ms') hG hG2 ⟨hR.1, hR.2.1⟩ hC.2.2.2.2.2.1 (hC.2.2.2.2.2.2.2.2.2.2.2.2.1.1 _ hl)
  have hM := am_metN hG.1 hG.2.1 (fun _ _ _ h => h) kk (ρ := ρ) (D := D) (cA := cA) hC.2.2.2.2.2.2.2.2.1 hvs hT.2.2.2.2.2.2.2 hlen H.size
  rw [hv] at hB
  have hM2 : Met l (am_y N) (am_ws N) (am_rm N mc' ms') (am_Pc D cA ρ n f H.size ((Value.ref b :: as).map (am_v ρ))) (am_Q D cA (va_A (am_w cA ρ n f) H.size) (n, f) ρ (am_ct M rc rs pc L rest P)) mc' ms' (va_A (am_w cA ρ n f) H.size) := by
    intro p e ha hc hk s m args below hfr happ hP hKK
    obtain ⟨x, o, h1, h2, h3, ⟨⟨v, n', f', ρ', h4, h5, h6⟩, h7⟩, h8⟩ := hM p e ha hc hk s m args below hfr happ hP hKK
    exact ⟨x, o, h1, h2, h3, ⟨⟨v, n', f', ρ', h4, h5, h6⟩, h7⟩, h8⟩
  refine am_goN (mc' := mc') (ms' := ms') (a := (Value.ref (ρ b) :: as.map (am_v ρ)).toArray) (va_runIN (As := as.map (am_v ρ)) (b := ρ b) (n := k) (nL := am_mL M) ⟨hC.1, hC.2.1, hC.2.2.2.1, hC.2.2.2.2.1, hC.2.2.2.2.2.1⟩ hM2
    ⟨hB, hy, hC.2.2.2.2.2.1 _ hi⟩ ⟨am_Pc_blind, am_pre (vs := .ref b :: as) hC hT⟩
    rfl (by rw [List.length_map]; exact hk) hT.2.1.2.1 (by rw [← List.map_reverse, List.map_append]; rfl) (am_room8 hr) hd ⟨by have := hR.2.2.1; omega, by have := hR.2.2.2; omega⟩) hC hR hT2 ⟨by omega, by omega⟩
/-- a nest mate's private static method -/
theorem am_invSN (pc : Nat) {M N : am_M} {rc rs mc' ms' n idx k : Nat} {host : String} {L : List (Option Value)} {as rest : List Value} {f : Nat → am_C} {P : am_P} (hd : decode (am_by M) pc = .ok (.invokestatic idx, 3)) (hG : am_G N k) (hG2 : am_G2 M N) (hl : ((am_y M).cls, idx, am_y N, host) ∈ am_nst) (hi : Cond.static (am_y N) ∈ am_W)
    (hk : as.length = k) (hr : (rest.map fun v => v.category).sum ≤ 8) (hlen : (lg_sl as).length ≤ am_mL N)
    (kk : AW N mc' ms' 0 (am_en (am_mL N) as) [] n f (fun o n' f' => match o with | .inl v => AW M rc rs (pc + 3) L (v.toList ++ rest) n' f' P | .inr _ => False)) : AW M (mc' + rc) (ms' + rs) pc L (as.reverse ++ rest) n f P := by
  intro D cA p l e R s m args below meth c A n0 ρ0 mc ms hC hR H locs cells slots ρ ls hT hcs
  have hst := am_sn_app.mp hT.1
  have hT2 : am_T D cA A s n0 ρ0 (am_mL M) n f L rest H locs ρ ls := ⟨hst.2, hT.2⟩
  have hvs : am_sn n as := am_sn_rev.mp hst.1
  have hB := am_calN (mc' := mc') (ms' := ms') hG hG2 ⟨hR.1, hR.2.1⟩ hC.2.2.2.2.2.1 (hC.2.2.2.2.2.2.2.2.2.2.2.2.1.1 _ hl)
  have hM := am_metN hG.1 hG.2.1 (fun _ _ _ h => h) kk (ρ := ρ) (D := D) (cA := cA) hC.2.2.2.2.2.2.2.2.1 hvs hT.2.2.2.2.2.2.2 hlen H.size
  have hM2 : Met l (am_y N) (am_ws N) (am_rm N mc' ms') (am_Pc D cA ρ n f H.size (as.map (am_v ρ))) (am_Q D cA (va_A (am_w cA ρ n f) H.size) (n, f) ρ (am_ct M rc rs pc L rest P)) mc' ms' (va_A (am_w cA ρ n f) H.size) := by
    intro p e ha hc hk s m args below hfr happ hP hKK
    obtain ⟨x, o, h1, h2, h3, ⟨⟨v, n', f', ρ', h4, h5, h6⟩, h7⟩, h8⟩ := hM p e ha hc hk s m args below hfr happ hP hKK
    exact ⟨x, o, h1, h2, h3, ⟨⟨v, n', f', ρ', h4, h5, h6⟩, h7⟩, h8⟩
  refine am_goN (mc' := mc') (ms' := ms') (a := (as.map (am_v ρ)).toArray) (va_runSN (As := as.map (am_v ρ)) (n := k) (nL := am_mL M) ⟨hC.1, hC.2.1, hC.2.2.2.1, hC.2.2.2.2.1, hC.2.2.2.2.2.1⟩ hM2
    ⟨hB, hC.2.2.2.2.2.1 _ hi, trivial⟩ ⟨am_Pc_blind, am_pre (vs := as) hC hT⟩
    rfl (by rw [List.length_map]; exact hk) hT.2.1.2.1 (by rw [← List.map_reverse, List.map_append]) (am_room8 hr) hd ⟨by have := hR.2.2.1; omega, by have := hR.2.2.2; omega⟩) hC hR hT2 ⟨by omega, by omega⟩
/-- Object.<init> -/
theorem am_objInit (pc : Nat) {M : am_M} {rc rs n idx b : Nat} {L : List (Option Value)} {st : List Value} {f : Nat → am_C} {P : am_P} (hd : decode (am_by M) pc = .ok (.invokespecial idx, 3)) (hl : Cond.methodLink (am_y M).cls idx objectInit ∈ am_W) (hi : Cond.instanceMethod objectInit ∈ am_W) (hc : Cond.code objectInit ⟨#[0xb1]⟩ 1 none ∈ am_W) (hfr : 1 ≤ am_fr M) (hlo : (st.map fun v => v.category).sum + 12 ≤ am_lo M) (k : AW M rc rs (pc + 3) L st n f P) : AW M rc rs pc L (.ref b :: st) n f P := by
  intro D cA p l e R s m args below meth c A n0 ρ0 mc ms hC hR H locs cells slots ρ ls hT hcs
  have hlo2 : 2 * (F0 m pc ls ((Value.ref b :: st).map (am_v ρ))).monitorRoom + ((st.map (am_v ρ)).map fun v => v.category).sum + 12 ≤ R.locals := by
    have e : (st.map (am_v ρ)).map (fun v => v.category) = st.map fun v => v.category := by
      rw [List.map_map]
      exact List.map_congr_left fun v _ => am_cat ρ v
    rw [e]
    show 2 * 0 + _ + 12 ≤ _
    have := hR.2.1
    omega
  refine W.objInit hC.1 hC.2.1 hC.2.2.2.2.1 (hC.2.2.2.2.2.1 _ hl) (hC.2.2.2.2.2.1 _ hi) (hC.2.2.2.2.2.1 _ hc) rfl (by rw [hC.2.2.2.1]; exact hT.2.1.2.1) rfl hd (Nat.le_trans hfr hR.1) hlo2 ?_
  exact am_k k hC hR ⟨hT.1.2, hT.2⟩ hcs
theorem AX.out {M : am_M} {rc rs pc E n : Nat} {L : List (Option Value)} {st : List Value} {f : Nat → am_C} {P : am_P} (hh : am_hh M = []) (hP : P (.inr E) n f) : AX M rc rs pc L st E n f P := by
  intro D cA p l e R s m args below meth c A n0 ρ0 mc ms hC hR H locs cells slots ρ ls q ce hT hcs hq hv hcl
  refine vx_out (by rw [hC.2.2.2.2.2.2.2.1, hh]; intro x hx; cases hx) hC.2.2.2.2.2.2.1 hq hv hcl (fun t ht _ => ⟨⟨E, n, f, ρ, rfl, hP, by rw [ht]; exact hT.2.2.1, hT.2.2.2.1, ⟨hT.2.2.2.2.2.1.1, hT.2.2.2.2.2.1.2.2.1⟩, hT.2.2.2.2.2.2.1, hT.2.2.2.2.2.2.2⟩, va_S.F hT.2.2.2.2.1 ht⟩) hT.2.2.2.2.1.2.2 (by omega) (by omega)
