/-! ===== the instructions that stay in the frame ===== -/
theorem am_iconst (pc : Nat) {M : am_M} {rc rs n : Nat} {L : List (Option Value)} {st : List Value} {f : Nat → am_C} {P : am_P} {i : Int} {v : Int32} (hd : decode (am_by M) pc = .ok (.iconst i, 1)) (hv : Int32.ofInt i = v) (k : AW M rc rs (pc + 1) L (.int v :: st) n f P) : AW M rc rs pc L (st) n f P := by
  intro D cA p l e R s m args below meth c A n0 ρ0 mc ms hC hR H locs cells slots ρ ls hT hcs
  refine lv_iconst hC.1 hC.2.1 hd hv ?_
  exact am_k k hC hR ⟨⟨trivial, hT.1⟩, hT.2⟩ hcs
theorem am_bipush (pc : Nat) {M : am_M} {rc rs n : Nat} {L : List (Option Value)} {st : List Value} {f : Nat → am_C} {P : am_P} {i : Int} {v : Int32} (hd : decode (am_by M) pc = .ok (.bipush i, 2)) (hv : (Int8.ofInt i).toInt32 = v) (k : AW M rc rs (pc + 2) L (.int v :: st) n f P) : AW M rc rs pc L (st) n f P := by
  intro D cA p l e R s m args below meth c A n0 ρ0 mc ms hC hR H locs cells slots ρ ls hT hcs
  refine lv_bipush hC.1 hC.2.1 hd hv ?_
  exact am_k k hC hR ⟨⟨trivial, hT.1⟩, hT.2⟩ hcs
theorem am_sipush (pc : Nat) {M : am_M} {rc rs n : Nat} {L : List (Option Value)} {st : List Value} {f : Nat → am_C} {P : am_P} {i : Int} {v : Int32} (hd : decode (am_by M) pc = .ok (.sipush i, 3)) (hv : (Int16.ofInt i).toInt32 = v) (k : AW M rc rs (pc + 3) L (.int v :: st) n f P) : AW M rc rs pc L (st) n f P := by
  intro D cA p l e R s m args below meth c A n0 ρ0 mc ms hC hR H locs cells slots ρ ls hT hcs
  refine lv_sipush hC.1 hC.2.1 hd hv ?_
  exact am_k k hC hR ⟨⟨trivial, hT.1⟩, hT.2⟩ hcs
theorem am_lconst (pc : Nat) {M : am_M} {rc rs n : Nat} {L : List (Option Value)} {st : List Value} {f : Nat → am_C} {P : am_P} {i : Fin 2} {v : Int64} (hd : decode (am_by M) pc = .ok (.lconst i, 1)) (hv : Int64.ofNat (i : Nat) = v) (k : AW M rc rs (pc + 1) L (.long v :: st) n f P) : AW M rc rs pc L (st) n f P := by
  intro D cA p l e R s m args below meth c A n0 ρ0 mc ms hC hR H locs cells slots ρ ls hT hcs
  refine lv_lconst hC.1 hC.2.1 hd hv ?_
  exact am_k k hC hR ⟨⟨trivial, hT.1⟩, hT.2⟩ hcs
theorem am_fconst0 (pc : Nat) {M : am_M} {rc rs n : Nat} {L : List (Option Value)} {st : List Value} {f : Nat → am_C} {P : am_P}  (hd : decode (am_by M) pc = .ok (.fconst 0, 1)) (k : AW M rc rs (pc + 1) L (.float FP.fconst0 :: st) n f P) : AW M rc rs pc L (st) n f P := by
  intro D cA p l e R s m args below meth c A n0 ρ0 mc ms hC hR H locs cells slots ρ ls hT hcs
  refine lv_fconst0 hC.1 hC.2.1 hd ?_
  exact am_k k hC hR ⟨⟨trivial, hT.1⟩, hT.2⟩ hcs
theorem am_fconst1 (pc : Nat) {M : am_M} {rc rs n : Nat} {L : List (Option Value)} {st : List Value} {f : Nat → am_C} {P : am_P}  (hd : decode (am_by M) pc = .ok (.fconst 1, 1)) (k : AW M rc rs (pc + 1) L (.float FP.fconst1 :: st) n f P) : AW M rc rs pc L (st) n f P := by
  intro D cA p l e R s m args below meth c A n0 ρ0 mc ms hC hR H locs cells slots ρ ls hT hcs
  refine lv_fconst1 hC.1 hC.2.1 hd ?_
  exact am_k k hC hR ⟨⟨trivial, hT.1⟩, hT.2⟩ hcs
theorem am_fconst2 (pc : Nat) {M : am_M} {rc rs n : Nat} {L : List (Option Value)} {st : List Value} {f : Nat → am_C} {P : am_P}  (hd : decode (am_by M) pc = .ok (.fconst 2, 1)) (k : AW M rc rs (pc + 1) L (.float FP.fconst2 :: st) n f P) : AW M rc rs pc L (st) n f P := by
  intro D cA p l e R s m args below meth c A n0 ρ0 mc ms hC hR H locs cells slots ρ ls hT hcs
  refine lv_fconst2 hC.1 hC.2.1 hd ?_
  exact am_k k hC hR ⟨⟨trivial, hT.1⟩, hT.2⟩ hcs
theorem am_dconst0 (pc : Nat) {M : am_M} {rc rs n : Nat} {L : List (Option Value)} {st : List Value} {f : Nat → am_C} {P : am_P}  (hd : decode (am_by M) pc = .ok (.dconst 0, 1)) (k : AW M rc rs (pc + 1) L (.double FP.dconst0 :: st) n f P) : AW M rc rs pc L (st) n f P := by
  intro D cA p l e R s m args below meth c A n0 ρ0 mc ms hC hR H locs cells slots ρ ls hT hcs
  refine lv_dconst0 hC.1 hC.2.1 hd ?_
  exact am_k k hC hR ⟨⟨trivial, hT.1⟩, hT.2⟩ hcs
theorem am_dconst1 (pc : Nat) {M : am_M} {rc rs n : Nat} {L : List (Option Value)} {st : List Value} {f : Nat → am_C} {P : am_P}  (hd : decode (am_by M) pc = .ok (.dconst 1, 1)) (k : AW M rc rs (pc + 1) L (.double FP.dconst1 :: st) n f P) : AW M rc rs pc L (st) n f P := by
  intro D cA p l e R s m args below meth c A n0 ρ0 mc ms hC hR H locs cells slots ρ ls hT hcs
  refine lv_dconst1 hC.1 hC.2.1 hd ?_
  exact am_k k hC hR ⟨⟨trivial, hT.1⟩, hT.2⟩ hcs
theorem am_null (pc : Nat) {M : am_M} {rc rs n : Nat} {L : List (Option Value)} {st : List Value} {f : Nat → am_C} {P : am_P}  (hd : decode (am_by M) pc = .ok (.aconst_null, 1)) (k : AW M rc rs (pc + 1) L (.null :: st) n f P) : AW M rc rs pc L (st) n f P := by
  intro D cA p l e R s m args below meth c A n0 ρ0 mc ms hC hR H locs cells slots ρ ls hT hcs
  refine lv_null hC.1 hC.2.1 hd ?_
  exact am_k k hC hR ⟨⟨trivial, hT.1⟩, hT.2⟩ hcs
theorem am_ldc (pc : Nat) {M : am_M} {rc rs n : Nat} {L : List (Option Value)} {st : List Value} {f : Nat → am_C} {P : am_P} {ix : Nat} {v : Int32} (hd : decode (am_by M) pc = .ok (.ldc ix, 2)) (hw : Cond.constant (am_y M).cls ix v ∈ am_W) (k : AW M rc rs (pc + 2) L (.int v :: st) n f P) : AW M rc rs pc L (st) n f P := by
  intro D cA p l e R s m args below meth c A n0 ρ0 mc ms hC hR H locs cells slots ρ ls hT hcs
  refine lv_ldc hC.1 hC.2.1 hC.2.2.2.2.1 (hC.2.2.2.2.2.1 _ hw) hd ?_
  exact am_k k hC hR ⟨⟨trivial, hT.1⟩, hT.2⟩ hcs
theorem am_ldcw (pc : Nat) {M : am_M} {rc rs n : Nat} {L : List (Option Value)} {st : List Value} {f : Nat → am_C} {P : am_P} {ix : Nat} {v : Int32} (hd : decode (am_by M) pc = .ok (.ldc_w ix, 3)) (hw : Cond.constant (am_y M).cls ix v ∈ am_W) (k : AW M rc rs (pc + 3) L (.int v :: st) n f P) : AW M rc rs pc L (st) n f P := by
  intro D cA p l e R s m args below meth c A n0 ρ0 mc ms hC hR H locs cells slots ρ ls hT hcs
  refine lv_ldcw hC.1 hC.2.1 hC.2.2.2.2.1 (hC.2.2.2.2.2.1 _ hw) hd ?_
  exact am_k k hC hR ⟨⟨trivial, hT.1⟩, hT.2⟩ hcs
theorem am_ldcf (pc : Nat) {M : am_M} {rc rs n : Nat} {L : List (Option Value)} {st : List Value} {f : Nat → am_C} {P : am_P} {ix : Nat} {v : UInt32} (hd : decode (am_by M) pc = .ok (.ldc ix, 2)) (hw : Cond.constantFloat (am_y M).cls ix v ∈ am_W) (k : AW M rc rs (pc + 2) L (.float v :: st) n f P) : AW M rc rs pc L (st) n f P := by
  intro D cA p l e R s m args below meth c A n0 ρ0 mc ms hC hR H locs cells slots ρ ls hT hcs
  refine lv_ldcf hC.1 hC.2.1 hC.2.2.2.2.1 (hC.2.2.2.2.2.1 _ hw) hd ?_
  exact am_k k hC hR ⟨⟨trivial, hT.1⟩, hT.2⟩ hcs
theorem am_ldc2 (pc : Nat) {M : am_M} {rc rs n : Nat} {L : List (Option Value)} {st : List Value} {f : Nat → am_C} {P : am_P} {ix : Nat} {v : Int64} (hd : decode (am_by M) pc = .ok (.ldc2_w ix, 3)) (hw : Cond.constantLong (am_y M).cls ix v ∈ am_W) (k : AW M rc rs (pc + 3) L (.long v :: st) n f P) : AW M rc rs pc L (st) n f P := by
  intro D cA p l e R s m args below meth c A n0 ρ0 mc ms hC hR H locs cells slots ρ ls hT hcs
  refine lv_ldc2 hC.1 hC.2.1 hC.2.2.2.2.1 (hC.2.2.2.2.2.1 _ hw) hd ?_
  exact am_k k hC hR ⟨⟨trivial, hT.1⟩, hT.2⟩ hcs
theorem am_ldc2d (pc : Nat) {M : am_M} {rc rs n : Nat} {L : List (Option Value)} {st : List Value} {f : Nat → am_C} {P : am_P} {ix : Nat} {v : UInt64} (hd : decode (am_by M) pc = .ok (.ldc2_w ix, 3)) (hw : Cond.constantDouble (am_y M).cls ix v ∈ am_W) (k : AW M rc rs (pc + 3) L (.double v :: st) n f P) : AW M rc rs pc L (st) n f P := by
  intro D cA p l e R s m args below meth c A n0 ρ0 mc ms hC hR H locs cells slots ρ ls hT hcs
  refine lv_ldc2d hC.1 hC.2.1 hC.2.2.2.2.1 (hC.2.2.2.2.2.1 _ hw) hd ?_
  exact am_k k hC hR ⟨⟨trivial, hT.1⟩, hT.2⟩ hcs
theorem am_iload_n (pc : Nat) {M : am_M} {rc rs n : Nat} {L : List (Option Value)} {st : List Value} {f : Nat → am_C} {P : am_P} {q : Fin 4} {x : Int32} (hd : decode (am_by M) pc = .ok (.iload_n q, 1)) (hl : L[(q : Nat)]? = some (some (.int x))) (k : AW M rc rs (pc + 1) L (.int x :: st) n f P) : AW M rc rs pc L (st) n f P := by
  intro D cA p l e R s m args below meth c A n0 ρ0 mc ms hC hR H locs cells slots ρ ls hT hcs
  refine lv_iload_n hC.1 hC.2.1 hd rfl (hT.2.1.2.2.2 _ _ hl) ?_
  exact am_k k hC hR ⟨⟨trivial, hT.1⟩, hT.2⟩ hcs
theorem am_iload (pc : Nat) {M : am_M} {rc rs n : Nat} {L : List (Option Value)} {st : List Value} {f : Nat → am_C} {P : am_P} {i : Nat} {x : Int32} (hd : decode (am_by M) pc = .ok (.iload i, 2)) (hl : L[i]? = some (some (.int x))) (k : AW M rc rs (pc + 2) L (.int x :: st) n f P) : AW M rc rs pc L (st) n f P := by
  intro D cA p l e R s m args below meth c A n0 ρ0 mc ms hC hR H locs cells slots ρ ls hT hcs
  refine lv_iload hC.1 hC.2.1 hd (hT.2.1.2.2.2 _ _ hl) ?_
  exact am_k k hC hR ⟨⟨trivial, hT.1⟩, hT.2⟩ hcs
theorem am_lload_n (pc : Nat) {M : am_M} {rc rs n : Nat} {L : List (Option Value)} {st : List Value} {f : Nat → am_C} {P : am_P} {q : Fin 4} {x : Int64} (hd : decode (am_by M) pc = .ok (.lload_n q, 1)) (hl : L[(q : Nat)]? = some (some (.long x))) (k : AW M rc rs (pc + 1) L (.long x :: st) n f P) : AW M rc rs pc L (st) n f P := by
  intro D cA p l e R s m args below meth c A n0 ρ0 mc ms hC hR H locs cells slots ρ ls hT hcs
  refine lv_lload_n hC.1 hC.2.1 hd rfl (hT.2.1.2.2.2 _ _ hl) ?_
  exact am_k k hC hR ⟨⟨trivial, hT.1⟩, hT.2⟩ hcs
theorem am_lload (pc : Nat) {M : am_M} {rc rs n : Nat} {L : List (Option Value)} {st : List Value} {f : Nat → am_C} {P : am_P} {i : Nat} {x : Int64} (hd : decode (am_by M) pc = .ok (.lload i, 2)) (hl : L[i]? = some (some (.long x))) (k : AW M rc rs (pc + 2) L (.long x :: st) n f P) : AW M rc rs pc L (st) n f P := by
  intro D cA p l e R s m args below meth c A n0 ρ0 mc ms hC hR H locs cells slots ρ ls hT hcs
  refine lv_lload hC.1 hC.2.1 hd (hT.2.1.2.2.2 _ _ hl) ?_
  exact am_k k hC hR ⟨⟨trivial, hT.1⟩, hT.2⟩ hcs
theorem am_fload_n (pc : Nat) {M : am_M} {rc rs n : Nat} {L : List (Option Value)} {st : List Value} {f : Nat → am_C} {P : am_P} {q : Fin 4} {x : UInt32} (hd : decode (am_by M) pc = .ok (.fload_n q, 1)) (hl : L[(q : Nat)]? = some (some (.float x))) (k : AW M rc rs (pc + 1) L (.float x :: st) n f P) : AW M rc rs pc L (st) n f P := by
  intro D cA p l e R s m args below meth c A n0 ρ0 mc ms hC hR H locs cells slots ρ ls hT hcs
  refine lv_fload_n hC.1 hC.2.1 hd rfl (hT.2.1.2.2.2 _ _ hl) ?_
  exact am_k k hC hR ⟨⟨trivial, hT.1⟩, hT.2⟩ hcs
theorem am_fload (pc : Nat) {M : am_M} {rc rs n : Nat} {L : List (Option Value)} {st : List Value} {f : Nat → am_C} {P : am_P} {i : Nat} {x : UInt32} (hd : decode (am_by M) pc = .ok (.fload i, 2)) (hl : L[i]? = some (some (.float x))) (k : AW M rc rs (pc + 2) L (.float x :: st) n f P) : AW M rc rs pc L (st) n f P := by
  intro D cA p l e R s m args below meth c A n0 ρ0 mc ms hC hR H locs cells slots ρ ls hT hcs
  refine lv_fload hC.1 hC.2.1 hd (hT.2.1.2.2.2 _ _ hl) ?_
  exact am_k k hC hR ⟨⟨trivial, hT.1⟩, hT.2⟩ hcs
theorem am_dload_n (pc : Nat) {M : am_M} {rc rs n : Nat} {L : List (Option Value)} {st : List Value} {f : Nat → am_C} {P : am_P} {q : Fin 4} {x : UInt64} (hd : decode (am_by M) pc = .ok (.dload_n q, 1)) (hl : L[(q : Nat)]? = some (some (.double x))) (k : AW M rc rs (pc + 1) L (.double x :: st) n f P) : AW M rc rs pc L (st) n f P := by
  intro D cA p l e R s m args below meth c A n0 ρ0 mc ms hC hR H locs cells slots ρ ls hT hcs
  refine lv_dload_n hC.1 hC.2.1 hd rfl (hT.2.1.2.2.2 _ _ hl) ?_
  exact am_k k hC hR ⟨⟨trivial, hT.1⟩, hT.2⟩ hcs
theorem am_dload (pc : Nat) {M : am_M} {rc rs n : Nat} {L : List (Option Value)} {st : List Value} {f : Nat → am_C} {P : am_P} {i : Nat} {x : UInt64} (hd : decode (am_by M) pc = .ok (.dload i, 2)) (hl : L[i]? = some (some (.double x))) (k : AW M rc rs (pc + 2) L (.double x :: st) n f P) : AW M rc rs pc L (st) n f P := by
  intro D cA p l e R s m args below meth c A n0 ρ0 mc ms hC hR H locs cells slots ρ ls hT hcs
  refine lv_dload hC.1 hC.2.1 hd (hT.2.1.2.2.2 _ _ hl) ?_
  exact am_k k hC hR ⟨⟨trivial, hT.1⟩, hT.2⟩ hcs
theorem am_aload_n (pc : Nat) {M : am_M} {rc rs n : Nat} {L : List (Option Value)} {st : List Value} {f : Nat → am_C} {P : am_P} {q : Fin 4} {x : Nat} (hd : decode (am_by M) pc = .ok (.aload_n q, 1)) (hl : L[(q : Nat)]? = some (some (.ref x))) (k : AW M rc rs (pc + 1) L (.ref x :: st) n f P) : AW M rc rs pc L (st) n f P := by
  intro D cA p l e R s m args below meth c A n0 ρ0 mc ms hC hR H locs cells slots ρ ls hT hcs
  refine lv_aload_n hC.1 hC.2.1 hd rfl (hT.2.1.2.2.2 _ _ hl) ?_
  exact am_k k hC hR ⟨⟨hT.2.1.1 _ _ hl, hT.1⟩, hT.2⟩ hcs
theorem am_aload (pc : Nat) {M : am_M} {rc rs n : Nat} {L : List (Option Value)} {st : List Value} {f : Nat → am_C} {P : am_P} {i : Nat} {x : Nat} (hd : decode (am_by M) pc = .ok (.aload i, 2)) (hl : L[i]? = some (some (.ref x))) (k : AW M rc rs (pc + 2) L (.ref x :: st) n f P) : AW M rc rs pc L (st) n f P := by
  intro D cA p l e R s m args below meth c A n0 ρ0 mc ms hC hR H locs cells slots ρ ls hT hcs
  refine lv_aload hC.1 hC.2.1 hd (hT.2.1.2.2.2 _ _ hl) ?_
  exact am_k k hC hR ⟨⟨hT.2.1.1 _ _ hl, hT.1⟩, hT.2⟩ hcs
theorem am_aload_nN (pc : Nat) {M : am_M} {rc rs n : Nat} {L : List (Option Value)} {st : List Value} {f : Nat → am_C} {P : am_P} {q : Fin 4} (hd : decode (am_by M) pc = .ok (.aload_n q, 1)) (hl : L[(q : Nat)]? = some (some .null)) (k : AW M rc rs (pc + 1) L (.null :: st) n f P) : AW M rc rs pc L (st) n f P := by
  intro D cA p l e R s m args below meth c A n0 ρ0 mc ms hC hR H locs cells slots ρ ls hT hcs
  refine lv_aload_nN hC.1 hC.2.1 hd rfl (hT.2.1.2.2.2 _ _ hl) ?_
  exact am_k k hC hR ⟨⟨trivial, hT.1⟩, hT.2⟩ hcs
theorem am_aloadN (pc : Nat) {M : am_M} {rc rs n : Nat} {L : List (Option Value)} {st : List Value} {f : Nat → am_C} {P : am_P} {i : Nat} (hd : decode (am_by M) pc = .ok (.aload i, 2)) (hl : L[i]? = some (some .null)) (k : AW M rc rs (pc + 2) L (.null :: st) n f P) : AW M rc rs pc L (st) n f P := by
  intro D cA p l e R s m args below meth c A n0 ρ0 mc ms hC hR H locs cells slots ρ ls hT hcs
  refine lv_aloadN hC.1 hC.2.1 hd (hT.2.1.2.2.2 _ _ hl) ?_
  exact am_k k hC hR ⟨⟨trivial, hT.1⟩, hT.2⟩ hcs
theorem am_istore_n (pc : Nat) {M : am_M} {rc rs n : Nat} {L : List (Option Value)} {st : List Value} {f : Nat → am_C} {P : am_P} {q : Fin 4} {x : Int32} (hd : decode (am_by M) pc = .ok (.istore_n q, 1)) (hi : (q : Nat) < am_mL M) (k : AW M rc rs (pc + 1) (am_s1 L (q : Nat) (.int x)) st n f P) : AW M rc rs pc L (.int x :: st) n f P := by
  intro D cA p l e R s m args below meth c A n0 ρ0 mc ms hC hR H locs cells slots ρ ls hT hcs
  refine lv_istore_n hC.1 hC.2.1 hd rfl (am_L_has hT.2.1.2) hi rfl ?_
  intro ls hl
  exact am_k k hC hR ⟨hT.1.2, ⟨am_ln_s1 hT.2.1.1 trivial, am_L_s1 rfl hl⟩, hT.2.2⟩ hcs
theorem am_istore (pc : Nat) {M : am_M} {rc rs n : Nat} {L : List (Option Value)} {st : List Value} {f : Nat → am_C} {P : am_P} {i : Nat} {x : Int32} (hd : decode (am_by M) pc = .ok (.istore i, 2)) (hi : i < am_mL M) (k : AW M rc rs (pc + 2) (am_s1 L i (.int x)) st n f P) : AW M rc rs pc L (.int x :: st) n f P := by
  intro D cA p l e R s m args below meth c A n0 ρ0 mc ms hC hR H locs cells slots ρ ls hT hcs
  refine lv_istore hC.1 hC.2.1 hd (am_L_has hT.2.1.2) hi rfl ?_
  intro ls hl
  exact am_k k hC hR ⟨hT.1.2, ⟨am_ln_s1 hT.2.1.1 trivial, am_L_s1 rfl hl⟩, hT.2.2⟩ hcs
theorem am_lstore_n (pc : Nat) {M : am_M} {rc rs n : Nat} {L : List (Option Value)} {st : List Value} {f : Nat → am_C} {P : am_P} {q : Fin 4} {x : Int64} (hd : decode (am_by M) pc = .ok (.lstore_n q, 1)) (hi : (q : Nat) + 1 < am_mL M) (k : AW M rc rs (pc + 1) (am_s2 L (q : Nat) (.long x)) st n f P) : AW M rc rs pc L (.long x :: st) n f P := by
  intro D cA p l e R s m args below meth c A n0 ρ0 mc ms hC hR H locs cells slots ρ ls hT hcs
  refine lv_lstore_n hC.1 hC.2.1 hd rfl (am_L_has hT.2.1.2) hi rfl ?_
  intro ls hl
  exact am_k k hC hR ⟨hT.1.2, ⟨am_ln_s2 hT.2.1.1 trivial, am_L_s2 rfl hl⟩, hT.2.2⟩ hcs
theorem am_lstore (pc : Nat) {M : am_M} {rc rs n : Nat} {L : List (Option Value)} {st : List Value} {f : Nat → am_C} {P : am_P} {i : Nat} {x : Int64} (hd : decode (am_by M) pc = .ok (.lstore i, 2)) (hi : i + 1 < am_mL M) (k : AW M rc rs (pc + 2) (am_s2 L i (.long x)) st n f P) : AW M rc rs pc L (.long x :: st) n f P := by
  intro D cA p l e R s m args below meth c A n0 ρ0 mc ms hC hR H locs cells slots ρ ls hT hcs
  refine lv_lstore hC.1 hC.2.1 hd (am_L_has hT.2.1.2) hi rfl ?_
  intro ls hl
  exact am_k k hC hR ⟨hT.1.2, ⟨am_ln_s2 hT.2.1.1 trivial, am_L_s2 rfl hl⟩, hT.2.2⟩ hcs
theorem am_fstore_n (pc : Nat) {M : am_M} {rc rs n : Nat} {L : List (Option Value)} {st : List Value} {f : Nat → am_C} {P : am_P} {q : Fin 4} {x : UInt32} (hd : decode (am_by M) pc = .ok (.fstore_n q, 1)) (hi : (q : Nat) < am_mL M) (k : AW M rc rs (pc + 1) (am_s1 L (q : Nat) (.float x)) st n f P) : AW M rc rs pc L (.float x :: st) n f P := by
  intro D cA p l e R s m args below meth c A n0 ρ0 mc ms hC hR H locs cells slots ρ ls hT hcs
  refine lv_fstore_n hC.1 hC.2.1 hd rfl (am_L_has hT.2.1.2) hi rfl ?_
  intro ls hl
  exact am_k k hC hR ⟨hT.1.2, ⟨am_ln_s1 hT.2.1.1 trivial, am_L_s1 rfl hl⟩, hT.2.2⟩ hcs
theorem am_fstore (pc : Nat) {M : am_M} {rc rs n : Nat} {L : List (Option Value)} {st : List Value} {f : Nat → am_C} {P : am_P} {i : Nat} {x : UInt32} (hd : decode (am_by M) pc = .ok (.fstore i, 2)) (hi : i < am_mL M) (k : AW M rc rs (pc + 2) (am_s1 L i (.float x)) st n f P) : AW M rc rs pc L (.float x :: st) n f P := by
  intro D cA p l e R s m args below meth c A n0 ρ0 mc ms hC hR H locs cells slots ρ ls hT hcs
  refine lv_fstore hC.1 hC.2.1 hd (am_L_has hT.2.1.2) hi rfl ?_
  intro ls hl
  exact am_k k hC hR ⟨hT.1.2, ⟨am_ln_s1 hT.2.1.1 trivial, am_L_s1 rfl hl⟩, hT.2.2⟩ hcs
theorem am_dstore_n (pc : Nat) {M : am_M} {rc rs n : Nat} {L : List (Option Value)} {st : List Value} {f : Nat → am_C} {P : am_P} {q : Fin 4} {x : UInt64} (hd : decode (am_by M) pc = .ok (.dstore_n q, 1)) (hi : (q : Nat) + 1 < am_mL M) (k : AW M rc rs (pc + 1) (am_s2 L (q : Nat) (.double x)) st n f P) : AW M rc rs pc L (.double x :: st) n f P := by
  intro D cA p l e R s m args below meth c A n0 ρ0 mc ms hC hR H locs cells slots ρ ls hT hcs
  refine lv_dstore_n hC.1 hC.2.1 hd rfl (am_L_has hT.2.1.2) hi rfl ?_
  intro ls hl
  exact am_k k hC hR ⟨hT.1.2, ⟨am_ln_s2 hT.2.1.1 trivial, am_L_s2 rfl hl⟩, hT.2.2⟩ hcs
theorem am_dstore (pc : Nat) {M : am_M} {rc rs n : Nat} {L : List (Option Value)} {st : List Value} {f : Nat → am_C} {P : am_P} {i : Nat} {x : UInt64} (hd : decode (am_by M) pc = .ok (.dstore i, 2)) (hi : i + 1 < am_mL M) (k : AW M rc rs (pc + 2) (am_s2 L i (.double x)) st n f P) : AW M rc rs pc L (.double x :: st) n f P := by
  intro D cA p l e R s m args below meth c A n0 ρ0 mc ms hC hR H locs cells slots ρ ls hT hcs
  refine lv_dstore hC.1 hC.2.1 hd (am_L_has hT.2.1.2) hi rfl ?_
  intro ls hl
  exact am_k k hC hR ⟨hT.1.2, ⟨am_ln_s2 hT.2.1.1 trivial, am_L_s2 rfl hl⟩, hT.2.2⟩ hcs
theorem am_astore_n (pc : Nat) {M : am_M} {rc rs n : Nat} {L : List (Option Value)} {st : List Value} {f : Nat → am_C} {P : am_P} {q : Fin 4} {x : Nat} (hd : decode (am_by M) pc = .ok (.astore_n q, 1)) (hi : (q : Nat) < am_mL M) (k : AW M rc rs (pc + 1) (am_s1 L (q : Nat) (.ref x)) st n f P) : AW M rc rs pc L (.ref x :: st) n f P := by
  intro D cA p l e R s m args below meth c A n0 ρ0 mc ms hC hR H locs cells slots ρ ls hT hcs
  refine lv_astore_n hC.1 hC.2.1 hd rfl (am_L_has hT.2.1.2) hi rfl ?_
  intro ls hl
  exact am_k k hC hR ⟨hT.1.2, ⟨am_ln_s1 hT.2.1.1 hT.1.1, am_L_s1 rfl hl⟩, hT.2.2⟩ hcs
theorem am_astore (pc : Nat) {M : am_M} {rc rs n : Nat} {L : List (Option Value)} {st : List Value} {f : Nat → am_C} {P : am_P} {i x : Nat} (hd : decode (am_by M) pc = .ok (.astore i, 2)) (hi : i < am_mL M) (k : AW M rc rs (pc + 2) (am_s1 L i (.ref x)) st n f P) : AW M rc rs pc L (.ref x :: st) n f P := by
  intro D cA p l e R s m args below meth c A n0 ρ0 mc ms hC hR H locs cells slots ρ ls hT hcs
  refine lv_astore hC.1 hC.2.1 hd (am_L_has hT.2.1.2) hi rfl ?_
  intro ls hl
  exact am_k k hC hR ⟨hT.1.2, ⟨am_ln_s1 hT.2.1.1 hT.1.1, am_L_s1 rfl hl⟩, hT.2.2⟩ hcs
theorem am_astore_nN (pc : Nat) {M : am_M} {rc rs n : Nat} {L : List (Option Value)} {st : List Value} {f : Nat → am_C} {P : am_P} {q : Fin 4} (hd : decode (am_by M) pc = .ok (.astore_n q, 1)) (hi : (q : Nat) < am_mL M) (k : AW M rc rs (pc + 1) (am_s1 L (q : Nat) (.null)) st n f P) : AW M rc rs pc L (.null :: st) n f P := by
  intro D cA p l e R s m args below meth c A n0 ρ0 mc ms hC hR H locs cells slots ρ ls hT hcs
  refine lv_astore_nN hC.1 hC.2.1 hd rfl (am_L_has hT.2.1.2) hi rfl ?_
  intro ls hl
  exact am_k k hC hR ⟨hT.1.2, ⟨am_ln_s1 hT.2.1.1 trivial, am_L_s1 rfl hl⟩, hT.2.2⟩ hcs
theorem am_astoreN (pc : Nat) {M : am_M} {rc rs n : Nat} {L : List (Option Value)} {st : List Value} {f : Nat → am_C} {P : am_P} {i : Nat} (hd : decode (am_by M) pc = .ok (.astore i, 2)) (hi : i < am_mL M) (k : AW M rc rs (pc + 2) (am_s1 L i (.null)) st n f P) : AW M rc rs pc L (.null :: st) n f P := by
  intro D cA p l e R s m args below meth c A n0 ρ0 mc ms hC hR H locs cells slots ρ ls hT hcs
  refine lv_astoreN hC.1 hC.2.1 hd (am_L_has hT.2.1.2) hi rfl ?_
  intro ls hl
  exact am_k k hC hR ⟨hT.1.2, ⟨am_ln_s1 hT.2.1.1 trivial, am_L_s1 rfl hl⟩, hT.2.2⟩ hcs
theorem am_iinc (pc : Nat) {M : am_M} {rc rs n : Nat} {L : List (Option Value)} {st : List Value} {f : Nat → am_C} {P : am_P} {i : Nat} {d : Int} {x v : Int32} (hd : decode (am_by M) pc = .ok (.iinc i d, 3)) (hl : L[i]? = some (some (.int x))) (hv : x + Int32.ofInt d = v) (hi : i < am_mL M) (k : AW M rc rs (pc + 3) (am_s1 L i (.int v)) st n f P) : AW M rc rs pc L st n f P := by
  intro D cA p l e R s m args below meth c A n0 ρ0 mc ms hC hR H locs cells slots ρ ls hT hcs
  obtain ⟨kk, hkk⟩ := List.getElem?_of_mem (am_ll_mem ρ L 0 i _ hl)
  rw [Nat.zero_add] at hkk
  refine lv_iinc hC.1 hC.2.1 hd (am_L_has hT.2.1.2) hkk hv hi rfl ?_
  intro ls hl
  exact am_k k hC hR ⟨hT.1, ⟨am_ln_s1 hT.2.1.1 trivial, am_L_s1 rfl hl⟩, hT.2.2⟩ hcs
theorem am_iadd (pc : Nat) {M : am_M} {rc rs n : Nat} {L : List (Option Value)} {st : List Value} {f : Nat → am_C} {P : am_P} {x y : Int32} (hd : decode (am_by M) pc = .ok (.iadd, 1)) (k : AW M rc rs (pc + 1) L (.int (x + y) :: st) n f P) : AW M rc rs pc L (.int y :: .int x :: st) n f P := by
  intro D cA p l e R s m args below meth c A n0 ρ0 mc ms hC hR H locs cells slots ρ ls hT hcs
  refine lv_iadd hC.1 hC.2.1 hd ?_
  exact am_k k hC hR ⟨⟨trivial, hT.1.2.2⟩, hT.2⟩ hcs
theorem am_isub (pc : Nat) {M : am_M} {rc rs n : Nat} {L : List (Option Value)} {st : List Value} {f : Nat → am_C} {P : am_P} {x y : Int32} (hd : decode (am_by M) pc = .ok (.isub, 1)) (k : AW M rc rs (pc + 1) L (.int (x - y) :: st) n f P) : AW M rc rs pc L (.int y :: .int x :: st) n f P := by
  intro D cA p l e R s m args below meth c A n0 ρ0 mc ms hC hR H locs cells slots ρ ls hT hcs
  refine lv_isub hC.1 hC.2.1 hd ?_
  exact am_k k hC hR ⟨⟨trivial, hT.1.2.2⟩, hT.2⟩ hcs
theorem am_imul (pc : Nat) {M : am_M} {rc rs n : Nat} {L : List (Option Value)} {st : List Value} {f : Nat → am_C} {P : am_P} {x y : Int32} (hd : decode (am_by M) pc = .ok (.imul, 1)) (k : AW M rc rs (pc + 1) L (.int (x * y) :: st) n f P) : AW M rc rs pc L (.int y :: .int x :: st) n f P := by
  intro D cA p l e R s m args below meth c A n0 ρ0 mc ms hC hR H locs cells slots ρ ls hT hcs
  refine lv_imul hC.1 hC.2.1 hd ?_
  exact am_k k hC hR ⟨⟨trivial, hT.1.2.2⟩, hT.2⟩ hcs
theorem am_iand (pc : Nat) {M : am_M} {rc rs n : Nat} {L : List (Option Value)} {st : List Value} {f : Nat → am_C} {P : am_P} {x y : Int32} (hd : decode (am_by M) pc = .ok (.iand, 1)) (k : AW M rc rs (pc + 1) L (.int (x &&& y) :: st) n f P) : AW M rc rs pc L (.int y :: .int x :: st) n f P := by
  intro D cA p l e R s m args below meth c A n0 ρ0 mc ms hC hR H locs cells slots ρ ls hT hcs
  refine lv_iand hC.1 hC.2.1 hd ?_
  exact am_k k hC hR ⟨⟨trivial, hT.1.2.2⟩, hT.2⟩ hcs
theorem am_ior (pc : Nat) {M : am_M} {rc rs n : Nat} {L : List (Option Value)} {st : List Value} {f : Nat → am_C} {P : am_P} {x y : Int32} (hd : decode (am_by M) pc = .ok (.ior, 1)) (k : AW M rc rs (pc + 1) L (.int (x ||| y) :: st) n f P) : AW M rc rs pc L (.int y :: .int x :: st) n f P := by
  intro D cA p l e R s m args below meth c A n0 ρ0 mc ms hC hR H locs cells slots ρ ls hT hcs
  refine lv_ior hC.1 hC.2.1 hd ?_
  exact am_k k hC hR ⟨⟨trivial, hT.1.2.2⟩, hT.2⟩ hcs
theorem am_ixor (pc : Nat) {M : am_M} {rc rs n : Nat} {L : List (Option Value)} {st : List Value} {f : Nat → am_C} {P : am_P} {x y : Int32} (hd : decode (am_by M) pc = .ok (.ixor, 1)) (k : AW M rc rs (pc + 1) L (.int (x ^^^ y) :: st) n f P) : AW M rc rs pc L (.int y :: .int x :: st) n f P := by
  intro D cA p l e R s m args below meth c A n0 ρ0 mc ms hC hR H locs cells slots ρ ls hT hcs
  refine lv_ixor hC.1 hC.2.1 hd ?_
  exact am_k k hC hR ⟨⟨trivial, hT.1.2.2⟩, hT.2⟩ hcs
theorem am_ishl (pc : Nat) {M : am_M} {rc rs n : Nat} {L : List (Option Value)} {st : List Value} {f : Nat → am_C} {P : am_P} {x y : Int32} (hd : decode (am_by M) pc = .ok (.ishl, 1)) (k : AW M rc rs (pc + 1) L (.int (x <<< (y &&& 31)) :: st) n f P) : AW M rc rs pc L (.int y :: .int x :: st) n f P := by
  intro D cA p l e R s m args below meth c A n0 ρ0 mc ms hC hR H locs cells slots ρ ls hT hcs
  refine lv_ishl hC.1 hC.2.1 hd ?_
  exact am_k k hC hR ⟨⟨trivial, hT.1.2.2⟩, hT.2⟩ hcs
theorem am_ishr (pc : Nat) {M : am_M} {rc rs n : Nat} {L : List (Option Value)} {st : List Value} {f : Nat → am_C} {P : am_P} {x y : Int32} (hd : decode (am_by M) pc = .ok (.ishr, 1)) (k : AW M rc rs (pc + 1) L (.int (x >>> (y &&& 31)) :: st) n f P) : AW M rc rs pc L (.int y :: .int x :: st) n f P := by
  intro D cA p l e R s m args below meth c A n0 ρ0 mc ms hC hR H locs cells slots ρ ls hT hcs
  refine lv_ishr hC.1 hC.2.1 hd ?_
  exact am_k k hC hR ⟨⟨trivial, hT.1.2.2⟩, hT.2⟩ hcs
theorem am_idiv (pc : Nat) {M : am_M} {rc rs n : Nat} {L : List (Option Value)} {st : List Value} {f : Nat → am_C} {P : am_P} {x y : Int32} (hd : decode (am_by M) pc = .ok (.idiv, 1)) (hne : ¬ y = 0) (k : AW M rc rs (pc + 1) L (.int (x / y) :: st) n f P) : AW M rc rs pc L (.int y :: .int x :: st) n f P := by
  intro D cA p l e R s m args below meth c A n0 ρ0 mc ms hC hR H locs cells slots ρ ls hT hcs
  refine lv_idiv hC.1 hC.2.1 hd hne ?_
  exact am_k k hC hR ⟨⟨trivial, hT.1.2.2⟩, hT.2⟩ hcs
theorem am_irem (pc : Nat) {M : am_M} {rc rs n : Nat} {L : List (Option Value)} {st : List Value} {f : Nat → am_C} {P : am_P} {x y : Int32} (hd : decode (am_by M) pc = .ok (.irem, 1)) (hne : ¬ y = 0) (k : AW M rc rs (pc + 1) L (.int (x - x / y * y) :: st) n f P) : AW M rc rs pc L (.int y :: .int x :: st) n f P := by
  intro D cA p l e R s m args below meth c A n0 ρ0 mc ms hC hR H locs cells slots ρ ls hT hcs
  refine lv_irem hC.1 hC.2.1 hd hne ?_
  exact am_k k hC hR ⟨⟨trivial, hT.1.2.2⟩, hT.2⟩ hcs
theorem am_ladd (pc : Nat) {M : am_M} {rc rs n : Nat} {L : List (Option Value)} {st : List Value} {f : Nat → am_C} {P : am_P} {x y : Int64} (hd : decode (am_by M) pc = .ok (.ladd, 1)) (k : AW M rc rs (pc + 1) L (.long (x + y) :: st) n f P) : AW M rc rs pc L (.long y :: .long x :: st) n f P := by
  intro D cA p l e R s m args below meth c A n0 ρ0 mc ms hC hR H locs cells slots ρ ls hT hcs
  refine lv_ladd hC.1 hC.2.1 hd ?_
  exact am_k k hC hR ⟨⟨trivial, hT.1.2.2⟩, hT.2⟩ hcs
theorem am_lsub (pc : Nat) {M : am_M} {rc rs n : Nat} {L : List (Option Value)} {st : List Value} {f : Nat → am_C} {P : am_P} {x y : Int64} (hd : decode (am_by M) pc = .ok (.lsub, 1)) (k : AW M rc rs (pc + 1) L (.long (x - y) :: st) n f P) : AW M rc rs pc L (.long y :: .long x :: st) n f P := by
  intro D cA p l e R s m args below meth c A n0 ρ0 mc ms hC hR H locs cells slots ρ ls hT hcs
  refine lv_lsub hC.1 hC.2.1 hd ?_
  exact am_k k hC hR ⟨⟨trivial, hT.1.2.2⟩, hT.2⟩ hcs
theorem am_lmul (pc : Nat) {M : am_M} {rc rs n : Nat} {L : List (Option Value)} {st : List Value} {f : Nat → am_C} {P : am_P} {x y : Int64} (hd : decode (am_by M) pc = .ok (.lmul, 1)) (k : AW M rc rs (pc + 1) L (.long (x * y) :: st) n f P) : AW M rc rs pc L (.long y :: .long x :: st) n f P := by
  intro D cA p l e R s m args below meth c A n0 ρ0 mc ms hC hR H locs cells slots ρ ls hT hcs
  refine lv_lmul hC.1 hC.2.1 hd ?_
  exact am_k k hC hR ⟨⟨trivial, hT.1.2.2⟩, hT.2⟩ hcs
theorem am_land (pc : Nat) {M : am_M} {rc rs n : Nat} {L : List (Option Value)} {st : List Value} {f : Nat → am_C} {P : am_P} {x y : Int64} (hd : decode (am_by M) pc = .ok (.land, 1)) (k : AW M rc rs (pc + 1) L (.long (x &&& y) :: st) n f P) : AW M rc rs pc L (.long y :: .long x :: st) n f P := by
  intro D cA p l e R s m args below meth c A n0 ρ0 mc ms hC hR H locs cells slots ρ ls hT hcs
  refine lv_land hC.1 hC.2.1 hd ?_
  exact am_k k hC hR ⟨⟨trivial, hT.1.2.2⟩, hT.2⟩ hcs
theorem am_lor (pc : Nat) {M : am_M} {rc rs n : Nat} {L : List (Option Value)} {st : List Value} {f : Nat → am_C} {P : am_P} {x y : Int64} (hd : decode (am_by M) pc = .ok (.lor, 1)) (k : AW M rc rs (pc + 1) L (.long (x ||| y) :: st) n f P) : AW M rc rs pc L (.long y :: .long x :: st) n f P := by
  intro D cA p l e R s m args below meth c A n0 ρ0 mc ms hC hR H locs cells slots ρ ls hT hcs
  refine lv_lor hC.1 hC.2.1 hd ?_
  exact am_k k hC hR ⟨⟨trivial, hT.1.2.2⟩, hT.2⟩ hcs
theorem am_lxor (pc : Nat) {M : am_M} {rc rs n : Nat} {L : List (Option Value)} {st : List Value} {f : Nat → am_C} {P : am_P} {x y : Int64} (hd : decode (am_by M) pc = .ok (.lxor, 1)) (k : AW M rc rs (pc + 1) L (.long (x ^^^ y) :: st) n f P) : AW M rc rs pc L (.long y :: .long x :: st) n f P := by
  intro D cA p l e R s m args below meth c A n0 ρ0 mc ms hC hR H locs cells slots ρ ls hT hcs
  refine lv_lxor hC.1 hC.2.1 hd ?_
  exact am_k k hC hR ⟨⟨trivial, hT.1.2.2⟩, hT.2⟩ hcs
theorem am_ldiv (pc : Nat) {M : am_M} {rc rs n : Nat} {L : List (Option Value)} {st : List Value} {f : Nat → am_C} {P : am_P} {x y : Int64} (hd : decode (am_by M) pc = .ok (.ldiv, 1)) (hne : ¬ y = 0) (k : AW M rc rs (pc + 1) L (.long (x / y) :: st) n f P) : AW M rc rs pc L (.long y :: .long x :: st) n f P := by
  intro D cA p l e R s m args below meth c A n0 ρ0 mc ms hC hR H locs cells slots ρ ls hT hcs
  refine lv_ldiv hC.1 hC.2.1 hd hne ?_
  exact am_k k hC hR ⟨⟨trivial, hT.1.2.2⟩, hT.2⟩ hcs
theorem am_lrem (pc : Nat) {M : am_M} {rc rs n : Nat} {L : List (Option Value)} {st : List Value} {f : Nat → am_C} {P : am_P} {x y : Int64} (hd : decode (am_by M) pc = .ok (.lrem, 1)) (hne : ¬ y = 0) (k : AW M rc rs (pc + 1) L (.long (x - x / y * y) :: st) n f P) : AW M rc rs pc L (.long y :: .long x :: st) n f P := by
  intro D cA p l e R s m args below meth c A n0 ρ0 mc ms hC hR H locs cells slots ρ ls hT hcs
  refine lv_lrem hC.1 hC.2.1 hd hne ?_
  exact am_k k hC hR ⟨⟨trivial, hT.1.2.2⟩, hT.2⟩ hcs
theorem am_fadd (pc : Nat) {M : am_M} {rc rs n : Nat} {L : List (Option Value)} {st : List Value} {f : Nat → am_C} {P : am_P} {x y : UInt32} (hd : decode (am_by M) pc = .ok (.fadd, 1)) (hne : vf_n32 (FP.fadd x y)) (k : AW M rc rs (pc + 1) L (.float (FP.fadd x y) :: st) n f P) : AW M rc rs pc L (.float y :: .float x :: st) n f P := by
  intro D cA p l e R s m args below meth c A n0 ρ0 mc ms hC hR H locs cells slots ρ ls hT hcs
  refine lv_fadd hC.1 hC.2.1 hd hne ?_
  exact am_k k hC hR ⟨⟨trivial, hT.1.2.2⟩, hT.2⟩ hcs
theorem am_fsub (pc : Nat) {M : am_M} {rc rs n : Nat} {L : List (Option Value)} {st : List Value} {f : Nat → am_C} {P : am_P} {x y : UInt32} (hd : decode (am_by M) pc = .ok (.fsub, 1)) (hne : vf_n32 (FP.fsub x y)) (k : AW M rc rs (pc + 1) L (.float (FP.fsub x y) :: st) n f P) : AW M rc rs pc L (.float y :: .float x :: st) n f P := by
  intro D cA p l e R s m args below meth c A n0 ρ0 mc ms hC hR H locs cells slots ρ ls hT hcs
  refine lv_fsub hC.1 hC.2.1 hd hne ?_
  exact am_k k hC hR ⟨⟨trivial, hT.1.2.2⟩, hT.2⟩ hcs
theorem am_fmul (pc : Nat) {M : am_M} {rc rs n : Nat} {L : List (Option Value)} {st : List Value} {f : Nat → am_C} {P : am_P} {x y : UInt32} (hd : decode (am_by M) pc = .ok (.fmul, 1)) (hne : vf_n32 (FP.fmul x y)) (k : AW M rc rs (pc + 1) L (.float (FP.fmul x y) :: st) n f P) : AW M rc rs pc L (.float y :: .float x :: st) n f P := by
  intro D cA p l e R s m args below meth c A n0 ρ0 mc ms hC hR H locs cells slots ρ ls hT hcs
  refine lv_fmul hC.1 hC.2.1 hd hne ?_
  exact am_k k hC hR ⟨⟨trivial, hT.1.2.2⟩, hT.2⟩ hcs
theorem am_fdiv (pc : Nat) {M : am_M} {rc rs n : Nat} {L : List (Option Value)} {st : List Value} {f : Nat → am_C} {P : am_P} {x y : UInt32} (hd : decode (am_by M) pc = .ok (.fdiv, 1)) (hne : vf_n32 (FP.fdiv x y)) (k : AW M rc rs (pc + 1) L (.float (FP.fdiv x y) :: st) n f P) : AW M rc rs pc L (.float y :: .float x :: st) n f P := by
  intro D cA p l e R s m args below meth c A n0 ρ0 mc ms hC hR H locs cells slots ρ ls hT hcs
  refine lv_fdiv hC.1 hC.2.1 hd hne ?_
  exact am_k k hC hR ⟨⟨trivial, hT.1.2.2⟩, hT.2⟩ hcs
theorem am_dadd (pc : Nat) {M : am_M} {rc rs n : Nat} {L : List (Option Value)} {st : List Value} {f : Nat → am_C} {P : am_P} {x y : UInt64} (hd : decode (am_by M) pc = .ok (.dadd, 1)) (hne : vf_n64 (FP.dadd x y)) (k : AW M rc rs (pc + 1) L (.double (FP.dadd x y) :: st) n f P) : AW M rc rs pc L (.double y :: .double x :: st) n f P := by
  intro D cA p l e R s m args below meth c A n0 ρ0 mc ms hC hR H locs cells slots ρ ls hT hcs
  refine lv_dadd hC.1 hC.2.1 hd hne ?_
  exact am_k k hC hR ⟨⟨trivial, hT.1.2.2⟩, hT.2⟩ hcs
theorem am_dsub (pc : Nat) {M : am_M} {rc rs n : Nat} {L : List (Option Value)} {st : List Value} {f : Nat → am_C} {P : am_P} {x y : UInt64} (hd : decode (am_by M) pc = .ok (.dsub, 1)) (hne : vf_n64 (FP.dsub x y)) (k : AW M rc rs (pc + 1) L (.double (FP.dsub x y) :: st) n f P) : AW M rc rs pc L (.double y :: .double x :: st) n f P := by
  intro D cA p l e R s m args below meth c A n0 ρ0 mc ms hC hR H locs cells slots ρ ls hT hcs
  refine lv_dsub hC.1 hC.2.1 hd hne ?_
  exact am_k k hC hR ⟨⟨trivial, hT.1.2.2⟩, hT.2⟩ hcs
theorem am_dmul (pc : Nat) {M : am_M} {rc rs n : Nat} {L : List (Option Value)} {st : List Value} {f : Nat → am_C} {P : am_P} {x y : UInt64} (hd : decode (am_by M) pc = .ok (.dmul, 1)) (hne : vf_n64 (FP.dmul x y)) (k : AW M rc rs (pc + 1) L (.double (FP.dmul x y) :: st) n f P) : AW M rc rs pc L (.double y :: .double x :: st) n f P := by
  intro D cA p l e R s m args below meth c A n0 ρ0 mc ms hC hR H locs cells slots ρ ls hT hcs
  refine lv_dmul hC.1 hC.2.1 hd hne ?_
  exact am_k k hC hR ⟨⟨trivial, hT.1.2.2⟩, hT.2⟩ hcs
theorem am_ddiv (pc : Nat) {M : am_M} {rc rs n : Nat} {L : List (Option Value)} {st : List Value} {f : Nat → am_C} {P : am_P} {x y : UInt64} (hd : decode (am_by M) pc = .ok (.ddiv, 1)) (hne : vf_n64 (FP.ddiv x y)) (k : AW M rc rs (pc + 1) L (.double (FP.ddiv x y) :: st) n f P) : AW M rc rs pc L (.double y :: .double x :: st) n f P := by
  intro D cA p l e R s m args below meth c A n0 ρ0 mc ms hC hR H locs cells slots ρ ls hT hcs
  refine lv_ddiv hC.1 hC.2.1 hd hne ?_
  exact am_k k hC hR ⟨⟨trivial, hT.1.2.2⟩, hT.2⟩ hcs
theorem am_lshl (pc : Nat) {M : am_M} {rc rs n : Nat} {L : List (Option Value)} {st : List Value} {f : Nat → am_C} {P : am_P} {x : Int64} {y : Int32} (hd : decode (am_by M) pc = .ok (.lshl, 1)) (k : AW M rc rs (pc + 1) L (.long (x <<< (y.toInt64 &&& 63)) :: st) n f P) : AW M rc rs pc L (.int y :: .long x :: st) n f P := by
  intro D cA p l e R s m args below meth c A n0 ρ0 mc ms hC hR H locs cells slots ρ ls hT hcs
  refine lv_lshl hC.1 hC.2.1 hd rfl ?_
  exact am_k k hC hR ⟨⟨trivial, hT.1.2.2⟩, hT.2⟩ hcs
theorem am_lshr (pc : Nat) {M : am_M} {rc rs n : Nat} {L : List (Option Value)} {st : List Value} {f : Nat → am_C} {P : am_P} {x : Int64} {y : Int32} (hd : decode (am_by M) pc = .ok (.lshr, 1)) (k : AW M rc rs (pc + 1) L (.long (x >>> (y.toInt64 &&& 63)) :: st) n f P) : AW M rc rs pc L (.int y :: .long x :: st) n f P := by
  intro D cA p l e R s m args below meth c A n0 ρ0 mc ms hC hR H locs cells slots ρ ls hT hcs
  refine lv_lshr hC.1 hC.2.1 hd rfl ?_
  exact am_k k hC hR ⟨⟨trivial, hT.1.2.2⟩, hT.2⟩ hcs
theorem am_lushr (pc : Nat) {M : am_M} {rc rs n : Nat} {L : List (Option Value)} {st : List Value} {f : Nat → am_C} {P : am_P} {x : Int64} {y : Int32} (hd : decode (am_by M) pc = .ok (.lushr, 1)) (k : AW M rc rs (pc + 1) L (.long ((x.toUInt64 >>> (y.toInt64.toUInt64 &&& Int64.toUInt64 63)).toInt64) :: st) n f P) : AW M rc rs pc L (.int y :: .long x :: st) n f P := by
  intro D cA p l e R s m args below meth c A n0 ρ0 mc ms hC hR H locs cells slots ρ ls hT hcs
  refine lv_lushr hC.1 hC.2.1 hd rfl ?_
  exact am_k k hC hR ⟨⟨trivial, hT.1.2.2⟩, hT.2⟩ hcs
theorem am_lcmp (pc : Nat) {M : am_M} {rc rs n : Nat} {L : List (Option Value)} {st : List Value} {f : Nat → am_C} {P : am_P} {x y : Int64} (hd : decode (am_by M) pc = .ok (.lcmp, 1)) (k : AW M rc rs (pc + 1) L (.int (lg_cmp x y) :: st) n f P) : AW M rc rs pc L (.long y :: .long x :: st) n f P := by
  intro D cA p l e R s m args below meth c A n0 ρ0 mc ms hC hR H locs cells slots ρ ls hT hcs
  refine W.lcmp hC.1 hC.2.1 hd ?_
  exact am_k k hC hR ⟨⟨trivial, hT.1.2.2⟩, hT.2⟩ hcs
theorem am_fcmp (pc : Nat) {M : am_M} {rc rs n : Nat} {L : List (Option Value)} {st : List Value} {f : Nat → am_C} {P : am_P} {x y : UInt32} {op : CmpOp} (hd : decode (am_by M) pc = .ok (.fcmp op, 1)) (k : AW M rc rs (pc + 1) L (.int (Op.cmpValue (FP.fcmp x y) op) :: st) n f P) : AW M rc rs pc L (.float y :: .float x :: st) n f P := by
  intro D cA p l e R s m args below meth c A n0 ρ0 mc ms hC hR H locs cells slots ρ ls hT hcs
  refine lv_fcmp hC.1 hC.2.1 hd ?_
  exact am_k k hC hR ⟨⟨trivial, hT.1.2.2⟩, hT.2⟩ hcs
theorem am_dcmp (pc : Nat) {M : am_M} {rc rs n : Nat} {L : List (Option Value)} {st : List Value} {f : Nat → am_C} {P : am_P} {x y : UInt64} {op : CmpOp} (hd : decode (am_by M) pc = .ok (.dcmp op, 1)) (k : AW M rc rs (pc + 1) L (.int (Op.cmpValue (FP.dcmp x y) op) :: st) n f P) : AW M rc rs pc L (.double y :: .double x :: st) n f P := by
  intro D cA p l e R s m args below meth c A n0 ρ0 mc ms hC hR H locs cells slots ρ ls hT hcs
  refine lv_dcmp hC.1 hC.2.1 hd ?_
  exact am_k k hC hR ⟨⟨trivial, hT.1.2.2⟩, hT.2⟩ hcs
theorem am_ineg (pc : Nat) {M : am_M} {rc rs n : Nat} {L : List (Option Value)} {st : List Value} {f : Nat → am_C} {P : am_P} {x : Int32} (hd : decode (am_by M) pc = .ok (.ineg, 1)) (k : AW M rc rs (pc + 1) L (.int (-x) :: st) n f P) : AW M rc rs pc L (.int x :: st) n f P := by
  intro D cA p l e R s m args below meth c A n0 ρ0 mc ms hC hR H locs cells slots ρ ls hT hcs
  refine lv_ineg hC.1 hC.2.1 hd  ?_
  exact am_k k hC hR ⟨⟨trivial, hT.1.2⟩, hT.2⟩ hcs
theorem am_lneg (pc : Nat) {M : am_M} {rc rs n : Nat} {L : List (Option Value)} {st : List Value} {f : Nat → am_C} {P : am_P} {x : Int64} (hd : decode (am_by M) pc = .ok (.lneg, 1)) (k : AW M rc rs (pc + 1) L (.long (-x) :: st) n f P) : AW M rc rs pc L (.long x :: st) n f P := by
  intro D cA p l e R s m args below meth c A n0 ρ0 mc ms hC hR H locs cells slots ρ ls hT hcs
  refine lv_lneg hC.1 hC.2.1 hd  ?_
  exact am_k k hC hR ⟨⟨trivial, hT.1.2⟩, hT.2⟩ hcs
theorem am_fneg (pc : Nat) {M : am_M} {rc rs n : Nat} {L : List (Option Value)} {st : List Value} {f : Nat → am_C} {P : am_P} {x : UInt32} (hd : decode (am_by M) pc = .ok (.fneg, 1)) (k : AW M rc rs (pc + 1) L (.float (FP.fneg x) :: st) n f P) : AW M rc rs pc L (.float x :: st) n f P := by
  intro D cA p l e R s m args below meth c A n0 ρ0 mc ms hC hR H locs cells slots ρ ls hT hcs
  refine lv_fneg hC.1 hC.2.1 hd  ?_
  exact am_k k hC hR ⟨⟨trivial, hT.1.2⟩, hT.2⟩ hcs
theorem am_dneg (pc : Nat) {M : am_M} {rc rs n : Nat} {L : List (Option Value)} {st : List Value} {f : Nat → am_C} {P : am_P} {x : UInt64} (hd : decode (am_by M) pc = .ok (.dneg, 1)) (k : AW M rc rs (pc + 1) L (.double (FP.dneg x) :: st) n f P) : AW M rc rs pc L (.double x :: st) n f P := by
  intro D cA p l e R s m args below meth c A n0 ρ0 mc ms hC hR H locs cells slots ρ ls hT hcs
  refine lv_dneg hC.1 hC.2.1 hd  ?_
  exact am_k k hC hR ⟨⟨trivial, hT.1.2⟩, hT.2⟩ hcs
theorem am_i2l (pc : Nat) {M : am_M} {rc rs n : Nat} {L : List (Option Value)} {st : List Value} {f : Nat → am_C} {P : am_P} {x : Int32} (hd : decode (am_by M) pc = .ok (.i2l, 1)) (k : AW M rc rs (pc + 1) L (.long (x.toInt64) :: st) n f P) : AW M rc rs pc L (.int x :: st) n f P := by
  intro D cA p l e R s m args below meth c A n0 ρ0 mc ms hC hR H locs cells slots ρ ls hT hcs
  refine lv_i2l hC.1 hC.2.1 hd rfl ?_
  exact am_k k hC hR ⟨⟨trivial, hT.1.2⟩, hT.2⟩ hcs
theorem am_l2i (pc : Nat) {M : am_M} {rc rs n : Nat} {L : List (Option Value)} {st : List Value} {f : Nat → am_C} {P : am_P} {x : Int64} (hd : decode (am_by M) pc = .ok (.l2i, 1)) (k : AW M rc rs (pc + 1) L (.int (x.toInt32) :: st) n f P) : AW M rc rs pc L (.long x :: st) n f P := by
  intro D cA p l e R s m args below meth c A n0 ρ0 mc ms hC hR H locs cells slots ρ ls hT hcs
  refine lv_l2i hC.1 hC.2.1 hd rfl ?_
  exact am_k k hC hR ⟨⟨trivial, hT.1.2⟩, hT.2⟩ hcs
theorem am_i2b (pc : Nat) {M : am_M} {rc rs n : Nat} {L : List (Option Value)} {st : List Value} {f : Nat → am_C} {P : am_P} {x : Int32} (hd : decode (am_by M) pc = .ok (.i2b, 1)) (k : AW M rc rs (pc + 1) L (.int (x.toInt8.toInt32) :: st) n f P) : AW M rc rs pc L (.int x :: st) n f P := by
  intro D cA p l e R s m args below meth c A n0 ρ0 mc ms hC hR H locs cells slots ρ ls hT hcs
  refine lv_i2b hC.1 hC.2.1 hd rfl ?_
  exact am_k k hC hR ⟨⟨trivial, hT.1.2⟩, hT.2⟩ hcs
theorem am_i2s (pc : Nat) {M : am_M} {rc rs n : Nat} {L : List (Option Value)} {st : List Value} {f : Nat → am_C} {P : am_P} {x : Int32} (hd : decode (am_by M) pc = .ok (.i2s, 1)) (k : AW M rc rs (pc + 1) L (.int (x.toInt16.toInt32) :: st) n f P) : AW M rc rs pc L (.int x :: st) n f P := by
  intro D cA p l e R s m args below meth c A n0 ρ0 mc ms hC hR H locs cells slots ρ ls hT hcs
  refine lv_i2s hC.1 hC.2.1 hd rfl ?_
  exact am_k k hC hR ⟨⟨trivial, hT.1.2⟩, hT.2⟩ hcs
theorem am_i2c (pc : Nat) {M : am_M} {rc rs n : Nat} {L : List (Option Value)} {st : List Value} {f : Nat → am_C} {P : am_P} {x : Int32} (hd : decode (am_by M) pc = .ok (.i2c, 1)) (k : AW M rc rs (pc + 1) L (.int ((x.toUInt32 % 65536).toInt32) :: st) n f P) : AW M rc rs pc L (.int x :: st) n f P := by
  intro D cA p l e R s m args below meth c A n0 ρ0 mc ms hC hR H locs cells slots ρ ls hT hcs
  refine lv_i2c hC.1 hC.2.1 hd rfl ?_
  exact am_k k hC hR ⟨⟨trivial, hT.1.2⟩, hT.2⟩ hcs
theorem am_i2f (pc : Nat) {M : am_M} {rc rs n : Nat} {L : List (Option Value)} {st : List Value} {f : Nat → am_C} {P : am_P} {x : Int32} (hd : decode (am_by M) pc = .ok (.i2f, 1)) (k : AW M rc rs (pc + 1) L (.float (FP.i2f x) :: st) n f P) : AW M rc rs pc L (.int x :: st) n f P := by
  intro D cA p l e R s m args below meth c A n0 ρ0 mc ms hC hR H locs cells slots ρ ls hT hcs
  refine lv_i2f hC.1 hC.2.1 hd  ?_
  exact am_k k hC hR ⟨⟨trivial, hT.1.2⟩, hT.2⟩ hcs
theorem am_i2d (pc : Nat) {M : am_M} {rc rs n : Nat} {L : List (Option Value)} {st : List Value} {f : Nat → am_C} {P : am_P} {x : Int32} (hd : decode (am_by M) pc = .ok (.i2d, 1)) (k : AW M rc rs (pc + 1) L (.double (FP.i2d x) :: st) n f P) : AW M rc rs pc L (.int x :: st) n f P := by
  intro D cA p l e R s m args below meth c A n0 ρ0 mc ms hC hR H locs cells slots ρ ls hT hcs
  refine lv_i2d hC.1 hC.2.1 hd  ?_
  exact am_k k hC hR ⟨⟨trivial, hT.1.2⟩, hT.2⟩ hcs
theorem am_l2f (pc : Nat) {M : am_M} {rc rs n : Nat} {L : List (Option Value)} {st : List Value} {f : Nat → am_C} {P : am_P} {x : Int64} (hd : decode (am_by M) pc = .ok (.l2f, 1)) (k : AW M rc rs (pc + 1) L (.float (FP.l2f x) :: st) n f P) : AW M rc rs pc L (.long x :: st) n f P := by
  intro D cA p l e R s m args below meth c A n0 ρ0 mc ms hC hR H locs cells slots ρ ls hT hcs
  refine lv_l2f hC.1 hC.2.1 hd  ?_
  exact am_k k hC hR ⟨⟨trivial, hT.1.2⟩, hT.2⟩ hcs
theorem am_l2d (pc : Nat) {M : am_M} {rc rs n : Nat} {L : List (Option Value)} {st : List Value} {f : Nat → am_C} {P : am_P} {x : Int64} (hd : decode (am_by M) pc = .ok (.l2d, 1)) (k : AW M rc rs (pc + 1) L (.double (FP.l2d x) :: st) n f P) : AW M rc rs pc L (.long x :: st) n f P := by
  intro D cA p l e R s m args below meth c A n0 ρ0 mc ms hC hR H locs cells slots ρ ls hT hcs
  refine lv_l2d hC.1 hC.2.1 hd  ?_
  exact am_k k hC hR ⟨⟨trivial, hT.1.2⟩, hT.2⟩ hcs
theorem am_f2i (pc : Nat) {M : am_M} {rc rs n : Nat} {L : List (Option Value)} {st : List Value} {f : Nat → am_C} {P : am_P} {x : UInt32} (hd : decode (am_by M) pc = .ok (.f2i, 1)) (k : AW M rc rs (pc + 1) L (.int (FP.f2i x) :: st) n f P) : AW M rc rs pc L (.float x :: st) n f P := by
  intro D cA p l e R s m args below meth c A n0 ρ0 mc ms hC hR H locs cells slots ρ ls hT hcs
  refine lv_f2i hC.1 hC.2.1 hd  ?_
  exact am_k k hC hR ⟨⟨trivial, hT.1.2⟩, hT.2⟩ hcs
theorem am_f2l (pc : Nat) {M : am_M} {rc rs n : Nat} {L : List (Option Value)} {st : List Value} {f : Nat → am_C} {P : am_P} {x : UInt32} (hd : decode (am_by M) pc = .ok (.f2l, 1)) (k : AW M rc rs (pc + 1) L (.long (FP.f2l x) :: st) n f P) : AW M rc rs pc L (.float x :: st) n f P := by
  intro D cA p l e R s m args below meth c A n0 ρ0 mc ms hC hR H locs cells slots ρ ls hT hcs
  refine lv_f2l hC.1 hC.2.1 hd  ?_
  exact am_k k hC hR ⟨⟨trivial, hT.1.2⟩, hT.2⟩ hcs
theorem am_d2i (pc : Nat) {M : am_M} {rc rs n : Nat} {L : List (Option Value)} {st : List Value} {f : Nat → am_C} {P : am_P} {x : UInt64} (hd : decode (am_by M) pc = .ok (.d2i, 1)) (k : AW M rc rs (pc + 1) L (.int (FP.d2i x) :: st) n f P) : AW M rc rs pc L (.double x :: st) n f P := by
  intro D cA p l e R s m args below meth c A n0 ρ0 mc ms hC hR H locs cells slots ρ ls hT hcs
  refine lv_d2i hC.1 hC.2.1 hd  ?_
  exact am_k k hC hR ⟨⟨trivial, hT.1.2⟩, hT.2⟩ hcs
theorem am_d2l (pc : Nat) {M : am_M} {rc rs n : Nat} {L : List (Option Value)} {st : List Value} {f : Nat → am_C} {P : am_P} {x : UInt64} (hd : decode (am_by M) pc = .ok (.d2l, 1)) (k : AW M rc rs (pc + 1) L (.long (FP.d2l x) :: st) n f P) : AW M rc rs pc L (.double x :: st) n f P := by
  intro D cA p l e R s m args below meth c A n0 ρ0 mc ms hC hR H locs cells slots ρ ls hT hcs
  refine lv_d2l hC.1 hC.2.1 hd  ?_
  exact am_k k hC hR ⟨⟨trivial, hT.1.2⟩, hT.2⟩ hcs
theorem am_f2d (pc : Nat) {M : am_M} {rc rs n : Nat} {L : List (Option Value)} {st : List Value} {f : Nat → am_C} {P : am_P} {x : UInt32} (hd : decode (am_by M) pc = .ok (.f2d, 1)) (hne : vf_n64 (FP.f2d x)) (k : AW M rc rs (pc + 1) L (.double (FP.f2d x) :: st) n f P) : AW M rc rs pc L (.float x :: st) n f P := by
  intro D cA p l e R s m args below meth c A n0 ρ0 mc ms hC hR H locs cells slots ρ ls hT hcs
  refine lv_f2d hC.1 hC.2.1 hd hne ?_
  exact am_k k hC hR ⟨⟨trivial, hT.1.2⟩, hT.2⟩ hcs
theorem am_d2f (pc : Nat) {M : am_M} {rc rs n : Nat} {L : List (Option Value)} {st : List Value} {f : Nat → am_C} {P : am_P} {x : UInt64} (hd : decode (am_by M) pc = .ok (.d2f, 1)) (hne : vf_n32 (FP.d2f x)) (k : AW M rc rs (pc + 1) L (.float (FP.d2f x) :: st) n f P) : AW M rc rs pc L (.double x :: st) n f P := by
  intro D cA p l e R s m args below meth c A n0 ρ0 mc ms hC hR H locs cells slots ρ ls hT hcs
  refine lv_d2f hC.1 hC.2.1 hd hne ?_
  exact am_k k hC hR ⟨⟨trivial, hT.1.2⟩, hT.2⟩ hcs
theorem am_dup (pc : Nat) {M : am_M} {rc rs n : Nat} {L : List (Option Value)} {st : List Value} {f : Nat → am_C} {P : am_P} {va : Value} (hd : decode (am_by M) pc = .ok (.dup, 1)) (hva : va.category = 1) (k : AW M rc rs (pc + 1) L (va :: va :: st) n f P) : AW M rc rs pc L (va :: st) n f P := by
  intro D cA p l e R s m args below meth c A n0 ρ0 mc ms hC hR H locs cells slots ρ ls hT hcs
  refine lv_dup hC.1 hC.2.1 hd (by rw [am_cat]; exact hva) ?_
  exact am_k k hC hR ⟨⟨hT.1.1, ⟨hT.1.1, hT.1.2⟩⟩, hT.2⟩ hcs
theorem am_pop (pc : Nat) {M : am_M} {rc rs n : Nat} {L : List (Option Value)} {st : List Value} {f : Nat → am_C} {P : am_P} {va : Value} (hd : decode (am_by M) pc = .ok (.pop, 1)) (hva : va.category = 1) (k : AW M rc rs (pc + 1) L (st) n f P) : AW M rc rs pc L (va :: st) n f P := by
  intro D cA p l e R s m args below meth c A n0 ρ0 mc ms hC hR H locs cells slots ρ ls hT hcs
  refine lv_pop hC.1 hC.2.1 hd (by rw [am_cat]; exact hva) ?_
  exact am_k k hC hR ⟨hT.1.2, hT.2⟩ hcs
theorem am_dup_x1 (pc : Nat) {M : am_M} {rc rs n : Nat} {L : List (Option Value)} {st : List Value} {f : Nat → am_C} {P : am_P} {va vb : Value} (hd : decode (am_by M) pc = .ok (.dup_x1, 1)) (hva : va.category = 1) (hvb : vb.category = 1) (k : AW M rc rs (pc + 1) L (va :: vb :: va :: st) n f P) : AW M rc rs pc L (va :: vb :: st) n f P := by
  intro D cA p l e R s m args below meth c A n0 ρ0 mc ms hC hR H locs cells slots ρ ls hT hcs
  refine lv_dup_x1 hC.1 hC.2.1 hd (by rw [am_cat]; exact hva) (by rw [am_cat]; exact hvb) ?_
  exact am_k k hC hR ⟨⟨hT.1.1, ⟨hT.1.2.1, ⟨hT.1.1, hT.1.2.2⟩⟩⟩, hT.2⟩ hcs
theorem am_dup2 (pc : Nat) {M : am_M} {rc rs n : Nat} {L : List (Option Value)} {st : List Value} {f : Nat → am_C} {P : am_P} {va vb : Value} (hd : decode (am_by M) pc = .ok (.dup2, 1)) (hva : va.category = 1) (hvb : vb.category = 1) (k : AW M rc rs (pc + 1) L (va :: vb :: va :: vb :: st) n f P) : AW M rc rs pc L (va :: vb :: st) n f P := by
  intro D cA p l e R s m args below meth c A n0 ρ0 mc ms hC hR H locs cells slots ρ ls hT hcs
  refine lv_dup2_11 hC.1 hC.2.1 hd (by rw [am_cat]; exact hva) (by rw [am_cat]; exact hvb) ?_
  exact am_k k hC hR ⟨⟨hT.1.1, ⟨hT.1.2.1, ⟨hT.1.1, ⟨hT.1.2.1, hT.1.2.2⟩⟩⟩⟩, hT.2⟩ hcs
theorem am_dup2_2 (pc : Nat) {M : am_M} {rc rs n : Nat} {L : List (Option Value)} {st : List Value} {f : Nat → am_C} {P : am_P} {va : Value} (hd : decode (am_by M) pc = .ok (.dup2, 1)) (hva : va.category = 2) (k : AW M rc rs (pc + 1) L (va :: va :: st) n f P) : AW M rc rs pc L (va :: st) n f P := by
  intro D cA p l e R s m args below meth c A n0 ρ0 mc ms hC hR H locs cells slots ρ ls hT hcs
  refine lv_dup2_2 hC.1 hC.2.1 hd (by rw [am_cat]; exact hva) ?_
  exact am_k k hC hR ⟨⟨hT.1.1, ⟨hT.1.1, hT.1.2⟩⟩, hT.2⟩ hcs
theorem am_pop2_2 (pc : Nat) {M : am_M} {rc rs n : Nat} {L : List (Option Value)} {st : List Value} {f : Nat → am_C} {P : am_P} {va : Value} (hd : decode (am_by M) pc = .ok (.pop2, 1)) (hva : va.category = 2) (k : AW M rc rs (pc + 1) L (st) n f P) : AW M rc rs pc L (va :: st) n f P := by
  intro D cA p l e R s m args below meth c A n0 ρ0 mc ms hC hR H locs cells slots ρ ls hT hcs
  refine lv_pop2_2 hC.1 hC.2.1 hd (by rw [am_cat]; exact hva) ?_
  exact am_k k hC hR ⟨hT.1.2, hT.2⟩ hcs
theorem am_if_eq (pc tgt : Nat) {M : am_M} {rc rs n : Nat} {L : List (Option Value)} {st : List Value} {f : Nat → am_C} {P : am_P} {x : Int32} {off : Int} (hd : decode (am_by M) pc = .ok (.ifCond .eq off, 3)) (ht : (pc : Int) + off = (tgt : Int)) (kt : x = 0 → AW M rc rs tgt L st n f P) (kf : ¬ (x = 0) → AW M rc rs (pc + 3) L st n f P) : AW M rc rs pc L (.int x :: st) n f P := by
  intro D cA p l e R s m args below meth c A n0 ρ0 mc ms hC hR H locs cells slots ρ ls hT hcs
  refine lv_if_eq hC.1 hC.2.1 hd ht (fun q => ?_) (fun q => ?_)
  · exact am_k (kt q) hC hR ⟨hT.1.2, hT.2⟩ hcs
  · exact am_k (kf q) hC hR ⟨hT.1.2, hT.2⟩ hcs
theorem am_icmp_eq (pc tgt : Nat) {M : am_M} {rc rs n : Nat} {L : List (Option Value)} {st : List Value} {f : Nat → am_C} {P : am_P} {x y : Int32} {off : Int} (hd : decode (am_by M) pc = .ok (.if_icmp .eq off, 3)) (ht : (pc : Int) + off = (tgt : Int)) (kt : x = y → AW M rc rs tgt L st n f P) (kf : ¬ (x = y) → AW M rc rs (pc + 3) L st n f P) : AW M rc rs pc L (.int y :: .int x :: st) n f P := by
  intro D cA p l e R s m args below meth c A n0 ρ0 mc ms hC hR H locs cells slots ρ ls hT hcs
  refine lv_icmp_eq hC.1 hC.2.1 hd ht (fun q => ?_) (fun q => ?_)
  · exact am_k (kt q) hC hR ⟨hT.1.2.2, hT.2⟩ hcs
  · exact am_k (kf q) hC hR ⟨hT.1.2.2, hT.2⟩ hcs
theorem am_if_ne (pc tgt : Nat) {M : am_M} {rc rs n : Nat} {L : List (Option Value)} {st : List Value} {f : Nat → am_C} {P : am_P} {x : Int32} {off : Int} (hd : decode (am_by M) pc = .ok (.ifCond .ne off, 3)) (ht : (pc : Int) + off = (tgt : Int)) (kt : x ≠ 0 → AW M rc rs tgt L st n f P) (kf : x = 0 → AW M rc rs (pc + 3) L st n f P) : AW M rc rs pc L (.int x :: st) n f P := by
  intro D cA p l e R s m args below meth c A n0 ρ0 mc ms hC hR H locs cells slots ρ ls hT hcs
  refine lv_if_ne hC.1 hC.2.1 hd ht (fun q => ?_) (fun q => ?_)
  · exact am_k (kt q) hC hR ⟨hT.1.2, hT.2⟩ hcs
  · exact am_k (kf q) hC hR ⟨hT.1.2, hT.2⟩ hcs
theorem am_icmp_ne (pc tgt : Nat) {M : am_M} {rc rs n : Nat} {L : List (Option Value)} {st : List Value} {f : Nat → am_C} {P : am_P} {x y : Int32} {off : Int} (hd : decode (am_by M) pc = .ok (.if_icmp .ne off, 3)) (ht : (pc : Int) + off = (tgt : Int)) (kt : x ≠ y → AW M rc rs tgt L st n f P) (kf : x = y → AW M rc rs (pc + 3) L st n f P) : AW M rc rs pc L (.int y :: .int x :: st) n f P := by
  intro D cA p l e R s m args below meth c A n0 ρ0 mc ms hC hR H locs cells slots ρ ls hT hcs
  refine lv_icmp_ne hC.1 hC.2.1 hd ht (fun q => ?_) (fun q => ?_)
  · exact am_k (kt q) hC hR ⟨hT.1.2.2, hT.2⟩ hcs
  · exact am_k (kf q) hC hR ⟨hT.1.2.2, hT.2⟩ hcs
theorem am_if_lt (pc tgt : Nat) {M : am_M} {rc rs n : Nat} {L : List (Option Value)} {st : List Value} {f : Nat → am_C} {P : am_P} {x : Int32} {off : Int} (hd : decode (am_by M) pc = .ok (.ifCond .lt off, 3)) (ht : (pc : Int) + off = (tgt : Int)) (kt : x < 0 → AW M rc rs tgt L st n f P) (kf : ¬ (x < 0) → AW M rc rs (pc + 3) L st n f P) : AW M rc rs pc L (.int x :: st) n f P := by
  intro D cA p l e R s m args below meth c A n0 ρ0 mc ms hC hR H locs cells slots ρ ls hT hcs
  refine lv_if_lt hC.1 hC.2.1 hd ht (fun q => ?_) (fun q => ?_)
  · exact am_k (kt q) hC hR ⟨hT.1.2, hT.2⟩ hcs
  · exact am_k (kf q) hC hR ⟨hT.1.2, hT.2⟩ hcs
theorem am_icmp_lt (pc tgt : Nat) {M : am_M} {rc rs n : Nat} {L : List (Option Value)} {st : List Value} {f : Nat → am_C} {P : am_P} {x y : Int32} {off : Int} (hd : decode (am_by M) pc = .ok (.if_icmp .lt off, 3)) (ht : (pc : Int) + off = (tgt : Int)) (kt : x < y → AW M rc rs tgt L st n f P) (kf : ¬ (x < y) → AW M rc rs (pc + 3) L st n f P) : AW M rc rs pc L (.int y :: .int x :: st) n f P := by
  intro D cA p l e R s m args below meth c A n0 ρ0 mc ms hC hR H locs cells slots ρ ls hT hcs
  refine lv_icmp_lt hC.1 hC.2.1 hd ht (fun q => ?_) (fun q => ?_)
  · exact am_k (kt q) hC hR ⟨hT.1.2.2, hT.2⟩ hcs
  · exact am_k (kf q) hC hR ⟨hT.1.2.2, hT.2⟩ hcs
theorem am_if_ge (pc tgt : Nat) {M : am_M} {rc rs n : Nat} {L : List (Option Value)} {st : List Value} {f : Nat → am_C} {P : am_P} {x : Int32} {off : Int} (hd : decode (am_by M) pc = .ok (.ifCond .ge off, 3)) (ht : (pc : Int) + off = (tgt : Int)) (kt : 0 ≤ x → AW M rc rs tgt L st n f P) (kf : ¬ (0 ≤ x) → AW M rc rs (pc + 3) L st n f P) : AW M rc rs pc L (.int x :: st) n f P := by
  intro D cA p l e R s m args below meth c A n0 ρ0 mc ms hC hR H locs cells slots ρ ls hT hcs
  refine lv_if_ge hC.1 hC.2.1 hd ht (fun q => ?_) (fun q => ?_)
  · exact am_k (kt q) hC hR ⟨hT.1.2, hT.2⟩ hcs
  · exact am_k (kf q) hC hR ⟨hT.1.2, hT.2⟩ hcs
theorem am_icmp_ge (pc tgt : Nat) {M : am_M} {rc rs n : Nat} {L : List (Option Value)} {st : List Value} {f : Nat → am_C} {P : am_P} {x y : Int32} {off : Int} (hd : decode (am_by M) pc = .ok (.if_icmp .ge off, 3)) (ht : (pc : Int) + off = (tgt : Int)) (kt : y ≤ x → AW M rc rs tgt L st n f P) (kf : ¬ (y ≤ x) → AW M rc rs (pc + 3) L st n f P) : AW M rc rs pc L (.int y :: .int x :: st) n f P := by
  intro D cA p l e R s m args below meth c A n0 ρ0 mc ms hC hR H locs cells slots ρ ls hT hcs
  refine lv_icmp_ge hC.1 hC.2.1 hd ht (fun q => ?_) (fun q => ?_)
  · exact am_k (kt q) hC hR ⟨hT.1.2.2, hT.2⟩ hcs
  · exact am_k (kf q) hC hR ⟨hT.1.2.2, hT.2⟩ hcs
theorem am_if_gt (pc tgt : Nat) {M : am_M} {rc rs n : Nat} {L : List (Option Value)} {st : List Value} {f : Nat → am_C} {P : am_P} {x : Int32} {off : Int} (hd : decode (am_by M) pc = .ok (.ifCond .gt off, 3)) (ht : (pc : Int) + off = (tgt : Int)) (kt : 0 < x → AW M rc rs tgt L st n f P) (kf : ¬ (0 < x) → AW M rc rs (pc + 3) L st n f P) : AW M rc rs pc L (.int x :: st) n f P := by
  intro D cA p l e R s m args below meth c A n0 ρ0 mc ms hC hR H locs cells slots ρ ls hT hcs
  refine lv_if_gt hC.1 hC.2.1 hd ht (fun q => ?_) (fun q => ?_)
  · exact am_k (kt q) hC hR ⟨hT.1.2, hT.2⟩ hcs
  · exact am_k (kf q) hC hR ⟨hT.1.2, hT.2⟩ hcs
theorem am_icmp_gt (pc tgt : Nat) {M : am_M} {rc rs n : Nat} {L : List (Option Value)} {st : List Value} {f : Nat → am_C} {P : am_P} {x y : Int32} {off : Int} (hd : decode (am_by M) pc = .ok (.if_icmp .gt off, 3)) (ht : (pc : Int) + off = (tgt : Int)) (kt : y < x → AW M rc rs tgt L st n f P) (kf : ¬ (y < x) → AW M rc rs (pc + 3) L st n f P) : AW M rc rs pc L (.int y :: .int x :: st) n f P := by
  intro D cA p l e R s m args below meth c A n0 ρ0 mc ms hC hR H locs cells slots ρ ls hT hcs
  refine lv_icmp_gt hC.1 hC.2.1 hd ht (fun q => ?_) (fun q => ?_)
  · exact am_k (kt q) hC hR ⟨hT.1.2.2, hT.2⟩ hcs
  · exact am_k (kf q) hC hR ⟨hT.1.2.2, hT.2⟩ hcs
theorem am_if_le (pc tgt : Nat) {M : am_M} {rc rs n : Nat} {L : List (Option Value)} {st : List Value} {f : Nat → am_C} {P : am_P} {x : Int32} {off : Int} (hd : decode (am_by M) pc = .ok (.ifCond .le off, 3)) (ht : (pc : Int) + off = (tgt : Int)) (kt : x ≤ 0 → AW M rc rs tgt L st n f P) (kf : ¬ (x ≤ 0) → AW M rc rs (pc + 3) L st n f P) : AW M rc rs pc L (.int x :: st) n f P := by
  intro D cA p l e R s m args below meth c A n0 ρ0 mc ms hC hR H locs cells slots ρ ls hT hcs
  refine lv_if_le hC.1 hC.2.1 hd ht (fun q => ?_) (fun q => ?_)
  · exact am_k (kt q) hC hR ⟨hT.1.2, hT.2⟩ hcs
  · exact am_k (kf q) hC hR ⟨hT.1.2, hT.2⟩ hcs
theorem am_icmp_le (pc tgt : Nat) {M : am_M} {rc rs n : Nat} {L : List (Option Value)} {st : List Value} {f : Nat → am_C} {P : am_P} {x y : Int32} {off : Int} (hd : decode (am_by M) pc = .ok (.if_icmp .le off, 3)) (ht : (pc : Int) + off = (tgt : Int)) (kt : x ≤ y → AW M rc rs tgt L st n f P) (kf : ¬ (x ≤ y) → AW M rc rs (pc + 3) L st n f P) : AW M rc rs pc L (.int y :: .int x :: st) n f P := by
  intro D cA p l e R s m args below meth c A n0 ρ0 mc ms hC hR H locs cells slots ρ ls hT hcs
  refine lv_icmp_le hC.1 hC.2.1 hd ht (fun q => ?_) (fun q => ?_)
  · exact am_k (kt q) hC hR ⟨hT.1.2.2, hT.2⟩ hcs
  · exact am_k (kf q) hC hR ⟨hT.1.2.2, hT.2⟩ hcs
theorem am_goto (pc : Nat) {M : am_M} {rc rs n : Nat} {L : List (Option Value)} {st : List Value} {f : Nat → am_C} {P : am_P} {off : Int} {tgt : Nat} (hd : decode (am_by M) pc = .ok (.goto off, 3)) (ht : (pc : Int) + off = (tgt : Int)) (k : AW M rc rs (tgt) L (st) n f P) : AW M rc rs pc L (st) n f P := by
  intro D cA p l e R s m args below meth c A n0 ρ0 mc ms hC hR H locs cells slots ρ ls hT hcs
  refine lv_goto hC.1 hC.2.1 hd ht ?_
  exact am_k k hC hR ⟨hT.1, hT.2⟩ hcs
theorem am_ifnull (pc : Nat) {M : am_M} {rc rs n : Nat} {L : List (Option Value)} {st : List Value} {f : Nat → am_C} {P : am_P} {x : Nat} {off : Int} (hd : decode (am_by M) pc = .ok (.ifnull off, 3)) (k : AW M rc rs (pc + 3) L (st) n f P) : AW M rc rs pc L (.ref x :: st) n f P := by
  intro D cA p l e R s m args below meth c A n0 ρ0 mc ms hC hR H locs cells slots ρ ls hT hcs
  refine lv_ifnull hC.1 hC.2.1 hd ?_
  exact am_k k hC hR ⟨hT.1.2, hT.2⟩ hcs
theorem am_ifnullN (pc : Nat) {M : am_M} {rc rs n : Nat} {L : List (Option Value)} {st : List Value} {f : Nat → am_C} {P : am_P} {off : Int} {tgt : Nat} (hd : decode (am_by M) pc = .ok (.ifnull off, 3)) (ht : (pc : Int) + off = (tgt : Int)) (k : AW M rc rs (tgt) L (st) n f P) : AW M rc rs pc L (.null :: st) n f P := by
  intro D cA p l e R s m args below meth c A n0 ρ0 mc ms hC hR H locs cells slots ρ ls hT hcs
  refine lv_ifnullN hC.1 hC.2.1 hd ht ?_
  exact am_k k hC hR ⟨hT.1.2, hT.2⟩ hcs
theorem am_ifnonnull (pc : Nat) {M : am_M} {rc rs n : Nat} {L : List (Option Value)} {st : List Value} {f : Nat → am_C} {P : am_P} {x : Nat} {off : Int} {tgt : Nat} (hd : decode (am_by M) pc = .ok (.ifnonnull off, 3)) (ht : (pc : Int) + off = (tgt : Int)) (k : AW M rc rs (tgt) L (st) n f P) : AW M rc rs pc L (.ref x :: st) n f P := by
  intro D cA p l e R s m args below meth c A n0 ρ0 mc ms hC hR H locs cells slots ρ ls hT hcs
  refine lv_ifnonnull hC.1 hC.2.1 hd ht ?_
  exact am_k k hC hR ⟨hT.1.2, hT.2⟩ hcs
theorem am_ifnonnullN (pc : Nat) {M : am_M} {rc rs n : Nat} {L : List (Option Value)} {st : List Value} {f : Nat → am_C} {P : am_P} {off : Int} (hd : decode (am_by M) pc = .ok (.ifnonnull off, 3)) (k : AW M rc rs (pc + 3) L (st) n f P) : AW M rc rs pc L (.null :: st) n f P := by
  intro D cA p l e R s m args below meth c A n0 ρ0 mc ms hC hR H locs cells slots ρ ls hT hcs
  refine lv_ifnonnullN hC.1 hC.2.1 hd ?_
  exact am_k k hC hR ⟨hT.1.2, hT.2⟩ hcs
theorem am_tableOut (pc : Nat) {M : am_M} {rc rs n : Nat} {L : List (Option Value)} {st : List Value} {f : Nat → am_C} {P : am_P} {dflt lo hi : Int} {offs : Array Int} {len : Nat} {x : Int32} {tgt : Nat} (hd : decode (am_by M) pc = .ok (.tableswitch dflt lo hi offs, len)) (h : x.toInt < lo ∨ hi < x.toInt) (ht : (pc : Int) + dflt = (tgt : Int)) (k : AW M rc rs (tgt) L (st) n f P) : AW M rc rs pc L (.int x :: st) n f P := by
  intro D cA p l e R s m args below meth c A n0 ρ0 mc ms hC hR H locs cells slots ρ ls hT hcs
  refine lv_tableOut hC.1 hC.2.1 hd h ht ?_
  exact am_k k hC hR ⟨hT.1.2, hT.2⟩ hcs
theorem am_tableIn (pc : Nat) {M : am_M} {rc rs n : Nat} {L : List (Option Value)} {st : List Value} {f : Nat → am_C} {P : am_P} {dflt lo hi : Int} {offs : Array Int} {len : Nat} {x : Int32} {off : Int} {tgt : Nat} (hd : decode (am_by M) pc = .ok (.tableswitch dflt lo hi offs, len)) (h1 : ¬ x.toInt < lo) (h2 : ¬ hi < x.toInt) (ho : offs[(x.toInt - lo).toNat]? = some off) (ht : (pc : Int) + off = (tgt : Int)) (k : AW M rc rs (tgt) L (st) n f P) : AW M rc rs pc L (.int x :: st) n f P := by
  intro D cA p l e R s m args below meth c A n0 ρ0 mc ms hC hR H locs cells slots ρ ls hT hcs
  refine lv_tableIn hC.1 hC.2.1 hd h1 h2 ho ht ?_
  exact am_k k hC hR ⟨hT.1.2, hT.2⟩ hcs
theorem am_lookup (pc : Nat) {M : am_M} {rc rs n : Nat} {L : List (Option Value)} {st : List Value} {f : Nat → am_C} {P : am_P} {dflt : Int} {ps : Array (Int × Int)} {len : Nat} {x : Int32} {off : Int} {tgt : Nat} (hd : decode (am_by M) pc = .ok (.lookupswitch dflt ps, len)) (hp : (ps.toList.zip (ps.toList.drop 1)).all (fun (a, next) => a.1 < next.1) = true) (ho : Op.lookupswitch.offset ps.toList dflt x.toInt = off) (ht : (pc : Int) + off = (tgt : Int)) (k : AW M rc rs (tgt) L (st) n f P) : AW M rc rs pc L (.int x :: st) n f P := by
  intro D cA p l e R s m args below meth c A n0 ρ0 mc ms hC hR H locs cells slots ρ ls hT hcs
  refine lv_lookup hC.1 hC.2.1 hd hp ho ht ?_
  exact am_k k hC hR ⟨hT.1.2, hT.2⟩ hcs
theorem am_ireturn (pc : Nat) {M : am_M} {rc rs n : Nat} {L : List (Option Value)} {f : Nat → am_C} {P : am_P} {x : Int32} {ty : FieldType} (hd : decode (am_by M) pc = .ok (.ireturn, 1)) (hr : am_rt M = some ty) (hn : narrow ty (.int x) = .int x) (hP : P (.inl (some (.int x))) n f) : AW M rc rs pc L [.int x] n f P := by
  intro D cA p l e R s m args below meth c A n0 ρ0 mc ms hC hR H locs cells slots ρ ls hT hcs
  refine vx_ret (W.widen (k := mc) (n := ms) (by omega) (by omega) ?_)
  exact W.zret hC.1 hC.2.1 (hC.2.2.1.trans hr) hn (fun t ht hW => ⟨⟨some (.int x), n, f, ρ, rfl, hP, ⟨trivial, trivial⟩, by rw [ht]; exact hT.2.2.1, hT.2.2.2.1, ⟨hT.2.2.2.2.2.1.1, hT.2.2.2.2.2.1.2.2.1⟩, hT.2.2.2.2.2.2.1, hT.2.2.2.2.2.2.2⟩, va_S.F hT.2.2.2.2.1 ht⟩) hT.2.2.2.2.1.2.2 hd hC.2.2.2.2.2.2.1
theorem am_lreturn (pc : Nat) {M : am_M} {rc rs n : Nat} {L : List (Option Value)} {f : Nat → am_C} {P : am_P} {x : Int64} (hd : decode (am_by M) pc = .ok (.lreturn, 1)) (hr : am_rt M = some .long) (hP : P (.inl (some (.long x))) n f) : AW M rc rs pc L [.long x] n f P := by
  intro D cA p l e R s m args below meth c A n0 ρ0 mc ms hC hR H locs cells slots ρ ls hT hcs
  refine vx_ret (W.widen (k := mc) (n := ms) (by omega) (by omega) ?_)
  exact W.lret hC.1 hC.2.1 (hC.2.2.1.trans hr) (fun t ht hW => ⟨⟨some (.long x), n, f, ρ, rfl, hP, ⟨trivial, trivial⟩, by rw [ht]; exact hT.2.2.1, hT.2.2.2.1, ⟨hT.2.2.2.2.2.1.1, hT.2.2.2.2.2.1.2.2.1⟩, hT.2.2.2.2.2.2.1, hT.2.2.2.2.2.2.2⟩, va_S.F hT.2.2.2.2.1 ht⟩) hT.2.2.2.2.1.2.2 hd hC.2.2.2.2.2.2.1
theorem am_freturn (pc : Nat) {M : am_M} {rc rs n : Nat} {L : List (Option Value)} {f : Nat → am_C} {P : am_P} {x : UInt32} (hd : decode (am_by M) pc = .ok (.freturn, 1)) (hr : am_rt M = some .float) (hP : P (.inl (some (.float x))) n f) : AW M rc rs pc L [.float x] n f P := by
  intro D cA p l e R s m args below meth c A n0 ρ0 mc ms hC hR H locs cells slots ρ ls hT hcs
  refine vx_ret (W.widen (k := mc) (n := ms) (by omega) (by omega) ?_)
  exact W.fret hC.1 hC.2.1 (hC.2.2.1.trans hr) (fun t ht hW => ⟨⟨some (.float x), n, f, ρ, rfl, hP, ⟨trivial, trivial⟩, by rw [ht]; exact hT.2.2.1, hT.2.2.2.1, ⟨hT.2.2.2.2.2.1.1, hT.2.2.2.2.2.1.2.2.1⟩, hT.2.2.2.2.2.2.1, hT.2.2.2.2.2.2.2⟩, va_S.F hT.2.2.2.2.1 ht⟩) hT.2.2.2.2.1.2.2 hd hC.2.2.2.2.2.2.1
theorem am_dreturn (pc : Nat) {M : am_M} {rc rs n : Nat} {L : List (Option Value)} {f : Nat → am_C} {P : am_P} {x : UInt64} (hd : decode (am_by M) pc = .ok (.dreturn, 1)) (hr : am_rt M = some .double) (hP : P (.inl (some (.double x))) n f) : AW M rc rs pc L [.double x] n f P := by
  intro D cA p l e R s m args below meth c A n0 ρ0 mc ms hC hR H locs cells slots ρ ls hT hcs
  refine vx_ret (W.widen (k := mc) (n := ms) (by omega) (by omega) ?_)
  exact W.dret hC.1 hC.2.1 (hC.2.2.1.trans hr) (fun t ht hW => ⟨⟨some (.double x), n, f, ρ, rfl, hP, ⟨trivial, trivial⟩, by rw [ht]; exact hT.2.2.1, hT.2.2.2.1, ⟨hT.2.2.2.2.2.1.1, hT.2.2.2.2.2.1.2.2.1⟩, hT.2.2.2.2.2.2.1, hT.2.2.2.2.2.2.2⟩, va_S.F hT.2.2.2.2.1 ht⟩) hT.2.2.2.2.1.2.2 hd hC.2.2.2.2.2.2.1
theorem am_areturn (pc : Nat) {M : am_M} {rc rs n : Nat} {L : List (Option Value)} {f : Nat → am_C} {P : am_P} {x : Nat} {ty : FieldType} (hd : decode (am_by M) pc = .ok (.areturn, 1)) (hr : am_rt M = some ty) (hrt : (∃ z, ty = .object z) ∨ ∃ z, ty = .array z) (hP : P (.inl (some (.ref x))) n f) : AW M rc rs pc L [.ref x] n f P := by
  intro D cA p l e R s m args below meth c A n0 ρ0 mc ms hC hR H locs cells slots ρ ls hT hcs
  refine vx_ret (W.widen (k := mc) (n := ms) (by omega) (by omega) ?_)
  exact W.aret hC.1 hC.2.1 (hC.2.2.1.trans hr) hrt (Or.inr ⟨_, rfl⟩) (fun t ht hW => ⟨⟨some (.ref x), n, f, ρ, rfl, hP, ⟨hT.1.1, trivial⟩, by rw [ht]; exact hT.2.2.1, hT.2.2.2.1, ⟨hT.2.2.2.2.2.1.1, hT.2.2.2.2.2.1.2.2.1⟩, hT.2.2.2.2.2.2.1, hT.2.2.2.2.2.2.2⟩, va_S.F hT.2.2.2.2.1 ht⟩) hT.2.2.2.2.1.2.2 hd hC.2.2.2.2.2.2.1
theorem am_return (pc : Nat) {M : am_M} {rc rs n : Nat} {L : List (Option Value)} {f : Nat → am_C} {P : am_P} (hd : decode (am_by M) pc = .ok (.return_, 1)) (hr : am_rt M = none) (hP : P (.inl none) n f) : AW M rc rs pc L [] n f P := by
  intro D cA p l e R s m args below meth c A n0 ρ0 mc ms hC hR H locs cells slots ρ ls hT hcs
  refine vx_ret (W.widen (k := mc) (n := ms) (by omega) (by omega) ?_)
  exact W.vret hC.1 hC.2.1 (hC.2.2.1.trans hr) (fun t ht hW => ⟨⟨none, n, f, ρ, rfl, hP, trivial, by rw [ht]; exact hT.2.2.1, hT.2.2.2.1, ⟨hT.2.2.2.2.2.1.1, hT.2.2.2.2.2.1.2.2.1⟩, hT.2.2.2.2.2.2.1, hT.2.2.2.2.2.2.2⟩, va_S.F hT.2.2.2.2.1 ht⟩) hT.2.2.2.2.1.2.2 hd hC.2.2.2.2.2.2.1
