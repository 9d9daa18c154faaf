/-! ===== ArrayList's own empty array ===== -/
theorem am_k0_1 : 1 < am_k0 := Nat.le_of_ble_eq_true rfl
theorem am_getsE (pc : Nat) {M : am_M} {rc rs n ix : Nat} {L : List (Option Value)} {st : List Value} {f : Nat → am_C} {P : am_P} (hd : decode (am_by M) pc = .ok (.getstatic ix, 3)) (hl : Cond.fieldLink (am_y M).cls ix "java/util/ArrayList" "DEFAULTCAPACITY_EMPTY_ELEMENTDATA" "[Ljava/lang/Object;" ∈ am_W) (kk : AW M rc rs (pc + 3) L (.ref 1 :: st) n f P) : AW M rc rs pc L st n f P := by
  intro D cA p l e R s m args below meth c A n0 ρ0 mc ms hC hR H locs cells slots ρ ls hT hcs
  have hU := hT.2.2.2.2.2.1
  obtain ⟨⟨e1, -, hZ⟩, h2, h3⟩ := hU.2.2.2 1 am_k0_1
  have hρ : ρ 1 = ρ0 1 := hT.2.2.2.2.2.2.1 1 (Nat.lt_of_lt_of_le am_k0_1 hU.2.1)
  refine va_gets hC.1 hC.2.1 hZ hT.2.2.2.2.1 hC.2.2.2.2.1 (hC.2.2.2.2.2.1 _ hl) (fun _ h => h) hd ?_
  have h9 : (Value.ref (ρ0 1) :: st.map (am_v ρ)) = ((Value.ref 1 :: st).map (am_v ρ)) := by rw [← hρ]; rfl
  rw [h9]
  exact am_k kk hC hR ⟨⟨Nat.lt_of_lt_of_le am_k0_1 (Nat.le_trans hU.2.1 hU.1), hT.1⟩, hT.2⟩ hcs
theorem am_elen (pc : Nat) {M : am_M} {rc rs n : Nat} {L : List (Option Value)} {st : List Value} {f : Nat → am_C} {P : am_P} (hd : decode (am_by M) pc = .ok (.arraylength, 1)) (kk : AW M rc rs (pc + 1) L (.int 0 :: st) n f P) : AW M rc rs pc L (.ref 1 :: st) n f P := by
  intro D cA p l e R s m args below meth c A n0 ρ0 mc ms hC hR H locs cells slots ρ ls hT hcs
  have hU := hT.2.2.2.2.2.1
  obtain ⟨⟨e1, ⟨cell, c1, c2, c3, c4⟩, hZ⟩, h2, h3⟩ := hU.2.2.2 1 am_k0_1
  have hρ : ρ 1 = ρ0 1 := hT.2.2.2.2.2.2.1 1 (Nat.lt_of_lt_of_le am_k0_1 hU.2.1)
  show W p l e R s m args below meth c H locs cells slots _ (F0 m pc ls (.ref (ρ 1) :: st.map (am_v ρ)))
  rw [hρ]
  refine W.alen (n := 0) hC.1 hC.2.1 (by rw [hT.2.2.2.2.1.2.1 _ h2 h3]; exact c1) c2 (by rw [c4] <;> rfl) rfl rfl hd ?_
  exact am_k kk hC hR ⟨⟨trivial, hT.1.2⟩, hT.2⟩ hcs
