/-! ===== a cast to an object's own class ===== -/
theorem am_cast (pc : Nat) {M : am_M} {rc rs n ix b ci : Nat} {nm : String} {q : vw_C} {L : List (Option Value)} {st fs : List Value} {f : Nat → am_C} {P : am_P} (hd : decode (am_by M) pc = .ok (.checkcast ix, 3)) (hl : Cond.classLink (am_y M).cls ix nm ∈ am_W) (hc : vwCl[ci]? = some q) (hq : q.1 = nm) (hb : f b = .inr (ci, fs)) (kk : AW M rc rs (pc + 3) L (.ref b :: st) n f P) : AW M rc rs pc L (.ref b :: st) n f P := by
  intro D cA p l e R s m args below meth c A n0 ρ0 mc ms hC hR H locs cells slots ρ ls hT hcs
  have hbn : b < n := hT.1.1
  have hb0 : am_k0 ≤ b := am_ownO hT.2.2.2.2.2.1 hb
  have hr := am_recv hC.2.2.2.2.2.2.2.2.2.2.2.1 hT.2.2.1 hb hbn hb0 hc
  subst hq
  refine va_castE hC.1 hC.2.1 hC.2.2.2.2.1 (hC.2.2.2.2.2.1 _ hl) hr hd ?_
  exact am_k kk hC hR ⟨hT.1, hT.2⟩ hcs
