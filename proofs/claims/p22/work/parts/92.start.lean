/-! ===== the start: what the tables and the start say, for the walk ===== -/
theorem lw_tW {s : State} {b : Nat} (hts : ∀ w ∈ lw_tbl, w.before #[Value.ref b] s = true) : ∀ w ∈ am_W, w.before #[Value.ref b] s = true := fun w h => hts w (List.mem_filter.mp h).1
theorem lw_kn0 {s : State} {b : Nat} (hts : ∀ w ∈ lw_tbl, w.before #[Value.ref b] s = true) : ∃ (cC : ClassId) (iS : Nat → Nat), u_Kn s RX0 TX0 5 cC iS := u_known (lw_tW hts) uX0 (show (Cond.instantiable RX0 5).before _ s = true from hts _ (List.mem_of_getElem? (i := 190) (by decide +kernel)))
theorem lw_kn1 {s : State} {b : Nat} (hts : ∀ w ∈ lw_tbl, w.before #[Value.ref b] s = true) : ∃ (cC : ClassId) (iS : Nat → Nat), u_Kn s RX1 TX1 2 cC iS := u_known (lw_tW hts) uX1 (show (Cond.instantiable RX1 2).before _ s = true from hts _ (List.mem_of_getElem? (i := 183) (by decide +kernel)))
theorem lw_kn2 {s : State} {b : Nat} (hts : ∀ w ∈ lw_tbl, w.before #[Value.ref b] s = true) : ∃ (cC : ClassId) (iS : Nat → Nat), u_Kn s RX2 TX2 16 cC iS := u_known (lw_tW hts) uX2 (show (Cond.instantiable RX2 16).before _ s = true from hts _ (List.mem_of_getElem? (i := 232) (by decide +kernel)))
theorem lw_kn3 {s : State} {b : Nat} (hts : ∀ w ∈ lw_tbl, w.before #[Value.ref b] s = true) : ∃ (cC : ClassId) (iS : Nat → Nat), u_Kn s RX3 TX3 5 cC iS := u_known (lw_tW hts) uX3 (show (Cond.instantiable RX3 5).before _ s = true from hts _ (List.mem_of_getElem? (i := 225) (by decide +kernel)))
theorem lw_kn4 {s : State} {b : Nat} (hts : ∀ w ∈ lw_tbl, w.before #[Value.ref b] s = true) : ∃ (cC : ClassId) (iS : Nat → Nat), u_Kn s RX4 TX4 3 cC iS := u_known (lw_tW hts) uX4 (show (Cond.instantiable RX4 3).before _ s = true from hts _ (List.mem_of_getElem? (i := 166) (by decide +kernel)))
theorem lw_kn5 {s : State} {b : Nat} (hts : ∀ w ∈ lw_tbl, w.before #[Value.ref b] s = true) : ∃ (cC : ClassId) (iS : Nat → Nat), u_Kn s RX5 TX5 8 cC iS := u_known (lw_tW hts) uX5 (show (Cond.instantiable RX5 8).before _ s = true from hts _ (List.mem_of_getElem? (i := 119) (by decide +kernel)))
theorem lw_kn6 {s : State} {b : Nat} (hts : ∀ w ∈ lw_tbl, w.before #[Value.ref b] s = true) : ∃ (cC : ClassId) (iS : Nat → Nat), u_Kn s RX6 TX6 3 cC iS := u_known (lw_tW hts) uX6 (show (Cond.instantiable RX6 3).before _ s = true from hts _ (List.mem_of_getElem? (i := 100) (by decide +kernel)))
theorem lw_kn7 {s : State} {b : Nat} (hts : ∀ w ∈ lw_tbl, w.before #[Value.ref b] s = true) : ∃ (cC : ClassId) (iS : Nat → Nat), u_Kn s RX7 TX7 11 cC iS := u_known (lw_tW hts) uX7 (show (Cond.instantiable RX7 11).before _ s = true from hts _ (List.mem_of_getElem? (i := 92) (by decide +kernel)))
theorem lw_kn8 {s : State} {b : Nat} (hts : ∀ w ∈ lw_tbl, w.before #[Value.ref b] s = true) : ∃ (cC : ClassId) (iS : Nat → Nat), u_Kn s RX8 TX8 5 cC iS := u_known (lw_tW hts) uX8 (show (Cond.instantiable RX8 5).before _ s = true from hts _ (List.mem_of_getElem? (i := 1040) (by decide +kernel)))
theorem lw_kn9 {s : State} {b : Nat} (hts : ∀ w ∈ lw_tbl, w.before #[Value.ref b] s = true) : ∃ (cC : ClassId) (iS : Nat → Nat), u_Kn s RX9 TX9 15 cC iS := u_known (lw_tW hts) uX9 (show (Cond.instantiable RX9 15).before _ s = true from hts _ (List.mem_of_getElem? (i := 1324) (by decide +kernel)))
theorem lw_kn10 {s : State} {b : Nat} (hts : ∀ w ∈ lw_tbl, w.before #[Value.ref b] s = true) : ∃ (cC : ClassId) (iS : Nat → Nat), u_Kn s RX10 TX10 8 cC iS := u_known (lw_tW hts) uX10 (show (Cond.instantiable RX10 8).before _ s = true from hts _ (List.mem_of_getElem? (i := 1225) (by decide +kernel)))
theorem lw_kn11 {s : State} {b : Nat} (hts : ∀ w ∈ lw_tbl, w.before #[Value.ref b] s = true) : ∃ (cC : ClassId) (iS : Nat → Nat), u_Kn s RX11 TX11 4 cC iS := u_known (lw_tW hts) uX11 (show (Cond.instantiable RX11 4).before _ s = true from hts _ (List.mem_of_getElem? (i := 1164) (by decide +kernel)))
theorem lw_kn12 {s : State} {b : Nat} (hts : ∀ w ∈ lw_tbl, w.before #[Value.ref b] s = true) : ∃ (cC : ClassId) (iS : Nat → Nat), u_Kn s RX12 TX12 13 cC iS := u_known (lw_tW hts) uX12 (show (Cond.instantiable RX12 13).before _ s = true from hts _ (List.mem_of_getElem? (i := 946) (by decide +kernel)))
theorem lw_kn13 {s : State} {b : Nat} (hts : ∀ w ∈ lw_tbl, w.before #[Value.ref b] s = true) : ∃ (cC : ClassId) (iS : Nat → Nat), u_Kn s RJx4a65c TJx4a65c 3 cC iS := u_known (lw_tW hts) uJx4a65c (show (Cond.instantiable RJx4a65c 3).before _ s = true from hts _ (List.mem_of_getElem? (i := 954) (by decide +kernel)))
theorem lw_kn {s : State} {b : Nat} (hts : ∀ w ∈ lw_tbl, w.before #[Value.ref b] s = true) : ∀ q ∈ vwCl, ∃ (cC : ClassId) (iS : Nat → Nat), u_Kn s q.1 q.2.1 q.2.2 cC iS := List.forall_mem_cons.mpr ⟨lw_kn0 hts, List.forall_mem_cons.mpr ⟨lw_kn1 hts, List.forall_mem_cons.mpr ⟨lw_kn2 hts, List.forall_mem_cons.mpr ⟨lw_kn3 hts, List.forall_mem_cons.mpr ⟨lw_kn4 hts, List.forall_mem_cons.mpr ⟨lw_kn5 hts, List.forall_mem_cons.mpr ⟨lw_kn6 hts, List.forall_mem_cons.mpr ⟨lw_kn7 hts, List.forall_mem_cons.mpr ⟨lw_kn8 hts, List.forall_mem_cons.mpr ⟨lw_kn9 hts, List.forall_mem_cons.mpr ⟨lw_kn10 hts, List.forall_mem_cons.mpr ⟨lw_kn11 hts, List.forall_mem_cons.mpr ⟨lw_kn12 hts, List.forall_mem_cons.mpr ⟨lw_kn13 hts, fun _ h => absurd h List.not_mem_nil⟩⟩⟩⟩⟩⟩⟩⟩⟩⟩⟩⟩⟩⟩
theorem lw_arP {s : State} {b : Nat} {ty : FieldType} (h : (Cond.arrayClass ty).before #[Value.ref b] s = true) (hne : ∀ C, ty ≠ .object C) : ∃ cA : ClassId, ArrOfT s cA ty ∧ va_RA s cA ty := by
  obtain ⟨cA, kA, comp, h1, h2, h3⟩ := Cond.arrayClass_spec h
  refine ⟨cA, fun n z => ⟨(fun k h => by cases h), kA, h2, comp, h3⟩, ?_⟩
  cases ty with
  | object C => exact absurd rfl (hne C)
  | _ => exact h1
theorem lw_arO {s : State} {b : Nat} {C : String} (h : (Cond.arrayOver (.object C)).before #[Value.ref b] s = true) : ∃ cA : ClassId, ArrOfT s cA (.object C) ∧ va_RA s cA (.object C) := by
  obtain ⟨comp, cA, kA, h1, -, h2, h3, h4⟩ := Cond.arrayOver_spec h
  exact ⟨cA, fun n z => ⟨(fun k h => by cases h), kA, h2, comp, h3⟩, kA, comp, h2, h3, h1, h4⟩
theorem lw_ar0 {s : State} {b : Nat} (hts : ∀ w ∈ lw_tbl, w.before #[Value.ref b] s = true) : ∃ cA : ClassId, ArrOfT s cA (.int) ∧ va_RA s cA (.int) := lw_arP (hts _ (List.mem_of_getElem? (i := 117) (by decide +kernel))) (fun _ h => by cases h)
theorem lw_ar1 {s : State} {b : Nat} (hts : ∀ w ∈ lw_tbl, w.before #[Value.ref b] s = true) : ∃ cA : ClassId, ArrOfT s cA (.long) ∧ va_RA s cA (.long) := lw_arP (hts _ (List.mem_of_getElem? (i := 181) (by decide +kernel))) (fun _ h => by cases h)
theorem lw_ar2 {s : State} {b : Nat} (hts : ∀ w ∈ lw_tbl, w.before #[Value.ref b] s = true) : ∃ cA : ClassId, ArrOfT s cA (.float) ∧ va_RA s cA (.float) := lw_arP (hts _ (List.mem_of_getElem? (i := 307) (by decide +kernel))) (fun _ h => by cases h)
theorem lw_ar3 {s : State} {b : Nat} (hts : ∀ w ∈ lw_tbl, w.before #[Value.ref b] s = true) : ∃ cA : ClassId, ArrOfT s cA (.boolean) ∧ va_RA s cA (.boolean) := lw_arP (hts _ (List.mem_of_getElem? (i := 1210) (by decide +kernel))) (fun _ h => by cases h)
theorem lw_ar4 {s : State} {b : Nat} (hts : ∀ w ∈ lw_tbl, w.before #[Value.ref b] s = true) : ∃ cA : ClassId, ArrOfT s cA (.object "Palmward$Area") ∧ va_RA s cA (.object "Palmward$Area") := lw_arO (hts _ (List.mem_of_getElem? (i := 189) (by decide +kernel)))
theorem lw_ar5 {s : State} {b : Nat} (hts : ∀ w ∈ lw_tbl, w.before #[Value.ref b] s = true) : ∃ cA : ClassId, ArrOfT s cA (.object "Palmward$Contact") ∧ va_RA s cA (.object "Palmward$Contact") := lw_arO (hts _ (List.mem_of_getElem? (i := 231) (by decide +kernel)))
theorem lw_ar6 {s : State} {b : Nat} (hts : ∀ w ∈ lw_tbl, w.before #[Value.ref b] s = true) : ∃ cA : ClassId, ArrOfT s cA (.double) ∧ va_RA s cA (.double) := lw_arP (hts _ (List.mem_of_getElem? (i := 1542) (by decide +kernel))) (fun _ h => by cases h)
theorem lw_ar7 {s : State} {b : Nat} (hts : ∀ w ∈ lw_tbl, w.before #[Value.ref b] s = true) : ∃ cA : ClassId, ArrOfT s cA (.object "PalmwardModel$Contact") ∧ va_RA s cA (.object "PalmwardModel$Contact") := lw_arO (hts _ (List.mem_of_getElem? (i := 952) (by decide +kernel)))
theorem lw_ar8 {s : State} {b : Nat} (hts : ∀ w ∈ lw_tbl, w.before #[Value.ref b] s = true) : ∃ cA : ClassId, ArrOfT s cA (.object "java/lang/Object") ∧ va_RA s cA (.object "java/lang/Object") := lw_arO (hts _ (List.mem_of_getElem? (i := 1118) (by decide +kernel)))
theorem lw_ar {s : State} {b : Nat} (hts : ∀ w ∈ lw_tbl, w.before #[Value.ref b] s = true) : ∀ ty ∈ am_tyl, ∃ cA : ClassId, ArrOfT s cA ty ∧ va_RA s cA ty := List.forall_mem_cons.mpr ⟨lw_ar0 hts, List.forall_mem_cons.mpr ⟨lw_ar1 hts, List.forall_mem_cons.mpr ⟨lw_ar2 hts, List.forall_mem_cons.mpr ⟨lw_ar3 hts, List.forall_mem_cons.mpr ⟨lw_ar4 hts, List.forall_mem_cons.mpr ⟨lw_ar5 hts, List.forall_mem_cons.mpr ⟨lw_ar6 hts, List.forall_mem_cons.mpr ⟨lw_ar7 hts, List.forall_mem_cons.mpr ⟨lw_ar8 hts, fun _ h => absurd h List.not_mem_nil⟩⟩⟩⟩⟩⟩⟩⟩⟩
theorem lw_S {s : State} {b : Nat} (hts : ∀ w ∈ lw_tbl, w.before #[Value.ref b] s = true) (hgv : (Jvm.Cond.and given_1 narrow_1).before #[Value.ref b] s = true) : ∃ (D : va_G) (cA : Nat → ClassId), am_S D cA (fun q => s.heap.size ≤ q) s := by
  have hn := flat_of_before _ hgv
  have k1 : ∀ c : Nat, ∃ (cC : ClassId) (iS : Nat → Nat), ∀ q, vwCl[c]? = some q → u_Kn s q.1 q.2.1 q.2.2 cC iS := fun c => by
    cases hc : vwCl[c]? with
    | none => exact ⟨0, fun _ => 0, fun q h => by cases h⟩
    | some q =>
      obtain ⟨cC, iS, h⟩ := lw_kn hts q (List.mem_of_getElem? hc)
      exact ⟨cC, iS, fun q' h' => by cases h'; exact h⟩
  have k2 : ∀ t : Nat, ∃ cA : ClassId, ∀ ty, am_tyl[t]? = some ty → ArrOfT s cA ty ∧ va_RA s cA ty := fun t => by
    cases ht : am_tyl[t]? with
    | none => exact ⟨0, fun q h => by cases h⟩
    | some ty =>
      obtain ⟨cA, h⟩ := lw_ar hts ty (List.mem_of_getElem? ht)
      exact ⟨cA, fun q' h' => by cases h'; exact h⟩
  refine ⟨(fun c => (k1 c).choose, fun c => (k1 c).choose_spec.choose), fun t => (k2 t).choose, ⟨fun c q hq => (k1 c).choose_spec.choose_spec q hq, fun k q hk => ?_⟩, ⟨fun q hq => ?_, fun q hq => ?_⟩, fun q hq => ?_, fun q hq => ?_, fun q hq => ?_, ?_, ?_, fun w hw => ?_⟩
  · unfold am_tys at hk
    rw [List.getElem?_map] at hk
    cases hr : (List.range am_tyl.length)[k]? with
    | none => rw [hr] at hk; cases hk
    | some k' =>
      rw [hr] at hk
      obtain ⟨hk1, hk2⟩ := List.getElem?_eq_some_iff.mp hr
      rw [List.getElem_range] at hk2
      rw [List.length_range] at hk1
      subst hk2
      cases hk
      refine (k2 k).choose_spec _ ?_
      show am_tyl[k]? = some (am_tyl.getD k .int)
      rw [List.getD_eq_getElem?_getD, List.getElem?_eq_getElem hk1]
      rfl
  · have h : ∀ q ∈ am_nst, Cond.methodLinkNest q.1 q.2.1 q.2.2.1 q.2.2.2 ∈ lw_tbl := by decide +kernel
    exact va_Nw.of rfl (hts _ (h q hq))
  · have h : ∀ q ∈ am_nfl, Cond.fieldLinkNest q.1 q.2.1 q.2.2.1 q.2.2.2.1 q.2.2.2.2.1 q.2.2.2.2.2 ∈ lw_tbl := by decide +kernel
    exact va_Nw.of rfl (hts _ (h q hq))
  · have h1 : ∀ q ∈ am_str, Cond.stringRef q.1 q.2.1 q.2.2 ∈ lw_tbl := by decide +kernel
    have h2 : ∀ q ∈ am_str, Cond.exactly (.string q.1 q.2.1) "java/lang/String" ∈ flatC (Jvm.Cond.and given_1 narrow_1) := by decide +kernel
    obtain ⟨a, c, cell, k, e, -⟩ := Cond.exactly_spec (hn _ (h2 q hq))
    exact ⟨a, vk_R.of (hts _ (h1 q hq)) e⟩
  · have h : ∀ q ∈ am_ncs, Cond.not (.castable q.1 q.2) ∈ flatC (Jvm.Cond.and given_1 narrow_1) := by decide +kernel
    exact va_Nc.of (hn _ (h q hq))
  · have h : ∀ q ∈ am_aov, Cond.arrayOver (.object q) ∈ lw_tbl := by decide +kernel
    exact va_AO.of (hts _ (h q hq))
  · exact vx_Zqof (hts _ (List.mem_of_getElem? (i := 710) (by decide +kernel))) (hts _ (List.mem_of_getElem? (i := 72) (by decide +kernel))) (hn _ (by decide +kernel)) (fun a h1 h2 => by omega)
  · exact vx_Zqof (hts _ (List.mem_of_getElem? (i := 712) (by decide +kernel))) (hts _ (List.mem_of_getElem? (i := 72) (by decide +kernel))) (hn _ (by decide +kernel)) (fun a h1 h2 => by omega)
  · have h := (List.mem_filter.mp hw).2
    simp only [Bool.and_eq_true] at h
    exact va_Nw.of h.2 (hts _ (List.mem_filter.mp hw).1)
theorem lw_len0 {args : Array Value} {s : State} {t : Term} (h : (Cond.eq (.length t) (.int 0)).before args s = true) : ∃ a cell, t.eval args s none [] s = some (.ref a) ∧ s.arrayAt? a = some cell ∧ cell.slots.size = 0 := by
  cases hv : (Term.length t).eval args s none [] s with
  | none => simp [Cond.before, Cond.holds, Cond.value, hv] at h
  | some w =>
    have hz : (Term.int 0).eval args s none [] s = some (.int 0) := rfl
    obtain ⟨a, cell, h1, h2, rfl⟩ := Term.length_spec hv
    refine ⟨a, cell, h1, h2, ?_⟩
    have hlt : cell.slots.size < 2 ^ 31 := by
      simp only [Term.eval, h1, h2, Option.bind_eq_bind, Option.bind_some] at hv
      split at hv
      · assumption
      · cases hv
    simp only [Cond.before, Cond.holds, Cond.value, hv, hz] at h
    have he : cell.slots.size.toInt32 = 0 := by simpa using h
    have h3 := congrArg Int32.toInt he
    rw [show cell.slots.size.toInt32 = nI cell.slots.size from rfl, nI_toInt hlt] at h3
    have h4 : (cell.slots.size : Int) = 0 := h3
    omega
theorem lw_E1 {s : State} {b : Nat} (hts : ∀ w ∈ lw_tbl, w.before #[Value.ref b] s = true) (hgv : (Jvm.Cond.and given_1 narrow_1).before #[Value.ref b] s = true) : ∃ a : Nat, am_x 1 (.inl (21, 0, .inr (.inr (.inr (.inr (fun _ => none)))))) a (fun q => s.heap.size ≤ q) s ∧ a < s.heap.size := by
  have hn := flat_of_before _ hgv
  obtain ⟨a, cell, h1, h2, h3⟩ := lw_len0 (t := .static "java/util/ArrayList" "DEFAULTCAPACITY_EMPTY_ELEMENTDATA" "[Ljava/lang/Object;") (hn _ (by decide +kernel))
  obtain ⟨h4, -, -, -⟩ := State.arrayAt?_spec h2
  have h5 := Cond.arrayOf_spec (ty := .object "java/lang/Object") (hn (Cond.arrayOf (.static "java/util/ArrayList" "DEFAULTCAPACITY_EMPTY_ELEMENTDATA" "[Ljava/lang/Object;") (.object "java/lang/Object")) (by decide +kernel)) h1 h4
  exact ⟨a, ⟨rfl, ⟨cell, h4, h5.1, h5.2, h3⟩, va_Zof (hts _ (List.mem_of_getElem? (i := 966) (by decide +kernel))) (hts _ (List.mem_of_getElem? (i := 71) (by decide +kernel))) h1 (fun q h1 h2 => by omega)⟩, (Array.getElem?_eq_some_iff.mp h4).1⟩
theorem lw_noL {s t : State} {L : List Loc} {k n : Nat} (h : s.sameButNew t L k n) (hL : ∀ q ∈ L, s.heap.size ≤ q.base) : s.sameButNew t [] k n := by
  obtain ⟨h1, h2, h3, h4, h5, h6⟩ := h
  refine ⟨h1, h2, h3, h4, h5, fun a c hc => ?_⟩
  obtain ⟨c', q1, q2, q3, q4⟩ := h6 a c hc
  refine ⟨c', q1, q2, q3, fun i _ => q4 i fun hi => ?_⟩
  have h7 := hL _ hi
  have h8 := (Array.getElem?_eq_some_iff.mp hc).1
  exact absurd h8 (Nat.not_lt.mpr h7)
def lw_f0 (L : Nat) (xs : Nat → Int32) : Nat → am_C := fun i => match i with
  | 0 => .inl (20, L, .inl xs)
  | _ => .inl (21, 0, .inr (.inr (.inr (.inr (fun _ => none)))))
def lw_ρ0 (b a : Nat) : Nat → Nat := fun i => match i with
  | 0 => b
  | _ => a
theorem lw_fin {s t : State} {below : List Frame} {b : Nat} {D : va_G} {cA : Nat → ClassId} {A : Nat → Prop} {n0 : am_n} {ρ0 : Nat → Nat} (hA : ∀ q, A q → s.heap.size ≤ q) (h : vx_MQ below (am_Q D cA A n0 ρ0 l_P) (am_X D cA A n0 ρ0 l_P) #[Value.ref b] s 327733 8104666 A t) : lw_Z below #[Value.ref b] s t := by
  obtain ⟨o, a1, a2, a3⟩ := h
  rcases a3 with ⟨⟨⟨v, n, f, ρ, e, hP, -⟩, -⟩, L, hE, hL⟩ | ⟨q, -, E, ce, L, ⟨⟨k, n, f, ρ, -, hP, -⟩, -⟩, -⟩
  · have hv : v = some (.int 1) := by
      have h : (Sum.inl v : Option Value ⊕ Nat) = .inl (some (.int 1)) := hP
      exact Sum.inl.inj h
    subst hv
    refine ⟨o, a1, a2, e, lw_closed (s := s) (t := t) (o := o) (d0 := s.drawn) (Drawn.sameBut.refl _ _) ⟨_, e⟩ hE.2.1 ((lw_noL (s := s) hE.2.2 (fun q hq => hA _ (hL q hq))).mono (by decide) (by decide))⟩
  · have h : (Sum.inr k : Option Value ⊕ Nat) = .inl (some (.int 1)) := hP
    cases h
/-- YOUR PART: from the entry, the law comes to its end with true -/
theorem whole_start {p : Program} {e : Env} {s : State} {m : MethodId} {below : List Frame} {meth : Method} {c : Code} (l : Launch) (hflags : l.flags = flags0) {b L : Nat} {xs : Nat → Int32} (hL : L ≤ 2560) (C0 : lw_At p s m meth c b L xs) : W p l e room_1 s m #[Value.ref b] below meth c s.heap [] 0 0 (lw_Z below #[Value.ref b] s) (entryFrame m ([Value.ref b] : List Value).toArray 9) := by
  obtain ⟨hx, hb, hr, hml, hown, hts, hX, hbl, hlk, hgv, hnt, hnm⟩ := C0
  obtain ⟨D, cA, hS⟩ := lw_S hts hgv
  obtain ⟨a1, hE1, ha1⟩ := lw_E1 hts hgv
  rw [lg_entry_eq]
  have hl : l.stackTraces = false := by
    unfold Launch.stackTraces
    rw [hflags]
    decide +kernel
  have hC : am_K mL_law D cA p l s m #[Value.ref b] meth c (fun q => s.heap.size ≤ q) := ⟨hx, hb, hr, hml, hown, lw_tW hts, hlk, hnt, hl, hnm, fun q h => h, hS⟩
  refine am_W_mono (fun t h => lw_fin (D := D) (cA := cA) (A := fun q => s.heap.size ≤ q) (n0 := (2, lw_f0 L xs)) (ρ0 := lw_ρ0 b a1) (fun q h => h) h) ?_
  have hk := l_law (f := lw_f0 L xs) (xs := xs) (N := L) rfl hL
  refine am_k (ρ := lw_ρ0 b a1) hk hC ⟨by decide, by decide, by decide, by decide⟩ ⟨trivial, ⟨am_en_n (vs := [.ref 0]) (nL := 9) ⟨show 0 < 2 by decide, trivial⟩, am_en_L (ρ := lw_ρ0 b a1) (vs := [.ref 0]) (nL := 9) (show 1 ≤ 9 by decide)⟩, ?_⟩ ⟨by decide, by decide⟩
  refine ⟨fun k q h => by simp [am_w, am_k0] at h, ⟨fun i j p q h => by simp [am_w, am_k0] at h, fun k q h => by simp [am_w, am_k0] at h⟩, ⟨Nat.le_refl _, fun _ _ _ => rfl, fun l h => absurd h List.not_mem_nil⟩, ⟨Nat.le_refl _, Nat.le_of_ble_eq_true rfl, fun _ _ => rfl, ?_⟩, fun _ _ => rfl, ?_⟩
  · intro i hi
    match i, hi with
    | 0, _ => exact ⟨⟨L, xs, rfl, hX⟩, hbl, Nat.not_le_of_lt hbl⟩
    | 1, _ => exact ⟨hE1, ha1, Nat.not_le_of_lt ha1⟩
  · intro i hi
    match i, hi with
    | 0, _ => exact trivial
    | 1, _ => exact fun j i h => by cases h

