/-! ===== Picture: look, and what is read off it; Sheet.settle ===== -/
section Picture4
variable {i j n : Nat} {f : Nat → am_C} {sig reg pc px py chn w bs : Nat → Int32} {pk hm ht : Int32}
theorem s_look (h : m_Pic f i sig reg pc px py chn pk hm) (hS : m_Sh f j w bs ht) (hd : j + 2 < i ∨ i + 6 < j) : AM mX5_look 0 0 [.ref i, .ref j] n f (fun o n' f' => ∃ pc' px' py' chn', o = .inl none ∧ n = n' ∧ f' = m_put f i (fun k => ht + w k - bs k) (m_reg (fun k => ht + w k - bs k)) pc' px' py' chn' (nI (m_pks (fun k => ht + w k - bs k) 48).length) (m_hum (fun k => ht + w k - bs k)) ∧ m_pkOk (fun k => ht + w k - bs k) (m_pks (fun k => ht + w k - bs k) 48) pc' px' py') := by
  generalize hsg : (fun k => ht + w k - bs k) = sg
  have h0 := h.put
  generalize hQ : (fun (o : Option Value ⊕ Nat) (n' : Nat) (f' : Nat → am_C) => ∃ pc' px' py' chn', o = .inl none ∧ n = n' ∧ f' = m_put f i sg (m_reg sg) pc' px' py' chn' (nI (m_pks sg 48).length) (m_hum sg) ∧ m_pkOk sg (m_pks sg 48) pc' px' py') = Q
  have hput : ∀ (a b c d e g a' b' c' d' e' g' : Nat → Int32) (x y x' y' : Int32), m_put (m_put f i a b c d e g x y) i a' b' c' d' e' g' x' y' = m_put f i a' b' c' d' e' g' x' y' := by
    intro a b c d e g a' b' c' d' e' g' x y x' y'
    exact m_put_ext (by rw [m_put_a0, m_put_a0]) m_put_a1 m_put_a2 m_put_a3 m_put_a4 m_put_a5 m_put_a6 (fun z hz => (m_put_out hz).trans (m_put_out hz))
  show AW mX5_look 0 0 0 [some (.ref i), some (.ref j), none] [] n f _
  have hB : ∀ z : Option Value, AW mX5_look 0 0 32 [some (.ref i), some (.ref j), z] [] n (m_put f i sg (fun _ => 0) pc px py chn pk hm) Q := by
    intro z
    refine am_iconst 32 (v := 0) dX5_look_32 (by decide) ?_
    refine am_istore_n 33 dX5_look_33 (by decide) ?_
    refine am_for 48 (fun _ (_ : Nat → Int32) => True) (fun k (ch : Nat → Int32) => AW mX5_look 0 0 34 [some (.ref i), some (.ref j), some (.int (nI k))] [] n (m_put f i sg (m_regs sg k) pc px py ch pk hm) Q) ?_ ?_ 0 chn (by omega) trivial
    · rintro ch -
      refine am_iload_n 34 dX5_look_34 rfl ?_
      refine am_bipush 35 (v := 48) dX5_look_35 (by decide) ?_
      refine am_icmp_ge 37 68 dX5_look_37 rfl (fun c37 => ?_) (fun c37 => absurd (by decide) c37)
      refine am_aload_n 68 dX5_look_68 rfl ?_
      refine am_V0 69 (mc' := 0) (ms' := 0) (rc := 0) (rs := 0) dX5_look_69 lX5_44 ⟨by decide, by decide⟩ (by first | assumption | exact m_put_a0 | exact m_put_a1 | exact m_put_a2 | exact m_put_a3 | exact m_put_a4 | exact m_put_a5 | exact m_put_a6) (Nat.le_of_ble_eq_true rfl) (Nat.le_of_ble_eq_true rfl) (s_findPeaks m_put_pic) ?_
      rintro o n' f' ⟨pc', px', py', rfl, rfl, rfl, hok⟩
      rw [hput]
      show AW mX5_look 0 0 72 [some (.ref i), some (.ref j), some (.int (nI 48))] [] n _ Q
      refine am_aload_n 72 dX5_look_72 rfl ?_
      refine am_aload_n 73 dX5_look_73 rfl ?_
      refine am_V0 74 (mc' := 0) (ms' := 0) (rc := 0) (rs := 0) dX5_look_74 lX5_47 ⟨by decide, by decide⟩ (by first | assumption | exact m_put_a0 | exact m_put_a1 | exact m_put_a2 | exact m_put_a3 | exact m_put_a4 | exact m_put_a5 | exact m_put_a6) (Nat.le_of_ble_eq_true rfl) (Nat.le_of_ble_eq_true rfl) (s_humNow m_put_pic) ?_
      refine am_is_ct ?_
      refine am_putfield 77 dX5_look_77 pX5_51 (by first | assumption | exact m_put_a0 | exact m_put_a1 | exact m_put_a2 | exact m_put_a3 | exact m_put_a4 | exact m_put_a5 | exact m_put_a6) rfl rfl (Nat.le_of_ble_eq_true rfl) ?_
      rw [show ∀ u v : Int32, (List.set [Value.ref (i + 1), .ref (i + 2), .ref (i + 3), .ref (i + 4), .ref (i + 5), .ref (i + 6), .int u, .int hm] 7 (.int v)) = [.ref (i + 1), .ref (i + 2), .ref (i + 3), .ref (i + 4), .ref (i + 5), .ref (i + 6), .int u, .int v] from fun _ _ => rfl, m_put_0]
      refine am_return 80 dX5_look_80 rfl ?_
      subst hQ
      exact ⟨pc', px', py', ch, rfl, rfl, rfl, hok⟩
    · rintro k ch hk - ih
      have hrg : m_regs sg (k + 1) = if 20 ≤ sg k ∧ m_regs sg k k = 0 then m_region sg k (m_regs sg k) else m_regs sg k := rfl
      refine am_iload_n 34 dX5_look_34 rfl ?_
      refine am_bipush 35 (v := 48) dX5_look_35 (by decide) ?_
      refine am_icmp_ge 37 68 dX5_look_37 rfl (fun c37 => absurd c37 (nI_ge hk (by decide))) (fun c37 => ?_)
      refine am_aload_n 40 dX5_look_40 rfl ?_
      refine am_iload_n 41 dX5_look_41 rfl ?_
      refine am_V1 42 (mc' := 0) (ms' := 0) (rc := 0) (rs := 0) dX5_look_42 lX5_36 ⟨by decide, by decide⟩ (by first | assumption | exact m_put_a0 | exact m_put_a1 | exact m_put_a2 | exact m_put_a3 | exact m_put_a4 | exact m_put_a5 | exact m_put_a6) (Nat.le_of_ble_eq_true rfl) (Nat.le_of_ble_eq_true rfl) (s_isTouched m_put_pic hk) ?_
      refine am_is_ct ?_
      refine am_if_eq 45 62 dX5_look_45 rfl (fun c45 => ?_) (fun c45 => ?_)
      · have hr2 : m_regs sg (k + 1) = m_regs sg k := by rw [hrg, if_neg fun z => m_tc_0.mp c45 z.1]
        rw [hr2] at ih
        refine am_iinc 62 (v := nI (k + 1)) dX5_look_62 rfl (nI_1 (k)) (by decide) ?_
        refine am_goto 65 (tgt := 34) dX5_look_65 rfl ?_
        exact ih _ trivial
      · have h20 : 20 ≤ sg k := Classical.not_not.mp fun z => c45 (m_tc_0.mpr z)
        refine am_aload_n 48 dX5_look_48 rfl ?_
        refine am_getfield 49 dX5_look_49 fX5_15 (by first | assumption | exact m_put_a0 | exact m_put_a1 | exact m_put_a2 | exact m_put_a3 | exact m_put_a4 | exact m_put_a5 | exact m_put_a6) rfl ?_
        refine am_iload_n 52 dX5_look_52 rfl ?_
        refine am_iaload 53 dX5_look_53 rfl (by first | assumption | exact m_put_a0 | exact m_put_a1 | exact m_put_a2 | exact m_put_a3 | exact m_put_a4 | exact m_put_a5 | exact m_put_a6) (am_ix hk (by decide)) ?_
        rw [nI_clamp (n := k) (by omega)]
        refine am_if_ne 54 62 dX5_look_54 rfl (fun c54 => ?_) (fun c54 => ?_)
        · have hr2 : m_regs sg (k + 1) = m_regs sg k := by rw [hrg, if_neg fun z => c54 z.2]
          rw [hr2] at ih
          refine am_iinc 62 (v := nI (k + 1)) dX5_look_62 rfl (nI_1 (k)) (by decide) ?_
          refine am_goto 65 (tgt := 34) dX5_look_65 rfl ?_
          exact ih _ trivial
        · have hr2 : m_regs sg (k + 1) = m_region sg k (m_regs sg k) := by rw [hrg, if_pos ⟨h20, c54⟩]
          rw [hr2] at ih
          refine am_aload_n 57 dX5_look_57 rfl ?_
          refine am_iload_n 58 dX5_look_58 rfl ?_
          refine am_V1 59 (mc' := 0) (ms' := 0) (rc := 0) (rs := 0) dX5_look_59 lX5_40 ⟨by decide, by decide⟩ (by first | assumption | exact m_put_a0 | exact m_put_a1 | exact m_put_a2 | exact m_put_a3 | exact m_put_a4 | exact m_put_a5 | exact m_put_a6) (Nat.le_of_ble_eq_true rfl) (Nat.le_of_ble_eq_true rfl) (s_measureRegion m_put_pic hk (m_regs_ok k (by omega)).1) ?_
          rintro o n' f' ⟨ch', rfl, rfl, rfl⟩
          rw [m_put_2, m_put_6]
          show AW mX5_look 0 0 62 [some (.ref i), some (.ref j), some (.int (nI k))] [] n _ Q
          refine am_iinc 62 (v := nI (k + 1)) dX5_look_62 rfl (nI_1 (k)) (by decide) ?_
          refine am_goto 65 (tgt := 34) dX5_look_65 rfl ?_
          exact ih _ trivial
  rw [h0]
  refine am_iconst 0 (v := 0) dX5_look_0 (by decide) ?_
  refine am_istore_n 1 dX5_look_1 (by decide) ?_
  refine am_for 48 (fun k (z : (Nat → Int32) × (Nat → Int32)) => ∀ x, x < k → z.1 x = sg x ∧ z.2 x = 0) (fun k z => AW mX5_look 0 0 2 [some (.ref i), some (.ref j), some (.int (nI k))] [] n (m_put f i z.1 z.2 pc px py chn pk hm) Q) ?_ ?_ 0 (sig, reg) (by omega) (fun x hx => by omega)
  · rintro ⟨a, b⟩ hab
    have hab : ∀ x, x < 48 → a x = sg x ∧ b x = 0 := hab
    show AW mX5_look 0 0 2 [some (.ref i), some (.ref j), some (.int (nI 48))] [] n (m_put f i a b pc px py chn pk hm) Q
    refine AW.ints sg m_put_a1 (fun x hx => (hab x hx).1) ?_
    rw [m_put_1]
    refine AW.ints (fun _ => 0) m_put_a2 (fun x hx => (hab x hx).2) ?_
    rw [m_put_2]
    refine am_iload_n 2 dX5_look_2 rfl ?_
    refine am_bipush 3 (v := 48) dX5_look_3 (by decide) ?_
    refine am_icmp_ge 5 32 dX5_look_5 rfl (fun c5 => ?_) (fun c5 => absurd (by decide) c5)
    exact hB _
  · rintro k ⟨a, b⟩ hk hab ih
    have hab : ∀ x, x < k → a x = sg x ∧ b x = 0 := hab
    show AW mX5_look 0 0 2 [some (.ref i), some (.ref j), some (.int (nI k))] [] n (m_put f i a b pc px py chn pk hm) Q
    have g0 := (hS.put (sig := a) (reg := b) (pc := pc) (px := px) (py := py) (chn := chn) (pk := pk) (hm := hm) hd)
    refine am_iload_n 2 dX5_look_2 rfl ?_
    refine am_bipush 3 (v := 48) dX5_look_3 (by decide) ?_
    refine am_icmp_ge 5 32 dX5_look_5 rfl (fun c5 => absurd c5 (nI_ge hk (by decide))) (fun c5 => ?_)
    refine am_aload_n 8 dX5_look_8 rfl ?_
    refine am_getfield 9 dX5_look_9 fX5_9 (by first | assumption | exact g0.1 | exact m_put_a0 | exact m_put_a1 | exact m_put_a2) rfl ?_
    refine am_iload_n 12 dX5_look_12 rfl ?_
    refine am_aload_n 13 dX5_look_13 rfl ?_
    refine am_iload_n 14 dX5_look_14 rfl ?_
    refine am_V1 15 (mc' := 0) (ms' := 0) (rc := 0) (rs := 0) dX5_look_15 lX5_30 ⟨by decide, by decide⟩ (by first | assumption | exact g0.1 | exact m_put_a0 | exact m_put_a1 | exact m_put_a2) (Nat.le_of_ble_eq_true rfl) (Nat.le_of_ble_eq_true rfl) (s_signalOf g0.1 g0.2.1 g0.2.2 hk) ?_
    refine am_is_ct ?_
    refine am_iastore 18 dX5_look_18 rfl (by first | assumption | exact g0.1 | exact m_put_a0 | exact m_put_a1 | exact m_put_a2) (am_ix hk (by decide)) ?_
    rw [nI_clamp (n := k) (by omega), m_put_1, show ht + w k - bs k = sg k from by rw [← hsg]]
    refine am_aload_n 19 dX5_look_19 rfl ?_
    refine am_getfield 20 dX5_look_20 fX5_15 (by first | assumption | exact g0.1 | exact m_put_a0 | exact m_put_a1 | exact m_put_a2) rfl ?_
    refine am_iload_n 23 dX5_look_23 rfl ?_
    refine am_iconst 24 (v := 0) dX5_look_24 (by decide) ?_
    refine am_iastore 25 dX5_look_25 rfl (by first | assumption | exact g0.1 | exact m_put_a0 | exact m_put_a1 | exact m_put_a2) (am_ix hk (by decide)) ?_
    rw [nI_clamp (n := k) (by omega), m_put_2]
    refine am_iinc 26 (v := nI (k + 1)) dX5_look_26 rfl (nI_1 (k)) (by decide) ?_
    refine am_goto 29 (tgt := 2) dX5_look_29 rfl ?_
    refine ih (_, _) (fun x hx => ?_)
    by_cases e : x = k
    · subst e
      exact ⟨am_up_eq, am_up_eq⟩
    · exact ⟨(am_up_ne e).trans (hab x (by omega)).1, (am_up_ne e).trans (hab x (by omega)).2⟩
theorem s_isCalm (h : m_Pic f i sig reg pc px py chn pk hm) : AM mX5_isCalm 0 0 [.ref i] n f (fun o n' f' => ∃ b : Bool, o = .inl (some (.int (m_bi b))) ∧ n = n' ∧ f' = f ∧ (b = true ↔ ∀ k, k < 48 → sig k = 0)) := by
  obtain ⟨h0, h1, h2, h3, h4, h5, h6⟩ := h
  show AW mX5_isCalm 0 0 0 [some (.ref i), none] [] n f _
  refine am_iconst 0 (v := 0) dX5_isCalm_0 (by decide) ?_
  refine am_istore_n 1 dX5_isCalm_1 (by decide) ?_
  refine am_for 48 (fun k (_ : Unit) => ∀ x, x < k → sig x = 0) (fun k _ => AW mX5_isCalm 0 0 2 [some (.ref i), some (.int (nI k))] [] n f _) ?_ ?_ 0 () (by omega) (fun x hx => by omega)
  · rintro ⟨⟩ hall
    refine am_iload_n 2 dX5_isCalm_2 rfl ?_
    refine am_bipush 3 (v := 48) dX5_isCalm_3 (by decide) ?_
    refine am_icmp_ge 5 25 dX5_isCalm_5 rfl (fun c5 => ?_) (fun c5 => absurd (by decide) c5)
    refine am_iconst 25 (v := 1) dX5_isCalm_25 (by decide) ?_
    refine am_ireturn 26 dX5_isCalm_26 rfl rfl ?_
    exact ⟨true, rfl, rfl, rfl, fun _ => hall, fun _ => rfl⟩
  · rintro k ⟨⟩ hk hall ih
    refine am_iload_n 2 dX5_isCalm_2 rfl ?_
    refine am_bipush 3 (v := 48) dX5_isCalm_3 (by decide) ?_
    refine am_icmp_ge 5 25 dX5_isCalm_5 rfl (fun c5 => absurd c5 (nI_ge hk (by decide))) (fun c5 => ?_)
    refine am_aload_n 8 dX5_isCalm_8 rfl ?_
    refine am_getfield 9 dX5_isCalm_9 fX5_9 (by repeat (first | assumption | exact am_ue | refine am_un (by first | assumption | decide | omega) ?_)) rfl ?_
    refine am_iload_n 12 dX5_isCalm_12 rfl ?_
    refine am_iaload 13 dX5_isCalm_13 rfl (by repeat (first | assumption | exact am_ue | refine am_un (by first | assumption | decide | omega) ?_)) (am_ix hk (by decide)) ?_
    rw [nI_clamp (n := k) (by omega)]
    refine am_if_eq 14 19 dX5_isCalm_14 rfl (fun c14 => ?_) (fun c14 => ?_)
    · refine am_iinc 19 (v := nI (k + 1)) dX5_isCalm_19 rfl (nI_1 (k)) (by decide) ?_
      refine am_goto 22 (tgt := 2) dX5_isCalm_22 rfl ?_
      refine ih () (fun x hx => ?_)
      by_cases e : x = k
      · subst e; exact c14
      · exact hall x (by omega)
    · refine am_iconst 17 (v := 0) dX5_isCalm_17 (by decide) ?_
      refine am_ireturn 18 dX5_isCalm_18 rfl rfl ?_
      exact ⟨false, rfl, rfl, rfl, fun z => absurd z (by decide), fun z => absurd (z k hk) c14⟩
theorem s_signalOfRow {y : Nat} (h : m_Pic f i sig reg pc px py chn pk hm) (hy : y < 6) : AM mX5_signalOfRow 0 0 [.ref i, .int (nI y)] n f (am_is (some (.int (m_I (fun x => sig (8 * y + x)) 8))) n f) := by
  obtain ⟨h0, h1, h2, h3, h4, h5, h6⟩ := h
  show AW mX5_signalOfRow 0 0 0 [some (.ref i), some (.int (nI y)), none, none] [] n f _
  refine am_iconst 0 (v := 0) dX5_signalOfRow_0 (by decide) ?_
  refine am_istore_n 1 dX5_signalOfRow_1 (by decide) ?_
  refine am_iconst 2 (v := 0) dX5_signalOfRow_2 (by decide) ?_
  refine am_istore_n 3 dX5_signalOfRow_3 (by decide) ?_
  refine am_for 8 (fun _ (_ : Unit) => True) (fun k _ => AW mX5_signalOfRow 0 0 4 [some (.ref i), some (.int (nI y)), some (.int (m_I (fun x => sig (8 * y + x)) k)), some (.int (nI k))] [] n f _) ?_ ?_ 0 () (by omega) trivial
  · rintro ⟨⟩ -
    refine am_iload_n 4 dX5_signalOfRow_4 rfl ?_
    refine am_bipush 5 (v := 8) dX5_signalOfRow_5 (by decide) ?_
    refine am_icmp_ge 7 30 dX5_signalOfRow_7 rfl (fun c7 => ?_) (fun c7 => absurd (by decide) c7)
    refine am_iload_n 30 dX5_signalOfRow_30 rfl ?_
    exact am_ireturn 31 dX5_signalOfRow_31 rfl rfl ⟨rfl, rfl, rfl⟩
  · rintro k ⟨⟩ hk - ih
    refine am_iload_n 4 dX5_signalOfRow_4 rfl ?_
    refine am_bipush 5 (v := 8) dX5_signalOfRow_5 (by decide) ?_
    refine am_icmp_ge 7 30 dX5_signalOfRow_7 rfl (fun c7 => absurd c7 (nI_ge hk (by decide))) (fun c7 => ?_)
    refine am_iload_n 10 dX5_signalOfRow_10 rfl ?_
    refine am_aload_n 11 dX5_signalOfRow_11 rfl ?_
    refine am_getfield 12 dX5_signalOfRow_12 fX5_9 (by repeat (first | assumption | exact am_ue | refine am_un (by first | assumption | decide | omega) ?_)) rfl ?_
    refine am_iload_n 15 dX5_signalOfRow_15 rfl ?_
    refine am_bipush 16 (v := 8) dX5_signalOfRow_16 (by decide) ?_
    refine am_imul 18 dX5_signalOfRow_18 ?_
    refine am_iload_n 19 dX5_signalOfRow_19 rfl ?_
    refine am_iadd 20 dX5_signalOfRow_20 ?_
    rw [am_cellN]
    refine am_iaload 21 dX5_signalOfRow_21 rfl (by repeat (first | assumption | exact am_ue | refine am_un (by first | assumption | decide | omega) ?_)) (am_ix (by omega) (by decide)) ?_
    rw [nI_clamp (n := 8 * y + k) (by omega)]
    refine am_iadd 22 dX5_signalOfRow_22 ?_
    refine am_istore_n 23 dX5_signalOfRow_23 (by decide) ?_
    refine am_iinc 24 (v := nI (k + 1)) dX5_signalOfRow_24 rfl (nI_1 (k)) (by decide) ?_
    refine am_goto 27 (tgt := 4) dX5_signalOfRow_27 rfl ?_
    exact ih () trivial
theorem s_touchedInRow {y : Nat} (h : m_Pic f i sig reg pc px py chn pk hm) (hy : y < 6) : AM mX5_touchedInRow 0 0 [.ref i, .int (nI y)] n f (am_is (some (.int (m_I (fun x => m_tc sig (8 * y + x)) 8))) n f) := by
  have hp := h
  obtain ⟨h0, h1, h2, h3, h4, h5, h6⟩ := h
  show AW mX5_touchedInRow 0 0 0 [some (.ref i), some (.int (nI y)), none, none] [] n f _
  refine am_iconst 0 (v := 0) dX5_touchedInRow_0 (by decide) ?_
  refine am_istore_n 1 dX5_touchedInRow_1 (by decide) ?_
  refine am_iconst 2 (v := 0) dX5_touchedInRow_2 (by decide) ?_
  refine am_istore_n 3 dX5_touchedInRow_3 (by decide) ?_
  refine am_for 8 (fun _ (_ : Unit) => True) (fun k _ => AW mX5_touchedInRow 0 0 4 [some (.ref i), some (.int (nI y)), some (.int (m_I (fun x => m_tc sig (8 * y + x)) k)), some (.int (nI k))] [] n f _) ?_ ?_ 0 () (by omega) trivial
  · rintro ⟨⟩ -
    refine am_iload_n 4 dX5_touchedInRow_4 rfl ?_
    refine am_bipush 5 (v := 8) dX5_touchedInRow_5 (by decide) ?_
    refine am_icmp_ge 7 37 dX5_touchedInRow_7 rfl (fun c7 => ?_) (fun c7 => absurd (by decide) c7)
    refine am_iload_n 37 dX5_touchedInRow_37 rfl ?_
    exact am_ireturn 38 dX5_touchedInRow_38 rfl rfl ⟨rfl, rfl, rfl⟩
  · rintro k ⟨⟩ hk - ih
    have ih := ih () trivial
    have e1 : m_I (fun x => m_tc sig (8 * y + x)) (k + 1) = m_I (fun x => m_tc sig (8 * y + x)) k + m_tc sig (8 * y + k) := rfl
    refine am_iload_n 4 dX5_touchedInRow_4 rfl ?_
    refine am_bipush 5 (v := 8) dX5_touchedInRow_5 (by decide) ?_
    refine am_icmp_ge 7 37 dX5_touchedInRow_7 rfl (fun c7 => absurd c7 (nI_ge hk (by decide))) (fun c7 => ?_)
    refine am_iload_n 10 dX5_touchedInRow_10 rfl ?_
    refine am_aload_n 11 dX5_touchedInRow_11 rfl ?_
    refine am_iload_n 12 dX5_touchedInRow_12 rfl ?_
    refine am_bipush 13 (v := 8) dX5_touchedInRow_13 (by decide) ?_
    refine am_imul 15 dX5_touchedInRow_15 ?_
    refine am_iload_n 16 dX5_touchedInRow_16 rfl ?_
    refine am_iadd 17 dX5_touchedInRow_17 ?_
    rw [am_cellN]
    refine am_V1 18 (mc' := 0) (ms' := 0) (rc := 0) (rs := 0) dX5_touchedInRow_18 lX5_36 ⟨by decide, by decide⟩ (by repeat (first | assumption | exact am_ue | refine am_un (by first | assumption | decide | omega) ?_)) (Nat.le_of_ble_eq_true rfl) (Nat.le_of_ble_eq_true rfl) (s_isTouched hp (c := 8 * y + k) (by omega)) ?_
    refine am_is_ct ?_
    refine am_if_eq 21 28 dX5_touchedInRow_21 rfl (fun c21 => ?_) (fun c21 => ?_)
    · rw [c21] at e1
      rw [e1] at ih
      refine am_iconst 28 (v := 0) dX5_touchedInRow_28 (by decide) ?_
      refine am_iadd 29 dX5_touchedInRow_29 ?_
      refine am_istore_n 30 dX5_touchedInRow_30 (by decide) ?_
      refine am_iinc 31 (v := nI (k + 1)) dX5_touchedInRow_31 rfl (nI_1 (k)) (by decide) ?_
      refine am_goto 34 (tgt := 4) dX5_touchedInRow_34 rfl ?_
      exact ih
    · have e2 : m_tc sig (8 * y + k) = 1 := by
        unfold m_tc at c21 ⊢
        split at c21
        · exact absurd rfl c21
        · rename_i h; rw [if_neg h]
      rw [e2] at e1
      rw [e1] at ih
      refine am_iconst 24 (v := 1) dX5_touchedInRow_24 (by decide) ?_
      refine am_goto 25 (tgt := 29) dX5_touchedInRow_25 rfl ?_
      refine am_iadd 29 dX5_touchedInRow_29 ?_
      refine am_istore_n 30 dX5_touchedInRow_30 (by decide) ?_
      refine am_iinc 31 (v := nI (k + 1)) dX5_touchedInRow_31 rfl (nI_1 (k)) (by decide) ?_
      refine am_goto 34 (tgt := 4) dX5_touchedInRow_34 rfl ?_
      exact ih
theorem s_sizeOf {k : Nat} (h : m_Look f i sig) (hk : k < (m_pks sig 48).length) : AM mX5_sizeOf 0 0 [.ref i, .int (nI k)] n f (am_is (some (.int (m_reg sig ((m_pks sig 48).getD k 0)))) n f) := by
  obtain ⟨pc, px, py, chn, ⟨h0, h1, h2, h3, h4, h5, h6⟩, hok⟩ := h
  have hl := m_pks_len (sig := sig) (k := 48)
  have hc := (m_pks48 hk).1
  show AW mX5_sizeOf 0 0 0 [some (.ref i), some (.int (nI k))] [] n f _
  refine am_aload_n 0 dX5_sizeOf_0 rfl ?_
  refine am_getfield 1 dX5_sizeOf_1 fX5_15 (by repeat (first | assumption | exact am_ue | refine am_un (by first | assumption | decide | omega) ?_)) rfl ?_
  refine am_aload_n 4 dX5_sizeOf_4 rfl ?_
  refine am_getfield 5 dX5_sizeOf_5 fX5_18 (by repeat (first | assumption | exact am_ue | refine am_un (by first | assumption | decide | omega) ?_)) rfl ?_
  refine am_iload_n 8 dX5_sizeOf_8 rfl ?_
  refine am_iaload 9 dX5_sizeOf_9 rfl (by repeat (first | assumption | exact am_ue | refine am_un (by first | assumption | decide | omega) ?_)) (am_ix (by omega) (by decide)) ?_
  rw [nI_clamp (n := k) (by omega), (hok k hk).1]
  refine am_iaload 10 dX5_sizeOf_10 rfl (by repeat (first | assumption | exact am_ue | refine am_un (by first | assumption | decide | omega) ?_)) (am_ix hc (by decide)) ?_
  rw [nI_clamp (n := (m_pks sig 48).getD k 0) (by omega)]
  exact am_ireturn 11 dX5_sizeOf_11 rfl rfl ⟨rfl, rfl, rfl⟩
theorem s_isPalm {k : Nat} (h : m_Look f i sig) (hk : k < (m_pks sig 48).length) : AM mX5_isPalm 0 0 [.ref i, .int (nI k)] n f (am_is (some (.int (if 14 < m_reg sig ((m_pks sig 48).getD k 0) then 1 else 0))) n f) := by
  have hL := h
  obtain ⟨pc, px, py, chn, ⟨h0, h1, h2, h3, h4, h5, h6⟩, hok⟩ := h
  show AW mX5_isPalm 0 0 0 [some (.ref i), some (.int (nI k))] [] n f _
  refine am_aload_n 0 dX5_isPalm_0 rfl ?_
  refine am_iload_n 1 dX5_isPalm_1 rfl ?_
  refine am_V1 2 (mc' := 0) (ms' := 0) (rc := 0) (rs := 0) dX5_isPalm_2 lX5_86 ⟨by decide, by decide⟩ (by repeat (first | assumption | exact am_ue | refine am_un (by first | assumption | decide | omega) ?_)) (Nat.le_of_ble_eq_true rfl) (Nat.le_of_ble_eq_true rfl) (s_sizeOf hL hk) ?_
  refine am_is_ct ?_
  refine am_bipush 5 (v := 14) dX5_isPalm_5 (by decide) ?_
  refine am_icmp_le 7 14 dX5_isPalm_7 rfl (fun c7 => ?_) (fun c7 => ?_)
  · refine am_iconst 14 (v := 0) dX5_isPalm_14 (by decide) ?_
    refine am_ireturn 15 dX5_isPalm_15 rfl rfl ?_
    exact ⟨by first | rw [if_pos (Int32.not_le.mp c7)] | rw [if_neg (Int32.not_lt.mpr c7)], rfl, rfl⟩
  · refine am_iconst 10 (v := 1) dX5_isPalm_10 (by decide) ?_
    refine am_goto 11 (tgt := 15) dX5_isPalm_11 rfl ?_
    refine am_ireturn 15 dX5_isPalm_15 rfl rfl ?_
    exact ⟨by first | rw [if_pos (Int32.not_le.mp c7)] | rw [if_neg (Int32.not_lt.mpr c7)], rfl, rfl⟩
theorem s_countPalms (h : m_Look f i sig) : AM mX5_countPalms 0 0 [.ref i] n f (am_is (some (.int (m_I (fun k => if 14 < m_reg sig ((m_pks sig 48).getD k 0) then 1 else 0) (m_pks sig 48).length))) n f) := by
  have hL := h
  obtain ⟨pc, px, py, chn, ⟨h0, h1, h2, h3, h4, h5, h6⟩, hok⟩ := h
  have hl := m_pks_len (sig := sig) (k := 48)
  show AW mX5_countPalms 0 0 0 [some (.ref i), none, none] [] n f _
  refine am_iconst 0 (v := 0) dX5_countPalms_0 (by decide) ?_
  refine am_istore_n 1 dX5_countPalms_1 (by decide) ?_
  refine am_iconst 2 (v := 0) dX5_countPalms_2 (by decide) ?_
  refine am_istore_n 3 dX5_countPalms_3 (by decide) ?_
  refine am_for (m_pks sig 48).length (fun _ (_ : Unit) => True) (fun k _ => AW mX5_countPalms 0 0 4 [some (.ref i), some (.int (m_I (fun k => if 14 < m_reg sig ((m_pks sig 48).getD k 0) then 1 else 0) k)), some (.int (nI k))] [] n f _) ?_ ?_ 0 () (by omega) trivial
  · rintro ⟨⟩ -
    refine am_iload_n 4 dX5_countPalms_4 rfl ?_
    refine am_aload_n 5 dX5_countPalms_5 rfl ?_
    refine am_getfield 6 dX5_countPalms_6 fX5_59 (by repeat (first | assumption | exact am_ue | refine am_un (by first | assumption | decide | omega) ?_)) rfl ?_
    refine am_icmp_ge 9 34 dX5_countPalms_9 rfl (fun c9 => ?_) (fun c9 => absurd (Int32.le_refl _) c9)
    refine am_iload_n 34 dX5_countPalms_34 rfl ?_
    exact am_ireturn 35 dX5_countPalms_35 rfl rfl ⟨rfl, rfl, rfl⟩
  · rintro k ⟨⟩ hk - ih
    have ih := ih () trivial
    have e1 : m_I (fun k => if 14 < m_reg sig ((m_pks sig 48).getD k 0) then (1 : Int32) else 0) (k + 1) = m_I (fun k => if 14 < m_reg sig ((m_pks sig 48).getD k 0) then 1 else 0) k + (if 14 < m_reg sig ((m_pks sig 48).getD k 0) then 1 else 0) := rfl
    rw [e1] at ih
    refine am_iload_n 4 dX5_countPalms_4 rfl ?_
    refine am_aload_n 5 dX5_countPalms_5 rfl ?_
    refine am_getfield 6 dX5_countPalms_6 fX5_59 (by repeat (first | assumption | exact am_ue | refine am_un (by first | assumption | decide | omega) ?_)) rfl ?_
    refine am_icmp_ge 9 34 dX5_countPalms_9 rfl (fun c9 => absurd c9 (nI_ge hk (by omega))) (fun c9 => ?_)
    refine am_iload_n 12 dX5_countPalms_12 rfl ?_
    refine am_aload_n 13 dX5_countPalms_13 rfl ?_
    refine am_iload_n 14 dX5_countPalms_14 rfl ?_
    refine am_V1 15 (mc' := 0) (ms' := 0) (rc := 0) (rs := 0) dX5_countPalms_15 lX5_89 ⟨by decide, by decide⟩ (by repeat (first | assumption | exact am_ue | refine am_un (by first | assumption | decide | omega) ?_)) (Nat.le_of_ble_eq_true rfl) (Nat.le_of_ble_eq_true rfl) (s_isPalm hL hk) ?_
    refine am_is_ct ?_
    refine am_if_eq 18 25 dX5_countPalms_18 rfl (fun c18 => ?_) (fun c18 => ?_)
    · rw [c18] at ih
      refine am_iconst 25 (v := 0) dX5_countPalms_25 (by decide) ?_
      refine am_iadd 26 dX5_countPalms_26 ?_
      refine am_istore_n 27 dX5_countPalms_27 (by decide) ?_
      refine am_iinc 28 (v := nI (k + 1)) dX5_countPalms_28 rfl (nI_1 (k)) (by decide) ?_
      refine am_goto 31 (tgt := 4) dX5_countPalms_31 rfl ?_
      exact ih
    · have e2 : (if 14 < m_reg sig ((m_pks sig 48).getD k 0) then (1 : Int32) else 0) = 1 := by
        split
        · rfl
        · rename_i h; exact absurd (if_neg h) c18
      rw [e2] at ih
      refine am_iconst 21 (v := 1) dX5_countPalms_21 (by decide) ?_
      refine am_goto 22 (tgt := 26) dX5_countPalms_22 rfl ?_
      refine am_iadd 26 dX5_countPalms_26 ?_
      refine am_istore_n 27 dX5_countPalms_27 (by decide) ?_
      refine am_iinc 28 (v := nI (k + 1)) dX5_countPalms_28 rfl (nI_1 (k)) (by decide) ?_
      refine am_goto 31 (tgt := 4) dX5_countPalms_31 rfl ?_
      exact ih
theorem s_peaksInRow {y : Nat} (h : m_Look f i sig) (hy : y < 6) : AM mX5_peaksInRow 0 0 [.ref i, .int (nI y)] n f (am_is (some (.int (m_I (fun k => if (m_pks sig 48).getD k 0 / 8 = y then 1 else 0) (m_pks sig 48).length))) n f) := by
  have hL := h
  obtain ⟨pc, px, py, chn, ⟨h0, h1, h2, h3, h4, h5, h6⟩, hok⟩ := h
  have hl := m_pks_len (sig := sig) (k := 48)
  show AW mX5_peaksInRow 0 0 0 [some (.ref i), some (.int (nI y)), none, none] [] n f _
  refine am_iconst 0 (v := 0) dX5_peaksInRow_0 (by decide) ?_
  refine am_istore_n 1 dX5_peaksInRow_1 (by decide) ?_
  refine am_iconst 2 (v := 0) dX5_peaksInRow_2 (by decide) ?_
  refine am_istore_n 3 dX5_peaksInRow_3 (by decide) ?_
  refine am_for (m_pks sig 48).length (fun _ (_ : Unit) => True) (fun k _ => AW mX5_peaksInRow 0 0 4 [some (.ref i), some (.int (nI y)), some (.int (m_I (fun k => if (m_pks sig 48).getD k 0 / 8 = y then 1 else 0) k)), some (.int (nI k))] [] n f _) ?_ ?_ 0 () (by omega) trivial
  · rintro ⟨⟩ -
    refine am_iload_n 4 dX5_peaksInRow_4 rfl ?_
    refine am_aload_n 5 dX5_peaksInRow_5 rfl ?_
    refine am_getfield 6 dX5_peaksInRow_6 fX5_59 (by repeat (first | assumption | exact am_ue | refine am_un (by first | assumption | decide | omega) ?_)) rfl ?_
    refine am_icmp_ge 9 39 dX5_peaksInRow_9 rfl (fun c9 => ?_) (fun c9 => absurd (Int32.le_refl _) c9)
    refine am_iload_n 39 dX5_peaksInRow_39 rfl ?_
    exact am_ireturn 40 dX5_peaksInRow_40 rfl rfl ⟨rfl, rfl, rfl⟩
  · rintro k ⟨⟩ hk - ih
    have ih := ih () trivial
    have hc := (m_pks48 hk).1
    have e1 : m_I (fun k => if (m_pks sig 48).getD k 0 / 8 = y then (1 : Int32) else 0) (k + 1) = m_I (fun k => if (m_pks sig 48).getD k 0 / 8 = y then 1 else 0) k + (if (m_pks sig 48).getD k 0 / 8 = y then 1 else 0) := rfl
    rw [e1] at ih
    refine am_iload_n 4 dX5_peaksInRow_4 rfl ?_
    refine am_aload_n 5 dX5_peaksInRow_5 rfl ?_
    refine am_getfield 6 dX5_peaksInRow_6 fX5_59 (by repeat (first | assumption | exact am_ue | refine am_un (by first | assumption | decide | omega) ?_)) rfl ?_
    refine am_icmp_ge 9 39 dX5_peaksInRow_9 rfl (fun c9 => absurd c9 (nI_ge hk (by omega))) (fun c9 => ?_)
    refine am_iload_n 12 dX5_peaksInRow_12 rfl ?_
    refine am_aload_n 13 dX5_peaksInRow_13 rfl ?_
    refine am_getfield 14 dX5_peaksInRow_14 fX5_18 (by repeat (first | assumption | exact am_ue | refine am_un (by first | assumption | decide | omega) ?_)) rfl ?_
    refine am_iload_n 17 dX5_peaksInRow_17 rfl ?_
    refine am_iaload 18 dX5_peaksInRow_18 rfl (by repeat (first | assumption | exact am_ue | refine am_un (by first | assumption | decide | omega) ?_)) (am_ix (by omega) (by decide)) ?_
    rw [nI_clamp (n := k) (by omega), (hok k hk).1]
    refine am_bipush 19 (v := 8) dX5_peaksInRow_19 (by decide) ?_
    refine am_idiv 21 dX5_peaksInRow_21 (by decide) ?_
    rw [am_div8 (by omega)]
    refine am_iload_n 22 dX5_peaksInRow_22 rfl ?_
    refine am_icmp_ne 23 30 dX5_peaksInRow_23 rfl (fun c23 => ?_) (fun c23 => ?_)
    · rw [if_neg (fun z => c23 (by rw [z]))] at ih
      refine am_iconst 30 (v := 0) dX5_peaksInRow_30 (by decide) ?_
      refine am_iadd 31 dX5_peaksInRow_31 ?_
      refine am_istore_n 32 dX5_peaksInRow_32 (by decide) ?_
      refine am_iinc 33 (v := nI (k + 1)) dX5_peaksInRow_33 rfl (nI_1 (k)) (by decide) ?_
      refine am_goto 36 (tgt := 4) dX5_peaksInRow_36 rfl ?_
      exact ih
    · rw [if_pos (am_eqN y c23 (by omega) (by omega))] at ih
      refine am_iconst 26 (v := 1) dX5_peaksInRow_26 (by decide) ?_
      refine am_goto 27 (tgt := 31) dX5_peaksInRow_27 rfl ?_
      refine am_iadd 31 dX5_peaksInRow_31 ?_
      refine am_istore_n 32 dX5_peaksInRow_32 (by decide) ?_
      refine am_iinc 33 (v := nI (k + 1)) dX5_peaksInRow_33 rfl (nI_1 (k)) (by decide) ?_
      refine am_goto 36 (tgt := 4) dX5_peaksInRow_36 rfl ?_
      exact ih
theorem s_peakAt {c : Nat} (h : m_Look f i sig) (hc : c < 48) : AM mX5_peakAt 0 0 [.ref i, .int (nI c)] n f (fun o n' f' => n = n' ∧ f' = f ∧ ((o = .inl (some (.int (-1))) ∧ c ∉ m_pks sig 48) ∨ ∃ k, k < (m_pks sig 48).length ∧ (m_pks sig 48).getD k 0 = c ∧ o = .inl (some (.int (nI k))))) := by
  have hL := h
  obtain ⟨pc, px, py, chn, ⟨h0, h1, h2, h3, h4, h5, h6⟩, hok⟩ := h
  have hl := m_pks_len (sig := sig) (k := 48)
  show AW mX5_peakAt 0 0 0 [some (.ref i), some (.int (nI c)), none] [] n f _
  refine am_iconst 0 (v := 0) dX5_peakAt_0 (by decide) ?_
  refine am_istore_n 1 dX5_peakAt_1 (by decide) ?_
  refine am_for (m_pks sig 48).length (fun k (_ : Unit) => ∀ x, x < k → (m_pks sig 48).getD x 0 ≠ c) (fun k _ => AW mX5_peakAt 0 0 2 [some (.ref i), some (.int (nI c)), some (.int (nI k))] [] n f _) ?_ ?_ 0 () (by omega) (fun x hx => by omega)
  · rintro ⟨⟩ hall
    have hno : c ∉ m_pks sig 48 := fun hm => by
      obtain ⟨x, hx, e⟩ := List.getElem_of_mem hm
      exact hall x hx (by rw [List.getD_eq_getElem?_getD, List.getElem?_eq_getElem hx]; exact e)
    refine am_iload_n 2 dX5_peakAt_2 rfl ?_
    refine am_aload_n 3 dX5_peakAt_3 rfl ?_
    refine am_getfield 4 dX5_peakAt_4 fX5_59 (by repeat (first | assumption | exact am_ue | refine am_un (by first | assumption | decide | omega) ?_)) rfl ?_
    refine am_icmp_ge 7 28 dX5_peakAt_7 rfl (fun c7 => ?_) (fun c7 => absurd (Int32.le_refl _) c7)
    refine am_iconst 28 (v := (-1)) dX5_peakAt_28 (by decide) ?_
    refine am_ireturn 29 dX5_peakAt_29 rfl rfl ?_
    exact ⟨rfl, rfl, Or.inl ⟨rfl, hno⟩⟩
  · rintro k ⟨⟩ hk hall ih
    have hck := (m_pks48 hk).1
    refine am_iload_n 2 dX5_peakAt_2 rfl ?_
    refine am_aload_n 3 dX5_peakAt_3 rfl ?_
    refine am_getfield 4 dX5_peakAt_4 fX5_59 (by repeat (first | assumption | exact am_ue | refine am_un (by first | assumption | decide | omega) ?_)) rfl ?_
    refine am_icmp_ge 7 28 dX5_peakAt_7 rfl (fun c7 => absurd c7 (nI_ge hk (by omega))) (fun c7 => ?_)
    refine am_aload_n 10 dX5_peakAt_10 rfl ?_
    refine am_getfield 11 dX5_peakAt_11 fX5_18 (by repeat (first | assumption | exact am_ue | refine am_un (by first | assumption | decide | omega) ?_)) rfl ?_
    refine am_iload_n 14 dX5_peakAt_14 rfl ?_
    refine am_iaload 15 dX5_peakAt_15 rfl (by repeat (first | assumption | exact am_ue | refine am_un (by first | assumption | decide | omega) ?_)) (am_ix (by omega) (by decide)) ?_
    rw [nI_clamp (n := k) (by omega), (hok k hk).1]
    refine am_iload_n 16 dX5_peakAt_16 rfl ?_
    refine am_icmp_ne 17 22 dX5_peakAt_17 rfl (fun c17 => ?_) (fun c17 => ?_)
    · refine am_iinc 22 (v := nI (k + 1)) dX5_peakAt_22 rfl (nI_1 (k)) (by decide) ?_
      refine am_goto 25 (tgt := 2) dX5_peakAt_25 rfl ?_
      refine ih () (fun x hx => ?_)
      by_cases e : x = k
      · subst e; exact fun z => c17 (by rw [z])
      · exact hall x (by omega)
    · refine am_iload_n 20 dX5_peakAt_20 rfl ?_
      refine am_ireturn 21 dX5_peakAt_21 rfl rfl ?_
      exact ⟨rfl, rfl, Or.inr ⟨k, hk, am_eqN c c17 (by omega) (by omega), rfl⟩⟩
theorem s_settle (h : m_Pic f i sig reg pc px py chn pk hm) (hS : m_Sh f j w bs ht) (hd : j + 2 < i ∨ i + 6 < j) : AM mX6_settle 0 0 [.ref j, .ref i] n f (am_is none n (va_up f (j + 2) (.inl (0, 48, .inl (m_settle sig reg bs))))) := by
  have hp := h
  obtain ⟨h0, h1, h2, h3, h4, h5, h6⟩ := h
  obtain ⟨g0, g1, g2⟩ := hS
  show AW mX6_settle 0 0 0 [some (.ref j), some (.ref i), none] [] n f _
  refine am_iconst 0 (v := 0) dX6_settle_0 (by decide) ?_
  refine am_istore_n 1 dX6_settle_1 (by decide) ?_
  have hh := am_for 48 (fun k (b' : Nat → Int32) => (∀ x, x < k → b' x = m_settle sig reg bs x) ∧ ∀ x, k ≤ x → b' x = bs x) (fun k b' => AW mX6_settle 0 0 2 [some (.ref j), some (.ref i), some (.int (nI k))] [] n (va_up f (j + 2) (.inl (0, 48, .inl b'))) (am_is none n (va_up f (j + 2) (.inl (0, 48, .inl (m_settle sig reg bs)))))) ?_ ?_ 0 bs (by omega) ⟨fun x hx => by omega, fun x _ => rfl⟩
  · rw [am_self g2] at hh
    exact hh
  · rintro b' ⟨hb1, hb2⟩
    refine am_iload_n 2 dX6_settle_2 rfl ?_
    refine am_bipush 3 (v := 48) dX6_settle_3 (by decide) ?_
    refine am_icmp_ge 5 51 dX6_settle_5 rfl (fun c5 => ?_) (fun c5 => absurd (by decide) c5)
    refine AW.ints (m_settle sig reg bs) am_ue hb1 ?_
    rw [am_uu]
    exact am_return 51 dX6_settle_51 rfl ⟨rfl, rfl, rfl⟩
  · rintro k b' hk ⟨hb1, hb2⟩ ih
    have hp2 : m_Pic (va_up f (j + 2) (.inl (0, 48, .inl b'))) i sig reg pc px py chn pk hm := ⟨am_un (by omega) h0, am_un (by omega) h1, am_un (by omega) h2, am_un (by omega) h3, am_un (by omega) h4, am_un (by omega) h5, am_un (by omega) h6⟩
    have hkb := hb2 k (Nat.le_refl k)
    refine am_iload_n 2 dX6_settle_2 rfl ?_
    refine am_bipush 3 (v := 48) dX6_settle_3 (by decide) ?_
    refine am_icmp_ge 5 51 dX6_settle_5 rfl (fun c5 => absurd c5 (nI_ge hk (by decide))) (fun c5 => ?_)
    refine am_aload_n 8 dX6_settle_8 rfl ?_
    refine am_iload_n 9 dX6_settle_9 rfl ?_
    refine am_V1 10 (mc' := 0) (ms' := 0) (rc := 0) (rs := 0) dX6_settle_10 lX6_35 ⟨by decide, by decide⟩ (by first | assumption | exact am_ue | exact am_un (by omega) g0 | exact am_un (by omega) h0 | exact am_un (by omega) h1 | exact am_un (by omega) h2) (Nat.le_of_ble_eq_true rfl) (Nat.le_of_ble_eq_true rfl) (s_isTouched hp2 hk) ?_
    refine am_is_ct ?_
    refine am_if_eq 13 27 dX6_settle_13 rfl (fun c13 => ?_) (fun c13 => ?_)
    · have hcond : ¬ (20 ≤ sig k ∧ reg k ≤ 14) := fun z => m_tc_0.mp c13 z.1
      refine am_aload_n 27 dX6_settle_27 rfl ?_
      refine am_getfield 28 dX6_settle_28 fX6_15 (by first | assumption | exact am_ue | exact am_un (by omega) g0 | exact am_un (by omega) h0 | exact am_un (by omega) h1 | exact am_un (by omega) h2) rfl ?_
      refine am_iload_n 31 dX6_settle_31 rfl ?_
      refine am_dup2 32 dX6_settle_32 rfl rfl ?_
      refine am_iaload 33 dX6_settle_33 rfl (by first | assumption | exact am_ue | exact am_un (by omega) g0 | exact am_un (by omega) h0 | exact am_un (by omega) h1 | exact am_un (by omega) h2) (am_ix hk (by decide)) ?_
      rw [nI_clamp (n := k) (by omega)]
      refine am_aload_n 34 dX6_settle_34 rfl ?_
      refine am_getfield 35 dX6_settle_35 fX6_44 (by first | assumption | exact am_ue | exact am_un (by omega) g0 | exact am_un (by omega) h0 | exact am_un (by omega) h1 | exact am_un (by omega) h2) rfl ?_
      refine am_iload_n 38 dX6_settle_38 rfl ?_
      refine am_iaload 39 dX6_settle_39 rfl (by first | assumption | exact am_ue | exact am_un (by omega) g0 | exact am_un (by omega) h0 | exact am_un (by omega) h1 | exact am_un (by omega) h2) (am_ix hk (by decide)) ?_
      rw [nI_clamp (n := k) (by omega)]
      refine am_S1 40 (mc' := 0) (ms' := 0) (rc := 0) (rs := 0) dX6_settle_40 lX6_47 ⟨by decide, by decide⟩ (Nat.le_of_ble_eq_true rfl) (Nat.le_of_ble_eq_true rfl) (s_stepFor) ?_
      refine am_is_ct ?_
      refine am_iadd 43 dX6_settle_43 ?_
      refine am_iastore 44 dX6_settle_44 rfl (by first | assumption | exact am_ue | exact am_un (by omega) g0 | exact am_un (by omega) h0 | exact am_un (by omega) h1 | exact am_un (by omega) h2) (am_ix hk (by decide)) ?_
      rw [am_uu, nI_clamp (n := k) (by omega)]
      refine am_iinc 45 (v := nI (k + 1)) dX6_settle_45 rfl (nI_1 (k)) (by decide) ?_
      refine am_goto 48 (tgt := 2) dX6_settle_48 rfl ?_
      refine ih _ ⟨fun x hx => ?_, fun x hx => ?_⟩
      · by_cases e : x = k
        · subst e
          unfold m_settle
          first | (rw [am_up_eq, if_neg hcond, hkb]) | (rw [if_pos hcond]; exact hkb)
        · first | (rw [am_up_ne e]; exact hb1 x (by omega)) | exact hb1 x (by omega)
      · first | (rw [am_up_ne (by omega)]; exact hb2 x (by omega)) | exact hb2 x (by omega)
    · refine am_aload_n 16 dX6_settle_16 rfl ?_
      refine am_getfield 17 dX6_settle_17 fX6_41 (by first | assumption | exact am_ue | exact am_un (by omega) g0 | exact am_un (by omega) h0 | exact am_un (by omega) h1 | exact am_un (by omega) h2) rfl ?_
      refine am_iload_n 20 dX6_settle_20 rfl ?_
      refine am_iaload 21 dX6_settle_21 rfl (by first | assumption | exact am_ue | exact am_un (by omega) g0 | exact am_un (by omega) h0 | exact am_un (by omega) h1 | exact am_un (by omega) h2) (am_ix hk (by decide)) ?_
      rw [nI_clamp (n := k) (by omega)]
      refine am_bipush 22 (v := 14) dX6_settle_22 (by decide) ?_
      refine am_icmp_le 24 45 dX6_settle_24 rfl (fun c24 => ?_) (fun c24 => ?_)
      · have hcond : 20 ≤ sig k ∧ reg k ≤ 14 := ⟨Classical.not_not.mp fun z => c13 (m_tc_0.mpr z), c24⟩
        refine am_iinc 45 (v := nI (k + 1)) dX6_settle_45 rfl (nI_1 (k)) (by decide) ?_
        refine am_goto 48 (tgt := 2) dX6_settle_48 rfl ?_
        refine ih _ ⟨fun x hx => ?_, fun x hx => ?_⟩
        · by_cases e : x = k
          · subst e
            unfold m_settle
            first | (rw [am_up_eq, if_neg hcond, hkb]) | (rw [if_pos hcond]; exact hkb)
          · first | (rw [am_up_ne e]; exact hb1 x (by omega)) | exact hb1 x (by omega)
        · first | (rw [am_up_ne (by omega)]; exact hb2 x (by omega)) | exact hb2 x (by omega)
      · have hcond : ¬ (20 ≤ sig k ∧ reg k ≤ 14) := fun z => c24 z.2
        refine am_aload_n 27 dX6_settle_27 rfl ?_
        refine am_getfield 28 dX6_settle_28 fX6_15 (by first | assumption | exact am_ue | exact am_un (by omega) g0 | exact am_un (by omega) h0 | exact am_un (by omega) h1 | exact am_un (by omega) h2) rfl ?_
        refine am_iload_n 31 dX6_settle_31 rfl ?_
        refine am_dup2 32 dX6_settle_32 rfl rfl ?_
        refine am_iaload 33 dX6_settle_33 rfl (by first | assumption | exact am_ue | exact am_un (by omega) g0 | exact am_un (by omega) h0 | exact am_un (by omega) h1 | exact am_un (by omega) h2) (am_ix hk (by decide)) ?_
        rw [nI_clamp (n := k) (by omega)]
        refine am_aload_n 34 dX6_settle_34 rfl ?_
        refine am_getfield 35 dX6_settle_35 fX6_44 (by first | assumption | exact am_ue | exact am_un (by omega) g0 | exact am_un (by omega) h0 | exact am_un (by omega) h1 | exact am_un (by omega) h2) rfl ?_
        refine am_iload_n 38 dX6_settle_38 rfl ?_
        refine am_iaload 39 dX6_settle_39 rfl (by first | assumption | exact am_ue | exact am_un (by omega) g0 | exact am_un (by omega) h0 | exact am_un (by omega) h1 | exact am_un (by omega) h2) (am_ix hk (by decide)) ?_
        rw [nI_clamp (n := k) (by omega)]
        refine am_S1 40 (mc' := 0) (ms' := 0) (rc := 0) (rs := 0) dX6_settle_40 lX6_47 ⟨by decide, by decide⟩ (Nat.le_of_ble_eq_true rfl) (Nat.le_of_ble_eq_true rfl) (s_stepFor) ?_
        refine am_is_ct ?_
        refine am_iadd 43 dX6_settle_43 ?_
        refine am_iastore 44 dX6_settle_44 rfl (by first | assumption | exact am_ue | exact am_un (by omega) g0 | exact am_un (by omega) h0 | exact am_un (by omega) h1 | exact am_un (by omega) h2) (am_ix hk (by decide)) ?_
        rw [am_uu, nI_clamp (n := k) (by omega)]
        refine am_iinc 45 (v := nI (k + 1)) dX6_settle_45 rfl (nI_1 (k)) (by decide) ?_
        refine am_goto 48 (tgt := 2) dX6_settle_48 rfl ?_
        refine ih _ ⟨fun x hx => ?_, fun x hx => ?_⟩
        · by_cases e : x = k
          · subst e
            unfold m_settle
            first | (rw [am_up_eq, if_neg hcond, hkb]) | (rw [if_pos hcond]; exact hkb)
          · first | (rw [am_up_ne e]; exact hb1 x (by omega)) | exact hb1 x (by omega)
        · first | (rw [am_up_ne (by omega)]; exact hb2 x (by omega)) | exact hb2 x (by omega)
end Picture4
