/-! ===== what stands between two calls of the law, and the room ===== -/
section LInv
variable {G : Nat → m_K}
variable {xs : Nat → Int32} {N c s n : Nat} {f : Nat → am_C}
/-- the limit, the areas and all of the hand are the same on both sides -/
def l_X (z : m_Z) (li : Int32) (sz : Nat) (cs : Nat → Option Nat) (G : Nat → m_K) : Prop := li = z_lim z ∧ sz = z_to z ∧ y_R (fun _ => False) sz (z_A z) (y_Z z) cs G
/-- with all its witnesses: class, model, what is counted -/
def l_JJ (xs : Nat → Int32) (N c s n : Nat) (f : Nat → am_C) (z : m_Z) (T : Nat) (κ : Nat → Nat) (sz : Nat) (th li : Int32) (cs : Nat → Option Nat) (A C : List q_P) (fr k hc wp : Nat) (G : Nat → m_K) : Prop :=
  (f 0 = .inl (20, N, .inl xs) ∧ 55 ≤ n ∧ T ≤ c ∧ s ≤ c ∧ l_X z li sz cs G) ∧ m_G f 2 T z ∧ r_M 48 n f κ sz G th (z_h z) (nI (z_d z)) li cs (z_w z) (z_b z) ∧ (κ 53 = 0 ∧ κ 54 = 0) ∧ ((∃ j, j < 5 ∧ cs j ≠ none) → 1 ≤ fr) ∧
  (q_Sh c A C fr k hc wp (z_w z) (z_b z) (z_h z) ∧ A.length + C.length + fr + k + hc + wp = s) ∧ (∃ g : Nat → Int64, f 53 = .inl (1, 1, .inr (.inl g))) ∧ ∃ g : Nat → UInt64, f 54 = .inl (6, 1, .inr (.inr (.inr (.inl g))))
def l_J (xs : Nat → Int32) (N c s n : Nat) (f : Nat → am_C) : Prop := ∃ z T κ sz th li cs A C fr k hc wp G, l_JJ xs N c s n f z T κ sz th li cs A C fr k hc wp G
variable {z : m_Z} {T : Nat} {κ : Nat → Nat} {sz : Nat} {th li : Int32} {cs : Nat → Option Nat} {A C : List q_P} {fr k hc wp : Nat}
/-- the class has been asked, its answer lies in the array -/
theorem l_JJ.mid {f1 f2 : Nat → am_C} {z1 : m_Z} (j : l_JJ xs N c s n f z T κ sz th li cs A C fr k hc wp G) (hG : m_G f1 2 T z1) (hz : z1 = z) (e : ∀ y, (y < 2 ∨ 2 + 45 < y) → f1 y = f y) (h2 : f2 = f1 ∨ (∃ x, f2 = va_up f1 53 (.inl (1, 1, .inr (.inl x)))) ∨ ∃ x, f2 = va_up f1 54 (.inl (6, 1, .inr (.inr (.inr (.inl x)))))) : l_JJ xs N c s n f2 z1 T κ sz th li cs A C fr k hc wp G := by
  obtain ⟨⟨j0, j1, j2, j3⟩, j4, j5, j6, j7, j8, ⟨g, j9⟩, gd, j10⟩ := j
  subst hz
  have e2 : ∀ y, y ≠ 53 → y ≠ 54 → f2 y = f1 y := fun y h1 h3 => by
    rcases h2 with rfl | ⟨x, rfl⟩ | ⟨x, rfl⟩
    · rfl
    · exact am_up_ne h1
    · exact am_up_ne h3
  have e3 : ∀ y, y ≠ 53 → y ≠ 54 → (y < 2 ∨ 2 + 45 < y) → f2 y = f y := fun y h1 h3 h4 => (e2 y h1 h3).trans (e y h4)
  have hM : r_M 48 n f2 κ sz G th (z_h z1) (nI (z_d z1)) li cs (z_w z1) (z_b z1) := by
    refine ⟨j5.1.far (Nat.le_refl _) (e3 _ (by omega) (by omega) (by omega)) (e3 _ (by omega) (by omega) (by omega)) (e3 _ (by omega) (by omega) (by omega)) fun x h1 h3 => ?_, (e3 _ (by omega) (by omega) (by omega)).trans j5.2.1, (e3 _ (by omega) (by omega) (by omega)).trans j5.2.2⟩
    by_cases q : x = 53
    · exact Or.inr ⟨by rw [q]; exact j6.1, 1, _, by rw [q]; exact j9, by decide⟩
    by_cases q2 : x = 54
    · exact Or.inr ⟨by rw [q2]; exact j6.2, 6, _, by rw [q2]; exact j10, by decide⟩
    exact Or.inl (e3 x q q2 (by omega))
  refine ⟨⟨(e3 _ (by omega) (by omega) (by omega)).trans j0, j1, j2, j3⟩, hG.on fun x _ h => e2 x (by omega) (by omega), hM, j6, j7, j8, ?_, ?_⟩
  · rcases h2 with rfl | ⟨x, rfl⟩ | ⟨x, rfl⟩
    · exact ⟨g, (e 53 (by omega)).trans j9⟩
    · exact ⟨x, am_ue⟩
    · exact ⟨g, am_un (by omega) ((e 53 (by omega)).trans j9)⟩
  · rcases h2 with rfl | ⟨x, rfl⟩ | ⟨x, rfl⟩
    · exact ⟨gd, (e 54 (by omega)).trans j10⟩
    · exact ⟨gd, am_un (by omega) ((e 54 (by omega)).trans j10)⟩
    · exact ⟨x, am_ue⟩
/-- the class's call has changed the sheet, too: all but the model stands already -/
theorem l_JJ.cls {f1 f2 : Nat → am_C} {z1 : m_Z} {T1 : Nat} (j : l_JJ xs N c s n f z T κ sz th li cs A C fr k hc wp G) (hG : m_G f1 2 T1 z1) (e : ∀ y, (y < 2 ∨ 2 + 45 < y) → f1 y = f y) (h2 : f2 = f1 ∨ (∃ x, f2 = va_up f1 53 (.inl (1, 1, .inr (.inl x)))) ∨ ∃ x, f2 = va_up f1 54 (.inl (6, 1, .inr (.inr (.inr (.inl x)))))) : f2 0 = .inl (20, N, .inl xs) ∧ m_G f2 2 T1 z1 ∧ r_M 48 n f2 κ sz G th (z_h z) (nI (z_d z)) li cs (z_w z) (z_b z) ∧ (∃ g : Nat → Int64, f2 53 = .inl (1, 1, .inr (.inl g))) ∧ ∃ g : Nat → UInt64, f2 54 = .inl (6, 1, .inr (.inr (.inr (.inl g)))) := by
  obtain ⟨⟨j0, j1, j2, j3⟩, j4, j5, j6, j7, j8, ⟨g, j9⟩, gd, j10⟩ := j
  have e2 : ∀ y, y ≠ 53 → y ≠ 54 → f2 y = f1 y := fun y h1 h3 => by
    rcases h2 with rfl | ⟨x, rfl⟩ | ⟨x, rfl⟩
    · rfl
    · exact am_up_ne h1
    · exact am_up_ne h3
  have e3 : ∀ y, y ≠ 53 → y ≠ 54 → (y < 2 ∨ 2 + 45 < y) → f2 y = f y := fun y h1 h3 h4 => (e2 y h1 h3).trans (e y h4)
  refine ⟨(e3 _ (by omega) (by omega) (by omega)).trans j0, hG.on fun x _ h => e2 x (by omega) (by omega), ⟨j5.1.far (Nat.le_refl _) (e3 _ (by omega) (by omega) (by omega)) (e3 _ (by omega) (by omega) (by omega)) (e3 _ (by omega) (by omega) (by omega)) fun x h1 h3 => ?_, (e3 _ (by omega) (by omega) (by omega)).trans j5.2.1, (e3 _ (by omega) (by omega) (by omega)).trans j5.2.2⟩, ?_, ?_⟩
  · by_cases q : x = 53
    · exact Or.inr ⟨by rw [q]; exact j6.1, 1, _, by rw [q]; exact j9, by decide⟩
    by_cases q2 : x = 54
    · exact Or.inr ⟨by rw [q2]; exact j6.2, 6, _, by rw [q2]; exact j10, by decide⟩
    exact Or.inl (e3 x q q2 (by omega))
  · rcases h2 with rfl | ⟨x, rfl⟩ | ⟨x, rfl⟩
    · exact ⟨g, (e 53 (by omega)).trans j9⟩
    · exact ⟨x, am_ue⟩
    · exact ⟨g, am_un (by omega) ((e 53 (by omega)).trans j9)⟩
  · rcases h2 with rfl | ⟨x, rfl⟩ | ⟨x, rfl⟩
    · exact ⟨gd, (e 54 (by omega)).trans j10⟩
    · exact ⟨gd, am_un (by omega) ((e 54 (by omega)).trans j10)⟩
    · exact ⟨x, am_ue⟩
/-- the model's call has ended: between two calls again -/
theorem l_next {c1 s1 n1 T1 sz1 : Nat} {f3 : Nat → am_C} {z1 : m_Z} {κ1 : Nat → Nat} {th0 th1 h0 d0 li0 li1 : Int32} {cs0 cs1 : Nat → Option Nat} {w0 b0 : Nat → Int32} {sz0 : Nat} {G1 : Nat → m_K} (hs : f 0 = .inl (20, N, .inl xs)) (hn : 55 ≤ n) (hG : m_G f 2 T1 z1) (hM : r_M 48 n f κ sz0 G th0 h0 d0 li0 cs0 w0 b0) (hk : κ 53 = 0 ∧ κ 54 = 0) (ho : ∃ g : Nat → Int64, f 53 = .inl (1, 1, .inr (.inl g))) (hod : ∃ g : Nat → UInt64, f 54 = .inl (6, 1, .inr (.inr (.inr (.inl g)))))
    (hn1 : n ≤ n1) (hM3 : r_M 48 n1 f3 κ1 sz1 G1 th1 (z_h z1) (nI (z_d z1)) li1 cs1 (z_w z1) (z_b z1)) (go : r_out9 48 n κ κ1 f f3) (hT : T1 ≤ c1) (hcs : (∃ j, j < 5 ∧ cs1 j ≠ none) → 1 ≤ fr) (hq : q_Sh c1 A C fr k hc wp (z_w z1) (z_b z1) (z_h z1)) (hsum : A.length + C.length + fr + k + hc + wp = s1) (hle : s1 ≤ c1) (hX : l_X z1 li1 sz1 cs1 G1) : l_J xs N c1 s1 n1 f3 := by
  have low : ∀ x, x < 48 → f3 x = f x := fun x hx => go.2 x (by omega) (hM.1.k0 (by omega)) (Or.inl hx)
  obtain ⟨g, ho⟩ := ho
  obtain ⟨gd, hod⟩ := hod
  refine ⟨z1, T1, κ1, sz1, th1, li1, cs1, A, C, fr, k, hc, wp, G1, ⟨(low 0 (by omega)).trans hs, by omega, hT, hle, hX⟩, hG.on fun x _ h => low x (by omega), hM3, ⟨(go.1 53 (by omega)).trans hk.1, (go.1 54 (by omega)).trans hk.2⟩, hcs, ⟨hq, hsum⟩, ⟨g, ?_⟩, gd, ?_⟩
  · exact (go.2 53 (by omega) hk.1 (Or.inr ⟨by omega, 1, _, ho, by decide⟩)).trans ho
  · exact (go.2 54 (by omega) hk.2 (Or.inr ⟨by omega, 6, _, hod, by decide⟩)).trans hod
theorem l_JJ.fin {n1 : Nat} {f3 : Nat → am_C} {κ1 : Nat → Nat} {th1 : Int32} (j : l_JJ xs N c s n f z T κ sz th li cs A C fr k hc wp G) (hn1 : n ≤ n1) (hM3 : r_M 48 n1 f3 κ1 sz G th1 (z_h z) (nI (z_d z)) li cs (z_w z) (z_b z)) (go : r_out9 48 n κ κ1 f f3) : l_J xs N (c + 1) s n1 f3 := by
  obtain ⟨⟨j0, j1, j2, j3⟩, j4, j5, j6, j7, j8, j9, j10⟩ := j
  exact l_next j0 j1 j4 j5 j6 j9 j10 hn1 hM3 go (by omega) j7 j8.1.up j8.2 (by omega) j3.2
/-- what the class's end says where it was only asked -/
theorem l_c53 {p : Nat} {V : Option Value ⊕ Nat → Prop} {X : am_C} {o : Option Value ⊕ Nat} {n' q : Nat} {f' : Nat → am_C} (hX : f q = X) (hq : p + 45 < q) (h : c_as p T z n f V o n' f') : n' = n ∧ f' q = X ∧ V o := ⟨h.1, (h.2.2.2 q (Or.inr hq)).trans hX, h.2.1⟩
/-! the room -/
def l_C (s : Nat) : Nat := if s = 0 then 15668 else if s ≤ 3 then 15846 else if s ≤ 5 then 15942 else if s = 6 then 15974 else 16038
def l_U (c s : Nat) : Nat := 482 * min s 7 + (c - min s 7) * l_C s
def l_cap : Nat := 8103549
theorem l_C_le : l_C s ≤ 16038 := by
  unfold l_C
  repeat' split
  all_goals omega
theorem l_C_lo : 15668 ≤ l_C s := by
  unfold l_C
  repeat' split
  all_goals omega
theorem l_C_up : l_C s ≤ l_C (s + 1) := by
  unfold l_C
  repeat' split
  all_goals omega
theorem l_U_cap (h : s ≤ c) (hc : c ≤ 512) : l_U c s ≤ l_cap := by
  unfold l_U l_cap
  have e : (c - min s 7) * l_C s ≤ (512 - min s 7) * l_C s := Nat.mul_le_mul_right _ (by omega)
  refine Nat.le_trans (Nat.add_le_add_left e _) ?_
  unfold l_C
  rcases (show s = 0 ∨ s = 1 ∨ s = 2 ∨ s = 3 ∨ s = 4 ∨ s = 5 ∨ s = 6 ∨ 7 ≤ s by omega) with rfl | rfl | rfl | rfl | rfl | rfl | rfl | h7
  · decide
  · decide
  · decide
  · decide
  · decide
  · decide
  · decide
  · rw [show min s 7 = 7 by omega, if_neg (by omega), if_neg (by omega), if_neg (by omega), if_neg (by omega)]
    decide
theorem l_U_same (h : s ≤ c) : l_U (c + 1) s = l_U c s + l_C s := by
  unfold l_U
  rw [show c + 1 - min s 7 = (c - min s 7) + 1 by omega, Nat.add_mul, Nat.one_mul]
  omega
theorem l_U_next (h : s ≤ c) : l_U c s + 482 ≤ l_U (c + 1) (s + 1) := by
  unfold l_U
  by_cases q : s < 7
  · rw [show min s 7 = s by omega, show min (s + 1) 7 = s + 1 by omega, show c + 1 - (s + 1) = c - s by omega]
    have := Nat.mul_le_mul_left (c - s) (l_C_up (s := s))
    omega
  · rw [show min s 7 = 7 by omega, show min (s + 1) 7 = 7 by omega, show c + 1 - 7 = (c - 7) + 1 by omega, Nat.add_mul, Nat.one_mul]
    have e : l_C (s + 1) = l_C s := by
      unfold l_C
      rw [if_neg (by omega), if_neg (by omega), if_neg (by omega), if_neg (by omega), if_neg (by omega), if_neg (by omega), if_neg (by omega), if_neg (by omega)]
    rw [e]
    have := l_C_lo (s := s)
    omega
/-- what keepBy's trials cost, at most -/
theorem l_keep {d : Nat} (hq : q_Sh c A C fr k hc wp (z_w z) (z_b z) (z_h z)) (hsum : A.length + C.length + fr + k + hc + wp = s) (hf : 1 ≤ fr) (hc9 : c < 1000) (hd : d ≤ 200) : 14880 + 2 * m_S (q_tr (z_w z) (z_b z) (z_h z) (nI d)) 48 + 6 ≤ l_C s := by
  unfold l_C
  rw [if_neg (by omega)]
  split
  · have := q_sum10 hq hc9 hf (by omega) hd
    omega
  split
  · have := q_sum11 hq hc9 hf (by omega) hd
    omega
  split
  · have := q_sum6' hq hc9 hf (by omega) hd
    omega
  · have := q_sum12 (w := z_w z) (b := z_b z) (h := z_h z) (s := nI d)
    omega
/-- signals are small -/
theorem l_small {w b : Nat → Int32} {h : Int32} (hq : q_Sh c A C fr k hc wp w b h) (hc9 : c ≤ 1000) : ∀ x, x < 48 → (h + w x - b x).toInt.natAbs ≤ 300000 := by
  intro x hx
  have e := q_Sh_sg hq hc9 x hx
  have h2 := hq.2.1 x hx
  have h3 := hq.2.2
  rw [e]
  omega
theorem l_smallT {d : Nat} {w b : Nat → Int32} {h : Int32} (hq : q_Sh c A C fr k hc wp w b h) (hc9 : c < 1000) (hd : d ≤ 200) : ∀ y, y < 48 → ∀ x, x < 48 → (h + m_press w (nI d) (y % 8) (y / 8) x - b x).toInt.natAbs ≤ 300000 :=
  fun y hy => l_small (q_Sh_press hq (by omega) (x := y % 8) (y := y / 8) (by omega) (by omega) hd) (by omega)
end LInv
