/-! ===== the reference in any state: matching made, a frame followed ===== -/
section RTrack
variable {G : Nat → m_K}
variable {m n v u t sz : Nat} {f : Nat → am_C} {κ : Nat → Nat} {th h di li : Int32} {cs : Nat → Option Nat} {sig : Nat → Int32}
def r_mi (g f : Nat → am_C) (t v m P : Nat) : Prop := g t = .inr (10, [.ref v, .ref (t + 3), .ref (t + 4), .ref (t + 1), .int (-1), .int 0, .ref (t + 2), .ref m]) ∧ (∃ nw : Nat → Int32, g (t + 1) = .inl (0, 5, .inl nw) ∧ ∀ j, j < 5 → nw j = -1) ∧ (∃ bs : Nat → Int32, g (t + 2) = .inl (0, 5, .inl bs) ∧ ∀ j, j < 5 → bs j = -1) ∧ (∃ xs : Nat → Int32, g (t + 3) = .inl (0, P, .inl xs)) ∧ (∃ ys : Nat → Int32, g (t + 4) = .inl (0, P, .inl ys)) ∧ ∀ x, x < t → g x = f x
set_option maxHeartbeats 1000000 in
theorem s_vMatch (h0 : f t = .inr (10, [.null, .null, .null, .null, .int 0, .int 0, .null, .null])) (s : r_S m t f κ sz G th h di li cs) (hW : r_W f v u sig) (hv : v < t) (hu : u + 2 < t) (hs : ∀ x, x < 48 → (sig x).toInt.natAbs ≤ 300000) : AM mX10_init 4 (0 + (m_pks sig 48).length + (m_pks sig 48).length + 5 + 5) [.ref t, .ref m, .ref v] (t + 1) f (fun o n' f' => o = .inl none ∧ n' = t + 5 ∧ (∃ mo le, f' t = r_ob t v m mo le) ∧ (∃ gb : Nat → Int32, f' (t + 2) = .inl (0, 5, .inl gb) ∧ r_gd cs (m_pks sig 48).length gb) ∧ ∀ x, x < t → f' x = f x) := by
  have hm5 := s.n5
  have s1 := s
  have hPl := m_pks_len (sig := sig) (k := 48)
  have hW0 := hW
  obtain ⟨pk, v0, v1, v2, v3, v4⟩ := hW
  obtain ⟨m0, ⟨c3, cw⟩, har, hty⟩ := s
  have z0 : (0 : Int32).toNatClampNeg = 0 := rfl
  have z1 : (1 : Int32).toNatClampNeg = 1 := rfl
  have z2 : (2 : Int32).toNatClampNeg = 2 := rfl
  have z3 : (3 : Int32).toNatClampNeg = 3 := rfl
  have z4 : (4 : Int32).toNatClampNeg = 4 := rfl
  show AW mX10_init 4 (0 + (m_pks sig 48).length + (m_pks sig 48).length + 5 + 5) 0 [some (.ref t), some (.ref m), some (.ref v), none] [] (t + 1) f _
  generalize hQ : (fun (o : Option Value ⊕ Nat) (n' : Nat) (f' : Nat → am_C) => o = .inl none ∧ n' = t + 5 ∧ (∃ mo le, f' t = r_ob t v m mo le) ∧ (∃ gb : Nat → Int32, f' (t + 2) = .inl (0, 5, .inl gb) ∧ r_gd cs (m_pks sig 48).length gb) ∧ ∀ x, x < t → f' x = f x) = Q
  generalize hPe : (m_pks sig 48).length = P at v0 hPl
  refine am_aload_n 0 dX10_init_0 rfl ?_
  refine am_aload_n 1 dX10_init_1 rfl ?_
  refine am_putfinal 2 dX10_init_2 rfl qX10_3 (by repeat (first | assumption | exact am_ue | refine am_un (by first | assumption | decide | omega) ?_)) rfl rfl (Nat.le_of_ble_eq_true rfl) ?_
  refine am_aload_n 5 dX10_init_5 rfl ?_
  refine am_OI 6 dX10_init_6 lX10_9 (by decide) (Nat.le_of_ble_eq_true rfl) ?_
  refine am_aload_n 9 dX10_init_9 rfl ?_
  refine am_iconst 10 (v := 5) dX10_init_10 (by decide) ?_
  refine am_newints 11 (t := 0) (N := 5) (rc := 3) (rs := 0 + P + P + 5) dX10_init_11 ac_int rfl (by decide) (by decide) (by decide) ?_
  refine am_dup 13 dX10_init_13 rfl ?_
  refine am_iconst 14 (v := 0) dX10_init_14 (by decide) ?_
  refine am_iconst 15 (v := (-1)) dX10_init_15 (by decide) ?_
  refine am_iastore 16 dX10_init_16 rfl (by repeat (first | assumption | exact am_ue | refine am_un (by first | assumption | decide | omega) ?_)) (am_ix (c := 0) (by decide) (by decide)) ?_
  refine am_dup 17 dX10_init_17 rfl ?_
  refine am_iconst 18 (v := 1) dX10_init_18 (by decide) ?_
  refine am_iconst 19 (v := (-1)) dX10_init_19 (by decide) ?_
  refine am_iastore 20 dX10_init_20 rfl (by repeat (first | assumption | exact am_ue | refine am_un (by first | assumption | decide | omega) ?_)) (am_ix (c := 1) (by decide) (by decide)) ?_
  refine am_dup 21 dX10_init_21 rfl ?_
  refine am_iconst 22 (v := 2) dX10_init_22 (by decide) ?_
  refine am_iconst 23 (v := (-1)) dX10_init_23 (by decide) ?_
  refine am_iastore 24 dX10_init_24 rfl (by repeat (first | assumption | exact am_ue | refine am_un (by first | assumption | decide | omega) ?_)) (am_ix (c := 2) (by decide) (by decide)) ?_
  refine am_dup 25 dX10_init_25 rfl ?_
  refine am_iconst 26 (v := 3) dX10_init_26 (by decide) ?_
  refine am_iconst 27 (v := (-1)) dX10_init_27 (by decide) ?_
  refine am_iastore 28 dX10_init_28 rfl (by repeat (first | assumption | exact am_ue | refine am_un (by first | assumption | decide | omega) ?_)) (am_ix (c := 3) (by decide) (by decide)) ?_
  refine am_dup 29 dX10_init_29 rfl ?_
  refine am_iconst 30 (v := 4) dX10_init_30 (by decide) ?_
  refine am_iconst 31 (v := (-1)) dX10_init_31 (by decide) ?_
  refine am_iastore 32 dX10_init_32 rfl (by repeat (first | assumption | exact am_ue | refine am_un (by first | assumption | decide | omega) ?_)) (am_ix (c := 4) (by decide) (by decide)) ?_
  refine am_putfinal 33 dX10_init_33 rfl qX10_15 (by repeat (first | assumption | exact am_ue | refine am_un (by first | assumption | decide | omega) ?_)) rfl rfl (Nat.le_of_ble_eq_true rfl) ?_
  refine am_aload_n 36 dX10_init_36 rfl ?_
  refine am_iconst 37 (v := (-1)) dX10_init_37 (by decide) ?_
  refine am_putfield 38 dX10_init_38 pX10_19 (by repeat (first | assumption | exact am_ue | refine am_un (by first | assumption | decide | omega) ?_)) rfl rfl (Nat.le_of_ble_eq_true rfl) ?_
  refine am_aload_n 41 dX10_init_41 rfl ?_
  refine am_iconst 42 (v := 5) dX10_init_42 (by decide) ?_
  refine am_newints 43 (t := 0) (N := 5) (rc := 2) (rs := 0 + P + P) dX10_init_43 ac_int rfl (by decide) (by decide) (by decide) ?_
  refine am_dup 45 dX10_init_45 rfl ?_
  refine am_iconst 46 (v := 0) dX10_init_46 (by decide) ?_
  refine am_iconst 47 (v := (-1)) dX10_init_47 (by decide) ?_
  refine am_iastore 48 dX10_init_48 rfl (by repeat (first | assumption | exact am_ue | refine am_un (by first | assumption | decide | omega) ?_)) (am_ix (c := 0) (by decide) (by decide)) ?_
  refine am_dup 49 dX10_init_49 rfl ?_
  refine am_iconst 50 (v := 1) dX10_init_50 (by decide) ?_
  refine am_iconst 51 (v := (-1)) dX10_init_51 (by decide) ?_
  refine am_iastore 52 dX10_init_52 rfl (by repeat (first | assumption | exact am_ue | refine am_un (by first | assumption | decide | omega) ?_)) (am_ix (c := 1) (by decide) (by decide)) ?_
  refine am_dup 53 dX10_init_53 rfl ?_
  refine am_iconst 54 (v := 2) dX10_init_54 (by decide) ?_
  refine am_iconst 55 (v := (-1)) dX10_init_55 (by decide) ?_
  refine am_iastore 56 dX10_init_56 rfl (by repeat (first | assumption | exact am_ue | refine am_un (by first | assumption | decide | omega) ?_)) (am_ix (c := 2) (by decide) (by decide)) ?_
  refine am_dup 57 dX10_init_57 rfl ?_
  refine am_iconst 58 (v := 3) dX10_init_58 (by decide) ?_
  refine am_iconst 59 (v := (-1)) dX10_init_59 (by decide) ?_
  refine am_iastore 60 dX10_init_60 rfl (by repeat (first | assumption | exact am_ue | refine am_un (by first | assumption | decide | omega) ?_)) (am_ix (c := 3) (by decide) (by decide)) ?_
  refine am_dup 61 dX10_init_61 rfl ?_
  refine am_iconst 62 (v := 4) dX10_init_62 (by decide) ?_
  refine am_iconst 63 (v := (-1)) dX10_init_63 (by decide) ?_
  refine am_iastore 64 dX10_init_64 rfl (by repeat (first | assumption | exact am_ue | refine am_un (by first | assumption | decide | omega) ?_)) (am_ix (c := 4) (by decide) (by decide)) ?_
  refine am_putfield 65 dX10_init_65 pX10_23 (by repeat (first | assumption | exact am_ue | refine am_un (by first | assumption | decide | omega) ?_)) rfl rfl (Nat.le_of_ble_eq_true rfl) ?_
  refine am_aload_n 68 dX10_init_68 rfl ?_
  refine am_aload_n 69 dX10_init_69 rfl ?_
  refine am_putfinal 70 dX10_init_70 rfl qX10_26 (by repeat (first | assumption | exact am_ue | refine am_un (by first | assumption | decide | omega) ?_)) rfl rfl (Nat.le_of_ble_eq_true rfl) ?_
  refine am_aload_n 73 dX10_init_73 rfl ?_
  refine am_aload_n 74 dX10_init_74 rfl ?_
  refine am_getfield 75 dX10_init_75 fX10_30 (by repeat (first | assumption | exact am_ue | refine am_un (by first | assumption | decide | omega) ?_)) rfl ?_
  refine am_newints 78 (t := 0) (N := P) (rc := 1) (rs := 0 + P) dX10_init_78 ac_int rfl (nI_pos (by omega)) (nI_clamp (n := P) (by omega)) (by omega) ?_
  refine am_putfinal 80 dX10_init_80 rfl qX10_35 (by repeat (first | assumption | exact am_ue | refine am_un (by first | assumption | decide | omega) ?_)) rfl rfl (Nat.le_of_ble_eq_true rfl) ?_
  refine am_aload_n 83 dX10_init_83 rfl ?_
  refine am_aload_n 84 dX10_init_84 rfl ?_
  refine am_getfield 85 dX10_init_85 fX10_30 (by repeat (first | assumption | exact am_ue | refine am_un (by first | assumption | decide | omega) ?_)) rfl ?_
  refine am_newints 88 (t := 0) (N := P) (rc := 0) (rs := 0) dX10_init_88 ac_int rfl (nI_pos (by omega)) (nI_clamp (n := P) (by omega)) (by omega) ?_
  refine am_putfinal 90 dX10_init_90 rfl qX10_38 (by repeat (first | assumption | exact am_ue | refine am_un (by first | assumption | decide | omega) ?_)) rfl rfl (Nat.le_of_ble_eq_true rfl) ?_
  refine am_iconst 93 (v := 0) dX10_init_93 (by decide) ?_
  refine am_istore_n 94 dX10_init_94 (by decide) ?_
  generalize hg : va_up _ t _ = f9
  have hb : r_mi f9 f t v m P := by
    refine ⟨by rw [← hg]; exact am_ue, ⟨_, by rw [← hg]; repeat (first | exact am_ue | refine am_un (by omega) ?_), fun j hj => ?_⟩, ⟨_, by rw [← hg]; repeat (first | exact am_ue | refine am_un (by omega) ?_), fun j hj => ?_⟩, ⟨_, by rw [← hg]; repeat (first | exact am_ue | refine am_un (by omega) ?_)⟩, ⟨_, by rw [← hg]; repeat (first | exact am_ue | refine am_un (by omega) ?_)⟩, fun x hx => by rw [← hg]; repeat rw [am_up_ne (by omega)]⟩
    · have hj2 : j = 0 ∨ j = 1 ∨ j = 2 ∨ j = 3 ∨ j = 4 := by omega
      simp only [z0, z1, z2, z3, z4]
      rcases hj2 with rfl | rfl | rfl | rfl | rfl <;> rfl
    · have hj2 : j = 0 ∨ j = 1 ∨ j = 2 ∨ j = 3 ∨ j = 4 := by omega
      simp only [z0, z1, z2, z3, z4]
      rcases hj2 with rfl | rfl | rfl | rfl | rfl <;> rfl
  clear hg
  show AW mX10_init 0 0 95 [some (.ref t), some (.ref m), some (.ref v), some (.int (nI 0))] [] (t + 5) f9 Q
  refine am_for P (fun _ (g : Nat → am_C) => r_mi g f t v m P) (fun k g => AW mX10_init 0 0 95 [some (.ref t), some (.ref m), some (.ref v), some (.int (nI k))] [] (t + 5) g Q) ?_ ?_ 0 f9 (by omega) hb
  · rintro g ⟨b0, ⟨nw, b1, hnw⟩, ⟨bs, b2, hbs⟩, ⟨xs, b3⟩, ⟨ys, b4⟩, b5⟩
    have w0 := (b5 v hv).trans v0
    refine am_iload_n 95 dX10_init_95 rfl ?_
    refine am_aload_n 96 dX10_init_96 rfl ?_
    refine am_getfield 97 dX10_init_97 fX10_30 (by repeat (first | assumption | exact am_ue | refine am_un (by first | assumption | decide | omega) ?_)) rfl ?_
    refine am_icmp_ge 100 143 dX10_init_100 rfl (fun c100 => ?_) (fun c100 => absurd (Int32.le_refl _) c100)
    have e : r_gp g t v m nw bs (-1) 0 = g := by
      funext x
      by_cases hx : x < t ∨ t + 2 < x
      · rw [r_gx hx]
      · have hx2 : x = t ∨ x = t + 1 ∨ x = t + 2 := by omega
        rcases hx2 with rfl | rfl | rfl
        · rw [r_g0, b0]
        · rw [r_g1, b1]
        · rw [r_g2, b2]
    unfold r_m12 at m0
    have hMt : r_Mt g t v m P cs xs ys := by
      refine ⟨⟨hv, by omega, hPl⟩, ⟨_, _, _, w0⟩, ⟨_, _, _, _, _, _, _, (b5 m (by omega)).trans m0⟩, (b5 _ (by omega)).trans c3, b3, b4, fun j hj c hc => ?_⟩
      obtain ⟨k1, k2, k3⟩ := s1.cn hj hc
      obtain ⟨ap, cl, kk, g0, -⟩ := (hty c).2.1 k1
      exact ⟨k3, ap, kk, (b5 c k3).trans g0⟩
    have hgo := fun l pa su => s_vgo0 (n := t + 5) (l := l) (pa := pa) (su := su) (mo := -1) (le := 0) hMt (nw := nw) (bs := bs) (fun j hj => Or.inl (hnw j hj)) (fun j hj => Or.inl (hbs j hj))
    rw [e] at hgo
    refine am_aload_n 143 dX10_init_143 rfl ?_
    refine am_iconst 144 (v := 0) dX10_init_144 (by decide) ?_
    refine am_lconst 145 (v := 0) dX10_init_145 rfl ?_
    refine am_iconst 146 (v := 0) dX10_init_146 (by decide) ?_
    refine am_iconst 147 (v := 0) dX10_init_147 (by decide) ?_
    refine am_V4 148 (mc' := 0) (ms' := 0) (rc := 0) (rs := 0) dX10_init_148 (show am_cV RX10 48 mgo0 4 10 from lX10_48) ⟨by decide, by decide⟩ b0 (Nat.le_of_ble_eq_true rfl) (Nat.le_of_ble_eq_true rfl) (hgo _ _ _) ?_
    rintro o n' f' ⟨nw2, bs2, mo2, le2, rfl, rfl, rfl, q1, q2⟩
    refine am_ctI ?_
    refine am_return 151 dX10_init_151 rfl ?_
    subst hQ
    subst hPe
    exact ⟨rfl, rfl, ⟨mo2, le2, r_g0⟩, ⟨bs2, r_g2, q2⟩, fun x hx => (r_gx (Or.inl hx)).trans (b5 x hx)⟩
  · rintro k g hk ⟨b0, ⟨nw, b1, hnw⟩, ⟨bs, b2, hbs⟩, ⟨xs, b3⟩, ⟨ys, b4⟩, b5⟩ ih
    have w0 := (b5 v hv).trans v0
    have w3 := (b5 (u + 2) hu).trans v3
    have hk1 : k < (m_pks sig 48).length := by omega
    obtain ⟨c48, c20⟩ := m_pks48 hk1
    have hpl1 := s_place (n := t + 5) (y := false) (hW0.on (f' := g) fun x hx => b5 x (by omega)) c48 c20 hs
    have hPk : ¬ nI P ≤ nI k := nI_ge hk (by omega)
    refine am_iload_n 95 dX10_init_95 rfl ?_
    refine am_aload_n 96 dX10_init_96 rfl ?_
    refine am_getfield 97 dX10_init_97 fX10_30 (by repeat (first | assumption | exact am_ue | refine am_un (by first | assumption | decide | omega) ?_)) rfl ?_
    refine am_icmp_ge 100 143 dX10_init_100 rfl (fun c100 => absurd c100 hPk) (fun c100 => ?_)
    refine am_aload_n 103 dX10_init_103 rfl ?_
    refine am_getfield 104 dX10_init_104 fX10_35 (by repeat (first | assumption | exact am_ue | refine am_un (by first | assumption | decide | omega) ?_)) rfl ?_
    refine am_iload_n 107 dX10_init_107 rfl ?_
    refine am_aload_n 108 dX10_init_108 rfl ?_
    refine am_aload_n 109 dX10_init_109 rfl ?_
    refine am_getfield 110 dX10_init_110 fX10_41 (by repeat (first | assumption | exact am_ue | refine am_un (by first | assumption | decide | omega) ?_)) rfl ?_
    refine am_iload_n 113 dX10_init_113 rfl ?_
    refine am_iaload 114 dX10_init_114 rfl w3 (am_ix (show k < 48 by omega) (by decide)) ?_
    rw [nI_clamp (n := k) (by omega), v4 k hk1]
    refine am_iconst 115 (v := 0) dX10_init_115 (by decide) ?_
    refine am_V2 116 (mc' := 0) (ms' := 0) (rc := 0) (rs := 0) dX10_init_116 lX10_44 ⟨by decide, by decide⟩ w0 (Nat.le_of_ble_eq_true rfl) (Nat.le_of_ble_eq_true rfl) (hpl1) ?_
    refine am_is_ct ?_
    refine am_iastore 119 dX10_init_119 rfl b3 (am_ix hk (by omega)) ?_
    rw [nI_clamp (n := k) (by omega)]
    generalize hf2 : va_up g (t + 3) _ = g2
    have d0 : ∀ x, x ≠ t + 3 → g2 x = g x := fun x hx => by rw [← hf2, am_up_ne hx]
    have d3 : ∃ xs : Nat → Int32, g2 (t + 3) = .inl (0, P, .inl xs) := ⟨_, by rw [← hf2, am_up_eq]⟩
    clear hf2
    have b0' := (d0 t (by omega)).trans b0
    have w0' := (d0 v (by omega)).trans w0
    have w3' := (d0 (u + 2) (by omega)).trans w3
    have b4' := (d0 (t + 4) (by omega)).trans b4
    have hpl2 := s_place (n := t + 5) (y := true) (hW0.on (f' := g2) fun x hx => (d0 x (by omega)).trans (b5 x (by omega))) c48 c20 hs
    refine am_aload_n 120 dX10_init_120 rfl ?_
    refine am_getfield 121 dX10_init_121 fX10_38 b0' rfl ?_
    refine am_iload_n 124 dX10_init_124 rfl ?_
    refine am_aload_n 125 dX10_init_125 rfl ?_
    refine am_aload_n 126 dX10_init_126 rfl ?_
    refine am_getfield 127 dX10_init_127 fX10_41 w0' rfl ?_
    refine am_iload_n 130 dX10_init_130 rfl ?_
    refine am_iaload 131 dX10_init_131 rfl w3' (am_ix (show k < 48 by omega) (by decide)) ?_
    rw [nI_clamp (n := k) (by omega), v4 k hk1]
    refine am_iconst 132 (v := 1) dX10_init_132 (by decide) ?_
    refine am_V2 133 (mc' := 0) (ms' := 0) (rc := 0) (rs := 0) dX10_init_133 lX10_44 ⟨by decide, by decide⟩ w0' (Nat.le_of_ble_eq_true rfl) (Nat.le_of_ble_eq_true rfl) (hpl2) ?_
    refine am_is_ct ?_
    refine am_iastore 136 dX10_init_136 rfl b4' (am_ix hk (by omega)) ?_
    rw [nI_clamp (n := k) (by omega)]
    refine am_iinc 137 (v := nI (k + 1)) dX10_init_137 rfl (nI_1 (k)) (by decide) ?_
    refine am_goto 140 (tgt := 95) dX10_init_140 rfl ?_
    refine ih _ ⟨(am_un (by omega) b0'), ⟨nw, am_un (by omega) ((d0 _ (by omega)).trans b1), hnw⟩, ⟨bs, am_un (by omega) ((d0 _ (by omega)).trans b2), hbs⟩, ?_, ⟨_, am_ue⟩, fun x hx => (am_up_ne (by omega)).trans ((d0 x (by omega)).trans (b5 x hx))⟩
    obtain ⟨xs2, d3⟩ := d3
    exact ⟨xs2, am_un (by omega) d3⟩
theorem r_S.cnt {G2 : Nat → m_K} {th' h' di' li' : Int32} (s : r_S m n f κ sz G th h di li cs) (hG : ∀ x, x ≠ 4 → G2 x = G x) : r_S m n (va_up f m (r_m12 m th' h' di' li' (r_n G2 0) (r_n G2 1) (r_n G2 2) (r_n G2 3) (r_n G2 4))) κ sz G2 th' h' di' li' cs ∧ r_go m n κ κ f (va_up f m (r_m12 m th' h' di' li' (r_n G2 0) (r_n G2 1) (r_n G2 2) (r_n G2 3) (r_n G2 4))) := by
  have g : r_go m n κ κ f (va_up f m (r_m12 m th' h' di' li' (r_n G2 0) (r_n G2 1) (r_n G2 2) (r_n G2 3) (r_n G2 4))) := ⟨fun _ _ => rfl, fun x _ _ h1 _ => am_up_ne h1⟩
  refine ⟨s.on (Nat.le_refl _) g (fun x hx => am_up_ne fun z => by have := s.k0 (x := m) (by omega); rw [z] at hx; omega) (fun k hk => hG k (by omega)) am_ue ⟨am_un (by omega) s.2.1.1, s.2.1.2⟩ ((s.2.2.2.on (Nat.le_refl _) fun x hx => am_up_ne fun z => hx (by rw [z]; exact s.k0 (by omega))).ghost fun x hx => hG x (by omega)), g⟩
theorem r_S.scal {th' h' di' li' : Int32} (s : r_S m n f κ sz G th h di li cs) : r_S m n (va_up f m (r_m12 m th' h' di' li' (r_n G 0) (r_n G 1) (r_n G 2) (r_n G 3) (r_n G 4))) κ sz G th' h' di' li' cs ∧ r_go m n κ κ f (va_up f m (r_m12 m th' h' di' li' (r_n G 0) (r_n G 1) (r_n G 2) (r_n G 3) (r_n G 4))) := s.cnt fun _ _ => rfl
/-- how many names are free -/
def r_fr (cs : Nat → Option Nat) : Nat := (if (cs 0).isNone then 1 else 0) + (if (cs 1).isNone then 1 else 0) + (if (cs 2).isNone then 1 else 0) + (if (cs 3).isNone then 1 else 0) + (if (cs 4).isNone then 1 else 0)
theorem r_fr_le : r_fr cs ≤ 5 := by
  unfold r_fr
  repeat' split
  all_goals omega
theorem r_fr_up {k x : Nat} (hk : k < 5) (hc : cs k = none) : r_fr (va_up cs k (some x)) + 1 = r_fr cs := by
  have hj2 : k = 0 ∨ k = 1 ∨ k = 2 ∨ k = 3 ∨ k = 4 := by omega
  unfold r_fr va_up
  rcases hj2 with rfl | rfl | rfl | rfl | rfl <;> simp [hc] <;> omega
theorem r_first (cs : Nat → Option Nat) : (∃ k, k < 5 ∧ cs k = none ∧ ∀ j, j < k → cs j ≠ none) ∨ ∀ j, j < 5 → cs j ≠ none := by
  have h : ∀ N, (∃ k, k < N ∧ cs k = none ∧ ∀ j, j < k → cs j ≠ none) ∨ ∀ j, j < N → cs j ≠ none := by
    intro N
    induction N with
    | zero => exact Or.inr fun j hj => by omega
    | succ N ih =>
      rcases ih with ⟨k, a, b⟩ | h
      · exact Or.inl ⟨k, by omega, b⟩
      · by_cases q : cs N = none
        · exact Or.inl ⟨N, by omega, q, h⟩
        · refine Or.inr fun j hj => ?_
          by_cases e : j = N
          · rw [e]; exact q
          · exact h j (by omega)
  exact h 5
end RTrack
