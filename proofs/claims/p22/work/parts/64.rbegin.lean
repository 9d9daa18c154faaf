/-! ===== the reference in any state: a contact begins ===== -/
section RBegin
variable {G : Nat → m_K}
variable {m n sz : Nat} {f : Nat → am_C} {κ : Nat → Nat} {th h di li : Int32} {cs : Nat → Option Nat}
/-- the kinds once a contact is made at n -/
def r_k2 (n : Nat) (κ : Nat → Nat) : Nat → Nat := fun x => if x = n then 1 else if x = n + 1 then 2 else if n ≤ x then 0 else κ x
theorem r_k2_0 : r_k2 n κ n = 1 := by simp [r_k2]
theorem r_k2_1 : r_k2 n κ (n + 1) = 2 := by simp [r_k2]
theorem r_k2_x {x : Nat} (h : x < n) : r_k2 n κ x = κ x := by
  unfold r_k2
  rw [if_neg (by omega), if_neg (by omega), if_neg (by omega)]
theorem r_k2_y {x : Nat} (h : n + 2 ≤ x) : r_k2 n κ x = 0 := by
  unfold r_k2
  rw [if_neg (by omega), if_neg (by omega), if_pos (by omega)]
theorem r_ty.new {G2 : Nat → m_K} {f' : Nat → am_C} {kk : m_K} {g : Nat → UInt32} (s : r_ty m n sz G κ f) (hm : m + 5 ≤ n) (h0 : f' n = .inr (9, r_kF (n + 1) kk)) (h1 : f' (n + 1) = .inl (2, 5, .inr (.inr (.inl g)))) (hg : ∀ j, j < 5 → fB (g j) 0 112) (hk : m_kOk kk) (ha : kk.1 7 = -1 ∨ ∃ k, k < sz ∧ kk.1 7 = nI k) {cl : Nat} (hc : cl ≤ 3) (hc2 : kk.1 6 = nI cl) (e : ∀ x, x < n → κ x ≠ 0 → f' x = f x) (hG : ∀ x, m + 5 ≤ x → x < n → G2 x = G x) (hG2 : kk = G2 n) (hG3 : g = (G2 (n + 1)).2.2) : r_ty m (n + 2) sz G2 (r_k2 n κ) f' := by
  have hin : ∀ x, κ x ≠ 0 → x < n := fun x hx => ((s x).1 hx).2
  have h2 : ∀ x, κ x = 2 → r_k2 n κ x = 2 := fun x hx => (r_k2_x (hin x (by omega))).trans hx
  have h4 : ∀ x, κ x = 4 → r_k2 n κ x = 4 := fun x hx => (r_k2_x (hin x (by omega))).trans hx
  intro x
  by_cases q : x < n
  · rw [r_k2_x q]
    obtain ⟨a0, a1, a2, a3, a4⟩ := s x
    refine ⟨fun z => ⟨(a0 z).1, by omega⟩, fun z => ?_, fun z => ?_, fun z => ?_, fun z => ?_⟩
    · rw [e x q (by omega)]
      rw [hG x (a0 (by omega)).1 q]
      obtain ⟨ap, cl, kk, b0, b1, b2⟩ := a1 z
      exact ⟨ap, cl, kk, b0, h2 _ b1, b2⟩
    · rw [e x q (by omega), hG x (a0 (by omega)).1 q]; exact a2 z
    · rw [e x q (by omega)]
      obtain ⟨p, q, r, t, y, b0, b1⟩ := a3 z
      exact ⟨p, q, r, t, y, b0, h4 _ b1⟩
    · rw [e x q (by omega)]; exact a4 z
  · rcases (show x = n ∨ x = n + 1 ∨ n + 2 ≤ x by omega) with z | z | z
    · subst z
      rw [r_k2_0]
      exact ⟨fun _ => by omega, fun _ => ⟨_, cl, kk, h0, r_k2_1, hk, ha, hc, hc2, hG2, rfl⟩, fun z => by omega, fun z => by omega, fun z => by omega⟩
    · subst z
      rw [r_k2_1]
      exact ⟨fun _ => by omega, fun z => by omega, fun _ => ⟨g, h1, hg, hG3⟩, fun z => by omega, fun z => by omega⟩
    · rw [r_k2_y z]
      exact ⟨fun z => absurd rfl z, fun z => by omega, fun z => by omega, fun z => by omega, fun z => by omega⟩
theorem s_begin0 {c : Nat} {x y : Int32} (s : r_S m n f κ sz G th h di li cs) (hfull : ∀ j, j < 5 → cs j ≠ none) : AM mX12_begin 0 0 [.ref m, .int (nI c), .int x, .int y] n f (am_is none n f) := by
  obtain ⟨h0, ⟨c3, cw⟩, har, hty⟩ := s
  unfold r_m12 at h0
  show AW mX12_begin 0 0 0 [some (.ref m), some (.int (nI c)), some (.int x), some (.int y), none, none, none] [] n f _
  refine am_iconst 0 (v := 0) dX12_begin_0 (by decide) ?_
  refine am_istore 1 dX12_begin_1 (by decide) ?_
  refine am_for 5 (fun _ (_ : Unit) => True) (fun k _ => AW mX12_begin 0 0 3 [some (.ref m), some (.int (nI c)), some (.int x), some (.int y), some (.int (nI k)), none, none] [] n f _) ?_ ?_ 0 () (by omega) trivial
  · rintro ⟨⟩ -
    refine am_iload 3 dX12_begin_3 rfl ?_
    refine am_iconst 5 (v := 5) dX12_begin_5 (by decide) ?_
    refine am_icmp_ge 6 25 dX12_begin_6 rfl (fun c6 => ?_) (fun c6 => absurd (by decide) c6)
    refine am_iload 25 dX12_begin_25 rfl ?_
    refine am_iconst 27 (v := 5) dX12_begin_27 (by decide) ?_
    refine am_icmp_ne 28 32 dX12_begin_28 rfl (fun c28 => absurd c28 (fun q => q rfl)) (fun c28 => ?_)
    exact am_return 31 dX12_begin_31 rfl ⟨rfl, rfl, rfl⟩
  · rintro k ⟨⟩ hk - ih
    rcases hc : cs k with _ | c1
    · exact absurd hc (hfull k hk)
    · refine am_iload 3 dX12_begin_3 rfl ?_
      refine am_iconst 5 (v := 5) dX12_begin_5 (by decide) ?_
      refine am_icmp_ge 6 25 dX12_begin_6 rfl (fun c6 => absurd c6 (nI_ge hk (by decide))) (fun c6 => ?_)
      refine am_aload_n 9 dX12_begin_9 rfl ?_
      refine am_getfield 10 dX12_begin_10 fX12_29 (by repeat (first | assumption | exact am_ue | refine am_un (by first | assumption | decide | omega) ?_)) rfl ?_
      refine am_iload 13 dX12_begin_13 rfl ?_
      refine am_aaload 15 dX12_begin_15 rfl (by repeat (first | assumption | exact am_ue | refine am_un (by first | assumption | decide | omega) ?_)) (am_ix hk (by decide)) ?_
      rw [nI_clamp (n := k) (by omega), hc, show va_rf (some c1) = Value.ref c1 from rfl]
      refine am_ifnull 16 dX12_begin_16 ?_
      refine am_iinc 19 (v := nI (k + 1)) dX12_begin_19 rfl (nI_1 (k)) (by decide) ?_
      refine am_goto 22 (tgt := 3) dX12_begin_22 rfl ?_
      exact ih () trivial
def y_z : m_K := (fun _ => 0, fun _ => 0, fun _ => 0)
/-- the ghost once a contact is made at n -/
def y_mkG (G : Nat → m_K) (n : Nat) (κ : m_K) : Nat → m_K := va_up (va_up (y_nG G 2) n κ) (n + 1) y_z
/-- how far the new one and one that is there are apart, kept by both -/
def y_raG (cs : Nat → Option Nat) (k n : Nat) (G : Nat → m_K) (j : Nat) : Nat → m_K := if j = k then G else match cs j with
  | none => G
  | some c => va_up (va_up G (n + 1) (m_fa (G (n + 1)) (va_up (G (n + 1)).2.2 j (r_dist ((G n).2.1 0) ((G n).2.1 1) ((G c).2.1 0) ((G c).2.1 1))))) (c + 1) (m_fa (G (c + 1)) (va_up (G (c + 1)).2.2 k (r_dist ((G n).2.1 0) ((G n).2.1 1) ((G c).2.1 0) ((G c).2.1 1))))
theorem y_raG_no {k j : Nat} (h : cs j = none) : y_raG cs k n G j = G := by
  unfold y_raG
  by_cases q : j = k
  · rw [if_pos q]
  · rw [if_neg q, h]
theorem y_raG_yes {k j c : Nat} (q : j ≠ k) (h : cs j = some c) : y_raG cs k n G j = va_up (va_up G (n + 1) (m_fa (G (n + 1)) (va_up (G (n + 1)).2.2 j (r_dist ((G n).2.1 0) ((G n).2.1 1) ((G c).2.1 0) ((G c).2.1 1))))) (c + 1) (m_fa (G (c + 1)) (va_up (G (c + 1)).2.2 k (r_dist ((G n).2.1 0) ((G n).2.1 1) ((G c).2.1 0) ((G c).2.1 1)))) := by
  unfold y_raG
  rw [if_neg q, h]
theorem y_raG_lo {k j x : Nat} (hn : x < 5) (h5 : 5 ≤ n) (hc : ∀ c, cs j = some c → 5 ≤ c) : y_raG cs k n G j x = G x := by
  by_cases q : j = k
  · rw [show y_raG cs k n G j = G from if_pos q]
  · rcases e : cs j with _ | c
    · rw [y_raG_no e]
    · have := hc c e
      rw [y_raG_yes q e, am_up_ne (by omega), am_up_ne (by omega)]
set_option maxHeartbeats 2000000 in
theorem s_begin2 {k c px py : Nat} (s : r_S m n f κ sz G th h di li cs) (hc48 : c < 48) (hk : k < 5) (hck : cs k = none) (hbe : ∀ j, j < k → cs j ≠ none) (hx : px ≤ 56) (hy : py ≤ 56) : AM mX12_begin 2 20 [.ref m, .int (nI c), .int (nI px), .int (nI py)] n f (fun o n' f' => o = .inl none ∧ n' = n + 2 ∧ r_S m (n + 2) f' (r_k2 n κ) sz (y_it (y_raG cs k n) (y_mkG G n (r_new (nI px) (nI py) (y_ar (fun k i => (G k).1 i) c sz))) 5) th h di li (va_up cs k (some n)) ∧ r_go m n κ (r_k2 n κ) f f') := by
  have s1 := s
  have hm5 := s.n5
  have hcn : ∀ j c, j < 5 → cs j = some c → m + 5 ≤ c ∧ c < n := fun j c hj hc => (s1.cn hj hc).2
  obtain ⟨h0, ⟨c3, cw⟩, har, hty⟩ := s
  generalize hGm : y_mkG G n (r_new (nI px) (nI py) (y_ar (fun k i => (G k).1 i) c sz)) = Gm
  have hs4 := har.1
  unfold r_m12 at h0
  generalize hQ : (fun (o : Option Value ⊕ Nat) (n' : Nat) (f' : Nat → am_C) => o = .inl none ∧ n' = n + 2 ∧ r_S m (n + 2) f' (r_k2 n κ) sz (y_it (y_raG cs k n) Gm 5) th h di li (va_up cs k (some n)) ∧ r_go m n κ (r_k2 n κ) f f') = Q
  have hlast : ∀ f1 : Nat → am_C, r_S m (n + 2) f1 (r_k2 n κ) sz Gm th h di li (va_up cs k (some n)) → r_go m n κ (r_k2 n κ) f f1 → AW mX12_begin 0 0 70 [some (.ref m), some (.int (nI c)), some (.int (nI px)), some (.int (nI py)), some (.int (nI k)), some (.ref n), some (.int (nI 0))] [] (n + 2) f1 Q := by
    intro f1 s2 g2
    refine am_for 5 (fun j (g : Nat → am_C) => r_S m (n + 2) g (r_k2 n κ) sz (y_it (y_raG cs k n) Gm j) th h di li (va_up cs k (some n)) ∧ r_go m n κ (r_k2 n κ) f g) (fun j g => AW mX12_begin 0 0 70 [some (.ref m), some (.int (nI c)), some (.int (nI px)), some (.int (nI py)), some (.int (nI k)), some (.ref n), some (.int (nI j))] [] (n + 2) g Q) ?_ ?_ 0 f1 (by omega) ⟨s2, g2⟩
    · rintro g ⟨s3, g3⟩
      refine am_iload 70 dX12_begin_70 rfl ?_
      refine am_iconst 72 (v := 5) dX12_begin_72 (by decide) ?_
      refine am_icmp_ge 73 140 dX12_begin_73 rfl (fun c73 => ?_) (fun c73 => absurd (by decide) c73)
      refine am_return 140 dX12_begin_140 rfl ?_
      subst hQ
      exact ⟨rfl, rfl, s3, g3⟩
    · rintro j g hj ⟨s3, g3⟩ ih
      have s3 : r_S m (n + 2) g (r_k2 n κ) sz (y_it (y_raG cs k n) Gm j) th h di li (va_up cs k (some n)) := s3
      have ih : ∀ g', r_S m (n + 2) g' (r_k2 n κ) sz (y_raG cs k n (y_it (y_raG cs k n) Gm j) j) th h di li (va_up cs k (some n)) → r_go m n κ (r_k2 n κ) f g' → AW mX12_begin 0 0 70 [some (.ref m), some (.int (nI c)), some (.int (nI px)), some (.int (nI py)), some (.int (nI k)), some (.ref n), some (.int (nI (j + 1)))] [] (n + 2) g' Q := fun g' a b => ih g' ⟨a, b⟩
      generalize y_it (y_raG cs k n) Gm j = Gj at *
      have s4 := s3
      obtain ⟨e0, ⟨e3, ew⟩, -, et⟩ := s3
      unfold r_m12 at e0
      rcases hc : va_up cs k (some n) j with _ | c1
      · have hjk : j ≠ k := fun z => by rw [z, am_up_eq] at hc; cases hc
        have eno : y_raG cs k n Gj j = Gj := by
          unfold y_raG
          rw [if_neg hjk]
          rw [am_up_ne hjk] at hc
          rw [hc]
        refine am_iload 70 dX12_begin_70 rfl ?_
        refine am_iconst 72 (v := 5) dX12_begin_72 (by decide) ?_
        refine am_icmp_ge 73 140 dX12_begin_73 rfl (fun c73 => absurd c73 (nI_ge hj (by decide))) (fun c73 => ?_)
        refine am_aload_n 76 dX12_begin_76 rfl ?_
        refine am_getfield 77 dX12_begin_77 fX12_29 (by repeat (first | assumption | exact am_ue | refine am_un (by first | assumption | decide | omega) ?_)) rfl ?_
        refine am_iload 80 dX12_begin_80 rfl ?_
        refine am_aaload 82 dX12_begin_82 rfl (by repeat (first | assumption | exact am_ue | refine am_un (by first | assumption | decide | omega) ?_)) (am_ix hj (by decide)) ?_
        rw [nI_clamp (n := j) (by omega), hc, show va_rf none = Value.null from rfl]
        refine am_ifnullN 83 (tgt := 134) dX12_begin_83 rfl ?_
        refine am_iinc 134 (v := nI (j + 1)) dX12_begin_134 rfl (nI_1 (j)) (by decide) ?_
        refine am_goto 137 (tgt := 70) dX12_begin_137 rfl ?_
        exact ih _ (by rw [eno]; exact s4) g3
      · by_cases hjk : j = k
        · subst hjk
          refine am_iload 70 dX12_begin_70 rfl ?_
          refine am_iconst 72 (v := 5) dX12_begin_72 (by decide) ?_
          refine am_icmp_ge 73 140 dX12_begin_73 rfl (fun c73 => absurd c73 (nI_ge hj (by decide))) (fun c73 => ?_)
          refine am_aload_n 76 dX12_begin_76 rfl ?_
          refine am_getfield 77 dX12_begin_77 fX12_29 (by repeat (first | assumption | exact am_ue | refine am_un (by first | assumption | decide | omega) ?_)) rfl ?_
          refine am_iload 80 dX12_begin_80 rfl ?_
          refine am_aaload 82 dX12_begin_82 rfl (by repeat (first | assumption | exact am_ue | refine am_un (by first | assumption | decide | omega) ?_)) (am_ix hj (by decide)) ?_
          rw [nI_clamp (n := j) (by omega), hc, show va_rf (some c1) = Value.ref c1 from rfl]
          refine am_ifnull 83 dX12_begin_83 ?_
          refine am_iload 86 dX12_begin_86 rfl ?_
          refine am_iload 88 dX12_begin_88 rfl ?_
          refine am_icmp_eq 90 134 dX12_begin_90 rfl (fun c90 => ?_) (fun c90 => absurd rfl c90)
          refine am_iinc 134 (v := nI (j + 1)) dX12_begin_134 rfl (nI_1 (j)) (by decide) ?_
          refine am_goto 137 (tgt := 70) dX12_begin_137 rfl ?_
          exact ih _ (by rw [show y_raG cs j n Gj j = Gj from if_pos rfl]; exact s4) g3
        · have hnk : ¬ nI j = nI k := fun z => hjk ((nI_eq (by omega) (by omega)).mp z)
          have en := (et n).2.1 r_k2_0
          obtain ⟨ap, cl, kk, b0, b1, b2, b3, b4, b5, rfl, rfl⟩ := en
          obtain ⟨d, b6, b7, rfl⟩ := (et (n + 1)).2.2.1 b1
          have hc1 := ew j hj c1 hc
          obtain ⟨ap1, cl1, kk1, a0, a1, a2, a3, a4, a5, rfl, rfl⟩ := (et c1).2.1 hc1
          have hcs1 : cs j = some c1 := by rw [am_up_ne hjk] at hc; exact hc
          have hc1n := hcn j c1 hj hcs1
          have er : y_raG cs k n Gj j = va_up (va_up Gj (n + 1) (m_fa (Gj (n + 1)) (va_up (Gj (n + 1)).2.2 j (r_dist ((Gj n).2.1 0) ((Gj n).2.1 1) ((Gj c1).2.1 0) ((Gj c1).2.1 1))))) (c1 + 1) (m_fa (Gj (c1 + 1)) (va_up (Gj (c1 + 1)).2.2 k (r_dist ((Gj n).2.1 0) ((Gj n).2.1 1) ((Gj c1).2.1 0) ((Gj c1).2.1 1)))) := y_raG_yes hjk hcs1
          rw [er] at ih
          obtain ⟨r1, r2, r3⟩ := r_dist_ok b2.1 b2.2.1 a2.1 a2.2.1
          have hd1 : ∀ i, i < 5 → fB (va_up (Gj (n + 1)).2.2 j (r_dist ((Gj n).2.1 0) ((Gj n).2.1 1) ((Gj c1).2.1 0) ((Gj c1).2.1 1)) i) 0 112 := fun i hi => by
            by_cases q : i = j
            · rw [q, am_up_eq]; exact r3
            · rw [am_up_ne q]; exact b7 i hi
          have hX : ∃ f2 : Nat → am_C, f2 = va_up g (n + 1) (.inl (2, 5, .inr (.inr (.inl (va_up (Gj (n + 1)).2.2 j (r_dist ((Gj n).2.1 0) ((Gj n).2.1 1) ((Gj c1).2.1 0) ((Gj c1).2.1 1))))))) := ⟨_, rfl⟩
          obtain ⟨f2, hX⟩ := hX
          have x1 : f2 (n + 1) = .inl (2, 5, .inr (.inr (.inl (va_up (Gj (n + 1)).2.2 j (r_dist ((Gj n).2.1 0) ((Gj n).2.1 1) ((Gj c1).2.1 0) ((Gj c1).2.1 1)))))) := by rw [hX, am_up_eq]
          have x2 : ∀ z, z ≠ n + 1 → f2 z = g z := fun z hz => by rw [hX, am_up_ne hz]
          obtain ⟨s5, g5⟩ := s4.kin (G2 := va_up Gj (n + 1) (m_fa (Gj (n + 1)) (va_up (Gj (n + 1)).2.2 j (r_dist ((Gj n).2.1 0) ((Gj n).2.1 1) ((Gj c1).2.1 0) ((Gj c1).2.1 1))))) (et.dis b1 x2 (fun z hz => am_up_ne hz) ⟨_, x1, hd1, by rw [am_up_eq]; rfl⟩) (fun z hz => x2 z (fun q => by rw [q] at hz; omega)) (fun x hx => am_up_ne (by omega))
          have s6 := s5
          obtain ⟨-, -, -, et2⟩ := s5
          obtain ⟨d1, y1, y2, y3⟩ := (et2 (c1 + 1)).2.2.1 a1
          rw [am_up_ne (by omega)] at y3
          subst y3
          have kn : ∀ z, r_k2 n κ z ≠ 2 → z ≠ n + 1 := fun z hz q => hz (by rw [q]; exact b1)
          have w0 := (x2 m (kn m (by rw [s4.k0 (by omega)]; decide))).trans e0
          have w3 := (x2 (m + 3) (kn _ (by rw [s4.k0 (by omega)]; decide))).trans e3
          have wc := (x2 c1 (kn _ (by rw [hc1]; decide))).trans a0
          have wn := (x2 n (kn _ (by rw [r_k2_0]; decide))).trans b0
          unfold r_kF at a0 b0 wc wn
          have hz : ∀ v : UInt32, fB v 0 112 → v = r_dist ((Gj n).2.1 0) ((Gj n).2.1 1) ((Gj c1).2.1 0) ((Gj c1).2.1 1) → AW mX12_begin 0 0 134 [some (.ref m), some (.int (nI c)), some (.int (nI px)), some (.int (nI py)), some (.int (nI k)), some (.ref n), some (.int (nI j))] [] (n + 2) (va_up f2 (c1 + 1) (.inl (2, 5, .inr (.inr (.inl (va_up (Gj (c1 + 1)).2.2 k v)))))) Q := by
            intro v hv hve
            have hd2 : ∀ i, i < 5 → fB (va_up (Gj (c1 + 1)).2.2 k v i) 0 112 := fun i hi => by
              by_cases q : i = k
              · rw [q, am_up_eq]; exact hv
              · rw [am_up_ne q]; exact y2 i hi
            obtain ⟨s7, g7⟩ := s6.kin (G2 := va_up (va_up Gj (n + 1) (m_fa (Gj (n + 1)) (va_up (Gj (n + 1)).2.2 j (r_dist ((Gj n).2.1 0) ((Gj n).2.1 1) ((Gj c1).2.1 0) ((Gj c1).2.1 1))))) (c1 + 1) (m_fa (Gj (c1 + 1)) (va_up (Gj (c1 + 1)).2.2 k (r_dist ((Gj n).2.1 0) ((Gj n).2.1 1) ((Gj c1).2.1 0) ((Gj c1).2.1 1))))) (f' := va_up f2 (c1 + 1) (.inl (2, 5, .inr (.inr (.inl (va_up (Gj (c1 + 1)).2.2 k v)))))) (et2.dis a1 (fun z hz => am_up_ne hz) (fun z hz => am_up_ne hz) ⟨_, am_ue, hd2, by rw [am_up_eq, hve]; rfl⟩) (fun z hz => am_up_ne (fun q => by rw [q] at hz; omega)) (fun x hx => am_up_ne (by omega))
            refine am_iinc 134 (v := nI (j + 1)) dX12_begin_134 rfl (nI_1 (j)) (by decide) ?_
            refine am_goto 137 (tgt := 70) dX12_begin_137 rfl ?_
            exact ih _ s7 ((g3.trans g5 (by omega)).trans g7 (by omega))
          refine am_iload 70 dX12_begin_70 rfl ?_
          refine am_iconst 72 (v := 5) dX12_begin_72 (by decide) ?_
          refine am_icmp_ge 73 140 dX12_begin_73 rfl (fun c73 => absurd c73 (nI_ge hj (by decide))) (fun c73 => ?_)
          refine am_aload_n 76 dX12_begin_76 rfl ?_
          refine am_getfield 77 dX12_begin_77 fX12_29 (by repeat (first | assumption | exact am_ue | refine am_un (by first | assumption | decide | omega) ?_)) rfl ?_
          refine am_iload 80 dX12_begin_80 rfl ?_
          refine am_aaload 82 dX12_begin_82 rfl (by repeat (first | assumption | exact am_ue | refine am_un (by first | assumption | decide | omega) ?_)) (am_ix hj (by decide)) ?_
          rw [nI_clamp (n := j) (by omega), hc, show va_rf (some c1) = Value.ref c1 from rfl]
          refine am_ifnull 83 dX12_begin_83 ?_
          refine am_iload 86 dX12_begin_86 rfl ?_
          refine am_iload 88 dX12_begin_88 rfl ?_
          refine am_icmp_eq 90 134 dX12_begin_90 rfl (fun c90 => absurd c90 hnk) (fun c90 => ?_)
          refine am_aload 93 dX12_begin_93 rfl ?_
          refine am_getfield 95 dX12_begin_95 fX12_156 b0 rfl ?_
          refine am_iload 98 dX12_begin_98 rfl ?_
          refine am_aload 100 dX12_begin_100 rfl ?_
          refine am_aload_n 102 dX12_begin_102 rfl ?_
          refine am_getfield 103 dX12_begin_103 fX12_29 (by repeat (first | assumption | exact am_ue | refine am_un (by first | assumption | decide | omega) ?_)) rfl ?_
          refine am_iload 106 dX12_begin_106 rfl ?_
          refine am_aaload 108 dX12_begin_108 rfl (by repeat (first | assumption | exact am_ue | refine am_un (by first | assumption | decide | omega) ?_)) (am_ix hj (by decide)) ?_
          rw [nI_clamp (n := j) (by omega), hc, show va_rf (some c1) = Value.ref c1 from rfl]
          refine am_V1 109 (mc' := 0) (ms' := 0) (rc := 0) (rs := 0) dX12_begin_109 lX12_160 ⟨by decide, by decide⟩ b0 (Nat.le_of_ble_eq_true rfl) (Nat.le_of_ble_eq_true rfl) (s_rto b0 a0 b2 a2) ?_
          refine am_is_ct ?_
          refine am_fastore 112 dX12_begin_112 rfl b6 (am_ix hj (by decide)) ?_
          rw [nI_clamp (n := j) (by omega)]
          generalize hY : va_up g (n + 1) _ = fy
          obtain rfl : fy = f2 := hY.symm.trans hX.symm
          refine am_aload_n 113 dX12_begin_113 rfl ?_
          refine am_getfield 114 dX12_begin_114 fX12_29 w0 rfl ?_
          refine am_iload 117 dX12_begin_117 rfl ?_
          refine am_aaload 119 dX12_begin_119 rfl w3 (am_ix hj (by decide)) ?_
          rw [nI_clamp (n := j) (by omega), hc, show va_rf (some c1) = Value.ref c1 from rfl]
          refine am_getfield 120 dX12_begin_120 fX12_156 wc rfl ?_
          refine am_iload 123 dX12_begin_123 rfl ?_
          refine am_aload 125 dX12_begin_125 rfl ?_
          refine am_getfield 127 dX12_begin_127 fX12_156 wn rfl ?_
          refine am_iload 130 dX12_begin_130 rfl ?_
          refine am_faload 132 dX12_begin_132 rfl x1 (am_ix hj (by decide)) ?_
          rw [nI_clamp (n := j) (by omega)]
          refine am_fastore 133 dX12_begin_133 rfl y1 (am_ix hk (by decide)) ?_
          rw [nI_clamp (n := k) (by omega)]
          exact hz _ (hd1 j hj) am_up_eq
  have hmade : AW mX12_begin 2 20 25 [some (.ref m), some (.int (nI c)), some (.int (nI px)), some (.int (nI py)), some (.int (nI k)), none, none] [] n f Q := by
    have k1 := r_nm1 (k := k)
    have hk5 : ¬ nI k = 5 := fun z => by have := am_eqN 5 (k := k) z (by decide) (by omega); omega
    refine am_iload 25 dX12_begin_25 rfl ?_
    refine am_iconst 27 (v := 5) dX12_begin_27 (by decide) ?_
    refine am_icmp_ne 28 32 dX12_begin_28 rfl (fun c28 => ?_) (fun c28 => absurd c28 hk5)
    refine am_new 32 (rc := 1) (rs := 5) (N := 15) dX12_begin_32 nX12_27 ?_
    refine am_dup 35 dX12_begin_35 rfl ?_
    refine am_iload_n 36 dX12_begin_36 rfl ?_
    refine am_iload_n 37 dX12_begin_37 rfl ?_
    refine am_aload_n 38 dX12_begin_38 rfl ?_
    refine am_iload_n 39 dX12_begin_39 rfl ?_
    refine am_V1 40 (mc' := 0) (ms' := 0) (rc := 1) (rs := 5) dX12_begin_40 lX12_147 ⟨by decide, by decide⟩ (am_un (by omega) h0) (Nat.le_of_ble_eq_true rfl) (Nat.le_of_ble_eq_true rfl) (s_rareaOf hc48 (s1.far (n' := n + 1) (by omega) (am_up_ne (by omega)) (am_up_ne (by omega)) (am_up_ne (by omega)) (fun x _ hx => Or.inl (am_up_ne (by omega))))) ?_
    refine am_is_ct ?_
    have har2 := y_ar_in (A := fun k i => (G k).1 i) (c := c) sz
    generalize y_ar (fun k i => (G k).1 i) c sz = ar at hGm har2
    refine am_I3 43 (mc' := 1) (ms' := 5) (rc := 0) (rs := 0) dX12_begin_43 lX12_150 ⟨by decide, by decide⟩ (Nat.le_of_ble_eq_true rfl) (Nat.le_of_ble_eq_true rfl) (s_rCon_init am_ue) ?_
    rintro o n' f1 ⟨rfl, rfl, i0, i1, i2⟩
    refine ⟨_, rfl, ?_⟩
    have o : ∀ x, x < n → f1 x = f x := fun x hx => (i2 x hx).trans (am_up_ne (by omega))
    have h0' := (o m (by omega)).trans h0
    have c3' := (o (m + 3) (by omega)).trans c3
    refine am_astore 46 dX12_begin_46 (by decide) ?_
    refine am_aload_n 48 dX12_begin_48 rfl ?_
    refine am_getfield 49 dX12_begin_49 fX12_29 (by repeat (first | assumption | exact am_ue | refine am_un (by first | assumption | decide | omega) ?_)) rfl ?_
    refine am_iload 52 dX12_begin_52 rfl ?_
    refine am_aload 54 dX12_begin_54 rfl ?_
    refine am_aastore 56 dX12_begin_56 rfl (by exact c3') i0 rfl (am_ix hk (by decide)) ?_
    rw [nI_clamp (n := k) (by omega)]
    refine am_aload_n 57 dX12_begin_57 rfl ?_
    refine am_dup 58 dX12_begin_58 rfl ?_
    refine am_getfield 59 dX12_begin_59 fX12_153 (am_un (by omega) h0') rfl ?_
    refine am_iconst 62 (v := 1) dX12_begin_62 (by decide) ?_
    refine am_iadd 63 dX12_begin_63 ?_
    refine am_putfield 64 dX12_begin_64 pX12_153 (am_un (by omega) h0') rfl rfl (Nat.le_of_ble_eq_true rfl) ?_
    refine am_iconst 67 (v := 0) dX12_begin_67 (by decide) ?_
    refine am_istore 68 dX12_begin_68 (by decide) ?_
    generalize hX : va_up _ m _ = f3
    have x0 : f3 m = r_m12 m th h di li (r_n G 0) (r_n G 1) (r_n G 2 + 1) (r_n G 3) (r_n G 4) := by rw [← hX, am_up_eq]; rfl
    have x3 : f3 (m + 3) = .inl (7, 5, .inr (.inr (.inr (.inr (va_up cs k (some n)))))) := by rw [← hX, am_up_ne (by omega), am_up_eq]
    have xz : ∀ z, z ≠ m → z ≠ m + 3 → f3 z = f1 z := fun z h1 h2 => by rw [← hX, am_up_ne h1, am_up_ne h2]
    have go : r_go m n κ (r_k2 n κ) f f3 := ⟨fun x hx => r_k2_x hx, fun x hx _ h1 h2 => (xz x h1 h2).trans (o x hx)⟩
    have hGx : ∀ x, m + 5 ≤ x → x < n → Gm x = G x := fun x h1 h2 => by
      rw [← hGm]
      unfold y_mkG
      rw [am_up_ne (by omega), am_up_ne (by omega), y_nG_x (by omega)]
    have hGl : ∀ x, x < 5 → Gm x = y_nG G 2 x := fun x h1 => by
      rw [← hGm]
      unfold y_mkG
      rw [am_up_ne (by omega), am_up_ne (by omega)]
    have hGn : r_new (nI px) (nI py) ar = Gm n := by
      rw [← hGm]
      unfold y_mkG
      rw [am_up_ne (by omega), am_up_eq]
    have hGn1 : Gm (n + 1) = y_z := by
      rw [← hGm]
      exact am_up_eq
    have hrn : ∀ i, r_n Gm i = r_n (y_nG G 2) i := fun i => by
      unfold r_n
      rw [hGl 4 (by omega)]
    refine hlast f3 (s1.on (by omega) go (fun x hx => ?_) (fun k hk => (hGl k (by omega)).trans (y_nG_x (by omega))) (by rw [hrn, hrn, hrn, hrn, hrn, r_n_up, r_n_ne (by decide), r_n_ne (by decide), r_n_ne (by decide), r_n_ne (by decide)]; exact x0) ⟨x3, fun j hj c' hc' => ?_⟩ (hty.new (G2 := Gm) hm5 (kk := r_new (nI px) (nI py) ar) ((xz n (by omega) (by omega)).trans i0) ((xz _ (by omega) (by omega)).trans i1) (fun _ _ => fB_0 (by decide) (by decide)) (r_new_ok hx hy) har2 (cl := 0) (by decide) rfl (fun x hx hkx => (xz x (fun z => hkx (by rw [z]; exact s1.k0 (by omega))) (fun z => hkx (by rw [z]; exact s1.k0 (by omega)))).trans (o x hx)) hGx hGn (by rw [hGn1]; rfl))) go
    · have q0 : κ x ≠ 0 := by omega
      have q1 := (hty x).1 q0
      exact (xz x (by omega) (by omega)).trans (o x q1.2)
    by_cases q : j = k
    · rw [q, am_up_eq] at hc'
      cases hc'
      exact r_k2_0
    · rw [am_up_ne q] at hc'
      exact (r_k2_x (hcn j c' hj hc').2).trans (cw j hj c' hc')
  show AW mX12_begin 2 20 0 [some (.ref m), some (.int (nI c)), some (.int (nI px)), some (.int (nI py)), none, none, none] [] n f _
  refine am_iconst 0 (v := 0) dX12_begin_0 (by decide) ?_
  refine am_istore 1 dX12_begin_1 (by decide) ?_
  refine am_for k (fun _ (_ : Unit) => True) (fun j _ => AW mX12_begin 2 20 3 [some (.ref m), some (.int (nI c)), some (.int (nI px)), some (.int (nI py)), some (.int (nI j)), none, none] [] n f Q) ?_ ?_ 0 () (by omega) trivial
  · rintro ⟨⟩ -
    refine am_iload 3 dX12_begin_3 rfl ?_
    refine am_iconst 5 (v := 5) dX12_begin_5 (by decide) ?_
    refine am_icmp_ge 6 25 dX12_begin_6 rfl (fun c6 => absurd c6 (nI_ge hk (by decide))) (fun c6 => ?_)
    refine am_aload_n 9 dX12_begin_9 rfl ?_
    refine am_getfield 10 dX12_begin_10 fX12_29 (by repeat (first | assumption | exact am_ue | refine am_un (by first | assumption | decide | omega) ?_)) rfl ?_
    refine am_iload 13 dX12_begin_13 rfl ?_
    refine am_aaload 15 dX12_begin_15 rfl (by repeat (first | assumption | exact am_ue | refine am_un (by first | assumption | decide | omega) ?_)) (am_ix hk (by decide)) ?_
    rw [nI_clamp (n := k) (by omega), hck, show va_rf none = Value.null from rfl]
    refine am_ifnullN 16 (tgt := 25) dX12_begin_16 rfl ?_
    exact hmade
  · rintro j ⟨⟩ hj - ih
    have hj5 : j < 5 := by omega
    rcases hc : cs j with _ | c1
    · exact absurd hc (hbe j hj)
    · refine am_iload 3 dX12_begin_3 rfl ?_
      refine am_iconst 5 (v := 5) dX12_begin_5 (by decide) ?_
      refine am_icmp_ge 6 25 dX12_begin_6 rfl (fun c6 => absurd c6 (nI_ge hj5 (by decide))) (fun c6 => ?_)
      refine am_aload_n 9 dX12_begin_9 rfl ?_
      refine am_getfield 10 dX12_begin_10 fX12_29 (by repeat (first | assumption | exact am_ue | refine am_un (by first | assumption | decide | omega) ?_)) rfl ?_
      refine am_iload 13 dX12_begin_13 rfl ?_
      refine am_aaload 15 dX12_begin_15 rfl (by repeat (first | assumption | exact am_ue | refine am_un (by first | assumption | decide | omega) ?_)) (am_ix hj5 (by decide)) ?_
      rw [nI_clamp (n := j) (by omega), hc, show va_rf (some c1) = Value.ref c1 from rfl]
      refine am_ifnull 16 dX12_begin_16 ?_
      refine am_iinc 19 (v := nI (j + 1)) dX12_begin_19 rfl (nI_1 (j)) (by decide) ?_
      refine am_goto 22 (tgt := 3) dX12_begin_22 rfl ?_
      exact ih () trivial
end RBegin
