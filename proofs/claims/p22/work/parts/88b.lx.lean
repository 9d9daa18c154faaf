/-! ===== hand and model side by side, between two calls ===== -/
section YLx
variable {p T n sz : Nat} {f : Nat → am_C} {z z1 : m_Z} {li : Int32} {cs cs1 : Nat → Option Nat} {G G1 : Nat → m_K}
theorem l_X.I (hX : l_X z li sz cs G) (hG : m_G f p T z) : y_I sz T (y_Z z) := by
  rw [hX.2.1]
  exact hG.2.2.2.2.2.2.1
/-- behind a frame -/
theorem l_X.fr (h : l_X z li sz cs G) (el : z_lim z1 = z_lim z) (eto : z_to z1 = z_to z) (eA : z_A z1 = z_A z) (eZ : y_Z z1 = y_frM (m_sg z) (z_lim z) (z_d z) (z_A z) (z_to z) (y_Z z)) (r : y_R (fun _ => False) sz (z_A z) (y_frM (m_sg z) li (z_d z) (z_A z) sz (y_Z z)) cs1 G1) : l_X z1 li sz cs1 G1 := by
  refine ⟨h.1.trans el.symm, h.2.1.trans eto.symm, ?_⟩
  rw [eA, eZ, ← h.1, ← h.2.1]
  exact r
theorem y_wip_t {S : y_H} (k : Nat) : y_t (y_it y_wip S k) = y_t S := y_it_t (fun S k => by
  unfold y_wip
  split <;> rfl) k
/-- behind a wipe -/
theorem l_X.wip {W : y_H} {w b : Nat → Int32} {hh : Int32} (h : l_X z li sz cs G) (hW : y_it y_wip (y_Z z) 5 = W) (r : y_R (fun _ => False) sz (z_A z) W cs1 G1) : l_X ((w, b, hh), y_K W, (y_be W, y_li W, y_ca W), (z_to z, z_A z, y_C W), z.2.2.2.2) li sz cs1 G1 := by
  have e : y_t W = (z_ta z, z_th z) := by
    rw [← hW]
    exact y_wip_t 5
  clear hW
  refine ⟨h.1, h.2.1, ?_⟩
  have e2 : (y_K W, y_C W, y_be W, y_li W, y_ca W, ((z_ta z, z_th z) : Int32 × Int32)) = W := (congrArg (fun t => (y_K W, y_C W, y_be W, y_li W, y_ca W, t)) e.symm).trans rfl
  show y_R (fun _ => False) sz (z_A z) (y_K W, y_C W, y_be W, y_li W, y_ca W, ((z_ta z, z_th z) : Int32 × Int32)) cs1 G1
  rw [e2]
  exact r
/-- behind an area -/
theorem l_X.area {a b c d : Int32} (h : l_X z li sz cs G) (hG : m_G f p T z) (hz : sz < 4) : l_X (z.1, z.2.1, z.2.2.1, (z_to z + 1, va_up (z_A z) (z_to z) (y_sd a b c d), z_C z), z.2.2.2.2) li (sz + 1) cs (y_aG G sz a b c d) := by
  have hI := h.I hG
  obtain ⟨h1, h2, h3⟩ := h
  subst h2
  exact ⟨h1, rfl, h3.told hz hI⟩
/-- at first -/
theorem l_X.first {κ0 : m_K} (hS : y_Z z = (fun _ => κ0, fun _ _ => 0, 0, 0, 0, (0, 0))) (h0 : κ0.1 = fun _ => 0) (hto : 0 = z_to z) (el : li = z_lim z) : l_X z li 0 (fun _ => none) (fun _ => κ0) := by
  refine ⟨el, hto, ?_⟩
  rw [hS]
  have hz : ∀ i, κ0.1 i = 0 := fun i => by rw [h0]
  refine ⟨fun j _ => ⟨⟨fun q => absurd (hz 0) q, fun q => absurd rfl q⟩, fun c hc => by cases hc⟩, ⟨fun i c _ hc => (by cases hc), fun i j c c' _ _ hc => (by cases hc), fun i j c _ _ hc => (by cases hc)⟩, fun i j c _ _ _ hc => (by cases hc), fun k hk => absurd hk (Nat.not_lt_zero k), ⟨hz 2, hz 3, hz 4, hz 0, hz 1⟩, fun j _ q => absurd (hz 0) q⟩
theorem l_dig (hX : l_X z li sz cs G) : m_dig z = y_dig (y_Z z) sz li (z_h z) (z_b z) (fun k => z_h z + z_w z k - z_b z k) := by
  rw [hX.1, hX.2.1]
  exact y_dig_eq z (y_Z z) rfl
theorem l_b {c fr k hc wp : Nat} {A C : List q_P} {w b : Nat → Int32} {h : Int32} (hq : q_Sh c A C fr k hc wp w b h) (hc9 : c ≤ 1000) : ∀ x, x < 48 → (h + 0 - b x).toInt.natAbs ≤ 300000 := by
  intro x hx
  have h2 := hq.2.1 x hx
  have h3 := hq.2.2
  rw [Int32.add_zero, q_sub (by omega) (by omega)]
  omega
end YLx
