/-! ===== a new model ===== -/
section RInit
variable {G : Nat → m_K}
variable {m : Nat} {f : Nat → am_C}
theorem s_rM_init (hn : ∀ i, i < 5 → r_n G i = 0) (h0 : f m = .inr (12, [.int 0, .null, .null, .int 0, .int 0, .int 0, .null, .null, .int 0, .int 0, .int 0, .int 0, .int 0])) : AM mX12_init 4 104 [.ref m] (m + 1) f (fun o n' f' => o = .inl none ∧ n' = m + 5 ∧ r_M m (m + 5) f' (fun _ => 0) 0 G 0 0 4 12 (fun _ => none) (fun _ => 0) (fun _ => 0) ∧ ∀ x, x < m → f' x = f x) := by
  show AW mX12_init 4 104 0 [some (.ref m)] [] (m + 1) f _
  refine am_aload_n 0 dX12_init_0 rfl ?_
  refine am_OI 1 dX12_init_1 lX12_7 (by decide) (Nat.le_of_ble_eq_true rfl) ?_
  refine am_aload_n 4 dX12_init_4 rfl ?_
  refine am_bipush 5 (v := 48) dX12_init_5 (by decide) ?_
  refine am_newints 7 (t := 0) (N := 48) (rc := 3) (rs := 56) dX12_init_7 ac_int rfl (by decide) (by decide) (by decide) ?_
  refine am_putfinal 9 dX12_init_9 rfl qX12_13 (by repeat (first | assumption | exact am_ue | refine am_un (by first | assumption | decide | omega) ?_)) rfl rfl (Nat.le_of_ble_eq_true rfl) ?_
  refine am_aload_n 12 dX12_init_12 rfl ?_
  refine am_bipush 13 (v := 48) dX12_init_13 (by decide) ?_
  refine am_newints 15 (t := 0) (N := 48) (rc := 2) (rs := 8) dX12_init_15 ac_int rfl (by decide) (by decide) (by decide) ?_
  refine am_putfinal 17 dX12_init_17 rfl qX12_17 (by repeat (first | assumption | exact am_ue | refine am_un (by first | assumption | decide | omega) ?_)) rfl rfl (Nat.le_of_ble_eq_true rfl) ?_
  refine am_aload_n 20 dX12_init_20 rfl ?_
  refine am_iconst 21 (v := 4) dX12_init_21 (by decide) ?_
  refine am_putfield 22 dX12_init_22 pX12_20 (by repeat (first | assumption | exact am_ue | refine am_un (by first | assumption | decide | omega) ?_)) rfl rfl (Nat.le_of_ble_eq_true rfl) ?_
  refine am_aload_n 25 dX12_init_25 rfl ?_
  refine am_bipush 26 (v := 12) dX12_init_26 (by decide) ?_
  refine am_putfield 28 dX12_init_28 pX12_24 (by repeat (first | assumption | exact am_ue | refine am_un (by first | assumption | decide | omega) ?_)) rfl rfl (Nat.le_of_ble_eq_true rfl) ?_
  refine am_aload_n 31 dX12_init_31 rfl ?_
  refine am_iconst 32 (v := 5) dX12_init_32 (by decide) ?_
  refine am_anewarray 33 (t := 7) (N := 5) (rc := 1) (rs := 3) dX12_init_33 cX12_27 (by decide) rfl (by decide) (by decide) (by decide) ?_
  refine am_putfinal 36 dX12_init_36 rfl qX12_29 (by repeat (first | assumption | exact am_ue | refine am_un (by first | assumption | decide | omega) ?_)) rfl rfl (Nat.le_of_ble_eq_true rfl) ?_
  refine am_aload_n 39 dX12_init_39 rfl ?_
  refine am_new 40 (rc := 0) (rs := 0) (N := 3) dX12_init_40 nX12_33 ?_
  refine am_dup 43 dX12_init_43 rfl ?_
  refine am_I0 44 (mc' := 0) (ms' := 0) (rc := 0) (rs := 0) dX12_init_44 lX12_35 ⟨by decide, by decide⟩ (Nat.le_of_ble_eq_true rfl) (Nat.le_of_ble_eq_true rfl) (s_AL_init am_ue) ?_
  rintro o n' f' ⟨rfl, rfl, rfl⟩
  refine ⟨_, rfl, ?_⟩
  refine am_putfinal 47 dX12_init_47 rfl qX12_36 (by repeat (first | assumption | exact am_ue | refine am_un (by first | assumption | decide | omega) ?_)) rfl rfl (Nat.le_of_ble_eq_true rfl) ?_
  refine am_return 50 dX12_init_50 rfl ?_
  refine ⟨rfl, rfl, ⟨⟨(by rw [hn 0 (by decide), hn 1 (by decide), hn 2 (by decide), hn 3 (by decide), hn 4 (by decide)]; exact am_ue), ⟨?_, fun k _ c h => by cases h⟩, ⟨by decide, by omega, 1, 0, fun _ => none, ?_, fun _ => ⟨rfl, rfl⟩, fun h => absurd h (by decide), ⟨fun k h => absurd h (Nat.not_lt_zero k), fun i j a b h1 h2 => absurd h2 (Nat.not_lt_zero j)⟩⟩, fun x => ⟨fun h => absurd rfl h, fun h => absurd (show (0 : Nat) = 1 from h) (by decide), fun h => absurd (show (0 : Nat) = 2 from h) (by decide), fun h => absurd (show (0 : Nat) = 3 from h) (by decide), fun h => absurd (show (0 : Nat) = 4 from h) (by decide)⟩⟩, ?_, ?_⟩, fun x hx => by repeat rw [am_up_ne (by omega)]⟩
  all_goals repeat (first | exact am_ue | refine am_un (by omega) ?_)
end RInit
