/-! ===== the reference's contact and area, made ===== -/
section RNew
variable {i n : Nat} {f : Nat → am_C}
def r_new (px py ar : Int32) : m_K := (fun j => match j with
  | 2 => px
  | 3 => py
  | 4 => 1
  | 7 => ar
  | _ => 0, fun j => match j with
  | 0 => FP.i2f px
  | 1 => FP.i2f py
  | 5 => FP.i2f px
  | 6 => FP.i2f py
  | _ => 0, fun _ => 0)
theorem r_new_ok {px py : Nat} {ar : Int32} (hx : px ≤ 56) (hy : py ≤ 56) : m_kOk (r_new (nI px) (nI py) ar) := by
  have h1 : fB (FP.i2f (nI px)) 0 56 := fB_mono (fB_whole (by omega)) (by omega) (by omega)
  have h2 : fB (FP.i2f (nI py)) 0 56 := fB_mono (fB_whole (by omega)) (by omega) (by omega)
  have h0 : ∀ {a b : Int}, a ≤ 0 → 0 ≤ b → fB 0 a b := fun ha hb => fB_0 ha hb
  exact ⟨h1, h2, h0 (by decide) (by decide), h0 (by decide) (by decide), h0 (by decide) (by decide), h1, h2, fun j _ => h0 (by decide) (by decide), px, py, hx, hy, rfl, rfl⟩
theorem s_rCon_init {x y ar : Int32} (h0 : f i = .inr (9, [.float 0, .float 0, .int 0, .null, .float 0, .float 0, .float 0, .float 0, .float 0, .int 0, .int 0, .int 0, .int 0, .int 0, .int 0])) : AM mX9_init 1 5 [.ref i, .int x, .int y, .int ar] (i + 1) f (fun o n' f' => o = .inl none ∧ n' = i + 2 ∧ f' i = .inr (9, r_kF (i + 1) (r_new x y ar)) ∧ f' (i + 1) = .inl (2, 5, .inr (.inr (.inl (fun _ => 0)))) ∧ ∀ x, x < i → f' x = f x) := by
  show AW mX9_init 1 5 0 [some (.ref i), some (.int x), some (.int y), some (.int ar)] [] (i + 1) f _
  refine am_aload_n 0 dX9_init_0 rfl ?_
  refine am_OI 1 dX9_init_1 lX9_3 (by decide) (Nat.le_of_ble_eq_true rfl) ?_
  refine am_aload_n 4 dX9_init_4 rfl ?_
  refine am_iconst 5 (v := 5) dX9_init_5 (by decide) ?_
  refine am_newfloats 6 (t := 2) (N := 5) (rc := 0) (rs := 0) dX9_init_6 ac_float rfl (by decide) (by decide) (by decide) ?_
  refine am_putfinal 8 dX9_init_8 rfl qX9_9 (by repeat (first | assumption | exact am_ue | refine am_un (by first | assumption | decide | omega) ?_)) rfl rfl (Nat.le_of_ble_eq_true rfl) ?_
  refine am_aload_n 11 dX9_init_11 rfl ?_
  refine am_iconst 12 (v := 1) dX9_init_12 (by decide) ?_
  refine am_putfield 13 dX9_init_13 pX9_15 (by repeat (first | assumption | exact am_ue | refine am_un (by first | assumption | decide | omega) ?_)) rfl rfl (Nat.le_of_ble_eq_true rfl) ?_
  refine am_aload_n 16 dX9_init_16 rfl ?_
  refine am_iload_n 17 dX9_init_17 rfl ?_
  refine am_i2f 18 dX9_init_18 ?_
  refine am_putfield 19 dX9_init_19 pX9_19 (by repeat (first | assumption | exact am_ue | refine am_un (by first | assumption | decide | omega) ?_)) rfl rfl (Nat.le_of_ble_eq_true rfl) ?_
  refine am_aload_n 22 dX9_init_22 rfl ?_
  refine am_iload_n 23 dX9_init_23 rfl ?_
  refine am_i2f 24 dX9_init_24 ?_
  refine am_putfield 25 dX9_init_25 pX9_23 (by repeat (first | assumption | exact am_ue | refine am_un (by first | assumption | decide | omega) ?_)) rfl rfl (Nat.le_of_ble_eq_true rfl) ?_
  refine am_aload_n 28 dX9_init_28 rfl ?_
  refine am_iload_n 29 dX9_init_29 rfl ?_
  refine am_putfinal 30 dX9_init_30 rfl qX9_26 (by repeat (first | assumption | exact am_ue | refine am_un (by first | assumption | decide | omega) ?_)) rfl rfl (Nat.le_of_ble_eq_true rfl) ?_
  refine am_aload_n 33 dX9_init_33 rfl ?_
  refine am_iload_n 34 dX9_init_34 rfl ?_
  refine am_i2f 35 dX9_init_35 ?_
  refine am_putfinal 36 dX9_init_36 rfl qX9_29 (by repeat (first | assumption | exact am_ue | refine am_un (by first | assumption | decide | omega) ?_)) rfl rfl (Nat.le_of_ble_eq_true rfl) ?_
  refine am_aload_n 39 dX9_init_39 rfl ?_
  refine am_iload_n 40 dX9_init_40 rfl ?_
  refine am_i2f 41 dX9_init_41 ?_
  refine am_putfinal 42 dX9_init_42 rfl qX9_32 (by repeat (first | assumption | exact am_ue | refine am_un (by first | assumption | decide | omega) ?_)) rfl rfl (Nat.le_of_ble_eq_true rfl) ?_
  refine am_aload_n 45 dX9_init_45 rfl ?_
  refine am_iload_n 46 dX9_init_46 rfl ?_
  refine am_putfield 47 dX9_init_47 pX9_35 (by repeat (first | assumption | exact am_ue | refine am_un (by first | assumption | decide | omega) ?_)) rfl rfl (Nat.le_of_ble_eq_true rfl) ?_
  refine am_aload_n 50 dX9_init_50 rfl ?_
  refine am_iload_n 51 dX9_init_51 rfl ?_
  refine am_putfield 52 dX9_init_52 pX9_38 (by repeat (first | assumption | exact am_ue | refine am_un (by first | assumption | decide | omega) ?_)) rfl rfl (Nat.le_of_ble_eq_true rfl) ?_
  refine am_return 55 dX9_init_55 rfl ?_
  refine ⟨rfl, rfl, am_ue, ?_, fun x hx => by repeat rw [am_up_ne (by omega)]⟩
  repeat (first | exact am_ue | refine am_un (by omega) ?_)
theorem s_rAre_init {x y z w : Int32} (h0 : f i = .inr (8, [.int 0, .int 0, .int 0, .int 0, .null])) : AM mX8_init 1 4 [.ref i, .int x, .int y, .int z, .int w] (i + 1) f (fun o n' f' => o = .inl none ∧ n' = i + 2 ∧ f' i = .inr (8, [.int x, .int y, .int z, .int w, .ref (i + 1)]) ∧ f' (i + 1) = .inl (0, 4, .inl (fun _ => 0)) ∧ ∀ x, x < i → f' x = f x) := by
  show AW mX8_init 1 4 0 [some (.ref i), some (.int x), some (.int y), some (.int z), some (.int w)] [] (i + 1) f _
  refine am_aload_n 0 dX8_init_0 rfl ?_
  refine am_OI 1 dX8_init_1 lX8_1 (by decide) (Nat.le_of_ble_eq_true rfl) ?_
  refine am_aload_n 4 dX8_init_4 rfl ?_
  refine am_iconst 5 (v := 4) dX8_init_5 (by decide) ?_
  refine am_newints 6 (t := 0) (N := 4) (rc := 0) (rs := 0) dX8_init_6 ac_int rfl (by decide) (by decide) (by decide) ?_
  refine am_putfinal 8 dX8_init_8 rfl qX8_7 (by repeat (first | assumption | exact am_ue | refine am_un (by first | assumption | decide | omega) ?_)) rfl rfl (Nat.le_of_ble_eq_true rfl) ?_
  refine am_aload_n 11 dX8_init_11 rfl ?_
  refine am_iload_n 12 dX8_init_12 rfl ?_
  refine am_putfinal 13 dX8_init_13 rfl qX8_13 (by repeat (first | assumption | exact am_ue | refine am_un (by first | assumption | decide | omega) ?_)) rfl rfl (Nat.le_of_ble_eq_true rfl) ?_
  refine am_aload_n 16 dX8_init_16 rfl ?_
  refine am_iload_n 17 dX8_init_17 rfl ?_
  refine am_putfinal 18 dX8_init_18 rfl qX8_17 (by repeat (first | assumption | exact am_ue | refine am_un (by first | assumption | decide | omega) ?_)) rfl rfl (Nat.le_of_ble_eq_true rfl) ?_
  refine am_aload_n 21 dX8_init_21 rfl ?_
  refine am_iload_n 22 dX8_init_22 rfl ?_
  refine am_putfinal 23 dX8_init_23 rfl qX8_20 (by repeat (first | assumption | exact am_ue | refine am_un (by first | assumption | decide | omega) ?_)) rfl rfl (Nat.le_of_ble_eq_true rfl) ?_
  refine am_aload_n 26 dX8_init_26 rfl ?_
  refine am_iload 27 dX8_init_27 rfl ?_
  refine am_putfinal 29 dX8_init_29 rfl qX8_23 (by repeat (first | assumption | exact am_ue | refine am_un (by first | assumption | decide | omega) ?_)) rfl rfl (Nat.le_of_ble_eq_true rfl) ?_
  refine am_return 32 dX8_init_32 rfl ?_
  refine ⟨rfl, rfl, am_ue, ?_, fun x hx => by repeat rw [am_up_ne (by omega)]⟩
  repeat (first | exact am_ue | refine am_un (by omega) ?_)
end RNew
