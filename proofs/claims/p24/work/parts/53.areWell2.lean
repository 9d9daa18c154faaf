/-! ===== all is well: peaks, cells, contacts ===== -/
section We2
variable {p T n : Nat} {f : Nat → am_C} {z : m_Z}
def m_last (z : m_Z) : Nat → Int32
  | 0 => -1
  | k + 1 => nI (m_pkAt z k)
theorem m_last_lt {k : Nat} (hk : k < m_P z) : ¬ nI (m_pkAt z k) ≤ m_last z k := by
  have h48 : ∀ j, j < m_P z → m_pkAt z j < 48 := fun j hj => (m_pks48 (sig := m_sg z) hj).1
  cases k with
  | zero =>
    intro q
    have h0 := h48 0 hk
    have h1 : (0 : Int32) ≤ nI (m_pkAt z 0) := nI_pos' (by omega)
    exact absurd (Int32.le_trans h1 q) (show ¬ (0 : Int32) ≤ -1 by decide)
  | succ k =>
    have h1 : m_pkAt z k < m_pkAt z (k + 1) := m_pks_lt (sig := m_sg z) (Nat.lt_succ_self k) hk
    have h0 := h48 (k + 1) hk
    exact nI_ge h1 (by omega)
theorem l_well3 {z6 z7 z8 : Option Value} (hG : m_G f p T z) (hT : T ≤ 1000) : AW mL_areWell 0 0 355 [some (.ref p), some (.int (nI (m_N (m_th (z_K z)) 5))), some (.int (nI (m_P z))), some (.int (nI (m_N (m_tu z) 48))), some (.int (-1)), some (.int (nI 0)), z6, z7, z8] [] n f (am_is (some (.int 1)) n f) := by
  have h0 := hG.1
  have hP : m_P z ≤ 48 := m_pks_len
  generalize hQ : am_is (some (.int 1)) n f = Q
  refine am_for (m_P z) (fun _ (_ : Option Value × Option Value × Option Value) => True) (fun k s => AW mL_areWell 0 0 355 [some (.ref p), some (.int (nI (m_N (m_th (z_K z)) 5))), some (.int (nI (m_P z))), some (.int (nI (m_N (m_tu z) 48))), some (.int (m_last z k)), some (.int (nI k)), s.1, s.2.1, s.2.2] [] n f Q) ?_ ?_ 0 (z6, z7, z8) (by omega) trivial
  · rintro ⟨u6, u7, u8⟩ -
    subst hQ
    refine am_iload 355 dL_areWell_355 rfl ?_
    refine am_aload_n 357 dL_areWell_357 rfl ?_
    refine am_bipush 358 (v := 8) dL_areWell_358 (by decide) ?_
    refine am_V1 360 (mc' := 0) (ms' := 0) (rc := 0) (rs := 0) dL_areWell_360 lL_22 ⟨by decide, by decide⟩ (by repeat (first | assumption | exact am_ue | refine am_un (by first | assumption | decide | omega) ?_)) (Nat.le_of_ble_eq_true rfl) (Nat.le_of_ble_eq_true rfl) (s_many hG (j := 8) (by decide)) ?_
    refine am_is_ct ?_
    refine am_icmp_ge 363 509 dL_areWell_363 rfl (fun c363 => ?_) (fun c363 => absurd (Int32.le_refl _) c363)
    refine am_iconst 509 (v := 0) dL_areWell_509 (by decide) ?_
    refine am_istore 510 dL_areWell_510 (by decide) ?_
    refine am_iconst 512 (v := 0) dL_areWell_512 (by decide) ?_
    refine am_istore 513 dL_areWell_513 (by decide) ?_
    exact l_well4 hG hT
  · rintro k ⟨u6, u7, u8⟩ hk - ih
    have ih : ∀ a b c, AW mL_areWell 0 0 355 [some (.ref p), some (.int (nI (m_N (m_th (z_K z)) 5))), some (.int (nI (m_P z))), some (.int (nI (m_N (m_tu z) 48))), some (.int (nI (m_pkAt z k))), some (.int (nI (k + 1))), a, b, c] [] n f Q := fun a b c => ih (a, b, c) trivial
    show AW mL_areWell 0 0 355 [some (.ref p), some (.int (nI (m_N (m_th (z_K z)) 5))), some (.int (nI (m_P z))), some (.int (nI (m_N (m_tu z) 48))), some (.int (m_last z k)), some (.int (nI k)), u6, u7, u8] [] n f Q
    have c48 : m_pkAt z k < 48 := (m_pks48 (sig := m_sg z) hk).1
    have c20 : 20 ≤ m_sg z (m_pkAt z k) := (m_pks48 (sig := m_sg z) hk).2
    have px := m_place_spec (isY := false) c48 c20
    have py := m_place_spec (isY := true) c48 c20
    simp only [if_true, Bool.false_eq_true, if_false] at px py
    have hl := m_last_lt hk
    have ec : 8 * (m_pkAt z k / 8) + m_pkAt z k % 8 = m_pkAt z k := Nat.div_add_mod _ _
    have e0 : m_peakA z k 0 = nI (m_pkAt z k) := rfl
    have e1 : m_peakA z k 1 = nI (m_placeN (m_sg z) (m_pkAt z k) false) := rfl
    have e2 : m_peakA z k 2 = nI (m_placeN (m_sg z) (m_pkAt z k) true) := rfl
    have e3 : m_cellA z (m_pkAt z k) 3 = 1 := by
      rw [m_tu_tc]
      show nI (if 20 ≤ m_sg z (m_pkAt z k) then 1 else 0) = 1
      rw [if_pos c20]
      rfl
    have n1 := m_near (m_placeN (m_sg z) (m_pkAt z k) false) (by omega) (8 * (m_pkAt z k % 8)) (by omega) px.2.1 px.1
    have n2 := m_near (m_placeN (m_sg z) (m_pkAt z k) true) (by omega) (8 * (m_pkAt z k / 8)) (by omega) py.2.1 py.1
    by_cases hb : 14 < m_peakA z k 3
    · have e4 : m_peakA z k 4 = 1 := if_pos hb
      refine am_iload 355 dL_areWell_355 rfl ?_
      refine am_aload_n 357 dL_areWell_357 rfl ?_
      refine am_bipush 358 (v := 8) dL_areWell_358 (by decide) ?_
      refine am_V1 360 (mc' := 0) (ms' := 0) (rc := 0) (rs := 0) dL_areWell_360 lL_22 ⟨by decide, by decide⟩ (by repeat (first | assumption | exact am_ue | refine am_un (by first | assumption | decide | omega) ?_)) (Nat.le_of_ble_eq_true rfl) (Nat.le_of_ble_eq_true rfl) (s_many hG (j := 8) (by decide)) ?_
      refine am_is_ct ?_
      refine am_icmp_ge 363 509 dL_areWell_363 rfl (fun c363 => absurd c363 (nI_ge hk (by omega))) (fun c363 => ?_)
      refine am_aload_n 366 dL_areWell_366 rfl ?_
      refine am_iload 367 dL_areWell_367 rfl ?_
      refine am_iconst 369 (v := 0) dL_areWell_369 (by decide) ?_
      refine am_V2 370 (mc' := 0) (ms' := 0) (rc := 0) (rs := 0) dL_areWell_370 lL_86 ⟨by decide, by decide⟩ (by repeat (first | assumption | exact am_ue | refine am_un (by first | assumption | decide | omega) ?_)) (Nat.le_of_ble_eq_true rfl) (Nat.le_of_ble_eq_true rfl) (s_ofPeak hG hk (j := 0) (by decide)) ?_
      refine am_is_ct ?_
      rw [e0]
      refine am_istore 373 dL_areWell_373 (by decide) ?_
      refine am_iload 375 dL_areWell_375 rfl ?_
      refine am_bipush 377 (v := 8) dL_areWell_377 (by decide) ?_
      refine am_irem 379 dL_areWell_379 (by decide) ?_
      rw [am_rem8 (by omega)]
      refine am_istore 380 dL_areWell_380 (by decide) ?_
      refine am_iload 382 dL_areWell_382 rfl ?_
      refine am_bipush 384 (v := 8) dL_areWell_384 (by decide) ?_
      refine am_idiv 386 dL_areWell_386 (by decide) ?_
      rw [am_div8 (by omega)]
      refine am_istore 387 dL_areWell_387 (by decide) ?_
      refine am_iload 389 dL_areWell_389 rfl ?_
      refine am_iload 391 dL_areWell_391 rfl ?_
      refine am_icmp_le 393 497 dL_areWell_393 rfl (fun c393 => absurd c393 hl) (fun c393 => ?_)
      refine am_aload_n 396 dL_areWell_396 rfl ?_
      refine am_iload 397 dL_areWell_397 rfl ?_
      refine am_iload 399 dL_areWell_399 rfl ?_
      refine am_iconst 401 (v := 3) dL_areWell_401 (by decide) ?_
      refine am_V3 402 (mc' := 0) (ms' := 0) (rc := 0) (rs := 0) dL_areWell_402 lL_60 ⟨by decide, by decide⟩ (by repeat (first | assumption | exact am_ue | refine am_un (by first | assumption | decide | omega) ?_)) (Nat.le_of_ble_eq_true rfl) (Nat.le_of_ble_eq_true rfl) (s_ofCell (x := m_pkAt z k % 8) (y := m_pkAt z k / 8) hG (by omega) (by omega) (j := 3) (by decide)) ?_
      refine am_is_ct ?_
      rw [ec, e3]
      refine am_iconst 405 (v := 1) dL_areWell_405 (by decide) ?_
      refine am_icmp_ne 406 497 dL_areWell_406 rfl (fun c406 => absurd c406 (fun q => q rfl)) (fun c406 => ?_)
      refine am_aload_n 409 dL_areWell_409 rfl ?_
      refine am_iload 410 dL_areWell_410 rfl ?_
      refine am_iconst 412 (v := 3) dL_areWell_412 (by decide) ?_
      refine am_V2 413 (mc' := 0) (ms' := 0) (rc := 0) (rs := 0) dL_areWell_413 lL_86 ⟨by decide, by decide⟩ (by repeat (first | assumption | exact am_ue | refine am_un (by first | assumption | decide | omega) ?_)) (Nat.le_of_ble_eq_true rfl) (Nat.le_of_ble_eq_true rfl) (s_ofPeak hG hk (j := 3) (by decide)) ?_
      refine am_is_ct ?_
      refine am_aload_n 416 dL_areWell_416 rfl ?_
      refine am_iload 417 dL_areWell_417 rfl ?_
      refine am_iload 419 dL_areWell_419 rfl ?_
      refine am_iconst 421 (v := 4) dL_areWell_421 (by decide) ?_
      refine am_V3 422 (mc' := 0) (ms' := 0) (rc := 0) (rs := 0) dL_areWell_422 lL_60 ⟨by decide, by decide⟩ (by repeat (first | assumption | exact am_ue | refine am_un (by first | assumption | decide | omega) ?_)) (Nat.le_of_ble_eq_true rfl) (Nat.le_of_ble_eq_true rfl) (s_ofCell (x := m_pkAt z k % 8) (y := m_pkAt z k / 8) hG (by omega) (by omega) (j := 4) (by decide)) ?_
      refine am_is_ct ?_
      rw [ec]
      refine am_icmp_ne 425 497 dL_areWell_425 rfl (fun c425 => absurd c425 (fun q => q rfl)) (fun c425 => ?_)
      refine am_aload_n 428 dL_areWell_428 rfl ?_
      refine am_iload 429 dL_areWell_429 rfl ?_
      refine am_iconst 431 (v := 4) dL_areWell_431 (by decide) ?_
      refine am_V2 432 (mc' := 0) (ms' := 0) (rc := 0) (rs := 0) dL_areWell_432 lL_86 ⟨by decide, by decide⟩ (by repeat (first | assumption | exact am_ue | refine am_un (by first | assumption | decide | omega) ?_)) (Nat.le_of_ble_eq_true rfl) (Nat.le_of_ble_eq_true rfl) (s_ofPeak hG hk (j := 4) (by decide)) ?_
      refine am_is_ct ?_
      rw [e4]
      refine am_aload_n 435 dL_areWell_435 rfl ?_
      refine am_iload 436 dL_areWell_436 rfl ?_
      refine am_iconst 438 (v := 3) dL_areWell_438 (by decide) ?_
      refine am_V2 439 (mc' := 0) (ms' := 0) (rc := 0) (rs := 0) dL_areWell_439 lL_86 ⟨by decide, by decide⟩ (by repeat (first | assumption | exact am_ue | refine am_un (by first | assumption | decide | omega) ?_)) (Nat.le_of_ble_eq_true rfl) (Nat.le_of_ble_eq_true rfl) (s_ofPeak hG hk (j := 3) (by decide)) ?_
      refine am_is_ct ?_
      refine am_bipush 442 (v := 14) dL_areWell_442 (by decide) ?_
      refine am_icmp_le 444 451 dL_areWell_444 rfl (fun c444 => absurd c444 (Int32.not_le.mpr hb)) (fun c444 => ?_)
      refine am_iconst 447 (v := 1) dL_areWell_447 (by decide) ?_
      refine am_goto 448 (tgt := 452) dL_areWell_448 rfl ?_
      refine am_icmp_ne 452 497 dL_areWell_452 rfl (fun c452 => absurd c452 (fun q => q rfl)) (fun c452 => ?_)
      refine am_aload_n 455 dL_areWell_455 rfl ?_
      refine am_iload 456 dL_areWell_456 rfl ?_
      refine am_iconst 458 (v := 1) dL_areWell_458 (by decide) ?_
      refine am_V2 459 (mc' := 0) (ms' := 0) (rc := 0) (rs := 0) dL_areWell_459 lL_86 ⟨by decide, by decide⟩ (by repeat (first | assumption | exact am_ue | refine am_un (by first | assumption | decide | omega) ?_)) (Nat.le_of_ble_eq_true rfl) (Nat.le_of_ble_eq_true rfl) (s_ofPeak hG hk (j := 1) (by decide)) ?_
      refine am_is_ct ?_
      rw [e1]
      refine am_bipush 462 (v := 8) dL_areWell_462 (by decide) ?_
      refine am_iload 464 dL_areWell_464 rfl ?_
      refine am_imul 466 dL_areWell_466 ?_
      rw [m_8x _ (by omega)]
      refine am_isub 467 dL_areWell_467 ?_
      refine am_abs 468 dL_areWell_468 jL_39 (by decide) (Nat.le_of_ble_eq_true rfl) ?_
      refine am_bipush 471 (v := 8) dL_areWell_471 (by decide) ?_
      refine am_icmp_gt 473 497 dL_areWell_473 rfl (fun c473 => absurd c473 (Int32.not_lt.mpr n1)) (fun c473 => ?_)
      refine am_aload_n 476 dL_areWell_476 rfl ?_
      refine am_iload 477 dL_areWell_477 rfl ?_
      refine am_iconst 479 (v := 2) dL_areWell_479 (by decide) ?_
      refine am_V2 480 (mc' := 0) (ms' := 0) (rc := 0) (rs := 0) dL_areWell_480 lL_86 ⟨by decide, by decide⟩ (by repeat (first | assumption | exact am_ue | refine am_un (by first | assumption | decide | omega) ?_)) (Nat.le_of_ble_eq_true rfl) (Nat.le_of_ble_eq_true rfl) (s_ofPeak hG hk (j := 2) (by decide)) ?_
      refine am_is_ct ?_
      rw [e2]
      refine am_bipush 483 (v := 8) dL_areWell_483 (by decide) ?_
      refine am_iload 485 dL_areWell_485 rfl ?_
      refine am_imul 487 dL_areWell_487 ?_
      rw [m_8x _ (by omega)]
      refine am_isub 488 dL_areWell_488 ?_
      refine am_abs 489 dL_areWell_489 jL_39 (by decide) (Nat.le_of_ble_eq_true rfl) ?_
      refine am_bipush 492 (v := 8) dL_areWell_492 (by decide) ?_
      refine am_icmp_le 494 499 dL_areWell_494 rfl (fun c494 => ?_) (fun c494 => absurd n2 c494)
      refine am_iload 499 dL_areWell_499 rfl ?_
      refine am_istore 501 dL_areWell_501 (by decide) ?_
      refine am_iinc 503 (v := nI (k + 1)) dL_areWell_503 rfl (nI_1 (k)) (by decide) ?_
      refine am_goto 506 (tgt := 355) dL_areWell_506 rfl ?_
      exact ih _ _ _
    · have e4 : m_peakA z k 4 = 0 := if_neg hb
      refine am_iload 355 dL_areWell_355 rfl ?_
      refine am_aload_n 357 dL_areWell_357 rfl ?_
      refine am_bipush 358 (v := 8) dL_areWell_358 (by decide) ?_
      refine am_V1 360 (mc' := 0) (ms' := 0) (rc := 0) (rs := 0) dL_areWell_360 lL_22 ⟨by decide, by decide⟩ (by repeat (first | assumption | exact am_ue | refine am_un (by first | assumption | decide | omega) ?_)) (Nat.le_of_ble_eq_true rfl) (Nat.le_of_ble_eq_true rfl) (s_many hG (j := 8) (by decide)) ?_
      refine am_is_ct ?_
      refine am_icmp_ge 363 509 dL_areWell_363 rfl (fun c363 => absurd c363 (nI_ge hk (by omega))) (fun c363 => ?_)
      refine am_aload_n 366 dL_areWell_366 rfl ?_
      refine am_iload 367 dL_areWell_367 rfl ?_
      refine am_iconst 369 (v := 0) dL_areWell_369 (by decide) ?_
      refine am_V2 370 (mc' := 0) (ms' := 0) (rc := 0) (rs := 0) dL_areWell_370 lL_86 ⟨by decide, by decide⟩ (by repeat (first | assumption | exact am_ue | refine am_un (by first | assumption | decide | omega) ?_)) (Nat.le_of_ble_eq_true rfl) (Nat.le_of_ble_eq_true rfl) (s_ofPeak hG hk (j := 0) (by decide)) ?_
      refine am_is_ct ?_
      rw [e0]
      refine am_istore 373 dL_areWell_373 (by decide) ?_
      refine am_iload 375 dL_areWell_375 rfl ?_
      refine am_bipush 377 (v := 8) dL_areWell_377 (by decide) ?_
      refine am_irem 379 dL_areWell_379 (by decide) ?_
      rw [am_rem8 (by omega)]
      refine am_istore 380 dL_areWell_380 (by decide) ?_
      refine am_iload 382 dL_areWell_382 rfl ?_
      refine am_bipush 384 (v := 8) dL_areWell_384 (by decide) ?_
      refine am_idiv 386 dL_areWell_386 (by decide) ?_
      rw [am_div8 (by omega)]
      refine am_istore 387 dL_areWell_387 (by decide) ?_
      refine am_iload 389 dL_areWell_389 rfl ?_
      refine am_iload 391 dL_areWell_391 rfl ?_
      refine am_icmp_le 393 497 dL_areWell_393 rfl (fun c393 => absurd c393 hl) (fun c393 => ?_)
      refine am_aload_n 396 dL_areWell_396 rfl ?_
      refine am_iload 397 dL_areWell_397 rfl ?_
      refine am_iload 399 dL_areWell_399 rfl ?_
      refine am_iconst 401 (v := 3) dL_areWell_401 (by decide) ?_
      refine am_V3 402 (mc' := 0) (ms' := 0) (rc := 0) (rs := 0) dL_areWell_402 lL_60 ⟨by decide, by decide⟩ (by repeat (first | assumption | exact am_ue | refine am_un (by first | assumption | decide | omega) ?_)) (Nat.le_of_ble_eq_true rfl) (Nat.le_of_ble_eq_true rfl) (s_ofCell (x := m_pkAt z k % 8) (y := m_pkAt z k / 8) hG (by omega) (by omega) (j := 3) (by decide)) ?_
      refine am_is_ct ?_
      rw [ec, e3]
      refine am_iconst 405 (v := 1) dL_areWell_405 (by decide) ?_
      refine am_icmp_ne 406 497 dL_areWell_406 rfl (fun c406 => absurd c406 (fun q => q rfl)) (fun c406 => ?_)
      refine am_aload_n 409 dL_areWell_409 rfl ?_
      refine am_iload 410 dL_areWell_410 rfl ?_
      refine am_iconst 412 (v := 3) dL_areWell_412 (by decide) ?_
      refine am_V2 413 (mc' := 0) (ms' := 0) (rc := 0) (rs := 0) dL_areWell_413 lL_86 ⟨by decide, by decide⟩ (by repeat (first | assumption | exact am_ue | refine am_un (by first | assumption | decide | omega) ?_)) (Nat.le_of_ble_eq_true rfl) (Nat.le_of_ble_eq_true rfl) (s_ofPeak hG hk (j := 3) (by decide)) ?_
      refine am_is_ct ?_
      refine am_aload_n 416 dL_areWell_416 rfl ?_
      refine am_iload 417 dL_areWell_417 rfl ?_
      refine am_iload 419 dL_areWell_419 rfl ?_
      refine am_iconst 421 (v := 4) dL_areWell_421 (by decide) ?_
      refine am_V3 422 (mc' := 0) (ms' := 0) (rc := 0) (rs := 0) dL_areWell_422 lL_60 ⟨by decide, by decide⟩ (by repeat (first | assumption | exact am_ue | refine am_un (by first | assumption | decide | omega) ?_)) (Nat.le_of_ble_eq_true rfl) (Nat.le_of_ble_eq_true rfl) (s_ofCell (x := m_pkAt z k % 8) (y := m_pkAt z k / 8) hG (by omega) (by omega) (j := 4) (by decide)) ?_
      refine am_is_ct ?_
      rw [ec]
      refine am_icmp_ne 425 497 dL_areWell_425 rfl (fun c425 => absurd c425 (fun q => q rfl)) (fun c425 => ?_)
      refine am_aload_n 428 dL_areWell_428 rfl ?_
      refine am_iload 429 dL_areWell_429 rfl ?_
      refine am_iconst 431 (v := 4) dL_areWell_431 (by decide) ?_
      refine am_V2 432 (mc' := 0) (ms' := 0) (rc := 0) (rs := 0) dL_areWell_432 lL_86 ⟨by decide, by decide⟩ (by repeat (first | assumption | exact am_ue | refine am_un (by first | assumption | decide | omega) ?_)) (Nat.le_of_ble_eq_true rfl) (Nat.le_of_ble_eq_true rfl) (s_ofPeak hG hk (j := 4) (by decide)) ?_
      refine am_is_ct ?_
      rw [e4]
      refine am_aload_n 435 dL_areWell_435 rfl ?_
      refine am_iload 436 dL_areWell_436 rfl ?_
      refine am_iconst 438 (v := 3) dL_areWell_438 (by decide) ?_
      refine am_V2 439 (mc' := 0) (ms' := 0) (rc := 0) (rs := 0) dL_areWell_439 lL_86 ⟨by decide, by decide⟩ (by repeat (first | assumption | exact am_ue | refine am_un (by first | assumption | decide | omega) ?_)) (Nat.le_of_ble_eq_true rfl) (Nat.le_of_ble_eq_true rfl) (s_ofPeak hG hk (j := 3) (by decide)) ?_
      refine am_is_ct ?_
      refine am_bipush 442 (v := 14) dL_areWell_442 (by decide) ?_
      refine am_icmp_le 444 451 dL_areWell_444 rfl (fun c444 => ?_) (fun c444 => absurd (Int32.not_lt.mp hb) c444)
      refine am_iconst 451 (v := 0) dL_areWell_451 (by decide) ?_
      refine am_icmp_ne 452 497 dL_areWell_452 rfl (fun c452 => absurd c452 (fun q => q rfl)) (fun c452 => ?_)
      refine am_aload_n 455 dL_areWell_455 rfl ?_
      refine am_iload 456 dL_areWell_456 rfl ?_
      refine am_iconst 458 (v := 1) dL_areWell_458 (by decide) ?_
      refine am_V2 459 (mc' := 0) (ms' := 0) (rc := 0) (rs := 0) dL_areWell_459 lL_86 ⟨by decide, by decide⟩ (by repeat (first | assumption | exact am_ue | refine am_un (by first | assumption | decide | omega) ?_)) (Nat.le_of_ble_eq_true rfl) (Nat.le_of_ble_eq_true rfl) (s_ofPeak hG hk (j := 1) (by decide)) ?_
      refine am_is_ct ?_
      rw [e1]
      refine am_bipush 462 (v := 8) dL_areWell_462 (by decide) ?_
      refine am_iload 464 dL_areWell_464 rfl ?_
      refine am_imul 466 dL_areWell_466 ?_
      rw [m_8x _ (by omega)]
      refine am_isub 467 dL_areWell_467 ?_
      refine am_abs 468 dL_areWell_468 jL_39 (by decide) (Nat.le_of_ble_eq_true rfl) ?_
      refine am_bipush 471 (v := 8) dL_areWell_471 (by decide) ?_
      refine am_icmp_gt 473 497 dL_areWell_473 rfl (fun c473 => absurd c473 (Int32.not_lt.mpr n1)) (fun c473 => ?_)
      refine am_aload_n 476 dL_areWell_476 rfl ?_
      refine am_iload 477 dL_areWell_477 rfl ?_
      refine am_iconst 479 (v := 2) dL_areWell_479 (by decide) ?_
      refine am_V2 480 (mc' := 0) (ms' := 0) (rc := 0) (rs := 0) dL_areWell_480 lL_86 ⟨by decide, by decide⟩ (by repeat (first | assumption | exact am_ue | refine am_un (by first | assumption | decide | omega) ?_)) (Nat.le_of_ble_eq_true rfl) (Nat.le_of_ble_eq_true rfl) (s_ofPeak hG hk (j := 2) (by decide)) ?_
      refine am_is_ct ?_
      rw [e2]
      refine am_bipush 483 (v := 8) dL_areWell_483 (by decide) ?_
      refine am_iload 485 dL_areWell_485 rfl ?_
      refine am_imul 487 dL_areWell_487 ?_
      rw [m_8x _ (by omega)]
      refine am_isub 488 dL_areWell_488 ?_
      refine am_abs 489 dL_areWell_489 jL_39 (by decide) (Nat.le_of_ble_eq_true rfl) ?_
      refine am_bipush 492 (v := 8) dL_areWell_492 (by decide) ?_
      refine am_icmp_le 494 499 dL_areWell_494 rfl (fun c494 => ?_) (fun c494 => absurd n2 c494)
      refine am_iload 499 dL_areWell_499 rfl ?_
      refine am_istore 501 dL_areWell_501 (by decide) ?_
      refine am_iinc 503 (v := nI (k + 1)) dL_areWell_503 rfl (nI_1 (k)) (by decide) ?_
      refine am_goto 506 (tgt := 355) dL_areWell_506 rfl ?_
      exact ih _ _ _
theorem l_well2 {z6 z7 z8 : Option Value} (hG : m_G f p T z) (hT : T ≤ 1000) : AW mL_areWell 0 0 161 [some (.ref p), some (.int (nI (m_N (m_th (z_K z)) 5))), some (.int 0), some (.int 0), some (.int (-1)), some (.int (nI 0)), z6, z7, z8] [] n f (am_is (some (.int 1)) n f) := by
  have h0 := hG.1
  generalize hQ : am_is (some (.int 1)) n f = Q
  refine am_for 6 (fun y (s : (Int32 × Int32) × Option Value × Option Value × Option Value) => s.1.1 = nI (m_N (m_ab z y) (m_P z)) ∧ s.1.2 = nI (m_N (m_tu z) (8 * y))) (fun y s => AW mL_areWell 0 0 161 [some (.ref p), some (.int (nI (m_N (m_th (z_K z)) 5))), some (.int s.1.1), some (.int s.1.2), some (.int (-1)), some (.int (nI y)), s.2.1, s.2.2.1, s.2.2.2] [] n f Q) ?_ ?_ 0 ((0, 0), z6, z7, z8) (by omega) ⟨by rw [m_ab_0]; rfl, rfl⟩
  · rintro ⟨⟨a, b⟩, u6, u7, u8⟩ ⟨ha, hb⟩
    have ha : a = nI (m_P z) := by
      have h : a = nI (m_N (m_ab z 6) (m_P z)) := ha
      rw [h, m_ab_6]
    have hb : b = nI (m_N (m_tu z) 48) := hb
    show AW mL_areWell 0 0 161 [some (.ref p), some (.int (nI (m_N (m_th (z_K z)) 5))), some (.int a), some (.int b), some (.int (-1)), some (.int (nI 6)), u6, u7, u8] [] n f Q
    rw [ha, hb]
    subst hQ
    refine am_iload 161 dL_areWell_161 rfl ?_
    refine am_bipush 163 (v := 6) dL_areWell_163 (by decide) ?_
    refine am_icmp_ge 165 352 dL_areWell_165 rfl (fun c165 => ?_) (fun c165 => absurd (by decide) c165)
    refine am_iconst 352 (v := 0) dL_areWell_352 (by decide) ?_
    refine am_istore 353 dL_areWell_353 (by decide) ?_
    exact l_well3 hG hT
  · rintro y ⟨⟨a, b⟩, u6, u7, u8⟩ hk ⟨ha, hb⟩ ih
    have hy : y < 6 := hk
    have ha : a = nI (m_N (m_ab z y) (m_P z)) := ha
    have hb : b = nI (m_N (m_tu z) (8 * y)) := hb
    have ih : ∀ c d e, AW mL_areWell 0 0 161 [some (.ref p), some (.int (nI (m_N (m_th (z_K z)) 5))), some (.int (nI (m_N (m_ab z (y + 1)) (m_P z)))), some (.int (nI (m_N (m_tu z) (8 * y + 8)))), some (.int (-1)), some (.int (nI (y + 1))), c, d, e] [] n f Q := fun c d e => ih ((_, _), c, d, e) ⟨rfl, rfl⟩
    show AW mL_areWell 0 0 161 [some (.ref p), some (.int (nI (m_N (m_th (z_K z)) 5))), some (.int a), some (.int b), some (.int (-1)), some (.int (nI y)), u6, u7, u8] [] n f Q
    rw [ha, hb]
    refine am_iload 161 dL_areWell_161 rfl ?_
    refine am_bipush 163 (v := 6) dL_areWell_163 (by decide) ?_
    refine am_icmp_ge 165 352 dL_areWell_165 rfl (fun c165 => absurd c165 (nI_ge hk (by decide))) (fun c165 => ?_)
    refine am_iconst 168 (v := 0) dL_areWell_168 (by decide) ?_
    refine am_istore 169 dL_areWell_169 (by decide) ?_
    refine am_iconst 171 (v := 0) dL_areWell_171 (by decide) ?_
    refine am_istore 172 dL_areWell_172 (by decide) ?_
    refine am_for 8 (fun x (s : (Int32 × Int32) × Option Value) => s.1.1 = nI (m_N (m_tu z) (8 * y + x)) ∧ s.1.2 = m_I (fun x => m_sg z (8 * y + x)) x) (fun x s => AW mL_areWell 0 0 174 [some (.ref p), some (.int (nI (m_N (m_th (z_K z)) 5))), some (.int (nI (m_N (m_ab z y) (m_P z)))), some (.int s.1.1), some (.int (-1)), some (.int (nI y)), some (.int s.1.2), some (.int (nI x)), s.2] [] n f Q) ?_ ?_ 0 ((_, 0), u8) (by omega) ⟨rfl, rfl⟩
    · rintro ⟨⟨b, c⟩, u8⟩ ⟨hb, hc⟩
      have hb : b = nI (m_N (m_tu z) (8 * y + 8)) := hb
      have hc : m_rowA z y 0 = c := Eq.symm hc
      show AW mL_areWell 0 0 174 [some (.ref p), some (.int (nI (m_N (m_th (z_K z)) 5))), some (.int (nI (m_N (m_ab z y) (m_P z)))), some (.int b), some (.int (-1)), some (.int (nI y)), some (.int c), some (.int (nI 8)), u8] [] n f Q
      rw [hb]
      refine am_iload 174 dL_areWell_174 rfl ?_
      refine am_bipush 176 (v := 8) dL_areWell_176 (by decide) ?_
      refine am_icmp_ge 178 322 dL_areWell_178 rfl (fun c178 => ?_) (fun c178 => absurd (by decide) c178)
      refine am_aload_n 322 dL_areWell_322 rfl ?_
      refine am_iload 323 dL_areWell_323 rfl ?_
      refine am_iconst 325 (v := 0) dL_areWell_325 (by decide) ?_
      refine am_V2 326 (mc' := 0) (ms' := 0) (rc := 0) (rs := 0) dL_areWell_326 lL_112 ⟨by decide, by decide⟩ (by repeat (first | assumption | exact am_ue | refine am_un (by first | assumption | decide | omega) ?_)) (Nat.le_of_ble_eq_true rfl) (Nat.le_of_ble_eq_true rfl) (s_ofRow hG hy (j := 0) (by decide)) ?_
      refine am_is_ct ?_
      refine am_iload 329 dL_areWell_329 rfl ?_
      refine am_icmp_eq 331 336 dL_areWell_331 rfl (fun c331 => ?_) (fun c331 => absurd hc c331)
      refine am_iload_n 336 dL_areWell_336 rfl ?_
      refine am_aload_n 337 dL_areWell_337 rfl ?_
      refine am_iload 338 dL_areWell_338 rfl ?_
      refine am_iconst 340 (v := 2) dL_areWell_340 (by decide) ?_
      refine am_V2 341 (mc' := 0) (ms' := 0) (rc := 0) (rs := 0) dL_areWell_341 lL_112 ⟨by decide, by decide⟩ (by repeat (first | assumption | exact am_ue | refine am_un (by first | assumption | decide | omega) ?_)) (Nat.le_of_ble_eq_true rfl) (Nat.le_of_ble_eq_true rfl) (s_ofRow hG hy (j := 2) (by decide)) ?_
      refine am_is_ct ?_
      refine am_iadd 344 dL_areWell_344 ?_
      rw [m_ab_step]
      refine am_istore_n 345 dL_areWell_345 (by decide) ?_
      refine am_iinc 346 (v := nI (y + 1)) dL_areWell_346 rfl (nI_1 (y)) (by decide) ?_
      refine am_goto 349 (tgt := 161) dL_areWell_349 rfl ?_
      exact ih _ _ _
    · rintro x ⟨⟨b, c⟩, u8⟩ hx ⟨hb, hc⟩ ih3
      have hb : b = nI (m_N (m_tu z) (8 * y + x)) := hb
      have hc : c = m_I (fun x => m_sg z (8 * y + x)) x := hc
      have ih2 : ∀ u, AW mL_areWell 0 0 174 [some (.ref p), some (.int (nI (m_N (m_th (z_K z)) 5))), some (.int (nI (m_N (m_ab z y) (m_P z)))), some (.int (nI (m_N (m_tu z) (8 * y + x + 1)))), some (.int (-1)), some (.int (nI y)), some (.int (c + m_sg z (8 * y + x))), some (.int (nI (x + 1))), u] [] n f Q := fun u => ih3 ((_, _), u) ⟨rfl, by rw [hc]; rfl⟩
      clear ih3
      show AW mL_areWell 0 0 174 [some (.ref p), some (.int (nI (m_N (m_th (z_K z)) 5))), some (.int (nI (m_N (m_ab z y) (m_P z)))), some (.int b), some (.int (-1)), some (.int (nI y)), some (.int c), some (.int (nI x)), u8] [] n f Q
      rw [hb]
      have hc48 : 8 * y + x < 48 := by omega
      obtain ⟨r1, r2⟩ := m_reg_spec (sig := m_sg z) hc48
      by_cases hs : 20 ≤ m_sg z (8 * y + x)
      · obtain ⟨j, j1, j2, j3⟩ := r1 hs
        have e4 : m_cellA z (8 * y + x) 4 = nI j := j3
        have e3 : m_cellA z (8 * y + x) 3 = 1 := by
          rw [m_tu_tc]
          unfold m_tu
          rw [if_pos hs]
          rfl
        refine am_iload 174 dL_areWell_174 rfl ?_
        refine am_bipush 176 (v := 8) dL_areWell_176 (by decide) ?_
        refine am_icmp_ge 178 322 dL_areWell_178 rfl (fun c178 => absurd c178 (nI_ge hx (by decide))) (fun c178 => ?_)
        refine am_aload_n 181 dL_areWell_181 rfl ?_
        refine am_iload 182 dL_areWell_182 rfl ?_
        refine am_iload 184 dL_areWell_184 rfl ?_
        refine am_iconst 186 (v := 2) dL_areWell_186 (by decide) ?_
        refine am_V3 187 (mc' := 0) (ms' := 0) (rc := 0) (rs := 0) dL_areWell_187 lL_60 ⟨by decide, by decide⟩ (by repeat (first | assumption | exact am_ue | refine am_un (by first | assumption | decide | omega) ?_)) (Nat.le_of_ble_eq_true rfl) (Nat.le_of_ble_eq_true rfl) (s_ofCell hG hx hy (j := 2) (by decide)) ?_
        refine am_is_ct ?_
        rw [show m_cellA z (8 * y + x) 2 = m_sg z (8 * y + x) from rfl]
        refine am_istore 190 dL_areWell_190 (by decide) ?_
        refine am_iload 192 dL_areWell_192 rfl ?_
        refine am_iload 194 dL_areWell_194 rfl ?_
        refine am_iadd 196 dL_areWell_196 ?_
        refine am_istore 197 dL_areWell_197 (by decide) ?_
        refine am_iload_n 199 dL_areWell_199 rfl ?_
        refine am_aload_n 200 dL_areWell_200 rfl ?_
        refine am_iload 201 dL_areWell_201 rfl ?_
        refine am_iload 203 dL_areWell_203 rfl ?_
        refine am_iconst 205 (v := 3) dL_areWell_205 (by decide) ?_
        refine am_V3 206 (mc' := 0) (ms' := 0) (rc := 0) (rs := 0) dL_areWell_206 lL_60 ⟨by decide, by decide⟩ (by repeat (first | assumption | exact am_ue | refine am_un (by first | assumption | decide | omega) ?_)) (Nat.le_of_ble_eq_true rfl) (Nat.le_of_ble_eq_true rfl) (s_ofCell hG hx hy (j := 3) (by decide)) ?_
        refine am_is_ct ?_
        refine am_iadd 209 dL_areWell_209 ?_
        rw [m_tu_step]
        refine am_istore_n 210 dL_areWell_210 (by decide) ?_
        refine am_iload 211 dL_areWell_211 rfl ?_
        refine am_aload_n 213 dL_areWell_213 rfl ?_
        refine am_iload 214 dL_areWell_214 rfl ?_
        refine am_iload 216 dL_areWell_216 rfl ?_
        refine am_iconst 218 (v := 0) dL_areWell_218 (by decide) ?_
        refine am_V3 219 (mc' := 0) (ms' := 0) (rc := 0) (rs := 0) dL_areWell_219 lL_60 ⟨by decide, by decide⟩ (by repeat (first | assumption | exact am_ue | refine am_un (by first | assumption | decide | omega) ?_)) (Nat.le_of_ble_eq_true rfl) (Nat.le_of_ble_eq_true rfl) (s_ofCell hG hx hy (j := 0) (by decide)) ?_
        refine am_is_ct ?_
        refine am_aload_n 222 dL_areWell_222 rfl ?_
        refine am_iload 223 dL_areWell_223 rfl ?_
        refine am_iload 225 dL_areWell_225 rfl ?_
        refine am_iconst 227 (v := 1) dL_areWell_227 (by decide) ?_
        refine am_V3 228 (mc' := 0) (ms' := 0) (rc := 0) (rs := 0) dL_areWell_228 lL_60 ⟨by decide, by decide⟩ (by repeat (first | assumption | exact am_ue | refine am_un (by first | assumption | decide | omega) ?_)) (Nat.le_of_ble_eq_true rfl) (Nat.le_of_ble_eq_true rfl) (s_ofCell hG hx hy (j := 1) (by decide)) ?_
        refine am_is_ct ?_
        refine am_isub 231 dL_areWell_231 ?_
        refine am_icmp_ne 232 314 dL_areWell_232 rfl (fun c232 => absurd c232 (fun q => q rfl)) (fun c232 => ?_)
        refine am_iload 235 dL_areWell_235 rfl ?_
        refine am_bipush 237 (v := 20) dL_areWell_237 (by decide) ?_
        refine am_icmp_lt 239 246 dL_areWell_239 rfl (fun c239 => absurd c239 (Int32.not_lt.mpr hs)) (fun c239 => ?_)
        refine am_iconst 242 (v := 1) dL_areWell_242 (by decide) ?_
        refine am_goto 243 (tgt := 247) dL_areWell_243 rfl ?_
        refine am_aload_n 247 dL_areWell_247 rfl ?_
        refine am_iload 248 dL_areWell_248 rfl ?_
        refine am_iload 250 dL_areWell_250 rfl ?_
        refine am_iconst 252 (v := 3) dL_areWell_252 (by decide) ?_
        refine am_V3 253 (mc' := 0) (ms' := 0) (rc := 0) (rs := 0) dL_areWell_253 lL_60 ⟨by decide, by decide⟩ (by repeat (first | assumption | exact am_ue | refine am_un (by first | assumption | decide | omega) ?_)) (Nat.le_of_ble_eq_true rfl) (Nat.le_of_ble_eq_true rfl) (s_ofCell hG hx hy (j := 3) (by decide)) ?_
        refine am_is_ct ?_
        rw [e3]
        refine am_iconst 256 (v := 1) dL_areWell_256 (by decide) ?_
        refine am_icmp_ne 257 264 dL_areWell_257 rfl (fun c257 => absurd c257 (fun q => q rfl)) (fun c257 => ?_)
        refine am_iconst 260 (v := 1) dL_areWell_260 (by decide) ?_
        refine am_goto 261 (tgt := 265) dL_areWell_261 rfl ?_
        refine am_icmp_ne 265 314 dL_areWell_265 rfl (fun c265 => absurd c265 (fun q => q rfl)) (fun c265 => ?_)
        refine am_aload_n 268 dL_areWell_268 rfl ?_
        refine am_iload 269 dL_areWell_269 rfl ?_
        refine am_iload 271 dL_areWell_271 rfl ?_
        refine am_iconst 273 (v := 4) dL_areWell_273 (by decide) ?_
        refine am_V3 274 (mc' := 0) (ms' := 0) (rc := 0) (rs := 0) dL_areWell_274 lL_60 ⟨by decide, by decide⟩ (by repeat (first | assumption | exact am_ue | refine am_un (by first | assumption | decide | omega) ?_)) (Nat.le_of_ble_eq_true rfl) (Nat.le_of_ble_eq_true rfl) (s_ofCell hG hx hy (j := 4) (by decide)) ?_
        refine am_is_ct ?_
        rw [e4]
        refine am_bipush 277 (v := 48) dL_areWell_277 (by decide) ?_
        refine am_icmp_gt 279 314 dL_areWell_279 rfl (fun c279 => absurd c279 (nI_nlt (a := 48) (by omega) (by decide))) (fun c279 => ?_)
        refine am_aload_n 282 dL_areWell_282 rfl ?_
        refine am_iload 283 dL_areWell_283 rfl ?_
        refine am_iload 285 dL_areWell_285 rfl ?_
        refine am_iconst 287 (v := 4) dL_areWell_287 (by decide) ?_
        refine am_V3 288 (mc' := 0) (ms' := 0) (rc := 0) (rs := 0) dL_areWell_288 lL_60 ⟨by decide, by decide⟩ (by repeat (first | assumption | exact am_ue | refine am_un (by first | assumption | decide | omega) ?_)) (Nat.le_of_ble_eq_true rfl) (Nat.le_of_ble_eq_true rfl) (s_ofCell hG hx hy (j := 4) (by decide)) ?_
        refine am_is_ct ?_
        rw [e4]
        refine am_if_le 291 298 dL_areWell_291 rfl (fun c291 => absurd c291 (m_pos (by omega) (by omega))) (fun c291 => ?_)
        refine am_iconst 294 (v := 1) dL_areWell_294 (by decide) ?_
        refine am_goto 295 (tgt := 299) dL_areWell_295 rfl ?_
        refine am_iload 299 dL_areWell_299 rfl ?_
        refine am_bipush 301 (v := 20) dL_areWell_301 (by decide) ?_
        refine am_icmp_lt 303 310 dL_areWell_303 rfl (fun c303 => absurd c303 (Int32.not_lt.mpr hs)) (fun c303 => ?_)
        refine am_iconst 306 (v := 1) dL_areWell_306 (by decide) ?_
        refine am_goto 307 (tgt := 311) dL_areWell_307 rfl ?_
        refine am_icmp_eq 311 316 dL_areWell_311 rfl (fun c311 => ?_) (fun c311 => absurd rfl c311)
        refine am_iinc 316 (v := nI (x + 1)) dL_areWell_316 rfl (nI_1 (x)) (by decide) ?_
        refine am_goto 319 (tgt := 174) dL_areWell_319 rfl ?_
        exact ih2 _
      · have e4 : m_cellA z (8 * y + x) 4 = 0 := r2 hs
        have e3 : m_cellA z (8 * y + x) 3 = 0 := by
          rw [m_tu_tc]
          unfold m_tu
          rw [if_neg hs]
          rfl
        refine am_iload 174 dL_areWell_174 rfl ?_
        refine am_bipush 176 (v := 8) dL_areWell_176 (by decide) ?_
        refine am_icmp_ge 178 322 dL_areWell_178 rfl (fun c178 => absurd c178 (nI_ge hx (by decide))) (fun c178 => ?_)
        refine am_aload_n 181 dL_areWell_181 rfl ?_
        refine am_iload 182 dL_areWell_182 rfl ?_
        refine am_iload 184 dL_areWell_184 rfl ?_
        refine am_iconst 186 (v := 2) dL_areWell_186 (by decide) ?_
        refine am_V3 187 (mc' := 0) (ms' := 0) (rc := 0) (rs := 0) dL_areWell_187 lL_60 ⟨by decide, by decide⟩ (by repeat (first | assumption | exact am_ue | refine am_un (by first | assumption | decide | omega) ?_)) (Nat.le_of_ble_eq_true rfl) (Nat.le_of_ble_eq_true rfl) (s_ofCell hG hx hy (j := 2) (by decide)) ?_
        refine am_is_ct ?_
        rw [show m_cellA z (8 * y + x) 2 = m_sg z (8 * y + x) from rfl]
        refine am_istore 190 dL_areWell_190 (by decide) ?_
        refine am_iload 192 dL_areWell_192 rfl ?_
        refine am_iload 194 dL_areWell_194 rfl ?_
        refine am_iadd 196 dL_areWell_196 ?_
        refine am_istore 197 dL_areWell_197 (by decide) ?_
        refine am_iload_n 199 dL_areWell_199 rfl ?_
        refine am_aload_n 200 dL_areWell_200 rfl ?_
        refine am_iload 201 dL_areWell_201 rfl ?_
        refine am_iload 203 dL_areWell_203 rfl ?_
        refine am_iconst 205 (v := 3) dL_areWell_205 (by decide) ?_
        refine am_V3 206 (mc' := 0) (ms' := 0) (rc := 0) (rs := 0) dL_areWell_206 lL_60 ⟨by decide, by decide⟩ (by repeat (first | assumption | exact am_ue | refine am_un (by first | assumption | decide | omega) ?_)) (Nat.le_of_ble_eq_true rfl) (Nat.le_of_ble_eq_true rfl) (s_ofCell hG hx hy (j := 3) (by decide)) ?_
        refine am_is_ct ?_
        refine am_iadd 209 dL_areWell_209 ?_
        rw [m_tu_step]
        refine am_istore_n 210 dL_areWell_210 (by decide) ?_
        refine am_iload 211 dL_areWell_211 rfl ?_
        refine am_aload_n 213 dL_areWell_213 rfl ?_
        refine am_iload 214 dL_areWell_214 rfl ?_
        refine am_iload 216 dL_areWell_216 rfl ?_
        refine am_iconst 218 (v := 0) dL_areWell_218 (by decide) ?_
        refine am_V3 219 (mc' := 0) (ms' := 0) (rc := 0) (rs := 0) dL_areWell_219 lL_60 ⟨by decide, by decide⟩ (by repeat (first | assumption | exact am_ue | refine am_un (by first | assumption | decide | omega) ?_)) (Nat.le_of_ble_eq_true rfl) (Nat.le_of_ble_eq_true rfl) (s_ofCell hG hx hy (j := 0) (by decide)) ?_
        refine am_is_ct ?_
        refine am_aload_n 222 dL_areWell_222 rfl ?_
        refine am_iload 223 dL_areWell_223 rfl ?_
        refine am_iload 225 dL_areWell_225 rfl ?_
        refine am_iconst 227 (v := 1) dL_areWell_227 (by decide) ?_
        refine am_V3 228 (mc' := 0) (ms' := 0) (rc := 0) (rs := 0) dL_areWell_228 lL_60 ⟨by decide, by decide⟩ (by repeat (first | assumption | exact am_ue | refine am_un (by first | assumption | decide | omega) ?_)) (Nat.le_of_ble_eq_true rfl) (Nat.le_of_ble_eq_true rfl) (s_ofCell hG hx hy (j := 1) (by decide)) ?_
        refine am_is_ct ?_
        refine am_isub 231 dL_areWell_231 ?_
        refine am_icmp_ne 232 314 dL_areWell_232 rfl (fun c232 => absurd c232 (fun q => q rfl)) (fun c232 => ?_)
        refine am_iload 235 dL_areWell_235 rfl ?_
        refine am_bipush 237 (v := 20) dL_areWell_237 (by decide) ?_
        refine am_icmp_lt 239 246 dL_areWell_239 rfl (fun c239 => ?_) (fun c239 => absurd (Int32.not_le.mp hs) c239)
        refine am_iconst 246 (v := 0) dL_areWell_246 (by decide) ?_
        refine am_aload_n 247 dL_areWell_247 rfl ?_
        refine am_iload 248 dL_areWell_248 rfl ?_
        refine am_iload 250 dL_areWell_250 rfl ?_
        refine am_iconst 252 (v := 3) dL_areWell_252 (by decide) ?_
        refine am_V3 253 (mc' := 0) (ms' := 0) (rc := 0) (rs := 0) dL_areWell_253 lL_60 ⟨by decide, by decide⟩ (by repeat (first | assumption | exact am_ue | refine am_un (by first | assumption | decide | omega) ?_)) (Nat.le_of_ble_eq_true rfl) (Nat.le_of_ble_eq_true rfl) (s_ofCell hG hx hy (j := 3) (by decide)) ?_
        refine am_is_ct ?_
        rw [e3]
        refine am_iconst 256 (v := 1) dL_areWell_256 (by decide) ?_
        refine am_icmp_ne 257 264 dL_areWell_257 rfl (fun c257 => ?_) (fun c257 => absurd c257 (by decide))
        refine am_iconst 264 (v := 0) dL_areWell_264 (by decide) ?_
        refine am_icmp_ne 265 314 dL_areWell_265 rfl (fun c265 => absurd c265 (fun q => q rfl)) (fun c265 => ?_)
        refine am_aload_n 268 dL_areWell_268 rfl ?_
        refine am_iload 269 dL_areWell_269 rfl ?_
        refine am_iload 271 dL_areWell_271 rfl ?_
        refine am_iconst 273 (v := 4) dL_areWell_273 (by decide) ?_
        refine am_V3 274 (mc' := 0) (ms' := 0) (rc := 0) (rs := 0) dL_areWell_274 lL_60 ⟨by decide, by decide⟩ (by repeat (first | assumption | exact am_ue | refine am_un (by first | assumption | decide | omega) ?_)) (Nat.le_of_ble_eq_true rfl) (Nat.le_of_ble_eq_true rfl) (s_ofCell hG hx hy (j := 4) (by decide)) ?_
        refine am_is_ct ?_
        rw [e4]
        refine am_bipush 277 (v := 48) dL_areWell_277 (by decide) ?_
        refine am_icmp_gt 279 314 dL_areWell_279 rfl (fun c279 => absurd c279 (by decide)) (fun c279 => ?_)
        refine am_aload_n 282 dL_areWell_282 rfl ?_
        refine am_iload 283 dL_areWell_283 rfl ?_
        refine am_iload 285 dL_areWell_285 rfl ?_
        refine am_iconst 287 (v := 4) dL_areWell_287 (by decide) ?_
        refine am_V3 288 (mc' := 0) (ms' := 0) (rc := 0) (rs := 0) dL_areWell_288 lL_60 ⟨by decide, by decide⟩ (by repeat (first | assumption | exact am_ue | refine am_un (by first | assumption | decide | omega) ?_)) (Nat.le_of_ble_eq_true rfl) (Nat.le_of_ble_eq_true rfl) (s_ofCell hG hx hy (j := 4) (by decide)) ?_
        refine am_is_ct ?_
        rw [e4]
        refine am_if_le 291 298 dL_areWell_291 rfl (fun c291 => ?_) (fun c291 => absurd (by decide) c291)
        refine am_iconst 298 (v := 0) dL_areWell_298 (by decide) ?_
        refine am_iload 299 dL_areWell_299 rfl ?_
        refine am_bipush 301 (v := 20) dL_areWell_301 (by decide) ?_
        refine am_icmp_lt 303 310 dL_areWell_303 rfl (fun c303 => ?_) (fun c303 => absurd (Int32.not_le.mp hs) c303)
        refine am_iconst 310 (v := 0) dL_areWell_310 (by decide) ?_
        refine am_icmp_eq 311 316 dL_areWell_311 rfl (fun c311 => ?_) (fun c311 => absurd rfl c311)
        refine am_iinc 316 (v := nI (x + 1)) dL_areWell_316 rfl (nI_1 (x)) (by decide) ?_
        refine am_goto 319 (tgt := 174) dL_areWell_319 rfl ?_
        exact ih2 _
end We2
