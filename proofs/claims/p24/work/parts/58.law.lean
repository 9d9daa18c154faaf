/-! ===== the law: fingers, turns, the whole walk ===== -/
section Law
variable {k N R S n : Nat} {xs g : Nat → Int32} {lim x y : Int32} {f : Nat → am_C} {Q : am_P} {z7 z8 z9 z10 z11 z12 z13 z14 z15 : Option Value}
theorem m_2j3 : ∀ j, j < 4 → ¬ 2 * nI j + 3 = 0 ∧ ¬ 3 * nI j + 5 = 0 := by decide
def m_mv (m : Int32) (v : Int32) : Int32 := if 0 < (if v < m then v else m) then (if v < m then v else m) else 0
theorem m_mv7 : ∀ a, a < 8 → (m_mv 7 (nI a + 1)).toNatClampNeg < 8 ∧ m_mv 7 (nI a + 1) = nI (m_mv 7 (nI a + 1)).toNatClampNeg ∧ (m_mv 7 (nI a + -1)).toNatClampNeg < 8 ∧ m_mv 7 (nI a + -1) = nI (m_mv 7 (nI a + -1)).toNatClampNeg ∧ (m_mv 7 (nI a + 0)).toNatClampNeg < 8 ∧ m_mv 7 (nI a + 0) = nI (m_mv 7 (nI a + 0)).toNatClampNeg := by decide +kernel
theorem m_mv5 : ∀ a, a < 6 → (m_mv 5 (nI a + 1)).toNatClampNeg < 6 ∧ m_mv 5 (nI a + 1) = nI (m_mv 5 (nI a + 1)).toNatClampNeg ∧ (m_mv 5 (nI a + -1)).toNatClampNeg < 6 ∧ m_mv 5 (nI a + -1) = nI (m_mv 5 (nI a + -1)).toNatClampNeg ∧ (m_mv 5 (nI a + 0)).toNatClampNeg < 6 ∧ m_mv 5 (nI a + 0) = nI (m_mv 5 (nI a + 0)).toNatClampNeg := by decide +kernel
theorem m_mvX {a : Nat} {d : Int32} (ha : a < 8) (hd : d = 1 ∨ d = -1 ∨ d = 0) : ∃ t, t < 8 ∧ m_mv 7 (nI a + d) = nI t := by
  obtain ⟨a1, a2, a3, a4, a5, a6⟩ := m_mv7 a ha
  rcases hd with rfl | rfl | rfl
  · exact ⟨_, a1, a2⟩
  · exact ⟨_, a3, a4⟩
  · exact ⟨_, a5, a6⟩
theorem m_mvY {a : Nat} {d : Int32} (ha : a < 6) (hd : d = 1 ∨ d = -1 ∨ d = 0) : ∃ t, t < 6 ∧ m_mv 5 (nI a + d) = nI t := by
  obtain ⟨a1, a2, a3, a4, a5, a6⟩ := m_mv5 a ha
  rcases hd with rfl | rfl | rfl
  · exact ⟨_, a1, a2⟩
  · exact ⟨_, a3, a4⟩
  · exact ⟨_, a5, a6⟩
set_option maxHeartbeats 2000000 in
theorem l_fing (hI : l_I k N xs lim g n f) (hk : k < 44) (hC : ∀ (g : Nat → Int32) (f : Nat → am_C) (a9 a11 a12 a13 a14 a15 : Option Value), l_I k N xs lim g n f → AW mL_law R S 545 [some (.ref 0), some (.ref 1), some (.ref 47), some (.int lim), some (.int (nI k)), some (.int x), some (.int y), z7, z8, a9, some (.int (nI 4)), a11, a12, a13, a14, a15] [] n f Q) : AW mL_law R S 366 [some (.ref 0), some (.ref 1), some (.ref 47), some (.int lim), some (.int (nI k)), some (.int x), some (.int y), z7, z8, z9, some (.int (nI 0)), z11, z12, z13, z14, z15] [] n f Q := by
  refine am_for 4 (fun _ (s : (Nat → Int32) × (Nat → am_C) × Option Value × Option Value × Option Value × Option Value × Option Value × Option Value) => l_I k N xs lim s.1 n s.2.1) (fun j s => AW mL_law R S 366 [some (.ref 0), some (.ref 1), some (.ref 47), some (.int lim), some (.int (nI k)), some (.int x), some (.int y), z7, z8, s.2.2.1, some (.int (nI j)), s.2.2.2.1, s.2.2.2.2.1, s.2.2.2.2.2.1, s.2.2.2.2.2.2.1, s.2.2.2.2.2.2.2] [] n s.2.1 Q) ?_ ?_ 0 (g, f, z9, z11, z12, z13, z14, z15) (by omega) hI
  · rintro ⟨g, f, a9, a11, a12, a13, a14, a15⟩ hI
    have hI : l_I k N xs lim g n f := hI
    show AW mL_law R S 366 [some (.ref 0), some (.ref 1), some (.ref 47), some (.int lim), some (.int (nI k)), some (.int x), some (.int y), z7, z8, a9, some (.int (nI 4)), a11, a12, a13, a14, a15] [] n f Q
    refine am_iload 366 dL_law_366 rfl ?_
    refine am_iconst 368 (v := 4) dL_law_368 (by decide) ?_
    refine am_icmp_ge 369 545 dL_law_369 rfl (fun c369 => ?_) (fun c369 => absurd (by decide) c369)
    exact hC g f _ _ _ _ _ _ hI
  · rintro j ⟨g, f, a9, a11, a12, a13, a14, a15⟩ hj hI ih
    have hI : l_I k N xs lim g n f := hI
    have ih : ∀ g f a9 a11 a12 a13 a14 a15, l_I k N xs lim g n f → AW mL_law R S 366 [some (.ref 0), some (.ref 1), some (.ref 47), some (.int lim), some (.int (nI k)), some (.int x), some (.int y), z7, z8, a9, some (.int (nI (j + 1))), a11, a12, a13, a14, a15] [] n f Q := fun g f a9 a11 a12 a13 a14 a15 h => ih (g, f, a9, a11, a12, a13, a14, a15) h
    show AW mL_law R S 366 [some (.ref 0), some (.ref 1), some (.ref 47), some (.int lim), some (.int (nI k)), some (.int x), some (.int y), z7, z8, a9, some (.int (nI j)), a11, a12, a13, a14, a15] [] n f Q
    obtain ⟨⟨z, T, hT, hG, hl⟩, hs, ha, hg, hn⟩ := hI
    obtain ⟨c, c48, hc⟩ := hg j hj
    obtain ⟨ne1, ne2⟩ := m_2j3 j hj
    have h0 := hG.1
    have hZ : ∀ (go : Int32) (tx ty : Nat) (b14 b15 : Option Value), tx < 8 → ty < 6 → AW mL_law R S 466 [some (.ref 0), some (.ref 1), some (.ref 47), some (.int lim), some (.int (nI k)), some (.int x), some (.int y), z7, z8, a9, some (.int (nI j)), some (.int go), some (.int (nI tx)), some (.int (nI ty)), b14, b15] [] n f Q := by
      intro go tx ty b14 b15 htx hty
      have hG1 := hG.on (f' := va_up f 47 (.inl (0, 4, .inl (va_up g j (nI (8 * ty + tx)))))) fun x a b => am_up_ne (by omega)
      have hg1 : ∀ i, i < 4 → ∃ c, c < 48 ∧ va_up g j (nI (8 * ty + tx)) i = nI c := fun i hi => by
        by_cases e : i = j
        · rw [e, am_up_eq]
          exact ⟨_, by omega, rfl⟩
        · rw [am_up_ne e]
          exact hg i hi
      have hI1 : l_I k N xs lim (va_up g j (nI (8 * ty + tx))) n (va_up f 47 (.inl (0, 4, .inl (va_up g j (nI (8 * ty + tx)))))) := ⟨⟨z, T, hT, hG1, hl⟩, (am_up_ne (by omega)).trans hs, am_up_eq, hg1, hn⟩
      have hG10 := hG1.1
      refine am_aload_n 466 dL_law_466 rfl ?_
      refine am_iload 467 dL_law_467 rfl ?_
      refine am_bipush 469 (v := 8) dL_law_469 (by decide) ?_
      refine am_iload 471 dL_law_471 rfl ?_
      refine am_imul 473 dL_law_473 ?_
      rw [m_8x _ (by omega)]
      refine am_iload 474 dL_law_474 rfl ?_
      refine am_iadd 476 dL_law_476 ?_
      rw [nI_add]
      refine am_iastore 477 dL_law_477 rfl (by repeat (first | assumption | exact am_ue | refine am_un (by first | assumption | decide | omega) ?_)) (am_ix hj (by decide)) ?_
      rw [nI_clamp (n := j) (by omega)]
      refine am_aload_n 478 dL_law_478 rfl ?_
      refine am_iload 479 dL_law_479 rfl ?_
      refine am_iload 481 dL_law_481 rfl ?_
      refine am_iconst 483 (v := 2) dL_law_483 (by decide) ?_
      refine AW.more (rc := 0 + (R)) (rs := 0 + (S)) (by omega) (by omega) ?_
      refine am_V3 484 (mc' := 0) (ms' := 0) (rc := R) (rs := S) dL_law_484 lL_60 ⟨by decide, by decide⟩ (by repeat (first | assumption | exact am_ue | refine am_un (by first | assumption | decide | omega) ?_)) (Nat.le_of_ble_eq_true rfl) (Nat.le_of_ble_eq_true rfl) (s_ofCell hG1 htx hty (j := 2) (by decide)) ?_
      refine am_is_ct ?_
      refine am_istore 487 dL_law_487 (by decide) ?_
      refine am_bipush 489 (v := 30) dL_law_489 (by decide) ?_
      refine am_iload 491 dL_law_491 rfl ?_
      refine am_iconst 493 (v := 5) dL_law_493 (by decide) ?_
      refine am_idiv 494 dL_law_494 (by decide) ?_
      refine am_bipush 495 (v := 60) dL_law_495 (by decide) ?_
      refine AW.more (rc := 0 + (R)) (rs := 0 + (S)) (by omega) (by omega) ?_
      refine am_S2 497 (mc' := 0) (ms' := 0) (rc := R) (rs := S) dL_law_497 lL_18 ⟨by decide, by decide⟩ (Nat.le_of_ble_eq_true rfl) (Nat.le_of_ble_eq_true rfl) (s_Lbelow (m := 60) (by decide) (by decide)) ?_
      rintro o n' f' ⟨s0, hs0, rfl, rfl, rfl⟩
      refine am_ctI ?_
      refine am_iadd 500 dL_law_500 ?_
      rw [m_add30]
      refine am_istore 501 dL_law_501 (by decide) ?_
      refine am_iload 503 dL_law_503 rfl ?_
      refine am_iconst 505 (v := 3) dL_law_505 (by decide) ?_
      refine am_iload 506 dL_law_506 rfl ?_
      refine am_imul 508 dL_law_508 ?_
      refine am_iconst 509 (v := 5) dL_law_509 (by decide) ?_
      refine am_iadd 510 dL_law_510 ?_
      refine am_idiv 511 dL_law_511 ne2 ?_
      refine am_iconst 512 (v := 5) dL_law_512 (by decide) ?_
      refine AW.more (rc := 0 + (R)) (rs := 0 + (S)) (by omega) (by omega) ?_
      refine am_S2 513 (mc' := 0) (ms' := 0) (rc := R) (rs := S) dL_law_513 lL_18 ⟨by decide, by decide⟩ (Nat.le_of_ble_eq_true rfl) (Nat.le_of_ble_eq_true rfl) (s_Lbelow (m := 5) (by decide) (by decide)) ?_
      rintro o n' f' ⟨r5, hr5, rfl, rfl, rfl⟩
      refine am_ctI ?_
      refine am_if_le 516 539 dL_law_516 rfl (fun c516 => ?_) (fun c516 => ?_)
      · refine am_iinc 539 (v := nI (j + 1)) dL_law_539 rfl (nI_1 (j)) (by decide) ?_
        refine am_goto 542 (tgt := 366) dL_law_542 rfl ?_
        exact ih _ _ _ _ _ _ _ _ hI1
      · refine am_aload_n 519 dL_law_519 rfl ?_
        refine am_iload 520 dL_law_520 rfl ?_
        refine am_iload 522 dL_law_522 rfl ?_
        refine am_iload 524 dL_law_524 rfl ?_
        refine AW.more (rc := 0 + (R)) (rs := 0 + (S)) (by omega) (by omega) ?_
        refine am_V3 526 (mc' := 0) (ms' := 0) (rc := R) (rs := S) dL_law_526 lL_64 ⟨by decide, by decide⟩ (by repeat (first | assumption | exact am_ue | refine am_un (by first | assumption | decide | omega) ?_)) (Nat.le_of_ble_eq_true rfl) (Nat.le_of_ble_eq_true rfl) (s_press hG1 htx hty (s := 30 + s0) (by omega) (by omega)) ?_
        rintro o n'' f2 ⟨rfl, en, g1, g2⟩
        refine am_ctI ?_
        rw [en]
        have k0 := (g2 0 (by omega)).trans ((am_up_ne (by omega)).trans hs)
        have k47 := (g2 47 (by omega)).trans am_up_eq
        have hI1 : l_I k N xs lim (va_up g j (nI (8 * ty + tx))) n f2 := ⟨⟨_, T, hT, g1, hl⟩, k0, k47, hg1, hn⟩
        rw [m_press_sg htx hty]
        refine am_iload 529 dL_law_529 rfl ?_
        refine am_iload 531 dL_law_531 rfl ?_
        refine am_iadd 533 dL_law_533 ?_
        refine am_icmp_eq 534 539 dL_law_534 rfl (fun c534 => ?_) (fun c534 => absurd rfl c534)
        refine am_iinc 539 (v := nI (j + 1)) dL_law_539 rfl (nI_1 (j)) (by decide) ?_
        refine am_goto 542 (tgt := 366) dL_law_542 rfl ?_
        exact ih _ _ _ _ _ _ _ _ hI1
    have hY : ∀ (go d : Int32) (tx : Nat) (b13 b14 b15 : Option Value), tx < 8 → (d = 1 ∨ d = -1 ∨ d = 0) → AW mL_law R S 457 [some (.ref 0), some (.ref 1), some (.ref 47), some (.int lim), some (.int (nI k)), some (.int x), some (.int y), z7, z8, a9, some (.int (nI j)), some (.int go), some (.int (nI tx)), b13, b14, b15] [.int d, .int (nI (c / 8)), .int 5, .int 0] n f Q := by
      intro go d tx b13 b14 b15 htx hd
      obtain ⟨ty, hty, e⟩ := m_mvY (a := c / 8) (by omega) hd
      refine am_iadd 457 dL_law_457 ?_
      refine am_min 458 dL_law_458 jL_54 (by decide) (Nat.le_of_ble_eq_true rfl) ?_
      refine am_max 461 dL_law_461 jL_57 (by decide) (Nat.le_of_ble_eq_true rfl) ?_
      rw [show (if (0 : Int32) < (if nI (c / 8) + d < 5 then nI (c / 8) + d else 5) then (if nI (c / 8) + d < 5 then nI (c / 8) + d else 5) else 0) = nI ty from e]
      refine am_istore 464 dL_law_464 (by decide) ?_
      exact hZ _ _ _ _ _ htx hty
    have hX : ∀ (go d : Int32) (b12 b13 b14 b15 : Option Value), (d = 1 ∨ d = -1 ∨ d = 0) → AW mL_law R S 418 [some (.ref 0), some (.ref 1), some (.ref 47), some (.int lim), some (.int (nI k)), some (.int x), some (.int y), z7, z8, a9, some (.int (nI j)), some (.int go), b12, b13, b14, b15] [.int d, .int (nI (c % 8)), .int 7, .int 0] n f Q := by
      intro go d b12 b13 b14 b15 hd
      obtain ⟨tx, htx, e⟩ := m_mvX (a := c % 8) (by omega) hd
      refine am_iadd 418 dL_law_418 ?_
      refine am_min 419 dL_law_419 jL_54 (by decide) (Nat.le_of_ble_eq_true rfl) ?_
      refine am_max 422 dL_law_422 jL_57 (by decide) (Nat.le_of_ble_eq_true rfl) ?_
      rw [show (if (0 : Int32) < (if nI (c % 8) + d < 7 then nI (c % 8) + d else 7) then (if nI (c % 8) + d < 7 then nI (c % 8) + d else 7) else 0) = nI tx from e]
      refine am_istore 425 dL_law_425 (by decide) ?_
      refine am_iconst 427 (v := 0) dL_law_427 (by decide) ?_
      refine am_iconst 428 (v := 5) dL_law_428 (by decide) ?_
      refine am_aload_n 429 dL_law_429 rfl ?_
      refine am_iload 430 dL_law_430 rfl ?_
      refine am_iaload 432 dL_law_432 rfl (by repeat (first | assumption | exact am_ue | refine am_un (by first | assumption | decide | omega) ?_)) (am_ix hj (by decide)) ?_
      rw [nI_clamp (n := j) (by omega), hc]
      refine am_bipush 433 (v := 8) dL_law_433 (by decide) ?_
      refine am_idiv 435 dL_law_435 (by decide) ?_
      rw [am_div8 (by omega)]
      refine am_iload 436 dL_law_436 rfl ?_
      refine am_iconst 438 (v := 2) dL_law_438 (by decide) ?_
      refine am_icmp_ne 439 446 dL_law_439 rfl (fun c439 => ?_) (fun c439 => ?_)
      · refine am_iload 446 dL_law_446 rfl ?_
        refine am_iconst 448 (v := 3) dL_law_448 (by decide) ?_
        refine am_icmp_ne 449 456 dL_law_449 rfl (fun c449 => ?_) (fun c449 => ?_)
        · refine am_iconst 456 (v := 0) dL_law_456 (by decide) ?_
          first | exact hY _ _ _ _ _ _ htx (Or.inl rfl) | exact hY _ _ _ _ _ _ htx (Or.inr (Or.inl rfl)) | exact hY _ _ _ _ _ _ htx (Or.inr (Or.inr rfl))
        · refine am_iconst 452 (v := (-1)) dL_law_452 (by decide) ?_
          refine am_goto 453 (tgt := 457) dL_law_453 rfl ?_
          first | exact hY _ _ _ _ _ _ htx (Or.inl rfl) | exact hY _ _ _ _ _ _ htx (Or.inr (Or.inl rfl)) | exact hY _ _ _ _ _ _ htx (Or.inr (Or.inr rfl))
      · refine am_iconst 442 (v := 1) dL_law_442 (by decide) ?_
        refine am_goto 443 (tgt := 457) dL_law_443 rfl ?_
        first | exact hY _ _ _ _ _ _ htx (Or.inl rfl) | exact hY _ _ _ _ _ _ htx (Or.inr (Or.inl rfl)) | exact hY _ _ _ _ _ _ htx (Or.inr (Or.inr rfl))
    refine am_iload 366 dL_law_366 rfl ?_
    refine am_iconst 368 (v := 4) dL_law_368 (by decide) ?_
    refine am_icmp_ge 369 545 dL_law_369 rfl (fun c369 => absurd c369 (nI_ge hj (by decide))) (fun c369 => ?_)
    refine am_iload 372 dL_law_372 rfl ?_
    refine am_iconst 374 (v := 2) dL_law_374 (by decide) ?_
    refine am_iload 375 dL_law_375 rfl ?_
    refine am_imul 377 dL_law_377 ?_
    refine am_iconst 378 (v := 3) dL_law_378 (by decide) ?_
    refine am_iadd 379 dL_law_379 ?_
    refine am_idiv 380 dL_law_380 ne1 ?_
    refine am_bipush 381 (v := 7) dL_law_381 (by decide) ?_
    refine AW.more (rc := 0 + (R)) (rs := 0 + (S)) (by omega) (by omega) ?_
    refine am_S2 383 (mc' := 0) (ms' := 0) (rc := R) (rs := S) dL_law_383 lL_18 ⟨by decide, by decide⟩ (Nat.le_of_ble_eq_true rfl) (Nat.le_of_ble_eq_true rfl) (s_Lbelow (m := 7) (by decide) (by decide)) ?_
    rintro o n' f' ⟨go, hgo, rfl, rfl, rfl⟩
    refine am_ctI ?_
    refine am_istore 386 dL_law_386 (by decide) ?_
    refine am_iconst 388 (v := 0) dL_law_388 (by decide) ?_
    refine am_bipush 389 (v := 7) dL_law_389 (by decide) ?_
    refine am_aload_n 391 dL_law_391 rfl ?_
    refine am_iload 392 dL_law_392 rfl ?_
    refine am_iaload 394 dL_law_394 rfl (by repeat (first | assumption | exact am_ue | refine am_un (by first | assumption | decide | omega) ?_)) (am_ix hj (by decide)) ?_
    rw [nI_clamp (n := j) (by omega), hc]
    refine am_bipush 395 (v := 8) dL_law_395 (by decide) ?_
    refine am_irem 397 dL_law_397 (by decide) ?_
    rw [am_rem8 (by omega)]
    refine am_iload 398 dL_law_398 rfl ?_
    refine am_if_ne 400 407 dL_law_400 rfl (fun c400 => ?_) (fun c400 => ?_)
    · refine am_iload 407 dL_law_407 rfl ?_
      refine am_iconst 409 (v := 1) dL_law_409 (by decide) ?_
      refine am_icmp_ne 410 417 dL_law_410 rfl (fun c410 => ?_) (fun c410 => ?_)
      · refine am_iconst 417 (v := 0) dL_law_417 (by decide) ?_
        first | exact hX _ _ _ _ _ _ (Or.inl rfl) | exact hX _ _ _ _ _ _ (Or.inr (Or.inl rfl)) | exact hX _ _ _ _ _ _ (Or.inr (Or.inr rfl))
      · refine am_iconst 413 (v := (-1)) dL_law_413 (by decide) ?_
        refine am_goto 414 (tgt := 418) dL_law_414 rfl ?_
        first | exact hX _ _ _ _ _ _ (Or.inl rfl) | exact hX _ _ _ _ _ _ (Or.inr (Or.inl rfl)) | exact hX _ _ _ _ _ _ (Or.inr (Or.inr rfl))
    · refine am_iconst 403 (v := 1) dL_law_403 (by decide) ?_
      refine am_goto 404 (tgt := 418) dL_law_404 rfl ?_
      first | exact hX _ _ _ _ _ _ (Or.inl rfl) | exact hX _ _ _ _ _ _ (Or.inr (Or.inl rfl)) | exact hX _ _ _ _ _ _ (Or.inr (Or.inr rfl))
set_option maxHeartbeats 1000000 in
theorem l_cd (hI : l_I k N xs lim g n f) (hk : k < 44) (hC : l_J k N xs R S Q) : AW mL_law (18 + R) (105 + S) 363 [some (.ref 0), some (.ref 1), some (.ref 47), some (.int lim), some (.int (nI k)), some (.int x), some (.int y), z7, z8, z9, z10, z11, z12, z13, z14, z15] [] n f Q := by
  refine am_iconst 363 (v := 0) dL_law_363 (by decide) ?_
  refine am_istore 364 dL_law_364 (by decide) ?_
  refine l_fing hI hk fun g f a9 a11 a12 a13 a14 a15 hI => ?_
  obtain ⟨⟨z, T, hT, hG, hl⟩, hs, ha, hg, hn⟩ := hI
  have h0 := hG.1
  refine am_aload_n 545 dL_law_545 rfl ?_
  refine am_iload_n 546 dL_law_546 rfl ?_
  refine am_S2 547 (mc' := 18) (ms' := 105) (rc := R) (rs := S) dL_law_547 lL_67 ⟨by decide, by decide⟩ (Nat.le_of_ble_eq_true rfl) (Nat.le_of_ble_eq_true rfl) (s_LisFrame hG (by omega) hl (by omega)) ?_
  rintro o n' f2 ⟨rfl, rfl, ⟨z', g1, gl⟩, g2⟩
  refine am_ctI ?_
  have k0 := (g2 0 (by omega) (by omega)).trans hs
  have k47 := (g2 47 (by omega) (by omega)).trans ha
  have hI0 : l_I (k + 1) N xs lim g (n + 3) f2 := ⟨⟨z', T + 1, by omega, g1, gl⟩, k0, k47, hg, by omega⟩
  refine am_if_ne 550 555 dL_law_550 rfl (fun c550 => ?_) (fun c550 => absurd c550 (by decide))
  exact hC _ _ _ _ _ _ _ _ _ _ _ _ _ _ _ hI0
theorem l_same (d : Int64) : lg_cmp d d = 0 := by
  unfold lg_cmp
  simp
def l_P : am_P := fun o _ _ => o = .inl (some (.int 1))
set_option maxHeartbeats 1000000 in
theorem l_end {a5 a6 a7 a8 a9 a10 a11 a12 a13 a14 a15 : Option Value} (hI : l_I 44 N xs lim g n f) : AW mL_law 0 0 570 [some (.ref 0), some (.ref 1), some (.ref 47), some (.int lim), some (.int (nI 44)), a5, a6, a7, a8, a9, a10, a11, a12, a13, a14, a15] [] n f l_P := by
  obtain ⟨⟨z, T, hT, hG, hl⟩, hs, ha, hg, hn⟩ := hI
  have h0 := hG.1
  have hcv := m_cv_in (z_b z) (z_h z) 61
  have h1 : ¬ m_cv (z_b z) (z_h z) 61 < -1 := by
    rcases hcv with e | ⟨q, hq, e⟩
    · rw [e]; decide
    · rw [e]
      have : ∀ q, q < 61 → ¬ nI q < -1 := by decide +kernel
      exact this q (by omega)
  have h2 : ¬ 60 < m_cv (z_b z) (z_h z) 61 := by
    rcases hcv with e | ⟨q, hq, e⟩
    · rw [e]; decide
    · rw [e]
      exact nI_nlt (a := 60) hq (by decide)
  refine am_aload_n 570 dL_law_570 rfl ?_
  refine am_V0 571 (mc' := 0) (ms' := 0) (rc := 0) (rs := 0) dL_law_571 lL_75 ⟨by decide, by decide⟩ (by repeat (first | assumption | exact am_ue | refine am_un (by first | assumption | decide | omega) ?_)) (Nat.le_of_ble_eq_true rfl) (Nat.le_of_ble_eq_true rfl) (s_digest hG) ?_
  rintro o n' f2 ⟨rfl, en, g1, g2⟩
  refine am_ctI ?_
  rw [en]
  have j0 := g1.1
  refine am_lstore 574 dL_law_574 (by decide) ?_
  refine am_aload_n 576 dL_law_576 rfl ?_
  refine am_V0 577 (mc' := 0) (ms' := 0) (rc := 0) (rs := 0) dL_law_577 lL_51 ⟨by decide, by decide⟩ (by repeat (first | assumption | exact am_ue | refine am_un (by first | assumption | decide | omega) ?_)) (Nat.le_of_ble_eq_true rfl) (Nat.le_of_ble_eq_true rfl) (s_calmIn g1) ?_
  rintro o n'' f3 ⟨rfl, en, g3, g4⟩
  refine am_ctI ?_
  rw [en]
  have k0 := g3.1
  refine am_istore 580 dL_law_580 (by decide) ?_
  refine am_iload 582 dL_law_582 rfl ?_
  refine am_iconst 584 (v := (-1)) dL_law_584 (by decide) ?_
  refine am_icmp_lt 585 609 dL_law_585 rfl (fun c585 => absurd c585 h1) (fun c585 => ?_)
  refine am_iload 588 dL_law_588 rfl ?_
  refine am_bipush 590 (v := 60) dL_law_590 (by decide) ?_
  refine am_icmp_gt 592 609 dL_law_592 rfl (fun c592 => absurd c592 h2) (fun c592 => ?_)
  refine am_aload_n 595 dL_law_595 rfl ?_
  refine am_V0 596 (mc' := 0) (ms' := 0) (rc := 0) (rs := 0) dL_law_596 lL_75 ⟨by decide, by decide⟩ (by repeat (first | assumption | exact am_ue | refine am_un (by first | assumption | decide | omega) ?_)) (Nat.le_of_ble_eq_true rfl) (Nat.le_of_ble_eq_true rfl) (s_digest g3) ?_
  rintro o n3 f4 ⟨rfl, en, g5, g6⟩
  refine am_ctI ?_
  refine am_lload 599 dL_law_599 rfl ?_
  refine am_lcmp 601 dL_law_601 ?_
  rw [show lg_cmp (m_dig z) (m_dig z) = 0 from l_same _]
  refine am_if_ne 602 609 dL_law_602 rfl (fun c602 => absurd c602 (fun q => q rfl)) (fun c602 => ?_)
  refine am_iconst 605 (v := 1) dL_law_605 (by decide) ?_
  refine am_goto 606 (tgt := 610) dL_law_606 rfl ?_
  refine am_ireturn 610 dL_law_610 rfl rfl ?_
  rfl
end Law
