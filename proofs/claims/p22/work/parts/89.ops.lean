/-! ===== the law's cases, between two calls ===== -/
section Ops3
variable {xs : Nat → Int32} {N c s n R S S1 : Nat} {f : Nat → am_C} {P : am_P} {z6 z7 z8 : Option Value}
def l_E (xs : Nat → Int32) (N c s R S : Nat) (P : am_P) : Prop := ∀ (n' : Nat) (f' : Nat → am_C) (z6 z7 z8 : Option Value), l_J xs N (c + 1) s n' f' → AW mL_law R S 896 [some (.ref 0), some (.ref 2), some (.ref 48), some (.ref 53), some (.ref 54), some (.int (nI (5 * c))), z6, z7, z8] [] n' f' P
theorem l_in {i : Nat} {v : Int32} (hv : v = nI i) (hi : i < 5) (hc : 5 * c + 5 ≤ N) (hN : N ≤ 2560) : vp_in (nI (5 * c) + v) N := by
  rw [hv, nI_add]
  exact vp_in_nI (by omega) (by omega)
theorem l_a53 {p T q : Nat} {z : m_Z} {v : Value} {V : Option Value ⊕ Nat → Prop} {X : am_C} {o : Option Value ⊕ Nat} {n' : Nat} {f' : Nat → am_C} (hX : f q = X) (hq : p + 45 < q) (hV : V (.inl (some v))) (h : m_ask p T z n f v o n' f') : n' = n ∧ f' q = X ∧ V o := ⟨h.2.1, (h.2.2.2 q (Or.inr hq)).trans hX, by rw [h.1]; exact hV⟩
theorem l_t53 {q E : Nat} {V : Option Value ⊕ Nat → Prop} {X : am_C} {o : Option Value ⊕ Nat} {n' : Nat} {f' : Nat → am_C} (hX : f q = X) (hV : V (.inr E)) (h : am_th E n f o n' f') : n' = n ∧ f' q = X ∧ V o := ⟨h.2.1, by rw [h.2.2]; exact hX, by rw [h.1]; exact hV⟩
theorem l_lg {a b : Int64} (h : a = b) : lg_cmp a b = 0 := (lg_cmp_eq _ _).mpr h
theorem l_ge1 {v : Int32} {a : Nat} (h : (1 : Int32) ≤ nI a) (ha : a < 2 ^ 31) : 1 ≤ a := by
  rw [Int32.le_iff_toInt_le, nI_toInt ha, show (1 : Int32).toInt = 1 from rfl] at h
  omega
set_option maxHeartbeats 2000000 in
theorem l_ofCell (j0 : l_J xs N c s n f) (hc5 : 5 * c + 5 ≤ N) (hN : N ≤ 2560) (hE : l_E xs N c s R S P) : AW mL_law (640 + R) (l_C s + S) 410 [some (.ref 0), some (.ref 2), some (.ref 48), some (.ref 53), some (.ref 54), some (.int (nI (5 * c))), z6, z7, z8] [] n f P := by
  obtain ⟨z, T, κ, sz, th, li, cs, A, C, fr, k, hc, wp, G, j⟩ := j0
  obtain ⟨⟨hs, hn, hT, hsc, hX⟩, hG, hM, hk, hcs, ⟨hq, hsum⟩, ⟨g, ho⟩, gd, hod⟩ := id j
  have h0 := hG.1
  have lo := l_C_lo (s := s)
  have i1 : vp_in (nI (5 * c) + 1) N := l_in (i := 1) rfl (by decide) hc5 hN
  have i2 : vp_in (nI (5 * c) + 2) N := l_in (i := 2) rfl (by decide) hc5 hN
  have i3 : vp_in (nI (5 * c) + 3) N := l_in (i := 3) rfl (by decide) hc5 hN
  have i4 : vp_in (nI (5 * c) + 4) N := l_in (i := 4) rfl (by decide) hc5 hN
  refine AW.more (rc := 1 + (7 + R)) (rs := 6 + (292 + S)) (by omega) (by omega) ?_
  refine am_aload_n 410 dL_law_410 rfl ?_
  refine am_aload_n 411 dL_law_411 rfl ?_
  refine am_iload 412 dL_law_412 rfl ?_
  refine am_iconst 414 (v := 1) dL_law_414 (by decide) ?_
  refine am_iadd 415 dL_law_415 ?_
  refine am_saload 416 dL_law_416 hs i1 ?_
  refine am_aload_n 417 dL_law_417 rfl ?_
  refine am_iload 418 dL_law_418 rfl ?_
  refine am_iconst 420 (v := 2) dL_law_420 (by decide) ?_
  refine am_iadd 421 dL_law_421 ?_
  refine am_saload 422 dL_law_422 hs i2 ?_
  refine am_aload_n 423 dL_law_423 rfl ?_
  refine am_iload 424 dL_law_424 rfl ?_
  refine am_iconst 426 (v := 3) dL_law_426 (by decide) ?_
  refine am_iadd 427 dL_law_427 ?_
  refine am_saload 428 dL_law_428 hs i3 ?_
  refine am_aload_n 429 dL_law_429 rfl ?_
  refine am_SW5 430 (mc' := 1) (ms' := 6) (rc := 7 + R) (rs := 292 + S) dL_law_430 lL_109 ⟨by decide, by decide⟩ (Nat.le_of_ble_eq_true rfl) (Nat.le_of_ble_eq_true rfl) (s_UofCell h0 (s_aOfCell hG) (fun _ _ _ h => l_c53 ho (by decide) h)) ?_
  rintro o n1 f2 ⟨rfl, ⟨v6, rfl⟩, o1, f1, ⟨-, -, ⟨z1, hG1, hz⟩, e1⟩, h2⟩
  have j2 := j.mid hG1 hz e1 (h2.imp id Or.inl)
  obtain ⟨⟨hs2, -, -, -⟩, -, hM2, -, hcs2, ⟨hq2, hsum2⟩, -⟩ := id j2
  obtain ⟨⟨m0, -⟩, -⟩ := id hM2
  unfold r_m12 at m0
  refine am_ctI ?_
  refine am_istore 433 dL_law_433 (by decide) ?_
  refine am_aload_n 435 dL_law_435 rfl ?_
  refine am_aload_n 436 dL_law_436 rfl ?_
  refine am_iload 437 dL_law_437 rfl ?_
  refine am_iconst 439 (v := 1) dL_law_439 (by decide) ?_
  refine am_iadd 440 dL_law_440 ?_
  refine am_saload 441 dL_law_441 hs2 i1 ?_
  refine am_aload_n 442 dL_law_442 rfl ?_
  refine am_iload 443 dL_law_443 rfl ?_
  refine am_iconst 445 (v := 2) dL_law_445 (by decide) ?_
  refine am_iadd 446 dL_law_446 ?_
  refine am_saload 447 dL_law_447 hs2 i2 ?_
  refine am_aload_n 448 dL_law_448 rfl ?_
  refine am_iload 449 dL_law_449 rfl ?_
  refine am_iconst 451 (v := 3) dL_law_451 (by decide) ?_
  refine am_iadd 452 dL_law_452 ?_
  refine am_saload 453 dL_law_453 hs2 i3 ?_
  refine am_V3 454 (mc' := 7) (ms' := 292) (rc := R) (rs := S) dL_law_454 lL_111 ⟨by decide, by decide⟩ m0 (Nat.le_of_ble_eq_true rfl) (Nat.le_of_ble_eq_true rfl) (s_rofCell hM2) ?_
  rintro o n3 f3 ⟨hn3, th3, v3, rfl, ⟨x3, rfl⟩, hM3, go3⟩
  refine am_ctI ?_
  refine am_istore 457 dL_law_457 (by decide) ?_
  refine am_goto 459 (tgt := 896) dL_law_459 rfl ?_
  exact hE _ _ _ _ _ (j2.fin hn3 hM3 go3)
set_option maxHeartbeats 2000000 in
theorem l_ofPeak (j0 : l_J xs N c s n f) (hc5 : 5 * c + 5 ≤ N) (hN : N ≤ 2560) (hE : l_E xs N c s R S P) : AW mL_law (640 + R) (l_C s + S) 462 [some (.ref 0), some (.ref 2), some (.ref 48), some (.ref 53), some (.ref 54), some (.int (nI (5 * c))), z6, z7, z8] [] n f P := by
  obtain ⟨z, T, κ, sz, th, li, cs, A, C, fr, k, hc, wp, G, j⟩ := j0
  obtain ⟨⟨hs, hn, hT, hsc, hX⟩, hG, hM, hk, hcs, ⟨hq, hsum⟩, ⟨g, ho⟩, gd, hod⟩ := id j
  have h0 := hG.1
  have lo := l_C_lo (s := s)
  have i1 : vp_in (nI (5 * c) + 1) N := l_in (i := 1) rfl (by decide) hc5 hN
  have i2 : vp_in (nI (5 * c) + 2) N := l_in (i := 2) rfl (by decide) hc5 hN
  have i3 : vp_in (nI (5 * c) + 3) N := l_in (i := 3) rfl (by decide) hc5 hN
  have i4 : vp_in (nI (5 * c) + 4) N := l_in (i := 4) rfl (by decide) hc5 hN
  refine AW.more (rc := 1 + (7 + R)) (rs := 6 + (292 + S)) (by omega) (by omega) ?_
  refine am_aload_n 462 dL_law_462 rfl ?_
  refine am_aload_n 463 dL_law_463 rfl ?_
  refine am_iload 464 dL_law_464 rfl ?_
  refine am_iconst 466 (v := 1) dL_law_466 (by decide) ?_
  refine am_iadd 467 dL_law_467 ?_
  refine am_saload 468 dL_law_468 hs i1 ?_
  refine am_aload_n 469 dL_law_469 rfl ?_
  refine am_iload 470 dL_law_470 rfl ?_
  refine am_iconst 472 (v := 2) dL_law_472 (by decide) ?_
  refine am_iadd 473 dL_law_473 ?_
  refine am_saload 474 dL_law_474 hs i2 ?_
  refine am_aload_n 475 dL_law_475 rfl ?_
  refine am_SW4 476 (mc' := 1) (ms' := 6) (rc := 7 + R) (rs := 292 + S) dL_law_476 lL_112 ⟨by decide, by decide⟩ (Nat.le_of_ble_eq_true rfl) (Nat.le_of_ble_eq_true rfl) (s_UofPeak h0 (s_aOfPeak hG) (fun _ _ _ h => l_c53 ho (by decide) h)) ?_
  rintro o n1 f2 ⟨rfl, ⟨v6, rfl⟩, o1, f1, ⟨-, -, ⟨z1, hG1, hz⟩, e1⟩, h2⟩
  have j2 := j.mid hG1 hz e1 (h2.imp id Or.inl)
  obtain ⟨⟨hs2, -, -, -⟩, -, hM2, -, hcs2, ⟨hq2, hsum2⟩, -⟩ := id j2
  obtain ⟨⟨m0, -⟩, -⟩ := id hM2
  unfold r_m12 at m0
  refine am_ctI ?_
  refine am_istore 479 dL_law_479 (by decide) ?_
  refine am_aload_n 481 dL_law_481 rfl ?_
  refine am_aload_n 482 dL_law_482 rfl ?_
  refine am_iload 483 dL_law_483 rfl ?_
  refine am_iconst 485 (v := 1) dL_law_485 (by decide) ?_
  refine am_iadd 486 dL_law_486 ?_
  refine am_saload 487 dL_law_487 hs2 i1 ?_
  refine am_aload_n 488 dL_law_488 rfl ?_
  refine am_iload 489 dL_law_489 rfl ?_
  refine am_iconst 491 (v := 2) dL_law_491 (by decide) ?_
  refine am_iadd 492 dL_law_492 ?_
  refine am_saload 493 dL_law_493 hs2 i2 ?_
  refine am_V2 494 (mc' := 7) (ms' := 292) (rc := R) (rs := S) dL_law_494 lL_114 ⟨by decide, by decide⟩ m0 (Nat.le_of_ble_eq_true rfl) (Nat.le_of_ble_eq_true rfl) (s_rofPeak hM2 (l_small hq2 (by omega))) ?_
  rintro o n3 f3 ⟨hn3, th3, v3, rfl, ⟨x3, rfl⟩, hM3, go3⟩
  refine am_ctI ?_
  refine am_istore 497 dL_law_497 (by decide) ?_
  refine am_goto 499 (tgt := 896) dL_law_499 rfl ?_
  exact hE _ _ _ _ _ (j2.fin hn3 hM3 go3)
set_option maxHeartbeats 2000000 in
theorem l_ofContact (j0 : l_J xs N c s n f) (hc5 : 5 * c + 5 ≤ N) (hN : N ≤ 2560) (hE : l_E xs N c s R S P) : AW mL_law (640 + R) (l_C s + S) 502 [some (.ref 0), some (.ref 2), some (.ref 48), some (.ref 53), some (.ref 54), some (.int (nI (5 * c))), z6, z7, z8] [] n f P := by
  obtain ⟨z, T, κ, sz, th, li, cs, A, C, fr, k, hc, wp, G, j⟩ := j0
  obtain ⟨⟨hs, hn, hT, hsc, hX⟩, hG, hM, hk, hcs, ⟨hq, hsum⟩, ⟨g, ho⟩, gd, hod⟩ := id j
  have h0 := hG.1
  have lo := l_C_lo (s := s)
  have i1 : vp_in (nI (5 * c) + 1) N := l_in (i := 1) rfl (by decide) hc5 hN
  have i2 : vp_in (nI (5 * c) + 2) N := l_in (i := 2) rfl (by decide) hc5 hN
  have i3 : vp_in (nI (5 * c) + 3) N := l_in (i := 3) rfl (by decide) hc5 hN
  have i4 : vp_in (nI (5 * c) + 4) N := l_in (i := 4) rfl (by decide) hc5 hN
  refine AW.more (rc := 1 + (1 + R)) (rs := 6 + (6 + S)) (by omega) (by omega) ?_
  refine am_aload_n 502 dL_law_502 rfl ?_
  refine am_aload_n 503 dL_law_503 rfl ?_
  refine am_iload 504 dL_law_504 rfl ?_
  refine am_iconst 506 (v := 1) dL_law_506 (by decide) ?_
  refine am_iadd 507 dL_law_507 ?_
  refine am_saload 508 dL_law_508 hs i1 ?_
  refine am_aload_n 509 dL_law_509 rfl ?_
  refine am_iload 510 dL_law_510 rfl ?_
  refine am_iconst 512 (v := 2) dL_law_512 (by decide) ?_
  refine am_iadd 513 dL_law_513 ?_
  refine am_saload 514 dL_law_514 hs i2 ?_
  refine am_aload_n 515 dL_law_515 rfl ?_
  refine am_SW4 516 (mc' := 1) (ms' := 6) (rc := 1 + R) (rs := 6 + S) dL_law_516 lL_115 ⟨by decide, by decide⟩ (Nat.le_of_ble_eq_true rfl) (Nat.le_of_ble_eq_true rfl) (s_UofContact h0 (s_aOfContact hG) (fun _ _ _ h => l_c53 ho (by decide) h)) ?_
  rintro o n1 f2 ⟨rfl, ⟨v6, rfl⟩, o1, f1, ⟨-, -, ⟨z1, hG1, hz⟩, e1⟩, h2⟩
  have j2 := j.mid hG1 hz e1 (h2.imp id Or.inl)
  obtain ⟨⟨hs2, -, -, -⟩, -, hM2, -, hcs2, ⟨hq2, hsum2⟩, -⟩ := id j2
  obtain ⟨⟨m0, -⟩, -⟩ := id hM2
  unfold r_m12 at m0
  refine am_ctI ?_
  refine am_istore 519 dL_law_519 (by decide) ?_
  refine am_aload_n 521 dL_law_521 rfl ?_
  refine am_aload_n 522 dL_law_522 rfl ?_
  refine am_iload 523 dL_law_523 rfl ?_
  refine am_iconst 525 (v := 1) dL_law_525 (by decide) ?_
  refine am_iadd 526 dL_law_526 ?_
  refine am_saload 527 dL_law_527 hs2 i1 ?_
  refine am_aload_n 528 dL_law_528 rfl ?_
  refine am_iload 529 dL_law_529 rfl ?_
  refine am_iconst 531 (v := 2) dL_law_531 (by decide) ?_
  refine am_iadd 532 dL_law_532 ?_
  refine am_saload 533 dL_law_533 hs2 i2 ?_
  refine am_V2 534 (mc' := 1) (ms' := 6) (rc := R) (rs := S) dL_law_534 lL_117 ⟨by decide, by decide⟩ m0 (Nat.le_of_ble_eq_true rfl) (Nat.le_of_ble_eq_true rfl) (s_rofContact hM2) ?_
  rintro o n3 f3 ⟨hn3, th3, v3, rfl, ⟨x3, rfl⟩, hM3, go3⟩
  refine am_ctI ?_
  refine am_istore 537 dL_law_537 (by decide) ?_
  refine am_goto 539 (tgt := 896) dL_law_539 rfl ?_
  exact hE _ _ _ _ _ (j2.fin hn3 hM3 go3)
set_option maxHeartbeats 2000000 in
theorem l_where (j0 : l_J xs N c s n f) (hc5 : 5 * c + 5 ≤ N) (hN : N ≤ 2560) (hE : l_E xs N c s R S P) : AW mL_law (640 + R) (l_C s + S) 542 [some (.ref 0), some (.ref 2), some (.ref 48), some (.ref 53), some (.ref 54), some (.int (nI (5 * c))), z6, z7, z8] [] n f P := by
  obtain ⟨z, T, κ, sz, th, li, cs, A, C, fr, k, hc, wp, G, j⟩ := j0
  obtain ⟨⟨hs, hn, hT, hsc, hX⟩, hG, hM, hk, hcs, ⟨hq, hsum⟩, ⟨g, ho⟩, gd, hod⟩ := id j
  have h0 := hG.1
  have lo := l_C_lo (s := s)
  have i1 : vp_in (nI (5 * c) + 1) N := l_in (i := 1) rfl (by decide) hc5 hN
  have i2 : vp_in (nI (5 * c) + 2) N := l_in (i := 2) rfl (by decide) hc5 hN
  have i3 : vp_in (nI (5 * c) + 3) N := l_in (i := 3) rfl (by decide) hc5 hN
  have i4 : vp_in (nI (5 * c) + 4) N := l_in (i := 4) rfl (by decide) hc5 hN
  refine AW.more (rc := 1 + (0 + R)) (rs := 6 + (0 + S)) (by omega) (by omega) ?_
  refine am_aload_n 542 dL_law_542 rfl ?_
  refine am_aload_n 543 dL_law_543 rfl ?_
  refine am_iload 544 dL_law_544 rfl ?_
  refine am_iconst 546 (v := 1) dL_law_546 (by decide) ?_
  refine am_iadd 547 dL_law_547 ?_
  refine am_saload 548 dL_law_548 hs i1 ?_
  refine am_aload_n 549 dL_law_549 rfl ?_
  refine am_iload 550 dL_law_550 rfl ?_
  refine am_iconst 552 (v := 2) dL_law_552 (by decide) ?_
  refine am_iadd 553 dL_law_553 ?_
  refine am_saload 554 dL_law_554 hs i2 ?_
  refine am_aload 555 dL_law_555 rfl ?_
  refine am_SW4 557 (mc' := 1) (ms' := 6) (rc := 0 + R) (rs := 0 + S) dL_law_557 lL_118 ⟨by decide, by decide⟩ (Nat.le_of_ble_eq_true rfl) (Nat.le_of_ble_eq_true rfl) (s_Uwhere h0 (s_aWhere hG) (fun _ _ _ h => l_c53 hod (by decide) h)) ?_
  rintro o n1 f2 ⟨rfl, ⟨v6, rfl⟩, o1, f1, ⟨-, -, ⟨z1, hG1, hz⟩, e1⟩, h2⟩
  have j2 := j.mid hG1 hz e1 (h2.imp id Or.inr)
  obtain ⟨⟨hs2, -, -, -⟩, -, hM2, -, hcs2, ⟨hq2, hsum2⟩, -⟩ := id j2
  obtain ⟨⟨m0, -⟩, -⟩ := id hM2
  unfold r_m12 at m0
  refine am_ctI ?_
  refine am_istore 560 dL_law_560 (by decide) ?_
  refine am_aload_n 562 dL_law_562 rfl ?_
  refine am_aload_n 563 dL_law_563 rfl ?_
  refine am_iload 564 dL_law_564 rfl ?_
  refine am_iconst 566 (v := 1) dL_law_566 (by decide) ?_
  refine am_iadd 567 dL_law_567 ?_
  refine am_saload 568 dL_law_568 hs2 i1 ?_
  refine am_aload_n 569 dL_law_569 rfl ?_
  refine am_iload 570 dL_law_570 rfl ?_
  refine am_iconst 572 (v := 2) dL_law_572 (by decide) ?_
  refine am_iadd 573 dL_law_573 ?_
  refine am_saload 574 dL_law_574 hs2 i2 ?_
  refine am_V2 575 (mc' := 0) (ms' := 0) (rc := R) (rs := S) dL_law_575 lL_121 ⟨by decide, by decide⟩ m0 (Nat.le_of_ble_eq_true rfl) (Nat.le_of_ble_eq_true rfl) (s_rwhere hM2) ?_
  rintro o n3 f3 ⟨hn3, th3, v3, rfl, ⟨x3, rfl⟩, hM3, go3⟩
  refine am_ctI ?_
  refine am_dstore 578 dL_law_578 (by decide) ?_
  refine am_goto 580 (tgt := 896) dL_law_580 rfl ?_
  exact hE _ _ _ _ _ (j2.fin hn3 hM3 go3)
set_option maxHeartbeats 2000000 in
theorem l_apart (j0 : l_J xs N c s n f) (hc5 : 5 * c + 5 ≤ N) (hN : N ≤ 2560) (hE : l_E xs N c s R S P) : AW mL_law (640 + R) (l_C s + S) 583 [some (.ref 0), some (.ref 2), some (.ref 48), some (.ref 53), some (.ref 54), some (.int (nI (5 * c))), z6, z7, z8] [] n f P := by
  obtain ⟨z, T, κ, sz, th, li, cs, A, C, fr, k, hc, wp, G, j⟩ := j0
  obtain ⟨⟨hs, hn, hT, hsc, hX⟩, hG, hM, hk, hcs, ⟨hq, hsum⟩, ⟨g, ho⟩, gd, hod⟩ := id j
  have h0 := hG.1
  have lo := l_C_lo (s := s)
  have i1 : vp_in (nI (5 * c) + 1) N := l_in (i := 1) rfl (by decide) hc5 hN
  have i2 : vp_in (nI (5 * c) + 2) N := l_in (i := 2) rfl (by decide) hc5 hN
  have i3 : vp_in (nI (5 * c) + 3) N := l_in (i := 3) rfl (by decide) hc5 hN
  have i4 : vp_in (nI (5 * c) + 4) N := l_in (i := 4) rfl (by decide) hc5 hN
  refine AW.more (rc := 1 + (0 + R)) (rs := 6 + (0 + S)) (by omega) (by omega) ?_
  refine am_aload_n 583 dL_law_583 rfl ?_
  refine am_aload_n 584 dL_law_584 rfl ?_
  refine am_iload 585 dL_law_585 rfl ?_
  refine am_iconst 587 (v := 1) dL_law_587 (by decide) ?_
  refine am_iadd 588 dL_law_588 ?_
  refine am_saload 589 dL_law_589 hs i1 ?_
  refine am_aload_n 590 dL_law_590 rfl ?_
  refine am_iload 591 dL_law_591 rfl ?_
  refine am_iconst 593 (v := 2) dL_law_593 (by decide) ?_
  refine am_iadd 594 dL_law_594 ?_
  refine am_saload 595 dL_law_595 hs i2 ?_
  refine am_aload 596 dL_law_596 rfl ?_
  refine am_SW4 598 (mc' := 1) (ms' := 6) (rc := 0 + R) (rs := 0 + S) dL_law_598 lL_122 ⟨by decide, by decide⟩ (Nat.le_of_ble_eq_true rfl) (Nat.le_of_ble_eq_true rfl) (s_Uapart h0 (s_aApart hG) (fun _ _ _ h => l_c53 hod (by decide) h)) ?_
  rintro o n1 f2 ⟨rfl, ⟨v6, rfl⟩, o1, f1, ⟨-, -, ⟨z1, hG1, hz⟩, e1⟩, h2⟩
  have j2 := j.mid hG1 hz e1 (h2.imp id Or.inr)
  obtain ⟨⟨hs2, -, -, -⟩, -, hM2, -, hcs2, ⟨hq2, hsum2⟩, -⟩ := id j2
  obtain ⟨⟨m0, -⟩, -⟩ := id hM2
  unfold r_m12 at m0
  refine am_ctI ?_
  refine am_istore 601 dL_law_601 (by decide) ?_
  refine am_aload_n 603 dL_law_603 rfl ?_
  refine am_aload_n 604 dL_law_604 rfl ?_
  refine am_iload 605 dL_law_605 rfl ?_
  refine am_iconst 607 (v := 1) dL_law_607 (by decide) ?_
  refine am_iadd 608 dL_law_608 ?_
  refine am_saload 609 dL_law_609 hs2 i1 ?_
  refine am_aload_n 610 dL_law_610 rfl ?_
  refine am_iload 611 dL_law_611 rfl ?_
  refine am_iconst 613 (v := 2) dL_law_613 (by decide) ?_
  refine am_iadd 614 dL_law_614 ?_
  refine am_saload 615 dL_law_615 hs2 i2 ?_
  refine am_V2 616 (mc' := 0) (ms' := 0) (rc := R) (rs := S) dL_law_616 lL_124 ⟨by decide, by decide⟩ m0 (Nat.le_of_ble_eq_true rfl) (Nat.le_of_ble_eq_true rfl) (s_rapart hM2) ?_
  rintro o n3 f3 ⟨hn3, th3, v3, rfl, ⟨x3, rfl⟩, hM3, go3⟩
  refine am_ctI ?_
  refine am_dstore 619 dL_law_619 (by decide) ?_
  refine am_goto 621 (tgt := 896) dL_law_621 rfl ?_
  exact hE _ _ _ _ _ (j2.fin hn3 hM3 go3)
set_option maxHeartbeats 2000000 in
theorem l_ofRow (j0 : l_J xs N c s n f) (hc5 : 5 * c + 5 ≤ N) (hN : N ≤ 2560) (hE : l_E xs N c s R S P) : AW mL_law (640 + R) (l_C s + S) 624 [some (.ref 0), some (.ref 2), some (.ref 48), some (.ref 53), some (.ref 54), some (.int (nI (5 * c))), z6, z7, z8] [] n f P := by
  obtain ⟨z, T, κ, sz, th, li, cs, A, C, fr, k, hc, wp, G, j⟩ := j0
  obtain ⟨⟨hs, hn, hT, hsc, hX⟩, hG, hM, hk, hcs, ⟨hq, hsum⟩, ⟨g, ho⟩, gd, hod⟩ := id j
  have h0 := hG.1
  have lo := l_C_lo (s := s)
  have i1 : vp_in (nI (5 * c) + 1) N := l_in (i := 1) rfl (by decide) hc5 hN
  have i2 : vp_in (nI (5 * c) + 2) N := l_in (i := 2) rfl (by decide) hc5 hN
  have i3 : vp_in (nI (5 * c) + 3) N := l_in (i := 3) rfl (by decide) hc5 hN
  have i4 : vp_in (nI (5 * c) + 4) N := l_in (i := 4) rfl (by decide) hc5 hN
  refine AW.more (rc := 1 + (7 + R)) (rs := 6 + (292 + S)) (by omega) (by omega) ?_
  refine am_aload_n 624 dL_law_624 rfl ?_
  refine am_aload_n 625 dL_law_625 rfl ?_
  refine am_iload 626 dL_law_626 rfl ?_
  refine am_iconst 628 (v := 1) dL_law_628 (by decide) ?_
  refine am_iadd 629 dL_law_629 ?_
  refine am_saload 630 dL_law_630 hs i1 ?_
  refine am_aload_n 631 dL_law_631 rfl ?_
  refine am_iload 632 dL_law_632 rfl ?_
  refine am_iconst 634 (v := 2) dL_law_634 (by decide) ?_
  refine am_iadd 635 dL_law_635 ?_
  refine am_saload 636 dL_law_636 hs i2 ?_
  refine am_aload_n 637 dL_law_637 rfl ?_
  refine am_SW4 638 (mc' := 1) (ms' := 6) (rc := 7 + R) (rs := 292 + S) dL_law_638 lL_125 ⟨by decide, by decide⟩ (Nat.le_of_ble_eq_true rfl) (Nat.le_of_ble_eq_true rfl) (s_UofRow h0 (s_aOfRow hG) (fun _ _ _ h => l_c53 ho (by decide) h)) ?_
  rintro o n1 f2 ⟨rfl, ⟨v6, rfl⟩, o1, f1, ⟨-, -, ⟨z1, hG1, hz⟩, e1⟩, h2⟩
  have j2 := j.mid hG1 hz e1 (h2.imp id Or.inl)
  obtain ⟨⟨hs2, -, -, -⟩, -, hM2, -, hcs2, ⟨hq2, hsum2⟩, -⟩ := id j2
  obtain ⟨⟨m0, -⟩, -⟩ := id hM2
  unfold r_m12 at m0
  refine am_ctI ?_
  refine am_istore 641 dL_law_641 (by decide) ?_
  refine am_aload_n 643 dL_law_643 rfl ?_
  refine am_aload_n 644 dL_law_644 rfl ?_
  refine am_iload 645 dL_law_645 rfl ?_
  refine am_iconst 647 (v := 1) dL_law_647 (by decide) ?_
  refine am_iadd 648 dL_law_648 ?_
  refine am_saload 649 dL_law_649 hs2 i1 ?_
  refine am_aload_n 650 dL_law_650 rfl ?_
  refine am_iload 651 dL_law_651 rfl ?_
  refine am_iconst 653 (v := 2) dL_law_653 (by decide) ?_
  refine am_iadd 654 dL_law_654 ?_
  refine am_saload 655 dL_law_655 hs2 i2 ?_
  refine am_V2 656 (mc' := 7) (ms' := 292) (rc := R) (rs := S) dL_law_656 lL_127 ⟨by decide, by decide⟩ m0 (Nat.le_of_ble_eq_true rfl) (Nat.le_of_ble_eq_true rfl) (s_rofRowX hM2) ?_
  rintro o n3 f3 ⟨hn3, th3, v3, rfl, ⟨x3, rfl⟩, hM3, go3⟩
  refine am_ctI ?_
  refine am_istore 659 dL_law_659 (by decide) ?_
  refine am_goto 661 (tgt := 896) dL_law_661 rfl ?_
  exact hE _ _ _ _ _ (j2.fin hn3 hM3 go3)
set_option maxHeartbeats 2000000 in
theorem l_ofArea (j0 : l_J xs N c s n f) (hc5 : 5 * c + 5 ≤ N) (hN : N ≤ 2560) (hE : l_E xs N c s R S P) : AW mL_law (640 + R) (l_C s + S) 664 [some (.ref 0), some (.ref 2), some (.ref 48), some (.ref 53), some (.ref 54), some (.int (nI (5 * c))), z6, z7, z8] [] n f P := by
  obtain ⟨z, T, κ, sz, th, li, cs, A, C, fr, k, hc, wp, G, j⟩ := j0
  obtain ⟨⟨hs, hn, hT, hsc, hX⟩, hG, hM, hk, hcs, ⟨hq, hsum⟩, ⟨g, ho⟩, gd, hod⟩ := id j
  have h0 := hG.1
  have lo := l_C_lo (s := s)
  have i1 : vp_in (nI (5 * c) + 1) N := l_in (i := 1) rfl (by decide) hc5 hN
  have i2 : vp_in (nI (5 * c) + 2) N := l_in (i := 2) rfl (by decide) hc5 hN
  have i3 : vp_in (nI (5 * c) + 3) N := l_in (i := 3) rfl (by decide) hc5 hN
  have i4 : vp_in (nI (5 * c) + 4) N := l_in (i := 4) rfl (by decide) hc5 hN
  refine AW.more (rc := 1 + (0 + R)) (rs := 6 + (0 + S)) (by omega) (by omega) ?_
  refine am_aload_n 664 dL_law_664 rfl ?_
  refine am_aload_n 665 dL_law_665 rfl ?_
  refine am_iload 666 dL_law_666 rfl ?_
  refine am_iconst 668 (v := 1) dL_law_668 (by decide) ?_
  refine am_iadd 669 dL_law_669 ?_
  refine am_saload 670 dL_law_670 hs i1 ?_
  refine am_aload_n 671 dL_law_671 rfl ?_
  refine am_iload 672 dL_law_672 rfl ?_
  refine am_iconst 674 (v := 2) dL_law_674 (by decide) ?_
  refine am_iadd 675 dL_law_675 ?_
  refine am_saload 676 dL_law_676 hs i2 ?_
  refine am_aload_n 677 dL_law_677 rfl ?_
  refine am_SW4 678 (mc' := 1) (ms' := 6) (rc := 0 + R) (rs := 0 + S) dL_law_678 lL_128 ⟨by decide, by decide⟩ (Nat.le_of_ble_eq_true rfl) (Nat.le_of_ble_eq_true rfl) (s_UofArea h0 (s_aOfArea hG) (fun _ _ _ h => l_c53 ho (by decide) h)) ?_
  rintro o n1 f2 ⟨rfl, ⟨v6, rfl⟩, o1, f1, ⟨-, -, ⟨z1, hG1, hz⟩, e1⟩, h2⟩
  have j2 := j.mid hG1 hz e1 (h2.imp id Or.inl)
  obtain ⟨⟨hs2, -, -, -⟩, -, hM2, -, hcs2, ⟨hq2, hsum2⟩, -⟩ := id j2
  obtain ⟨⟨m0, -⟩, -⟩ := id hM2
  unfold r_m12 at m0
  refine am_ctI ?_
  refine am_istore 681 dL_law_681 (by decide) ?_
  refine am_aload_n 683 dL_law_683 rfl ?_
  refine am_aload_n 684 dL_law_684 rfl ?_
  refine am_iload 685 dL_law_685 rfl ?_
  refine am_iconst 687 (v := 1) dL_law_687 (by decide) ?_
  refine am_iadd 688 dL_law_688 ?_
  refine am_saload 689 dL_law_689 hs2 i1 ?_
  refine am_aload_n 690 dL_law_690 rfl ?_
  refine am_iload 691 dL_law_691 rfl ?_
  refine am_iconst 693 (v := 2) dL_law_693 (by decide) ?_
  refine am_iadd 694 dL_law_694 ?_
  refine am_saload 695 dL_law_695 hs2 i2 ?_
  refine am_V2 696 (mc' := 0) (ms' := 0) (rc := R) (rs := S) dL_law_696 lL_130 ⟨by decide, by decide⟩ m0 (Nat.le_of_ble_eq_true rfl) (Nat.le_of_ble_eq_true rfl) (s_rofArea hM2) ?_
  rintro o n3 f3 ⟨hn3, th3, v3, rfl, ⟨x3, rfl⟩, hM3, go3⟩
  refine am_ctI ?_
  refine am_istore 699 dL_law_699 (by decide) ?_
  refine am_goto 701 (tgt := 896) dL_law_701 rfl ?_
  exact hE _ _ _ _ _ (j2.fin hn3 hM3 go3)
set_option maxHeartbeats 2000000 in
theorem l_many (j0 : l_J xs N c s n f) (hc5 : 5 * c + 5 ≤ N) (hN : N ≤ 2560) (hE : l_E xs N c s R S P) : AW mL_law (640 + R) (l_C s + S) 704 [some (.ref 0), some (.ref 2), some (.ref 48), some (.ref 53), some (.ref 54), some (.int (nI (5 * c))), z6, z7, z8] [] n f P := by
  obtain ⟨z, T, κ, sz, th, li, cs, A, C, fr, k, hc, wp, G, j⟩ := j0
  obtain ⟨⟨hs, hn, hT, hsc, hX⟩, hG, hM, hk, hcs, ⟨hq, hsum⟩, ⟨g, ho⟩, gd, hod⟩ := id j
  have h0 := hG.1
  have lo := l_C_lo (s := s)
  have i1 : vp_in (nI (5 * c) + 1) N := l_in (i := 1) rfl (by decide) hc5 hN
  have i2 : vp_in (nI (5 * c) + 2) N := l_in (i := 2) rfl (by decide) hc5 hN
  have i3 : vp_in (nI (5 * c) + 3) N := l_in (i := 3) rfl (by decide) hc5 hN
  have i4 : vp_in (nI (5 * c) + 4) N := l_in (i := 4) rfl (by decide) hc5 hN
  refine AW.more (rc := 1 + (7 + R)) (rs := 6 + (292 + S)) (by omega) (by omega) ?_
  refine am_aload_n 704 dL_law_704 rfl ?_
  refine am_aload_n 705 dL_law_705 rfl ?_
  refine am_iload 706 dL_law_706 rfl ?_
  refine am_iconst 708 (v := 1) dL_law_708 (by decide) ?_
  refine am_iadd 709 dL_law_709 ?_
  refine am_saload 710 dL_law_710 hs i1 ?_
  refine am_aload_n 711 dL_law_711 rfl ?_
  refine am_SW3 712 (mc' := 1) (ms' := 6) (rc := 7 + R) (rs := 292 + S) dL_law_712 lL_131 ⟨by decide, by decide⟩ (Nat.le_of_ble_eq_true rfl) (Nat.le_of_ble_eq_true rfl) (s_Umany h0 (s_aMany hG) (fun _ _ _ h => l_c53 ho (by decide) h)) ?_
  rintro o n1 f2 ⟨rfl, ⟨v6, rfl⟩, o1, f1, ⟨-, -, ⟨z1, hG1, hz⟩, e1⟩, h2⟩
  have j2 := j.mid hG1 hz e1 (h2.imp id Or.inl)
  obtain ⟨⟨hs2, -, -, -⟩, -, hM2, -, hcs2, ⟨hq2, hsum2⟩, -⟩ := id j2
  obtain ⟨⟨m0, -⟩, -⟩ := id hM2
  unfold r_m12 at m0
  refine am_ctI ?_
  refine am_istore 715 dL_law_715 (by decide) ?_
  refine am_aload_n 717 dL_law_717 rfl ?_
  refine am_aload_n 718 dL_law_718 rfl ?_
  refine am_iload 719 dL_law_719 rfl ?_
  refine am_iconst 721 (v := 1) dL_law_721 (by decide) ?_
  refine am_iadd 722 dL_law_722 ?_
  refine am_saload 723 dL_law_723 hs2 i1 ?_
  refine am_V1 724 (mc' := 7) (ms' := 292) (rc := R) (rs := S) dL_law_724 lL_133 ⟨by decide, by decide⟩ m0 (Nat.le_of_ble_eq_true rfl) (Nat.le_of_ble_eq_true rfl) (s_rmany hM2 (l_small hq2 (by omega))) ?_
  rintro o n3 f3 ⟨hn3, th3, v3, rfl, ⟨x3, rfl⟩, hM3, go3⟩
  refine am_ctI ?_
  refine am_istore 727 dL_law_727 (by decide) ?_
  refine am_goto 729 (tgt := 896) dL_law_729 rfl ?_
  exact hE _ _ _ _ _ (j2.fin hn3 hM3 go3)
set_option maxHeartbeats 2000000 in
theorem l_wouldMatch (j0 : l_J xs N c s n f) (hc5 : 5 * c + 5 ≤ N) (hN : N ≤ 2560) (hE : l_E xs N c s R S P) : AW mL_law (640 + R) (l_C s + S) 801 [some (.ref 0), some (.ref 2), some (.ref 48), some (.ref 53), some (.ref 54), some (.int (nI (5 * c))), z6, z7, z8] [] n f P := by
  obtain ⟨z, T, κ, sz, th, li, cs, A, C, fr, k, hc, wp, G, j⟩ := j0
  obtain ⟨⟨hs, hn, hT, hsc, hX⟩, hG, hM, hk, hcs, ⟨hq, hsum⟩, ⟨g, ho⟩, gd, hod⟩ := id j
  have h0 := hG.1
  have lo := l_C_lo (s := s)
  have i1 : vp_in (nI (5 * c) + 1) N := l_in (i := 1) rfl (by decide) hc5 hN
  have i2 : vp_in (nI (5 * c) + 2) N := l_in (i := 2) rfl (by decide) hc5 hN
  have i3 : vp_in (nI (5 * c) + 3) N := l_in (i := 3) rfl (by decide) hc5 hN
  have i4 : vp_in (nI (5 * c) + 4) N := l_in (i := 4) rfl (by decide) hc5 hN
  refine AW.more (rc := 1 + (12 + R)) (rs := 6 + (342 + S)) (by omega) (by omega) ?_
  refine am_aload_n 801 dL_law_801 rfl ?_
  refine am_aload_n 802 dL_law_802 rfl ?_
  refine am_iload 803 dL_law_803 rfl ?_
  refine am_iconst 805 (v := 1) dL_law_805 (by decide) ?_
  refine am_iadd 806 dL_law_806 ?_
  refine am_saload 807 dL_law_807 hs i1 ?_
  refine am_aload_n 808 dL_law_808 rfl ?_
  refine am_SW3 809 (mc' := 1) (ms' := 6) (rc := 12 + R) (rs := 342 + S) dL_law_809 lL_138 ⟨by decide, by decide⟩ (Nat.le_of_ble_eq_true rfl) (Nat.le_of_ble_eq_true rfl) (s_UwouldMatch h0 (s_aWould hG) (fun _ _ _ h => l_c53 ho (by decide) h)) ?_
  rintro o n1 f2 ⟨rfl, ⟨v6, rfl⟩, o1, f1, ⟨-, -, ⟨z1, hG1, hz⟩, e1⟩, h2⟩
  have j2 := j.mid hG1 hz e1 (h2.imp id Or.inl)
  obtain ⟨⟨hs2, -, -, -⟩, -, hM2, -, hcs2, ⟨hq2, hsum2⟩, -⟩ := id j2
  obtain ⟨⟨m0, -⟩, -⟩ := id hM2
  unfold r_m12 at m0
  refine am_ctI ?_
  refine am_istore 812 dL_law_812 (by decide) ?_
  refine am_aload_n 814 dL_law_814 rfl ?_
  refine am_aload_n 815 dL_law_815 rfl ?_
  refine am_iload 816 dL_law_816 rfl ?_
  refine am_iconst 818 (v := 1) dL_law_818 (by decide) ?_
  refine am_iadd 819 dL_law_819 ?_
  refine am_saload 820 dL_law_820 hs2 i1 ?_
  refine am_V1 821 (mc' := 12) (ms' := 342) (rc := R) (rs := S) dL_law_821 lL_140 ⟨by decide, by decide⟩ m0 (Nat.le_of_ble_eq_true rfl) (Nat.le_of_ble_eq_true rfl) (s_rwouldB hM2 (l_small hq2 (by omega))) ?_
  rintro o n3 f3 ⟨hn3, th3, v3, rfl, ⟨x3, rfl⟩, hM3, go3⟩
  refine am_ctI ?_
  refine am_istore 824 dL_law_824 (by decide) ?_
  refine am_goto 826 (tgt := 896) dL_law_826 rfl ?_
  exact hE _ _ _ _ _ (j2.fin hn3 hM3 go3)
set_option maxHeartbeats 2000000 in
theorem l_guess (j0 : l_J xs N c s n f) (hc5 : 5 * c + 5 ≤ N) (hN : N ≤ 2560) (hE : l_E xs N c s R S P) : AW mL_law (640 + R) (l_C s + S) 732 [some (.ref 0), some (.ref 2), some (.ref 48), some (.ref 53), some (.ref 54), some (.int (nI (5 * c))), z6, z7, z8] [] n f P := by
  obtain ⟨z, T, κ, sz, th, li, cs, A, C, fr, k, hc, wp, G, j⟩ := j0
  obtain ⟨⟨hs, hn, hT, hsc, hX⟩, hG, hM, hk, hcs, ⟨hq, hsum⟩, ⟨g, ho⟩, gd, hod⟩ := id j
  have h0 := hG.1
  have lo := l_C_lo (s := s)
  have i1 : vp_in (nI (5 * c) + 1) N := l_in (i := 1) rfl (by decide) hc5 hN
  have i2 : vp_in (nI (5 * c) + 2) N := l_in (i := 2) rfl (by decide) hc5 hN
  have i3 : vp_in (nI (5 * c) + 3) N := l_in (i := 3) rfl (by decide) hc5 hN
  have i4 : vp_in (nI (5 * c) + 4) N := l_in (i := 4) rfl (by decide) hc5 hN
  refine AW.more (rc := 1 + (0 + R)) (rs := 6 + (0 + S)) (by omega) (by omega) ?_
  by_cases qb : (xs (nI (5 * c) + 3).toNatClampNeg) = 0
  · refine am_aload_n 732 dL_law_732 rfl ?_
    refine am_aload_n 733 dL_law_733 rfl ?_
    refine am_iload 734 dL_law_734 rfl ?_
    refine am_iconst 736 (v := 1) dL_law_736 (by decide) ?_
    refine am_iadd 737 dL_law_737 ?_
    refine am_saload 738 dL_law_738 hs i1 ?_
    refine am_aload_n 739 dL_law_739 rfl ?_
    refine am_iload 740 dL_law_740 rfl ?_
    refine am_iconst 742 (v := 2) dL_law_742 (by decide) ?_
    refine am_iadd 743 dL_law_743 ?_
    refine am_saload 744 dL_law_744 hs i2 ?_
    refine am_aload_n 745 dL_law_745 rfl ?_
    refine am_iload 746 dL_law_746 rfl ?_
    refine am_iconst 748 (v := 3) dL_law_748 (by decide) ?_
    refine am_iadd 749 dL_law_749 ?_
    refine am_saload 750 dL_law_750 hs i3 ?_
    refine am_if_eq 751 758 dL_law_751 rfl (fun c751 => ?_) (fun c751 => absurd qb c751)
    refine am_iconst 758 (v := 0) dL_law_758 (by decide) ?_
    refine am_aload 759 dL_law_759 rfl ?_
    refine am_SW5 761 (mc' := 1) (ms' := 6) (rc := 0 + R) (rs := 0 + S) dL_law_761 lL_134 ⟨by decide, by decide⟩ (Nat.le_of_ble_eq_true rfl) (Nat.le_of_ble_eq_true rfl) (s_Uguess h0 (s_aGuess (isY := false) hG) (fun _ _ _ h => l_c53 hod (by decide) h)) ?_
    rintro o n1 f2 ⟨rfl, ⟨v6, rfl⟩, o1, f1, ⟨-, -, ⟨z1, hG1, hz⟩, e1⟩, h2⟩
    have j2 := j.mid hG1 hz e1 (h2.imp id Or.inr)
    obtain ⟨⟨hs2, -, -, -⟩, -, hM2, -, hcs2, ⟨hq2, hsum2⟩, -⟩ := id j2
    obtain ⟨⟨m0, -⟩, -⟩ := id hM2
    unfold r_m12 at m0
    refine am_ctI ?_
    refine am_istore 764 dL_law_764 (by decide) ?_
    refine am_aload_n 766 dL_law_766 rfl ?_
    refine am_aload_n 767 dL_law_767 rfl ?_
    refine am_iload 768 dL_law_768 rfl ?_
    refine am_iconst 770 (v := 1) dL_law_770 (by decide) ?_
    refine am_iadd 771 dL_law_771 ?_
    refine am_saload 772 dL_law_772 hs2 i1 ?_
    refine am_aload_n 773 dL_law_773 rfl ?_
    refine am_iload 774 dL_law_774 rfl ?_
    refine am_iconst 776 (v := 2) dL_law_776 (by decide) ?_
    refine am_iadd 777 dL_law_777 ?_
    refine am_saload 778 dL_law_778 hs2 i2 ?_
    refine am_aload_n 779 dL_law_779 rfl ?_
    refine am_iload 780 dL_law_780 rfl ?_
    refine am_iconst 782 (v := 3) dL_law_782 (by decide) ?_
    refine am_iadd 783 dL_law_783 ?_
    refine am_saload 784 dL_law_784 hs2 i3 ?_
    refine am_if_eq 785 792 dL_law_785 rfl (fun c785 => ?_) (fun c785 => absurd qb c785)
    refine am_iconst 792 (v := 0) dL_law_792 (by decide) ?_
    refine am_V3 793 (mc' := 0) (ms' := 0) (rc := R) (rs := S) dL_law_793 lL_137 ⟨by decide, by decide⟩ m0 (Nat.le_of_ble_eq_true rfl) (Nat.le_of_ble_eq_true rfl) (s_rguess (isY := false) hM2) ?_
    rintro o n3 f3 ⟨hn3, th3, v3, rfl, ⟨x3, rfl⟩, hM3, go3⟩
    refine am_ctI ?_
    refine am_dstore 796 dL_law_796 (by decide) ?_
    refine am_goto 798 (tgt := 896) dL_law_798 rfl ?_
    exact hE _ _ _ _ _ (j2.fin hn3 hM3 go3)
  · refine am_aload_n 732 dL_law_732 rfl ?_
    refine am_aload_n 733 dL_law_733 rfl ?_
    refine am_iload 734 dL_law_734 rfl ?_
    refine am_iconst 736 (v := 1) dL_law_736 (by decide) ?_
    refine am_iadd 737 dL_law_737 ?_
    refine am_saload 738 dL_law_738 hs i1 ?_
    refine am_aload_n 739 dL_law_739 rfl ?_
    refine am_iload 740 dL_law_740 rfl ?_
    refine am_iconst 742 (v := 2) dL_law_742 (by decide) ?_
    refine am_iadd 743 dL_law_743 ?_
    refine am_saload 744 dL_law_744 hs i2 ?_
    refine am_aload_n 745 dL_law_745 rfl ?_
    refine am_iload 746 dL_law_746 rfl ?_
    refine am_iconst 748 (v := 3) dL_law_748 (by decide) ?_
    refine am_iadd 749 dL_law_749 ?_
    refine am_saload 750 dL_law_750 hs i3 ?_
    refine am_if_eq 751 758 dL_law_751 rfl (fun c751 => absurd c751 qb) (fun c751 => ?_)
    refine am_iconst 754 (v := 1) dL_law_754 (by decide) ?_
    refine am_goto 755 (tgt := 759) dL_law_755 rfl ?_
    refine am_aload 759 dL_law_759 rfl ?_
    refine am_SW5 761 (mc' := 1) (ms' := 6) (rc := 0 + R) (rs := 0 + S) dL_law_761 lL_134 ⟨by decide, by decide⟩ (Nat.le_of_ble_eq_true rfl) (Nat.le_of_ble_eq_true rfl) (s_Uguess h0 (s_aGuess (isY := true) hG) (fun _ _ _ h => l_c53 hod (by decide) h)) ?_
    rintro o n1 f2 ⟨rfl, ⟨v6, rfl⟩, o1, f1, ⟨-, -, ⟨z1, hG1, hz⟩, e1⟩, h2⟩
    have j2 := j.mid hG1 hz e1 (h2.imp id Or.inr)
    obtain ⟨⟨hs2, -, -, -⟩, -, hM2, -, hcs2, ⟨hq2, hsum2⟩, -⟩ := id j2
    obtain ⟨⟨m0, -⟩, -⟩ := id hM2
    unfold r_m12 at m0
    refine am_ctI ?_
    refine am_istore 764 dL_law_764 (by decide) ?_
    refine am_aload_n 766 dL_law_766 rfl ?_
    refine am_aload_n 767 dL_law_767 rfl ?_
    refine am_iload 768 dL_law_768 rfl ?_
    refine am_iconst 770 (v := 1) dL_law_770 (by decide) ?_
    refine am_iadd 771 dL_law_771 ?_
    refine am_saload 772 dL_law_772 hs2 i1 ?_
    refine am_aload_n 773 dL_law_773 rfl ?_
    refine am_iload 774 dL_law_774 rfl ?_
    refine am_iconst 776 (v := 2) dL_law_776 (by decide) ?_
    refine am_iadd 777 dL_law_777 ?_
    refine am_saload 778 dL_law_778 hs2 i2 ?_
    refine am_aload_n 779 dL_law_779 rfl ?_
    refine am_iload 780 dL_law_780 rfl ?_
    refine am_iconst 782 (v := 3) dL_law_782 (by decide) ?_
    refine am_iadd 783 dL_law_783 ?_
    refine am_saload 784 dL_law_784 hs2 i3 ?_
    refine am_if_eq 785 792 dL_law_785 rfl (fun c785 => absurd c785 qb) (fun c785 => ?_)
    refine am_iconst 788 (v := 1) dL_law_788 (by decide) ?_
    refine am_goto 789 (tgt := 793) dL_law_789 rfl ?_
    refine am_V3 793 (mc' := 0) (ms' := 0) (rc := R) (rs := S) dL_law_793 lL_137 ⟨by decide, by decide⟩ m0 (Nat.le_of_ble_eq_true rfl) (Nat.le_of_ble_eq_true rfl) (s_rguess (isY := true) hM2) ?_
    rintro o n3 f3 ⟨hn3, th3, v3, rfl, ⟨x3, rfl⟩, hM3, go3⟩
    refine am_ctI ?_
    refine am_dstore 796 dL_law_796 (by decide) ?_
    refine am_goto 798 (tgt := 896) dL_law_798 rfl ?_
    exact hE _ _ _ _ _ (j2.fin hn3 hM3 go3)
set_option maxHeartbeats 2000000 in
theorem l_area (j0 : l_J xs N c s n f) (hc5 : 5 * c + 5 ≤ N) (hN : N ≤ 2560) (hE : l_E xs N c s R S P) : AW mL_law (640 + R) (l_C s + S) 144 [some (.ref 0), some (.ref 2), some (.ref 48), some (.ref 53), some (.ref 54), some (.int (nI (5 * c))), z6, z7, z8] [] n f P := by
  obtain ⟨z, T, κ, sz, th, li, cs, A, C, fr, k, hc, wp, G, j⟩ := j0
  obtain ⟨⟨hs, hn, hT, hsc, hX⟩, hG, hM, hk, hcs, ⟨hq, hsum⟩, ⟨g, ho⟩, gd, hod⟩ := id j
  have h0 := hG.1
  have lo := l_C_lo (s := s)
  have i1 : vp_in (nI (5 * c) + 1) N := l_in (i := 1) rfl (by decide) hc5 hN
  have i2 : vp_in (nI (5 * c) + 2) N := l_in (i := 2) rfl (by decide) hc5 hN
  have i3 : vp_in (nI (5 * c) + 3) N := l_in (i := 3) rfl (by decide) hc5 hN
  have i4 : vp_in (nI (5 * c) + 4) N := l_in (i := 4) rfl (by decide) hc5 hN
  by_cases h : (0 ≤ (xs (nI (5 * c) + 1).toNatClampNeg) ∧ (xs (nI (5 * c) + 1).toNatClampNeg) ≤ 7) ∧ ((xs (nI (5 * c) + 1).toNatClampNeg) ≤ (xs (nI (5 * c) + 2).toNatClampNeg) ∧ (xs (nI (5 * c) + 2).toNatClampNeg) ≤ 7) ∧ (0 ≤ (xs (nI (5 * c) + 3).toNatClampNeg) ∧ (xs (nI (5 * c) + 3).toNatClampNeg) ≤ 5) ∧ ((xs (nI (5 * c) + 3).toNatClampNeg) ≤ (xs (nI (5 * c) + 4).toNatClampNeg) ∧ (xs (nI (5 * c) + 4).toNatClampNeg) ≤ 5)
  · by_cases hz4 : sz < 4
    · have hcl := s_areaY (n := n) hG (by rw [← hX.2.1]; exact hz4) h.1 h.2.1 h.2.2.1 h.2.2.2
      refine AW.more (rc := 0 + (3 + R)) (rs := 0 + (19 + S)) (by omega) (by omega) ?_
      refine am_aload_n 144 dL_law_144 rfl ?_
      refine am_aload_n 145 dL_law_145 rfl ?_
      refine am_iload 146 dL_law_146 rfl ?_
      refine am_iconst 148 (v := 1) dL_law_148 (by decide) ?_
      refine am_iadd 149 dL_law_149 ?_
      refine am_saload 150 dL_law_150 hs i1 ?_
      refine am_aload_n 151 dL_law_151 rfl ?_
      refine am_iload 152 dL_law_152 rfl ?_
      refine am_iconst 154 (v := 2) dL_law_154 (by decide) ?_
      refine am_iadd 155 dL_law_155 ?_
      refine am_saload 156 dL_law_156 hs i2 ?_
      refine am_aload_n 157 dL_law_157 rfl ?_
      refine am_iload 158 dL_law_158 rfl ?_
      refine am_iconst 160 (v := 3) dL_law_160 (by decide) ?_
      refine am_iadd 161 dL_law_161 ?_
      refine am_saload 162 dL_law_162 hs i3 ?_
      refine am_aload_n 163 dL_law_163 rfl ?_
      refine am_iload 164 dL_law_164 rfl ?_
      refine am_iconst 166 (v := 4) dL_law_166 (by decide) ?_
      refine am_iadd 167 dL_law_167 ?_
      refine am_saload 168 dL_law_168 hs i4 ?_
      refine am_aload_n 169 dL_law_169 rfl ?_
      refine am_SW6 170 (mc' := 0) (ms' := 0) (rc := 3 + R) (rs := 19 + S) dL_law_170 lL_76 ⟨by decide, by decide⟩ (Nat.le_of_ble_eq_true rfl) (Nat.le_of_ble_eq_true rfl) (s_Uarea h0 hcl (fun _ _ _ h => l_a53 (V := c_v01) ho (by decide) (Or.inl ⟨_, rfl⟩) h)) ?_
      rintro o n1 f2 ⟨rfl, ⟨v6, rfl⟩, o1, f1, ⟨-, -, hG1, e1⟩, h2⟩
      obtain ⟨hs2, hG2, hM2, ho2, hod2⟩ := j.cls hG1 e1 (h2.imp id Or.inl)
      obtain ⟨⟨m0, -⟩, -⟩ := id hM2
      unfold r_m12 at m0
      refine am_ctI ?_
      refine am_istore 173 dL_law_173 (by decide) ?_
      refine am_aload_n 175 dL_law_175 rfl ?_
      refine am_aload_n 176 dL_law_176 rfl ?_
      refine am_iload 177 dL_law_177 rfl ?_
      refine am_iconst 179 (v := 1) dL_law_179 (by decide) ?_
      refine am_iadd 180 dL_law_180 ?_
      refine am_saload 181 dL_law_181 hs2 i1 ?_
      refine am_aload_n 182 dL_law_182 rfl ?_
      refine am_iload 183 dL_law_183 rfl ?_
      refine am_iconst 185 (v := 2) dL_law_185 (by decide) ?_
      refine am_iadd 186 dL_law_186 ?_
      refine am_saload 187 dL_law_187 hs2 i2 ?_
      refine am_aload_n 188 dL_law_188 rfl ?_
      refine am_iload 189 dL_law_189 rfl ?_
      refine am_iconst 191 (v := 3) dL_law_191 (by decide) ?_
      refine am_iadd 192 dL_law_192 ?_
      refine am_saload 193 dL_law_193 hs2 i3 ?_
      refine am_aload_n 194 dL_law_194 rfl ?_
      refine am_iload 195 dL_law_195 rfl ?_
      refine am_iconst 197 (v := 4) dL_law_197 (by decide) ?_
      refine am_iadd 198 dL_law_198 ?_
      refine am_saload 199 dL_law_199 hs2 i4 ?_
      refine am_V4 200 (mc' := 3) (ms' := 19) (rc := R) (rs := S) dL_law_200 lL_81 ⟨by decide, by decide⟩ m0 (Nat.le_of_ble_eq_true rfl) (Nat.le_of_ble_eq_true rfl) (s_rarea_t hM2 hz4 h.1 h.2.1 h.2.2.1 h.2.2.2) ?_
      rintro o n3 f3 ⟨⟨v3, rfl⟩, hn3, κ3, th3, hM3, go3⟩
      refine am_ctI ?_
      refine am_istore 203 dL_law_203 (by decide) ?_
      refine am_goto 205 (tgt := 896) dL_law_205 rfl ?_
      exact hE _ _ _ _ _ (l_next hs2 hn hG2 hM2 hk ho2 hod2 hn3 hM3 go3 (by omega) hcs hq.up hsum (by omega) (hX.area hG hz4))
    · have e4 : sz = 4 := by have := hM.1.2.2.1.1; omega
      have hcl := c_th (V := c_v01) hG (Or.inr (Or.inr rfl)) (s_tAreaM (n := n) hG (by rw [← hX.2.1]; exact hz4) h.1 h.2.1 h.2.2.1 h.2.2.2)
      subst e4
      refine AW.more (rc := 1 + (0 + R)) (rs := 6 + (0 + S)) (by omega) (by omega) ?_
      refine am_aload_n 144 dL_law_144 rfl ?_
      refine am_aload_n 145 dL_law_145 rfl ?_
      refine am_iload 146 dL_law_146 rfl ?_
      refine am_iconst 148 (v := 1) dL_law_148 (by decide) ?_
      refine am_iadd 149 dL_law_149 ?_
      refine am_saload 150 dL_law_150 hs i1 ?_
      refine am_aload_n 151 dL_law_151 rfl ?_
      refine am_iload 152 dL_law_152 rfl ?_
      refine am_iconst 154 (v := 2) dL_law_154 (by decide) ?_
      refine am_iadd 155 dL_law_155 ?_
      refine am_saload 156 dL_law_156 hs i2 ?_
      refine am_aload_n 157 dL_law_157 rfl ?_
      refine am_iload 158 dL_law_158 rfl ?_
      refine am_iconst 160 (v := 3) dL_law_160 (by decide) ?_
      refine am_iadd 161 dL_law_161 ?_
      refine am_saload 162 dL_law_162 hs i3 ?_
      refine am_aload_n 163 dL_law_163 rfl ?_
      refine am_iload 164 dL_law_164 rfl ?_
      refine am_iconst 166 (v := 4) dL_law_166 (by decide) ?_
      refine am_iadd 167 dL_law_167 ?_
      refine am_saload 168 dL_law_168 hs i4 ?_
      refine am_aload_n 169 dL_law_169 rfl ?_
      refine am_SW6 170 (mc' := 1) (ms' := 6) (rc := 0 + R) (rs := 0 + S) dL_law_170 lL_76 ⟨by decide, by decide⟩ (Nat.le_of_ble_eq_true rfl) (Nat.le_of_ble_eq_true rfl) (s_Uarea h0 hcl (fun _ _ _ h => l_c53 ho (by decide) h)) ?_
      rintro o n1 f2 ⟨rfl, ⟨v6, rfl⟩, o1, f1, ⟨-, -, ⟨z1, hG1, hz⟩, e1⟩, h2⟩
      have j2 := j.mid hG1 hz e1 (h2.imp id Or.inl)
      obtain ⟨⟨hs2, -, -, -⟩, -, hM2, -, hcs2, ⟨hq2, hsum2⟩, -⟩ := id j2
      obtain ⟨⟨m0, -⟩, -⟩ := id hM2
      unfold r_m12 at m0
      refine am_ctI ?_
      refine am_istore 173 dL_law_173 (by decide) ?_
      refine am_aload_n 175 dL_law_175 rfl ?_
      refine am_aload_n 176 dL_law_176 rfl ?_
      refine am_iload 177 dL_law_177 rfl ?_
      refine am_iconst 179 (v := 1) dL_law_179 (by decide) ?_
      refine am_iadd 180 dL_law_180 ?_
      refine am_saload 181 dL_law_181 hs2 i1 ?_
      refine am_aload_n 182 dL_law_182 rfl ?_
      refine am_iload 183 dL_law_183 rfl ?_
      refine am_iconst 185 (v := 2) dL_law_185 (by decide) ?_
      refine am_iadd 186 dL_law_186 ?_
      refine am_saload 187 dL_law_187 hs2 i2 ?_
      refine am_aload_n 188 dL_law_188 rfl ?_
      refine am_iload 189 dL_law_189 rfl ?_
      refine am_iconst 191 (v := 3) dL_law_191 (by decide) ?_
      refine am_iadd 192 dL_law_192 ?_
      refine am_saload 193 dL_law_193 hs2 i3 ?_
      refine am_aload_n 194 dL_law_194 rfl ?_
      refine am_iload 195 dL_law_195 rfl ?_
      refine am_iconst 197 (v := 4) dL_law_197 (by decide) ?_
      refine am_iadd 198 dL_law_198 ?_
      refine am_saload 199 dL_law_199 hs2 i4 ?_
      refine am_V4 200 (mc' := 0) (ms' := 0) (rc := R) (rs := S) dL_law_200 lL_81 ⟨by decide, by decide⟩ m0 (Nat.le_of_ble_eq_true rfl) (Nat.le_of_ble_eq_true rfl) (s_rarea_g hM2 h.1 h.2.1 h.2.2.1 h.2.2.2) ?_
      rintro o n3 f3 ⟨hn3, th3, v3, rfl, ⟨x3, rfl⟩, hM3, go3⟩
      refine am_ctI ?_
      refine am_istore 203 dL_law_203 (by decide) ?_
      refine am_goto 205 (tgt := 896) dL_law_205 rfl ?_
      exact hE _ _ _ _ _ (j2.fin hn3 hM3 go3)
  · refine AW.more (rc := 1 + (0 + R)) (rs := 6 + (0 + S)) (by omega) (by omega) ?_
    refine am_aload_n 144 dL_law_144 rfl ?_
    refine am_aload_n 145 dL_law_145 rfl ?_
    refine am_iload 146 dL_law_146 rfl ?_
    refine am_iconst 148 (v := 1) dL_law_148 (by decide) ?_
    refine am_iadd 149 dL_law_149 ?_
    refine am_saload 150 dL_law_150 hs i1 ?_
    refine am_aload_n 151 dL_law_151 rfl ?_
    refine am_iload 152 dL_law_152 rfl ?_
    refine am_iconst 154 (v := 2) dL_law_154 (by decide) ?_
    refine am_iadd 155 dL_law_155 ?_
    refine am_saload 156 dL_law_156 hs i2 ?_
    refine am_aload_n 157 dL_law_157 rfl ?_
    refine am_iload 158 dL_law_158 rfl ?_
    refine am_iconst 160 (v := 3) dL_law_160 (by decide) ?_
    refine am_iadd 161 dL_law_161 ?_
    refine am_saload 162 dL_law_162 hs i3 ?_
    refine am_aload_n 163 dL_law_163 rfl ?_
    refine am_iload 164 dL_law_164 rfl ?_
    refine am_iconst 166 (v := 4) dL_law_166 (by decide) ?_
    refine am_iadd 167 dL_law_167 ?_
    refine am_saload 168 dL_law_168 hs i4 ?_
    refine am_aload_n 169 dL_law_169 rfl ?_
    refine am_SW6 170 (mc' := 1) (ms' := 6) (rc := 0 + R) (rs := 0 + S) dL_law_170 lL_76 ⟨by decide, by decide⟩ (Nat.le_of_ble_eq_true rfl) (Nat.le_of_ble_eq_true rfl) (s_Uarea h0 (c_th (V := c_v01) hG (Or.inr (Or.inl rfl)) (s_tArea hG h)) (fun _ _ _ h => l_c53 ho (by decide) h)) ?_
    rintro o n1 f2 ⟨rfl, ⟨v6, rfl⟩, o1, f1, ⟨-, -, ⟨z1, hG1, hz⟩, e1⟩, h2⟩
    have j2 := j.mid hG1 hz e1 (h2.imp id Or.inl)
    obtain ⟨⟨hs2, -, -, -⟩, -, hM2, -, hcs2, ⟨hq2, hsum2⟩, -⟩ := id j2
    obtain ⟨⟨m0, -⟩, -⟩ := id hM2
    unfold r_m12 at m0
    refine am_ctI ?_
    refine am_istore 173 dL_law_173 (by decide) ?_
    refine am_aload_n 175 dL_law_175 rfl ?_
    refine am_aload_n 176 dL_law_176 rfl ?_
    refine am_iload 177 dL_law_177 rfl ?_
    refine am_iconst 179 (v := 1) dL_law_179 (by decide) ?_
    refine am_iadd 180 dL_law_180 ?_
    refine am_saload 181 dL_law_181 hs2 i1 ?_
    refine am_aload_n 182 dL_law_182 rfl ?_
    refine am_iload 183 dL_law_183 rfl ?_
    refine am_iconst 185 (v := 2) dL_law_185 (by decide) ?_
    refine am_iadd 186 dL_law_186 ?_
    refine am_saload 187 dL_law_187 hs2 i2 ?_
    refine am_aload_n 188 dL_law_188 rfl ?_
    refine am_iload 189 dL_law_189 rfl ?_
    refine am_iconst 191 (v := 3) dL_law_191 (by decide) ?_
    refine am_iadd 192 dL_law_192 ?_
    refine am_saload 193 dL_law_193 hs2 i3 ?_
    refine am_aload_n 194 dL_law_194 rfl ?_
    refine am_iload 195 dL_law_195 rfl ?_
    refine am_iconst 197 (v := 4) dL_law_197 (by decide) ?_
    refine am_iadd 198 dL_law_198 ?_
    refine am_saload 199 dL_law_199 hs2 i4 ?_
    refine am_V4 200 (mc' := 0) (ms' := 0) (rc := R) (rs := S) dL_law_200 lL_81 ⟨by decide, by decide⟩ m0 (Nat.le_of_ble_eq_true rfl) (Nat.le_of_ble_eq_true rfl) (s_rarea_f hM2 h) ?_
    rintro o n3 f3 ⟨hn3, th3, v3, rfl, ⟨x3, rfl⟩, hM3, go3⟩
    refine am_ctI ?_
    refine am_istore 203 dL_law_203 (by decide) ?_
    refine am_goto 205 (tgt := 896) dL_law_205 rfl ?_
    exact hE _ _ _ _ _ (j2.fin hn3 hM3 go3)
set_option maxHeartbeats 2000000 in
theorem l_keepBy (j0 : l_J xs N c s n f) (hc5 : 5 * c + 5 ≤ N) (hN : N ≤ 2560) (hE : l_E xs N c s R S P) : AW mL_law (640 + R) (l_C s + S) 842 [some (.ref 0), some (.ref 2), some (.ref 48), some (.ref 53), some (.ref 54), some (.int (nI (5 * c))), z6, z7, z8] [] n f P := by
  obtain ⟨z, T, κ, sz, th, li, cs, A, C, fr, k, hc, wp, G, j⟩ := j0
  obtain ⟨⟨hs, hn, hT, hsc, hX⟩, hG, hM, hk, hcs, ⟨hq, hsum⟩, ⟨g, ho⟩, gd, hod⟩ := id j
  have h0 := hG.1
  have lo := l_C_lo (s := s)
  have i1 : vp_in (nI (5 * c) + 1) N := l_in (i := 1) rfl (by decide) hc5 hN
  have i2 : vp_in (nI (5 * c) + 2) N := l_in (i := 2) rfl (by decide) hc5 hN
  have i3 : vp_in (nI (5 * c) + 3) N := l_in (i := 3) rfl (by decide) hc5 hN
  have i4 : vp_in (nI (5 * c) + 4) N := l_in (i := 4) rfl (by decide) hc5 hN
  refine AW.more (rc := 1 + (576 + R)) (rs := 6 + ((l_C s - 6) + S)) (by omega) (by omega) ?_
  refine am_aload_n 842 dL_law_842 rfl ?_
  refine am_aload_n 843 dL_law_843 rfl ?_
  refine am_iload 844 dL_law_844 rfl ?_
  refine am_iconst 846 (v := 1) dL_law_846 (by decide) ?_
  refine am_iadd 847 dL_law_847 ?_
  refine am_saload 848 dL_law_848 hs i1 ?_
  refine am_aload_n 849 dL_law_849 rfl ?_
  refine am_iload 850 dL_law_850 rfl ?_
  refine am_iconst 852 (v := 2) dL_law_852 (by decide) ?_
  refine am_iadd 853 dL_law_853 ?_
  refine am_saload 854 dL_law_854 hs i2 ?_
  refine am_aload_n 855 dL_law_855 rfl ?_
  refine am_SW4 856 (mc' := 1) (ms' := 6) (rc := 576 + R) (rs := (l_C s - 6) + S) dL_law_856 lL_145 ⟨by decide, by decide⟩ (Nat.le_of_ble_eq_true rfl) (Nat.le_of_ble_eq_true rfl) (s_UkeepBy h0 (s_aKeep hG) (fun _ _ _ h => l_c53 ho (by decide) h)) ?_
  rintro o n1 f2 ⟨rfl, ⟨v6, rfl⟩, o1, f1, ⟨-, -, ⟨z1, hG1, hz⟩, e1⟩, h2⟩
  have j2 := j.mid hG1 hz e1 (h2.imp id Or.inl)
  obtain ⟨⟨hs2, -, -, -⟩, -, hM2, -, hcs2, ⟨hq2, hsum2⟩, -⟩ := id j2
  obtain ⟨⟨m0, -⟩, -⟩ := id hM2
  unfold r_m12 at m0
  refine am_ctI ?_
  refine am_istore 859 dL_law_859 (by decide) ?_
  refine am_aload_n 861 dL_law_861 rfl ?_
  refine am_aload_n 862 dL_law_862 rfl ?_
  refine am_iload 863 dL_law_863 rfl ?_
  refine am_iconst 865 (v := 1) dL_law_865 (by decide) ?_
  refine am_iadd 866 dL_law_866 ?_
  refine am_saload 867 dL_law_867 hs2 i1 ?_
  refine am_aload_n 868 dL_law_868 rfl ?_
  refine am_iload 869 dL_law_869 rfl ?_
  refine am_iconst 871 (v := 2) dL_law_871 (by decide) ?_
  refine am_iadd 872 dL_law_872 ?_
  refine am_saload 873 dL_law_873 hs2 i2 ?_
  refine am_V2 874 (mc' := 576) (ms' := (l_C s - 6)) (rc := R) (rs := S) dL_law_874 lL_147 ⟨by decide, by decide⟩ m0 (Nat.le_of_ble_eq_true rfl) (Nat.le_of_ble_eq_true rfl) (s_rkeepB hM2 (fun D hD => l_smallT hq2 (by omega) hD) (fun hex D hD => by have := l_keep (s := s) hq2 hsum2 (hcs2 hex) (by omega) hD; omega)) ?_
  rintro o n3 f3 ⟨hn3, th3, v3, rfl, ⟨x3, rfl⟩, hM3, go3⟩
  refine am_ctI ?_
  refine am_istore 877 dL_law_877 (by decide) ?_
  refine am_goto 879 (tgt := 896) dL_law_879 rfl ?_
  exact hE _ _ _ _ _ (j2.fin hn3 hM3 go3)
set_option maxHeartbeats 2000000 in
theorem l_calmIn (j0 : l_J xs N c s n f) (hc5 : 5 * c + 5 ≤ N) (hN : N ≤ 2560) (hE : l_E xs N c s R S P) : AW mL_law (640 + R) (l_C s + S) 829 [some (.ref 0), some (.ref 2), some (.ref 48), some (.ref 53), some (.ref 54), some (.int (nI (5 * c))), z6, z7, z8] [] n f P := by
  obtain ⟨z, T, κ, sz, th, li, cs, A, C, fr, k, hc, wp, G, j⟩ := j0
  obtain ⟨⟨hs, hn, hT, hsc, hX⟩, hG, hM, hk, hcs, ⟨hq, hsum⟩, ⟨g, ho⟩, gd, hod⟩ := id j
  have h0 := hG.1
  have lo := l_C_lo (s := s)
  have i1 : vp_in (nI (5 * c) + 1) N := l_in (i := 1) rfl (by decide) hc5 hN
  have i2 : vp_in (nI (5 * c) + 2) N := l_in (i := 2) rfl (by decide) hc5 hN
  have i3 : vp_in (nI (5 * c) + 3) N := l_in (i := 3) rfl (by decide) hc5 hN
  have i4 : vp_in (nI (5 * c) + 4) N := l_in (i := 4) rfl (by decide) hc5 hN
  refine AW.more (rc := 0 + ((366 + 1 + 1) + R)) (rs := 0 + ((14884 + 48 + 48) + S)) (by omega) (by omega) ?_
  refine am_aload_n 829 dL_law_829 rfl ?_
  refine am_V0 830 (mc' := 0) (ms' := 0) (rc := (366 + 1 + 1) + R) (rs := (14884 + 48 + 48) + S) dL_law_830 lL_141 ⟨by decide, by decide⟩ h0 (Nat.le_of_ble_eq_true rfl) (Nat.le_of_ble_eq_true rfl) (s_calmIn hG) ?_
  rintro o n1 f1 ⟨rfl, rfl, hG1, e1⟩
  have j2 := j.mid hG1 rfl e1 (Or.inl rfl)
  obtain ⟨⟨hs2, -, -, -⟩, -, hM2, -, hcs2, ⟨hq2, hsum2⟩, -⟩ := id j2
  obtain ⟨⟨m0, -⟩, -⟩ := id hM2
  unfold r_m12 at m0
  refine am_ctI ?_
  refine am_pop 833 dL_law_833 rfl ?_
  refine am_aload_n 834 dL_law_834 rfl ?_
  refine am_V0 835 (mc' := (366 + 1 + 1)) (ms' := (14884 + 48 + 48)) (rc := R) (rs := S) dL_law_835 lL_144 ⟨by decide, by decide⟩ m0 (Nat.le_of_ble_eq_true rfl) (Nat.le_of_ble_eq_true rfl) (s_rcalmIn hM2) ?_
  rintro o n3 f3 ⟨hn3, th3, v3, rfl, ⟨x3, rfl⟩, hM3, go3⟩
  refine am_ctI ?_
  refine am_pop 838 dL_law_838 rfl ?_
  refine am_goto 839 (tgt := 896) dL_law_839 rfl ?_
  exact hE _ _ _ _ _ (j2.fin hn3 hM3 go3)
set_option maxHeartbeats 2000000 in
theorem l_digest (j0 : l_J xs N c s n f) (hc5 : 5 * c + 5 ≤ N) (hN : N ≤ 2560) (hE : l_E xs N c s R S P) : AW mL_law (640 + R) (l_C s + S) 882 [some (.ref 0), some (.ref 2), some (.ref 48), some (.ref 53), some (.ref 54), some (.int (nI (5 * c))), z6, z7, z8] [] n f P := by
  obtain ⟨z, T, κ, sz, th, li, cs, A, C, fr, k, hc, wp, G, j⟩ := j0
  obtain ⟨⟨hs, hn, hT, hsc, hX⟩, hG, hM, hk, hcs, ⟨hq, hsum⟩, ⟨g, ho⟩, gd, hod⟩ := id j
  have h0 := hG.1
  have lo := l_C_lo (s := s)
  have i1 : vp_in (nI (5 * c) + 1) N := l_in (i := 1) rfl (by decide) hc5 hN
  have i2 : vp_in (nI (5 * c) + 2) N := l_in (i := 2) rfl (by decide) hc5 hN
  have i3 : vp_in (nI (5 * c) + 3) N := l_in (i := 3) rfl (by decide) hc5 hN
  have i4 : vp_in (nI (5 * c) + 4) N := l_in (i := 4) rfl (by decide) hc5 hN
  refine AW.more (rc := 0 + ((7 + (55 + (366 + 1 + 1))) + R)) (rs := 0 + ((292 + (390 + (14884 + 48 + 48))) + S)) (by omega) (by omega) ?_
  have hdg := l_dig hX
  refine am_aload_n 882 dL_law_882 rfl ?_
  refine am_V0 883 (mc' := 0) (ms' := 0) (rc := (7 + (55 + (366 + 1 + 1))) + R) (rs := (292 + (390 + (14884 + 48 + 48))) + S) dL_law_883 lL_148 ⟨by decide, by decide⟩ h0 (Nat.le_of_ble_eq_true rfl) (Nat.le_of_ble_eq_true rfl) (s_digest hG) ?_
  rintro o n1 f1 ⟨rfl, rfl, hG1, e1⟩
  have j2 := j.mid hG1 rfl e1 (Or.inl rfl)
  obtain ⟨⟨hs2, -, -, -⟩, -, hM2, -, hcs2, ⟨hq2, hsum2⟩, -⟩ := id j2
  obtain ⟨⟨m0, -⟩, -⟩ := id hM2
  unfold r_m12 at m0
  refine am_ctI ?_
  refine am_aload_n 886 dL_law_886 rfl ?_
  refine am_V0 887 (mc' := (7 + (55 + (366 + 1 + 1)))) (ms' := (292 + (390 + (14884 + 48 + 48)))) (rc := R) (rs := S) dL_law_887 lL_152 ⟨by decide, by decide⟩ m0 (Nat.le_of_ble_eq_true rfl) (Nat.le_of_ble_eq_true rfl) (s_Xdigest hX.2.2 (hX.I hG) (l_b hq (by omega)) hM2 (l_small hq2 (by omega))) ?_
  rintro o n3 f3 ⟨hn3, th3, v3, rfl, ⟨rfl, rfl⟩, hM3, go3⟩
  refine am_ctI ?_
  refine am_lcmp 890 dL_law_890 ?_
  refine am_if_eq 891 896 dL_law_891 rfl (fun c891 => ?_) (fun c891 => absurd (l_lg hdg) c891)
  exact hE _ _ _ _ _ (j2.fin hn3 hM3 go3)
set_option maxHeartbeats 2000000 in
theorem l_frame (j0 : l_J xs N c s n f) (hc5 : 5 * c + 5 ≤ N) (hN : N ≤ 2560) (hE : l_E xs N c s R S P) (hE1 : l_E xs N c (s + 1) R S1 P) (hS : S1 + 482 ≤ l_C s + S) : AW mL_law (640 + R) (l_C s + S) 384 [some (.ref 0), some (.ref 2), some (.ref 48), some (.ref 53), some (.ref 54), some (.int (nI (5 * c))), z6, z7, z8] [] n f P := by
  obtain ⟨z, T, κ, sz, th, li, cs, A, C, fr, k, hc, wp, G, j⟩ := j0
  obtain ⟨⟨hs, hn, hT, hsc, hX⟩, hG, hM, hk, hcs, ⟨hq, hsum⟩, ⟨g, ho⟩, gd, hod⟩ := id j
  have h0 := hG.1
  have lo := l_C_lo (s := s)
  have i1 : vp_in (nI (5 * c) + 1) N := l_in (i := 1) rfl (by decide) hc5 hN
  have i2 : vp_in (nI (5 * c) + 2) N := l_in (i := 2) rfl (by decide) hc5 hN
  have i3 : vp_in (nI (5 * c) + 3) N := l_in (i := 3) rfl (by decide) hc5 hN
  have i4 : vp_in (nI (5 * c) + 4) N := l_in (i := 4) rfl (by decide) hc5 hN
  refine AW.more (rc := 0 + ((7 + (4 + (10 + 1) + 1)) + R)) (rs := 0 + (482 + S1)) (by omega) (by omega) ?_
  refine am_aload_n 384 dL_law_384 rfl ?_
  refine am_V0 385 (mc' := 0) (ms' := 0) (rc := (7 + (4 + (10 + 1) + 1)) + R) (rs := 482 + S1) dL_law_385 lL_100 ⟨by decide, by decide⟩ h0 (Nat.le_of_ble_eq_true rfl) (Nat.le_of_ble_eq_true rfl) (s_frameY hG (by omega)) ?_
  rintro o n1 f1 ⟨rfl, ⟨v, rfl⟩, ⟨z1, hG1, eh, ew, eb, ed, el, eto, eA, eZ⟩, e1⟩
  obtain ⟨hs2, hG2, hM2, ho2, hod2⟩ := j.cls hG1 e1 (Or.inl rfl)
  obtain ⟨⟨m0, -⟩, -⟩ := id hM2
  unfold r_m12 at m0
  refine am_ctI ?_
  refine am_pop 388 dL_law_388 rfl ?_
  refine am_aload_n 389 dL_law_389 rfl ?_
  refine am_V0 390 (mc' := (7 + (4 + (10 + 1) + 1))) (ms' := 482) (rc := R) (rs := S1) dL_law_390 lL_104 ⟨by decide, by decide⟩ m0 (Nat.le_of_ble_eq_true rfl) (Nat.le_of_ble_eq_true rfl) (s_rframeB hM2 (l_small hq (by omega)) hG.2.2.2.2.2.2.2.1 hG.2.2.2.2.2.2.2.2.1 hX.2.2 (hX.I hG)) ?_
  rintro o n3 f3 ⟨⟨v3, rfl⟩, hn3, κ3, cs3, G3, hM3, go3, hr3⟩
  refine am_ctI ?_
  refine am_pop 393 dL_law_393 rfl ?_
  refine am_goto 394 (tgt := 896) dL_law_394 rfl ?_
  refine hE1 _ _ _ _ _ (l_next (z1 := z1) hs2 hn hG2 hM2 hk ho2 hod2 hn3 (by rw [eh, ew, eb, ed]; exact hM3) go3 (by omega) (fun _ => Nat.succ_le_succ (Nat.zero_le fr)) (by rw [eh, ew, eb]; exact q_Sh_frame hq (by omega)) ?_ (by omega) (hX.fr el eto eA eZ hr3))
  rw [List.length_append, List.length_nil]
  omega
set_option maxHeartbeats 2000000 in
theorem l_wipe (j0 : l_J xs N c s n f) (hc5 : 5 * c + 5 ≤ N) (hN : N ≤ 2560) (hE : l_E xs N c s R S P) (hE1 : l_E xs N c (s + 1) R S1 P) (hS : S1 + 482 ≤ l_C s + S) : AW mL_law (640 + R) (l_C s + S) 397 [some (.ref 0), some (.ref 2), some (.ref 48), some (.ref 53), some (.ref 54), some (.int (nI (5 * c))), z6, z7, z8] [] n f P := by
  obtain ⟨z, T, κ, sz, th, li, cs, A, C, fr, k, hc, wp, G, j⟩ := j0
  obtain ⟨⟨hs, hn, hT, hsc, hX⟩, hG, hM, hk, hcs, ⟨hq, hsum⟩, ⟨g, ho⟩, gd, hod⟩ := id j
  have h0 := hG.1
  have lo := l_C_lo (s := s)
  have i1 : vp_in (nI (5 * c) + 1) N := l_in (i := 1) rfl (by decide) hc5 hN
  have i2 : vp_in (nI (5 * c) + 2) N := l_in (i := 2) rfl (by decide) hc5 hN
  have i3 : vp_in (nI (5 * c) + 3) N := l_in (i := 3) rfl (by decide) hc5 hN
  have i4 : vp_in (nI (5 * c) + 4) N := l_in (i := 4) rfl (by decide) hc5 hN
  refine AW.more (rc := 0 + (0 + R)) (rs := 0 + (0 + S1)) (by omega) (by omega) ?_
  refine am_aload_n 397 dL_law_397 rfl ?_
  refine am_V0 398 (mc' := 0) (ms' := 0) (rc := 0 + R) (rs := 0 + S1) dL_law_398 lL_105 ⟨by decide, by decide⟩ h0 (Nat.le_of_ble_eq_true rfl) (Nat.le_of_ble_eq_true rfl) (s_wipeY hG (by omega)) ?_
  rintro o n1 f1 ⟨W, hW, rfl, rfl, hG1, e1⟩
  obtain ⟨hs2, hG2, hM2, ho2, hod2⟩ := j.cls hG1 e1 (Or.inl rfl)
  replace hW := And.intro hW trivial
  obtain ⟨⟨m0, -⟩, -⟩ := id hM2
  unfold r_m12 at m0
  refine am_ctI ?_
  refine am_pop 401 dL_law_401 rfl ?_
  refine am_aload_n 402 dL_law_402 rfl ?_
  refine am_V0 403 (mc' := 0) (ms' := 0) (rc := R) (rs := S1) dL_law_403 lL_108 ⟨by decide, by decide⟩ m0 (Nat.le_of_ble_eq_true rfl) (Nat.le_of_ble_eq_true rfl) (s_rwipe hM2 hX.2.2 (hX.I hG)) ?_
  rintro o n3 f3 ⟨⟨v3, rfl⟩, rfl, cs3, G3, hcs3, hM3, go3, hr3⟩
  rw [hW.1] at hr3
  refine am_ctI ?_
  refine am_pop 406 dL_law_406 rfl ?_
  refine am_goto 407 (tgt := 896) dL_law_407 rfl ?_
  refine hE1 _ _ _ _ _ (l_next hs2 hn hG2 hM2 hk ho2 hod2 (Nat.le_refl _) hM3 go3 (by omega) (fun ⟨i, hi, hne⟩ => absurd (hcs3 i hi) hne) (q_Sh_wipe hq) ?_ (by omega) (hX.wip hW.1 hr3))
  rw [List.length_append, List.length_nil]
  omega
set_option maxHeartbeats 2000000 in
theorem l_dial (j0 : l_J xs N c s n f) (hc5 : 5 * c + 5 ≤ N) (hN : N ≤ 2560) (hE : l_E xs N c s R S P) : AW mL_law (640 + R) (l_C s + S) 208 [some (.ref 0), some (.ref 2), some (.ref 48), some (.ref 53), some (.ref 54), some (.int (nI (5 * c))), z6, z7, z8] [] n f P := by
  obtain ⟨z, T, κ, sz, th, li, cs, A, C, fr, k, hc, wp, G, j⟩ := j0
  obtain ⟨⟨hs, hn, hT, hsc, hX⟩, hG, hM, hk, hcs, ⟨hq, hsum⟩, ⟨g, ho⟩, gd, hod⟩ := id j
  have h0 := hG.1
  have lo := l_C_lo (s := s)
  have i1 : vp_in (nI (5 * c) + 1) N := l_in (i := 1) rfl (by decide) hc5 hN
  have i2 : vp_in (nI (5 * c) + 2) N := l_in (i := 2) rfl (by decide) hc5 hN
  have i3 : vp_in (nI (5 * c) + 3) N := l_in (i := 3) rfl (by decide) hc5 hN
  have i4 : vp_in (nI (5 * c) + 4) N := l_in (i := 4) rfl (by decide) hc5 hN
  by_cases hd : 1 ≤ (xs (nI (5 * c) + 1).toNatClampNeg) ∧ (xs (nI (5 * c) + 1).toNatClampNeg) ≤ 4
  · obtain ⟨a, ha, ea⟩ := m_small_le 4 rfl (by decide) (Int32.le_trans (by decide) hd.1) hd.2
    have hd2 := hd
    rw [ea] at hd2
    have ha1 : 1 ≤ a := l_ge1 (v := 0) hd2.1 (by omega)
    have hcl := s_dial (n := n) hG ha1 ha
    rw [← ea] at hcl
    refine AW.more (rc := 0 + (0 + R)) (rs := 0 + (0 + S)) (by omega) (by omega) ?_
    refine am_aload_n 208 dL_law_208 rfl ?_
    refine am_aload_n 209 dL_law_209 rfl ?_
    refine am_iload 210 dL_law_210 rfl ?_
    refine am_iconst 212 (v := 1) dL_law_212 (by decide) ?_
    refine am_iadd 213 dL_law_213 ?_
    refine am_saload 214 dL_law_214 hs i1 ?_
    refine am_aload_n 215 dL_law_215 rfl ?_
    refine am_SW3 216 (mc' := 0) (ms' := 0) (rc := 0 + R) (rs := 0 + S) dL_law_216 lL_82 ⟨by decide, by decide⟩ (Nat.le_of_ble_eq_true rfl) (Nat.le_of_ble_eq_true rfl) (s_Udial h0 hcl (fun _ _ _ h => l_a53 (V := c_v0) ho (by decide) (Or.inl ⟨_, rfl⟩) h)) ?_
    rintro o n1 f2 ⟨rfl, ⟨v6, rfl⟩, o1, f1, ⟨-, -, hG1, e1⟩, h2⟩
    obtain ⟨hs2, hG2, hM2, ho2, hod2⟩ := j.cls hG1 e1 (h2.imp id Or.inl)
    obtain ⟨⟨m0, -⟩, -⟩ := id hM2
    unfold r_m12 at m0
    refine am_ctI ?_
    refine am_istore 219 dL_law_219 (by decide) ?_
    refine am_aload_n 221 dL_law_221 rfl ?_
    refine am_aload_n 222 dL_law_222 rfl ?_
    refine am_iload 223 dL_law_223 rfl ?_
    refine am_iconst 225 (v := 1) dL_law_225 (by decide) ?_
    refine am_iadd 226 dL_law_226 ?_
    refine am_saload 227 dL_law_227 hs2 i1 ?_
    refine am_V1 228 (mc' := 0) (ms' := 0) (rc := R) (rs := S) dL_law_228 lL_85 ⟨by decide, by decide⟩ m0 (Nat.le_of_ble_eq_true rfl) (Nat.le_of_ble_eq_true rfl) (s_rdial_t hM2 hd) ?_
    rintro o n3 f3 ⟨hn3, th3, v3, rfl, ⟨-, rfl⟩, hM3, go3⟩
    refine am_ctI ?_
    refine am_istore 231 dL_law_231 (by decide) ?_
    refine am_goto 233 (tgt := 896) dL_law_233 rfl ?_
    exact hE _ _ _ _ _ (l_next (z1 := (z.1, z.2.1, z.2.2.1, z.2.2.2.1, (a, z.2.2.2.2.2))) hs2 hn hG2 hM2 hk ho2 hod2 hn3 (by show r_M 48 _ _ _ _ _ _ (z_h z) (nI a) _ _ (z_w z) (z_b z); rw [← ea]; exact hM3) go3 (by omega) hcs hq.up hsum (by omega) hX)
  · refine AW.more (rc := 1 + (0 + R)) (rs := 6 + (0 + S)) (by omega) (by omega) ?_
    refine am_aload_n 208 dL_law_208 rfl ?_
    refine am_aload_n 209 dL_law_209 rfl ?_
    refine am_iload 210 dL_law_210 rfl ?_
    refine am_iconst 212 (v := 1) dL_law_212 (by decide) ?_
    refine am_iadd 213 dL_law_213 ?_
    refine am_saload 214 dL_law_214 hs i1 ?_
    refine am_aload_n 215 dL_law_215 rfl ?_
    refine am_SW3 216 (mc' := 1) (ms' := 6) (rc := 0 + R) (rs := 0 + S) dL_law_216 lL_82 ⟨by decide, by decide⟩ (Nat.le_of_ble_eq_true rfl) (Nat.le_of_ble_eq_true rfl) (s_Udial h0 (c_th (V := c_v0) hG (Or.inr rfl) (s_tDial hG hd)) (fun _ _ _ h => l_c53 ho (by decide) h)) ?_
    rintro o n1 f2 ⟨rfl, ⟨v6, rfl⟩, o1, f1, ⟨-, -, ⟨z1, hG1, hz⟩, e1⟩, h2⟩
    have j2 := j.mid hG1 hz e1 (h2.imp id Or.inl)
    obtain ⟨⟨hs2, -, -, -⟩, -, hM2, -, hcs2, ⟨hq2, hsum2⟩, -⟩ := id j2
    obtain ⟨⟨m0, -⟩, -⟩ := id hM2
    unfold r_m12 at m0
    refine am_ctI ?_
    refine am_istore 219 dL_law_219 (by decide) ?_
    refine am_aload_n 221 dL_law_221 rfl ?_
    refine am_aload_n 222 dL_law_222 rfl ?_
    refine am_iload 223 dL_law_223 rfl ?_
    refine am_iconst 225 (v := 1) dL_law_225 (by decide) ?_
    refine am_iadd 226 dL_law_226 ?_
    refine am_saload 227 dL_law_227 hs2 i1 ?_
    refine am_V1 228 (mc' := 0) (ms' := 0) (rc := R) (rs := S) dL_law_228 lL_85 ⟨by decide, by decide⟩ m0 (Nat.le_of_ble_eq_true rfl) (Nat.le_of_ble_eq_true rfl) (s_rdial_f hM2 hd) ?_
    rintro o n3 f3 ⟨hn3, th3, v3, rfl, ⟨-, rfl⟩, hM3, go3⟩
    refine am_ctI ?_
    refine am_istore 231 dL_law_231 (by decide) ?_
    refine am_goto 233 (tgt := 896) dL_law_233 rfl ?_
    exact hE _ _ _ _ _ (j2.fin hn3 hM3 go3)
set_option maxHeartbeats 2000000 in
theorem l_limit (j0 : l_J xs N c s n f) (hc5 : 5 * c + 5 ≤ N) (hN : N ≤ 2560) (hE : l_E xs N c s R S P) : AW mL_law (640 + R) (l_C s + S) 236 [some (.ref 0), some (.ref 2), some (.ref 48), some (.ref 53), some (.ref 54), some (.int (nI (5 * c))), z6, z7, z8] [] n f P := by
  obtain ⟨z, T, κ, sz, th, li, cs, A, C, fr, k, hc, wp, G, j⟩ := j0
  obtain ⟨⟨hs, hn, hT, hsc, hX⟩, hG, hM, hk, hcs, ⟨hq, hsum⟩, ⟨g, ho⟩, gd, hod⟩ := id j
  have h0 := hG.1
  have lo := l_C_lo (s := s)
  have i1 : vp_in (nI (5 * c) + 1) N := l_in (i := 1) rfl (by decide) hc5 hN
  have i2 : vp_in (nI (5 * c) + 2) N := l_in (i := 2) rfl (by decide) hc5 hN
  have i3 : vp_in (nI (5 * c) + 3) N := l_in (i := 3) rfl (by decide) hc5 hN
  have i4 : vp_in (nI (5 * c) + 4) N := l_in (i := 4) rfl (by decide) hc5 hN
  by_cases hd : 1 ≤ (xs (nI (5 * c) + 1).toNatClampNeg) ∧ (xs (nI (5 * c) + 1).toNatClampNeg) ≤ 30
  · obtain ⟨a, ha, ea⟩ := m_small_le 30 rfl (by decide) (Int32.le_trans (by decide) hd.1) hd.2
    have hd2 := hd
    rw [ea] at hd2
    have ha1 : 1 ≤ a := l_ge1 (v := 0) hd2.1 (by omega)
    have hcl := s_limit (n := n) hG ha1 ha
    rw [← ea] at hcl
    refine AW.more (rc := 0 + (0 + R)) (rs := 0 + (0 + S)) (by omega) (by omega) ?_
    refine am_aload_n 236 dL_law_236 rfl ?_
    refine am_aload_n 237 dL_law_237 rfl ?_
    refine am_iload 238 dL_law_238 rfl ?_
    refine am_iconst 240 (v := 1) dL_law_240 (by decide) ?_
    refine am_iadd 241 dL_law_241 ?_
    refine am_saload 242 dL_law_242 hs i1 ?_
    refine am_aload_n 243 dL_law_243 rfl ?_
    refine am_SW3 244 (mc' := 0) (ms' := 0) (rc := 0 + R) (rs := 0 + S) dL_law_244 lL_86 ⟨by decide, by decide⟩ (Nat.le_of_ble_eq_true rfl) (Nat.le_of_ble_eq_true rfl) (s_Ulimit h0 hcl (fun _ _ _ h => l_a53 (V := c_v0) ho (by decide) (Or.inl ⟨_, rfl⟩) h)) ?_
    rintro o n1 f2 ⟨rfl, ⟨v6, rfl⟩, o1, f1, ⟨-, -, hG1, e1⟩, h2⟩
    obtain ⟨hs2, hG2, hM2, ho2, hod2⟩ := j.cls hG1 e1 (h2.imp id Or.inl)
    obtain ⟨⟨m0, -⟩, -⟩ := id hM2
    unfold r_m12 at m0
    refine am_ctI ?_
    refine am_istore 247 dL_law_247 (by decide) ?_
    refine am_aload_n 249 dL_law_249 rfl ?_
    refine am_aload_n 250 dL_law_250 rfl ?_
    refine am_iload 251 dL_law_251 rfl ?_
    refine am_iconst 253 (v := 1) dL_law_253 (by decide) ?_
    refine am_iadd 254 dL_law_254 ?_
    refine am_saload 255 dL_law_255 hs2 i1 ?_
    refine am_V1 256 (mc' := 0) (ms' := 0) (rc := R) (rs := S) dL_law_256 lL_88 ⟨by decide, by decide⟩ m0 (Nat.le_of_ble_eq_true rfl) (Nat.le_of_ble_eq_true rfl) (s_rlimit_t hM2 hd) ?_
    rintro o n3 f3 ⟨hn3, th3, v3, rfl, ⟨-, rfl⟩, hM3, go3⟩
    refine am_ctI ?_
    refine am_istore 259 dL_law_259 (by decide) ?_
    refine am_goto 261 (tgt := 896) dL_law_261 rfl ?_
    exact hE _ _ _ _ _ (l_next (z1 := (z.1, z.2.1, z.2.2.1, z.2.2.2.1, (z_d z, (xs (nI (5 * c) + 1).toNatClampNeg), z.2.2.2.2.2.2))) hs2 hn hG2 hM2 hk ho2 hod2 hn3 hM3 go3 (by omega) hcs hq.up hsum (by omega) ⟨rfl, hX.2⟩)
  · refine AW.more (rc := 1 + (0 + R)) (rs := 6 + (0 + S)) (by omega) (by omega) ?_
    refine am_aload_n 236 dL_law_236 rfl ?_
    refine am_aload_n 237 dL_law_237 rfl ?_
    refine am_iload 238 dL_law_238 rfl ?_
    refine am_iconst 240 (v := 1) dL_law_240 (by decide) ?_
    refine am_iadd 241 dL_law_241 ?_
    refine am_saload 242 dL_law_242 hs i1 ?_
    refine am_aload_n 243 dL_law_243 rfl ?_
    refine am_SW3 244 (mc' := 1) (ms' := 6) (rc := 0 + R) (rs := 0 + S) dL_law_244 lL_86 ⟨by decide, by decide⟩ (Nat.le_of_ble_eq_true rfl) (Nat.le_of_ble_eq_true rfl) (s_Ulimit h0 (c_th (V := c_v0) hG (Or.inr rfl) (s_tLimit hG hd)) (fun _ _ _ h => l_c53 ho (by decide) h)) ?_
    rintro o n1 f2 ⟨rfl, ⟨v6, rfl⟩, o1, f1, ⟨-, -, ⟨z1, hG1, hz⟩, e1⟩, h2⟩
    have j2 := j.mid hG1 hz e1 (h2.imp id Or.inl)
    obtain ⟨⟨hs2, -, -, -⟩, -, hM2, -, hcs2, ⟨hq2, hsum2⟩, -⟩ := id j2
    obtain ⟨⟨m0, -⟩, -⟩ := id hM2
    unfold r_m12 at m0
    refine am_ctI ?_
    refine am_istore 247 dL_law_247 (by decide) ?_
    refine am_aload_n 249 dL_law_249 rfl ?_
    refine am_aload_n 250 dL_law_250 rfl ?_
    refine am_iload 251 dL_law_251 rfl ?_
    refine am_iconst 253 (v := 1) dL_law_253 (by decide) ?_
    refine am_iadd 254 dL_law_254 ?_
    refine am_saload 255 dL_law_255 hs2 i1 ?_
    refine am_V1 256 (mc' := 0) (ms' := 0) (rc := R) (rs := S) dL_law_256 lL_88 ⟨by decide, by decide⟩ m0 (Nat.le_of_ble_eq_true rfl) (Nat.le_of_ble_eq_true rfl) (s_rlimit_f hM2 hd) ?_
    rintro o n3 f3 ⟨hn3, th3, v3, rfl, ⟨-, rfl⟩, hM3, go3⟩
    refine am_ctI ?_
    refine am_istore 259 dL_law_259 (by decide) ?_
    refine am_goto 261 (tgt := 896) dL_law_261 rfl ?_
    exact hE _ _ _ _ _ (j2.fin hn3 hM3 go3)
set_option maxHeartbeats 2000000 in
theorem l_heat (j0 : l_J xs N c s n f) (hc5 : 5 * c + 5 ≤ N) (hN : N ≤ 2560) (hE : l_E xs N c s R S P) (hE1 : l_E xs N c (s + 1) R S1 P) (hS : S1 + 482 ≤ l_C s + S) : AW mL_law (640 + R) (l_C s + S) 264 [some (.ref 0), some (.ref 2), some (.ref 48), some (.ref 53), some (.ref 54), some (.int (nI (5 * c))), z6, z7, z8] [] n f P := by
  obtain ⟨z, T, κ, sz, th, li, cs, A, C, fr, k, hc, wp, G, j⟩ := j0
  obtain ⟨⟨hs, hn, hT, hsc, hX⟩, hG, hM, hk, hcs, ⟨hq, hsum⟩, ⟨g, ho⟩, gd, hod⟩ := id j
  have h0 := hG.1
  have lo := l_C_lo (s := s)
  have i1 : vp_in (nI (5 * c) + 1) N := l_in (i := 1) rfl (by decide) hc5 hN
  have i2 : vp_in (nI (5 * c) + 2) N := l_in (i := 2) rfl (by decide) hc5 hN
  have i3 : vp_in (nI (5 * c) + 3) N := l_in (i := 3) rfl (by decide) hc5 hN
  have i4 : vp_in (nI (5 * c) + 4) N := l_in (i := 4) rfl (by decide) hc5 hN
  by_cases hd : -30 ≤ (xs (nI (5 * c) + 1).toNatClampNeg) ∧ (xs (nI (5 * c) + 1).toNatClampNeg) ≤ 30
  · have hd1 := Int32.le_iff_toInt_le.mp hd.1
    have hd2 := Int32.le_iff_toInt_le.mp hd.2
    rw [show (-30 : Int32).toInt = -30 from rfl] at hd1
    rw [show (30 : Int32).toInt = 30 from rfl] at hd2
    refine AW.more (rc := 0 + (0 + R)) (rs := 0 + (0 + S1)) (by omega) (by omega) ?_
    refine am_aload_n 264 dL_law_264 rfl ?_
    refine am_aload_n 265 dL_law_265 rfl ?_
    refine am_iload 266 dL_law_266 rfl ?_
    refine am_iconst 268 (v := 1) dL_law_268 (by decide) ?_
    refine am_iadd 269 dL_law_269 ?_
    refine am_saload 270 dL_law_270 hs i1 ?_
    refine am_aload_n 271 dL_law_271 rfl ?_
    refine am_SW3 272 (mc' := 0) (ms' := 0) (rc := 0 + R) (rs := 0 + S1) dL_law_272 lL_89 ⟨by decide, by decide⟩ (Nat.le_of_ble_eq_true rfl) (Nat.le_of_ble_eq_true rfl) (s_Uheat h0 (s_heat hG hd.1 hd.2) (fun _ _ _ h => l_a53 (V := c_v0) ho (by decide) (Or.inl ⟨_, rfl⟩) h)) ?_
    rintro o n1 f2 ⟨rfl, ⟨v6, rfl⟩, o1, f1, ⟨-, -, hG1, e1⟩, h2⟩
    obtain ⟨hs2, hG2, hM2, ho2, hod2⟩ := j.cls hG1 e1 (h2.imp id Or.inl)
    obtain ⟨⟨m0, -⟩, -⟩ := id hM2
    unfold r_m12 at m0
    refine am_ctI ?_
    refine am_istore 275 dL_law_275 (by decide) ?_
    refine am_aload_n 277 dL_law_277 rfl ?_
    refine am_aload_n 278 dL_law_278 rfl ?_
    refine am_iload 279 dL_law_279 rfl ?_
    refine am_iconst 281 (v := 1) dL_law_281 (by decide) ?_
    refine am_iadd 282 dL_law_282 ?_
    refine am_saload 283 dL_law_283 hs2 i1 ?_
    refine am_V1 284 (mc' := 0) (ms' := 0) (rc := R) (rs := S1) dL_law_284 lL_91 ⟨by decide, by decide⟩ m0 (Nat.le_of_ble_eq_true rfl) (Nat.le_of_ble_eq_true rfl) (s_rheat_t hM2 hd) ?_
    rintro o n3 f3 ⟨hn3, th3, v3, rfl, ⟨-, rfl⟩, hM3, go3⟩
    refine am_ctI ?_
    refine am_istore 287 dL_law_287 (by decide) ?_
    refine am_goto 289 (tgt := 896) dL_law_289 rfl ?_
    exact hE1 _ _ _ _ _ (l_next hs2 hn hG2 hM2 hk ho2 hod2 hn3 hM3 go3 (by omega) hcs (q_Sh_heat hq hd1 hd2) (by omega) (by omega) hX)
  · refine AW.more (rc := 1 + (0 + R)) (rs := 6 + (0 + S)) (by omega) (by omega) ?_
    refine am_aload_n 264 dL_law_264 rfl ?_
    refine am_aload_n 265 dL_law_265 rfl ?_
    refine am_iload 266 dL_law_266 rfl ?_
    refine am_iconst 268 (v := 1) dL_law_268 (by decide) ?_
    refine am_iadd 269 dL_law_269 ?_
    refine am_saload 270 dL_law_270 hs i1 ?_
    refine am_aload_n 271 dL_law_271 rfl ?_
    refine am_SW3 272 (mc' := 1) (ms' := 6) (rc := 0 + R) (rs := 0 + S) dL_law_272 lL_89 ⟨by decide, by decide⟩ (Nat.le_of_ble_eq_true rfl) (Nat.le_of_ble_eq_true rfl) (s_Uheat h0 (c_th (V := c_v0) hG (Or.inr rfl) (s_tHeat hG hd)) (fun _ _ _ h => l_c53 ho (by decide) h)) ?_
    rintro o n1 f2 ⟨rfl, ⟨v6, rfl⟩, o1, f1, ⟨-, -, ⟨z1, hG1, hz⟩, e1⟩, h2⟩
    have j2 := j.mid hG1 hz e1 (h2.imp id Or.inl)
    obtain ⟨⟨hs2, -, -, -⟩, -, hM2, -, hcs2, ⟨hq2, hsum2⟩, -⟩ := id j2
    obtain ⟨⟨m0, -⟩, -⟩ := id hM2
    unfold r_m12 at m0
    refine am_ctI ?_
    refine am_istore 275 dL_law_275 (by decide) ?_
    refine am_aload_n 277 dL_law_277 rfl ?_
    refine am_aload_n 278 dL_law_278 rfl ?_
    refine am_iload 279 dL_law_279 rfl ?_
    refine am_iconst 281 (v := 1) dL_law_281 (by decide) ?_
    refine am_iadd 282 dL_law_282 ?_
    refine am_saload 283 dL_law_283 hs2 i1 ?_
    refine am_V1 284 (mc' := 0) (ms' := 0) (rc := R) (rs := S) dL_law_284 lL_91 ⟨by decide, by decide⟩ m0 (Nat.le_of_ble_eq_true rfl) (Nat.le_of_ble_eq_true rfl) (s_rheat_f hM2 hd) ?_
    rintro o n3 f3 ⟨hn3, th3, v3, rfl, ⟨-, rfl⟩, hM3, go3⟩
    refine am_ctI ?_
    refine am_istore 287 dL_law_287 (by decide) ?_
    refine am_goto 289 (tgt := 896) dL_law_289 rfl ?_
    exact hE _ _ _ _ _ (j2.fin hn3 hM3 go3)
set_option maxHeartbeats 2000000 in
theorem l_press (j0 : l_J xs N c s n f) (hc5 : 5 * c + 5 ≤ N) (hN : N ≤ 2560) (hE : l_E xs N c s R S P) (hE1 : l_E xs N c (s + 1) R S1 P) (hS : S1 + 482 ≤ l_C s + S) : AW mL_law (640 + R) (l_C s + S) 292 [some (.ref 0), some (.ref 2), some (.ref 48), some (.ref 53), some (.ref 54), some (.int (nI (5 * c))), z6, z7, z8] [] n f P := by
  obtain ⟨z, T, κ, sz, th, li, cs, A, C, fr, k, hc, wp, G, j⟩ := j0
  obtain ⟨⟨hs, hn, hT, hsc, hX⟩, hG, hM, hk, hcs, ⟨hq, hsum⟩, ⟨g, ho⟩, gd, hod⟩ := id j
  have h0 := hG.1
  have lo := l_C_lo (s := s)
  have i1 : vp_in (nI (5 * c) + 1) N := l_in (i := 1) rfl (by decide) hc5 hN
  have i2 : vp_in (nI (5 * c) + 2) N := l_in (i := 2) rfl (by decide) hc5 hN
  have i3 : vp_in (nI (5 * c) + 3) N := l_in (i := 3) rfl (by decide) hc5 hN
  have i4 : vp_in (nI (5 * c) + 4) N := l_in (i := 4) rfl (by decide) hc5 hN
  rcases r_glass (xs (nI (5 * c) + 1).toNatClampNeg) (xs (nI (5 * c) + 2).toNatClampNeg) with ⟨a, b, ha, hb, ea, eb⟩ | hx
  · by_cases hd : 1 ≤ (xs (nI (5 * c) + 3).toNatClampNeg) ∧ (xs (nI (5 * c) + 3).toNatClampNeg) ≤ 200
    · obtain ⟨d, hd2, ed⟩ := m_small_le 200 rfl (by decide) (Int32.le_trans (by decide) hd.1) hd.2
      have hd3 := hd
      rw [ed] at hd3
      have hd1 : 1 ≤ d := l_ge1 (v := 0) hd3.1 (by omega)
      have hcl := s_press (n := n) hG ha hb hd1 hd2
      rw [← ea, ← eb, ← ed] at hcl
      have hrf := fun (f2 : Nat → am_C) (n2 : Nat) (hM2 : r_M 48 n2 f2 κ sz G th (z_h z) (nI (z_d z)) li cs (z_w z) (z_b z)) => s_rpress_t hM2 ha hb hd
      rw [← ea, ← eb] at hrf
      refine AW.more (rc := 0 + (0 + R)) (rs := 0 + (0 + S1)) (by omega) (by omega) ?_
      refine am_aload_n 292 dL_law_292 rfl ?_
      refine am_aload_n 293 dL_law_293 rfl ?_
      refine am_iload 294 dL_law_294 rfl ?_
      refine am_iconst 296 (v := 1) dL_law_296 (by decide) ?_
      refine am_iadd 297 dL_law_297 ?_
      refine am_saload 298 dL_law_298 hs i1 ?_
      refine am_aload_n 299 dL_law_299 rfl ?_
      refine am_iload 300 dL_law_300 rfl ?_
      refine am_iconst 302 (v := 2) dL_law_302 (by decide) ?_
      refine am_iadd 303 dL_law_303 ?_
      refine am_saload 304 dL_law_304 hs i2 ?_
      refine am_aload_n 305 dL_law_305 rfl ?_
      refine am_iload 306 dL_law_306 rfl ?_
      refine am_iconst 308 (v := 3) dL_law_308 (by decide) ?_
      refine am_iadd 309 dL_law_309 ?_
      refine am_saload 310 dL_law_310 hs i3 ?_
      refine am_aload_n 311 dL_law_311 rfl ?_
      refine am_SW5 312 (mc' := 0) (ms' := 0) (rc := 0 + R) (rs := 0 + S1) dL_law_312 lL_92 ⟨by decide, by decide⟩ (Nat.le_of_ble_eq_true rfl) (Nat.le_of_ble_eq_true rfl) (s_Upress h0 hcl (fun _ _ _ h => l_a53 (V := c_v20) ho (by decide) (Or.inl ⟨_, rfl⟩) h)) ?_
      rintro o n1 f2 ⟨rfl, ⟨v6, rfl⟩, o1, f1, ⟨-, -, hG1, e1⟩, h2⟩
      obtain ⟨hs2, hG2, hM2, ho2, hod2⟩ := j.cls hG1 e1 (h2.imp id Or.inl)
      obtain ⟨⟨m0, -⟩, -⟩ := id hM2
      unfold r_m12 at m0
      refine am_ctI ?_
      refine am_istore 315 dL_law_315 (by decide) ?_
      refine am_aload_n 317 dL_law_317 rfl ?_
      refine am_aload_n 318 dL_law_318 rfl ?_
      refine am_iload 319 dL_law_319 rfl ?_
      refine am_iconst 321 (v := 1) dL_law_321 (by decide) ?_
      refine am_iadd 322 dL_law_322 ?_
      refine am_saload 323 dL_law_323 hs2 i1 ?_
      refine am_aload_n 324 dL_law_324 rfl ?_
      refine am_iload 325 dL_law_325 rfl ?_
      refine am_iconst 327 (v := 2) dL_law_327 (by decide) ?_
      refine am_iadd 328 dL_law_328 ?_
      refine am_saload 329 dL_law_329 hs2 i2 ?_
      refine am_aload_n 330 dL_law_330 rfl ?_
      refine am_iload 331 dL_law_331 rfl ?_
      refine am_iconst 333 (v := 3) dL_law_333 (by decide) ?_
      refine am_iadd 334 dL_law_334 ?_
      refine am_saload 335 dL_law_335 hs2 i3 ?_
      refine am_V3 336 (mc' := 0) (ms' := 0) (rc := R) (rs := S1) dL_law_336 lL_95 ⟨by decide, by decide⟩ m0 (Nat.le_of_ble_eq_true rfl) (Nat.le_of_ble_eq_true rfl) (hrf _ _ hM2) ?_
      rintro o n3 f3 ⟨hn3, th3, v3, rfl, ⟨-, rfl⟩, hM3, go3⟩
      refine am_ctI ?_
      refine am_istore 339 dL_law_339 (by decide) ?_
      refine am_goto 341 (tgt := 896) dL_law_341 rfl ?_
      exact hE1 _ _ _ _ _ (l_next hs2 hn hG2 hM2 hk ho2 hod2 hn3 hM3 go3 (by omega) hcs (by have := q_Sh_press hq (by omega) ha hb hd2; rw [← ed] at this; exact this) (by rw [List.length_cons]; omega) (by omega) hX)
    · have hcl := s_tPressS (n := n) hG ha hb hd
      rw [← ea, ← eb] at hcl
      have hrf := fun (f2 : Nat → am_C) (n2 : Nat) (z1 : m_Z) (hM2 : r_M 48 n2 f2 κ sz G th (z_h z1) (nI (z_d z1)) li cs (z_w z1) (z_b z1)) => s_rpress_g hM2 ha hb hd
      rw [← ea, ← eb] at hrf
      refine AW.more (rc := 1 + (0 + R)) (rs := 6 + (0 + S)) (by omega) (by omega) ?_
      refine am_aload_n 292 dL_law_292 rfl ?_
      refine am_aload_n 293 dL_law_293 rfl ?_
      refine am_iload 294 dL_law_294 rfl ?_
      refine am_iconst 296 (v := 1) dL_law_296 (by decide) ?_
      refine am_iadd 297 dL_law_297 ?_
      refine am_saload 298 dL_law_298 hs i1 ?_
      refine am_aload_n 299 dL_law_299 rfl ?_
      refine am_iload 300 dL_law_300 rfl ?_
      refine am_iconst 302 (v := 2) dL_law_302 (by decide) ?_
      refine am_iadd 303 dL_law_303 ?_
      refine am_saload 304 dL_law_304 hs i2 ?_
      refine am_aload_n 305 dL_law_305 rfl ?_
      refine am_iload 306 dL_law_306 rfl ?_
      refine am_iconst 308 (v := 3) dL_law_308 (by decide) ?_
      refine am_iadd 309 dL_law_309 ?_
      refine am_saload 310 dL_law_310 hs i3 ?_
      refine am_aload_n 311 dL_law_311 rfl ?_
      refine am_SW5 312 (mc' := 1) (ms' := 6) (rc := 0 + R) (rs := 0 + S) dL_law_312 lL_92 ⟨by decide, by decide⟩ (Nat.le_of_ble_eq_true rfl) (Nat.le_of_ble_eq_true rfl) (s_Upress h0 (c_th (V := c_v20) hG (Or.inr (Or.inr rfl)) (hcl)) (fun _ _ _ h => l_c53 ho (by decide) h)) ?_
      rintro o n1 f2 ⟨rfl, ⟨v6, rfl⟩, o1, f1, ⟨-, -, ⟨z1, hG1, hz⟩, e1⟩, h2⟩
      have j2 := j.mid hG1 hz e1 (h2.imp id Or.inl)
      obtain ⟨⟨hs2, -, -, -⟩, -, hM2, -, hcs2, ⟨hq2, hsum2⟩, -⟩ := id j2
      obtain ⟨⟨m0, -⟩, -⟩ := id hM2
      unfold r_m12 at m0
      refine am_ctI ?_
      refine am_istore 315 dL_law_315 (by decide) ?_
      refine am_aload_n 317 dL_law_317 rfl ?_
      refine am_aload_n 318 dL_law_318 rfl ?_
      refine am_iload 319 dL_law_319 rfl ?_
      refine am_iconst 321 (v := 1) dL_law_321 (by decide) ?_
      refine am_iadd 322 dL_law_322 ?_
      refine am_saload 323 dL_law_323 hs2 i1 ?_
      refine am_aload_n 324 dL_law_324 rfl ?_
      refine am_iload 325 dL_law_325 rfl ?_
      refine am_iconst 327 (v := 2) dL_law_327 (by decide) ?_
      refine am_iadd 328 dL_law_328 ?_
      refine am_saload 329 dL_law_329 hs2 i2 ?_
      refine am_aload_n 330 dL_law_330 rfl ?_
      refine am_iload 331 dL_law_331 rfl ?_
      refine am_iconst 333 (v := 3) dL_law_333 (by decide) ?_
      refine am_iadd 334 dL_law_334 ?_
      refine am_saload 335 dL_law_335 hs2 i3 ?_
      refine am_V3 336 (mc' := 0) (ms' := 0) (rc := R) (rs := S) dL_law_336 lL_95 ⟨by decide, by decide⟩ m0 (Nat.le_of_ble_eq_true rfl) (Nat.le_of_ble_eq_true rfl) (hrf _ _ _ hM2) ?_
      rintro o n3 f3 ⟨hn3, th3, v3, rfl, ⟨-, rfl⟩, hM3, go3⟩
      refine am_ctI ?_
      refine am_istore 339 dL_law_339 (by decide) ?_
      refine am_goto 341 (tgt := 896) dL_law_341 rfl ?_
      exact hE _ _ _ _ _ (j2.fin hn3 hM3 go3)
  · refine AW.more (rc := 1 + (0 + R)) (rs := 6 + (0 + S)) (by omega) (by omega) ?_
    refine am_aload_n 292 dL_law_292 rfl ?_
    refine am_aload_n 293 dL_law_293 rfl ?_
    refine am_iload 294 dL_law_294 rfl ?_
    refine am_iconst 296 (v := 1) dL_law_296 (by decide) ?_
    refine am_iadd 297 dL_law_297 ?_
    refine am_saload 298 dL_law_298 hs i1 ?_
    refine am_aload_n 299 dL_law_299 rfl ?_
    refine am_iload 300 dL_law_300 rfl ?_
    refine am_iconst 302 (v := 2) dL_law_302 (by decide) ?_
    refine am_iadd 303 dL_law_303 ?_
    refine am_saload 304 dL_law_304 hs i2 ?_
    refine am_aload_n 305 dL_law_305 rfl ?_
    refine am_iload 306 dL_law_306 rfl ?_
    refine am_iconst 308 (v := 3) dL_law_308 (by decide) ?_
    refine am_iadd 309 dL_law_309 ?_
    refine am_saload 310 dL_law_310 hs i3 ?_
    refine am_aload_n 311 dL_law_311 rfl ?_
    refine am_SW5 312 (mc' := 1) (ms' := 6) (rc := 0 + R) (rs := 0 + S) dL_law_312 lL_92 ⟨by decide, by decide⟩ (Nat.le_of_ble_eq_true rfl) (Nat.le_of_ble_eq_true rfl) (s_Upress h0 (c_th (V := c_v20) hG (Or.inr (Or.inl rfl)) (s_tPress hG hx)) (fun _ _ _ h => l_c53 ho (by decide) h)) ?_
    rintro o n1 f2 ⟨rfl, ⟨v6, rfl⟩, o1, f1, ⟨-, -, ⟨z1, hG1, hz⟩, e1⟩, h2⟩
    have j2 := j.mid hG1 hz e1 (h2.imp id Or.inl)
    obtain ⟨⟨hs2, -, -, -⟩, -, hM2, -, hcs2, ⟨hq2, hsum2⟩, -⟩ := id j2
    obtain ⟨⟨m0, -⟩, -⟩ := id hM2
    unfold r_m12 at m0
    refine am_ctI ?_
    refine am_istore 315 dL_law_315 (by decide) ?_
    refine am_aload_n 317 dL_law_317 rfl ?_
    refine am_aload_n 318 dL_law_318 rfl ?_
    refine am_iload 319 dL_law_319 rfl ?_
    refine am_iconst 321 (v := 1) dL_law_321 (by decide) ?_
    refine am_iadd 322 dL_law_322 ?_
    refine am_saload 323 dL_law_323 hs2 i1 ?_
    refine am_aload_n 324 dL_law_324 rfl ?_
    refine am_iload 325 dL_law_325 rfl ?_
    refine am_iconst 327 (v := 2) dL_law_327 (by decide) ?_
    refine am_iadd 328 dL_law_328 ?_
    refine am_saload 329 dL_law_329 hs2 i2 ?_
    refine am_aload_n 330 dL_law_330 rfl ?_
    refine am_iload 331 dL_law_331 rfl ?_
    refine am_iconst 333 (v := 3) dL_law_333 (by decide) ?_
    refine am_iadd 334 dL_law_334 ?_
    refine am_saload 335 dL_law_335 hs2 i3 ?_
    refine am_V3 336 (mc' := 0) (ms' := 0) (rc := R) (rs := S) dL_law_336 lL_95 ⟨by decide, by decide⟩ m0 (Nat.le_of_ble_eq_true rfl) (Nat.le_of_ble_eq_true rfl) (s_rpress_f hM2 hx) ?_
    rintro o n3 f3 ⟨hn3, th3, v3, rfl, ⟨-, rfl⟩, hM3, go3⟩
    refine am_ctI ?_
    refine am_istore 339 dL_law_339 (by decide) ?_
    refine am_goto 341 (tgt := 896) dL_law_341 rfl ?_
    exact hE _ _ _ _ _ (j2.fin hn3 hM3 go3)
set_option maxHeartbeats 2000000 in
theorem l_noise (j0 : l_J xs N c s n f) (hc5 : 5 * c + 5 ≤ N) (hN : N ≤ 2560) (hE : l_E xs N c s R S P) (hE1 : l_E xs N c (s + 1) R S1 P) (hS : S1 + 482 ≤ l_C s + S) : AW mL_law (640 + R) (l_C s + S) 344 [some (.ref 0), some (.ref 2), some (.ref 48), some (.ref 53), some (.ref 54), some (.int (nI (5 * c))), z6, z7, z8] [] n f P := by
  obtain ⟨z, T, κ, sz, th, li, cs, A, C, fr, k, hc, wp, G, j⟩ := j0
  obtain ⟨⟨hs, hn, hT, hsc, hX⟩, hG, hM, hk, hcs, ⟨hq, hsum⟩, ⟨g, ho⟩, gd, hod⟩ := id j
  have h0 := hG.1
  have lo := l_C_lo (s := s)
  have i1 : vp_in (nI (5 * c) + 1) N := l_in (i := 1) rfl (by decide) hc5 hN
  have i2 : vp_in (nI (5 * c) + 2) N := l_in (i := 2) rfl (by decide) hc5 hN
  have i3 : vp_in (nI (5 * c) + 3) N := l_in (i := 3) rfl (by decide) hc5 hN
  have i4 : vp_in (nI (5 * c) + 4) N := l_in (i := 4) rfl (by decide) hc5 hN
  rcases c_row (xs (nI (5 * c) + 1).toNatClampNeg) with ⟨a, ha, ea⟩ | hx
  · by_cases hd : -40 ≤ (xs (nI (5 * c) + 2).toNatClampNeg) ∧ (xs (nI (5 * c) + 2).toNatClampNeg) ≤ 40
    · have hd1 := Int32.le_iff_toInt_le.mp hd.1
      have hd2 := Int32.le_iff_toInt_le.mp hd.2
      rw [show (-40 : Int32).toInt = -40 from rfl] at hd1
      rw [show (40 : Int32).toInt = 40 from rfl] at hd2
      have hq1 : q_Sh (c + 1) A C fr (k + 1) hc wp (m_noise (z_w z) a (xs (nI (5 * c) + 2).toNatClampNeg)) (z_b z) (z_h z) := q_Sh_noise hq (by omega) hd1 hd2
      have hcl := s_noise (n := n) hG ha hd.1 hd.2
      rw [← ea] at hcl
      have hrf := fun (f2 : Nat → am_C) (n2 : Nat) (hM2 : r_M 48 n2 f2 κ sz G th (z_h z) (nI (z_d z)) li cs (z_w z) (z_b z)) => s_rnoise_t hM2 ha hd (l_small hq1 (by omega))
      rw [← ea] at hrf
      refine AW.more (rc := 0 + (7 + R)) (rs := 0 + (292 + S1)) (by omega) (by omega) ?_
      refine am_aload_n 344 dL_law_344 rfl ?_
      refine am_aload_n 345 dL_law_345 rfl ?_
      refine am_iload 346 dL_law_346 rfl ?_
      refine am_iconst 348 (v := 1) dL_law_348 (by decide) ?_
      refine am_iadd 349 dL_law_349 ?_
      refine am_saload 350 dL_law_350 hs i1 ?_
      refine am_aload_n 351 dL_law_351 rfl ?_
      refine am_iload 352 dL_law_352 rfl ?_
      refine am_iconst 354 (v := 2) dL_law_354 (by decide) ?_
      refine am_iadd 355 dL_law_355 ?_
      refine am_saload 356 dL_law_356 hs i2 ?_
      refine am_aload_n 357 dL_law_357 rfl ?_
      refine am_SW4 358 (mc' := 0) (ms' := 0) (rc := 7 + R) (rs := 292 + S1) dL_law_358 lL_96 ⟨by decide, by decide⟩ (Nat.le_of_ble_eq_true rfl) (Nat.le_of_ble_eq_true rfl) (s_Unoise h0 hcl (fun _ _ _ h => l_a53 (V := c_v20) ho (by decide) (Or.inl ⟨_, rfl⟩) h)) ?_
      rintro o n1 f2 ⟨rfl, ⟨v6, rfl⟩, o1, f1, ⟨-, -, hG1, e1⟩, h2⟩
      obtain ⟨hs2, hG2, hM2, ho2, hod2⟩ := j.cls hG1 e1 (h2.imp id Or.inl)
      obtain ⟨⟨m0, -⟩, -⟩ := id hM2
      unfold r_m12 at m0
      refine am_ctI ?_
      refine am_istore 361 dL_law_361 (by decide) ?_
      refine am_aload_n 363 dL_law_363 rfl ?_
      refine am_aload_n 364 dL_law_364 rfl ?_
      refine am_iload 365 dL_law_365 rfl ?_
      refine am_iconst 367 (v := 1) dL_law_367 (by decide) ?_
      refine am_iadd 368 dL_law_368 ?_
      refine am_saload 369 dL_law_369 hs2 i1 ?_
      refine am_aload_n 370 dL_law_370 rfl ?_
      refine am_iload 371 dL_law_371 rfl ?_
      refine am_iconst 373 (v := 2) dL_law_373 (by decide) ?_
      refine am_iadd 374 dL_law_374 ?_
      refine am_saload 375 dL_law_375 hs2 i2 ?_
      refine am_V2 376 (mc' := 7) (ms' := 292) (rc := R) (rs := S1) dL_law_376 lL_99 ⟨by decide, by decide⟩ m0 (Nat.le_of_ble_eq_true rfl) (Nat.le_of_ble_eq_true rfl) (hrf _ _ hM2) ?_
      rintro o n3 f3 ⟨hn3, th3, v3, rfl, ⟨-, rfl⟩, hM3, go3⟩
      refine am_ctI ?_
      refine am_istore 379 dL_law_379 (by decide) ?_
      refine am_goto 381 (tgt := 896) dL_law_381 rfl ?_
      exact hE1 _ _ _ _ _ (l_next hs2 hn hG2 hM2 hk ho2 hod2 hn3 hM3 go3 (by omega) hcs hq1 (by omega) (by omega) hX)
    · have hcl := s_tNoiseM (n := n) hG ha hd
      rw [← ea] at hcl
      have hrf := fun (f2 : Nat → am_C) (n2 : Nat) (z1 : m_Z) (hM2 : r_M 48 n2 f2 κ sz G th (z_h z1) (nI (z_d z1)) li cs (z_w z1) (z_b z1)) => s_rnoise_g hM2 ha hd
      rw [← ea] at hrf
      refine AW.more (rc := 1 + (0 + R)) (rs := 6 + (0 + S)) (by omega) (by omega) ?_
      refine am_aload_n 344 dL_law_344 rfl ?_
      refine am_aload_n 345 dL_law_345 rfl ?_
      refine am_iload 346 dL_law_346 rfl ?_
      refine am_iconst 348 (v := 1) dL_law_348 (by decide) ?_
      refine am_iadd 349 dL_law_349 ?_
      refine am_saload 350 dL_law_350 hs i1 ?_
      refine am_aload_n 351 dL_law_351 rfl ?_
      refine am_iload 352 dL_law_352 rfl ?_
      refine am_iconst 354 (v := 2) dL_law_354 (by decide) ?_
      refine am_iadd 355 dL_law_355 ?_
      refine am_saload 356 dL_law_356 hs i2 ?_
      refine am_aload_n 357 dL_law_357 rfl ?_
      refine am_SW4 358 (mc' := 1) (ms' := 6) (rc := 0 + R) (rs := 0 + S) dL_law_358 lL_96 ⟨by decide, by decide⟩ (Nat.le_of_ble_eq_true rfl) (Nat.le_of_ble_eq_true rfl) (s_Unoise h0 (c_th (V := c_v20) hG (Or.inr (Or.inr rfl)) (hcl)) (fun _ _ _ h => l_c53 ho (by decide) h)) ?_
      rintro o n1 f2 ⟨rfl, ⟨v6, rfl⟩, o1, f1, ⟨-, -, ⟨z1, hG1, hz⟩, e1⟩, h2⟩
      have j2 := j.mid hG1 hz e1 (h2.imp id Or.inl)
      obtain ⟨⟨hs2, -, -, -⟩, -, hM2, -, hcs2, ⟨hq2, hsum2⟩, -⟩ := id j2
      obtain ⟨⟨m0, -⟩, -⟩ := id hM2
      unfold r_m12 at m0
      refine am_ctI ?_
      refine am_istore 361 dL_law_361 (by decide) ?_
      refine am_aload_n 363 dL_law_363 rfl ?_
      refine am_aload_n 364 dL_law_364 rfl ?_
      refine am_iload 365 dL_law_365 rfl ?_
      refine am_iconst 367 (v := 1) dL_law_367 (by decide) ?_
      refine am_iadd 368 dL_law_368 ?_
      refine am_saload 369 dL_law_369 hs2 i1 ?_
      refine am_aload_n 370 dL_law_370 rfl ?_
      refine am_iload 371 dL_law_371 rfl ?_
      refine am_iconst 373 (v := 2) dL_law_373 (by decide) ?_
      refine am_iadd 374 dL_law_374 ?_
      refine am_saload 375 dL_law_375 hs2 i2 ?_
      refine am_V2 376 (mc' := 0) (ms' := 0) (rc := R) (rs := S) dL_law_376 lL_99 ⟨by decide, by decide⟩ m0 (Nat.le_of_ble_eq_true rfl) (Nat.le_of_ble_eq_true rfl) (hrf _ _ _ hM2) ?_
      rintro o n3 f3 ⟨hn3, th3, v3, rfl, ⟨-, rfl⟩, hM3, go3⟩
      refine am_ctI ?_
      refine am_istore 379 dL_law_379 (by decide) ?_
      refine am_goto 381 (tgt := 896) dL_law_381 rfl ?_
      exact hE _ _ _ _ _ (j2.fin hn3 hM3 go3)
  · have hy : ¬ (0 ≤ (xs (nI (5 * c) + 1).toNatClampNeg) ∧ (xs (nI (5 * c) + 1).toNatClampNeg) ≤ 5) := fun w => hx.elim (fun q => Int32.not_lt.mpr w.1 q) (fun q => (r_leP 5 rfl rfl (by decide)).mp w.2 q)
    refine AW.more (rc := 1 + (0 + R)) (rs := 6 + (0 + S)) (by omega) (by omega) ?_
    refine am_aload_n 344 dL_law_344 rfl ?_
    refine am_aload_n 345 dL_law_345 rfl ?_
    refine am_iload 346 dL_law_346 rfl ?_
    refine am_iconst 348 (v := 1) dL_law_348 (by decide) ?_
    refine am_iadd 349 dL_law_349 ?_
    refine am_saload 350 dL_law_350 hs i1 ?_
    refine am_aload_n 351 dL_law_351 rfl ?_
    refine am_iload 352 dL_law_352 rfl ?_
    refine am_iconst 354 (v := 2) dL_law_354 (by decide) ?_
    refine am_iadd 355 dL_law_355 ?_
    refine am_saload 356 dL_law_356 hs i2 ?_
    refine am_aload_n 357 dL_law_357 rfl ?_
    refine am_SW4 358 (mc' := 1) (ms' := 6) (rc := 0 + R) (rs := 0 + S) dL_law_358 lL_96 ⟨by decide, by decide⟩ (Nat.le_of_ble_eq_true rfl) (Nat.le_of_ble_eq_true rfl) (s_Unoise h0 (c_th (V := c_v20) hG (Or.inr (Or.inl rfl)) (s_tNoise hG hx)) (fun _ _ _ h => l_c53 ho (by decide) h)) ?_
    rintro o n1 f2 ⟨rfl, ⟨v6, rfl⟩, o1, f1, ⟨-, -, ⟨z1, hG1, hz⟩, e1⟩, h2⟩
    have j2 := j.mid hG1 hz e1 (h2.imp id Or.inl)
    obtain ⟨⟨hs2, -, -, -⟩, -, hM2, -, hcs2, ⟨hq2, hsum2⟩, -⟩ := id j2
    obtain ⟨⟨m0, -⟩, -⟩ := id hM2
    unfold r_m12 at m0
    refine am_ctI ?_
    refine am_istore 361 dL_law_361 (by decide) ?_
    refine am_aload_n 363 dL_law_363 rfl ?_
    refine am_aload_n 364 dL_law_364 rfl ?_
    refine am_iload 365 dL_law_365 rfl ?_
    refine am_iconst 367 (v := 1) dL_law_367 (by decide) ?_
    refine am_iadd 368 dL_law_368 ?_
    refine am_saload 369 dL_law_369 hs2 i1 ?_
    refine am_aload_n 370 dL_law_370 rfl ?_
    refine am_iload 371 dL_law_371 rfl ?_
    refine am_iconst 373 (v := 2) dL_law_373 (by decide) ?_
    refine am_iadd 374 dL_law_374 ?_
    refine am_saload 375 dL_law_375 hs2 i2 ?_
    refine am_V2 376 (mc' := 0) (ms' := 0) (rc := R) (rs := S) dL_law_376 lL_99 ⟨by decide, by decide⟩ m0 (Nat.le_of_ble_eq_true rfl) (Nat.le_of_ble_eq_true rfl) (s_rnoise_f hM2 hy) ?_
    rintro o n3 f3 ⟨hn3, th3, v3, rfl, ⟨-, rfl⟩, hM3, go3⟩
    refine am_ctI ?_
    refine am_istore 379 dL_law_379 (by decide) ?_
    refine am_goto 381 (tgt := 896) dL_law_381 rfl ?_
    exact hE _ _ _ _ _ (j2.fin hn3 hM3 go3)
end Ops3
