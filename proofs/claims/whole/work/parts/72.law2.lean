/-! THE LAW: more cases -/
section LC
variable {L j : Nat} {xs : Nat → Int32} {h : ix_H} {Q : ix_O → Prop}
theorem law_c5 (hL : L ≤ 3072) (hj : 6 * j + 6 ≤ L) (w : LI h) (back : ∀ h2, LI h2 → gs (some (L, xs)) 8 mD_law (963, [(3, .int (nI (6 * j))), (0, .retAddr 0), (1, .ref 0), (2, .ref 96)], [], h2) Q) : gs (some (L, xs)) 8 mD_law (413, [(3, .int (nI (6 * j))), (0, .retAddr 0), (1, .ref 0), (2, .ref 96)], [], h) Q := by
  obtain ⟨⟨P, cap, tmo, clk, cl, cut, X, sy, torn, tE, tp, an⟩, hJ, hC, hR, hc1, hc2⟩ := w
  obtain ⟨fs4, k4⟩ := hC.cell
  refine gs_n 414 a_L_law_413 rfl ?_
  refine gs_n 415 a_L_law_414 rfl ?_
  refine gs_n 416 a_L_law_415 rfl ?_
  refine gs_k (nI 1) 417 a_L_law_416 (by decide +kernel) rfl ?_
  refine gs_n 418 a_L_law_417 rfl ?_
  refine gs_sc (6 * j + 1) 419 a_L_law_418 (nI_add (6 * j) 1) (by omega) hL rfl ?_
  refine gs_n 420 a_L_law_419 rfl ?_
  refine gs_n 421 a_L_law_420 rfl ?_
  refine gs_k (nI 2) 422 a_L_law_421 (by decide +kernel) rfl ?_
  refine gs_n 423 a_L_law_422 rfl ?_
  refine gs_sc (6 * j + 2) 424 a_L_law_423 (nI_add (6 * j) 2) (by omega) hL rfl ?_
  refine gs_n 425 a_L_law_424 rfl ?_
  refine gs_n 426 a_L_law_425 rfl ?_
  refine gs_k (nI 3) 427 a_L_law_426 (by decide +kernel) rfl ?_
  refine gs_n 428 a_L_law_427 rfl ?_
  refine gs_sc (6 * j + 3) 429 a_L_law_428 (nI_add (6 * j) 3) (by omega) hL rfl ?_
  refine gs_n 430 a_L_law_429 rfl ?_
  refine gs_n 431 a_L_law_430 rfl ?_
  refine gs_k (nI 4) 432 a_L_law_431 (by decide +kernel) rfl ?_
  refine gs_n 433 a_L_law_432 rfl ?_
  refine gs_sc (6 * j + 4) 434 a_L_law_433 (nI_add (6 * j) 4) (by omega) hL rfl ?_
  refine gs_n 435 a_L_law_434 rfl ?_
  refine gs_n 436 a_L_law_435 rfl ?_
  refine gs_k (nI 5) 437 a_L_law_436 (by decide +kernel) rfl ?_
  refine gs_n 438 a_L_law_437 rfl ?_
  refine gs_sc (6 * j + 5) 439 a_L_law_438 (nI_add (6 * j) 5) (by omega) hL rfl ?_
  refine gs_cv 442 a_L_law_439 k_6_40 q_X4_later (c_later _ _ _ _ _ hJ.1 hC) rfl rfl rfl (by simp [Value.category]) (by first | assumption | exact hs_same _ _ _ | exact (hs_ne _ _ (by first | assumption | decide | omega)).trans (by first | assumption | exact hs_same _ _ _ | exact (hs_ne _ _ (by first | assumption | decide | omega)).trans (by first | assumption | exact hs_same _ _ _ | exact (hs_ne _ _ (by first | assumption | decide | omega)).trans (by first | assumption | exact hs_same _ _ _ | exact (hs_ne _ _ (by first | assumption | decide | omega)).trans (by first | assumption | exact hs_same _ _ _))))) rfl (fun v h3 hp => ?_)
  obtain ⟨z1, hF3, hC2⟩ := hp
  simp only at z1
  subst z1
  have hR2 := hR.c hF3
  obtain ⟨fs5, k5⟩ := hR2.cell
  refine gs_n 443 a_L_law_442 rfl ?_
  refine gs_n 444 a_L_law_443 rfl ?_
  refine gs_n 445 a_L_law_444 rfl ?_
  refine gs_k (nI 1) 446 a_L_law_445 (by decide +kernel) rfl ?_
  refine gs_n 447 a_L_law_446 rfl ?_
  refine gs_sc (6 * j + 1) 448 a_L_law_447 (nI_add (6 * j) 1) (by omega) hL rfl ?_
  refine gs_n 449 a_L_law_448 rfl ?_
  refine gs_n 450 a_L_law_449 rfl ?_
  refine gs_k (nI 2) 451 a_L_law_450 (by decide +kernel) rfl ?_
  refine gs_n 452 a_L_law_451 rfl ?_
  refine gs_sc (6 * j + 2) 453 a_L_law_452 (nI_add (6 * j) 2) (by omega) hL rfl ?_
  refine gs_n 454 a_L_law_453 rfl ?_
  refine gs_n 455 a_L_law_454 rfl ?_
  refine gs_k (nI 3) 456 a_L_law_455 (by decide +kernel) rfl ?_
  refine gs_n 457 a_L_law_456 rfl ?_
  refine gs_sc (6 * j + 3) 458 a_L_law_457 (nI_add (6 * j) 3) (by omega) hL rfl ?_
  refine gs_n 459 a_L_law_458 rfl ?_
  refine gs_n 460 a_L_law_459 rfl ?_
  refine gs_k (nI 4) 461 a_L_law_460 (by decide +kernel) rfl ?_
  refine gs_n 462 a_L_law_461 rfl ?_
  refine gs_sc (6 * j + 4) 463 a_L_law_462 (nI_add (6 * j) 4) (by omega) hL rfl ?_
  refine gs_n 464 a_L_law_463 rfl ?_
  refine gs_n 465 a_L_law_464 rfl ?_
  refine gs_k (nI 5) 466 a_L_law_465 (by decide +kernel) rfl ?_
  refine gs_n 467 a_L_law_466 rfl ?_
  refine gs_sc (6 * j + 5) 468 a_L_law_467 (nI_add (6 * j) 5) (by omega) hL rfl ?_
  refine gs_cv 471 a_L_law_468 k_6_44 q_X5_later_ (r_later _ _ _ _ _ hJ.1 hR2) rfl rfl rfl (by simp [Value.category]) (by first | assumption | exact hs_same _ _ _ | exact (hs_ne _ _ (by first | assumption | decide | omega)).trans (by first | assumption | exact hs_same _ _ _ | exact (hs_ne _ _ (by first | assumption | decide | omega)).trans (by first | assumption | exact hs_same _ _ _ | exact (hs_ne _ _ (by first | assumption | decide | omega)).trans (by first | assumption | exact hs_same _ _ _ | exact (hs_ne _ _ (by first | assumption | decide | omega)).trans (by first | assumption | exact hs_same _ _ _))))) rfl (fun v h4 hp => ?_)
  obtain ⟨z1, hF4, hR3⟩ := hp
  simp only at z1
  subst z1
  have hC3 := hC2.m hF4
  refine gs_ic 963 474 a_L_law_471 rfl rfl (fun c => ?_) (fun c => ?_)
  · refine gs_w [(3, .int (nI (6 * j))), (0, .retAddr 0), (1, .ref 0), (2, .ref 96)] (by simp [ix_nd]) (by intro x hx; simp only [List.mem_cons, List.not_mem_nil, or_false] at hx; rcases hx with rfl | rfl | rfl | rfl <;> rfl) ?_
    exact back h4 ⟨_, J_later hJ, hC3, hR3, hF4.1.trans (hF3.1.trans hc1), by rw [hF4.2.1, hF3.2.1]; exact hc2⟩
  · exact absurd rfl c
theorem law_c6 (hL : L ≤ 3072) (hj : 6 * j + 6 ≤ L) (w : LI h) (back : ∀ h2, LI h2 → gs (some (L, xs)) 8 mD_law (963, [(3, .int (nI (6 * j))), (0, .retAddr 0), (1, .ref 0), (2, .ref 96)], [], h2) Q) : gs (some (L, xs)) 8 mD_law (476, [(3, .int (nI (6 * j))), (0, .retAddr 0), (1, .ref 0), (2, .ref 96)], [], h) Q := by
  obtain ⟨⟨P, cap, tmo, clk, cl, cut, X, sy, torn, tE, tp, an⟩, hJ, hC, hR, hc1, hc2⟩ := w
  obtain ⟨fs4, k4⟩ := hC.cell
  refine gs_n 477 a_L_law_476 rfl ?_
  refine gs_n 478 a_L_law_477 rfl ?_
  refine gs_n 479 a_L_law_478 rfl ?_
  refine gs_k (nI 1) 480 a_L_law_479 (by decide +kernel) rfl ?_
  refine gs_n 481 a_L_law_480 rfl ?_
  refine gs_sc (6 * j + 1) 482 a_L_law_481 (nI_add (6 * j) 1) (by omega) hL rfl ?_
  refine gs_n 483 a_L_law_482 rfl ?_
  refine gs_n 484 a_L_law_483 rfl ?_
  refine gs_k (nI 2) 485 a_L_law_484 (by decide +kernel) rfl ?_
  refine gs_n 486 a_L_law_485 rfl ?_
  refine gs_sc (6 * j + 2) 487 a_L_law_486 (nI_add (6 * j) 2) (by omega) hL rfl ?_
  refine gs_n 488 a_L_law_487 rfl ?_
  refine gs_n 489 a_L_law_488 rfl ?_
  refine gs_k (nI 3) 490 a_L_law_489 (by decide +kernel) rfl ?_
  refine gs_n 491 a_L_law_490 rfl ?_
  refine gs_sc (6 * j + 3) 492 a_L_law_491 (nI_add (6 * j) 3) (by omega) hL rfl ?_
  refine gs_nz 495 496 499 500 a_L_law_492 rfl a_L_law_495 a_L_law_496 rfl a_L_law_499 rfl rfl rfl ?_
  refine gs_cv 503 a_L_law_500 k_6_45 q_X4_end (c_end _ _ _ hJ.1 hC) rfl rfl rfl (by simp [Value.category]) (by first | assumption | exact hs_same _ _ _ | exact (hs_ne _ _ (by first | assumption | decide | omega)).trans (by first | assumption | exact hs_same _ _ _ | exact (hs_ne _ _ (by first | assumption | decide | omega)).trans (by first | assumption | exact hs_same _ _ _ | exact (hs_ne _ _ (by first | assumption | decide | omega)).trans (by first | assumption | exact hs_same _ _ _ | exact (hs_ne _ _ (by first | assumption | decide | omega)).trans (by first | assumption | exact hs_same _ _ _))))) rfl (fun v h3 hp => ?_)
  obtain ⟨z1, hF3, hC2⟩ := hp
  simp only at z1
  subst z1
  have hR2 := hR.c hF3
  obtain ⟨fs5, k5⟩ := hR2.cell
  refine gs_n 504 a_L_law_503 rfl ?_
  refine gs_n 505 a_L_law_504 rfl ?_
  refine gs_n 506 a_L_law_505 rfl ?_
  refine gs_k (nI 1) 507 a_L_law_506 (by decide +kernel) rfl ?_
  refine gs_n 508 a_L_law_507 rfl ?_
  refine gs_sc (6 * j + 1) 509 a_L_law_508 (nI_add (6 * j) 1) (by omega) hL rfl ?_
  refine gs_n 510 a_L_law_509 rfl ?_
  refine gs_n 511 a_L_law_510 rfl ?_
  refine gs_k (nI 2) 512 a_L_law_511 (by decide +kernel) rfl ?_
  refine gs_n 513 a_L_law_512 rfl ?_
  refine gs_sc (6 * j + 2) 514 a_L_law_513 (nI_add (6 * j) 2) (by omega) hL rfl ?_
  refine gs_n 515 a_L_law_514 rfl ?_
  refine gs_n 516 a_L_law_515 rfl ?_
  refine gs_k (nI 3) 517 a_L_law_516 (by decide +kernel) rfl ?_
  refine gs_n 518 a_L_law_517 rfl ?_
  refine gs_sc (6 * j + 3) 519 a_L_law_518 (nI_add (6 * j) 3) (by omega) hL rfl ?_
  refine gs_nz 522 523 526 527 a_L_law_519 rfl a_L_law_522 a_L_law_523 rfl a_L_law_526 rfl rfl rfl ?_
  refine gs_cv 530 a_L_law_527 k_6_49 q_X5_end (r_end _ _ _ hJ.1 hR2) rfl rfl rfl (by simp [Value.category]) (by first | assumption | exact hs_same _ _ _ | exact (hs_ne _ _ (by first | assumption | decide | omega)).trans (by first | assumption | exact hs_same _ _ _ | exact (hs_ne _ _ (by first | assumption | decide | omega)).trans (by first | assumption | exact hs_same _ _ _ | exact (hs_ne _ _ (by first | assumption | decide | omega)).trans (by first | assumption | exact hs_same _ _ _ | exact (hs_ne _ _ (by first | assumption | decide | omega)).trans (by first | assumption | exact hs_same _ _ _))))) rfl (fun v h4 hp => ?_)
  obtain ⟨z1, hF4, hR3⟩ := hp
  simp only at z1
  subst z1
  have hC3 := hC2.m hF4
  refine gs_ic 963 533 a_L_law_530 rfl rfl (fun c => ?_) (fun c => ?_)
  · refine gs_w [(3, .int (nI (6 * j))), (0, .retAddr 0), (1, .ref 0), (2, .ref 96)] (by simp [ix_nd]) (by intro x hx; simp only [List.mem_cons, List.not_mem_nil, or_false] at hx; rcases hx with rfl | rfl | rfl | rfl <;> rfl) ?_
    exact back h4 ⟨_, J_end hJ, hC3, hR3, hF4.1.trans (hF3.1.trans hc1), by rw [hF4.2.1, hF3.2.1]; exact hc2⟩
  · exact absurd rfl c
theorem law_c7 (hL : L ≤ 3072) (hj : 6 * j + 6 ≤ L) (w : LI h) (back : ∀ h2, LI h2 → gs (some (L, xs)) 8 mD_law (963, [(3, .int (nI (6 * j))), (0, .retAddr 0), (1, .ref 0), (2, .ref 96)], [], h2) Q) : gs (some (L, xs)) 8 mD_law (535, [(3, .int (nI (6 * j))), (0, .retAddr 0), (1, .ref 0), (2, .ref 96)], [], h) Q := by
  obtain ⟨⟨P, cap, tmo, clk, cl, cut, X, sy, torn, tE, tp, an⟩, hJ, hC, hR, hc1, hc2⟩ := w
  obtain ⟨fs4, k4⟩ := hC.cell
  refine gs_n 536 a_L_law_535 rfl ?_
  refine gs_n 537 a_L_law_536 rfl ?_
  refine gs_n 538 a_L_law_537 rfl ?_
  refine gs_k (nI 1) 539 a_L_law_538 (by decide +kernel) rfl ?_
  refine gs_n 540 a_L_law_539 rfl ?_
  refine gs_sc (6 * j + 1) 541 a_L_law_540 (nI_add (6 * j) 1) (by omega) hL rfl ?_
  refine gs_n 542 a_L_law_541 rfl ?_
  refine gs_n 543 a_L_law_542 rfl ?_
  refine gs_k (nI 2) 544 a_L_law_543 (by decide +kernel) rfl ?_
  refine gs_n 545 a_L_law_544 rfl ?_
  refine gs_sc (6 * j + 2) 546 a_L_law_545 (nI_add (6 * j) 2) (by omega) hL rfl ?_
  refine gs_n 547 a_L_law_546 rfl ?_
  refine gs_n 548 a_L_law_547 rfl ?_
  refine gs_k (nI 3) 549 a_L_law_548 (by decide +kernel) rfl ?_
  refine gs_n 550 a_L_law_549 rfl ?_
  refine gs_sc (6 * j + 3) 551 a_L_law_550 (nI_add (6 * j) 3) (by omega) hL rfl ?_
  refine gs_cv 554 a_L_law_551 k_6_50 q_X4_mark (c_mark _ _ _ hJ.1 hC) rfl rfl rfl (by simp [Value.category]) (by first | assumption | exact hs_same _ _ _ | exact (hs_ne _ _ (by first | assumption | decide | omega)).trans (by first | assumption | exact hs_same _ _ _ | exact (hs_ne _ _ (by first | assumption | decide | omega)).trans (by first | assumption | exact hs_same _ _ _ | exact (hs_ne _ _ (by first | assumption | decide | omega)).trans (by first | assumption | exact hs_same _ _ _ | exact (hs_ne _ _ (by first | assumption | decide | omega)).trans (by first | assumption | exact hs_same _ _ _))))) rfl (fun v h3 hp => ?_)
  obtain ⟨z1, hF3, hC2⟩ := hp
  simp only at z1
  subst z1
  have hR2 := hR.c hF3
  obtain ⟨fs5, k5⟩ := hR2.cell
  refine gs_n 555 a_L_law_554 rfl ?_
  refine gs_n 556 a_L_law_555 rfl ?_
  refine gs_n 557 a_L_law_556 rfl ?_
  refine gs_k (nI 1) 558 a_L_law_557 (by decide +kernel) rfl ?_
  refine gs_n 559 a_L_law_558 rfl ?_
  refine gs_sc (6 * j + 1) 560 a_L_law_559 (nI_add (6 * j) 1) (by omega) hL rfl ?_
  refine gs_n 561 a_L_law_560 rfl ?_
  refine gs_n 562 a_L_law_561 rfl ?_
  refine gs_k (nI 2) 563 a_L_law_562 (by decide +kernel) rfl ?_
  refine gs_n 564 a_L_law_563 rfl ?_
  refine gs_sc (6 * j + 2) 565 a_L_law_564 (nI_add (6 * j) 2) (by omega) hL rfl ?_
  refine gs_n 566 a_L_law_565 rfl ?_
  refine gs_n 567 a_L_law_566 rfl ?_
  refine gs_k (nI 3) 568 a_L_law_567 (by decide +kernel) rfl ?_
  refine gs_n 569 a_L_law_568 rfl ?_
  refine gs_sc (6 * j + 3) 570 a_L_law_569 (nI_add (6 * j) 3) (by omega) hL rfl ?_
  refine gs_cv 573 a_L_law_570 k_6_54 q_X5_mark (r_mark _ _ _ hJ.1 hR2) rfl rfl rfl (by simp [Value.category]) (by first | assumption | exact hs_same _ _ _ | exact (hs_ne _ _ (by first | assumption | decide | omega)).trans (by first | assumption | exact hs_same _ _ _ | exact (hs_ne _ _ (by first | assumption | decide | omega)).trans (by first | assumption | exact hs_same _ _ _ | exact (hs_ne _ _ (by first | assumption | decide | omega)).trans (by first | assumption | exact hs_same _ _ _ | exact (hs_ne _ _ (by first | assumption | decide | omega)).trans (by first | assumption | exact hs_same _ _ _))))) rfl (fun v h4 hp => ?_)
  obtain ⟨z1, hF4, hR3⟩ := hp
  simp only at z1
  subst z1
  have hC3 := hC2.m hF4
  refine gs_ic 963 576 a_L_law_573 rfl rfl (fun c => ?_) (fun c => ?_)
  · refine gs_w [(3, .int (nI (6 * j))), (0, .retAddr 0), (1, .ref 0), (2, .ref 96)] (by simp [ix_nd]) (by intro x hx; simp only [List.mem_cons, List.not_mem_nil, or_false] at hx; rcases hx with rfl | rfl | rfl | rfl <;> rfl) ?_
    exact back h4 ⟨_, J_mark hJ, hC3, hR3, hF4.1.trans (hF3.1.trans hc1), by rw [hF4.2.1, hF3.2.1]; exact hc2⟩
  · exact absurd rfl c
theorem law_c8 (hL : L ≤ 3072) (hj : 6 * j + 6 ≤ L) (w : LI h) (back : ∀ h2, LI h2 → gs (some (L, xs)) 8 mD_law (963, [(3, .int (nI (6 * j))), (0, .retAddr 0), (1, .ref 0), (2, .ref 96)], [], h2) Q) : gs (some (L, xs)) 8 mD_law (578, [(3, .int (nI (6 * j))), (0, .retAddr 0), (1, .ref 0), (2, .ref 96)], [], h) Q := by
  obtain ⟨⟨P, cap, tmo, clk, cl, cut, X, sy, torn, tE, tp, an⟩, hJ, hC, hR, hc1, hc2⟩ := w
  obtain ⟨fs4, k4⟩ := hC.cell
  refine gs_n 579 a_L_law_578 rfl ?_
  refine gs_n 580 a_L_law_579 rfl ?_
  refine gs_n 581 a_L_law_580 rfl ?_
  refine gs_k (nI 1) 582 a_L_law_581 (by decide +kernel) rfl ?_
  refine gs_n 583 a_L_law_582 rfl ?_
  refine gs_sc (6 * j + 1) 584 a_L_law_583 (nI_add (6 * j) 1) (by omega) hL rfl ?_
  refine gs_n 585 a_L_law_584 rfl ?_
  refine gs_n 586 a_L_law_585 rfl ?_
  refine gs_k (nI 2) 587 a_L_law_586 (by decide +kernel) rfl ?_
  refine gs_n 588 a_L_law_587 rfl ?_
  refine gs_sc (6 * j + 2) 589 a_L_law_588 (nI_add (6 * j) 2) (by omega) hL rfl ?_
  refine gs_cv 592 a_L_law_589 k_6_55 q_X4_marked (c_marked _ _ hJ.1 hC) rfl rfl rfl (by simp [Value.category]) (by first | assumption | exact hs_same _ _ _ | exact (hs_ne _ _ (by first | assumption | decide | omega)).trans (by first | assumption | exact hs_same _ _ _ | exact (hs_ne _ _ (by first | assumption | decide | omega)).trans (by first | assumption | exact hs_same _ _ _ | exact (hs_ne _ _ (by first | assumption | decide | omega)).trans (by first | assumption | exact hs_same _ _ _ | exact (hs_ne _ _ (by first | assumption | decide | omega)).trans (by first | assumption | exact hs_same _ _ _))))) rfl (fun v h3 hp => ?_)
  cases hp
  have hR2 := hR
  have hC2 := hC
  obtain ⟨fs5, k5⟩ := hR2.cell
  refine gs_n 593 a_L_law_592 rfl ?_
  refine gs_n 594 a_L_law_593 rfl ?_
  refine gs_n 595 a_L_law_594 rfl ?_
  refine gs_k (nI 1) 596 a_L_law_595 (by decide +kernel) rfl ?_
  refine gs_n 597 a_L_law_596 rfl ?_
  refine gs_sc (6 * j + 1) 598 a_L_law_597 (nI_add (6 * j) 1) (by omega) hL rfl ?_
  refine gs_n 599 a_L_law_598 rfl ?_
  refine gs_n 600 a_L_law_599 rfl ?_
  refine gs_k (nI 2) 601 a_L_law_600 (by decide +kernel) rfl ?_
  refine gs_n 602 a_L_law_601 rfl ?_
  refine gs_sc (6 * j + 2) 603 a_L_law_602 (nI_add (6 * j) 2) (by omega) hL rfl ?_
  refine gs_cv 606 a_L_law_603 k_6_58 q_X5_marked (r_marked _ _ hJ.1 hR2) rfl rfl rfl (by simp [Value.category]) (by first | assumption | exact hs_same _ _ _ | exact (hs_ne _ _ (by first | assumption | decide | omega)).trans (by first | assumption | exact hs_same _ _ _ | exact (hs_ne _ _ (by first | assumption | decide | omega)).trans (by first | assumption | exact hs_same _ _ _ | exact (hs_ne _ _ (by first | assumption | decide | omega)).trans (by first | assumption | exact hs_same _ _ _ | exact (hs_ne _ _ (by first | assumption | decide | omega)).trans (by first | assumption | exact hs_same _ _ _))))) rfl (fun v h4 hp => ?_)
  cases hp
  have hC3 := hC2
  have hR3 := hR2
  refine gs_ic 963 609 a_L_law_606 rfl rfl (fun c => ?_) (fun c => ?_)
  · refine gs_w [(3, .int (nI (6 * j))), (0, .retAddr 0), (1, .ref 0), (2, .ref 96)] (by simp [ix_nd]) (by intro x hx; simp only [List.mem_cons, List.not_mem_nil, or_false] at hx; rcases hx with rfl | rfl | rfl | rfl <;> rfl) ?_
    exact back h ⟨_, hJ, hC3, hR3, hc1, hc2⟩
  · exact absurd rfl c
theorem law_c9 (hL : L ≤ 3072) (hj : 6 * j + 6 ≤ L) (w : LI h) (back : ∀ h2, LI h2 → gs (some (L, xs)) 8 mD_law (963, [(3, .int (nI (6 * j))), (0, .retAddr 0), (1, .ref 0), (2, .ref 96)], [], h2) Q) : gs (some (L, xs)) 8 mD_law (611, [(3, .int (nI (6 * j))), (0, .retAddr 0), (1, .ref 0), (2, .ref 96)], [], h) Q := by
  obtain ⟨⟨P, cap, tmo, clk, cl, cut, X, sy, torn, tE, tp, an⟩, hJ, hC, hR, hc1, hc2⟩ := w
  obtain ⟨fs4, k4⟩ := hC.cell
  refine gs_n 612 a_L_law_611 rfl ?_
  refine gs_n 613 a_L_law_612 rfl ?_
  refine gs_n 614 a_L_law_613 rfl ?_
  refine gs_k (nI 1) 615 a_L_law_614 (by decide +kernel) rfl ?_
  refine gs_n 616 a_L_law_615 rfl ?_
  refine gs_sc (6 * j + 1) 617 a_L_law_616 (nI_add (6 * j) 1) (by omega) hL rfl ?_
  refine gs_cv 620 a_L_law_617 k_6_59 q_X4_tick (c_tick _ hJ.1 hC) rfl rfl rfl (by simp [Value.category]) (by first | assumption | exact hs_same _ _ _ | exact (hs_ne _ _ (by first | assumption | decide | omega)).trans (by first | assumption | exact hs_same _ _ _ | exact (hs_ne _ _ (by first | assumption | decide | omega)).trans (by first | assumption | exact hs_same _ _ _ | exact (hs_ne _ _ (by first | assumption | decide | omega)).trans (by first | assumption | exact hs_same _ _ _ | exact (hs_ne _ _ (by first | assumption | decide | omega)).trans (by first | assumption | exact hs_same _ _ _))))) rfl (fun v h3 hp => ?_)
  obtain ⟨z1, hF3, hC2⟩ := hp
  simp only at z1
  subst z1
  have hR2 := hR.c hF3
  obtain ⟨fs5, k5⟩ := hR2.cell
  refine gs_n 621 a_L_law_620 rfl ?_
  refine gs_n 622 a_L_law_621 rfl ?_
  refine gs_n 623 a_L_law_622 rfl ?_
  refine gs_k (nI 1) 624 a_L_law_623 (by decide +kernel) rfl ?_
  refine gs_n 625 a_L_law_624 rfl ?_
  refine gs_sc (6 * j + 1) 626 a_L_law_625 (nI_add (6 * j) 1) (by omega) hL rfl ?_
  refine gs_cv 629 a_L_law_626 k_6_62 q_X5_tick (r_tick _ hJ.1 hR2) rfl rfl rfl (by simp [Value.category]) (by first | assumption | exact hs_same _ _ _ | exact (hs_ne _ _ (by first | assumption | decide | omega)).trans (by first | assumption | exact hs_same _ _ _ | exact (hs_ne _ _ (by first | assumption | decide | omega)).trans (by first | assumption | exact hs_same _ _ _ | exact (hs_ne _ _ (by first | assumption | decide | omega)).trans (by first | assumption | exact hs_same _ _ _ | exact (hs_ne _ _ (by first | assumption | decide | omega)).trans (by first | assumption | exact hs_same _ _ _))))) rfl (fun v h4 hp => ?_)
  obtain ⟨z1, hF4, hR3⟩ := hp
  simp only at z1
  subst z1
  have hC3 := hC2.m hF4
  refine gs_ic 963 632 a_L_law_629 rfl rfl (fun c => ?_) (fun c => ?_)
  · refine gs_w [(3, .int (nI (6 * j))), (0, .retAddr 0), (1, .ref 0), (2, .ref 96)] (by simp [ix_nd]) (by intro x hx; simp only [List.mem_cons, List.not_mem_nil, or_false] at hx; rcases hx with rfl | rfl | rfl | rfl <;> rfl) ?_
    exact back h4 ⟨_, J_tick hJ, hC3, hR3, hF4.1.trans (hF3.1.trans hc1), by rw [hF4.2.1, hF3.2.1]; exact hc2⟩
  · exact absurd rfl c
theorem law_c10 (hL : L ≤ 3072) (hj : 6 * j + 6 ≤ L) (w : LI h) (back : ∀ h2, LI h2 → gs (some (L, xs)) 8 mD_law (963, [(3, .int (nI (6 * j))), (0, .retAddr 0), (1, .ref 0), (2, .ref 96)], [], h2) Q) : gs (some (L, xs)) 8 mD_law (634, [(3, .int (nI (6 * j))), (0, .retAddr 0), (1, .ref 0), (2, .ref 96)], [], h) Q := by
  obtain ⟨⟨P, cap, tmo, clk, cl, cut, X, sy, torn, tE, tp, an⟩, hJ, hC, hR, hc1, hc2⟩ := w
  obtain ⟨fs4, k4⟩ := hC.cell
  refine gs_n 635 a_L_law_634 rfl ?_
  refine gs_n 636 a_L_law_635 rfl ?_
  refine gs_n 637 a_L_law_636 rfl ?_
  refine gs_k (nI 1) 638 a_L_law_637 (by decide +kernel) rfl ?_
  refine gs_n 639 a_L_law_638 rfl ?_
  refine gs_sc (6 * j + 1) 640 a_L_law_639 (nI_add (6 * j) 1) (by omega) hL rfl ?_
  refine gs_n 641 a_L_law_640 rfl ?_
  refine gs_n 642 a_L_law_641 rfl ?_
  refine gs_k (nI 2) 643 a_L_law_642 (by decide +kernel) rfl ?_
  refine gs_n 644 a_L_law_643 rfl ?_
  refine gs_sc (6 * j + 2) 645 a_L_law_644 (nI_add (6 * j) 2) (by omega) hL rfl ?_
  refine gs_n 646 a_L_law_645 rfl ?_
  refine gs_n 647 a_L_law_646 rfl ?_
  refine gs_k (nI 3) 648 a_L_law_647 (by decide +kernel) rfl ?_
  refine gs_n 649 a_L_law_648 rfl ?_
  refine gs_sc (6 * j + 3) 650 a_L_law_649 (nI_add (6 * j) 3) (by omega) hL rfl ?_
  refine gs_nz 653 654 657 658 a_L_law_650 rfl a_L_law_653 a_L_law_654 rfl a_L_law_657 rfl rfl rfl ?_
  refine gs_cv 661 a_L_law_658 k_6_63 q_X4_fetch (c_fetch _ _ _ hJ.1 hC) rfl rfl rfl (by simp [Value.category]) (by first | assumption | exact hs_same _ _ _ | exact (hs_ne _ _ (by first | assumption | decide | omega)).trans (by first | assumption | exact hs_same _ _ _ | exact (hs_ne _ _ (by first | assumption | decide | omega)).trans (by first | assumption | exact hs_same _ _ _ | exact (hs_ne _ _ (by first | assumption | decide | omega)).trans (by first | assumption | exact hs_same _ _ _ | exact (hs_ne _ _ (by first | assumption | decide | omega)).trans (by first | assumption | exact hs_same _ _ _))))) rfl (fun v h3 hp => ?_)
  obtain ⟨z1, hF3, hC2⟩ := hp
  simp only at z1
  subst z1
  have hR2 := hR.c hF3
  obtain ⟨fs5, k5⟩ := hR2.cell
  refine gs_n 662 a_L_law_661 rfl ?_
  refine gs_n 663 a_L_law_662 rfl ?_
  refine gs_n 664 a_L_law_663 rfl ?_
  refine gs_k (nI 1) 665 a_L_law_664 (by decide +kernel) rfl ?_
  refine gs_n 666 a_L_law_665 rfl ?_
  refine gs_sc (6 * j + 1) 667 a_L_law_666 (nI_add (6 * j) 1) (by omega) hL rfl ?_
  refine gs_n 668 a_L_law_667 rfl ?_
  refine gs_n 669 a_L_law_668 rfl ?_
  refine gs_k (nI 2) 670 a_L_law_669 (by decide +kernel) rfl ?_
  refine gs_n 671 a_L_law_670 rfl ?_
  refine gs_sc (6 * j + 2) 672 a_L_law_671 (nI_add (6 * j) 2) (by omega) hL rfl ?_
  refine gs_n 673 a_L_law_672 rfl ?_
  refine gs_n 674 a_L_law_673 rfl ?_
  refine gs_k (nI 3) 675 a_L_law_674 (by decide +kernel) rfl ?_
  refine gs_n 676 a_L_law_675 rfl ?_
  refine gs_sc (6 * j + 3) 677 a_L_law_676 (nI_add (6 * j) 3) (by omega) hL rfl ?_
  refine gs_nz 680 681 684 685 a_L_law_677 rfl a_L_law_680 a_L_law_681 rfl a_L_law_684 rfl rfl rfl ?_
  refine gs_cv 688 a_L_law_685 k_6_66 q_X5_fetch (r_fetch _ _ _ hJ.1 hR2) rfl rfl rfl (by simp [Value.category]) (by first | assumption | exact hs_same _ _ _ | exact (hs_ne _ _ (by first | assumption | decide | omega)).trans (by first | assumption | exact hs_same _ _ _ | exact (hs_ne _ _ (by first | assumption | decide | omega)).trans (by first | assumption | exact hs_same _ _ _ | exact (hs_ne _ _ (by first | assumption | decide | omega)).trans (by first | assumption | exact hs_same _ _ _ | exact (hs_ne _ _ (by first | assumption | decide | omega)).trans (by first | assumption | exact hs_same _ _ _))))) rfl (fun v h4 hp => ?_)
  obtain ⟨z1, hF4, hR3⟩ := hp
  simp only at z1
  subst z1
  have hC3 := hC2.m hF4
  refine gs_ic 963 691 a_L_law_688 rfl rfl (fun c => ?_) (fun c => ?_)
  · refine gs_w [(3, .int (nI (6 * j))), (0, .retAddr 0), (1, .ref 0), (2, .ref 96)] (by simp [ix_nd]) (by intro x hx; simp only [List.mem_cons, List.not_mem_nil, or_false] at hx; rcases hx with rfl | rfl | rfl | rfl <;> rfl) ?_
    exact back h4 ⟨_, J_fetch hJ, hC3, hR3, hF4.1.trans (hF3.1.trans hc1), by rw [hF4.2.1, hF3.2.1]; exact hc2⟩
  · exact absurd rfl c
end LC
