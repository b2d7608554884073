section LC
variable {X : VX} {D : va_G} {Y : Nat → ClassId} {Q : State → Prop} {AA : Nat → Prop} {a a2 : Nat → Nat} {b M i : Nat} {xs : Nat → Int32} {q pg : Nat → Int32} {gS gU : Nat → Option Nat} {rd : RdT} {ft : FtT} {S : Nat → StT} {U : Nat → UnT} {I : Nat → Int32} {A : Nat → Nat → Int32} {F : Nat → Int64} {L : Nat → Nat → Int64}
theorem law_sum (C : Cx X D Y cL_law 4 RL lw_tbl ret room_1) (hA : ∀ q, (xS X).heap.size ≤ q → AA q) (hX : va_X b M xs (xS X) (xS X).heap) (hbl : b < (xS X).heap.size) (hbA : ¬ AA b) (hL : M ≤ 2560) (hi : i + 5 ≤ M) (hR : Rel a q pg gS gU S U I A) (kk : LK X D Y Q AA a a2 b i) : VW X D 4 Q (KM AA X) (65, 481) (wOff Y a q pg gS gU rd ft S U ++ wM Y a2 I A F L) [(0, .ref b), (1, .ref (a 0)), (2, .ref (a2 0)), (3, .int (nI i))] 410 [] := by
  obtain ⟨g, hw, hC, hM⟩ := hR
  obtain ⟨r, h5, h6⟩ := sim_sum (rd := rd) (ft := ft) (F := F) (L := L) hC hM hw (xs (i + 1)) (xs (i + 2))
  refine V_aload_n (pc := 410) C dL_law_410 rfl 1 rfl ?_
  refine V_arg (pc := 411) (k := 1) C hX hbl hbA hL (by omega) iN1 rfl rfl dL_law_411 dL_law_412 dL_law_413 dL_law_414 dL_law_415 ?_
  refine V_arg (pc := 416) (k := 2) C hX hbl hbA hL (by omega) iN2 rfl rfl dL_law_416 dL_law_417 dL_law_418 dL_law_419 dL_law_420 ?_
  refine V_callLR (pc := 421) (rest := []) (st2 := [.int r]) C (X5_sum_ok h5) gL_X5_sum rfl ⟨rfl, hdX5_sum⟩ ⟨Nat.le_of_ble_eq_true rfl, Nat.le_of_ble_eq_true rfl⟩ ⟨Nat.le_of_ble_eq_true rfl, Nat.le_of_ble_eq_true rfl⟩ 5 rfl rfl rfl (Nat.le_of_ble_eq_true rfl) dL_law_421 rfl ?_
  refine V_aload_n (pc := 424) C dL_law_424 rfl 2 rfl ?_
  refine V_arg (pc := 425) (k := 1) C hX hbl hbA hL (by omega) iN1 rfl rfl dL_law_425 dL_law_426 dL_law_427 dL_law_428 dL_law_429 ?_
  refine V_arg (pc := 430) (k := 2) C hX hbl hbA hL (by omega) iN2 rfl rfl dL_law_430 dL_law_431 dL_law_432 dL_law_433 dL_law_434 ?_
  refine V_callRR (pc := 435) (rest := [.int r]) (st2 := [.int r, .int r]) C (X6_sum_ok h6) gL_X6_sum rfl ⟨rfl, hdX6_sum⟩ ⟨Nat.le_of_ble_eq_true rfl, Nat.le_of_ble_eq_true rfl⟩ ⟨Nat.le_of_ble_eq_true rfl, Nat.le_of_ble_eq_true rfl⟩ 6 rfl rfl rfl (Nat.le_of_ble_eq_true rfl) dL_law_435 rfl ?_
  refine V_icmp_eq (pc := 438) C 761 dL_law_438 rfl (fun _ => ?_) (fun c => absurd rfl c)
  exact kk _ _ _ _ _ _ _ _ _ _ _ _ ⟨g, hw, hC, hM⟩
theorem law_other (C : Cx X D Y cL_law 4 RL lw_tbl ret room_1) (hA : ∀ q, (xS X).heap.size ≤ q → AA q) (hX : va_X b M xs (xS X) (xS X).heap) (hbl : b < (xS X).heap.size) (hbA : ¬ AA b) (hL : M ≤ 2560) (hi : i + 5 ≤ M) (hR : Rel a q pg gS gU S U I A) (kk : LK X D Y Q AA a a2 b i) : VW X D 4 Q (KM AA X) (65, 481) (wOff Y a q pg gS gU rd ft S U ++ wM Y a2 I A F L) [(0, .ref b), (1, .ref (a 0)), (2, .ref (a2 0)), (3, .int (nI i))] 443 [] := by
  obtain ⟨g, hw, hC, hM⟩ := hR
  obtain ⟨r, h5, h6⟩ := sim_other (rd := rd) (ft := ft) (F := F) (L := L) hC hM hw (xs (i + 1)) (xs (i + 2)) (xs (i + 3)) (xs (i + 4))
  refine V_aload_n (pc := 443) C dL_law_443 rfl 1 rfl ?_
  refine V_arg (pc := 444) (k := 1) C hX hbl hbA hL (by omega) iN1 rfl rfl dL_law_444 dL_law_445 dL_law_446 dL_law_447 dL_law_448 ?_
  refine V_arg (pc := 449) (k := 2) C hX hbl hbA hL (by omega) iN2 rfl rfl dL_law_449 dL_law_450 dL_law_451 dL_law_452 dL_law_453 ?_
  refine V_arg (pc := 454) (k := 3) C hX hbl hbA hL (by omega) iN3 rfl rfl dL_law_454 dL_law_455 dL_law_456 dL_law_457 dL_law_458 ?_
  refine V_arg (pc := 459) (k := 4) C hX hbl hbA hL (by omega) iN4 rfl rfl dL_law_459 dL_law_460 dL_law_461 dL_law_462 dL_law_463 ?_
  refine V_callLR (pc := 464) (rest := []) (st2 := [.int r]) C (X5_other_ok h5) gL_X5_other rfl ⟨rfl, hdX5_other⟩ ⟨Nat.le_of_ble_eq_true rfl, Nat.le_of_ble_eq_true rfl⟩ ⟨Nat.le_of_ble_eq_true rfl, Nat.le_of_ble_eq_true rfl⟩ 5 rfl rfl rfl (Nat.le_of_ble_eq_true rfl) dL_law_464 rfl ?_
  refine V_aload_n (pc := 467) C dL_law_467 rfl 2 rfl ?_
  refine V_arg (pc := 468) (k := 1) C hX hbl hbA hL (by omega) iN1 rfl rfl dL_law_468 dL_law_469 dL_law_470 dL_law_471 dL_law_472 ?_
  refine V_arg (pc := 473) (k := 2) C hX hbl hbA hL (by omega) iN2 rfl rfl dL_law_473 dL_law_474 dL_law_475 dL_law_476 dL_law_477 ?_
  refine V_arg (pc := 478) (k := 3) C hX hbl hbA hL (by omega) iN3 rfl rfl dL_law_478 dL_law_479 dL_law_480 dL_law_481 dL_law_482 ?_
  refine V_arg (pc := 483) (k := 4) C hX hbl hbA hL (by omega) iN4 rfl rfl dL_law_483 dL_law_484 dL_law_485 dL_law_486 dL_law_487 ?_
  refine V_callRR (pc := 488) (rest := [.int r]) (st2 := [.int r, .int r]) C (X6_other_ok h6) gL_X6_other rfl ⟨rfl, hdX6_other⟩ ⟨Nat.le_of_ble_eq_true rfl, Nat.le_of_ble_eq_true rfl⟩ ⟨Nat.le_of_ble_eq_true rfl, Nat.le_of_ble_eq_true rfl⟩ 6 rfl rfl rfl (Nat.le_of_ble_eq_true rfl) dL_law_488 rfl ?_
  refine V_icmp_eq (pc := 491) C 761 dL_law_491 rfl (fun _ => ?_) (fun c => absurd rfl c)
  exact kk _ _ _ _ _ _ _ _ _ _ _ _ ⟨g, hw, hC, hM⟩
theorem law_best (C : Cx X D Y cL_law 4 RL lw_tbl ret room_1) (hA : ∀ q, (xS X).heap.size ≤ q → AA q) (hX : va_X b M xs (xS X) (xS X).heap) (hbl : b < (xS X).heap.size) (hbA : ¬ AA b) (hL : M ≤ 2560) (hi : i + 5 ≤ M) (hR : Rel a q pg gS gU S U I A) (kk : LK X D Y Q AA a a2 b i) : VW X D 4 Q (KM AA X) (65, 481) (wOff Y a q pg gS gU rd ft S U ++ wM Y a2 I A F L) [(0, .ref b), (1, .ref (a 0)), (2, .ref (a2 0)), (3, .int (nI i))] 496 [] := by
  obtain ⟨g, hw, hC, hM⟩ := hR
  obtain ⟨r, o0, ⟨p0, p1, p2, p3, p4, p5, p6⟩, h5, h6⟩ := sim_best (rd := rd) (ft := ft) (F := F) (L := L) hC hM hw (xs (i + 1)) (xs (i + 2)) (xs (i + 3)) (xs (i + 4))
  refine V_aload_n (pc := 496) C dL_law_496 rfl 1 rfl ?_
  refine V_arg (pc := 497) (k := 1) C hX hbl hbA hL (by omega) iN1 rfl rfl dL_law_497 dL_law_498 dL_law_499 dL_law_500 dL_law_501 ?_
  refine V_arg (pc := 502) (k := 2) C hX hbl hbA hL (by omega) iN2 rfl rfl dL_law_502 dL_law_503 dL_law_504 dL_law_505 dL_law_506 ?_
  refine V_arg (pc := 507) (k := 3) C hX hbl hbA hL (by omega) iN3 rfl rfl dL_law_507 dL_law_508 dL_law_509 dL_law_510 dL_law_511 ?_
  refine V_arg (pc := 512) (k := 4) C hX hbl hbA hL (by omega) iN4 rfl rfl dL_law_512 dL_law_513 dL_law_514 dL_law_515 dL_law_516 ?_
  refine V_callLW (pc := 517) (rest := []) (st2 := [.long r]) C hA (X5_best_ok h5) gL_X5_best rfl ⟨rfl, hdX5_best⟩ ⟨Nat.le_of_ble_eq_true rfl, Nat.le_of_ble_eq_true rfl⟩ ⟨Nat.le_of_ble_eq_true rfl, Nat.le_of_ble_eq_true rfl⟩ 5 rfl rfl rfl (Nat.le_of_ble_eq_true rfl) dL_law_517 rfl ?_
  refine V_aload_n (pc := 520) C dL_law_520 rfl 2 rfl ?_
  refine V_arg (pc := 521) (k := 1) C hX hbl hbA hL (by omega) iN1 rfl rfl dL_law_521 dL_law_522 dL_law_523 dL_law_524 dL_law_525 ?_
  refine V_arg (pc := 526) (k := 2) C hX hbl hbA hL (by omega) iN2 rfl rfl dL_law_526 dL_law_527 dL_law_528 dL_law_529 dL_law_530 ?_
  refine V_arg (pc := 531) (k := 3) C hX hbl hbA hL (by omega) iN3 rfl rfl dL_law_531 dL_law_532 dL_law_533 dL_law_534 dL_law_535 ?_
  refine V_arg (pc := 536) (k := 4) C hX hbl hbA hL (by omega) iN4 rfl rfl dL_law_536 dL_law_537 dL_law_538 dL_law_539 dL_law_540 ?_
  refine V_callRW (pc := 541) (rest := [.long r]) (st2 := [.long r, .long r]) C hA (X6_best_ok h6) gL_X6_best rfl ⟨rfl, hdX6_best⟩ ⟨Nat.le_of_ble_eq_true rfl, Nat.le_of_ble_eq_true rfl⟩ ⟨Nat.le_of_ble_eq_true rfl, Nat.le_of_ble_eq_true rfl⟩ 6 rfl rfl rfl (Nat.le_of_ble_eq_true rfl) dL_law_541 rfl ?_
  refine V_lcmp (pc := 544) C dL_law_544 ?_
  refine V_lif_eq (pc := 545) C 761 dL_law_545 rfl (fun _ => ?_) (fun c => absurd rfl c)
  exact kk _ _ _ _ _ _ _ _ _ _ _ _ ⟨g, hw, hC, hM⟩
theorem law_loss (C : Cx X D Y cL_law 4 RL lw_tbl ret room_1) (hA : ∀ q, (xS X).heap.size ≤ q → AA q) (hX : va_X b M xs (xS X) (xS X).heap) (hbl : b < (xS X).heap.size) (hbA : ¬ AA b) (hL : M ≤ 2560) (hi : i + 5 ≤ M) (hR : Rel a q pg gS gU S U I A) (kk : LK X D Y Q AA a a2 b i) : VW X D 4 Q (KM AA X) (65, 481) (wOff Y a q pg gS gU rd ft S U ++ wM Y a2 I A F L) [(0, .ref b), (1, .ref (a 0)), (2, .ref (a2 0)), (3, .int (nI i))] 550 [] := by
  obtain ⟨g, hw, hC, hM⟩ := hR
  obtain ⟨r, o0, ⟨p0, p1, p2, p3, p4, p5, p6⟩, h5, h6⟩ := sim_loss (rd := rd) (ft := ft) (F := F) (L := L) hC hM hw (xs (i + 1)) (xs (i + 2)) (xs (i + 3))
  refine V_aload_n (pc := 550) C dL_law_550 rfl 1 rfl ?_
  refine V_arg (pc := 551) (k := 1) C hX hbl hbA hL (by omega) iN1 rfl rfl dL_law_551 dL_law_552 dL_law_553 dL_law_554 dL_law_555 ?_
  refine V_arg (pc := 556) (k := 2) C hX hbl hbA hL (by omega) iN2 rfl rfl dL_law_556 dL_law_557 dL_law_558 dL_law_559 dL_law_560 ?_
  refine V_arg (pc := 561) (k := 3) C hX hbl hbA hL (by omega) iN3 rfl rfl dL_law_561 dL_law_562 dL_law_563 dL_law_564 dL_law_565 ?_
  refine V_callLW (pc := 566) (rest := []) (st2 := [.long r]) C hA (X5_loss_ok h5) gL_X5_loss rfl ⟨rfl, hdX5_loss⟩ ⟨Nat.le_of_ble_eq_true rfl, Nat.le_of_ble_eq_true rfl⟩ ⟨Nat.le_of_ble_eq_true rfl, Nat.le_of_ble_eq_true rfl⟩ 5 rfl rfl rfl (Nat.le_of_ble_eq_true rfl) dL_law_566 rfl ?_
  refine V_aload_n (pc := 569) C dL_law_569 rfl 2 rfl ?_
  refine V_arg (pc := 570) (k := 1) C hX hbl hbA hL (by omega) iN1 rfl rfl dL_law_570 dL_law_571 dL_law_572 dL_law_573 dL_law_574 ?_
  refine V_arg (pc := 575) (k := 2) C hX hbl hbA hL (by omega) iN2 rfl rfl dL_law_575 dL_law_576 dL_law_577 dL_law_578 dL_law_579 ?_
  refine V_arg (pc := 580) (k := 3) C hX hbl hbA hL (by omega) iN3 rfl rfl dL_law_580 dL_law_581 dL_law_582 dL_law_583 dL_law_584 ?_
  refine V_callRW (pc := 585) (rest := [.long r]) (st2 := [.long r, .long r]) C hA (X6_loss_ok h6) gL_X6_loss rfl ⟨rfl, hdX6_loss⟩ ⟨Nat.le_of_ble_eq_true rfl, Nat.le_of_ble_eq_true rfl⟩ ⟨Nat.le_of_ble_eq_true rfl, Nat.le_of_ble_eq_true rfl⟩ 6 rfl rfl rfl (Nat.le_of_ble_eq_true rfl) dL_law_585 rfl ?_
  refine V_lcmp (pc := 588) C dL_law_588 ?_
  refine V_lif_eq (pc := 589) C 761 dL_law_589 rfl (fun _ => ?_) (fun c => absurd rfl c)
  exact kk _ _ _ _ _ _ _ _ _ _ _ _ ⟨g, hw, hC, hM⟩
theorem law_press (C : Cx X D Y cL_law 4 RL lw_tbl ret room_1) (hA : ∀ q, (xS X).heap.size ≤ q → AA q) (hX : va_X b M xs (xS X) (xS X).heap) (hbl : b < (xS X).heap.size) (hbA : ¬ AA b) (hL : M ≤ 2560) (hi : i + 5 ≤ M) (hR : Rel a q pg gS gU S U I A) (kk : LK X D Y Q AA a a2 b i) : VW X D 4 Q (KM AA X) (65, 481) (wOff Y a q pg gS gU rd ft S U ++ wM Y a2 I A F L) [(0, .ref b), (1, .ref (a 0)), (2, .ref (a2 0)), (3, .int (nI i))] 594 [] := by
  obtain ⟨g, hw, hC, hM⟩ := hR
  obtain ⟨r, o0, ⟨p0, p1, p2, p3, p4, p5, p6⟩, h5, h6⟩ := sim_press (rd := rd) (ft := ft) (F := F) (L := L) hC hM hw (xs (i + 1)) (xs (i + 2)) (xs (i + 3)) (xs (i + 4))
  refine V_aload_n (pc := 594) C dL_law_594 rfl 1 rfl ?_
  refine V_arg (pc := 595) (k := 1) C hX hbl hbA hL (by omega) iN1 rfl rfl dL_law_595 dL_law_596 dL_law_597 dL_law_598 dL_law_599 ?_
  refine V_arg (pc := 600) (k := 2) C hX hbl hbA hL (by omega) iN2 rfl rfl dL_law_600 dL_law_601 dL_law_602 dL_law_603 dL_law_604 ?_
  refine V_arg (pc := 605) (k := 3) C hX hbl hbA hL (by omega) iN3 rfl rfl dL_law_605 dL_law_606 dL_law_607 dL_law_608 dL_law_609 ?_
  refine V_arg (pc := 610) (k := 4) C hX hbl hbA hL (by omega) iN4 rfl rfl dL_law_610 dL_law_611 dL_law_612 dL_law_613 dL_law_614 ?_
  refine V_callLW (pc := 615) (rest := []) (st2 := [.long r]) C hA (X5_press_ok h5) gL_X5_press rfl ⟨rfl, hdX5_press⟩ ⟨Nat.le_of_ble_eq_true rfl, Nat.le_of_ble_eq_true rfl⟩ ⟨Nat.le_of_ble_eq_true rfl, Nat.le_of_ble_eq_true rfl⟩ 5 rfl rfl rfl (Nat.le_of_ble_eq_true rfl) dL_law_615 rfl ?_
  refine V_aload_n (pc := 618) C dL_law_618 rfl 2 rfl ?_
  refine V_arg (pc := 619) (k := 1) C hX hbl hbA hL (by omega) iN1 rfl rfl dL_law_619 dL_law_620 dL_law_621 dL_law_622 dL_law_623 ?_
  refine V_arg (pc := 624) (k := 2) C hX hbl hbA hL (by omega) iN2 rfl rfl dL_law_624 dL_law_625 dL_law_626 dL_law_627 dL_law_628 ?_
  refine V_arg (pc := 629) (k := 3) C hX hbl hbA hL (by omega) iN3 rfl rfl dL_law_629 dL_law_630 dL_law_631 dL_law_632 dL_law_633 ?_
  refine V_arg (pc := 634) (k := 4) C hX hbl hbA hL (by omega) iN4 rfl rfl dL_law_634 dL_law_635 dL_law_636 dL_law_637 dL_law_638 ?_
  refine V_callRW (pc := 639) (rest := [.long r]) (st2 := [.long r, .long r]) C hA (X6_press_ok h6) gL_X6_press rfl ⟨rfl, hdX6_press⟩ ⟨Nat.le_of_ble_eq_true rfl, Nat.le_of_ble_eq_true rfl⟩ ⟨Nat.le_of_ble_eq_true rfl, Nat.le_of_ble_eq_true rfl⟩ 6 rfl rfl rfl (Nat.le_of_ble_eq_true rfl) dL_law_639 rfl ?_
  refine V_lcmp (pc := 642) C dL_law_642 ?_
  refine V_lif_eq (pc := 643) C 761 dL_law_643 rfl (fun _ => ?_) (fun c => absurd rfl c)
  exact kk _ _ _ _ _ _ _ _ _ _ _ _ ⟨g, hw, hC, hM⟩
end LC
