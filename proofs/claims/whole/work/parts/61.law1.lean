/-! the law's cases -/
set_option maxHeartbeats 4000000 in
theorem lw_c7 {G : GT} {k z : Nat} {Q : QT} {S : ST} {M : MT} (ok : okST S) (h : RC S M) (g : RM S M) (i : Nat) (hi : i + 7 ≤ G.2.2.2.2.2.1) (hL : G.2.2.2.2.2.1 ≤ 448) (hk : k ≤ 600000) (hz : z ≤ 7302250) (kk : ∀ S' M', okST S' → RC S' M' → RM S' M' → Wp G J_lw_law k z 1367 [(0, pR 1001), (1, pR 0), (2, pR 101), (3, pI (i : Int))] [] NN RF M' Q) : Wp G J_lw_law k z 409 [(0, pR 1001), (1, pR 0), (2, pR 101), (3, pI (i : Int))] [] NN RF M Q := by
  refine wp_aload_n d_lw_law_409 rfl 1 rfl ?_
  refine wp_callV [] 0 d_lw_law_410 jd_tl_back lk_lw_44 rfl s_0 rfl (Nat.le_of_ble_eq_true rfl) (Nat.le_of_ble_eq_true rfl) (rm_kz rfl hk hz) ?_
  refine clI_k (P := fun x M1 => Wp G J_lw_law k z 413 [(0, pR 1001), (1, pR 0), (2, pR 101), (3, pI (i : Int))] [pI x] NN RF M1 Q) (c_tl_back ok h  (fun M1 f1 r1 => ?_)) (fun _ _ hx => hx)
  have g1 := g.fx f1
  refine wp_aload_n d_lw_law_413 rfl 2 rfl ?_
  refine wp_callV [] 101 d_lw_law_414 jd_mo_back lk_lw_48 rfl s_101 rfl (Nat.le_of_ble_eq_true rfl) (Nat.le_of_ble_eq_true rfl) (rm_kz rfl hk hz) ?_
  refine clI_k (P := fun y M2 => Wp G J_lw_law k z 417 [(0, pR 1001), (1, pR 0), (2, pR 101), (3, pI (i : Int))] [pI y, pI _] NN RF M2 Q) (c_mo_back ok g1  (fun M2 f2 g2 => ?_)) (fun _ _ hx => hx)
  exact wp_icmp_eq 1367 d_lw_law_417 (by decide) (fun _ => kk _ M2 (ok_back ok) (r1.fo (ok_back ok) f2) g2) (fun c => absurd rfl c)
set_option maxHeartbeats 4000000 in
theorem lw_c8 {G : GT} {k z : Nat} {Q : QT} {S : ST} {M : MT} (ok : okST S) (h : RC S M) (g : RM S M) (i : Nat) (hi : i + 7 ≤ G.2.2.2.2.2.1) (hL : G.2.2.2.2.2.1 ≤ 448) (hk : k ≤ 600000) (hz : z ≤ 7302250) (kk : ∀ S' M', okST S' → RC S' M' → RM S' M' → Wp G J_lw_law k z 1367 [(0, pR 1001), (1, pR 0), (2, pR 101), (3, pI (i : Int))] [] NN RF M' Q) : Wp G J_lw_law k z 422 [(0, pR 1001), (1, pR 0), (2, pR 101), (3, pI (i : Int))] [] NN RF M Q := by
  refine wp_aload_n d_lw_law_422 rfl 1 rfl ?_
  refine lw_arg 1 (by omega) d_lw_law_423 d_lw_law_424 d_lw_law_425 d_lw_law_426 d_lw_law_427 hi hL ?_
  refine wp_callV [pI _] 0 d_lw_law_428 jd_tl_read lk_lw_49 rfl s_0 rfl (Nat.le_of_ble_eq_true rfl) (Nat.le_of_ble_eq_true rfl) (rm_kz rfl hk hz) ?_
  refine clI_k (P := fun x M1 => Wp G J_lw_law k z 431 [(0, pR 1001), (1, pR 0), (2, pR 101), (3, pI (i : Int))] [pI x] NN RF M1 Q) (c_tl_read ok h _ (fun M1 f1 r1 => ?_)) (fun _ _ hx => hx)
  have g1 := g.fx f1
  refine wp_aload_n d_lw_law_431 rfl 2 rfl ?_
  refine lw_arg 1 (by omega) d_lw_law_432 d_lw_law_433 d_lw_law_434 d_lw_law_435 d_lw_law_436 hi hL ?_
  refine wp_callV [pI _] 101 d_lw_law_437 jd_mo_read lk_lw_52 rfl s_101 rfl (Nat.le_of_ble_eq_true rfl) (Nat.le_of_ble_eq_true rfl) (rm_kz rfl hk hz) ?_
  refine clI_k (P := fun y M2 => Wp G J_lw_law k z 440 [(0, pR 1001), (1, pR 0), (2, pR 101), (3, pI (i : Int))] [pI y, pI _] NN RF M2 Q) (c_mo_read ok g1 _ (fun M2 f2 g2 => ?_)) (fun _ _ hx => hx)
  exact wp_icmp_eq 1367 d_lw_law_440 (by decide) (fun _ => kk _ M2 (ok_read ok _) (r1.fo (ok_read ok _) f2) g2) (fun c => absurd rfl c)
set_option maxHeartbeats 4000000 in
theorem lw_c9 {G : GT} {k z : Nat} {Q : QT} {S : ST} {M : MT} (ok : okST S) (h : RC S M) (g : RM S M) (i : Nat) (hi : i + 7 ≤ G.2.2.2.2.2.1) (hL : G.2.2.2.2.2.1 ≤ 448) (hk : k ≤ 600000) (hz : z ≤ 7302250) (kk : ∀ S' M', okST S' → RC S' M' → RM S' M' → Wp G J_lw_law k z 1367 [(0, pR 1001), (1, pR 0), (2, pR 101), (3, pI (i : Int))] [] NN RF M' Q) : Wp G J_lw_law k z 445 [(0, pR 1001), (1, pR 0), (2, pR 101), (3, pI (i : Int))] [] NN RF M Q := by
  refine wp_aload_n d_lw_law_445 rfl 1 rfl ?_
  refine lw_arg 1 (by omega) d_lw_law_446 d_lw_law_447 d_lw_law_448 d_lw_law_449 d_lw_law_450 hi hL ?_
  refine wp_callV [pI _] 0 d_lw_law_451 jd_tl_ear lk_lw_53 rfl s_0 rfl (Nat.le_of_ble_eq_true rfl) (Nat.le_of_ble_eq_true rfl) (rm_kz rfl hk hz) ?_
  refine clI_k (P := fun x M1 => Wp G J_lw_law k z 454 [(0, pR 1001), (1, pR 0), (2, pR 101), (3, pI (i : Int))] [pI x] NN RF M1 Q) (c_tl_ear ok h _ (fun M1 f1 r1 => ?_)) (fun _ _ hx => hx)
  have g1 := g.fx f1
  refine wp_aload_n d_lw_law_454 rfl 2 rfl ?_
  refine lw_arg 1 (by omega) d_lw_law_455 d_lw_law_456 d_lw_law_457 d_lw_law_458 d_lw_law_459 hi hL ?_
  refine wp_callV [pI _] 101 d_lw_law_460 jd_mo_ear lk_lw_56 rfl s_101 rfl (Nat.le_of_ble_eq_true rfl) (Nat.le_of_ble_eq_true rfl) (rm_kz rfl hk hz) ?_
  refine clI_k (P := fun y M2 => Wp G J_lw_law k z 463 [(0, pR 1001), (1, pR 0), (2, pR 101), (3, pI (i : Int))] [pI y, pI _] NN RF M2 Q) (c_mo_ear ok g1 _ (fun M2 f2 g2 => ?_)) (fun _ _ hx => hx)
  exact wp_icmp_eq 1367 d_lw_law_463 (by decide) (fun _ => kk _ M2 (ok_ear ok _) (r1.fo (ok_ear ok _) f2) g2) (fun c => absurd rfl c)
set_option maxHeartbeats 4000000 in
theorem lw_c10 {G : GT} {k z : Nat} {Q : QT} {S : ST} {M : MT} (ok : okST S) (h : RC S M) (g : RM S M) (i : Nat) (hi : i + 7 ≤ G.2.2.2.2.2.1) (hL : G.2.2.2.2.2.1 ≤ 448) (hk : k ≤ 600000) (hz : z ≤ 7302250) (kk : ∀ S' M', okST S' → RC S' M' → RM S' M' → Wp G J_lw_law k z 1367 [(0, pR 1001), (1, pR 0), (2, pR 101), (3, pI (i : Int))] [] NN RF M' Q) : Wp G J_lw_law k z 468 [(0, pR 1001), (1, pR 0), (2, pR 101), (3, pI (i : Int))] [] NN RF M Q := by
  refine wp_aload_n d_lw_law_468 rfl 1 rfl ?_
  refine lw_arg 1 (by omega) d_lw_law_469 d_lw_law_470 d_lw_law_471 d_lw_law_472 d_lw_law_473 hi hL ?_
  refine lw_arg 2 (by omega) d_lw_law_474 d_lw_law_475 d_lw_law_476 d_lw_law_477 d_lw_law_478 hi hL ?_
  refine lw_arg 3 (by omega) d_lw_law_479 d_lw_law_480 d_lw_law_481 d_lw_law_482 d_lw_law_483 hi hL ?_
  refine wp_callV [pI _, pI _, pI _] 0 d_lw_law_484 jd_tl_notes lk_lw_57 rfl s_0 rfl (Nat.le_of_ble_eq_true rfl) (Nat.le_of_ble_eq_true rfl) (rm_kz rfl hk hz) ?_
  refine clI_k (P := fun x M1 => Wp G J_lw_law k z 487 [(0, pR 1001), (1, pR 0), (2, pR 101), (3, pI (i : Int))] [pI x] NN RF M1 Q) (c_tl_notes ok.d ok.2.2.2.1.1 h.qc _ _ _ (fun M1 f1 k1 => ?_)) (fun _ _ hx => hx)
  have r1 := h.fc ok f1 k1
  have g1 := g.fx f1.fx
  refine wp_aload_n d_lw_law_487 rfl 2 rfl ?_
  refine lw_arg 1 (by omega) d_lw_law_488 d_lw_law_489 d_lw_law_490 d_lw_law_491 d_lw_law_492 hi hL ?_
  refine lw_arg 2 (by omega) d_lw_law_493 d_lw_law_494 d_lw_law_495 d_lw_law_496 d_lw_law_497 hi hL ?_
  refine lw_arg 3 (by omega) d_lw_law_498 d_lw_law_499 d_lw_law_500 d_lw_law_501 d_lw_law_502 hi hL ?_
  refine wp_callV [pI _, pI _, pI _] 101 d_lw_law_503 jd_mo_notes lk_lw_61 rfl s_101 rfl (Nat.le_of_ble_eq_true rfl) (Nat.le_of_ble_eq_true rfl) (rm_kz rfl hk hz) ?_
  refine clI_k (P := fun y M2 => Wp G J_lw_law k z 506 [(0, pR 1001), (1, pR 0), (2, pR 101), (3, pI (i : Int))] [pI y, pI _] NN RF M2 Q) (c_mo_notes ok.d (g1.rd ok) g1.2.2.2.1.1 _ _ _ (fun M2 f2 => ?_)) (fun _ _ hx => hx)
  exact wp_icmp_eq 1367 d_lw_law_506 (by decide) (fun _ => kk S M2 ok (r1.fo ok f2.fo) (g1.fa f2)) (fun c => absurd rfl c)
set_option maxHeartbeats 4000000 in
theorem lw_c11 {G : GT} {k z : Nat} {Q : QT} {S : ST} {M : MT} (ok : okST S) (h : RC S M) (g : RM S M) (i : Nat) (hi : i + 7 ≤ G.2.2.2.2.2.1) (hL : G.2.2.2.2.2.1 ≤ 448) (hk : k ≤ 600000) (hz : z ≤ 7302250) (kk : ∀ S' M', okST S' → RC S' M' → RM S' M' → Wp G J_lw_law k z 1367 [(0, pR 1001), (1, pR 0), (2, pR 101), (3, pI (i : Int))] [] NN RF M' Q) : Wp G J_lw_law k z 511 [(0, pR 1001), (1, pR 0), (2, pR 101), (3, pI (i : Int))] [] NN RF M Q := by
  refine wp_aload_n d_lw_law_511 rfl 1 rfl ?_
  refine lw_arg 1 (by omega) d_lw_law_512 d_lw_law_513 d_lw_law_514 d_lw_law_515 d_lw_law_516 hi hL ?_
  refine lw_arg 2 (by omega) d_lw_law_517 d_lw_law_518 d_lw_law_519 d_lw_law_520 d_lw_law_521 hi hL ?_
  refine wp_callV [pI _, pI _] 0 d_lw_law_522 jd_tl_has lk_lw_62 rfl s_0 rfl (Nat.le_of_ble_eq_true rfl) (Nat.le_of_ble_eq_true rfl) (rm_kz rfl hk hz) ?_
  refine clI_k (P := fun x M1 => Wp G J_lw_law k z 525 [(0, pR 1001), (1, pR 0), (2, pR 101), (3, pI (i : Int))] [pI x] NN RF M1 Q) (c_tl_has ok.d ok.2.2.2.1.1 h.qc _ _ (fun M1 f1 k1 => ?_)) (fun _ _ hx => hx)
  have r1 := h.fc ok f1 k1
  have g1 := g.fx f1.fx
  refine wp_aload_n d_lw_law_525 rfl 2 rfl ?_
  refine lw_arg 1 (by omega) d_lw_law_526 d_lw_law_527 d_lw_law_528 d_lw_law_529 d_lw_law_530 hi hL ?_
  refine lw_arg 2 (by omega) d_lw_law_531 d_lw_law_532 d_lw_law_533 d_lw_law_534 d_lw_law_535 hi hL ?_
  refine wp_callV [pI _, pI _] 101 d_lw_law_536 jd_mo_has lk_lw_65 rfl s_101 rfl (Nat.le_of_ble_eq_true rfl) (Nat.le_of_ble_eq_true rfl) (rm_kz rfl hk hz) ?_
  refine clI_k (P := fun y M2 => Wp G J_lw_law k z 539 [(0, pR 1001), (1, pR 0), (2, pR 101), (3, pI (i : Int))] [pI y, pI _] NN RF M2 Q) (c_mo_has ok.d (g1.rd ok) g1.2.2.2.1.1 _ _ (fun M2 f2 => ?_)) (fun _ _ hx => hx)
  exact wp_icmp_eq 1367 d_lw_law_539 (by decide) (fun _ => kk S M2 ok (r1.fo ok f2.fo) (g1.fa f2)) (fun c => absurd rfl c)
set_option maxHeartbeats 4000000 in
theorem lw_c12 {G : GT} {k z : Nat} {Q : QT} {S : ST} {M : MT} (ok : okST S) (h : RC S M) (g : RM S M) (i : Nat) (hi : i + 7 ≤ G.2.2.2.2.2.1) (hL : G.2.2.2.2.2.1 ≤ 448) (hk : k ≤ 600000) (hz : z ≤ 7302250) (kk : ∀ S' M', okST S' → RC S' M' → RM S' M' → Wp G J_lw_law k z 1367 [(0, pR 1001), (1, pR 0), (2, pR 101), (3, pI (i : Int))] [] NN RF M' Q) : Wp G J_lw_law k z 544 [(0, pR 1001), (1, pR 0), (2, pR 101), (3, pI (i : Int))] [] NN RF M Q := by
  refine wp_aload_n d_lw_law_544 rfl 1 rfl ?_
  refine lw_arg 1 (by omega) d_lw_law_545 d_lw_law_546 d_lw_law_547 d_lw_law_548 d_lw_law_549 hi hL ?_
  refine lw_arg 2 (by omega) d_lw_law_550 d_lw_law_551 d_lw_law_552 d_lw_law_553 d_lw_law_554 hi hL ?_
  refine wp_callV [pI _, pI _] 0 d_lw_law_555 jd_tl_came lk_lw_66 rfl s_0 rfl (Nat.le_of_ble_eq_true rfl) (Nat.le_of_ble_eq_true rfl) (rm_kz rfl hk hz) ?_
  refine clI_k (P := fun x M1 => Wp G J_lw_law k z 558 [(0, pR 1001), (1, pR 0), (2, pR 101), (3, pI (i : Int))] [pI x] NN RF M1 Q) (c_tl_came ok.d ok.2.2.2.1.1 h.qc _ _ (fun M1 f1 k1 => ?_)) (fun _ _ hx => hx)
  have r1 := h.fc ok f1 k1
  have g1 := g.fx f1.fx
  refine wp_aload_n d_lw_law_558 rfl 2 rfl ?_
  refine lw_arg 1 (by omega) d_lw_law_559 d_lw_law_560 d_lw_law_561 d_lw_law_562 d_lw_law_563 hi hL ?_
  refine lw_arg 2 (by omega) d_lw_law_564 d_lw_law_565 d_lw_law_566 d_lw_law_567 d_lw_law_568 hi hL ?_
  refine wp_callV [pI _, pI _] 101 d_lw_law_569 jd_mo_came lk_lw_69 rfl s_101 rfl (Nat.le_of_ble_eq_true rfl) (Nat.le_of_ble_eq_true rfl) (rm_kz rfl hk hz) ?_
  refine clI_k (P := fun y M2 => Wp G J_lw_law k z 572 [(0, pR 1001), (1, pR 0), (2, pR 101), (3, pI (i : Int))] [pI y, pI _] NN RF M2 Q) (c_mo_came ok.d (g1.rd ok) g1.2.2.2.1.1 _ _ (fun M2 f2 => ?_)) (fun _ _ hx => hx)
  exact wp_icmp_eq 1367 d_lw_law_572 (by decide) (fun _ => kk S M2 ok (r1.fo ok f2.fo) (g1.fa f2)) (fun c => absurd rfl c)
set_option maxHeartbeats 4000000 in
theorem lw_c13 {G : GT} {k z : Nat} {Q : QT} {S : ST} {M : MT} (ok : okST S) (h : RC S M) (g : RM S M) (i : Nat) (hi : i + 7 ≤ G.2.2.2.2.2.1) (hL : G.2.2.2.2.2.1 ≤ 448) (hk : k ≤ 600000) (hz : z ≤ 7302250) (kk : ∀ S' M', okST S' → RC S' M' → RM S' M' → Wp G J_lw_law k z 1367 [(0, pR 1001), (1, pR 0), (2, pR 101), (3, pI (i : Int))] [] NN RF M' Q) : Wp G J_lw_law k z 577 [(0, pR 1001), (1, pR 0), (2, pR 101), (3, pI (i : Int))] [] NN RF M Q := by
  refine wp_aload_n d_lw_law_577 rfl 1 rfl ?_
  refine lw_arg 1 (by omega) d_lw_law_578 d_lw_law_579 d_lw_law_580 d_lw_law_581 d_lw_law_582 hi hL ?_
  refine wp_callV [pI _] 0 d_lw_law_583 jd_tl_interest lk_lw_70 rfl s_0 rfl (Nat.le_of_ble_eq_true rfl) (Nat.le_of_ble_eq_true rfl) (rm_kz rfl hk hz) ?_
  refine clI_k (P := fun x M1 => Wp G J_lw_law k z 586 [(0, pR 1001), (1, pR 0), (2, pR 101), (3, pI (i : Int))] [pI x] NN RF M1 Q) (c_tl_interest ok.d ok.2.2.2.1.1 h.qc _ (fun M1 f1 k1 => ?_)) (fun _ _ hx => hx)
  have r1 := h.fc ok f1 k1
  have g1 := g.fx f1.fx
  refine wp_aload_n d_lw_law_586 rfl 2 rfl ?_
  refine lw_arg 1 (by omega) d_lw_law_587 d_lw_law_588 d_lw_law_589 d_lw_law_590 d_lw_law_591 hi hL ?_
  refine wp_callV [pI _] 101 d_lw_law_592 jd_mo_interest lk_lw_73 rfl s_101 rfl (Nat.le_of_ble_eq_true rfl) (Nat.le_of_ble_eq_true rfl) (rm_kz rfl hk hz) ?_
  refine clI_k (P := fun y M2 => Wp G J_lw_law k z 595 [(0, pR 1001), (1, pR 0), (2, pR 101), (3, pI (i : Int))] [pI y, pI _] NN RF M2 Q) (c_mo_interest ok.d (g1.rd ok) g1.2.2.2.1.1 _ (fun M2 f2 => ?_)) (fun _ _ hx => hx)
  exact wp_icmp_eq 1367 d_lw_law_595 (by decide) (fun _ => kk S M2 ok (r1.fo ok f2.fo) (g1.fa f2)) (fun c => absurd rfl c)
