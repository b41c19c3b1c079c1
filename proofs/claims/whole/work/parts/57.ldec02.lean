/-! decode rows of the law -/
theorem d_lw_law_466 : decode code 466 = .ok (.iconst 0, 1) := by decide +kernel
theorem d_lw_law_467 : decode code 467 = .ok (.ireturn, 1) := by decide +kernel
theorem d_lw_law_468 : decode code 468 = .ok (.aload_n 1, 1) := by decide +kernel
theorem d_lw_law_469 : decode code 469 = .ok (.aload_n 0, 1) := by decide +kernel
theorem d_lw_law_470 : decode code 470 = .ok (.iload_n 3, 1) := by decide +kernel
theorem d_lw_law_471 : decode code 471 = .ok (.iconst 1, 1) := by decide +kernel
theorem d_lw_law_472 : decode code 472 = .ok (.iadd, 1) := by decide +kernel
theorem d_lw_law_473 : decode code 473 = .ok (.iaload, 1) := by decide +kernel
theorem d_lw_law_474 : decode code 474 = .ok (.aload_n 0, 1) := by decide +kernel
theorem d_lw_law_475 : decode code 475 = .ok (.iload_n 3, 1) := by decide +kernel
theorem d_lw_law_476 : decode code 476 = .ok (.iconst 2, 1) := by decide +kernel
theorem d_lw_law_477 : decode code 477 = .ok (.iadd, 1) := by decide +kernel
theorem d_lw_law_478 : decode code 478 = .ok (.iaload, 1) := by decide +kernel
theorem d_lw_law_479 : decode code 479 = .ok (.aload_n 0, 1) := by decide +kernel
theorem d_lw_law_480 : decode code 480 = .ok (.iload_n 3, 1) := by decide +kernel
theorem d_lw_law_481 : decode code 481 = .ok (.iconst 3, 1) := by decide +kernel
theorem d_lw_law_482 : decode code 482 = .ok (.iadd, 1) := by decide +kernel
theorem d_lw_law_483 : decode code 483 = .ok (.iaload, 1) := by decide +kernel
theorem d_lw_law_484 : decode code 484 = .ok (.invokevirtual 57, 3) := by decide +kernel
theorem d_lw_law_487 : decode code 487 = .ok (.aload_n 2, 1) := by decide +kernel
theorem d_lw_law_488 : decode code 488 = .ok (.aload_n 0, 1) := by decide +kernel
theorem d_lw_law_489 : decode code 489 = .ok (.iload_n 3, 1) := by decide +kernel
theorem d_lw_law_490 : decode code 490 = .ok (.iconst 1, 1) := by decide +kernel
theorem d_lw_law_491 : decode code 491 = .ok (.iadd, 1) := by decide +kernel
theorem d_lw_law_492 : decode code 492 = .ok (.iaload, 1) := by decide +kernel
theorem d_lw_law_493 : decode code 493 = .ok (.aload_n 0, 1) := by decide +kernel
theorem d_lw_law_494 : decode code 494 = .ok (.iload_n 3, 1) := by decide +kernel
theorem d_lw_law_495 : decode code 495 = .ok (.iconst 2, 1) := by decide +kernel
theorem d_lw_law_496 : decode code 496 = .ok (.iadd, 1) := by decide +kernel
theorem d_lw_law_497 : decode code 497 = .ok (.iaload, 1) := by decide +kernel
theorem d_lw_law_498 : decode code 498 = .ok (.aload_n 0, 1) := by decide +kernel
theorem d_lw_law_499 : decode code 499 = .ok (.iload_n 3, 1) := by decide +kernel
theorem d_lw_law_500 : decode code 500 = .ok (.iconst 3, 1) := by decide +kernel
theorem d_lw_law_501 : decode code 501 = .ok (.iadd, 1) := by decide +kernel
theorem d_lw_law_502 : decode code 502 = .ok (.iaload, 1) := by decide +kernel
theorem d_lw_law_503 : decode code 503 = .ok (.invokevirtual 61, 3) := by decide +kernel
theorem d_lw_law_506 : decode code 506 = .ok (.if_icmp .eq 861, 3) := by decide +kernel
theorem d_lw_law_509 : decode code 509 = .ok (.iconst 0, 1) := by decide +kernel
theorem d_lw_law_510 : decode code 510 = .ok (.ireturn, 1) := by decide +kernel
theorem d_lw_law_511 : decode code 511 = .ok (.aload_n 1, 1) := by decide +kernel
theorem d_lw_law_512 : decode code 512 = .ok (.aload_n 0, 1) := by decide +kernel
theorem d_lw_law_513 : decode code 513 = .ok (.iload_n 3, 1) := by decide +kernel
theorem d_lw_law_514 : decode code 514 = .ok (.iconst 1, 1) := by decide +kernel
theorem d_lw_law_515 : decode code 515 = .ok (.iadd, 1) := by decide +kernel
theorem d_lw_law_516 : decode code 516 = .ok (.iaload, 1) := by decide +kernel
theorem d_lw_law_517 : decode code 517 = .ok (.aload_n 0, 1) := by decide +kernel
theorem d_lw_law_518 : decode code 518 = .ok (.iload_n 3, 1) := by decide +kernel
theorem d_lw_law_519 : decode code 519 = .ok (.iconst 2, 1) := by decide +kernel
theorem d_lw_law_520 : decode code 520 = .ok (.iadd, 1) := by decide +kernel
theorem d_lw_law_521 : decode code 521 = .ok (.iaload, 1) := by decide +kernel
theorem d_lw_law_522 : decode code 522 = .ok (.invokevirtual 62, 3) := by decide +kernel
theorem d_lw_law_525 : decode code 525 = .ok (.aload_n 2, 1) := by decide +kernel
theorem d_lw_law_526 : decode code 526 = .ok (.aload_n 0, 1) := by decide +kernel
theorem d_lw_law_527 : decode code 527 = .ok (.iload_n 3, 1) := by decide +kernel
theorem d_lw_law_528 : decode code 528 = .ok (.iconst 1, 1) := by decide +kernel
theorem d_lw_law_529 : decode code 529 = .ok (.iadd, 1) := by decide +kernel
theorem d_lw_law_530 : decode code 530 = .ok (.iaload, 1) := by decide +kernel
theorem d_lw_law_531 : decode code 531 = .ok (.aload_n 0, 1) := by decide +kernel
theorem d_lw_law_532 : decode code 532 = .ok (.iload_n 3, 1) := by decide +kernel
theorem d_lw_law_533 : decode code 533 = .ok (.iconst 2, 1) := by decide +kernel
theorem d_lw_law_534 : decode code 534 = .ok (.iadd, 1) := by decide +kernel
theorem d_lw_law_535 : decode code 535 = .ok (.iaload, 1) := by decide +kernel
theorem d_lw_law_536 : decode code 536 = .ok (.invokevirtual 65, 3) := by decide +kernel
theorem d_lw_law_539 : decode code 539 = .ok (.if_icmp .eq 828, 3) := by decide +kernel
theorem d_lw_law_542 : decode code 542 = .ok (.iconst 0, 1) := by decide +kernel
theorem d_lw_law_543 : decode code 543 = .ok (.ireturn, 1) := by decide +kernel
theorem d_lw_law_544 : decode code 544 = .ok (.aload_n 1, 1) := by decide +kernel
theorem d_lw_law_545 : decode code 545 = .ok (.aload_n 0, 1) := by decide +kernel
theorem d_lw_law_546 : decode code 546 = .ok (.iload_n 3, 1) := by decide +kernel
theorem d_lw_law_547 : decode code 547 = .ok (.iconst 1, 1) := by decide +kernel
theorem d_lw_law_548 : decode code 548 = .ok (.iadd, 1) := by decide +kernel
theorem d_lw_law_549 : decode code 549 = .ok (.iaload, 1) := by decide +kernel
theorem d_lw_law_550 : decode code 550 = .ok (.aload_n 0, 1) := by decide +kernel
theorem d_lw_law_551 : decode code 551 = .ok (.iload_n 3, 1) := by decide +kernel
theorem d_lw_law_552 : decode code 552 = .ok (.iconst 2, 1) := by decide +kernel
theorem d_lw_law_553 : decode code 553 = .ok (.iadd, 1) := by decide +kernel
theorem d_lw_law_554 : decode code 554 = .ok (.iaload, 1) := by decide +kernel
theorem d_lw_law_555 : decode code 555 = .ok (.invokevirtual 66, 3) := by decide +kernel
theorem d_lw_law_558 : decode code 558 = .ok (.aload_n 2, 1) := by decide +kernel
theorem d_lw_law_559 : decode code 559 = .ok (.aload_n 0, 1) := by decide +kernel
theorem d_lw_law_560 : decode code 560 = .ok (.iload_n 3, 1) := by decide +kernel
theorem d_lw_law_561 : decode code 561 = .ok (.iconst 1, 1) := by decide +kernel
theorem d_lw_law_562 : decode code 562 = .ok (.iadd, 1) := by decide +kernel
theorem d_lw_law_563 : decode code 563 = .ok (.iaload, 1) := by decide +kernel
theorem d_lw_law_564 : decode code 564 = .ok (.aload_n 0, 1) := by decide +kernel
theorem d_lw_law_565 : decode code 565 = .ok (.iload_n 3, 1) := by decide +kernel
theorem d_lw_law_566 : decode code 566 = .ok (.iconst 2, 1) := by decide +kernel
theorem d_lw_law_567 : decode code 567 = .ok (.iadd, 1) := by decide +kernel
theorem d_lw_law_568 : decode code 568 = .ok (.iaload, 1) := by decide +kernel
theorem d_lw_law_569 : decode code 569 = .ok (.invokevirtual 69, 3) := by decide +kernel
theorem d_lw_law_572 : decode code 572 = .ok (.if_icmp .eq 795, 3) := by decide +kernel
theorem d_lw_law_575 : decode code 575 = .ok (.iconst 0, 1) := by decide +kernel
theorem d_lw_law_576 : decode code 576 = .ok (.ireturn, 1) := by decide +kernel
theorem d_lw_law_577 : decode code 577 = .ok (.aload_n 1, 1) := by decide +kernel
theorem d_lw_law_578 : decode code 578 = .ok (.aload_n 0, 1) := by decide +kernel
theorem d_lw_law_579 : decode code 579 = .ok (.iload_n 3, 1) := by decide +kernel
theorem d_lw_law_580 : decode code 580 = .ok (.iconst 1, 1) := by decide +kernel
theorem d_lw_law_581 : decode code 581 = .ok (.iadd, 1) := by decide +kernel
theorem d_lw_law_582 : decode code 582 = .ok (.iaload, 1) := by decide +kernel
theorem d_lw_law_583 : decode code 583 = .ok (.invokevirtual 70, 3) := by decide +kernel
theorem d_lw_law_586 : decode code 586 = .ok (.aload_n 2, 1) := by decide +kernel
theorem d_lw_law_587 : decode code 587 = .ok (.aload_n 0, 1) := by decide +kernel
theorem d_lw_law_588 : decode code 588 = .ok (.iload_n 3, 1) := by decide +kernel
theorem d_lw_law_589 : decode code 589 = .ok (.iconst 1, 1) := by decide +kernel
theorem d_lw_law_590 : decode code 590 = .ok (.iadd, 1) := by decide +kernel
theorem d_lw_law_591 : decode code 591 = .ok (.iaload, 1) := by decide +kernel
theorem d_lw_law_592 : decode code 592 = .ok (.invokevirtual 73, 3) := by decide +kernel
theorem d_lw_law_595 : decode code 595 = .ok (.if_icmp .eq 772, 3) := by decide +kernel
theorem d_lw_law_598 : decode code 598 = .ok (.iconst 0, 1) := by decide +kernel
theorem d_lw_law_599 : decode code 599 = .ok (.ireturn, 1) := by decide +kernel
theorem d_lw_law_600 : decode code 600 = .ok (.aload_n 1, 1) := by decide +kernel
theorem d_lw_law_601 : decode code 601 = .ok (.aload_n 0, 1) := by decide +kernel
theorem d_lw_law_602 : decode code 602 = .ok (.iload_n 3, 1) := by decide +kernel
theorem d_lw_law_603 : decode code 603 = .ok (.iconst 1, 1) := by decide +kernel
theorem d_lw_law_604 : decode code 604 = .ok (.iadd, 1) := by decide +kernel
theorem d_lw_law_605 : decode code 605 = .ok (.iaload, 1) := by decide +kernel
theorem d_lw_law_606 : decode code 606 = .ok (.invokevirtual 74, 3) := by decide +kernel
theorem d_lw_law_609 : decode code 609 = .ok (.aload_n 2, 1) := by decide +kernel
theorem d_lw_law_610 : decode code 610 = .ok (.aload_n 0, 1) := by decide +kernel
theorem d_lw_law_611 : decode code 611 = .ok (.iload_n 3, 1) := by decide +kernel
