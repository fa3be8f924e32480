theorem d_law_464 : decode code 464 = .ok (.goto 713, 3) := by decide +kernel
theorem d_law_467 : decode code 467 = .ok (.aload_n 1, 1) := by decide +kernel
theorem d_law_468 : decode code 468 = .ok (.invokevirtual 95, 3) := by decide +kernel
theorem d_law_471 : decode code 471 = .ok (.aload_n 2, 1) := by decide +kernel
theorem d_law_472 : decode code 472 = .ok (.invokevirtual 98, 3) := by decide +kernel
theorem d_law_475 : decode code 475 = .ok (.if_icmp .eq 702, 3) := by decide +kernel
theorem d_law_478 : decode code 478 = .ok (.iconst 0, 1) := by decide +kernel
theorem d_law_479 : decode code 479 = .ok (.ireturn, 1) := by decide +kernel
theorem d_law_480 : decode code 480 = .ok (.aload_n 1, 1) := by decide +kernel
theorem d_law_481 : decode code 481 = .ok (.aload_n 0, 1) := by decide +kernel
theorem d_law_482 : decode code 482 = .ok (.iload 4, 2) := by decide +kernel
theorem d_law_484 : decode code 484 = .ok (.iconst 1, 1) := by decide +kernel
theorem d_law_485 : decode code 485 = .ok (.iadd, 1) := by decide +kernel
theorem d_law_486 : decode code 486 = .ok (.iaload, 1) := by decide +kernel
theorem d_law_487 : decode code 487 = .ok (.aload_n 3, 1) := by decide +kernel
theorem d_law_488 : decode code 488 = .ok (.invokestatic 99, 3) := by decide +kernel
theorem d_law_491 : decode code 491 = .ok (.istore 5, 2) := by decide +kernel
theorem d_law_493 : decode code 493 = .ok (.aload_n 2, 1) := by decide +kernel
theorem d_law_494 : decode code 494 = .ok (.aload_n 0, 1) := by decide +kernel
theorem d_law_495 : decode code 495 = .ok (.iload 4, 2) := by decide +kernel
theorem d_law_497 : decode code 497 = .ok (.iconst 1, 1) := by decide +kernel
theorem d_law_498 : decode code 498 = .ok (.iadd, 1) := by decide +kernel
theorem d_law_499 : decode code 499 = .ok (.iaload, 1) := by decide +kernel
theorem d_law_500 : decode code 500 = .ok (.invokevirtual 102, 3) := by decide +kernel
theorem d_law_503 : decode code 503 = .ok (.istore 6, 2) := by decide +kernel
theorem d_law_505 : decode code 505 = .ok (.aload_n 2, 1) := by decide +kernel
theorem d_law_506 : decode code 506 = .ok (.invokevirtual 77, 3) := by decide +kernel
theorem d_law_509 : decode code 509 = .ok (.iload 5, 2) := by decide +kernel
theorem d_law_511 : decode code 511 = .ok (.if_icmp .eq 5, 3) := by decide +kernel
theorem d_law_514 : decode code 514 = .ok (.iconst 0, 1) := by decide +kernel
theorem d_law_515 : decode code 515 = .ok (.ireturn, 1) := by decide +kernel
theorem d_law_516 : decode code 516 = .ok (.iload 5, 2) := by decide +kernel
theorem d_law_518 : decode code 518 = .ok (.ifCond .ne 15, 3) := by decide +kernel
theorem d_law_521 : decode code 521 = .ok (.aload_n 3, 1) := by decide +kernel
theorem d_law_522 : decode code 522 = .ok (.iconst 0, 1) := by decide +kernel
theorem d_law_523 : decode code 523 = .ok (.laload, 1) := by decide +kernel
theorem d_law_524 : decode code 524 = .ok (.iload 6, 2) := by decide +kernel
theorem d_law_526 : decode code 526 = .ok (.i2l, 1) := by decide +kernel
theorem d_law_527 : decode code 527 = .ok (.lcmp, 1) := by decide +kernel
theorem d_law_528 : decode code 528 = .ok (.ifCond .eq 5, 3) := by decide +kernel
theorem d_law_531 : decode code 531 = .ok (.iconst 0, 1) := by decide +kernel
theorem d_law_532 : decode code 532 = .ok (.ireturn, 1) := by decide +kernel
theorem d_law_533 : decode code 533 = .ok (.goto 644, 3) := by decide +kernel
theorem d_law_536 : decode code 536 = .ok (.aload_n 1, 1) := by decide +kernel
theorem d_law_537 : decode code 537 = .ok (.invokevirtual 103, 3) := by decide +kernel
theorem d_law_540 : decode code 540 = .ok (.aload_n 2, 1) := by decide +kernel
theorem d_law_541 : decode code 541 = .ok (.invokevirtual 106, 3) := by decide +kernel
theorem d_law_544 : decode code 544 = .ok (.if_icmp .eq 633, 3) := by decide +kernel
theorem d_law_547 : decode code 547 = .ok (.iconst 0, 1) := by decide +kernel
theorem d_law_548 : decode code 548 = .ok (.ireturn, 1) := by decide +kernel
theorem d_law_549 : decode code 549 = .ok (.aload_n 1, 1) := by decide +kernel
theorem d_law_550 : decode code 550 = .ok (.aload_n 3, 1) := by decide +kernel
theorem d_law_551 : decode code 551 = .ok (.invokestatic 107, 3) := by decide +kernel
theorem d_law_554 : decode code 554 = .ok (.istore 5, 2) := by decide +kernel
theorem d_law_556 : decode code 556 = .ok (.aload_n 2, 1) := by decide +kernel
theorem d_law_557 : decode code 557 = .ok (.invokevirtual 109, 3) := by decide +kernel
theorem d_law_560 : decode code 560 = .ok (.istore 6, 2) := by decide +kernel
theorem d_law_562 : decode code 562 = .ok (.aload_n 2, 1) := by decide +kernel
theorem d_law_563 : decode code 563 = .ok (.invokevirtual 77, 3) := by decide +kernel
theorem d_law_566 : decode code 566 = .ok (.iload 5, 2) := by decide +kernel
theorem d_law_568 : decode code 568 = .ok (.if_icmp .eq 5, 3) := by decide +kernel
theorem d_law_571 : decode code 571 = .ok (.iconst 0, 1) := by decide +kernel
theorem d_law_572 : decode code 572 = .ok (.ireturn, 1) := by decide +kernel
theorem d_law_573 : decode code 573 = .ok (.iload 5, 2) := by decide +kernel
theorem d_law_575 : decode code 575 = .ok (.ifCond .ne 15, 3) := by decide +kernel
theorem d_law_578 : decode code 578 = .ok (.aload_n 3, 1) := by decide +kernel
theorem d_law_579 : decode code 579 = .ok (.iconst 0, 1) := by decide +kernel
theorem d_law_580 : decode code 580 = .ok (.laload, 1) := by decide +kernel
theorem d_law_581 : decode code 581 = .ok (.iload 6, 2) := by decide +kernel
theorem d_law_583 : decode code 583 = .ok (.i2l, 1) := by decide +kernel
theorem d_law_584 : decode code 584 = .ok (.lcmp, 1) := by decide +kernel
theorem d_law_585 : decode code 585 = .ok (.ifCond .eq 5, 3) := by decide +kernel
theorem d_law_588 : decode code 588 = .ok (.iconst 0, 1) := by decide +kernel
theorem d_law_589 : decode code 589 = .ok (.ireturn, 1) := by decide +kernel
theorem d_law_590 : decode code 590 = .ok (.goto 587, 3) := by decide +kernel
theorem d_law_593 : decode code 593 = .ok (.aload_n 1, 1) := by decide +kernel
theorem d_law_594 : decode code 594 = .ok (.aload_n 0, 1) := by decide +kernel
theorem d_law_595 : decode code 595 = .ok (.iload 4, 2) := by decide +kernel
theorem d_law_597 : decode code 597 = .ok (.iconst 1, 1) := by decide +kernel
theorem d_law_598 : decode code 598 = .ok (.iadd, 1) := by decide +kernel
theorem d_law_599 : decode code 599 = .ok (.iaload, 1) := by decide +kernel
theorem d_law_600 : decode code 600 = .ok (.aload_n 0, 1) := by decide +kernel
theorem d_law_601 : decode code 601 = .ok (.iload 4, 2) := by decide +kernel
theorem d_law_603 : decode code 603 = .ok (.iconst 2, 1) := by decide +kernel
theorem d_law_604 : decode code 604 = .ok (.iadd, 1) := by decide +kernel
theorem d_law_605 : decode code 605 = .ok (.iaload, 1) := by decide +kernel
theorem d_law_606 : decode code 606 = .ok (.aload_n 3, 1) := by decide +kernel
theorem d_law_607 : decode code 607 = .ok (.invokestatic 110, 3) := by decide +kernel
theorem d_law_610 : decode code 610 = .ok (.istore 5, 2) := by decide +kernel
theorem d_law_612 : decode code 612 = .ok (.aload_n 2, 1) := by decide +kernel
theorem d_law_613 : decode code 613 = .ok (.aload_n 0, 1) := by decide +kernel
theorem d_law_614 : decode code 614 = .ok (.iload 4, 2) := by decide +kernel
theorem d_law_616 : decode code 616 = .ok (.iconst 1, 1) := by decide +kernel
theorem d_law_617 : decode code 617 = .ok (.iadd, 1) := by decide +kernel
theorem d_law_618 : decode code 618 = .ok (.iaload, 1) := by decide +kernel
theorem d_law_619 : decode code 619 = .ok (.aload_n 0, 1) := by decide +kernel
theorem d_law_620 : decode code 620 = .ok (.iload 4, 2) := by decide +kernel
theorem d_law_622 : decode code 622 = .ok (.iconst 2, 1) := by decide +kernel
theorem d_law_623 : decode code 623 = .ok (.iadd, 1) := by decide +kernel
theorem d_law_624 : decode code 624 = .ok (.iaload, 1) := by decide +kernel
theorem d_law_625 : decode code 625 = .ok (.invokevirtual 112, 3) := by decide +kernel
theorem d_law_628 : decode code 628 = .ok (.istore 6, 2) := by decide +kernel
theorem d_law_630 : decode code 630 = .ok (.aload_n 2, 1) := by decide +kernel
theorem d_law_631 : decode code 631 = .ok (.invokevirtual 77, 3) := by decide +kernel
theorem d_law_634 : decode code 634 = .ok (.iload 5, 2) := by decide +kernel
theorem d_law_636 : decode code 636 = .ok (.if_icmp .eq 5, 3) := by decide +kernel
theorem d_law_639 : decode code 639 = .ok (.iconst 0, 1) := by decide +kernel
theorem d_law_640 : decode code 640 = .ok (.ireturn, 1) := by decide +kernel
theorem d_law_641 : decode code 641 = .ok (.iload 5, 2) := by decide +kernel
theorem d_law_643 : decode code 643 = .ok (.ifCond .ne 15, 3) := by decide +kernel
theorem d_law_646 : decode code 646 = .ok (.aload_n 3, 1) := by decide +kernel
theorem d_law_647 : decode code 647 = .ok (.iconst 0, 1) := by decide +kernel
theorem d_law_648 : decode code 648 = .ok (.laload, 1) := by decide +kernel
theorem d_law_649 : decode code 649 = .ok (.iload 6, 2) := by decide +kernel
theorem d_law_651 : decode code 651 = .ok (.i2l, 1) := by decide +kernel
theorem d_law_652 : decode code 652 = .ok (.lcmp, 1) := by decide +kernel
theorem d_law_653 : decode code 653 = .ok (.ifCond .eq 5, 3) := by decide +kernel
theorem d_law_656 : decode code 656 = .ok (.iconst 0, 1) := by decide +kernel
theorem d_law_657 : decode code 657 = .ok (.ireturn, 1) := by decide +kernel
theorem d_law_658 : decode code 658 = .ok (.goto 519, 3) := by decide +kernel
