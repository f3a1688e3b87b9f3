theorem d_law_law_512 : decode b_law_law 512 = .ok (.invokestatic 98, 3) := by decide +kernel
theorem d_law_law_515 : decode b_law_law 515 = .ok (.istore 5, 2) := by decide +kernel
theorem d_law_law_517 : decode b_law_law 517 = .ok (.aload_n 2, 1) := by decide +kernel
theorem d_law_law_518 : decode b_law_law 518 = .ok (.aload_n 0, 1) := by decide +kernel
theorem d_law_law_519 : decode b_law_law 519 = .ok (.iload 4, 2) := by decide +kernel
theorem d_law_law_521 : decode b_law_law 521 = .ok (.iconst 1, 1) := by decide +kernel
theorem d_law_law_522 : decode b_law_law 522 = .ok (.iadd, 1) := by decide +kernel
theorem d_law_law_523 : decode b_law_law 523 = .ok (.iaload, 1) := by decide +kernel
theorem d_law_law_524 : decode b_law_law 524 = .ok (.invokevirtual 100, 3) := by decide +kernel
theorem d_law_law_527 : decode b_law_law 527 = .ok (.istore 6, 2) := by decide +kernel
theorem d_law_law_529 : decode b_law_law 529 = .ok (.aload_n 2, 1) := by decide +kernel
theorem d_law_law_530 : decode b_law_law 530 = .ok (.invokevirtual 76, 3) := by decide +kernel
theorem d_law_law_533 : decode b_law_law 533 = .ok (.iload 5, 2) := by decide +kernel
theorem d_law_law_535 : decode b_law_law 535 = .ok (.if_icmp .eq 5, 3) := by decide +kernel
theorem d_law_law_538 : decode b_law_law 538 = .ok (.iconst 0, 1) := by decide +kernel
theorem d_law_law_539 : decode b_law_law 539 = .ok (.ireturn, 1) := by decide +kernel
theorem d_law_law_540 : decode b_law_law 540 = .ok (.iload 5, 2) := by decide +kernel
theorem d_law_law_542 : decode b_law_law 542 = .ok (.ifCond .ne 15, 3) := by decide +kernel
theorem d_law_law_545 : decode b_law_law 545 = .ok (.aload_n 3, 1) := by decide +kernel
theorem d_law_law_546 : decode b_law_law 546 = .ok (.iconst 0, 1) := by decide +kernel
theorem d_law_law_547 : decode b_law_law 547 = .ok (.laload, 1) := by decide +kernel
theorem d_law_law_548 : decode b_law_law 548 = .ok (.iload 6, 2) := by decide +kernel
theorem d_law_law_550 : decode b_law_law 550 = .ok (.i2l, 1) := by decide +kernel
theorem d_law_law_551 : decode b_law_law 551 = .ok (.lcmp, 1) := by decide +kernel
theorem d_law_law_552 : decode b_law_law 552 = .ok (.ifCond .eq 5, 3) := by decide +kernel
theorem d_law_law_555 : decode b_law_law 555 = .ok (.iconst 0, 1) := by decide +kernel
theorem d_law_law_556 : decode b_law_law 556 = .ok (.ireturn, 1) := by decide +kernel
theorem d_law_law_557 : decode b_law_law 557 = .ok (.goto 473, 3) := by decide +kernel
theorem d_law_law_560 : decode b_law_law 560 = .ok (.aload_n 1, 1) := by decide +kernel
theorem d_law_law_561 : decode b_law_law 561 = .ok (.invokevirtual 101, 3) := by decide +kernel
theorem d_law_law_564 : decode b_law_law 564 = .ok (.aload_n 2, 1) := by decide +kernel
theorem d_law_law_565 : decode b_law_law 565 = .ok (.invokevirtual 104, 3) := by decide +kernel
theorem d_law_law_568 : decode b_law_law 568 = .ok (.if_icmp .eq 462, 3) := by decide +kernel
theorem d_law_law_571 : decode b_law_law 571 = .ok (.iconst 0, 1) := by decide +kernel
theorem d_law_law_572 : decode b_law_law 572 = .ok (.ireturn, 1) := by decide +kernel
theorem d_law_law_573 : decode b_law_law 573 = .ok (.aload_n 1, 1) := by decide +kernel
theorem d_law_law_574 : decode b_law_law 574 = .ok (.aload_n 0, 1) := by decide +kernel
theorem d_law_law_575 : decode b_law_law 575 = .ok (.iload 4, 2) := by decide +kernel
theorem d_law_law_577 : decode b_law_law 577 = .ok (.iconst 1, 1) := by decide +kernel
theorem d_law_law_578 : decode b_law_law 578 = .ok (.iadd, 1) := by decide +kernel
theorem d_law_law_579 : decode b_law_law 579 = .ok (.iaload, 1) := by decide +kernel
theorem d_law_law_580 : decode b_law_law 580 = .ok (.aload_n 3, 1) := by decide +kernel
theorem d_law_law_581 : decode b_law_law 581 = .ok (.invokestatic 105, 3) := by decide +kernel
theorem d_law_law_584 : decode b_law_law 584 = .ok (.istore 5, 2) := by decide +kernel
theorem d_law_law_586 : decode b_law_law 586 = .ok (.aload_n 2, 1) := by decide +kernel
theorem d_law_law_587 : decode b_law_law 587 = .ok (.aload_n 0, 1) := by decide +kernel
theorem d_law_law_588 : decode b_law_law 588 = .ok (.iload 4, 2) := by decide +kernel
theorem d_law_law_590 : decode b_law_law 590 = .ok (.iconst 1, 1) := by decide +kernel
theorem d_law_law_591 : decode b_law_law 591 = .ok (.iadd, 1) := by decide +kernel
theorem d_law_law_592 : decode b_law_law 592 = .ok (.iaload, 1) := by decide +kernel
theorem d_law_law_593 : decode b_law_law 593 = .ok (.invokevirtual 107, 3) := by decide +kernel
theorem d_law_law_596 : decode b_law_law 596 = .ok (.istore 6, 2) := by decide +kernel
theorem d_law_law_598 : decode b_law_law 598 = .ok (.aload_n 2, 1) := by decide +kernel
theorem d_law_law_599 : decode b_law_law 599 = .ok (.invokevirtual 76, 3) := by decide +kernel
theorem d_law_law_602 : decode b_law_law 602 = .ok (.iload 5, 2) := by decide +kernel
theorem d_law_law_604 : decode b_law_law 604 = .ok (.if_icmp .eq 5, 3) := by decide +kernel
theorem d_law_law_607 : decode b_law_law 607 = .ok (.iconst 0, 1) := by decide +kernel
theorem d_law_law_608 : decode b_law_law 608 = .ok (.ireturn, 1) := by decide +kernel
theorem d_law_law_609 : decode b_law_law 609 = .ok (.iload 5, 2) := by decide +kernel
theorem d_law_law_611 : decode b_law_law 611 = .ok (.ifCond .ne 15, 3) := by decide +kernel
theorem d_law_law_614 : decode b_law_law 614 = .ok (.aload_n 3, 1) := by decide +kernel
theorem d_law_law_615 : decode b_law_law 615 = .ok (.iconst 0, 1) := by decide +kernel
theorem d_law_law_616 : decode b_law_law 616 = .ok (.laload, 1) := by decide +kernel
theorem d_law_law_617 : decode b_law_law 617 = .ok (.iload 6, 2) := by decide +kernel
theorem d_law_law_619 : decode b_law_law 619 = .ok (.i2l, 1) := by decide +kernel
theorem d_law_law_620 : decode b_law_law 620 = .ok (.lcmp, 1) := by decide +kernel
theorem d_law_law_621 : decode b_law_law 621 = .ok (.ifCond .eq 5, 3) := by decide +kernel
theorem d_law_law_624 : decode b_law_law 624 = .ok (.iconst 0, 1) := by decide +kernel
theorem d_law_law_625 : decode b_law_law 625 = .ok (.ireturn, 1) := by decide +kernel
theorem d_law_law_626 : decode b_law_law 626 = .ok (.goto 404, 3) := by decide +kernel
