theorem d_law_473 : decode code 473 = .ok (.iload 4, 2) := by decide +kernel
theorem d_law_475 : decode code 475 = .ok (.iconst 2, 1) := by decide +kernel
theorem d_law_476 : decode code 476 = .ok (.iadd, 1) := by decide +kernel
theorem d_law_477 : decode code 477 = .ok (.iaload, 1) := by decide +kernel
theorem d_law_478 : decode code 478 = .ok (.aload_n 0, 1) := by decide +kernel
theorem d_law_479 : decode code 479 = .ok (.iload 4, 2) := by decide +kernel
theorem d_law_481 : decode code 481 = .ok (.iconst 3, 1) := by decide +kernel
theorem d_law_482 : decode code 482 = .ok (.iadd, 1) := by decide +kernel
theorem d_law_483 : decode code 483 = .ok (.iaload, 1) := by decide +kernel
theorem d_law_484 : decode code 484 = .ok (.i2l, 1) := by decide +kernel
theorem d_law_485 : decode code 485 = .ok (.bipush 32, 2) := by decide +kernel
theorem d_law_487 : decode code 487 = .ok (.lshl, 1) := by decide +kernel
theorem d_law_488 : decode code 488 = .ok (.aload_n 0, 1) := by decide +kernel
theorem d_law_489 : decode code 489 = .ok (.iload 4, 2) := by decide +kernel
theorem d_law_491 : decode code 491 = .ok (.iconst 4, 1) := by decide +kernel
theorem d_law_492 : decode code 492 = .ok (.iadd, 1) := by decide +kernel
theorem d_law_493 : decode code 493 = .ok (.iaload, 1) := by decide +kernel
theorem d_law_494 : decode code 494 = .ok (.i2l, 1) := by decide +kernel
theorem d_law_495 : decode code 495 = .ok (.ldc2_w 49, 3) := by decide +kernel
theorem d_law_498 : decode code 498 = .ok (.land, 1) := by decide +kernel
theorem d_law_499 : decode code 499 = .ok (.lor, 1) := by decide +kernel
theorem d_law_500 : decode code 500 = .ok (.aload_n 0, 1) := by decide +kernel
theorem d_law_501 : decode code 501 = .ok (.iload 4, 2) := by decide +kernel
theorem d_law_503 : decode code 503 = .ok (.iconst 5, 1) := by decide +kernel
theorem d_law_504 : decode code 504 = .ok (.iadd, 1) := by decide +kernel
theorem d_law_505 : decode code 505 = .ok (.iaload, 1) := by decide +kernel
theorem d_law_506 : decode code 506 = .ok (.i2l, 1) := by decide +kernel
theorem d_law_507 : decode code 507 = .ok (.bipush 32, 2) := by decide +kernel
theorem d_law_509 : decode code 509 = .ok (.lshl, 1) := by decide +kernel
theorem d_law_510 : decode code 510 = .ok (.aload_n 0, 1) := by decide +kernel
theorem d_law_511 : decode code 511 = .ok (.iload 4, 2) := by decide +kernel
theorem d_law_513 : decode code 513 = .ok (.bipush 6, 2) := by decide +kernel
theorem d_law_515 : decode code 515 = .ok (.iadd, 1) := by decide +kernel
theorem d_law_516 : decode code 516 = .ok (.iaload, 1) := by decide +kernel
theorem d_law_517 : decode code 517 = .ok (.i2l, 1) := by decide +kernel
theorem d_law_518 : decode code 518 = .ok (.ldc2_w 49, 3) := by decide +kernel
theorem d_law_521 : decode code 521 = .ok (.land, 1) := by decide +kernel
theorem d_law_522 : decode code 522 = .ok (.lor, 1) := by decide +kernel
theorem d_law_523 : decode code 523 = .ok (.invokevirtual 64, 3) := by decide +kernel
theorem d_law_526 : decode code 526 = .ok (.istore 6, 2) := by decide +kernel
theorem d_law_528 : decode code 528 = .ok (.aload_n 2, 1) := by decide +kernel
theorem d_law_529 : decode code 529 = .ok (.invokevirtual 57, 3) := by decide +kernel
theorem d_law_532 : decode code 532 = .ok (.iload 5, 2) := by decide +kernel
theorem d_law_534 : decode code 534 = .ok (.if_icmp .eq 5, 3) := by decide +kernel
theorem d_law_537 : decode code 537 = .ok (.iconst 0, 1) := by decide +kernel
theorem d_law_538 : decode code 538 = .ok (.ireturn, 1) := by decide +kernel
theorem d_law_539 : decode code 539 = .ok (.iload 5, 2) := by decide +kernel
theorem d_law_541 : decode code 541 = .ok (.ifCond .ne 15, 3) := by decide +kernel
theorem d_law_544 : decode code 544 = .ok (.aload_n 3, 1) := by decide +kernel
theorem d_law_545 : decode code 545 = .ok (.iconst 0, 1) := by decide +kernel
theorem d_law_546 : decode code 546 = .ok (.laload, 1) := by decide +kernel
theorem d_law_547 : decode code 547 = .ok (.iload 6, 2) := by decide +kernel
theorem d_law_549 : decode code 549 = .ok (.i2l, 1) := by decide +kernel
theorem d_law_550 : decode code 550 = .ok (.lcmp, 1) := by decide +kernel
theorem d_law_551 : decode code 551 = .ok (.ifCond .eq 5, 3) := by decide +kernel
theorem d_law_554 : decode code 554 = .ok (.iconst 0, 1) := by decide +kernel
theorem d_law_555 : decode code 555 = .ok (.ireturn, 1) := by decide +kernel
theorem d_law_556 : decode code 556 = .ok (.goto 202, 3) := by decide +kernel
theorem d_law_559 : decode code 559 = .ok (.aload_n 1, 1) := by decide +kernel
theorem d_law_560 : decode code 560 = .ok (.aload_n 0, 1) := by decide +kernel
theorem d_law_561 : decode code 561 = .ok (.iload 4, 2) := by decide +kernel
theorem d_law_563 : decode code 563 = .ok (.iconst 1, 1) := by decide +kernel
theorem d_law_564 : decode code 564 = .ok (.iadd, 1) := by decide +kernel
theorem d_law_565 : decode code 565 = .ok (.iaload, 1) := by decide +kernel
theorem d_law_566 : decode code 566 = .ok (.invokevirtual 65, 3) := by decide +kernel
theorem d_law_569 : decode code 569 = .ok (.aload_n 2, 1) := by decide +kernel
theorem d_law_570 : decode code 570 = .ok (.aload_n 0, 1) := by decide +kernel
theorem d_law_571 : decode code 571 = .ok (.iload 4, 2) := by decide +kernel
theorem d_law_573 : decode code 573 = .ok (.iconst 1, 1) := by decide +kernel
theorem d_law_574 : decode code 574 = .ok (.iadd, 1) := by decide +kernel
theorem d_law_575 : decode code 575 = .ok (.iaload, 1) := by decide +kernel
theorem d_law_576 : decode code 576 = .ok (.invokevirtual 68, 3) := by decide +kernel
theorem d_law_579 : decode code 579 = .ok (.if_icmp .eq 179, 3) := by decide +kernel
theorem d_law_582 : decode code 582 = .ok (.iconst 0, 1) := by decide +kernel
theorem d_law_583 : decode code 583 = .ok (.ireturn, 1) := by decide +kernel
theorem d_law_584 : decode code 584 = .ok (.aload_n 1, 1) := by decide +kernel
theorem d_law_585 : decode code 585 = .ok (.aload_n 0, 1) := by decide +kernel
theorem d_law_586 : decode code 586 = .ok (.iload 4, 2) := by decide +kernel
theorem d_law_588 : decode code 588 = .ok (.iconst 1, 1) := by decide +kernel
theorem d_law_589 : decode code 589 = .ok (.iadd, 1) := by decide +kernel
theorem d_law_590 : decode code 590 = .ok (.iaload, 1) := by decide +kernel
theorem d_law_591 : decode code 591 = .ok (.aload_n 3, 1) := by decide +kernel
theorem d_law_592 : decode code 592 = .ok (.invokestatic 69, 3) := by decide +kernel
theorem d_law_595 : decode code 595 = .ok (.istore 5, 2) := by decide +kernel
theorem d_law_597 : decode code 597 = .ok (.aload_n 2, 1) := by decide +kernel
theorem d_law_598 : decode code 598 = .ok (.aload_n 0, 1) := by decide +kernel
theorem d_law_599 : decode code 599 = .ok (.iload 4, 2) := by decide +kernel
theorem d_law_601 : decode code 601 = .ok (.iconst 1, 1) := by decide +kernel
theorem d_law_602 : decode code 602 = .ok (.iadd, 1) := by decide +kernel
theorem d_law_603 : decode code 603 = .ok (.iaload, 1) := by decide +kernel
theorem d_law_604 : decode code 604 = .ok (.invokevirtual 72, 3) := by decide +kernel
theorem d_law_607 : decode code 607 = .ok (.istore 6, 2) := by decide +kernel
theorem d_law_609 : decode code 609 = .ok (.aload_n 2, 1) := by decide +kernel
theorem d_law_610 : decode code 610 = .ok (.invokevirtual 57, 3) := by decide +kernel
theorem d_law_613 : decode code 613 = .ok (.iload 5, 2) := by decide +kernel
theorem d_law_615 : decode code 615 = .ok (.if_icmp .eq 5, 3) := by decide +kernel
theorem d_law_618 : decode code 618 = .ok (.iconst 0, 1) := by decide +kernel
theorem d_law_619 : decode code 619 = .ok (.ireturn, 1) := by decide +kernel
