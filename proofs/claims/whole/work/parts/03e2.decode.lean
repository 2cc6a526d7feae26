theorem d_law_444 : decode code 444 = .ok (.if_icmp .eq 5, 3) := by decide +kernel
theorem d_law_447 : decode code 447 = .ok (.iconst 0, 1) := by decide +kernel
theorem d_law_448 : decode code 448 = .ok (.ireturn, 1) := by decide +kernel
theorem d_law_449 : decode code 449 = .ok (.iload 6, 2) := by decide +kernel
theorem d_law_451 : decode code 451 = .ok (.ifCond .ne 15, 3) := by decide +kernel
theorem d_law_454 : decode code 454 = .ok (.aload_n 3, 1) := by decide +kernel
theorem d_law_455 : decode code 455 = .ok (.iconst 0, 1) := by decide +kernel
theorem d_law_456 : decode code 456 = .ok (.laload, 1) := by decide +kernel
theorem d_law_457 : decode code 457 = .ok (.iload 7, 2) := by decide +kernel
theorem d_law_459 : decode code 459 = .ok (.i2l, 1) := by decide +kernel
theorem d_law_460 : decode code 460 = .ok (.lcmp, 1) := by decide +kernel
theorem d_law_461 : decode code 461 = .ok (.ifCond .eq 5, 3) := by decide +kernel
theorem d_law_464 : decode code 464 = .ok (.iconst 0, 1) := by decide +kernel
theorem d_law_465 : decode code 465 = .ok (.ireturn, 1) := by decide +kernel
theorem d_law_466 : decode code 466 = .ok (.goto 708, 3) := by decide +kernel
theorem d_law_469 : decode code 469 = .ok (.aload_n 1, 1) := by decide +kernel
theorem d_law_470 : decode code 470 = .ok (.aload_n 0, 1) := by decide +kernel
theorem d_law_471 : decode code 471 = .ok (.iload 5, 2) := by decide +kernel
theorem d_law_473 : decode code 473 = .ok (.iconst 1, 1) := by decide +kernel
theorem d_law_474 : decode code 474 = .ok (.iadd, 1) := by decide +kernel
theorem d_law_475 : decode code 475 = .ok (.iaload, 1) := by decide +kernel
theorem d_law_476 : decode code 476 = .ok (.aload_n 0, 1) := by decide +kernel
theorem d_law_477 : decode code 477 = .ok (.iload 5, 2) := by decide +kernel
theorem d_law_479 : decode code 479 = .ok (.iconst 2, 1) := by decide +kernel
theorem d_law_480 : decode code 480 = .ok (.iadd, 1) := by decide +kernel
theorem d_law_481 : decode code 481 = .ok (.iaload, 1) := by decide +kernel
theorem d_law_482 : decode code 482 = .ok (.ifCond .eq 7, 3) := by decide +kernel
theorem d_law_485 : decode code 485 = .ok (.iconst 1, 1) := by decide +kernel
theorem d_law_486 : decode code 486 = .ok (.goto 4, 3) := by decide +kernel
theorem d_law_489 : decode code 489 = .ok (.iconst 0, 1) := by decide +kernel
theorem d_law_490 : decode code 490 = .ok (.aload_n 3, 1) := by decide +kernel
theorem d_law_491 : decode code 491 = .ok (.invokestatic 98, 3) := by decide +kernel
theorem d_law_494 : decode code 494 = .ok (.istore 6, 2) := by decide +kernel
theorem d_law_496 : decode code 496 = .ok (.aload_n 2, 1) := by decide +kernel
theorem d_law_497 : decode code 497 = .ok (.aload_n 0, 1) := by decide +kernel
theorem d_law_498 : decode code 498 = .ok (.iload 5, 2) := by decide +kernel
theorem d_law_500 : decode code 500 = .ok (.iconst 1, 1) := by decide +kernel
theorem d_law_501 : decode code 501 = .ok (.iadd, 1) := by decide +kernel
theorem d_law_502 : decode code 502 = .ok (.iaload, 1) := by decide +kernel
theorem d_law_503 : decode code 503 = .ok (.aload_n 0, 1) := by decide +kernel
theorem d_law_504 : decode code 504 = .ok (.iload 5, 2) := by decide +kernel
theorem d_law_506 : decode code 506 = .ok (.iconst 2, 1) := by decide +kernel
theorem d_law_507 : decode code 507 = .ok (.iadd, 1) := by decide +kernel
theorem d_law_508 : decode code 508 = .ok (.iaload, 1) := by decide +kernel
theorem d_law_509 : decode code 509 = .ok (.ifCond .eq 7, 3) := by decide +kernel
theorem d_law_512 : decode code 512 = .ok (.iconst 1, 1) := by decide +kernel
theorem d_law_513 : decode code 513 = .ok (.goto 4, 3) := by decide +kernel
theorem d_law_516 : decode code 516 = .ok (.iconst 0, 1) := by decide +kernel
theorem d_law_517 : decode code 517 = .ok (.invokevirtual 101, 3) := by decide +kernel
theorem d_law_520 : decode code 520 = .ok (.istore 7, 2) := by decide +kernel
theorem d_law_522 : decode code 522 = .ok (.aload_n 2, 1) := by decide +kernel
theorem d_law_523 : decode code 523 = .ok (.invokevirtual 81, 3) := by decide +kernel
theorem d_law_526 : decode code 526 = .ok (.iload 6, 2) := by decide +kernel
theorem d_law_528 : decode code 528 = .ok (.if_icmp .eq 5, 3) := by decide +kernel
theorem d_law_531 : decode code 531 = .ok (.iconst 0, 1) := by decide +kernel
theorem d_law_532 : decode code 532 = .ok (.ireturn, 1) := by decide +kernel
theorem d_law_533 : decode code 533 = .ok (.iload 6, 2) := by decide +kernel
theorem d_law_535 : decode code 535 = .ok (.ifCond .ne 22, 3) := by decide +kernel
theorem d_law_538 : decode code 538 = .ok (.aload_n 3, 1) := by decide +kernel
theorem d_law_539 : decode code 539 = .ok (.iconst 0, 1) := by decide +kernel
theorem d_law_540 : decode code 540 = .ok (.laload, 1) := by decide +kernel
theorem d_law_541 : decode code 541 = .ok (.iload 7, 2) := by decide +kernel
theorem d_law_543 : decode code 543 = .ok (.ifCond .eq 7, 3) := by decide +kernel
theorem d_law_546 : decode code 546 = .ok (.lconst 1, 1) := by decide +kernel
theorem d_law_547 : decode code 547 = .ok (.goto 4, 3) := by decide +kernel
theorem d_law_550 : decode code 550 = .ok (.lconst 0, 1) := by decide +kernel
theorem d_law_551 : decode code 551 = .ok (.lcmp, 1) := by decide +kernel
theorem d_law_552 : decode code 552 = .ok (.ifCond .eq 5, 3) := by decide +kernel
theorem d_law_555 : decode code 555 = .ok (.iconst 0, 1) := by decide +kernel
theorem d_law_556 : decode code 556 = .ok (.ireturn, 1) := by decide +kernel
theorem d_law_557 : decode code 557 = .ok (.goto 617, 3) := by decide +kernel
theorem d_law_560 : decode code 560 = .ok (.aload_n 1, 1) := by decide +kernel
theorem d_law_561 : decode code 561 = .ok (.aload_n 0, 1) := by decide +kernel
theorem d_law_562 : decode code 562 = .ok (.iload 5, 2) := by decide +kernel
theorem d_law_564 : decode code 564 = .ok (.iconst 1, 1) := by decide +kernel
theorem d_law_565 : decode code 565 = .ok (.iadd, 1) := by decide +kernel
theorem d_law_566 : decode code 566 = .ok (.iaload, 1) := by decide +kernel
theorem d_law_567 : decode code 567 = .ok (.aload_n 3, 1) := by decide +kernel
theorem d_law_568 : decode code 568 = .ok (.invokestatic 102, 3) := by decide +kernel
theorem d_law_571 : decode code 571 = .ok (.istore 6, 2) := by decide +kernel
theorem d_law_573 : decode code 573 = .ok (.aload_n 2, 1) := by decide +kernel
theorem d_law_574 : decode code 574 = .ok (.aload_n 0, 1) := by decide +kernel
theorem d_law_575 : decode code 575 = .ok (.iload 5, 2) := by decide +kernel
theorem d_law_577 : decode code 577 = .ok (.iconst 1, 1) := by decide +kernel
theorem d_law_578 : decode code 578 = .ok (.iadd, 1) := by decide +kernel
theorem d_law_579 : decode code 579 = .ok (.iaload, 1) := by decide +kernel
theorem d_law_580 : decode code 580 = .ok (.invokevirtual 105, 3) := by decide +kernel
theorem d_law_583 : decode code 583 = .ok (.istore 7, 2) := by decide +kernel
theorem d_law_585 : decode code 585 = .ok (.aload_n 2, 1) := by decide +kernel
theorem d_law_586 : decode code 586 = .ok (.invokevirtual 81, 3) := by decide +kernel
theorem d_law_589 : decode code 589 = .ok (.iload 6, 2) := by decide +kernel
theorem d_law_591 : decode code 591 = .ok (.if_icmp .eq 5, 3) := by decide +kernel
theorem d_law_594 : decode code 594 = .ok (.iconst 0, 1) := by decide +kernel
theorem d_law_595 : decode code 595 = .ok (.ireturn, 1) := by decide +kernel
theorem d_law_596 : decode code 596 = .ok (.iload 6, 2) := by decide +kernel
theorem d_law_598 : decode code 598 = .ok (.ifCond .ne 15, 3) := by decide +kernel
theorem d_law_601 : decode code 601 = .ok (.aload_n 3, 1) := by decide +kernel
theorem d_law_602 : decode code 602 = .ok (.iconst 0, 1) := by decide +kernel
theorem d_law_603 : decode code 603 = .ok (.laload, 1) := by decide +kernel
theorem d_law_604 : decode code 604 = .ok (.iload 7, 2) := by decide +kernel
theorem d_law_606 : decode code 606 = .ok (.i2l, 1) := by decide +kernel
theorem d_law_607 : decode code 607 = .ok (.lcmp, 1) := by decide +kernel
theorem d_law_608 : decode code 608 = .ok (.ifCond .eq 5, 3) := by decide +kernel
theorem d_law_611 : decode code 611 = .ok (.iconst 0, 1) := by decide +kernel
theorem d_law_612 : decode code 612 = .ok (.ireturn, 1) := by decide +kernel
theorem d_law_613 : decode code 613 = .ok (.goto 561, 3) := by decide +kernel
theorem d_law_616 : decode code 616 = .ok (.aload_n 1, 1) := by decide +kernel
theorem d_law_617 : decode code 617 = .ok (.aload_n 0, 1) := by decide +kernel
theorem d_law_618 : decode code 618 = .ok (.iload 5, 2) := by decide +kernel
theorem d_law_620 : decode code 620 = .ok (.iconst 1, 1) := by decide +kernel
theorem d_law_621 : decode code 621 = .ok (.iadd, 1) := by decide +kernel
theorem d_law_622 : decode code 622 = .ok (.iaload, 1) := by decide +kernel
theorem d_law_623 : decode code 623 = .ok (.invokestatic 106, 3) := by decide +kernel
theorem d_law_626 : decode code 626 = .ok (.istore 6, 2) := by decide +kernel
theorem d_law_628 : decode code 628 = .ok (.aload_n 2, 1) := by decide +kernel
theorem d_law_629 : decode code 629 = .ok (.aload_n 0, 1) := by decide +kernel
theorem d_law_630 : decode code 630 = .ok (.iload 5, 2) := by decide +kernel
theorem d_law_632 : decode code 632 = .ok (.iconst 1, 1) := by decide +kernel
theorem d_law_633 : decode code 633 = .ok (.iadd, 1) := by decide +kernel
theorem d_law_634 : decode code 634 = .ok (.iaload, 1) := by decide +kernel
