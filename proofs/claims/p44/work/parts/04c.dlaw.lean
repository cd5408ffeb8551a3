theorem dL_areFences_472 : decode cL_areFences 472 = .ok (.if_icmp .ne 18, 3) := by decide +kernel
theorem dL_areFences_475 : decode cL_areFences 475 = .ok (.aload_n 0, 1) := by decide +kernel
theorem dL_areFences_476 : decode cL_areFences 476 = .ok (.iload 13, 2) := by decide +kernel
theorem dL_areFences_478 : decode cL_areFences 478 = .ok (.invokestatic 102, 3) := by decide +kernel
theorem dL_areFences_481 : decode cL_areFences 481 = .ok (.iload 15, 2) := by decide +kernel
theorem dL_areFences_483 : decode cL_areFences 483 = .ok (.if_icmp .ne 7, 3) := by decide +kernel
theorem dL_areFences_486 : decode cL_areFences 486 = .ok (.iconst 1, 1) := by decide +kernel
theorem dL_areFences_487 : decode cL_areFences 487 = .ok (.goto 4, 3) := by decide +kernel
theorem dL_areFences_490 : decode cL_areFences 490 = .ok (.iconst 0, 1) := by decide +kernel
theorem dL_areFences_491 : decode cL_areFences 491 = .ok (.istore 4, 2) := by decide +kernel
theorem dL_areFences_493 : decode cL_areFences 493 = .ok (.iinc 13 1, 3) := by decide +kernel
theorem dL_areFences_496 : decode cL_areFences 496 = .ok (.goto (-256), 3) := by decide +kernel
theorem dL_areFences_499 : decode cL_areFences 499 = .ok (.iconst 0, 1) := by decide +kernel
theorem dL_areFences_500 : decode cL_areFences 500 = .ok (.istore 13, 2) := by decide +kernel
theorem dL_areFences_502 : decode cL_areFences 502 = .ok (.iload 13, 2) := by decide +kernel
theorem dL_areFences_504 : decode cL_areFences 504 = .ok (.iconst 5, 1) := by decide +kernel
theorem dL_areFences_505 : decode cL_areFences 505 = .ok (.if_icmp .ge 35, 3) := by decide +kernel
theorem dL_areFences_508 : decode cL_areFences 508 = .ok (.iload 4, 2) := by decide +kernel
theorem dL_areFences_510 : decode cL_areFences 510 = .ok (.ifCond .eq 21, 3) := by decide +kernel
theorem dL_areFences_513 : decode cL_areFences 513 = .ok (.aload_n 0, 1) := by decide +kernel
theorem dL_areFences_514 : decode cL_areFences 514 = .ok (.iload 13, 2) := by decide +kernel
theorem dL_areFences_516 : decode cL_areFences 516 = .ok (.invokestatic 93, 3) := by decide +kernel
theorem dL_areFences_519 : decode cL_areFences 519 = .ok (.aload 5, 2) := by decide +kernel
theorem dL_areFences_521 : decode cL_areFences 521 = .ok (.iload 13, 2) := by decide +kernel
theorem dL_areFences_523 : decode cL_areFences 523 = .ok (.iaload, 1) := by decide +kernel
theorem dL_areFences_524 : decode cL_areFences 524 = .ok (.if_icmp .ne 7, 3) := by decide +kernel
theorem dL_areFences_527 : decode cL_areFences 527 = .ok (.iconst 1, 1) := by decide +kernel
theorem dL_areFences_528 : decode cL_areFences 528 = .ok (.goto 4, 3) := by decide +kernel
theorem dL_areFences_531 : decode cL_areFences 531 = .ok (.iconst 0, 1) := by decide +kernel
theorem dL_areFences_532 : decode cL_areFences 532 = .ok (.istore 4, 2) := by decide +kernel
theorem dL_areFences_534 : decode cL_areFences 534 = .ok (.iinc 13 1, 3) := by decide +kernel
theorem dL_areFences_537 : decode cL_areFences 537 = .ok (.goto (-35), 3) := by decide +kernel
theorem dL_areFences_540 : decode cL_areFences 540 = .ok (.iload 4, 2) := by decide +kernel
theorem dL_areFences_542 : decode cL_areFences 542 = .ok (.ifCond .eq 192, 3) := by decide +kernel
theorem dL_areFences_545 : decode cL_areFences 545 = .ok (.aload_n 0, 1) := by decide +kernel
theorem dL_areFences_546 : decode cL_areFences 546 = .ok (.iconst 0, 1) := by decide +kernel
theorem dL_areFences_547 : decode cL_areFences 547 = .ok (.invokestatic 90, 3) := by decide +kernel
theorem dL_areFences_550 : decode cL_areFences 550 = .ok (.aload 6, 2) := by decide +kernel
theorem dL_areFences_552 : decode cL_areFences 552 = .ok (.iconst 1, 1) := by decide +kernel
theorem dL_areFences_553 : decode cL_areFences 553 = .ok (.iaload, 1) := by decide +kernel
theorem dL_areFences_554 : decode cL_areFences 554 = .ok (.if_icmp .ne 180, 3) := by decide +kernel
theorem dL_areFences_557 : decode cL_areFences 557 = .ok (.aload_n 0, 1) := by decide +kernel
theorem dL_areFences_558 : decode cL_areFences 558 = .ok (.iconst 1, 1) := by decide +kernel
theorem dL_areFences_559 : decode cL_areFences 559 = .ok (.invokestatic 90, 3) := by decide +kernel
theorem dL_areFences_562 : decode cL_areFences 562 = .ok (.aload 6, 2) := by decide +kernel
theorem dL_areFences_564 : decode cL_areFences 564 = .ok (.iconst 2, 1) := by decide +kernel
theorem dL_areFences_565 : decode cL_areFences 565 = .ok (.iaload, 1) := by decide +kernel
theorem dL_areFences_566 : decode cL_areFences 566 = .ok (.if_icmp .ne 168, 3) := by decide +kernel
theorem dL_areFences_569 : decode cL_areFences 569 = .ok (.aload_n 0, 1) := by decide +kernel
theorem dL_areFences_570 : decode cL_areFences 570 = .ok (.invokevirtual 124, 3) := by decide +kernel
theorem dL_areFences_573 : decode cL_areFences 573 = .ok (.iload_n 1, 1) := by decide +kernel
theorem dL_areFences_574 : decode cL_areFences 574 = .ok (.invokestatic 121, 3) := by decide +kernel
theorem dL_areFences_577 : decode cL_areFences 577 = .ok (.if_icmp .ne 157, 3) := by decide +kernel
theorem dL_areFences_580 : decode cL_areFences 580 = .ok (.aload_n 0, 1) := by decide +kernel
theorem dL_areFences_581 : decode cL_areFences 581 = .ok (.invokevirtual 127, 3) := by decide +kernel
theorem dL_areFences_584 : decode cL_areFences 584 = .ok (.iload_n 1, 1) := by decide +kernel
theorem dL_areFences_585 : decode cL_areFences 585 = .ok (.invokestatic 121, 3) := by decide +kernel
theorem dL_areFences_588 : decode cL_areFences 588 = .ok (.bipush 31, 2) := by decide +kernel
theorem dL_areFences_590 : decode cL_areFences 590 = .ok (.if_icmp .ne 7, 3) := by decide +kernel
theorem dL_areFences_593 : decode cL_areFences 593 = .ok (.iconst 1, 1) := by decide +kernel
theorem dL_areFences_594 : decode cL_areFences 594 = .ok (.goto 4, 3) := by decide +kernel
theorem dL_areFences_597 : decode cL_areFences 597 = .ok (.iconst 0, 1) := by decide +kernel
theorem dL_areFences_598 : decode cL_areFences 598 = .ok (.if_icmp .ne 136, 3) := by decide +kernel
theorem dL_areFences_601 : decode cL_areFences 601 = .ok (.aload_n 0, 1) := by decide +kernel
theorem dL_areFences_602 : decode cL_areFences 602 = .ok (.invokevirtual 131, 3) := by decide +kernel
theorem dL_areFences_605 : decode cL_areFences 605 = .ok (.aload_n 3, 1) := by decide +kernel
theorem dL_areFences_606 : decode cL_areFences 606 = .ok (.iconst 0, 1) := by decide +kernel
theorem dL_areFences_607 : decode cL_areFences 607 = .ok (.iaload, 1) := by decide +kernel
theorem dL_areFences_608 : decode cL_areFences 608 = .ok (.if_icmp .ne 126, 3) := by decide +kernel
theorem dL_areFences_611 : decode cL_areFences 611 = .ok (.aload_n 0, 1) := by decide +kernel
theorem dL_areFences_612 : decode cL_areFences 612 = .ok (.iconst 0, 1) := by decide +kernel
theorem dL_areFences_613 : decode cL_areFences 613 = .ok (.invokestatic 108, 3) := by decide +kernel
theorem dL_areFences_616 : decode cL_areFences 616 = .ok (.aload_n 3, 1) := by decide +kernel
theorem dL_areFences_617 : decode cL_areFences 617 = .ok (.iconst 1, 1) := by decide +kernel
theorem dL_areFences_618 : decode cL_areFences 618 = .ok (.iaload, 1) := by decide +kernel
theorem dL_areFences_619 : decode cL_areFences 619 = .ok (.if_icmp .ne 115, 3) := by decide +kernel
theorem dL_areFences_622 : decode cL_areFences 622 = .ok (.aload_n 0, 1) := by decide +kernel
theorem dL_areFences_623 : decode cL_areFences 623 = .ok (.iconst 1, 1) := by decide +kernel
theorem dL_areFences_624 : decode cL_areFences 624 = .ok (.invokestatic 108, 3) := by decide +kernel
theorem dL_areFences_627 : decode cL_areFences 627 = .ok (.aload_n 3, 1) := by decide +kernel
theorem dL_areFences_628 : decode cL_areFences 628 = .ok (.iconst 2, 1) := by decide +kernel
theorem dL_areFences_629 : decode cL_areFences 629 = .ok (.iaload, 1) := by decide +kernel
theorem dL_areFences_630 : decode cL_areFences 630 = .ok (.if_icmp .ne 104, 3) := by decide +kernel
theorem dL_areFences_633 : decode cL_areFences 633 = .ok (.aload_n 0, 1) := by decide +kernel
theorem dL_areFences_634 : decode cL_areFences 634 = .ok (.invokevirtual 134, 3) := by decide +kernel
theorem dL_areFences_637 : decode cL_areFences 637 = .ok (.aload_n 3, 1) := by decide +kernel
theorem dL_areFences_638 : decode cL_areFences 638 = .ok (.iconst 3, 1) := by decide +kernel
theorem dL_areFences_639 : decode cL_areFences 639 = .ok (.iaload, 1) := by decide +kernel
theorem dL_areFences_640 : decode cL_areFences 640 = .ok (.if_icmp .ne 94, 3) := by decide +kernel
theorem dL_areFences_643 : decode cL_areFences 643 = .ok (.aload_n 0, 1) := by decide +kernel
theorem dL_areFences_644 : decode cL_areFences 644 = .ok (.invokevirtual 137, 3) := by decide +kernel
theorem dL_areFences_647 : decode cL_areFences 647 = .ok (.aload_n 3, 1) := by decide +kernel
theorem dL_areFences_648 : decode cL_areFences 648 = .ok (.iconst 4, 1) := by decide +kernel
theorem dL_areFences_649 : decode cL_areFences 649 = .ok (.iaload, 1) := by decide +kernel
theorem dL_areFences_650 : decode cL_areFences 650 = .ok (.if_icmp .ne 84, 3) := by decide +kernel
theorem dL_areFences_653 : decode cL_areFences 653 = .ok (.aload_n 0, 1) := by decide +kernel
theorem dL_areFences_654 : decode cL_areFences 654 = .ok (.invokevirtual 140, 3) := by decide +kernel
theorem dL_areFences_657 : decode cL_areFences 657 = .ok (.bipush 12, 2) := by decide +kernel
theorem dL_areFences_659 : decode cL_areFences 659 = .ok (.aload 6, 2) := by decide +kernel
theorem dL_areFences_661 : decode cL_areFences 661 = .ok (.iconst 0, 1) := by decide +kernel
theorem dL_areFences_662 : decode cL_areFences 662 = .ok (.iaload, 1) := by decide +kernel
theorem dL_areFences_663 : decode cL_areFences 663 = .ok (.isub, 1) := by decide +kernel
theorem dL_areFences_664 : decode cL_areFences 664 = .ok (.i2f, 1) := by decide +kernel
theorem dL_areFences_665 : decode cL_areFences 665 = .ok (.ldc 144, 2) := by decide +kernel
theorem dL_areFences_667 : decode cL_areFences 667 = .ok (.fdiv, 1) := by decide +kernel
theorem dL_areFences_668 : decode cL_areFences 668 = .ok (.fcmp .l, 1) := by decide +kernel
theorem dL_areFences_669 : decode cL_areFences 669 = .ok (.ifCond .ne 65, 3) := by decide +kernel
theorem dL_areFences_672 : decode cL_areFences 672 = .ok (.aload_n 0, 1) := by decide +kernel
theorem dL_areFences_673 : decode cL_areFences 673 = .ok (.invokevirtual 145, 3) := by decide +kernel
theorem dL_areFences_676 : decode cL_areFences 676 = .ok (.iload_n 1, 1) := by decide +kernel
theorem dL_areFences_677 : decode cL_areFences 677 = .ok (.invokestatic 118, 3) := by decide +kernel
theorem dL_areFences_680 : decode cL_areFences 680 = .ok (.if_icmp .ne 54, 3) := by decide +kernel
theorem dL_areFences_683 : decode cL_areFences 683 = .ok (.aload_n 0, 1) := by decide +kernel
theorem dL_areFences_684 : decode cL_areFences 684 = .ok (.invokevirtual 148, 3) := by decide +kernel
theorem dL_areFences_687 : decode cL_areFences 687 = .ok (.iload_n 1, 1) := by decide +kernel
theorem dL_areFences_688 : decode cL_areFences 688 = .ok (.invokestatic 118, 3) := by decide +kernel
theorem dL_areFences_691 : decode cL_areFences 691 = .ok (.if_icmp .ne 43, 3) := by decide +kernel
theorem dL_areFences_694 : decode cL_areFences 694 = .ok (.aload_n 0, 1) := by decide +kernel
theorem dL_areFences_695 : decode cL_areFences 695 = .ok (.invokestatic 151, 3) := by decide +kernel
theorem dL_areFences_698 : decode cL_areFences 698 = .ok (.iload 7, 2) := by decide +kernel
theorem dL_areFences_700 : decode cL_areFences 700 = .ok (.if_icmp .ne 34, 3) := by decide +kernel
theorem dL_areFences_703 : decode cL_areFences 703 = .ok (.aload_n 0, 1) := by decide +kernel
theorem dL_areFences_704 : decode cL_areFences 704 = .ok (.invokevirtual 155, 3) := by decide +kernel
theorem dL_areFences_707 : decode cL_areFences 707 = .ok (.iload 8, 2) := by decide +kernel
theorem dL_areFences_709 : decode cL_areFences 709 = .ok (.if_icmp .ne 25, 3) := by decide +kernel
theorem dL_areFences_712 : decode cL_areFences 712 = .ok (.aload_n 0, 1) := by decide +kernel
theorem dL_areFences_713 : decode cL_areFences 713 = .ok (.invokevirtual 158, 3) := by decide +kernel
theorem dL_areFences_716 : decode cL_areFences 716 = .ok (.iload 9, 2) := by decide +kernel
theorem dL_areFences_718 : decode cL_areFences 718 = .ok (.if_icmp .ne 16, 3) := by decide +kernel
theorem dL_areFences_721 : decode cL_areFences 721 = .ok (.aload_n 0, 1) := by decide +kernel
theorem dL_areFences_722 : decode cL_areFences 722 = .ok (.invokestatic 161, 3) := by decide +kernel
theorem dL_areFences_725 : decode cL_areFences 725 = .ok (.iload 11, 2) := by decide +kernel
theorem dL_areFences_727 : decode cL_areFences 727 = .ok (.if_icmp .ne 7, 3) := by decide +kernel
theorem dL_areFences_730 : decode cL_areFences 730 = .ok (.iconst 1, 1) := by decide +kernel
theorem dL_areFences_731 : decode cL_areFences 731 = .ok (.goto 4, 3) := by decide +kernel
theorem dL_areFences_734 : decode cL_areFences 734 = .ok (.iconst 0, 1) := by decide +kernel
theorem dL_areFences_735 : decode cL_areFences 735 = .ok (.ireturn, 1) := by decide +kernel
set_option maxRecDepth 20000 in
theorem ggL_chain_L_has : GoodIn wsL_chain wsL_has := goodIn_r _ [4, 5, 6, 3, 7] (by decide +kernel) (by decide +kernel)
set_option maxRecDepth 20000 in
theorem gL_chain_L_has : GoodIn wsL_chain (va_wsS RL 77 yL_has wsL_has) := goodIn_app (goodIn_of _ (by decide +kernel)) ggL_chain_L_has
set_option maxRecDepth 20000 in
theorem ggL_chain_L_beside : GoodIn wsL_chain wsL_beside := goodIn_r _ [10] (by decide +kernel) (by decide +kernel)
set_option maxRecDepth 20000 in
theorem gL_chain_L_beside : GoodIn wsL_chain (va_wsS RL 74 yL_beside wsL_beside) := goodIn_app (goodIn_of _ (by decide +kernel)) ggL_chain_L_beside
theorem dL_chain_0 : decode cL_chain 0 = .ok (.iload_n 0, 1) := by decide +kernel
theorem dL_chain_1 : decode cL_chain 1 = .ok (.iload_n 1, 1) := by decide +kernel
theorem dL_chain_2 : decode cL_chain 2 = .ok (.invokestatic 77, 3) := by decide +kernel
theorem dL_chain_5 : decode cL_chain 5 = .ok (.iconst 2, 1) := by decide +kernel
theorem dL_chain_6 : decode cL_chain 6 = .ok (.if_icmp .eq 5, 3) := by decide +kernel
theorem dL_chain_9 : decode cL_chain 9 = .ok (.iconst 0, 1) := by decide +kernel
theorem dL_chain_10 : decode cL_chain 10 = .ok (.ireturn, 1) := by decide +kernel
theorem dL_chain_11 : decode cL_chain 11 = .ok (.iconst 1, 1) := by decide +kernel
theorem dL_chain_12 : decode cL_chain 12 = .ok (.iload_n 1, 1) := by decide +kernel
theorem dL_chain_13 : decode cL_chain 13 = .ok (.ishl, 1) := by decide +kernel
theorem dL_chain_14 : decode cL_chain 14 = .ok (.istore_n 2, 1) := by decide +kernel
theorem dL_chain_15 : decode cL_chain 15 = .ok (.iconst 0, 1) := by decide +kernel
theorem dL_chain_16 : decode cL_chain 16 = .ok (.istore_n 3, 1) := by decide +kernel
theorem dL_chain_17 : decode cL_chain 17 = .ok (.iload_n 2, 1) := by decide +kernel
theorem dL_chain_18 : decode cL_chain 18 = .ok (.iload_n 3, 1) := by decide +kernel
theorem dL_chain_19 : decode cL_chain 19 = .ok (.if_icmp .eq 138, 3) := by decide +kernel
theorem dL_chain_22 : decode cL_chain 22 = .ok (.iload_n 2, 1) := by decide +kernel
theorem dL_chain_23 : decode cL_chain 23 = .ok (.istore_n 3, 1) := by decide +kernel
theorem dL_chain_24 : decode cL_chain 24 = .ok (.iconst 0, 1) := by decide +kernel
theorem dL_chain_25 : decode cL_chain 25 = .ok (.istore 4, 2) := by decide +kernel
theorem dL_chain_27 : decode cL_chain 27 = .ok (.iload 4, 2) := by decide +kernel
theorem dL_chain_29 : decode cL_chain 29 = .ok (.bipush 31, 2) := by decide +kernel
theorem dL_chain_31 : decode cL_chain 31 = .ok (.if_icmp .ge 123, 3) := by decide +kernel
theorem dL_chain_34 : decode cL_chain 34 = .ok (.iload 4, 2) := by decide +kernel
theorem dL_chain_36 : decode cL_chain 36 = .ok (.iconst 0, 1) := by decide +kernel
theorem dL_chain_37 : decode cL_chain 37 = .ok (.invokestatic 74, 3) := by decide +kernel
theorem dL_chain_40 : decode cL_chain 40 = .ok (.istore 5, 2) := by decide +kernel
theorem dL_chain_42 : decode cL_chain 42 = .ok (.iload 4, 2) := by decide +kernel
theorem dL_chain_44 : decode cL_chain 44 = .ok (.iconst 1, 1) := by decide +kernel
theorem dL_chain_45 : decode cL_chain 45 = .ok (.invokestatic 74, 3) := by decide +kernel
theorem dL_chain_48 : decode cL_chain 48 = .ok (.istore 6, 2) := by decide +kernel
theorem dL_chain_50 : decode cL_chain 50 = .ok (.iload_n 0, 1) := by decide +kernel
theorem dL_chain_51 : decode cL_chain 51 = .ok (.iload 4, 2) := by decide +kernel
theorem dL_chain_53 : decode cL_chain 53 = .ok (.ishr, 1) := by decide +kernel
theorem dL_chain_54 : decode cL_chain 54 = .ok (.iconst 1, 1) := by decide +kernel
theorem dL_chain_55 : decode cL_chain 55 = .ok (.iand, 1) := by decide +kernel
theorem dL_chain_56 : decode cL_chain 56 = .ok (.ifCond .ne 37, 3) := by decide +kernel
theorem dL_chain_59 : decode cL_chain 59 = .ok (.iload 5, 2) := by decide +kernel
theorem dL_chain_61 : decode cL_chain 61 = .ok (.ifCond .lt 32, 3) := by decide +kernel
theorem dL_chain_64 : decode cL_chain 64 = .ok (.iload 6, 2) := by decide +kernel
theorem dL_chain_66 : decode cL_chain 66 = .ok (.ifCond .lt 27, 3) := by decide +kernel
theorem dL_chain_69 : decode cL_chain 69 = .ok (.iload_n 0, 1) := by decide +kernel
theorem dL_chain_70 : decode cL_chain 70 = .ok (.iload 5, 2) := by decide +kernel
theorem dL_chain_72 : decode cL_chain 72 = .ok (.invokestatic 77, 3) := by decide +kernel
theorem dL_chain_75 : decode cL_chain 75 = .ok (.iconst 2, 1) := by decide +kernel
theorem dL_chain_76 : decode cL_chain 76 = .ok (.if_icmp .ne 17, 3) := by decide +kernel
theorem dL_chain_79 : decode cL_chain 79 = .ok (.iload_n 0, 1) := by decide +kernel
theorem dL_chain_80 : decode cL_chain 80 = .ok (.iload 6, 2) := by decide +kernel
theorem dL_chain_82 : decode cL_chain 82 = .ok (.invokestatic 77, 3) := by decide +kernel
theorem dL_chain_85 : decode cL_chain 85 = .ok (.iconst 2, 1) := by decide +kernel
theorem dL_chain_86 : decode cL_chain 86 = .ok (.if_icmp .ne 7, 3) := by decide +kernel
theorem dL_chain_89 : decode cL_chain 89 = .ok (.iconst 1, 1) := by decide +kernel
theorem dL_chain_90 : decode cL_chain 90 = .ok (.goto 4, 3) := by decide +kernel
theorem dL_chain_93 : decode cL_chain 93 = .ok (.iconst 0, 1) := by decide +kernel
theorem dL_chain_94 : decode cL_chain 94 = .ok (.istore 7, 2) := by decide +kernel
theorem dL_chain_96 : decode cL_chain 96 = .ok (.iload_n 2, 1) := by decide +kernel
theorem dL_chain_97 : decode cL_chain 97 = .ok (.iload 7, 2) := by decide +kernel
theorem dL_chain_99 : decode cL_chain 99 = .ok (.ifCond .eq 20, 3) := by decide +kernel
theorem dL_chain_102 : decode cL_chain 102 = .ok (.iload_n 2, 1) := by decide +kernel
theorem dL_chain_103 : decode cL_chain 103 = .ok (.iload 5, 2) := by decide +kernel
theorem dL_chain_105 : decode cL_chain 105 = .ok (.ishr, 1) := by decide +kernel
theorem dL_chain_106 : decode cL_chain 106 = .ok (.iconst 1, 1) := by decide +kernel
theorem dL_chain_107 : decode cL_chain 107 = .ok (.iand, 1) := by decide +kernel
theorem dL_chain_108 : decode cL_chain 108 = .ok (.iconst 1, 1) := by decide +kernel
theorem dL_chain_109 : decode cL_chain 109 = .ok (.if_icmp .ne 10, 3) := by decide +kernel
theorem dL_chain_112 : decode cL_chain 112 = .ok (.iconst 1, 1) := by decide +kernel
theorem dL_chain_113 : decode cL_chain 113 = .ok (.iload 6, 2) := by decide +kernel
theorem dL_chain_115 : decode cL_chain 115 = .ok (.ishl, 1) := by decide +kernel
theorem dL_chain_116 : decode cL_chain 116 = .ok (.goto 4, 3) := by decide +kernel
theorem dL_chain_119 : decode cL_chain 119 = .ok (.iconst 0, 1) := by decide +kernel
theorem dL_chain_120 : decode cL_chain 120 = .ok (.ior, 1) := by decide +kernel
theorem dL_chain_121 : decode cL_chain 121 = .ok (.istore_n 2, 1) := by decide +kernel
theorem dL_chain_122 : decode cL_chain 122 = .ok (.iload_n 2, 1) := by decide +kernel
theorem dL_chain_123 : decode cL_chain 123 = .ok (.iload 7, 2) := by decide +kernel
theorem dL_chain_125 : decode cL_chain 125 = .ok (.ifCond .eq 20, 3) := by decide +kernel
theorem dL_chain_128 : decode cL_chain 128 = .ok (.iload_n 2, 1) := by decide +kernel
theorem dL_chain_129 : decode cL_chain 129 = .ok (.iload 6, 2) := by decide +kernel
theorem dL_chain_131 : decode cL_chain 131 = .ok (.ishr, 1) := by decide +kernel
theorem dL_chain_132 : decode cL_chain 132 = .ok (.iconst 1, 1) := by decide +kernel
theorem dL_chain_133 : decode cL_chain 133 = .ok (.iand, 1) := by decide +kernel
theorem dL_chain_134 : decode cL_chain 134 = .ok (.iconst 1, 1) := by decide +kernel
theorem dL_chain_135 : decode cL_chain 135 = .ok (.if_icmp .ne 10, 3) := by decide +kernel
theorem dL_chain_138 : decode cL_chain 138 = .ok (.iconst 1, 1) := by decide +kernel
theorem dL_chain_139 : decode cL_chain 139 = .ok (.iload 5, 2) := by decide +kernel
theorem dL_chain_141 : decode cL_chain 141 = .ok (.ishl, 1) := by decide +kernel
theorem dL_chain_142 : decode cL_chain 142 = .ok (.goto 4, 3) := by decide +kernel
theorem dL_chain_145 : decode cL_chain 145 = .ok (.iconst 0, 1) := by decide +kernel
theorem dL_chain_146 : decode cL_chain 146 = .ok (.ior, 1) := by decide +kernel
theorem dL_chain_147 : decode cL_chain 147 = .ok (.istore_n 2, 1) := by decide +kernel
theorem dL_chain_148 : decode cL_chain 148 = .ok (.iinc 4 1, 3) := by decide +kernel
theorem dL_chain_151 : decode cL_chain 151 = .ok (.goto (-124), 3) := by decide +kernel
theorem dL_chain_154 : decode cL_chain 154 = .ok (.goto (-137), 3) := by decide +kernel
theorem dL_chain_157 : decode cL_chain 157 = .ok (.iload_n 2, 1) := by decide +kernel
theorem dL_chain_158 : decode cL_chain 158 = .ok (.ireturn, 1) := by decide +kernel
set_option maxRecDepth 20000 in
theorem ggL_isRing_L_count : GoodIn wsL_isRing wsL_count := goodIn_r _ [4] (by decide +kernel) (by decide +kernel)
set_option maxRecDepth 20000 in
theorem gL_isRing_L_count : GoodIn wsL_isRing (va_wsS RL 121 yL_count wsL_count) := goodIn_app (goodIn_of _ (by decide +kernel)) ggL_isRing_L_count
set_option maxRecDepth 20000 in
theorem ggL_isRing_L_side : GoodIn wsL_isRing wsL_side := goodIn_r _ [7] (by decide +kernel) (by decide +kernel)
set_option maxRecDepth 20000 in
theorem gL_isRing_L_side : GoodIn wsL_isRing (va_wsS RL 68 yL_side wsL_side) := goodIn_app (goodIn_of _ (by decide +kernel)) ggL_isRing_L_side
set_option maxRecDepth 20000 in
theorem ggL_isRing_L_beside : GoodIn wsL_isRing wsL_beside := goodIn_r _ [10] (by decide +kernel) (by decide +kernel)
set_option maxRecDepth 20000 in
theorem gL_isRing_L_beside : GoodIn wsL_isRing (va_wsS RL 74 yL_beside wsL_beside) := goodIn_app (goodIn_of _ (by decide +kernel)) ggL_isRing_L_beside
theorem dL_isRing_0 : decode cL_isRing 0 = .ok (.iload_n 1, 1) := by decide +kernel
theorem dL_isRing_1 : decode cL_isRing 1 = .ok (.invokestatic 121, 3) := by decide +kernel
theorem dL_isRing_4 : decode cL_isRing 4 = .ok (.iconst 3, 1) := by decide +kernel
theorem dL_isRing_5 : decode cL_isRing 5 = .ok (.if_icmp .le 7, 3) := by decide +kernel
theorem dL_isRing_8 : decode cL_isRing 8 = .ok (.iconst 1, 1) := by decide +kernel
theorem dL_isRing_9 : decode cL_isRing 9 = .ok (.goto 4, 3) := by decide +kernel
theorem dL_isRing_12 : decode cL_isRing 12 = .ok (.iconst 0, 1) := by decide +kernel
theorem dL_isRing_13 : decode cL_isRing 13 = .ok (.istore_n 2, 1) := by decide +kernel
theorem dL_isRing_14 : decode cL_isRing 14 = .ok (.iconst 0, 1) := by decide +kernel
theorem dL_isRing_15 : decode cL_isRing 15 = .ok (.istore_n 3, 1) := by decide +kernel
theorem dL_isRing_16 : decode cL_isRing 16 = .ok (.iload_n 3, 1) := by decide +kernel
theorem dL_isRing_17 : decode cL_isRing 17 = .ok (.bipush 12, 2) := by decide +kernel
theorem dL_isRing_19 : decode cL_isRing 19 = .ok (.if_icmp .ge 129, 3) := by decide +kernel
theorem dL_isRing_22 : decode cL_isRing 22 = .ok (.iconst 0, 1) := by decide +kernel
theorem dL_isRing_23 : decode cL_isRing 23 = .ok (.istore 4, 2) := by decide +kernel
theorem dL_isRing_25 : decode cL_isRing 25 = .ok (.iconst 0, 1) := by decide +kernel
theorem dL_isRing_26 : decode cL_isRing 26 = .ok (.istore 5, 2) := by decide +kernel
theorem dL_isRing_28 : decode cL_isRing 28 = .ok (.iload 5, 2) := by decide +kernel
theorem dL_isRing_30 : decode cL_isRing 30 = .ok (.iconst 4, 1) := by decide +kernel
theorem dL_isRing_31 : decode cL_isRing 31 = .ok (.if_icmp .ge 87, 3) := by decide +kernel
theorem dL_isRing_34 : decode cL_isRing 34 = .ok (.iload_n 1, 1) := by decide +kernel
theorem dL_isRing_35 : decode cL_isRing 35 = .ok (.iload_n 3, 1) := by decide +kernel
theorem dL_isRing_36 : decode cL_isRing 36 = .ok (.ishr, 1) := by decide +kernel
theorem dL_isRing_37 : decode cL_isRing 37 = .ok (.iconst 1, 1) := by decide +kernel
theorem dL_isRing_38 : decode cL_isRing 38 = .ok (.iand, 1) := by decide +kernel
theorem dL_isRing_39 : decode cL_isRing 39 = .ok (.iconst 1, 1) := by decide +kernel
theorem dL_isRing_40 : decode cL_isRing 40 = .ok (.if_icmp .ne 78, 3) := by decide +kernel
theorem dL_isRing_43 : decode cL_isRing 43 = .ok (.iload_n 3, 1) := by decide +kernel
theorem dL_isRing_44 : decode cL_isRing 44 = .ok (.iload 5, 2) := by decide +kernel
theorem dL_isRing_46 : decode cL_isRing 46 = .ok (.invokestatic 68, 3) := by decide +kernel
theorem dL_isRing_49 : decode cL_isRing 49 = .ok (.istore 6, 2) := by decide +kernel
theorem dL_isRing_51 : decode cL_isRing 51 = .ok (.iload 6, 2) := by decide +kernel
theorem dL_isRing_53 : decode cL_isRing 53 = .ok (.iconst 0, 1) := by decide +kernel
theorem dL_isRing_54 : decode cL_isRing 54 = .ok (.invokestatic 74, 3) := by decide +kernel
theorem dL_isRing_57 : decode cL_isRing 57 = .ok (.iload_n 3, 1) := by decide +kernel
theorem dL_isRing_58 : decode cL_isRing 58 = .ok (.if_icmp .ne 12, 3) := by decide +kernel
theorem dL_isRing_61 : decode cL_isRing 61 = .ok (.iload 6, 2) := by decide +kernel
theorem dL_isRing_63 : decode cL_isRing 63 = .ok (.iconst 1, 1) := by decide +kernel
theorem dL_isRing_64 : decode cL_isRing 64 = .ok (.invokestatic 74, 3) := by decide +kernel
theorem dL_isRing_67 : decode cL_isRing 67 = .ok (.goto 9, 3) := by decide +kernel
theorem dL_isRing_70 : decode cL_isRing 70 = .ok (.iload 6, 2) := by decide +kernel
theorem dL_isRing_72 : decode cL_isRing 72 = .ok (.iconst 0, 1) := by decide +kernel
theorem dL_isRing_73 : decode cL_isRing 73 = .ok (.invokestatic 74, 3) := by decide +kernel
theorem dL_isRing_76 : decode cL_isRing 76 = .ok (.istore 7, 2) := by decide +kernel
theorem dL_isRing_78 : decode cL_isRing 78 = .ok (.iload 4, 2) := by decide +kernel
theorem dL_isRing_80 : decode cL_isRing 80 = .ok (.iload_n 0, 1) := by decide +kernel
theorem dL_isRing_81 : decode cL_isRing 81 = .ok (.iload 6, 2) := by decide +kernel
theorem dL_isRing_83 : decode cL_isRing 83 = .ok (.ishr, 1) := by decide +kernel
theorem dL_isRing_84 : decode cL_isRing 84 = .ok (.iconst 1, 1) := by decide +kernel
theorem dL_isRing_85 : decode cL_isRing 85 = .ok (.iand, 1) := by decide +kernel
theorem dL_isRing_86 : decode cL_isRing 86 = .ok (.ifCond .ne 22, 3) := by decide +kernel
theorem dL_isRing_89 : decode cL_isRing 89 = .ok (.iload 7, 2) := by decide +kernel
theorem dL_isRing_91 : decode cL_isRing 91 = .ok (.ifCond .lt 17, 3) := by decide +kernel
theorem dL_isRing_94 : decode cL_isRing 94 = .ok (.iload_n 1, 1) := by decide +kernel
theorem dL_isRing_95 : decode cL_isRing 95 = .ok (.iload 7, 2) := by decide +kernel
theorem dL_isRing_97 : decode cL_isRing 97 = .ok (.ishr, 1) := by decide +kernel
theorem dL_isRing_98 : decode cL_isRing 98 = .ok (.iconst 1, 1) := by decide +kernel
theorem dL_isRing_99 : decode cL_isRing 99 = .ok (.iand, 1) := by decide +kernel
theorem dL_isRing_100 : decode cL_isRing 100 = .ok (.iconst 1, 1) := by decide +kernel
theorem dL_isRing_101 : decode cL_isRing 101 = .ok (.if_icmp .ne 7, 3) := by decide +kernel
theorem dL_isRing_104 : decode cL_isRing 104 = .ok (.iconst 1, 1) := by decide +kernel
theorem dL_isRing_105 : decode cL_isRing 105 = .ok (.goto 4, 3) := by decide +kernel
theorem dL_isRing_108 : decode cL_isRing 108 = .ok (.iconst 0, 1) := by decide +kernel
theorem dL_isRing_109 : decode cL_isRing 109 = .ok (.iadd, 1) := by decide +kernel
theorem dL_isRing_110 : decode cL_isRing 110 = .ok (.istore 4, 2) := by decide +kernel
theorem dL_isRing_112 : decode cL_isRing 112 = .ok (.iinc 5 1, 3) := by decide +kernel
theorem dL_isRing_115 : decode cL_isRing 115 = .ok (.goto (-87), 3) := by decide +kernel
theorem dL_isRing_118 : decode cL_isRing 118 = .ok (.iload_n 2, 1) := by decide +kernel
theorem dL_isRing_119 : decode cL_isRing 119 = .ok (.ifCond .eq 21, 3) := by decide +kernel
theorem dL_isRing_122 : decode cL_isRing 122 = .ok (.iload_n 1, 1) := by decide +kernel
theorem dL_isRing_123 : decode cL_isRing 123 = .ok (.iload_n 3, 1) := by decide +kernel
theorem dL_isRing_124 : decode cL_isRing 124 = .ok (.ishr, 1) := by decide +kernel
theorem dL_isRing_125 : decode cL_isRing 125 = .ok (.iconst 1, 1) := by decide +kernel
theorem dL_isRing_126 : decode cL_isRing 126 = .ok (.iand, 1) := by decide +kernel
theorem dL_isRing_127 : decode cL_isRing 127 = .ok (.ifCond .eq 9, 3) := by decide +kernel
theorem dL_isRing_130 : decode cL_isRing 130 = .ok (.iload 4, 2) := by decide +kernel
theorem dL_isRing_132 : decode cL_isRing 132 = .ok (.iconst 2, 1) := by decide +kernel
theorem dL_isRing_133 : decode cL_isRing 133 = .ok (.if_icmp .ne 7, 3) := by decide +kernel
theorem dL_isRing_136 : decode cL_isRing 136 = .ok (.iconst 1, 1) := by decide +kernel
theorem dL_isRing_137 : decode cL_isRing 137 = .ok (.goto 4, 3) := by decide +kernel
theorem dL_isRing_140 : decode cL_isRing 140 = .ok (.iconst 0, 1) := by decide +kernel
theorem dL_isRing_141 : decode cL_isRing 141 = .ok (.istore_n 2, 1) := by decide +kernel
theorem dL_isRing_142 : decode cL_isRing 142 = .ok (.iinc 3 1, 3) := by decide +kernel
theorem dL_isRing_145 : decode cL_isRing 145 = .ok (.goto (-129), 3) := by decide +kernel
theorem dL_isRing_148 : decode cL_isRing 148 = .ok (.iload_n 2, 1) := by decide +kernel
theorem dL_isRing_149 : decode cL_isRing 149 = .ok (.ireturn, 1) := by decide +kernel
set_option maxRecDepth 20000 in
theorem ggL_areChains_L_chain : GoodIn wsL_areChains wsL_chain := goodIn_r _ [4, 5, 6, 3, 7, 8, 9, 10, 11, 12, 13] (by decide +kernel) (by decide +kernel)
set_option maxRecDepth 20000 in
theorem gL_areChains_L_chain : GoodIn wsL_areChains (va_wsS RL 164 yL_chain wsL_chain) := goodIn_app (goodIn_of _ (by decide +kernel)) ggL_areChains_L_chain
set_option maxRecDepth 20000 in
theorem ggL_areChains_L_isRing : GoodIn wsL_areChains wsL_isRing := goodIn_r _ [16, 17, 18, 3, 19, 8, 9, 10, 11, 12, 13] (by decide +kernel) (by decide +kernel)
set_option maxRecDepth 20000 in
theorem gL_areChains_L_isRing : GoodIn wsL_areChains (va_wsS RL 167 yL_isRing wsL_isRing) := goodIn_app (goodIn_of _ (by decide +kernel)) ggL_areChains_L_isRing
set_option maxRecDepth 20000 in
theorem ggL_areChains_L_count : GoodIn wsL_areChains wsL_count := goodIn_r _ [19] (by decide +kernel) (by decide +kernel)
set_option maxRecDepth 20000 in
theorem gL_areChains_L_count : GoodIn wsL_areChains (va_wsS RL 121 yL_count wsL_count) := goodIn_app (goodIn_of _ (by decide +kernel)) ggL_areChains_L_count
set_option maxRecDepth 20000 in
theorem ggL_areChains_L_chainOfOf : GoodIn wsL_areChains wsL_chainOfOf := goodIn_ca (goodIn_ca (goodIn_r _ [22, 23, 24, 25, 26, 27, 28, 29, 30, 31, 32, 33, 34, 35, 36, 37, 38, 39, 40, 41, 42, 43, 44, 45, 46, 47, 48, 49, 50, 51, 52, 53, 54, 55, 56, 57, 58, 59, 60, 61, 62, 63, 64, 65, 66, 67, 68, 69, 70, 71, 72, 73, 74, 75, 76, 77, 78, 106, 107, 108, 109, 110, 111, 112, 113, 114, 115, 116, 117, 118, 119] (by decide +kernel) (by decide +kernel)) (goodIn_sub (fun _ h => List.mem_cons_of_mem _ (List.mem_append_left _ (List.mem_append_right _ h))) (by decide +kernel))) (goodIn_sub (fun _ h => List.mem_cons_of_mem _ (List.mem_append_right _ h)) (by decide +kernel))
set_option maxRecDepth 20000 in
theorem gL_areChains_L_chainOfOf : GoodIn wsL_areChains (va_wsS RL 105 yL_chainOfOf wsL_chainOfOf) := goodIn_app (goodIn_of _ (by decide +kernel)) ggL_areChains_L_chainOfOf
set_option maxRecDepth 20000 in
theorem ggL_areChains_X7_chains : GoodIn wsL_areChains wsX7_chains := goodIn_r _ [82, 34, 83, 84, 54, 85, 56, 57, 40, 58, 59, 39, 41, 42, 43, 44, 45, 46, 47, 48, 49, 50, 51, 72, 73, 74, 86, 53, 55, 60, 61, 62, 63, 64, 65, 66, 67, 68, 69, 70, 71, 75, 76, 77, 87, 88, 89, 90, 91, 92, 93, 106, 107, 108, 109, 110, 111, 112, 113, 114, 115, 116, 117, 118, 119] (by decide +kernel) (by decide +kernel)
set_option maxRecDepth 20000 in
theorem gL_areChains_X7_chains : GoodIn wsL_areChains (wsV RL 170 RX7 yX7_chains wsX7_chains) := goodIn_app (goodIn_of _ (by decide +kernel)) ggL_areChains_X7_chains
set_option maxRecDepth 20000 in
theorem ggL_areChains_X7_rings : GoodIn wsL_areChains wsX7_rings := goodIn_r _ [97, 34, 83, 84, 54, 85, 56, 57, 40, 58, 59, 39, 41, 42, 43, 44, 45, 46, 47, 48, 49, 50, 51, 72, 73, 74, 86, 53, 55, 60, 61, 62, 63, 64, 65, 66, 67, 68, 69, 70, 71, 75, 76, 77, 87, 88, 89, 90, 91, 92, 93, 106, 107, 108, 109, 110, 111, 112, 113, 114, 115, 116, 117, 118, 119] (by decide +kernel) (by decide +kernel)
set_option maxRecDepth 20000 in
theorem gL_areChains_X7_rings : GoodIn wsL_areChains (wsV RL 173 RX7 yX7_rings wsX7_rings) := goodIn_app (goodIn_of _ (by decide +kernel)) ggL_areChains_X7_rings
set_option maxRecDepth 20000 in
theorem ggL_areChains_X7_longChains : GoodIn wsL_areChains wsX7_longChains := goodIn_r _ [101, 34, 83, 84, 54, 85, 56, 57, 40, 58, 59, 39, 41, 42, 43, 44, 45, 46, 47, 48, 49, 50, 51, 72, 73, 74, 86, 53, 55, 60, 61, 62, 63, 64, 65, 66, 67, 68, 69, 70, 71, 75, 76, 77, 87, 88, 89, 90, 91, 92, 93, 106, 107, 108, 109, 110, 111, 112, 113, 114, 115, 116, 117, 118, 119] (by decide +kernel) (by decide +kernel)
set_option maxRecDepth 20000 in
theorem gL_areChains_X7_longChains : GoodIn wsL_areChains (wsV RL 176 RX7 yX7_longChains wsX7_longChains) := goodIn_app (goodIn_of _ (by decide +kernel)) ggL_areChains_X7_longChains
set_option maxRecDepth 20000 in
theorem ggL_areChains_X7_ruleHoldsFor : GoodIn wsL_areChains wsX7_ruleHoldsFor := goodIn_r _ [105, 34, 83, 84, 54, 85, 56, 57, 40, 58, 59, 39, 41, 42, 43, 44, 45, 46, 47, 48, 49, 50, 51, 72, 73, 74, 86, 53, 55, 60, 61, 62, 63, 64, 65, 66, 67, 68, 69, 70, 71, 75, 76, 77, 87, 88, 89, 90, 91, 92, 93, 106, 107, 108, 109, 110, 111, 112, 113, 114, 115, 116, 117, 118, 119] (by decide +kernel) (by decide +kernel)
set_option maxRecDepth 20000 in
theorem gL_areChains_X7_ruleHoldsFor : GoodIn wsL_areChains (wsV RL 179 RX7 yX7_ruleHoldsFor wsX7_ruleHoldsFor) := goodIn_app (goodIn_of _ (by decide +kernel)) ggL_areChains_X7_ruleHoldsFor
theorem dL_areChains_0 : decode cL_areChains 0 = .ok (.iconst 0, 1) := by decide +kernel
theorem dL_areChains_1 : decode cL_areChains 1 = .ok (.istore_n 2, 1) := by decide +kernel
theorem dL_areChains_2 : decode cL_areChains 2 = .ok (.iconst 0, 1) := by decide +kernel
theorem dL_areChains_3 : decode cL_areChains 3 = .ok (.istore_n 3, 1) := by decide +kernel
theorem dL_areChains_4 : decode cL_areChains 4 = .ok (.iconst 0, 1) := by decide +kernel
theorem dL_areChains_5 : decode cL_areChains 5 = .ok (.istore 4, 2) := by decide +kernel
theorem dL_areChains_7 : decode cL_areChains 7 = .ok (.iconst 1, 1) := by decide +kernel
theorem dL_areChains_8 : decode cL_areChains 8 = .ok (.istore 5, 2) := by decide +kernel
theorem dL_areChains_10 : decode cL_areChains 10 = .ok (.iconst 0, 1) := by decide +kernel
theorem dL_areChains_11 : decode cL_areChains 11 = .ok (.istore 6, 2) := by decide +kernel
theorem dL_areChains_13 : decode cL_areChains 13 = .ok (.iload 6, 2) := by decide +kernel
theorem dL_areChains_15 : decode cL_areChains 15 = .ok (.bipush 12, 2) := by decide +kernel
theorem dL_areChains_17 : decode cL_areChains 17 = .ok (.if_icmp .ge 153, 3) := by decide +kernel
theorem dL_areChains_20 : decode cL_areChains 20 = .ok (.iload_n 1, 1) := by decide +kernel
theorem dL_areChains_21 : decode cL_areChains 21 = .ok (.iload 6, 2) := by decide +kernel
theorem dL_areChains_23 : decode cL_areChains 23 = .ok (.invokestatic 164, 3) := by decide +kernel
theorem dL_areChains_26 : decode cL_areChains 26 = .ok (.istore 7, 2) := by decide +kernel
theorem dL_areChains_28 : decode cL_areChains 28 = .ok (.iload 7, 2) := by decide +kernel
theorem dL_areChains_30 : decode cL_areChains 30 = .ok (.ifCond .eq 19, 3) := by decide +kernel
theorem dL_areChains_33 : decode cL_areChains 33 = .ok (.iload 7, 2) := by decide +kernel
theorem dL_areChains_35 : decode cL_areChains 35 = .ok (.iconst 1, 1) := by decide +kernel
theorem dL_areChains_36 : decode cL_areChains 36 = .ok (.iload 6, 2) := by decide +kernel
theorem dL_areChains_38 : decode cL_areChains 38 = .ok (.ishl, 1) := by decide +kernel
theorem dL_areChains_39 : decode cL_areChains 39 = .ok (.iconst 1, 1) := by decide +kernel
theorem dL_areChains_40 : decode cL_areChains 40 = .ok (.isub, 1) := by decide +kernel
theorem dL_areChains_41 : decode cL_areChains 41 = .ok (.iand, 1) := by decide +kernel
theorem dL_areChains_42 : decode cL_areChains 42 = .ok (.ifCond .ne 7, 3) := by decide +kernel
theorem dL_areChains_45 : decode cL_areChains 45 = .ok (.iconst 1, 1) := by decide +kernel
theorem dL_areChains_46 : decode cL_areChains 46 = .ok (.goto 4, 3) := by decide +kernel
theorem dL_areChains_49 : decode cL_areChains 49 = .ok (.iconst 0, 1) := by decide +kernel
theorem dL_areChains_50 : decode cL_areChains 50 = .ok (.istore 8, 2) := by decide +kernel
theorem dL_areChains_52 : decode cL_areChains 52 = .ok (.iload 8, 2) := by decide +kernel
theorem dL_areChains_54 : decode cL_areChains 54 = .ok (.ifCond .eq 16, 3) := by decide +kernel
theorem dL_areChains_57 : decode cL_areChains 57 = .ok (.iload_n 1, 1) := by decide +kernel
theorem dL_areChains_58 : decode cL_areChains 58 = .ok (.iload 7, 2) := by decide +kernel
theorem dL_areChains_60 : decode cL_areChains 60 = .ok (.invokestatic 167, 3) := by decide +kernel
theorem dL_areChains_63 : decode cL_areChains 63 = .ok (.ifCond .eq 7, 3) := by decide +kernel
theorem dL_areChains_66 : decode cL_areChains 66 = .ok (.iconst 1, 1) := by decide +kernel
theorem dL_areChains_67 : decode cL_areChains 67 = .ok (.goto 4, 3) := by decide +kernel
theorem dL_areChains_70 : decode cL_areChains 70 = .ok (.iconst 0, 1) := by decide +kernel
theorem dL_areChains_71 : decode cL_areChains 71 = .ok (.istore 9, 2) := by decide +kernel
theorem dL_areChains_73 : decode cL_areChains 73 = .ok (.iload_n 2, 1) := by decide +kernel
theorem dL_areChains_74 : decode cL_areChains 74 = .ok (.iload 8, 2) := by decide +kernel
theorem dL_areChains_76 : decode cL_areChains 76 = .ok (.ifCond .eq 7, 3) := by decide +kernel
theorem dL_areChains_79 : decode cL_areChains 79 = .ok (.iconst 1, 1) := by decide +kernel
theorem dL_areChains_80 : decode cL_areChains 80 = .ok (.goto 4, 3) := by decide +kernel
theorem dL_areChains_83 : decode cL_areChains 83 = .ok (.iconst 0, 1) := by decide +kernel
theorem dL_areChains_84 : decode cL_areChains 84 = .ok (.iadd, 1) := by decide +kernel
theorem dL_areChains_85 : decode cL_areChains 85 = .ok (.istore_n 2, 1) := by decide +kernel
theorem dL_areChains_86 : decode cL_areChains 86 = .ok (.iload_n 3, 1) := by decide +kernel
theorem dL_areChains_87 : decode cL_areChains 87 = .ok (.iload 9, 2) := by decide +kernel
