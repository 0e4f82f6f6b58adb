theorem d_w_542 : decode code 542 = .ok (.ifCond .ne 15, 3) := by decide +kernel
theorem d_w_545 : decode code 545 = .ok (.aload_n 3, 1) := by decide +kernel
theorem d_w_546 : decode code 546 = .ok (.iconst 0, 1) := by decide +kernel
theorem d_w_547 : decode code 547 = .ok (.laload, 1) := by decide +kernel
theorem d_w_548 : decode code 548 = .ok (.iload 7, 2) := by decide +kernel
theorem d_w_550 : decode code 550 = .ok (.i2l, 1) := by decide +kernel
theorem d_w_551 : decode code 551 = .ok (.lcmp, 1) := by decide +kernel
theorem d_w_552 : decode code 552 = .ok (.ifCond .eq 5, 3) := by decide +kernel
theorem d_w_555 : decode code 555 = .ok (.iconst 0, 1) := by decide +kernel
theorem d_w_556 : decode code 556 = .ok (.ireturn, 1) := by decide +kernel
theorem d_w_557 : decode code 557 = .ok (.goto 1682, 3) := by decide +kernel
theorem d_w_560 : decode code 560 = .ok (.aload_n 1, 1) := by decide +kernel
theorem d_w_561 : decode code 561 = .ok (.aload_n 0, 1) := by decide +kernel
theorem d_w_562 : decode code 562 = .ok (.iload 5, 2) := by decide +kernel
theorem d_w_564 : decode code 564 = .ok (.iconst 1, 1) := by decide +kernel
theorem d_w_565 : decode code 565 = .ok (.iadd, 1) := by decide +kernel
theorem d_w_566 : decode code 566 = .ok (.iaload, 1) := by decide +kernel
theorem d_w_567 : decode code 567 = .ok (.aload_n 3, 1) := by decide +kernel
theorem d_w_568 : decode code 568 = .ok (.invokestatic 124, 3) := by decide +kernel
theorem d_w_571 : decode code 571 = .ok (.istore 6, 2) := by decide +kernel
theorem d_w_573 : decode code 573 = .ok (.aload_n 2, 1) := by decide +kernel
theorem d_w_574 : decode code 574 = .ok (.aload_n 0, 1) := by decide +kernel
theorem d_w_575 : decode code 575 = .ok (.iload 5, 2) := by decide +kernel
theorem d_w_577 : decode code 577 = .ok (.iconst 1, 1) := by decide +kernel
theorem d_w_578 : decode code 578 = .ok (.iadd, 1) := by decide +kernel
theorem d_w_579 : decode code 579 = .ok (.iaload, 1) := by decide +kernel
theorem d_w_580 : decode code 580 = .ok (.invokevirtual 126, 3) := by decide +kernel
theorem d_w_583 : decode code 583 = .ok (.istore 7, 2) := by decide +kernel
theorem d_w_585 : decode code 585 = .ok (.aload_n 2, 1) := by decide +kernel
theorem d_w_586 : decode code 586 = .ok (.invokevirtual 114, 3) := by decide +kernel
theorem d_w_589 : decode code 589 = .ok (.iload 6, 2) := by decide +kernel
theorem d_w_591 : decode code 591 = .ok (.if_icmp .eq 5, 3) := by decide +kernel
theorem d_w_594 : decode code 594 = .ok (.iconst 0, 1) := by decide +kernel
theorem d_w_595 : decode code 595 = .ok (.ireturn, 1) := by decide +kernel
theorem d_w_596 : decode code 596 = .ok (.iload 6, 2) := by decide +kernel
theorem d_w_598 : decode code 598 = .ok (.ifCond .ne 15, 3) := by decide +kernel
theorem d_w_601 : decode code 601 = .ok (.aload_n 3, 1) := by decide +kernel
theorem d_w_602 : decode code 602 = .ok (.iconst 0, 1) := by decide +kernel
theorem d_w_603 : decode code 603 = .ok (.laload, 1) := by decide +kernel
theorem d_w_604 : decode code 604 = .ok (.iload 7, 2) := by decide +kernel
theorem d_w_606 : decode code 606 = .ok (.i2l, 1) := by decide +kernel
theorem d_w_607 : decode code 607 = .ok (.lcmp, 1) := by decide +kernel
theorem d_w_608 : decode code 608 = .ok (.ifCond .eq 5, 3) := by decide +kernel
theorem d_w_611 : decode code 611 = .ok (.iconst 0, 1) := by decide +kernel
theorem d_w_612 : decode code 612 = .ok (.ireturn, 1) := by decide +kernel
theorem d_w_613 : decode code 613 = .ok (.goto 1626, 3) := by decide +kernel
theorem d_w_616 : decode code 616 = .ok (.aload_n 1, 1) := by decide +kernel
theorem d_w_617 : decode code 617 = .ok (.aload_n 0, 1) := by decide +kernel
theorem d_w_618 : decode code 618 = .ok (.iload 5, 2) := by decide +kernel
theorem d_w_620 : decode code 620 = .ok (.iconst 1, 1) := by decide +kernel
theorem d_w_621 : decode code 621 = .ok (.iadd, 1) := by decide +kernel
theorem d_w_622 : decode code 622 = .ok (.iaload, 1) := by decide +kernel
theorem d_w_623 : decode code 623 = .ok (.ifCond .eq 7, 3) := by decide +kernel
theorem d_w_626 : decode code 626 = .ok (.iconst 1, 1) := by decide +kernel
theorem d_w_627 : decode code 627 = .ok (.goto 4, 3) := by decide +kernel
theorem d_w_630 : decode code 630 = .ok (.iconst 0, 1) := by decide +kernel
theorem d_w_631 : decode code 631 = .ok (.aload_n 0, 1) := by decide +kernel
theorem d_w_632 : decode code 632 = .ok (.iload 5, 2) := by decide +kernel
theorem d_w_634 : decode code 634 = .ok (.iconst 2, 1) := by decide +kernel
theorem d_w_635 : decode code 635 = .ok (.iadd, 1) := by decide +kernel
theorem d_w_636 : decode code 636 = .ok (.iaload, 1) := by decide +kernel
theorem d_w_637 : decode code 637 = .ok (.aload_n 3, 1) := by decide +kernel
theorem d_w_638 : decode code 638 = .ok (.invokestatic 127, 3) := by decide +kernel
theorem d_w_641 : decode code 641 = .ok (.istore 6, 2) := by decide +kernel
theorem d_w_643 : decode code 643 = .ok (.aload_n 2, 1) := by decide +kernel
theorem d_w_644 : decode code 644 = .ok (.aload_n 0, 1) := by decide +kernel
theorem d_w_645 : decode code 645 = .ok (.iload 5, 2) := by decide +kernel
theorem d_w_647 : decode code 647 = .ok (.iconst 1, 1) := by decide +kernel
theorem d_w_648 : decode code 648 = .ok (.iadd, 1) := by decide +kernel
theorem d_w_649 : decode code 649 = .ok (.iaload, 1) := by decide +kernel
theorem d_w_650 : decode code 650 = .ok (.ifCond .eq 7, 3) := by decide +kernel
theorem d_w_653 : decode code 653 = .ok (.iconst 1, 1) := by decide +kernel
theorem d_w_654 : decode code 654 = .ok (.goto 4, 3) := by decide +kernel
theorem d_w_657 : decode code 657 = .ok (.iconst 0, 1) := by decide +kernel
theorem d_w_658 : decode code 658 = .ok (.aload_n 0, 1) := by decide +kernel
theorem d_w_659 : decode code 659 = .ok (.iload 5, 2) := by decide +kernel
theorem d_w_661 : decode code 661 = .ok (.iconst 2, 1) := by decide +kernel
theorem d_w_662 : decode code 662 = .ok (.iadd, 1) := by decide +kernel
theorem d_w_663 : decode code 663 = .ok (.iaload, 1) := by decide +kernel
theorem d_w_664 : decode code 664 = .ok (.invokevirtual 130, 3) := by decide +kernel
theorem d_w_667 : decode code 667 = .ok (.istore 7, 2) := by decide +kernel
theorem d_w_669 : decode code 669 = .ok (.aload_n 2, 1) := by decide +kernel
theorem d_w_670 : decode code 670 = .ok (.invokevirtual 114, 3) := by decide +kernel
theorem d_w_673 : decode code 673 = .ok (.iload 6, 2) := by decide +kernel
theorem d_w_675 : decode code 675 = .ok (.if_icmp .eq 5, 3) := by decide +kernel
theorem d_w_678 : decode code 678 = .ok (.iconst 0, 1) := by decide +kernel
theorem d_w_679 : decode code 679 = .ok (.ireturn, 1) := by decide +kernel
theorem d_w_680 : decode code 680 = .ok (.iload 6, 2) := by decide +kernel
theorem d_w_682 : decode code 682 = .ok (.ifCond .ne 15, 3) := by decide +kernel
theorem d_w_685 : decode code 685 = .ok (.aload_n 3, 1) := by decide +kernel
theorem d_w_686 : decode code 686 = .ok (.iconst 0, 1) := by decide +kernel
theorem d_w_687 : decode code 687 = .ok (.laload, 1) := by decide +kernel
theorem d_w_688 : decode code 688 = .ok (.iload 7, 2) := by decide +kernel
theorem d_w_690 : decode code 690 = .ok (.i2l, 1) := by decide +kernel
theorem d_w_691 : decode code 691 = .ok (.lcmp, 1) := by decide +kernel
theorem d_w_692 : decode code 692 = .ok (.ifCond .eq 5, 3) := by decide +kernel
theorem d_w_695 : decode code 695 = .ok (.iconst 0, 1) := by decide +kernel
theorem d_w_696 : decode code 696 = .ok (.ireturn, 1) := by decide +kernel
theorem d_w_697 : decode code 697 = .ok (.goto 1542, 3) := by decide +kernel
theorem d_w_700 : decode code 700 = .ok (.aload_n 1, 1) := by decide +kernel
theorem d_w_701 : decode code 701 = .ok (.aload_n 0, 1) := by decide +kernel
theorem d_w_702 : decode code 702 = .ok (.iload 5, 2) := by decide +kernel
theorem d_w_704 : decode code 704 = .ok (.iconst 1, 1) := by decide +kernel
theorem d_w_705 : decode code 705 = .ok (.iadd, 1) := by decide +kernel
theorem d_w_706 : decode code 706 = .ok (.iaload, 1) := by decide +kernel
theorem d_w_707 : decode code 707 = .ok (.aload_n 3, 1) := by decide +kernel
theorem d_w_708 : decode code 708 = .ok (.invokestatic 131, 3) := by decide +kernel
theorem d_w_711 : decode code 711 = .ok (.istore 6, 2) := by decide +kernel
theorem d_w_713 : decode code 713 = .ok (.aload_n 2, 1) := by decide +kernel
theorem d_w_714 : decode code 714 = .ok (.aload_n 0, 1) := by decide +kernel
