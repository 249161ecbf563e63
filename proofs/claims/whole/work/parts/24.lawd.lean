-- the law's entry, decoded
theorem d_L_law_590 : decode code 590 = .ok (.iload 5, 2) := by decide +kernel
theorem d_L_law_592 : decode code 592 = .ok (.if_icmp .eq 5, 3) := by decide +kernel
theorem d_L_law_595 : decode code 595 = .ok (.iconst 0, 1) := by decide +kernel
theorem d_L_law_596 : decode code 596 = .ok (.ireturn, 1) := by decide +kernel
theorem d_L_law_597 : decode code 597 = .ok (.goto 517, 3) := by decide +kernel
theorem d_L_law_600 : decode code 600 = .ok (.aload_n 1, 1) := by decide +kernel
theorem d_L_law_601 : decode code 601 = .ok (.aload_n 0, 1) := by decide +kernel
theorem d_L_law_602 : decode code 602 = .ok (.iload 4, 2) := by decide +kernel
theorem d_L_law_604 : decode code 604 = .ok (.iconst 1, 1) := by decide +kernel
theorem d_L_law_605 : decode code 605 = .ok (.iadd, 1) := by decide +kernel
theorem d_L_law_606 : decode code 606 = .ok (.iaload, 1) := by decide +kernel
theorem d_L_law_607 : decode code 607 = .ok (.aload_n 0, 1) := by decide +kernel
theorem d_L_law_608 : decode code 608 = .ok (.iload 4, 2) := by decide +kernel
theorem d_L_law_610 : decode code 610 = .ok (.iconst 2, 1) := by decide +kernel
theorem d_L_law_611 : decode code 611 = .ok (.iadd, 1) := by decide +kernel
theorem d_L_law_612 : decode code 612 = .ok (.iaload, 1) := by decide +kernel
theorem d_L_law_613 : decode code 613 = .ok (.aload_n 0, 1) := by decide +kernel
theorem d_L_law_614 : decode code 614 = .ok (.iload 4, 2) := by decide +kernel
theorem d_L_law_616 : decode code 616 = .ok (.iconst 3, 1) := by decide +kernel
theorem d_L_law_617 : decode code 617 = .ok (.iadd, 1) := by decide +kernel
theorem d_L_law_618 : decode code 618 = .ok (.iaload, 1) := by decide +kernel
theorem d_L_law_619 : decode code 619 = .ok (.aload_n 0, 1) := by decide +kernel
theorem d_L_law_620 : decode code 620 = .ok (.iload 4, 2) := by decide +kernel
theorem d_L_law_622 : decode code 622 = .ok (.iconst 4, 1) := by decide +kernel
theorem d_L_law_623 : decode code 623 = .ok (.iadd, 1) := by decide +kernel
theorem d_L_law_624 : decode code 624 = .ok (.iaload, 1) := by decide +kernel
theorem d_L_law_625 : decode code 625 = .ok (.invokestatic 98, 3) := by decide +kernel
theorem d_L_law_628 : decode code 628 = .ok (.istore 5, 2) := by decide +kernel
theorem d_L_law_630 : decode code 630 = .ok (.aload_n 2, 1) := by decide +kernel
theorem d_L_law_631 : decode code 631 = .ok (.aload_n 0, 1) := by decide +kernel
theorem d_L_law_632 : decode code 632 = .ok (.iload 4, 2) := by decide +kernel
theorem d_L_law_634 : decode code 634 = .ok (.iconst 1, 1) := by decide +kernel
theorem d_L_law_635 : decode code 635 = .ok (.iadd, 1) := by decide +kernel
theorem d_L_law_636 : decode code 636 = .ok (.iaload, 1) := by decide +kernel
theorem d_L_law_637 : decode code 637 = .ok (.aload_n 0, 1) := by decide +kernel
theorem d_L_law_638 : decode code 638 = .ok (.iload 4, 2) := by decide +kernel
theorem d_L_law_640 : decode code 640 = .ok (.iconst 2, 1) := by decide +kernel
theorem d_L_law_641 : decode code 641 = .ok (.iadd, 1) := by decide +kernel
theorem d_L_law_642 : decode code 642 = .ok (.iaload, 1) := by decide +kernel
theorem d_L_law_643 : decode code 643 = .ok (.aload_n 0, 1) := by decide +kernel
theorem d_L_law_644 : decode code 644 = .ok (.iload 4, 2) := by decide +kernel
theorem d_L_law_646 : decode code 646 = .ok (.iconst 3, 1) := by decide +kernel
theorem d_L_law_647 : decode code 647 = .ok (.iadd, 1) := by decide +kernel
theorem d_L_law_648 : decode code 648 = .ok (.iaload, 1) := by decide +kernel
theorem d_L_law_649 : decode code 649 = .ok (.aload_n 0, 1) := by decide +kernel
theorem d_L_law_650 : decode code 650 = .ok (.iload 4, 2) := by decide +kernel
theorem d_L_law_652 : decode code 652 = .ok (.iconst 4, 1) := by decide +kernel
theorem d_L_law_653 : decode code 653 = .ok (.iadd, 1) := by decide +kernel
theorem d_L_law_654 : decode code 654 = .ok (.iaload, 1) := by decide +kernel
theorem d_L_law_655 : decode code 655 = .ok (.invokevirtual 100, 3) := by decide +kernel
theorem d_L_law_658 : decode code 658 = .ok (.aload_n 2, 1) := by decide +kernel
theorem d_L_law_659 : decode code 659 = .ok (.invokevirtual 74, 3) := by decide +kernel
theorem d_L_law_662 : decode code 662 = .ok (.iload 5, 2) := by decide +kernel
theorem d_L_law_664 : decode code 664 = .ok (.if_icmp .eq 5, 3) := by decide +kernel
theorem d_L_law_667 : decode code 667 = .ok (.iconst 0, 1) := by decide +kernel
theorem d_L_law_668 : decode code 668 = .ok (.ireturn, 1) := by decide +kernel
theorem d_L_law_669 : decode code 669 = .ok (.goto 445, 3) := by decide +kernel
theorem d_L_law_672 : decode code 672 = .ok (.aload_n 1, 1) := by decide +kernel
theorem d_L_law_673 : decode code 673 = .ok (.aload_n 0, 1) := by decide +kernel
theorem d_L_law_674 : decode code 674 = .ok (.iload 4, 2) := by decide +kernel
theorem d_L_law_676 : decode code 676 = .ok (.iconst 1, 1) := by decide +kernel
theorem d_L_law_677 : decode code 677 = .ok (.iadd, 1) := by decide +kernel
theorem d_L_law_678 : decode code 678 = .ok (.iaload, 1) := by decide +kernel
theorem d_L_law_679 : decode code 679 = .ok (.aload_n 0, 1) := by decide +kernel
theorem d_L_law_680 : decode code 680 = .ok (.iload 4, 2) := by decide +kernel
theorem d_L_law_682 : decode code 682 = .ok (.iconst 2, 1) := by decide +kernel
theorem d_L_law_683 : decode code 683 = .ok (.iadd, 1) := by decide +kernel
theorem d_L_law_684 : decode code 684 = .ok (.iaload, 1) := by decide +kernel
theorem d_L_law_685 : decode code 685 = .ok (.aload_n 3, 1) := by decide +kernel
theorem d_L_law_686 : decode code 686 = .ok (.invokestatic 101, 3) := by decide +kernel
theorem d_L_law_689 : decode code 689 = .ok (.istore 5, 2) := by decide +kernel
theorem d_L_law_691 : decode code 691 = .ok (.aload_n 2, 1) := by decide +kernel
theorem d_L_law_692 : decode code 692 = .ok (.aload_n 0, 1) := by decide +kernel
theorem d_L_law_693 : decode code 693 = .ok (.iload 4, 2) := by decide +kernel
theorem d_L_law_695 : decode code 695 = .ok (.iconst 1, 1) := by decide +kernel
theorem d_L_law_696 : decode code 696 = .ok (.iadd, 1) := by decide +kernel
theorem d_L_law_697 : decode code 697 = .ok (.iaload, 1) := by decide +kernel
theorem d_L_law_698 : decode code 698 = .ok (.aload_n 0, 1) := by decide +kernel
theorem d_L_law_699 : decode code 699 = .ok (.iload 4, 2) := by decide +kernel
theorem d_L_law_701 : decode code 701 = .ok (.iconst 2, 1) := by decide +kernel
theorem d_L_law_702 : decode code 702 = .ok (.iadd, 1) := by decide +kernel
theorem d_L_law_703 : decode code 703 = .ok (.iaload, 1) := by decide +kernel
theorem d_L_law_704 : decode code 704 = .ok (.invokevirtual 104, 3) := by decide +kernel
theorem d_L_law_707 : decode code 707 = .ok (.istore 6, 2) := by decide +kernel
theorem d_L_law_709 : decode code 709 = .ok (.aload_n 2, 1) := by decide +kernel
theorem d_L_law_710 : decode code 710 = .ok (.invokevirtual 74, 3) := by decide +kernel
theorem d_L_law_713 : decode code 713 = .ok (.iload 5, 2) := by decide +kernel
theorem d_L_law_715 : decode code 715 = .ok (.if_icmp .eq 5, 3) := by decide +kernel
theorem d_L_law_718 : decode code 718 = .ok (.iconst 0, 1) := by decide +kernel
theorem d_L_law_719 : decode code 719 = .ok (.ireturn, 1) := by decide +kernel
theorem d_L_law_720 : decode code 720 = .ok (.iload 5, 2) := by decide +kernel
theorem d_L_law_722 : decode code 722 = .ok (.ifCond .ne 22, 3) := by decide +kernel
theorem d_L_law_725 : decode code 725 = .ok (.aload_n 3, 1) := by decide +kernel
theorem d_L_law_726 : decode code 726 = .ok (.iconst 0, 1) := by decide +kernel
theorem d_L_law_727 : decode code 727 = .ok (.laload, 1) := by decide +kernel
theorem d_L_law_728 : decode code 728 = .ok (.iload 6, 2) := by decide +kernel
theorem d_L_law_730 : decode code 730 = .ok (.ifCond .eq 7, 3) := by decide +kernel
theorem d_L_law_733 : decode code 733 = .ok (.lconst 1, 1) := by decide +kernel
theorem d_L_law_734 : decode code 734 = .ok (.goto 4, 3) := by decide +kernel
theorem d_L_law_737 : decode code 737 = .ok (.lconst 0, 1) := by decide +kernel
theorem d_L_law_738 : decode code 738 = .ok (.lcmp, 1) := by decide +kernel
theorem d_L_law_739 : decode code 739 = .ok (.ifCond .eq 5, 3) := by decide +kernel
theorem d_L_law_742 : decode code 742 = .ok (.iconst 0, 1) := by decide +kernel
theorem d_L_law_743 : decode code 743 = .ok (.ireturn, 1) := by decide +kernel
theorem d_L_law_744 : decode code 744 = .ok (.goto 370, 3) := by decide +kernel
theorem d_L_law_747 : decode code 747 = .ok (.aload_n 1, 1) := by decide +kernel
theorem d_L_law_748 : decode code 748 = .ok (.aload_n 0, 1) := by decide +kernel
theorem d_L_law_749 : decode code 749 = .ok (.iload 4, 2) := by decide +kernel
theorem d_L_law_751 : decode code 751 = .ok (.iconst 1, 1) := by decide +kernel
theorem d_L_law_752 : decode code 752 = .ok (.iadd, 1) := by decide +kernel
theorem d_L_law_753 : decode code 753 = .ok (.iaload, 1) := by decide +kernel
theorem d_L_law_754 : decode code 754 = .ok (.aload_n 3, 1) := by decide +kernel
theorem d_L_law_755 : decode code 755 = .ok (.invokestatic 105, 3) := by decide +kernel
theorem d_L_law_758 : decode code 758 = .ok (.istore 5, 2) := by decide +kernel
theorem d_L_law_760 : decode code 760 = .ok (.aload_n 2, 1) := by decide +kernel
theorem d_L_law_761 : decode code 761 = .ok (.aload_n 0, 1) := by decide +kernel
theorem d_L_law_762 : decode code 762 = .ok (.iload 4, 2) := by decide +kernel
theorem d_L_law_764 : decode code 764 = .ok (.iconst 1, 1) := by decide +kernel
theorem d_L_law_765 : decode code 765 = .ok (.iadd, 1) := by decide +kernel
theorem d_L_law_766 : decode code 766 = .ok (.iaload, 1) := by decide +kernel
