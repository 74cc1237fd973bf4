theorem dL_law_662 : decode code 662 = .ok (.aload_n 0, 1) := by decide +kernel
theorem dL_law_663 : decode code 663 = .ok (.iload 4, 2) := by decide +kernel
theorem dL_law_665 : decode code 665 = .ok (.iconst 2, 1) := by decide +kernel
theorem dL_law_666 : decode code 666 = .ok (.iadd, 1) := by decide +kernel
theorem dL_law_667 : decode code 667 = .ok (.iaload, 1) := by decide +kernel
theorem dL_law_668 : decode code 668 = .ok (.aload_n 0, 1) := by decide +kernel
theorem dL_law_669 : decode code 669 = .ok (.iload 4, 2) := by decide +kernel
theorem dL_law_671 : decode code 671 = .ok (.iconst 3, 1) := by decide +kernel
theorem dL_law_672 : decode code 672 = .ok (.iadd, 1) := by decide +kernel
theorem dL_law_673 : decode code 673 = .ok (.iaload, 1) := by decide +kernel
theorem dL_law_674 : decode code 674 = .ok (.aload_n 3, 1) := by decide +kernel
theorem dL_law_675 : decode code 675 = .ok (.invokestatic 89, 3) := by decide +kernel
theorem dL_law_678 : decode code 678 = .ok (.istore 5, 2) := by decide +kernel
theorem dL_law_680 : decode code 680 = .ok (.aload_n 2, 1) := by decide +kernel
theorem dL_law_681 : decode code 681 = .ok (.aload_n 0, 1) := by decide +kernel
theorem dL_law_682 : decode code 682 = .ok (.iload 4, 2) := by decide +kernel
theorem dL_law_684 : decode code 684 = .ok (.iconst 1, 1) := by decide +kernel
theorem dL_law_685 : decode code 685 = .ok (.iadd, 1) := by decide +kernel
theorem dL_law_686 : decode code 686 = .ok (.iaload, 1) := by decide +kernel
theorem dL_law_687 : decode code 687 = .ok (.aload_n 0, 1) := by decide +kernel
theorem dL_law_688 : decode code 688 = .ok (.iload 4, 2) := by decide +kernel
theorem dL_law_690 : decode code 690 = .ok (.iconst 2, 1) := by decide +kernel
theorem dL_law_691 : decode code 691 = .ok (.iadd, 1) := by decide +kernel
theorem dL_law_692 : decode code 692 = .ok (.iaload, 1) := by decide +kernel
theorem dL_law_693 : decode code 693 = .ok (.aload_n 0, 1) := by decide +kernel
theorem dL_law_694 : decode code 694 = .ok (.iload 4, 2) := by decide +kernel
theorem dL_law_696 : decode code 696 = .ok (.iconst 3, 1) := by decide +kernel
theorem dL_law_697 : decode code 697 = .ok (.iadd, 1) := by decide +kernel
theorem dL_law_698 : decode code 698 = .ok (.iaload, 1) := by decide +kernel
theorem dL_law_699 : decode code 699 = .ok (.invokevirtual 91, 3) := by decide +kernel
theorem dL_law_702 : decode code 702 = .ok (.istore 6, 2) := by decide +kernel
theorem dL_law_704 : decode code 704 = .ok (.aload_n 2, 1) := by decide +kernel
theorem dL_law_705 : decode code 705 = .ok (.invokevirtual 61, 3) := by decide +kernel
theorem dL_law_708 : decode code 708 = .ok (.iload 5, 2) := by decide +kernel
theorem dL_law_710 : decode code 710 = .ok (.if_icmp .eq 5, 3) := by decide +kernel
theorem dL_law_713 : decode code 713 = .ok (.iconst 0, 1) := by decide +kernel
theorem dL_law_714 : decode code 714 = .ok (.ireturn, 1) := by decide +kernel
theorem dL_law_715 : decode code 715 = .ok (.iload 5, 2) := by decide +kernel
theorem dL_law_717 : decode code 717 = .ok (.ifCond .ne 15, 3) := by decide +kernel
theorem dL_law_720 : decode code 720 = .ok (.aload_n 3, 1) := by decide +kernel
theorem dL_law_721 : decode code 721 = .ok (.iconst 0, 1) := by decide +kernel
theorem dL_law_722 : decode code 722 = .ok (.laload, 1) := by decide +kernel
theorem dL_law_723 : decode code 723 = .ok (.iload 6, 2) := by decide +kernel
theorem dL_law_725 : decode code 725 = .ok (.i2l, 1) := by decide +kernel
theorem dL_law_726 : decode code 726 = .ok (.lcmp, 1) := by decide +kernel
theorem dL_law_727 : decode code 727 = .ok (.ifCond .eq 5, 3) := by decide +kernel
theorem dL_law_730 : decode code 730 = .ok (.iconst 0, 1) := by decide +kernel
theorem dL_law_731 : decode code 731 = .ok (.ireturn, 1) := by decide +kernel
theorem dL_law_732 : decode code 732 = .ok (.goto 103, 3) := by decide +kernel
theorem dL_law_735 : decode code 735 = .ok (.aload_n 1, 1) := by decide +kernel
theorem dL_law_736 : decode code 736 = .ok (.invokevirtual 92, 3) := by decide +kernel
theorem dL_law_739 : decode code 739 = .ok (.aload_n 2, 1) := by decide +kernel
theorem dL_law_740 : decode code 740 = .ok (.invokevirtual 95, 3) := by decide +kernel
theorem dL_law_743 : decode code 743 = .ok (.if_icmp .eq 92, 3) := by decide +kernel
theorem dL_law_746 : decode code 746 = .ok (.iconst 0, 1) := by decide +kernel
theorem dL_law_747 : decode code 747 = .ok (.ireturn, 1) := by decide +kernel
theorem dL_law_748 : decode code 748 = .ok (.aload_n 1, 1) := by decide +kernel
theorem dL_law_749 : decode code 749 = .ok (.aload_n 0, 1) := by decide +kernel
theorem dL_law_750 : decode code 750 = .ok (.iload 4, 2) := by decide +kernel
theorem dL_law_752 : decode code 752 = .ok (.iconst 1, 1) := by decide +kernel
theorem dL_law_753 : decode code 753 = .ok (.iadd, 1) := by decide +kernel
theorem dL_law_754 : decode code 754 = .ok (.iaload, 1) := by decide +kernel
theorem dL_law_755 : decode code 755 = .ok (.invokevirtual 96, 3) := by decide +kernel
theorem dL_law_758 : decode code 758 = .ok (.aload_n 2, 1) := by decide +kernel
