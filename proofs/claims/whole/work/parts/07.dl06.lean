theorem d_law_law_629 : decode b_law_law 629 = .ok (.aload_n 1, 1) := by decide +kernel
theorem d_law_law_630 : decode b_law_law 630 = .ok (.aload_n 0, 1) := by decide +kernel
theorem d_law_law_631 : decode b_law_law 631 = .ok (.iload 4, 2) := by decide +kernel
theorem d_law_law_633 : decode b_law_law 633 = .ok (.iconst 1, 1) := by decide +kernel
theorem d_law_law_634 : decode b_law_law 634 = .ok (.iadd, 1) := by decide +kernel
theorem d_law_law_635 : decode b_law_law 635 = .ok (.iaload, 1) := by decide +kernel
theorem d_law_law_636 : decode b_law_law 636 = .ok (.aload_n 3, 1) := by decide +kernel
theorem d_law_law_637 : decode b_law_law 637 = .ok (.invokestatic 108, 3) := by decide +kernel
theorem d_law_law_640 : decode b_law_law 640 = .ok (.istore 5, 2) := by decide +kernel
theorem d_law_law_642 : decode b_law_law 642 = .ok (.aload_n 2, 1) := by decide +kernel
theorem d_law_law_643 : decode b_law_law 643 = .ok (.aload_n 0, 1) := by decide +kernel
theorem d_law_law_644 : decode b_law_law 644 = .ok (.iload 4, 2) := by decide +kernel
theorem d_law_law_646 : decode b_law_law 646 = .ok (.iconst 1, 1) := by decide +kernel
theorem d_law_law_647 : decode b_law_law 647 = .ok (.iadd, 1) := by decide +kernel
theorem d_law_law_648 : decode b_law_law 648 = .ok (.iaload, 1) := by decide +kernel
theorem d_law_law_649 : decode b_law_law 649 = .ok (.invokevirtual 110, 3) := by decide +kernel
theorem d_law_law_652 : decode b_law_law 652 = .ok (.istore 6, 2) := by decide +kernel
theorem d_law_law_654 : decode b_law_law 654 = .ok (.aload_n 2, 1) := by decide +kernel
theorem d_law_law_655 : decode b_law_law 655 = .ok (.invokevirtual 76, 3) := by decide +kernel
theorem d_law_law_658 : decode b_law_law 658 = .ok (.iload 5, 2) := by decide +kernel
theorem d_law_law_660 : decode b_law_law 660 = .ok (.if_icmp .eq 5, 3) := by decide +kernel
theorem d_law_law_663 : decode b_law_law 663 = .ok (.iconst 0, 1) := by decide +kernel
theorem d_law_law_664 : decode b_law_law 664 = .ok (.ireturn, 1) := by decide +kernel
theorem d_law_law_665 : decode b_law_law 665 = .ok (.iload 5, 2) := by decide +kernel
theorem d_law_law_667 : decode b_law_law 667 = .ok (.ifCond .ne 15, 3) := by decide +kernel
theorem d_law_law_670 : decode b_law_law 670 = .ok (.aload_n 3, 1) := by decide +kernel
theorem d_law_law_671 : decode b_law_law 671 = .ok (.iconst 0, 1) := by decide +kernel
theorem d_law_law_672 : decode b_law_law 672 = .ok (.laload, 1) := by decide +kernel
theorem d_law_law_673 : decode b_law_law 673 = .ok (.iload 6, 2) := by decide +kernel
theorem d_law_law_675 : decode b_law_law 675 = .ok (.i2l, 1) := by decide +kernel
theorem d_law_law_676 : decode b_law_law 676 = .ok (.lcmp, 1) := by decide +kernel
theorem d_law_law_677 : decode b_law_law 677 = .ok (.ifCond .eq 5, 3) := by decide +kernel
theorem d_law_law_680 : decode b_law_law 680 = .ok (.iconst 0, 1) := by decide +kernel
theorem d_law_law_681 : decode b_law_law 681 = .ok (.ireturn, 1) := by decide +kernel
theorem d_law_law_682 : decode b_law_law 682 = .ok (.goto 348, 3) := by decide +kernel
theorem d_law_law_685 : decode b_law_law 685 = .ok (.aload_n 1, 1) := by decide +kernel
theorem d_law_law_686 : decode b_law_law 686 = .ok (.aload_n 0, 1) := by decide +kernel
theorem d_law_law_687 : decode b_law_law 687 = .ok (.iload 4, 2) := by decide +kernel
theorem d_law_law_689 : decode b_law_law 689 = .ok (.iconst 1, 1) := by decide +kernel
theorem d_law_law_690 : decode b_law_law 690 = .ok (.iadd, 1) := by decide +kernel
theorem d_law_law_691 : decode b_law_law 691 = .ok (.iaload, 1) := by decide +kernel
theorem d_law_law_692 : decode b_law_law 692 = .ok (.aload_n 3, 1) := by decide +kernel
theorem d_law_law_693 : decode b_law_law 693 = .ok (.invokestatic 111, 3) := by decide +kernel
theorem d_law_law_696 : decode b_law_law 696 = .ok (.istore 5, 2) := by decide +kernel
theorem d_law_law_698 : decode b_law_law 698 = .ok (.aload_n 2, 1) := by decide +kernel
theorem d_law_law_699 : decode b_law_law 699 = .ok (.aload_n 0, 1) := by decide +kernel
theorem d_law_law_700 : decode b_law_law 700 = .ok (.iload 4, 2) := by decide +kernel
theorem d_law_law_702 : decode b_law_law 702 = .ok (.iconst 1, 1) := by decide +kernel
theorem d_law_law_703 : decode b_law_law 703 = .ok (.iadd, 1) := by decide +kernel
theorem d_law_law_704 : decode b_law_law 704 = .ok (.iaload, 1) := by decide +kernel
theorem d_law_law_705 : decode b_law_law 705 = .ok (.invokevirtual 113, 3) := by decide +kernel
theorem d_law_law_708 : decode b_law_law 708 = .ok (.istore 6, 2) := by decide +kernel
theorem d_law_law_710 : decode b_law_law 710 = .ok (.aload_n 2, 1) := by decide +kernel
theorem d_law_law_711 : decode b_law_law 711 = .ok (.invokevirtual 76, 3) := by decide +kernel
theorem d_law_law_714 : decode b_law_law 714 = .ok (.iload 5, 2) := by decide +kernel
theorem d_law_law_716 : decode b_law_law 716 = .ok (.if_icmp .eq 5, 3) := by decide +kernel
theorem d_law_law_719 : decode b_law_law 719 = .ok (.iconst 0, 1) := by decide +kernel
theorem d_law_law_720 : decode b_law_law 720 = .ok (.ireturn, 1) := by decide +kernel
theorem d_law_law_721 : decode b_law_law 721 = .ok (.iload 5, 2) := by decide +kernel
theorem d_law_law_723 : decode b_law_law 723 = .ok (.ifCond .ne 15, 3) := by decide +kernel
theorem d_law_law_726 : decode b_law_law 726 = .ok (.aload_n 3, 1) := by decide +kernel
theorem d_law_law_727 : decode b_law_law 727 = .ok (.iconst 0, 1) := by decide +kernel
theorem d_law_law_728 : decode b_law_law 728 = .ok (.laload, 1) := by decide +kernel
theorem d_law_law_729 : decode b_law_law 729 = .ok (.iload 6, 2) := by decide +kernel
theorem d_law_law_731 : decode b_law_law 731 = .ok (.i2l, 1) := by decide +kernel
theorem d_law_law_732 : decode b_law_law 732 = .ok (.lcmp, 1) := by decide +kernel
theorem d_law_law_733 : decode b_law_law 733 = .ok (.ifCond .eq 5, 3) := by decide +kernel
theorem d_law_law_736 : decode b_law_law 736 = .ok (.iconst 0, 1) := by decide +kernel
theorem d_law_law_737 : decode b_law_law 737 = .ok (.ireturn, 1) := by decide +kernel
theorem d_law_law_738 : decode b_law_law 738 = .ok (.goto 292, 3) := by decide +kernel
