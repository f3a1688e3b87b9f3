theorem d_law_law_741 : decode b_law_law 741 = .ok (.aload_n 1, 1) := by decide +kernel
theorem d_law_law_742 : decode b_law_law 742 = .ok (.aload_n 0, 1) := by decide +kernel
theorem d_law_law_743 : decode b_law_law 743 = .ok (.iload 4, 2) := by decide +kernel
theorem d_law_law_745 : decode b_law_law 745 = .ok (.iconst 1, 1) := by decide +kernel
theorem d_law_law_746 : decode b_law_law 746 = .ok (.iadd, 1) := by decide +kernel
theorem d_law_law_747 : decode b_law_law 747 = .ok (.iaload, 1) := by decide +kernel
theorem d_law_law_748 : decode b_law_law 748 = .ok (.aload_n 0, 1) := by decide +kernel
theorem d_law_law_749 : decode b_law_law 749 = .ok (.iload 4, 2) := by decide +kernel
theorem d_law_law_751 : decode b_law_law 751 = .ok (.iconst 2, 1) := by decide +kernel
theorem d_law_law_752 : decode b_law_law 752 = .ok (.iadd, 1) := by decide +kernel
theorem d_law_law_753 : decode b_law_law 753 = .ok (.iaload, 1) := by decide +kernel
theorem d_law_law_754 : decode b_law_law 754 = .ok (.ifCond .eq 7, 3) := by decide +kernel
theorem d_law_law_757 : decode b_law_law 757 = .ok (.iconst 1, 1) := by decide +kernel
theorem d_law_law_758 : decode b_law_law 758 = .ok (.goto 4, 3) := by decide +kernel
theorem d_law_law_761 : decode b_law_law 761 = .ok (.iconst 0, 1) := by decide +kernel
theorem d_law_law_762 : decode b_law_law 762 = .ok (.aload_n 3, 1) := by decide +kernel
theorem d_law_law_763 : decode b_law_law 763 = .ok (.invokestatic 114, 3) := by decide +kernel
theorem d_law_law_766 : decode b_law_law 766 = .ok (.istore 5, 2) := by decide +kernel
theorem d_law_law_768 : decode b_law_law 768 = .ok (.aload_n 2, 1) := by decide +kernel
theorem d_law_law_769 : decode b_law_law 769 = .ok (.aload_n 0, 1) := by decide +kernel
theorem d_law_law_770 : decode b_law_law 770 = .ok (.iload 4, 2) := by decide +kernel
theorem d_law_law_772 : decode b_law_law 772 = .ok (.iconst 1, 1) := by decide +kernel
theorem d_law_law_773 : decode b_law_law 773 = .ok (.iadd, 1) := by decide +kernel
theorem d_law_law_774 : decode b_law_law 774 = .ok (.iaload, 1) := by decide +kernel
theorem d_law_law_775 : decode b_law_law 775 = .ok (.aload_n 0, 1) := by decide +kernel
theorem d_law_law_776 : decode b_law_law 776 = .ok (.iload 4, 2) := by decide +kernel
theorem d_law_law_778 : decode b_law_law 778 = .ok (.iconst 2, 1) := by decide +kernel
theorem d_law_law_779 : decode b_law_law 779 = .ok (.iadd, 1) := by decide +kernel
theorem d_law_law_780 : decode b_law_law 780 = .ok (.iaload, 1) := by decide +kernel
theorem d_law_law_781 : decode b_law_law 781 = .ok (.ifCond .eq 7, 3) := by decide +kernel
theorem d_law_law_784 : decode b_law_law 784 = .ok (.iconst 1, 1) := by decide +kernel
theorem d_law_law_785 : decode b_law_law 785 = .ok (.goto 4, 3) := by decide +kernel
theorem d_law_law_788 : decode b_law_law 788 = .ok (.iconst 0, 1) := by decide +kernel
theorem d_law_law_789 : decode b_law_law 789 = .ok (.invokevirtual 116, 3) := by decide +kernel
theorem d_law_law_792 : decode b_law_law 792 = .ok (.istore 6, 2) := by decide +kernel
theorem d_law_law_794 : decode b_law_law 794 = .ok (.aload_n 2, 1) := by decide +kernel
theorem d_law_law_795 : decode b_law_law 795 = .ok (.invokevirtual 76, 3) := by decide +kernel
theorem d_law_law_798 : decode b_law_law 798 = .ok (.iload 5, 2) := by decide +kernel
theorem d_law_law_800 : decode b_law_law 800 = .ok (.if_icmp .eq 5, 3) := by decide +kernel
theorem d_law_law_803 : decode b_law_law 803 = .ok (.iconst 0, 1) := by decide +kernel
theorem d_law_law_804 : decode b_law_law 804 = .ok (.ireturn, 1) := by decide +kernel
theorem d_law_law_805 : decode b_law_law 805 = .ok (.iload 5, 2) := by decide +kernel
theorem d_law_law_807 : decode b_law_law 807 = .ok (.ifCond .ne 15, 3) := by decide +kernel
theorem d_law_law_810 : decode b_law_law 810 = .ok (.aload_n 3, 1) := by decide +kernel
theorem d_law_law_811 : decode b_law_law 811 = .ok (.iconst 0, 1) := by decide +kernel
theorem d_law_law_812 : decode b_law_law 812 = .ok (.laload, 1) := by decide +kernel
theorem d_law_law_813 : decode b_law_law 813 = .ok (.iload 6, 2) := by decide +kernel
theorem d_law_law_815 : decode b_law_law 815 = .ok (.i2l, 1) := by decide +kernel
theorem d_law_law_816 : decode b_law_law 816 = .ok (.lcmp, 1) := by decide +kernel
theorem d_law_law_817 : decode b_law_law 817 = .ok (.ifCond .eq 5, 3) := by decide +kernel
theorem d_law_law_820 : decode b_law_law 820 = .ok (.iconst 0, 1) := by decide +kernel
theorem d_law_law_821 : decode b_law_law 821 = .ok (.ireturn, 1) := by decide +kernel
theorem d_law_law_822 : decode b_law_law 822 = .ok (.goto 208, 3) := by decide +kernel
theorem d_law_law_825 : decode b_law_law 825 = .ok (.aload_n 1, 1) := by decide +kernel
theorem d_law_law_826 : decode b_law_law 826 = .ok (.aload_n 0, 1) := by decide +kernel
theorem d_law_law_827 : decode b_law_law 827 = .ok (.iload 4, 2) := by decide +kernel
theorem d_law_law_829 : decode b_law_law 829 = .ok (.iconst 1, 1) := by decide +kernel
theorem d_law_law_830 : decode b_law_law 830 = .ok (.iadd, 1) := by decide +kernel
theorem d_law_law_831 : decode b_law_law 831 = .ok (.iaload, 1) := by decide +kernel
theorem d_law_law_832 : decode b_law_law 832 = .ok (.aload_n 3, 1) := by decide +kernel
theorem d_law_law_833 : decode b_law_law 833 = .ok (.invokestatic 117, 3) := by decide +kernel
theorem d_law_law_836 : decode b_law_law 836 = .ok (.istore 5, 2) := by decide +kernel
theorem d_law_law_838 : decode b_law_law 838 = .ok (.aload_n 2, 1) := by decide +kernel
theorem d_law_law_839 : decode b_law_law 839 = .ok (.aload_n 0, 1) := by decide +kernel
theorem d_law_law_840 : decode b_law_law 840 = .ok (.iload 4, 2) := by decide +kernel
theorem d_law_law_842 : decode b_law_law 842 = .ok (.iconst 1, 1) := by decide +kernel
theorem d_law_law_843 : decode b_law_law 843 = .ok (.iadd, 1) := by decide +kernel
theorem d_law_law_844 : decode b_law_law 844 = .ok (.iaload, 1) := by decide +kernel
theorem d_law_law_845 : decode b_law_law 845 = .ok (.invokevirtual 119, 3) := by decide +kernel
theorem d_law_law_848 : decode b_law_law 848 = .ok (.istore 6, 2) := by decide +kernel
