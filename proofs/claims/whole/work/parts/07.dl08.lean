theorem d_law_law_850 : decode b_law_law 850 = .ok (.aload_n 2, 1) := by decide +kernel
theorem d_law_law_851 : decode b_law_law 851 = .ok (.invokevirtual 76, 3) := by decide +kernel
theorem d_law_law_854 : decode b_law_law 854 = .ok (.iload 5, 2) := by decide +kernel
theorem d_law_law_856 : decode b_law_law 856 = .ok (.if_icmp .eq 5, 3) := by decide +kernel
theorem d_law_law_859 : decode b_law_law 859 = .ok (.iconst 0, 1) := by decide +kernel
theorem d_law_law_860 : decode b_law_law 860 = .ok (.ireturn, 1) := by decide +kernel
theorem d_law_law_861 : decode b_law_law 861 = .ok (.iload 5, 2) := by decide +kernel
theorem d_law_law_863 : decode b_law_law 863 = .ok (.ifCond .ne 15, 3) := by decide +kernel
theorem d_law_law_866 : decode b_law_law 866 = .ok (.aload_n 3, 1) := by decide +kernel
theorem d_law_law_867 : decode b_law_law 867 = .ok (.iconst 0, 1) := by decide +kernel
theorem d_law_law_868 : decode b_law_law 868 = .ok (.laload, 1) := by decide +kernel
theorem d_law_law_869 : decode b_law_law 869 = .ok (.iload 6, 2) := by decide +kernel
theorem d_law_law_871 : decode b_law_law 871 = .ok (.i2l, 1) := by decide +kernel
theorem d_law_law_872 : decode b_law_law 872 = .ok (.lcmp, 1) := by decide +kernel
theorem d_law_law_873 : decode b_law_law 873 = .ok (.ifCond .eq 5, 3) := by decide +kernel
theorem d_law_law_876 : decode b_law_law 876 = .ok (.iconst 0, 1) := by decide +kernel
theorem d_law_law_877 : decode b_law_law 877 = .ok (.ireturn, 1) := by decide +kernel
theorem d_law_law_878 : decode b_law_law 878 = .ok (.goto 152, 3) := by decide +kernel
theorem d_law_law_881 : decode b_law_law 881 = .ok (.aload_n 1, 1) := by decide +kernel
theorem d_law_law_882 : decode b_law_law 882 = .ok (.aload_n 0, 1) := by decide +kernel
theorem d_law_law_883 : decode b_law_law 883 = .ok (.iload 4, 2) := by decide +kernel
theorem d_law_law_885 : decode b_law_law 885 = .ok (.iconst 1, 1) := by decide +kernel
theorem d_law_law_886 : decode b_law_law 886 = .ok (.iadd, 1) := by decide +kernel
theorem d_law_law_887 : decode b_law_law 887 = .ok (.iaload, 1) := by decide +kernel
theorem d_law_law_888 : decode b_law_law 888 = .ok (.aload_n 0, 1) := by decide +kernel
theorem d_law_law_889 : decode b_law_law 889 = .ok (.iload 4, 2) := by decide +kernel
theorem d_law_law_891 : decode b_law_law 891 = .ok (.iconst 2, 1) := by decide +kernel
theorem d_law_law_892 : decode b_law_law 892 = .ok (.iadd, 1) := by decide +kernel
theorem d_law_law_893 : decode b_law_law 893 = .ok (.iaload, 1) := by decide +kernel
theorem d_law_law_894 : decode b_law_law 894 = .ok (.aload_n 3, 1) := by decide +kernel
theorem d_law_law_895 : decode b_law_law 895 = .ok (.invokestatic 120, 3) := by decide +kernel
theorem d_law_law_898 : decode b_law_law 898 = .ok (.istore 5, 2) := by decide +kernel
theorem d_law_law_900 : decode b_law_law 900 = .ok (.aload_n 2, 1) := by decide +kernel
theorem d_law_law_901 : decode b_law_law 901 = .ok (.aload_n 0, 1) := by decide +kernel
theorem d_law_law_902 : decode b_law_law 902 = .ok (.iload 4, 2) := by decide +kernel
theorem d_law_law_904 : decode b_law_law 904 = .ok (.iconst 1, 1) := by decide +kernel
theorem d_law_law_905 : decode b_law_law 905 = .ok (.iadd, 1) := by decide +kernel
theorem d_law_law_906 : decode b_law_law 906 = .ok (.iaload, 1) := by decide +kernel
theorem d_law_law_907 : decode b_law_law 907 = .ok (.aload_n 0, 1) := by decide +kernel
theorem d_law_law_908 : decode b_law_law 908 = .ok (.iload 4, 2) := by decide +kernel
theorem d_law_law_910 : decode b_law_law 910 = .ok (.iconst 2, 1) := by decide +kernel
theorem d_law_law_911 : decode b_law_law 911 = .ok (.iadd, 1) := by decide +kernel
theorem d_law_law_912 : decode b_law_law 912 = .ok (.iaload, 1) := by decide +kernel
theorem d_law_law_913 : decode b_law_law 913 = .ok (.invokevirtual 122, 3) := by decide +kernel
theorem d_law_law_916 : decode b_law_law 916 = .ok (.istore 6, 2) := by decide +kernel
theorem d_law_law_918 : decode b_law_law 918 = .ok (.aload_n 2, 1) := by decide +kernel
theorem d_law_law_919 : decode b_law_law 919 = .ok (.invokevirtual 76, 3) := by decide +kernel
theorem d_law_law_922 : decode b_law_law 922 = .ok (.iload 5, 2) := by decide +kernel
theorem d_law_law_924 : decode b_law_law 924 = .ok (.if_icmp .eq 5, 3) := by decide +kernel
theorem d_law_law_927 : decode b_law_law 927 = .ok (.iconst 0, 1) := by decide +kernel
theorem d_law_law_928 : decode b_law_law 928 = .ok (.ireturn, 1) := by decide +kernel
theorem d_law_law_929 : decode b_law_law 929 = .ok (.iload 5, 2) := by decide +kernel
theorem d_law_law_931 : decode b_law_law 931 = .ok (.ifCond .ne 15, 3) := by decide +kernel
theorem d_law_law_934 : decode b_law_law 934 = .ok (.aload_n 3, 1) := by decide +kernel
theorem d_law_law_935 : decode b_law_law 935 = .ok (.iconst 0, 1) := by decide +kernel
theorem d_law_law_936 : decode b_law_law 936 = .ok (.laload, 1) := by decide +kernel
theorem d_law_law_937 : decode b_law_law 937 = .ok (.iload 6, 2) := by decide +kernel
theorem d_law_law_939 : decode b_law_law 939 = .ok (.i2l, 1) := by decide +kernel
theorem d_law_law_940 : decode b_law_law 940 = .ok (.lcmp, 1) := by decide +kernel
theorem d_law_law_941 : decode b_law_law 941 = .ok (.ifCond .eq 5, 3) := by decide +kernel
theorem d_law_law_944 : decode b_law_law 944 = .ok (.iconst 0, 1) := by decide +kernel
theorem d_law_law_945 : decode b_law_law 945 = .ok (.ireturn, 1) := by decide +kernel
theorem d_law_law_946 : decode b_law_law 946 = .ok (.goto 84, 3) := by decide +kernel
theorem d_law_law_949 : decode b_law_law 949 = .ok (.aload_n 1, 1) := by decide +kernel
theorem d_law_law_950 : decode b_law_law 950 = .ok (.aload_n 0, 1) := by decide +kernel
theorem d_law_law_951 : decode b_law_law 951 = .ok (.iload 4, 2) := by decide +kernel
theorem d_law_law_953 : decode b_law_law 953 = .ok (.iconst 1, 1) := by decide +kernel
theorem d_law_law_954 : decode b_law_law 954 = .ok (.iadd, 1) := by decide +kernel
theorem d_law_law_955 : decode b_law_law 955 = .ok (.iaload, 1) := by decide +kernel
theorem d_law_law_956 : decode b_law_law 956 = .ok (.aload_n 3, 1) := by decide +kernel
