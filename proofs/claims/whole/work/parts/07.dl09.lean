theorem d_law_law_957 : decode b_law_law 957 = .ok (.invokestatic 123, 3) := by decide +kernel
theorem d_law_law_960 : decode b_law_law 960 = .ok (.istore 5, 2) := by decide +kernel
theorem d_law_law_962 : decode b_law_law 962 = .ok (.aload_n 2, 1) := by decide +kernel
theorem d_law_law_963 : decode b_law_law 963 = .ok (.aload_n 0, 1) := by decide +kernel
theorem d_law_law_964 : decode b_law_law 964 = .ok (.iload 4, 2) := by decide +kernel
theorem d_law_law_966 : decode b_law_law 966 = .ok (.iconst 1, 1) := by decide +kernel
theorem d_law_law_967 : decode b_law_law 967 = .ok (.iadd, 1) := by decide +kernel
theorem d_law_law_968 : decode b_law_law 968 = .ok (.iaload, 1) := by decide +kernel
theorem d_law_law_969 : decode b_law_law 969 = .ok (.invokevirtual 125, 3) := by decide +kernel
theorem d_law_law_972 : decode b_law_law 972 = .ok (.istore 6, 2) := by decide +kernel
theorem d_law_law_974 : decode b_law_law 974 = .ok (.aload_n 2, 1) := by decide +kernel
theorem d_law_law_975 : decode b_law_law 975 = .ok (.invokevirtual 76, 3) := by decide +kernel
theorem d_law_law_978 : decode b_law_law 978 = .ok (.iload 5, 2) := by decide +kernel
theorem d_law_law_980 : decode b_law_law 980 = .ok (.if_icmp .eq 5, 3) := by decide +kernel
theorem d_law_law_983 : decode b_law_law 983 = .ok (.iconst 0, 1) := by decide +kernel
theorem d_law_law_984 : decode b_law_law 984 = .ok (.ireturn, 1) := by decide +kernel
theorem d_law_law_985 : decode b_law_law 985 = .ok (.iload 5, 2) := by decide +kernel
theorem d_law_law_987 : decode b_law_law 987 = .ok (.ifCond .ne 15, 3) := by decide +kernel
theorem d_law_law_990 : decode b_law_law 990 = .ok (.aload_n 3, 1) := by decide +kernel
theorem d_law_law_991 : decode b_law_law 991 = .ok (.iconst 0, 1) := by decide +kernel
theorem d_law_law_992 : decode b_law_law 992 = .ok (.laload, 1) := by decide +kernel
theorem d_law_law_993 : decode b_law_law 993 = .ok (.iload 6, 2) := by decide +kernel
theorem d_law_law_995 : decode b_law_law 995 = .ok (.i2l, 1) := by decide +kernel
theorem d_law_law_996 : decode b_law_law 996 = .ok (.lcmp, 1) := by decide +kernel
theorem d_law_law_997 : decode b_law_law 997 = .ok (.ifCond .eq 5, 3) := by decide +kernel
theorem d_law_law_1000 : decode b_law_law 1000 = .ok (.iconst 0, 1) := by decide +kernel
theorem d_law_law_1001 : decode b_law_law 1001 = .ok (.ireturn, 1) := by decide +kernel
theorem d_law_law_1002 : decode b_law_law 1002 = .ok (.goto 28, 3) := by decide +kernel
theorem d_law_law_1005 : decode b_law_law 1005 = .ok (.aload_n 1, 1) := by decide +kernel
theorem d_law_law_1006 : decode b_law_law 1006 = .ok (.aload_n 0, 1) := by decide +kernel
theorem d_law_law_1007 : decode b_law_law 1007 = .ok (.iload 4, 2) := by decide +kernel
theorem d_law_law_1009 : decode b_law_law 1009 = .ok (.iconst 1, 1) := by decide +kernel
theorem d_law_law_1010 : decode b_law_law 1010 = .ok (.iadd, 1) := by decide +kernel
theorem d_law_law_1011 : decode b_law_law 1011 = .ok (.iaload, 1) := by decide +kernel
theorem d_law_law_1012 : decode b_law_law 1012 = .ok (.invokevirtual 126, 3) := by decide +kernel
theorem d_law_law_1015 : decode b_law_law 1015 = .ok (.aload_n 2, 1) := by decide +kernel
theorem d_law_law_1016 : decode b_law_law 1016 = .ok (.aload_n 0, 1) := by decide +kernel
theorem d_law_law_1017 : decode b_law_law 1017 = .ok (.iload 4, 2) := by decide +kernel
theorem d_law_law_1019 : decode b_law_law 1019 = .ok (.iconst 1, 1) := by decide +kernel
theorem d_law_law_1020 : decode b_law_law 1020 = .ok (.iadd, 1) := by decide +kernel
theorem d_law_law_1021 : decode b_law_law 1021 = .ok (.iaload, 1) := by decide +kernel
theorem d_law_law_1022 : decode b_law_law 1022 = .ok (.invokevirtual 129, 3) := by decide +kernel
theorem d_law_law_1025 : decode b_law_law 1025 = .ok (.if_icmp .eq 5, 3) := by decide +kernel
theorem d_law_law_1028 : decode b_law_law 1028 = .ok (.iconst 0, 1) := by decide +kernel
theorem d_law_law_1029 : decode b_law_law 1029 = .ok (.ireturn, 1) := by decide +kernel
theorem d_law_law_1030 : decode b_law_law 1030 = .ok (.iinc 4 4, 3) := by decide +kernel
theorem d_law_law_1033 : decode b_law_law 1033 = .ok (.goto (-1010), 3) := by decide +kernel
theorem d_law_law_1036 : decode b_law_law 1036 = .ok (.iconst 1, 1) := by decide +kernel
theorem d_law_law_1037 : decode b_law_law 1037 = .ok (.ireturn, 1) := by decide +kernel

