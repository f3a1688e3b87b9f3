theorem d_law_law_0 : decode b_law_law 0 = .ok (.new 8, 3) := by decide +kernel
theorem d_law_law_3 : decode b_law_law 3 = .ok (.dup, 1) := by decide +kernel
theorem d_law_law_4 : decode b_law_law 4 = .ok (.invokespecial 66, 3) := by decide +kernel
theorem d_law_law_7 : decode b_law_law 7 = .ok (.astore_n 1, 1) := by decide +kernel
theorem d_law_law_8 : decode b_law_law 8 = .ok (.new 67, 3) := by decide +kernel
theorem d_law_law_11 : decode b_law_law 11 = .ok (.dup, 1) := by decide +kernel
theorem d_law_law_12 : decode b_law_law 12 = .ok (.invokespecial 69, 3) := by decide +kernel
theorem d_law_law_15 : decode b_law_law 15 = .ok (.astore_n 2, 1) := by decide +kernel
theorem d_law_law_16 : decode b_law_law 16 = .ok (.iconst 1, 1) := by decide +kernel
theorem d_law_law_17 : decode b_law_law 17 = .ok (.newarray .long, 2) := by decide +kernel
theorem d_law_law_19 : decode b_law_law 19 = .ok (.astore_n 3, 1) := by decide +kernel
theorem d_law_law_20 : decode b_law_law 20 = .ok (.iconst 0, 1) := by decide +kernel
theorem d_law_law_21 : decode b_law_law 21 = .ok (.istore 4, 2) := by decide +kernel
theorem d_law_law_23 : decode b_law_law 23 = .ok (.iload 4, 2) := by decide +kernel
theorem d_law_law_25 : decode b_law_law 25 = .ok (.aload_n 0, 1) := by decide +kernel
theorem d_law_law_26 : decode b_law_law 26 = .ok (.arraylength, 1) := by decide +kernel
theorem d_law_law_27 : decode b_law_law 27 = .ok (.iconst 4, 1) := by decide +kernel
theorem d_law_law_28 : decode b_law_law 28 = .ok (.isub, 1) := by decide +kernel
theorem d_law_law_29 : decode b_law_law 29 = .ok (.if_icmp .gt 1007, 3) := by decide +kernel
theorem d_law_law_32 : decode b_law_law 32 = .ok (.aload_n 0, 1) := by decide +kernel
theorem d_law_law_33 : decode b_law_law 33 = .ok (.iload 4, 2) := by decide +kernel
theorem d_law_law_35 : decode b_law_law 35 = .ok (.iaload, 1) := by decide +kernel
theorem d_law_law_36 : decode b_law_law 36 = .ok (.bipush 15, 2) := by decide +kernel
theorem d_law_law_38 : decode b_law_law 38 = .ok (.iand, 1) := by decide +kernel
theorem d_law_law_39 : decode b_law_law 39 = .ok (.tableswitch 991 0 15 #[77, 133, 177, 257, 325, 381, 465, 521, 534, 590, 646, 702, 786, 842, 910, 966], 77) := by decide +kernel
theorem d_law_law_116 : decode b_law_law 116 = .ok (.aload_n 1, 1) := by decide +kernel
theorem d_law_law_117 : decode b_law_law 117 = .ok (.aload_n 0, 1) := by decide +kernel
theorem d_law_law_118 : decode b_law_law 118 = .ok (.iload 4, 2) := by decide +kernel
theorem d_law_law_120 : decode b_law_law 120 = .ok (.iconst 1, 1) := by decide +kernel
theorem d_law_law_121 : decode b_law_law 121 = .ok (.iadd, 1) := by decide +kernel
theorem d_law_law_122 : decode b_law_law 122 = .ok (.iaload, 1) := by decide +kernel
theorem d_law_law_123 : decode b_law_law 123 = .ok (.aload_n 3, 1) := by decide +kernel
theorem d_law_law_124 : decode b_law_law 124 = .ok (.invokestatic 70, 3) := by decide +kernel
theorem d_law_law_127 : decode b_law_law 127 = .ok (.istore 5, 2) := by decide +kernel
theorem d_law_law_129 : decode b_law_law 129 = .ok (.aload_n 2, 1) := by decide +kernel
theorem d_law_law_130 : decode b_law_law 130 = .ok (.aload_n 0, 1) := by decide +kernel
theorem d_law_law_131 : decode b_law_law 131 = .ok (.iload 4, 2) := by decide +kernel
theorem d_law_law_133 : decode b_law_law 133 = .ok (.iconst 1, 1) := by decide +kernel
theorem d_law_law_134 : decode b_law_law 134 = .ok (.iadd, 1) := by decide +kernel
theorem d_law_law_135 : decode b_law_law 135 = .ok (.iaload, 1) := by decide +kernel
theorem d_law_law_136 : decode b_law_law 136 = .ok (.invokevirtual 75, 3) := by decide +kernel
theorem d_law_law_139 : decode b_law_law 139 = .ok (.istore 6, 2) := by decide +kernel
theorem d_law_law_141 : decode b_law_law 141 = .ok (.aload_n 2, 1) := by decide +kernel
theorem d_law_law_142 : decode b_law_law 142 = .ok (.invokevirtual 76, 3) := by decide +kernel
theorem d_law_law_145 : decode b_law_law 145 = .ok (.iload 5, 2) := by decide +kernel
theorem d_law_law_147 : decode b_law_law 147 = .ok (.if_icmp .eq 5, 3) := by decide +kernel
theorem d_law_law_150 : decode b_law_law 150 = .ok (.iconst 0, 1) := by decide +kernel
theorem d_law_law_151 : decode b_law_law 151 = .ok (.ireturn, 1) := by decide +kernel
theorem d_law_law_152 : decode b_law_law 152 = .ok (.iload 5, 2) := by decide +kernel
theorem d_law_law_154 : decode b_law_law 154 = .ok (.ifCond .ne 15, 3) := by decide +kernel
theorem d_law_law_157 : decode b_law_law 157 = .ok (.aload_n 3, 1) := by decide +kernel
theorem d_law_law_158 : decode b_law_law 158 = .ok (.iconst 0, 1) := by decide +kernel
theorem d_law_law_159 : decode b_law_law 159 = .ok (.laload, 1) := by decide +kernel
theorem d_law_law_160 : decode b_law_law 160 = .ok (.iload 6, 2) := by decide +kernel
theorem d_law_law_162 : decode b_law_law 162 = .ok (.i2l, 1) := by decide +kernel
theorem d_law_law_163 : decode b_law_law 163 = .ok (.lcmp, 1) := by decide +kernel
theorem d_law_law_164 : decode b_law_law 164 = .ok (.ifCond .eq 5, 3) := by decide +kernel
theorem d_law_law_167 : decode b_law_law 167 = .ok (.iconst 0, 1) := by decide +kernel
theorem d_law_law_168 : decode b_law_law 168 = .ok (.ireturn, 1) := by decide +kernel
theorem d_law_law_169 : decode b_law_law 169 = .ok (.goto 861, 3) := by decide +kernel
theorem d_law_law_172 : decode b_law_law 172 = .ok (.aload_n 1, 1) := by decide +kernel
theorem d_law_law_173 : decode b_law_law 173 = .ok (.aload_n 3, 1) := by decide +kernel
theorem d_law_law_174 : decode b_law_law 174 = .ok (.invokestatic 79, 3) := by decide +kernel
theorem d_law_law_177 : decode b_law_law 177 = .ok (.istore 5, 2) := by decide +kernel
theorem d_law_law_179 : decode b_law_law 179 = .ok (.aload_n 2, 1) := by decide +kernel
theorem d_law_law_180 : decode b_law_law 180 = .ok (.invokevirtual 82, 3) := by decide +kernel
theorem d_law_law_183 : decode b_law_law 183 = .ok (.istore 6, 2) := by decide +kernel
theorem d_law_law_185 : decode b_law_law 185 = .ok (.aload_n 2, 1) := by decide +kernel
theorem d_law_law_186 : decode b_law_law 186 = .ok (.invokevirtual 76, 3) := by decide +kernel
theorem d_law_law_189 : decode b_law_law 189 = .ok (.iload 5, 2) := by decide +kernel
