theorem d_Model_init_0 : decode b_Model_init 0 = .ok (.aload_n 0, 1) := by decide +kernel
theorem d_Model_init_1 : decode b_Model_init 1 = .ok (.invokespecial 1, 3) := by decide +kernel
theorem d_Model_init_4 : decode b_Model_init 4 = .ok (.aload_n 0, 1) := by decide +kernel
theorem d_Model_init_5 : decode b_Model_init 5 = .ok (.sipush 384, 3) := by decide +kernel
theorem d_Model_init_8 : decode b_Model_init 8 = .ok (.newarray .int, 2) := by decide +kernel
theorem d_Model_init_10 : decode b_Model_init 10 = .ok (.putfield 7, 3) := by decide +kernel
theorem d_Model_init_13 : decode b_Model_init 13 = .ok (.aload_n 0, 1) := by decide +kernel
theorem d_Model_init_14 : decode b_Model_init 14 = .ok (.sipush 384, 3) := by decide +kernel
theorem d_Model_init_17 : decode b_Model_init 17 = .ok (.newarray .boolean, 2) := by decide +kernel
theorem d_Model_init_19 : decode b_Model_init 19 = .ok (.putfield 13, 3) := by decide +kernel
theorem d_Model_init_22 : decode b_Model_init 22 = .ok (.aload_n 0, 1) := by decide +kernel
theorem d_Model_init_23 : decode b_Model_init 23 = .ok (.sipush 192, 3) := by decide +kernel
theorem d_Model_init_26 : decode b_Model_init 26 = .ok (.newarray .int, 2) := by decide +kernel
theorem d_Model_init_28 : decode b_Model_init 28 = .ok (.putfield 17, 3) := by decide +kernel
theorem d_Model_init_31 : decode b_Model_init 31 = .ok (.aload_n 0, 1) := by decide +kernel
theorem d_Model_init_32 : decode b_Model_init 32 = .ok (.sipush 192, 3) := by decide +kernel
theorem d_Model_init_35 : decode b_Model_init 35 = .ok (.newarray .boolean, 2) := by decide +kernel
theorem d_Model_init_37 : decode b_Model_init 37 = .ok (.putfield 20, 3) := by decide +kernel
theorem d_Model_init_40 : decode b_Model_init 40 = .ok (.aload_n 0, 1) := by decide +kernel
theorem d_Model_init_41 : decode b_Model_init 41 = .ok (.iconst (-1), 1) := by decide +kernel
theorem d_Model_init_42 : decode b_Model_init 42 = .ok (.putfield 23, 3) := by decide +kernel
theorem d_Model_init_45 : decode b_Model_init 45 = .ok (.aload_n 0, 1) := by decide +kernel
theorem d_Model_init_46 : decode b_Model_init 46 = .ok (.iconst 4, 1) := by decide +kernel
theorem d_Model_init_47 : decode b_Model_init 47 = .ok (.newarray .int, 2) := by decide +kernel
theorem d_Model_init_49 : decode b_Model_init 49 = .ok (.putfield 27, 3) := by decide +kernel
theorem d_Model_init_52 : decode b_Model_init 52 = .ok (.aload_n 0, 1) := by decide +kernel
theorem d_Model_init_53 : decode b_Model_init 53 = .ok (.iconst 4, 1) := by decide +kernel
theorem d_Model_init_54 : decode b_Model_init 54 = .ok (.newarray .boolean, 2) := by decide +kernel
theorem d_Model_init_56 : decode b_Model_init 56 = .ok (.putfield 30, 3) := by decide +kernel
theorem d_Model_init_59 : decode b_Model_init 59 = .ok (.aload_n 0, 1) := by decide +kernel
theorem d_Model_init_60 : decode b_Model_init 60 = .ok (.iconst 4, 1) := by decide +kernel
theorem d_Model_init_61 : decode b_Model_init 61 = .ok (.newarray .int, 2) := by decide +kernel
theorem d_Model_init_63 : decode b_Model_init 63 = .ok (.putfield 33, 3) := by decide +kernel
theorem d_Model_init_66 : decode b_Model_init 66 = .ok (.aload_n 0, 1) := by decide +kernel
theorem d_Model_init_67 : decode b_Model_init 67 = .ok (.sipush 192, 3) := by decide +kernel
theorem d_Model_init_70 : decode b_Model_init 70 = .ok (.newarray .int, 2) := by decide +kernel
theorem d_Model_init_72 : decode b_Model_init 72 = .ok (.putfield 36, 3) := by decide +kernel
theorem d_Model_init_75 : decode b_Model_init 75 = .ok (.aload_n 0, 1) := by decide +kernel
theorem d_Model_init_76 : decode b_Model_init 76 = .ok (.iconst 4, 1) := by decide +kernel
theorem d_Model_init_77 : decode b_Model_init 77 = .ok (.newarray .int, 2) := by decide +kernel
theorem d_Model_init_79 : decode b_Model_init 79 = .ok (.putfield 39, 3) := by decide +kernel
theorem d_Model_init_82 : decode b_Model_init 82 = .ok (.aload_n 0, 1) := by decide +kernel
theorem d_Model_init_83 : decode b_Model_init 83 = .ok (.bipush 80, 2) := by decide +kernel
theorem d_Model_init_85 : decode b_Model_init 85 = .ok (.newarray .int, 2) := by decide +kernel
theorem d_Model_init_87 : decode b_Model_init 87 = .ok (.putfield 42, 3) := by decide +kernel
theorem d_Model_init_90 : decode b_Model_init 90 = .ok (.aload_n 0, 1) := by decide +kernel
theorem d_Model_init_91 : decode b_Model_init 91 = .ok (.bipush 80, 2) := by decide +kernel
theorem d_Model_init_93 : decode b_Model_init 93 = .ok (.newarray .int, 2) := by decide +kernel
theorem d_Model_init_95 : decode b_Model_init 95 = .ok (.putfield 45, 3) := by decide +kernel
theorem d_Model_init_98 : decode b_Model_init 98 = .ok (.aload_n 0, 1) := by decide +kernel
theorem d_Model_init_99 : decode b_Model_init 99 = .ok (.sipush 192, 3) := by decide +kernel
theorem d_Model_init_102 : decode b_Model_init 102 = .ok (.newarray .boolean, 2) := by decide +kernel
theorem d_Model_init_104 : decode b_Model_init 104 = .ok (.putfield 48, 3) := by decide +kernel
theorem d_Model_init_107 : decode b_Model_init 107 = .ok (.return_, 1) := by decide +kernel
theorem d_Model_thrown_0 : decode b_Model_thrown 0 = .ok (.aload_n 0, 1) := by decide +kernel
theorem d_Model_thrown_1 : decode b_Model_thrown 1 = .ok (.getfield 51, 3) := by decide +kernel
theorem d_Model_thrown_4 : decode b_Model_thrown 4 = .ok (.ireturn, 1) := by decide +kernel
theorem d_Model_factory_0 : decode b_Model_factory 0 = .ok (.aload_n 0, 1) := by decide +kernel
theorem d_Model_factory_1 : decode b_Model_factory 1 = .ok (.iload_n 1, 1) := by decide +kernel
theorem d_Model_factory_2 : decode b_Model_factory 2 = .ok (.invokestatic 97, 3) := by decide +kernel
theorem d_Model_factory_5 : decode b_Model_factory 5 = .ok (.ifCond .ne 7, 3) := by decide +kernel
theorem d_Model_factory_8 : decode b_Model_factory 8 = .ok (.iconst 1, 1) := by decide +kernel
theorem d_Model_factory_9 : decode b_Model_factory 9 = .ok (.goto 34, 3) := by decide +kernel
theorem d_Model_factory_12 : decode b_Model_factory 12 = .ok (.iload_n 1, 1) := by decide +kernel
theorem d_Model_factory_13 : decode b_Model_factory 13 = .ok (.bipush 16, 2) := by decide +kernel
theorem d_Model_factory_15 : decode b_Model_factory 15 = .ok (.if_icmp .lt 12, 3) := by decide +kernel
theorem d_Model_factory_18 : decode b_Model_factory 18 = .ok (.aload_n 0, 1) := by decide +kernel
theorem d_Model_factory_19 : decode b_Model_factory 19 = .ok (.getfield 20, 3) := by decide +kernel
theorem d_Model_factory_22 : decode b_Model_factory 22 = .ok (.iload_n 1, 1) := by decide +kernel
theorem d_Model_factory_23 : decode b_Model_factory 23 = .ok (.baload, 1) := by decide +kernel
theorem d_Model_factory_24 : decode b_Model_factory 24 = .ok (.ifCond .eq 7, 3) := by decide +kernel
theorem d_Model_factory_27 : decode b_Model_factory 27 = .ok (.iconst 2, 1) := by decide +kernel
theorem d_Model_factory_28 : decode b_Model_factory 28 = .ok (.goto 15, 3) := by decide +kernel
theorem d_Model_factory_31 : decode b_Model_factory 31 = .ok (.aload_n 0, 1) := by decide +kernel
theorem d_Model_factory_32 : decode b_Model_factory 32 = .ok (.getfield 100, 3) := by decide +kernel
theorem d_Model_factory_35 : decode b_Model_factory 35 = .ok (.ifCond .eq 7, 3) := by decide +kernel
theorem d_Model_factory_38 : decode b_Model_factory 38 = .ok (.iconst 3, 1) := by decide +kernel
theorem d_Model_factory_39 : decode b_Model_factory 39 = .ok (.goto 4, 3) := by decide +kernel
theorem d_Model_factory_42 : decode b_Model_factory 42 = .ok (.iconst 0, 1) := by decide +kernel
theorem d_Model_factory_43 : decode b_Model_factory 43 = .ok (.putfield 51, 3) := by decide +kernel
theorem d_Model_factory_46 : decode b_Model_factory 46 = .ok (.aload_n 0, 1) := by decide +kernel
theorem d_Model_factory_47 : decode b_Model_factory 47 = .ok (.getfield 51, 3) := by decide +kernel
theorem d_Model_factory_50 : decode b_Model_factory 50 = .ok (.ifCond .le 5, 3) := by decide +kernel
theorem d_Model_factory_53 : decode b_Model_factory 53 = .ok (.iconst 0, 1) := by decide +kernel
theorem d_Model_factory_54 : decode b_Model_factory 54 = .ok (.ireturn, 1) := by decide +kernel
theorem d_Model_factory_55 : decode b_Model_factory 55 = .ok (.aload_n 0, 1) := by decide +kernel
theorem d_Model_factory_56 : decode b_Model_factory 56 = .ok (.getfield 20, 3) := by decide +kernel
theorem d_Model_factory_59 : decode b_Model_factory 59 = .ok (.iload_n 1, 1) := by decide +kernel
theorem d_Model_factory_60 : decode b_Model_factory 60 = .ok (.iconst 1, 1) := by decide +kernel
theorem d_Model_factory_61 : decode b_Model_factory 61 = .ok (.bastore, 1) := by decide +kernel
theorem d_Model_factory_62 : decode b_Model_factory 62 = .ok (.aload_n 0, 1) := by decide +kernel
theorem d_Model_factory_63 : decode b_Model_factory 63 = .ok (.dup, 1) := by decide +kernel
theorem d_Model_factory_64 : decode b_Model_factory 64 = .ok (.getfield 103, 3) := by decide +kernel
theorem d_Model_factory_67 : decode b_Model_factory 67 = .ok (.iconst 1, 1) := by decide +kernel
theorem d_Model_factory_68 : decode b_Model_factory 68 = .ok (.iadd, 1) := by decide +kernel
theorem d_Model_factory_69 : decode b_Model_factory 69 = .ok (.putfield 103, 3) := by decide +kernel
theorem d_Model_factory_72 : decode b_Model_factory 72 = .ok (.aload_n 0, 1) := by decide +kernel
theorem d_Model_factory_73 : decode b_Model_factory 73 = .ok (.getfield 103, 3) := by decide +kernel
theorem d_Model_factory_76 : decode b_Model_factory 76 = .ok (.ireturn, 1) := by decide +kernel
theorem d_Model_isSector_0 : decode b_Model_isSector 0 = .ok (.iload_n 0, 1) := by decide +kernel
theorem d_Model_isSector_1 : decode b_Model_isSector 1 = .ok (.iconst 0, 1) := by decide +kernel
theorem d_Model_isSector_2 : decode b_Model_isSector 2 = .ok (.sipush 191, 3) := by decide +kernel
theorem d_Model_isSector_5 : decode b_Model_isSector 5 = .ok (.invokestatic 54, 3) := by decide +kernel
theorem d_Model_isSector_8 : decode b_Model_isSector 8 = .ok (.ireturn, 1) := by decide +kernel
theorem d_Model_in_0 : decode b_Model_in 0 = .ok (.iload_n 0, 1) := by decide +kernel
theorem d_Model_in_1 : decode b_Model_in 1 = .ok (.iload_n 1, 1) := by decide +kernel
theorem d_Model_in_2 : decode b_Model_in 2 = .ok (.if_icmp .lt 12, 3) := by decide +kernel
theorem d_Model_in_5 : decode b_Model_in 5 = .ok (.iload_n 0, 1) := by decide +kernel
theorem d_Model_in_6 : decode b_Model_in 6 = .ok (.iload_n 2, 1) := by decide +kernel
theorem d_Model_in_7 : decode b_Model_in 7 = .ok (.if_icmp .gt 7, 3) := by decide +kernel
theorem d_Model_in_10 : decode b_Model_in 10 = .ok (.iconst 1, 1) := by decide +kernel
theorem d_Model_in_11 : decode b_Model_in 11 = .ok (.goto 4, 3) := by decide +kernel
theorem d_Model_in_14 : decode b_Model_in 14 = .ok (.iconst 0, 1) := by decide +kernel
theorem d_Model_in_15 : decode b_Model_in 15 = .ok (.ireturn, 1) := by decide +kernel
theorem d_Model_format_0 : decode b_Model_format 0 = .ok (.iconst 0, 1) := by decide +kernel
theorem d_Model_format_1 : decode b_Model_format 1 = .ok (.istore_n 1, 1) := by decide +kernel
theorem d_Model_format_2 : decode b_Model_format 2 = .ok (.bipush 16, 2) := by decide +kernel
theorem d_Model_format_4 : decode b_Model_format 4 = .ok (.istore_n 2, 1) := by decide +kernel
theorem d_Model_format_5 : decode b_Model_format 5 = .ok (.iload_n 2, 1) := by decide +kernel
theorem d_Model_format_6 : decode b_Model_format 6 = .ok (.sipush 192, 3) := by decide +kernel
theorem d_Model_format_9 : decode b_Model_format 9 = .ok (.if_icmp .ge 63, 3) := by decide +kernel
theorem d_Model_format_12 : decode b_Model_format 12 = .ok (.aload_n 0, 1) := by decide +kernel
theorem d_Model_format_13 : decode b_Model_format 13 = .ok (.getfield 48, 3) := by decide +kernel
theorem d_Model_format_16 : decode b_Model_format 16 = .ok (.iload_n 2, 1) := by decide +kernel
theorem d_Model_format_17 : decode b_Model_format 17 = .ok (.aload_n 0, 1) := by decide +kernel
theorem d_Model_format_18 : decode b_Model_format 18 = .ok (.getfield 20, 3) := by decide +kernel
theorem d_Model_format_21 : decode b_Model_format 21 = .ok (.iload_n 2, 1) := by decide +kernel
theorem d_Model_format_22 : decode b_Model_format 22 = .ok (.baload, 1) := by decide +kernel
theorem d_Model_format_23 : decode b_Model_format 23 = .ok (.ifCond .ne 20, 3) := by decide +kernel
theorem d_Model_format_26 : decode b_Model_format 26 = .ok (.aload_n 0, 1) := by decide +kernel
theorem d_Model_format_27 : decode b_Model_format 27 = .ok (.getfield 17, 3) := by decide +kernel
theorem d_Model_format_30 : decode b_Model_format 30 = .ok (.iload_n 2, 1) := by decide +kernel
theorem d_Model_format_31 : decode b_Model_format 31 = .ok (.iaload, 1) := by decide +kernel
theorem d_Model_format_32 : decode b_Model_format 32 = .ok (.ifCond .ne 11, 3) := by decide +kernel
theorem d_Model_format_35 : decode b_Model_format 35 = .ok (.aload_n 0, 1) := by decide +kernel
theorem d_Model_format_36 : decode b_Model_format 36 = .ok (.iload_n 2, 1) := by decide +kernel
theorem d_Model_format_37 : decode b_Model_format 37 = .ok (.invokevirtual 76, 3) := by decide +kernel
theorem d_Model_format_40 : decode b_Model_format 40 = .ok (.ifCond .lt 7, 3) := by decide +kernel
theorem d_Model_format_43 : decode b_Model_format 43 = .ok (.iconst 1, 1) := by decide +kernel
theorem d_Model_format_44 : decode b_Model_format 44 = .ok (.goto 4, 3) := by decide +kernel
theorem d_Model_format_47 : decode b_Model_format 47 = .ok (.iconst 0, 1) := by decide +kernel
theorem d_Model_format_48 : decode b_Model_format 48 = .ok (.bastore, 1) := by decide +kernel
theorem d_Model_format_49 : decode b_Model_format 49 = .ok (.iload_n 1, 1) := by decide +kernel
theorem d_Model_format_50 : decode b_Model_format 50 = .ok (.aload_n 0, 1) := by decide +kernel
theorem d_Model_format_51 : decode b_Model_format 51 = .ok (.getfield 48, 3) := by decide +kernel
theorem d_Model_format_54 : decode b_Model_format 54 = .ok (.iload_n 2, 1) := by decide +kernel
theorem d_Model_format_55 : decode b_Model_format 55 = .ok (.baload, 1) := by decide +kernel
theorem d_Model_format_56 : decode b_Model_format 56 = .ok (.ifCond .eq 7, 3) := by decide +kernel
theorem d_Model_format_59 : decode b_Model_format 59 = .ok (.iconst 1, 1) := by decide +kernel
theorem d_Model_format_60 : decode b_Model_format 60 = .ok (.goto 4, 3) := by decide +kernel
theorem d_Model_format_63 : decode b_Model_format 63 = .ok (.iconst 0, 1) := by decide +kernel
theorem d_Model_format_64 : decode b_Model_format 64 = .ok (.iadd, 1) := by decide +kernel
theorem d_Model_format_65 : decode b_Model_format 65 = .ok (.istore_n 1, 1) := by decide +kernel
theorem d_Model_format_66 : decode b_Model_format 66 = .ok (.iinc 2 1, 3) := by decide +kernel
theorem d_Model_format_69 : decode b_Model_format 69 = .ok (.goto (-64), 3) := by decide +kernel
theorem d_Model_format_72 : decode b_Model_format 72 = .ok (.aload_n 0, 1) := by decide +kernel
theorem d_Model_format_73 : decode b_Model_format 73 = .ok (.iload_n 1, 1) := by decide +kernel
theorem d_Model_format_74 : decode b_Model_format 74 = .ok (.bipush 48, 2) := by decide +kernel
theorem d_Model_format_76 : decode b_Model_format 76 = .ok (.if_icmp .le 7, 3) := by decide +kernel
theorem d_Model_format_79 : decode b_Model_format 79 = .ok (.iconst 1, 1) := by decide +kernel
theorem d_Model_format_80 : decode b_Model_format 80 = .ok (.goto 4, 3) := by decide +kernel
theorem d_Model_format_83 : decode b_Model_format 83 = .ok (.iconst 0, 1) := by decide +kernel
theorem d_Model_format_84 : decode b_Model_format 84 = .ok (.putfield 51, 3) := by decide +kernel
theorem d_Model_format_87 : decode b_Model_format 87 = .ok (.aload_n 0, 1) := by decide +kernel
theorem d_Model_format_88 : decode b_Model_format 88 = .ok (.getfield 51, 3) := by decide +kernel
theorem d_Model_format_91 : decode b_Model_format 91 = .ok (.ifCond .gt 10, 3) := by decide +kernel
theorem d_Model_format_94 : decode b_Model_format 94 = .ok (.aload_n 0, 1) := by decide +kernel
theorem d_Model_format_95 : decode b_Model_format 95 = .ok (.getfield 82, 3) := by decide +kernel
theorem d_Model_format_98 : decode b_Model_format 98 = .ok (.ifCond .eq 17, 3) := by decide +kernel
theorem d_Model_format_101 : decode b_Model_format 101 = .ok (.aload_n 0, 1) := by decide +kernel
theorem d_Model_format_102 : decode b_Model_format 102 = .ok (.getfield 51, 3) := by decide +kernel
theorem d_Model_format_105 : decode b_Model_format 105 = .ok (.ifCond .le 7, 3) := by decide +kernel
theorem d_Model_format_108 : decode b_Model_format 108 = .ok (.iconst 0, 1) := by decide +kernel
theorem d_Model_format_109 : decode b_Model_format 109 = .ok (.goto 5, 3) := by decide +kernel
theorem d_Model_format_112 : decode b_Model_format 112 = .ok (.bipush (-5), 2) := by decide +kernel
theorem d_Model_format_114 : decode b_Model_format 114 = .ok (.ireturn, 1) := by decide +kernel
theorem d_Model_format_115 : decode b_Model_format 115 = .ok (.aload_n 0, 1) := by decide +kernel
theorem d_Model_format_116 : decode b_Model_format 116 = .ok (.getfield 27, 3) := by decide +kernel
theorem d_Model_format_119 : decode b_Model_format 119 = .ok (.iconst 3, 1) := by decide +kernel
theorem d_Model_format_120 : decode b_Model_format 120 = .ok (.aload_n 0, 1) := by decide +kernel
theorem d_Model_format_121 : decode b_Model_format 121 = .ok (.getfield 27, 3) := by decide +kernel
theorem d_Model_format_124 : decode b_Model_format 124 = .ok (.iconst 0, 1) := by decide +kernel
theorem d_Model_format_125 : decode b_Model_format 125 = .ok (.iaload, 1) := by decide +kernel
theorem d_Model_format_126 : decode b_Model_format 126 = .ok (.iconst 1, 1) := by decide +kernel
theorem d_Model_format_127 : decode b_Model_format 127 = .ok (.iadd, 1) := by decide +kernel
theorem d_Model_format_128 : decode b_Model_format 128 = .ok (.iastore, 1) := by decide +kernel
theorem d_Model_format_129 : decode b_Model_format 129 = .ok (.aload_n 0, 1) := by decide +kernel
theorem d_Model_format_130 : decode b_Model_format 130 = .ok (.getfield 33, 3) := by decide +kernel
theorem d_Model_format_133 : decode b_Model_format 133 = .ok (.iconst 3, 1) := by decide +kernel
theorem d_Model_format_134 : decode b_Model_format 134 = .ok (.iconst 0, 1) := by decide +kernel
theorem d_Model_format_135 : decode b_Model_format 135 = .ok (.iastore, 1) := by decide +kernel
theorem d_Model_format_136 : decode b_Model_format 136 = .ok (.aload_n 0, 1) := by decide +kernel
theorem d_Model_format_137 : decode b_Model_format 137 = .ok (.getfield 39, 3) := by decide +kernel
theorem d_Model_format_140 : decode b_Model_format 140 = .ok (.iconst 3, 1) := by decide +kernel
theorem d_Model_format_141 : decode b_Model_format 141 = .ok (.iconst 0, 1) := by decide +kernel
theorem d_Model_format_142 : decode b_Model_format 142 = .ok (.iastore, 1) := by decide +kernel
theorem d_Model_format_143 : decode b_Model_format 143 = .ok (.bipush 16, 2) := by decide +kernel
theorem d_Model_format_145 : decode b_Model_format 145 = .ok (.istore_n 2, 1) := by decide +kernel
theorem d_Model_format_146 : decode b_Model_format 146 = .ok (.iload_n 2, 1) := by decide +kernel
theorem d_Model_format_147 : decode b_Model_format 147 = .ok (.sipush 192, 3) := by decide +kernel
theorem d_Model_format_150 : decode b_Model_format 150 = .ok (.if_icmp .ge 44, 3) := by decide +kernel
theorem d_Model_format_153 : decode b_Model_format 153 = .ok (.aload_n 0, 1) := by decide +kernel
theorem d_Model_format_154 : decode b_Model_format 154 = .ok (.getfield 48, 3) := by decide +kernel
theorem d_Model_format_157 : decode b_Model_format 157 = .ok (.iload_n 2, 1) := by decide +kernel
theorem d_Model_format_158 : decode b_Model_format 158 = .ok (.baload, 1) := by decide +kernel
theorem d_Model_format_159 : decode b_Model_format 159 = .ok (.ifCond .eq 29, 3) := by decide +kernel
theorem d_Model_format_162 : decode b_Model_format 162 = .ok (.aload_n 0, 1) := by decide +kernel
theorem d_Model_format_163 : decode b_Model_format 163 = .ok (.getfield 36, 3) := by decide +kernel
theorem d_Model_format_166 : decode b_Model_format 166 = .ok (.sipush 144, 3) := by decide +kernel
theorem d_Model_format_169 : decode b_Model_format 169 = .ok (.aload_n 0, 1) := by decide +kernel
theorem d_Model_format_170 : decode b_Model_format 170 = .ok (.getfield 33, 3) := by decide +kernel
theorem d_Model_format_173 : decode b_Model_format 173 = .ok (.iconst 3, 1) := by decide +kernel
theorem d_Model_format_174 : decode b_Model_format 174 = .ok (.iaload, 1) := by decide +kernel
theorem d_Model_format_175 : decode b_Model_format 175 = .ok (.iadd, 1) := by decide +kernel
theorem d_Model_format_176 : decode b_Model_format 176 = .ok (.iload_n 2, 1) := by decide +kernel
theorem d_Model_format_177 : decode b_Model_format 177 = .ok (.iastore, 1) := by decide +kernel
theorem d_Model_format_178 : decode b_Model_format 178 = .ok (.aload_n 0, 1) := by decide +kernel
theorem d_Model_format_179 : decode b_Model_format 179 = .ok (.getfield 33, 3) := by decide +kernel
theorem d_Model_format_182 : decode b_Model_format 182 = .ok (.iconst 3, 1) := by decide +kernel
theorem d_Model_format_183 : decode b_Model_format 183 = .ok (.dup2, 1) := by decide +kernel
theorem d_Model_format_184 : decode b_Model_format 184 = .ok (.iaload, 1) := by decide +kernel
theorem d_Model_format_185 : decode b_Model_format 185 = .ok (.iconst 1, 1) := by decide +kernel
theorem d_Model_format_186 : decode b_Model_format 186 = .ok (.iadd, 1) := by decide +kernel
theorem d_Model_format_187 : decode b_Model_format 187 = .ok (.iastore, 1) := by decide +kernel
theorem d_Model_format_188 : decode b_Model_format 188 = .ok (.iinc 2 1, 3) := by decide +kernel
theorem d_Model_format_191 : decode b_Model_format 191 = .ok (.goto (-45), 3) := by decide +kernel
theorem d_Model_format_194 : decode b_Model_format 194 = .ok (.bipush 16, 2) := by decide +kernel
theorem d_Model_format_196 : decode b_Model_format 196 = .ok (.istore_n 2, 1) := by decide +kernel
theorem d_Model_format_197 : decode b_Model_format 197 = .ok (.iload_n 2, 1) := by decide +kernel
theorem d_Model_format_198 : decode b_Model_format 198 = .ok (.sipush 192, 3) := by decide +kernel
theorem d_Model_format_201 : decode b_Model_format 201 = .ok (.if_icmp .ge 61, 3) := by decide +kernel
theorem d_Model_format_204 : decode b_Model_format 204 = .ok (.aload_n 0, 1) := by decide +kernel
theorem d_Model_format_205 : decode b_Model_format 205 = .ok (.getfield 17, 3) := by decide +kernel
theorem d_Model_format_208 : decode b_Model_format 208 = .ok (.iload_n 2, 1) := by decide +kernel
theorem d_Model_format_209 : decode b_Model_format 209 = .ok (.iaload, 1) := by decide +kernel
theorem d_Model_format_210 : decode b_Model_format 210 = .ok (.ifCond .ne 46, 3) := by decide +kernel
theorem d_Model_format_213 : decode b_Model_format 213 = .ok (.aload_n 0, 1) := by decide +kernel
theorem d_Model_format_214 : decode b_Model_format 214 = .ok (.invokevirtual 89, 3) := by decide +kernel
theorem d_Model_format_217 : decode b_Model_format 217 = .ok (.ifCond .ne 6, 3) := by decide +kernel
theorem d_Model_format_220 : decode b_Model_format 220 = .ok (.bipush (-5), 2) := by decide +kernel
theorem d_Model_format_222 : decode b_Model_format 222 = .ok (.ireturn, 1) := by decide +kernel
theorem d_Model_format_223 : decode b_Model_format 223 = .ok (.iconst 2, 1) := by decide +kernel
theorem d_Model_format_224 : decode b_Model_format 224 = .ok (.iload_n 2, 1) := by decide +kernel
theorem d_Model_format_225 : decode b_Model_format 225 = .ok (.imul, 1) := by decide +kernel
theorem d_Model_format_226 : decode b_Model_format 226 = .ok (.istore_n 3, 1) := by decide +kernel
theorem d_Model_format_227 : decode b_Model_format 227 = .ok (.iload_n 3, 1) := by decide +kernel
theorem d_Model_format_228 : decode b_Model_format 228 = .ok (.iconst 2, 1) := by decide +kernel
theorem d_Model_format_229 : decode b_Model_format 229 = .ok (.iload_n 2, 1) := by decide +kernel
theorem d_Model_format_230 : decode b_Model_format 230 = .ok (.imul, 1) := by decide +kernel
theorem d_Model_format_231 : decode b_Model_format 231 = .ok (.iconst 2, 1) := by decide +kernel
theorem d_Model_format_232 : decode b_Model_format 232 = .ok (.iadd, 1) := by decide +kernel
theorem d_Model_format_233 : decode b_Model_format 233 = .ok (.if_icmp .ge 23, 3) := by decide +kernel
theorem d_Model_format_236 : decode b_Model_format 236 = .ok (.aload_n 0, 1) := by decide +kernel
theorem d_Model_format_237 : decode b_Model_format 237 = .ok (.getfield 7, 3) := by decide +kernel
theorem d_Model_format_240 : decode b_Model_format 240 = .ok (.iload_n 3, 1) := by decide +kernel
theorem d_Model_format_241 : decode b_Model_format 241 = .ok (.iconst 0, 1) := by decide +kernel
theorem d_Model_format_242 : decode b_Model_format 242 = .ok (.iastore, 1) := by decide +kernel
theorem d_Model_format_243 : decode b_Model_format 243 = .ok (.aload_n 0, 1) := by decide +kernel
theorem d_Model_format_244 : decode b_Model_format 244 = .ok (.getfield 13, 3) := by decide +kernel
theorem d_Model_format_247 : decode b_Model_format 247 = .ok (.iload_n 3, 1) := by decide +kernel
theorem d_Model_format_248 : decode b_Model_format 248 = .ok (.iconst 0, 1) := by decide +kernel
theorem d_Model_format_249 : decode b_Model_format 249 = .ok (.bastore, 1) := by decide +kernel
theorem d_Model_format_250 : decode b_Model_format 250 = .ok (.iinc 3 1, 3) := by decide +kernel
theorem d_Model_format_253 : decode b_Model_format 253 = .ok (.goto (-26), 3) := by decide +kernel
theorem d_Model_format_256 : decode b_Model_format 256 = .ok (.iinc 2 1, 3) := by decide +kernel
theorem d_Model_format_259 : decode b_Model_format 259 = .ok (.goto (-62), 3) := by decide +kernel
theorem d_Model_format_262 : decode b_Model_format 262 = .ok (.aload_n 0, 1) := by decide +kernel
theorem d_Model_format_263 : decode b_Model_format 263 = .ok (.invokevirtual 106, 3) := by decide +kernel
theorem d_Model_format_266 : decode b_Model_format 266 = .ok (.ifCond .ne 6, 3) := by decide +kernel
theorem d_Model_format_269 : decode b_Model_format 269 = .ok (.bipush (-5), 2) := by decide +kernel
theorem d_Model_format_271 : decode b_Model_format 271 = .ok (.ireturn, 1) := by decide +kernel
theorem d_Model_format_272 : decode b_Model_format 272 = .ok (.aload_n 0, 1) := by decide +kernel
theorem d_Model_format_273 : decode b_Model_format 273 = .ok (.iconst 1, 1) := by decide +kernel
theorem d_Model_format_274 : decode b_Model_format 274 = .ok (.putfield 100, 3) := by decide +kernel
theorem d_Model_format_277 : decode b_Model_format 277 = .ok (.aload_n 0, 1) := by decide +kernel
theorem d_Model_format_278 : decode b_Model_format 278 = .ok (.invokevirtual 68, 3) := by decide +kernel
theorem d_Model_format_281 : decode b_Model_format 281 = .ok (.ireturn, 1) := by decide +kernel
theorem d_Model_pairOfFirst_0 : decode b_Model_pairOfFirst 0 = .ok (.iconst (-1), 1) := by decide +kernel
theorem d_Model_pairOfFirst_1 : decode b_Model_pairOfFirst 1 = .ok (.istore_n 2, 1) := by decide +kernel
theorem d_Model_pairOfFirst_2 : decode b_Model_pairOfFirst 2 = .ok (.iconst 0, 1) := by decide +kernel
theorem d_Model_pairOfFirst_3 : decode b_Model_pairOfFirst 3 = .ok (.istore_n 3, 1) := by decide +kernel
theorem d_Model_pairOfFirst_4 : decode b_Model_pairOfFirst 4 = .ok (.iload_n 3, 1) := by decide +kernel
theorem d_Model_pairOfFirst_5 : decode b_Model_pairOfFirst 5 = .ok (.aload_n 0, 1) := by decide +kernel
theorem d_Model_pairOfFirst_6 : decode b_Model_pairOfFirst 6 = .ok (.getfield 39, 3) := by decide +kernel
theorem d_Model_pairOfFirst_9 : decode b_Model_pairOfFirst 9 = .ok (.iconst 0, 1) := by decide +kernel
theorem d_Model_pairOfFirst_10 : decode b_Model_pairOfFirst 10 = .ok (.iaload, 1) := by decide +kernel
theorem d_Model_pairOfFirst_11 : decode b_Model_pairOfFirst 11 = .ok (.if_icmp .ge 25, 3) := by decide +kernel
theorem d_Model_pairOfFirst_14 : decode b_Model_pairOfFirst 14 = .ok (.aload_n 0, 1) := by decide +kernel
theorem d_Model_pairOfFirst_15 : decode b_Model_pairOfFirst 15 = .ok (.getfield 42, 3) := by decide +kernel
theorem d_Model_pairOfFirst_18 : decode b_Model_pairOfFirst 18 = .ok (.iload_n 3, 1) := by decide +kernel
theorem d_Model_pairOfFirst_19 : decode b_Model_pairOfFirst 19 = .ok (.iaload, 1) := by decide +kernel
theorem d_Model_pairOfFirst_20 : decode b_Model_pairOfFirst 20 = .ok (.iload_n 1, 1) := by decide +kernel
theorem d_Model_pairOfFirst_21 : decode b_Model_pairOfFirst 21 = .ok (.if_icmp .ne 7, 3) := by decide +kernel
theorem d_Model_pairOfFirst_24 : decode b_Model_pairOfFirst 24 = .ok (.iload_n 3, 1) := by decide +kernel
theorem d_Model_pairOfFirst_25 : decode b_Model_pairOfFirst 25 = .ok (.goto 4, 3) := by decide +kernel
theorem d_Model_pairOfFirst_28 : decode b_Model_pairOfFirst 28 = .ok (.iload_n 2, 1) := by decide +kernel
theorem d_Model_pairOfFirst_29 : decode b_Model_pairOfFirst 29 = .ok (.istore_n 2, 1) := by decide +kernel
theorem d_Model_pairOfFirst_30 : decode b_Model_pairOfFirst 30 = .ok (.iinc 3 1, 3) := by decide +kernel
theorem d_Model_pairOfFirst_33 : decode b_Model_pairOfFirst 33 = .ok (.goto (-29), 3) := by decide +kernel
theorem d_Model_pairOfFirst_36 : decode b_Model_pairOfFirst 36 = .ok (.iload_n 2, 1) := by decide +kernel
theorem d_Model_pairOfFirst_37 : decode b_Model_pairOfFirst 37 = .ok (.ireturn, 1) := by decide +kernel
theorem d_Model_writesOne_0 : decode b_Model_writesOne 0 = .ok (.aload_n 0, 1) := by decide +kernel
theorem d_Model_writesOne_1 : decode b_Model_writesOne 1 = .ok (.getfield 23, 3) := by decide +kernel
theorem d_Model_writesOne_4 : decode b_Model_writesOne 4 = .ok (.ifCond .ne 10, 3) := by decide +kernel
theorem d_Model_writesOne_7 : decode b_Model_writesOne 7 = .ok (.aload_n 0, 1) := by decide +kernel
theorem d_Model_writesOne_8 : decode b_Model_writesOne 8 = .ok (.iconst 1, 1) := by decide +kernel
theorem d_Model_writesOne_9 : decode b_Model_writesOne 9 = .ok (.putfield 82, 3) := by decide +kernel
theorem d_Model_writesOne_12 : decode b_Model_writesOne 12 = .ok (.iconst 0, 1) := by decide +kernel
theorem d_Model_writesOne_13 : decode b_Model_writesOne 13 = .ok (.ireturn, 1) := by decide +kernel
theorem d_Model_writesOne_14 : decode b_Model_writesOne 14 = .ok (.aload_n 0, 1) := by decide +kernel
theorem d_Model_writesOne_15 : decode b_Model_writesOne 15 = .ok (.aload_n 0, 1) := by decide +kernel
theorem d_Model_writesOne_16 : decode b_Model_writesOne 16 = .ok (.getfield 23, 3) := by decide +kernel
theorem d_Model_writesOne_19 : decode b_Model_writesOne 19 = .ok (.ifCond .le 12, 3) := by decide +kernel
theorem d_Model_writesOne_22 : decode b_Model_writesOne 22 = .ok (.aload_n 0, 1) := by decide +kernel
theorem d_Model_writesOne_23 : decode b_Model_writesOne 23 = .ok (.getfield 23, 3) := by decide +kernel
theorem d_Model_writesOne_26 : decode b_Model_writesOne 26 = .ok (.iconst 1, 1) := by decide +kernel
theorem d_Model_writesOne_27 : decode b_Model_writesOne 27 = .ok (.isub, 1) := by decide +kernel
theorem d_Model_writesOne_28 : decode b_Model_writesOne 28 = .ok (.goto 7, 3) := by decide +kernel
theorem d_Model_writesOne_31 : decode b_Model_writesOne 31 = .ok (.aload_n 0, 1) := by decide +kernel
theorem d_Model_writesOne_32 : decode b_Model_writesOne 32 = .ok (.getfield 23, 3) := by decide +kernel
theorem d_Model_writesOne_35 : decode b_Model_writesOne 35 = .ok (.putfield 23, 3) := by decide +kernel
theorem d_Model_writesOne_38 : decode b_Model_writesOne 38 = .ok (.aload_n 0, 1) := by decide +kernel
theorem d_Model_writesOne_39 : decode b_Model_writesOne 39 = .ok (.dup, 1) := by decide +kernel
theorem d_Model_writesOne_40 : decode b_Model_writesOne 40 = .ok (.getfield 86, 3) := by decide +kernel
theorem d_Model_writesOne_43 : decode b_Model_writesOne 43 = .ok (.iconst 1, 1) := by decide +kernel
theorem d_Model_writesOne_44 : decode b_Model_writesOne 44 = .ok (.iadd, 1) := by decide +kernel
theorem d_Model_writesOne_45 : decode b_Model_writesOne 45 = .ok (.putfield 86, 3) := by decide +kernel
theorem d_Model_writesOne_48 : decode b_Model_writesOne 48 = .ok (.iconst 1, 1) := by decide +kernel
theorem d_Model_writesOne_49 : decode b_Model_writesOne 49 = .ok (.ireturn, 1) := by decide +kernel
theorem d_Model_writesLists_0 : decode b_Model_writesLists 0 = .ok (.aload_n 0, 1) := by decide +kernel
theorem d_Model_writesLists_1 : decode b_Model_writesLists 1 = .ok (.getfield 27, 3) := by decide +kernel
theorem d_Model_writesLists_4 : decode b_Model_writesLists 4 = .ok (.iconst 3, 1) := by decide +kernel
theorem d_Model_writesLists_5 : decode b_Model_writesLists 5 = .ok (.iaload, 1) := by decide +kernel
theorem d_Model_writesLists_6 : decode b_Model_writesLists 6 = .ok (.iconst 2, 1) := by decide +kernel
theorem d_Model_writesLists_7 : decode b_Model_writesLists 7 = .ok (.irem, 1) := by decide +kernel
theorem d_Model_writesLists_8 : decode b_Model_writesLists 8 = .ok (.iconst 1, 1) := by decide +kernel
theorem d_Model_writesLists_9 : decode b_Model_writesLists 9 = .ok (.if_icmp .ne 7, 3) := by decide +kernel
theorem d_Model_writesLists_12 : decode b_Model_writesLists 12 = .ok (.iconst 1, 1) := by decide +kernel
theorem d_Model_writesLists_13 : decode b_Model_writesLists 13 = .ok (.goto 4, 3) := by decide +kernel
theorem d_Model_writesLists_16 : decode b_Model_writesLists 16 = .ok (.iconst 2, 1) := by decide +kernel
theorem d_Model_writesLists_17 : decode b_Model_writesLists 17 = .ok (.istore_n 1, 1) := by decide +kernel
theorem d_Model_writesLists_18 : decode b_Model_writesLists 18 = .ok (.aload_n 0, 1) := by decide +kernel
theorem d_Model_writesLists_19 : decode b_Model_writesLists 19 = .ok (.invokevirtual 89, 3) := by decide +kernel
theorem d_Model_writesLists_22 : decode b_Model_writesLists 22 = .ok (.ifCond .ne 5, 3) := by decide +kernel
theorem d_Model_writesLists_25 : decode b_Model_writesLists 25 = .ok (.iconst 0, 1) := by decide +kernel
theorem d_Model_writesLists_26 : decode b_Model_writesLists 26 = .ok (.ireturn, 1) := by decide +kernel
theorem d_Model_writesLists_27 : decode b_Model_writesLists 27 = .ok (.aload_n 0, 1) := by decide +kernel
theorem d_Model_writesLists_28 : decode b_Model_writesLists 28 = .ok (.getfield 30, 3) := by decide +kernel
theorem d_Model_writesLists_31 : decode b_Model_writesLists 31 = .ok (.iload_n 1, 1) := by decide +kernel
theorem d_Model_writesLists_32 : decode b_Model_writesLists 32 = .ok (.iconst 0, 1) := by decide +kernel
theorem d_Model_writesLists_33 : decode b_Model_writesLists 33 = .ok (.bastore, 1) := by decide +kernel
theorem d_Model_writesLists_34 : decode b_Model_writesLists 34 = .ok (.aload_n 0, 1) := by decide +kernel
theorem d_Model_writesLists_35 : decode b_Model_writesLists 35 = .ok (.getfield 27, 3) := by decide +kernel
theorem d_Model_writesLists_38 : decode b_Model_writesLists 38 = .ok (.iload_n 1, 1) := by decide +kernel
theorem d_Model_writesLists_39 : decode b_Model_writesLists 39 = .ok (.aload_n 0, 1) := by decide +kernel
theorem d_Model_writesLists_40 : decode b_Model_writesLists 40 = .ok (.getfield 27, 3) := by decide +kernel
theorem d_Model_writesLists_43 : decode b_Model_writesLists 43 = .ok (.iconst 3, 1) := by decide +kernel
theorem d_Model_writesLists_44 : decode b_Model_writesLists 44 = .ok (.iaload, 1) := by decide +kernel
theorem d_Model_writesLists_45 : decode b_Model_writesLists 45 = .ok (.iastore, 1) := by decide +kernel
theorem d_Model_writesLists_46 : decode b_Model_writesLists 46 = .ok (.aload_n 0, 1) := by decide +kernel
theorem d_Model_writesLists_47 : decode b_Model_writesLists 47 = .ok (.getfield 33, 3) := by decide +kernel
theorem d_Model_writesLists_50 : decode b_Model_writesLists 50 = .ok (.iconst 3, 1) := by decide +kernel
theorem d_Model_writesLists_51 : decode b_Model_writesLists 51 = .ok (.iaload, 1) := by decide +kernel
theorem d_Model_writesLists_52 : decode b_Model_writesLists 52 = .ok (.aload_n 0, 1) := by decide +kernel
theorem d_Model_writesLists_53 : decode b_Model_writesLists 53 = .ok (.getfield 39, 3) := by decide +kernel
theorem d_Model_writesLists_56 : decode b_Model_writesLists 56 = .ok (.iconst 3, 1) := by decide +kernel
theorem d_Model_writesLists_57 : decode b_Model_writesLists 57 = .ok (.iaload, 1) := by decide +kernel
theorem d_Model_writesLists_58 : decode b_Model_writesLists 58 = .ok (.iadd, 1) := by decide +kernel
theorem d_Model_writesLists_59 : decode b_Model_writesLists 59 = .ok (.istore_n 2, 1) := by decide +kernel
theorem d_Model_writesLists_60 : decode b_Model_writesLists 60 = .ok (.iconst 0, 1) := by decide +kernel
theorem d_Model_writesLists_61 : decode b_Model_writesLists 61 = .ok (.istore_n 3, 1) := by decide +kernel
theorem d_Model_writesLists_62 : decode b_Model_writesLists 62 = .ok (.iload_n 3, 1) := by decide +kernel
theorem d_Model_writesLists_63 : decode b_Model_writesLists 63 = .ok (.iload_n 2, 1) := by decide +kernel
theorem d_Model_writesLists_64 : decode b_Model_writesLists 64 = .ok (.if_icmp .ge 18, 3) := by decide +kernel
theorem d_Model_writesLists_67 : decode b_Model_writesLists 67 = .ok (.aload_n 0, 1) := by decide +kernel
theorem d_Model_writesLists_68 : decode b_Model_writesLists 68 = .ok (.invokevirtual 89, 3) := by decide +kernel
theorem d_Model_writesLists_71 : decode b_Model_writesLists 71 = .ok (.ifCond .ne 5, 3) := by decide +kernel
theorem d_Model_writesLists_74 : decode b_Model_writesLists 74 = .ok (.iconst 0, 1) := by decide +kernel
theorem d_Model_writesLists_75 : decode b_Model_writesLists 75 = .ok (.ireturn, 1) := by decide +kernel
theorem d_Model_writesLists_76 : decode b_Model_writesLists 76 = .ok (.iinc 3 8, 3) := by decide +kernel
theorem d_Model_writesLists_79 : decode b_Model_writesLists 79 = .ok (.goto (-17), 3) := by decide +kernel
theorem d_Model_writesLists_82 : decode b_Model_writesLists 82 = .ok (.aload_n 0, 1) := by decide +kernel
theorem d_Model_writesLists_83 : decode b_Model_writesLists 83 = .ok (.invokevirtual 89, 3) := by decide +kernel
theorem d_Model_writesLists_86 : decode b_Model_writesLists 86 = .ok (.ifCond .ne 5, 3) := by decide +kernel
theorem d_Model_writesLists_89 : decode b_Model_writesLists 89 = .ok (.iconst 0, 1) := by decide +kernel
theorem d_Model_writesLists_90 : decode b_Model_writesLists 90 = .ok (.ireturn, 1) := by decide +kernel
theorem d_Model_writesLists_91 : decode b_Model_writesLists 91 = .ok (.aload_n 0, 1) := by decide +kernel
theorem d_Model_writesLists_92 : decode b_Model_writesLists 92 = .ok (.iconst 3, 1) := by decide +kernel
theorem d_Model_writesLists_93 : decode b_Model_writesLists 93 = .ok (.iload_n 1, 1) := by decide +kernel
theorem d_Model_writesLists_94 : decode b_Model_writesLists 94 = .ok (.invokevirtual 93, 3) := by decide +kernel
theorem d_Model_writesLists_97 : decode b_Model_writesLists 97 = .ok (.aload_n 0, 1) := by decide +kernel
theorem d_Model_writesLists_98 : decode b_Model_writesLists 98 = .ok (.getfield 30, 3) := by decide +kernel
theorem d_Model_writesLists_101 : decode b_Model_writesLists 101 = .ok (.iload_n 1, 1) := by decide +kernel
theorem d_Model_writesLists_102 : decode b_Model_writesLists 102 = .ok (.iconst 1, 1) := by decide +kernel
theorem d_Model_writesLists_103 : decode b_Model_writesLists 103 = .ok (.bastore, 1) := by decide +kernel
theorem d_Model_writesLists_104 : decode b_Model_writesLists 104 = .ok (.aload_n 0, 1) := by decide +kernel
theorem d_Model_writesLists_105 : decode b_Model_writesLists 105 = .ok (.iconst 3, 1) := by decide +kernel
theorem d_Model_writesLists_106 : decode b_Model_writesLists 106 = .ok (.iconst 0, 1) := by decide +kernel
theorem d_Model_writesLists_107 : decode b_Model_writesLists 107 = .ok (.invokevirtual 93, 3) := by decide +kernel
theorem d_Model_writesLists_110 : decode b_Model_writesLists 110 = .ok (.iconst 1, 1) := by decide +kernel
theorem d_Model_writesLists_111 : decode b_Model_writesLists 111 = .ok (.ireturn, 1) := by decide +kernel
theorem d_Model_copyLists_0 : decode b_Model_copyLists 0 = .ok (.aload_n 0, 1) := by decide +kernel
theorem d_Model_copyLists_1 : decode b_Model_copyLists 1 = .ok (.getfield 27, 3) := by decide +kernel
theorem d_Model_copyLists_4 : decode b_Model_copyLists 4 = .ok (.iload_n 2, 1) := by decide +kernel
theorem d_Model_copyLists_5 : decode b_Model_copyLists 5 = .ok (.aload_n 0, 1) := by decide +kernel
theorem d_Model_copyLists_6 : decode b_Model_copyLists 6 = .ok (.getfield 27, 3) := by decide +kernel
theorem d_Model_copyLists_9 : decode b_Model_copyLists 9 = .ok (.iload_n 1, 1) := by decide +kernel
theorem d_Model_copyLists_10 : decode b_Model_copyLists 10 = .ok (.iaload, 1) := by decide +kernel
theorem d_Model_copyLists_11 : decode b_Model_copyLists 11 = .ok (.iastore, 1) := by decide +kernel
theorem d_Model_copyLists_12 : decode b_Model_copyLists 12 = .ok (.aload_n 0, 1) := by decide +kernel
theorem d_Model_copyLists_13 : decode b_Model_copyLists 13 = .ok (.getfield 33, 3) := by decide +kernel
theorem d_Model_copyLists_16 : decode b_Model_copyLists 16 = .ok (.iload_n 2, 1) := by decide +kernel
theorem d_Model_copyLists_17 : decode b_Model_copyLists 17 = .ok (.aload_n 0, 1) := by decide +kernel
theorem d_Model_copyLists_18 : decode b_Model_copyLists 18 = .ok (.getfield 33, 3) := by decide +kernel
theorem d_Model_copyLists_21 : decode b_Model_copyLists 21 = .ok (.iload_n 1, 1) := by decide +kernel
theorem d_Model_copyLists_22 : decode b_Model_copyLists 22 = .ok (.iaload, 1) := by decide +kernel
theorem d_Model_copyLists_23 : decode b_Model_copyLists 23 = .ok (.iastore, 1) := by decide +kernel
theorem d_Model_copyLists_24 : decode b_Model_copyLists 24 = .ok (.aload_n 0, 1) := by decide +kernel
theorem d_Model_copyLists_25 : decode b_Model_copyLists 25 = .ok (.getfield 39, 3) := by decide +kernel
theorem d_Model_copyLists_28 : decode b_Model_copyLists 28 = .ok (.iload_n 2, 1) := by decide +kernel
theorem d_Model_copyLists_29 : decode b_Model_copyLists 29 = .ok (.aload_n 0, 1) := by decide +kernel
theorem d_Model_copyLists_30 : decode b_Model_copyLists 30 = .ok (.getfield 39, 3) := by decide +kernel
theorem d_Model_copyLists_33 : decode b_Model_copyLists 33 = .ok (.iload_n 1, 1) := by decide +kernel
theorem d_Model_copyLists_34 : decode b_Model_copyLists 34 = .ok (.iaload, 1) := by decide +kernel
theorem d_Model_copyLists_35 : decode b_Model_copyLists 35 = .ok (.iastore, 1) := by decide +kernel
theorem d_Model_copyLists_36 : decode b_Model_copyLists 36 = .ok (.iconst 0, 1) := by decide +kernel
theorem d_Model_copyLists_37 : decode b_Model_copyLists 37 = .ok (.istore_n 3, 1) := by decide +kernel
theorem d_Model_copyLists_38 : decode b_Model_copyLists 38 = .ok (.iload_n 3, 1) := by decide +kernel
theorem d_Model_copyLists_39 : decode b_Model_copyLists 39 = .ok (.aload_n 0, 1) := by decide +kernel
theorem d_Model_copyLists_40 : decode b_Model_copyLists 40 = .ok (.getfield 33, 3) := by decide +kernel
theorem d_Model_copyLists_43 : decode b_Model_copyLists 43 = .ok (.iload_n 1, 1) := by decide +kernel
theorem d_Model_copyLists_44 : decode b_Model_copyLists 44 = .ok (.iaload, 1) := by decide +kernel
theorem d_Model_copyLists_45 : decode b_Model_copyLists 45 = .ok (.if_icmp .ge 31, 3) := by decide +kernel
theorem d_Model_copyLists_48 : decode b_Model_copyLists 48 = .ok (.aload_n 0, 1) := by decide +kernel
theorem d_Model_copyLists_49 : decode b_Model_copyLists 49 = .ok (.getfield 36, 3) := by decide +kernel
theorem d_Model_copyLists_52 : decode b_Model_copyLists 52 = .ok (.bipush 48, 2) := by decide +kernel
theorem d_Model_copyLists_54 : decode b_Model_copyLists 54 = .ok (.iload_n 2, 1) := by decide +kernel
theorem d_Model_copyLists_55 : decode b_Model_copyLists 55 = .ok (.imul, 1) := by decide +kernel
theorem d_Model_copyLists_56 : decode b_Model_copyLists 56 = .ok (.iload_n 3, 1) := by decide +kernel
theorem d_Model_copyLists_57 : decode b_Model_copyLists 57 = .ok (.iadd, 1) := by decide +kernel
theorem d_Model_copyLists_58 : decode b_Model_copyLists 58 = .ok (.aload_n 0, 1) := by decide +kernel
theorem d_Model_copyLists_59 : decode b_Model_copyLists 59 = .ok (.getfield 36, 3) := by decide +kernel
theorem d_Model_copyLists_62 : decode b_Model_copyLists 62 = .ok (.bipush 48, 2) := by decide +kernel
theorem d_Model_copyLists_64 : decode b_Model_copyLists 64 = .ok (.iload_n 1, 1) := by decide +kernel
theorem d_Model_copyLists_65 : decode b_Model_copyLists 65 = .ok (.imul, 1) := by decide +kernel
theorem d_Model_copyLists_66 : decode b_Model_copyLists 66 = .ok (.iload_n 3, 1) := by decide +kernel
theorem d_Model_copyLists_67 : decode b_Model_copyLists 67 = .ok (.iadd, 1) := by decide +kernel
theorem d_Model_copyLists_68 : decode b_Model_copyLists 68 = .ok (.iaload, 1) := by decide +kernel
theorem d_Model_copyLists_69 : decode b_Model_copyLists 69 = .ok (.iastore, 1) := by decide +kernel
theorem d_Model_copyLists_70 : decode b_Model_copyLists 70 = .ok (.iinc 3 1, 3) := by decide +kernel
theorem d_Model_copyLists_73 : decode b_Model_copyLists 73 = .ok (.goto (-35), 3) := by decide +kernel
theorem d_Model_copyLists_76 : decode b_Model_copyLists 76 = .ok (.iconst 0, 1) := by decide +kernel
theorem d_Model_copyLists_77 : decode b_Model_copyLists 77 = .ok (.istore_n 3, 1) := by decide +kernel
theorem d_Model_copyLists_78 : decode b_Model_copyLists 78 = .ok (.iload_n 3, 1) := by decide +kernel
theorem d_Model_copyLists_79 : decode b_Model_copyLists 79 = .ok (.aload_n 0, 1) := by decide +kernel
theorem d_Model_copyLists_80 : decode b_Model_copyLists 80 = .ok (.getfield 39, 3) := by decide +kernel
theorem d_Model_copyLists_83 : decode b_Model_copyLists 83 = .ok (.iload_n 1, 1) := by decide +kernel
theorem d_Model_copyLists_84 : decode b_Model_copyLists 84 = .ok (.iaload, 1) := by decide +kernel
theorem d_Model_copyLists_85 : decode b_Model_copyLists 85 = .ok (.if_icmp .ge 53, 3) := by decide +kernel
theorem d_Model_copyLists_88 : decode b_Model_copyLists 88 = .ok (.aload_n 0, 1) := by decide +kernel
theorem d_Model_copyLists_89 : decode b_Model_copyLists 89 = .ok (.getfield 42, 3) := by decide +kernel
theorem d_Model_copyLists_92 : decode b_Model_copyLists 92 = .ok (.bipush 20, 2) := by decide +kernel
theorem d_Model_copyLists_94 : decode b_Model_copyLists 94 = .ok (.iload_n 2, 1) := by decide +kernel
theorem d_Model_copyLists_95 : decode b_Model_copyLists 95 = .ok (.imul, 1) := by decide +kernel
theorem d_Model_copyLists_96 : decode b_Model_copyLists 96 = .ok (.iload_n 3, 1) := by decide +kernel
theorem d_Model_copyLists_97 : decode b_Model_copyLists 97 = .ok (.iadd, 1) := by decide +kernel
theorem d_Model_copyLists_98 : decode b_Model_copyLists 98 = .ok (.aload_n 0, 1) := by decide +kernel
theorem d_Model_copyLists_99 : decode b_Model_copyLists 99 = .ok (.getfield 42, 3) := by decide +kernel
theorem d_Model_copyLists_102 : decode b_Model_copyLists 102 = .ok (.bipush 20, 2) := by decide +kernel
theorem d_Model_copyLists_104 : decode b_Model_copyLists 104 = .ok (.iload_n 1, 1) := by decide +kernel
theorem d_Model_copyLists_105 : decode b_Model_copyLists 105 = .ok (.imul, 1) := by decide +kernel
theorem d_Model_copyLists_106 : decode b_Model_copyLists 106 = .ok (.iload_n 3, 1) := by decide +kernel
theorem d_Model_copyLists_107 : decode b_Model_copyLists 107 = .ok (.iadd, 1) := by decide +kernel
theorem d_Model_copyLists_108 : decode b_Model_copyLists 108 = .ok (.iaload, 1) := by decide +kernel
theorem d_Model_copyLists_109 : decode b_Model_copyLists 109 = .ok (.iastore, 1) := by decide +kernel
theorem d_Model_copyLists_110 : decode b_Model_copyLists 110 = .ok (.aload_n 0, 1) := by decide +kernel
theorem d_Model_copyLists_111 : decode b_Model_copyLists 111 = .ok (.getfield 45, 3) := by decide +kernel
theorem d_Model_copyLists_114 : decode b_Model_copyLists 114 = .ok (.bipush 20, 2) := by decide +kernel
theorem d_Model_copyLists_116 : decode b_Model_copyLists 116 = .ok (.iload_n 2, 1) := by decide +kernel
theorem d_Model_copyLists_117 : decode b_Model_copyLists 117 = .ok (.imul, 1) := by decide +kernel
theorem d_Model_copyLists_118 : decode b_Model_copyLists 118 = .ok (.iload_n 3, 1) := by decide +kernel
theorem d_Model_copyLists_119 : decode b_Model_copyLists 119 = .ok (.iadd, 1) := by decide +kernel
theorem d_Model_copyLists_120 : decode b_Model_copyLists 120 = .ok (.aload_n 0, 1) := by decide +kernel
theorem d_Model_copyLists_121 : decode b_Model_copyLists 121 = .ok (.getfield 45, 3) := by decide +kernel
theorem d_Model_copyLists_124 : decode b_Model_copyLists 124 = .ok (.bipush 20, 2) := by decide +kernel
theorem d_Model_copyLists_126 : decode b_Model_copyLists 126 = .ok (.iload_n 1, 1) := by decide +kernel
theorem d_Model_copyLists_127 : decode b_Model_copyLists 127 = .ok (.imul, 1) := by decide +kernel
theorem d_Model_copyLists_128 : decode b_Model_copyLists 128 = .ok (.iload_n 3, 1) := by decide +kernel
theorem d_Model_copyLists_129 : decode b_Model_copyLists 129 = .ok (.iadd, 1) := by decide +kernel
theorem d_Model_copyLists_130 : decode b_Model_copyLists 130 = .ok (.iaload, 1) := by decide +kernel
theorem d_Model_copyLists_131 : decode b_Model_copyLists 131 = .ok (.iastore, 1) := by decide +kernel
theorem d_Model_copyLists_132 : decode b_Model_copyLists 132 = .ok (.iinc 3 1, 3) := by decide +kernel
theorem d_Model_copyLists_135 : decode b_Model_copyLists 135 = .ok (.goto (-57), 3) := by decide +kernel
theorem d_Model_copyLists_138 : decode b_Model_copyLists 138 = .ok (.return_, 1) := by decide +kernel
theorem d_Model_capacity_0 : decode b_Model_capacity 0 = .ok (.iconst 0, 1) := by decide +kernel
theorem d_Model_capacity_1 : decode b_Model_capacity 1 = .ok (.istore_n 1, 1) := by decide +kernel
theorem d_Model_capacity_2 : decode b_Model_capacity 2 = .ok (.iconst 0, 1) := by decide +kernel
theorem d_Model_capacity_3 : decode b_Model_capacity 3 = .ok (.istore_n 2, 1) := by decide +kernel
theorem d_Model_capacity_4 : decode b_Model_capacity 4 = .ok (.iload_n 2, 1) := by decide +kernel
theorem d_Model_capacity_5 : decode b_Model_capacity 5 = .ok (.sipush 192, 3) := by decide +kernel
theorem d_Model_capacity_8 : decode b_Model_capacity 8 = .ok (.if_icmp .ge 34, 3) := by decide +kernel
theorem d_Model_capacity_11 : decode b_Model_capacity 11 = .ok (.aload_n 0, 1) := by decide +kernel
theorem d_Model_capacity_12 : decode b_Model_capacity 12 = .ok (.getfield 27, 3) := by decide +kernel
theorem d_Model_capacity_15 : decode b_Model_capacity 15 = .ok (.iconst 0, 1) := by decide +kernel
theorem d_Model_capacity_16 : decode b_Model_capacity 16 = .ok (.iaload, 1) := by decide +kernel
theorem d_Model_capacity_17 : decode b_Model_capacity 17 = .ok (.ifCond .le 25, 3) := by decide +kernel
theorem d_Model_capacity_20 : decode b_Model_capacity 20 = .ok (.iload_n 1, 1) := by decide +kernel
theorem d_Model_capacity_21 : decode b_Model_capacity 21 = .ok (.aload_n 0, 1) := by decide +kernel
theorem d_Model_capacity_22 : decode b_Model_capacity 22 = .ok (.iload_n 2, 1) := by decide +kernel
theorem d_Model_capacity_23 : decode b_Model_capacity 23 = .ok (.invokevirtual 65, 3) := by decide +kernel
theorem d_Model_capacity_26 : decode b_Model_capacity 26 = .ok (.ifCond .eq 7, 3) := by decide +kernel
theorem d_Model_capacity_29 : decode b_Model_capacity 29 = .ok (.iconst 1, 1) := by decide +kernel
theorem d_Model_capacity_30 : decode b_Model_capacity 30 = .ok (.goto 4, 3) := by decide +kernel
theorem d_Model_capacity_33 : decode b_Model_capacity 33 = .ok (.iconst 0, 1) := by decide +kernel
theorem d_Model_capacity_34 : decode b_Model_capacity 34 = .ok (.iadd, 1) := by decide +kernel
theorem d_Model_capacity_35 : decode b_Model_capacity 35 = .ok (.istore_n 1, 1) := by decide +kernel
theorem d_Model_capacity_36 : decode b_Model_capacity 36 = .ok (.iinc 2 1, 3) := by decide +kernel
theorem d_Model_capacity_39 : decode b_Model_capacity 39 = .ok (.goto (-35), 3) := by decide +kernel
theorem d_Model_capacity_42 : decode b_Model_capacity 42 = .ok (.iload_n 1, 1) := by decide +kernel
theorem d_Model_capacity_43 : decode b_Model_capacity 43 = .ok (.ireturn, 1) := by decide +kernel
theorem d_Model_isLogical_0 : decode b_Model_isLogical 0 = .ok (.iload_n 1, 1) := by decide +kernel
theorem d_Model_isLogical_1 : decode b_Model_isLogical 1 = .ok (.bipush 16, 2) := by decide +kernel
theorem d_Model_isLogical_3 : decode b_Model_isLogical 3 = .ok (.if_icmp .lt 22, 3) := by decide +kernel
theorem d_Model_isLogical_6 : decode b_Model_isLogical 6 = .ok (.iload_n 1, 1) := by decide +kernel
theorem d_Model_isLogical_7 : decode b_Model_isLogical 7 = .ok (.invokestatic 58, 3) := by decide +kernel
theorem d_Model_isLogical_10 : decode b_Model_isLogical 10 = .ok (.ifCond .ne 15, 3) := by decide +kernel
theorem d_Model_isLogical_13 : decode b_Model_isLogical 13 = .ok (.aload_n 0, 1) := by decide +kernel
theorem d_Model_isLogical_14 : decode b_Model_isLogical 14 = .ok (.iload_n 1, 1) := by decide +kernel
theorem d_Model_isLogical_15 : decode b_Model_isLogical 15 = .ok (.invokevirtual 62, 3) := by decide +kernel
theorem d_Model_isLogical_18 : decode b_Model_isLogical 18 = .ok (.ifCond .ne 7, 3) := by decide +kernel
theorem d_Model_isLogical_21 : decode b_Model_isLogical 21 = .ok (.iconst 1, 1) := by decide +kernel
theorem d_Model_isLogical_22 : decode b_Model_isLogical 22 = .ok (.goto 4, 3) := by decide +kernel
theorem d_Model_isLogical_25 : decode b_Model_isLogical 25 = .ok (.iconst 0, 1) := by decide +kernel
theorem d_Model_isLogical_26 : decode b_Model_isLogical 26 = .ok (.ireturn, 1) := by decide +kernel
theorem d_Model_isSpare_0 : decode b_Model_isSpare 0 = .ok (.iload_n 0, 1) := by decide +kernel
theorem d_Model_isSpare_1 : decode b_Model_isSpare 1 = .ok (.bipush 16, 2) := by decide +kernel
theorem d_Model_isSpare_3 : decode b_Model_isSpare 3 = .ok (.if_icmp .lt 16, 3) := by decide +kernel
theorem d_Model_isSpare_6 : decode b_Model_isSpare 6 = .ok (.iload_n 0, 1) := by decide +kernel
theorem d_Model_isSpare_7 : decode b_Model_isSpare 7 = .ok (.bipush 16, 2) := by decide +kernel
theorem d_Model_isSpare_9 : decode b_Model_isSpare 9 = .ok (.irem, 1) := by decide +kernel
theorem d_Model_isSpare_10 : decode b_Model_isSpare 10 = .ok (.bipush 12, 2) := by decide +kernel
theorem d_Model_isSpare_12 : decode b_Model_isSpare 12 = .ok (.if_icmp .le 7, 3) := by decide +kernel
theorem d_Model_isSpare_15 : decode b_Model_isSpare 15 = .ok (.iconst 1, 1) := by decide +kernel
theorem d_Model_isSpare_16 : decode b_Model_isSpare 16 = .ok (.goto 4, 3) := by decide +kernel
theorem d_Model_isSpare_19 : decode b_Model_isSpare 19 = .ok (.iconst 0, 1) := by decide +kernel
theorem d_Model_isSpare_20 : decode b_Model_isSpare 20 = .ok (.ireturn, 1) := by decide +kernel
theorem d_Model_isPrimary_0 : decode b_Model_isPrimary 0 = .ok (.iconst 0, 1) := by decide +kernel
theorem d_Model_isPrimary_1 : decode b_Model_isPrimary 1 = .ok (.istore_n 2, 1) := by decide +kernel
theorem d_Model_isPrimary_2 : decode b_Model_isPrimary 2 = .ok (.iconst 0, 1) := by decide +kernel
theorem d_Model_isPrimary_3 : decode b_Model_isPrimary 3 = .ok (.istore_n 3, 1) := by decide +kernel
theorem d_Model_isPrimary_4 : decode b_Model_isPrimary 4 = .ok (.iload_n 3, 1) := by decide +kernel
theorem d_Model_isPrimary_5 : decode b_Model_isPrimary 5 = .ok (.aload_n 0, 1) := by decide +kernel
theorem d_Model_isPrimary_6 : decode b_Model_isPrimary 6 = .ok (.getfield 33, 3) := by decide +kernel
theorem d_Model_isPrimary_9 : decode b_Model_isPrimary 9 = .ok (.iconst 0, 1) := by decide +kernel
theorem d_Model_isPrimary_10 : decode b_Model_isPrimary 10 = .ok (.iaload, 1) := by decide +kernel
theorem d_Model_isPrimary_11 : decode b_Model_isPrimary 11 = .ok (.if_icmp .ge 29, 3) := by decide +kernel
theorem d_Model_isPrimary_14 : decode b_Model_isPrimary 14 = .ok (.iload_n 2, 1) := by decide +kernel
theorem d_Model_isPrimary_15 : decode b_Model_isPrimary 15 = .ok (.ifCond .ne 13, 3) := by decide +kernel
theorem d_Model_isPrimary_18 : decode b_Model_isPrimary 18 = .ok (.aload_n 0, 1) := by decide +kernel
theorem d_Model_isPrimary_19 : decode b_Model_isPrimary 19 = .ok (.getfield 36, 3) := by decide +kernel
theorem d_Model_isPrimary_22 : decode b_Model_isPrimary 22 = .ok (.iload_n 3, 1) := by decide +kernel
theorem d_Model_isPrimary_23 : decode b_Model_isPrimary 23 = .ok (.iaload, 1) := by decide +kernel
theorem d_Model_isPrimary_24 : decode b_Model_isPrimary 24 = .ok (.iload_n 1, 1) := by decide +kernel
theorem d_Model_isPrimary_25 : decode b_Model_isPrimary 25 = .ok (.if_icmp .ne 7, 3) := by decide +kernel
theorem d_Model_isPrimary_28 : decode b_Model_isPrimary 28 = .ok (.iconst 1, 1) := by decide +kernel
theorem d_Model_isPrimary_29 : decode b_Model_isPrimary 29 = .ok (.goto 4, 3) := by decide +kernel
theorem d_Model_isPrimary_32 : decode b_Model_isPrimary 32 = .ok (.iconst 0, 1) := by decide +kernel
theorem d_Model_isPrimary_33 : decode b_Model_isPrimary 33 = .ok (.istore_n 2, 1) := by decide +kernel
theorem d_Model_isPrimary_34 : decode b_Model_isPrimary 34 = .ok (.iinc 3 1, 3) := by decide +kernel
theorem d_Model_isPrimary_37 : decode b_Model_isPrimary 37 = .ok (.goto (-33), 3) := by decide +kernel
theorem d_Model_isPrimary_40 : decode b_Model_isPrimary 40 = .ok (.iload_n 2, 1) := by decide +kernel
theorem d_Model_isPrimary_41 : decode b_Model_isPrimary 41 = .ok (.ireturn, 1) := by decide +kernel
theorem d_Model_write_0 : decode b_Model_write 0 = .ok (.aload_n 0, 1) := by decide +kernel
theorem d_Model_write_1 : decode b_Model_write 1 = .ok (.aload_n 0, 1) := by decide +kernel
theorem d_Model_write_2 : decode b_Model_write 2 = .ok (.iload_n 1, 1) := by decide +kernel
theorem d_Model_write_3 : decode b_Model_write 3 = .ok (.invokevirtual 109, 3) := by decide +kernel
theorem d_Model_write_6 : decode b_Model_write 6 = .ok (.ifCond .eq 16, 3) := by decide +kernel
theorem d_Model_write_9 : decode b_Model_write 9 = .ok (.iload_n 2, 1) := by decide +kernel
theorem d_Model_write_10 : decode b_Model_write 10 = .ok (.iconst 0, 1) := by decide +kernel
theorem d_Model_write_11 : decode b_Model_write 11 = .ok (.iconst 1, 1) := by decide +kernel
theorem d_Model_write_12 : decode b_Model_write 12 = .ok (.invokestatic 54, 3) := by decide +kernel
theorem d_Model_write_15 : decode b_Model_write 15 = .ok (.ifCond .eq 7, 3) := by decide +kernel
theorem d_Model_write_18 : decode b_Model_write 18 = .ok (.iconst 0, 1) := by decide +kernel
theorem d_Model_write_19 : decode b_Model_write 19 = .ok (.goto 4, 3) := by decide +kernel
theorem d_Model_write_22 : decode b_Model_write 22 = .ok (.iconst 1, 1) := by decide +kernel
theorem d_Model_write_23 : decode b_Model_write 23 = .ok (.putfield 51, 3) := by decide +kernel
theorem d_Model_write_26 : decode b_Model_write 26 = .ok (.aload_n 0, 1) := by decide +kernel
theorem d_Model_write_27 : decode b_Model_write 27 = .ok (.getfield 51, 3) := by decide +kernel
theorem d_Model_write_30 : decode b_Model_write 30 = .ok (.ifCond .le 5, 3) := by decide +kernel
theorem d_Model_write_33 : decode b_Model_write 33 = .ok (.iconst 0, 1) := by decide +kernel
theorem d_Model_write_34 : decode b_Model_write 34 = .ok (.ireturn, 1) := by decide +kernel
theorem d_Model_write_35 : decode b_Model_write 35 = .ok (.aload_n 0, 1) := by decide +kernel
theorem d_Model_write_36 : decode b_Model_write 36 = .ok (.getfield 82, 3) := by decide +kernel
theorem d_Model_write_39 : decode b_Model_write 39 = .ok (.ifCond .eq 6, 3) := by decide +kernel
theorem d_Model_write_42 : decode b_Model_write 42 = .ok (.bipush (-5), 2) := by decide +kernel
theorem d_Model_write_44 : decode b_Model_write 44 = .ok (.ireturn, 1) := by decide +kernel
theorem d_Model_write_45 : decode b_Model_write 45 = .ok (.aload_n 0, 1) := by decide +kernel
theorem d_Model_write_46 : decode b_Model_write 46 = .ok (.iload_n 1, 1) := by decide +kernel
theorem d_Model_write_47 : decode b_Model_write 47 = .ok (.invokevirtual 112, 3) := by decide +kernel
theorem d_Model_write_50 : decode b_Model_write 50 = .ok (.istore 4, 2) := by decide +kernel
theorem d_Model_write_52 : decode b_Model_write 52 = .ok (.aload_n 0, 1) := by decide +kernel
theorem d_Model_write_53 : decode b_Model_write 53 = .ok (.getfield 17, 3) := by decide +kernel
theorem d_Model_write_56 : decode b_Model_write 56 = .ok (.iload 4, 2) := by decide +kernel
theorem d_Model_write_58 : decode b_Model_write 58 = .ok (.iaload, 1) := by decide +kernel
theorem d_Model_write_59 : decode b_Model_write 59 = .ok (.ifCond .eq 5, 3) := by decide +kernel
theorem d_Model_write_62 : decode b_Model_write 62 = .ok (.iconst 1, 1) := by decide +kernel
theorem d_Model_write_63 : decode b_Model_write 63 = .ok (.ireturn, 1) := by decide +kernel
theorem d_Model_write_64 : decode b_Model_write 64 = .ok (.aload_n 0, 1) := by decide +kernel
theorem d_Model_write_65 : decode b_Model_write 65 = .ok (.invokevirtual 89, 3) := by decide +kernel
theorem d_Model_write_68 : decode b_Model_write 68 = .ok (.ifCond .ne 6, 3) := by decide +kernel
theorem d_Model_write_71 : decode b_Model_write 71 = .ok (.bipush (-5), 2) := by decide +kernel
theorem d_Model_write_73 : decode b_Model_write 73 = .ok (.ireturn, 1) := by decide +kernel
theorem d_Model_write_74 : decode b_Model_write 74 = .ok (.aload_n 0, 1) := by decide +kernel
theorem d_Model_write_75 : decode b_Model_write 75 = .ok (.getfield 7, 3) := by decide +kernel
theorem d_Model_write_78 : decode b_Model_write 78 = .ok (.iconst 2, 1) := by decide +kernel
theorem d_Model_write_79 : decode b_Model_write 79 = .ok (.iload 4, 2) := by decide +kernel
theorem d_Model_write_81 : decode b_Model_write 81 = .ok (.imul, 1) := by decide +kernel
theorem d_Model_write_82 : decode b_Model_write 82 = .ok (.iload_n 2, 1) := by decide +kernel
theorem d_Model_write_83 : decode b_Model_write 83 = .ok (.iadd, 1) := by decide +kernel
theorem d_Model_write_84 : decode b_Model_write 84 = .ok (.iload_n 3, 1) := by decide +kernel
theorem d_Model_write_85 : decode b_Model_write 85 = .ok (.iastore, 1) := by decide +kernel
theorem d_Model_write_86 : decode b_Model_write 86 = .ok (.aload_n 0, 1) := by decide +kernel
theorem d_Model_write_87 : decode b_Model_write 87 = .ok (.getfield 13, 3) := by decide +kernel
theorem d_Model_write_90 : decode b_Model_write 90 = .ok (.iconst 2, 1) := by decide +kernel
theorem d_Model_write_91 : decode b_Model_write 91 = .ok (.iload 4, 2) := by decide +kernel
theorem d_Model_write_93 : decode b_Model_write 93 = .ok (.imul, 1) := by decide +kernel
theorem d_Model_write_94 : decode b_Model_write 94 = .ok (.iload_n 2, 1) := by decide +kernel
theorem d_Model_write_95 : decode b_Model_write 95 = .ok (.iadd, 1) := by decide +kernel
theorem d_Model_write_96 : decode b_Model_write 96 = .ok (.iconst 0, 1) := by decide +kernel
theorem d_Model_write_97 : decode b_Model_write 97 = .ok (.bastore, 1) := by decide +kernel
theorem d_Model_write_98 : decode b_Model_write 98 = .ok (.iconst 0, 1) := by decide +kernel
theorem d_Model_write_99 : decode b_Model_write 99 = .ok (.ireturn, 1) := by decide +kernel
theorem d_Model_hasLogical_0 : decode b_Model_hasLogical 0 = .ok (.iload_n 1, 1) := by decide +kernel
theorem d_Model_hasLogical_1 : decode b_Model_hasLogical 1 = .ok (.iconst 0, 1) := by decide +kernel
theorem d_Model_hasLogical_2 : decode b_Model_hasLogical 2 = .ok (.aload_n 0, 1) := by decide +kernel
theorem d_Model_hasLogical_3 : decode b_Model_hasLogical 3 = .ok (.invokevirtual 68, 3) := by decide +kernel
theorem d_Model_hasLogical_6 : decode b_Model_hasLogical 6 = .ok (.iconst 1, 1) := by decide +kernel
theorem d_Model_hasLogical_7 : decode b_Model_hasLogical 7 = .ok (.isub, 1) := by decide +kernel
theorem d_Model_hasLogical_8 : decode b_Model_hasLogical 8 = .ok (.invokestatic 54, 3) := by decide +kernel
theorem d_Model_hasLogical_11 : decode b_Model_hasLogical 11 = .ok (.ireturn, 1) := by decide +kernel
theorem d_Model_placeOf_0 : decode b_Model_placeOf 0 = .ok (.aload_n 0, 1) := by decide +kernel
theorem d_Model_placeOf_1 : decode b_Model_placeOf 1 = .ok (.iload_n 1, 1) := by decide +kernel
theorem d_Model_placeOf_2 : decode b_Model_placeOf 2 = .ok (.invokevirtual 72, 3) := by decide +kernel
theorem d_Model_placeOf_5 : decode b_Model_placeOf 5 = .ok (.istore_n 2, 1) := by decide +kernel
theorem d_Model_placeOf_6 : decode b_Model_placeOf 6 = .ok (.aload_n 0, 1) := by decide +kernel
theorem d_Model_placeOf_7 : decode b_Model_placeOf 7 = .ok (.iload_n 2, 1) := by decide +kernel
theorem d_Model_placeOf_8 : decode b_Model_placeOf 8 = .ok (.invokevirtual 76, 3) := by decide +kernel
theorem d_Model_placeOf_11 : decode b_Model_placeOf 11 = .ok (.istore_n 3, 1) := by decide +kernel
theorem d_Model_placeOf_12 : decode b_Model_placeOf 12 = .ok (.iload_n 3, 1) := by decide +kernel
theorem d_Model_placeOf_13 : decode b_Model_placeOf 13 = .ok (.ifCond .lt 12, 3) := by decide +kernel
theorem d_Model_placeOf_16 : decode b_Model_placeOf 16 = .ok (.aload_n 0, 1) := by decide +kernel
theorem d_Model_placeOf_17 : decode b_Model_placeOf 17 = .ok (.getfield 45, 3) := by decide +kernel
theorem d_Model_placeOf_20 : decode b_Model_placeOf 20 = .ok (.iload_n 3, 1) := by decide +kernel
theorem d_Model_placeOf_21 : decode b_Model_placeOf 21 = .ok (.iaload, 1) := by decide +kernel
theorem d_Model_placeOf_22 : decode b_Model_placeOf 22 = .ok (.goto 4, 3) := by decide +kernel
theorem d_Model_placeOf_25 : decode b_Model_placeOf 25 = .ok (.iload_n 2, 1) := by decide +kernel
theorem d_Model_placeOf_26 : decode b_Model_placeOf 26 = .ok (.ireturn, 1) := by decide +kernel
theorem d_Model_ownOf_0 : decode b_Model_ownOf 0 = .ok (.iload_n 1, 1) := by decide +kernel
theorem d_Model_ownOf_1 : decode b_Model_ownOf 1 = .ok (.istore_n 2, 1) := by decide +kernel
theorem d_Model_ownOf_2 : decode b_Model_ownOf 2 = .ok (.bipush 15, 2) := by decide +kernel
theorem d_Model_ownOf_4 : decode b_Model_ownOf 4 = .ok (.istore_n 3, 1) := by decide +kernel
theorem d_Model_ownOf_5 : decode b_Model_ownOf 5 = .ok (.iload_n 2, 1) := by decide +kernel
theorem d_Model_ownOf_6 : decode b_Model_ownOf 6 = .ok (.ifCond .lt 25, 3) := by decide +kernel
theorem d_Model_ownOf_9 : decode b_Model_ownOf 9 = .ok (.iinc 3 1, 3) := by decide +kernel
theorem d_Model_ownOf_12 : decode b_Model_ownOf 12 = .ok (.iload_n 2, 1) := by decide +kernel
theorem d_Model_ownOf_13 : decode b_Model_ownOf 13 = .ok (.aload_n 0, 1) := by decide +kernel
theorem d_Model_ownOf_14 : decode b_Model_ownOf 14 = .ok (.iload_n 3, 1) := by decide +kernel
theorem d_Model_ownOf_15 : decode b_Model_ownOf 15 = .ok (.invokevirtual 65, 3) := by decide +kernel
theorem d_Model_ownOf_18 : decode b_Model_ownOf 18 = .ok (.ifCond .eq 7, 3) := by decide +kernel
theorem d_Model_ownOf_21 : decode b_Model_ownOf 21 = .ok (.iconst 1, 1) := by decide +kernel
theorem d_Model_ownOf_22 : decode b_Model_ownOf 22 = .ok (.goto 4, 3) := by decide +kernel
theorem d_Model_ownOf_25 : decode b_Model_ownOf 25 = .ok (.iconst 0, 1) := by decide +kernel
theorem d_Model_ownOf_26 : decode b_Model_ownOf 26 = .ok (.isub, 1) := by decide +kernel
theorem d_Model_ownOf_27 : decode b_Model_ownOf 27 = .ok (.istore_n 2, 1) := by decide +kernel
theorem d_Model_ownOf_28 : decode b_Model_ownOf 28 = .ok (.goto (-23), 3) := by decide +kernel
theorem d_Model_ownOf_31 : decode b_Model_ownOf 31 = .ok (.iload_n 3, 1) := by decide +kernel
theorem d_Model_ownOf_32 : decode b_Model_ownOf 32 = .ok (.ireturn, 1) := by decide +kernel
theorem d_Model_read_0 : decode b_Model_read 0 = .ok (.aload_n 0, 1) := by decide +kernel
theorem d_Model_read_1 : decode b_Model_read 1 = .ok (.aload_n 0, 1) := by decide +kernel
theorem d_Model_read_2 : decode b_Model_read 2 = .ok (.iload_n 1, 1) := by decide +kernel
theorem d_Model_read_3 : decode b_Model_read 3 = .ok (.invokevirtual 109, 3) := by decide +kernel
theorem d_Model_read_6 : decode b_Model_read 6 = .ok (.ifCond .eq 12, 3) := by decide +kernel
theorem d_Model_read_9 : decode b_Model_read 9 = .ok (.iload_n 2, 1) := by decide +kernel
theorem d_Model_read_10 : decode b_Model_read 10 = .ok (.iconst 0, 1) := by decide +kernel
theorem d_Model_read_11 : decode b_Model_read 11 = .ok (.iconst 1, 1) := by decide +kernel
theorem d_Model_read_12 : decode b_Model_read 12 = .ok (.invokestatic 54, 3) := by decide +kernel
theorem d_Model_read_15 : decode b_Model_read 15 = .ok (.ifCond .ne 7, 3) := by decide +kernel
theorem d_Model_read_18 : decode b_Model_read 18 = .ok (.iconst 1, 1) := by decide +kernel
theorem d_Model_read_19 : decode b_Model_read 19 = .ok (.goto 15, 3) := by decide +kernel
theorem d_Model_read_22 : decode b_Model_read 22 = .ok (.aload_n 0, 1) := by decide +kernel
theorem d_Model_read_23 : decode b_Model_read 23 = .ok (.getfield 82, 3) := by decide +kernel
theorem d_Model_read_26 : decode b_Model_read 26 = .ok (.ifCond .eq 7, 3) := by decide +kernel
theorem d_Model_read_29 : decode b_Model_read 29 = .ok (.iconst 2, 1) := by decide +kernel
theorem d_Model_read_30 : decode b_Model_read 30 = .ok (.goto 4, 3) := by decide +kernel
theorem d_Model_read_33 : decode b_Model_read 33 = .ok (.iconst 0, 1) := by decide +kernel
theorem d_Model_read_34 : decode b_Model_read 34 = .ok (.putfield 51, 3) := by decide +kernel
theorem d_Model_read_37 : decode b_Model_read 37 = .ok (.aload_n 0, 1) := by decide +kernel
theorem d_Model_read_38 : decode b_Model_read 38 = .ok (.getfield 51, 3) := by decide +kernel
theorem d_Model_read_41 : decode b_Model_read 41 = .ok (.ifCond .le 5, 3) := by decide +kernel
theorem d_Model_read_44 : decode b_Model_read 44 = .ok (.iconst 0, 1) := by decide +kernel
theorem d_Model_read_45 : decode b_Model_read 45 = .ok (.ireturn, 1) := by decide +kernel
theorem d_Model_read_46 : decode b_Model_read 46 = .ok (.aload_n 0, 1) := by decide +kernel
theorem d_Model_read_47 : decode b_Model_read 47 = .ok (.iload_n 1, 1) := by decide +kernel
theorem d_Model_read_48 : decode b_Model_read 48 = .ok (.invokevirtual 112, 3) := by decide +kernel
theorem d_Model_read_51 : decode b_Model_read 51 = .ok (.istore_n 3, 1) := by decide +kernel
theorem d_Model_read_52 : decode b_Model_read 52 = .ok (.aload_n 0, 1) := by decide +kernel
theorem d_Model_read_53 : decode b_Model_read 53 = .ok (.aload_n 0, 1) := by decide +kernel
theorem d_Model_read_54 : decode b_Model_read 54 = .ok (.getfield 17, 3) := by decide +kernel
theorem d_Model_read_57 : decode b_Model_read 57 = .ok (.iload_n 3, 1) := by decide +kernel
theorem d_Model_read_58 : decode b_Model_read 58 = .ok (.iaload, 1) := by decide +kernel
theorem d_Model_read_59 : decode b_Model_read 59 = .ok (.iconst 2, 1) := by decide +kernel
theorem d_Model_read_60 : decode b_Model_read 60 = .ok (.if_icmp .ne 7, 3) := by decide +kernel
theorem d_Model_read_63 : decode b_Model_read 63 = .ok (.iconst 3, 1) := by decide +kernel
theorem d_Model_read_64 : decode b_Model_read 64 = .ok (.goto 21, 3) := by decide +kernel
theorem d_Model_read_67 : decode b_Model_read 67 = .ok (.aload_n 0, 1) := by decide +kernel
theorem d_Model_read_68 : decode b_Model_read 68 = .ok (.getfield 13, 3) := by decide +kernel
theorem d_Model_read_71 : decode b_Model_read 71 = .ok (.iconst 2, 1) := by decide +kernel
theorem d_Model_read_72 : decode b_Model_read 72 = .ok (.iload_n 3, 1) := by decide +kernel
theorem d_Model_read_73 : decode b_Model_read 73 = .ok (.imul, 1) := by decide +kernel
theorem d_Model_read_74 : decode b_Model_read 74 = .ok (.iload_n 2, 1) := by decide +kernel
theorem d_Model_read_75 : decode b_Model_read 75 = .ok (.iadd, 1) := by decide +kernel
theorem d_Model_read_76 : decode b_Model_read 76 = .ok (.baload, 1) := by decide +kernel
theorem d_Model_read_77 : decode b_Model_read 77 = .ok (.ifCond .eq 7, 3) := by decide +kernel
theorem d_Model_read_80 : decode b_Model_read 80 = .ok (.iconst 4, 1) := by decide +kernel
theorem d_Model_read_81 : decode b_Model_read 81 = .ok (.goto 4, 3) := by decide +kernel
theorem d_Model_read_84 : decode b_Model_read 84 = .ok (.iconst 0, 1) := by decide +kernel
theorem d_Model_read_85 : decode b_Model_read 85 = .ok (.putfield 51, 3) := by decide +kernel
theorem d_Model_read_88 : decode b_Model_read 88 = .ok (.aload_n 0, 1) := by decide +kernel
theorem d_Model_read_89 : decode b_Model_read 89 = .ok (.getfield 51, 3) := by decide +kernel
theorem d_Model_read_92 : decode b_Model_read 92 = .ok (.ifCond .le 7, 3) := by decide +kernel
theorem d_Model_read_95 : decode b_Model_read 95 = .ok (.iconst 0, 1) := by decide +kernel
theorem d_Model_read_96 : decode b_Model_read 96 = .ok (.goto 13, 3) := by decide +kernel
theorem d_Model_read_99 : decode b_Model_read 99 = .ok (.aload_n 0, 1) := by decide +kernel
theorem d_Model_read_100 : decode b_Model_read 100 = .ok (.getfield 7, 3) := by decide +kernel
theorem d_Model_read_103 : decode b_Model_read 103 = .ok (.iconst 2, 1) := by decide +kernel
theorem d_Model_read_104 : decode b_Model_read 104 = .ok (.iload_n 3, 1) := by decide +kernel
theorem d_Model_read_105 : decode b_Model_read 105 = .ok (.imul, 1) := by decide +kernel
theorem d_Model_read_106 : decode b_Model_read 106 = .ok (.iload_n 2, 1) := by decide +kernel
theorem d_Model_read_107 : decode b_Model_read 107 = .ok (.iadd, 1) := by decide +kernel
theorem d_Model_read_108 : decode b_Model_read 108 = .ok (.iaload, 1) := by decide +kernel
theorem d_Model_read_109 : decode b_Model_read 109 = .ok (.ireturn, 1) := by decide +kernel
theorem d_Model_reassign_0 : decode b_Model_reassign 0 = .ok (.aload_n 0, 1) := by decide +kernel
theorem d_Model_reassign_1 : decode b_Model_reassign 1 = .ok (.aload_n 0, 1) := by decide +kernel
theorem d_Model_reassign_2 : decode b_Model_reassign 2 = .ok (.iload_n 1, 1) := by decide +kernel
theorem d_Model_reassign_3 : decode b_Model_reassign 3 = .ok (.invokevirtual 109, 3) := by decide +kernel
theorem d_Model_reassign_6 : decode b_Model_reassign 6 = .ok (.ifCond .eq 7, 3) := by decide +kernel
theorem d_Model_reassign_9 : decode b_Model_reassign 9 = .ok (.iconst 0, 1) := by decide +kernel
theorem d_Model_reassign_10 : decode b_Model_reassign 10 = .ok (.goto 4, 3) := by decide +kernel
theorem d_Model_reassign_13 : decode b_Model_reassign 13 = .ok (.iconst 1, 1) := by decide +kernel
theorem d_Model_reassign_14 : decode b_Model_reassign 14 = .ok (.putfield 51, 3) := by decide +kernel
theorem d_Model_reassign_17 : decode b_Model_reassign 17 = .ok (.aload_n 0, 1) := by decide +kernel
theorem d_Model_reassign_18 : decode b_Model_reassign 18 = .ok (.getfield 51, 3) := by decide +kernel
theorem d_Model_reassign_21 : decode b_Model_reassign 21 = .ok (.ifCond .le 5, 3) := by decide +kernel
theorem d_Model_reassign_24 : decode b_Model_reassign 24 = .ok (.iconst 0, 1) := by decide +kernel
theorem d_Model_reassign_25 : decode b_Model_reassign 25 = .ok (.ireturn, 1) := by decide +kernel
theorem d_Model_reassign_26 : decode b_Model_reassign 26 = .ok (.aload_n 0, 1) := by decide +kernel
theorem d_Model_reassign_27 : decode b_Model_reassign 27 = .ok (.getfield 82, 3) := by decide +kernel
theorem d_Model_reassign_30 : decode b_Model_reassign 30 = .ok (.ifCond .eq 6, 3) := by decide +kernel
theorem d_Model_reassign_33 : decode b_Model_reassign 33 = .ok (.bipush (-5), 2) := by decide +kernel
theorem d_Model_reassign_35 : decode b_Model_reassign 35 = .ok (.ireturn, 1) := by decide +kernel
theorem d_Model_reassign_36 : decode b_Model_reassign 36 = .ok (.aload_n 0, 1) := by decide +kernel
theorem d_Model_reassign_37 : decode b_Model_reassign 37 = .ok (.iload_n 1, 1) := by decide +kernel
theorem d_Model_reassign_38 : decode b_Model_reassign 38 = .ok (.invokevirtual 72, 3) := by decide +kernel
theorem d_Model_reassign_41 : decode b_Model_reassign 41 = .ok (.istore_n 2, 1) := by decide +kernel
theorem d_Model_reassign_42 : decode b_Model_reassign 42 = .ok (.aload_n 0, 1) := by decide +kernel
theorem d_Model_reassign_43 : decode b_Model_reassign 43 = .ok (.iload_n 1, 1) := by decide +kernel
theorem d_Model_reassign_44 : decode b_Model_reassign 44 = .ok (.invokevirtual 112, 3) := by decide +kernel
theorem d_Model_reassign_47 : decode b_Model_reassign 47 = .ok (.istore_n 3, 1) := by decide +kernel
theorem d_Model_reassign_48 : decode b_Model_reassign 48 = .ok (.aload_n 0, 1) := by decide +kernel
theorem d_Model_reassign_49 : decode b_Model_reassign 49 = .ok (.getfield 17, 3) := by decide +kernel
theorem d_Model_reassign_52 : decode b_Model_reassign 52 = .ok (.iload_n 3, 1) := by decide +kernel
theorem d_Model_reassign_53 : decode b_Model_reassign 53 = .ok (.iaload, 1) := by decide +kernel
theorem d_Model_reassign_54 : decode b_Model_reassign 54 = .ok (.ifCond .ne 5, 3) := by decide +kernel
theorem d_Model_reassign_57 : decode b_Model_reassign 57 = .ok (.iconst 2, 1) := by decide +kernel
theorem d_Model_reassign_58 : decode b_Model_reassign 58 = .ok (.ireturn, 1) := by decide +kernel
theorem d_Model_reassign_59 : decode b_Model_reassign 59 = .ok (.aload_n 0, 1) := by decide +kernel
theorem d_Model_reassign_60 : decode b_Model_reassign 60 = .ok (.iload_n 3, 1) := by decide +kernel
theorem d_Model_reassign_61 : decode b_Model_reassign 61 = .ok (.invokevirtual 118, 3) := by decide +kernel
theorem d_Model_reassign_64 : decode b_Model_reassign 64 = .ok (.istore 4, 2) := by decide +kernel
theorem d_Model_reassign_66 : decode b_Model_reassign 66 = .ok (.aload_n 0, 1) := by decide +kernel
theorem d_Model_reassign_67 : decode b_Model_reassign 67 = .ok (.iload_n 2, 1) := by decide +kernel
theorem d_Model_reassign_68 : decode b_Model_reassign 68 = .ok (.invokevirtual 76, 3) := by decide +kernel
theorem d_Model_reassign_71 : decode b_Model_reassign 71 = .ok (.istore 5, 2) := by decide +kernel
theorem d_Model_reassign_73 : decode b_Model_reassign 73 = .ok (.iload 5, 2) := by decide +kernel
theorem d_Model_reassign_75 : decode b_Model_reassign 75 = .ok (.ifCond .ge 7, 3) := by decide +kernel
theorem d_Model_reassign_78 : decode b_Model_reassign 78 = .ok (.iconst 1, 1) := by decide +kernel
theorem d_Model_reassign_79 : decode b_Model_reassign 79 = .ok (.goto 4, 3) := by decide +kernel
theorem d_Model_reassign_82 : decode b_Model_reassign 82 = .ok (.iconst 0, 1) := by decide +kernel
theorem d_Model_reassign_83 : decode b_Model_reassign 83 = .ok (.istore 6, 2) := by decide +kernel
theorem d_Model_reassign_85 : decode b_Model_reassign 85 = .ok (.iload 4, 2) := by decide +kernel
theorem d_Model_reassign_87 : decode b_Model_reassign 87 = .ok (.ifCond .lt 37, 3) := by decide +kernel
theorem d_Model_reassign_90 : decode b_Model_reassign 90 = .ok (.iload 6, 2) := by decide +kernel
theorem d_Model_reassign_92 : decode b_Model_reassign 92 = .ok (.ifCond .eq 34, 3) := by decide +kernel
theorem d_Model_reassign_95 : decode b_Model_reassign 95 = .ok (.aload_n 0, 1) := by decide +kernel
theorem d_Model_reassign_96 : decode b_Model_reassign 96 = .ok (.getfield 39, 3) := by decide +kernel
theorem d_Model_reassign_99 : decode b_Model_reassign 99 = .ok (.iconst 0, 1) := by decide +kernel
theorem d_Model_reassign_100 : decode b_Model_reassign 100 = .ok (.iaload, 1) := by decide +kernel
theorem d_Model_reassign_101 : decode b_Model_reassign 101 = .ok (.bipush 20, 2) := by decide +kernel
theorem d_Model_reassign_103 : decode b_Model_reassign 103 = .ok (.if_icmp .eq 21, 3) := by decide +kernel
theorem d_Model_reassign_106 : decode b_Model_reassign 106 = .ok (.aload_n 0, 1) := by decide +kernel
theorem d_Model_reassign_107 : decode b_Model_reassign 107 = .ok (.getfield 33, 3) := by decide +kernel
theorem d_Model_reassign_110 : decode b_Model_reassign 110 = .ok (.iconst 0, 1) := by decide +kernel
theorem d_Model_reassign_111 : decode b_Model_reassign 111 = .ok (.iaload, 1) := by decide +kernel
theorem d_Model_reassign_112 : decode b_Model_reassign 112 = .ok (.aload_n 0, 1) := by decide +kernel
theorem d_Model_reassign_113 : decode b_Model_reassign 113 = .ok (.getfield 39, 3) := by decide +kernel
theorem d_Model_reassign_116 : decode b_Model_reassign 116 = .ok (.iconst 0, 1) := by decide +kernel
theorem d_Model_reassign_117 : decode b_Model_reassign 117 = .ok (.iaload, 1) := by decide +kernel
theorem d_Model_reassign_118 : decode b_Model_reassign 118 = .ok (.iadd, 1) := by decide +kernel
theorem d_Model_reassign_119 : decode b_Model_reassign 119 = .ok (.bipush 48, 2) := by decide +kernel
theorem d_Model_reassign_121 : decode b_Model_reassign 121 = .ok (.if_icmp .ne 5, 3) := by decide +kernel
theorem d_Model_reassign_124 : decode b_Model_reassign 124 = .ok (.iconst 3, 1) := by decide +kernel
theorem d_Model_reassign_125 : decode b_Model_reassign 125 = .ok (.ireturn, 1) := by decide +kernel
theorem d_Model_reassign_126 : decode b_Model_reassign 126 = .ok (.aload_n 0, 1) := by decide +kernel
theorem d_Model_reassign_127 : decode b_Model_reassign 127 = .ok (.invokevirtual 89, 3) := by decide +kernel
theorem d_Model_reassign_130 : decode b_Model_reassign 130 = .ok (.ifCond .ne 6, 3) := by decide +kernel
theorem d_Model_reassign_133 : decode b_Model_reassign 133 = .ok (.bipush (-5), 2) := by decide +kernel
theorem d_Model_reassign_135 : decode b_Model_reassign 135 = .ok (.ireturn, 1) := by decide +kernel
theorem d_Model_reassign_136 : decode b_Model_reassign 136 = .ok (.aload_n 0, 1) := by decide +kernel
theorem d_Model_reassign_137 : decode b_Model_reassign 137 = .ok (.getfield 17, 3) := by decide +kernel
theorem d_Model_reassign_140 : decode b_Model_reassign 140 = .ok (.iload_n 3, 1) := by decide +kernel
theorem d_Model_reassign_141 : decode b_Model_reassign 141 = .ok (.iaload, 1) := by decide +kernel
theorem d_Model_reassign_142 : decode b_Model_reassign 142 = .ok (.iconst 1, 1) := by decide +kernel
theorem d_Model_reassign_143 : decode b_Model_reassign 143 = .ok (.if_icmp .ne 7, 3) := by decide +kernel
theorem d_Model_reassign_146 : decode b_Model_reassign 146 = .ok (.iconst 1, 1) := by decide +kernel
theorem d_Model_reassign_147 : decode b_Model_reassign 147 = .ok (.goto 4, 3) := by decide +kernel
theorem d_Model_reassign_150 : decode b_Model_reassign 150 = .ok (.iconst 0, 1) := by decide +kernel
theorem d_Model_reassign_151 : decode b_Model_reassign 151 = .ok (.istore 7, 2) := by decide +kernel
theorem d_Model_reassign_153 : decode b_Model_reassign 153 = .ok (.iconst 0, 1) := by decide +kernel
theorem d_Model_reassign_154 : decode b_Model_reassign 154 = .ok (.istore 8, 2) := by decide +kernel
theorem d_Model_reassign_156 : decode b_Model_reassign 156 = .ok (.iload 8, 2) := by decide +kernel
theorem d_Model_reassign_158 : decode b_Model_reassign 158 = .ok (.iconst 2, 1) := by decide +kernel
theorem d_Model_reassign_159 : decode b_Model_reassign 159 = .ok (.if_icmp .ge 77, 3) := by decide +kernel
theorem d_Model_reassign_162 : decode b_Model_reassign 162 = .ok (.aload_n 0, 1) := by decide +kernel
theorem d_Model_reassign_163 : decode b_Model_reassign 163 = .ok (.getfield 7, 3) := by decide +kernel
theorem d_Model_reassign_166 : decode b_Model_reassign 166 = .ok (.iconst 2, 1) := by decide +kernel
theorem d_Model_reassign_167 : decode b_Model_reassign 167 = .ok (.iload 4, 2) := by decide +kernel
theorem d_Model_reassign_169 : decode b_Model_reassign 169 = .ok (.imul, 1) := by decide +kernel
theorem d_Model_reassign_170 : decode b_Model_reassign 170 = .ok (.iload 8, 2) := by decide +kernel
theorem d_Model_reassign_172 : decode b_Model_reassign 172 = .ok (.iadd, 1) := by decide +kernel
theorem d_Model_reassign_173 : decode b_Model_reassign 173 = .ok (.iload 7, 2) := by decide +kernel
theorem d_Model_reassign_175 : decode b_Model_reassign 175 = .ok (.ifCond .eq 17, 3) := by decide +kernel
theorem d_Model_reassign_178 : decode b_Model_reassign 178 = .ok (.aload_n 0, 1) := by decide +kernel
theorem d_Model_reassign_179 : decode b_Model_reassign 179 = .ok (.getfield 7, 3) := by decide +kernel
theorem d_Model_reassign_182 : decode b_Model_reassign 182 = .ok (.iconst 2, 1) := by decide +kernel
theorem d_Model_reassign_183 : decode b_Model_reassign 183 = .ok (.iload_n 3, 1) := by decide +kernel
theorem d_Model_reassign_184 : decode b_Model_reassign 184 = .ok (.imul, 1) := by decide +kernel
theorem d_Model_reassign_185 : decode b_Model_reassign 185 = .ok (.iload 8, 2) := by decide +kernel
theorem d_Model_reassign_187 : decode b_Model_reassign 187 = .ok (.iadd, 1) := by decide +kernel
theorem d_Model_reassign_188 : decode b_Model_reassign 188 = .ok (.iaload, 1) := by decide +kernel
theorem d_Model_reassign_189 : decode b_Model_reassign 189 = .ok (.goto 4, 3) := by decide +kernel
theorem d_Model_reassign_192 : decode b_Model_reassign 192 = .ok (.iconst 0, 1) := by decide +kernel
theorem d_Model_reassign_193 : decode b_Model_reassign 193 = .ok (.iastore, 1) := by decide +kernel
theorem d_Model_reassign_194 : decode b_Model_reassign 194 = .ok (.aload_n 0, 1) := by decide +kernel
theorem d_Model_reassign_195 : decode b_Model_reassign 195 = .ok (.getfield 13, 3) := by decide +kernel
theorem d_Model_reassign_198 : decode b_Model_reassign 198 = .ok (.iconst 2, 1) := by decide +kernel
theorem d_Model_reassign_199 : decode b_Model_reassign 199 = .ok (.iload 4, 2) := by decide +kernel
theorem d_Model_reassign_201 : decode b_Model_reassign 201 = .ok (.imul, 1) := by decide +kernel
theorem d_Model_reassign_202 : decode b_Model_reassign 202 = .ok (.iload 8, 2) := by decide +kernel
theorem d_Model_reassign_204 : decode b_Model_reassign 204 = .ok (.iadd, 1) := by decide +kernel
theorem d_Model_reassign_205 : decode b_Model_reassign 205 = .ok (.iload 7, 2) := by decide +kernel
theorem d_Model_reassign_207 : decode b_Model_reassign 207 = .ok (.ifCond .eq 17, 3) := by decide +kernel
theorem d_Model_reassign_210 : decode b_Model_reassign 210 = .ok (.aload_n 0, 1) := by decide +kernel
theorem d_Model_reassign_211 : decode b_Model_reassign 211 = .ok (.getfield 13, 3) := by decide +kernel
theorem d_Model_reassign_214 : decode b_Model_reassign 214 = .ok (.iconst 2, 1) := by decide +kernel
theorem d_Model_reassign_215 : decode b_Model_reassign 215 = .ok (.iload_n 3, 1) := by decide +kernel
theorem d_Model_reassign_216 : decode b_Model_reassign 216 = .ok (.imul, 1) := by decide +kernel
theorem d_Model_reassign_217 : decode b_Model_reassign 217 = .ok (.iload 8, 2) := by decide +kernel
theorem d_Model_reassign_219 : decode b_Model_reassign 219 = .ok (.iadd, 1) := by decide +kernel
theorem d_Model_reassign_220 : decode b_Model_reassign 220 = .ok (.baload, 1) := by decide +kernel
theorem d_Model_reassign_221 : decode b_Model_reassign 221 = .ok (.ifCond .eq 7, 3) := by decide +kernel
theorem d_Model_reassign_224 : decode b_Model_reassign 224 = .ok (.iconst 1, 1) := by decide +kernel
theorem d_Model_reassign_225 : decode b_Model_reassign 225 = .ok (.goto 4, 3) := by decide +kernel
theorem d_Model_reassign_228 : decode b_Model_reassign 228 = .ok (.iconst 0, 1) := by decide +kernel
theorem d_Model_reassign_229 : decode b_Model_reassign 229 = .ok (.bastore, 1) := by decide +kernel
theorem d_Model_reassign_230 : decode b_Model_reassign 230 = .ok (.iinc 8 1, 3) := by decide +kernel
theorem d_Model_reassign_233 : decode b_Model_reassign 233 = .ok (.goto (-77), 3) := by decide +kernel
theorem d_Model_reassign_236 : decode b_Model_reassign 236 = .ok (.aload_n 0, 1) := by decide +kernel
theorem d_Model_reassign_237 : decode b_Model_reassign 237 = .ok (.iconst 0, 1) := by decide +kernel
theorem d_Model_reassign_238 : decode b_Model_reassign 238 = .ok (.iconst 3, 1) := by decide +kernel
theorem d_Model_reassign_239 : decode b_Model_reassign 239 = .ok (.invokevirtual 93, 3) := by decide +kernel
theorem d_Model_reassign_242 : decode b_Model_reassign 242 = .ok (.aload_n 0, 1) := by decide +kernel
theorem d_Model_reassign_243 : decode b_Model_reassign 243 = .ok (.getfield 27, 3) := by decide +kernel
theorem d_Model_reassign_246 : decode b_Model_reassign 246 = .ok (.iconst 3, 1) := by decide +kernel
theorem d_Model_reassign_247 : decode b_Model_reassign 247 = .ok (.aload_n 0, 1) := by decide +kernel
theorem d_Model_reassign_248 : decode b_Model_reassign 248 = .ok (.getfield 27, 3) := by decide +kernel
theorem d_Model_reassign_251 : decode b_Model_reassign 251 = .ok (.iconst 0, 1) := by decide +kernel
theorem d_Model_reassign_252 : decode b_Model_reassign 252 = .ok (.iaload, 1) := by decide +kernel
theorem d_Model_reassign_253 : decode b_Model_reassign 253 = .ok (.iconst 1, 1) := by decide +kernel
theorem d_Model_reassign_254 : decode b_Model_reassign 254 = .ok (.iadd, 1) := by decide +kernel
theorem d_Model_reassign_255 : decode b_Model_reassign 255 = .ok (.iastore, 1) := by decide +kernel
theorem d_Model_reassign_256 : decode b_Model_reassign 256 = .ok (.iload 6, 2) := by decide +kernel
theorem d_Model_reassign_258 : decode b_Model_reassign 258 = .ok (.ifCond .eq 12, 3) := by decide +kernel
theorem d_Model_reassign_261 : decode b_Model_reassign 261 = .ok (.aload_n 0, 1) := by decide +kernel
theorem d_Model_reassign_262 : decode b_Model_reassign 262 = .ok (.getfield 39, 3) := by decide +kernel
theorem d_Model_reassign_265 : decode b_Model_reassign 265 = .ok (.iconst 0, 1) := by decide +kernel
theorem d_Model_reassign_266 : decode b_Model_reassign 266 = .ok (.iaload, 1) := by decide +kernel
theorem d_Model_reassign_267 : decode b_Model_reassign 267 = .ok (.goto 5, 3) := by decide +kernel
theorem d_Model_reassign_270 : decode b_Model_reassign 270 = .ok (.iload 5, 2) := by decide +kernel
theorem d_Model_reassign_272 : decode b_Model_reassign 272 = .ok (.istore 8, 2) := by decide +kernel
theorem d_Model_reassign_274 : decode b_Model_reassign 274 = .ok (.aload_n 0, 1) := by decide +kernel
theorem d_Model_reassign_275 : decode b_Model_reassign 275 = .ok (.getfield 42, 3) := by decide +kernel
theorem d_Model_reassign_278 : decode b_Model_reassign 278 = .ok (.bipush 60, 2) := by decide +kernel
theorem d_Model_reassign_280 : decode b_Model_reassign 280 = .ok (.iload 8, 2) := by decide +kernel
theorem d_Model_reassign_282 : decode b_Model_reassign 282 = .ok (.iadd, 1) := by decide +kernel
theorem d_Model_reassign_283 : decode b_Model_reassign 283 = .ok (.iload_n 2, 1) := by decide +kernel
theorem d_Model_reassign_284 : decode b_Model_reassign 284 = .ok (.iastore, 1) := by decide +kernel
theorem d_Model_reassign_285 : decode b_Model_reassign 285 = .ok (.aload_n 0, 1) := by decide +kernel
theorem d_Model_reassign_286 : decode b_Model_reassign 286 = .ok (.getfield 45, 3) := by decide +kernel
theorem d_Model_reassign_289 : decode b_Model_reassign 289 = .ok (.bipush 60, 2) := by decide +kernel
theorem d_Model_reassign_291 : decode b_Model_reassign 291 = .ok (.iload 8, 2) := by decide +kernel
theorem d_Model_reassign_293 : decode b_Model_reassign 293 = .ok (.iadd, 1) := by decide +kernel
theorem d_Model_reassign_294 : decode b_Model_reassign 294 = .ok (.iload 4, 2) := by decide +kernel
theorem d_Model_reassign_296 : decode b_Model_reassign 296 = .ok (.iastore, 1) := by decide +kernel
theorem d_Model_reassign_297 : decode b_Model_reassign 297 = .ok (.aload_n 0, 1) := by decide +kernel
theorem d_Model_reassign_298 : decode b_Model_reassign 298 = .ok (.getfield 39, 3) := by decide +kernel
theorem d_Model_reassign_301 : decode b_Model_reassign 301 = .ok (.iconst 3, 1) := by decide +kernel
theorem d_Model_reassign_302 : decode b_Model_reassign 302 = .ok (.iload 6, 2) := by decide +kernel
theorem d_Model_reassign_304 : decode b_Model_reassign 304 = .ok (.ifCond .eq 14, 3) := by decide +kernel
theorem d_Model_reassign_307 : decode b_Model_reassign 307 = .ok (.aload_n 0, 1) := by decide +kernel
theorem d_Model_reassign_308 : decode b_Model_reassign 308 = .ok (.getfield 39, 3) := by decide +kernel
theorem d_Model_reassign_311 : decode b_Model_reassign 311 = .ok (.iconst 0, 1) := by decide +kernel
theorem d_Model_reassign_312 : decode b_Model_reassign 312 = .ok (.iaload, 1) := by decide +kernel
theorem d_Model_reassign_313 : decode b_Model_reassign 313 = .ok (.iconst 1, 1) := by decide +kernel
theorem d_Model_reassign_314 : decode b_Model_reassign 314 = .ok (.iadd, 1) := by decide +kernel
theorem d_Model_reassign_315 : decode b_Model_reassign 315 = .ok (.goto 9, 3) := by decide +kernel
theorem d_Model_reassign_318 : decode b_Model_reassign 318 = .ok (.aload_n 0, 1) := by decide +kernel
theorem d_Model_reassign_319 : decode b_Model_reassign 319 = .ok (.getfield 39, 3) := by decide +kernel
theorem d_Model_reassign_322 : decode b_Model_reassign 322 = .ok (.iconst 0, 1) := by decide +kernel
theorem d_Model_reassign_323 : decode b_Model_reassign 323 = .ok (.iaload, 1) := by decide +kernel
theorem d_Model_reassign_324 : decode b_Model_reassign 324 = .ok (.iastore, 1) := by decide +kernel
theorem d_Model_reassign_325 : decode b_Model_reassign 325 = .ok (.aload_n 0, 1) := by decide +kernel
theorem d_Model_reassign_326 : decode b_Model_reassign 326 = .ok (.invokevirtual 106, 3) := by decide +kernel
theorem d_Model_reassign_329 : decode b_Model_reassign 329 = .ok (.ifCond .ne 6, 3) := by decide +kernel
theorem d_Model_reassign_332 : decode b_Model_reassign 332 = .ok (.bipush (-5), 2) := by decide +kernel
theorem d_Model_reassign_334 : decode b_Model_reassign 334 = .ok (.ireturn, 1) := by decide +kernel
theorem d_Model_reassign_335 : decode b_Model_reassign 335 = .ok (.iload 7, 2) := by decide +kernel
theorem d_Model_reassign_337 : decode b_Model_reassign 337 = .ok (.ifCond .eq 7, 3) := by decide +kernel
theorem d_Model_reassign_340 : decode b_Model_reassign 340 = .ok (.iconst 0, 1) := by decide +kernel
theorem d_Model_reassign_341 : decode b_Model_reassign 341 = .ok (.goto 4, 3) := by decide +kernel
theorem d_Model_reassign_344 : decode b_Model_reassign 344 = .ok (.iconst 1, 1) := by decide +kernel
theorem d_Model_reassign_345 : decode b_Model_reassign 345 = .ok (.ireturn, 1) := by decide +kernel
theorem d_Model_nearest_0 : decode b_Model_nearest 0 = .ok (.iconst (-1), 1) := by decide +kernel
theorem d_Model_nearest_1 : decode b_Model_nearest 1 = .ok (.istore_n 2, 1) := by decide +kernel
theorem d_Model_nearest_2 : decode b_Model_nearest 2 = .ok (.bipush 100, 2) := by decide +kernel
theorem d_Model_nearest_4 : decode b_Model_nearest 4 = .ok (.istore_n 3, 1) := by decide +kernel
theorem d_Model_nearest_5 : decode b_Model_nearest 5 = .ok (.bipush 16, 2) := by decide +kernel
theorem d_Model_nearest_7 : decode b_Model_nearest 7 = .ok (.istore 4, 2) := by decide +kernel
theorem d_Model_nearest_9 : decode b_Model_nearest 9 = .ok (.iload 4, 2) := by decide +kernel
theorem d_Model_nearest_11 : decode b_Model_nearest 11 = .ok (.sipush 192, 3) := by decide +kernel
theorem d_Model_nearest_14 : decode b_Model_nearest 14 = .ok (.if_icmp .ge 67, 3) := by decide +kernel
theorem d_Model_nearest_17 : decode b_Model_nearest 17 = .ok (.iload 4, 2) := by decide +kernel
theorem d_Model_nearest_19 : decode b_Model_nearest 19 = .ok (.bipush 16, 2) := by decide +kernel
theorem d_Model_nearest_21 : decode b_Model_nearest 21 = .ok (.idiv, 1) := by decide +kernel
theorem d_Model_nearest_22 : decode b_Model_nearest 22 = .ok (.iload_n 1, 1) := by decide +kernel
theorem d_Model_nearest_23 : decode b_Model_nearest 23 = .ok (.bipush 16, 2) := by decide +kernel
theorem d_Model_nearest_25 : decode b_Model_nearest 25 = .ok (.idiv, 1) := by decide +kernel
theorem d_Model_nearest_26 : decode b_Model_nearest 26 = .ok (.if_icmp .le 16, 3) := by decide +kernel
theorem d_Model_nearest_29 : decode b_Model_nearest 29 = .ok (.iload 4, 2) := by decide +kernel
theorem d_Model_nearest_31 : decode b_Model_nearest 31 = .ok (.bipush 16, 2) := by decide +kernel
theorem d_Model_nearest_33 : decode b_Model_nearest 33 = .ok (.idiv, 1) := by decide +kernel
theorem d_Model_nearest_34 : decode b_Model_nearest 34 = .ok (.iload_n 1, 1) := by decide +kernel
theorem d_Model_nearest_35 : decode b_Model_nearest 35 = .ok (.bipush 16, 2) := by decide +kernel
theorem d_Model_nearest_37 : decode b_Model_nearest 37 = .ok (.idiv, 1) := by decide +kernel
theorem d_Model_nearest_38 : decode b_Model_nearest 38 = .ok (.isub, 1) := by decide +kernel
theorem d_Model_nearest_39 : decode b_Model_nearest 39 = .ok (.goto 13, 3) := by decide +kernel
theorem d_Model_nearest_42 : decode b_Model_nearest 42 = .ok (.iload_n 1, 1) := by decide +kernel
theorem d_Model_nearest_43 : decode b_Model_nearest 43 = .ok (.bipush 16, 2) := by decide +kernel
theorem d_Model_nearest_45 : decode b_Model_nearest 45 = .ok (.idiv, 1) := by decide +kernel
theorem d_Model_nearest_46 : decode b_Model_nearest 46 = .ok (.iload 4, 2) := by decide +kernel
theorem d_Model_nearest_48 : decode b_Model_nearest 48 = .ok (.bipush 16, 2) := by decide +kernel
theorem d_Model_nearest_50 : decode b_Model_nearest 50 = .ok (.idiv, 1) := by decide +kernel
theorem d_Model_nearest_51 : decode b_Model_nearest 51 = .ok (.isub, 1) := by decide +kernel
theorem d_Model_nearest_52 : decode b_Model_nearest 52 = .ok (.istore 5, 2) := by decide +kernel
theorem d_Model_nearest_54 : decode b_Model_nearest 54 = .ok (.aload_n 0, 1) := by decide +kernel
theorem d_Model_nearest_55 : decode b_Model_nearest 55 = .ok (.iload 4, 2) := by decide +kernel
theorem d_Model_nearest_57 : decode b_Model_nearest 57 = .ok (.invokevirtual 115, 3) := by decide +kernel
theorem d_Model_nearest_60 : decode b_Model_nearest 60 = .ok (.ifCond .eq 15, 3) := by decide +kernel
theorem d_Model_nearest_63 : decode b_Model_nearest 63 = .ok (.iload 5, 2) := by decide +kernel
theorem d_Model_nearest_65 : decode b_Model_nearest 65 = .ok (.iload_n 3, 1) := by decide +kernel
theorem d_Model_nearest_66 : decode b_Model_nearest 66 = .ok (.if_icmp .ge 9, 3) := by decide +kernel
theorem d_Model_nearest_69 : decode b_Model_nearest 69 = .ok (.iload 4, 2) := by decide +kernel
theorem d_Model_nearest_71 : decode b_Model_nearest 71 = .ok (.istore_n 2, 1) := by decide +kernel
theorem d_Model_nearest_72 : decode b_Model_nearest 72 = .ok (.iload 5, 2) := by decide +kernel
theorem d_Model_nearest_74 : decode b_Model_nearest 74 = .ok (.istore_n 3, 1) := by decide +kernel
theorem d_Model_nearest_75 : decode b_Model_nearest 75 = .ok (.iinc 4 1, 3) := by decide +kernel
theorem d_Model_nearest_78 : decode b_Model_nearest 78 = .ok (.goto (-69), 3) := by decide +kernel
theorem d_Model_nearest_81 : decode b_Model_nearest 81 = .ok (.iload_n 2, 1) := by decide +kernel
theorem d_Model_nearest_82 : decode b_Model_nearest 82 = .ok (.ireturn, 1) := by decide +kernel
theorem d_Model_isFreeSpare_0 : decode b_Model_isFreeSpare 0 = .ok (.iload_n 1, 1) := by decide +kernel
theorem d_Model_isFreeSpare_1 : decode b_Model_isFreeSpare 1 = .ok (.invokestatic 58, 3) := by decide +kernel
theorem d_Model_isFreeSpare_4 : decode b_Model_isFreeSpare 4 = .ok (.ifCond .eq 32, 3) := by decide +kernel
theorem d_Model_isFreeSpare_7 : decode b_Model_isFreeSpare 7 = .ok (.aload_n 0, 1) := by decide +kernel
theorem d_Model_isFreeSpare_8 : decode b_Model_isFreeSpare 8 = .ok (.getfield 17, 3) := by decide +kernel
theorem d_Model_isFreeSpare_11 : decode b_Model_isFreeSpare 11 = .ok (.iload_n 1, 1) := by decide +kernel
theorem d_Model_isFreeSpare_12 : decode b_Model_isFreeSpare 12 = .ok (.iaload, 1) := by decide +kernel
theorem d_Model_isFreeSpare_13 : decode b_Model_isFreeSpare 13 = .ok (.ifCond .ne 23, 3) := by decide +kernel
theorem d_Model_isFreeSpare_16 : decode b_Model_isFreeSpare 16 = .ok (.aload_n 0, 1) := by decide +kernel
theorem d_Model_isFreeSpare_17 : decode b_Model_isFreeSpare 17 = .ok (.iload_n 1, 1) := by decide +kernel
theorem d_Model_isFreeSpare_18 : decode b_Model_isFreeSpare 18 = .ok (.invokevirtual 62, 3) := by decide +kernel
theorem d_Model_isFreeSpare_21 : decode b_Model_isFreeSpare 21 = .ok (.ifCond .ne 15, 3) := by decide +kernel
theorem d_Model_isFreeSpare_24 : decode b_Model_isFreeSpare 24 = .ok (.aload_n 0, 1) := by decide +kernel
theorem d_Model_isFreeSpare_25 : decode b_Model_isFreeSpare 25 = .ok (.iload_n 1, 1) := by decide +kernel
theorem d_Model_isFreeSpare_26 : decode b_Model_isFreeSpare 26 = .ok (.invokevirtual 79, 3) := by decide +kernel
theorem d_Model_isFreeSpare_29 : decode b_Model_isFreeSpare 29 = .ok (.ifCond .ge 7, 3) := by decide +kernel
theorem d_Model_isFreeSpare_32 : decode b_Model_isFreeSpare 32 = .ok (.iconst 1, 1) := by decide +kernel
theorem d_Model_isFreeSpare_33 : decode b_Model_isFreeSpare 33 = .ok (.goto 4, 3) := by decide +kernel
theorem d_Model_isFreeSpare_36 : decode b_Model_isFreeSpare 36 = .ok (.iconst 0, 1) := by decide +kernel
theorem d_Model_isFreeSpare_37 : decode b_Model_isFreeSpare 37 = .ok (.ireturn, 1) := by decide +kernel
theorem d_Model_pairOfSpare_0 : decode b_Model_pairOfSpare 0 = .ok (.iconst (-1), 1) := by decide +kernel
theorem d_Model_pairOfSpare_1 : decode b_Model_pairOfSpare 1 = .ok (.istore_n 2, 1) := by decide +kernel
theorem d_Model_pairOfSpare_2 : decode b_Model_pairOfSpare 2 = .ok (.iconst 0, 1) := by decide +kernel
theorem d_Model_pairOfSpare_3 : decode b_Model_pairOfSpare 3 = .ok (.istore_n 3, 1) := by decide +kernel
theorem d_Model_pairOfSpare_4 : decode b_Model_pairOfSpare 4 = .ok (.iload_n 3, 1) := by decide +kernel
theorem d_Model_pairOfSpare_5 : decode b_Model_pairOfSpare 5 = .ok (.aload_n 0, 1) := by decide +kernel
theorem d_Model_pairOfSpare_6 : decode b_Model_pairOfSpare 6 = .ok (.getfield 39, 3) := by decide +kernel
theorem d_Model_pairOfSpare_9 : decode b_Model_pairOfSpare 9 = .ok (.iconst 0, 1) := by decide +kernel
theorem d_Model_pairOfSpare_10 : decode b_Model_pairOfSpare 10 = .ok (.iaload, 1) := by decide +kernel
theorem d_Model_pairOfSpare_11 : decode b_Model_pairOfSpare 11 = .ok (.if_icmp .ge 25, 3) := by decide +kernel
theorem d_Model_pairOfSpare_14 : decode b_Model_pairOfSpare 14 = .ok (.aload_n 0, 1) := by decide +kernel
theorem d_Model_pairOfSpare_15 : decode b_Model_pairOfSpare 15 = .ok (.getfield 45, 3) := by decide +kernel
theorem d_Model_pairOfSpare_18 : decode b_Model_pairOfSpare 18 = .ok (.iload_n 3, 1) := by decide +kernel
theorem d_Model_pairOfSpare_19 : decode b_Model_pairOfSpare 19 = .ok (.iaload, 1) := by decide +kernel
theorem d_Model_pairOfSpare_20 : decode b_Model_pairOfSpare 20 = .ok (.iload_n 1, 1) := by decide +kernel
theorem d_Model_pairOfSpare_21 : decode b_Model_pairOfSpare 21 = .ok (.if_icmp .ne 7, 3) := by decide +kernel
theorem d_Model_pairOfSpare_24 : decode b_Model_pairOfSpare 24 = .ok (.iload_n 3, 1) := by decide +kernel
theorem d_Model_pairOfSpare_25 : decode b_Model_pairOfSpare 25 = .ok (.goto 4, 3) := by decide +kernel
theorem d_Model_pairOfSpare_28 : decode b_Model_pairOfSpare 28 = .ok (.iload_n 2, 1) := by decide +kernel
theorem d_Model_pairOfSpare_29 : decode b_Model_pairOfSpare 29 = .ok (.istore_n 2, 1) := by decide +kernel
theorem d_Model_pairOfSpare_30 : decode b_Model_pairOfSpare 30 = .ok (.iinc 3 1, 3) := by decide +kernel
theorem d_Model_pairOfSpare_33 : decode b_Model_pairOfSpare 33 = .ok (.goto (-29), 3) := by decide +kernel
theorem d_Model_pairOfSpare_36 : decode b_Model_pairOfSpare 36 = .ok (.iload_n 2, 1) := by decide +kernel
theorem d_Model_pairOfSpare_37 : decode b_Model_pairOfSpare 37 = .ok (.ireturn, 1) := by decide +kernel
theorem d_Model_spoil_0 : decode b_Model_spoil 0 = .ok (.aload_n 0, 1) := by decide +kernel
theorem d_Model_spoil_1 : decode b_Model_spoil 1 = .ok (.iload_n 1, 1) := by decide +kernel
theorem d_Model_spoil_2 : decode b_Model_spoil 2 = .ok (.invokestatic 97, 3) := by decide +kernel
theorem d_Model_spoil_5 : decode b_Model_spoil 5 = .ok (.ifCond .ne 7, 3) := by decide +kernel
theorem d_Model_spoil_8 : decode b_Model_spoil 8 = .ok (.iconst 1, 1) := by decide +kernel
theorem d_Model_spoil_9 : decode b_Model_spoil 9 = .ok (.goto 14, 3) := by decide +kernel
theorem d_Model_spoil_12 : decode b_Model_spoil 12 = .ok (.iload_n 1, 1) := by decide +kernel
theorem d_Model_spoil_13 : decode b_Model_spoil 13 = .ok (.bipush 16, 2) := by decide +kernel
theorem d_Model_spoil_15 : decode b_Model_spoil 15 = .ok (.if_icmp .ge 7, 3) := by decide +kernel
theorem d_Model_spoil_18 : decode b_Model_spoil 18 = .ok (.iconst 2, 1) := by decide +kernel
theorem d_Model_spoil_19 : decode b_Model_spoil 19 = .ok (.goto 4, 3) := by decide +kernel
theorem d_Model_spoil_22 : decode b_Model_spoil 22 = .ok (.iconst 0, 1) := by decide +kernel
theorem d_Model_spoil_23 : decode b_Model_spoil 23 = .ok (.putfield 51, 3) := by decide +kernel
theorem d_Model_spoil_26 : decode b_Model_spoil 26 = .ok (.aload_n 0, 1) := by decide +kernel
theorem d_Model_spoil_27 : decode b_Model_spoil 27 = .ok (.getfield 51, 3) := by decide +kernel
theorem d_Model_spoil_30 : decode b_Model_spoil 30 = .ok (.ifCond .le 5, 3) := by decide +kernel
theorem d_Model_spoil_33 : decode b_Model_spoil 33 = .ok (.iconst 0, 1) := by decide +kernel
theorem d_Model_spoil_34 : decode b_Model_spoil 34 = .ok (.ireturn, 1) := by decide +kernel
theorem d_Model_spoil_35 : decode b_Model_spoil 35 = .ok (.aload_n 0, 1) := by decide +kernel
theorem d_Model_spoil_36 : decode b_Model_spoil 36 = .ok (.getfield 17, 3) := by decide +kernel
theorem d_Model_spoil_39 : decode b_Model_spoil 39 = .ok (.iload_n 1, 1) := by decide +kernel
theorem d_Model_spoil_40 : decode b_Model_spoil 40 = .ok (.iaload, 1) := by decide +kernel
theorem d_Model_spoil_41 : decode b_Model_spoil 41 = .ok (.istore_n 3, 1) := by decide +kernel
theorem d_Model_spoil_42 : decode b_Model_spoil 42 = .ok (.aload_n 0, 1) := by decide +kernel
theorem d_Model_spoil_43 : decode b_Model_spoil 43 = .ok (.getfield 17, 3) := by decide +kernel
theorem d_Model_spoil_46 : decode b_Model_spoil 46 = .ok (.iload_n 1, 1) := by decide +kernel
theorem d_Model_spoil_47 : decode b_Model_spoil 47 = .ok (.iload_n 2, 1) := by decide +kernel
theorem d_Model_spoil_48 : decode b_Model_spoil 48 = .ok (.ifCond .ne 7, 3) := by decide +kernel
theorem d_Model_spoil_51 : decode b_Model_spoil 51 = .ok (.iconst 2, 1) := by decide +kernel
theorem d_Model_spoil_52 : decode b_Model_spoil 52 = .ok (.goto 12, 3) := by decide +kernel
theorem d_Model_spoil_55 : decode b_Model_spoil 55 = .ok (.iload_n 3, 1) := by decide +kernel
theorem d_Model_spoil_56 : decode b_Model_spoil 56 = .ok (.ifCond .ne 7, 3) := by decide +kernel
theorem d_Model_spoil_59 : decode b_Model_spoil 59 = .ok (.iconst 1, 1) := by decide +kernel
theorem d_Model_spoil_60 : decode b_Model_spoil 60 = .ok (.goto 4, 3) := by decide +kernel
theorem d_Model_spoil_63 : decode b_Model_spoil 63 = .ok (.iload_n 3, 1) := by decide +kernel
theorem d_Model_spoil_64 : decode b_Model_spoil 64 = .ok (.iastore, 1) := by decide +kernel
theorem d_Model_spoil_65 : decode b_Model_spoil 65 = .ok (.iload_n 3, 1) := by decide +kernel
theorem d_Model_spoil_66 : decode b_Model_spoil 66 = .ok (.ireturn, 1) := by decide +kernel
theorem d_Model_cutAfter_0 : decode b_Model_cutAfter 0 = .ok (.aload_n 0, 1) := by decide +kernel
theorem d_Model_cutAfter_1 : decode b_Model_cutAfter 1 = .ok (.iload_n 1, 1) := by decide +kernel
theorem d_Model_cutAfter_2 : decode b_Model_cutAfter 2 = .ok (.iconst (-1), 1) := by decide +kernel
theorem d_Model_cutAfter_3 : decode b_Model_cutAfter 3 = .ok (.if_icmp .ge 7, 3) := by decide +kernel
theorem d_Model_cutAfter_6 : decode b_Model_cutAfter 6 = .ok (.iconst 1, 1) := by decide +kernel
theorem d_Model_cutAfter_7 : decode b_Model_cutAfter 7 = .ok (.goto 4, 3) := by decide +kernel
theorem d_Model_cutAfter_10 : decode b_Model_cutAfter 10 = .ok (.iconst 0, 1) := by decide +kernel
theorem d_Model_cutAfter_11 : decode b_Model_cutAfter 11 = .ok (.putfield 51, 3) := by decide +kernel
theorem d_Model_cutAfter_14 : decode b_Model_cutAfter 14 = .ok (.aload_n 0, 1) := by decide +kernel
theorem d_Model_cutAfter_15 : decode b_Model_cutAfter 15 = .ok (.getfield 51, 3) := by decide +kernel
theorem d_Model_cutAfter_18 : decode b_Model_cutAfter 18 = .ok (.ifCond .le 5, 3) := by decide +kernel
theorem d_Model_cutAfter_21 : decode b_Model_cutAfter 21 = .ok (.iconst 0, 1) := by decide +kernel
theorem d_Model_cutAfter_22 : decode b_Model_cutAfter 22 = .ok (.ireturn, 1) := by decide +kernel
theorem d_Model_cutAfter_23 : decode b_Model_cutAfter 23 = .ok (.aload_n 0, 1) := by decide +kernel
theorem d_Model_cutAfter_24 : decode b_Model_cutAfter 24 = .ok (.iload_n 1, 1) := by decide +kernel
theorem d_Model_cutAfter_25 : decode b_Model_cutAfter 25 = .ok (.putfield 23, 3) := by decide +kernel
theorem d_Model_cutAfter_28 : decode b_Model_cutAfter 28 = .ok (.iload_n 1, 1) := by decide +kernel
theorem d_Model_cutAfter_29 : decode b_Model_cutAfter 29 = .ok (.ireturn, 1) := by decide +kernel
theorem d_Model_start_0 : decode b_Model_start 0 = .ok (.aload_n 0, 1) := by decide +kernel
theorem d_Model_start_1 : decode b_Model_start 1 = .ok (.iconst 0, 1) := by decide +kernel
theorem d_Model_start_2 : decode b_Model_start 2 = .ok (.putfield 51, 3) := by decide +kernel
theorem d_Model_start_5 : decode b_Model_start 5 = .ok (.aload_n 0, 1) := by decide +kernel
theorem d_Model_start_6 : decode b_Model_start 6 = .ok (.iconst 0, 1) := by decide +kernel
theorem d_Model_start_7 : decode b_Model_start 7 = .ok (.putfield 82, 3) := by decide +kernel
theorem d_Model_start_10 : decode b_Model_start 10 = .ok (.aload_n 0, 1) := by decide +kernel
theorem d_Model_start_11 : decode b_Model_start 11 = .ok (.iconst (-1), 1) := by decide +kernel
theorem d_Model_start_12 : decode b_Model_start 12 = .ok (.putfield 23, 3) := by decide +kernel
theorem d_Model_start_15 : decode b_Model_start 15 = .ok (.aload_n 0, 1) := by decide +kernel
theorem d_Model_start_16 : decode b_Model_start 16 = .ok (.getfield 30, 3) := by decide +kernel
theorem d_Model_start_19 : decode b_Model_start 19 = .ok (.iconst 1, 1) := by decide +kernel
theorem d_Model_start_20 : decode b_Model_start 20 = .ok (.baload, 1) := by decide +kernel
theorem d_Model_start_21 : decode b_Model_start 21 = .ok (.ifCond .eq 31, 3) := by decide +kernel
theorem d_Model_start_24 : decode b_Model_start 24 = .ok (.aload_n 0, 1) := by decide +kernel
theorem d_Model_start_25 : decode b_Model_start 25 = .ok (.getfield 30, 3) := by decide +kernel
theorem d_Model_start_28 : decode b_Model_start 28 = .ok (.iconst 2, 1) := by decide +kernel
theorem d_Model_start_29 : decode b_Model_start 29 = .ok (.baload, 1) := by decide +kernel
theorem d_Model_start_30 : decode b_Model_start 30 = .ok (.ifCond .eq 18, 3) := by decide +kernel
theorem d_Model_start_33 : decode b_Model_start 33 = .ok (.aload_n 0, 1) := by decide +kernel
theorem d_Model_start_34 : decode b_Model_start 34 = .ok (.getfield 27, 3) := by decide +kernel
theorem d_Model_start_37 : decode b_Model_start 37 = .ok (.iconst 1, 1) := by decide +kernel
theorem d_Model_start_38 : decode b_Model_start 38 = .ok (.iaload, 1) := by decide +kernel
theorem d_Model_start_39 : decode b_Model_start 39 = .ok (.aload_n 0, 1) := by decide +kernel
theorem d_Model_start_40 : decode b_Model_start 40 = .ok (.getfield 27, 3) := by decide +kernel
theorem d_Model_start_43 : decode b_Model_start 43 = .ok (.iconst 2, 1) := by decide +kernel
theorem d_Model_start_44 : decode b_Model_start 44 = .ok (.iaload, 1) := by decide +kernel
theorem d_Model_start_45 : decode b_Model_start 45 = .ok (.if_icmp .le 7, 3) := by decide +kernel
theorem d_Model_start_48 : decode b_Model_start 48 = .ok (.iconst 1, 1) := by decide +kernel
theorem d_Model_start_49 : decode b_Model_start 49 = .ok (.goto 17, 3) := by decide +kernel
theorem d_Model_start_52 : decode b_Model_start 52 = .ok (.aload_n 0, 1) := by decide +kernel
theorem d_Model_start_53 : decode b_Model_start 53 = .ok (.getfield 30, 3) := by decide +kernel
theorem d_Model_start_56 : decode b_Model_start 56 = .ok (.iconst 2, 1) := by decide +kernel
theorem d_Model_start_57 : decode b_Model_start 57 = .ok (.baload, 1) := by decide +kernel
theorem d_Model_start_58 : decode b_Model_start 58 = .ok (.ifCond .eq 7, 3) := by decide +kernel
theorem d_Model_start_61 : decode b_Model_start 61 = .ok (.iconst 2, 1) := by decide +kernel
theorem d_Model_start_62 : decode b_Model_start 62 = .ok (.goto 4, 3) := by decide +kernel
theorem d_Model_start_65 : decode b_Model_start 65 = .ok (.iconst 0, 1) := by decide +kernel
theorem d_Model_start_66 : decode b_Model_start 66 = .ok (.istore_n 1, 1) := by decide +kernel
theorem d_Model_start_67 : decode b_Model_start 67 = .ok (.iload_n 1, 1) := by decide +kernel
theorem d_Model_start_68 : decode b_Model_start 68 = .ok (.ifCond .le 9, 3) := by decide +kernel
theorem d_Model_start_71 : decode b_Model_start 71 = .ok (.aload_n 0, 1) := by decide +kernel
theorem d_Model_start_72 : decode b_Model_start 72 = .ok (.iload_n 1, 1) := by decide +kernel
theorem d_Model_start_73 : decode b_Model_start 73 = .ok (.iconst 0, 1) := by decide +kernel
theorem d_Model_start_74 : decode b_Model_start 74 = .ok (.invokevirtual 93, 3) := by decide +kernel
theorem d_Model_start_77 : decode b_Model_start 77 = .ok (.aload_n 0, 1) := by decide +kernel
theorem d_Model_start_78 : decode b_Model_start 78 = .ok (.getfield 27, 3) := by decide +kernel
theorem d_Model_start_81 : decode b_Model_start 81 = .ok (.iconst 0, 1) := by decide +kernel
theorem d_Model_start_82 : decode b_Model_start 82 = .ok (.iaload, 1) := by decide +kernel
theorem d_Model_start_83 : decode b_Model_start 83 = .ok (.ireturn, 1) := by decide +kernel
theorem d_Model_physical_0 : decode b_Model_physical 0 = .ok (.aload_n 0, 1) := by decide +kernel
theorem d_Model_physical_1 : decode b_Model_physical 1 = .ok (.aload_n 0, 1) := by decide +kernel
theorem d_Model_physical_2 : decode b_Model_physical 2 = .ok (.iload_n 1, 1) := by decide +kernel
theorem d_Model_physical_3 : decode b_Model_physical 3 = .ok (.invokevirtual 109, 3) := by decide +kernel
theorem d_Model_physical_6 : decode b_Model_physical 6 = .ok (.ifCond .eq 7, 3) := by decide +kernel
theorem d_Model_physical_9 : decode b_Model_physical 9 = .ok (.iconst 0, 1) := by decide +kernel
theorem d_Model_physical_10 : decode b_Model_physical 10 = .ok (.goto 4, 3) := by decide +kernel
theorem d_Model_physical_13 : decode b_Model_physical 13 = .ok (.iconst 1, 1) := by decide +kernel
theorem d_Model_physical_14 : decode b_Model_physical 14 = .ok (.putfield 51, 3) := by decide +kernel
theorem d_Model_physical_17 : decode b_Model_physical 17 = .ok (.aload_n 0, 1) := by decide +kernel
theorem d_Model_physical_18 : decode b_Model_physical 18 = .ok (.getfield 51, 3) := by decide +kernel
theorem d_Model_physical_21 : decode b_Model_physical 21 = .ok (.ifCond .le 7, 3) := by decide +kernel
theorem d_Model_physical_24 : decode b_Model_physical 24 = .ok (.iconst 0, 1) := by decide +kernel
theorem d_Model_physical_25 : decode b_Model_physical 25 = .ok (.goto 8, 3) := by decide +kernel
theorem d_Model_physical_28 : decode b_Model_physical 28 = .ok (.aload_n 0, 1) := by decide +kernel
theorem d_Model_physical_29 : decode b_Model_physical 29 = .ok (.iload_n 1, 1) := by decide +kernel
theorem d_Model_physical_30 : decode b_Model_physical 30 = .ok (.invokevirtual 112, 3) := by decide +kernel
theorem d_Model_physical_33 : decode b_Model_physical 33 = .ok (.ireturn, 1) := by decide +kernel
theorem d_Model_logical_0 : decode b_Model_logical 0 = .ok (.aload_n 0, 1) := by decide +kernel
theorem d_Model_logical_1 : decode b_Model_logical 1 = .ok (.iload_n 1, 1) := by decide +kernel
theorem d_Model_logical_2 : decode b_Model_logical 2 = .ok (.invokestatic 97, 3) := by decide +kernel
theorem d_Model_logical_5 : decode b_Model_logical 5 = .ok (.ifCond .eq 7, 3) := by decide +kernel
theorem d_Model_logical_8 : decode b_Model_logical 8 = .ok (.iconst 0, 1) := by decide +kernel
theorem d_Model_logical_9 : decode b_Model_logical 9 = .ok (.goto 4, 3) := by decide +kernel
theorem d_Model_logical_12 : decode b_Model_logical 12 = .ok (.iconst 1, 1) := by decide +kernel
theorem d_Model_logical_13 : decode b_Model_logical 13 = .ok (.putfield 51, 3) := by decide +kernel
theorem d_Model_logical_16 : decode b_Model_logical 16 = .ok (.aload_n 0, 1) := by decide +kernel
theorem d_Model_logical_17 : decode b_Model_logical 17 = .ok (.getfield 51, 3) := by decide +kernel
theorem d_Model_logical_20 : decode b_Model_logical 20 = .ok (.ifCond .le 5, 3) := by decide +kernel
theorem d_Model_logical_23 : decode b_Model_logical 23 = .ok (.iconst 0, 1) := by decide +kernel
theorem d_Model_logical_24 : decode b_Model_logical 24 = .ok (.ireturn, 1) := by decide +kernel
theorem d_Model_logical_25 : decode b_Model_logical 25 = .ok (.iconst (-1), 1) := by decide +kernel
theorem d_Model_logical_26 : decode b_Model_logical 26 = .ok (.istore_n 2, 1) := by decide +kernel
theorem d_Model_logical_27 : decode b_Model_logical 27 = .ok (.aload_n 0, 1) := by decide +kernel
theorem d_Model_logical_28 : decode b_Model_logical 28 = .ok (.invokevirtual 68, 3) := by decide +kernel
theorem d_Model_logical_31 : decode b_Model_logical 31 = .ok (.istore_n 3, 1) := by decide +kernel
theorem d_Model_logical_32 : decode b_Model_logical 32 = .ok (.iconst 0, 1) := by decide +kernel
theorem d_Model_logical_33 : decode b_Model_logical 33 = .ok (.istore 4, 2) := by decide +kernel
theorem d_Model_logical_35 : decode b_Model_logical 35 = .ok (.iload 4, 2) := by decide +kernel
theorem d_Model_logical_37 : decode b_Model_logical 37 = .ok (.iload_n 3, 1) := by decide +kernel
theorem d_Model_logical_38 : decode b_Model_logical 38 = .ok (.if_icmp .ge 26, 3) := by decide +kernel
theorem d_Model_logical_41 : decode b_Model_logical 41 = .ok (.aload_n 0, 1) := by decide +kernel
theorem d_Model_logical_42 : decode b_Model_logical 42 = .ok (.iload 4, 2) := by decide +kernel
theorem d_Model_logical_44 : decode b_Model_logical 44 = .ok (.invokevirtual 112, 3) := by decide +kernel
theorem d_Model_logical_47 : decode b_Model_logical 47 = .ok (.iload_n 1, 1) := by decide +kernel
theorem d_Model_logical_48 : decode b_Model_logical 48 = .ok (.if_icmp .ne 8, 3) := by decide +kernel
theorem d_Model_logical_51 : decode b_Model_logical 51 = .ok (.iload 4, 2) := by decide +kernel
theorem d_Model_logical_53 : decode b_Model_logical 53 = .ok (.goto 4, 3) := by decide +kernel
theorem d_Model_logical_56 : decode b_Model_logical 56 = .ok (.iload_n 2, 1) := by decide +kernel
theorem d_Model_logical_57 : decode b_Model_logical 57 = .ok (.istore_n 2, 1) := by decide +kernel
theorem d_Model_logical_58 : decode b_Model_logical 58 = .ok (.iinc 4 1, 3) := by decide +kernel
theorem d_Model_logical_61 : decode b_Model_logical 61 = .ok (.goto (-26), 3) := by decide +kernel
theorem d_Model_logical_64 : decode b_Model_logical 64 = .ok (.iload_n 2, 1) := by decide +kernel
theorem d_Model_logical_65 : decode b_Model_logical 65 = .ok (.ireturn, 1) := by decide +kernel
theorem d_Model_spares_0 : decode b_Model_spares 0 = .ok (.aload_n 0, 1) := by decide +kernel
theorem d_Model_spares_1 : decode b_Model_spares 1 = .ok (.iload_n 1, 1) := by decide +kernel
theorem d_Model_spares_2 : decode b_Model_spares 2 = .ok (.iconst 1, 1) := by decide +kernel
theorem d_Model_spares_3 : decode b_Model_spares 3 = .ok (.bipush 11, 2) := by decide +kernel
theorem d_Model_spares_5 : decode b_Model_spares 5 = .ok (.invokestatic 54, 3) := by decide +kernel
theorem d_Model_spares_8 : decode b_Model_spares 8 = .ok (.ifCond .eq 7, 3) := by decide +kernel
theorem d_Model_spares_11 : decode b_Model_spares 11 = .ok (.iconst 0, 1) := by decide +kernel
theorem d_Model_spares_12 : decode b_Model_spares 12 = .ok (.goto 4, 3) := by decide +kernel
theorem d_Model_spares_15 : decode b_Model_spares 15 = .ok (.iconst 1, 1) := by decide +kernel
theorem d_Model_spares_16 : decode b_Model_spares 16 = .ok (.putfield 51, 3) := by decide +kernel
theorem d_Model_spares_19 : decode b_Model_spares 19 = .ok (.iconst 0, 1) := by decide +kernel
theorem d_Model_spares_20 : decode b_Model_spares 20 = .ok (.istore_n 2, 1) := by decide +kernel
theorem d_Model_spares_21 : decode b_Model_spares 21 = .ok (.bipush 16, 2) := by decide +kernel
theorem d_Model_spares_23 : decode b_Model_spares 23 = .ok (.iload_n 1, 1) := by decide +kernel
theorem d_Model_spares_24 : decode b_Model_spares 24 = .ok (.imul, 1) := by decide +kernel
theorem d_Model_spares_25 : decode b_Model_spares 25 = .ok (.istore_n 3, 1) := by decide +kernel
theorem d_Model_spares_26 : decode b_Model_spares 26 = .ok (.aload_n 0, 1) := by decide +kernel
theorem d_Model_spares_27 : decode b_Model_spares 27 = .ok (.getfield 51, 3) := by decide +kernel
theorem d_Model_spares_30 : decode b_Model_spares 30 = .ok (.ifCond .ne 36, 3) := by decide +kernel
theorem d_Model_spares_33 : decode b_Model_spares 33 = .ok (.iload_n 3, 1) := by decide +kernel
theorem d_Model_spares_34 : decode b_Model_spares 34 = .ok (.bipush 16, 2) := by decide +kernel
theorem d_Model_spares_36 : decode b_Model_spares 36 = .ok (.iload_n 1, 1) := by decide +kernel
theorem d_Model_spares_37 : decode b_Model_spares 37 = .ok (.imul, 1) := by decide +kernel
theorem d_Model_spares_38 : decode b_Model_spares 38 = .ok (.bipush 16, 2) := by decide +kernel
theorem d_Model_spares_40 : decode b_Model_spares 40 = .ok (.iadd, 1) := by decide +kernel
theorem d_Model_spares_41 : decode b_Model_spares 41 = .ok (.if_icmp .ge 25, 3) := by decide +kernel
theorem d_Model_spares_44 : decode b_Model_spares 44 = .ok (.iload_n 2, 1) := by decide +kernel
theorem d_Model_spares_45 : decode b_Model_spares 45 = .ok (.aload_n 0, 1) := by decide +kernel
theorem d_Model_spares_46 : decode b_Model_spares 46 = .ok (.iload_n 3, 1) := by decide +kernel
theorem d_Model_spares_47 : decode b_Model_spares 47 = .ok (.invokevirtual 115, 3) := by decide +kernel
theorem d_Model_spares_50 : decode b_Model_spares 50 = .ok (.ifCond .eq 7, 3) := by decide +kernel
theorem d_Model_spares_53 : decode b_Model_spares 53 = .ok (.iconst 1, 1) := by decide +kernel
theorem d_Model_spares_54 : decode b_Model_spares 54 = .ok (.goto 4, 3) := by decide +kernel
theorem d_Model_spares_57 : decode b_Model_spares 57 = .ok (.iconst 0, 1) := by decide +kernel
theorem d_Model_spares_58 : decode b_Model_spares 58 = .ok (.iadd, 1) := by decide +kernel
theorem d_Model_spares_59 : decode b_Model_spares 59 = .ok (.istore_n 2, 1) := by decide +kernel
theorem d_Model_spares_60 : decode b_Model_spares 60 = .ok (.iinc 3 1, 3) := by decide +kernel
theorem d_Model_spares_63 : decode b_Model_spares 63 = .ok (.goto (-37), 3) := by decide +kernel
theorem d_Model_spares_66 : decode b_Model_spares 66 = .ok (.iload_n 2, 1) := by decide +kernel
theorem d_Model_spares_67 : decode b_Model_spares 67 = .ok (.ireturn, 1) := by decide +kernel
theorem d_Model_grown_0 : decode b_Model_grown 0 = .ok (.aload_n 0, 1) := by decide +kernel
theorem d_Model_grown_1 : decode b_Model_grown 1 = .ok (.iload_n 1, 1) := by decide +kernel
theorem d_Model_grown_2 : decode b_Model_grown 2 = .ok (.iconst 0, 1) := by decide +kernel
theorem d_Model_grown_3 : decode b_Model_grown 3 = .ok (.aload_n 0, 1) := by decide +kernel
theorem d_Model_grown_4 : decode b_Model_grown 4 = .ok (.getfield 39, 3) := by decide +kernel
theorem d_Model_grown_7 : decode b_Model_grown 7 = .ok (.iconst 0, 1) := by decide +kernel
theorem d_Model_grown_8 : decode b_Model_grown 8 = .ok (.iaload, 1) := by decide +kernel
theorem d_Model_grown_9 : decode b_Model_grown 9 = .ok (.iconst 1, 1) := by decide +kernel
theorem d_Model_grown_10 : decode b_Model_grown 10 = .ok (.isub, 1) := by decide +kernel
theorem d_Model_grown_11 : decode b_Model_grown 11 = .ok (.invokestatic 54, 3) := by decide +kernel
theorem d_Model_grown_14 : decode b_Model_grown 14 = .ok (.ifCond .eq 7, 3) := by decide +kernel
theorem d_Model_grown_17 : decode b_Model_grown 17 = .ok (.iconst 0, 1) := by decide +kernel
theorem d_Model_grown_18 : decode b_Model_grown 18 = .ok (.goto 4, 3) := by decide +kernel
theorem d_Model_grown_21 : decode b_Model_grown 21 = .ok (.iconst 1, 1) := by decide +kernel
theorem d_Model_grown_22 : decode b_Model_grown 22 = .ok (.putfield 51, 3) := by decide +kernel
theorem d_Model_grown_25 : decode b_Model_grown 25 = .ok (.aload_n 0, 1) := by decide +kernel
theorem d_Model_grown_26 : decode b_Model_grown 26 = .ok (.getfield 51, 3) := by decide +kernel
theorem d_Model_grown_29 : decode b_Model_grown 29 = .ok (.ifCond .le 7, 3) := by decide +kernel
theorem d_Model_grown_32 : decode b_Model_grown 32 = .ok (.iconst 0, 1) := by decide +kernel
theorem d_Model_grown_33 : decode b_Model_grown 33 = .ok (.goto 22, 3) := by decide +kernel
theorem d_Model_grown_36 : decode b_Model_grown 36 = .ok (.iload_n 2, 1) := by decide +kernel
theorem d_Model_grown_37 : decode b_Model_grown 37 = .ok (.ifCond .eq 12, 3) := by decide +kernel
theorem d_Model_grown_40 : decode b_Model_grown 40 = .ok (.aload_n 0, 1) := by decide +kernel
theorem d_Model_grown_41 : decode b_Model_grown 41 = .ok (.getfield 45, 3) := by decide +kernel
theorem d_Model_grown_44 : decode b_Model_grown 44 = .ok (.iload_n 1, 1) := by decide +kernel
theorem d_Model_grown_45 : decode b_Model_grown 45 = .ok (.iaload, 1) := by decide +kernel
theorem d_Model_grown_46 : decode b_Model_grown 46 = .ok (.goto 9, 3) := by decide +kernel
theorem d_Model_grown_49 : decode b_Model_grown 49 = .ok (.aload_n 0, 1) := by decide +kernel
theorem d_Model_grown_50 : decode b_Model_grown 50 = .ok (.getfield 42, 3) := by decide +kernel
theorem d_Model_grown_53 : decode b_Model_grown 53 = .ok (.iload_n 1, 1) := by decide +kernel
theorem d_Model_grown_54 : decode b_Model_grown 54 = .ok (.iaload, 1) := by decide +kernel
theorem d_Model_grown_55 : decode b_Model_grown 55 = .ok (.ireturn, 1) := by decide +kernel
theorem d_Model_primary_0 : decode b_Model_primary 0 = .ok (.aload_n 0, 1) := by decide +kernel
theorem d_Model_primary_1 : decode b_Model_primary 1 = .ok (.iload_n 1, 1) := by decide +kernel
theorem d_Model_primary_2 : decode b_Model_primary 2 = .ok (.iconst 0, 1) := by decide +kernel
theorem d_Model_primary_3 : decode b_Model_primary 3 = .ok (.aload_n 0, 1) := by decide +kernel
theorem d_Model_primary_4 : decode b_Model_primary 4 = .ok (.getfield 33, 3) := by decide +kernel
theorem d_Model_primary_7 : decode b_Model_primary 7 = .ok (.iconst 0, 1) := by decide +kernel
theorem d_Model_primary_8 : decode b_Model_primary 8 = .ok (.iaload, 1) := by decide +kernel
theorem d_Model_primary_9 : decode b_Model_primary 9 = .ok (.iconst 1, 1) := by decide +kernel
theorem d_Model_primary_10 : decode b_Model_primary 10 = .ok (.isub, 1) := by decide +kernel
theorem d_Model_primary_11 : decode b_Model_primary 11 = .ok (.invokestatic 54, 3) := by decide +kernel
theorem d_Model_primary_14 : decode b_Model_primary 14 = .ok (.ifCond .eq 7, 3) := by decide +kernel
theorem d_Model_primary_17 : decode b_Model_primary 17 = .ok (.iconst 0, 1) := by decide +kernel
theorem d_Model_primary_18 : decode b_Model_primary 18 = .ok (.goto 4, 3) := by decide +kernel
theorem d_Model_primary_21 : decode b_Model_primary 21 = .ok (.iconst 1, 1) := by decide +kernel
theorem d_Model_primary_22 : decode b_Model_primary 22 = .ok (.putfield 51, 3) := by decide +kernel
theorem d_Model_primary_25 : decode b_Model_primary 25 = .ok (.aload_n 0, 1) := by decide +kernel
theorem d_Model_primary_26 : decode b_Model_primary 26 = .ok (.getfield 51, 3) := by decide +kernel
theorem d_Model_primary_29 : decode b_Model_primary 29 = .ok (.ifCond .le 7, 3) := by decide +kernel
theorem d_Model_primary_32 : decode b_Model_primary 32 = .ok (.iconst 0, 1) := by decide +kernel
theorem d_Model_primary_33 : decode b_Model_primary 33 = .ok (.goto 9, 3) := by decide +kernel
theorem d_Model_primary_36 : decode b_Model_primary 36 = .ok (.aload_n 0, 1) := by decide +kernel
theorem d_Model_primary_37 : decode b_Model_primary 37 = .ok (.getfield 36, 3) := by decide +kernel
theorem d_Model_primary_40 : decode b_Model_primary 40 = .ok (.iload_n 1, 1) := by decide +kernel
theorem d_Model_primary_41 : decode b_Model_primary 41 = .ok (.iaload, 1) := by decide +kernel
theorem d_Model_primary_42 : decode b_Model_primary 42 = .ok (.ireturn, 1) := by decide +kernel
theorem d_Model_seeks_0 : decode b_Model_seeks 0 = .ok (.aload_n 0, 1) := by decide +kernel
theorem d_Model_seeks_1 : decode b_Model_seeks 1 = .ok (.iload_n 2, 1) := by decide +kernel
theorem d_Model_seeks_2 : decode b_Model_seeks 2 = .ok (.iconst 1, 1) := by decide +kernel
theorem d_Model_seeks_3 : decode b_Model_seeks 3 = .ok (.if_icmp .lt 21, 3) := by decide +kernel
theorem d_Model_seeks_6 : decode b_Model_seeks 6 = .ok (.iload_n 1, 1) := by decide +kernel
theorem d_Model_seeks_7 : decode b_Model_seeks 7 = .ok (.ifCond .lt 17, 3) := by decide +kernel
theorem d_Model_seeks_10 : decode b_Model_seeks 10 = .ok (.iload_n 2, 1) := by decide +kernel
theorem d_Model_seeks_11 : decode b_Model_seeks 11 = .ok (.aload_n 0, 1) := by decide +kernel
theorem d_Model_seeks_12 : decode b_Model_seeks 12 = .ok (.invokevirtual 68, 3) := by decide +kernel
theorem d_Model_seeks_15 : decode b_Model_seeks 15 = .ok (.iload_n 1, 1) := by decide +kernel
theorem d_Model_seeks_16 : decode b_Model_seeks 16 = .ok (.isub, 1) := by decide +kernel
theorem d_Model_seeks_17 : decode b_Model_seeks 17 = .ok (.if_icmp .gt 7, 3) := by decide +kernel
theorem d_Model_seeks_20 : decode b_Model_seeks 20 = .ok (.iconst 0, 1) := by decide +kernel
theorem d_Model_seeks_21 : decode b_Model_seeks 21 = .ok (.goto 4, 3) := by decide +kernel
theorem d_Model_seeks_24 : decode b_Model_seeks 24 = .ok (.iconst 1, 1) := by decide +kernel
theorem d_Model_seeks_25 : decode b_Model_seeks 25 = .ok (.putfield 51, 3) := by decide +kernel
theorem d_Model_seeks_28 : decode b_Model_seeks 28 = .ok (.aload_n 0, 1) := by decide +kernel
theorem d_Model_seeks_29 : decode b_Model_seeks 29 = .ok (.getfield 51, 3) := by decide +kernel
theorem d_Model_seeks_32 : decode b_Model_seeks 32 = .ok (.ifCond .le 5, 3) := by decide +kernel
theorem d_Model_seeks_35 : decode b_Model_seeks 35 = .ok (.iconst 0, 1) := by decide +kernel
theorem d_Model_seeks_36 : decode b_Model_seeks 36 = .ok (.ireturn, 1) := by decide +kernel
theorem d_Model_seeks_37 : decode b_Model_seeks 37 = .ok (.iconst 0, 1) := by decide +kernel
theorem d_Model_seeks_38 : decode b_Model_seeks 38 = .ok (.istore_n 3, 1) := by decide +kernel
theorem d_Model_seeks_39 : decode b_Model_seeks 39 = .ok (.iload_n 1, 1) := by decide +kernel
theorem d_Model_seeks_40 : decode b_Model_seeks 40 = .ok (.iconst 1, 1) := by decide +kernel
theorem d_Model_seeks_41 : decode b_Model_seeks 41 = .ok (.iadd, 1) := by decide +kernel
theorem d_Model_seeks_42 : decode b_Model_seeks 42 = .ok (.istore 4, 2) := by decide +kernel
theorem d_Model_seeks_44 : decode b_Model_seeks 44 = .ok (.iload 4, 2) := by decide +kernel
theorem d_Model_seeks_46 : decode b_Model_seeks 46 = .ok (.iload_n 1, 1) := by decide +kernel
theorem d_Model_seeks_47 : decode b_Model_seeks 47 = .ok (.iload_n 2, 1) := by decide +kernel
theorem d_Model_seeks_48 : decode b_Model_seeks 48 = .ok (.iadd, 1) := by decide +kernel
theorem d_Model_seeks_49 : decode b_Model_seeks 49 = .ok (.if_icmp .ge 40, 3) := by decide +kernel
theorem d_Model_seeks_52 : decode b_Model_seeks 52 = .ok (.iload_n 3, 1) := by decide +kernel
theorem d_Model_seeks_53 : decode b_Model_seeks 53 = .ok (.aload_n 0, 1) := by decide +kernel
theorem d_Model_seeks_54 : decode b_Model_seeks 54 = .ok (.iload 4, 2) := by decide +kernel
theorem d_Model_seeks_56 : decode b_Model_seeks 56 = .ok (.invokevirtual 112, 3) := by decide +kernel
theorem d_Model_seeks_59 : decode b_Model_seeks 59 = .ok (.bipush 16, 2) := by decide +kernel
theorem d_Model_seeks_61 : decode b_Model_seeks 61 = .ok (.idiv, 1) := by decide +kernel
theorem d_Model_seeks_62 : decode b_Model_seeks 62 = .ok (.aload_n 0, 1) := by decide +kernel
theorem d_Model_seeks_63 : decode b_Model_seeks 63 = .ok (.iload 4, 2) := by decide +kernel
theorem d_Model_seeks_65 : decode b_Model_seeks 65 = .ok (.iconst 1, 1) := by decide +kernel
theorem d_Model_seeks_66 : decode b_Model_seeks 66 = .ok (.isub, 1) := by decide +kernel
theorem d_Model_seeks_67 : decode b_Model_seeks 67 = .ok (.invokevirtual 112, 3) := by decide +kernel
theorem d_Model_seeks_70 : decode b_Model_seeks 70 = .ok (.bipush 16, 2) := by decide +kernel
theorem d_Model_seeks_72 : decode b_Model_seeks 72 = .ok (.idiv, 1) := by decide +kernel
theorem d_Model_seeks_73 : decode b_Model_seeks 73 = .ok (.if_icmp .eq 7, 3) := by decide +kernel
theorem d_Model_seeks_76 : decode b_Model_seeks 76 = .ok (.iconst 1, 1) := by decide +kernel
theorem d_Model_seeks_77 : decode b_Model_seeks 77 = .ok (.goto 4, 3) := by decide +kernel
theorem d_Model_seeks_80 : decode b_Model_seeks 80 = .ok (.iconst 0, 1) := by decide +kernel
theorem d_Model_seeks_81 : decode b_Model_seeks 81 = .ok (.iadd, 1) := by decide +kernel
theorem d_Model_seeks_82 : decode b_Model_seeks 82 = .ok (.istore_n 3, 1) := by decide +kernel
theorem d_Model_seeks_83 : decode b_Model_seeks 83 = .ok (.iinc 4 1, 3) := by decide +kernel
theorem d_Model_seeks_86 : decode b_Model_seeks 86 = .ok (.goto (-42), 3) := by decide +kernel
theorem d_Model_seeks_89 : decode b_Model_seeks 89 = .ok (.iload_n 3, 1) := by decide +kernel
theorem d_Model_seeks_90 : decode b_Model_seeks 90 = .ok (.ireturn, 1) := by decide +kernel
theorem d_Model_state_0 : decode b_Model_state 0 = .ok (.aload_n 0, 1) := by decide +kernel
theorem d_Model_state_1 : decode b_Model_state 1 = .ok (.iload_n 1, 1) := by decide +kernel
theorem d_Model_state_2 : decode b_Model_state 2 = .ok (.invokestatic 97, 3) := by decide +kernel
theorem d_Model_state_5 : decode b_Model_state 5 = .ok (.ifCond .eq 7, 3) := by decide +kernel
theorem d_Model_state_8 : decode b_Model_state 8 = .ok (.iconst 0, 1) := by decide +kernel
theorem d_Model_state_9 : decode b_Model_state 9 = .ok (.goto 4, 3) := by decide +kernel
theorem d_Model_state_12 : decode b_Model_state 12 = .ok (.iconst 1, 1) := by decide +kernel
theorem d_Model_state_13 : decode b_Model_state 13 = .ok (.putfield 51, 3) := by decide +kernel
theorem d_Model_state_16 : decode b_Model_state 16 = .ok (.aload_n 0, 1) := by decide +kernel
theorem d_Model_state_17 : decode b_Model_state 17 = .ok (.getfield 51, 3) := by decide +kernel
theorem d_Model_state_20 : decode b_Model_state 20 = .ok (.ifCond .le 7, 3) := by decide +kernel
theorem d_Model_state_23 : decode b_Model_state 23 = .ok (.iconst 0, 1) := by decide +kernel
theorem d_Model_state_24 : decode b_Model_state 24 = .ok (.goto 9, 3) := by decide +kernel
theorem d_Model_state_27 : decode b_Model_state 27 = .ok (.aload_n 0, 1) := by decide +kernel
theorem d_Model_state_28 : decode b_Model_state 28 = .ok (.getfield 17, 3) := by decide +kernel
theorem d_Model_state_31 : decode b_Model_state 31 = .ok (.iload_n 1, 1) := by decide +kernel
theorem d_Model_state_32 : decode b_Model_state 32 = .ok (.iaload, 1) := by decide +kernel
theorem d_Model_state_33 : decode b_Model_state 33 = .ok (.ireturn, 1) := by decide +kernel
theorem d_Model_told_0 : decode b_Model_told 0 = .ok (.aload_n 0, 1) := by decide +kernel
theorem d_Model_told_1 : decode b_Model_told 1 = .ok (.iconst 0, 1) := by decide +kernel
theorem d_Model_told_2 : decode b_Model_told 2 = .ok (.putfield 51, 3) := by decide +kernel
theorem d_Model_told_5 : decode b_Model_told 5 = .ok (.iload_n 1, 1) := by decide +kernel
theorem d_Model_told_6 : decode b_Model_told 6 = .ok (.tableswitch 100 0 7 #[46, 51, 58, 65, 72, 77, 90, 95], 46) := by decide +kernel
theorem d_Model_told_52 : decode b_Model_told 52 = .ok (.aload_n 0, 1) := by decide +kernel
theorem d_Model_told_53 : decode b_Model_told 53 = .ok (.invokevirtual 68, 3) := by decide +kernel
theorem d_Model_told_56 : decode b_Model_told 56 = .ok (.ireturn, 1) := by decide +kernel
theorem d_Model_told_57 : decode b_Model_told 57 = .ok (.aload_n 0, 1) := by decide +kernel
theorem d_Model_told_58 : decode b_Model_told 58 = .ok (.getfield 27, 3) := by decide +kernel
theorem d_Model_told_61 : decode b_Model_told 61 = .ok (.iconst 0, 1) := by decide +kernel
theorem d_Model_told_62 : decode b_Model_told 62 = .ok (.iaload, 1) := by decide +kernel
theorem d_Model_told_63 : decode b_Model_told 63 = .ok (.ireturn, 1) := by decide +kernel
theorem d_Model_told_64 : decode b_Model_told 64 = .ok (.aload_n 0, 1) := by decide +kernel
theorem d_Model_told_65 : decode b_Model_told 65 = .ok (.getfield 39, 3) := by decide +kernel
theorem d_Model_told_68 : decode b_Model_told 68 = .ok (.iconst 0, 1) := by decide +kernel
theorem d_Model_told_69 : decode b_Model_told 69 = .ok (.iaload, 1) := by decide +kernel
theorem d_Model_told_70 : decode b_Model_told 70 = .ok (.ireturn, 1) := by decide +kernel
theorem d_Model_told_71 : decode b_Model_told 71 = .ok (.aload_n 0, 1) := by decide +kernel
theorem d_Model_told_72 : decode b_Model_told 72 = .ok (.getfield 33, 3) := by decide +kernel
theorem d_Model_told_75 : decode b_Model_told 75 = .ok (.iconst 0, 1) := by decide +kernel
theorem d_Model_told_76 : decode b_Model_told 76 = .ok (.iaload, 1) := by decide +kernel
theorem d_Model_told_77 : decode b_Model_told 77 = .ok (.ireturn, 1) := by decide +kernel
theorem d_Model_told_78 : decode b_Model_told 78 = .ok (.aload_n 0, 1) := by decide +kernel
theorem d_Model_told_79 : decode b_Model_told 79 = .ok (.getfield 86, 3) := by decide +kernel
theorem d_Model_told_82 : decode b_Model_told 82 = .ok (.ireturn, 1) := by decide +kernel
theorem d_Model_told_83 : decode b_Model_told 83 = .ok (.aload_n 0, 1) := by decide +kernel
theorem d_Model_told_84 : decode b_Model_told 84 = .ok (.getfield 82, 3) := by decide +kernel
theorem d_Model_told_87 : decode b_Model_told 87 = .ok (.ifCond .eq 7, 3) := by decide +kernel
theorem d_Model_told_90 : decode b_Model_told 90 = .ok (.iconst 1, 1) := by decide +kernel
theorem d_Model_told_91 : decode b_Model_told 91 = .ok (.goto 4, 3) := by decide +kernel
theorem d_Model_told_94 : decode b_Model_told 94 = .ok (.iconst 0, 1) := by decide +kernel
theorem d_Model_told_95 : decode b_Model_told 95 = .ok (.ireturn, 1) := by decide +kernel
theorem d_Model_told_96 : decode b_Model_told 96 = .ok (.aload_n 0, 1) := by decide +kernel
theorem d_Model_told_97 : decode b_Model_told 97 = .ok (.getfield 103, 3) := by decide +kernel
theorem d_Model_told_100 : decode b_Model_told 100 = .ok (.ireturn, 1) := by decide +kernel
theorem d_Model_told_101 : decode b_Model_told 101 = .ok (.aload_n 0, 1) := by decide +kernel
theorem d_Model_told_102 : decode b_Model_told 102 = .ok (.getfield 23, 3) := by decide +kernel
theorem d_Model_told_105 : decode b_Model_told 105 = .ok (.ireturn, 1) := by decide +kernel
theorem d_Model_told_106 : decode b_Model_told 106 = .ok (.iconst (-1), 1) := by decide +kernel
theorem d_Model_told_107 : decode b_Model_told 107 = .ok (.ireturn, 1) := by decide +kernel
