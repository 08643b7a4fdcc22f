theorem dX9_two_6 : decode cX9_two 6 = .ok (.iload_n 1, 1) := by decide +kernel
theorem dX9_two_7 : decode cX9_two 7 = .ok (.invokevirtual 339, 3) := by decide +kernel
theorem dX9_two_10 : decode cX9_two 10 = .ok (.ifCond .eq 11, 3) := by decide +kernel
theorem dX9_two_13 : decode cX9_two 13 = .ok (.aload_n 0, 1) := by decide +kernel
theorem dX9_two_14 : decode cX9_two 14 = .ok (.iload_n 2, 1) := by decide +kernel
theorem dX9_two_15 : decode cX9_two 15 = .ok (.invokevirtual 339, 3) := by decide +kernel
theorem dX9_two_18 : decode cX9_two 18 = .ok (.ifCond .ne 5, 3) := by decide +kernel
theorem dX9_two_21 : decode cX9_two 21 = .ok (.iconst 0, 1) := by decide +kernel
theorem dX9_two_22 : decode cX9_two 22 = .ok (.ireturn, 1) := by decide +kernel
theorem dX9_two_23 : decode cX9_two 23 = .ok (.aload_n 0, 1) := by decide +kernel
theorem dX9_two_24 : decode cX9_two 24 = .ok (.invokevirtual 413, 3) := by decide +kernel
theorem dX9_two_27 : decode cX9_two 27 = .ok (.aload_n 0, 1) := by decide +kernel
theorem dX9_two_28 : decode cX9_two 28 = .ok (.aload_n 0, 1) := by decide +kernel
theorem dX9_two_29 : decode cX9_two 29 = .ok (.iload_n 1, 1) := by decide +kernel
theorem dX9_two_30 : decode cX9_two 30 = .ok (.invokevirtual 416, 3) := by decide +kernel
theorem dX9_two_33 : decode cX9_two 33 = .ok (.iconst 2, 1) := by decide +kernel
theorem dX9_two_34 : decode cX9_two 34 = .ok (.invokevirtual 291, 3) := by decide +kernel
theorem dX9_two_37 : decode cX9_two 37 = .ok (.ifCond .ne 5, 3) := by decide +kernel
theorem dX9_two_40 : decode cX9_two 40 = .ok (.iconst 0, 1) := by decide +kernel
theorem dX9_two_41 : decode cX9_two 41 = .ok (.ireturn, 1) := by decide +kernel
theorem dX9_two_42 : decode cX9_two 42 = .ok (.aload_n 0, 1) := by decide +kernel
theorem dX9_two_43 : decode cX9_two 43 = .ok (.invokevirtual 419, 3) := by decide +kernel
theorem dX9_two_46 : decode cX9_two 46 = .ok (.iconst 0, 1) := by decide +kernel
theorem dX9_two_47 : decode cX9_two 47 = .ok (.istore_n 3, 1) := by decide +kernel
theorem dX9_two_48 : decode cX9_two 48 = .ok (.iload_n 3, 1) := by decide +kernel
theorem dX9_two_49 : decode cX9_two 49 = .ok (.aload_n 0, 1) := by decide +kernel
theorem dX9_two_50 : decode cX9_two 50 = .ok (.getfield 298, 3) := by decide +kernel
theorem dX9_two_53 : decode cX9_two 53 = .ok (.if_icmp .ge 31, 3) := by decide +kernel
theorem dX9_two_56 : decode cX9_two 56 = .ok (.aload_n 0, 1) := by decide +kernel
theorem dX9_two_57 : decode cX9_two 57 = .ok (.getfield 125, 3) := by decide +kernel
theorem dX9_two_60 : decode cX9_two 60 = .ok (.iload_n 3, 1) := by decide +kernel
theorem dX9_two_61 : decode cX9_two 61 = .ok (.aload_n 0, 1) := by decide +kernel
theorem dX9_two_62 : decode cX9_two 62 = .ok (.getfield 89, 3) := by decide +kernel
theorem dX9_two_65 : decode cX9_two 65 = .ok (.bipush 12, 2) := by decide +kernel
theorem dX9_two_67 : decode cX9_two 67 = .ok (.iload_n 3, 1) := by decide +kernel
theorem dX9_two_68 : decode cX9_two 68 = .ok (.imul, 1) := by decide +kernel
theorem dX9_two_69 : decode cX9_two 69 = .ok (.aload_n 0, 1) := by decide +kernel
theorem dX9_two_70 : decode cX9_two 70 = .ok (.getfield 16, 3) := by decide +kernel
theorem dX9_two_73 : decode cX9_two 73 = .ok (.iadd, 1) := by decide +kernel
theorem dX9_two_74 : decode cX9_two 74 = .ok (.iconst 1, 1) := by decide +kernel
theorem dX9_two_75 : decode cX9_two 75 = .ok (.isub, 1) := by decide +kernel
theorem dX9_two_76 : decode cX9_two 76 = .ok (.laload, 1) := by decide +kernel
theorem dX9_two_77 : decode cX9_two 77 = .ok (.lastore, 1) := by decide +kernel
theorem dX9_two_78 : decode cX9_two 78 = .ok (.iinc 3 1, 3) := by decide +kernel
theorem dX9_two_81 : decode cX9_two 81 = .ok (.goto (-33), 3) := by decide +kernel
theorem dX9_two_84 : decode cX9_two 84 = .ok (.lconst 0, 1) := by decide +kernel
theorem dX9_two_85 : decode cX9_two 85 = .ok (.lstore_n 3, 1) := by decide +kernel
theorem dX9_two_86 : decode cX9_two 86 = .ok (.iconst 0, 1) := by decide +kernel
theorem dX9_two_87 : decode cX9_two 87 = .ok (.istore 5, 2) := by decide +kernel
theorem dX9_two_89 : decode cX9_two 89 = .ok (.iload 5, 2) := by decide +kernel
theorem dX9_two_91 : decode cX9_two 91 = .ok (.aload_n 0, 1) := by decide +kernel
theorem dX9_two_92 : decode cX9_two 92 = .ok (.getfield 298, 3) := by decide +kernel
theorem dX9_two_95 : decode cX9_two 95 = .ok (.if_icmp .ge 74, 3) := by decide +kernel
theorem dX9_two_98 : decode cX9_two 98 = .ok (.aload_n 0, 1) := by decide +kernel
theorem dX9_two_99 : decode cX9_two 99 = .ok (.getfield 125, 3) := by decide +kernel
theorem dX9_two_102 : decode cX9_two 102 = .ok (.iload 5, 2) := by decide +kernel
theorem dX9_two_104 : decode cX9_two 104 = .ok (.laload, 1) := by decide +kernel
theorem dX9_two_105 : decode cX9_two 105 = .ok (.lconst 0, 1) := by decide +kernel
theorem dX9_two_106 : decode cX9_two 106 = .ok (.lcmp, 1) := by decide +kernel
theorem dX9_two_107 : decode cX9_two 107 = .ok (.ifCond .eq 56, 3) := by decide +kernel
theorem dX9_two_110 : decode cX9_two 110 = .ok (.iload 5, 2) := by decide +kernel
theorem dX9_two_112 : decode cX9_two 112 = .ok (.iload_n 2, 1) := by decide +kernel
theorem dX9_two_113 : decode cX9_two 113 = .ok (.if_icmp .ne 6, 3) := by decide +kernel
theorem dX9_two_116 : decode cX9_two 116 = .ok (.goto 47, 3) := by decide +kernel
theorem dX9_two_119 : decode cX9_two 119 = .ok (.aload_n 0, 1) := by decide +kernel
theorem dX9_two_120 : decode cX9_two 120 = .ok (.iconst 1, 1) := by decide +kernel
theorem dX9_two_121 : decode cX9_two 121 = .ok (.iload 5, 2) := by decide +kernel
theorem dX9_two_123 : decode cX9_two 123 = .ok (.ishl, 1) := by decide +kernel
theorem dX9_two_124 : decode cX9_two 124 = .ok (.putfield 345, 3) := by decide +kernel
theorem dX9_two_127 : decode cX9_two 127 = .ok (.aload_n 0, 1) := by decide +kernel
theorem dX9_two_128 : decode cX9_two 128 = .ok (.aload_n 0, 1) := by decide +kernel
theorem dX9_two_129 : decode cX9_two 129 = .ok (.iload_n 2, 1) := by decide +kernel
theorem dX9_two_130 : decode cX9_two 130 = .ok (.invokevirtual 416, 3) := by decide +kernel
theorem dX9_two_133 : decode cX9_two 133 = .ok (.iconst 2, 1) := by decide +kernel
theorem dX9_two_134 : decode cX9_two 134 = .ok (.invokevirtual 291, 3) := by decide +kernel
theorem dX9_two_137 : decode cX9_two 137 = .ok (.ifCond .ne 5, 3) := by decide +kernel
theorem dX9_two_140 : decode cX9_two 140 = .ok (.iconst 0, 1) := by decide +kernel
theorem dX9_two_141 : decode cX9_two 141 = .ok (.ireturn, 1) := by decide +kernel
theorem dX9_two_142 : decode cX9_two 142 = .ok (.lload_n 3, 1) := by decide +kernel
theorem dX9_two_143 : decode cX9_two 143 = .ok (.aload_n 0, 1) := by decide +kernel
theorem dX9_two_144 : decode cX9_two 144 = .ok (.getfield 125, 3) := by decide +kernel
theorem dX9_two_147 : decode cX9_two 147 = .ok (.iload 5, 2) := by decide +kernel
theorem dX9_two_149 : decode cX9_two 149 = .ok (.laload, 1) := by decide +kernel
theorem dX9_two_150 : decode cX9_two 150 = .ok (.aload_n 0, 1) := by decide +kernel
theorem dX9_two_151 : decode cX9_two 151 = .ok (.getfield 80, 3) := by decide +kernel
theorem dX9_two_154 : decode cX9_two 154 = .ok (.iconst 0, 1) := by decide +kernel
theorem dX9_two_155 : decode cX9_two 155 = .ok (.laload, 1) := by decide +kernel
theorem dX9_two_156 : decode cX9_two 156 = .ok (.lmul, 1) := by decide +kernel
theorem dX9_two_157 : decode cX9_two 157 = .ok (.ldc2_w 372, 3) := by decide +kernel
theorem dX9_two_160 : decode cX9_two 160 = .ok (.ldiv, 1) := by decide +kernel
theorem dX9_two_161 : decode cX9_two 161 = .ok (.ladd, 1) := by decide +kernel
theorem dX9_two_162 : decode cX9_two 162 = .ok (.lstore_n 3, 1) := by decide +kernel
theorem dX9_two_163 : decode cX9_two 163 = .ok (.iinc 5 1, 3) := by decide +kernel
theorem dX9_two_166 : decode cX9_two 166 = .ok (.goto (-77), 3) := by decide +kernel
theorem dX9_two_169 : decode cX9_two 169 = .ok (.lload_n 3, 1) := by decide +kernel
theorem dX9_two_170 : decode cX9_two 170 = .ok (.l2i, 1) := by decide +kernel
theorem dX9_two_171 : decode cX9_two 171 = .ok (.ireturn, 1) := by decide +kernel
theorem dX9_feeling_0 : decode cX9_feeling 0 = .ok (.aload_n 0, 1) := by decide +kernel
theorem dX9_feeling_1 : decode cX9_feeling 1 = .ok (.iconst 0, 1) := by decide +kernel
theorem dX9_feeling_2 : decode cX9_feeling 2 = .ok (.putfield 170, 3) := by decide +kernel
theorem dX9_feeling_5 : decode cX9_feeling 5 = .ok (.aload_n 0, 1) := by decide +kernel
theorem dX9_feeling_6 : decode cX9_feeling 6 = .ok (.aload_n 0, 1) := by decide +kernel
theorem dX9_feeling_7 : decode cX9_feeling 7 = .ok (.getfield 298, 3) := by decide +kernel
theorem dX9_feeling_10 : decode cX9_feeling 10 = .ok (.ifCond .le 7, 3) := by decide +kernel
theorem dX9_feeling_13 : decode cX9_feeling 13 = .ok (.iconst 1, 1) := by decide +kernel
theorem dX9_feeling_14 : decode cX9_feeling 14 = .ok (.goto 4, 3) := by decide +kernel
theorem dX9_feeling_17 : decode cX9_feeling 17 = .ok (.iconst 0, 1) := by decide +kernel
theorem dX9_feeling_18 : decode cX9_feeling 18 = .ok (.iconst 1, 1) := by decide +kernel
theorem dX9_feeling_19 : decode cX9_feeling 19 = .ok (.invokevirtual 291, 3) := by decide +kernel
theorem dX9_feeling_22 : decode cX9_feeling 22 = .ok (.ifCond .eq 18, 3) := by decide +kernel
theorem dX9_feeling_25 : decode cX9_feeling 25 = .ok (.aload_n 0, 1) := by decide +kernel
theorem dX9_feeling_26 : decode cX9_feeling 26 = .ok (.iload_n 1, 1) := by decide +kernel
theorem dX9_feeling_27 : decode cX9_feeling 27 = .ok (.iconst 1, 1) := by decide +kernel
theorem dX9_feeling_28 : decode cX9_feeling 28 = .ok (.bipush 99, 2) := by decide +kernel
theorem dX9_feeling_30 : decode cX9_feeling 30 = .ok (.invokestatic 336, 3) := by decide +kernel
theorem dX9_feeling_33 : decode cX9_feeling 33 = .ok (.iconst 2, 1) := by decide +kernel
theorem dX9_feeling_34 : decode cX9_feeling 34 = .ok (.invokevirtual 291, 3) := by decide +kernel
theorem dX9_feeling_37 : decode cX9_feeling 37 = .ok (.ifCond .ne 5, 3) := by decide +kernel
theorem dX9_feeling_40 : decode cX9_feeling 40 = .ok (.lconst 0, 1) := by decide +kernel
theorem dX9_feeling_41 : decode cX9_feeling 41 = .ok (.lreturn, 1) := by decide +kernel
theorem dX9_feeling_42 : decode cX9_feeling 42 = .ok (.aload_n 0, 1) := by decide +kernel
theorem dX9_feeling_43 : decode cX9_feeling 43 = .ok (.getfield 19, 3) := by decide +kernel
theorem dX9_feeling_46 : decode cX9_feeling 46 = .ok (.istore_n 2, 1) := by decide +kernel
theorem dX9_feeling_47 : decode cX9_feeling 47 = .ok (.aload_n 0, 1) := by decide +kernel
theorem dX9_feeling_48 : decode cX9_feeling 48 = .ok (.iload_n 1, 1) := by decide +kernel
theorem dX9_feeling_49 : decode cX9_feeling 49 = .ok (.putfield 19, 3) := by decide +kernel
theorem dX9_feeling_52 : decode cX9_feeling 52 = .ok (.aload_n 0, 1) := by decide +kernel
theorem dX9_feeling_53 : decode cX9_feeling 53 = .ok (.invokevirtual 413, 3) := by decide +kernel
theorem dX9_feeling_56 : decode cX9_feeling 56 = .ok (.aload_n 0, 1) := by decide +kernel
theorem dX9_feeling_57 : decode cX9_feeling 57 = .ok (.aload_n 0, 1) := by decide +kernel
theorem dX9_feeling_58 : decode cX9_feeling 58 = .ok (.getfield 301, 3) := by decide +kernel
theorem dX9_feeling_61 : decode cX9_feeling 61 = .ok (.invokevirtual 416, 3) := by decide +kernel
theorem dX9_feeling_64 : decode cX9_feeling 64 = .ok (.istore_n 3, 1) := by decide +kernel
theorem dX9_feeling_65 : decode cX9_feeling 65 = .ok (.iload_n 3, 1) := by decide +kernel
theorem dX9_feeling_66 : decode cX9_feeling 66 = .ok (.ifCond .eq 7, 3) := by decide +kernel
theorem dX9_feeling_69 : decode cX9_feeling 69 = .ok (.aload_n 0, 1) := by decide +kernel
theorem dX9_feeling_70 : decode cX9_feeling 70 = .ok (.invokevirtual 419, 3) := by decide +kernel
theorem dX9_feeling_73 : decode cX9_feeling 73 = .ok (.aload_n 0, 1) := by decide +kernel
theorem dX9_feeling_74 : decode cX9_feeling 74 = .ok (.iload_n 2, 1) := by decide +kernel
theorem dX9_feeling_75 : decode cX9_feeling 75 = .ok (.putfield 19, 3) := by decide +kernel
theorem dX9_feeling_78 : decode cX9_feeling 78 = .ok (.aload_n 0, 1) := by decide +kernel
theorem dX9_feeling_79 : decode cX9_feeling 79 = .ok (.iload_n 3, 1) := by decide +kernel
theorem dX9_feeling_80 : decode cX9_feeling 80 = .ok (.iconst 2, 1) := by decide +kernel
theorem dX9_feeling_81 : decode cX9_feeling 81 = .ok (.invokevirtual 291, 3) := by decide +kernel
theorem dX9_feeling_84 : decode cX9_feeling 84 = .ok (.ifCond .eq 10, 3) := by decide +kernel
theorem dX9_feeling_87 : decode cX9_feeling 87 = .ok (.aload_n 0, 1) := by decide +kernel
theorem dX9_feeling_88 : decode cX9_feeling 88 = .ok (.invokevirtual 426, 3) := by decide +kernel
theorem dX9_feeling_91 : decode cX9_feeling 91 = .ok (.goto 4, 3) := by decide +kernel
theorem dX9_feeling_94 : decode cX9_feeling 94 = .ok (.lconst 0, 1) := by decide +kernel
theorem dX9_feeling_95 : decode cX9_feeling 95 = .ok (.lreturn, 1) := by decide +kernel
theorem dX9_theft_0 : decode cX9_theft 0 = .ok (.aload_n 0, 1) := by decide +kernel
theorem dX9_theft_1 : decode cX9_theft 1 = .ok (.iconst 0, 1) := by decide +kernel
theorem dX9_theft_2 : decode cX9_theft 2 = .ok (.putfield 170, 3) := by decide +kernel
theorem dX9_theft_5 : decode cX9_theft 5 = .ok (.aload_n 0, 1) := by decide +kernel
theorem dX9_theft_6 : decode cX9_theft 6 = .ok (.iload_n 1, 1) := by decide +kernel
theorem dX9_theft_7 : decode cX9_theft 7 = .ok (.ifCond .lt 17, 3) := by decide +kernel
theorem dX9_theft_10 : decode cX9_theft 10 = .ok (.iload_n 1, 1) := by decide +kernel
theorem dX9_theft_11 : decode cX9_theft 11 = .ok (.iconst 1, 1) := by decide +kernel
theorem dX9_theft_12 : decode cX9_theft 12 = .ok (.aload_n 0, 1) := by decide +kernel
theorem dX9_theft_13 : decode cX9_theft 13 = .ok (.getfield 298, 3) := by decide +kernel
theorem dX9_theft_16 : decode cX9_theft 16 = .ok (.ishl, 1) := by decide +kernel
theorem dX9_theft_17 : decode cX9_theft 17 = .ok (.if_icmp .ge 7, 3) := by decide +kernel
theorem dX9_theft_20 : decode cX9_theft 20 = .ok (.iconst 1, 1) := by decide +kernel
theorem dX9_theft_21 : decode cX9_theft 21 = .ok (.goto 4, 3) := by decide +kernel
theorem dX9_theft_24 : decode cX9_theft 24 = .ok (.iconst 0, 1) := by decide +kernel
theorem dX9_theft_25 : decode cX9_theft 25 = .ok (.iconst 1, 1) := by decide +kernel
theorem dX9_theft_26 : decode cX9_theft 26 = .ok (.invokevirtual 291, 3) := by decide +kernel
theorem dX9_theft_29 : decode cX9_theft 29 = .ok (.ifCond .ne 5, 3) := by decide +kernel
theorem dX9_theft_32 : decode cX9_theft 32 = .ok (.iconst 0, 1) := by decide +kernel
theorem dX9_theft_33 : decode cX9_theft 33 = .ok (.ireturn, 1) := by decide +kernel
theorem dX9_theft_34 : decode cX9_theft 34 = .ok (.aload_n 0, 1) := by decide +kernel
theorem dX9_theft_35 : decode cX9_theft 35 = .ok (.getfield 323, 3) := by decide +kernel
theorem dX9_theft_38 : decode cX9_theft 38 = .ok (.bipush 30, 2) := by decide +kernel
theorem dX9_theft_40 : decode cX9_theft 40 = .ok (.if_icmp .eq 13, 3) := by decide +kernel
theorem dX9_theft_43 : decode cX9_theft 43 = .ok (.iload_n 2, 1) := by decide +kernel
theorem dX9_theft_44 : decode cX9_theft 44 = .ok (.iconst 0, 1) := by decide +kernel
theorem dX9_theft_45 : decode cX9_theft 45 = .ok (.bipush 8, 2) := by decide +kernel
theorem dX9_theft_47 : decode cX9_theft 47 = .ok (.invokestatic 336, 3) := by decide +kernel
theorem dX9_theft_50 : decode cX9_theft 50 = .ok (.ifCond .ne 15, 3) := by decide +kernel
theorem dX9_theft_53 : decode cX9_theft 53 = .ok (.aload_n 0, 1) := by decide +kernel
theorem dX9_theft_54 : decode cX9_theft 54 = .ok (.getfield 38, 3) := by decide +kernel
theorem dX9_theft_57 : decode cX9_theft 57 = .ok (.iconst 2, 1) := by decide +kernel
theorem dX9_theft_58 : decode cX9_theft 58 = .ok (.dup2, 1) := by decide +kernel
theorem dX9_theft_59 : decode cX9_theft 59 = .ok (.iaload, 1) := by decide +kernel
theorem dX9_theft_60 : decode cX9_theft 60 = .ok (.iconst 1, 1) := by decide +kernel
theorem dX9_theft_61 : decode cX9_theft 61 = .ok (.iadd, 1) := by decide +kernel
theorem dX9_theft_62 : decode cX9_theft 62 = .ok (.iastore, 1) := by decide +kernel
theorem dX9_theft_63 : decode cX9_theft 63 = .ok (.iconst (-1), 1) := by decide +kernel
theorem dX9_theft_64 : decode cX9_theft 64 = .ok (.ireturn, 1) := by decide +kernel
theorem dX9_theft_65 : decode cX9_theft 65 = .ok (.aload_n 0, 1) := by decide +kernel
theorem dX9_theft_66 : decode cX9_theft 66 = .ok (.getfield 128, 3) := by decide +kernel
theorem dX9_theft_69 : decode cX9_theft 69 = .ok (.aload_n 0, 1) := by decide +kernel
theorem dX9_theft_70 : decode cX9_theft 70 = .ok (.getfield 323, 3) := by decide +kernel
theorem dX9_theft_73 : decode cX9_theft 73 = .ok (.iload_n 1, 1) := by decide +kernel
theorem dX9_theft_74 : decode cX9_theft 74 = .ok (.iastore, 1) := by decide +kernel
theorem dX9_theft_75 : decode cX9_theft 75 = .ok (.aload_n 0, 1) := by decide +kernel
theorem dX9_theft_76 : decode cX9_theft 76 = .ok (.getfield 131, 3) := by decide +kernel
theorem dX9_theft_79 : decode cX9_theft 79 = .ok (.aload_n 0, 1) := by decide +kernel
theorem dX9_theft_80 : decode cX9_theft 80 = .ok (.getfield 323, 3) := by decide +kernel
theorem dX9_theft_83 : decode cX9_theft 83 = .ok (.iload_n 2, 1) := by decide +kernel
theorem dX9_theft_84 : decode cX9_theft 84 = .ok (.iastore, 1) := by decide +kernel
theorem dX9_theft_85 : decode cX9_theft 85 = .ok (.aload_n 0, 1) := by decide +kernel
theorem dX9_theft_86 : decode cX9_theft 86 = .ok (.dup, 1) := by decide +kernel
theorem dX9_theft_87 : decode cX9_theft 87 = .ok (.getfield 323, 3) := by decide +kernel
theorem dX9_theft_90 : decode cX9_theft 90 = .ok (.iconst 1, 1) := by decide +kernel
theorem dX9_theft_91 : decode cX9_theft 91 = .ok (.iadd, 1) := by decide +kernel
theorem dX9_theft_92 : decode cX9_theft 92 = .ok (.putfield 323, 3) := by decide +kernel
theorem dX9_theft_95 : decode cX9_theft 95 = .ok (.aload_n 0, 1) := by decide +kernel
theorem dX9_theft_96 : decode cX9_theft 96 = .ok (.getfield 323, 3) := by decide +kernel
theorem dX9_theft_99 : decode cX9_theft 99 = .ok (.ireturn, 1) := by decide +kernel
theorem dX9_bits_0 : decode cX9_bits 0 = .ok (.iconst 0, 1) := by decide +kernel
theorem dX9_bits_1 : decode cX9_bits 1 = .ok (.istore_n 1, 1) := by decide +kernel
theorem dX9_bits_2 : decode cX9_bits 2 = .ok (.iconst 0, 1) := by decide +kernel
theorem dX9_bits_3 : decode cX9_bits 3 = .ok (.istore_n 2, 1) := by decide +kernel
theorem dX9_bits_4 : decode cX9_bits 4 = .ok (.iload_n 2, 1) := by decide +kernel
theorem dX9_bits_5 : decode cX9_bits 5 = .ok (.bipush 8, 2) := by decide +kernel
theorem dX9_bits_7 : decode cX9_bits 7 = .ok (.if_icmp .ge 17, 3) := by decide +kernel
theorem dX9_bits_10 : decode cX9_bits 10 = .ok (.iload_n 1, 1) := by decide +kernel
theorem dX9_bits_11 : decode cX9_bits 11 = .ok (.iload_n 0, 1) := by decide +kernel
theorem dX9_bits_12 : decode cX9_bits 12 = .ok (.iload_n 2, 1) := by decide +kernel
theorem dX9_bits_13 : decode cX9_bits 13 = .ok (.ishr, 1) := by decide +kernel
theorem dX9_bits_14 : decode cX9_bits 14 = .ok (.iconst 1, 1) := by decide +kernel
theorem dX9_bits_15 : decode cX9_bits 15 = .ok (.iand, 1) := by decide +kernel
theorem dX9_bits_16 : decode cX9_bits 16 = .ok (.iadd, 1) := by decide +kernel
theorem dX9_bits_17 : decode cX9_bits 17 = .ok (.istore_n 1, 1) := by decide +kernel
theorem dX9_bits_18 : decode cX9_bits 18 = .ok (.iinc 2 1, 3) := by decide +kernel
theorem dX9_bits_21 : decode cX9_bits 21 = .ok (.goto (-17), 3) := by decide +kernel
theorem dX9_bits_24 : decode cX9_bits 24 = .ok (.iload_n 1, 1) := by decide +kernel
theorem dX9_bits_25 : decode cX9_bits 25 = .ok (.ireturn, 1) := by decide +kernel
theorem dX9_thieves_0 : decode cX9_thieves 0 = .ok (.aload_n 0, 1) := by decide +kernel
theorem dX9_thieves_1 : decode cX9_thieves 1 = .ok (.iconst 0, 1) := by decide +kernel
theorem dX9_thieves_2 : decode cX9_thieves 2 = .ok (.putfield 170, 3) := by decide +kernel
theorem dX9_thieves_5 : decode cX9_thieves 5 = .ok (.aload_n 0, 1) := by decide +kernel
theorem dX9_thieves_6 : decode cX9_thieves 6 = .ok (.iload_n 1, 1) := by decide +kernel
theorem dX9_thieves_7 : decode cX9_thieves 7 = .ok (.iconst 0, 1) := by decide +kernel
theorem dX9_thieves_8 : decode cX9_thieves 8 = .ok (.iconst 4, 1) := by decide +kernel
theorem dX9_thieves_9 : decode cX9_thieves 9 = .ok (.invokestatic 336, 3) := by decide +kernel
theorem dX9_thieves_12 : decode cX9_thieves 12 = .ok (.iconst 1, 1) := by decide +kernel
theorem dX9_thieves_13 : decode cX9_thieves 13 = .ok (.invokevirtual 291, 3) := by decide +kernel
theorem dX9_thieves_16 : decode cX9_thieves 16 = .ok (.ifCond .ne 5, 3) := by decide +kernel
theorem dX9_thieves_19 : decode cX9_thieves 19 = .ok (.iconst 0, 1) := by decide +kernel
theorem dX9_thieves_20 : decode cX9_thieves 20 = .ok (.ireturn, 1) := by decide +kernel
theorem dX9_thieves_21 : decode cX9_thieves 21 = .ok (.iconst 0, 1) := by decide +kernel
theorem dX9_thieves_22 : decode cX9_thieves 22 = .ok (.istore_n 2, 1) := by decide +kernel
theorem dX9_thieves_23 : decode cX9_thieves 23 = .ok (.iconst 1, 1) := by decide +kernel
theorem dX9_thieves_24 : decode cX9_thieves 24 = .ok (.aload_n 0, 1) := by decide +kernel
theorem dX9_thieves_25 : decode cX9_thieves 25 = .ok (.getfield 298, 3) := by decide +kernel
theorem dX9_thieves_28 : decode cX9_thieves 28 = .ok (.ishl, 1) := by decide +kernel
theorem dX9_thieves_29 : decode cX9_thieves 29 = .ok (.iconst 1, 1) := by decide +kernel
theorem dX9_thieves_30 : decode cX9_thieves 30 = .ok (.isub, 1) := by decide +kernel
theorem dX9_thieves_31 : decode cX9_thieves 31 = .ok (.istore_n 3, 1) := by decide +kernel
theorem dX9_thieves_32 : decode cX9_thieves 32 = .ok (.iconst 0, 1) := by decide +kernel
theorem dX9_thieves_33 : decode cX9_thieves 33 = .ok (.istore 4, 2) := by decide +kernel
theorem dX9_thieves_35 : decode cX9_thieves 35 = .ok (.iconst (-1), 1) := by decide +kernel
theorem dX9_thieves_36 : decode cX9_thieves 36 = .ok (.istore 5, 2) := by decide +kernel
theorem dX9_thieves_38 : decode cX9_thieves 38 = .ok (.iconst 0, 1) := by decide +kernel
theorem dX9_thieves_39 : decode cX9_thieves 39 = .ok (.istore 6, 2) := by decide +kernel
theorem dX9_thieves_41 : decode cX9_thieves 41 = .ok (.iload 6, 2) := by decide +kernel
theorem dX9_thieves_43 : decode cX9_thieves 43 = .ok (.bipush 8, 2) := by decide +kernel
theorem dX9_thieves_45 : decode cX9_thieves 45 = .ok (.if_icmp .ge 17, 3) := by decide +kernel
theorem dX9_thieves_48 : decode cX9_thieves 48 = .ok (.aload_n 0, 1) := by decide +kernel
theorem dX9_thieves_49 : decode cX9_thieves 49 = .ok (.getfield 134, 3) := by decide +kernel
theorem dX9_thieves_52 : decode cX9_thieves 52 = .ok (.iload 6, 2) := by decide +kernel
theorem dX9_thieves_54 : decode cX9_thieves 54 = .ok (.iconst 0, 1) := by decide +kernel
theorem dX9_thieves_55 : decode cX9_thieves 55 = .ok (.iastore, 1) := by decide +kernel
theorem dX9_thieves_56 : decode cX9_thieves 56 = .ok (.iinc 6 1, 3) := by decide +kernel
theorem dX9_thieves_59 : decode cX9_thieves 59 = .ok (.goto (-18), 3) := by decide +kernel
theorem dX9_thieves_62 : decode cX9_thieves 62 = .ok (.iconst 0, 1) := by decide +kernel
theorem dX9_thieves_63 : decode cX9_thieves 63 = .ok (.istore 6, 2) := by decide +kernel
theorem dX9_thieves_65 : decode cX9_thieves 65 = .ok (.iload 6, 2) := by decide +kernel
theorem dX9_thieves_67 : decode cX9_thieves 67 = .ok (.iconst 1, 1) := by decide +kernel
theorem dX9_thieves_68 : decode cX9_thieves 68 = .ok (.aload_n 0, 1) := by decide +kernel
theorem dX9_thieves_69 : decode cX9_thieves 69 = .ok (.getfield 298, 3) := by decide +kernel
theorem dX9_thieves_72 : decode cX9_thieves 72 = .ok (.ishl, 1) := by decide +kernel
theorem dX9_thieves_73 : decode cX9_thieves 73 = .ok (.if_icmp .ge 146, 3) := by decide +kernel
theorem dX9_thieves_76 : decode cX9_thieves 76 = .ok (.iconst 1, 1) := by decide +kernel
theorem dX9_thieves_77 : decode cX9_thieves 77 = .ok (.istore 7, 2) := by decide +kernel
theorem dX9_thieves_79 : decode cX9_thieves 79 = .ok (.iconst 0, 1) := by decide +kernel
theorem dX9_thieves_80 : decode cX9_thieves 80 = .ok (.istore 8, 2) := by decide +kernel
theorem dX9_thieves_82 : decode cX9_thieves 82 = .ok (.iload 8, 2) := by decide +kernel
theorem dX9_thieves_84 : decode cX9_thieves 84 = .ok (.aload_n 0, 1) := by decide +kernel
theorem dX9_thieves_85 : decode cX9_thieves 85 = .ok (.getfield 323, 3) := by decide +kernel
theorem dX9_thieves_88 : decode cX9_thieves 88 = .ok (.if_icmp .ge 44, 3) := by decide +kernel
theorem dX9_thieves_91 : decode cX9_thieves 91 = .ok (.iload 7, 2) := by decide +kernel
theorem dX9_thieves_93 : decode cX9_thieves 93 = .ok (.ifCond .eq 30, 3) := by decide +kernel
theorem dX9_thieves_96 : decode cX9_thieves 96 = .ok (.iload 6, 2) := by decide +kernel
theorem dX9_thieves_98 : decode cX9_thieves 98 = .ok (.aload_n 0, 1) := by decide +kernel
theorem dX9_thieves_99 : decode cX9_thieves 99 = .ok (.getfield 128, 3) := by decide +kernel
theorem dX9_thieves_102 : decode cX9_thieves 102 = .ok (.iload 8, 2) := by decide +kernel
theorem dX9_thieves_104 : decode cX9_thieves 104 = .ok (.iaload, 1) := by decide +kernel
theorem dX9_thieves_105 : decode cX9_thieves 105 = .ok (.iand, 1) := by decide +kernel
theorem dX9_thieves_106 : decode cX9_thieves 106 = .ok (.invokestatic 461, 3) := by decide +kernel
theorem dX9_thieves_109 : decode cX9_thieves 109 = .ok (.aload_n 0, 1) := by decide +kernel
theorem dX9_thieves_110 : decode cX9_thieves 110 = .ok (.getfield 131, 3) := by decide +kernel
theorem dX9_thieves_113 : decode cX9_thieves 113 = .ok (.iload 8, 2) := by decide +kernel
theorem dX9_thieves_115 : decode cX9_thieves 115 = .ok (.iaload, 1) := by decide +kernel
theorem dX9_thieves_116 : decode cX9_thieves 116 = .ok (.if_icmp .ne 7, 3) := by decide +kernel
theorem dX9_thieves_119 : decode cX9_thieves 119 = .ok (.iconst 1, 1) := by decide +kernel
theorem dX9_thieves_120 : decode cX9_thieves 120 = .ok (.goto 4, 3) := by decide +kernel
theorem dX9_thieves_123 : decode cX9_thieves 123 = .ok (.iconst 0, 1) := by decide +kernel
theorem dX9_thieves_124 : decode cX9_thieves 124 = .ok (.istore 7, 2) := by decide +kernel
theorem dX9_thieves_126 : decode cX9_thieves 126 = .ok (.iinc 8 1, 3) := by decide +kernel
theorem dX9_thieves_129 : decode cX9_thieves 129 = .ok (.goto (-47), 3) := by decide +kernel
theorem dX9_thieves_132 : decode cX9_thieves 132 = .ok (.iload 7, 2) := by decide +kernel
theorem dX9_thieves_134 : decode cX9_thieves 134 = .ok (.ifCond .ne 6, 3) := by decide +kernel
theorem dX9_thieves_137 : decode cX9_thieves 137 = .ok (.goto 76, 3) := by decide +kernel
theorem dX9_thieves_140 : decode cX9_thieves 140 = .ok (.iinc 2 1, 3) := by decide +kernel
theorem dX9_thieves_143 : decode cX9_thieves 143 = .ok (.iload_n 3, 1) := by decide +kernel
theorem dX9_thieves_144 : decode cX9_thieves 144 = .ok (.iload 6, 2) := by decide +kernel
theorem dX9_thieves_146 : decode cX9_thieves 146 = .ok (.iand, 1) := by decide +kernel
theorem dX9_thieves_147 : decode cX9_thieves 147 = .ok (.istore_n 3, 1) := by decide +kernel
theorem dX9_thieves_148 : decode cX9_thieves 148 = .ok (.iload 4, 2) := by decide +kernel
theorem dX9_thieves_150 : decode cX9_thieves 150 = .ok (.iload 6, 2) := by decide +kernel
theorem dX9_thieves_152 : decode cX9_thieves 152 = .ok (.ior, 1) := by decide +kernel
theorem dX9_thieves_153 : decode cX9_thieves 153 = .ok (.istore 4, 2) := by decide +kernel
theorem dX9_thieves_155 : decode cX9_thieves 155 = .ok (.iload 5, 2) := by decide +kernel
theorem dX9_thieves_157 : decode cX9_thieves 157 = .ok (.iconst (-1), 1) := by decide +kernel
theorem dX9_thieves_158 : decode cX9_thieves 158 = .ok (.if_icmp .eq 16, 3) := by decide +kernel
theorem dX9_thieves_161 : decode cX9_thieves 161 = .ok (.iload 6, 2) := by decide +kernel
theorem dX9_thieves_163 : decode cX9_thieves 163 = .ok (.invokestatic 461, 3) := by decide +kernel
theorem dX9_thieves_166 : decode cX9_thieves 166 = .ok (.iload 5, 2) := by decide +kernel
theorem dX9_thieves_168 : decode cX9_thieves 168 = .ok (.invokestatic 461, 3) := by decide +kernel
theorem dX9_thieves_171 : decode cX9_thieves 171 = .ok (.if_icmp .ge 7, 3) := by decide +kernel
theorem dX9_thieves_174 : decode cX9_thieves 174 = .ok (.iload 6, 2) := by decide +kernel
theorem dX9_thieves_176 : decode cX9_thieves 176 = .ok (.istore 5, 2) := by decide +kernel
theorem dX9_thieves_178 : decode cX9_thieves 178 = .ok (.iconst 0, 1) := by decide +kernel
theorem dX9_thieves_179 : decode cX9_thieves 179 = .ok (.istore 8, 2) := by decide +kernel
theorem dX9_thieves_181 : decode cX9_thieves 181 = .ok (.iload 8, 2) := by decide +kernel
theorem dX9_thieves_183 : decode cX9_thieves 183 = .ok (.aload_n 0, 1) := by decide +kernel
theorem dX9_thieves_184 : decode cX9_thieves 184 = .ok (.getfield 298, 3) := by decide +kernel
theorem dX9_thieves_187 : decode cX9_thieves 187 = .ok (.if_icmp .ge 26, 3) := by decide +kernel
theorem dX9_thieves_190 : decode cX9_thieves 190 = .ok (.aload_n 0, 1) := by decide +kernel
theorem dX9_thieves_191 : decode cX9_thieves 191 = .ok (.getfield 134, 3) := by decide +kernel
theorem dX9_thieves_194 : decode cX9_thieves 194 = .ok (.iload 8, 2) := by decide +kernel
theorem dX9_thieves_196 : decode cX9_thieves 196 = .ok (.dup2, 1) := by decide +kernel
theorem dX9_thieves_197 : decode cX9_thieves 197 = .ok (.iaload, 1) := by decide +kernel
theorem dX9_thieves_198 : decode cX9_thieves 198 = .ok (.iload 6, 2) := by decide +kernel
theorem dX9_thieves_200 : decode cX9_thieves 200 = .ok (.iload 8, 2) := by decide +kernel
theorem dX9_thieves_202 : decode cX9_thieves 202 = .ok (.ishr, 1) := by decide +kernel
theorem dX9_thieves_203 : decode cX9_thieves 203 = .ok (.iconst 1, 1) := by decide +kernel
theorem dX9_thieves_204 : decode cX9_thieves 204 = .ok (.iand, 1) := by decide +kernel
theorem dX9_thieves_205 : decode cX9_thieves 205 = .ok (.iadd, 1) := by decide +kernel
theorem dX9_thieves_206 : decode cX9_thieves 206 = .ok (.iastore, 1) := by decide +kernel
theorem dX9_thieves_207 : decode cX9_thieves 207 = .ok (.iinc 8 1, 3) := by decide +kernel
theorem dX9_thieves_210 : decode cX9_thieves 210 = .ok (.goto (-29), 3) := by decide +kernel
theorem dX9_thieves_213 : decode cX9_thieves 213 = .ok (.iinc 6 1, 3) := by decide +kernel
theorem dX9_thieves_216 : decode cX9_thieves 216 = .ok (.goto (-151), 3) := by decide +kernel
theorem dX9_thieves_219 : decode cX9_thieves 219 = .ok (.iload_n 1, 1) := by decide +kernel
theorem dX9_thieves_220 : decode cX9_thieves 220 = .ok (.tableswitch 50 0 3 #[32, 42, 45, 47], 32) := by decide +kernel
theorem dX9_thieves_252 : decode cX9_thieves 252 = .ok (.iload_n 2, 1) := by decide +kernel
theorem dX9_thieves_253 : decode cX9_thieves 253 = .ok (.ifCond .ne 7, 3) := by decide +kernel
theorem dX9_thieves_256 : decode cX9_thieves 256 = .ok (.iconst 0, 1) := by decide +kernel
theorem dX9_thieves_257 : decode cX9_thieves 257 = .ok (.goto 4, 3) := by decide +kernel
theorem dX9_thieves_260 : decode cX9_thieves 260 = .ok (.iload_n 3, 1) := by decide +kernel
theorem dX9_thieves_261 : decode cX9_thieves 261 = .ok (.ireturn, 1) := by decide +kernel
theorem dX9_thieves_262 : decode cX9_thieves 262 = .ok (.iload 4, 2) := by decide +kernel
theorem dX9_thieves_264 : decode cX9_thieves 264 = .ok (.ireturn, 1) := by decide +kernel
theorem dX9_thieves_265 : decode cX9_thieves 265 = .ok (.iload_n 2, 1) := by decide +kernel
theorem dX9_thieves_266 : decode cX9_thieves 266 = .ok (.ireturn, 1) := by decide +kernel
theorem dX9_thieves_267 : decode cX9_thieves 267 = .ok (.iload 5, 2) := by decide +kernel
theorem dX9_thieves_269 : decode cX9_thieves 269 = .ok (.ireturn, 1) := by decide +kernel
theorem dX9_thieves_270 : decode cX9_thieves 270 = .ok (.iload_n 2, 1) := by decide +kernel
theorem dX9_thieves_271 : decode cX9_thieves 271 = .ok (.ifCond .ne 7, 3) := by decide +kernel
theorem dX9_thieves_274 : decode cX9_thieves 274 = .ok (.iconst (-1), 1) := by decide +kernel
theorem dX9_thieves_275 : decode cX9_thieves 275 = .ok (.goto 8, 3) := by decide +kernel
theorem dX9_thieves_278 : decode cX9_thieves 278 = .ok (.aload_n 0, 1) := by decide +kernel
theorem dX9_thieves_279 : decode cX9_thieves 279 = .ok (.iload_n 2, 1) := by decide +kernel
theorem dX9_thieves_280 : decode cX9_thieves 280 = .ok (.invokevirtual 464, 3) := by decide +kernel
theorem dX9_thieves_283 : decode cX9_thieves 283 = .ok (.ireturn, 1) := by decide +kernel
theorem dX9_nearest_0 : decode cX9_nearest 0 = .ok (.iconst (-1), 1) := by decide +kernel
theorem dX9_nearest_1 : decode cX9_nearest 1 = .ok (.istore_n 2, 1) := by decide +kernel
theorem dX9_nearest_2 : decode cX9_nearest 2 = .ok (.iconst 0, 1) := by decide +kernel
theorem dX9_nearest_3 : decode cX9_nearest 3 = .ok (.istore_n 3, 1) := by decide +kernel
theorem dX9_nearest_4 : decode cX9_nearest 4 = .ok (.iconst 0, 1) := by decide +kernel
theorem dX9_nearest_5 : decode cX9_nearest 5 = .ok (.istore 4, 2) := by decide +kernel
theorem dX9_nearest_7 : decode cX9_nearest 7 = .ok (.iload 4, 2) := by decide +kernel
theorem dX9_nearest_9 : decode cX9_nearest 9 = .ok (.aload_n 0, 1) := by decide +kernel
theorem dX9_nearest_10 : decode cX9_nearest 10 = .ok (.getfield 298, 3) := by decide +kernel
theorem dX9_nearest_13 : decode cX9_nearest 13 = .ok (.if_icmp .ge 57, 3) := by decide +kernel
theorem dX9_nearest_16 : decode cX9_nearest 16 = .ok (.iconst 2, 1) := by decide +kernel
theorem dX9_nearest_17 : decode cX9_nearest 17 = .ok (.aload_n 0, 1) := by decide +kernel
theorem dX9_nearest_18 : decode cX9_nearest 18 = .ok (.getfield 134, 3) := by decide +kernel
theorem dX9_nearest_21 : decode cX9_nearest 21 = .ok (.iload 4, 2) := by decide +kernel
theorem dX9_nearest_23 : decode cX9_nearest 23 = .ok (.iaload, 1) := by decide +kernel
theorem dX9_nearest_24 : decode cX9_nearest 24 = .ok (.imul, 1) := by decide +kernel
theorem dX9_nearest_25 : decode cX9_nearest 25 = .ok (.iload_n 1, 1) := by decide +kernel
theorem dX9_nearest_26 : decode cX9_nearest 26 = .ok (.isub, 1) := by decide +kernel
theorem dX9_nearest_27 : decode cX9_nearest 27 = .ok (.istore 5, 2) := by decide +kernel
theorem dX9_nearest_29 : decode cX9_nearest 29 = .ok (.iload 5, 2) := by decide +kernel
theorem dX9_nearest_31 : decode cX9_nearest 31 = .ok (.ifCond .ge 9, 3) := by decide +kernel
theorem dX9_nearest_34 : decode cX9_nearest 34 = .ok (.iload 5, 2) := by decide +kernel
theorem dX9_nearest_36 : decode cX9_nearest 36 = .ok (.ineg, 1) := by decide +kernel
theorem dX9_nearest_37 : decode cX9_nearest 37 = .ok (.goto 5, 3) := by decide +kernel
theorem dX9_nearest_40 : decode cX9_nearest 40 = .ok (.iload 5, 2) := by decide +kernel
theorem dX9_nearest_42 : decode cX9_nearest 42 = .ok (.istore 5, 2) := by decide +kernel
theorem dX9_nearest_44 : decode cX9_nearest 44 = .ok (.iload_n 2, 1) := by decide +kernel
theorem dX9_nearest_45 : decode cX9_nearest 45 = .ok (.iconst (-1), 1) := by decide +kernel
theorem dX9_nearest_46 : decode cX9_nearest 46 = .ok (.if_icmp .eq 12, 3) := by decide +kernel
theorem dX9_nearest_49 : decode cX9_nearest 49 = .ok (.iload 5, 2) := by decide +kernel
theorem dX9_nearest_51 : decode cX9_nearest 51 = .ok (.iload_n 3, 1) := by decide +kernel
theorem dX9_nearest_52 : decode cX9_nearest 52 = .ok (.if_icmp .lt 6, 3) := by decide +kernel
theorem dX9_nearest_55 : decode cX9_nearest 55 = .ok (.goto 9, 3) := by decide +kernel
theorem dX9_nearest_58 : decode cX9_nearest 58 = .ok (.iload 4, 2) := by decide +kernel
theorem dX9_nearest_60 : decode cX9_nearest 60 = .ok (.istore_n 2, 1) := by decide +kernel
theorem dX9_nearest_61 : decode cX9_nearest 61 = .ok (.iload 5, 2) := by decide +kernel
theorem dX9_nearest_63 : decode cX9_nearest 63 = .ok (.istore_n 3, 1) := by decide +kernel
theorem dX9_nearest_64 : decode cX9_nearest 64 = .ok (.iinc 4 1, 3) := by decide +kernel
theorem dX9_nearest_67 : decode cX9_nearest 67 = .ok (.goto (-60), 3) := by decide +kernel
theorem dX9_nearest_70 : decode cX9_nearest 70 = .ok (.iload_n 2, 1) := by decide +kernel
theorem dX9_nearest_71 : decode cX9_nearest 71 = .ok (.ireturn, 1) := by decide +kernel
theorem dX9_luck_0 : decode cX9_luck 0 = .ok (.aload_n 0, 1) := by decide +kernel
theorem dX9_luck_1 : decode cX9_luck 1 = .ok (.iconst 0, 1) := by decide +kernel
theorem dX9_luck_2 : decode cX9_luck 2 = .ok (.putfield 170, 3) := by decide +kernel
theorem dX9_luck_5 : decode cX9_luck 5 = .ok (.aload_n 0, 1) := by decide +kernel
theorem dX9_luck_6 : decode cX9_luck 6 = .ok (.iload_n 1, 1) := by decide +kernel
theorem dX9_luck_7 : decode cX9_luck 7 = .ok (.iconst 0, 1) := by decide +kernel
theorem dX9_luck_8 : decode cX9_luck 8 = .ok (.bipush 30, 2) := by decide +kernel
theorem dX9_luck_10 : decode cX9_luck 10 = .ok (.invokestatic 336, 3) := by decide +kernel
theorem dX9_luck_13 : decode cX9_luck 13 = .ok (.ifCond .eq 27, 3) := by decide +kernel
theorem dX9_luck_16 : decode cX9_luck 16 = .ok (.iload_n 2, 1) := by decide +kernel
theorem dX9_luck_17 : decode cX9_luck 17 = .ok (.iconst 0, 1) := by decide +kernel
theorem dX9_luck_18 : decode cX9_luck 18 = .ok (.iload_n 1, 1) := by decide +kernel
theorem dX9_luck_19 : decode cX9_luck 19 = .ok (.invokestatic 336, 3) := by decide +kernel
theorem dX9_luck_22 : decode cX9_luck 22 = .ok (.ifCond .eq 18, 3) := by decide +kernel
theorem dX9_luck_25 : decode cX9_luck 25 = .ok (.iload_n 3, 1) := by decide +kernel
theorem dX9_luck_26 : decode cX9_luck 26 = .ok (.iconst 0, 1) := by decide +kernel
theorem dX9_luck_27 : decode cX9_luck 27 = .ok (.sipush 1000, 3) := by decide +kernel
theorem dX9_luck_30 : decode cX9_luck 30 = .ok (.invokestatic 336, 3) := by decide +kernel
theorem dX9_luck_33 : decode cX9_luck 33 = .ok (.ifCond .eq 7, 3) := by decide +kernel
theorem dX9_luck_36 : decode cX9_luck 36 = .ok (.iconst 1, 1) := by decide +kernel
theorem dX9_luck_37 : decode cX9_luck 37 = .ok (.goto 4, 3) := by decide +kernel
theorem dX9_luck_40 : decode cX9_luck 40 = .ok (.iconst 0, 1) := by decide +kernel
theorem dX9_luck_41 : decode cX9_luck 41 = .ok (.iconst 1, 1) := by decide +kernel
theorem dX9_luck_42 : decode cX9_luck 42 = .ok (.invokevirtual 291, 3) := by decide +kernel
theorem dX9_luck_45 : decode cX9_luck 45 = .ok (.ifCond .ne 5, 3) := by decide +kernel
theorem dX9_luck_48 : decode cX9_luck 48 = .ok (.iconst 0, 1) := by decide +kernel
theorem dX9_luck_49 : decode cX9_luck 49 = .ok (.ireturn, 1) := by decide +kernel
theorem dX9_luck_50 : decode cX9_luck 50 = .ok (.iconst 0, 1) := by decide +kernel
theorem dX9_luck_51 : decode cX9_luck 51 = .ok (.istore 4, 2) := by decide +kernel
theorem dX9_luck_53 : decode cX9_luck 53 = .ok (.iload 4, 2) := by decide +kernel
theorem dX9_luck_55 : decode cX9_luck 55 = .ok (.bipush 32, 2) := by decide +kernel
theorem dX9_luck_57 : decode cX9_luck 57 = .ok (.if_icmp .ge 28, 3) := by decide +kernel
theorem dX9_luck_60 : decode cX9_luck 60 = .ok (.aload_n 0, 1) := by decide +kernel
theorem dX9_luck_61 : decode cX9_luck 61 = .ok (.getfield 137, 3) := by decide +kernel
theorem dX9_luck_64 : decode cX9_luck 64 = .ok (.iload 4, 2) := by decide +kernel
theorem dX9_luck_66 : decode cX9_luck 66 = .ok (.iload 4, 2) := by decide +kernel
theorem dX9_luck_68 : decode cX9_luck 68 = .ok (.ifCond .ne 9, 3) := by decide +kernel
theorem dX9_luck_71 : decode cX9_luck 71 = .ok (.ldc2_w 372, 3) := by decide +kernel
theorem dX9_luck_74 : decode cX9_luck 74 = .ok (.goto 4, 3) := by decide +kernel
theorem dX9_luck_77 : decode cX9_luck 77 = .ok (.lconst 0, 1) := by decide +kernel
theorem dX9_luck_78 : decode cX9_luck 78 = .ok (.lastore, 1) := by decide +kernel
theorem dX9_luck_79 : decode cX9_luck 79 = .ok (.iinc 4 1, 3) := by decide +kernel
theorem dX9_luck_82 : decode cX9_luck 82 = .ok (.goto (-29), 3) := by decide +kernel
theorem dX9_luck_85 : decode cX9_luck 85 = .ok (.iconst 0, 1) := by decide +kernel
theorem dX9_luck_86 : decode cX9_luck 86 = .ok (.istore 4, 2) := by decide +kernel
theorem dX9_luck_88 : decode cX9_luck 88 = .ok (.iload 4, 2) := by decide +kernel
theorem dX9_luck_90 : decode cX9_luck 90 = .ok (.iload_n 1, 1) := by decide +kernel
theorem dX9_luck_91 : decode cX9_luck 91 = .ok (.if_icmp .ge 73, 3) := by decide +kernel
theorem dX9_luck_94 : decode cX9_luck 94 = .ok (.iload 4, 2) := by decide +kernel
theorem dX9_luck_96 : decode cX9_luck 96 = .ok (.iconst 1, 1) := by decide +kernel
theorem dX9_luck_97 : decode cX9_luck 97 = .ok (.iadd, 1) := by decide +kernel
theorem dX9_luck_98 : decode cX9_luck 98 = .ok (.istore 5, 2) := by decide +kernel
theorem dX9_luck_100 : decode cX9_luck 100 = .ok (.iload 5, 2) := by decide +kernel
theorem dX9_luck_102 : decode cX9_luck 102 = .ok (.ifCond .lt 56, 3) := by decide +kernel
theorem dX9_luck_105 : decode cX9_luck 105 = .ok (.aload_n 0, 1) := by decide +kernel
theorem dX9_luck_106 : decode cX9_luck 106 = .ok (.getfield 137, 3) := by decide +kernel
theorem dX9_luck_109 : decode cX9_luck 109 = .ok (.iload 5, 2) := by decide +kernel
theorem dX9_luck_111 : decode cX9_luck 111 = .ok (.aload_n 0, 1) := by decide +kernel
theorem dX9_luck_112 : decode cX9_luck 112 = .ok (.getfield 137, 3) := by decide +kernel
theorem dX9_luck_115 : decode cX9_luck 115 = .ok (.iload 5, 2) := by decide +kernel
theorem dX9_luck_117 : decode cX9_luck 117 = .ok (.laload, 1) := by decide +kernel
theorem dX9_luck_118 : decode cX9_luck 118 = .ok (.sipush 1000, 3) := by decide +kernel
theorem dX9_luck_121 : decode cX9_luck 121 = .ok (.iload_n 3, 1) := by decide +kernel
theorem dX9_luck_122 : decode cX9_luck 122 = .ok (.isub, 1) := by decide +kernel
theorem dX9_luck_123 : decode cX9_luck 123 = .ok (.i2l, 1) := by decide +kernel
theorem dX9_luck_124 : decode cX9_luck 124 = .ok (.lmul, 1) := by decide +kernel
theorem dX9_luck_125 : decode cX9_luck 125 = .ok (.iload 5, 2) := by decide +kernel
theorem dX9_luck_127 : decode cX9_luck 127 = .ok (.ifCond .ne 7, 3) := by decide +kernel
theorem dX9_luck_130 : decode cX9_luck 130 = .ok (.lconst 0, 1) := by decide +kernel
theorem dX9_luck_131 : decode cX9_luck 131 = .ok (.goto 15, 3) := by decide +kernel
theorem dX9_luck_134 : decode cX9_luck 134 = .ok (.aload_n 0, 1) := by decide +kernel
theorem dX9_luck_135 : decode cX9_luck 135 = .ok (.getfield 137, 3) := by decide +kernel
theorem dX9_luck_138 : decode cX9_luck 138 = .ok (.iload 5, 2) := by decide +kernel
theorem dX9_luck_140 : decode cX9_luck 140 = .ok (.iconst 1, 1) := by decide +kernel
theorem dX9_luck_141 : decode cX9_luck 141 = .ok (.isub, 1) := by decide +kernel
theorem dX9_luck_142 : decode cX9_luck 142 = .ok (.laload, 1) := by decide +kernel
theorem dX9_luck_143 : decode cX9_luck 143 = .ok (.iload_n 3, 1) := by decide +kernel
theorem dX9_luck_144 : decode cX9_luck 144 = .ok (.i2l, 1) := by decide +kernel
theorem dX9_luck_145 : decode cX9_luck 145 = .ok (.lmul, 1) := by decide +kernel
theorem dX9_luck_146 : decode cX9_luck 146 = .ok (.ladd, 1) := by decide +kernel
theorem dX9_luck_147 : decode cX9_luck 147 = .ok (.ldc2_w 370, 3) := by decide +kernel
theorem dX9_luck_150 : decode cX9_luck 150 = .ok (.ldiv, 1) := by decide +kernel
theorem dX9_luck_151 : decode cX9_luck 151 = .ok (.lastore, 1) := by decide +kernel
theorem dX9_luck_152 : decode cX9_luck 152 = .ok (.iinc 5 (-1), 3) := by decide +kernel
theorem dX9_luck_155 : decode cX9_luck 155 = .ok (.goto (-55), 3) := by decide +kernel
theorem dX9_luck_158 : decode cX9_luck 158 = .ok (.iinc 4 1, 3) := by decide +kernel
theorem dX9_luck_161 : decode cX9_luck 161 = .ok (.goto (-73), 3) := by decide +kernel
theorem dX9_luck_164 : decode cX9_luck 164 = .ok (.lconst 0, 1) := by decide +kernel
theorem dX9_luck_165 : decode cX9_luck 165 = .ok (.lstore 4, 2) := by decide +kernel
theorem dX9_luck_167 : decode cX9_luck 167 = .ok (.iload_n 2, 1) := by decide +kernel
theorem dX9_luck_168 : decode cX9_luck 168 = .ok (.istore 6, 2) := by decide +kernel
theorem dX9_luck_170 : decode cX9_luck 170 = .ok (.iload 6, 2) := by decide +kernel
theorem dX9_luck_172 : decode cX9_luck 172 = .ok (.iload_n 1, 1) := by decide +kernel
theorem dX9_luck_173 : decode cX9_luck 173 = .ok (.if_icmp .gt 21, 3) := by decide +kernel
theorem dX9_luck_176 : decode cX9_luck 176 = .ok (.lload 4, 2) := by decide +kernel
theorem dX9_luck_178 : decode cX9_luck 178 = .ok (.aload_n 0, 1) := by decide +kernel
theorem dX9_luck_179 : decode cX9_luck 179 = .ok (.getfield 137, 3) := by decide +kernel
theorem dX9_luck_182 : decode cX9_luck 182 = .ok (.iload 6, 2) := by decide +kernel
theorem dX9_luck_184 : decode cX9_luck 184 = .ok (.laload, 1) := by decide +kernel
theorem dX9_luck_185 : decode cX9_luck 185 = .ok (.ladd, 1) := by decide +kernel
theorem dX9_luck_186 : decode cX9_luck 186 = .ok (.lstore 4, 2) := by decide +kernel
theorem dX9_luck_188 : decode cX9_luck 188 = .ok (.iinc 6 1, 3) := by decide +kernel
theorem dX9_luck_191 : decode cX9_luck 191 = .ok (.goto (-21), 3) := by decide +kernel
theorem dX9_luck_194 : decode cX9_luck 194 = .ok (.lload 4, 2) := by decide +kernel
theorem dX9_luck_196 : decode cX9_luck 196 = .ok (.l2i, 1) := by decide +kernel
theorem dX9_luck_197 : decode cX9_luck 197 = .ok (.ireturn, 1) := by decide +kernel
theorem dX9_begin_0 : decode cX9_begin 0 = .ok (.aload_n 0, 1) := by decide +kernel
theorem dX9_begin_1 : decode cX9_begin 1 = .ok (.iconst 0, 1) := by decide +kernel
theorem dX9_begin_2 : decode cX9_begin 2 = .ok (.putfield 170, 3) := by decide +kernel
theorem dX9_begin_5 : decode cX9_begin 5 = .ok (.aload_n 0, 1) := by decide +kernel
theorem dX9_begin_6 : decode cX9_begin 6 = .ok (.iload_n 2, 1) := by decide +kernel
theorem dX9_begin_7 : decode cX9_begin 7 = .ok (.iconst 0, 1) := by decide +kernel
theorem dX9_begin_8 : decode cX9_begin 8 = .ok (.bipush 20, 2) := by decide +kernel
theorem dX9_begin_10 : decode cX9_begin 10 = .ok (.invokestatic 336, 3) := by decide +kernel
theorem dX9_begin_13 : decode cX9_begin 13 = .ok (.ifCond .eq 14, 3) := by decide +kernel
theorem dX9_begin_16 : decode cX9_begin 16 = .ok (.aload_n 0, 1) := by decide +kernel
theorem dX9_begin_17 : decode cX9_begin 17 = .ok (.getfield 298, 3) := by decide +kernel
theorem dX9_begin_20 : decode cX9_begin 20 = .ok (.ifCond .le 7, 3) := by decide +kernel
theorem dX9_begin_23 : decode cX9_begin 23 = .ok (.iconst 1, 1) := by decide +kernel
theorem dX9_begin_24 : decode cX9_begin 24 = .ok (.goto 4, 3) := by decide +kernel
theorem dX9_begin_27 : decode cX9_begin 27 = .ok (.iconst 0, 1) := by decide +kernel
theorem dX9_begin_28 : decode cX9_begin 28 = .ok (.iconst 1, 1) := by decide +kernel
theorem dX9_begin_29 : decode cX9_begin 29 = .ok (.invokevirtual 291, 3) := by decide +kernel
theorem dX9_begin_32 : decode cX9_begin 32 = .ok (.ifCond .ne 4, 3) := by decide +kernel
theorem dX9_begin_35 : decode cX9_begin 35 = .ok (.return_, 1) := by decide +kernel
theorem dX9_begin_36 : decode cX9_begin 36 = .ok (.aload_n 0, 1) := by decide +kernel
theorem dX9_begin_37 : decode cX9_begin 37 = .ok (.iconst 1, 1) := by decide +kernel
theorem dX9_begin_38 : decode cX9_begin 38 = .ok (.putfield 329, 3) := by decide +kernel
theorem dX9_begin_41 : decode cX9_begin 41 = .ok (.aload_n 0, 1) := by decide +kernel
theorem dX9_begin_42 : decode cX9_begin 42 = .ok (.getfield 140, 3) := by decide +kernel
theorem dX9_begin_45 : decode cX9_begin 45 = .ok (.iconst 0, 1) := by decide +kernel
theorem dX9_begin_46 : decode cX9_begin 46 = .ok (.iload_n 1, 1) := by decide +kernel
theorem dX9_begin_47 : decode cX9_begin 47 = .ok (.iastore, 1) := by decide +kernel
theorem dX9_begin_48 : decode cX9_begin 48 = .ok (.aload_n 0, 1) := by decide +kernel
theorem dX9_begin_49 : decode cX9_begin 49 = .ok (.getfield 140, 3) := by decide +kernel
theorem dX9_begin_52 : decode cX9_begin 52 = .ok (.iconst 1, 1) := by decide +kernel
theorem dX9_begin_53 : decode cX9_begin 53 = .ok (.iload_n 2, 1) := by decide +kernel
theorem dX9_begin_54 : decode cX9_begin 54 = .ok (.iastore, 1) := by decide +kernel
theorem dX9_begin_55 : decode cX9_begin 55 = .ok (.aload_n 0, 1) := by decide +kernel
theorem dX9_begin_56 : decode cX9_begin 56 = .ok (.getfield 140, 3) := by decide +kernel
theorem dX9_begin_59 : decode cX9_begin 59 = .ok (.iconst 2, 1) := by decide +kernel
theorem dX9_begin_60 : decode cX9_begin 60 = .ok (.iconst 0, 1) := by decide +kernel
theorem dX9_begin_61 : decode cX9_begin 61 = .ok (.iastore, 1) := by decide +kernel
theorem dX9_begin_62 : decode cX9_begin 62 = .ok (.iconst 0, 1) := by decide +kernel
theorem dX9_begin_63 : decode cX9_begin 63 = .ok (.istore_n 3, 1) := by decide +kernel
theorem dX9_begin_64 : decode cX9_begin 64 = .ok (.iload_n 3, 1) := by decide +kernel
theorem dX9_begin_65 : decode cX9_begin 65 = .ok (.bipush 8, 2) := by decide +kernel
theorem dX9_begin_67 : decode cX9_begin 67 = .ok (.if_icmp .ge 16, 3) := by decide +kernel
theorem dX9_begin_70 : decode cX9_begin 70 = .ok (.aload_n 0, 1) := by decide +kernel
theorem dX9_begin_71 : decode cX9_begin 71 = .ok (.getfield 143, 3) := by decide +kernel
theorem dX9_begin_74 : decode cX9_begin 74 = .ok (.iload_n 3, 1) := by decide +kernel
theorem dX9_begin_75 : decode cX9_begin 75 = .ok (.iconst 0, 1) := by decide +kernel
theorem dX9_begin_76 : decode cX9_begin 76 = .ok (.iastore, 1) := by decide +kernel
theorem dX9_begin_77 : decode cX9_begin 77 = .ok (.iinc 3 1, 3) := by decide +kernel
theorem dX9_begin_80 : decode cX9_begin 80 = .ok (.goto (-16), 3) := by decide +kernel
theorem dX9_begin_83 : decode cX9_begin 83 = .ok (.return_, 1) := by decide +kernel
theorem dX9_draw_0 : decode cX9_draw 0 = .ok (.aload_n 0, 1) := by decide +kernel
theorem dX9_draw_1 : decode cX9_draw 1 = .ok (.getfield 140, 3) := by decide +kernel
theorem dX9_draw_4 : decode cX9_draw 4 = .ok (.iconst 0, 1) := by decide +kernel
theorem dX9_draw_5 : decode cX9_draw 5 = .ok (.aload_n 0, 1) := by decide +kernel
theorem dX9_draw_6 : decode cX9_draw 6 = .ok (.getfield 140, 3) := by decide +kernel
theorem dX9_draw_9 : decode cX9_draw 9 = .ok (.iconst 0, 1) := by decide +kernel
theorem dX9_draw_10 : decode cX9_draw 10 = .ok (.iaload, 1) := by decide +kernel
theorem dX9_draw_11 : decode cX9_draw 11 = .ok (.ldc_w 467, 3) := by decide +kernel
theorem dX9_draw_14 : decode cX9_draw 14 = .ok (.imul, 1) := by decide +kernel
theorem dX9_draw_15 : decode cX9_draw 15 = .ok (.sipush 12345, 3) := by decide +kernel
theorem dX9_draw_18 : decode cX9_draw 18 = .ok (.iadd, 1) := by decide +kernel
theorem dX9_draw_19 : decode cX9_draw 19 = .ok (.iastore, 1) := by decide +kernel
theorem dX9_draw_20 : decode cX9_draw 20 = .ok (.aload_n 0, 1) := by decide +kernel
theorem dX9_draw_21 : decode cX9_draw 21 = .ok (.getfield 140, 3) := by decide +kernel
theorem dX9_draw_24 : decode cX9_draw 24 = .ok (.iconst 0, 1) := by decide +kernel
theorem dX9_draw_25 : decode cX9_draw 25 = .ok (.iaload, 1) := by decide +kernel
theorem dX9_draw_26 : decode cX9_draw 26 = .ok (.bipush 16, 2) := by decide +kernel
theorem dX9_draw_28 : decode cX9_draw 28 = .ok (.ishr, 1) := by decide +kernel
theorem dX9_draw_29 : decode cX9_draw 29 = .ok (.sipush 32767, 3) := by decide +kernel
theorem dX9_draw_32 : decode cX9_draw 32 = .ok (.iand, 1) := by decide +kernel
theorem dX9_draw_33 : decode cX9_draw 33 = .ok (.iload_n 1, 1) := by decide +kernel
theorem dX9_draw_34 : decode cX9_draw 34 = .ok (.irem, 1) := by decide +kernel
theorem dX9_draw_35 : decode cX9_draw 35 = .ok (.ireturn, 1) := by decide +kernel
theorem dX9_isOut_0 : decode cX9_isOut 0 = .ok (.iload_n 2, 1) := by decide +kernel
theorem dX9_isOut_1 : decode cX9_isOut 1 = .ok (.aload_n 0, 1) := by decide +kernel
theorem dX9_isOut_2 : decode cX9_isOut 2 = .ok (.getfield 143, 3) := by decide +kernel
theorem dX9_isOut_5 : decode cX9_isOut 5 = .ok (.iload_n 1, 1) := by decide +kernel
theorem dX9_isOut_6 : decode cX9_isOut 6 = .ok (.iaload, 1) := by decide +kernel
theorem dX9_isOut_7 : decode cX9_isOut 7 = .ok (.if_icmp .ge 7, 3) := by decide +kernel
theorem dX9_isOut_10 : decode cX9_isOut 10 = .ok (.iconst 1, 1) := by decide +kernel
theorem dX9_isOut_11 : decode cX9_isOut 11 = .ok (.goto 4, 3) := by decide +kernel
theorem dX9_isOut_14 : decode cX9_isOut 14 = .ok (.iconst 0, 1) := by decide +kernel
theorem dX9_isOut_15 : decode cX9_isOut 15 = .ok (.ireturn, 1) := by decide +kernel
theorem dX9_goesTo_0 : decode cX9_goesTo 0 = .ok (.aload_n 0, 1) := by decide +kernel
theorem dX9_goesTo_1 : decode cX9_goesTo 1 = .ok (.getfield 50, 3) := by decide +kernel
theorem dX9_goesTo_4 : decode cX9_goesTo 4 = .ok (.iload_n 1, 1) := by decide +kernel
theorem dX9_goesTo_5 : decode cX9_goesTo 5 = .ok (.iaload, 1) := by decide +kernel
theorem dX9_goesTo_6 : decode cX9_goesTo 6 = .ok (.istore_n 3, 1) := by decide +kernel
theorem dX9_goesTo_7 : decode cX9_goesTo 7 = .ok (.aload_n 0, 1) := by decide +kernel
theorem dX9_goesTo_8 : decode cX9_goesTo 8 = .ok (.iload_n 1, 1) := by decide +kernel
theorem dX9_goesTo_9 : decode cX9_goesTo 9 = .ok (.invokevirtual 386, 3) := by decide +kernel
theorem dX9_goesTo_12 : decode cX9_goesTo 12 = .ok (.ifCond .ne 5, 3) := by decide +kernel
theorem dX9_goesTo_15 : decode cX9_goesTo 15 = .ok (.iconst (-1), 1) := by decide +kernel
theorem dX9_goesTo_16 : decode cX9_goesTo 16 = .ok (.ireturn, 1) := by decide +kernel
theorem dX9_goesTo_17 : decode cX9_goesTo 17 = .ok (.aload_n 0, 1) := by decide +kernel
theorem dX9_goesTo_18 : decode cX9_goesTo 18 = .ok (.getfield 70, 3) := by decide +kernel
theorem dX9_goesTo_21 : decode cX9_goesTo 21 = .ok (.iload_n 3, 1) := by decide +kernel
theorem dX9_goesTo_22 : decode cX9_goesTo 22 = .ok (.iaload, 1) := by decide +kernel
theorem dX9_goesTo_23 : decode cX9_goesTo 23 = .ok (.iconst 2, 1) := by decide +kernel
theorem dX9_goesTo_24 : decode cX9_goesTo 24 = .ok (.if_icmp .ne 21, 3) := by decide +kernel
theorem dX9_goesTo_27 : decode cX9_goesTo 27 = .ok (.aload_n 0, 1) := by decide +kernel
theorem dX9_goesTo_28 : decode cX9_goesTo 28 = .ok (.sipush 1000, 3) := by decide +kernel
theorem dX9_goesTo_31 : decode cX9_goesTo 31 = .ok (.invokevirtual 468, 3) := by decide +kernel
theorem dX9_goesTo_34 : decode cX9_goesTo 34 = .ok (.aload_n 0, 1) := by decide +kernel
theorem dX9_goesTo_35 : decode cX9_goesTo 35 = .ok (.getfield 73, 3) := by decide +kernel
theorem dX9_goesTo_38 : decode cX9_goesTo 38 = .ok (.iload_n 3, 1) := by decide +kernel
theorem dX9_goesTo_39 : decode cX9_goesTo 39 = .ok (.iaload, 1) := by decide +kernel
theorem dX9_goesTo_40 : decode cX9_goesTo 40 = .ok (.if_icmp .ge 5, 3) := by decide +kernel
theorem dX9_goesTo_43 : decode cX9_goesTo 43 = .ok (.iconst (-1), 1) := by decide +kernel
theorem dX9_goesTo_44 : decode cX9_goesTo 44 = .ok (.ireturn, 1) := by decide +kernel
theorem dX9_goesTo_45 : decode cX9_goesTo 45 = .ok (.aload_n 0, 1) := by decide +kernel
theorem dX9_goesTo_46 : decode cX9_goesTo 46 = .ok (.getfield 70, 3) := by decide +kernel
theorem dX9_goesTo_49 : decode cX9_goesTo 49 = .ok (.iload_n 3, 1) := by decide +kernel
theorem dX9_goesTo_50 : decode cX9_goesTo 50 = .ok (.iaload, 1) := by decide +kernel
theorem dX9_goesTo_51 : decode cX9_goesTo 51 = .ok (.ifCond .ne 19, 3) := by decide +kernel
theorem dX9_goesTo_54 : decode cX9_goesTo 54 = .ok (.aload_n 0, 1) := by decide +kernel
theorem dX9_goesTo_55 : decode cX9_goesTo 55 = .ok (.iload_n 3, 1) := by decide +kernel
theorem dX9_goesTo_56 : decode cX9_goesTo 56 = .ok (.aload_n 0, 1) := by decide +kernel
theorem dX9_goesTo_57 : decode cX9_goesTo 57 = .ok (.getfield 53, 3) := by decide +kernel
theorem dX9_goesTo_60 : decode cX9_goesTo 60 = .ok (.iload_n 1, 1) := by decide +kernel
theorem dX9_goesTo_61 : decode cX9_goesTo 61 = .ok (.iaload, 1) := by decide +kernel
theorem dX9_goesTo_62 : decode cX9_goesTo 62 = .ok (.invokevirtual 396, 3) := by decide +kernel
theorem dX9_goesTo_65 : decode cX9_goesTo 65 = .ok (.ifCond .eq 5, 3) := by decide +kernel
theorem dX9_goesTo_68 : decode cX9_goesTo 68 = .ok (.iconst (-1), 1) := by decide +kernel
theorem dX9_goesTo_69 : decode cX9_goesTo 69 = .ok (.ireturn, 1) := by decide +kernel
theorem dX9_goesTo_70 : decode cX9_goesTo 70 = .ok (.aload_n 0, 1) := by decide +kernel
theorem dX9_goesTo_71 : decode cX9_goesTo 71 = .ok (.getfield 70, 3) := by decide +kernel
theorem dX9_goesTo_74 : decode cX9_goesTo 74 = .ok (.iload_n 3, 1) := by decide +kernel
theorem dX9_goesTo_75 : decode cX9_goesTo 75 = .ok (.iaload, 1) := by decide +kernel
theorem dX9_goesTo_76 : decode cX9_goesTo 76 = .ok (.iconst 3, 1) := by decide +kernel
theorem dX9_goesTo_77 : decode cX9_goesTo 77 = .ok (.if_icmp .ne 38, 3) := by decide +kernel
theorem dX9_goesTo_80 : decode cX9_goesTo 80 = .ok (.aload_n 0, 1) := by decide +kernel
theorem dX9_goesTo_81 : decode cX9_goesTo 81 = .ok (.getfield 83, 3) := by decide +kernel
theorem dX9_goesTo_84 : decode cX9_goesTo 84 = .ok (.iload_n 1, 1) := by decide +kernel
theorem dX9_goesTo_85 : decode cX9_goesTo 85 = .ok (.iaload, 1) := by decide +kernel
theorem dX9_goesTo_86 : decode cX9_goesTo 86 = .ok (.iconst (-1), 1) := by decide +kernel
theorem dX9_goesTo_87 : decode cX9_goesTo 87 = .ok (.if_icmp .eq 17, 3) := by decide +kernel
theorem dX9_goesTo_90 : decode cX9_goesTo 90 = .ok (.aload_n 0, 1) := by decide +kernel
theorem dX9_goesTo_91 : decode cX9_goesTo 91 = .ok (.aload_n 0, 1) := by decide +kernel
theorem dX9_goesTo_92 : decode cX9_goesTo 92 = .ok (.getfield 83, 3) := by decide +kernel
theorem dX9_goesTo_95 : decode cX9_goesTo 95 = .ok (.iload_n 1, 1) := by decide +kernel
theorem dX9_goesTo_96 : decode cX9_goesTo 96 = .ok (.iaload, 1) := by decide +kernel
theorem dX9_goesTo_97 : decode cX9_goesTo 97 = .ok (.iload_n 2, 1) := by decide +kernel
theorem dX9_goesTo_98 : decode cX9_goesTo 98 = .ok (.invokevirtual 471, 3) := by decide +kernel
theorem dX9_goesTo_101 : decode cX9_goesTo 101 = .ok (.ifCond .eq 7, 3) := by decide +kernel
theorem dX9_goesTo_104 : decode cX9_goesTo 104 = .ok (.iconst (-1), 1) := by decide +kernel
theorem dX9_goesTo_105 : decode cX9_goesTo 105 = .ok (.goto 9, 3) := by decide +kernel
theorem dX9_goesTo_108 : decode cX9_goesTo 108 = .ok (.aload_n 0, 1) := by decide +kernel
theorem dX9_goesTo_109 : decode cX9_goesTo 109 = .ok (.getfield 83, 3) := by decide +kernel
theorem dX9_goesTo_112 : decode cX9_goesTo 112 = .ok (.iload_n 1, 1) := by decide +kernel
theorem dX9_goesTo_113 : decode cX9_goesTo 113 = .ok (.iaload, 1) := by decide +kernel
theorem dX9_goesTo_114 : decode cX9_goesTo 114 = .ok (.ireturn, 1) := by decide +kernel
theorem dX9_goesTo_115 : decode cX9_goesTo 115 = .ok (.iconst 0, 1) := by decide +kernel
theorem dX9_goesTo_116 : decode cX9_goesTo 116 = .ok (.istore 4, 2) := by decide +kernel
theorem dX9_goesTo_118 : decode cX9_goesTo 118 = .ok (.iconst 0, 1) := by decide +kernel
theorem dX9_goesTo_119 : decode cX9_goesTo 119 = .ok (.istore 5, 2) := by decide +kernel
theorem dX9_goesTo_121 : decode cX9_goesTo 121 = .ok (.iload 5, 2) := by decide +kernel
theorem dX9_goesTo_123 : decode cX9_goesTo 123 = .ok (.aload_n 0, 1) := by decide +kernel
theorem dX9_goesTo_124 : decode cX9_goesTo 124 = .ok (.getfield 298, 3) := by decide +kernel
theorem dX9_goesTo_127 : decode cX9_goesTo 127 = .ok (.if_icmp .ge 56, 3) := by decide +kernel
theorem dX9_goesTo_130 : decode cX9_goesTo 130 = .ok (.iload 4, 2) := by decide +kernel
theorem dX9_goesTo_132 : decode cX9_goesTo 132 = .ok (.aload_n 0, 1) := by decide +kernel
theorem dX9_goesTo_133 : decode cX9_goesTo 133 = .ok (.getfield 63, 3) := by decide +kernel
theorem dX9_goesTo_136 : decode cX9_goesTo 136 = .ok (.bipush 8, 2) := by decide +kernel
theorem dX9_goesTo_138 : decode cX9_goesTo 138 = .ok (.iload_n 1, 1) := by decide +kernel
theorem dX9_goesTo_139 : decode cX9_goesTo 139 = .ok (.imul, 1) := by decide +kernel
theorem dX9_goesTo_140 : decode cX9_goesTo 140 = .ok (.iload 5, 2) := by decide +kernel
theorem dX9_goesTo_142 : decode cX9_goesTo 142 = .ok (.iadd, 1) := by decide +kernel
theorem dX9_goesTo_143 : decode cX9_goesTo 143 = .ok (.iaload, 1) := by decide +kernel
theorem dX9_goesTo_144 : decode cX9_goesTo 144 = .ok (.iconst (-1), 1) := by decide +kernel
theorem dX9_goesTo_145 : decode cX9_goesTo 145 = .ok (.if_icmp .eq 28, 3) := by decide +kernel
theorem dX9_goesTo_148 : decode cX9_goesTo 148 = .ok (.aload_n 0, 1) := by decide +kernel
theorem dX9_goesTo_149 : decode cX9_goesTo 149 = .ok (.iload 5, 2) := by decide +kernel
theorem dX9_goesTo_151 : decode cX9_goesTo 151 = .ok (.iload_n 2, 1) := by decide +kernel
theorem dX9_goesTo_152 : decode cX9_goesTo 152 = .ok (.invokevirtual 471, 3) := by decide +kernel
theorem dX9_goesTo_155 : decode cX9_goesTo 155 = .ok (.ifCond .ne 18, 3) := by decide +kernel
theorem dX9_goesTo_158 : decode cX9_goesTo 158 = .ok (.aload_n 0, 1) := by decide +kernel
theorem dX9_goesTo_159 : decode cX9_goesTo 159 = .ok (.getfield 29, 3) := by decide +kernel
theorem dX9_goesTo_162 : decode cX9_goesTo 162 = .ok (.bipush 8, 2) := by decide +kernel
theorem dX9_goesTo_164 : decode cX9_goesTo 164 = .ok (.iload_n 3, 1) := by decide +kernel
theorem dX9_goesTo_165 : decode cX9_goesTo 165 = .ok (.imul, 1) := by decide +kernel
theorem dX9_goesTo_166 : decode cX9_goesTo 166 = .ok (.iload 5, 2) := by decide +kernel
theorem dX9_goesTo_168 : decode cX9_goesTo 168 = .ok (.iadd, 1) := by decide +kernel
theorem dX9_goesTo_169 : decode cX9_goesTo 169 = .ok (.iaload, 1) := by decide +kernel
theorem dX9_goesTo_170 : decode cX9_goesTo 170 = .ok (.goto 4, 3) := by decide +kernel
theorem dX9_goesTo_173 : decode cX9_goesTo 173 = .ok (.iconst 0, 1) := by decide +kernel
theorem dX9_goesTo_174 : decode cX9_goesTo 174 = .ok (.iadd, 1) := by decide +kernel
theorem dX9_goesTo_175 : decode cX9_goesTo 175 = .ok (.istore 4, 2) := by decide +kernel
theorem dX9_goesTo_177 : decode cX9_goesTo 177 = .ok (.iinc 5 1, 3) := by decide +kernel
theorem dX9_goesTo_180 : decode cX9_goesTo 180 = .ok (.goto (-59), 3) := by decide +kernel
theorem dX9_goesTo_183 : decode cX9_goesTo 183 = .ok (.iload 4, 2) := by decide +kernel
theorem dX9_goesTo_185 : decode cX9_goesTo 185 = .ok (.ifCond .ne 5, 3) := by decide +kernel
theorem dX9_goesTo_188 : decode cX9_goesTo 188 = .ok (.iconst (-1), 1) := by decide +kernel
theorem dX9_goesTo_189 : decode cX9_goesTo 189 = .ok (.ireturn, 1) := by decide +kernel
theorem dX9_goesTo_190 : decode cX9_goesTo 190 = .ok (.aload_n 0, 1) := by decide +kernel
theorem dX9_goesTo_191 : decode cX9_goesTo 191 = .ok (.iload 4, 2) := by decide +kernel
theorem dX9_goesTo_193 : decode cX9_goesTo 193 = .ok (.invokevirtual 468, 3) := by decide +kernel
theorem dX9_goesTo_196 : decode cX9_goesTo 196 = .ok (.istore 5, 2) := by decide +kernel
theorem dX9_goesTo_198 : decode cX9_goesTo 198 = .ok (.iconst 0, 1) := by decide +kernel
theorem dX9_goesTo_199 : decode cX9_goesTo 199 = .ok (.istore 6, 2) := by decide +kernel
theorem dX9_goesTo_201 : decode cX9_goesTo 201 = .ok (.iload 6, 2) := by decide +kernel
theorem dX9_goesTo_203 : decode cX9_goesTo 203 = .ok (.aload_n 0, 1) := by decide +kernel
theorem dX9_goesTo_204 : decode cX9_goesTo 204 = .ok (.getfield 298, 3) := by decide +kernel
theorem dX9_goesTo_207 : decode cX9_goesTo 207 = .ok (.if_icmp .ge 63, 3) := by decide +kernel
theorem dX9_goesTo_210 : decode cX9_goesTo 210 = .ok (.aload_n 0, 1) := by decide +kernel
theorem dX9_goesTo_211 : decode cX9_goesTo 211 = .ok (.getfield 63, 3) := by decide +kernel
theorem dX9_goesTo_214 : decode cX9_goesTo 214 = .ok (.bipush 8, 2) := by decide +kernel
theorem dX9_goesTo_216 : decode cX9_goesTo 216 = .ok (.iload_n 1, 1) := by decide +kernel
theorem dX9_goesTo_217 : decode cX9_goesTo 217 = .ok (.imul, 1) := by decide +kernel
theorem dX9_goesTo_218 : decode cX9_goesTo 218 = .ok (.iload 6, 2) := by decide +kernel
theorem dX9_goesTo_220 : decode cX9_goesTo 220 = .ok (.iadd, 1) := by decide +kernel
theorem dX9_goesTo_221 : decode cX9_goesTo 221 = .ok (.iaload, 1) := by decide +kernel
theorem dX9_goesTo_222 : decode cX9_goesTo 222 = .ok (.iconst (-1), 1) := by decide +kernel
theorem dX9_goesTo_223 : decode cX9_goesTo 223 = .ok (.if_icmp .eq 41, 3) := by decide +kernel
theorem dX9_goesTo_226 : decode cX9_goesTo 226 = .ok (.aload_n 0, 1) := by decide +kernel
theorem dX9_goesTo_227 : decode cX9_goesTo 227 = .ok (.iload 6, 2) := by decide +kernel
theorem dX9_goesTo_229 : decode cX9_goesTo 229 = .ok (.iload_n 2, 1) := by decide +kernel
theorem dX9_goesTo_230 : decode cX9_goesTo 230 = .ok (.invokevirtual 471, 3) := by decide +kernel
theorem dX9_goesTo_233 : decode cX9_goesTo 233 = .ok (.ifCond .eq 6, 3) := by decide +kernel
theorem dX9_goesTo_236 : decode cX9_goesTo 236 = .ok (.goto 28, 3) := by decide +kernel
theorem dX9_goesTo_239 : decode cX9_goesTo 239 = .ok (.iload 5, 2) := by decide +kernel
theorem dX9_goesTo_241 : decode cX9_goesTo 241 = .ok (.aload_n 0, 1) := by decide +kernel
theorem dX9_goesTo_242 : decode cX9_goesTo 242 = .ok (.getfield 29, 3) := by decide +kernel
theorem dX9_goesTo_245 : decode cX9_goesTo 245 = .ok (.bipush 8, 2) := by decide +kernel
theorem dX9_goesTo_247 : decode cX9_goesTo 247 = .ok (.iload_n 3, 1) := by decide +kernel
theorem dX9_goesTo_248 : decode cX9_goesTo 248 = .ok (.imul, 1) := by decide +kernel
theorem dX9_goesTo_249 : decode cX9_goesTo 249 = .ok (.iload 6, 2) := by decide +kernel
theorem dX9_goesTo_251 : decode cX9_goesTo 251 = .ok (.iadd, 1) := by decide +kernel
theorem dX9_goesTo_252 : decode cX9_goesTo 252 = .ok (.iaload, 1) := by decide +kernel
theorem dX9_goesTo_253 : decode cX9_goesTo 253 = .ok (.isub, 1) := by decide +kernel
theorem dX9_goesTo_254 : decode cX9_goesTo 254 = .ok (.istore 5, 2) := by decide +kernel
theorem dX9_goesTo_256 : decode cX9_goesTo 256 = .ok (.iload 5, 2) := by decide +kernel
theorem dX9_goesTo_258 : decode cX9_goesTo 258 = .ok (.ifCond .ge 6, 3) := by decide +kernel
theorem dX9_goesTo_261 : decode cX9_goesTo 261 = .ok (.iload 6, 2) := by decide +kernel
theorem dX9_goesTo_263 : decode cX9_goesTo 263 = .ok (.ireturn, 1) := by decide +kernel
theorem dX9_goesTo_264 : decode cX9_goesTo 264 = .ok (.iinc 6 1, 3) := by decide +kernel
theorem dX9_goesTo_267 : decode cX9_goesTo 267 = .ok (.goto (-66), 3) := by decide +kernel
theorem dX9_goesTo_270 : decode cX9_goesTo 270 = .ok (.iconst (-1), 1) := by decide +kernel
theorem dX9_goesTo_271 : decode cX9_goesTo 271 = .ok (.ireturn, 1) := by decide +kernel
theorem dX9_week0_0 : decode cX9_week0 0 = .ok (.aload_n 0, 1) := by decide +kernel
theorem dX9_week0_1 : decode cX9_week0 1 = .ok (.getfield 146, 3) := by decide +kernel
theorem dX9_week0_4 : decode cX9_week0 4 = .ok (.iload_n 1, 1) := by decide +kernel
theorem dX9_week0_5 : decode cX9_week0 5 = .ok (.iconst (-1), 1) := by decide +kernel
theorem dX9_week0_6 : decode cX9_week0 6 = .ok (.iastore, 1) := by decide +kernel
theorem dX9_week0_7 : decode cX9_week0 7 = .ok (.aload_n 0, 1) := by decide +kernel
theorem dX9_week0_8 : decode cX9_week0 8 = .ok (.getfield 149, 3) := by decide +kernel
theorem dX9_week0_11 : decode cX9_week0 11 = .ok (.iload_n 1, 1) := by decide +kernel
theorem dX9_week0_12 : decode cX9_week0 12 = .ok (.iconst 0, 1) := by decide +kernel
theorem dX9_week0_13 : decode cX9_week0 13 = .ok (.iastore, 1) := by decide +kernel
theorem dX9_week0_14 : decode cX9_week0 14 = .ok (.aload_n 0, 1) := by decide +kernel
theorem dX9_week0_15 : decode cX9_week0 15 = .ok (.getfield 152, 3) := by decide +kernel
theorem dX9_week0_18 : decode cX9_week0 18 = .ok (.iload_n 1, 1) := by decide +kernel
theorem dX9_week0_19 : decode cX9_week0 19 = .ok (.iconst 0, 1) := by decide +kernel
theorem dX9_week0_20 : decode cX9_week0 20 = .ok (.iastore, 1) := by decide +kernel
theorem dX9_week0_21 : decode cX9_week0 21 = .ok (.aload_n 0, 1) := by decide +kernel
theorem dX9_week0_22 : decode cX9_week0 22 = .ok (.aload_n 0, 1) := by decide +kernel
theorem dX9_week0_23 : decode cX9_week0 23 = .ok (.getfield 301, 3) := by decide +kernel
theorem dX9_week0_26 : decode cX9_week0 26 = .ok (.iload_n 1, 1) := by decide +kernel
theorem dX9_week0_27 : decode cX9_week0 27 = .ok (.invokevirtual 471, 3) := by decide +kernel
theorem dX9_week0_30 : decode cX9_week0 30 = .ok (.ifCond .eq 4, 3) := by decide +kernel
theorem dX9_week0_33 : decode cX9_week0 33 = .ok (.return_, 1) := by decide +kernel
theorem dX9_week0_34 : decode cX9_week0 34 = .ok (.iconst 0, 1) := by decide +kernel
theorem dX9_week0_35 : decode cX9_week0 35 = .ok (.istore_n 2, 1) := by decide +kernel
theorem dX9_week0_36 : decode cX9_week0 36 = .ok (.aload_n 0, 1) := by decide +kernel
theorem dX9_week0_37 : decode cX9_week0 37 = .ok (.iload_n 2, 1) := by decide +kernel
theorem dX9_week0_38 : decode cX9_week0 38 = .ok (.iload_n 1, 1) := by decide +kernel
theorem dX9_week0_39 : decode cX9_week0 39 = .ok (.invokevirtual 474, 3) := by decide +kernel
theorem dX9_week0_42 : decode cX9_week0 42 = .ok (.istore_n 3, 1) := by decide +kernel
theorem dX9_week0_43 : decode cX9_week0 43 = .ok (.iload_n 3, 1) := by decide +kernel
theorem dX9_week0_44 : decode cX9_week0 44 = .ok (.iconst (-1), 1) := by decide +kernel
theorem dX9_week0_45 : decode cX9_week0 45 = .ok (.if_icmp .eq 25, 3) := by decide +kernel
theorem dX9_week0_48 : decode cX9_week0 48 = .ok (.aload_n 0, 1) := by decide +kernel
theorem dX9_week0_49 : decode cX9_week0 49 = .ok (.getfield 63, 3) := by decide +kernel
theorem dX9_week0_52 : decode cX9_week0 52 = .ok (.bipush 8, 2) := by decide +kernel
theorem dX9_week0_54 : decode cX9_week0 54 = .ok (.iload_n 2, 1) := by decide +kernel
theorem dX9_week0_55 : decode cX9_week0 55 = .ok (.imul, 1) := by decide +kernel
theorem dX9_week0_56 : decode cX9_week0 56 = .ok (.iload_n 3, 1) := by decide +kernel
theorem dX9_week0_57 : decode cX9_week0 57 = .ok (.iadd, 1) := by decide +kernel
theorem dX9_week0_58 : decode cX9_week0 58 = .ok (.iaload, 1) := by decide +kernel
theorem dX9_week0_59 : decode cX9_week0 59 = .ok (.istore_n 2, 1) := by decide +kernel
theorem dX9_week0_60 : decode cX9_week0 60 = .ok (.aload_n 0, 1) := by decide +kernel
theorem dX9_week0_61 : decode cX9_week0 61 = .ok (.iload_n 2, 1) := by decide +kernel
theorem dX9_week0_62 : decode cX9_week0 62 = .ok (.iload_n 1, 1) := by decide +kernel
theorem dX9_week0_63 : decode cX9_week0 63 = .ok (.invokevirtual 474, 3) := by decide +kernel
theorem dX9_week0_66 : decode cX9_week0 66 = .ok (.istore_n 3, 1) := by decide +kernel
theorem dX9_week0_67 : decode cX9_week0 67 = .ok (.goto (-24), 3) := by decide +kernel
theorem dX9_week0_70 : decode cX9_week0 70 = .ok (.aload_n 0, 1) := by decide +kernel
theorem dX9_week0_71 : decode cX9_week0 71 = .ok (.getfield 146, 3) := by decide +kernel
theorem dX9_week0_74 : decode cX9_week0 74 = .ok (.iload_n 1, 1) := by decide +kernel
theorem dX9_week0_75 : decode cX9_week0 75 = .ok (.aload_n 0, 1) := by decide +kernel
theorem dX9_week0_76 : decode cX9_week0 76 = .ok (.getfield 50, 3) := by decide +kernel
theorem dX9_week0_79 : decode cX9_week0 79 = .ok (.iload_n 2, 1) := by decide +kernel
theorem dX9_week0_80 : decode cX9_week0 80 = .ok (.iaload, 1) := by decide +kernel
theorem dX9_week0_81 : decode cX9_week0 81 = .ok (.iastore, 1) := by decide +kernel
theorem dX9_week0_82 : decode cX9_week0 82 = .ok (.aload_n 0, 1) := by decide +kernel
theorem dX9_week0_83 : decode cX9_week0 83 = .ok (.getfield 149, 3) := by decide +kernel
theorem dX9_week0_86 : decode cX9_week0 86 = .ok (.iload_n 1, 1) := by decide +kernel
theorem dX9_week0_87 : decode cX9_week0 87 = .ok (.aload_n 0, 1) := by decide +kernel
theorem dX9_week0_88 : decode cX9_week0 88 = .ok (.getfield 53, 3) := by decide +kernel
theorem dX9_week0_91 : decode cX9_week0 91 = .ok (.iload_n 2, 1) := by decide +kernel
theorem dX9_week0_92 : decode cX9_week0 92 = .ok (.iaload, 1) := by decide +kernel
theorem dX9_week0_93 : decode cX9_week0 93 = .ok (.iastore, 1) := by decide +kernel
theorem dX9_week0_94 : decode cX9_week0 94 = .ok (.aload_n 0, 1) := by decide +kernel
theorem dX9_week0_95 : decode cX9_week0 95 = .ok (.getfield 152, 3) := by decide +kernel
theorem dX9_week0_98 : decode cX9_week0 98 = .ok (.iload_n 1, 1) := by decide +kernel
theorem dX9_week0_99 : decode cX9_week0 99 = .ok (.aload_n 0, 1) := by decide +kernel
theorem dX9_week0_100 : decode cX9_week0 100 = .ok (.aload_n 0, 1) := by decide +kernel
theorem dX9_week0_101 : decode cX9_week0 101 = .ok (.getfield 53, 3) := by decide +kernel
theorem dX9_week0_104 : decode cX9_week0 104 = .ok (.iload_n 2, 1) := by decide +kernel
theorem dX9_week0_105 : decode cX9_week0 105 = .ok (.iaload, 1) := by decide +kernel
theorem dX9_week0_106 : decode cX9_week0 106 = .ok (.invokevirtual 367, 3) := by decide +kernel
theorem dX9_week0_109 : decode cX9_week0 109 = .ok (.iastore, 1) := by decide +kernel
theorem dX9_week0_110 : decode cX9_week0 110 = .ok (.aload_n 0, 1) := by decide +kernel
theorem dX9_week0_111 : decode cX9_week0 111 = .ok (.getfield 53, 3) := by decide +kernel
theorem dX9_week0_114 : decode cX9_week0 114 = .ok (.iload_n 2, 1) := by decide +kernel
theorem dX9_week0_115 : decode cX9_week0 115 = .ok (.iaload, 1) := by decide +kernel
theorem dX9_week0_116 : decode cX9_week0 116 = .ok (.aload_n 0, 1) := by decide +kernel
theorem dX9_week0_117 : decode cX9_week0 117 = .ok (.getfield 16, 3) := by decide +kernel
theorem dX9_week0_120 : decode cX9_week0 120 = .ok (.if_icmp .ge 24, 3) := by decide +kernel
theorem dX9_week0_123 : decode cX9_week0 123 = .ok (.aload_n 0, 1) := by decide +kernel
theorem dX9_week0_124 : decode cX9_week0 124 = .ok (.getfield 143, 3) := by decide +kernel
theorem dX9_week0_127 : decode cX9_week0 127 = .ok (.aload_n 0, 1) := by decide +kernel
theorem dX9_week0_128 : decode cX9_week0 128 = .ok (.getfield 50, 3) := by decide +kernel
theorem dX9_week0_131 : decode cX9_week0 131 = .ok (.iload_n 2, 1) := by decide +kernel
theorem dX9_week0_132 : decode cX9_week0 132 = .ok (.iaload, 1) := by decide +kernel
theorem dX9_week0_133 : decode cX9_week0 133 = .ok (.iload_n 1, 1) := by decide +kernel
theorem dX9_week0_134 : decode cX9_week0 134 = .ok (.iconst 1, 1) := by decide +kernel
theorem dX9_week0_135 : decode cX9_week0 135 = .ok (.iadd, 1) := by decide +kernel
theorem dX9_week0_136 : decode cX9_week0 136 = .ok (.aload_n 0, 1) := by decide +kernel
theorem dX9_week0_137 : decode cX9_week0 137 = .ok (.getfield 140, 3) := by decide +kernel
theorem dX9_week0_140 : decode cX9_week0 140 = .ok (.iconst 1, 1) := by decide +kernel
theorem dX9_week0_141 : decode cX9_week0 141 = .ok (.iaload, 1) := by decide +kernel
theorem dX9_week0_142 : decode cX9_week0 142 = .ok (.iadd, 1) := by decide +kernel
theorem dX9_week0_143 : decode cX9_week0 143 = .ok (.iastore, 1) := by decide +kernel
theorem dX9_week0_144 : decode cX9_week0 144 = .ok (.return_, 1) := by decide +kernel
theorem dX9_on_0 : decode cX9_on 0 = .ok (.aload_n 0, 1) := by decide +kernel
theorem dX9_on_1 : decode cX9_on 1 = .ok (.iconst 0, 1) := by decide +kernel
theorem dX9_on_2 : decode cX9_on 2 = .ok (.putfield 170, 3) := by decide +kernel
theorem dX9_on_5 : decode cX9_on 5 = .ok (.aload_n 0, 1) := by decide +kernel
theorem dX9_on_6 : decode cX9_on 6 = .ok (.iload_n 1, 1) := by decide +kernel
theorem dX9_on_7 : decode cX9_on 7 = .ok (.iconst 0, 1) := by decide +kernel
theorem dX9_on_8 : decode cX9_on 8 = .ok (.bipush 60, 2) := by decide +kernel
theorem dX9_on_10 : decode cX9_on 10 = .ok (.invokestatic 336, 3) := by decide +kernel
theorem dX9_on_13 : decode cX9_on 13 = .ok (.iconst 1, 1) := by decide +kernel
theorem dX9_on_14 : decode cX9_on 14 = .ok (.invokevirtual 291, 3) := by decide +kernel
theorem dX9_on_17 : decode cX9_on 17 = .ok (.ifCond .ne 5, 3) := by decide +kernel
theorem dX9_on_20 : decode cX9_on 20 = .ok (.iconst 0, 1) := by decide +kernel
theorem dX9_on_21 : decode cX9_on 21 = .ok (.ireturn, 1) := by decide +kernel
theorem dX9_on_22 : decode cX9_on 22 = .ok (.aload_n 0, 1) := by decide +kernel
theorem dX9_on_23 : decode cX9_on 23 = .ok (.getfield 329, 3) := by decide +kernel
theorem dX9_on_26 : decode cX9_on 26 = .ok (.ifCond .eq 16, 3) := by decide +kernel
theorem dX9_on_29 : decode cX9_on 29 = .ok (.aload_n 0, 1) := by decide +kernel
theorem dX9_on_30 : decode cX9_on 30 = .ok (.getfield 140, 3) := by decide +kernel
theorem dX9_on_33 : decode cX9_on 33 = .ok (.iconst 2, 1) := by decide +kernel
theorem dX9_on_34 : decode cX9_on 34 = .ok (.iaload, 1) := by decide +kernel
theorem dX9_on_35 : decode cX9_on 35 = .ok (.iload_n 1, 1) := by decide +kernel
theorem dX9_on_36 : decode cX9_on 36 = .ok (.iadd, 1) := by decide +kernel
theorem dX9_on_37 : decode cX9_on 37 = .ok (.bipush 100, 2) := by decide +kernel
theorem dX9_on_39 : decode cX9_on 39 = .ok (.if_icmp .le 5, 3) := by decide +kernel
theorem dX9_on_42 : decode cX9_on 42 = .ok (.iconst (-1), 1) := by decide +kernel
theorem dX9_on_43 : decode cX9_on 43 = .ok (.ireturn, 1) := by decide +kernel
theorem dX9_on_44 : decode cX9_on 44 = .ok (.aload_n 0, 1) := by decide +kernel
theorem dX9_on_45 : decode cX9_on 45 = .ok (.invokevirtual 413, 3) := by decide +kernel
theorem dX9_on_48 : decode cX9_on 48 = .ok (.aload_n 0, 1) := by decide +kernel
theorem dX9_on_49 : decode cX9_on 49 = .ok (.aload_n 0, 1) := by decide +kernel
theorem dX9_on_50 : decode cX9_on 50 = .ok (.aload_n 0, 1) := by decide +kernel
theorem dX9_on_51 : decode cX9_on 51 = .ok (.getfield 301, 3) := by decide +kernel
theorem dX9_on_54 : decode cX9_on 54 = .ok (.invokevirtual 416, 3) := by decide +kernel
theorem dX9_on_57 : decode cX9_on 57 = .ok (.iconst 1, 1) := by decide +kernel
theorem dX9_on_58 : decode cX9_on 58 = .ok (.invokevirtual 291, 3) := by decide +kernel
theorem dX9_on_61 : decode cX9_on 61 = .ok (.ifCond .ne 5, 3) := by decide +kernel
theorem dX9_on_64 : decode cX9_on 64 = .ok (.iconst 0, 1) := by decide +kernel
theorem dX9_on_65 : decode cX9_on 65 = .ok (.ireturn, 1) := by decide +kernel
theorem dX9_on_66 : decode cX9_on 66 = .ok (.iconst 0, 1) := by decide +kernel
theorem dX9_on_67 : decode cX9_on 67 = .ok (.istore_n 2, 1) := by decide +kernel
theorem dX9_on_68 : decode cX9_on 68 = .ok (.iload_n 2, 1) := by decide +kernel
theorem dX9_on_69 : decode cX9_on 69 = .ok (.iload_n 1, 1) := by decide +kernel
theorem dX9_on_70 : decode cX9_on 70 = .ok (.if_icmp .ge 29, 3) := by decide +kernel
theorem dX9_on_73 : decode cX9_on 73 = .ok (.aload_n 0, 1) := by decide +kernel
theorem dX9_on_74 : decode cX9_on 74 = .ok (.aload_n 0, 1) := by decide +kernel
theorem dX9_on_75 : decode cX9_on 75 = .ok (.getfield 140, 3) := by decide +kernel
theorem dX9_on_78 : decode cX9_on 78 = .ok (.iconst 2, 1) := by decide +kernel
theorem dX9_on_79 : decode cX9_on 79 = .ok (.iaload, 1) := by decide +kernel
theorem dX9_on_80 : decode cX9_on 80 = .ok (.invokevirtual 477, 3) := by decide +kernel
theorem dX9_on_83 : decode cX9_on 83 = .ok (.aload_n 0, 1) := by decide +kernel
theorem dX9_on_84 : decode cX9_on 84 = .ok (.getfield 140, 3) := by decide +kernel
theorem dX9_on_87 : decode cX9_on 87 = .ok (.iconst 2, 1) := by decide +kernel
theorem dX9_on_88 : decode cX9_on 88 = .ok (.dup2, 1) := by decide +kernel
theorem dX9_on_89 : decode cX9_on 89 = .ok (.iaload, 1) := by decide +kernel
theorem dX9_on_90 : decode cX9_on 90 = .ok (.iconst 1, 1) := by decide +kernel
theorem dX9_on_91 : decode cX9_on 91 = .ok (.iadd, 1) := by decide +kernel
theorem dX9_on_92 : decode cX9_on 92 = .ok (.iastore, 1) := by decide +kernel
theorem dX9_on_93 : decode cX9_on 93 = .ok (.iinc 2 1, 3) := by decide +kernel
theorem dX9_on_96 : decode cX9_on 96 = .ok (.goto (-28), 3) := by decide +kernel
theorem dX9_on_99 : decode cX9_on 99 = .ok (.aload_n 0, 1) := by decide +kernel
theorem dX9_on_100 : decode cX9_on 100 = .ok (.getfield 140, 3) := by decide +kernel
theorem dX9_on_103 : decode cX9_on 103 = .ok (.iconst 2, 1) := by decide +kernel
theorem dX9_on_104 : decode cX9_on 104 = .ok (.iaload, 1) := by decide +kernel
theorem dX9_on_105 : decode cX9_on 105 = .ok (.ireturn, 1) := by decide +kernel
theorem dX9_week_0 : decode cX9_week 0 = .ok (.aload_n 0, 1) := by decide +kernel
theorem dX9_week_1 : decode cX9_week 1 = .ok (.iconst 0, 1) := by decide +kernel
theorem dX9_week_2 : decode cX9_week 2 = .ok (.putfield 170, 3) := by decide +kernel
theorem dX9_week_5 : decode cX9_week 5 = .ok (.aload_n 0, 1) := by decide +kernel
theorem dX9_week_6 : decode cX9_week 6 = .ok (.aload_n 0, 1) := by decide +kernel
theorem dX9_week_7 : decode cX9_week 7 = .ok (.getfield 329, 3) := by decide +kernel
theorem dX9_week_10 : decode cX9_week 10 = .ok (.ifCond .eq 30, 3) := by decide +kernel
theorem dX9_week_13 : decode cX9_week 13 = .ok (.iload_n 1, 1) := by decide +kernel
theorem dX9_week_14 : decode cX9_week 14 = .ok (.ifCond .lt 26, 3) := by decide +kernel
theorem dX9_week_17 : decode cX9_week 17 = .ok (.iload_n 1, 1) := by decide +kernel
theorem dX9_week_18 : decode cX9_week 18 = .ok (.aload_n 0, 1) := by decide +kernel
theorem dX9_week_19 : decode cX9_week 19 = .ok (.getfield 140, 3) := by decide +kernel
theorem dX9_week_22 : decode cX9_week 22 = .ok (.iconst 2, 1) := by decide +kernel
theorem dX9_week_23 : decode cX9_week 23 = .ok (.iaload, 1) := by decide +kernel
theorem dX9_week_24 : decode cX9_week 24 = .ok (.if_icmp .ge 16, 3) := by decide +kernel
theorem dX9_week_27 : decode cX9_week 27 = .ok (.iload_n 2, 1) := by decide +kernel
theorem dX9_week_28 : decode cX9_week 28 = .ok (.iconst 0, 1) := by decide +kernel
theorem dX9_week_29 : decode cX9_week 29 = .ok (.iconst 2, 1) := by decide +kernel
theorem dX9_week_30 : decode cX9_week 30 = .ok (.invokestatic 336, 3) := by decide +kernel
theorem dX9_week_33 : decode cX9_week 33 = .ok (.ifCond .eq 7, 3) := by decide +kernel
theorem dX9_week_36 : decode cX9_week 36 = .ok (.iconst 1, 1) := by decide +kernel
theorem dX9_week_37 : decode cX9_week 37 = .ok (.goto 4, 3) := by decide +kernel
theorem dX9_week_40 : decode cX9_week 40 = .ok (.iconst 0, 1) := by decide +kernel
theorem dX9_week_41 : decode cX9_week 41 = .ok (.iconst 1, 1) := by decide +kernel
theorem dX9_week_42 : decode cX9_week 42 = .ok (.invokevirtual 291, 3) := by decide +kernel
theorem dX9_week_45 : decode cX9_week 45 = .ok (.ifCond .ne 5, 3) := by decide +kernel
theorem dX9_week_48 : decode cX9_week 48 = .ok (.iconst 0, 1) := by decide +kernel
theorem dX9_week_49 : decode cX9_week 49 = .ok (.ireturn, 1) := by decide +kernel
theorem dX9_week_50 : decode cX9_week 50 = .ok (.iload_n 2, 1) := by decide +kernel
theorem dX9_week_51 : decode cX9_week 51 = .ok (.ifCond .ne 12, 3) := by decide +kernel
theorem dX9_week_54 : decode cX9_week 54 = .ok (.aload_n 0, 1) := by decide +kernel
theorem dX9_week_55 : decode cX9_week 55 = .ok (.getfield 146, 3) := by decide +kernel
theorem dX9_week_58 : decode cX9_week 58 = .ok (.iload_n 1, 1) := by decide +kernel
theorem dX9_week_59 : decode cX9_week 59 = .ok (.iaload, 1) := by decide +kernel
theorem dX9_week_60 : decode cX9_week 60 = .ok (.goto 23, 3) := by decide +kernel
theorem dX9_week_63 : decode cX9_week 63 = .ok (.iload_n 2, 1) := by decide +kernel
theorem dX9_week_64 : decode cX9_week 64 = .ok (.iconst 1, 1) := by decide +kernel
theorem dX9_week_65 : decode cX9_week 65 = .ok (.if_icmp .ne 12, 3) := by decide +kernel
theorem dX9_week_68 : decode cX9_week 68 = .ok (.aload_n 0, 1) := by decide +kernel
theorem dX9_week_69 : decode cX9_week 69 = .ok (.getfield 149, 3) := by decide +kernel
theorem dX9_week_72 : decode cX9_week 72 = .ok (.iload_n 1, 1) := by decide +kernel
theorem dX9_week_73 : decode cX9_week 73 = .ok (.iaload, 1) := by decide +kernel
theorem dX9_week_74 : decode cX9_week 74 = .ok (.goto 9, 3) := by decide +kernel
theorem dX9_week_77 : decode cX9_week 77 = .ok (.aload_n 0, 1) := by decide +kernel
theorem dX9_week_78 : decode cX9_week 78 = .ok (.getfield 152, 3) := by decide +kernel
theorem dX9_week_81 : decode cX9_week 81 = .ok (.iload_n 1, 1) := by decide +kernel
theorem dX9_week_82 : decode cX9_week 82 = .ok (.iaload, 1) := by decide +kernel
theorem dX9_week_83 : decode cX9_week 83 = .ok (.ireturn, 1) := by decide +kernel
theorem dX9_image_0 : decode cX9_image 0 = .ok (.aload_n 0, 1) := by decide +kernel
theorem dX9_image_1 : decode cX9_image 1 = .ok (.iconst 0, 1) := by decide +kernel
theorem dX9_image_2 : decode cX9_image 2 = .ok (.putfield 170, 3) := by decide +kernel
theorem dX9_image_5 : decode cX9_image 5 = .ok (.aload_n 0, 1) := by decide +kernel
theorem dX9_image_6 : decode cX9_image 6 = .ok (.getfield 329, 3) := by decide +kernel
theorem dX9_image_9 : decode cX9_image 9 = .ok (.ifCond .ne 5, 3) := by decide +kernel
theorem dX9_image_12 : decode cX9_image 12 = .ok (.iconst 0, 1) := by decide +kernel
theorem dX9_image_13 : decode cX9_image 13 = .ok (.ireturn, 1) := by decide +kernel
theorem dX9_image_14 : decode cX9_image 14 = .ok (.aload_n 0, 1) := by decide +kernel
theorem dX9_image_15 : decode cX9_image 15 = .ok (.iconst 1, 1) := by decide +kernel
theorem dX9_image_16 : decode cX9_image 16 = .ok (.putfield 333, 3) := by decide +kernel
theorem dX9_image_19 : decode cX9_image 19 = .ok (.aload_n 0, 1) := by decide +kernel
theorem dX9_image_20 : decode cX9_image 20 = .ok (.aload_n 0, 1) := by decide +kernel
theorem dX9_image_21 : decode cX9_image 21 = .ok (.getfield 140, 3) := by decide +kernel
theorem dX9_image_24 : decode cX9_image 24 = .ok (.aload_n 0, 1) := by decide +kernel
theorem dX9_image_25 : decode cX9_image 25 = .ok (.getfield 155, 3) := by decide +kernel
theorem dX9_image_28 : decode cX9_image 28 = .ok (.invokevirtual 313, 3) := by decide +kernel
theorem dX9_image_31 : decode cX9_image 31 = .ok (.aload_n 0, 1) := by decide +kernel
theorem dX9_image_32 : decode cX9_image 32 = .ok (.aload_n 0, 1) := by decide +kernel
theorem dX9_image_33 : decode cX9_image 33 = .ok (.getfield 143, 3) := by decide +kernel
theorem dX9_image_36 : decode cX9_image 36 = .ok (.aload_n 0, 1) := by decide +kernel
theorem dX9_image_37 : decode cX9_image 37 = .ok (.getfield 158, 3) := by decide +kernel
theorem dX9_image_40 : decode cX9_image 40 = .ok (.invokevirtual 313, 3) := by decide +kernel
theorem dX9_image_43 : decode cX9_image 43 = .ok (.aload_n 0, 1) := by decide +kernel
theorem dX9_image_44 : decode cX9_image 44 = .ok (.aload_n 0, 1) := by decide +kernel
theorem dX9_image_45 : decode cX9_image 45 = .ok (.getfield 146, 3) := by decide +kernel
theorem dX9_image_48 : decode cX9_image 48 = .ok (.aload_n 0, 1) := by decide +kernel
theorem dX9_image_49 : decode cX9_image 49 = .ok (.getfield 161, 3) := by decide +kernel
theorem dX9_image_52 : decode cX9_image 52 = .ok (.invokevirtual 313, 3) := by decide +kernel
theorem dX9_image_55 : decode cX9_image 55 = .ok (.aload_n 0, 1) := by decide +kernel
theorem dX9_image_56 : decode cX9_image 56 = .ok (.aload_n 0, 1) := by decide +kernel
theorem dX9_image_57 : decode cX9_image 57 = .ok (.getfield 149, 3) := by decide +kernel
theorem dX9_image_60 : decode cX9_image 60 = .ok (.aload_n 0, 1) := by decide +kernel
theorem dX9_image_61 : decode cX9_image 61 = .ok (.getfield 164, 3) := by decide +kernel
theorem dX9_image_64 : decode cX9_image 64 = .ok (.invokevirtual 313, 3) := by decide +kernel
theorem dX9_image_67 : decode cX9_image 67 = .ok (.aload_n 0, 1) := by decide +kernel
theorem dX9_image_68 : decode cX9_image 68 = .ok (.aload_n 0, 1) := by decide +kernel
theorem dX9_image_69 : decode cX9_image 69 = .ok (.getfield 152, 3) := by decide +kernel
theorem dX9_image_72 : decode cX9_image 72 = .ok (.aload_n 0, 1) := by decide +kernel
theorem dX9_image_73 : decode cX9_image 73 = .ok (.getfield 167, 3) := by decide +kernel
theorem dX9_image_76 : decode cX9_image 76 = .ok (.invokevirtual 313, 3) := by decide +kernel
theorem dX9_image_79 : decode cX9_image 79 = .ok (.iconst 1, 1) := by decide +kernel
theorem dX9_image_80 : decode cX9_image 80 = .ok (.ireturn, 1) := by decide +kernel
theorem dX9_restore_0 : decode cX9_restore 0 = .ok (.aload_n 0, 1) := by decide +kernel
theorem dX9_restore_1 : decode cX9_restore 1 = .ok (.iconst 0, 1) := by decide +kernel
theorem dX9_restore_2 : decode cX9_restore 2 = .ok (.putfield 170, 3) := by decide +kernel
theorem dX9_restore_5 : decode cX9_restore 5 = .ok (.aload_n 0, 1) := by decide +kernel
theorem dX9_restore_6 : decode cX9_restore 6 = .ok (.getfield 333, 3) := by decide +kernel
theorem dX9_restore_9 : decode cX9_restore 9 = .ok (.ifCond .ne 5, 3) := by decide +kernel
theorem dX9_restore_12 : decode cX9_restore 12 = .ok (.iconst 0, 1) := by decide +kernel
theorem dX9_restore_13 : decode cX9_restore 13 = .ok (.ireturn, 1) := by decide +kernel
theorem dX9_restore_14 : decode cX9_restore 14 = .ok (.aload_n 0, 1) := by decide +kernel
theorem dX9_restore_15 : decode cX9_restore 15 = .ok (.iconst 1, 1) := by decide +kernel
theorem dX9_restore_16 : decode cX9_restore 16 = .ok (.putfield 329, 3) := by decide +kernel
theorem dX9_restore_19 : decode cX9_restore 19 = .ok (.aload_n 0, 1) := by decide +kernel
theorem dX9_restore_20 : decode cX9_restore 20 = .ok (.aload_n 0, 1) := by decide +kernel
theorem dX9_restore_21 : decode cX9_restore 21 = .ok (.getfield 155, 3) := by decide +kernel
theorem dX9_restore_24 : decode cX9_restore 24 = .ok (.aload_n 0, 1) := by decide +kernel
theorem dX9_restore_25 : decode cX9_restore 25 = .ok (.getfield 140, 3) := by decide +kernel
theorem dX9_restore_28 : decode cX9_restore 28 = .ok (.invokevirtual 313, 3) := by decide +kernel
theorem dX9_restore_31 : decode cX9_restore 31 = .ok (.aload_n 0, 1) := by decide +kernel
theorem dX9_restore_32 : decode cX9_restore 32 = .ok (.aload_n 0, 1) := by decide +kernel
theorem dX9_restore_33 : decode cX9_restore 33 = .ok (.getfield 158, 3) := by decide +kernel
theorem dX9_restore_36 : decode cX9_restore 36 = .ok (.aload_n 0, 1) := by decide +kernel
theorem dX9_restore_37 : decode cX9_restore 37 = .ok (.getfield 143, 3) := by decide +kernel
theorem dX9_restore_40 : decode cX9_restore 40 = .ok (.invokevirtual 313, 3) := by decide +kernel
theorem dX9_restore_43 : decode cX9_restore 43 = .ok (.aload_n 0, 1) := by decide +kernel
theorem dX9_restore_44 : decode cX9_restore 44 = .ok (.aload_n 0, 1) := by decide +kernel
theorem dX9_restore_45 : decode cX9_restore 45 = .ok (.getfield 161, 3) := by decide +kernel
theorem dX9_restore_48 : decode cX9_restore 48 = .ok (.aload_n 0, 1) := by decide +kernel
theorem dX9_restore_49 : decode cX9_restore 49 = .ok (.getfield 146, 3) := by decide +kernel
theorem dX9_restore_52 : decode cX9_restore 52 = .ok (.invokevirtual 313, 3) := by decide +kernel
theorem dX9_restore_55 : decode cX9_restore 55 = .ok (.aload_n 0, 1) := by decide +kernel
theorem dX9_restore_56 : decode cX9_restore 56 = .ok (.aload_n 0, 1) := by decide +kernel
theorem dX9_restore_57 : decode cX9_restore 57 = .ok (.getfield 164, 3) := by decide +kernel
theorem dX9_restore_60 : decode cX9_restore 60 = .ok (.aload_n 0, 1) := by decide +kernel
theorem dX9_restore_61 : decode cX9_restore 61 = .ok (.getfield 149, 3) := by decide +kernel
theorem dX9_restore_64 : decode cX9_restore 64 = .ok (.invokevirtual 313, 3) := by decide +kernel
theorem dX9_restore_67 : decode cX9_restore 67 = .ok (.aload_n 0, 1) := by decide +kernel
theorem dX9_restore_68 : decode cX9_restore 68 = .ok (.aload_n 0, 1) := by decide +kernel
theorem dX9_restore_69 : decode cX9_restore 69 = .ok (.getfield 167, 3) := by decide +kernel
theorem dX9_restore_72 : decode cX9_restore 72 = .ok (.aload_n 0, 1) := by decide +kernel
theorem dX9_restore_73 : decode cX9_restore 73 = .ok (.getfield 152, 3) := by decide +kernel
theorem dX9_restore_76 : decode cX9_restore 76 = .ok (.invokevirtual 313, 3) := by decide +kernel
theorem dX9_restore_79 : decode cX9_restore 79 = .ok (.iconst 1, 1) := by decide +kernel
theorem dX9_restore_80 : decode cX9_restore 80 = .ok (.ireturn, 1) := by decide +kernel
