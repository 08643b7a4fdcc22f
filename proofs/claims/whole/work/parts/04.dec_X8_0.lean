theorem dX8_init_0 : decode cX8_init 0 = .ok (.aload_n 0, 1) := by decide +kernel
theorem dX8_init_1 : decode cX8_init 1 = .ok (.invokespecial 1, 3) := by decide +kernel
theorem dX8_init_4 : decode cX8_init 4 = .ok (.aload_n 0, 1) := by decide +kernel
theorem dX8_init_5 : decode cX8_init 5 = .ok (.sipush 700, 3) := by decide +kernel
theorem dX8_init_8 : decode cX8_init 8 = .ok (.newarray .int, 2) := by decide +kernel
theorem dX8_init_10 : decode cX8_init 10 = .ok (.putfield 9, 3) := by decide +kernel
theorem dX8_init_13 : decode cX8_init 13 = .ok (.aload_n 0, 1) := by decide +kernel
theorem dX8_init_14 : decode cX8_init 14 = .ok (.iconst (-1), 1) := by decide +kernel
theorem dX8_init_15 : decode cX8_init 15 = .ok (.putfield 13, 3) := by decide +kernel
theorem dX8_init_18 : decode cX8_init 18 = .ok (.aload_n 0, 1) := by decide +kernel
theorem dX8_init_19 : decode cX8_init 19 = .ok (.iconst 3, 1) := by decide +kernel
theorem dX8_init_20 : decode cX8_init 20 = .ok (.newarray .int, 2) := by decide +kernel
theorem dX8_init_22 : decode cX8_init 22 = .ok (.putfield 17, 3) := by decide +kernel
theorem dX8_init_25 : decode cX8_init 25 = .ok (.aload_n 0, 1) := by decide +kernel
theorem dX8_init_26 : decode cX8_init 26 = .ok (.new 20, 3) := by decide +kernel
theorem dX8_init_29 : decode cX8_init 29 = .ok (.dup, 1) := by decide +kernel
theorem dX8_init_30 : decode cX8_init 30 = .ok (.aload_n 0, 1) := by decide +kernel
theorem dX8_init_31 : decode cX8_init 31 = .ok (.getfield 9, 3) := by decide +kernel
theorem dX8_init_34 : decode cX8_init 34 = .ok (.invokespecial 22, 3) := by decide +kernel
theorem dX8_init_37 : decode cX8_init 37 = .ok (.putfield 25, 3) := by decide +kernel
theorem dX8_init_40 : decode cX8_init 40 = .ok (.aload_n 0, 1) := by decide +kernel
theorem dX8_init_41 : decode cX8_init 41 = .ok (.new 29, 3) := by decide +kernel
theorem dX8_init_44 : decode cX8_init 44 = .ok (.dup, 1) := by decide +kernel
theorem dX8_init_45 : decode cX8_init 45 = .ok (.invokespecial 31, 3) := by decide +kernel
theorem dX8_init_48 : decode cX8_init 48 = .ok (.putfield 32, 3) := by decide +kernel
theorem dX8_init_51 : decode cX8_init 51 = .ok (.aload_n 0, 1) := by decide +kernel
theorem dX8_init_52 : decode cX8_init 52 = .ok (.new 29, 3) := by decide +kernel
theorem dX8_init_55 : decode cX8_init 55 = .ok (.dup, 1) := by decide +kernel
theorem dX8_init_56 : decode cX8_init 56 = .ok (.invokespecial 31, 3) := by decide +kernel
theorem dX8_init_59 : decode cX8_init 59 = .ok (.putfield 36, 3) := by decide +kernel
theorem dX8_init_62 : decode cX8_init 62 = .ok (.aload_n 0, 1) := by decide +kernel
theorem dX8_init_63 : decode cX8_init 63 = .ok (.new 39, 3) := by decide +kernel
theorem dX8_init_66 : decode cX8_init 66 = .ok (.dup, 1) := by decide +kernel
theorem dX8_init_67 : decode cX8_init 67 = .ok (.sipush 640, 3) := by decide +kernel
theorem dX8_init_70 : decode cX8_init 70 = .ok (.sipush 1024, 3) := by decide +kernel
theorem dX8_init_73 : decode cX8_init 73 = .ok (.invokespecial 41, 3) := by decide +kernel
theorem dX8_init_76 : decode cX8_init 76 = .ok (.putfield 44, 3) := by decide +kernel
theorem dX8_init_79 : decode cX8_init 79 = .ok (.aload_n 0, 1) := by decide +kernel
theorem dX8_init_80 : decode cX8_init 80 = .ok (.new 48, 3) := by decide +kernel
theorem dX8_init_83 : decode cX8_init 83 = .ok (.dup, 1) := by decide +kernel
theorem dX8_init_84 : decode cX8_init 84 = .ok (.invokespecial 50, 3) := by decide +kernel
theorem dX8_init_87 : decode cX8_init 87 = .ok (.putfield 51, 3) := by decide +kernel
theorem dX8_init_90 : decode cX8_init 90 = .ok (.aload_n 0, 1) := by decide +kernel
theorem dX8_init_91 : decode cX8_init 91 = .ok (.new 55, 3) := by decide +kernel
theorem dX8_init_94 : decode cX8_init 94 = .ok (.dup, 1) := by decide +kernel
theorem dX8_init_95 : decode cX8_init 95 = .ok (.invokespecial 57, 3) := by decide +kernel
theorem dX8_init_98 : decode cX8_init 98 = .ok (.putfield 58, 3) := by decide +kernel
theorem dX8_init_101 : decode cX8_init 101 = .ok (.aload_n 0, 1) := by decide +kernel
theorem dX8_init_102 : decode cX8_init 102 = .ok (.new 62, 3) := by decide +kernel
theorem dX8_init_105 : decode cX8_init 105 = .ok (.dup, 1) := by decide +kernel
theorem dX8_init_106 : decode cX8_init 106 = .ok (.invokespecial 64, 3) := by decide +kernel
theorem dX8_init_109 : decode cX8_init 109 = .ok (.putfield 65, 3) := by decide +kernel
theorem dX8_init_112 : decode cX8_init 112 = .ok (.aload_n 0, 1) := by decide +kernel
theorem dX8_init_113 : decode cX8_init 113 = .ok (.bipush 8, 2) := by decide +kernel
theorem dX8_init_115 : decode cX8_init 115 = .ok (.newarray .long, 2) := by decide +kernel
theorem dX8_init_117 : decode cX8_init 117 = .ok (.putfield 69, 3) := by decide +kernel
theorem dX8_init_120 : decode cX8_init 120 = .ok (.aload_n 0, 1) := by decide +kernel
theorem dX8_init_121 : decode cX8_init 121 = .ok (.bipush 31, 2) := by decide +kernel
theorem dX8_init_123 : decode cX8_init 123 = .ok (.newarray .long, 2) := by decide +kernel
theorem dX8_init_125 : decode cX8_init 125 = .ok (.putfield 73, 3) := by decide +kernel
theorem dX8_init_128 : decode cX8_init 128 = .ok (.aload_n 0, 1) := by decide +kernel
theorem dX8_init_129 : decode cX8_init 129 = .ok (.new 76, 3) := by decide +kernel
theorem dX8_init_132 : decode cX8_init 132 = .ok (.dup, 1) := by decide +kernel
theorem dX8_init_133 : decode cX8_init 133 = .ok (.invokespecial 78, 3) := by decide +kernel
theorem dX8_init_136 : decode cX8_init 136 = .ok (.putfield 79, 3) := by decide +kernel
theorem dX8_init_139 : decode cX8_init 139 = .ok (.aload_n 0, 1) := by decide +kernel
theorem dX8_init_140 : decode cX8_init 140 = .ok (.new 76, 3) := by decide +kernel
theorem dX8_init_143 : decode cX8_init 143 = .ok (.dup, 1) := by decide +kernel
theorem dX8_init_144 : decode cX8_init 144 = .ok (.invokespecial 78, 3) := by decide +kernel
theorem dX8_init_147 : decode cX8_init 147 = .ok (.putfield 83, 3) := by decide +kernel
theorem dX8_init_150 : decode cX8_init 150 = .ok (.return_, 1) := by decide +kernel
theorem dX8_feed_0 : decode cX8_feed 0 = .ok (.aload_n 0, 1) := by decide +kernel
theorem dX8_feed_1 : decode cX8_feed 1 = .ok (.getfield 86, 3) := by decide +kernel
theorem dX8_feed_4 : decode cX8_feed 4 = .ok (.bipush 20, 2) := by decide +kernel
theorem dX8_feed_6 : decode cX8_feed 6 = .ok (.iadd, 1) := by decide +kernel
theorem dX8_feed_7 : decode cX8_feed 7 = .ok (.sipush 700, 3) := by decide +kernel
theorem dX8_feed_10 : decode cX8_feed 10 = .ok (.if_icmp .le 5, 3) := by decide +kernel
theorem dX8_feed_13 : decode cX8_feed 13 = .ok (.iconst (-1), 1) := by decide +kernel
theorem dX8_feed_14 : decode cX8_feed 14 = .ok (.ireturn, 1) := by decide +kernel
theorem dX8_feed_15 : decode cX8_feed 15 = .ok (.aload_n 0, 1) := by decide +kernel
theorem dX8_feed_16 : decode cX8_feed 16 = .ok (.iload_n 1, 1) := by decide +kernel
theorem dX8_feed_17 : decode cX8_feed 17 = .ok (.invokevirtual 89, 3) := by decide +kernel
theorem dX8_feed_20 : decode cX8_feed 20 = .ok (.aload_n 0, 1) := by decide +kernel
theorem dX8_feed_21 : decode cX8_feed 21 = .ok (.iload_n 2, 1) := by decide +kernel
theorem dX8_feed_22 : decode cX8_feed 22 = .ok (.invokevirtual 89, 3) := by decide +kernel
theorem dX8_feed_25 : decode cX8_feed 25 = .ok (.aload_n 0, 1) := by decide +kernel
theorem dX8_feed_26 : decode cX8_feed 26 = .ok (.iload_n 3, 1) := by decide +kernel
theorem dX8_feed_27 : decode cX8_feed 27 = .ok (.invokevirtual 89, 3) := by decide +kernel
theorem dX8_feed_30 : decode cX8_feed 30 = .ok (.aload_n 0, 1) := by decide +kernel
theorem dX8_feed_31 : decode cX8_feed 31 = .ok (.iload 4, 2) := by decide +kernel
theorem dX8_feed_33 : decode cX8_feed 33 = .ok (.invokevirtual 89, 3) := by decide +kernel
theorem dX8_feed_36 : decode cX8_feed 36 = .ok (.aload_n 0, 1) := by decide +kernel
theorem dX8_feed_37 : decode cX8_feed 37 = .ok (.iload 5, 2) := by decide +kernel
theorem dX8_feed_39 : decode cX8_feed 39 = .ok (.invokevirtual 89, 3) := by decide +kernel
theorem dX8_feed_42 : decode cX8_feed 42 = .ok (.aload_n 0, 1) := by decide +kernel
theorem dX8_feed_43 : decode cX8_feed 43 = .ok (.getfield 86, 3) := by decide +kernel
theorem dX8_feed_46 : decode cX8_feed 46 = .ok (.ireturn, 1) := by decide +kernel
theorem dX8_town_0 : decode cX8_town 0 = .ok (.iload_n 1, 1) := by decide +kernel
theorem dX8_town_1 : decode cX8_town 1 = .ok (.ifCond .lt 11, 3) := by decide +kernel
theorem dX8_town_4 : decode cX8_town 4 = .ok (.iload_n 1, 1) := by decide +kernel
theorem dX8_town_5 : decode cX8_town 5 = .ok (.aload_n 0, 1) := by decide +kernel
theorem dX8_town_6 : decode cX8_town 6 = .ok (.getfield 86, 3) := by decide +kernel
theorem dX8_town_9 : decode cX8_town 9 = .ok (.if_icmp .le 13, 3) := by decide +kernel
theorem dX8_town_12 : decode cX8_town 12 = .ok (.new 93, 3) := by decide +kernel
theorem dX8_town_15 : decode cX8_town 15 = .ok (.dup, 1) := by decide +kernel
theorem dX8_town_16 : decode cX8_town 16 = .ok (.ldc 95, 2) := by decide +kernel
theorem dX8_town_18 : decode cX8_town 18 = .ok (.invokespecial 97, 3) := by decide +kernel
theorem dX8_town_21 : decode cX8_town 21 = .ok (.athrow, 1) := by decide +kernel
theorem dX8_town_22 : decode cX8_town 22 = .ok (.aload_n 0, 1) := by decide +kernel
theorem dX8_town_23 : decode cX8_town 23 = .ok (.iconst 0, 1) := by decide +kernel
theorem dX8_town_24 : decode cX8_town 24 = .ok (.putfield 86, 3) := by decide +kernel
theorem dX8_town_27 : decode cX8_town 27 = .ok (.aload_n 0, 1) := by decide +kernel
theorem dX8_town_28 : decode cX8_town 28 = .ok (.getfield 25, 3) := by decide +kernel
theorem dX8_town_31 : decode cX8_town 31 = .ok (.iload_n 1, 1) := by decide +kernel
theorem dX8_town_32 : decode cX8_town 32 = .ok (.invokevirtual 100, 3) := by decide +kernel
theorem dX8_town_35 : decode cX8_town 35 = .ok (.istore_n 2, 1) := by decide +kernel
theorem dX8_town_36 : decode cX8_town 36 = .ok (.aload_n 0, 1) := by decide +kernel
theorem dX8_town_37 : decode cX8_town 37 = .ok (.aload_n 0, 1) := by decide +kernel
theorem dX8_town_38 : decode cX8_town 38 = .ok (.getfield 25, 3) := by decide +kernel
theorem dX8_town_41 : decode cX8_town 41 = .ok (.getfield 104, 3) := by decide +kernel
theorem dX8_town_44 : decode cX8_town 44 = .ok (.putfield 13, 3) := by decide +kernel
theorem dX8_town_47 : decode cX8_town 47 = .ok (.iload_n 2, 1) := by decide +kernel
theorem dX8_town_48 : decode cX8_town 48 = .ok (.ifCond .eq 15, 3) := by decide +kernel
theorem dX8_town_51 : decode cX8_town 51 = .ok (.aload_n 0, 1) := by decide +kernel
theorem dX8_town_52 : decode cX8_town 52 = .ok (.getfield 17, 3) := by decide +kernel
theorem dX8_town_55 : decode cX8_town 55 = .ok (.iconst 0, 1) := by decide +kernel
theorem dX8_town_56 : decode cX8_town 56 = .ok (.dup2, 1) := by decide +kernel
theorem dX8_town_57 : decode cX8_town 57 = .ok (.iaload, 1) := by decide +kernel
theorem dX8_town_58 : decode cX8_town 58 = .ok (.iconst 1, 1) := by decide +kernel
theorem dX8_town_59 : decode cX8_town 59 = .ok (.iadd, 1) := by decide +kernel
theorem dX8_town_60 : decode cX8_town 60 = .ok (.iastore, 1) := by decide +kernel
theorem dX8_town_61 : decode cX8_town 61 = .ok (.iload_n 2, 1) := by decide +kernel
theorem dX8_town_62 : decode cX8_town 62 = .ok (.ireturn, 1) := by decide +kernel
theorem dX8_town_63 : decode cX8_town 63 = .ok (.aload_n 0, 1) := by decide +kernel
theorem dX8_town_64 : decode cX8_town 64 = .ok (.getfield 32, 3) := by decide +kernel
theorem dX8_town_67 : decode cX8_town 67 = .ok (.aload_n 0, 1) := by decide +kernel
theorem dX8_town_68 : decode cX8_town 68 = .ok (.getfield 25, 3) := by decide +kernel
theorem dX8_town_71 : decode cX8_town 71 = .ok (.getfield 107, 3) := by decide +kernel
theorem dX8_town_74 : decode cX8_town 74 = .ok (.invokevirtual 110, 3) := by decide +kernel
theorem dX8_town_77 : decode cX8_town 77 = .ok (.aload_n 0, 1) := by decide +kernel
theorem dX8_town_78 : decode cX8_town 78 = .ok (.invokevirtual 114, 3) := by decide +kernel
theorem dX8_town_81 : decode cX8_town 81 = .ok (.iconst 0, 1) := by decide +kernel
theorem dX8_town_82 : decode cX8_town 82 = .ok (.ireturn, 1) := by decide +kernel
theorem dX8_fault_0 : decode cX8_fault 0 = .ok (.aload_n 0, 1) := by decide +kernel
theorem dX8_fault_1 : decode cX8_fault 1 = .ok (.getfield 13, 3) := by decide +kernel
theorem dX8_fault_4 : decode cX8_fault 4 = .ok (.ireturn, 1) := by decide +kernel
theorem dX8_count_0 : decode cX8_count 0 = .ok (.iload_n 1, 1) := by decide +kernel
theorem dX8_count_1 : decode cX8_count 1 = .ok (.tableswitch 201 0 15 #[79, 87, 95, 103, 111, 119, 127, 135, 143, 151, 156, 164, 172, 180, 187, 194], 79) := by decide +kernel
theorem dX8_count_80 : decode cX8_count 80 = .ok (.aload_n 0, 1) := by decide +kernel
theorem dX8_count_81 : decode cX8_count 81 = .ok (.getfield 32, 3) := by decide +kernel
theorem dX8_count_84 : decode cX8_count 84 = .ok (.getfield 117, 3) := by decide +kernel
theorem dX8_count_87 : decode cX8_count 87 = .ok (.ireturn, 1) := by decide +kernel
theorem dX8_count_88 : decode cX8_count 88 = .ok (.aload_n 0, 1) := by decide +kernel
theorem dX8_count_89 : decode cX8_count 89 = .ok (.getfield 32, 3) := by decide +kernel
theorem dX8_count_92 : decode cX8_count 92 = .ok (.getfield 120, 3) := by decide +kernel
theorem dX8_count_95 : decode cX8_count 95 = .ok (.ireturn, 1) := by decide +kernel
theorem dX8_count_96 : decode cX8_count 96 = .ok (.aload_n 0, 1) := by decide +kernel
theorem dX8_count_97 : decode cX8_count 97 = .ok (.getfield 32, 3) := by decide +kernel
theorem dX8_count_100 : decode cX8_count 100 = .ok (.getfield 123, 3) := by decide +kernel
theorem dX8_count_103 : decode cX8_count 103 = .ok (.ireturn, 1) := by decide +kernel
theorem dX8_count_104 : decode cX8_count 104 = .ok (.aload_n 0, 1) := by decide +kernel
theorem dX8_count_105 : decode cX8_count 105 = .ok (.getfield 32, 3) := by decide +kernel
theorem dX8_count_108 : decode cX8_count 108 = .ok (.getfield 126, 3) := by decide +kernel
theorem dX8_count_111 : decode cX8_count 111 = .ok (.ireturn, 1) := by decide +kernel
theorem dX8_count_112 : decode cX8_count 112 = .ok (.aload_n 0, 1) := by decide +kernel
theorem dX8_count_113 : decode cX8_count 113 = .ok (.getfield 32, 3) := by decide +kernel
theorem dX8_count_116 : decode cX8_count 116 = .ok (.getfield 129, 3) := by decide +kernel
theorem dX8_count_119 : decode cX8_count 119 = .ok (.ireturn, 1) := by decide +kernel
theorem dX8_count_120 : decode cX8_count 120 = .ok (.aload_n 0, 1) := by decide +kernel
theorem dX8_count_121 : decode cX8_count 121 = .ok (.getfield 32, 3) := by decide +kernel
theorem dX8_count_124 : decode cX8_count 124 = .ok (.getfield 132, 3) := by decide +kernel
theorem dX8_count_127 : decode cX8_count 127 = .ok (.ireturn, 1) := by decide +kernel
theorem dX8_count_128 : decode cX8_count 128 = .ok (.aload_n 0, 1) := by decide +kernel
theorem dX8_count_129 : decode cX8_count 129 = .ok (.getfield 32, 3) := by decide +kernel
theorem dX8_count_132 : decode cX8_count 132 = .ok (.getfield 135, 3) := by decide +kernel
theorem dX8_count_135 : decode cX8_count 135 = .ok (.ireturn, 1) := by decide +kernel
theorem dX8_count_136 : decode cX8_count 136 = .ok (.aload_n 0, 1) := by decide +kernel
theorem dX8_count_137 : decode cX8_count 137 = .ok (.getfield 32, 3) := by decide +kernel
theorem dX8_count_140 : decode cX8_count 140 = .ok (.getfield 138, 3) := by decide +kernel
theorem dX8_count_143 : decode cX8_count 143 = .ok (.ireturn, 1) := by decide +kernel
theorem dX8_count_144 : decode cX8_count 144 = .ok (.aload_n 0, 1) := by decide +kernel
theorem dX8_count_145 : decode cX8_count 145 = .ok (.getfield 32, 3) := by decide +kernel
theorem dX8_count_148 : decode cX8_count 148 = .ok (.getfield 141, 3) := by decide +kernel
theorem dX8_count_151 : decode cX8_count 151 = .ok (.ireturn, 1) := by decide +kernel
theorem dX8_count_152 : decode cX8_count 152 = .ok (.aload_n 0, 1) := by decide +kernel
theorem dX8_count_153 : decode cX8_count 153 = .ok (.getfield 86, 3) := by decide +kernel
theorem dX8_count_156 : decode cX8_count 156 = .ok (.ireturn, 1) := by decide +kernel
theorem dX8_count_157 : decode cX8_count 157 = .ok (.aload_n 0, 1) := by decide +kernel
theorem dX8_count_158 : decode cX8_count 158 = .ok (.getfield 51, 3) := by decide +kernel
theorem dX8_count_161 : decode cX8_count 161 = .ok (.getfield 144, 3) := by decide +kernel
theorem dX8_count_164 : decode cX8_count 164 = .ok (.ireturn, 1) := by decide +kernel
theorem dX8_count_165 : decode cX8_count 165 = .ok (.aload_n 0, 1) := by decide +kernel
theorem dX8_count_166 : decode cX8_count 166 = .ok (.getfield 51, 3) := by decide +kernel
theorem dX8_count_169 : decode cX8_count 169 = .ok (.getfield 147, 3) := by decide +kernel
theorem dX8_count_172 : decode cX8_count 172 = .ok (.ireturn, 1) := by decide +kernel
theorem dX8_count_173 : decode cX8_count 173 = .ok (.aload_n 0, 1) := by decide +kernel
theorem dX8_count_174 : decode cX8_count 174 = .ok (.getfield 65, 3) := by decide +kernel
theorem dX8_count_177 : decode cX8_count 177 = .ok (.getfield 150, 3) := by decide +kernel
theorem dX8_count_180 : decode cX8_count 180 = .ok (.ireturn, 1) := by decide +kernel
theorem dX8_count_181 : decode cX8_count 181 = .ok (.aload_n 0, 1) := by decide +kernel
theorem dX8_count_182 : decode cX8_count 182 = .ok (.getfield 17, 3) := by decide +kernel
theorem dX8_count_185 : decode cX8_count 185 = .ok (.iconst 0, 1) := by decide +kernel
theorem dX8_count_186 : decode cX8_count 186 = .ok (.iaload, 1) := by decide +kernel
theorem dX8_count_187 : decode cX8_count 187 = .ok (.ireturn, 1) := by decide +kernel
theorem dX8_count_188 : decode cX8_count 188 = .ok (.aload_n 0, 1) := by decide +kernel
theorem dX8_count_189 : decode cX8_count 189 = .ok (.getfield 17, 3) := by decide +kernel
theorem dX8_count_192 : decode cX8_count 192 = .ok (.iconst 1, 1) := by decide +kernel
theorem dX8_count_193 : decode cX8_count 193 = .ok (.iaload, 1) := by decide +kernel
theorem dX8_count_194 : decode cX8_count 194 = .ok (.ireturn, 1) := by decide +kernel
theorem dX8_count_195 : decode cX8_count 195 = .ok (.aload_n 0, 1) := by decide +kernel
theorem dX8_count_196 : decode cX8_count 196 = .ok (.getfield 17, 3) := by decide +kernel
theorem dX8_count_199 : decode cX8_count 199 = .ok (.iconst 2, 1) := by decide +kernel
theorem dX8_count_200 : decode cX8_count 200 = .ok (.iaload, 1) := by decide +kernel
theorem dX8_count_201 : decode cX8_count 201 = .ok (.ireturn, 1) := by decide +kernel
theorem dX8_count_202 : decode cX8_count 202 = .ok (.new 153, 3) := by decide +kernel
theorem dX8_count_205 : decode cX8_count 205 = .ok (.dup, 1) := by decide +kernel
theorem dX8_count_206 : decode cX8_count 206 = .ok (.ldc 155, 2) := by decide +kernel
theorem dX8_count_208 : decode cX8_count 208 = .ok (.invokespecial 157, 3) := by decide +kernel
theorem dX8_count_211 : decode cX8_count 211 = .ok (.athrow, 1) := by decide +kernel
theorem dX8_person_0 : decode cX8_person 0 = .ok (.aload_n 0, 1) := by decide +kernel
theorem dX8_person_1 : decode cX8_person 1 = .ok (.iload_n 1, 1) := by decide +kernel
theorem dX8_person_2 : decode cX8_person 2 = .ok (.invokevirtual 158, 3) := by decide +kernel
theorem dX8_person_5 : decode cX8_person 5 = .ok (.aload_n 0, 1) := by decide +kernel
theorem dX8_person_6 : decode cX8_person 6 = .ok (.iload_n 2, 1) := by decide +kernel
theorem dX8_person_7 : decode cX8_person 7 = .ok (.iconst 2, 1) := by decide +kernel
theorem dX8_person_8 : decode cX8_person 8 = .ok (.invokevirtual 161, 3) := by decide +kernel
theorem dX8_person_11 : decode cX8_person 11 = .ok (.iload_n 2, 1) := by decide +kernel
theorem dX8_person_12 : decode cX8_person 12 = .ok (.ifCond .ne 13, 3) := by decide +kernel
theorem dX8_person_15 : decode cX8_person 15 = .ok (.aload_n 0, 1) := by decide +kernel
theorem dX8_person_16 : decode cX8_person 16 = .ok (.getfield 32, 3) := by decide +kernel
theorem dX8_person_19 : decode cX8_person 19 = .ok (.getfield 164, 3) := by decide +kernel
theorem dX8_person_22 : decode cX8_person 22 = .ok (.iload_n 1, 1) := by decide +kernel
theorem dX8_person_23 : decode cX8_person 23 = .ok (.iaload, 1) := by decide +kernel
theorem dX8_person_24 : decode cX8_person 24 = .ok (.ireturn, 1) := by decide +kernel
theorem dX8_person_25 : decode cX8_person 25 = .ok (.iload_n 2, 1) := by decide +kernel
theorem dX8_person_26 : decode cX8_person 26 = .ok (.iconst 1, 1) := by decide +kernel
theorem dX8_person_27 : decode cX8_person 27 = .ok (.if_icmp .ne 15, 3) := by decide +kernel
theorem dX8_person_30 : decode cX8_person 30 = .ok (.aload_n 0, 1) := by decide +kernel
theorem dX8_person_31 : decode cX8_person 31 = .ok (.getfield 32, 3) := by decide +kernel
theorem dX8_person_34 : decode cX8_person 34 = .ok (.getfield 167, 3) := by decide +kernel
theorem dX8_person_37 : decode cX8_person 37 = .ok (.iload_n 1, 1) := by decide +kernel
theorem dX8_person_38 : decode cX8_person 38 = .ok (.iaload, 1) := by decide +kernel
theorem dX8_person_39 : decode cX8_person 39 = .ok (.goto 12, 3) := by decide +kernel
theorem dX8_person_42 : decode cX8_person 42 = .ok (.aload_n 0, 1) := by decide +kernel
theorem dX8_person_43 : decode cX8_person 43 = .ok (.getfield 32, 3) := by decide +kernel
theorem dX8_person_46 : decode cX8_person 46 = .ok (.getfield 170, 3) := by decide +kernel
theorem dX8_person_49 : decode cX8_person 49 = .ok (.iload_n 1, 1) := by decide +kernel
theorem dX8_person_50 : decode cX8_person 50 = .ok (.iaload, 1) := by decide +kernel
theorem dX8_person_51 : decode cX8_person 51 = .ok (.ireturn, 1) := by decide +kernel
theorem dX8_weight_0 : decode cX8_weight 0 = .ok (.aload_n 0, 1) := by decide +kernel
theorem dX8_weight_1 : decode cX8_weight 1 = .ok (.iload_n 1, 1) := by decide +kernel
theorem dX8_weight_2 : decode cX8_weight 2 = .ok (.invokevirtual 158, 3) := by decide +kernel
theorem dX8_weight_5 : decode cX8_weight 5 = .ok (.aload_n 0, 1) := by decide +kernel
theorem dX8_weight_6 : decode cX8_weight 6 = .ok (.iload_n 2, 1) := by decide +kernel
theorem dX8_weight_7 : decode cX8_weight 7 = .ok (.invokevirtual 158, 3) := by decide +kernel
theorem dX8_weight_10 : decode cX8_weight 10 = .ok (.aload_n 0, 1) := by decide +kernel
theorem dX8_weight_11 : decode cX8_weight 11 = .ok (.getfield 32, 3) := by decide +kernel
theorem dX8_weight_14 : decode cX8_weight 14 = .ok (.getfield 173, 3) := by decide +kernel
theorem dX8_weight_17 : decode cX8_weight 17 = .ok (.iload_n 1, 1) := by decide +kernel
theorem dX8_weight_18 : decode cX8_weight 18 = .ok (.bipush 8, 2) := by decide +kernel
theorem dX8_weight_20 : decode cX8_weight 20 = .ok (.imul, 1) := by decide +kernel
theorem dX8_weight_21 : decode cX8_weight 21 = .ok (.iload_n 2, 1) := by decide +kernel
theorem dX8_weight_22 : decode cX8_weight 22 = .ok (.iadd, 1) := by decide +kernel
theorem dX8_weight_23 : decode cX8_weight 23 = .ok (.iaload, 1) := by decide +kernel
theorem dX8_weight_24 : decode cX8_weight 24 = .ok (.ireturn, 1) := by decide +kernel
theorem dX8_opened_0 : decode cX8_opened 0 = .ok (.aload_n 0, 1) := by decide +kernel
theorem dX8_opened_1 : decode cX8_opened 1 = .ok (.iload_n 1, 1) := by decide +kernel
theorem dX8_opened_2 : decode cX8_opened 2 = .ok (.invokevirtual 158, 3) := by decide +kernel
theorem dX8_opened_5 : decode cX8_opened 5 = .ok (.iload_n 2, 1) := by decide +kernel
theorem dX8_opened_6 : decode cX8_opened 6 = .ok (.iconst 1, 1) := by decide +kernel
theorem dX8_opened_7 : decode cX8_opened 7 = .ok (.if_icmp .lt 14, 3) := by decide +kernel
theorem dX8_opened_10 : decode cX8_opened 10 = .ok (.iload_n 2, 1) := by decide +kernel
theorem dX8_opened_11 : decode cX8_opened 11 = .ok (.aload_n 0, 1) := by decide +kernel
theorem dX8_opened_12 : decode cX8_opened 12 = .ok (.getfield 32, 3) := by decide +kernel
theorem dX8_opened_15 : decode cX8_opened 15 = .ok (.getfield 126, 3) := by decide +kernel
theorem dX8_opened_18 : decode cX8_opened 18 = .ok (.if_icmp .le 13, 3) := by decide +kernel
theorem dX8_opened_21 : decode cX8_opened 21 = .ok (.new 153, 3) := by decide +kernel
theorem dX8_opened_24 : decode cX8_opened 24 = .ok (.dup, 1) := by decide +kernel
theorem dX8_opened_25 : decode cX8_opened 25 = .ok (.ldc 176, 2) := by decide +kernel
theorem dX8_opened_27 : decode cX8_opened 27 = .ok (.invokespecial 157, 3) := by decide +kernel
theorem dX8_opened_30 : decode cX8_opened 30 = .ok (.athrow, 1) := by decide +kernel
theorem dX8_opened_31 : decode cX8_opened 31 = .ok (.aload_n 0, 1) := by decide +kernel
theorem dX8_opened_32 : decode cX8_opened 32 = .ok (.getfield 36, 3) := by decide +kernel
theorem dX8_opened_35 : decode cX8_opened 35 = .ok (.aload_n 0, 1) := by decide +kernel
theorem dX8_opened_36 : decode cX8_opened 36 = .ok (.getfield 32, 3) := by decide +kernel
theorem dX8_opened_39 : decode cX8_opened 39 = .ok (.invokevirtual 110, 3) := by decide +kernel
theorem dX8_opened_42 : decode cX8_opened 42 = .ok (.aload_n 0, 1) := by decide +kernel
theorem dX8_opened_43 : decode cX8_opened 43 = .ok (.invokevirtual 178, 3) := by decide +kernel
theorem dX8_opened_46 : decode cX8_opened 46 = .ok (.astore_n 3, 1) := by decide +kernel
theorem dX8_opened_47 : decode cX8_opened 47 = .ok (.aload_n 3, 1) := by decide +kernel
theorem dX8_opened_48 : decode cX8_opened 48 = .ok (.invokevirtual 182, 3) := by decide +kernel
theorem dX8_opened_51 : decode cX8_opened 51 = .ok (.aload_n 3, 1) := by decide +kernel
theorem dX8_opened_52 : decode cX8_opened 52 = .ok (.iload_n 1, 1) := by decide +kernel
theorem dX8_opened_53 : decode cX8_opened 53 = .ok (.iload_n 2, 1) := by decide +kernel
theorem dX8_opened_54 : decode cX8_opened 54 = .ok (.invokevirtual 185, 3) := by decide +kernel
theorem dX8_opened_57 : decode cX8_opened 57 = .ok (.l2i, 1) := by decide +kernel
theorem dX8_opened_58 : decode cX8_opened 58 = .ok (.ireturn, 1) := by decide +kernel
theorem dX8_goes_0 : decode cX8_goes 0 = .ok (.aload_n 0, 1) := by decide +kernel
theorem dX8_goes_1 : decode cX8_goes 1 = .ok (.iload_n 1, 1) := by decide +kernel
theorem dX8_goes_2 : decode cX8_goes 2 = .ok (.iconst 1, 1) := by decide +kernel
theorem dX8_goes_3 : decode cX8_goes 3 = .ok (.invokevirtual 161, 3) := by decide +kernel
theorem dX8_goes_6 : decode cX8_goes 6 = .ok (.aload_n 0, 1) := by decide +kernel
theorem dX8_goes_7 : decode cX8_goes 7 = .ok (.invokevirtual 189, 3) := by decide +kernel
theorem dX8_goes_10 : decode cX8_goes 10 = .ok (.aload_n 0, 1) := by decide +kernel
theorem dX8_goes_11 : decode cX8_goes 11 = .ok (.getfield 36, 3) := by decide +kernel
theorem dX8_goes_14 : decode cX8_goes 14 = .ok (.aload_n 0, 1) := by decide +kernel
theorem dX8_goes_15 : decode cX8_goes 15 = .ok (.getfield 32, 3) := by decide +kernel
theorem dX8_goes_18 : decode cX8_goes 18 = .ok (.invokevirtual 110, 3) := by decide +kernel
theorem dX8_goes_21 : decode cX8_goes 21 = .ok (.aload_n 0, 1) := by decide +kernel
theorem dX8_goes_22 : decode cX8_goes 22 = .ok (.invokevirtual 178, 3) := by decide +kernel
theorem dX8_goes_25 : decode cX8_goes 25 = .ok (.astore_n 2, 1) := by decide +kernel
theorem dX8_goes_26 : decode cX8_goes 26 = .ok (.aload_n 2, 1) := by decide +kernel
theorem dX8_goes_27 : decode cX8_goes 27 = .ok (.invokevirtual 182, 3) := by decide +kernel
theorem dX8_goes_30 : decode cX8_goes 30 = .ok (.iload_n 1, 1) := by decide +kernel
theorem dX8_goes_31 : decode cX8_goes 31 = .ok (.ifCond .ne 17, 3) := by decide +kernel
theorem dX8_goes_34 : decode cX8_goes 34 = .ok (.aload_n 2, 1) := by decide +kernel
theorem dX8_goes_35 : decode cX8_goes 35 = .ok (.aload_n 0, 1) := by decide +kernel
theorem dX8_goes_36 : decode cX8_goes 36 = .ok (.getfield 32, 3) := by decide +kernel
theorem dX8_goes_39 : decode cX8_goes 39 = .ok (.getfield 126, 3) := by decide +kernel
theorem dX8_goes_42 : decode cX8_goes 42 = .ok (.invokevirtual 192, 3) := by decide +kernel
theorem dX8_goes_45 : decode cX8_goes 45 = .ok (.goto 7, 3) := by decide +kernel
theorem dX8_goes_48 : decode cX8_goes 48 = .ok (.aload_n 2, 1) := by decide +kernel
theorem dX8_goes_49 : decode cX8_goes 49 = .ok (.invokevirtual 196, 3) := by decide +kernel
theorem dX8_goes_52 : decode cX8_goes 52 = .ok (.lreturn, 1) := by decide +kernel
theorem dX8_gets_0 : decode cX8_gets 0 = .ok (.aload_n 0, 1) := by decide +kernel
theorem dX8_gets_1 : decode cX8_gets 1 = .ok (.iload_n 1, 1) := by decide +kernel
theorem dX8_gets_2 : decode cX8_gets 2 = .ok (.invokevirtual 158, 3) := by decide +kernel
theorem dX8_gets_5 : decode cX8_gets 5 = .ok (.aload_n 0, 1) := by decide +kernel
theorem dX8_gets_6 : decode cX8_gets 6 = .ok (.getfield 36, 3) := by decide +kernel
theorem dX8_gets_9 : decode cX8_gets 9 = .ok (.aload_n 0, 1) := by decide +kernel
theorem dX8_gets_10 : decode cX8_gets 10 = .ok (.getfield 32, 3) := by decide +kernel
theorem dX8_gets_13 : decode cX8_gets 13 = .ok (.invokevirtual 110, 3) := by decide +kernel
theorem dX8_gets_16 : decode cX8_gets 16 = .ok (.aload_n 0, 1) := by decide +kernel
theorem dX8_gets_17 : decode cX8_gets 17 = .ok (.invokevirtual 178, 3) := by decide +kernel
theorem dX8_gets_20 : decode cX8_gets 20 = .ok (.astore_n 2, 1) := by decide +kernel
theorem dX8_gets_21 : decode cX8_gets 21 = .ok (.aload_n 2, 1) := by decide +kernel
theorem dX8_gets_22 : decode cX8_gets 22 = .ok (.sipush 255, 3) := by decide +kernel
theorem dX8_gets_25 : decode cX8_gets 25 = .ok (.invokevirtual 200, 3) := by decide +kernel
theorem dX8_gets_28 : decode cX8_gets 28 = .ok (.aload_n 2, 1) := by decide +kernel
theorem dX8_gets_29 : decode cX8_gets 29 = .ok (.getfield 203, 3) := by decide +kernel
theorem dX8_gets_32 : decode cX8_gets 32 = .ok (.iload_n 1, 1) := by decide +kernel
theorem dX8_gets_33 : decode cX8_gets 33 = .ok (.laload, 1) := by decide +kernel
theorem dX8_gets_34 : decode cX8_gets 34 = .ok (.lreturn, 1) := by decide +kernel
theorem dX8_all_0 : decode cX8_all 0 = .ok (.aload_n 0, 1) := by decide +kernel
theorem dX8_all_1 : decode cX8_all 1 = .ok (.iload_n 1, 1) := by decide +kernel
theorem dX8_all_2 : decode cX8_all 2 = .ok (.iconst 1, 1) := by decide +kernel
theorem dX8_all_3 : decode cX8_all 3 = .ok (.invokevirtual 161, 3) := by decide +kernel
theorem dX8_all_6 : decode cX8_all 6 = .ok (.aload_n 0, 1) := by decide +kernel
theorem dX8_all_7 : decode cX8_all 7 = .ok (.invokevirtual 189, 3) := by decide +kernel
theorem dX8_all_10 : decode cX8_all 10 = .ok (.aload_n 0, 1) := by decide +kernel
theorem dX8_all_11 : decode cX8_all 11 = .ok (.getfield 36, 3) := by decide +kernel
theorem dX8_all_14 : decode cX8_all 14 = .ok (.aload_n 0, 1) := by decide +kernel
theorem dX8_all_15 : decode cX8_all 15 = .ok (.getfield 32, 3) := by decide +kernel
theorem dX8_all_18 : decode cX8_all 18 = .ok (.invokevirtual 110, 3) := by decide +kernel
theorem dX8_all_21 : decode cX8_all 21 = .ok (.aload_n 0, 1) := by decide +kernel
theorem dX8_all_22 : decode cX8_all 22 = .ok (.getfield 36, 3) := by decide +kernel
theorem dX8_all_25 : decode cX8_all 25 = .ok (.invokevirtual 206, 3) := by decide +kernel
theorem dX8_all_28 : decode cX8_all 28 = .ok (.aload_n 0, 1) := by decide +kernel
theorem dX8_all_29 : decode cX8_all 29 = .ok (.invokevirtual 209, 3) := by decide +kernel
theorem dX8_all_32 : decode cX8_all 32 = .ok (.lstore_n 2, 1) := by decide +kernel
theorem dX8_all_33 : decode cX8_all 33 = .ok (.iload_n 1, 1) := by decide +kernel
theorem dX8_all_34 : decode cX8_all 34 = .ok (.ifCond .ne 10, 3) := by decide +kernel
theorem dX8_all_37 : decode cX8_all 37 = .ok (.lload_n 2, 1) := by decide +kernel
theorem dX8_all_38 : decode cX8_all 38 = .ok (.invokestatic 212, 3) := by decide +kernel
theorem dX8_all_41 : decode cX8_all 41 = .ok (.goto 7, 3) := by decide +kernel
theorem dX8_all_44 : decode cX8_all 44 = .ok (.lload_n 2, 1) := by decide +kernel
theorem dX8_all_45 : decode cX8_all 45 = .ok (.invokestatic 218, 3) := by decide +kernel
theorem dX8_all_48 : decode cX8_all 48 = .ok (.ireturn, 1) := by decide +kernel
theorem dX8_least_0 : decode cX8_least 0 = .ok (.aload_n 0, 1) := by decide +kernel
theorem dX8_least_1 : decode cX8_least 1 = .ok (.invokevirtual 189, 3) := by decide +kernel
theorem dX8_least_4 : decode cX8_least 4 = .ok (.iload_n 2, 1) := by decide +kernel
theorem dX8_least_5 : decode cX8_least 5 = .ok (.ifCond .lt 32, 3) := by decide +kernel
theorem dX8_least_8 : decode cX8_least 8 = .ok (.iload_n 3, 1) := by decide +kernel
theorem dX8_least_9 : decode cX8_least 9 = .ok (.sipush 9999, 3) := by decide +kernel
theorem dX8_least_12 : decode cX8_least 12 = .ok (.if_icmp .gt 25, 3) := by decide +kernel
theorem dX8_least_15 : decode cX8_least 15 = .ok (.iload_n 2, 1) := by decide +kernel
theorem dX8_least_16 : decode cX8_least 16 = .ok (.iload_n 3, 1) := by decide +kernel
theorem dX8_least_17 : decode cX8_least 17 = .ok (.if_icmp .gt 20, 3) := by decide +kernel
theorem dX8_least_20 : decode cX8_least 20 = .ok (.iload 4, 2) := by decide +kernel
theorem dX8_least_22 : decode cX8_least 22 = .ok (.iconst 1, 1) := by decide +kernel
theorem dX8_least_23 : decode cX8_least 23 = .ok (.if_icmp .lt 14, 3) := by decide +kernel
theorem dX8_least_26 : decode cX8_least 26 = .ok (.iload_n 3, 1) := by decide +kernel
theorem dX8_least_27 : decode cX8_least 27 = .ok (.iload_n 2, 1) := by decide +kernel
theorem dX8_least_28 : decode cX8_least 28 = .ok (.isub, 1) := by decide +kernel
theorem dX8_least_29 : decode cX8_least 29 = .ok (.iload 4, 2) := by decide +kernel
theorem dX8_least_31 : decode cX8_least 31 = .ok (.idiv, 1) := by decide +kernel
theorem dX8_least_32 : decode cX8_least 32 = .ok (.bipush 60, 2) := by decide +kernel
theorem dX8_least_34 : decode cX8_least 34 = .ok (.if_icmp .lt 13, 3) := by decide +kernel
theorem dX8_least_37 : decode cX8_least 37 = .ok (.new 93, 3) := by decide +kernel
theorem dX8_least_40 : decode cX8_least 40 = .ok (.dup, 1) := by decide +kernel
theorem dX8_least_41 : decode cX8_least 41 = .ok (.ldc 221, 2) := by decide +kernel
theorem dX8_least_43 : decode cX8_least 43 = .ok (.invokespecial 97, 3) := by decide +kernel
theorem dX8_least_46 : decode cX8_least 46 = .ok (.athrow, 1) := by decide +kernel
theorem dX8_least_47 : decode cX8_least 47 = .ok (.aload_n 0, 1) := by decide +kernel
theorem dX8_least_48 : decode cX8_least 48 = .ok (.getfield 36, 3) := by decide +kernel
theorem dX8_least_51 : decode cX8_least 51 = .ok (.aload_n 0, 1) := by decide +kernel
theorem dX8_least_52 : decode cX8_least 52 = .ok (.getfield 32, 3) := by decide +kernel
theorem dX8_least_55 : decode cX8_least 55 = .ok (.invokevirtual 110, 3) := by decide +kernel
theorem dX8_least_58 : decode cX8_least 58 = .ok (.aload_n 0, 1) := by decide +kernel
theorem dX8_least_59 : decode cX8_least 59 = .ok (.getfield 36, 3) := by decide +kernel
theorem dX8_least_62 : decode cX8_least 62 = .ok (.invokevirtual 206, 3) := by decide +kernel
theorem dX8_least_65 : decode cX8_least 65 = .ok (.iload_n 3, 1) := by decide +kernel
theorem dX8_least_66 : decode cX8_least 66 = .ok (.iload_n 2, 1) := by decide +kernel
theorem dX8_least_67 : decode cX8_least 67 = .ok (.isub, 1) := by decide +kernel
theorem dX8_least_68 : decode cX8_least 68 = .ok (.iload 4, 2) := by decide +kernel
theorem dX8_least_70 : decode cX8_least 70 = .ok (.idiv, 1) := by decide +kernel
theorem dX8_least_71 : decode cX8_least 71 = .ok (.iconst 1, 1) := by decide +kernel
theorem dX8_least_72 : decode cX8_least 72 = .ok (.iadd, 1) := by decide +kernel
theorem dX8_least_73 : decode cX8_least 73 = .ok (.istore 5, 2) := by decide +kernel
theorem dX8_least_75 : decode cX8_least 75 = .ok (.iconst 0, 1) := by decide +kernel
theorem dX8_least_76 : decode cX8_least 76 = .ok (.istore 6, 2) := by decide +kernel
theorem dX8_least_78 : decode cX8_least 78 = .ok (.iload 6, 2) := by decide +kernel
theorem dX8_least_80 : decode cX8_least 80 = .ok (.iload 5, 2) := by decide +kernel
theorem dX8_least_82 : decode cX8_least 82 = .ok (.if_icmp .ge 63, 3) := by decide +kernel
theorem dX8_least_85 : decode cX8_least 85 = .ok (.iload_n 2, 1) := by decide +kernel
theorem dX8_least_86 : decode cX8_least 86 = .ok (.iload 6, 2) := by decide +kernel
theorem dX8_least_88 : decode cX8_least 88 = .ok (.iload 4, 2) := by decide +kernel
theorem dX8_least_90 : decode cX8_least 90 = .ok (.imul, 1) := by decide +kernel
theorem dX8_least_91 : decode cX8_least 91 = .ok (.iadd, 1) := by decide +kernel
theorem dX8_least_92 : decode cX8_least 92 = .ok (.istore 7, 2) := by decide +kernel
theorem dX8_least_94 : decode cX8_least 94 = .ok (.iload_n 1, 1) := by decide +kernel
theorem dX8_least_95 : decode cX8_least 95 = .ok (.ifCond .eq 15, 3) := by decide +kernel
theorem dX8_least_98 : decode cX8_least 98 = .ok (.aload_n 0, 1) := by decide +kernel
theorem dX8_least_99 : decode cX8_least 99 = .ok (.getfield 36, 3) := by decide +kernel
theorem dX8_least_102 : decode cX8_least 102 = .ok (.iload 7, 2) := by decide +kernel
theorem dX8_least_104 : decode cX8_least 104 = .ok (.putfield 132, 3) := by decide +kernel
theorem dX8_least_107 : decode cX8_least 107 = .ok (.goto 12, 3) := by decide +kernel
theorem dX8_least_110 : decode cX8_least 110 = .ok (.aload_n 0, 1) := by decide +kernel
theorem dX8_least_111 : decode cX8_least 111 = .ok (.getfield 36, 3) := by decide +kernel
theorem dX8_least_114 : decode cX8_least 114 = .ok (.iload 7, 2) := by decide +kernel
theorem dX8_least_116 : decode cX8_least 116 = .ok (.putfield 129, 3) := by decide +kernel
theorem dX8_least_119 : decode cX8_least 119 = .ok (.aload_n 0, 1) := by decide +kernel
theorem dX8_least_120 : decode cX8_least 120 = .ok (.invokevirtual 209, 3) := by decide +kernel
theorem dX8_least_123 : decode cX8_least 123 = .ok (.invokestatic 218, 3) := by decide +kernel
theorem dX8_least_126 : decode cX8_least 126 = .ok (.aload_n 0, 1) := by decide +kernel
theorem dX8_least_127 : decode cX8_least 127 = .ok (.getfield 32, 3) := by decide +kernel
theorem dX8_least_130 : decode cX8_least 130 = .ok (.getfield 126, 3) := by decide +kernel
theorem dX8_least_133 : decode cX8_least 133 = .ok (.if_icmp .ne 6, 3) := by decide +kernel
theorem dX8_least_136 : decode cX8_least 136 = .ok (.iload 7, 2) := by decide +kernel
theorem dX8_least_138 : decode cX8_least 138 = .ok (.ireturn, 1) := by decide +kernel
theorem dX8_least_139 : decode cX8_least 139 = .ok (.iinc 6 1, 3) := by decide +kernel
theorem dX8_least_142 : decode cX8_least 142 = .ok (.goto (-64), 3) := by decide +kernel
theorem dX8_least_145 : decode cX8_least 145 = .ok (.iconst (-1), 1) := by decide +kernel
theorem dX8_least_146 : decode cX8_least 146 = .ok (.ireturn, 1) := by decide +kernel
theorem dX8_one_0 : decode cX8_one 0 = .ok (.aload_n 0, 1) := by decide +kernel
theorem dX8_one_1 : decode cX8_one 1 = .ok (.iload_n 1, 1) := by decide +kernel
theorem dX8_one_2 : decode cX8_one 2 = .ok (.invokevirtual 158, 3) := by decide +kernel
theorem dX8_one_5 : decode cX8_one 5 = .ok (.aload_n 0, 1) := by decide +kernel
theorem dX8_one_6 : decode cX8_one 6 = .ok (.iload 4, 2) := by decide +kernel
theorem dX8_one_8 : decode cX8_one 8 = .ok (.iconst 1, 1) := by decide +kernel
theorem dX8_one_9 : decode cX8_one 9 = .ok (.invokevirtual 161, 3) := by decide +kernel
theorem dX8_one_12 : decode cX8_one 12 = .ok (.iload_n 2, 1) := by decide +kernel
theorem dX8_one_13 : decode cX8_one 13 = .ok (.ifCond .lt 23, 3) := by decide +kernel
theorem dX8_one_16 : decode cX8_one 16 = .ok (.iload_n 2, 1) := by decide +kernel
theorem dX8_one_17 : decode cX8_one 17 = .ok (.sipush 9999, 3) := by decide +kernel
theorem dX8_one_20 : decode cX8_one 20 = .ok (.if_icmp .gt 16, 3) := by decide +kernel
theorem dX8_one_23 : decode cX8_one 23 = .ok (.iload_n 3, 1) := by decide +kernel
theorem dX8_one_24 : decode cX8_one 24 = .ok (.iconst 1, 1) := by decide +kernel
theorem dX8_one_25 : decode cX8_one 25 = .ok (.if_icmp .lt 11, 3) := by decide +kernel
theorem dX8_one_28 : decode cX8_one 28 = .ok (.iload_n 2, 1) := by decide +kernel
theorem dX8_one_29 : decode cX8_one 29 = .ok (.iload_n 3, 1) := by decide +kernel
theorem dX8_one_30 : decode cX8_one 30 = .ok (.idiv, 1) := by decide +kernel
theorem dX8_one_31 : decode cX8_one 31 = .ok (.bipush 60, 2) := by decide +kernel
theorem dX8_one_33 : decode cX8_one 33 = .ok (.if_icmp .lt 13, 3) := by decide +kernel
theorem dX8_one_36 : decode cX8_one 36 = .ok (.new 93, 3) := by decide +kernel
theorem dX8_one_39 : decode cX8_one 39 = .ok (.dup, 1) := by decide +kernel
theorem dX8_one_40 : decode cX8_one 40 = .ok (.ldc 221, 2) := by decide +kernel
theorem dX8_one_42 : decode cX8_one 42 = .ok (.invokespecial 97, 3) := by decide +kernel
theorem dX8_one_45 : decode cX8_one 45 = .ok (.athrow, 1) := by decide +kernel
theorem dX8_one_46 : decode cX8_one 46 = .ok (.aload_n 0, 1) := by decide +kernel
theorem dX8_one_47 : decode cX8_one 47 = .ok (.getfield 36, 3) := by decide +kernel
theorem dX8_one_50 : decode cX8_one 50 = .ok (.aload_n 0, 1) := by decide +kernel
theorem dX8_one_51 : decode cX8_one 51 = .ok (.getfield 32, 3) := by decide +kernel
theorem dX8_one_54 : decode cX8_one 54 = .ok (.invokevirtual 110, 3) := by decide +kernel
theorem dX8_one_57 : decode cX8_one 57 = .ok (.aload_n 0, 1) := by decide +kernel
theorem dX8_one_58 : decode cX8_one 58 = .ok (.getfield 36, 3) := by decide +kernel
theorem dX8_one_61 : decode cX8_one 61 = .ok (.getfield 164, 3) := by decide +kernel
theorem dX8_one_64 : decode cX8_one 64 = .ok (.iload_n 1, 1) := by decide +kernel
theorem dX8_one_65 : decode cX8_one 65 = .ok (.iconst 0, 1) := by decide +kernel
theorem dX8_one_66 : decode cX8_one 66 = .ok (.iastore, 1) := by decide +kernel
theorem dX8_one_67 : decode cX8_one 67 = .ok (.iload_n 2, 1) := by decide +kernel
theorem dX8_one_68 : decode cX8_one 68 = .ok (.iload_n 3, 1) := by decide +kernel
theorem dX8_one_69 : decode cX8_one 69 = .ok (.idiv, 1) := by decide +kernel
theorem dX8_one_70 : decode cX8_one 70 = .ok (.iconst 1, 1) := by decide +kernel
theorem dX8_one_71 : decode cX8_one 71 = .ok (.iadd, 1) := by decide +kernel
theorem dX8_one_72 : decode cX8_one 72 = .ok (.istore 5, 2) := by decide +kernel
theorem dX8_one_74 : decode cX8_one 74 = .ok (.iconst (-1), 1) := by decide +kernel
theorem dX8_one_75 : decode cX8_one 75 = .ok (.istore 6, 2) := by decide +kernel
theorem dX8_one_77 : decode cX8_one 77 = .ok (.iconst 0, 1) := by decide +kernel
theorem dX8_one_78 : decode cX8_one 78 = .ok (.istore 7, 2) := by decide +kernel
theorem dX8_one_80 : decode cX8_one 80 = .ok (.lconst 0, 1) := by decide +kernel
theorem dX8_one_81 : decode cX8_one 81 = .ok (.lstore 8, 2) := by decide +kernel
theorem dX8_one_83 : decode cX8_one 83 = .ok (.iconst 0, 1) := by decide +kernel
theorem dX8_one_84 : decode cX8_one 84 = .ok (.istore 10, 2) := by decide +kernel
theorem dX8_one_86 : decode cX8_one 86 = .ok (.iload 10, 2) := by decide +kernel
theorem dX8_one_88 : decode cX8_one 88 = .ok (.iload 5, 2) := by decide +kernel
theorem dX8_one_90 : decode cX8_one 90 = .ok (.if_icmp .ge 81, 3) := by decide +kernel
theorem dX8_one_93 : decode cX8_one 93 = .ok (.aload_n 0, 1) := by decide +kernel
theorem dX8_one_94 : decode cX8_one 94 = .ok (.getfield 36, 3) := by decide +kernel
theorem dX8_one_97 : decode cX8_one 97 = .ok (.iload 10, 2) := by decide +kernel
theorem dX8_one_99 : decode cX8_one 99 = .ok (.iload_n 3, 1) := by decide +kernel
theorem dX8_one_100 : decode cX8_one 100 = .ok (.imul, 1) := by decide +kernel
theorem dX8_one_101 : decode cX8_one 101 = .ok (.invokevirtual 223, 3) := by decide +kernel
theorem dX8_one_104 : decode cX8_one 104 = .ok (.istore 11, 2) := by decide +kernel
theorem dX8_one_106 : decode cX8_one 106 = .ok (.iload 10, 2) := by decide +kernel
theorem dX8_one_108 : decode cX8_one 108 = .ok (.ifCond .eq 10, 3) := by decide +kernel
theorem dX8_one_111 : decode cX8_one 111 = .ok (.iload 11, 2) := by decide +kernel
theorem dX8_one_113 : decode cX8_one 113 = .ok (.iload 6, 2) := by decide +kernel
theorem dX8_one_115 : decode cX8_one 115 = .ok (.if_icmp .eq 50, 3) := by decide +kernel
theorem dX8_one_118 : decode cX8_one 118 = .ok (.iload 11, 2) := by decide +kernel
theorem dX8_one_120 : decode cX8_one 120 = .ok (.istore 6, 2) := by decide +kernel
theorem dX8_one_122 : decode cX8_one 122 = .ok (.aload_n 0, 1) := by decide +kernel
theorem dX8_one_123 : decode cX8_one 123 = .ok (.getfield 36, 3) := by decide +kernel
theorem dX8_one_126 : decode cX8_one 126 = .ok (.getfield 167, 3) := by decide +kernel
theorem dX8_one_129 : decode cX8_one 129 = .ok (.iload_n 1, 1) := by decide +kernel
theorem dX8_one_130 : decode cX8_one 130 = .ok (.iload 10, 2) := by decide +kernel
theorem dX8_one_132 : decode cX8_one 132 = .ok (.iload_n 3, 1) := by decide +kernel
theorem dX8_one_133 : decode cX8_one 133 = .ok (.imul, 1) := by decide +kernel
theorem dX8_one_134 : decode cX8_one 134 = .ok (.iastore, 1) := by decide +kernel
theorem dX8_one_135 : decode cX8_one 135 = .ok (.aload_n 0, 1) := by decide +kernel
theorem dX8_one_136 : decode cX8_one 136 = .ok (.iload_n 1, 1) := by decide +kernel
theorem dX8_one_137 : decode cX8_one 137 = .ok (.invokevirtual 226, 3) := by decide +kernel
theorem dX8_one_140 : decode cX8_one 140 = .ok (.lstore 12, 2) := by decide +kernel
theorem dX8_one_142 : decode cX8_one 142 = .ok (.iload 10, 2) := by decide +kernel
theorem dX8_one_144 : decode cX8_one 144 = .ok (.ifCond .eq 11, 3) := by decide +kernel
theorem dX8_one_147 : decode cX8_one 147 = .ok (.lload 12, 2) := by decide +kernel
theorem dX8_one_149 : decode cX8_one 149 = .ok (.lload 8, 2) := by decide +kernel
theorem dX8_one_151 : decode cX8_one 151 = .ok (.lcmp, 1) := by decide +kernel
theorem dX8_one_152 : decode cX8_one 152 = .ok (.ifCond .le 13, 3) := by decide +kernel
theorem dX8_one_155 : decode cX8_one 155 = .ok (.lload 12, 2) := by decide +kernel
theorem dX8_one_157 : decode cX8_one 157 = .ok (.lstore 8, 2) := by decide +kernel
theorem dX8_one_159 : decode cX8_one 159 = .ok (.iload 10, 2) := by decide +kernel
theorem dX8_one_161 : decode cX8_one 161 = .ok (.iload_n 3, 1) := by decide +kernel
theorem dX8_one_162 : decode cX8_one 162 = .ok (.imul, 1) := by decide +kernel
theorem dX8_one_163 : decode cX8_one 163 = .ok (.istore 7, 2) := by decide +kernel
theorem dX8_one_165 : decode cX8_one 165 = .ok (.iinc 10 1, 3) := by decide +kernel
theorem dX8_one_168 : decode cX8_one 168 = .ok (.goto (-82), 3) := by decide +kernel
theorem dX8_one_171 : decode cX8_one 171 = .ok (.iload 4, 2) := by decide +kernel
theorem dX8_one_173 : decode cX8_one 173 = .ok (.ifCond .ne 9, 3) := by decide +kernel
theorem dX8_one_176 : decode cX8_one 176 = .ok (.iload 7, 2) := by decide +kernel
theorem dX8_one_178 : decode cX8_one 178 = .ok (.i2l, 1) := by decide +kernel
theorem dX8_one_179 : decode cX8_one 179 = .ok (.goto 5, 3) := by decide +kernel
theorem dX8_one_182 : decode cX8_one 182 = .ok (.lload 8, 2) := by decide +kernel
theorem dX8_one_184 : decode cX8_one 184 = .ok (.lreturn, 1) := by decide +kernel
theorem dX8_named_0 : decode cX8_named 0 = .ok (.aload_n 0, 1) := by decide +kernel
theorem dX8_named_1 : decode cX8_named 1 = .ok (.iload_n 1, 1) := by decide +kernel
theorem dX8_named_2 : decode cX8_named 2 = .ok (.invokevirtual 158, 3) := by decide +kernel
theorem dX8_named_5 : decode cX8_named 5 = .ok (.aload_n 0, 1) := by decide +kernel
theorem dX8_named_6 : decode cX8_named 6 = .ok (.getfield 36, 3) := by decide +kernel
theorem dX8_named_9 : decode cX8_named 9 = .ok (.aload_n 0, 1) := by decide +kernel
theorem dX8_named_10 : decode cX8_named 10 = .ok (.getfield 32, 3) := by decide +kernel
theorem dX8_named_13 : decode cX8_named 13 = .ok (.invokevirtual 110, 3) := by decide +kernel
theorem dX8_named_16 : decode cX8_named 16 = .ok (.aload_n 0, 1) := by decide +kernel
theorem dX8_named_17 : decode cX8_named 17 = .ok (.getfield 36, 3) := by decide +kernel
theorem dX8_named_20 : decode cX8_named 20 = .ok (.iload_n 1, 1) := by decide +kernel
theorem dX8_named_21 : decode cX8_named 21 = .ok (.putfield 141, 3) := by decide +kernel
theorem dX8_named_24 : decode cX8_named 24 = .ok (.aload_n 0, 1) := by decide +kernel
theorem dX8_named_25 : decode cX8_named 25 = .ok (.getfield 36, 3) := by decide +kernel
theorem dX8_named_28 : decode cX8_named 28 = .ok (.getfield 164, 3) := by decide +kernel
theorem dX8_named_31 : decode cX8_named 31 = .ok (.iload_n 1, 1) := by decide +kernel
theorem dX8_named_32 : decode cX8_named 32 = .ok (.iconst 3, 1) := by decide +kernel
theorem dX8_named_33 : decode cX8_named 33 = .ok (.iastore, 1) := by decide +kernel
theorem dX8_named_34 : decode cX8_named 34 = .ok (.aload_n 0, 1) := by decide +kernel
theorem dX8_named_35 : decode cX8_named 35 = .ok (.getfield 36, 3) := by decide +kernel
theorem dX8_named_38 : decode cX8_named 38 = .ok (.getfield 167, 3) := by decide +kernel
theorem dX8_named_41 : decode cX8_named 41 = .ok (.iload_n 1, 1) := by decide +kernel
theorem dX8_named_42 : decode cX8_named 42 = .ok (.iconst 0, 1) := by decide +kernel
theorem dX8_named_43 : decode cX8_named 43 = .ok (.iastore, 1) := by decide +kernel
theorem dX8_named_44 : decode cX8_named 44 = .ok (.aload_n 0, 1) := by decide +kernel
theorem dX8_named_45 : decode cX8_named 45 = .ok (.invokevirtual 178, 3) := by decide +kernel
theorem dX8_named_48 : decode cX8_named 48 = .ok (.astore_n 2, 1) := by decide +kernel
theorem dX8_named_49 : decode cX8_named 49 = .ok (.aload_n 2, 1) := by decide +kernel
theorem dX8_named_50 : decode cX8_named 50 = .ok (.iconst 0, 1) := by decide +kernel
theorem dX8_named_51 : decode cX8_named 51 = .ok (.invokevirtual 200, 3) := by decide +kernel
theorem dX8_named_54 : decode cX8_named 54 = .ok (.aload_n 2, 1) := by decide +kernel
theorem dX8_named_55 : decode cX8_named 55 = .ok (.iconst 0, 1) := by decide +kernel
theorem dX8_named_56 : decode cX8_named 56 = .ok (.invokevirtual 229, 3) := by decide +kernel
theorem dX8_named_59 : decode cX8_named 59 = .ok (.istore_n 3, 1) := by decide +kernel
theorem dX8_named_60 : decode cX8_named 60 = .ok (.iload_n 3, 1) := by decide +kernel
theorem dX8_named_61 : decode cX8_named 61 = .ok (.ifCond .ge 7, 3) := by decide +kernel
theorem dX8_named_64 : decode cX8_named 64 = .ok (.ldc2_w 232, 3) := by decide +kernel
theorem dX8_named_67 : decode cX8_named 67 = .ok (.lreturn, 1) := by decide +kernel
theorem dX8_named_68 : decode cX8_named 68 = .ok (.ldc2_w 234, 3) := by decide +kernel
theorem dX8_named_71 : decode cX8_named 71 = .ok (.aload_n 0, 1) := by decide +kernel
theorem dX8_named_72 : decode cX8_named 72 = .ok (.getfield 32, 3) := by decide +kernel
theorem dX8_named_75 : decode cX8_named 75 = .ok (.getfield 120, 3) := by decide +kernel
theorem dX8_named_78 : decode cX8_named 78 = .ok (.i2l, 1) := by decide +kernel
theorem dX8_named_79 : decode cX8_named 79 = .ok (.lmul, 1) := by decide +kernel
theorem dX8_named_80 : decode cX8_named 80 = .ok (.aload_n 2, 1) := by decide +kernel
theorem dX8_named_81 : decode cX8_named 81 = .ok (.iconst 0, 1) := by decide +kernel
theorem dX8_named_82 : decode cX8_named 82 = .ok (.iload_n 3, 1) := by decide +kernel
theorem dX8_named_83 : decode cX8_named 83 = .ok (.invokevirtual 236, 3) := by decide +kernel
theorem dX8_named_86 : decode cX8_named 86 = .ok (.lsub, 1) := by decide +kernel
theorem dX8_named_87 : decode cX8_named 87 = .ok (.lstore 4, 2) := by decide +kernel
theorem dX8_named_89 : decode cX8_named 89 = .ok (.lload 4, 2) := by decide +kernel
theorem dX8_named_91 : decode cX8_named 91 = .ok (.lconst 0, 1) := by decide +kernel
theorem dX8_named_92 : decode cX8_named 92 = .ok (.lcmp, 1) := by decide +kernel
theorem dX8_named_93 : decode cX8_named 93 = .ok (.ifCond .ge 7, 3) := by decide +kernel
theorem dX8_named_96 : decode cX8_named 96 = .ok (.lconst 0, 1) := by decide +kernel
theorem dX8_named_97 : decode cX8_named 97 = .ok (.goto 11, 3) := by decide +kernel
theorem dX8_named_100 : decode cX8_named 100 = .ok (.lload 4, 2) := by decide +kernel
theorem dX8_named_102 : decode cX8_named 102 = .ok (.ldc2_w 234, 3) := by decide +kernel
theorem dX8_named_105 : decode cX8_named 105 = .ok (.ldiv, 1) := by decide +kernel
theorem dX8_named_106 : decode cX8_named 106 = .ok (.lconst 1, 1) := by decide +kernel
theorem dX8_named_107 : decode cX8_named 107 = .ok (.ladd, 1) := by decide +kernel
theorem dX8_named_108 : decode cX8_named 108 = .ok (.lreturn, 1) := by decide +kernel
theorem dX8_hand_0 : decode cX8_hand 0 = .ok (.aload_n 0, 1) := by decide +kernel
theorem dX8_hand_1 : decode cX8_hand 1 = .ok (.iload_n 1, 1) := by decide +kernel
theorem dX8_hand_2 : decode cX8_hand 2 = .ok (.invokevirtual 158, 3) := by decide +kernel
theorem dX8_hand_5 : decode cX8_hand 5 = .ok (.aload_n 0, 1) := by decide +kernel
theorem dX8_hand_6 : decode cX8_hand 6 = .ok (.getfield 51, 3) := by decide +kernel
theorem dX8_hand_9 : decode cX8_hand 9 = .ok (.iload_n 1, 1) := by decide +kernel
theorem dX8_hand_10 : decode cX8_hand 10 = .ok (.invokevirtual 239, 3) := by decide +kernel
theorem dX8_hand_13 : decode cX8_hand 13 = .ok (.ifCond .ne 15, 3) := by decide +kernel
theorem dX8_hand_16 : decode cX8_hand 16 = .ok (.aload_n 0, 1) := by decide +kernel
theorem dX8_hand_17 : decode cX8_hand 17 = .ok (.getfield 17, 3) := by decide +kernel
theorem dX8_hand_20 : decode cX8_hand 20 = .ok (.iconst 1, 1) := by decide +kernel
theorem dX8_hand_21 : decode cX8_hand 21 = .ok (.dup2, 1) := by decide +kernel
theorem dX8_hand_22 : decode cX8_hand 22 = .ok (.iaload, 1) := by decide +kernel
theorem dX8_hand_23 : decode cX8_hand 23 = .ok (.iconst 1, 1) := by decide +kernel
theorem dX8_hand_24 : decode cX8_hand 24 = .ok (.iadd, 1) := by decide +kernel
theorem dX8_hand_25 : decode cX8_hand 25 = .ok (.iastore, 1) := by decide +kernel
theorem dX8_hand_26 : decode cX8_hand 26 = .ok (.iconst (-1), 1) := by decide +kernel
theorem dX8_hand_27 : decode cX8_hand 27 = .ok (.ireturn, 1) := by decide +kernel
theorem dX8_hand_28 : decode cX8_hand 28 = .ok (.aload_n 0, 1) := by decide +kernel
theorem dX8_hand_29 : decode cX8_hand 29 = .ok (.getfield 51, 3) := by decide +kernel
theorem dX8_hand_32 : decode cX8_hand 32 = .ok (.getfield 144, 3) := by decide +kernel
theorem dX8_hand_35 : decode cX8_hand 35 = .ok (.ireturn, 1) := by decide +kernel
theorem dX8_judge_0 : decode cX8_judge 0 = .ok (.aload_n 0, 1) := by decide +kernel
theorem dX8_judge_1 : decode cX8_judge 1 = .ok (.getfield 51, 3) := by decide +kernel
theorem dX8_judge_4 : decode cX8_judge 4 = .ok (.aload_n 0, 1) := by decide +kernel
theorem dX8_judge_5 : decode cX8_judge 5 = .ok (.getfield 32, 3) := by decide +kernel
theorem dX8_judge_8 : decode cX8_judge 8 = .ok (.invokevirtual 243, 3) := by decide +kernel
theorem dX8_judge_11 : decode cX8_judge 11 = .ok (.ireturn, 1) := by decide +kernel
theorem dX8_odds_0 : decode cX8_odds 0 = .ok (.aload_n 0, 1) := by decide +kernel
theorem dX8_odds_1 : decode cX8_odds 1 = .ok (.getfield 32, 3) := by decide +kernel
theorem dX8_odds_4 : decode cX8_odds 4 = .ok (.getfield 117, 3) := by decide +kernel
theorem dX8_odds_7 : decode cX8_odds 7 = .ok (.ifCond .ne 5, 3) := by decide +kernel
theorem dX8_odds_10 : decode cX8_odds 10 = .ok (.iconst 0, 1) := by decide +kernel
theorem dX8_odds_11 : decode cX8_odds 11 = .ok (.ireturn, 1) := by decide +kernel
theorem dX8_odds_12 : decode cX8_odds 12 = .ok (.aload_n 0, 1) := by decide +kernel
theorem dX8_odds_13 : decode cX8_odds 13 = .ok (.getfield 36, 3) := by decide +kernel
theorem dX8_odds_16 : decode cX8_odds 16 = .ok (.aload_n 0, 1) := by decide +kernel
theorem dX8_odds_17 : decode cX8_odds 17 = .ok (.getfield 32, 3) := by decide +kernel
theorem dX8_odds_20 : decode cX8_odds 20 = .ok (.invokevirtual 110, 3) := by decide +kernel
theorem dX8_odds_23 : decode cX8_odds 23 = .ok (.aload_n 0, 1) := by decide +kernel
theorem dX8_odds_24 : decode cX8_odds 24 = .ok (.invokevirtual 178, 3) := by decide +kernel
theorem dX8_odds_27 : decode cX8_odds 27 = .ok (.astore_n 1, 1) := by decide +kernel
theorem dX8_odds_28 : decode cX8_odds 28 = .ok (.aload_n 1, 1) := by decide +kernel
theorem dX8_odds_29 : decode cX8_odds 29 = .ok (.invokevirtual 247, 3) := by decide +kernel
theorem dX8_odds_32 : decode cX8_odds 32 = .ok (.aload_n 1, 1) := by decide +kernel
theorem dX8_odds_33 : decode cX8_odds 33 = .ok (.aload_n 0, 1) := by decide +kernel
theorem dX8_odds_34 : decode cX8_odds 34 = .ok (.getfield 51, 3) := by decide +kernel
theorem dX8_odds_37 : decode cX8_odds 37 = .ok (.getfield 250, 3) := by decide +kernel
theorem dX8_odds_40 : decode cX8_odds 40 = .ok (.iconst 0, 1) := by decide +kernel
theorem dX8_odds_41 : decode cX8_odds 41 = .ok (.aload_n 0, 1) := by decide +kernel
theorem dX8_odds_42 : decode cX8_odds 42 = .ok (.getfield 51, 3) := by decide +kernel
theorem dX8_odds_45 : decode cX8_odds 45 = .ok (.getfield 144, 3) := by decide +kernel
theorem dX8_odds_48 : decode cX8_odds 48 = .ok (.invokevirtual 253, 3) := by decide +kernel
theorem dX8_odds_51 : decode cX8_odds 51 = .ok (.l2i, 1) := by decide +kernel
theorem dX8_odds_52 : decode cX8_odds 52 = .ok (.ireturn, 1) := by decide +kernel
theorem dX8_ended_0 : decode cX8_ended 0 = .ok (.aload_n 0, 1) := by decide +kernel
theorem dX8_ended_1 : decode cX8_ended 1 = .ok (.getfield 51, 3) := by decide +kernel
theorem dX8_ended_4 : decode cX8_ended 4 = .ok (.invokevirtual 257, 3) := by decide +kernel
theorem dX8_ended_7 : decode cX8_ended 7 = .ok (.ifCond .eq 13, 3) := by decide +kernel
theorem dX8_ended_10 : decode cX8_ended 10 = .ok (.aload_n 0, 1) := by decide +kernel
theorem dX8_ended_11 : decode cX8_ended 11 = .ok (.getfield 51, 3) := by decide +kernel
theorem dX8_ended_14 : decode cX8_ended 14 = .ok (.getfield 147, 3) := by decide +kernel
theorem dX8_ended_17 : decode cX8_ended 17 = .ok (.goto 4, 3) := by decide +kernel
theorem dX8_ended_20 : decode cX8_ended 20 = .ok (.iconst (-1), 1) := by decide +kernel
theorem dX8_ended_21 : decode cX8_ended 21 = .ok (.ireturn, 1) := by decide +kernel
theorem dX8_guess_0 : decode cX8_guess 0 = .ok (.aload_n 0, 1) := by decide +kernel
theorem dX8_guess_1 : decode cX8_guess 1 = .ok (.iload_n 1, 1) := by decide +kernel
theorem dX8_guess_2 : decode cX8_guess 2 = .ok (.invokevirtual 261, 3) := by decide +kernel
theorem dX8_guess_5 : decode cX8_guess 5 = .ok (.aload_n 0, 1) := by decide +kernel
theorem dX8_guess_6 : decode cX8_guess 6 = .ok (.iload_n 2, 1) := by decide +kernel
theorem dX8_guess_7 : decode cX8_guess 7 = .ok (.invokevirtual 158, 3) := by decide +kernel
theorem dX8_guess_10 : decode cX8_guess 10 = .ok (.iload_n 3, 1) := by decide +kernel
theorem dX8_guess_11 : decode cX8_guess 11 = .ok (.ifCond .lt 8, 3) := by decide +kernel
theorem dX8_guess_14 : decode cX8_guess 14 = .ok (.iload_n 3, 1) := by decide +kernel
theorem dX8_guess_15 : decode cX8_guess 15 = .ok (.iconst 3, 1) := by decide +kernel
theorem dX8_guess_16 : decode cX8_guess 16 = .ok (.if_icmp .le 5, 3) := by decide +kernel
theorem dX8_guess_19 : decode cX8_guess 19 = .ok (.iconst 0, 1) := by decide +kernel
theorem dX8_guess_20 : decode cX8_guess 20 = .ok (.ireturn, 1) := by decide +kernel
theorem dX8_guess_21 : decode cX8_guess 21 = .ok (.iload_n 3, 1) := by decide +kernel
theorem dX8_guess_22 : decode cX8_guess 22 = .ok (.iconst 1, 1) := by decide +kernel
theorem dX8_guess_23 : decode cX8_guess 23 = .ok (.if_icmp .eq 29, 3) := by decide +kernel
theorem dX8_guess_26 : decode cX8_guess 26 = .ok (.iload 4, 2) := by decide +kernel
theorem dX8_guess_28 : decode cX8_guess 28 = .ok (.ifCond .lt 22, 3) := by decide +kernel
theorem dX8_guess_31 : decode cX8_guess 31 = .ok (.iload 4, 2) := by decide +kernel
theorem dX8_guess_33 : decode cX8_guess 33 = .ok (.iload_n 3, 1) := by decide +kernel
theorem dX8_guess_34 : decode cX8_guess 34 = .ok (.iconst 2, 1) := by decide +kernel
theorem dX8_guess_35 : decode cX8_guess 35 = .ok (.if_icmp .ne 9, 3) := by decide +kernel
theorem dX8_guess_38 : decode cX8_guess 38 = .ok (.sipush 1000, 3) := by decide +kernel
theorem dX8_guess_41 : decode cX8_guess 41 = .ok (.goto 6, 3) := by decide +kernel
theorem dX8_guess_44 : decode cX8_guess 44 = .ok (.sipush 9999, 3) := by decide +kernel
theorem dX8_guess_47 : decode cX8_guess 47 = .ok (.if_icmp .le 5, 3) := by decide +kernel
theorem dX8_guess_50 : decode cX8_guess 50 = .ok (.iconst 0, 1) := by decide +kernel
theorem dX8_guess_51 : decode cX8_guess 51 = .ok (.ireturn, 1) := by decide +kernel
theorem dX8_guess_52 : decode cX8_guess 52 = .ok (.aload_n 0, 1) := by decide +kernel
theorem dX8_guess_53 : decode cX8_guess 53 = .ok (.getfield 58, 3) := by decide +kernel
theorem dX8_guess_56 : decode cX8_guess 56 = .ok (.iload_n 1, 1) := by decide +kernel
theorem dX8_guess_57 : decode cX8_guess 57 = .ok (.iload_n 2, 1) := by decide +kernel
theorem dX8_guess_58 : decode cX8_guess 58 = .ok (.iload_n 3, 1) := by decide +kernel
theorem dX8_guess_59 : decode cX8_guess 59 = .ok (.iload_n 3, 1) := by decide +kernel
theorem dX8_guess_60 : decode cX8_guess 60 = .ok (.iconst 1, 1) := by decide +kernel
theorem dX8_guess_61 : decode cX8_guess 61 = .ok (.if_icmp .ne 7, 3) := by decide +kernel
theorem dX8_guess_64 : decode cX8_guess 64 = .ok (.iconst 0, 1) := by decide +kernel
theorem dX8_guess_65 : decode cX8_guess 65 = .ok (.goto 5, 3) := by decide +kernel
theorem dX8_guess_68 : decode cX8_guess 68 = .ok (.iload 4, 2) := by decide +kernel
theorem dX8_guess_70 : decode cX8_guess 70 = .ok (.invokevirtual 264, 3) := by decide +kernel
theorem dX8_guess_73 : decode cX8_guess 73 = .ok (.iconst 1, 1) := by decide +kernel
theorem dX8_guess_74 : decode cX8_guess 74 = .ok (.ireturn, 1) := by decide +kernel
theorem dX8_credit_0 : decode cX8_credit 0 = .ok (.aload_n 0, 1) := by decide +kernel
theorem dX8_credit_1 : decode cX8_credit 1 = .ok (.iload_n 1, 1) := by decide +kernel
theorem dX8_credit_2 : decode cX8_credit 2 = .ok (.invokevirtual 261, 3) := by decide +kernel
theorem dX8_credit_5 : decode cX8_credit 5 = .ok (.aload_n 0, 1) := by decide +kernel
theorem dX8_credit_6 : decode cX8_credit 6 = .ok (.getfield 58, 3) := by decide +kernel
theorem dX8_credit_9 : decode cX8_credit 9 = .ok (.iload_n 1, 1) := by decide +kernel
theorem dX8_credit_10 : decode cX8_credit 10 = .ok (.invokevirtual 268, 3) := by decide +kernel
theorem dX8_credit_13 : decode cX8_credit 13 = .ok (.ifCond .ne 5, 3) := by decide +kernel
theorem dX8_credit_16 : decode cX8_credit 16 = .ok (.iconst (-1), 1) := by decide +kernel
theorem dX8_credit_17 : decode cX8_credit 17 = .ok (.ireturn, 1) := by decide +kernel
theorem dX8_credit_18 : decode cX8_credit 18 = .ok (.aload_n 0, 1) := by decide +kernel
theorem dX8_credit_19 : decode cX8_credit 19 = .ok (.getfield 36, 3) := by decide +kernel
theorem dX8_credit_22 : decode cX8_credit 22 = .ok (.aload_n 0, 1) := by decide +kernel
theorem dX8_credit_23 : decode cX8_credit 23 = .ok (.getfield 32, 3) := by decide +kernel
theorem dX8_credit_26 : decode cX8_credit 26 = .ok (.invokevirtual 110, 3) := by decide +kernel
theorem dX8_credit_29 : decode cX8_credit 29 = .ok (.aload_n 0, 1) := by decide +kernel
theorem dX8_credit_30 : decode cX8_credit 30 = .ok (.invokevirtual 178, 3) := by decide +kernel
theorem dX8_credit_33 : decode cX8_credit 33 = .ok (.pop, 1) := by decide +kernel
theorem dX8_credit_34 : decode cX8_credit 34 = .ok (.iconst 0, 1) := by decide +kernel
theorem dX8_credit_35 : decode cX8_credit 35 = .ok (.istore_n 2, 1) := by decide +kernel
theorem dX8_credit_36 : decode cX8_credit 36 = .ok (.iload_n 2, 1) := by decide +kernel
theorem dX8_credit_37 : decode cX8_credit 37 = .ok (.iconst 4, 1) := by decide +kernel
theorem dX8_credit_38 : decode cX8_credit 38 = .ok (.if_icmp .ge 75, 3) := by decide +kernel
theorem dX8_credit_41 : decode cX8_credit 41 = .ok (.aload_n 0, 1) := by decide +kernel
theorem dX8_credit_42 : decode cX8_credit 42 = .ok (.getfield 51, 3) := by decide +kernel
theorem dX8_credit_45 : decode cX8_credit 45 = .ok (.getfield 147, 3) := by decide +kernel
theorem dX8_credit_48 : decode cX8_credit 48 = .ok (.ifCond .le 65, 3) := by decide +kernel
theorem dX8_credit_51 : decode cX8_credit 51 = .ok (.aload_n 0, 1) := by decide +kernel
theorem dX8_credit_52 : decode cX8_credit 52 = .ok (.getfield 58, 3) := by decide +kernel
theorem dX8_credit_55 : decode cX8_credit 55 = .ok (.iload_n 2, 1) := by decide +kernel
theorem dX8_credit_56 : decode cX8_credit 56 = .ok (.invokevirtual 268, 3) := by decide +kernel
theorem dX8_credit_59 : decode cX8_credit 59 = .ok (.ifCond .eq 48, 3) := by decide +kernel
theorem dX8_credit_62 : decode cX8_credit 62 = .ok (.aload_n 0, 1) := by decide +kernel
theorem dX8_credit_63 : decode cX8_credit 63 = .ok (.getfield 36, 3) := by decide +kernel
theorem dX8_credit_66 : decode cX8_credit 66 = .ok (.aload_n 0, 1) := by decide +kernel
theorem dX8_credit_67 : decode cX8_credit 67 = .ok (.getfield 32, 3) := by decide +kernel
theorem dX8_credit_70 : decode cX8_credit 70 = .ok (.invokevirtual 110, 3) := by decide +kernel
theorem dX8_credit_73 : decode cX8_credit 73 = .ok (.aload_n 0, 1) := by decide +kernel
theorem dX8_credit_74 : decode cX8_credit 74 = .ok (.getfield 58, 3) := by decide +kernel
theorem dX8_credit_77 : decode cX8_credit 77 = .ok (.aload_n 0, 1) := by decide +kernel
theorem dX8_credit_78 : decode cX8_credit 78 = .ok (.getfield 36, 3) := by decide +kernel
theorem dX8_credit_81 : decode cX8_credit 81 = .ok (.iload_n 2, 1) := by decide +kernel
theorem dX8_credit_82 : decode cX8_credit 82 = .ok (.invokevirtual 271, 3) := by decide +kernel
theorem dX8_credit_85 : decode cX8_credit 85 = .ok (.aload_n 0, 1) := by decide +kernel
theorem dX8_credit_86 : decode cX8_credit 86 = .ok (.invokevirtual 178, 3) := by decide +kernel
theorem dX8_credit_89 : decode cX8_credit 89 = .ok (.astore_n 3, 1) := by decide +kernel
theorem dX8_credit_90 : decode cX8_credit 90 = .ok (.aload_n 3, 1) := by decide +kernel
theorem dX8_credit_91 : decode cX8_credit 91 = .ok (.invokevirtual 247, 3) := by decide +kernel
theorem dX8_credit_94 : decode cX8_credit 94 = .ok (.aload_n 0, 1) := by decide +kernel
theorem dX8_credit_95 : decode cX8_credit 95 = .ok (.getfield 58, 3) := by decide +kernel
theorem dX8_credit_98 : decode cX8_credit 98 = .ok (.iload_n 2, 1) := by decide +kernel
theorem dX8_credit_99 : decode cX8_credit 99 = .ok (.aload_n 3, 1) := by decide +kernel
theorem dX8_credit_100 : decode cX8_credit 100 = .ok (.aload_n 0, 1) := by decide +kernel
theorem dX8_credit_101 : decode cX8_credit 101 = .ok (.getfield 51, 3) := by decide +kernel
theorem dX8_credit_104 : decode cX8_credit 104 = .ok (.invokevirtual 275, 3) := by decide +kernel
theorem dX8_credit_107 : decode cX8_credit 107 = .ok (.iinc 2 1, 3) := by decide +kernel
theorem dX8_credit_110 : decode cX8_credit 110 = .ok (.goto (-74), 3) := by decide +kernel
theorem dX8_credit_113 : decode cX8_credit 113 = .ok (.aload_n 0, 1) := by decide +kernel
theorem dX8_credit_114 : decode cX8_credit 114 = .ok (.getfield 58, 3) := by decide +kernel
theorem dX8_credit_117 : decode cX8_credit 117 = .ok (.iload_n 1, 1) := by decide +kernel
theorem dX8_credit_118 : decode cX8_credit 118 = .ok (.aload_n 0, 1) := by decide +kernel
theorem dX8_credit_119 : decode cX8_credit 119 = .ok (.getfield 51, 3) := by decide +kernel
theorem dX8_credit_122 : decode cX8_credit 122 = .ok (.getfield 147, 3) := by decide +kernel
theorem dX8_credit_125 : decode cX8_credit 125 = .ok (.invokevirtual 279, 3) := by decide +kernel
theorem dX8_credit_128 : decode cX8_credit 128 = .ok (.ireturn, 1) := by decide +kernel
theorem dX8_chain_0 : decode cX8_chain 0 = .ok (.iload_n 1, 1) := by decide +kernel
theorem dX8_chain_1 : decode cX8_chain 1 = .ok (.ifCond .lt 8, 3) := by decide +kernel
theorem dX8_chain_4 : decode cX8_chain 4 = .ok (.iload_n 1, 1) := by decide +kernel
theorem dX8_chain_5 : decode cX8_chain 5 = .ok (.iconst 2, 1) := by decide +kernel
theorem dX8_chain_6 : decode cX8_chain 6 = .ok (.if_icmp .le 14, 3) := by decide +kernel
theorem dX8_chain_9 : decode cX8_chain 9 = .ok (.new 153, 3) := by decide +kernel
theorem dX8_chain_12 : decode cX8_chain 12 = .ok (.dup, 1) := by decide +kernel
theorem dX8_chain_13 : decode cX8_chain 13 = .ok (.ldc_w 283, 3) := by decide +kernel
theorem dX8_chain_16 : decode cX8_chain 16 = .ok (.invokespecial 157, 3) := by decide +kernel
theorem dX8_chain_19 : decode cX8_chain 19 = .ok (.athrow, 1) := by decide +kernel
theorem dX8_chain_20 : decode cX8_chain 20 = .ok (.aload_n 0, 1) := by decide +kernel
theorem dX8_chain_21 : decode cX8_chain 21 = .ok (.invokevirtual 189, 3) := by decide +kernel
theorem dX8_chain_24 : decode cX8_chain 24 = .ok (.aload_n 0, 1) := by decide +kernel
theorem dX8_chain_25 : decode cX8_chain 25 = .ok (.getfield 36, 3) := by decide +kernel
theorem dX8_chain_28 : decode cX8_chain 28 = .ok (.aload_n 0, 1) := by decide +kernel
theorem dX8_chain_29 : decode cX8_chain 29 = .ok (.getfield 32, 3) := by decide +kernel
theorem dX8_chain_32 : decode cX8_chain 32 = .ok (.invokevirtual 110, 3) := by decide +kernel
theorem dX8_chain_35 : decode cX8_chain 35 = .ok (.aload_n 0, 1) := by decide +kernel
theorem dX8_chain_36 : decode cX8_chain 36 = .ok (.getfield 36, 3) := by decide +kernel
theorem dX8_chain_39 : decode cX8_chain 39 = .ok (.iload_n 1, 1) := by decide +kernel
theorem dX8_chain_40 : decode cX8_chain 40 = .ok (.putfield 135, 3) := by decide +kernel
theorem dX8_chain_43 : decode cX8_chain 43 = .ok (.aload_n 0, 1) := by decide +kernel
theorem dX8_chain_44 : decode cX8_chain 44 = .ok (.invokevirtual 178, 3) := by decide +kernel
theorem dX8_chain_47 : decode cX8_chain 47 = .ok (.astore_n 2, 1) := by decide +kernel
theorem dX8_chain_48 : decode cX8_chain 48 = .ok (.aload_n 2, 1) := by decide +kernel
theorem dX8_chain_49 : decode cX8_chain 49 = .ok (.invokevirtual 247, 3) := by decide +kernel
theorem dX8_chain_52 : decode cX8_chain 52 = .ok (.aload_n 2, 1) := by decide +kernel
theorem dX8_chain_53 : decode cX8_chain 53 = .ok (.invokevirtual 285, 3) := by decide +kernel
theorem dX8_chain_56 : decode cX8_chain 56 = .ok (.istore_n 3, 1) := by decide +kernel
theorem dX8_chain_57 : decode cX8_chain 57 = .ok (.iload_n 3, 1) := by decide +kernel
theorem dX8_chain_58 : decode cX8_chain 58 = .ok (.ifCond .ge 5, 3) := by decide +kernel
theorem dX8_chain_61 : decode cX8_chain 61 = .ok (.iconst (-1), 1) := by decide +kernel
theorem dX8_chain_62 : decode cX8_chain 62 = .ok (.ireturn, 1) := by decide +kernel
theorem dX8_chain_63 : decode cX8_chain 63 = .ok (.aload_n 0, 1) := by decide +kernel
theorem dX8_chain_64 : decode cX8_chain 64 = .ok (.aload_n 2, 1) := by decide +kernel
theorem dX8_chain_65 : decode cX8_chain 65 = .ok (.getfield 289, 3) := by decide +kernel
theorem dX8_chain_68 : decode cX8_chain 68 = .ok (.iload_n 3, 1) := by decide +kernel
theorem dX8_chain_69 : decode cX8_chain 69 = .ok (.laload, 1) := by decide +kernel
theorem dX8_chain_70 : decode cX8_chain 70 = .ok (.putfield 292, 3) := by decide +kernel
theorem dX8_chain_73 : decode cX8_chain 73 = .ok (.aload_n 0, 1) := by decide +kernel
theorem dX8_chain_74 : decode cX8_chain 74 = .ok (.aload_n 0, 1) := by decide +kernel
theorem dX8_chain_75 : decode cX8_chain 75 = .ok (.getfield 32, 3) := by decide +kernel
theorem dX8_chain_78 : decode cX8_chain 78 = .ok (.getfield 126, 3) := by decide +kernel
theorem dX8_chain_81 : decode cX8_chain 81 = .ok (.putfield 296, 3) := by decide +kernel
theorem dX8_chain_84 : decode cX8_chain 84 = .ok (.aload_n 2, 1) := by decide +kernel
theorem dX8_chain_85 : decode cX8_chain 85 = .ok (.getfield 299, 3) := by decide +kernel
theorem dX8_chain_88 : decode cX8_chain 88 = .ok (.iload_n 3, 1) := by decide +kernel
theorem dX8_chain_89 : decode cX8_chain 89 = .ok (.laload, 1) := by decide +kernel
theorem dX8_chain_90 : decode cX8_chain 90 = .ok (.l2i, 1) := by decide +kernel
theorem dX8_chain_91 : decode cX8_chain 91 = .ok (.ireturn, 1) := by decide +kernel
theorem dX8_chained_0 : decode cX8_chained 0 = .ok (.iload_n 1, 1) := by decide +kernel
theorem dX8_chained_1 : decode cX8_chained 1 = .ok (.ifCond .lt 11, 3) := by decide +kernel
theorem dX8_chained_4 : decode cX8_chained 4 = .ok (.iload_n 1, 1) := by decide +kernel
theorem dX8_chained_5 : decode cX8_chained 5 = .ok (.aload_n 0, 1) := by decide +kernel
theorem dX8_chained_6 : decode cX8_chained 6 = .ok (.getfield 296, 3) := by decide +kernel
theorem dX8_chained_9 : decode cX8_chained 9 = .ok (.if_icmp .lt 14, 3) := by decide +kernel
theorem dX8_chained_12 : decode cX8_chained 12 = .ok (.new 153, 3) := by decide +kernel
theorem dX8_chained_15 : decode cX8_chained 15 = .ok (.dup, 1) := by decide +kernel
theorem dX8_chained_16 : decode cX8_chained 16 = .ok (.ldc_w 302, 3) := by decide +kernel
theorem dX8_chained_19 : decode cX8_chained 19 = .ok (.invokespecial 157, 3) := by decide +kernel
theorem dX8_chained_22 : decode cX8_chained 22 = .ok (.athrow, 1) := by decide +kernel
theorem dX8_chained_23 : decode cX8_chained 23 = .ok (.aload_n 0, 1) := by decide +kernel
theorem dX8_chained_24 : decode cX8_chained 24 = .ok (.getfield 292, 3) := by decide +kernel
theorem dX8_chained_27 : decode cX8_chained 27 = .ok (.iconst 3, 1) := by decide +kernel
theorem dX8_chained_28 : decode cX8_chained 28 = .ok (.aload_n 0, 1) := by decide +kernel
theorem dX8_chained_29 : decode cX8_chained 29 = .ok (.getfield 296, 3) := by decide +kernel
theorem dX8_chained_32 : decode cX8_chained 32 = .ok (.iconst 1, 1) := by decide +kernel
theorem dX8_chained_33 : decode cX8_chained 33 = .ok (.isub, 1) := by decide +kernel
theorem dX8_chained_34 : decode cX8_chained 34 = .ok (.iload_n 1, 1) := by decide +kernel
theorem dX8_chained_35 : decode cX8_chained 35 = .ok (.isub, 1) := by decide +kernel
theorem dX8_chained_36 : decode cX8_chained 36 = .ok (.imul, 1) := by decide +kernel
theorem dX8_chained_37 : decode cX8_chained 37 = .ok (.lshr, 1) := by decide +kernel
theorem dX8_chained_38 : decode cX8_chained 38 = .ok (.l2i, 1) := by decide +kernel
theorem dX8_chained_39 : decode cX8_chained 39 = .ok (.bipush 7, 2) := by decide +kernel
theorem dX8_chained_41 : decode cX8_chained 41 = .ok (.iand, 1) := by decide +kernel
theorem dX8_chained_42 : decode cX8_chained 42 = .ok (.ireturn, 1) := by decide +kernel
theorem dX8_two_0 : decode cX8_two 0 = .ok (.aload_n 0, 1) := by decide +kernel
theorem dX8_two_1 : decode cX8_two 1 = .ok (.iload_n 1, 1) := by decide +kernel
theorem dX8_two_2 : decode cX8_two 2 = .ok (.invokevirtual 158, 3) := by decide +kernel
theorem dX8_two_5 : decode cX8_two 5 = .ok (.aload_n 0, 1) := by decide +kernel
theorem dX8_two_6 : decode cX8_two 6 = .ok (.iload_n 2, 1) := by decide +kernel
theorem dX8_two_7 : decode cX8_two 7 = .ok (.invokevirtual 158, 3) := by decide +kernel
theorem dX8_two_10 : decode cX8_two 10 = .ok (.aload_n 0, 1) := by decide +kernel
theorem dX8_two_11 : decode cX8_two 11 = .ok (.getfield 36, 3) := by decide +kernel
theorem dX8_two_14 : decode cX8_two 14 = .ok (.aload_n 0, 1) := by decide +kernel
theorem dX8_two_15 : decode cX8_two 15 = .ok (.getfield 32, 3) := by decide +kernel
theorem dX8_two_18 : decode cX8_two 18 = .ok (.invokevirtual 110, 3) := by decide +kernel
theorem dX8_two_21 : decode cX8_two 21 = .ok (.aload_n 0, 1) := by decide +kernel
theorem dX8_two_22 : decode cX8_two 22 = .ok (.getfield 36, 3) := by decide +kernel
theorem dX8_two_25 : decode cX8_two 25 = .ok (.iload_n 1, 1) := by decide +kernel
theorem dX8_two_26 : decode cX8_two 26 = .ok (.putfield 141, 3) := by decide +kernel
theorem dX8_two_29 : decode cX8_two 29 = .ok (.aload_n 0, 1) := by decide +kernel
theorem dX8_two_30 : decode cX8_two 30 = .ok (.invokevirtual 178, 3) := by decide +kernel
theorem dX8_two_33 : decode cX8_two 33 = .ok (.astore_n 3, 1) := by decide +kernel
theorem dX8_two_34 : decode cX8_two 34 = .ok (.aload_n 3, 1) := by decide +kernel
theorem dX8_two_35 : decode cX8_two 35 = .ok (.invokevirtual 182, 3) := by decide +kernel
theorem dX8_two_38 : decode cX8_two 38 = .ok (.iconst 0, 1) := by decide +kernel
theorem dX8_two_39 : decode cX8_two 39 = .ok (.istore 4, 2) := by decide +kernel
theorem dX8_two_41 : decode cX8_two 41 = .ok (.iload 4, 2) := by decide +kernel
theorem dX8_two_43 : decode cX8_two 43 = .ok (.bipush 8, 2) := by decide +kernel
theorem dX8_two_45 : decode cX8_two 45 = .ok (.if_icmp .ge 29, 3) := by decide +kernel
theorem dX8_two_48 : decode cX8_two 48 = .ok (.aload_n 0, 1) := by decide +kernel
theorem dX8_two_49 : decode cX8_two 49 = .ok (.getfield 69, 3) := by decide +kernel
theorem dX8_two_52 : decode cX8_two 52 = .ok (.iload 4, 2) := by decide +kernel
theorem dX8_two_54 : decode cX8_two 54 = .ok (.aload_n 3, 1) := by decide +kernel
theorem dX8_two_55 : decode cX8_two 55 = .ok (.iload 4, 2) := by decide +kernel
theorem dX8_two_57 : decode cX8_two 57 = .ok (.aload_n 0, 1) := by decide +kernel
theorem dX8_two_58 : decode cX8_two 58 = .ok (.getfield 32, 3) := by decide +kernel
theorem dX8_two_61 : decode cX8_two 61 = .ok (.getfield 126, 3) := by decide +kernel
theorem dX8_two_64 : decode cX8_two 64 = .ok (.invokevirtual 185, 3) := by decide +kernel
theorem dX8_two_67 : decode cX8_two 67 = .ok (.lastore, 1) := by decide +kernel
theorem dX8_two_68 : decode cX8_two 68 = .ok (.iinc 4 1, 3) := by decide +kernel
theorem dX8_two_71 : decode cX8_two 71 = .ok (.goto (-30), 3) := by decide +kernel
theorem dX8_two_74 : decode cX8_two 74 = .ok (.aload_n 0, 1) := by decide +kernel
theorem dX8_two_75 : decode cX8_two 75 = .ok (.getfield 36, 3) := by decide +kernel
theorem dX8_two_78 : decode cX8_two 78 = .ok (.iload_n 2, 1) := by decide +kernel
theorem dX8_two_79 : decode cX8_two 79 = .ok (.putfield 141, 3) := by decide +kernel
theorem dX8_two_82 : decode cX8_two 82 = .ok (.lconst 0, 1) := by decide +kernel
theorem dX8_two_83 : decode cX8_two 83 = .ok (.lstore 4, 2) := by decide +kernel
theorem dX8_two_85 : decode cX8_two 85 = .ok (.iconst 0, 1) := by decide +kernel
theorem dX8_two_86 : decode cX8_two 86 = .ok (.istore 6, 2) := by decide +kernel
theorem dX8_two_88 : decode cX8_two 88 = .ok (.iload 6, 2) := by decide +kernel
theorem dX8_two_90 : decode cX8_two 90 = .ok (.bipush 8, 2) := by decide +kernel
theorem dX8_two_92 : decode cX8_two 92 = .ok (.if_icmp .ge 71, 3) := by decide +kernel
theorem dX8_two_95 : decode cX8_two 95 = .ok (.aload_n 0, 1) := by decide +kernel
theorem dX8_two_96 : decode cX8_two 96 = .ok (.getfield 69, 3) := by decide +kernel
theorem dX8_two_99 : decode cX8_two 99 = .ok (.iload 6, 2) := by decide +kernel
theorem dX8_two_101 : decode cX8_two 101 = .ok (.laload, 1) := by decide +kernel
theorem dX8_two_102 : decode cX8_two 102 = .ok (.lconst 0, 1) := by decide +kernel
theorem dX8_two_103 : decode cX8_two 103 = .ok (.lcmp, 1) := by decide +kernel
theorem dX8_two_104 : decode cX8_two 104 = .ok (.ifCond .le 53, 3) := by decide +kernel
theorem dX8_two_107 : decode cX8_two 107 = .ok (.iload 6, 2) := by decide +kernel
theorem dX8_two_109 : decode cX8_two 109 = .ok (.iload_n 2, 1) := by decide +kernel
theorem dX8_two_110 : decode cX8_two 110 = .ok (.if_icmp .eq 47, 3) := by decide +kernel
theorem dX8_two_113 : decode cX8_two 113 = .ok (.aload_n 0, 1) := by decide +kernel
theorem dX8_two_114 : decode cX8_two 114 = .ok (.getfield 36, 3) := by decide +kernel
theorem dX8_two_117 : decode cX8_two 117 = .ok (.iconst 1, 1) := by decide +kernel
theorem dX8_two_118 : decode cX8_two 118 = .ok (.iload 6, 2) := by decide +kernel
theorem dX8_two_120 : decode cX8_two 120 = .ok (.ishl, 1) := by decide +kernel
theorem dX8_two_121 : decode cX8_two 121 = .ok (.putfield 304, 3) := by decide +kernel
theorem dX8_two_124 : decode cX8_two 124 = .ok (.aload_n 0, 1) := by decide +kernel
theorem dX8_two_125 : decode cX8_two 125 = .ok (.invokevirtual 178, 3) := by decide +kernel
theorem dX8_two_128 : decode cX8_two 128 = .ok (.astore_n 3, 1) := by decide +kernel
theorem dX8_two_129 : decode cX8_two 129 = .ok (.aload_n 3, 1) := by decide +kernel
theorem dX8_two_130 : decode cX8_two 130 = .ok (.iconst 0, 1) := by decide +kernel
theorem dX8_two_131 : decode cX8_two 131 = .ok (.invokevirtual 200, 3) := by decide +kernel
theorem dX8_two_134 : decode cX8_two 134 = .ok (.lload 4, 2) := by decide +kernel
theorem dX8_two_136 : decode cX8_two 136 = .ok (.aload_n 0, 1) := by decide +kernel
theorem dX8_two_137 : decode cX8_two 137 = .ok (.getfield 69, 3) := by decide +kernel
theorem dX8_two_140 : decode cX8_two 140 = .ok (.iload 6, 2) := by decide +kernel
theorem dX8_two_142 : decode cX8_two 142 = .ok (.laload, 1) := by decide +kernel
theorem dX8_two_143 : decode cX8_two 143 = .ok (.aload_n 3, 1) := by decide +kernel
theorem dX8_two_144 : decode cX8_two 144 = .ok (.getfield 307, 3) := by decide +kernel
theorem dX8_two_147 : decode cX8_two 147 = .ok (.iconst 0, 1) := by decide +kernel
theorem dX8_two_148 : decode cX8_two 148 = .ok (.laload, 1) := by decide +kernel
theorem dX8_two_149 : decode cX8_two 149 = .ok (.lmul, 1) := by decide +kernel
theorem dX8_two_150 : decode cX8_two 150 = .ok (.ldc2_w 310, 3) := by decide +kernel
theorem dX8_two_153 : decode cX8_two 153 = .ok (.ldiv, 1) := by decide +kernel
theorem dX8_two_154 : decode cX8_two 154 = .ok (.ladd, 1) := by decide +kernel
theorem dX8_two_155 : decode cX8_two 155 = .ok (.lstore 4, 2) := by decide +kernel
theorem dX8_two_157 : decode cX8_two 157 = .ok (.iinc 6 1, 3) := by decide +kernel
theorem dX8_two_160 : decode cX8_two 160 = .ok (.goto (-72), 3) := by decide +kernel
theorem dX8_two_163 : decode cX8_two 163 = .ok (.lload 4, 2) := by decide +kernel
theorem dX8_two_165 : decode cX8_two 165 = .ok (.l2i, 1) := by decide +kernel
theorem dX8_two_166 : decode cX8_two 166 = .ok (.ireturn, 1) := by decide +kernel
theorem dX8_feeling_0 : decode cX8_feeling 0 = .ok (.aload_n 0, 1) := by decide +kernel
theorem dX8_feeling_1 : decode cX8_feeling 1 = .ok (.invokevirtual 189, 3) := by decide +kernel
theorem dX8_feeling_4 : decode cX8_feeling 4 = .ok (.iload_n 1, 1) := by decide +kernel
theorem dX8_feeling_5 : decode cX8_feeling 5 = .ok (.iconst 1, 1) := by decide +kernel
theorem dX8_feeling_6 : decode cX8_feeling 6 = .ok (.if_icmp .lt 9, 3) := by decide +kernel
theorem dX8_feeling_9 : decode cX8_feeling 9 = .ok (.iload_n 1, 1) := by decide +kernel
theorem dX8_feeling_10 : decode cX8_feeling 10 = .ok (.bipush 99, 2) := by decide +kernel
theorem dX8_feeling_12 : decode cX8_feeling 12 = .ok (.if_icmp .le 14, 3) := by decide +kernel
theorem dX8_feeling_15 : decode cX8_feeling 15 = .ok (.new 93, 3) := by decide +kernel
theorem dX8_feeling_18 : decode cX8_feeling 18 = .ok (.dup, 1) := by decide +kernel
theorem dX8_feeling_19 : decode cX8_feeling 19 = .ok (.ldc_w 312, 3) := by decide +kernel
theorem dX8_feeling_22 : decode cX8_feeling 22 = .ok (.invokespecial 97, 3) := by decide +kernel
theorem dX8_feeling_25 : decode cX8_feeling 25 = .ok (.athrow, 1) := by decide +kernel
theorem dX8_feeling_26 : decode cX8_feeling 26 = .ok (.aload_n 0, 1) := by decide +kernel
theorem dX8_feeling_27 : decode cX8_feeling 27 = .ok (.getfield 36, 3) := by decide +kernel
theorem dX8_feeling_30 : decode cX8_feeling 30 = .ok (.aload_n 0, 1) := by decide +kernel
theorem dX8_feeling_31 : decode cX8_feeling 31 = .ok (.getfield 32, 3) := by decide +kernel
theorem dX8_feeling_34 : decode cX8_feeling 34 = .ok (.invokevirtual 110, 3) := by decide +kernel
theorem dX8_feeling_37 : decode cX8_feeling 37 = .ok (.aload_n 0, 1) := by decide +kernel
theorem dX8_feeling_38 : decode cX8_feeling 38 = .ok (.getfield 36, 3) := by decide +kernel
theorem dX8_feeling_41 : decode cX8_feeling 41 = .ok (.iload_n 1, 1) := by decide +kernel
theorem dX8_feeling_42 : decode cX8_feeling 42 = .ok (.putfield 138, 3) := by decide +kernel
theorem dX8_feeling_45 : decode cX8_feeling 45 = .ok (.aload_n 0, 1) := by decide +kernel
theorem dX8_feeling_46 : decode cX8_feeling 46 = .ok (.invokevirtual 178, 3) := by decide +kernel
theorem dX8_feeling_49 : decode cX8_feeling 49 = .ok (.astore_n 2, 1) := by decide +kernel
theorem dX8_feeling_50 : decode cX8_feeling 50 = .ok (.aload_n 2, 1) := by decide +kernel
theorem dX8_feeling_51 : decode cX8_feeling 51 = .ok (.invokevirtual 182, 3) := by decide +kernel
theorem dX8_feeling_54 : decode cX8_feeling 54 = .ok (.aload_n 2, 1) := by decide +kernel
theorem dX8_feeling_55 : decode cX8_feeling 55 = .ok (.invokevirtual 196, 3) := by decide +kernel
theorem dX8_feeling_58 : decode cX8_feeling 58 = .ok (.lreturn, 1) := by decide +kernel
theorem dX8_theft_0 : decode cX8_theft 0 = .ok (.iload_n 1, 1) := by decide +kernel
theorem dX8_theft_1 : decode cX8_theft 1 = .ok (.aload_n 0, 1) := by decide +kernel
theorem dX8_theft_2 : decode cX8_theft 2 = .ok (.getfield 32, 3) := by decide +kernel
theorem dX8_theft_5 : decode cX8_theft 5 = .ok (.invokevirtual 314, 3) := by decide +kernel
theorem dX8_theft_8 : decode cX8_theft 8 = .ok (.iconst (-1), 1) := by decide +kernel
theorem dX8_theft_9 : decode cX8_theft 9 = .ok (.ixor, 1) := by decide +kernel
theorem dX8_theft_10 : decode cX8_theft 10 = .ok (.iand, 1) := by decide +kernel
theorem dX8_theft_11 : decode cX8_theft 11 = .ok (.ifCond .eq 14, 3) := by decide +kernel
theorem dX8_theft_14 : decode cX8_theft 14 = .ok (.new 93, 3) := by decide +kernel
theorem dX8_theft_17 : decode cX8_theft 17 = .ok (.dup, 1) := by decide +kernel
theorem dX8_theft_18 : decode cX8_theft 18 = .ok (.ldc_w 317, 3) := by decide +kernel
theorem dX8_theft_21 : decode cX8_theft 21 = .ok (.invokespecial 97, 3) := by decide +kernel
theorem dX8_theft_24 : decode cX8_theft 24 = .ok (.athrow, 1) := by decide +kernel
theorem dX8_theft_25 : decode cX8_theft 25 = .ok (.iload_n 2, 1) := by decide +kernel
theorem dX8_theft_26 : decode cX8_theft 26 = .ok (.ifCond .lt 21, 3) := by decide +kernel
theorem dX8_theft_29 : decode cX8_theft 29 = .ok (.iload_n 2, 1) := by decide +kernel
theorem dX8_theft_30 : decode cX8_theft 30 = .ok (.bipush 8, 2) := by decide +kernel
theorem dX8_theft_32 : decode cX8_theft 32 = .ok (.if_icmp .gt 15, 3) := by decide +kernel
theorem dX8_theft_35 : decode cX8_theft 35 = .ok (.aload_n 0, 1) := by decide +kernel
theorem dX8_theft_36 : decode cX8_theft 36 = .ok (.getfield 65, 3) := by decide +kernel
theorem dX8_theft_39 : decode cX8_theft 39 = .ok (.iload_n 1, 1) := by decide +kernel
theorem dX8_theft_40 : decode cX8_theft 40 = .ok (.iload_n 2, 1) := by decide +kernel
theorem dX8_theft_41 : decode cX8_theft 41 = .ok (.invokevirtual 319, 3) := by decide +kernel
theorem dX8_theft_44 : decode cX8_theft 44 = .ok (.ifCond .ne 15, 3) := by decide +kernel
theorem dX8_theft_47 : decode cX8_theft 47 = .ok (.aload_n 0, 1) := by decide +kernel
theorem dX8_theft_48 : decode cX8_theft 48 = .ok (.getfield 17, 3) := by decide +kernel
theorem dX8_theft_51 : decode cX8_theft 51 = .ok (.iconst 2, 1) := by decide +kernel
theorem dX8_theft_52 : decode cX8_theft 52 = .ok (.dup2, 1) := by decide +kernel
theorem dX8_theft_53 : decode cX8_theft 53 = .ok (.iaload, 1) := by decide +kernel
theorem dX8_theft_54 : decode cX8_theft 54 = .ok (.iconst 1, 1) := by decide +kernel
theorem dX8_theft_55 : decode cX8_theft 55 = .ok (.iadd, 1) := by decide +kernel
theorem dX8_theft_56 : decode cX8_theft 56 = .ok (.iastore, 1) := by decide +kernel
theorem dX8_theft_57 : decode cX8_theft 57 = .ok (.iconst (-1), 1) := by decide +kernel
theorem dX8_theft_58 : decode cX8_theft 58 = .ok (.ireturn, 1) := by decide +kernel
theorem dX8_theft_59 : decode cX8_theft 59 = .ok (.aload_n 0, 1) := by decide +kernel
theorem dX8_theft_60 : decode cX8_theft 60 = .ok (.getfield 65, 3) := by decide +kernel
theorem dX8_theft_63 : decode cX8_theft 63 = .ok (.getfield 150, 3) := by decide +kernel
theorem dX8_theft_66 : decode cX8_theft 66 = .ok (.ireturn, 1) := by decide +kernel
theorem dX8_thieves_0 : decode cX8_thieves 0 = .ok (.aload_n 0, 1) := by decide +kernel
theorem dX8_thieves_1 : decode cX8_thieves 1 = .ok (.iload_n 1, 1) := by decide +kernel
theorem dX8_thieves_2 : decode cX8_thieves 2 = .ok (.iconst 4, 1) := by decide +kernel
theorem dX8_thieves_3 : decode cX8_thieves 3 = .ok (.invokevirtual 161, 3) := by decide +kernel
theorem dX8_thieves_6 : decode cX8_thieves 6 = .ok (.aload_n 0, 1) := by decide +kernel
theorem dX8_thieves_7 : decode cX8_thieves 7 = .ok (.getfield 65, 3) := by decide +kernel
theorem dX8_thieves_10 : decode cX8_thieves 10 = .ok (.aload_n 0, 1) := by decide +kernel
theorem dX8_thieves_11 : decode cX8_thieves 11 = .ok (.getfield 32, 3) := by decide +kernel
theorem dX8_thieves_14 : decode cX8_thieves 14 = .ok (.getfield 117, 3) := by decide +kernel
theorem dX8_thieves_17 : decode cX8_thieves 17 = .ok (.invokevirtual 322, 3) := by decide +kernel
theorem dX8_thieves_20 : decode cX8_thieves 20 = .ok (.iload_n 1, 1) := by decide +kernel
theorem dX8_thieves_21 : decode cX8_thieves 21 = .ok (.tableswitch 63 0 3 #[31, 39, 47, 55], 31) := by decide +kernel
theorem dX8_thieves_52 : decode cX8_thieves 52 = .ok (.aload_n 0, 1) := by decide +kernel
theorem dX8_thieves_53 : decode cX8_thieves 53 = .ok (.getfield 65, 3) := by decide +kernel
theorem dX8_thieves_56 : decode cX8_thieves 56 = .ok (.getfield 325, 3) := by decide +kernel
theorem dX8_thieves_59 : decode cX8_thieves 59 = .ok (.ireturn, 1) := by decide +kernel
theorem dX8_thieves_60 : decode cX8_thieves 60 = .ok (.aload_n 0, 1) := by decide +kernel
theorem dX8_thieves_61 : decode cX8_thieves 61 = .ok (.getfield 65, 3) := by decide +kernel
theorem dX8_thieves_64 : decode cX8_thieves 64 = .ok (.getfield 328, 3) := by decide +kernel
theorem dX8_thieves_67 : decode cX8_thieves 67 = .ok (.ireturn, 1) := by decide +kernel
theorem dX8_thieves_68 : decode cX8_thieves 68 = .ok (.aload_n 0, 1) := by decide +kernel
theorem dX8_thieves_69 : decode cX8_thieves 69 = .ok (.getfield 65, 3) := by decide +kernel
theorem dX8_thieves_72 : decode cX8_thieves 72 = .ok (.getfield 331, 3) := by decide +kernel
theorem dX8_thieves_75 : decode cX8_thieves 75 = .ok (.ireturn, 1) := by decide +kernel
theorem dX8_thieves_76 : decode cX8_thieves 76 = .ok (.aload_n 0, 1) := by decide +kernel
theorem dX8_thieves_77 : decode cX8_thieves 77 = .ok (.getfield 65, 3) := by decide +kernel
theorem dX8_thieves_80 : decode cX8_thieves 80 = .ok (.getfield 334, 3) := by decide +kernel
theorem dX8_thieves_83 : decode cX8_thieves 83 = .ok (.ireturn, 1) := by decide +kernel
theorem dX8_thieves_84 : decode cX8_thieves 84 = .ok (.aload_n 0, 1) := by decide +kernel
theorem dX8_thieves_85 : decode cX8_thieves 85 = .ok (.getfield 65, 3) := by decide +kernel
theorem dX8_thieves_88 : decode cX8_thieves 88 = .ok (.aload_n 0, 1) := by decide +kernel
theorem dX8_thieves_89 : decode cX8_thieves 89 = .ok (.getfield 32, 3) := by decide +kernel
theorem dX8_thieves_92 : decode cX8_thieves 92 = .ok (.getfield 117, 3) := by decide +kernel
theorem dX8_thieves_95 : decode cX8_thieves 95 = .ok (.invokevirtual 337, 3) := by decide +kernel
theorem dX8_thieves_98 : decode cX8_thieves 98 = .ok (.ireturn, 1) := by decide +kernel
theorem dX8_luck_0 : decode cX8_luck 0 = .ok (.iload_n 1, 1) := by decide +kernel
theorem dX8_luck_1 : decode cX8_luck 1 = .ok (.ifCond .lt 29, 3) := by decide +kernel
theorem dX8_luck_4 : decode cX8_luck 4 = .ok (.iload_n 1, 1) := by decide +kernel
theorem dX8_luck_5 : decode cX8_luck 5 = .ok (.bipush 30, 2) := by decide +kernel
theorem dX8_luck_7 : decode cX8_luck 7 = .ok (.if_icmp .gt 23, 3) := by decide +kernel
theorem dX8_luck_10 : decode cX8_luck 10 = .ok (.iload_n 2, 1) := by decide +kernel
theorem dX8_luck_11 : decode cX8_luck 11 = .ok (.ifCond .lt 19, 3) := by decide +kernel
theorem dX8_luck_14 : decode cX8_luck 14 = .ok (.iload_n 2, 1) := by decide +kernel
theorem dX8_luck_15 : decode cX8_luck 15 = .ok (.iload_n 1, 1) := by decide +kernel
theorem dX8_luck_16 : decode cX8_luck 16 = .ok (.if_icmp .gt 14, 3) := by decide +kernel
theorem dX8_luck_19 : decode cX8_luck 19 = .ok (.iload_n 3, 1) := by decide +kernel
theorem dX8_luck_20 : decode cX8_luck 20 = .ok (.ifCond .lt 10, 3) := by decide +kernel
theorem dX8_luck_23 : decode cX8_luck 23 = .ok (.iload_n 3, 1) := by decide +kernel
theorem dX8_luck_24 : decode cX8_luck 24 = .ok (.sipush 1000, 3) := by decide +kernel
theorem dX8_luck_27 : decode cX8_luck 27 = .ok (.if_icmp .le 14, 3) := by decide +kernel
theorem dX8_luck_30 : decode cX8_luck 30 = .ok (.new 93, 3) := by decide +kernel
theorem dX8_luck_33 : decode cX8_luck 33 = .ok (.dup, 1) := by decide +kernel
theorem dX8_luck_34 : decode cX8_luck 34 = .ok (.ldc_w 340, 3) := by decide +kernel
theorem dX8_luck_37 : decode cX8_luck 37 = .ok (.invokespecial 97, 3) := by decide +kernel
theorem dX8_luck_40 : decode cX8_luck 40 = .ok (.athrow, 1) := by decide +kernel
theorem dX8_luck_41 : decode cX8_luck 41 = .ok (.aload_n 0, 1) := by decide +kernel
theorem dX8_luck_42 : decode cX8_luck 42 = .ok (.getfield 73, 3) := by decide +kernel
theorem dX8_luck_45 : decode cX8_luck 45 = .ok (.lconst 0, 1) := by decide +kernel
theorem dX8_luck_46 : decode cX8_luck 46 = .ok (.invokestatic 342, 3) := by decide +kernel
theorem dX8_luck_49 : decode cX8_luck 49 = .ok (.aload_n 0, 1) := by decide +kernel
theorem dX8_luck_50 : decode cX8_luck 50 = .ok (.getfield 73, 3) := by decide +kernel
theorem dX8_luck_53 : decode cX8_luck 53 = .ok (.iconst 0, 1) := by decide +kernel
theorem dX8_luck_54 : decode cX8_luck 54 = .ok (.ldc2_w 310, 3) := by decide +kernel
theorem dX8_luck_57 : decode cX8_luck 57 = .ok (.lastore, 1) := by decide +kernel
theorem dX8_luck_58 : decode cX8_luck 58 = .ok (.iconst 1, 1) := by decide +kernel
theorem dX8_luck_59 : decode cX8_luck 59 = .ok (.istore 4, 2) := by decide +kernel
theorem dX8_luck_61 : decode cX8_luck 61 = .ok (.iload 4, 2) := by decide +kernel
theorem dX8_luck_63 : decode cX8_luck 63 = .ok (.iload_n 1, 1) := by decide +kernel
theorem dX8_luck_64 : decode cX8_luck 64 = .ok (.if_icmp .gt 75, 3) := by decide +kernel
theorem dX8_luck_67 : decode cX8_luck 67 = .ok (.iload 4, 2) := by decide +kernel
theorem dX8_luck_69 : decode cX8_luck 69 = .ok (.istore 5, 2) := by decide +kernel
theorem dX8_luck_71 : decode cX8_luck 71 = .ok (.iload 5, 2) := by decide +kernel
theorem dX8_luck_73 : decode cX8_luck 73 = .ok (.ifCond .lt 60, 3) := by decide +kernel
theorem dX8_luck_76 : decode cX8_luck 76 = .ok (.iload 5, 2) := by decide +kernel
theorem dX8_luck_78 : decode cX8_luck 78 = .ok (.ifCond .le 18, 3) := by decide +kernel
theorem dX8_luck_81 : decode cX8_luck 81 = .ok (.aload_n 0, 1) := by decide +kernel
theorem dX8_luck_82 : decode cX8_luck 82 = .ok (.getfield 73, 3) := by decide +kernel
theorem dX8_luck_85 : decode cX8_luck 85 = .ok (.iload 5, 2) := by decide +kernel
theorem dX8_luck_87 : decode cX8_luck 87 = .ok (.iconst 1, 1) := by decide +kernel
theorem dX8_luck_88 : decode cX8_luck 88 = .ok (.isub, 1) := by decide +kernel
theorem dX8_luck_89 : decode cX8_luck 89 = .ok (.laload, 1) := by decide +kernel
theorem dX8_luck_90 : decode cX8_luck 90 = .ok (.iload_n 3, 1) := by decide +kernel
theorem dX8_luck_91 : decode cX8_luck 91 = .ok (.i2l, 1) := by decide +kernel
theorem dX8_luck_92 : decode cX8_luck 92 = .ok (.lmul, 1) := by decide +kernel
theorem dX8_luck_93 : decode cX8_luck 93 = .ok (.goto 4, 3) := by decide +kernel
theorem dX8_luck_96 : decode cX8_luck 96 = .ok (.lconst 0, 1) := by decide +kernel
theorem dX8_luck_97 : decode cX8_luck 97 = .ok (.lstore 6, 2) := by decide +kernel
theorem dX8_luck_99 : decode cX8_luck 99 = .ok (.aload_n 0, 1) := by decide +kernel
theorem dX8_luck_100 : decode cX8_luck 100 = .ok (.getfield 73, 3) := by decide +kernel
theorem dX8_luck_103 : decode cX8_luck 103 = .ok (.iload 5, 2) := by decide +kernel
theorem dX8_luck_105 : decode cX8_luck 105 = .ok (.aload_n 0, 1) := by decide +kernel
theorem dX8_luck_106 : decode cX8_luck 106 = .ok (.getfield 73, 3) := by decide +kernel
theorem dX8_luck_109 : decode cX8_luck 109 = .ok (.iload 5, 2) := by decide +kernel
theorem dX8_luck_111 : decode cX8_luck 111 = .ok (.laload, 1) := by decide +kernel
theorem dX8_luck_112 : decode cX8_luck 112 = .ok (.sipush 1000, 3) := by decide +kernel
theorem dX8_luck_115 : decode cX8_luck 115 = .ok (.iload_n 3, 1) := by decide +kernel
theorem dX8_luck_116 : decode cX8_luck 116 = .ok (.isub, 1) := by decide +kernel
theorem dX8_luck_117 : decode cX8_luck 117 = .ok (.i2l, 1) := by decide +kernel
theorem dX8_luck_118 : decode cX8_luck 118 = .ok (.lmul, 1) := by decide +kernel
theorem dX8_luck_119 : decode cX8_luck 119 = .ok (.lload 6, 2) := by decide +kernel
theorem dX8_luck_121 : decode cX8_luck 121 = .ok (.ladd, 1) := by decide +kernel
theorem dX8_luck_122 : decode cX8_luck 122 = .ok (.ldc2_w 234, 3) := by decide +kernel
theorem dX8_luck_125 : decode cX8_luck 125 = .ok (.ldiv, 1) := by decide +kernel
theorem dX8_luck_126 : decode cX8_luck 126 = .ok (.lastore, 1) := by decide +kernel
theorem dX8_luck_127 : decode cX8_luck 127 = .ok (.iinc 5 (-1), 3) := by decide +kernel
theorem dX8_luck_130 : decode cX8_luck 130 = .ok (.goto (-59), 3) := by decide +kernel
theorem dX8_luck_133 : decode cX8_luck 133 = .ok (.iinc 4 1, 3) := by decide +kernel
theorem dX8_luck_136 : decode cX8_luck 136 = .ok (.goto (-75), 3) := by decide +kernel
theorem dX8_luck_139 : decode cX8_luck 139 = .ok (.lconst 0, 1) := by decide +kernel
theorem dX8_luck_140 : decode cX8_luck 140 = .ok (.lstore 4, 2) := by decide +kernel
theorem dX8_luck_142 : decode cX8_luck 142 = .ok (.iload_n 2, 1) := by decide +kernel
theorem dX8_luck_143 : decode cX8_luck 143 = .ok (.istore 6, 2) := by decide +kernel
theorem dX8_luck_145 : decode cX8_luck 145 = .ok (.iload 6, 2) := by decide +kernel
theorem dX8_luck_147 : decode cX8_luck 147 = .ok (.iload_n 1, 1) := by decide +kernel
theorem dX8_luck_148 : decode cX8_luck 148 = .ok (.if_icmp .gt 21, 3) := by decide +kernel
theorem dX8_luck_151 : decode cX8_luck 151 = .ok (.lload 4, 2) := by decide +kernel
theorem dX8_luck_153 : decode cX8_luck 153 = .ok (.aload_n 0, 1) := by decide +kernel
theorem dX8_luck_154 : decode cX8_luck 154 = .ok (.getfield 73, 3) := by decide +kernel
theorem dX8_luck_157 : decode cX8_luck 157 = .ok (.iload 6, 2) := by decide +kernel
theorem dX8_luck_159 : decode cX8_luck 159 = .ok (.laload, 1) := by decide +kernel
theorem dX8_luck_160 : decode cX8_luck 160 = .ok (.ladd, 1) := by decide +kernel
theorem dX8_luck_161 : decode cX8_luck 161 = .ok (.lstore 4, 2) := by decide +kernel
theorem dX8_luck_163 : decode cX8_luck 163 = .ok (.iinc 6 1, 3) := by decide +kernel
theorem dX8_luck_166 : decode cX8_luck 166 = .ok (.goto (-21), 3) := by decide +kernel
theorem dX8_luck_169 : decode cX8_luck 169 = .ok (.lload 4, 2) := by decide +kernel
theorem dX8_luck_171 : decode cX8_luck 171 = .ok (.l2i, 1) := by decide +kernel
theorem dX8_luck_172 : decode cX8_luck 172 = .ok (.ireturn, 1) := by decide +kernel
theorem dX8_begin_0 : decode cX8_begin 0 = .ok (.iload_n 2, 1) := by decide +kernel
theorem dX8_begin_1 : decode cX8_begin 1 = .ok (.ifCond .lt 19, 3) := by decide +kernel
theorem dX8_begin_4 : decode cX8_begin 4 = .ok (.iload_n 2, 1) := by decide +kernel
theorem dX8_begin_5 : decode cX8_begin 5 = .ok (.bipush 20, 2) := by decide +kernel
theorem dX8_begin_7 : decode cX8_begin 7 = .ok (.if_icmp .gt 13, 3) := by decide +kernel
theorem dX8_begin_10 : decode cX8_begin 10 = .ok (.aload_n 0, 1) := by decide +kernel
theorem dX8_begin_11 : decode cX8_begin 11 = .ok (.getfield 32, 3) := by decide +kernel
theorem dX8_begin_14 : decode cX8_begin 14 = .ok (.getfield 117, 3) := by decide +kernel
theorem dX8_begin_17 : decode cX8_begin 17 = .ok (.ifCond .ne 14, 3) := by decide +kernel
theorem dX8_begin_20 : decode cX8_begin 20 = .ok (.new 93, 3) := by decide +kernel
theorem dX8_begin_23 : decode cX8_begin 23 = .ok (.dup, 1) := by decide +kernel
theorem dX8_begin_24 : decode cX8_begin 24 = .ok (.ldc_w 348, 3) := by decide +kernel
theorem dX8_begin_27 : decode cX8_begin 27 = .ok (.invokespecial 97, 3) := by decide +kernel
theorem dX8_begin_30 : decode cX8_begin 30 = .ok (.athrow, 1) := by decide +kernel
theorem dX8_begin_31 : decode cX8_begin 31 = .ok (.aload_n 0, 1) := by decide +kernel
theorem dX8_begin_32 : decode cX8_begin 32 = .ok (.getfield 79, 3) := by decide +kernel
theorem dX8_begin_35 : decode cX8_begin 35 = .ok (.iload_n 1, 1) := by decide +kernel
theorem dX8_begin_36 : decode cX8_begin 36 = .ok (.iload_n 2, 1) := by decide +kernel
theorem dX8_begin_37 : decode cX8_begin 37 = .ok (.invokevirtual 350, 3) := by decide +kernel
theorem dX8_begin_40 : decode cX8_begin 40 = .ok (.return_, 1) := by decide +kernel
theorem dX8_on_0 : decode cX8_on 0 = .ok (.iload_n 1, 1) := by decide +kernel
theorem dX8_on_1 : decode cX8_on 1 = .ok (.ifCond .lt 9, 3) := by decide +kernel
theorem dX8_on_4 : decode cX8_on 4 = .ok (.iload_n 1, 1) := by decide +kernel
theorem dX8_on_5 : decode cX8_on 5 = .ok (.bipush 60, 2) := by decide +kernel
theorem dX8_on_7 : decode cX8_on 7 = .ok (.if_icmp .le 14, 3) := by decide +kernel
theorem dX8_on_10 : decode cX8_on 10 = .ok (.new 93, 3) := by decide +kernel
theorem dX8_on_13 : decode cX8_on 13 = .ok (.dup, 1) := by decide +kernel
theorem dX8_on_14 : decode cX8_on 14 = .ok (.ldc_w 352, 3) := by decide +kernel
theorem dX8_on_17 : decode cX8_on 17 = .ok (.invokespecial 97, 3) := by decide +kernel
theorem dX8_on_20 : decode cX8_on 20 = .ok (.athrow, 1) := by decide +kernel
theorem dX8_on_21 : decode cX8_on 21 = .ok (.aload_n 0, 1) := by decide +kernel
theorem dX8_on_22 : decode cX8_on 22 = .ok (.getfield 79, 3) := by decide +kernel
theorem dX8_on_25 : decode cX8_on 25 = .ok (.getfield 354, 3) := by decide +kernel
theorem dX8_on_28 : decode cX8_on 28 = .ok (.ifCond .eq 17, 3) := by decide +kernel
theorem dX8_on_31 : decode cX8_on 31 = .ok (.aload_n 0, 1) := by decide +kernel
theorem dX8_on_32 : decode cX8_on 32 = .ok (.getfield 79, 3) := by decide +kernel
theorem dX8_on_35 : decode cX8_on 35 = .ok (.getfield 358, 3) := by decide +kernel
theorem dX8_on_38 : decode cX8_on 38 = .ok (.iload_n 1, 1) := by decide +kernel
theorem dX8_on_39 : decode cX8_on 39 = .ok (.iadd, 1) := by decide +kernel
theorem dX8_on_40 : decode cX8_on 40 = .ok (.bipush 100, 2) := by decide +kernel
theorem dX8_on_42 : decode cX8_on 42 = .ok (.if_icmp .le 5, 3) := by decide +kernel
theorem dX8_on_45 : decode cX8_on 45 = .ok (.iconst (-1), 1) := by decide +kernel
theorem dX8_on_46 : decode cX8_on 46 = .ok (.ireturn, 1) := by decide +kernel
theorem dX8_on_47 : decode cX8_on 47 = .ok (.aload_n 0, 1) := by decide +kernel
theorem dX8_on_48 : decode cX8_on 48 = .ok (.getfield 36, 3) := by decide +kernel
theorem dX8_on_51 : decode cX8_on 51 = .ok (.aload_n 0, 1) := by decide +kernel
theorem dX8_on_52 : decode cX8_on 52 = .ok (.getfield 32, 3) := by decide +kernel
theorem dX8_on_55 : decode cX8_on 55 = .ok (.invokevirtual 110, 3) := by decide +kernel
theorem dX8_on_58 : decode cX8_on 58 = .ok (.aload_n 0, 1) := by decide +kernel
theorem dX8_on_59 : decode cX8_on 59 = .ok (.invokevirtual 178, 3) := by decide +kernel
theorem dX8_on_62 : decode cX8_on 62 = .ok (.astore_n 2, 1) := by decide +kernel
theorem dX8_on_63 : decode cX8_on 63 = .ok (.aload_n 2, 1) := by decide +kernel
theorem dX8_on_64 : decode cX8_on 64 = .ok (.invokevirtual 247, 3) := by decide +kernel
theorem dX8_on_67 : decode cX8_on 67 = .ok (.iconst 0, 1) := by decide +kernel
theorem dX8_on_68 : decode cX8_on 68 = .ok (.istore_n 3, 1) := by decide +kernel
theorem dX8_on_69 : decode cX8_on 69 = .ok (.iload_n 3, 1) := by decide +kernel
theorem dX8_on_70 : decode cX8_on 70 = .ok (.iload_n 1, 1) := by decide +kernel
theorem dX8_on_71 : decode cX8_on 71 = .ok (.if_icmp .ge 17, 3) := by decide +kernel
theorem dX8_on_74 : decode cX8_on 74 = .ok (.aload_n 0, 1) := by decide +kernel
theorem dX8_on_75 : decode cX8_on 75 = .ok (.getfield 79, 3) := by decide +kernel
theorem dX8_on_78 : decode cX8_on 78 = .ok (.aload_n 2, 1) := by decide +kernel
theorem dX8_on_79 : decode cX8_on 79 = .ok (.invokevirtual 359, 3) := by decide +kernel
theorem dX8_on_82 : decode cX8_on 82 = .ok (.iinc 3 1, 3) := by decide +kernel
theorem dX8_on_85 : decode cX8_on 85 = .ok (.goto (-16), 3) := by decide +kernel
theorem dX8_on_88 : decode cX8_on 88 = .ok (.aload_n 0, 1) := by decide +kernel
theorem dX8_on_89 : decode cX8_on 89 = .ok (.getfield 79, 3) := by decide +kernel
theorem dX8_on_92 : decode cX8_on 92 = .ok (.getfield 358, 3) := by decide +kernel
theorem dX8_on_95 : decode cX8_on 95 = .ok (.ireturn, 1) := by decide +kernel
theorem dX8_week_0 : decode cX8_week 0 = .ok (.aload_n 0, 1) := by decide +kernel
theorem dX8_week_1 : decode cX8_week 1 = .ok (.iload_n 2, 1) := by decide +kernel
theorem dX8_week_2 : decode cX8_week 2 = .ok (.iconst 2, 1) := by decide +kernel
theorem dX8_week_3 : decode cX8_week 3 = .ok (.invokevirtual 161, 3) := by decide +kernel
theorem dX8_week_6 : decode cX8_week 6 = .ok (.iload_n 1, 1) := by decide +kernel
theorem dX8_week_7 : decode cX8_week 7 = .ok (.ifCond .lt 14, 3) := by decide +kernel
theorem dX8_week_10 : decode cX8_week 10 = .ok (.iload_n 1, 1) := by decide +kernel
theorem dX8_week_11 : decode cX8_week 11 = .ok (.aload_n 0, 1) := by decide +kernel
theorem dX8_week_12 : decode cX8_week 12 = .ok (.getfield 79, 3) := by decide +kernel
theorem dX8_week_15 : decode cX8_week 15 = .ok (.getfield 358, 3) := by decide +kernel
theorem dX8_week_18 : decode cX8_week 18 = .ok (.if_icmp .lt 14, 3) := by decide +kernel
theorem dX8_week_21 : decode cX8_week 21 = .ok (.new 153, 3) := by decide +kernel
theorem dX8_week_24 : decode cX8_week 24 = .ok (.dup, 1) := by decide +kernel
theorem dX8_week_25 : decode cX8_week 25 = .ok (.ldc_w 363, 3) := by decide +kernel
theorem dX8_week_28 : decode cX8_week 28 = .ok (.invokespecial 157, 3) := by decide +kernel
theorem dX8_week_31 : decode cX8_week 31 = .ok (.athrow, 1) := by decide +kernel
theorem dX8_week_32 : decode cX8_week 32 = .ok (.iload_n 2, 1) := by decide +kernel
theorem dX8_week_33 : decode cX8_week 33 = .ok (.ifCond .ne 13, 3) := by decide +kernel
theorem dX8_week_36 : decode cX8_week 36 = .ok (.aload_n 0, 1) := by decide +kernel
theorem dX8_week_37 : decode cX8_week 37 = .ok (.getfield 79, 3) := by decide +kernel
theorem dX8_week_40 : decode cX8_week 40 = .ok (.getfield 365, 3) := by decide +kernel
theorem dX8_week_43 : decode cX8_week 43 = .ok (.iload_n 1, 1) := by decide +kernel
theorem dX8_week_44 : decode cX8_week 44 = .ok (.iaload, 1) := by decide +kernel
theorem dX8_week_45 : decode cX8_week 45 = .ok (.ireturn, 1) := by decide +kernel
theorem dX8_week_46 : decode cX8_week 46 = .ok (.aload_n 0, 1) := by decide +kernel
theorem dX8_week_47 : decode cX8_week 47 = .ok (.getfield 79, 3) := by decide +kernel
theorem dX8_week_50 : decode cX8_week 50 = .ok (.getfield 368, 3) := by decide +kernel
theorem dX8_week_53 : decode cX8_week 53 = .ok (.iload_n 1, 1) := by decide +kernel
theorem dX8_week_54 : decode cX8_week 54 = .ok (.iaload, 1) := by decide +kernel
theorem dX8_week_55 : decode cX8_week 55 = .ok (.istore_n 3, 1) := by decide +kernel
theorem dX8_week_56 : decode cX8_week 56 = .ok (.iload_n 2, 1) := by decide +kernel
theorem dX8_week_57 : decode cX8_week 57 = .ok (.iconst 1, 1) := by decide +kernel
theorem dX8_week_58 : decode cX8_week 58 = .ok (.if_icmp .eq 7, 3) := by decide +kernel
theorem dX8_week_61 : decode cX8_week 61 = .ok (.iload_n 3, 1) := by decide +kernel
theorem dX8_week_62 : decode cX8_week 62 = .ok (.ifCond .ne 7, 3) := by decide +kernel
theorem dX8_week_65 : decode cX8_week 65 = .ok (.iload_n 3, 1) := by decide +kernel
theorem dX8_week_66 : decode cX8_week 66 = .ok (.goto 11, 3) := by decide +kernel
theorem dX8_week_69 : decode cX8_week 69 = .ok (.aload_n 0, 1) := by decide +kernel
theorem dX8_week_70 : decode cX8_week 70 = .ok (.getfield 32, 3) := by decide +kernel
theorem dX8_week_73 : decode cX8_week 73 = .ok (.iload_n 3, 1) := by decide +kernel
theorem dX8_week_74 : decode cX8_week 74 = .ok (.invokevirtual 370, 3) := by decide +kernel
theorem dX8_week_77 : decode cX8_week 77 = .ok (.ireturn, 1) := by decide +kernel
theorem dX8_image_0 : decode cX8_image 0 = .ok (.aload_n 0, 1) := by decide +kernel
theorem dX8_image_1 : decode cX8_image 1 = .ok (.getfield 79, 3) := by decide +kernel
theorem dX8_image_4 : decode cX8_image 4 = .ok (.getfield 354, 3) := by decide +kernel
theorem dX8_image_7 : decode cX8_image 7 = .ok (.ifCond .ne 5, 3) := by decide +kernel
theorem dX8_image_10 : decode cX8_image 10 = .ok (.iconst 0, 1) := by decide +kernel
theorem dX8_image_11 : decode cX8_image 11 = .ok (.ireturn, 1) := by decide +kernel
theorem dX8_image_12 : decode cX8_image 12 = .ok (.aload_n 0, 1) := by decide +kernel
theorem dX8_image_13 : decode cX8_image 13 = .ok (.getfield 83, 3) := by decide +kernel
theorem dX8_image_16 : decode cX8_image 16 = .ok (.aload_n 0, 1) := by decide +kernel
theorem dX8_image_17 : decode cX8_image 17 = .ok (.getfield 79, 3) := by decide +kernel
theorem dX8_image_20 : decode cX8_image 20 = .ok (.invokevirtual 373, 3) := by decide +kernel
theorem dX8_image_23 : decode cX8_image 23 = .ok (.iconst 1, 1) := by decide +kernel
theorem dX8_image_24 : decode cX8_image 24 = .ok (.ireturn, 1) := by decide +kernel
theorem dX8_restore_0 : decode cX8_restore 0 = .ok (.aload_n 0, 1) := by decide +kernel
theorem dX8_restore_1 : decode cX8_restore 1 = .ok (.getfield 83, 3) := by decide +kernel
theorem dX8_restore_4 : decode cX8_restore 4 = .ok (.getfield 354, 3) := by decide +kernel
theorem dX8_restore_7 : decode cX8_restore 7 = .ok (.ifCond .ne 5, 3) := by decide +kernel
theorem dX8_restore_10 : decode cX8_restore 10 = .ok (.iconst 0, 1) := by decide +kernel
theorem dX8_restore_11 : decode cX8_restore 11 = .ok (.ireturn, 1) := by decide +kernel
theorem dX8_restore_12 : decode cX8_restore 12 = .ok (.aload_n 0, 1) := by decide +kernel
theorem dX8_restore_13 : decode cX8_restore 13 = .ok (.getfield 79, 3) := by decide +kernel
theorem dX8_restore_16 : decode cX8_restore 16 = .ok (.aload_n 0, 1) := by decide +kernel
theorem dX8_restore_17 : decode cX8_restore 17 = .ok (.getfield 83, 3) := by decide +kernel
theorem dX8_restore_20 : decode cX8_restore 20 = .ok (.invokevirtual 373, 3) := by decide +kernel
theorem dX8_restore_23 : decode cX8_restore 23 = .ok (.iconst 1, 1) := by decide +kernel
theorem dX8_restore_24 : decode cX8_restore 24 = .ok (.ireturn, 1) := by decide +kernel
theorem dX8_putBytes_0 : decode cX8_putBytes 0 = .ok (.bipush 24, 2) := by decide +kernel
theorem dX8_putBytes_2 : decode cX8_putBytes 2 = .ok (.istore_n 2, 1) := by decide +kernel
theorem dX8_putBytes_3 : decode cX8_putBytes 3 = .ok (.iload_n 2, 1) := by decide +kernel
theorem dX8_putBytes_4 : decode cX8_putBytes 4 = .ok (.ifCond .lt 45, 3) := by decide +kernel
theorem dX8_putBytes_7 : decode cX8_putBytes 7 = .ok (.aload_n 0, 1) := by decide +kernel
theorem dX8_putBytes_8 : decode cX8_putBytes 8 = .ok (.getfield 86, 3) := by decide +kernel
theorem dX8_putBytes_11 : decode cX8_putBytes 11 = .ok (.sipush 700, 3) := by decide +kernel
theorem dX8_putBytes_14 : decode cX8_putBytes 14 = .ok (.if_icmp .ge 35, 3) := by decide +kernel
theorem dX8_putBytes_17 : decode cX8_putBytes 17 = .ok (.aload_n 0, 1) := by decide +kernel
theorem dX8_putBytes_18 : decode cX8_putBytes 18 = .ok (.getfield 9, 3) := by decide +kernel
theorem dX8_putBytes_21 : decode cX8_putBytes 21 = .ok (.aload_n 0, 1) := by decide +kernel
theorem dX8_putBytes_22 : decode cX8_putBytes 22 = .ok (.getfield 86, 3) := by decide +kernel
theorem dX8_putBytes_25 : decode cX8_putBytes 25 = .ok (.iload_n 1, 1) := by decide +kernel
theorem dX8_putBytes_26 : decode cX8_putBytes 26 = .ok (.iload_n 2, 1) := by decide +kernel
theorem dX8_putBytes_27 : decode cX8_putBytes 27 = .ok (.ishr, 1) := by decide +kernel
theorem dX8_putBytes_28 : decode cX8_putBytes 28 = .ok (.sipush 255, 3) := by decide +kernel
theorem dX8_putBytes_31 : decode cX8_putBytes 31 = .ok (.iand, 1) := by decide +kernel
theorem dX8_putBytes_32 : decode cX8_putBytes 32 = .ok (.iastore, 1) := by decide +kernel
theorem dX8_putBytes_33 : decode cX8_putBytes 33 = .ok (.aload_n 0, 1) := by decide +kernel
theorem dX8_putBytes_34 : decode cX8_putBytes 34 = .ok (.dup, 1) := by decide +kernel
theorem dX8_putBytes_35 : decode cX8_putBytes 35 = .ok (.getfield 86, 3) := by decide +kernel
theorem dX8_putBytes_38 : decode cX8_putBytes 38 = .ok (.iconst 1, 1) := by decide +kernel
theorem dX8_putBytes_39 : decode cX8_putBytes 39 = .ok (.iadd, 1) := by decide +kernel
theorem dX8_putBytes_40 : decode cX8_putBytes 40 = .ok (.putfield 86, 3) := by decide +kernel
theorem dX8_putBytes_43 : decode cX8_putBytes 43 = .ok (.iinc 2 (-8), 3) := by decide +kernel
theorem dX8_putBytes_46 : decode cX8_putBytes 46 = .ok (.goto (-43), 3) := by decide +kernel
theorem dX8_putBytes_49 : decode cX8_putBytes 49 = .ok (.return_, 1) := by decide +kernel
theorem dX8_startAnew_0 : decode cX8_startAnew 0 = .ok (.aload_n 0, 1) := by decide +kernel
theorem dX8_startAnew_1 : decode cX8_startAnew 1 = .ok (.getfield 51, 3) := by decide +kernel
theorem dX8_startAnew_4 : decode cX8_startAnew 4 = .ok (.invokevirtual 376, 3) := by decide +kernel
theorem dX8_startAnew_7 : decode cX8_startAnew 7 = .ok (.aload_n 0, 1) := by decide +kernel
theorem dX8_startAnew_8 : decode cX8_startAnew 8 = .ok (.getfield 58, 3) := by decide +kernel
theorem dX8_startAnew_11 : decode cX8_startAnew 11 = .ok (.invokevirtual 379, 3) := by decide +kernel
theorem dX8_startAnew_14 : decode cX8_startAnew 14 = .ok (.aload_n 0, 1) := by decide +kernel
theorem dX8_startAnew_15 : decode cX8_startAnew 15 = .ok (.getfield 65, 3) := by decide +kernel
theorem dX8_startAnew_18 : decode cX8_startAnew 18 = .ok (.invokevirtual 380, 3) := by decide +kernel
theorem dX8_startAnew_21 : decode cX8_startAnew 21 = .ok (.aload_n 0, 1) := by decide +kernel
theorem dX8_startAnew_22 : decode cX8_startAnew 22 = .ok (.iconst 0, 1) := by decide +kernel
theorem dX8_startAnew_23 : decode cX8_startAnew 23 = .ok (.putfield 296, 3) := by decide +kernel
theorem dX8_startAnew_26 : decode cX8_startAnew 26 = .ok (.aload_n 0, 1) := by decide +kernel
theorem dX8_startAnew_27 : decode cX8_startAnew 27 = .ok (.getfield 79, 3) := by decide +kernel
theorem dX8_startAnew_30 : decode cX8_startAnew 30 = .ok (.invokevirtual 381, 3) := by decide +kernel
theorem dX8_startAnew_33 : decode cX8_startAnew 33 = .ok (.aload_n 0, 1) := by decide +kernel
theorem dX8_startAnew_34 : decode cX8_startAnew 34 = .ok (.getfield 83, 3) := by decide +kernel
theorem dX8_startAnew_37 : decode cX8_startAnew 37 = .ok (.invokevirtual 381, 3) := by decide +kernel
theorem dX8_startAnew_40 : decode cX8_startAnew 40 = .ok (.aload_n 0, 1) := by decide +kernel
theorem dX8_startAnew_41 : decode cX8_startAnew 41 = .ok (.getfield 44, 3) := by decide +kernel
theorem dX8_startAnew_44 : decode cX8_startAnew 44 = .ok (.invokevirtual 382, 3) := by decide +kernel
theorem dX8_startAnew_47 : decode cX8_startAnew 47 = .ok (.aload_n 0, 1) := by decide +kernel
theorem dX8_startAnew_48 : decode cX8_startAnew 48 = .ok (.getfield 385, 3) := by decide +kernel
theorem dX8_startAnew_51 : decode cX8_startAnew 51 = .ok (.ifnull 10, 3) := by decide +kernel
theorem dX8_startAnew_54 : decode cX8_startAnew 54 = .ok (.aload_n 0, 1) := by decide +kernel
theorem dX8_startAnew_55 : decode cX8_startAnew 55 = .ok (.getfield 385, 3) := by decide +kernel
theorem dX8_startAnew_58 : decode cX8_startAnew 58 = .ok (.invokevirtual 382, 3) := by decide +kernel
theorem dX8_startAnew_61 : decode cX8_startAnew 61 = .ok (.return_, 1) := by decide +kernel
theorem dX8_needPerson_0 : decode cX8_needPerson 0 = .ok (.iload_n 1, 1) := by decide +kernel
theorem dX8_needPerson_1 : decode cX8_needPerson 1 = .ok (.ifCond .lt 14, 3) := by decide +kernel
theorem dX8_needPerson_4 : decode cX8_needPerson 4 = .ok (.iload_n 1, 1) := by decide +kernel
theorem dX8_needPerson_5 : decode cX8_needPerson 5 = .ok (.aload_n 0, 1) := by decide +kernel
theorem dX8_needPerson_6 : decode cX8_needPerson 6 = .ok (.getfield 32, 3) := by decide +kernel
theorem dX8_needPerson_9 : decode cX8_needPerson 9 = .ok (.getfield 117, 3) := by decide +kernel
theorem dX8_needPerson_12 : decode cX8_needPerson 12 = .ok (.if_icmp .lt 14, 3) := by decide +kernel
theorem dX8_needPerson_15 : decode cX8_needPerson 15 = .ok (.new 153, 3) := by decide +kernel
theorem dX8_needPerson_18 : decode cX8_needPerson 18 = .ok (.dup, 1) := by decide +kernel
theorem dX8_needPerson_19 : decode cX8_needPerson 19 = .ok (.ldc_w 388, 3) := by decide +kernel
theorem dX8_needPerson_22 : decode cX8_needPerson 22 = .ok (.invokespecial 157, 3) := by decide +kernel
theorem dX8_needPerson_25 : decode cX8_needPerson 25 = .ok (.athrow, 1) := by decide +kernel
theorem dX8_needPerson_26 : decode cX8_needPerson 26 = .ok (.return_, 1) := by decide +kernel
theorem dX8_needPeople_0 : decode cX8_needPeople 0 = .ok (.aload_n 0, 1) := by decide +kernel
theorem dX8_needPeople_1 : decode cX8_needPeople 1 = .ok (.getfield 32, 3) := by decide +kernel
theorem dX8_needPeople_4 : decode cX8_needPeople 4 = .ok (.getfield 117, 3) := by decide +kernel
theorem dX8_needPeople_7 : decode cX8_needPeople 7 = .ok (.ifCond .ne 14, 3) := by decide +kernel
theorem dX8_needPeople_10 : decode cX8_needPeople 10 = .ok (.new 153, 3) := by decide +kernel
theorem dX8_needPeople_13 : decode cX8_needPeople 13 = .ok (.dup, 1) := by decide +kernel
theorem dX8_needPeople_14 : decode cX8_needPeople 14 = .ok (.ldc_w 390, 3) := by decide +kernel
theorem dX8_needPeople_17 : decode cX8_needPeople 17 = .ok (.invokespecial 157, 3) := by decide +kernel
theorem dX8_needPeople_20 : decode cX8_needPeople 20 = .ok (.athrow, 1) := by decide +kernel
theorem dX8_needPeople_21 : decode cX8_needPeople 21 = .ok (.return_, 1) := by decide +kernel
theorem dX8_needWhat_0 : decode cX8_needWhat 0 = .ok (.iload_n 1, 1) := by decide +kernel
theorem dX8_needWhat_1 : decode cX8_needWhat 1 = .ok (.ifCond .lt 8, 3) := by decide +kernel
theorem dX8_needWhat_4 : decode cX8_needWhat 4 = .ok (.iload_n 1, 1) := by decide +kernel
theorem dX8_needWhat_5 : decode cX8_needWhat 5 = .ok (.iload_n 2, 1) := by decide +kernel
theorem dX8_needWhat_6 : decode cX8_needWhat 6 = .ok (.if_icmp .le 14, 3) := by decide +kernel
theorem dX8_needWhat_9 : decode cX8_needWhat 9 = .ok (.new 153, 3) := by decide +kernel
theorem dX8_needWhat_12 : decode cX8_needWhat 12 = .ok (.dup, 1) := by decide +kernel
theorem dX8_needWhat_13 : decode cX8_needWhat 13 = .ok (.ldc_w 392, 3) := by decide +kernel
theorem dX8_needWhat_16 : decode cX8_needWhat 16 = .ok (.invokespecial 157, 3) := by decide +kernel
theorem dX8_needWhat_19 : decode cX8_needWhat 19 = .ok (.athrow, 1) := by decide +kernel
theorem dX8_needWhat_20 : decode cX8_needWhat 20 = .ok (.return_, 1) := by decide +kernel
theorem dX8_needGuess_0 : decode cX8_needGuess 0 = .ok (.iload_n 1, 1) := by decide +kernel
theorem dX8_needGuess_1 : decode cX8_needGuess 1 = .ok (.ifCond .lt 8, 3) := by decide +kernel
theorem dX8_needGuess_4 : decode cX8_needGuess 4 = .ok (.iload_n 1, 1) := by decide +kernel
theorem dX8_needGuess_5 : decode cX8_needGuess 5 = .ok (.iconst 4, 1) := by decide +kernel
theorem dX8_needGuess_6 : decode cX8_needGuess 6 = .ok (.if_icmp .lt 14, 3) := by decide +kernel
theorem dX8_needGuess_9 : decode cX8_needGuess 9 = .ok (.new 153, 3) := by decide +kernel
theorem dX8_needGuess_12 : decode cX8_needGuess 12 = .ok (.dup, 1) := by decide +kernel
theorem dX8_needGuess_13 : decode cX8_needGuess 13 = .ok (.ldc_w 394, 3) := by decide +kernel
theorem dX8_needGuess_16 : decode cX8_needGuess 16 = .ok (.invokespecial 157, 3) := by decide +kernel
theorem dX8_needGuess_19 : decode cX8_needGuess 19 = .ok (.athrow, 1) := by decide +kernel
theorem dX8_needGuess_20 : decode cX8_needGuess 20 = .ok (.return_, 1) := by decide +kernel
theorem dX8_playAsked_0 : decode cX8_playAsked 0 = .ok (.aload_n 0, 1) := by decide +kernel
theorem dX8_playAsked_1 : decode cX8_playAsked 1 = .ok (.getfield 44, 3) := by decide +kernel
theorem dX8_playAsked_4 : decode cX8_playAsked 4 = .ok (.aload_n 0, 1) := by decide +kernel
theorem dX8_playAsked_5 : decode cX8_playAsked 5 = .ok (.getfield 36, 3) := by decide +kernel
theorem dX8_playAsked_8 : decode cX8_playAsked 8 = .ok (.invokevirtual 396, 3) := by decide +kernel
theorem dX8_playAsked_11 : decode cX8_playAsked 11 = .ok (.ifCond .eq 8, 3) := by decide +kernel
theorem dX8_playAsked_14 : decode cX8_playAsked 14 = .ok (.aload_n 0, 1) := by decide +kernel
theorem dX8_playAsked_15 : decode cX8_playAsked 15 = .ok (.getfield 44, 3) := by decide +kernel
theorem dX8_playAsked_18 : decode cX8_playAsked 18 = .ok (.areturn, 1) := by decide +kernel
theorem dX8_playAsked_19 : decode cX8_playAsked 19 = .ok (.aload_n 0, 1) := by decide +kernel
theorem dX8_playAsked_20 : decode cX8_playAsked 20 = .ok (.getfield 385, 3) := by decide +kernel
theorem dX8_playAsked_23 : decode cX8_playAsked 23 = .ok (.ifnonnull 20, 3) := by decide +kernel
theorem dX8_playAsked_26 : decode cX8_playAsked 26 = .ok (.aload_n 0, 1) := by decide +kernel
theorem dX8_playAsked_27 : decode cX8_playAsked 27 = .ok (.new 39, 3) := by decide +kernel
theorem dX8_playAsked_30 : decode cX8_playAsked 30 = .ok (.dup, 1) := by decide +kernel
theorem dX8_playAsked_31 : decode cX8_playAsked 31 = .ok (.sipush 20000, 3) := by decide +kernel
theorem dX8_playAsked_34 : decode cX8_playAsked 34 = .ok (.ldc_w 400, 3) := by decide +kernel
theorem dX8_playAsked_37 : decode cX8_playAsked 37 = .ok (.invokespecial 41, 3) := by decide +kernel
theorem dX8_playAsked_40 : decode cX8_playAsked 40 = .ok (.putfield 385, 3) := by decide +kernel
theorem dX8_playAsked_43 : decode cX8_playAsked 43 = .ok (.aload_n 0, 1) := by decide +kernel
theorem dX8_playAsked_44 : decode cX8_playAsked 44 = .ok (.getfield 385, 3) := by decide +kernel
theorem dX8_playAsked_47 : decode cX8_playAsked 47 = .ok (.aload_n 0, 1) := by decide +kernel
theorem dX8_playAsked_48 : decode cX8_playAsked 48 = .ok (.getfield 36, 3) := by decide +kernel
theorem dX8_playAsked_51 : decode cX8_playAsked 51 = .ok (.invokevirtual 396, 3) := by decide +kernel
theorem dX8_playAsked_54 : decode cX8_playAsked 54 = .ok (.ifCond .ne 14, 3) := by decide +kernel
theorem dX8_playAsked_57 : decode cX8_playAsked 57 = .ok (.new 93, 3) := by decide +kernel
theorem dX8_playAsked_60 : decode cX8_playAsked 60 = .ok (.dup, 1) := by decide +kernel
theorem dX8_playAsked_61 : decode cX8_playAsked 61 = .ok (.ldc_w 401, 3) := by decide +kernel
theorem dX8_playAsked_64 : decode cX8_playAsked 64 = .ok (.invokespecial 97, 3) := by decide +kernel
theorem dX8_playAsked_67 : decode cX8_playAsked 67 = .ok (.athrow, 1) := by decide +kernel
theorem dX8_playAsked_68 : decode cX8_playAsked 68 = .ok (.aload_n 0, 1) := by decide +kernel
theorem dX8_playAsked_69 : decode cX8_playAsked 69 = .ok (.getfield 385, 3) := by decide +kernel
theorem dX8_playAsked_72 : decode cX8_playAsked 72 = .ok (.areturn, 1) := by decide +kernel
theorem dX8_lastHandOfAll_0 : decode cX8_lastHandOfAll 0 = .ok (.aload_n 0, 1) := by decide +kernel
theorem dX8_lastHandOfAll_1 : decode cX8_lastHandOfAll 1 = .ok (.invokevirtual 178, 3) := by decide +kernel
theorem dX8_lastHandOfAll_4 : decode cX8_lastHandOfAll 4 = .ok (.astore_n 1, 1) := by decide +kernel
theorem dX8_lastHandOfAll_5 : decode cX8_lastHandOfAll 5 = .ok (.aload_n 1, 1) := by decide +kernel
theorem dX8_lastHandOfAll_6 : decode cX8_lastHandOfAll 6 = .ok (.iconst 0, 1) := by decide +kernel
theorem dX8_lastHandOfAll_7 : decode cX8_lastHandOfAll 7 = .ok (.invokevirtual 200, 3) := by decide +kernel
theorem dX8_lastHandOfAll_10 : decode cX8_lastHandOfAll 10 = .ok (.aload_n 1, 1) := by decide +kernel
theorem dX8_lastHandOfAll_11 : decode cX8_lastHandOfAll 11 = .ok (.invokevirtual 403, 3) := by decide +kernel
theorem dX8_lastHandOfAll_14 : decode cX8_lastHandOfAll 14 = .ok (.lreturn, 1) := by decide +kernel
theorem dX8_gainAsked_0 : decode cX8_gainAsked 0 = .ok (.aload_n 0, 1) := by decide +kernel
theorem dX8_gainAsked_1 : decode cX8_gainAsked 1 = .ok (.invokevirtual 178, 3) := by decide +kernel
theorem dX8_gainAsked_4 : decode cX8_gainAsked 4 = .ok (.astore_n 2, 1) := by decide +kernel
theorem dX8_gainAsked_5 : decode cX8_gainAsked 5 = .ok (.aload_n 2, 1) := by decide +kernel
theorem dX8_gainAsked_6 : decode cX8_gainAsked 6 = .ok (.iconst 1, 1) := by decide +kernel
theorem dX8_gainAsked_7 : decode cX8_gainAsked 7 = .ok (.iload_n 1, 1) := by decide +kernel
theorem dX8_gainAsked_8 : decode cX8_gainAsked 8 = .ok (.ishl, 1) := by decide +kernel
theorem dX8_gainAsked_9 : decode cX8_gainAsked 9 = .ok (.invokevirtual 200, 3) := by decide +kernel
theorem dX8_gainAsked_12 : decode cX8_gainAsked 12 = .ok (.aload_n 2, 1) := by decide +kernel
theorem dX8_gainAsked_13 : decode cX8_gainAsked 13 = .ok (.getfield 203, 3) := by decide +kernel
theorem dX8_gainAsked_16 : decode cX8_gainAsked 16 = .ok (.iload_n 1, 1) := by decide +kernel
theorem dX8_gainAsked_17 : decode cX8_gainAsked 17 = .ok (.laload, 1) := by decide +kernel
theorem dX8_gainAsked_18 : decode cX8_gainAsked 18 = .ok (.lreturn, 1) := by decide +kernel
