theorem dX2_init_0 : decode cX2_init 0 = .ok (.aload_n 0, 1) := by decide +kernel
theorem dX2_init_1 : decode cX2_init 1 = .ok (.invokespecial 3, 3) := by decide +kernel
theorem dX2_init_4 : decode cX2_init 4 = .ok (.aload_n 0, 1) := by decide +kernel
theorem dX2_init_5 : decode cX2_init 5 = .ok (.new 9, 3) := by decide +kernel
theorem dX2_init_8 : decode cX2_init 8 = .ok (.dup, 1) := by decide +kernel
theorem dX2_init_9 : decode cX2_init 9 = .ok (.invokespecial 11, 3) := by decide +kernel
theorem dX2_init_12 : decode cX2_init 12 = .ok (.putfield 12, 3) := by decide +kernel
theorem dX2_init_15 : decode cX2_init 15 = .ok (.aload_n 0, 1) := by decide +kernel
theorem dX2_init_16 : decode cX2_init 16 = .ok (.aload_n 1, 1) := by decide +kernel
theorem dX2_init_17 : decode cX2_init 17 = .ok (.putfield 18, 3) := by decide +kernel
theorem dX2_init_20 : decode cX2_init 20 = .ok (.return_, 1) := by decide +kernel
theorem dX2_read_0 : decode cX2_read 0 = .ok (.aload_n 0, 1) := by decide +kernel
theorem dX2_read_1 : decode cX2_read 1 = .ok (.getfield 12, 3) := by decide +kernel
theorem dX2_read_4 : decode cX2_read 4 = .ok (.invokevirtual 22, 3) := by decide +kernel
theorem dX2_read_7 : decode cX2_read 7 = .ok (.aload_n 0, 1) := by decide +kernel
theorem dX2_read_8 : decode cX2_read 8 = .ok (.iload_n 1, 1) := by decide +kernel
theorem dX2_read_9 : decode cX2_read 9 = .ok (.aload_n 0, 1) := by decide +kernel
theorem dX2_read_10 : decode cX2_read 10 = .ok (.getfield 18, 3) := by decide +kernel
theorem dX2_read_13 : decode cX2_read 13 = .ok (.arraylength, 1) := by decide +kernel
theorem dX2_read_14 : decode cX2_read 14 = .ok (.invokestatic 25, 3) := by decide +kernel
theorem dX2_read_17 : decode cX2_read 17 = .ok (.putfield 31, 3) := by decide +kernel
theorem dX2_read_20 : decode cX2_read 20 = .ok (.aload_n 0, 1) := by decide +kernel
theorem dX2_read_21 : decode cX2_read 21 = .ok (.iconst 0, 1) := by decide +kernel
theorem dX2_read_22 : decode cX2_read 22 = .ok (.putfield 35, 3) := by decide +kernel
theorem dX2_read_25 : decode cX2_read 25 = .ok (.aload_n 0, 1) := by decide +kernel
theorem dX2_read_26 : decode cX2_read 26 = .ok (.iconst 0, 1) := by decide +kernel
theorem dX2_read_27 : decode cX2_read 27 = .ok (.putfield 38, 3) := by decide +kernel
theorem dX2_read_30 : decode cX2_read 30 = .ok (.aload_n 0, 1) := by decide +kernel
theorem dX2_read_31 : decode cX2_read 31 = .ok (.iconst 0, 1) := by decide +kernel
theorem dX2_read_32 : decode cX2_read 32 = .ok (.putfield 41, 3) := by decide +kernel
theorem dX2_read_35 : decode cX2_read 35 = .ok (.aload_n 0, 1) := by decide +kernel
theorem dX2_read_36 : decode cX2_read 36 = .ok (.iconst (-1), 1) := by decide +kernel
theorem dX2_read_37 : decode cX2_read 37 = .ok (.putfield 44, 3) := by decide +kernel
theorem dX2_read_40 : decode cX2_read 40 = .ok (.iconst 0, 1) := by decide +kernel
theorem dX2_read_41 : decode cX2_read 41 = .ok (.istore_n 2, 1) := by decide +kernel
theorem dX2_read_42 : decode cX2_read 42 = .ok (.iload_n 2, 1) := by decide +kernel
theorem dX2_read_43 : decode cX2_read 43 = .ok (.sipush 700, 3) := by decide +kernel
theorem dX2_read_46 : decode cX2_read 46 = .ok (.if_icmp .gt 30, 3) := by decide +kernel
theorem dX2_read_49 : decode cX2_read 49 = .ok (.aload_n 0, 1) := by decide +kernel
theorem dX2_read_50 : decode cX2_read 50 = .ok (.invokevirtual 47, 3) := by decide +kernel
theorem dX2_read_53 : decode cX2_read 53 = .ok (.aload_n 0, 1) := by decide +kernel
theorem dX2_read_54 : decode cX2_read 54 = .ok (.getfield 50, 3) := by decide +kernel
theorem dX2_read_57 : decode cX2_read 57 = .ok (.ifCond .eq 19, 3) := by decide +kernel
theorem dX2_read_60 : decode cX2_read 60 = .ok (.aload_n 0, 1) := by decide +kernel
theorem dX2_read_61 : decode cX2_read 61 = .ok (.invokevirtual 53, 3) := by decide +kernel
theorem dX2_read_64 : decode cX2_read 64 = .ok (.ifCond .ne 6, 3) := by decide +kernel
theorem dX2_read_67 : decode cX2_read 67 = .ok (.goto 9, 3) := by decide +kernel
theorem dX2_read_70 : decode cX2_read 70 = .ok (.iinc 2 1, 3) := by decide +kernel
theorem dX2_read_73 : decode cX2_read 73 = .ok (.goto (-31), 3) := by decide +kernel
theorem dX2_read_76 : decode cX2_read 76 = .ok (.aload_n 0, 1) := by decide +kernel
theorem dX2_read_77 : decode cX2_read 77 = .ok (.getfield 41, 3) := by decide +kernel
theorem dX2_read_80 : decode cX2_read 80 = .ok (.ireturn, 1) := by decide +kernel
theorem dX2_refuse_0 : decode cX2_refuse 0 = .ok (.aload_n 0, 1) := by decide +kernel
theorem dX2_refuse_1 : decode cX2_refuse 1 = .ok (.iload_n 1, 1) := by decide +kernel
theorem dX2_refuse_2 : decode cX2_refuse 2 = .ok (.putfield 41, 3) := by decide +kernel
theorem dX2_refuse_5 : decode cX2_refuse 5 = .ok (.aload_n 0, 1) := by decide +kernel
theorem dX2_refuse_6 : decode cX2_refuse 6 = .ok (.aload_n 0, 1) := by decide +kernel
theorem dX2_refuse_7 : decode cX2_refuse 7 = .ok (.getfield 57, 3) := by decide +kernel
theorem dX2_refuse_10 : decode cX2_refuse 10 = .ok (.putfield 44, 3) := by decide +kernel
theorem dX2_refuse_13 : decode cX2_refuse 13 = .ok (.iconst 0, 1) := by decide +kernel
theorem dX2_refuse_14 : decode cX2_refuse 14 = .ok (.ireturn, 1) := by decide +kernel
theorem dX2_takeToken_0 : decode cX2_takeToken 0 = .ok (.aload_n 0, 1) := by decide +kernel
theorem dX2_takeToken_1 : decode cX2_takeToken 1 = .ok (.getfield 35, 3) := by decide +kernel
theorem dX2_takeToken_4 : decode cX2_takeToken 4 = .ok (.aload_n 0, 1) := by decide +kernel
theorem dX2_takeToken_5 : decode cX2_takeToken 5 = .ok (.getfield 31, 3) := by decide +kernel
theorem dX2_takeToken_8 : decode cX2_takeToken 8 = .ok (.if_icmp .ge 44, 3) := by decide +kernel
theorem dX2_takeToken_11 : decode cX2_takeToken 11 = .ok (.aload_n 0, 1) := by decide +kernel
theorem dX2_takeToken_12 : decode cX2_takeToken 12 = .ok (.getfield 18, 3) := by decide +kernel
theorem dX2_takeToken_15 : decode cX2_takeToken 15 = .ok (.aload_n 0, 1) := by decide +kernel
theorem dX2_takeToken_16 : decode cX2_takeToken 16 = .ok (.getfield 35, 3) := by decide +kernel
theorem dX2_takeToken_19 : decode cX2_takeToken 19 = .ok (.iaload, 1) := by decide +kernel
theorem dX2_takeToken_20 : decode cX2_takeToken 20 = .ok (.bipush 32, 2) := by decide +kernel
theorem dX2_takeToken_22 : decode cX2_takeToken 22 = .ok (.if_icmp .eq 17, 3) := by decide +kernel
theorem dX2_takeToken_25 : decode cX2_takeToken 25 = .ok (.aload_n 0, 1) := by decide +kernel
theorem dX2_takeToken_26 : decode cX2_takeToken 26 = .ok (.getfield 18, 3) := by decide +kernel
theorem dX2_takeToken_29 : decode cX2_takeToken 29 = .ok (.aload_n 0, 1) := by decide +kernel
theorem dX2_takeToken_30 : decode cX2_takeToken 30 = .ok (.getfield 35, 3) := by decide +kernel
theorem dX2_takeToken_33 : decode cX2_takeToken 33 = .ok (.iaload, 1) := by decide +kernel
theorem dX2_takeToken_34 : decode cX2_takeToken 34 = .ok (.bipush 10, 2) := by decide +kernel
theorem dX2_takeToken_36 : decode cX2_takeToken 36 = .ok (.if_icmp .ne 16, 3) := by decide +kernel
theorem dX2_takeToken_39 : decode cX2_takeToken 39 = .ok (.aload_n 0, 1) := by decide +kernel
theorem dX2_takeToken_40 : decode cX2_takeToken 40 = .ok (.dup, 1) := by decide +kernel
theorem dX2_takeToken_41 : decode cX2_takeToken 41 = .ok (.getfield 35, 3) := by decide +kernel
theorem dX2_takeToken_44 : decode cX2_takeToken 44 = .ok (.iconst 1, 1) := by decide +kernel
theorem dX2_takeToken_45 : decode cX2_takeToken 45 = .ok (.iadd, 1) := by decide +kernel
theorem dX2_takeToken_46 : decode cX2_takeToken 46 = .ok (.putfield 35, 3) := by decide +kernel
theorem dX2_takeToken_49 : decode cX2_takeToken 49 = .ok (.goto (-49), 3) := by decide +kernel
theorem dX2_takeToken_52 : decode cX2_takeToken 52 = .ok (.aload_n 0, 1) := by decide +kernel
theorem dX2_takeToken_53 : decode cX2_takeToken 53 = .ok (.aload_n 0, 1) := by decide +kernel
theorem dX2_takeToken_54 : decode cX2_takeToken 54 = .ok (.getfield 35, 3) := by decide +kernel
theorem dX2_takeToken_57 : decode cX2_takeToken 57 = .ok (.putfield 57, 3) := by decide +kernel
theorem dX2_takeToken_60 : decode cX2_takeToken 60 = .ok (.aload_n 0, 1) := by decide +kernel
theorem dX2_takeToken_61 : decode cX2_takeToken 61 = .ok (.getfield 35, 3) := by decide +kernel
theorem dX2_takeToken_64 : decode cX2_takeToken 64 = .ok (.aload_n 0, 1) := by decide +kernel
theorem dX2_takeToken_65 : decode cX2_takeToken 65 = .ok (.getfield 31, 3) := by decide +kernel
theorem dX2_takeToken_68 : decode cX2_takeToken 68 = .ok (.if_icmp .lt 11, 3) := by decide +kernel
theorem dX2_takeToken_71 : decode cX2_takeToken 71 = .ok (.aload_n 0, 1) := by decide +kernel
theorem dX2_takeToken_72 : decode cX2_takeToken 72 = .ok (.iconst 0, 1) := by decide +kernel
theorem dX2_takeToken_73 : decode cX2_takeToken 73 = .ok (.putfield 50, 3) := by decide +kernel
theorem dX2_takeToken_76 : decode cX2_takeToken 76 = .ok (.goto 206, 3) := by decide +kernel
theorem dX2_takeToken_79 : decode cX2_takeToken 79 = .ok (.aload_n 0, 1) := by decide +kernel
theorem dX2_takeToken_80 : decode cX2_takeToken 80 = .ok (.getfield 18, 3) := by decide +kernel
theorem dX2_takeToken_83 : decode cX2_takeToken 83 = .ok (.aload_n 0, 1) := by decide +kernel
theorem dX2_takeToken_84 : decode cX2_takeToken 84 = .ok (.getfield 35, 3) := by decide +kernel
theorem dX2_takeToken_87 : decode cX2_takeToken 87 = .ok (.iaload, 1) := by decide +kernel
theorem dX2_takeToken_88 : decode cX2_takeToken 88 = .ok (.invokestatic 60, 3) := by decide +kernel
theorem dX2_takeToken_91 : decode cX2_takeToken 91 = .ok (.ifCond .eq 47, 3) := by decide +kernel
theorem dX2_takeToken_94 : decode cX2_takeToken 94 = .ok (.aload_n 0, 1) := by decide +kernel
theorem dX2_takeToken_95 : decode cX2_takeToken 95 = .ok (.iconst 1, 1) := by decide +kernel
theorem dX2_takeToken_96 : decode cX2_takeToken 96 = .ok (.putfield 50, 3) := by decide +kernel
theorem dX2_takeToken_99 : decode cX2_takeToken 99 = .ok (.aload_n 0, 1) := by decide +kernel
theorem dX2_takeToken_100 : decode cX2_takeToken 100 = .ok (.getfield 35, 3) := by decide +kernel
theorem dX2_takeToken_103 : decode cX2_takeToken 103 = .ok (.aload_n 0, 1) := by decide +kernel
theorem dX2_takeToken_104 : decode cX2_takeToken 104 = .ok (.getfield 31, 3) := by decide +kernel
theorem dX2_takeToken_107 : decode cX2_takeToken 107 = .ok (.if_icmp .ge 175, 3) := by decide +kernel
theorem dX2_takeToken_110 : decode cX2_takeToken 110 = .ok (.aload_n 0, 1) := by decide +kernel
theorem dX2_takeToken_111 : decode cX2_takeToken 111 = .ok (.getfield 18, 3) := by decide +kernel
theorem dX2_takeToken_114 : decode cX2_takeToken 114 = .ok (.aload_n 0, 1) := by decide +kernel
theorem dX2_takeToken_115 : decode cX2_takeToken 115 = .ok (.getfield 35, 3) := by decide +kernel
theorem dX2_takeToken_118 : decode cX2_takeToken 118 = .ok (.iaload, 1) := by decide +kernel
theorem dX2_takeToken_119 : decode cX2_takeToken 119 = .ok (.invokestatic 60, 3) := by decide +kernel
theorem dX2_takeToken_122 : decode cX2_takeToken 122 = .ok (.ifCond .eq 160, 3) := by decide +kernel
theorem dX2_takeToken_125 : decode cX2_takeToken 125 = .ok (.aload_n 0, 1) := by decide +kernel
theorem dX2_takeToken_126 : decode cX2_takeToken 126 = .ok (.dup, 1) := by decide +kernel
theorem dX2_takeToken_127 : decode cX2_takeToken 127 = .ok (.getfield 35, 3) := by decide +kernel
theorem dX2_takeToken_130 : decode cX2_takeToken 130 = .ok (.iconst 1, 1) := by decide +kernel
theorem dX2_takeToken_131 : decode cX2_takeToken 131 = .ok (.iadd, 1) := by decide +kernel
theorem dX2_takeToken_132 : decode cX2_takeToken 132 = .ok (.putfield 35, 3) := by decide +kernel
theorem dX2_takeToken_135 : decode cX2_takeToken 135 = .ok (.goto (-36), 3) := by decide +kernel
theorem dX2_takeToken_138 : decode cX2_takeToken 138 = .ok (.aload_n 0, 1) := by decide +kernel
theorem dX2_takeToken_139 : decode cX2_takeToken 139 = .ok (.getfield 18, 3) := by decide +kernel
theorem dX2_takeToken_142 : decode cX2_takeToken 142 = .ok (.aload_n 0, 1) := by decide +kernel
theorem dX2_takeToken_143 : decode cX2_takeToken 143 = .ok (.getfield 35, 3) := by decide +kernel
theorem dX2_takeToken_146 : decode cX2_takeToken 146 = .ok (.iaload, 1) := by decide +kernel
theorem dX2_takeToken_147 : decode cX2_takeToken 147 = .ok (.invokestatic 64, 3) := by decide +kernel
theorem dX2_takeToken_150 : decode cX2_takeToken 150 = .ok (.ifCond .eq 99, 3) := by decide +kernel
theorem dX2_takeToken_153 : decode cX2_takeToken 153 = .ok (.aload_n 0, 1) := by decide +kernel
theorem dX2_takeToken_154 : decode cX2_takeToken 154 = .ok (.iconst 2, 1) := by decide +kernel
theorem dX2_takeToken_155 : decode cX2_takeToken 155 = .ok (.putfield 50, 3) := by decide +kernel
theorem dX2_takeToken_158 : decode cX2_takeToken 158 = .ok (.aload_n 0, 1) := by decide +kernel
theorem dX2_takeToken_159 : decode cX2_takeToken 159 = .ok (.iconst 0, 1) := by decide +kernel
theorem dX2_takeToken_160 : decode cX2_takeToken 160 = .ok (.putfield 67, 3) := by decide +kernel
theorem dX2_takeToken_163 : decode cX2_takeToken 163 = .ok (.aload_n 0, 1) := by decide +kernel
theorem dX2_takeToken_164 : decode cX2_takeToken 164 = .ok (.iconst 0, 1) := by decide +kernel
theorem dX2_takeToken_165 : decode cX2_takeToken 165 = .ok (.putfield 70, 3) := by decide +kernel
theorem dX2_takeToken_168 : decode cX2_takeToken 168 = .ok (.aload_n 0, 1) := by decide +kernel
theorem dX2_takeToken_169 : decode cX2_takeToken 169 = .ok (.getfield 35, 3) := by decide +kernel
theorem dX2_takeToken_172 : decode cX2_takeToken 172 = .ok (.aload_n 0, 1) := by decide +kernel
theorem dX2_takeToken_173 : decode cX2_takeToken 173 = .ok (.getfield 31, 3) := by decide +kernel
theorem dX2_takeToken_176 : decode cX2_takeToken 176 = .ok (.if_icmp .ge 106, 3) := by decide +kernel
theorem dX2_takeToken_179 : decode cX2_takeToken 179 = .ok (.aload_n 0, 1) := by decide +kernel
theorem dX2_takeToken_180 : decode cX2_takeToken 180 = .ok (.getfield 18, 3) := by decide +kernel
theorem dX2_takeToken_183 : decode cX2_takeToken 183 = .ok (.aload_n 0, 1) := by decide +kernel
theorem dX2_takeToken_184 : decode cX2_takeToken 184 = .ok (.getfield 35, 3) := by decide +kernel
theorem dX2_takeToken_187 : decode cX2_takeToken 187 = .ok (.iaload, 1) := by decide +kernel
theorem dX2_takeToken_188 : decode cX2_takeToken 188 = .ok (.invokestatic 64, 3) := by decide +kernel
theorem dX2_takeToken_191 : decode cX2_takeToken 191 = .ok (.ifCond .eq 91, 3) := by decide +kernel
theorem dX2_takeToken_194 : decode cX2_takeToken 194 = .ok (.aload_n 0, 1) := by decide +kernel
theorem dX2_takeToken_195 : decode cX2_takeToken 195 = .ok (.getfield 70, 3) := by decide +kernel
theorem dX2_takeToken_198 : decode cX2_takeToken 198 = .ok (.iconst 4, 1) := by decide +kernel
theorem dX2_takeToken_199 : decode cX2_takeToken 199 = .ok (.if_icmp .ge 27, 3) := by decide +kernel
theorem dX2_takeToken_202 : decode cX2_takeToken 202 = .ok (.aload_n 0, 1) := by decide +kernel
theorem dX2_takeToken_203 : decode cX2_takeToken 203 = .ok (.aload_n 0, 1) := by decide +kernel
theorem dX2_takeToken_204 : decode cX2_takeToken 204 = .ok (.getfield 67, 3) := by decide +kernel
theorem dX2_takeToken_207 : decode cX2_takeToken 207 = .ok (.bipush 10, 2) := by decide +kernel
theorem dX2_takeToken_209 : decode cX2_takeToken 209 = .ok (.imul, 1) := by decide +kernel
theorem dX2_takeToken_210 : decode cX2_takeToken 210 = .ok (.aload_n 0, 1) := by decide +kernel
theorem dX2_takeToken_211 : decode cX2_takeToken 211 = .ok (.getfield 18, 3) := by decide +kernel
theorem dX2_takeToken_214 : decode cX2_takeToken 214 = .ok (.aload_n 0, 1) := by decide +kernel
theorem dX2_takeToken_215 : decode cX2_takeToken 215 = .ok (.getfield 35, 3) := by decide +kernel
theorem dX2_takeToken_218 : decode cX2_takeToken 218 = .ok (.iaload, 1) := by decide +kernel
theorem dX2_takeToken_219 : decode cX2_takeToken 219 = .ok (.iadd, 1) := by decide +kernel
theorem dX2_takeToken_220 : decode cX2_takeToken 220 = .ok (.bipush 48, 2) := by decide +kernel
theorem dX2_takeToken_222 : decode cX2_takeToken 222 = .ok (.isub, 1) := by decide +kernel
theorem dX2_takeToken_223 : decode cX2_takeToken 223 = .ok (.putfield 67, 3) := by decide +kernel
theorem dX2_takeToken_226 : decode cX2_takeToken 226 = .ok (.aload_n 0, 1) := by decide +kernel
theorem dX2_takeToken_227 : decode cX2_takeToken 227 = .ok (.dup, 1) := by decide +kernel
theorem dX2_takeToken_228 : decode cX2_takeToken 228 = .ok (.getfield 70, 3) := by decide +kernel
theorem dX2_takeToken_231 : decode cX2_takeToken 231 = .ok (.iconst 1, 1) := by decide +kernel
theorem dX2_takeToken_232 : decode cX2_takeToken 232 = .ok (.iadd, 1) := by decide +kernel
theorem dX2_takeToken_233 : decode cX2_takeToken 233 = .ok (.putfield 70, 3) := by decide +kernel
theorem dX2_takeToken_236 : decode cX2_takeToken 236 = .ok (.aload_n 0, 1) := by decide +kernel
theorem dX2_takeToken_237 : decode cX2_takeToken 237 = .ok (.dup, 1) := by decide +kernel
theorem dX2_takeToken_238 : decode cX2_takeToken 238 = .ok (.getfield 35, 3) := by decide +kernel
theorem dX2_takeToken_241 : decode cX2_takeToken 241 = .ok (.iconst 1, 1) := by decide +kernel
theorem dX2_takeToken_242 : decode cX2_takeToken 242 = .ok (.iadd, 1) := by decide +kernel
theorem dX2_takeToken_243 : decode cX2_takeToken 243 = .ok (.putfield 35, 3) := by decide +kernel
theorem dX2_takeToken_246 : decode cX2_takeToken 246 = .ok (.goto (-78), 3) := by decide +kernel
theorem dX2_takeToken_249 : decode cX2_takeToken 249 = .ok (.aload_n 0, 1) := by decide +kernel
theorem dX2_takeToken_250 : decode cX2_takeToken 250 = .ok (.aload_n 0, 1) := by decide +kernel
theorem dX2_takeToken_251 : decode cX2_takeToken 251 = .ok (.getfield 18, 3) := by decide +kernel
theorem dX2_takeToken_254 : decode cX2_takeToken 254 = .ok (.aload_n 0, 1) := by decide +kernel
theorem dX2_takeToken_255 : decode cX2_takeToken 255 = .ok (.getfield 35, 3) := by decide +kernel
theorem dX2_takeToken_258 : decode cX2_takeToken 258 = .ok (.iaload, 1) := by decide +kernel
theorem dX2_takeToken_259 : decode cX2_takeToken 259 = .ok (.bipush 59, 2) := by decide +kernel
theorem dX2_takeToken_261 : decode cX2_takeToken 261 = .ok (.if_icmp .ne 7, 3) := by decide +kernel
theorem dX2_takeToken_264 : decode cX2_takeToken 264 = .ok (.iconst 3, 1) := by decide +kernel
theorem dX2_takeToken_265 : decode cX2_takeToken 265 = .ok (.goto 4, 3) := by decide +kernel
theorem dX2_takeToken_268 : decode cX2_takeToken 268 = .ok (.iconst 4, 1) := by decide +kernel
theorem dX2_takeToken_269 : decode cX2_takeToken 269 = .ok (.putfield 50, 3) := by decide +kernel
theorem dX2_takeToken_272 : decode cX2_takeToken 272 = .ok (.aload_n 0, 1) := by decide +kernel
theorem dX2_takeToken_273 : decode cX2_takeToken 273 = .ok (.dup, 1) := by decide +kernel
theorem dX2_takeToken_274 : decode cX2_takeToken 274 = .ok (.getfield 35, 3) := by decide +kernel
theorem dX2_takeToken_277 : decode cX2_takeToken 277 = .ok (.iconst 1, 1) := by decide +kernel
theorem dX2_takeToken_278 : decode cX2_takeToken 278 = .ok (.iadd, 1) := by decide +kernel
theorem dX2_takeToken_279 : decode cX2_takeToken 279 = .ok (.putfield 35, 3) := by decide +kernel
theorem dX2_takeToken_282 : decode cX2_takeToken 282 = .ok (.return_, 1) := by decide +kernel
theorem dX2_isLetter_0 : decode cX2_isLetter 0 = .ok (.iload_n 0, 1) := by decide +kernel
theorem dX2_isLetter_1 : decode cX2_isLetter 1 = .ok (.bipush 97, 2) := by decide +kernel
theorem dX2_isLetter_3 : decode cX2_isLetter 3 = .ok (.if_icmp .lt 13, 3) := by decide +kernel
theorem dX2_isLetter_6 : decode cX2_isLetter 6 = .ok (.iload_n 0, 1) := by decide +kernel
theorem dX2_isLetter_7 : decode cX2_isLetter 7 = .ok (.bipush 122, 2) := by decide +kernel
theorem dX2_isLetter_9 : decode cX2_isLetter 9 = .ok (.if_icmp .gt 7, 3) := by decide +kernel
theorem dX2_isLetter_12 : decode cX2_isLetter 12 = .ok (.iconst 1, 1) := by decide +kernel
theorem dX2_isLetter_13 : decode cX2_isLetter 13 = .ok (.goto 4, 3) := by decide +kernel
theorem dX2_isLetter_16 : decode cX2_isLetter 16 = .ok (.iconst 0, 1) := by decide +kernel
theorem dX2_isLetter_17 : decode cX2_isLetter 17 = .ok (.ireturn, 1) := by decide +kernel
theorem dX2_isDigit_0 : decode cX2_isDigit 0 = .ok (.iload_n 0, 1) := by decide +kernel
theorem dX2_isDigit_1 : decode cX2_isDigit 1 = .ok (.bipush 48, 2) := by decide +kernel
theorem dX2_isDigit_3 : decode cX2_isDigit 3 = .ok (.if_icmp .lt 13, 3) := by decide +kernel
theorem dX2_isDigit_6 : decode cX2_isDigit 6 = .ok (.iload_n 0, 1) := by decide +kernel
theorem dX2_isDigit_7 : decode cX2_isDigit 7 = .ok (.bipush 57, 2) := by decide +kernel
theorem dX2_isDigit_9 : decode cX2_isDigit 9 = .ok (.if_icmp .gt 7, 3) := by decide +kernel
theorem dX2_isDigit_12 : decode cX2_isDigit 12 = .ok (.iconst 1, 1) := by decide +kernel
theorem dX2_isDigit_13 : decode cX2_isDigit 13 = .ok (.goto 4, 3) := by decide +kernel
theorem dX2_isDigit_16 : decode cX2_isDigit 16 = .ok (.iconst 0, 1) := by decide +kernel
theorem dX2_isDigit_17 : decode cX2_isDigit 17 = .ok (.ireturn, 1) := by decide +kernel
theorem dX2_isWord_0 : decode cX2_isWord 0 = .ok (.aload_n 0, 1) := by decide +kernel
theorem dX2_isWord_1 : decode cX2_isWord 1 = .ok (.getfield 50, 3) := by decide +kernel
theorem dX2_isWord_4 : decode cX2_isWord 4 = .ok (.iconst 1, 1) := by decide +kernel
theorem dX2_isWord_5 : decode cX2_isWord 5 = .ok (.if_icmp .ne 19, 3) := by decide +kernel
theorem dX2_isWord_8 : decode cX2_isWord 8 = .ok (.aload_n 0, 1) := by decide +kernel
theorem dX2_isWord_9 : decode cX2_isWord 9 = .ok (.getfield 35, 3) := by decide +kernel
theorem dX2_isWord_12 : decode cX2_isWord 12 = .ok (.aload_n 0, 1) := by decide +kernel
theorem dX2_isWord_13 : decode cX2_isWord 13 = .ok (.getfield 57, 3) := by decide +kernel
theorem dX2_isWord_16 : decode cX2_isWord 16 = .ok (.isub, 1) := by decide +kernel
theorem dX2_isWord_17 : decode cX2_isWord 17 = .ok (.aload_n 1, 1) := by decide +kernel
theorem dX2_isWord_18 : decode cX2_isWord 18 = .ok (.invokevirtual 73, 3) := by decide +kernel
theorem dX2_isWord_21 : decode cX2_isWord 21 = .ok (.if_icmp .eq 5, 3) := by decide +kernel
theorem dX2_isWord_24 : decode cX2_isWord 24 = .ok (.iconst 0, 1) := by decide +kernel
theorem dX2_isWord_25 : decode cX2_isWord 25 = .ok (.ireturn, 1) := by decide +kernel
theorem dX2_isWord_26 : decode cX2_isWord 26 = .ok (.iconst 0, 1) := by decide +kernel
theorem dX2_isWord_27 : decode cX2_isWord 27 = .ok (.istore_n 2, 1) := by decide +kernel
theorem dX2_isWord_28 : decode cX2_isWord 28 = .ok (.iload_n 2, 1) := by decide +kernel
theorem dX2_isWord_29 : decode cX2_isWord 29 = .ok (.aload_n 1, 1) := by decide +kernel
theorem dX2_isWord_30 : decode cX2_isWord 30 = .ok (.invokevirtual 73, 3) := by decide +kernel
theorem dX2_isWord_33 : decode cX2_isWord 33 = .ok (.if_icmp .ge 30, 3) := by decide +kernel
theorem dX2_isWord_36 : decode cX2_isWord 36 = .ok (.aload_n 0, 1) := by decide +kernel
theorem dX2_isWord_37 : decode cX2_isWord 37 = .ok (.getfield 18, 3) := by decide +kernel
theorem dX2_isWord_40 : decode cX2_isWord 40 = .ok (.aload_n 0, 1) := by decide +kernel
theorem dX2_isWord_41 : decode cX2_isWord 41 = .ok (.getfield 57, 3) := by decide +kernel
theorem dX2_isWord_44 : decode cX2_isWord 44 = .ok (.iload_n 2, 1) := by decide +kernel
theorem dX2_isWord_45 : decode cX2_isWord 45 = .ok (.iadd, 1) := by decide +kernel
theorem dX2_isWord_46 : decode cX2_isWord 46 = .ok (.iaload, 1) := by decide +kernel
theorem dX2_isWord_47 : decode cX2_isWord 47 = .ok (.aload_n 1, 1) := by decide +kernel
theorem dX2_isWord_48 : decode cX2_isWord 48 = .ok (.iload_n 2, 1) := by decide +kernel
theorem dX2_isWord_49 : decode cX2_isWord 49 = .ok (.invokevirtual 78, 3) := by decide +kernel
theorem dX2_isWord_52 : decode cX2_isWord 52 = .ok (.if_icmp .eq 5, 3) := by decide +kernel
theorem dX2_isWord_55 : decode cX2_isWord 55 = .ok (.iconst 0, 1) := by decide +kernel
theorem dX2_isWord_56 : decode cX2_isWord 56 = .ok (.ireturn, 1) := by decide +kernel
theorem dX2_isWord_57 : decode cX2_isWord 57 = .ok (.iinc 2 1, 3) := by decide +kernel
theorem dX2_isWord_60 : decode cX2_isWord 60 = .ok (.goto (-32), 3) := by decide +kernel
theorem dX2_isWord_63 : decode cX2_isWord 63 = .ok (.iconst 1, 1) := by decide +kernel
theorem dX2_isWord_64 : decode cX2_isWord 64 = .ok (.ireturn, 1) := by decide +kernel
theorem dX2_readLine_0 : decode cX2_readLine 0 = .ok (.aload_n 0, 1) := by decide +kernel
theorem dX2_readLine_1 : decode cX2_readLine 1 = .ok (.ldc 82, 2) := by decide +kernel
theorem dX2_readLine_3 : decode cX2_readLine 3 = .ok (.invokevirtual 84, 3) := by decide +kernel
theorem dX2_readLine_6 : decode cX2_readLine 6 = .ok (.ifCond .eq 8, 3) := by decide +kernel
theorem dX2_readLine_9 : decode cX2_readLine 9 = .ok (.aload_n 0, 1) := by decide +kernel
theorem dX2_readLine_10 : decode cX2_readLine 10 = .ok (.invokevirtual 88, 3) := by decide +kernel
theorem dX2_readLine_13 : decode cX2_readLine 13 = .ok (.ireturn, 1) := by decide +kernel
theorem dX2_readLine_14 : decode cX2_readLine 14 = .ok (.aload_n 0, 1) := by decide +kernel
theorem dX2_readLine_15 : decode cX2_readLine 15 = .ok (.ldc 91, 2) := by decide +kernel
theorem dX2_readLine_17 : decode cX2_readLine 17 = .ok (.invokevirtual 84, 3) := by decide +kernel
theorem dX2_readLine_20 : decode cX2_readLine 20 = .ok (.ifCond .eq 8, 3) := by decide +kernel
theorem dX2_readLine_23 : decode cX2_readLine 23 = .ok (.aload_n 0, 1) := by decide +kernel
theorem dX2_readLine_24 : decode cX2_readLine 24 = .ok (.invokevirtual 93, 3) := by decide +kernel
theorem dX2_readLine_27 : decode cX2_readLine 27 = .ok (.ireturn, 1) := by decide +kernel
theorem dX2_readLine_28 : decode cX2_readLine 28 = .ok (.aload_n 0, 1) := by decide +kernel
theorem dX2_readLine_29 : decode cX2_readLine 29 = .ok (.ldc 96, 2) := by decide +kernel
theorem dX2_readLine_31 : decode cX2_readLine 31 = .ok (.invokevirtual 84, 3) := by decide +kernel
theorem dX2_readLine_34 : decode cX2_readLine 34 = .ok (.ifCond .eq 24, 3) := by decide +kernel
theorem dX2_readLine_37 : decode cX2_readLine 37 = .ok (.aload_n 0, 1) := by decide +kernel
theorem dX2_readLine_38 : decode cX2_readLine 38 = .ok (.iconst 1, 1) := by decide +kernel
theorem dX2_readLine_39 : decode cX2_readLine 39 = .ok (.invokevirtual 98, 3) := by decide +kernel
theorem dX2_readLine_42 : decode cX2_readLine 42 = .ok (.ifCond .eq 14, 3) := by decide +kernel
theorem dX2_readLine_45 : decode cX2_readLine 45 = .ok (.aload_n 0, 1) := by decide +kernel
theorem dX2_readLine_46 : decode cX2_readLine 46 = .ok (.invokevirtual 101, 3) := by decide +kernel
theorem dX2_readLine_49 : decode cX2_readLine 49 = .ok (.ifCond .eq 7, 3) := by decide +kernel
theorem dX2_readLine_52 : decode cX2_readLine 52 = .ok (.iconst 1, 1) := by decide +kernel
theorem dX2_readLine_53 : decode cX2_readLine 53 = .ok (.goto 4, 3) := by decide +kernel
theorem dX2_readLine_56 : decode cX2_readLine 56 = .ok (.iconst 0, 1) := by decide +kernel
theorem dX2_readLine_57 : decode cX2_readLine 57 = .ok (.ireturn, 1) := by decide +kernel
theorem dX2_readLine_58 : decode cX2_readLine 58 = .ok (.aload_n 0, 1) := by decide +kernel
theorem dX2_readLine_59 : decode cX2_readLine 59 = .ok (.ldc 104, 2) := by decide +kernel
theorem dX2_readLine_61 : decode cX2_readLine 61 = .ok (.invokevirtual 84, 3) := by decide +kernel
theorem dX2_readLine_64 : decode cX2_readLine 64 = .ok (.ifCond .eq 24, 3) := by decide +kernel
theorem dX2_readLine_67 : decode cX2_readLine 67 = .ok (.aload_n 0, 1) := by decide +kernel
theorem dX2_readLine_68 : decode cX2_readLine 68 = .ok (.iconst 2, 1) := by decide +kernel
theorem dX2_readLine_69 : decode cX2_readLine 69 = .ok (.invokevirtual 98, 3) := by decide +kernel
theorem dX2_readLine_72 : decode cX2_readLine 72 = .ok (.ifCond .eq 14, 3) := by decide +kernel
theorem dX2_readLine_75 : decode cX2_readLine 75 = .ok (.aload_n 0, 1) := by decide +kernel
theorem dX2_readLine_76 : decode cX2_readLine 76 = .ok (.invokevirtual 106, 3) := by decide +kernel
theorem dX2_readLine_79 : decode cX2_readLine 79 = .ok (.ifCond .eq 7, 3) := by decide +kernel
theorem dX2_readLine_82 : decode cX2_readLine 82 = .ok (.iconst 1, 1) := by decide +kernel
theorem dX2_readLine_83 : decode cX2_readLine 83 = .ok (.goto 4, 3) := by decide +kernel
theorem dX2_readLine_86 : decode cX2_readLine 86 = .ok (.iconst 0, 1) := by decide +kernel
theorem dX2_readLine_87 : decode cX2_readLine 87 = .ok (.ireturn, 1) := by decide +kernel
theorem dX2_readLine_88 : decode cX2_readLine 88 = .ok (.aload_n 0, 1) := by decide +kernel
theorem dX2_readLine_89 : decode cX2_readLine 89 = .ok (.ldc 109, 2) := by decide +kernel
theorem dX2_readLine_91 : decode cX2_readLine 91 = .ok (.invokevirtual 84, 3) := by decide +kernel
theorem dX2_readLine_94 : decode cX2_readLine 94 = .ok (.ifCond .eq 24, 3) := by decide +kernel
theorem dX2_readLine_97 : decode cX2_readLine 97 = .ok (.aload_n 0, 1) := by decide +kernel
theorem dX2_readLine_98 : decode cX2_readLine 98 = .ok (.iconst 4, 1) := by decide +kernel
theorem dX2_readLine_99 : decode cX2_readLine 99 = .ok (.invokevirtual 98, 3) := by decide +kernel
theorem dX2_readLine_102 : decode cX2_readLine 102 = .ok (.ifCond .eq 14, 3) := by decide +kernel
theorem dX2_readLine_105 : decode cX2_readLine 105 = .ok (.aload_n 0, 1) := by decide +kernel
theorem dX2_readLine_106 : decode cX2_readLine 106 = .ok (.invokevirtual 111, 3) := by decide +kernel
theorem dX2_readLine_109 : decode cX2_readLine 109 = .ok (.ifCond .eq 7, 3) := by decide +kernel
theorem dX2_readLine_112 : decode cX2_readLine 112 = .ok (.iconst 1, 1) := by decide +kernel
theorem dX2_readLine_113 : decode cX2_readLine 113 = .ok (.goto 4, 3) := by decide +kernel
theorem dX2_readLine_116 : decode cX2_readLine 116 = .ok (.iconst 0, 1) := by decide +kernel
theorem dX2_readLine_117 : decode cX2_readLine 117 = .ok (.ireturn, 1) := by decide +kernel
theorem dX2_readLine_118 : decode cX2_readLine 118 = .ok (.aload_n 0, 1) := by decide +kernel
theorem dX2_readLine_119 : decode cX2_readLine 119 = .ok (.ldc 114, 2) := by decide +kernel
theorem dX2_readLine_121 : decode cX2_readLine 121 = .ok (.invokevirtual 84, 3) := by decide +kernel
theorem dX2_readLine_124 : decode cX2_readLine 124 = .ok (.ifCond .eq 25, 3) := by decide +kernel
theorem dX2_readLine_127 : decode cX2_readLine 127 = .ok (.aload_n 0, 1) := by decide +kernel
theorem dX2_readLine_128 : decode cX2_readLine 128 = .ok (.bipush 8, 2) := by decide +kernel
theorem dX2_readLine_130 : decode cX2_readLine 130 = .ok (.invokevirtual 98, 3) := by decide +kernel
theorem dX2_readLine_133 : decode cX2_readLine 133 = .ok (.ifCond .eq 14, 3) := by decide +kernel
theorem dX2_readLine_136 : decode cX2_readLine 136 = .ok (.aload_n 0, 1) := by decide +kernel
theorem dX2_readLine_137 : decode cX2_readLine 137 = .ok (.invokevirtual 116, 3) := by decide +kernel
theorem dX2_readLine_140 : decode cX2_readLine 140 = .ok (.ifCond .eq 7, 3) := by decide +kernel
theorem dX2_readLine_143 : decode cX2_readLine 143 = .ok (.iconst 1, 1) := by decide +kernel
theorem dX2_readLine_144 : decode cX2_readLine 144 = .ok (.goto 4, 3) := by decide +kernel
theorem dX2_readLine_147 : decode cX2_readLine 147 = .ok (.iconst 0, 1) := by decide +kernel
theorem dX2_readLine_148 : decode cX2_readLine 148 = .ok (.ireturn, 1) := by decide +kernel
theorem dX2_readLine_149 : decode cX2_readLine 149 = .ok (.aload_n 0, 1) := by decide +kernel
theorem dX2_readLine_150 : decode cX2_readLine 150 = .ok (.iconst 1, 1) := by decide +kernel
theorem dX2_readLine_151 : decode cX2_readLine 151 = .ok (.invokevirtual 119, 3) := by decide +kernel
theorem dX2_readLine_154 : decode cX2_readLine 154 = .ok (.ireturn, 1) := by decide +kernel
theorem dX2_tellOnce_0 : decode cX2_tellOnce 0 = .ok (.aload_n 0, 1) := by decide +kernel
theorem dX2_tellOnce_1 : decode cX2_tellOnce 1 = .ok (.getfield 38, 3) := by decide +kernel
theorem dX2_tellOnce_4 : decode cX2_tellOnce 4 = .ok (.iload_n 1, 1) := by decide +kernel
theorem dX2_tellOnce_5 : decode cX2_tellOnce 5 = .ok (.iand, 1) := by decide +kernel
theorem dX2_tellOnce_6 : decode cX2_tellOnce 6 = .ok (.ifCond .eq 9, 3) := by decide +kernel
theorem dX2_tellOnce_9 : decode cX2_tellOnce 9 = .ok (.aload_n 0, 1) := by decide +kernel
theorem dX2_tellOnce_10 : decode cX2_tellOnce 10 = .ok (.iconst 5, 1) := by decide +kernel
theorem dX2_tellOnce_11 : decode cX2_tellOnce 11 = .ok (.invokevirtual 119, 3) := by decide +kernel
theorem dX2_tellOnce_14 : decode cX2_tellOnce 14 = .ok (.ireturn, 1) := by decide +kernel
theorem dX2_tellOnce_15 : decode cX2_tellOnce 15 = .ok (.aload_n 0, 1) := by decide +kernel
theorem dX2_tellOnce_16 : decode cX2_tellOnce 16 = .ok (.dup, 1) := by decide +kernel
theorem dX2_tellOnce_17 : decode cX2_tellOnce 17 = .ok (.getfield 38, 3) := by decide +kernel
theorem dX2_tellOnce_20 : decode cX2_tellOnce 20 = .ok (.iload_n 1, 1) := by decide +kernel
theorem dX2_tellOnce_21 : decode cX2_tellOnce 21 = .ok (.ior, 1) := by decide +kernel
theorem dX2_tellOnce_22 : decode cX2_tellOnce 22 = .ok (.putfield 38, 3) := by decide +kernel
theorem dX2_tellOnce_25 : decode cX2_tellOnce 25 = .ok (.iconst 1, 1) := by decide +kernel
theorem dX2_tellOnce_26 : decode cX2_tellOnce 26 = .ok (.ireturn, 1) := by decide +kernel
theorem dX2_readNumber_0 : decode cX2_readNumber 0 = .ok (.aload_n 0, 1) := by decide +kernel
theorem dX2_readNumber_1 : decode cX2_readNumber 1 = .ok (.invokevirtual 47, 3) := by decide +kernel
theorem dX2_readNumber_4 : decode cX2_readNumber 4 = .ok (.aload_n 0, 1) := by decide +kernel
theorem dX2_readNumber_5 : decode cX2_readNumber 5 = .ok (.getfield 50, 3) := by decide +kernel
theorem dX2_readNumber_8 : decode cX2_readNumber 8 = .ok (.iconst 2, 1) := by decide +kernel
theorem dX2_readNumber_9 : decode cX2_readNumber 9 = .ok (.if_icmp .eq 9, 3) := by decide +kernel
theorem dX2_readNumber_12 : decode cX2_readNumber 12 = .ok (.aload_n 0, 1) := by decide +kernel
theorem dX2_readNumber_13 : decode cX2_readNumber 13 = .ok (.iconst 1, 1) := by decide +kernel
theorem dX2_readNumber_14 : decode cX2_readNumber 14 = .ok (.invokevirtual 119, 3) := by decide +kernel
theorem dX2_readNumber_17 : decode cX2_readNumber 17 = .ok (.ireturn, 1) := by decide +kernel
theorem dX2_readNumber_18 : decode cX2_readNumber 18 = .ok (.aload_n 0, 1) := by decide +kernel
theorem dX2_readNumber_19 : decode cX2_readNumber 19 = .ok (.getfield 70, 3) := by decide +kernel
theorem dX2_readNumber_22 : decode cX2_readNumber 22 = .ok (.iconst 4, 1) := by decide +kernel
theorem dX2_readNumber_23 : decode cX2_readNumber 23 = .ok (.if_icmp .gt 19, 3) := by decide +kernel
theorem dX2_readNumber_26 : decode cX2_readNumber 26 = .ok (.aload_n 0, 1) := by decide +kernel
theorem dX2_readNumber_27 : decode cX2_readNumber 27 = .ok (.getfield 67, 3) := by decide +kernel
theorem dX2_readNumber_30 : decode cX2_readNumber 30 = .ok (.iload_n 1, 1) := by decide +kernel
theorem dX2_readNumber_31 : decode cX2_readNumber 31 = .ok (.if_icmp .lt 11, 3) := by decide +kernel
theorem dX2_readNumber_34 : decode cX2_readNumber 34 = .ok (.aload_n 0, 1) := by decide +kernel
theorem dX2_readNumber_35 : decode cX2_readNumber 35 = .ok (.getfield 67, 3) := by decide +kernel
theorem dX2_readNumber_38 : decode cX2_readNumber 38 = .ok (.iload_n 2, 1) := by decide +kernel
theorem dX2_readNumber_39 : decode cX2_readNumber 39 = .ok (.if_icmp .le 9, 3) := by decide +kernel
theorem dX2_readNumber_42 : decode cX2_readNumber 42 = .ok (.aload_n 0, 1) := by decide +kernel
theorem dX2_readNumber_43 : decode cX2_readNumber 43 = .ok (.iconst 2, 1) := by decide +kernel
theorem dX2_readNumber_44 : decode cX2_readNumber 44 = .ok (.invokevirtual 119, 3) := by decide +kernel
theorem dX2_readNumber_47 : decode cX2_readNumber 47 = .ok (.ireturn, 1) := by decide +kernel
theorem dX2_readNumber_48 : decode cX2_readNumber 48 = .ok (.iconst 1, 1) := by decide +kernel
theorem dX2_readNumber_49 : decode cX2_readNumber 49 = .ok (.ireturn, 1) := by decide +kernel
theorem dX2_readKnown_0 : decode cX2_readKnown 0 = .ok (.aload_n 0, 1) := by decide +kernel
theorem dX2_readKnown_1 : decode cX2_readKnown 1 = .ok (.iconst 0, 1) := by decide +kernel
theorem dX2_readKnown_2 : decode cX2_readKnown 2 = .ok (.sipush 9999, 3) := by decide +kernel
theorem dX2_readKnown_5 : decode cX2_readKnown 5 = .ok (.invokevirtual 122, 3) := by decide +kernel
theorem dX2_readKnown_8 : decode cX2_readKnown 8 = .ok (.ifCond .ne 5, 3) := by decide +kernel
theorem dX2_readKnown_11 : decode cX2_readKnown 11 = .ok (.iconst 0, 1) := by decide +kernel
theorem dX2_readKnown_12 : decode cX2_readKnown 12 = .ok (.ireturn, 1) := by decide +kernel
theorem dX2_readKnown_13 : decode cX2_readKnown 13 = .ok (.aload_n 0, 1) := by decide +kernel
theorem dX2_readKnown_14 : decode cX2_readKnown 14 = .ok (.getfield 67, 3) := by decide +kernel
theorem dX2_readKnown_17 : decode cX2_readKnown 17 = .ok (.aload_n 0, 1) := by decide +kernel
theorem dX2_readKnown_18 : decode cX2_readKnown 18 = .ok (.getfield 12, 3) := by decide +kernel
theorem dX2_readKnown_21 : decode cX2_readKnown 21 = .ok (.getfield 126, 3) := by decide +kernel
theorem dX2_readKnown_24 : decode cX2_readKnown 24 = .ok (.if_icmp .lt 11, 3) := by decide +kernel
theorem dX2_readKnown_27 : decode cX2_readKnown 27 = .ok (.aload_n 0, 1) := by decide +kernel
theorem dX2_readKnown_28 : decode cX2_readKnown 28 = .ok (.iconst 3, 1) := by decide +kernel
theorem dX2_readKnown_29 : decode cX2_readKnown 29 = .ok (.invokevirtual 119, 3) := by decide +kernel
theorem dX2_readKnown_32 : decode cX2_readKnown 32 = .ok (.ifCond .eq 7, 3) := by decide +kernel
theorem dX2_readKnown_35 : decode cX2_readKnown 35 = .ok (.iconst 1, 1) := by decide +kernel
theorem dX2_readKnown_36 : decode cX2_readKnown 36 = .ok (.goto 4, 3) := by decide +kernel
theorem dX2_readKnown_39 : decode cX2_readKnown 39 = .ok (.iconst 0, 1) := by decide +kernel
theorem dX2_readKnown_40 : decode cX2_readKnown 40 = .ok (.ireturn, 1) := by decide +kernel
theorem dX2_readPerhaps_0 : decode cX2_readPerhaps 0 = .ok (.aload_n 0, 1) := by decide +kernel
theorem dX2_readPerhaps_1 : decode cX2_readPerhaps 1 = .ok (.aload_n 1, 1) := by decide +kernel
theorem dX2_readPerhaps_2 : decode cX2_readPerhaps 2 = .ok (.invokevirtual 84, 3) := by decide +kernel
theorem dX2_readPerhaps_5 : decode cX2_readPerhaps 5 = .ok (.ifCond .ne 11, 3) := by decide +kernel
theorem dX2_readPerhaps_8 : decode cX2_readPerhaps 8 = .ok (.aload_n 0, 1) := by decide +kernel
theorem dX2_readPerhaps_9 : decode cX2_readPerhaps 9 = .ok (.iload 4, 2) := by decide +kernel
theorem dX2_readPerhaps_11 : decode cX2_readPerhaps 11 = .ok (.putfield 67, 3) := by decide +kernel
theorem dX2_readPerhaps_14 : decode cX2_readPerhaps 14 = .ok (.iconst 1, 1) := by decide +kernel
theorem dX2_readPerhaps_15 : decode cX2_readPerhaps 15 = .ok (.ireturn, 1) := by decide +kernel
theorem dX2_readPerhaps_16 : decode cX2_readPerhaps 16 = .ok (.aload_n 0, 1) := by decide +kernel
theorem dX2_readPerhaps_17 : decode cX2_readPerhaps 17 = .ok (.iload_n 2, 1) := by decide +kernel
theorem dX2_readPerhaps_18 : decode cX2_readPerhaps 18 = .ok (.iload_n 3, 1) := by decide +kernel
theorem dX2_readPerhaps_19 : decode cX2_readPerhaps 19 = .ok (.invokevirtual 122, 3) := by decide +kernel
theorem dX2_readPerhaps_22 : decode cX2_readPerhaps 22 = .ok (.ifCond .ne 5, 3) := by decide +kernel
theorem dX2_readPerhaps_25 : decode cX2_readPerhaps 25 = .ok (.iconst 0, 1) := by decide +kernel
theorem dX2_readPerhaps_26 : decode cX2_readPerhaps 26 = .ok (.ireturn, 1) := by decide +kernel
theorem dX2_readPerhaps_27 : decode cX2_readPerhaps 27 = .ok (.aload_n 0, 1) := by decide +kernel
theorem dX2_readPerhaps_28 : decode cX2_readPerhaps 28 = .ok (.getfield 67, 3) := by decide +kernel
theorem dX2_readPerhaps_31 : decode cX2_readPerhaps 31 = .ok (.istore 5, 2) := by decide +kernel
theorem dX2_readPerhaps_33 : decode cX2_readPerhaps 33 = .ok (.aload_n 0, 1) := by decide +kernel
theorem dX2_readPerhaps_34 : decode cX2_readPerhaps 34 = .ok (.invokevirtual 47, 3) := by decide +kernel
theorem dX2_readPerhaps_37 : decode cX2_readPerhaps 37 = .ok (.aload_n 0, 1) := by decide +kernel
theorem dX2_readPerhaps_38 : decode cX2_readPerhaps 38 = .ok (.iload 5, 2) := by decide +kernel
theorem dX2_readPerhaps_40 : decode cX2_readPerhaps 40 = .ok (.putfield 67, 3) := by decide +kernel
theorem dX2_readPerhaps_43 : decode cX2_readPerhaps 43 = .ok (.iconst 1, 1) := by decide +kernel
theorem dX2_readPerhaps_44 : decode cX2_readPerhaps 44 = .ok (.ireturn, 1) := by decide +kernel
theorem dX2_isClosed_0 : decode cX2_isClosed 0 = .ok (.aload_n 0, 1) := by decide +kernel
theorem dX2_isClosed_1 : decode cX2_isClosed 1 = .ok (.getfield 50, 3) := by decide +kernel
theorem dX2_isClosed_4 : decode cX2_isClosed 4 = .ok (.iconst 3, 1) := by decide +kernel
theorem dX2_isClosed_5 : decode cX2_isClosed 5 = .ok (.if_icmp .eq 11, 3) := by decide +kernel
theorem dX2_isClosed_8 : decode cX2_isClosed 8 = .ok (.aload_n 0, 1) := by decide +kernel
theorem dX2_isClosed_9 : decode cX2_isClosed 9 = .ok (.iconst 1, 1) := by decide +kernel
theorem dX2_isClosed_10 : decode cX2_isClosed 10 = .ok (.invokevirtual 119, 3) := by decide +kernel
theorem dX2_isClosed_13 : decode cX2_isClosed 13 = .ok (.ifCond .eq 7, 3) := by decide +kernel
theorem dX2_isClosed_16 : decode cX2_isClosed 16 = .ok (.iconst 1, 1) := by decide +kernel
theorem dX2_isClosed_17 : decode cX2_isClosed 17 = .ok (.goto 4, 3) := by decide +kernel
theorem dX2_isClosed_20 : decode cX2_isClosed 20 = .ok (.iconst 0, 1) := by decide +kernel
theorem dX2_isClosed_21 : decode cX2_isClosed 21 = .ok (.ireturn, 1) := by decide +kernel
theorem dX2_readPerson_0 : decode cX2_readPerson 0 = .ok (.aload_n 0, 1) := by decide +kernel
theorem dX2_readPerson_1 : decode cX2_readPerson 1 = .ok (.getfield 12, 3) := by decide +kernel
theorem dX2_readPerson_4 : decode cX2_readPerson 4 = .ok (.getfield 126, 3) := by decide +kernel
theorem dX2_readPerson_7 : decode cX2_readPerson 7 = .ok (.bipush 8, 2) := by decide +kernel
theorem dX2_readPerson_9 : decode cX2_readPerson 9 = .ok (.if_icmp .lt 9, 3) := by decide +kernel
theorem dX2_readPerson_12 : decode cX2_readPerson 12 = .ok (.aload_n 0, 1) := by decide +kernel
theorem dX2_readPerson_13 : decode cX2_readPerson 13 = .ok (.iconst 2, 1) := by decide +kernel
theorem dX2_readPerson_14 : decode cX2_readPerson 14 = .ok (.invokevirtual 119, 3) := by decide +kernel
theorem dX2_readPerson_17 : decode cX2_readPerson 17 = .ok (.ireturn, 1) := by decide +kernel
theorem dX2_readPerson_18 : decode cX2_readPerson 18 = .ok (.aload_n 0, 1) := by decide +kernel
theorem dX2_readPerson_19 : decode cX2_readPerson 19 = .ok (.invokevirtual 47, 3) := by decide +kernel
theorem dX2_readPerson_22 : decode cX2_readPerson 22 = .ok (.aload_n 0, 1) := by decide +kernel
theorem dX2_readPerson_23 : decode cX2_readPerson 23 = .ok (.invokevirtual 129, 3) := by decide +kernel
theorem dX2_readPerson_26 : decode cX2_readPerson 26 = .ok (.istore_n 1, 1) := by decide +kernel
theorem dX2_readPerson_27 : decode cX2_readPerson 27 = .ok (.iload_n 1, 1) := by decide +kernel
theorem dX2_readPerson_28 : decode cX2_readPerson 28 = .ok (.ifCond .ge 9, 3) := by decide +kernel
theorem dX2_readPerson_31 : decode cX2_readPerson 31 = .ok (.aload_n 0, 1) := by decide +kernel
theorem dX2_readPerson_32 : decode cX2_readPerson 32 = .ok (.iconst 1, 1) := by decide +kernel
theorem dX2_readPerson_33 : decode cX2_readPerson 33 = .ok (.invokevirtual 119, 3) := by decide +kernel
theorem dX2_readPerson_36 : decode cX2_readPerson 36 = .ok (.ireturn, 1) := by decide +kernel
theorem dX2_readPerson_37 : decode cX2_readPerson 37 = .ok (.iconst 0, 1) := by decide +kernel
theorem dX2_readPerson_38 : decode cX2_readPerson 38 = .ok (.istore_n 2, 1) := by decide +kernel
theorem dX2_readPerson_39 : decode cX2_readPerson 39 = .ok (.iload_n 1, 1) := by decide +kernel
theorem dX2_readPerson_40 : decode cX2_readPerson 40 = .ok (.ifCond .eq 8, 3) := by decide +kernel
theorem dX2_readPerson_43 : decode cX2_readPerson 43 = .ok (.iload_n 1, 1) := by decide +kernel
theorem dX2_readPerson_44 : decode cX2_readPerson 44 = .ok (.iconst 2, 1) := by decide +kernel
theorem dX2_readPerson_45 : decode cX2_readPerson 45 = .ok (.if_icmp .ne 32, 3) := by decide +kernel
theorem dX2_readPerson_48 : decode cX2_readPerson 48 = .ok (.aload_n 0, 1) := by decide +kernel
theorem dX2_readPerson_49 : decode cX2_readPerson 49 = .ok (.iconst 0, 1) := by decide +kernel
theorem dX2_readPerson_50 : decode cX2_readPerson 50 = .ok (.iload_n 1, 1) := by decide +kernel
theorem dX2_readPerson_51 : decode cX2_readPerson 51 = .ok (.iconst 2, 1) := by decide +kernel
theorem dX2_readPerson_52 : decode cX2_readPerson 52 = .ok (.if_icmp .ne 9, 3) := by decide +kernel
theorem dX2_readPerson_55 : decode cX2_readPerson 55 = .ok (.sipush 1000, 3) := by decide +kernel
theorem dX2_readPerson_58 : decode cX2_readPerson 58 = .ok (.goto 6, 3) := by decide +kernel
theorem dX2_readPerson_61 : decode cX2_readPerson 61 = .ok (.sipush 9999, 3) := by decide +kernel
theorem dX2_readPerson_64 : decode cX2_readPerson 64 = .ok (.invokevirtual 122, 3) := by decide +kernel
theorem dX2_readPerson_67 : decode cX2_readPerson 67 = .ok (.ifCond .ne 5, 3) := by decide +kernel
theorem dX2_readPerson_70 : decode cX2_readPerson 70 = .ok (.iconst 0, 1) := by decide +kernel
theorem dX2_readPerson_71 : decode cX2_readPerson 71 = .ok (.ireturn, 1) := by decide +kernel
theorem dX2_readPerson_72 : decode cX2_readPerson 72 = .ok (.aload_n 0, 1) := by decide +kernel
theorem dX2_readPerson_73 : decode cX2_readPerson 73 = .ok (.getfield 67, 3) := by decide +kernel
theorem dX2_readPerson_76 : decode cX2_readPerson 76 = .ok (.istore_n 2, 1) := by decide +kernel
theorem dX2_readPerson_77 : decode cX2_readPerson 77 = .ok (.aload_n 0, 1) := by decide +kernel
theorem dX2_readPerson_78 : decode cX2_readPerson 78 = .ok (.invokevirtual 47, 3) := by decide +kernel
theorem dX2_readPerson_81 : decode cX2_readPerson 81 = .ok (.iload_n 1, 1) := by decide +kernel
theorem dX2_readPerson_82 : decode cX2_readPerson 82 = .ok (.iconst 3, 1) := by decide +kernel
theorem dX2_readPerson_83 : decode cX2_readPerson 83 = .ok (.if_icmp .ne 24, 3) := by decide +kernel
theorem dX2_readPerson_86 : decode cX2_readPerson 86 = .ok (.aload_n 0, 1) := by decide +kernel
theorem dX2_readPerson_87 : decode cX2_readPerson 87 = .ok (.ldc 132, 2) := by decide +kernel
theorem dX2_readPerson_89 : decode cX2_readPerson 89 = .ok (.iconst 0, 1) := by decide +kernel
theorem dX2_readPerson_90 : decode cX2_readPerson 90 = .ok (.sipush 9999, 3) := by decide +kernel
theorem dX2_readPerson_93 : decode cX2_readPerson 93 = .ok (.iconst 0, 1) := by decide +kernel
theorem dX2_readPerson_94 : decode cX2_readPerson 94 = .ok (.invokevirtual 134, 3) := by decide +kernel
theorem dX2_readPerson_97 : decode cX2_readPerson 97 = .ok (.ifCond .ne 5, 3) := by decide +kernel
theorem dX2_readPerson_100 : decode cX2_readPerson 100 = .ok (.iconst 0, 1) := by decide +kernel
theorem dX2_readPerson_101 : decode cX2_readPerson 101 = .ok (.ireturn, 1) := by decide +kernel
theorem dX2_readPerson_102 : decode cX2_readPerson 102 = .ok (.aload_n 0, 1) := by decide +kernel
theorem dX2_readPerson_103 : decode cX2_readPerson 103 = .ok (.getfield 67, 3) := by decide +kernel
theorem dX2_readPerson_106 : decode cX2_readPerson 106 = .ok (.istore_n 2, 1) := by decide +kernel
theorem dX2_readPerson_107 : decode cX2_readPerson 107 = .ok (.aload_n 0, 1) := by decide +kernel
theorem dX2_readPerson_108 : decode cX2_readPerson 108 = .ok (.getfield 12, 3) := by decide +kernel
theorem dX2_readPerson_111 : decode cX2_readPerson 111 = .ok (.getfield 138, 3) := by decide +kernel
theorem dX2_readPerson_114 : decode cX2_readPerson 114 = .ok (.aload_n 0, 1) := by decide +kernel
theorem dX2_readPerson_115 : decode cX2_readPerson 115 = .ok (.getfield 12, 3) := by decide +kernel
theorem dX2_readPerson_118 : decode cX2_readPerson 118 = .ok (.getfield 126, 3) := by decide +kernel
theorem dX2_readPerson_121 : decode cX2_readPerson 121 = .ok (.iload_n 1, 1) := by decide +kernel
theorem dX2_readPerson_122 : decode cX2_readPerson 122 = .ok (.iastore, 1) := by decide +kernel
theorem dX2_readPerson_123 : decode cX2_readPerson 123 = .ok (.aload_n 0, 1) := by decide +kernel
theorem dX2_readPerson_124 : decode cX2_readPerson 124 = .ok (.getfield 12, 3) := by decide +kernel
theorem dX2_readPerson_127 : decode cX2_readPerson 127 = .ok (.getfield 141, 3) := by decide +kernel
theorem dX2_readPerson_130 : decode cX2_readPerson 130 = .ok (.aload_n 0, 1) := by decide +kernel
theorem dX2_readPerson_131 : decode cX2_readPerson 131 = .ok (.getfield 12, 3) := by decide +kernel
theorem dX2_readPerson_134 : decode cX2_readPerson 134 = .ok (.getfield 126, 3) := by decide +kernel
theorem dX2_readPerson_137 : decode cX2_readPerson 137 = .ok (.iload_n 2, 1) := by decide +kernel
theorem dX2_readPerson_138 : decode cX2_readPerson 138 = .ok (.iastore, 1) := by decide +kernel
theorem dX2_readPerson_139 : decode cX2_readPerson 139 = .ok (.aload_n 0, 1) := by decide +kernel
theorem dX2_readPerson_140 : decode cX2_readPerson 140 = .ok (.getfield 12, 3) := by decide +kernel
theorem dX2_readPerson_143 : decode cX2_readPerson 143 = .ok (.dup, 1) := by decide +kernel
theorem dX2_readPerson_144 : decode cX2_readPerson 144 = .ok (.getfield 126, 3) := by decide +kernel
theorem dX2_readPerson_147 : decode cX2_readPerson 147 = .ok (.iconst 1, 1) := by decide +kernel
theorem dX2_readPerson_148 : decode cX2_readPerson 148 = .ok (.iadd, 1) := by decide +kernel
theorem dX2_readPerson_149 : decode cX2_readPerson 149 = .ok (.putfield 126, 3) := by decide +kernel
theorem dX2_readPerson_152 : decode cX2_readPerson 152 = .ok (.aload_n 0, 1) := by decide +kernel
theorem dX2_readPerson_153 : decode cX2_readPerson 153 = .ok (.invokevirtual 144, 3) := by decide +kernel
theorem dX2_readPerson_156 : decode cX2_readPerson 156 = .ok (.ireturn, 1) := by decide +kernel
theorem dX2_sortOfWord_0 : decode cX2_sortOfWord 0 = .ok (.aload_n 0, 1) := by decide +kernel
theorem dX2_sortOfWord_1 : decode cX2_sortOfWord 1 = .ok (.ldc 147, 2) := by decide +kernel
theorem dX2_sortOfWord_3 : decode cX2_sortOfWord 3 = .ok (.invokevirtual 84, 3) := by decide +kernel
theorem dX2_sortOfWord_6 : decode cX2_sortOfWord 6 = .ok (.ifCond .eq 5, 3) := by decide +kernel
theorem dX2_sortOfWord_9 : decode cX2_sortOfWord 9 = .ok (.iconst 0, 1) := by decide +kernel
theorem dX2_sortOfWord_10 : decode cX2_sortOfWord 10 = .ok (.ireturn, 1) := by decide +kernel
theorem dX2_sortOfWord_11 : decode cX2_sortOfWord 11 = .ok (.aload_n 0, 1) := by decide +kernel
theorem dX2_sortOfWord_12 : decode cX2_sortOfWord 12 = .ok (.ldc 149, 2) := by decide +kernel
theorem dX2_sortOfWord_14 : decode cX2_sortOfWord 14 = .ok (.invokevirtual 84, 3) := by decide +kernel
theorem dX2_sortOfWord_17 : decode cX2_sortOfWord 17 = .ok (.ifCond .eq 5, 3) := by decide +kernel
theorem dX2_sortOfWord_20 : decode cX2_sortOfWord 20 = .ok (.iconst 1, 1) := by decide +kernel
theorem dX2_sortOfWord_21 : decode cX2_sortOfWord 21 = .ok (.ireturn, 1) := by decide +kernel
theorem dX2_sortOfWord_22 : decode cX2_sortOfWord 22 = .ok (.aload_n 0, 1) := by decide +kernel
theorem dX2_sortOfWord_23 : decode cX2_sortOfWord 23 = .ok (.ldc 151, 2) := by decide +kernel
theorem dX2_sortOfWord_25 : decode cX2_sortOfWord 25 = .ok (.invokevirtual 84, 3) := by decide +kernel
theorem dX2_sortOfWord_28 : decode cX2_sortOfWord 28 = .ok (.ifCond .eq 5, 3) := by decide +kernel
theorem dX2_sortOfWord_31 : decode cX2_sortOfWord 31 = .ok (.iconst 2, 1) := by decide +kernel
theorem dX2_sortOfWord_32 : decode cX2_sortOfWord 32 = .ok (.ireturn, 1) := by decide +kernel
theorem dX2_sortOfWord_33 : decode cX2_sortOfWord 33 = .ok (.aload_n 0, 1) := by decide +kernel
theorem dX2_sortOfWord_34 : decode cX2_sortOfWord 34 = .ok (.ldc 153, 2) := by decide +kernel
theorem dX2_sortOfWord_36 : decode cX2_sortOfWord 36 = .ok (.invokevirtual 84, 3) := by decide +kernel
theorem dX2_sortOfWord_39 : decode cX2_sortOfWord 39 = .ok (.ifCond .eq 7, 3) := by decide +kernel
theorem dX2_sortOfWord_42 : decode cX2_sortOfWord 42 = .ok (.iconst 3, 1) := by decide +kernel
theorem dX2_sortOfWord_43 : decode cX2_sortOfWord 43 = .ok (.goto 4, 3) := by decide +kernel
theorem dX2_sortOfWord_46 : decode cX2_sortOfWord 46 = .ok (.iconst (-1), 1) := by decide +kernel
theorem dX2_sortOfWord_47 : decode cX2_sortOfWord 47 = .ok (.ireturn, 1) := by decide +kernel
theorem dX2_readKnows_0 : decode cX2_readKnows 0 = .ok (.aload_n 0, 1) := by decide +kernel
theorem dX2_readKnows_1 : decode cX2_readKnows 1 = .ok (.invokevirtual 155, 3) := by decide +kernel
theorem dX2_readKnows_4 : decode cX2_readKnows 4 = .ok (.ifCond .ne 5, 3) := by decide +kernel
theorem dX2_readKnows_7 : decode cX2_readKnows 7 = .ok (.iconst 0, 1) := by decide +kernel
theorem dX2_readKnows_8 : decode cX2_readKnows 8 = .ok (.ireturn, 1) := by decide +kernel
theorem dX2_readKnows_9 : decode cX2_readKnows 9 = .ok (.aload_n 0, 1) := by decide +kernel
theorem dX2_readKnows_10 : decode cX2_readKnows 10 = .ok (.getfield 67, 3) := by decide +kernel
theorem dX2_readKnows_13 : decode cX2_readKnows 13 = .ok (.istore_n 1, 1) := by decide +kernel
theorem dX2_readKnows_14 : decode cX2_readKnows 14 = .ok (.aload_n 0, 1) := by decide +kernel
theorem dX2_readKnows_15 : decode cX2_readKnows 15 = .ok (.invokevirtual 155, 3) := by decide +kernel
theorem dX2_readKnows_18 : decode cX2_readKnows 18 = .ok (.ifCond .ne 5, 3) := by decide +kernel
theorem dX2_readKnows_21 : decode cX2_readKnows 21 = .ok (.iconst 0, 1) := by decide +kernel
theorem dX2_readKnows_22 : decode cX2_readKnows 22 = .ok (.ireturn, 1) := by decide +kernel
theorem dX2_readKnows_23 : decode cX2_readKnows 23 = .ok (.aload_n 0, 1) := by decide +kernel
theorem dX2_readKnows_24 : decode cX2_readKnows 24 = .ok (.getfield 67, 3) := by decide +kernel
theorem dX2_readKnows_27 : decode cX2_readKnows 27 = .ok (.istore_n 2, 1) := by decide +kernel
theorem dX2_readKnows_28 : decode cX2_readKnows 28 = .ok (.iload_n 1, 1) := by decide +kernel
theorem dX2_readKnows_29 : decode cX2_readKnows 29 = .ok (.iload_n 2, 1) := by decide +kernel
theorem dX2_readKnows_30 : decode cX2_readKnows 30 = .ok (.if_icmp .eq 19, 3) := by decide +kernel
theorem dX2_readKnows_33 : decode cX2_readKnows 33 = .ok (.aload_n 0, 1) := by decide +kernel
theorem dX2_readKnows_34 : decode cX2_readKnows 34 = .ok (.getfield 12, 3) := by decide +kernel
theorem dX2_readKnows_37 : decode cX2_readKnows 37 = .ok (.getfield 158, 3) := by decide +kernel
theorem dX2_readKnows_40 : decode cX2_readKnows 40 = .ok (.iload_n 1, 1) := by decide +kernel
theorem dX2_readKnows_41 : decode cX2_readKnows 41 = .ok (.iaload, 1) := by decide +kernel
theorem dX2_readKnows_42 : decode cX2_readKnows 42 = .ok (.iload_n 2, 1) := by decide +kernel
theorem dX2_readKnows_43 : decode cX2_readKnows 43 = .ok (.ishr, 1) := by decide +kernel
theorem dX2_readKnows_44 : decode cX2_readKnows 44 = .ok (.iconst 1, 1) := by decide +kernel
theorem dX2_readKnows_45 : decode cX2_readKnows 45 = .ok (.iand, 1) := by decide +kernel
theorem dX2_readKnows_46 : decode cX2_readKnows 46 = .ok (.ifCond .eq 9, 3) := by decide +kernel
theorem dX2_readKnows_49 : decode cX2_readKnows 49 = .ok (.aload_n 0, 1) := by decide +kernel
theorem dX2_readKnows_50 : decode cX2_readKnows 50 = .ok (.iconst 4, 1) := by decide +kernel
theorem dX2_readKnows_51 : decode cX2_readKnows 51 = .ok (.invokevirtual 119, 3) := by decide +kernel
theorem dX2_readKnows_54 : decode cX2_readKnows 54 = .ok (.ireturn, 1) := by decide +kernel
theorem dX2_readKnows_55 : decode cX2_readKnows 55 = .ok (.aload_n 0, 1) := by decide +kernel
theorem dX2_readKnows_56 : decode cX2_readKnows 56 = .ok (.invokevirtual 47, 3) := by decide +kernel
theorem dX2_readKnows_59 : decode cX2_readKnows 59 = .ok (.aload_n 0, 1) := by decide +kernel
theorem dX2_readKnows_60 : decode cX2_readKnows 60 = .ok (.ldc 160, 2) := by decide +kernel
theorem dX2_readKnows_62 : decode cX2_readKnows 62 = .ok (.iconst 1, 1) := by decide +kernel
theorem dX2_readKnows_63 : decode cX2_readKnows 63 = .ok (.bipush 99, 2) := by decide +kernel
theorem dX2_readKnows_65 : decode cX2_readKnows 65 = .ok (.iconst 1, 1) := by decide +kernel
theorem dX2_readKnows_66 : decode cX2_readKnows 66 = .ok (.invokevirtual 134, 3) := by decide +kernel
theorem dX2_readKnows_69 : decode cX2_readKnows 69 = .ok (.ifCond .ne 5, 3) := by decide +kernel
theorem dX2_readKnows_72 : decode cX2_readKnows 72 = .ok (.iconst 0, 1) := by decide +kernel
theorem dX2_readKnows_73 : decode cX2_readKnows 73 = .ok (.ireturn, 1) := by decide +kernel
theorem dX2_readKnows_74 : decode cX2_readKnows 74 = .ok (.aload_n 0, 1) := by decide +kernel
theorem dX2_readKnows_75 : decode cX2_readKnows 75 = .ok (.getfield 12, 3) := by decide +kernel
theorem dX2_readKnows_78 : decode cX2_readKnows 78 = .ok (.getfield 158, 3) := by decide +kernel
theorem dX2_readKnows_81 : decode cX2_readKnows 81 = .ok (.iload_n 1, 1) := by decide +kernel
theorem dX2_readKnows_82 : decode cX2_readKnows 82 = .ok (.dup2, 1) := by decide +kernel
theorem dX2_readKnows_83 : decode cX2_readKnows 83 = .ok (.iaload, 1) := by decide +kernel
theorem dX2_readKnows_84 : decode cX2_readKnows 84 = .ok (.iconst 1, 1) := by decide +kernel
theorem dX2_readKnows_85 : decode cX2_readKnows 85 = .ok (.iload_n 2, 1) := by decide +kernel
theorem dX2_readKnows_86 : decode cX2_readKnows 86 = .ok (.ishl, 1) := by decide +kernel
theorem dX2_readKnows_87 : decode cX2_readKnows 87 = .ok (.ior, 1) := by decide +kernel
theorem dX2_readKnows_88 : decode cX2_readKnows 88 = .ok (.iastore, 1) := by decide +kernel
theorem dX2_readKnows_89 : decode cX2_readKnows 89 = .ok (.aload_n 0, 1) := by decide +kernel
theorem dX2_readKnows_90 : decode cX2_readKnows 90 = .ok (.getfield 12, 3) := by decide +kernel
theorem dX2_readKnows_93 : decode cX2_readKnows 93 = .ok (.getfield 162, 3) := by decide +kernel
theorem dX2_readKnows_96 : decode cX2_readKnows 96 = .ok (.iload_n 1, 1) := by decide +kernel
theorem dX2_readKnows_97 : decode cX2_readKnows 97 = .ok (.bipush 8, 2) := by decide +kernel
theorem dX2_readKnows_99 : decode cX2_readKnows 99 = .ok (.imul, 1) := by decide +kernel
theorem dX2_readKnows_100 : decode cX2_readKnows 100 = .ok (.iload_n 2, 1) := by decide +kernel
theorem dX2_readKnows_101 : decode cX2_readKnows 101 = .ok (.iadd, 1) := by decide +kernel
theorem dX2_readKnows_102 : decode cX2_readKnows 102 = .ok (.aload_n 0, 1) := by decide +kernel
theorem dX2_readKnows_103 : decode cX2_readKnows 103 = .ok (.getfield 67, 3) := by decide +kernel
theorem dX2_readKnows_106 : decode cX2_readKnows 106 = .ok (.iastore, 1) := by decide +kernel
theorem dX2_readKnows_107 : decode cX2_readKnows 107 = .ok (.aload_n 0, 1) := by decide +kernel
theorem dX2_readKnows_108 : decode cX2_readKnows 108 = .ok (.invokevirtual 144, 3) := by decide +kernel
theorem dX2_readKnows_111 : decode cX2_readKnows 111 = .ok (.ireturn, 1) := by decide +kernel
theorem dX2_readLetter_0 : decode cX2_readLetter 0 = .ok (.aload_n 0, 1) := by decide +kernel
theorem dX2_readLetter_1 : decode cX2_readLetter 1 = .ok (.iconst 0, 1) := by decide +kernel
theorem dX2_readLetter_2 : decode cX2_readLetter 2 = .ok (.sipush 9999, 3) := by decide +kernel
theorem dX2_readLetter_5 : decode cX2_readLetter 5 = .ok (.invokevirtual 122, 3) := by decide +kernel
theorem dX2_readLetter_8 : decode cX2_readLetter 8 = .ok (.ifCond .ne 5, 3) := by decide +kernel
theorem dX2_readLetter_11 : decode cX2_readLetter 11 = .ok (.iconst 0, 1) := by decide +kernel
theorem dX2_readLetter_12 : decode cX2_readLetter 12 = .ok (.ireturn, 1) := by decide +kernel
theorem dX2_readLetter_13 : decode cX2_readLetter 13 = .ok (.aload_n 0, 1) := by decide +kernel
theorem dX2_readLetter_14 : decode cX2_readLetter 14 = .ok (.getfield 12, 3) := by decide +kernel
theorem dX2_readLetter_17 : decode cX2_readLetter 17 = .ok (.aload_n 0, 1) := by decide +kernel
theorem dX2_readLetter_18 : decode cX2_readLetter 18 = .ok (.getfield 67, 3) := by decide +kernel
theorem dX2_readLetter_21 : decode cX2_readLetter 21 = .ok (.putfield 165, 3) := by decide +kernel
theorem dX2_readLetter_24 : decode cX2_readLetter 24 = .ok (.aload_n 0, 1) := by decide +kernel
theorem dX2_readLetter_25 : decode cX2_readLetter 25 = .ok (.iconst 0, 1) := by decide +kernel
theorem dX2_readLetter_26 : decode cX2_readLetter 26 = .ok (.bipush 99, 2) := by decide +kernel
theorem dX2_readLetter_28 : decode cX2_readLetter 28 = .ok (.invokevirtual 122, 3) := by decide +kernel
theorem dX2_readLetter_31 : decode cX2_readLetter 31 = .ok (.ifCond .ne 5, 3) := by decide +kernel
theorem dX2_readLetter_34 : decode cX2_readLetter 34 = .ok (.iconst 0, 1) := by decide +kernel
theorem dX2_readLetter_35 : decode cX2_readLetter 35 = .ok (.ireturn, 1) := by decide +kernel
theorem dX2_readLetter_36 : decode cX2_readLetter 36 = .ok (.aload_n 0, 1) := by decide +kernel
theorem dX2_readLetter_37 : decode cX2_readLetter 37 = .ok (.getfield 12, 3) := by decide +kernel
theorem dX2_readLetter_40 : decode cX2_readLetter 40 = .ok (.aload_n 0, 1) := by decide +kernel
theorem dX2_readLetter_41 : decode cX2_readLetter 41 = .ok (.getfield 67, 3) := by decide +kernel
theorem dX2_readLetter_44 : decode cX2_readLetter 44 = .ok (.putfield 168, 3) := by decide +kernel
theorem dX2_readLetter_47 : decode cX2_readLetter 47 = .ok (.aload_n 0, 1) := by decide +kernel
theorem dX2_readLetter_48 : decode cX2_readLetter 48 = .ok (.iconst 1, 1) := by decide +kernel
theorem dX2_readLetter_49 : decode cX2_readLetter 49 = .ok (.bipush 12, 2) := by decide +kernel
theorem dX2_readLetter_51 : decode cX2_readLetter 51 = .ok (.invokevirtual 122, 3) := by decide +kernel
theorem dX2_readLetter_54 : decode cX2_readLetter 54 = .ok (.ifCond .ne 5, 3) := by decide +kernel
theorem dX2_readLetter_57 : decode cX2_readLetter 57 = .ok (.iconst 0, 1) := by decide +kernel
theorem dX2_readLetter_58 : decode cX2_readLetter 58 = .ok (.ireturn, 1) := by decide +kernel
theorem dX2_readLetter_59 : decode cX2_readLetter 59 = .ok (.aload_n 0, 1) := by decide +kernel
theorem dX2_readLetter_60 : decode cX2_readLetter 60 = .ok (.getfield 12, 3) := by decide +kernel
theorem dX2_readLetter_63 : decode cX2_readLetter 63 = .ok (.aload_n 0, 1) := by decide +kernel
theorem dX2_readLetter_64 : decode cX2_readLetter 64 = .ok (.getfield 67, 3) := by decide +kernel
theorem dX2_readLetter_67 : decode cX2_readLetter 67 = .ok (.putfield 171, 3) := by decide +kernel
theorem dX2_readLetter_70 : decode cX2_readLetter 70 = .ok (.aload_n 0, 1) := by decide +kernel
theorem dX2_readLetter_71 : decode cX2_readLetter 71 = .ok (.invokevirtual 47, 3) := by decide +kernel
theorem dX2_readLetter_74 : decode cX2_readLetter 74 = .ok (.aload_n 0, 1) := by decide +kernel
theorem dX2_readLetter_75 : decode cX2_readLetter 75 = .ok (.ldc 174, 2) := by decide +kernel
theorem dX2_readLetter_77 : decode cX2_readLetter 77 = .ok (.iconst 0, 1) := by decide +kernel
theorem dX2_readLetter_78 : decode cX2_readLetter 78 = .ok (.sipush 9999, 3) := by decide +kernel
theorem dX2_readLetter_81 : decode cX2_readLetter 81 = .ok (.iconst 0, 1) := by decide +kernel
theorem dX2_readLetter_82 : decode cX2_readLetter 82 = .ok (.invokevirtual 134, 3) := by decide +kernel
theorem dX2_readLetter_85 : decode cX2_readLetter 85 = .ok (.ifCond .ne 5, 3) := by decide +kernel
theorem dX2_readLetter_88 : decode cX2_readLetter 88 = .ok (.iconst 0, 1) := by decide +kernel
theorem dX2_readLetter_89 : decode cX2_readLetter 89 = .ok (.ireturn, 1) := by decide +kernel
theorem dX2_readLetter_90 : decode cX2_readLetter 90 = .ok (.aload_n 0, 1) := by decide +kernel
theorem dX2_readLetter_91 : decode cX2_readLetter 91 = .ok (.getfield 12, 3) := by decide +kernel
theorem dX2_readLetter_94 : decode cX2_readLetter 94 = .ok (.aload_n 0, 1) := by decide +kernel
theorem dX2_readLetter_95 : decode cX2_readLetter 95 = .ok (.getfield 67, 3) := by decide +kernel
theorem dX2_readLetter_98 : decode cX2_readLetter 98 = .ok (.putfield 176, 3) := by decide +kernel
theorem dX2_readLetter_101 : decode cX2_readLetter 101 = .ok (.aload_n 0, 1) := by decide +kernel
theorem dX2_readLetter_102 : decode cX2_readLetter 102 = .ok (.ldc 178, 2) := by decide +kernel
theorem dX2_readLetter_104 : decode cX2_readLetter 104 = .ok (.iconst 0, 1) := by decide +kernel
theorem dX2_readLetter_105 : decode cX2_readLetter 105 = .ok (.sipush 9999, 3) := by decide +kernel
theorem dX2_readLetter_108 : decode cX2_readLetter 108 = .ok (.iconst 0, 1) := by decide +kernel
theorem dX2_readLetter_109 : decode cX2_readLetter 109 = .ok (.invokevirtual 134, 3) := by decide +kernel
theorem dX2_readLetter_112 : decode cX2_readLetter 112 = .ok (.ifCond .ne 5, 3) := by decide +kernel
theorem dX2_readLetter_115 : decode cX2_readLetter 115 = .ok (.iconst 0, 1) := by decide +kernel
theorem dX2_readLetter_116 : decode cX2_readLetter 116 = .ok (.ireturn, 1) := by decide +kernel
theorem dX2_readLetter_117 : decode cX2_readLetter 117 = .ok (.aload_n 0, 1) := by decide +kernel
theorem dX2_readLetter_118 : decode cX2_readLetter 118 = .ok (.getfield 12, 3) := by decide +kernel
theorem dX2_readLetter_121 : decode cX2_readLetter 121 = .ok (.aload_n 0, 1) := by decide +kernel
theorem dX2_readLetter_122 : decode cX2_readLetter 122 = .ok (.getfield 67, 3) := by decide +kernel
theorem dX2_readLetter_125 : decode cX2_readLetter 125 = .ok (.putfield 180, 3) := by decide +kernel
theorem dX2_readLetter_128 : decode cX2_readLetter 128 = .ok (.aload_n 0, 1) := by decide +kernel
theorem dX2_readLetter_129 : decode cX2_readLetter 129 = .ok (.invokevirtual 144, 3) := by decide +kernel
theorem dX2_readLetter_132 : decode cX2_readLetter 132 = .ok (.ireturn, 1) := by decide +kernel
theorem dX2_readLaw_0 : decode cX2_readLaw 0 = .ok (.aload_n 0, 1) := by decide +kernel
theorem dX2_readLaw_1 : decode cX2_readLaw 1 = .ok (.invokevirtual 47, 3) := by decide +kernel
theorem dX2_readLaw_4 : decode cX2_readLaw 4 = .ok (.aload_n 0, 1) := by decide +kernel
theorem dX2_readLaw_5 : decode cX2_readLaw 5 = .ok (.ldc 182, 2) := by decide +kernel
theorem dX2_readLaw_7 : decode cX2_readLaw 7 = .ok (.invokevirtual 84, 3) := by decide +kernel
theorem dX2_readLaw_10 : decode cX2_readLaw 10 = .ok (.ifCond .eq 14, 3) := by decide +kernel
theorem dX2_readLaw_13 : decode cX2_readLaw 13 = .ok (.aload_n 0, 1) := by decide +kernel
theorem dX2_readLaw_14 : decode cX2_readLaw 14 = .ok (.getfield 12, 3) := by decide +kernel
theorem dX2_readLaw_17 : decode cX2_readLaw 17 = .ok (.iconst 0, 1) := by decide +kernel
theorem dX2_readLaw_18 : decode cX2_readLaw 18 = .ok (.putfield 184, 3) := by decide +kernel
theorem dX2_readLaw_21 : decode cX2_readLaw 21 = .ok (.goto 49, 3) := by decide +kernel
theorem dX2_readLaw_24 : decode cX2_readLaw 24 = .ok (.aload_n 0, 1) := by decide +kernel
theorem dX2_readLaw_25 : decode cX2_readLaw 25 = .ok (.ldc 186, 2) := by decide +kernel
theorem dX2_readLaw_27 : decode cX2_readLaw 27 = .ok (.invokevirtual 84, 3) := by decide +kernel
theorem dX2_readLaw_30 : decode cX2_readLaw 30 = .ok (.ifCond .eq 14, 3) := by decide +kernel
theorem dX2_readLaw_33 : decode cX2_readLaw 33 = .ok (.aload_n 0, 1) := by decide +kernel
theorem dX2_readLaw_34 : decode cX2_readLaw 34 = .ok (.getfield 12, 3) := by decide +kernel
theorem dX2_readLaw_37 : decode cX2_readLaw 37 = .ok (.iconst 1, 1) := by decide +kernel
theorem dX2_readLaw_38 : decode cX2_readLaw 38 = .ok (.putfield 184, 3) := by decide +kernel
theorem dX2_readLaw_41 : decode cX2_readLaw 41 = .ok (.goto 29, 3) := by decide +kernel
theorem dX2_readLaw_44 : decode cX2_readLaw 44 = .ok (.aload_n 0, 1) := by decide +kernel
theorem dX2_readLaw_45 : decode cX2_readLaw 45 = .ok (.ldc 188, 2) := by decide +kernel
theorem dX2_readLaw_47 : decode cX2_readLaw 47 = .ok (.invokevirtual 84, 3) := by decide +kernel
theorem dX2_readLaw_50 : decode cX2_readLaw 50 = .ok (.ifCond .eq 14, 3) := by decide +kernel
theorem dX2_readLaw_53 : decode cX2_readLaw 53 = .ok (.aload_n 0, 1) := by decide +kernel
theorem dX2_readLaw_54 : decode cX2_readLaw 54 = .ok (.getfield 12, 3) := by decide +kernel
theorem dX2_readLaw_57 : decode cX2_readLaw 57 = .ok (.iconst 2, 1) := by decide +kernel
theorem dX2_readLaw_58 : decode cX2_readLaw 58 = .ok (.putfield 184, 3) := by decide +kernel
theorem dX2_readLaw_61 : decode cX2_readLaw 61 = .ok (.goto 9, 3) := by decide +kernel
theorem dX2_readLaw_64 : decode cX2_readLaw 64 = .ok (.aload_n 0, 1) := by decide +kernel
theorem dX2_readLaw_65 : decode cX2_readLaw 65 = .ok (.iconst 1, 1) := by decide +kernel
theorem dX2_readLaw_66 : decode cX2_readLaw 66 = .ok (.invokevirtual 119, 3) := by decide +kernel
theorem dX2_readLaw_69 : decode cX2_readLaw 69 = .ok (.ireturn, 1) := by decide +kernel
theorem dX2_readLaw_70 : decode cX2_readLaw 70 = .ok (.aload_n 0, 1) := by decide +kernel
theorem dX2_readLaw_71 : decode cX2_readLaw 71 = .ok (.invokevirtual 47, 3) := by decide +kernel
theorem dX2_readLaw_74 : decode cX2_readLaw 74 = .ok (.aload_n 0, 1) := by decide +kernel
theorem dX2_readLaw_75 : decode cX2_readLaw 75 = .ok (.invokevirtual 144, 3) := by decide +kernel
theorem dX2_readLaw_78 : decode cX2_readLaw 78 = .ok (.ireturn, 1) := by decide +kernel
theorem dX2_readWax_0 : decode cX2_readWax 0 = .ok (.aload_n 0, 1) := by decide +kernel
theorem dX2_readWax_1 : decode cX2_readWax 1 = .ok (.iconst 1, 1) := by decide +kernel
theorem dX2_readWax_2 : decode cX2_readWax 2 = .ok (.bipush 99, 2) := by decide +kernel
theorem dX2_readWax_4 : decode cX2_readWax 4 = .ok (.invokevirtual 122, 3) := by decide +kernel
theorem dX2_readWax_7 : decode cX2_readWax 7 = .ok (.ifCond .ne 5, 3) := by decide +kernel
theorem dX2_readWax_10 : decode cX2_readWax 10 = .ok (.iconst 0, 1) := by decide +kernel
theorem dX2_readWax_11 : decode cX2_readWax 11 = .ok (.ireturn, 1) := by decide +kernel
theorem dX2_readWax_12 : decode cX2_readWax 12 = .ok (.aload_n 0, 1) := by decide +kernel
theorem dX2_readWax_13 : decode cX2_readWax 13 = .ok (.getfield 12, 3) := by decide +kernel
theorem dX2_readWax_16 : decode cX2_readWax 16 = .ok (.aload_n 0, 1) := by decide +kernel
theorem dX2_readWax_17 : decode cX2_readWax 17 = .ok (.getfield 67, 3) := by decide +kernel
theorem dX2_readWax_20 : decode cX2_readWax 20 = .ok (.putfield 190, 3) := by decide +kernel
theorem dX2_readWax_23 : decode cX2_readWax 23 = .ok (.aload_n 0, 1) := by decide +kernel
theorem dX2_readWax_24 : decode cX2_readWax 24 = .ok (.invokevirtual 47, 3) := by decide +kernel
theorem dX2_readWax_27 : decode cX2_readWax 27 = .ok (.aload_n 0, 1) := by decide +kernel
theorem dX2_readWax_28 : decode cX2_readWax 28 = .ok (.invokevirtual 144, 3) := by decide +kernel
theorem dX2_readWax_31 : decode cX2_readWax 31 = .ok (.ireturn, 1) := by decide +kernel
theorem dX2_readFirst_0 : decode cX2_readFirst 0 = .ok (.aload_n 0, 1) := by decide +kernel
theorem dX2_readFirst_1 : decode cX2_readFirst 1 = .ok (.invokevirtual 155, 3) := by decide +kernel
theorem dX2_readFirst_4 : decode cX2_readFirst 4 = .ok (.ifCond .ne 5, 3) := by decide +kernel
theorem dX2_readFirst_7 : decode cX2_readFirst 7 = .ok (.iconst 0, 1) := by decide +kernel
theorem dX2_readFirst_8 : decode cX2_readFirst 8 = .ok (.ireturn, 1) := by decide +kernel
theorem dX2_readFirst_9 : decode cX2_readFirst 9 = .ok (.aload_n 0, 1) := by decide +kernel
theorem dX2_readFirst_10 : decode cX2_readFirst 10 = .ok (.getfield 12, 3) := by decide +kernel
theorem dX2_readFirst_13 : decode cX2_readFirst 13 = .ok (.aload_n 0, 1) := by decide +kernel
theorem dX2_readFirst_14 : decode cX2_readFirst 14 = .ok (.getfield 67, 3) := by decide +kernel
theorem dX2_readFirst_17 : decode cX2_readFirst 17 = .ok (.putfield 192, 3) := by decide +kernel
theorem dX2_readFirst_20 : decode cX2_readFirst 20 = .ok (.aload_n 0, 1) := by decide +kernel
theorem dX2_readFirst_21 : decode cX2_readFirst 21 = .ok (.invokevirtual 47, 3) := by decide +kernel
theorem dX2_readFirst_24 : decode cX2_readFirst 24 = .ok (.aload_n 0, 1) := by decide +kernel
theorem dX2_readFirst_25 : decode cX2_readFirst 25 = .ok (.invokevirtual 144, 3) := by decide +kernel
theorem dX2_readFirst_28 : decode cX2_readFirst 28 = .ok (.ireturn, 1) := by decide +kernel
