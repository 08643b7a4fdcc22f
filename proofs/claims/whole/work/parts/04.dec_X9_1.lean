theorem dX9_town_282 : decode cX9_town 282 = .ok (.getfield 104, 3) := by decide +kernel
theorem dX9_town_285 : decode cX9_town 285 = .ok (.iload_n 2, 1) := by decide +kernel
theorem dX9_town_286 : decode cX9_town 286 = .ok (.iconst (-1), 1) := by decide +kernel
theorem dX9_town_287 : decode cX9_town 287 = .ok (.iastore, 1) := by decide +kernel
theorem dX9_town_288 : decode cX9_town 288 = .ok (.iinc 2 1, 3) := by decide +kernel
theorem dX9_town_291 : decode cX9_town 291 = .ok (.goto (-16), 3) := by decide +kernel
theorem dX9_town_294 : decode cX9_town 294 = .ok (.aload_n 0, 1) := by decide +kernel
theorem dX9_town_295 : decode cX9_town 295 = .ok (.iconst 0, 1) := by decide +kernel
theorem dX9_town_296 : decode cX9_town 296 = .ok (.putfield 323, 3) := by decide +kernel
theorem dX9_town_299 : decode cX9_town 299 = .ok (.aload_n 0, 1) := by decide +kernel
theorem dX9_town_300 : decode cX9_town 300 = .ok (.iconst 0, 1) := by decide +kernel
theorem dX9_town_301 : decode cX9_town 301 = .ok (.putfield 326, 3) := by decide +kernel
theorem dX9_town_304 : decode cX9_town 304 = .ok (.aload_n 0, 1) := by decide +kernel
theorem dX9_town_305 : decode cX9_town 305 = .ok (.iconst 0, 1) := by decide +kernel
theorem dX9_town_306 : decode cX9_town 306 = .ok (.putfield 329, 3) := by decide +kernel
theorem dX9_town_309 : decode cX9_town 309 = .ok (.aload_n 0, 1) := by decide +kernel
theorem dX9_town_310 : decode cX9_town 310 = .ok (.iconst 0, 1) := by decide +kernel
theorem dX9_town_311 : decode cX9_town 311 = .ok (.putfield 333, 3) := by decide +kernel
theorem dX9_town_314 : decode cX9_town 314 = .ok (.iconst 0, 1) := by decide +kernel
theorem dX9_town_315 : decode cX9_town 315 = .ok (.ireturn, 1) := by decide +kernel
theorem dX9_fault_0 : decode cX9_fault 0 = .ok (.aload_n 0, 1) := by decide +kernel
theorem dX9_fault_1 : decode cX9_fault 1 = .ok (.iconst 0, 1) := by decide +kernel
theorem dX9_fault_2 : decode cX9_fault 2 = .ok (.putfield 170, 3) := by decide +kernel
theorem dX9_fault_5 : decode cX9_fault 5 = .ok (.aload_n 0, 1) := by decide +kernel
theorem dX9_fault_6 : decode cX9_fault 6 = .ok (.getfield 35, 3) := by decide +kernel
theorem dX9_fault_9 : decode cX9_fault 9 = .ok (.ireturn, 1) := by decide +kernel
theorem dX9_count_0 : decode cX9_count 0 = .ok (.aload_n 0, 1) := by decide +kernel
theorem dX9_count_1 : decode cX9_count 1 = .ok (.iconst 0, 1) := by decide +kernel
theorem dX9_count_2 : decode cX9_count 2 = .ok (.putfield 170, 3) := by decide +kernel
theorem dX9_count_5 : decode cX9_count 5 = .ok (.aload_n 0, 1) := by decide +kernel
theorem dX9_count_6 : decode cX9_count 6 = .ok (.iload_n 1, 1) := by decide +kernel
theorem dX9_count_7 : decode cX9_count 7 = .ok (.iconst 0, 1) := by decide +kernel
theorem dX9_count_8 : decode cX9_count 8 = .ok (.bipush 15, 2) := by decide +kernel
theorem dX9_count_10 : decode cX9_count 10 = .ok (.invokestatic 336, 3) := by decide +kernel
theorem dX9_count_13 : decode cX9_count 13 = .ok (.iconst 1, 1) := by decide +kernel
theorem dX9_count_14 : decode cX9_count 14 = .ok (.invokevirtual 291, 3) := by decide +kernel
theorem dX9_count_17 : decode cX9_count 17 = .ok (.ifCond .ne 5, 3) := by decide +kernel
theorem dX9_count_20 : decode cX9_count 20 = .ok (.iconst 0, 1) := by decide +kernel
theorem dX9_count_21 : decode cX9_count 21 = .ok (.ireturn, 1) := by decide +kernel
theorem dX9_count_22 : decode cX9_count 22 = .ok (.iload_n 1, 1) := by decide +kernel
theorem dX9_count_23 : decode cX9_count 23 = .ok (.tableswitch 130 0 12 #[65, 70, 75, 80, 85, 90, 95, 100, 105, 110, 115, 120, 125], 65) := by decide +kernel
theorem dX9_count_88 : decode cX9_count 88 = .ok (.aload_n 0, 1) := by decide +kernel
theorem dX9_count_89 : decode cX9_count 89 = .ok (.getfield 298, 3) := by decide +kernel
theorem dX9_count_92 : decode cX9_count 92 = .ok (.ireturn, 1) := by decide +kernel
theorem dX9_count_93 : decode cX9_count 93 = .ok (.aload_n 0, 1) := by decide +kernel
theorem dX9_count_94 : decode cX9_count 94 = .ok (.getfield 7, 3) := by decide +kernel
theorem dX9_count_97 : decode cX9_count 97 = .ok (.ireturn, 1) := by decide +kernel
theorem dX9_count_98 : decode cX9_count 98 = .ok (.aload_n 0, 1) := by decide +kernel
theorem dX9_count_99 : decode cX9_count 99 = .ok (.getfield 13, 3) := by decide +kernel
theorem dX9_count_102 : decode cX9_count 102 = .ok (.ireturn, 1) := by decide +kernel
theorem dX9_count_103 : decode cX9_count 103 = .ok (.aload_n 0, 1) := by decide +kernel
theorem dX9_count_104 : decode cX9_count 104 = .ok (.getfield 16, 3) := by decide +kernel
theorem dX9_count_107 : decode cX9_count 107 = .ok (.ireturn, 1) := by decide +kernel
theorem dX9_count_108 : decode cX9_count 108 = .ok (.aload_n 0, 1) := by decide +kernel
theorem dX9_count_109 : decode cX9_count 109 = .ok (.getfield 304, 3) := by decide +kernel
theorem dX9_count_112 : decode cX9_count 112 = .ok (.ireturn, 1) := by decide +kernel
theorem dX9_count_113 : decode cX9_count 113 = .ok (.aload_n 0, 1) := by decide +kernel
theorem dX9_count_114 : decode cX9_count 114 = .ok (.getfield 307, 3) := by decide +kernel
theorem dX9_count_117 : decode cX9_count 117 = .ok (.ireturn, 1) := by decide +kernel
theorem dX9_count_118 : decode cX9_count 118 = .ok (.aload_n 0, 1) := by decide +kernel
theorem dX9_count_119 : decode cX9_count 119 = .ok (.getfield 310, 3) := by decide +kernel
theorem dX9_count_122 : decode cX9_count 122 = .ok (.ireturn, 1) := by decide +kernel
theorem dX9_count_123 : decode cX9_count 123 = .ok (.aload_n 0, 1) := by decide +kernel
theorem dX9_count_124 : decode cX9_count 124 = .ok (.getfield 19, 3) := by decide +kernel
theorem dX9_count_127 : decode cX9_count 127 = .ok (.ireturn, 1) := by decide +kernel
theorem dX9_count_128 : decode cX9_count 128 = .ok (.aload_n 0, 1) := by decide +kernel
theorem dX9_count_129 : decode cX9_count 129 = .ok (.getfield 301, 3) := by decide +kernel
theorem dX9_count_132 : decode cX9_count 132 = .ok (.ireturn, 1) := by decide +kernel
theorem dX9_count_133 : decode cX9_count 133 = .ok (.aload_n 0, 1) := by decide +kernel
theorem dX9_count_134 : decode cX9_count 134 = .ok (.getfield 173, 3) := by decide +kernel
theorem dX9_count_137 : decode cX9_count 137 = .ok (.ireturn, 1) := by decide +kernel
theorem dX9_count_138 : decode cX9_count 138 = .ok (.aload_n 0, 1) := by decide +kernel
theorem dX9_count_139 : decode cX9_count 139 = .ok (.getfield 317, 3) := by decide +kernel
theorem dX9_count_142 : decode cX9_count 142 = .ok (.ireturn, 1) := by decide +kernel
theorem dX9_count_143 : decode cX9_count 143 = .ok (.aload_n 0, 1) := by decide +kernel
theorem dX9_count_144 : decode cX9_count 144 = .ok (.getfield 320, 3) := by decide +kernel
theorem dX9_count_147 : decode cX9_count 147 = .ok (.ireturn, 1) := by decide +kernel
theorem dX9_count_148 : decode cX9_count 148 = .ok (.aload_n 0, 1) := by decide +kernel
theorem dX9_count_149 : decode cX9_count 149 = .ok (.getfield 323, 3) := by decide +kernel
theorem dX9_count_152 : decode cX9_count 152 = .ok (.ireturn, 1) := by decide +kernel
theorem dX9_count_153 : decode cX9_count 153 = .ok (.aload_n 0, 1) := by decide +kernel
theorem dX9_count_154 : decode cX9_count 154 = .ok (.getfield 38, 3) := by decide +kernel
theorem dX9_count_157 : decode cX9_count 157 = .ok (.iload_n 1, 1) := by decide +kernel
theorem dX9_count_158 : decode cX9_count 158 = .ok (.bipush 13, 2) := by decide +kernel
theorem dX9_count_160 : decode cX9_count 160 = .ok (.isub, 1) := by decide +kernel
theorem dX9_count_161 : decode cX9_count 161 = .ok (.iaload, 1) := by decide +kernel
theorem dX9_count_162 : decode cX9_count 162 = .ok (.ireturn, 1) := by decide +kernel
theorem dX9_isPerson_0 : decode cX9_isPerson 0 = .ok (.aload_n 0, 1) := by decide +kernel
theorem dX9_isPerson_1 : decode cX9_isPerson 1 = .ok (.iload_n 1, 1) := by decide +kernel
theorem dX9_isPerson_2 : decode cX9_isPerson 2 = .ok (.ifCond .lt 15, 3) := by decide +kernel
theorem dX9_isPerson_5 : decode cX9_isPerson 5 = .ok (.iload_n 1, 1) := by decide +kernel
theorem dX9_isPerson_6 : decode cX9_isPerson 6 = .ok (.aload_n 0, 1) := by decide +kernel
theorem dX9_isPerson_7 : decode cX9_isPerson 7 = .ok (.getfield 298, 3) := by decide +kernel
theorem dX9_isPerson_10 : decode cX9_isPerson 10 = .ok (.if_icmp .ge 7, 3) := by decide +kernel
theorem dX9_isPerson_13 : decode cX9_isPerson 13 = .ok (.iconst 1, 1) := by decide +kernel
theorem dX9_isPerson_14 : decode cX9_isPerson 14 = .ok (.goto 4, 3) := by decide +kernel
theorem dX9_isPerson_17 : decode cX9_isPerson 17 = .ok (.iconst 0, 1) := by decide +kernel
theorem dX9_isPerson_18 : decode cX9_isPerson 18 = .ok (.iconst 1, 1) := by decide +kernel
theorem dX9_isPerson_19 : decode cX9_isPerson 19 = .ok (.invokevirtual 291, 3) := by decide +kernel
theorem dX9_isPerson_22 : decode cX9_isPerson 22 = .ok (.ireturn, 1) := by decide +kernel
theorem dX9_person_0 : decode cX9_person 0 = .ok (.aload_n 0, 1) := by decide +kernel
theorem dX9_person_1 : decode cX9_person 1 = .ok (.iconst 0, 1) := by decide +kernel
theorem dX9_person_2 : decode cX9_person 2 = .ok (.putfield 170, 3) := by decide +kernel
theorem dX9_person_5 : decode cX9_person 5 = .ok (.aload_n 0, 1) := by decide +kernel
theorem dX9_person_6 : decode cX9_person 6 = .ok (.iload_n 1, 1) := by decide +kernel
theorem dX9_person_7 : decode cX9_person 7 = .ok (.invokevirtual 339, 3) := by decide +kernel
theorem dX9_person_10 : decode cX9_person 10 = .ok (.ifCond .eq 17, 3) := by decide +kernel
theorem dX9_person_13 : decode cX9_person 13 = .ok (.aload_n 0, 1) := by decide +kernel
theorem dX9_person_14 : decode cX9_person 14 = .ok (.iload_n 2, 1) := by decide +kernel
theorem dX9_person_15 : decode cX9_person 15 = .ok (.iconst 0, 1) := by decide +kernel
theorem dX9_person_16 : decode cX9_person 16 = .ok (.iconst 2, 1) := by decide +kernel
theorem dX9_person_17 : decode cX9_person 17 = .ok (.invokestatic 336, 3) := by decide +kernel
theorem dX9_person_20 : decode cX9_person 20 = .ok (.iconst 1, 1) := by decide +kernel
theorem dX9_person_21 : decode cX9_person 21 = .ok (.invokevirtual 291, 3) := by decide +kernel
theorem dX9_person_24 : decode cX9_person 24 = .ok (.ifCond .ne 5, 3) := by decide +kernel
theorem dX9_person_27 : decode cX9_person 27 = .ok (.iconst 0, 1) := by decide +kernel
theorem dX9_person_28 : decode cX9_person 28 = .ok (.ireturn, 1) := by decide +kernel
theorem dX9_person_29 : decode cX9_person 29 = .ok (.iload_n 2, 1) := by decide +kernel
theorem dX9_person_30 : decode cX9_person 30 = .ok (.iconst 2, 1) := by decide +kernel
theorem dX9_person_31 : decode cX9_person 31 = .ok (.if_icmp .ge 37, 3) := by decide +kernel
theorem dX9_person_34 : decode cX9_person 34 = .ok (.iload_n 2, 1) := by decide +kernel
theorem dX9_person_35 : decode cX9_person 35 = .ok (.ifCond .ne 12, 3) := by decide +kernel
theorem dX9_person_38 : decode cX9_person 38 = .ok (.aload_n 0, 1) := by decide +kernel
theorem dX9_person_39 : decode cX9_person 39 = .ok (.getfield 22, 3) := by decide +kernel
theorem dX9_person_42 : decode cX9_person 42 = .ok (.iload_n 1, 1) := by decide +kernel
theorem dX9_person_43 : decode cX9_person 43 = .ok (.iaload, 1) := by decide +kernel
theorem dX9_person_44 : decode cX9_person 44 = .ok (.goto 23, 3) := by decide +kernel
theorem dX9_person_47 : decode cX9_person 47 = .ok (.aload_n 0, 1) := by decide +kernel
theorem dX9_person_48 : decode cX9_person 48 = .ok (.getfield 22, 3) := by decide +kernel
theorem dX9_person_51 : decode cX9_person 51 = .ok (.iload_n 1, 1) := by decide +kernel
theorem dX9_person_52 : decode cX9_person 52 = .ok (.iaload, 1) := by decide +kernel
theorem dX9_person_53 : decode cX9_person 53 = .ok (.iconst 1, 1) := by decide +kernel
theorem dX9_person_54 : decode cX9_person 54 = .ok (.if_icmp .ne 7, 3) := by decide +kernel
theorem dX9_person_57 : decode cX9_person 57 = .ok (.iconst 0, 1) := by decide +kernel
theorem dX9_person_58 : decode cX9_person 58 = .ok (.goto 9, 3) := by decide +kernel
theorem dX9_person_61 : decode cX9_person 61 = .ok (.aload_n 0, 1) := by decide +kernel
theorem dX9_person_62 : decode cX9_person 62 = .ok (.getfield 26, 3) := by decide +kernel
theorem dX9_person_65 : decode cX9_person 65 = .ok (.iload_n 1, 1) := by decide +kernel
theorem dX9_person_66 : decode cX9_person 66 = .ok (.iaload, 1) := by decide +kernel
theorem dX9_person_67 : decode cX9_person 67 = .ok (.ireturn, 1) := by decide +kernel
theorem dX9_person_68 : decode cX9_person 68 = .ok (.iconst 0, 1) := by decide +kernel
theorem dX9_person_69 : decode cX9_person 69 = .ok (.istore_n 3, 1) := by decide +kernel
theorem dX9_person_70 : decode cX9_person 70 = .ok (.iconst 0, 1) := by decide +kernel
theorem dX9_person_71 : decode cX9_person 71 = .ok (.istore 4, 2) := by decide +kernel
theorem dX9_person_73 : decode cX9_person 73 = .ok (.iload 4, 2) := by decide +kernel
theorem dX9_person_75 : decode cX9_person 75 = .ok (.aload_n 0, 1) := by decide +kernel
theorem dX9_person_76 : decode cX9_person 76 = .ok (.getfield 298, 3) := by decide +kernel
theorem dX9_person_79 : decode cX9_person 79 = .ok (.if_icmp .ge 35, 3) := by decide +kernel
theorem dX9_person_82 : decode cX9_person 82 = .ok (.iload_n 3, 1) := by decide +kernel
theorem dX9_person_83 : decode cX9_person 83 = .ok (.aload_n 0, 1) := by decide +kernel
theorem dX9_person_84 : decode cX9_person 84 = .ok (.getfield 29, 3) := by decide +kernel
theorem dX9_person_87 : decode cX9_person 87 = .ok (.bipush 8, 2) := by decide +kernel
theorem dX9_person_89 : decode cX9_person 89 = .ok (.iload_n 1, 1) := by decide +kernel
theorem dX9_person_90 : decode cX9_person 90 = .ok (.imul, 1) := by decide +kernel
theorem dX9_person_91 : decode cX9_person 91 = .ok (.iload 4, 2) := by decide +kernel
theorem dX9_person_93 : decode cX9_person 93 = .ok (.iadd, 1) := by decide +kernel
theorem dX9_person_94 : decode cX9_person 94 = .ok (.iaload, 1) := by decide +kernel
theorem dX9_person_95 : decode cX9_person 95 = .ok (.ifCond .le 10, 3) := by decide +kernel
theorem dX9_person_98 : decode cX9_person 98 = .ok (.iconst 1, 1) := by decide +kernel
theorem dX9_person_99 : decode cX9_person 99 = .ok (.iload 4, 2) := by decide +kernel
theorem dX9_person_101 : decode cX9_person 101 = .ok (.ishl, 1) := by decide +kernel
theorem dX9_person_102 : decode cX9_person 102 = .ok (.goto 4, 3) := by decide +kernel
theorem dX9_person_105 : decode cX9_person 105 = .ok (.iconst 0, 1) := by decide +kernel
theorem dX9_person_106 : decode cX9_person 106 = .ok (.ior, 1) := by decide +kernel
theorem dX9_person_107 : decode cX9_person 107 = .ok (.istore_n 3, 1) := by decide +kernel
theorem dX9_person_108 : decode cX9_person 108 = .ok (.iinc 4 1, 3) := by decide +kernel
theorem dX9_person_111 : decode cX9_person 111 = .ok (.goto (-38), 3) := by decide +kernel
theorem dX9_person_114 : decode cX9_person 114 = .ok (.iload_n 3, 1) := by decide +kernel
theorem dX9_person_115 : decode cX9_person 115 = .ok (.ireturn, 1) := by decide +kernel
theorem dX9_weight_0 : decode cX9_weight 0 = .ok (.aload_n 0, 1) := by decide +kernel
theorem dX9_weight_1 : decode cX9_weight 1 = .ok (.iconst 0, 1) := by decide +kernel
theorem dX9_weight_2 : decode cX9_weight 2 = .ok (.putfield 170, 3) := by decide +kernel
theorem dX9_weight_5 : decode cX9_weight 5 = .ok (.aload_n 0, 1) := by decide +kernel
theorem dX9_weight_6 : decode cX9_weight 6 = .ok (.iload_n 1, 1) := by decide +kernel
theorem dX9_weight_7 : decode cX9_weight 7 = .ok (.invokevirtual 339, 3) := by decide +kernel
theorem dX9_weight_10 : decode cX9_weight 10 = .ok (.ifCond .eq 25, 3) := by decide +kernel
theorem dX9_weight_13 : decode cX9_weight 13 = .ok (.aload_n 0, 1) := by decide +kernel
theorem dX9_weight_14 : decode cX9_weight 14 = .ok (.iload_n 2, 1) := by decide +kernel
theorem dX9_weight_15 : decode cX9_weight 15 = .ok (.invokevirtual 339, 3) := by decide +kernel
theorem dX9_weight_18 : decode cX9_weight 18 = .ok (.ifCond .eq 17, 3) := by decide +kernel
theorem dX9_weight_21 : decode cX9_weight 21 = .ok (.aload_n 0, 1) := by decide +kernel
theorem dX9_weight_22 : decode cX9_weight 22 = .ok (.getfield 29, 3) := by decide +kernel
theorem dX9_weight_25 : decode cX9_weight 25 = .ok (.bipush 8, 2) := by decide +kernel
theorem dX9_weight_27 : decode cX9_weight 27 = .ok (.iload_n 1, 1) := by decide +kernel
theorem dX9_weight_28 : decode cX9_weight 28 = .ok (.imul, 1) := by decide +kernel
theorem dX9_weight_29 : decode cX9_weight 29 = .ok (.iload_n 2, 1) := by decide +kernel
theorem dX9_weight_30 : decode cX9_weight 30 = .ok (.iadd, 1) := by decide +kernel
theorem dX9_weight_31 : decode cX9_weight 31 = .ok (.iaload, 1) := by decide +kernel
theorem dX9_weight_32 : decode cX9_weight 32 = .ok (.goto 4, 3) := by decide +kernel
theorem dX9_weight_35 : decode cX9_weight 35 = .ok (.iconst 0, 1) := by decide +kernel
theorem dX9_weight_36 : decode cX9_weight 36 = .ok (.ireturn, 1) := by decide +kernel
theorem dX9_asTold_0 : decode cX9_asTold 0 = .ok (.aload_n 0, 1) := by decide +kernel
theorem dX9_asTold_1 : decode cX9_asTold 1 = .ok (.aload_n 0, 1) := by decide +kernel
theorem dX9_asTold_2 : decode cX9_asTold 2 = .ok (.getfield 22, 3) := by decide +kernel
theorem dX9_asTold_5 : decode cX9_asTold 5 = .ok (.aload_n 0, 1) := by decide +kernel
theorem dX9_asTold_6 : decode cX9_asTold 6 = .ok (.getfield 70, 3) := by decide +kernel
theorem dX9_asTold_9 : decode cX9_asTold 9 = .ok (.invokevirtual 313, 3) := by decide +kernel
theorem dX9_asTold_12 : decode cX9_asTold 12 = .ok (.aload_n 0, 1) := by decide +kernel
theorem dX9_asTold_13 : decode cX9_asTold 13 = .ok (.aload_n 0, 1) := by decide +kernel
theorem dX9_asTold_14 : decode cX9_asTold 14 = .ok (.getfield 26, 3) := by decide +kernel
theorem dX9_asTold_17 : decode cX9_asTold 17 = .ok (.aload_n 0, 1) := by decide +kernel
theorem dX9_asTold_18 : decode cX9_asTold 18 = .ok (.getfield 73, 3) := by decide +kernel
theorem dX9_asTold_21 : decode cX9_asTold 21 = .ok (.invokevirtual 313, 3) := by decide +kernel
theorem dX9_asTold_24 : decode cX9_asTold 24 = .ok (.aload_n 0, 1) := by decide +kernel
theorem dX9_asTold_25 : decode cX9_asTold 25 = .ok (.aload_n 0, 1) := by decide +kernel
theorem dX9_asTold_26 : decode cX9_asTold 26 = .ok (.getfield 310, 3) := by decide +kernel
theorem dX9_asTold_29 : decode cX9_asTold 29 = .ok (.putfield 342, 3) := by decide +kernel
theorem dX9_asTold_32 : decode cX9_asTold 32 = .ok (.aload_n 0, 1) := by decide +kernel
theorem dX9_asTold_33 : decode cX9_asTold 33 = .ok (.iconst 0, 1) := by decide +kernel
theorem dX9_asTold_34 : decode cX9_asTold 34 = .ok (.putfield 345, 3) := by decide +kernel
theorem dX9_asTold_37 : decode cX9_asTold 37 = .ok (.return_, 1) := by decide +kernel
theorem dX9_mixOf_0 : decode cX9_mixOf 0 = .ok (.iload_n 0, 1) := by decide +kernel
theorem dX9_mixOf_1 : decode cX9_mixOf 1 = .ok (.bipush 31, 2) := by decide +kernel
theorem dX9_mixOf_3 : decode cX9_mixOf 3 = .ok (.imul, 1) := by decide +kernel
theorem dX9_mixOf_4 : decode cX9_mixOf 4 = .ok (.iload_n 1, 1) := by decide +kernel
theorem dX9_mixOf_5 : decode cX9_mixOf 5 = .ok (.iadd, 1) := by decide +kernel
theorem dX9_mixOf_6 : decode cX9_mixOf 6 = .ok (.sipush 1031, 3) := by decide +kernel
theorem dX9_mixOf_9 : decode cX9_mixOf 9 = .ok (.imul, 1) := by decide +kernel
theorem dX9_mixOf_10 : decode cX9_mixOf 10 = .ok (.iload_n 2, 1) := by decide +kernel
theorem dX9_mixOf_11 : decode cX9_mixOf 11 = .ok (.iadd, 1) := by decide +kernel
theorem dX9_mixOf_12 : decode cX9_mixOf 12 = .ok (.ldc_w 348, 3) := by decide +kernel
theorem dX9_mixOf_15 : decode cX9_mixOf 15 = .ok (.imul, 1) := by decide +kernel
theorem dX9_mixOf_16 : decode cX9_mixOf 16 = .ok (.iload_n 3, 1) := by decide +kernel
theorem dX9_mixOf_17 : decode cX9_mixOf 17 = .ok (.ldc_w 349, 3) := by decide +kernel
theorem dX9_mixOf_20 : decode cX9_mixOf 20 = .ok (.imul, 1) := by decide +kernel
theorem dX9_mixOf_21 : decode cX9_mixOf 21 = .ok (.iadd, 1) := by decide +kernel
theorem dX9_mixOf_22 : decode cX9_mixOf 22 = .ok (.istore 4, 2) := by decide +kernel
theorem dX9_mixOf_24 : decode cX9_mixOf 24 = .ok (.iload 4, 2) := by decide +kernel
theorem dX9_mixOf_26 : decode cX9_mixOf 26 = .ok (.iload 4, 2) := by decide +kernel
theorem dX9_mixOf_28 : decode cX9_mixOf 28 = .ok (.bipush 15, 2) := by decide +kernel
theorem dX9_mixOf_30 : decode cX9_mixOf 30 = .ok (.ishr, 1) := by decide +kernel
theorem dX9_mixOf_31 : decode cX9_mixOf 31 = .ok (.ixor, 1) := by decide +kernel
theorem dX9_mixOf_32 : decode cX9_mixOf 32 = .ok (.iload 4, 2) := by decide +kernel
theorem dX9_mixOf_34 : decode cX9_mixOf 34 = .ok (.bipush 7, 2) := by decide +kernel
theorem dX9_mixOf_36 : decode cX9_mixOf 36 = .ok (.ishr, 1) := by decide +kernel
theorem dX9_mixOf_37 : decode cX9_mixOf 37 = .ok (.ixor, 1) := by decide +kernel
theorem dX9_mixOf_38 : decode cX9_mixOf 38 = .ok (.ldc_w 350, 3) := by decide +kernel
theorem dX9_mixOf_41 : decode cX9_mixOf 41 = .ok (.iand, 1) := by decide +kernel
theorem dX9_mixOf_42 : decode cX9_mixOf 42 = .ok (.ireturn, 1) := by decide +kernel
theorem dX9_hand0_0 : decode cX9_hand0 0 = .ok (.iload_n 1, 1) := by decide +kernel
theorem dX9_hand0_1 : decode cX9_hand0 1 = .ok (.iload_n 2, 1) := by decide +kernel
theorem dX9_hand0_2 : decode cX9_hand0 2 = .ok (.iload_n 3, 1) := by decide +kernel
theorem dX9_hand0_3 : decode cX9_hand0 3 = .ok (.iload 4, 2) := by decide +kernel
theorem dX9_hand0_5 : decode cX9_hand0 5 = .ok (.invokestatic 351, 3) := by decide +kernel
theorem dX9_hand0_8 : decode cX9_hand0 8 = .ok (.istore 5, 2) := by decide +kernel
theorem dX9_hand0_10 : decode cX9_hand0 10 = .ok (.aload_n 0, 1) := by decide +kernel
theorem dX9_hand0_11 : decode cX9_hand0 11 = .ok (.getfield 67, 3) := by decide +kernel
theorem dX9_hand0_14 : decode cX9_hand0 14 = .ok (.iload 5, 2) := by decide +kernel
theorem dX9_hand0_16 : decode cX9_hand0 16 = .ok (.iaload, 1) := by decide +kernel
theorem dX9_hand0_17 : decode cX9_hand0 17 = .ok (.ifCond .eq 75, 3) := by decide +kernel
theorem dX9_hand0_20 : decode cX9_hand0 20 = .ok (.aload_n 0, 1) := by decide +kernel
theorem dX9_hand0_21 : decode cX9_hand0 21 = .ok (.getfield 67, 3) := by decide +kernel
theorem dX9_hand0_24 : decode cX9_hand0 24 = .ok (.iload 5, 2) := by decide +kernel
theorem dX9_hand0_26 : decode cX9_hand0 26 = .ok (.iaload, 1) := by decide +kernel
theorem dX9_hand0_27 : decode cX9_hand0 27 = .ok (.iconst 1, 1) := by decide +kernel
theorem dX9_hand0_28 : decode cX9_hand0 28 = .ok (.isub, 1) := by decide +kernel
theorem dX9_hand0_29 : decode cX9_hand0 29 = .ok (.istore 6, 2) := by decide +kernel
theorem dX9_hand0_31 : decode cX9_hand0 31 = .ok (.aload_n 0, 1) := by decide +kernel
theorem dX9_hand0_32 : decode cX9_hand0 32 = .ok (.getfield 50, 3) := by decide +kernel
theorem dX9_hand0_35 : decode cX9_hand0 35 = .ok (.iload 6, 2) := by decide +kernel
theorem dX9_hand0_37 : decode cX9_hand0 37 = .ok (.iaload, 1) := by decide +kernel
theorem dX9_hand0_38 : decode cX9_hand0 38 = .ok (.iload_n 1, 1) := by decide +kernel
theorem dX9_hand0_39 : decode cX9_hand0 39 = .ok (.if_icmp .ne 40, 3) := by decide +kernel
theorem dX9_hand0_42 : decode cX9_hand0 42 = .ok (.aload_n 0, 1) := by decide +kernel
theorem dX9_hand0_43 : decode cX9_hand0 43 = .ok (.getfield 53, 3) := by decide +kernel
theorem dX9_hand0_46 : decode cX9_hand0 46 = .ok (.iload 6, 2) := by decide +kernel
theorem dX9_hand0_48 : decode cX9_hand0 48 = .ok (.iaload, 1) := by decide +kernel
theorem dX9_hand0_49 : decode cX9_hand0 49 = .ok (.iload_n 2, 1) := by decide +kernel
theorem dX9_hand0_50 : decode cX9_hand0 50 = .ok (.if_icmp .ne 29, 3) := by decide +kernel
theorem dX9_hand0_53 : decode cX9_hand0 53 = .ok (.aload_n 0, 1) := by decide +kernel
theorem dX9_hand0_54 : decode cX9_hand0 54 = .ok (.getfield 56, 3) := by decide +kernel
theorem dX9_hand0_57 : decode cX9_hand0 57 = .ok (.iload 6, 2) := by decide +kernel
theorem dX9_hand0_59 : decode cX9_hand0 59 = .ok (.iaload, 1) := by decide +kernel
theorem dX9_hand0_60 : decode cX9_hand0 60 = .ok (.iload_n 3, 1) := by decide +kernel
theorem dX9_hand0_61 : decode cX9_hand0 61 = .ok (.if_icmp .ne 18, 3) := by decide +kernel
theorem dX9_hand0_64 : decode cX9_hand0 64 = .ok (.aload_n 0, 1) := by decide +kernel
theorem dX9_hand0_65 : decode cX9_hand0 65 = .ok (.getfield 59, 3) := by decide +kernel
theorem dX9_hand0_68 : decode cX9_hand0 68 = .ok (.iload 6, 2) := by decide +kernel
theorem dX9_hand0_70 : decode cX9_hand0 70 = .ok (.iaload, 1) := by decide +kernel
theorem dX9_hand0_71 : decode cX9_hand0 71 = .ok (.iload 4, 2) := by decide +kernel
theorem dX9_hand0_73 : decode cX9_hand0 73 = .ok (.if_icmp .ne 6, 3) := by decide +kernel
theorem dX9_hand0_76 : decode cX9_hand0 76 = .ok (.iload 6, 2) := by decide +kernel
theorem dX9_hand0_78 : decode cX9_hand0 78 = .ok (.ireturn, 1) := by decide +kernel
theorem dX9_hand0_79 : decode cX9_hand0 79 = .ok (.iload 5, 2) := by decide +kernel
theorem dX9_hand0_81 : decode cX9_hand0 81 = .ok (.iconst 1, 1) := by decide +kernel
theorem dX9_hand0_82 : decode cX9_hand0 82 = .ok (.iadd, 1) := by decide +kernel
theorem dX9_hand0_83 : decode cX9_hand0 83 = .ok (.ldc_w 350, 3) := by decide +kernel
theorem dX9_hand0_86 : decode cX9_hand0 86 = .ok (.iand, 1) := by decide +kernel
theorem dX9_hand0_87 : decode cX9_hand0 87 = .ok (.istore 5, 2) := by decide +kernel
theorem dX9_hand0_89 : decode cX9_hand0 89 = .ok (.goto (-79), 3) := by decide +kernel
theorem dX9_hand0_92 : decode cX9_hand0 92 = .ok (.aload_n 0, 1) := by decide +kernel
theorem dX9_hand0_93 : decode cX9_hand0 93 = .ok (.getfield 354, 3) := by decide +kernel
theorem dX9_hand0_96 : decode cX9_hand0 96 = .ok (.sipush 20000, 3) := by decide +kernel
theorem dX9_hand0_99 : decode cX9_hand0 99 = .ok (.if_icmp .ne 10, 3) := by decide +kernel
theorem dX9_hand0_102 : decode cX9_hand0 102 = .ok (.aload_n 0, 1) := by decide +kernel
theorem dX9_hand0_103 : decode cX9_hand0 103 = .ok (.iconst 1, 1) := by decide +kernel
theorem dX9_hand0_104 : decode cX9_hand0 104 = .ok (.putfield 357, 3) := by decide +kernel
theorem dX9_hand0_107 : decode cX9_hand0 107 = .ok (.iconst (-1), 1) := by decide +kernel
theorem dX9_hand0_108 : decode cX9_hand0 108 = .ok (.ireturn, 1) := by decide +kernel
theorem dX9_hand0_109 : decode cX9_hand0 109 = .ok (.aload_n 0, 1) := by decide +kernel
theorem dX9_hand0_110 : decode cX9_hand0 110 = .ok (.getfield 50, 3) := by decide +kernel
theorem dX9_hand0_113 : decode cX9_hand0 113 = .ok (.aload_n 0, 1) := by decide +kernel
theorem dX9_hand0_114 : decode cX9_hand0 114 = .ok (.getfield 354, 3) := by decide +kernel
theorem dX9_hand0_117 : decode cX9_hand0 117 = .ok (.iload_n 1, 1) := by decide +kernel
theorem dX9_hand0_118 : decode cX9_hand0 118 = .ok (.iastore, 1) := by decide +kernel
theorem dX9_hand0_119 : decode cX9_hand0 119 = .ok (.aload_n 0, 1) := by decide +kernel
theorem dX9_hand0_120 : decode cX9_hand0 120 = .ok (.getfield 53, 3) := by decide +kernel
theorem dX9_hand0_123 : decode cX9_hand0 123 = .ok (.aload_n 0, 1) := by decide +kernel
theorem dX9_hand0_124 : decode cX9_hand0 124 = .ok (.getfield 354, 3) := by decide +kernel
theorem dX9_hand0_127 : decode cX9_hand0 127 = .ok (.iload_n 2, 1) := by decide +kernel
theorem dX9_hand0_128 : decode cX9_hand0 128 = .ok (.iastore, 1) := by decide +kernel
theorem dX9_hand0_129 : decode cX9_hand0 129 = .ok (.aload_n 0, 1) := by decide +kernel
theorem dX9_hand0_130 : decode cX9_hand0 130 = .ok (.getfield 56, 3) := by decide +kernel
theorem dX9_hand0_133 : decode cX9_hand0 133 = .ok (.aload_n 0, 1) := by decide +kernel
theorem dX9_hand0_134 : decode cX9_hand0 134 = .ok (.getfield 354, 3) := by decide +kernel
theorem dX9_hand0_137 : decode cX9_hand0 137 = .ok (.iload_n 3, 1) := by decide +kernel
theorem dX9_hand0_138 : decode cX9_hand0 138 = .ok (.iastore, 1) := by decide +kernel
theorem dX9_hand0_139 : decode cX9_hand0 139 = .ok (.aload_n 0, 1) := by decide +kernel
theorem dX9_hand0_140 : decode cX9_hand0 140 = .ok (.getfield 59, 3) := by decide +kernel
theorem dX9_hand0_143 : decode cX9_hand0 143 = .ok (.aload_n 0, 1) := by decide +kernel
theorem dX9_hand0_144 : decode cX9_hand0 144 = .ok (.getfield 354, 3) := by decide +kernel
theorem dX9_hand0_147 : decode cX9_hand0 147 = .ok (.iload 4, 2) := by decide +kernel
theorem dX9_hand0_149 : decode cX9_hand0 149 = .ok (.iastore, 1) := by decide +kernel
theorem dX9_hand0_150 : decode cX9_hand0 150 = .ok (.aload_n 0, 1) := by decide +kernel
theorem dX9_hand0_151 : decode cX9_hand0 151 = .ok (.dup, 1) := by decide +kernel
theorem dX9_hand0_152 : decode cX9_hand0 152 = .ok (.getfield 354, 3) := by decide +kernel
theorem dX9_hand0_155 : decode cX9_hand0 155 = .ok (.iconst 1, 1) := by decide +kernel
theorem dX9_hand0_156 : decode cX9_hand0 156 = .ok (.iadd, 1) := by decide +kernel
theorem dX9_hand0_157 : decode cX9_hand0 157 = .ok (.putfield 354, 3) := by decide +kernel
theorem dX9_hand0_160 : decode cX9_hand0 160 = .ok (.aload_n 0, 1) := by decide +kernel
theorem dX9_hand0_161 : decode cX9_hand0 161 = .ok (.getfield 67, 3) := by decide +kernel
theorem dX9_hand0_164 : decode cX9_hand0 164 = .ok (.iload 5, 2) := by decide +kernel
theorem dX9_hand0_166 : decode cX9_hand0 166 = .ok (.aload_n 0, 1) := by decide +kernel
theorem dX9_hand0_167 : decode cX9_hand0 167 = .ok (.getfield 354, 3) := by decide +kernel
theorem dX9_hand0_170 : decode cX9_hand0 170 = .ok (.iastore, 1) := by decide +kernel
theorem dX9_hand0_171 : decode cX9_hand0 171 = .ok (.aload_n 0, 1) := by decide +kernel
theorem dX9_hand0_172 : decode cX9_hand0 172 = .ok (.getfield 354, 3) := by decide +kernel
theorem dX9_hand0_175 : decode cX9_hand0 175 = .ok (.iconst 1, 1) := by decide +kernel
theorem dX9_hand0_176 : decode cX9_hand0 176 = .ok (.isub, 1) := by decide +kernel
theorem dX9_hand0_177 : decode cX9_hand0 177 = .ok (.ireturn, 1) := by decide +kernel
theorem dX9_may_0 : decode cX9_may 0 = .ok (.aload_n 0, 1) := by decide +kernel
theorem dX9_may_1 : decode cX9_may 1 = .ok (.getfield 53, 3) := by decide +kernel
theorem dX9_may_4 : decode cX9_may 4 = .ok (.iload_n 1, 1) := by decide +kernel
theorem dX9_may_5 : decode cX9_may 5 = .ok (.iaload, 1) := by decide +kernel
theorem dX9_may_6 : decode cX9_may 6 = .ok (.aload_n 0, 1) := by decide +kernel
theorem dX9_may_7 : decode cX9_may 7 = .ok (.getfield 16, 3) := by decide +kernel
theorem dX9_may_10 : decode cX9_may 10 = .ok (.if_icmp .eq 42, 3) := by decide +kernel
theorem dX9_may_13 : decode cX9_may 13 = .ok (.iload_n 2, 1) := by decide +kernel
theorem dX9_may_14 : decode cX9_may 14 = .ok (.aload_n 0, 1) := by decide +kernel
theorem dX9_may_15 : decode cX9_may 15 = .ok (.getfield 298, 3) := by decide +kernel
theorem dX9_may_18 : decode cX9_may 18 = .ok (.if_icmp .ge 34, 3) := by decide +kernel
theorem dX9_may_21 : decode cX9_may 21 = .ok (.aload_n 0, 1) := by decide +kernel
theorem dX9_may_22 : decode cX9_may 22 = .ok (.getfield 29, 3) := by decide +kernel
theorem dX9_may_25 : decode cX9_may 25 = .ok (.bipush 8, 2) := by decide +kernel
theorem dX9_may_27 : decode cX9_may 27 = .ok (.aload_n 0, 1) := by decide +kernel
theorem dX9_may_28 : decode cX9_may 28 = .ok (.getfield 50, 3) := by decide +kernel
theorem dX9_may_31 : decode cX9_may 31 = .ok (.iload_n 1, 1) := by decide +kernel
theorem dX9_may_32 : decode cX9_may 32 = .ok (.iaload, 1) := by decide +kernel
theorem dX9_may_33 : decode cX9_may 33 = .ok (.imul, 1) := by decide +kernel
theorem dX9_may_34 : decode cX9_may 34 = .ok (.iload_n 2, 1) := by decide +kernel
theorem dX9_may_35 : decode cX9_may 35 = .ok (.iadd, 1) := by decide +kernel
theorem dX9_may_36 : decode cX9_may 36 = .ok (.iaload, 1) := by decide +kernel
theorem dX9_may_37 : decode cX9_may 37 = .ok (.ifCond .eq 15, 3) := by decide +kernel
theorem dX9_may_40 : decode cX9_may 40 = .ok (.aload_n 0, 1) := by decide +kernel
theorem dX9_may_41 : decode cX9_may 41 = .ok (.getfield 345, 3) := by decide +kernel
theorem dX9_may_44 : decode cX9_may 44 = .ok (.iload_n 2, 1) := by decide +kernel
theorem dX9_may_45 : decode cX9_may 45 = .ok (.ishr, 1) := by decide +kernel
theorem dX9_may_46 : decode cX9_may 46 = .ok (.iconst 1, 1) := by decide +kernel
theorem dX9_may_47 : decode cX9_may 47 = .ok (.iand, 1) := by decide +kernel
theorem dX9_may_48 : decode cX9_may 48 = .ok (.iconst 1, 1) := by decide +kernel
theorem dX9_may_49 : decode cX9_may 49 = .ok (.if_icmp .ne 5, 3) := by decide +kernel
theorem dX9_may_52 : decode cX9_may 52 = .ok (.iconst 0, 1) := by decide +kernel
theorem dX9_may_53 : decode cX9_may 53 = .ok (.ireturn, 1) := by decide +kernel
theorem dX9_may_54 : decode cX9_may 54 = .ok (.aload_n 0, 1) := by decide +kernel
theorem dX9_may_55 : decode cX9_may 55 = .ok (.getfield 342, 3) := by decide +kernel
theorem dX9_may_58 : decode cX9_may 58 = .ok (.ifCond .ne 24, 3) := by decide +kernel
theorem dX9_may_61 : decode cX9_may 61 = .ok (.aload_n 0, 1) := by decide +kernel
theorem dX9_may_62 : decode cX9_may 62 = .ok (.getfield 56, 3) := by decide +kernel
theorem dX9_may_65 : decode cX9_may 65 = .ok (.iload_n 1, 1) := by decide +kernel
theorem dX9_may_66 : decode cX9_may 66 = .ok (.iaload, 1) := by decide +kernel
theorem dX9_may_67 : decode cX9_may 67 = .ok (.iload_n 2, 1) := by decide +kernel
theorem dX9_may_68 : decode cX9_may 68 = .ok (.ishr, 1) := by decide +kernel
theorem dX9_may_69 : decode cX9_may 69 = .ok (.iconst 1, 1) := by decide +kernel
theorem dX9_may_70 : decode cX9_may 70 = .ok (.iand, 1) := by decide +kernel
theorem dX9_may_71 : decode cX9_may 71 = .ok (.ifCond .ne 7, 3) := by decide +kernel
theorem dX9_may_74 : decode cX9_may 74 = .ok (.iconst 1, 1) := by decide +kernel
theorem dX9_may_75 : decode cX9_may 75 = .ok (.goto 30, 3) := by decide +kernel
theorem dX9_may_78 : decode cX9_may 78 = .ok (.iconst 0, 1) := by decide +kernel
theorem dX9_may_79 : decode cX9_may 79 = .ok (.goto 26, 3) := by decide +kernel
theorem dX9_may_82 : decode cX9_may 82 = .ok (.aload_n 0, 1) := by decide +kernel
theorem dX9_may_83 : decode cX9_may 83 = .ok (.getfield 342, 3) := by decide +kernel
theorem dX9_may_86 : decode cX9_may 86 = .ok (.iconst 1, 1) := by decide +kernel
theorem dX9_may_87 : decode cX9_may 87 = .ok (.if_icmp .ne 13, 3) := by decide +kernel
theorem dX9_may_90 : decode cX9_may 90 = .ok (.aload_n 0, 1) := by decide +kernel
theorem dX9_may_91 : decode cX9_may 91 = .ok (.getfield 56, 3) := by decide +kernel
theorem dX9_may_94 : decode cX9_may 94 = .ok (.iload_n 1, 1) := by decide +kernel
theorem dX9_may_95 : decode cX9_may 95 = .ok (.iaload, 1) := by decide +kernel
theorem dX9_may_96 : decode cX9_may 96 = .ok (.iload_n 2, 1) := by decide +kernel
theorem dX9_may_97 : decode cX9_may 97 = .ok (.if_icmp .eq 7, 3) := by decide +kernel
theorem dX9_may_100 : decode cX9_may 100 = .ok (.iconst 1, 1) := by decide +kernel
theorem dX9_may_101 : decode cX9_may 101 = .ok (.goto 4, 3) := by decide +kernel
theorem dX9_may_104 : decode cX9_may 104 = .ok (.iconst 0, 1) := by decide +kernel
theorem dX9_may_105 : decode cX9_may 105 = .ok (.ireturn, 1) := by decide +kernel
theorem dX9_builds_0 : decode cX9_builds 0 = .ok (.aload_n 0, 1) := by decide +kernel
theorem dX9_builds_1 : decode cX9_builds 1 = .ok (.iconst 0, 1) := by decide +kernel
theorem dX9_builds_2 : decode cX9_builds 2 = .ok (.putfield 357, 3) := by decide +kernel
theorem dX9_builds_5 : decode cX9_builds 5 = .ok (.aload_n 0, 1) := by decide +kernel
theorem dX9_builds_6 : decode cX9_builds 6 = .ok (.iconst 0, 1) := by decide +kernel
theorem dX9_builds_7 : decode cX9_builds 7 = .ok (.putfield 354, 3) := by decide +kernel
theorem dX9_builds_10 : decode cX9_builds 10 = .ok (.iconst 0, 1) := by decide +kernel
theorem dX9_builds_11 : decode cX9_builds 11 = .ok (.istore_n 2, 1) := by decide +kernel
theorem dX9_builds_12 : decode cX9_builds 12 = .ok (.iload_n 2, 1) := by decide +kernel
theorem dX9_builds_13 : decode cX9_builds 13 = .ok (.ldc 66, 2) := by decide +kernel
theorem dX9_builds_15 : decode cX9_builds 15 = .ok (.if_icmp .ge 16, 3) := by decide +kernel
theorem dX9_builds_18 : decode cX9_builds 18 = .ok (.aload_n 0, 1) := by decide +kernel
theorem dX9_builds_19 : decode cX9_builds 19 = .ok (.getfield 67, 3) := by decide +kernel
theorem dX9_builds_22 : decode cX9_builds 22 = .ok (.iload_n 2, 1) := by decide +kernel
theorem dX9_builds_23 : decode cX9_builds 23 = .ok (.iconst 0, 1) := by decide +kernel
theorem dX9_builds_24 : decode cX9_builds 24 = .ok (.iastore, 1) := by decide +kernel
theorem dX9_builds_25 : decode cX9_builds 25 = .ok (.iinc 2 1, 3) := by decide +kernel
theorem dX9_builds_28 : decode cX9_builds 28 = .ok (.goto (-16), 3) := by decide +kernel
theorem dX9_builds_31 : decode cX9_builds 31 = .ok (.aload_n 0, 1) := by decide +kernel
theorem dX9_builds_32 : decode cX9_builds 32 = .ok (.iload_n 1, 1) := by decide +kernel
theorem dX9_builds_33 : decode cX9_builds 33 = .ok (.iconst 1, 1) := by decide +kernel
theorem dX9_builds_34 : decode cX9_builds 34 = .ok (.aload_n 0, 1) := by decide +kernel
theorem dX9_builds_35 : decode cX9_builds 35 = .ok (.getfield 342, 3) := by decide +kernel
theorem dX9_builds_38 : decode cX9_builds 38 = .ok (.ifCond .ne 9, 3) := by decide +kernel
theorem dX9_builds_41 : decode cX9_builds 41 = .ok (.iconst 1, 1) := by decide +kernel
theorem dX9_builds_42 : decode cX9_builds 42 = .ok (.iload_n 1, 1) := by decide +kernel
theorem dX9_builds_43 : decode cX9_builds 43 = .ok (.ishl, 1) := by decide +kernel
theorem dX9_builds_44 : decode cX9_builds 44 = .ok (.goto 17, 3) := by decide +kernel
theorem dX9_builds_47 : decode cX9_builds 47 = .ok (.aload_n 0, 1) := by decide +kernel
theorem dX9_builds_48 : decode cX9_builds 48 = .ok (.getfield 342, 3) := by decide +kernel
theorem dX9_builds_51 : decode cX9_builds 51 = .ok (.iconst 1, 1) := by decide +kernel
theorem dX9_builds_52 : decode cX9_builds 52 = .ok (.if_icmp .ne 8, 3) := by decide +kernel
theorem dX9_builds_55 : decode cX9_builds 55 = .ok (.bipush 8, 2) := by decide +kernel
theorem dX9_builds_57 : decode cX9_builds 57 = .ok (.goto 4, 3) := by decide +kernel
theorem dX9_builds_60 : decode cX9_builds 60 = .ok (.iconst 0, 1) := by decide +kernel
theorem dX9_builds_61 : decode cX9_builds 61 = .ok (.iconst 0, 1) := by decide +kernel
theorem dX9_builds_62 : decode cX9_builds 62 = .ok (.invokevirtual 360, 3) := by decide +kernel
theorem dX9_builds_65 : decode cX9_builds 65 = .ok (.pop, 1) := by decide +kernel
theorem dX9_builds_66 : decode cX9_builds 66 = .ok (.iconst 0, 1) := by decide +kernel
theorem dX9_builds_67 : decode cX9_builds 67 = .ok (.istore_n 2, 1) := by decide +kernel
theorem dX9_builds_68 : decode cX9_builds 68 = .ok (.iload_n 2, 1) := by decide +kernel
theorem dX9_builds_69 : decode cX9_builds 69 = .ok (.aload_n 0, 1) := by decide +kernel
theorem dX9_builds_70 : decode cX9_builds 70 = .ok (.getfield 354, 3) := by decide +kernel
theorem dX9_builds_73 : decode cX9_builds 73 = .ok (.if_icmp .ge 178, 3) := by decide +kernel
theorem dX9_builds_76 : decode cX9_builds 76 = .ok (.aload_n 0, 1) := by decide +kernel
theorem dX9_builds_77 : decode cX9_builds 77 = .ok (.getfield 357, 3) := by decide +kernel
theorem dX9_builds_80 : decode cX9_builds 80 = .ok (.ifCond .ne 171, 3) := by decide +kernel
theorem dX9_builds_83 : decode cX9_builds 83 = .ok (.iconst 0, 1) := by decide +kernel
theorem dX9_builds_84 : decode cX9_builds 84 = .ok (.istore_n 3, 1) := by decide +kernel
theorem dX9_builds_85 : decode cX9_builds 85 = .ok (.iload_n 3, 1) := by decide +kernel
theorem dX9_builds_86 : decode cX9_builds 86 = .ok (.bipush 8, 2) := by decide +kernel
theorem dX9_builds_88 : decode cX9_builds 88 = .ok (.if_icmp .ge 21, 3) := by decide +kernel
theorem dX9_builds_91 : decode cX9_builds 91 = .ok (.aload_n 0, 1) := by decide +kernel
theorem dX9_builds_92 : decode cX9_builds 92 = .ok (.getfield 63, 3) := by decide +kernel
theorem dX9_builds_95 : decode cX9_builds 95 = .ok (.bipush 8, 2) := by decide +kernel
theorem dX9_builds_97 : decode cX9_builds 97 = .ok (.iload_n 2, 1) := by decide +kernel
theorem dX9_builds_98 : decode cX9_builds 98 = .ok (.imul, 1) := by decide +kernel
theorem dX9_builds_99 : decode cX9_builds 99 = .ok (.iload_n 3, 1) := by decide +kernel
theorem dX9_builds_100 : decode cX9_builds 100 = .ok (.iadd, 1) := by decide +kernel
theorem dX9_builds_101 : decode cX9_builds 101 = .ok (.iconst (-1), 1) := by decide +kernel
theorem dX9_builds_102 : decode cX9_builds 102 = .ok (.iastore, 1) := by decide +kernel
theorem dX9_builds_103 : decode cX9_builds 103 = .ok (.iinc 3 1, 3) := by decide +kernel
theorem dX9_builds_106 : decode cX9_builds 106 = .ok (.goto (-21), 3) := by decide +kernel
theorem dX9_builds_109 : decode cX9_builds 109 = .ok (.iconst 0, 1) := by decide +kernel
theorem dX9_builds_110 : decode cX9_builds 110 = .ok (.istore_n 3, 1) := by decide +kernel
theorem dX9_builds_111 : decode cX9_builds 111 = .ok (.iload_n 3, 1) := by decide +kernel
theorem dX9_builds_112 : decode cX9_builds 112 = .ok (.aload_n 0, 1) := by decide +kernel
theorem dX9_builds_113 : decode cX9_builds 113 = .ok (.getfield 298, 3) := by decide +kernel
theorem dX9_builds_116 : decode cX9_builds 116 = .ok (.if_icmp .ge 129, 3) := by decide +kernel
theorem dX9_builds_119 : decode cX9_builds 119 = .ok (.aload_n 0, 1) := by decide +kernel
theorem dX9_builds_120 : decode cX9_builds 120 = .ok (.getfield 357, 3) := by decide +kernel
theorem dX9_builds_123 : decode cX9_builds 123 = .ok (.ifCond .ne 122, 3) := by decide +kernel
theorem dX9_builds_126 : decode cX9_builds 126 = .ok (.aload_n 0, 1) := by decide +kernel
theorem dX9_builds_127 : decode cX9_builds 127 = .ok (.iload_n 2, 1) := by decide +kernel
theorem dX9_builds_128 : decode cX9_builds 128 = .ok (.iload_n 3, 1) := by decide +kernel
theorem dX9_builds_129 : decode cX9_builds 129 = .ok (.invokevirtual 363, 3) := by decide +kernel
theorem dX9_builds_132 : decode cX9_builds 132 = .ok (.ifCond .ne 6, 3) := by decide +kernel
theorem dX9_builds_135 : decode cX9_builds 135 = .ok (.goto 104, 3) := by decide +kernel
theorem dX9_builds_138 : decode cX9_builds 138 = .ok (.aload_n 0, 1) := by decide +kernel
theorem dX9_builds_139 : decode cX9_builds 139 = .ok (.getfield 342, 3) := by decide +kernel
theorem dX9_builds_142 : decode cX9_builds 142 = .ok (.ifCond .ne 16, 3) := by decide +kernel
theorem dX9_builds_145 : decode cX9_builds 145 = .ok (.aload_n 0, 1) := by decide +kernel
theorem dX9_builds_146 : decode cX9_builds 146 = .ok (.getfield 56, 3) := by decide +kernel
theorem dX9_builds_149 : decode cX9_builds 149 = .ok (.iload_n 2, 1) := by decide +kernel
theorem dX9_builds_150 : decode cX9_builds 150 = .ok (.iaload, 1) := by decide +kernel
theorem dX9_builds_151 : decode cX9_builds 151 = .ok (.iconst 1, 1) := by decide +kernel
theorem dX9_builds_152 : decode cX9_builds 152 = .ok (.iload_n 3, 1) := by decide +kernel
theorem dX9_builds_153 : decode cX9_builds 153 = .ok (.ishl, 1) := by decide +kernel
theorem dX9_builds_154 : decode cX9_builds 154 = .ok (.ior, 1) := by decide +kernel
theorem dX9_builds_155 : decode cX9_builds 155 = .ok (.goto 21, 3) := by decide +kernel
theorem dX9_builds_158 : decode cX9_builds 158 = .ok (.aload_n 0, 1) := by decide +kernel
theorem dX9_builds_159 : decode cX9_builds 159 = .ok (.getfield 342, 3) := by decide +kernel
theorem dX9_builds_162 : decode cX9_builds 162 = .ok (.iconst 1, 1) := by decide +kernel
theorem dX9_builds_163 : decode cX9_builds 163 = .ok (.if_icmp .ne 12, 3) := by decide +kernel
theorem dX9_builds_166 : decode cX9_builds 166 = .ok (.aload_n 0, 1) := by decide +kernel
theorem dX9_builds_167 : decode cX9_builds 167 = .ok (.getfield 50, 3) := by decide +kernel
theorem dX9_builds_170 : decode cX9_builds 170 = .ok (.iload_n 2, 1) := by decide +kernel
theorem dX9_builds_171 : decode cX9_builds 171 = .ok (.iaload, 1) := by decide +kernel
theorem dX9_builds_172 : decode cX9_builds 172 = .ok (.goto 4, 3) := by decide +kernel
theorem dX9_builds_175 : decode cX9_builds 175 = .ok (.iconst 0, 1) := by decide +kernel
theorem dX9_builds_176 : decode cX9_builds 176 = .ok (.istore 4, 2) := by decide +kernel
theorem dX9_builds_178 : decode cX9_builds 178 = .ok (.aload_n 0, 1) := by decide +kernel
theorem dX9_builds_179 : decode cX9_builds 179 = .ok (.getfield 63, 3) := by decide +kernel
theorem dX9_builds_182 : decode cX9_builds 182 = .ok (.bipush 8, 2) := by decide +kernel
theorem dX9_builds_184 : decode cX9_builds 184 = .ok (.iload_n 2, 1) := by decide +kernel
theorem dX9_builds_185 : decode cX9_builds 185 = .ok (.imul, 1) := by decide +kernel
theorem dX9_builds_186 : decode cX9_builds 186 = .ok (.iload_n 3, 1) := by decide +kernel
theorem dX9_builds_187 : decode cX9_builds 187 = .ok (.iadd, 1) := by decide +kernel
theorem dX9_builds_188 : decode cX9_builds 188 = .ok (.aload_n 0, 1) := by decide +kernel
theorem dX9_builds_189 : decode cX9_builds 189 = .ok (.iload_n 3, 1) := by decide +kernel
theorem dX9_builds_190 : decode cX9_builds 190 = .ok (.aload_n 0, 1) := by decide +kernel
theorem dX9_builds_191 : decode cX9_builds 191 = .ok (.getfield 53, 3) := by decide +kernel
theorem dX9_builds_194 : decode cX9_builds 194 = .ok (.iload_n 2, 1) := by decide +kernel
theorem dX9_builds_195 : decode cX9_builds 195 = .ok (.iaload, 1) := by decide +kernel
theorem dX9_builds_196 : decode cX9_builds 196 = .ok (.iconst 1, 1) := by decide +kernel
theorem dX9_builds_197 : decode cX9_builds 197 = .ok (.iadd, 1) := by decide +kernel
theorem dX9_builds_198 : decode cX9_builds 198 = .ok (.iload 4, 2) := by decide +kernel
theorem dX9_builds_200 : decode cX9_builds 200 = .ok (.aload_n 0, 1) := by decide +kernel
theorem dX9_builds_201 : decode cX9_builds 201 = .ok (.getfield 342, 3) := by decide +kernel
theorem dX9_builds_204 : decode cX9_builds 204 = .ok (.ifCond .eq 30, 3) := by decide +kernel
theorem dX9_builds_207 : decode cX9_builds 207 = .ok (.aload_n 0, 1) := by decide +kernel
theorem dX9_builds_208 : decode cX9_builds 208 = .ok (.getfield 307, 3) := by decide +kernel
theorem dX9_builds_211 : decode cX9_builds 211 = .ok (.ifCond .le 23, 3) := by decide +kernel
theorem dX9_builds_214 : decode cX9_builds 214 = .ok (.aload_n 0, 1) := by decide +kernel
theorem dX9_builds_215 : decode cX9_builds 215 = .ok (.getfield 59, 3) := by decide +kernel
theorem dX9_builds_218 : decode cX9_builds 218 = .ok (.iload_n 2, 1) := by decide +kernel
theorem dX9_builds_219 : decode cX9_builds 219 = .ok (.iaload, 1) := by decide +kernel
theorem dX9_builds_220 : decode cX9_builds 220 = .ok (.iconst 1, 1) := by decide +kernel
theorem dX9_builds_221 : decode cX9_builds 221 = .ok (.iconst 4, 1) := by decide +kernel
theorem dX9_builds_222 : decode cX9_builds 222 = .ok (.aload_n 0, 1) := by decide +kernel
theorem dX9_builds_223 : decode cX9_builds 223 = .ok (.getfield 50, 3) := by decide +kernel
theorem dX9_builds_226 : decode cX9_builds 226 = .ok (.iload_n 2, 1) := by decide +kernel
theorem dX9_builds_227 : decode cX9_builds 227 = .ok (.iaload, 1) := by decide +kernel
theorem dX9_builds_228 : decode cX9_builds 228 = .ok (.imul, 1) := by decide +kernel
theorem dX9_builds_229 : decode cX9_builds 229 = .ok (.ishl, 1) := by decide +kernel
theorem dX9_builds_230 : decode cX9_builds 230 = .ok (.iadd, 1) := by decide +kernel
theorem dX9_builds_231 : decode cX9_builds 231 = .ok (.goto 4, 3) := by decide +kernel
theorem dX9_builds_234 : decode cX9_builds 234 = .ok (.iconst 0, 1) := by decide +kernel
theorem dX9_builds_235 : decode cX9_builds 235 = .ok (.invokevirtual 360, 3) := by decide +kernel
theorem dX9_builds_238 : decode cX9_builds 238 = .ok (.iastore, 1) := by decide +kernel
theorem dX9_builds_239 : decode cX9_builds 239 = .ok (.iinc 3 1, 3) := by decide +kernel
theorem dX9_builds_242 : decode cX9_builds 242 = .ok (.goto (-131), 3) := by decide +kernel
theorem dX9_builds_245 : decode cX9_builds 245 = .ok (.iinc 2 1, 3) := by decide +kernel
theorem dX9_builds_248 : decode cX9_builds 248 = .ok (.goto (-180), 3) := by decide +kernel
theorem dX9_builds_251 : decode cX9_builds 251 = .ok (.aload_n 0, 1) := by decide +kernel
theorem dX9_builds_252 : decode cX9_builds 252 = .ok (.getfield 357, 3) := by decide +kernel
theorem dX9_builds_255 : decode cX9_builds 255 = .ok (.ifCond .ne 7, 3) := by decide +kernel
theorem dX9_builds_258 : decode cX9_builds 258 = .ok (.iconst 1, 1) := by decide +kernel
theorem dX9_builds_259 : decode cX9_builds 259 = .ok (.goto 4, 3) := by decide +kernel
theorem dX9_builds_262 : decode cX9_builds 262 = .ok (.iconst 0, 1) := by decide +kernel
theorem dX9_builds_263 : decode cX9_builds 263 = .ok (.ireturn, 1) := by decide +kernel
theorem dX9_pence_0 : decode cX9_pence 0 = .ok (.aload_n 0, 1) := by decide +kernel
theorem dX9_pence_1 : decode cX9_pence 1 = .ok (.getfield 7, 3) := by decide +kernel
theorem dX9_pence_4 : decode cX9_pence 4 = .ok (.aload_n 0, 1) := by decide +kernel
theorem dX9_pence_5 : decode cX9_pence 5 = .ok (.getfield 13, 3) := by decide +kernel
theorem dX9_pence_8 : decode cX9_pence 8 = .ok (.iload_n 1, 1) := by decide +kernel
theorem dX9_pence_9 : decode cX9_pence 9 = .ok (.iconst 1, 1) := by decide +kernel
theorem dX9_pence_10 : decode cX9_pence 10 = .ok (.isub, 1) := by decide +kernel
theorem dX9_pence_11 : decode cX9_pence 11 = .ok (.imul, 1) := by decide +kernel
theorem dX9_pence_12 : decode cX9_pence 12 = .ok (.iadd, 1) := by decide +kernel
theorem dX9_pence_13 : decode cX9_pence 13 = .ok (.ireturn, 1) := by decide +kernel
theorem dX9_isOpenedAt_0 : decode cX9_isOpenedAt 0 = .ok (.aload_n 0, 1) := by decide +kernel
theorem dX9_isOpenedAt_1 : decode cX9_isOpenedAt 1 = .ok (.iload_n 2, 1) := by decide +kernel
theorem dX9_isOpenedAt_2 : decode cX9_isOpenedAt 2 = .ok (.invokevirtual 367, 3) := by decide +kernel
theorem dX9_isOpenedAt_5 : decode cX9_isOpenedAt 5 = .ok (.aload_n 0, 1) := by decide +kernel
theorem dX9_isOpenedAt_6 : decode cX9_isOpenedAt 6 = .ok (.iload_n 2, 1) := by decide +kernel
theorem dX9_isOpenedAt_7 : decode cX9_isOpenedAt 7 = .ok (.invokevirtual 367, 3) := by decide +kernel
theorem dX9_isOpenedAt_10 : decode cX9_isOpenedAt 10 = .ok (.aload_n 0, 1) := by decide +kernel
theorem dX9_isOpenedAt_11 : decode cX9_isOpenedAt 11 = .ok (.getfield 19, 3) := by decide +kernel
theorem dX9_isOpenedAt_14 : decode cX9_isOpenedAt 14 = .ok (.irem, 1) := by decide +kernel
theorem dX9_isOpenedAt_15 : decode cX9_isOpenedAt 15 = .ok (.isub, 1) := by decide +kernel
theorem dX9_isOpenedAt_16 : decode cX9_isOpenedAt 16 = .ok (.aload_n 0, 1) := by decide +kernel
theorem dX9_isOpenedAt_17 : decode cX9_isOpenedAt 17 = .ok (.getfield 73, 3) := by decide +kernel
theorem dX9_isOpenedAt_20 : decode cX9_isOpenedAt 20 = .ok (.iload_n 1, 1) := by decide +kernel
theorem dX9_isOpenedAt_21 : decode cX9_isOpenedAt 21 = .ok (.iaload, 1) := by decide +kernel
theorem dX9_isOpenedAt_22 : decode cX9_isOpenedAt 22 = .ok (.if_icmp .lt 7, 3) := by decide +kernel
theorem dX9_isOpenedAt_25 : decode cX9_isOpenedAt 25 = .ok (.iconst 1, 1) := by decide +kernel
theorem dX9_isOpenedAt_26 : decode cX9_isOpenedAt 26 = .ok (.goto 4, 3) := by decide +kernel
theorem dX9_isOpenedAt_29 : decode cX9_isOpenedAt 29 = .ok (.iconst 0, 1) := by decide +kernel
theorem dX9_isOpenedAt_30 : decode cX9_isOpenedAt 30 = .ok (.ireturn, 1) := by decide +kernel
theorem dX9_weightsOf_0 : decode cX9_weightsOf 0 = .ok (.iconst 0, 1) := by decide +kernel
theorem dX9_weightsOf_1 : decode cX9_weightsOf 1 = .ok (.istore_n 2, 1) := by decide +kernel
theorem dX9_weightsOf_2 : decode cX9_weightsOf 2 = .ok (.iconst 0, 1) := by decide +kernel
theorem dX9_weightsOf_3 : decode cX9_weightsOf 3 = .ok (.istore_n 3, 1) := by decide +kernel
theorem dX9_weightsOf_4 : decode cX9_weightsOf 4 = .ok (.iload_n 3, 1) := by decide +kernel
theorem dX9_weightsOf_5 : decode cX9_weightsOf 5 = .ok (.aload_n 0, 1) := by decide +kernel
theorem dX9_weightsOf_6 : decode cX9_weightsOf 6 = .ok (.getfield 298, 3) := by decide +kernel
theorem dX9_weightsOf_9 : decode cX9_weightsOf 9 = .ok (.if_icmp .ge 43, 3) := by decide +kernel
theorem dX9_weightsOf_12 : decode cX9_weightsOf 12 = .ok (.aload_n 0, 1) := by decide +kernel
theorem dX9_weightsOf_13 : decode cX9_weightsOf 13 = .ok (.getfield 63, 3) := by decide +kernel
theorem dX9_weightsOf_16 : decode cX9_weightsOf 16 = .ok (.bipush 8, 2) := by decide +kernel
theorem dX9_weightsOf_18 : decode cX9_weightsOf 18 = .ok (.iload_n 1, 1) := by decide +kernel
theorem dX9_weightsOf_19 : decode cX9_weightsOf 19 = .ok (.imul, 1) := by decide +kernel
theorem dX9_weightsOf_20 : decode cX9_weightsOf 20 = .ok (.iload_n 3, 1) := by decide +kernel
theorem dX9_weightsOf_21 : decode cX9_weightsOf 21 = .ok (.iadd, 1) := by decide +kernel
theorem dX9_weightsOf_22 : decode cX9_weightsOf 22 = .ok (.iaload, 1) := by decide +kernel
theorem dX9_weightsOf_23 : decode cX9_weightsOf 23 = .ok (.iconst (-1), 1) := by decide +kernel
theorem dX9_weightsOf_24 : decode cX9_weightsOf 24 = .ok (.if_icmp .eq 22, 3) := by decide +kernel
theorem dX9_weightsOf_27 : decode cX9_weightsOf 27 = .ok (.iload_n 2, 1) := by decide +kernel
theorem dX9_weightsOf_28 : decode cX9_weightsOf 28 = .ok (.aload_n 0, 1) := by decide +kernel
theorem dX9_weightsOf_29 : decode cX9_weightsOf 29 = .ok (.getfield 29, 3) := by decide +kernel
theorem dX9_weightsOf_32 : decode cX9_weightsOf 32 = .ok (.bipush 8, 2) := by decide +kernel
theorem dX9_weightsOf_34 : decode cX9_weightsOf 34 = .ok (.aload_n 0, 1) := by decide +kernel
theorem dX9_weightsOf_35 : decode cX9_weightsOf 35 = .ok (.getfield 50, 3) := by decide +kernel
theorem dX9_weightsOf_38 : decode cX9_weightsOf 38 = .ok (.iload_n 1, 1) := by decide +kernel
theorem dX9_weightsOf_39 : decode cX9_weightsOf 39 = .ok (.iaload, 1) := by decide +kernel
theorem dX9_weightsOf_40 : decode cX9_weightsOf 40 = .ok (.imul, 1) := by decide +kernel
theorem dX9_weightsOf_41 : decode cX9_weightsOf 41 = .ok (.iload_n 3, 1) := by decide +kernel
theorem dX9_weightsOf_42 : decode cX9_weightsOf 42 = .ok (.iadd, 1) := by decide +kernel
theorem dX9_weightsOf_43 : decode cX9_weightsOf 43 = .ok (.iaload, 1) := by decide +kernel
theorem dX9_weightsOf_44 : decode cX9_weightsOf 44 = .ok (.iadd, 1) := by decide +kernel
theorem dX9_weightsOf_45 : decode cX9_weightsOf 45 = .ok (.istore_n 2, 1) := by decide +kernel
theorem dX9_weightsOf_46 : decode cX9_weightsOf 46 = .ok (.iinc 3 1, 3) := by decide +kernel
theorem dX9_weightsOf_49 : decode cX9_weightsOf 49 = .ok (.goto (-45), 3) := by decide +kernel
theorem dX9_weightsOf_52 : decode cX9_weightsOf 52 = .ok (.iload_n 2, 1) := by decide +kernel
theorem dX9_weightsOf_53 : decode cX9_weightsOf 53 = .ok (.ireturn, 1) := by decide +kernel
theorem dX9_paid_0 : decode cX9_paid 0 = .ok (.ldc2_w 370, 3) := by decide +kernel
theorem dX9_paid_3 : decode cX9_paid 3 = .ok (.aload_n 0, 1) := by decide +kernel
theorem dX9_paid_4 : decode cX9_paid 4 = .ok (.getfield 307, 3) := by decide +kernel
theorem dX9_paid_7 : decode cX9_paid 7 = .ok (.i2l, 1) := by decide +kernel
theorem dX9_paid_8 : decode cX9_paid 8 = .ok (.lmul, 1) := by decide +kernel
theorem dX9_paid_9 : decode cX9_paid 9 = .ok (.lload_n 1, 1) := by decide +kernel
theorem dX9_paid_10 : decode cX9_paid 10 = .ok (.lmul, 1) := by decide +kernel
theorem dX9_paid_11 : decode cX9_paid 11 = .ok (.ldc2_w 372, 3) := by decide +kernel
theorem dX9_paid_14 : decode cX9_paid 14 = .ok (.ldiv, 1) := by decide +kernel
theorem dX9_paid_15 : decode cX9_paid 15 = .ok (.lreturn, 1) := by decide +kernel
theorem dX9_bySending_0 : decode cX9_bySending 0 = .ok (.aload_n 0, 1) := by decide +kernel
theorem dX9_bySending_1 : decode cX9_bySending 1 = .ok (.getfield 63, 3) := by decide +kernel
theorem dX9_bySending_4 : decode cX9_bySending 4 = .ok (.bipush 8, 2) := by decide +kernel
theorem dX9_bySending_6 : decode cX9_bySending 6 = .ok (.iload_n 1, 1) := by decide +kernel
theorem dX9_bySending_7 : decode cX9_bySending 7 = .ok (.imul, 1) := by decide +kernel
theorem dX9_bySending_8 : decode cX9_bySending 8 = .ok (.iload_n 2, 1) := by decide +kernel
theorem dX9_bySending_9 : decode cX9_bySending 9 = .ok (.iadd, 1) := by decide +kernel
theorem dX9_bySending_10 : decode cX9_bySending 10 = .ok (.iaload, 1) := by decide +kernel
theorem dX9_bySending_11 : decode cX9_bySending 11 = .ok (.istore 4, 2) := by decide +kernel
theorem dX9_bySending_13 : decode cX9_bySending 13 = .ok (.aload_n 0, 1) := by decide +kernel
theorem dX9_bySending_14 : decode cX9_bySending 14 = .ok (.getfield 76, 3) := by decide +kernel
theorem dX9_bySending_17 : decode cX9_bySending 17 = .ok (.bipush 8, 2) := by decide +kernel
theorem dX9_bySending_19 : decode cX9_bySending 19 = .ok (.iload 4, 2) := by decide +kernel
theorem dX9_bySending_21 : decode cX9_bySending 21 = .ok (.imul, 1) := by decide +kernel
theorem dX9_bySending_22 : decode cX9_bySending 22 = .ok (.iload_n 3, 1) := by decide +kernel
theorem dX9_bySending_23 : decode cX9_bySending 23 = .ok (.iadd, 1) := by decide +kernel
theorem dX9_bySending_24 : decode cX9_bySending 24 = .ok (.laload, 1) := by decide +kernel
theorem dX9_bySending_25 : decode cX9_bySending 25 = .ok (.iload_n 3, 1) := by decide +kernel
theorem dX9_bySending_26 : decode cX9_bySending 26 = .ok (.aload_n 0, 1) := by decide +kernel
theorem dX9_bySending_27 : decode cX9_bySending 27 = .ok (.getfield 50, 3) := by decide +kernel
theorem dX9_bySending_30 : decode cX9_bySending 30 = .ok (.iload_n 1, 1) := by decide +kernel
theorem dX9_bySending_31 : decode cX9_bySending 31 = .ok (.iaload, 1) := by decide +kernel
theorem dX9_bySending_32 : decode cX9_bySending 32 = .ok (.if_icmp .ne 27, 3) := by decide +kernel
theorem dX9_bySending_35 : decode cX9_bySending 35 = .ok (.aload_n 0, 1) := by decide +kernel
theorem dX9_bySending_36 : decode cX9_bySending 36 = .ok (.aload_n 0, 1) := by decide +kernel
theorem dX9_bySending_37 : decode cX9_bySending 37 = .ok (.getfield 80, 3) := by decide +kernel
theorem dX9_bySending_40 : decode cX9_bySending 40 = .ok (.iload 4, 2) := by decide +kernel
theorem dX9_bySending_42 : decode cX9_bySending 42 = .ok (.laload, 1) := by decide +kernel
theorem dX9_bySending_43 : decode cX9_bySending 43 = .ok (.invokevirtual 374, 3) := by decide +kernel
theorem dX9_bySending_46 : decode cX9_bySending 46 = .ok (.ldc2_w 370, 3) := by decide +kernel
theorem dX9_bySending_49 : decode cX9_bySending 49 = .ok (.aload_n 0, 1) := by decide +kernel
theorem dX9_bySending_50 : decode cX9_bySending 50 = .ok (.getfield 13, 3) := by decide +kernel
theorem dX9_bySending_53 : decode cX9_bySending 53 = .ok (.i2l, 1) := by decide +kernel
theorem dX9_bySending_54 : decode cX9_bySending 54 = .ok (.lmul, 1) := by decide +kernel
theorem dX9_bySending_55 : decode cX9_bySending 55 = .ok (.lsub, 1) := by decide +kernel
theorem dX9_bySending_56 : decode cX9_bySending 56 = .ok (.goto 4, 3) := by decide +kernel
theorem dX9_bySending_59 : decode cX9_bySending 59 = .ok (.lconst 0, 1) := by decide +kernel
theorem dX9_bySending_60 : decode cX9_bySending 60 = .ok (.ladd, 1) := by decide +kernel
theorem dX9_bySending_61 : decode cX9_bySending 61 = .ok (.lreturn, 1) := by decide +kernel
theorem dX9_opens_0 : decode cX9_opens 0 = .ok (.iconst 0, 1) := by decide +kernel
theorem dX9_opens_1 : decode cX9_opens 1 = .ok (.istore_n 2, 1) := by decide +kernel
theorem dX9_opens_2 : decode cX9_opens 2 = .ok (.iload_n 2, 1) := by decide +kernel
theorem dX9_opens_3 : decode cX9_opens 3 = .ok (.aload_n 0, 1) := by decide +kernel
theorem dX9_opens_4 : decode cX9_opens 4 = .ok (.getfield 298, 3) := by decide +kernel
theorem dX9_opens_7 : decode cX9_opens 7 = .ok (.if_icmp .ge 71, 3) := by decide +kernel
theorem dX9_opens_10 : decode cX9_opens 10 = .ok (.aload_n 0, 1) := by decide +kernel
theorem dX9_opens_11 : decode cX9_opens 11 = .ok (.getfield 76, 3) := by decide +kernel
theorem dX9_opens_14 : decode cX9_opens 14 = .ok (.bipush 8, 2) := by decide +kernel
theorem dX9_opens_16 : decode cX9_opens 16 = .ok (.iload_n 1, 1) := by decide +kernel
theorem dX9_opens_17 : decode cX9_opens 17 = .ok (.imul, 1) := by decide +kernel
theorem dX9_opens_18 : decode cX9_opens 18 = .ok (.iload_n 2, 1) := by decide +kernel
theorem dX9_opens_19 : decode cX9_opens 19 = .ok (.iadd, 1) := by decide +kernel
theorem dX9_opens_20 : decode cX9_opens 20 = .ok (.iload_n 2, 1) := by decide +kernel
theorem dX9_opens_21 : decode cX9_opens 21 = .ok (.aload_n 0, 1) := by decide +kernel
theorem dX9_opens_22 : decode cX9_opens 22 = .ok (.getfield 50, 3) := by decide +kernel
theorem dX9_opens_25 : decode cX9_opens 25 = .ok (.iload_n 1, 1) := by decide +kernel
theorem dX9_opens_26 : decode cX9_opens 26 = .ok (.iaload, 1) := by decide +kernel
theorem dX9_opens_27 : decode cX9_opens 27 = .ok (.if_icmp .ne 43, 3) := by decide +kernel
theorem dX9_opens_30 : decode cX9_opens 30 = .ok (.ldc2_w 370, 3) := by decide +kernel
theorem dX9_opens_33 : decode cX9_opens 33 = .ok (.aload_n 0, 1) := by decide +kernel
theorem dX9_opens_34 : decode cX9_opens 34 = .ok (.aload_n 0, 1) := by decide +kernel
theorem dX9_opens_35 : decode cX9_opens 35 = .ok (.getfield 53, 3) := by decide +kernel
theorem dX9_opens_38 : decode cX9_opens 38 = .ok (.iload_n 1, 1) := by decide +kernel
theorem dX9_opens_39 : decode cX9_opens 39 = .ok (.iaload, 1) := by decide +kernel
theorem dX9_opens_40 : decode cX9_opens 40 = .ok (.invokevirtual 367, 3) := by decide +kernel
theorem dX9_opens_43 : decode cX9_opens 43 = .ok (.aload_n 0, 1) := by decide +kernel
theorem dX9_opens_44 : decode cX9_opens 44 = .ok (.getfield 53, 3) := by decide +kernel
theorem dX9_opens_47 : decode cX9_opens 47 = .ok (.iload_n 1, 1) := by decide +kernel
theorem dX9_opens_48 : decode cX9_opens 48 = .ok (.iaload, 1) := by decide +kernel
theorem dX9_opens_49 : decode cX9_opens 49 = .ok (.aload_n 0, 1) := by decide +kernel
theorem dX9_opens_50 : decode cX9_opens 50 = .ok (.getfield 16, 3) := by decide +kernel
theorem dX9_opens_53 : decode cX9_opens 53 = .ok (.if_icmp .ne 10, 3) := by decide +kernel
theorem dX9_opens_56 : decode cX9_opens 56 = .ok (.aload_n 0, 1) := by decide +kernel
theorem dX9_opens_57 : decode cX9_opens 57 = .ok (.getfield 304, 3) := by decide +kernel
theorem dX9_opens_60 : decode cX9_opens 60 = .ok (.goto 4, 3) := by decide +kernel
theorem dX9_opens_63 : decode cX9_opens 63 = .ok (.iconst 0, 1) := by decide +kernel
theorem dX9_opens_64 : decode cX9_opens 64 = .ok (.iadd, 1) := by decide +kernel
theorem dX9_opens_65 : decode cX9_opens 65 = .ok (.i2l, 1) := by decide +kernel
theorem dX9_opens_66 : decode cX9_opens 66 = .ok (.lmul, 1) := by decide +kernel
theorem dX9_opens_67 : decode cX9_opens 67 = .ok (.goto 4, 3) := by decide +kernel
theorem dX9_opens_70 : decode cX9_opens 70 = .ok (.lconst 0, 1) := by decide +kernel
theorem dX9_opens_71 : decode cX9_opens 71 = .ok (.lastore, 1) := by decide +kernel
theorem dX9_opens_72 : decode cX9_opens 72 = .ok (.iinc 2 1, 3) := by decide +kernel
theorem dX9_opens_75 : decode cX9_opens 75 = .ok (.goto (-73), 3) := by decide +kernel
theorem dX9_opens_78 : decode cX9_opens 78 = .ok (.aload_n 0, 1) := by decide +kernel
theorem dX9_opens_79 : decode cX9_opens 79 = .ok (.getfield 80, 3) := by decide +kernel
theorem dX9_opens_82 : decode cX9_opens 82 = .ok (.iload_n 1, 1) := by decide +kernel
theorem dX9_opens_83 : decode cX9_opens 83 = .ok (.aload_n 0, 1) := by decide +kernel
theorem dX9_opens_84 : decode cX9_opens 84 = .ok (.getfield 53, 3) := by decide +kernel
theorem dX9_opens_87 : decode cX9_opens 87 = .ok (.iload_n 1, 1) := by decide +kernel
theorem dX9_opens_88 : decode cX9_opens 88 = .ok (.iaload, 1) := by decide +kernel
theorem dX9_opens_89 : decode cX9_opens 89 = .ok (.aload_n 0, 1) := by decide +kernel
theorem dX9_opens_90 : decode cX9_opens 90 = .ok (.getfield 16, 3) := by decide +kernel
theorem dX9_opens_93 : decode cX9_opens 93 = .ok (.if_icmp .ne 9, 3) := by decide +kernel
theorem dX9_opens_96 : decode cX9_opens 96 = .ok (.ldc2_w 372, 3) := by decide +kernel
theorem dX9_opens_99 : decode cX9_opens 99 = .ok (.goto 4, 3) := by decide +kernel
theorem dX9_opens_102 : decode cX9_opens 102 = .ok (.lconst 0, 1) := by decide +kernel
theorem dX9_opens_103 : decode cX9_opens 103 = .ok (.lastore, 1) := by decide +kernel
theorem dX9_opens_104 : decode cX9_opens 104 = .ok (.return_, 1) := by decide +kernel
theorem dX9_sends_0 : decode cX9_sends 0 = .ok (.iconst 0, 1) := by decide +kernel
theorem dX9_sends_1 : decode cX9_sends 1 = .ok (.istore_n 3, 1) := by decide +kernel
theorem dX9_sends_2 : decode cX9_sends 2 = .ok (.iload_n 3, 1) := by decide +kernel
theorem dX9_sends_3 : decode cX9_sends 3 = .ok (.aload_n 0, 1) := by decide +kernel
theorem dX9_sends_4 : decode cX9_sends 4 = .ok (.getfield 298, 3) := by decide +kernel
theorem dX9_sends_7 : decode cX9_sends 7 = .ok (.if_icmp .ge 96, 3) := by decide +kernel
theorem dX9_sends_10 : decode cX9_sends 10 = .ok (.lconst 0, 1) := by decide +kernel
theorem dX9_sends_11 : decode cX9_sends 11 = .ok (.lstore 4, 2) := by decide +kernel
theorem dX9_sends_13 : decode cX9_sends 13 = .ok (.iconst 0, 1) := by decide +kernel
theorem dX9_sends_14 : decode cX9_sends 14 = .ok (.istore 6, 2) := by decide +kernel
theorem dX9_sends_16 : decode cX9_sends 16 = .ok (.iload 6, 2) := by decide +kernel
theorem dX9_sends_18 : decode cX9_sends 18 = .ok (.aload_n 0, 1) := by decide +kernel
theorem dX9_sends_19 : decode cX9_sends 19 = .ok (.getfield 298, 3) := by decide +kernel
theorem dX9_sends_22 : decode cX9_sends 22 = .ok (.if_icmp .ge 57, 3) := by decide +kernel
theorem dX9_sends_25 : decode cX9_sends 25 = .ok (.aload_n 0, 1) := by decide +kernel
theorem dX9_sends_26 : decode cX9_sends 26 = .ok (.getfield 63, 3) := by decide +kernel
theorem dX9_sends_29 : decode cX9_sends 29 = .ok (.bipush 8, 2) := by decide +kernel
theorem dX9_sends_31 : decode cX9_sends 31 = .ok (.iload_n 1, 1) := by decide +kernel
theorem dX9_sends_32 : decode cX9_sends 32 = .ok (.imul, 1) := by decide +kernel
theorem dX9_sends_33 : decode cX9_sends 33 = .ok (.iload 6, 2) := by decide +kernel
theorem dX9_sends_35 : decode cX9_sends 35 = .ok (.iadd, 1) := by decide +kernel
theorem dX9_sends_36 : decode cX9_sends 36 = .ok (.iaload, 1) := by decide +kernel
theorem dX9_sends_37 : decode cX9_sends 37 = .ok (.iconst (-1), 1) := by decide +kernel
theorem dX9_sends_38 : decode cX9_sends 38 = .ok (.if_icmp .eq 35, 3) := by decide +kernel
theorem dX9_sends_41 : decode cX9_sends 41 = .ok (.lload 4, 2) := by decide +kernel
theorem dX9_sends_43 : decode cX9_sends 43 = .ok (.aload_n 0, 1) := by decide +kernel
theorem dX9_sends_44 : decode cX9_sends 44 = .ok (.getfield 29, 3) := by decide +kernel
theorem dX9_sends_47 : decode cX9_sends 47 = .ok (.bipush 8, 2) := by decide +kernel
theorem dX9_sends_49 : decode cX9_sends 49 = .ok (.aload_n 0, 1) := by decide +kernel
theorem dX9_sends_50 : decode cX9_sends 50 = .ok (.getfield 50, 3) := by decide +kernel
theorem dX9_sends_53 : decode cX9_sends 53 = .ok (.iload_n 1, 1) := by decide +kernel
theorem dX9_sends_54 : decode cX9_sends 54 = .ok (.iaload, 1) := by decide +kernel
theorem dX9_sends_55 : decode cX9_sends 55 = .ok (.imul, 1) := by decide +kernel
theorem dX9_sends_56 : decode cX9_sends 56 = .ok (.iload 6, 2) := by decide +kernel
theorem dX9_sends_58 : decode cX9_sends 58 = .ok (.iadd, 1) := by decide +kernel
theorem dX9_sends_59 : decode cX9_sends 59 = .ok (.iaload, 1) := by decide +kernel
theorem dX9_sends_60 : decode cX9_sends 60 = .ok (.i2l, 1) := by decide +kernel
theorem dX9_sends_61 : decode cX9_sends 61 = .ok (.aload_n 0, 1) := by decide +kernel
theorem dX9_sends_62 : decode cX9_sends 62 = .ok (.iload_n 1, 1) := by decide +kernel
theorem dX9_sends_63 : decode cX9_sends 63 = .ok (.iload 6, 2) := by decide +kernel
theorem dX9_sends_65 : decode cX9_sends 65 = .ok (.iload_n 3, 1) := by decide +kernel
theorem dX9_sends_66 : decode cX9_sends 66 = .ok (.invokevirtual 378, 3) := by decide +kernel
theorem dX9_sends_69 : decode cX9_sends 69 = .ok (.lmul, 1) := by decide +kernel
theorem dX9_sends_70 : decode cX9_sends 70 = .ok (.ladd, 1) := by decide +kernel
theorem dX9_sends_71 : decode cX9_sends 71 = .ok (.lstore 4, 2) := by decide +kernel
theorem dX9_sends_73 : decode cX9_sends 73 = .ok (.iinc 6 1, 3) := by decide +kernel
theorem dX9_sends_76 : decode cX9_sends 76 = .ok (.goto (-60), 3) := by decide +kernel
theorem dX9_sends_79 : decode cX9_sends 79 = .ok (.aload_n 0, 1) := by decide +kernel
theorem dX9_sends_80 : decode cX9_sends 80 = .ok (.getfield 76, 3) := by decide +kernel
theorem dX9_sends_83 : decode cX9_sends 83 = .ok (.bipush 8, 2) := by decide +kernel
theorem dX9_sends_85 : decode cX9_sends 85 = .ok (.iload_n 1, 1) := by decide +kernel
theorem dX9_sends_86 : decode cX9_sends 86 = .ok (.imul, 1) := by decide +kernel
theorem dX9_sends_87 : decode cX9_sends 87 = .ok (.iload_n 3, 1) := by decide +kernel
theorem dX9_sends_88 : decode cX9_sends 88 = .ok (.iadd, 1) := by decide +kernel
theorem dX9_sends_89 : decode cX9_sends 89 = .ok (.lload 4, 2) := by decide +kernel
theorem dX9_sends_91 : decode cX9_sends 91 = .ok (.iload_n 2, 1) := by decide +kernel
theorem dX9_sends_92 : decode cX9_sends 92 = .ok (.i2l, 1) := by decide +kernel
theorem dX9_sends_93 : decode cX9_sends 93 = .ok (.invokestatic 382, 3) := by decide +kernel
theorem dX9_sends_96 : decode cX9_sends 96 = .ok (.lastore, 1) := by decide +kernel
theorem dX9_sends_97 : decode cX9_sends 97 = .ok (.iinc 3 1, 3) := by decide +kernel
theorem dX9_sends_100 : decode cX9_sends 100 = .ok (.goto (-98), 3) := by decide +kernel
theorem dX9_sends_103 : decode cX9_sends 103 = .ok (.lconst 0, 1) := by decide +kernel
theorem dX9_sends_104 : decode cX9_sends 104 = .ok (.lstore_n 3, 1) := by decide +kernel
theorem dX9_sends_105 : decode cX9_sends 105 = .ok (.iconst 0, 1) := by decide +kernel
theorem dX9_sends_106 : decode cX9_sends 106 = .ok (.istore 5, 2) := by decide +kernel
theorem dX9_sends_108 : decode cX9_sends 108 = .ok (.iload 5, 2) := by decide +kernel
theorem dX9_sends_110 : decode cX9_sends 110 = .ok (.aload_n 0, 1) := by decide +kernel
theorem dX9_sends_111 : decode cX9_sends 111 = .ok (.getfield 298, 3) := by decide +kernel
theorem dX9_sends_114 : decode cX9_sends 114 = .ok (.if_icmp .ge 64, 3) := by decide +kernel
theorem dX9_sends_117 : decode cX9_sends 117 = .ok (.aload_n 0, 1) := by decide +kernel
theorem dX9_sends_118 : decode cX9_sends 118 = .ok (.getfield 63, 3) := by decide +kernel
theorem dX9_sends_121 : decode cX9_sends 121 = .ok (.bipush 8, 2) := by decide +kernel
theorem dX9_sends_123 : decode cX9_sends 123 = .ok (.iload_n 1, 1) := by decide +kernel
theorem dX9_sends_124 : decode cX9_sends 124 = .ok (.imul, 1) := by decide +kernel
theorem dX9_sends_125 : decode cX9_sends 125 = .ok (.iload 5, 2) := by decide +kernel
theorem dX9_sends_127 : decode cX9_sends 127 = .ok (.iadd, 1) := by decide +kernel
theorem dX9_sends_128 : decode cX9_sends 128 = .ok (.iaload, 1) := by decide +kernel
theorem dX9_sends_129 : decode cX9_sends 129 = .ok (.iconst (-1), 1) := by decide +kernel
theorem dX9_sends_130 : decode cX9_sends 130 = .ok (.if_icmp .eq 42, 3) := by decide +kernel
theorem dX9_sends_133 : decode cX9_sends 133 = .ok (.lload_n 3, 1) := by decide +kernel
theorem dX9_sends_134 : decode cX9_sends 134 = .ok (.aload_n 0, 1) := by decide +kernel
theorem dX9_sends_135 : decode cX9_sends 135 = .ok (.getfield 29, 3) := by decide +kernel
theorem dX9_sends_138 : decode cX9_sends 138 = .ok (.bipush 8, 2) := by decide +kernel
theorem dX9_sends_140 : decode cX9_sends 140 = .ok (.aload_n 0, 1) := by decide +kernel
theorem dX9_sends_141 : decode cX9_sends 141 = .ok (.getfield 50, 3) := by decide +kernel
theorem dX9_sends_144 : decode cX9_sends 144 = .ok (.iload_n 1, 1) := by decide +kernel
theorem dX9_sends_145 : decode cX9_sends 145 = .ok (.iaload, 1) := by decide +kernel
theorem dX9_sends_146 : decode cX9_sends 146 = .ok (.imul, 1) := by decide +kernel
theorem dX9_sends_147 : decode cX9_sends 147 = .ok (.iload 5, 2) := by decide +kernel
theorem dX9_sends_149 : decode cX9_sends 149 = .ok (.iadd, 1) := by decide +kernel
theorem dX9_sends_150 : decode cX9_sends 150 = .ok (.iaload, 1) := by decide +kernel
theorem dX9_sends_151 : decode cX9_sends 151 = .ok (.i2l, 1) := by decide +kernel
theorem dX9_sends_152 : decode cX9_sends 152 = .ok (.aload_n 0, 1) := by decide +kernel
theorem dX9_sends_153 : decode cX9_sends 153 = .ok (.getfield 80, 3) := by decide +kernel
theorem dX9_sends_156 : decode cX9_sends 156 = .ok (.aload_n 0, 1) := by decide +kernel
theorem dX9_sends_157 : decode cX9_sends 157 = .ok (.getfield 63, 3) := by decide +kernel
theorem dX9_sends_160 : decode cX9_sends 160 = .ok (.bipush 8, 2) := by decide +kernel
theorem dX9_sends_162 : decode cX9_sends 162 = .ok (.iload_n 1, 1) := by decide +kernel
theorem dX9_sends_163 : decode cX9_sends 163 = .ok (.imul, 1) := by decide +kernel
theorem dX9_sends_164 : decode cX9_sends 164 = .ok (.iload 5, 2) := by decide +kernel
theorem dX9_sends_166 : decode cX9_sends 166 = .ok (.iadd, 1) := by decide +kernel
theorem dX9_sends_167 : decode cX9_sends 167 = .ok (.iaload, 1) := by decide +kernel
theorem dX9_sends_168 : decode cX9_sends 168 = .ok (.laload, 1) := by decide +kernel
theorem dX9_sends_169 : decode cX9_sends 169 = .ok (.lmul, 1) := by decide +kernel
theorem dX9_sends_170 : decode cX9_sends 170 = .ok (.ladd, 1) := by decide +kernel
theorem dX9_sends_171 : decode cX9_sends 171 = .ok (.lstore_n 3, 1) := by decide +kernel
theorem dX9_sends_172 : decode cX9_sends 172 = .ok (.iinc 5 1, 3) := by decide +kernel
theorem dX9_sends_175 : decode cX9_sends 175 = .ok (.goto (-67), 3) := by decide +kernel
theorem dX9_sends_178 : decode cX9_sends 178 = .ok (.aload_n 0, 1) := by decide +kernel
theorem dX9_sends_179 : decode cX9_sends 179 = .ok (.getfield 80, 3) := by decide +kernel
theorem dX9_sends_182 : decode cX9_sends 182 = .ok (.iload_n 1, 1) := by decide +kernel
theorem dX9_sends_183 : decode cX9_sends 183 = .ok (.lload_n 3, 1) := by decide +kernel
theorem dX9_sends_184 : decode cX9_sends 184 = .ok (.iload_n 2, 1) := by decide +kernel
theorem dX9_sends_185 : decode cX9_sends 185 = .ok (.i2l, 1) := by decide +kernel
theorem dX9_sends_186 : decode cX9_sends 186 = .ok (.ldiv, 1) := by decide +kernel
theorem dX9_sends_187 : decode cX9_sends 187 = .ok (.lastore, 1) := by decide +kernel
theorem dX9_sends_188 : decode cX9_sends 188 = .ok (.return_, 1) := by decide +kernel
theorem dX9_worth_0 : decode cX9_worth 0 = .ok (.aload_n 0, 1) := by decide +kernel
theorem dX9_worth_1 : decode cX9_worth 1 = .ok (.getfield 50, 3) := by decide +kernel
theorem dX9_worth_4 : decode cX9_worth 4 = .ok (.iload_n 1, 1) := by decide +kernel
theorem dX9_worth_5 : decode cX9_worth 5 = .ok (.iaload, 1) := by decide +kernel
theorem dX9_worth_6 : decode cX9_worth 6 = .ok (.istore_n 3, 1) := by decide +kernel
theorem dX9_worth_7 : decode cX9_worth 7 = .ok (.aload_n 0, 1) := by decide +kernel
theorem dX9_worth_8 : decode cX9_worth 8 = .ok (.getfield 342, 3) := by decide +kernel
theorem dX9_worth_11 : decode cX9_worth 11 = .ok (.ifCond .ne 7, 3) := by decide +kernel
theorem dX9_worth_14 : decode cX9_worth 14 = .ok (.iconst 0, 1) := by decide +kernel
theorem dX9_worth_15 : decode cX9_worth 15 = .ok (.goto 16, 3) := by decide +kernel
theorem dX9_worth_18 : decode cX9_worth 18 = .ok (.aload_n 0, 1) := by decide +kernel
theorem dX9_worth_19 : decode cX9_worth 19 = .ok (.getfield 59, 3) := by decide +kernel
theorem dX9_worth_22 : decode cX9_worth 22 = .ok (.iload_n 1, 1) := by decide +kernel
theorem dX9_worth_23 : decode cX9_worth 23 = .ok (.iaload, 1) := by decide +kernel
theorem dX9_worth_24 : decode cX9_worth 24 = .ok (.iconst 4, 1) := by decide +kernel
theorem dX9_worth_25 : decode cX9_worth 25 = .ok (.iload_n 3, 1) := by decide +kernel
theorem dX9_worth_26 : decode cX9_worth 26 = .ok (.imul, 1) := by decide +kernel
theorem dX9_worth_27 : decode cX9_worth 27 = .ok (.ishr, 1) := by decide +kernel
theorem dX9_worth_28 : decode cX9_worth 28 = .ok (.bipush 15, 2) := by decide +kernel
theorem dX9_worth_30 : decode cX9_worth 30 = .ok (.iand, 1) := by decide +kernel
theorem dX9_worth_31 : decode cX9_worth 31 = .ok (.istore 4, 2) := by decide +kernel
theorem dX9_worth_33 : decode cX9_worth 33 = .ok (.aload_n 0, 1) := by decide +kernel
theorem dX9_worth_34 : decode cX9_worth 34 = .ok (.iload_n 1, 1) := by decide +kernel
theorem dX9_worth_35 : decode cX9_worth 35 = .ok (.iload_n 2, 1) := by decide +kernel
theorem dX9_worth_36 : decode cX9_worth 36 = .ok (.iload_n 3, 1) := by decide +kernel
theorem dX9_worth_37 : decode cX9_worth 37 = .ok (.invokevirtual 378, 3) := by decide +kernel
theorem dX9_worth_40 : decode cX9_worth 40 = .ok (.iload 4, 2) := by decide +kernel
theorem dX9_worth_42 : decode cX9_worth 42 = .ok (.i2l, 1) := by decide +kernel
theorem dX9_worth_43 : decode cX9_worth 43 = .ok (.aload_n 0, 1) := by decide +kernel
theorem dX9_worth_44 : decode cX9_worth 44 = .ok (.aload_n 0, 1) := by decide +kernel
theorem dX9_worth_45 : decode cX9_worth 45 = .ok (.getfield 80, 3) := by decide +kernel
theorem dX9_worth_48 : decode cX9_worth 48 = .ok (.aload_n 0, 1) := by decide +kernel
theorem dX9_worth_49 : decode cX9_worth 49 = .ok (.getfield 63, 3) := by decide +kernel
theorem dX9_worth_52 : decode cX9_worth 52 = .ok (.bipush 8, 2) := by decide +kernel
theorem dX9_worth_54 : decode cX9_worth 54 = .ok (.iload_n 1, 1) := by decide +kernel
theorem dX9_worth_55 : decode cX9_worth 55 = .ok (.imul, 1) := by decide +kernel
theorem dX9_worth_56 : decode cX9_worth 56 = .ok (.iload_n 2, 1) := by decide +kernel
theorem dX9_worth_57 : decode cX9_worth 57 = .ok (.iadd, 1) := by decide +kernel
theorem dX9_worth_58 : decode cX9_worth 58 = .ok (.iaload, 1) := by decide +kernel
theorem dX9_worth_59 : decode cX9_worth 59 = .ok (.laload, 1) := by decide +kernel
theorem dX9_worth_60 : decode cX9_worth 60 = .ok (.invokevirtual 374, 3) := by decide +kernel
theorem dX9_worth_63 : decode cX9_worth 63 = .ok (.lmul, 1) := by decide +kernel
theorem dX9_worth_64 : decode cX9_worth 64 = .ok (.ladd, 1) := by decide +kernel
theorem dX9_worth_65 : decode cX9_worth 65 = .ok (.ldc2_w 370, 3) := by decide +kernel
theorem dX9_worth_68 : decode cX9_worth 68 = .ok (.aload_n 0, 1) := by decide +kernel
theorem dX9_worth_69 : decode cX9_worth 69 = .ok (.getfield 73, 3) := by decide +kernel
theorem dX9_worth_72 : decode cX9_worth 72 = .ok (.iload_n 3, 1) := by decide +kernel
theorem dX9_worth_73 : decode cX9_worth 73 = .ok (.iaload, 1) := by decide +kernel
theorem dX9_worth_74 : decode cX9_worth 74 = .ok (.i2l, 1) := by decide +kernel
theorem dX9_worth_75 : decode cX9_worth 75 = .ok (.lmul, 1) := by decide +kernel
theorem dX9_worth_76 : decode cX9_worth 76 = .ok (.ladd, 1) := by decide +kernel
theorem dX9_worth_77 : decode cX9_worth 77 = .ok (.lreturn, 1) := by decide +kernel
theorem dX9_reckons_0 : decode cX9_reckons 0 = .ok (.aload_n 0, 1) := by decide +kernel
theorem dX9_reckons_1 : decode cX9_reckons 1 = .ok (.getfield 50, 3) := by decide +kernel
theorem dX9_reckons_4 : decode cX9_reckons 4 = .ok (.iload_n 1, 1) := by decide +kernel
theorem dX9_reckons_5 : decode cX9_reckons 5 = .ok (.iaload, 1) := by decide +kernel
theorem dX9_reckons_6 : decode cX9_reckons 6 = .ok (.istore_n 2, 1) := by decide +kernel
theorem dX9_reckons_7 : decode cX9_reckons 7 = .ok (.aload_n 0, 1) := by decide +kernel
theorem dX9_reckons_8 : decode cX9_reckons 8 = .ok (.iload_n 1, 1) := by decide +kernel
theorem dX9_reckons_9 : decode cX9_reckons 9 = .ok (.invokevirtual 386, 3) := by decide +kernel
theorem dX9_reckons_12 : decode cX9_reckons 12 = .ok (.istore_n 3, 1) := by decide +kernel
theorem dX9_reckons_13 : decode cX9_reckons 13 = .ok (.aload_n 0, 1) := by decide +kernel
theorem dX9_reckons_14 : decode cX9_reckons 14 = .ok (.getfield 83, 3) := by decide +kernel
theorem dX9_reckons_17 : decode cX9_reckons 17 = .ok (.iload_n 1, 1) := by decide +kernel
theorem dX9_reckons_18 : decode cX9_reckons 18 = .ok (.iconst (-1), 1) := by decide +kernel
theorem dX9_reckons_19 : decode cX9_reckons 19 = .ok (.iastore, 1) := by decide +kernel
theorem dX9_reckons_20 : decode cX9_reckons 20 = .ok (.iload_n 3, 1) := by decide +kernel
theorem dX9_reckons_21 : decode cX9_reckons 21 = .ok (.ifCond .ne 11, 3) := by decide +kernel
theorem dX9_reckons_24 : decode cX9_reckons 24 = .ok (.aload_n 0, 1) := by decide +kernel
theorem dX9_reckons_25 : decode cX9_reckons 25 = .ok (.iload_n 1, 1) := by decide +kernel
theorem dX9_reckons_26 : decode cX9_reckons 26 = .ok (.invokevirtual 389, 3) := by decide +kernel
theorem dX9_reckons_29 : decode cX9_reckons 29 = .ok (.goto 356, 3) := by decide +kernel
theorem dX9_reckons_32 : decode cX9_reckons 32 = .ok (.aload_n 0, 1) := by decide +kernel
theorem dX9_reckons_33 : decode cX9_reckons 33 = .ok (.getfield 70, 3) := by decide +kernel
theorem dX9_reckons_36 : decode cX9_reckons 36 = .ok (.iload_n 2, 1) := by decide +kernel
theorem dX9_reckons_37 : decode cX9_reckons 37 = .ok (.iaload, 1) := by decide +kernel
theorem dX9_reckons_38 : decode cX9_reckons 38 = .ok (.iconst 3, 1) := by decide +kernel
theorem dX9_reckons_39 : decode cX9_reckons 39 = .ok (.if_icmp .ne 180, 3) := by decide +kernel
theorem dX9_reckons_42 : decode cX9_reckons 42 = .ok (.ldc2_w 370, 3) := by decide +kernel
theorem dX9_reckons_45 : decode cX9_reckons 45 = .ok (.aload_n 0, 1) := by decide +kernel
theorem dX9_reckons_46 : decode cX9_reckons 46 = .ok (.aload_n 0, 1) := by decide +kernel
theorem dX9_reckons_47 : decode cX9_reckons 47 = .ok (.getfield 53, 3) := by decide +kernel
theorem dX9_reckons_50 : decode cX9_reckons 50 = .ok (.iload_n 1, 1) := by decide +kernel
theorem dX9_reckons_51 : decode cX9_reckons 51 = .ok (.iaload, 1) := by decide +kernel
theorem dX9_reckons_52 : decode cX9_reckons 52 = .ok (.invokevirtual 367, 3) := by decide +kernel
theorem dX9_reckons_55 : decode cX9_reckons 55 = .ok (.i2l, 1) := by decide +kernel
theorem dX9_reckons_56 : decode cX9_reckons 56 = .ok (.lmul, 1) := by decide +kernel
theorem dX9_reckons_57 : decode cX9_reckons 57 = .ok (.lstore 4, 2) := by decide +kernel
theorem dX9_reckons_59 : decode cX9_reckons 59 = .ok (.iconst 0, 1) := by decide +kernel
theorem dX9_reckons_60 : decode cX9_reckons 60 = .ok (.istore 6, 2) := by decide +kernel
theorem dX9_reckons_62 : decode cX9_reckons 62 = .ok (.iload 6, 2) := by decide +kernel
theorem dX9_reckons_64 : decode cX9_reckons 64 = .ok (.aload_n 0, 1) := by decide +kernel
theorem dX9_reckons_65 : decode cX9_reckons 65 = .ok (.getfield 298, 3) := by decide +kernel
theorem dX9_reckons_68 : decode cX9_reckons 68 = .ok (.if_icmp .ge 58, 3) := by decide +kernel
theorem dX9_reckons_71 : decode cX9_reckons 71 = .ok (.aload_n 0, 1) := by decide +kernel
theorem dX9_reckons_72 : decode cX9_reckons 72 = .ok (.getfield 63, 3) := by decide +kernel
theorem dX9_reckons_75 : decode cX9_reckons 75 = .ok (.bipush 8, 2) := by decide +kernel
theorem dX9_reckons_77 : decode cX9_reckons 77 = .ok (.iload_n 1, 1) := by decide +kernel
theorem dX9_reckons_78 : decode cX9_reckons 78 = .ok (.imul, 1) := by decide +kernel
theorem dX9_reckons_79 : decode cX9_reckons 79 = .ok (.iload 6, 2) := by decide +kernel
theorem dX9_reckons_81 : decode cX9_reckons 81 = .ok (.iadd, 1) := by decide +kernel
theorem dX9_reckons_82 : decode cX9_reckons 82 = .ok (.iaload, 1) := by decide +kernel
theorem dX9_reckons_83 : decode cX9_reckons 83 = .ok (.iconst (-1), 1) := by decide +kernel
theorem dX9_reckons_84 : decode cX9_reckons 84 = .ok (.if_icmp .eq 36, 3) := by decide +kernel
theorem dX9_reckons_87 : decode cX9_reckons 87 = .ok (.aload_n 0, 1) := by decide +kernel
theorem dX9_reckons_88 : decode cX9_reckons 88 = .ok (.iload_n 1, 1) := by decide +kernel
theorem dX9_reckons_89 : decode cX9_reckons 89 = .ok (.iload 6, 2) := by decide +kernel
theorem dX9_reckons_91 : decode cX9_reckons 91 = .ok (.invokevirtual 392, 3) := by decide +kernel
theorem dX9_reckons_94 : decode cX9_reckons 94 = .ok (.lload 4, 2) := by decide +kernel
theorem dX9_reckons_96 : decode cX9_reckons 96 = .ok (.lcmp, 1) := by decide +kernel
theorem dX9_reckons_97 : decode cX9_reckons 97 = .ok (.ifCond .gt 6, 3) := by decide +kernel
theorem dX9_reckons_100 : decode cX9_reckons 100 = .ok (.goto 20, 3) := by decide +kernel
theorem dX9_reckons_103 : decode cX9_reckons 103 = .ok (.aload_n 0, 1) := by decide +kernel
theorem dX9_reckons_104 : decode cX9_reckons 104 = .ok (.iload_n 1, 1) := by decide +kernel
theorem dX9_reckons_105 : decode cX9_reckons 105 = .ok (.iload 6, 2) := by decide +kernel
theorem dX9_reckons_107 : decode cX9_reckons 107 = .ok (.invokevirtual 392, 3) := by decide +kernel
theorem dX9_reckons_110 : decode cX9_reckons 110 = .ok (.lstore 4, 2) := by decide +kernel
theorem dX9_reckons_112 : decode cX9_reckons 112 = .ok (.aload_n 0, 1) := by decide +kernel
theorem dX9_reckons_113 : decode cX9_reckons 113 = .ok (.getfield 83, 3) := by decide +kernel
theorem dX9_reckons_116 : decode cX9_reckons 116 = .ok (.iload_n 1, 1) := by decide +kernel
theorem dX9_reckons_117 : decode cX9_reckons 117 = .ok (.iload 6, 2) := by decide +kernel
theorem dX9_reckons_119 : decode cX9_reckons 119 = .ok (.iastore, 1) := by decide +kernel
theorem dX9_reckons_120 : decode cX9_reckons 120 = .ok (.iinc 6 1, 3) := by decide +kernel
theorem dX9_reckons_123 : decode cX9_reckons 123 = .ok (.goto (-61), 3) := by decide +kernel
theorem dX9_reckons_126 : decode cX9_reckons 126 = .ok (.aload_n 0, 1) := by decide +kernel
theorem dX9_reckons_127 : decode cX9_reckons 127 = .ok (.iload_n 1, 1) := by decide +kernel
theorem dX9_reckons_128 : decode cX9_reckons 128 = .ok (.invokevirtual 389, 3) := by decide +kernel
theorem dX9_reckons_131 : decode cX9_reckons 131 = .ok (.aload_n 0, 1) := by decide +kernel
theorem dX9_reckons_132 : decode cX9_reckons 132 = .ok (.getfield 83, 3) := by decide +kernel
theorem dX9_reckons_135 : decode cX9_reckons 135 = .ok (.iload_n 1, 1) := by decide +kernel
theorem dX9_reckons_136 : decode cX9_reckons 136 = .ok (.iaload, 1) := by decide +kernel
theorem dX9_reckons_137 : decode cX9_reckons 137 = .ok (.iconst (-1), 1) := by decide +kernel
theorem dX9_reckons_138 : decode cX9_reckons 138 = .ok (.if_icmp .ne 4, 3) := by decide +kernel
theorem dX9_reckons_141 : decode cX9_reckons 141 = .ok (.return_, 1) := by decide +kernel
theorem dX9_reckons_142 : decode cX9_reckons 142 = .ok (.aload_n 0, 1) := by decide +kernel
theorem dX9_reckons_143 : decode cX9_reckons 143 = .ok (.getfield 63, 3) := by decide +kernel
theorem dX9_reckons_146 : decode cX9_reckons 146 = .ok (.bipush 8, 2) := by decide +kernel
theorem dX9_reckons_148 : decode cX9_reckons 148 = .ok (.iload_n 1, 1) := by decide +kernel
theorem dX9_reckons_149 : decode cX9_reckons 149 = .ok (.imul, 1) := by decide +kernel
theorem dX9_reckons_150 : decode cX9_reckons 150 = .ok (.aload_n 0, 1) := by decide +kernel
theorem dX9_reckons_151 : decode cX9_reckons 151 = .ok (.getfield 83, 3) := by decide +kernel
theorem dX9_reckons_154 : decode cX9_reckons 154 = .ok (.iload_n 1, 1) := by decide +kernel
theorem dX9_reckons_155 : decode cX9_reckons 155 = .ok (.iaload, 1) := by decide +kernel
theorem dX9_reckons_156 : decode cX9_reckons 156 = .ok (.iadd, 1) := by decide +kernel
theorem dX9_reckons_157 : decode cX9_reckons 157 = .ok (.iaload, 1) := by decide +kernel
theorem dX9_reckons_158 : decode cX9_reckons 158 = .ok (.istore 6, 2) := by decide +kernel
theorem dX9_reckons_160 : decode cX9_reckons 160 = .ok (.iconst 0, 1) := by decide +kernel
theorem dX9_reckons_161 : decode cX9_reckons 161 = .ok (.istore 7, 2) := by decide +kernel
theorem dX9_reckons_163 : decode cX9_reckons 163 = .ok (.iload 7, 2) := by decide +kernel
theorem dX9_reckons_165 : decode cX9_reckons 165 = .ok (.aload_n 0, 1) := by decide +kernel
theorem dX9_reckons_166 : decode cX9_reckons 166 = .ok (.getfield 298, 3) := by decide +kernel
theorem dX9_reckons_169 : decode cX9_reckons 169 = .ok (.if_icmp .ge 34, 3) := by decide +kernel
theorem dX9_reckons_172 : decode cX9_reckons 172 = .ok (.aload_n 0, 1) := by decide +kernel
theorem dX9_reckons_173 : decode cX9_reckons 173 = .ok (.getfield 76, 3) := by decide +kernel
theorem dX9_reckons_176 : decode cX9_reckons 176 = .ok (.bipush 8, 2) := by decide +kernel
theorem dX9_reckons_178 : decode cX9_reckons 178 = .ok (.iload_n 1, 1) := by decide +kernel
theorem dX9_reckons_179 : decode cX9_reckons 179 = .ok (.imul, 1) := by decide +kernel
theorem dX9_reckons_180 : decode cX9_reckons 180 = .ok (.iload 7, 2) := by decide +kernel
theorem dX9_reckons_182 : decode cX9_reckons 182 = .ok (.iadd, 1) := by decide +kernel
theorem dX9_reckons_183 : decode cX9_reckons 183 = .ok (.aload_n 0, 1) := by decide +kernel
theorem dX9_reckons_184 : decode cX9_reckons 184 = .ok (.iload_n 1, 1) := by decide +kernel
theorem dX9_reckons_185 : decode cX9_reckons 185 = .ok (.aload_n 0, 1) := by decide +kernel
theorem dX9_reckons_186 : decode cX9_reckons 186 = .ok (.getfield 83, 3) := by decide +kernel
theorem dX9_reckons_189 : decode cX9_reckons 189 = .ok (.iload_n 1, 1) := by decide +kernel
theorem dX9_reckons_190 : decode cX9_reckons 190 = .ok (.iaload, 1) := by decide +kernel
theorem dX9_reckons_191 : decode cX9_reckons 191 = .ok (.iload 7, 2) := by decide +kernel
theorem dX9_reckons_193 : decode cX9_reckons 193 = .ok (.invokevirtual 378, 3) := by decide +kernel
theorem dX9_reckons_196 : decode cX9_reckons 196 = .ok (.lastore, 1) := by decide +kernel
theorem dX9_reckons_197 : decode cX9_reckons 197 = .ok (.iinc 7 1, 3) := by decide +kernel
theorem dX9_reckons_200 : decode cX9_reckons 200 = .ok (.goto (-37), 3) := by decide +kernel
theorem dX9_reckons_203 : decode cX9_reckons 203 = .ok (.aload_n 0, 1) := by decide +kernel
theorem dX9_reckons_204 : decode cX9_reckons 204 = .ok (.getfield 80, 3) := by decide +kernel
theorem dX9_reckons_207 : decode cX9_reckons 207 = .ok (.iload_n 1, 1) := by decide +kernel
theorem dX9_reckons_208 : decode cX9_reckons 208 = .ok (.aload_n 0, 1) := by decide +kernel
theorem dX9_reckons_209 : decode cX9_reckons 209 = .ok (.getfield 80, 3) := by decide +kernel
theorem dX9_reckons_212 : decode cX9_reckons 212 = .ok (.iload 6, 2) := by decide +kernel
theorem dX9_reckons_214 : decode cX9_reckons 214 = .ok (.laload, 1) := by decide +kernel
theorem dX9_reckons_215 : decode cX9_reckons 215 = .ok (.lastore, 1) := by decide +kernel
theorem dX9_reckons_216 : decode cX9_reckons 216 = .ok (.goto 169, 3) := by decide +kernel
theorem dX9_reckons_219 : decode cX9_reckons 219 = .ok (.aload_n 0, 1) := by decide +kernel
theorem dX9_reckons_220 : decode cX9_reckons 220 = .ok (.getfield 70, 3) := by decide +kernel
theorem dX9_reckons_223 : decode cX9_reckons 223 = .ok (.iload_n 2, 1) := by decide +kernel
theorem dX9_reckons_224 : decode cX9_reckons 224 = .ok (.iaload, 1) := by decide +kernel
theorem dX9_reckons_225 : decode cX9_reckons 225 = .ok (.ifCond .ne 25, 3) := by decide +kernel
theorem dX9_reckons_228 : decode cX9_reckons 228 = .ok (.aload_n 0, 1) := by decide +kernel
theorem dX9_reckons_229 : decode cX9_reckons 229 = .ok (.iload_n 2, 1) := by decide +kernel
theorem dX9_reckons_230 : decode cX9_reckons 230 = .ok (.aload_n 0, 1) := by decide +kernel
theorem dX9_reckons_231 : decode cX9_reckons 231 = .ok (.getfield 53, 3) := by decide +kernel
theorem dX9_reckons_234 : decode cX9_reckons 234 = .ok (.iload_n 1, 1) := by decide +kernel
theorem dX9_reckons_235 : decode cX9_reckons 235 = .ok (.iaload, 1) := by decide +kernel
theorem dX9_reckons_236 : decode cX9_reckons 236 = .ok (.invokevirtual 396, 3) := by decide +kernel
theorem dX9_reckons_239 : decode cX9_reckons 239 = .ok (.ifCond .eq 11, 3) := by decide +kernel
theorem dX9_reckons_242 : decode cX9_reckons 242 = .ok (.aload_n 0, 1) := by decide +kernel
theorem dX9_reckons_243 : decode cX9_reckons 243 = .ok (.iload_n 1, 1) := by decide +kernel
theorem dX9_reckons_244 : decode cX9_reckons 244 = .ok (.invokevirtual 389, 3) := by decide +kernel
theorem dX9_reckons_247 : decode cX9_reckons 247 = .ok (.goto 138, 3) := by decide +kernel
theorem dX9_reckons_250 : decode cX9_reckons 250 = .ok (.aload_n 0, 1) := by decide +kernel
theorem dX9_reckons_251 : decode cX9_reckons 251 = .ok (.iload_n 1, 1) := by decide +kernel
theorem dX9_reckons_252 : decode cX9_reckons 252 = .ok (.iload_n 3, 1) := by decide +kernel
theorem dX9_reckons_253 : decode cX9_reckons 253 = .ok (.invokevirtual 399, 3) := by decide +kernel
theorem dX9_reckons_256 : decode cX9_reckons 256 = .ok (.aload_n 0, 1) := by decide +kernel
theorem dX9_reckons_257 : decode cX9_reckons 257 = .ok (.getfield 70, 3) := by decide +kernel
theorem dX9_reckons_260 : decode cX9_reckons 260 = .ok (.iload_n 2, 1) := by decide +kernel
theorem dX9_reckons_261 : decode cX9_reckons 261 = .ok (.iaload, 1) := by decide +kernel
theorem dX9_reckons_262 : decode cX9_reckons 262 = .ok (.iconst 2, 1) := by decide +kernel
theorem dX9_reckons_263 : decode cX9_reckons 263 = .ok (.if_icmp .eq 4, 3) := by decide +kernel
theorem dX9_reckons_266 : decode cX9_reckons 266 = .ok (.return_, 1) := by decide +kernel
theorem dX9_reckons_267 : decode cX9_reckons 267 = .ok (.aload_n 0, 1) := by decide +kernel
theorem dX9_reckons_268 : decode cX9_reckons 268 = .ok (.getfield 73, 3) := by decide +kernel
theorem dX9_reckons_271 : decode cX9_reckons 271 = .ok (.iload_n 2, 1) := by decide +kernel
theorem dX9_reckons_272 : decode cX9_reckons 272 = .ok (.iaload, 1) := by decide +kernel
theorem dX9_reckons_273 : decode cX9_reckons 273 = .ok (.istore 4, 2) := by decide +kernel
theorem dX9_reckons_275 : decode cX9_reckons 275 = .ok (.iconst 0, 1) := by decide +kernel
theorem dX9_reckons_276 : decode cX9_reckons 276 = .ok (.istore 5, 2) := by decide +kernel
theorem dX9_reckons_278 : decode cX9_reckons 278 = .ok (.iload 5, 2) := by decide +kernel
theorem dX9_reckons_280 : decode cX9_reckons 280 = .ok (.aload_n 0, 1) := by decide +kernel
theorem dX9_reckons_281 : decode cX9_reckons 281 = .ok (.getfield 298, 3) := by decide +kernel
theorem dX9_reckons_284 : decode cX9_reckons 284 = .ok (.if_icmp .ge 77, 3) := by decide +kernel
theorem dX9_reckons_287 : decode cX9_reckons 287 = .ok (.aload_n 0, 1) := by decide +kernel
theorem dX9_reckons_288 : decode cX9_reckons 288 = .ok (.getfield 76, 3) := by decide +kernel
theorem dX9_reckons_291 : decode cX9_reckons 291 = .ok (.bipush 8, 2) := by decide +kernel
theorem dX9_reckons_293 : decode cX9_reckons 293 = .ok (.iload_n 1, 1) := by decide +kernel
theorem dX9_reckons_294 : decode cX9_reckons 294 = .ok (.imul, 1) := by decide +kernel
theorem dX9_reckons_295 : decode cX9_reckons 295 = .ok (.iload 5, 2) := by decide +kernel
theorem dX9_reckons_297 : decode cX9_reckons 297 = .ok (.iadd, 1) := by decide +kernel
theorem dX9_reckons_298 : decode cX9_reckons 298 = .ok (.sipush 1000, 3) := by decide +kernel
theorem dX9_reckons_301 : decode cX9_reckons 301 = .ok (.iload 4, 2) := by decide +kernel
theorem dX9_reckons_303 : decode cX9_reckons 303 = .ok (.isub, 1) := by decide +kernel
theorem dX9_reckons_304 : decode cX9_reckons 304 = .ok (.i2l, 1) := by decide +kernel
theorem dX9_reckons_305 : decode cX9_reckons 305 = .ok (.aload_n 0, 1) := by decide +kernel
theorem dX9_reckons_306 : decode cX9_reckons 306 = .ok (.getfield 76, 3) := by decide +kernel
theorem dX9_reckons_309 : decode cX9_reckons 309 = .ok (.bipush 8, 2) := by decide +kernel
theorem dX9_reckons_311 : decode cX9_reckons 311 = .ok (.iload_n 1, 1) := by decide +kernel
theorem dX9_reckons_312 : decode cX9_reckons 312 = .ok (.imul, 1) := by decide +kernel
theorem dX9_reckons_313 : decode cX9_reckons 313 = .ok (.iload 5, 2) := by decide +kernel
theorem dX9_reckons_315 : decode cX9_reckons 315 = .ok (.iadd, 1) := by decide +kernel
theorem dX9_reckons_316 : decode cX9_reckons 316 = .ok (.laload, 1) := by decide +kernel
theorem dX9_reckons_317 : decode cX9_reckons 317 = .ok (.lmul, 1) := by decide +kernel
theorem dX9_reckons_318 : decode cX9_reckons 318 = .ok (.iload 5, 2) := by decide +kernel
theorem dX9_reckons_320 : decode cX9_reckons 320 = .ok (.iload_n 2, 1) := by decide +kernel
theorem dX9_reckons_321 : decode cX9_reckons 321 = .ok (.if_icmp .ne 25, 3) := by decide +kernel
theorem dX9_reckons_324 : decode cX9_reckons 324 = .ok (.iload 4, 2) := by decide +kernel
theorem dX9_reckons_326 : decode cX9_reckons 326 = .ok (.i2l, 1) := by decide +kernel
theorem dX9_reckons_327 : decode cX9_reckons 327 = .ok (.ldc2_w 370, 3) := by decide +kernel
theorem dX9_reckons_330 : decode cX9_reckons 330 = .ok (.lmul, 1) := by decide +kernel
theorem dX9_reckons_331 : decode cX9_reckons 331 = .ok (.aload_n 0, 1) := by decide +kernel
theorem dX9_reckons_332 : decode cX9_reckons 332 = .ok (.aload_n 0, 1) := by decide +kernel
theorem dX9_reckons_333 : decode cX9_reckons 333 = .ok (.getfield 53, 3) := by decide +kernel
theorem dX9_reckons_336 : decode cX9_reckons 336 = .ok (.iload_n 1, 1) := by decide +kernel
theorem dX9_reckons_337 : decode cX9_reckons 337 = .ok (.iaload, 1) := by decide +kernel
theorem dX9_reckons_338 : decode cX9_reckons 338 = .ok (.invokevirtual 367, 3) := by decide +kernel
theorem dX9_reckons_341 : decode cX9_reckons 341 = .ok (.i2l, 1) := by decide +kernel
theorem dX9_reckons_342 : decode cX9_reckons 342 = .ok (.lmul, 1) := by decide +kernel
theorem dX9_reckons_343 : decode cX9_reckons 343 = .ok (.goto 4, 3) := by decide +kernel
theorem dX9_reckons_346 : decode cX9_reckons 346 = .ok (.lconst 0, 1) := by decide +kernel
theorem dX9_reckons_347 : decode cX9_reckons 347 = .ok (.ladd, 1) := by decide +kernel
theorem dX9_reckons_348 : decode cX9_reckons 348 = .ok (.ldc2_w 370, 3) := by decide +kernel
theorem dX9_reckons_351 : decode cX9_reckons 351 = .ok (.invokestatic 382, 3) := by decide +kernel
theorem dX9_reckons_354 : decode cX9_reckons 354 = .ok (.lastore, 1) := by decide +kernel
theorem dX9_reckons_355 : decode cX9_reckons 355 = .ok (.iinc 5 1, 3) := by decide +kernel
theorem dX9_reckons_358 : decode cX9_reckons 358 = .ok (.goto (-80), 3) := by decide +kernel
theorem dX9_reckons_361 : decode cX9_reckons 361 = .ok (.aload_n 0, 1) := by decide +kernel
theorem dX9_reckons_362 : decode cX9_reckons 362 = .ok (.getfield 80, 3) := by decide +kernel
theorem dX9_reckons_365 : decode cX9_reckons 365 = .ok (.iload_n 1, 1) := by decide +kernel
theorem dX9_reckons_366 : decode cX9_reckons 366 = .ok (.sipush 1000, 3) := by decide +kernel
theorem dX9_reckons_369 : decode cX9_reckons 369 = .ok (.iload 4, 2) := by decide +kernel
theorem dX9_reckons_371 : decode cX9_reckons 371 = .ok (.isub, 1) := by decide +kernel
theorem dX9_reckons_372 : decode cX9_reckons 372 = .ok (.i2l, 1) := by decide +kernel
theorem dX9_reckons_373 : decode cX9_reckons 373 = .ok (.aload_n 0, 1) := by decide +kernel
theorem dX9_reckons_374 : decode cX9_reckons 374 = .ok (.getfield 80, 3) := by decide +kernel
theorem dX9_reckons_377 : decode cX9_reckons 377 = .ok (.iload_n 1, 1) := by decide +kernel
theorem dX9_reckons_378 : decode cX9_reckons 378 = .ok (.laload, 1) := by decide +kernel
theorem dX9_reckons_379 : decode cX9_reckons 379 = .ok (.lmul, 1) := by decide +kernel
theorem dX9_reckons_380 : decode cX9_reckons 380 = .ok (.ldc2_w 370, 3) := by decide +kernel
theorem dX9_reckons_383 : decode cX9_reckons 383 = .ok (.ldiv, 1) := by decide +kernel
theorem dX9_reckons_384 : decode cX9_reckons 384 = .ok (.lastore, 1) := by decide +kernel
theorem dX9_reckons_385 : decode cX9_reckons 385 = .ok (.return_, 1) := by decide +kernel
theorem dX9_asks_0 : decode cX9_asks 0 = .ok (.aload_n 0, 1) := by decide +kernel
theorem dX9_asks_1 : decode cX9_asks 1 = .ok (.iload_n 1, 1) := by decide +kernel
theorem dX9_asks_2 : decode cX9_asks 2 = .ok (.invokevirtual 403, 3) := by decide +kernel
theorem dX9_asks_5 : decode cX9_asks 5 = .ok (.ifCond .ne 5, 3) := by decide +kernel
theorem dX9_asks_8 : decode cX9_asks 8 = .ok (.iconst 0, 1) := by decide +kernel
theorem dX9_asks_9 : decode cX9_asks 9 = .ok (.ireturn, 1) := by decide +kernel
theorem dX9_asks_10 : decode cX9_asks 10 = .ok (.aload_n 0, 1) := by decide +kernel
theorem dX9_asks_11 : decode cX9_asks 11 = .ok (.getfield 354, 3) := by decide +kernel
theorem dX9_asks_14 : decode cX9_asks 14 = .ok (.iconst 1, 1) := by decide +kernel
theorem dX9_asks_15 : decode cX9_asks 15 = .ok (.isub, 1) := by decide +kernel
theorem dX9_asks_16 : decode cX9_asks 16 = .ok (.istore_n 2, 1) := by decide +kernel
theorem dX9_asks_17 : decode cX9_asks 17 = .ok (.iload_n 2, 1) := by decide +kernel
theorem dX9_asks_18 : decode cX9_asks 18 = .ok (.ifCond .lt 14, 3) := by decide +kernel
theorem dX9_asks_21 : decode cX9_asks 21 = .ok (.aload_n 0, 1) := by decide +kernel
theorem dX9_asks_22 : decode cX9_asks 22 = .ok (.iload_n 2, 1) := by decide +kernel
theorem dX9_asks_23 : decode cX9_asks 23 = .ok (.invokevirtual 406, 3) := by decide +kernel
theorem dX9_asks_26 : decode cX9_asks 26 = .ok (.iinc 2 (-1), 3) := by decide +kernel
theorem dX9_asks_29 : decode cX9_asks 29 = .ok (.goto (-12), 3) := by decide +kernel
theorem dX9_asks_32 : decode cX9_asks 32 = .ok (.iconst 1, 1) := by decide +kernel
theorem dX9_asks_33 : decode cX9_asks 33 = .ok (.ireturn, 1) := by decide +kernel
theorem dX9_openedOf_0 : decode cX9_openedOf 0 = .ok (.aload_n 0, 1) := by decide +kernel
theorem dX9_openedOf_1 : decode cX9_openedOf 1 = .ok (.getfield 50, 3) := by decide +kernel
theorem dX9_openedOf_4 : decode cX9_openedOf 4 = .ok (.iload_n 1, 1) := by decide +kernel
theorem dX9_openedOf_5 : decode cX9_openedOf 5 = .ok (.iaload, 1) := by decide +kernel
theorem dX9_openedOf_6 : decode cX9_openedOf 6 = .ok (.istore 4, 2) := by decide +kernel
theorem dX9_openedOf_8 : decode cX9_openedOf 8 = .ok (.aload_n 0, 1) := by decide +kernel
theorem dX9_openedOf_9 : decode cX9_openedOf 9 = .ok (.iload_n 1, 1) := by decide +kernel
theorem dX9_openedOf_10 : decode cX9_openedOf 10 = .ok (.invokevirtual 386, 3) := by decide +kernel
theorem dX9_openedOf_13 : decode cX9_openedOf 13 = .ok (.ifCond .ne 5, 3) := by decide +kernel
theorem dX9_openedOf_16 : decode cX9_openedOf 16 = .ok (.lload_n 2, 1) := by decide +kernel
theorem dX9_openedOf_17 : decode cX9_openedOf 17 = .ok (.lreturn, 1) := by decide +kernel
theorem dX9_openedOf_18 : decode cX9_openedOf 18 = .ok (.aload_n 0, 1) := by decide +kernel
theorem dX9_openedOf_19 : decode cX9_openedOf 19 = .ok (.getfield 70, 3) := by decide +kernel
theorem dX9_openedOf_22 : decode cX9_openedOf 22 = .ok (.iload 4, 2) := by decide +kernel
theorem dX9_openedOf_24 : decode cX9_openedOf 24 = .ok (.iaload, 1) := by decide +kernel
theorem dX9_openedOf_25 : decode cX9_openedOf 25 = .ok (.tableswitch 65 0 2 #[27, 48, 50], 27) := by decide +kernel
theorem dX9_openedOf_52 : decode cX9_openedOf 52 = .ok (.aload_n 0, 1) := by decide +kernel
theorem dX9_openedOf_53 : decode cX9_openedOf 53 = .ok (.iload 4, 2) := by decide +kernel
theorem dX9_openedOf_55 : decode cX9_openedOf 55 = .ok (.aload_n 0, 1) := by decide +kernel
theorem dX9_openedOf_56 : decode cX9_openedOf 56 = .ok (.getfield 53, 3) := by decide +kernel
theorem dX9_openedOf_59 : decode cX9_openedOf 59 = .ok (.iload_n 1, 1) := by decide +kernel
theorem dX9_openedOf_60 : decode cX9_openedOf 60 = .ok (.iaload, 1) := by decide +kernel
theorem dX9_openedOf_61 : decode cX9_openedOf 61 = .ok (.invokevirtual 396, 3) := by decide +kernel
theorem dX9_openedOf_64 : decode cX9_openedOf 64 = .ok (.ifCond .eq 7, 3) := by decide +kernel
theorem dX9_openedOf_67 : decode cX9_openedOf 67 = .ok (.lload_n 2, 1) := by decide +kernel
theorem dX9_openedOf_68 : decode cX9_openedOf 68 = .ok (.goto 4, 3) := by decide +kernel
theorem dX9_openedOf_71 : decode cX9_openedOf 71 = .ok (.lconst 0, 1) := by decide +kernel
theorem dX9_openedOf_72 : decode cX9_openedOf 72 = .ok (.lreturn, 1) := by decide +kernel
theorem dX9_openedOf_73 : decode cX9_openedOf 73 = .ok (.lconst 0, 1) := by decide +kernel
theorem dX9_openedOf_74 : decode cX9_openedOf 74 = .ok (.lreturn, 1) := by decide +kernel
theorem dX9_openedOf_75 : decode cX9_openedOf 75 = .ok (.lload_n 2, 1) := by decide +kernel
theorem dX9_openedOf_76 : decode cX9_openedOf 76 = .ok (.aload_n 0, 1) := by decide +kernel
theorem dX9_openedOf_77 : decode cX9_openedOf 77 = .ok (.getfield 73, 3) := by decide +kernel
theorem dX9_openedOf_80 : decode cX9_openedOf 80 = .ok (.iload 4, 2) := by decide +kernel
theorem dX9_openedOf_82 : decode cX9_openedOf 82 = .ok (.iaload, 1) := by decide +kernel
theorem dX9_openedOf_83 : decode cX9_openedOf 83 = .ok (.i2l, 1) := by decide +kernel
theorem dX9_openedOf_84 : decode cX9_openedOf 84 = .ok (.lmul, 1) := by decide +kernel
theorem dX9_openedOf_85 : decode cX9_openedOf 85 = .ok (.ldc2_w 370, 3) := by decide +kernel
theorem dX9_openedOf_88 : decode cX9_openedOf 88 = .ok (.ldiv, 1) := by decide +kernel
theorem dX9_openedOf_89 : decode cX9_openedOf 89 = .ok (.lreturn, 1) := by decide +kernel
theorem dX9_openedOf_90 : decode cX9_openedOf 90 = .ok (.aload_n 0, 1) := by decide +kernel
theorem dX9_openedOf_91 : decode cX9_openedOf 91 = .ok (.getfield 83, 3) := by decide +kernel
theorem dX9_openedOf_94 : decode cX9_openedOf 94 = .ok (.iload_n 1, 1) := by decide +kernel
theorem dX9_openedOf_95 : decode cX9_openedOf 95 = .ok (.iaload, 1) := by decide +kernel
theorem dX9_openedOf_96 : decode cX9_openedOf 96 = .ok (.iconst (-1), 1) := by decide +kernel
theorem dX9_openedOf_97 : decode cX9_openedOf 97 = .ok (.if_icmp .ne 7, 3) := by decide +kernel
theorem dX9_openedOf_100 : decode cX9_openedOf 100 = .ok (.lload_n 2, 1) := by decide +kernel
theorem dX9_openedOf_101 : decode cX9_openedOf 101 = .ok (.goto 4, 3) := by decide +kernel
theorem dX9_openedOf_104 : decode cX9_openedOf 104 = .ok (.lconst 0, 1) := by decide +kernel
theorem dX9_openedOf_105 : decode cX9_openedOf 105 = .ok (.lreturn, 1) := by decide +kernel
theorem dX9_spreads_0 : decode cX9_spreads 0 = .ok (.iconst 0, 1) := by decide +kernel
theorem dX9_spreads_1 : decode cX9_spreads 1 = .ok (.istore_n 1, 1) := by decide +kernel
theorem dX9_spreads_2 : decode cX9_spreads 2 = .ok (.iload_n 1, 1) := by decide +kernel
theorem dX9_spreads_3 : decode cX9_spreads 3 = .ok (.bipush 96, 2) := by decide +kernel
theorem dX9_spreads_5 : decode cX9_spreads 5 = .ok (.if_icmp .ge 16, 3) := by decide +kernel
theorem dX9_spreads_8 : decode cX9_spreads 8 = .ok (.aload_n 0, 1) := by decide +kernel
theorem dX9_spreads_9 : decode cX9_spreads 9 = .ok (.getfield 89, 3) := by decide +kernel
theorem dX9_spreads_12 : decode cX9_spreads 12 = .ok (.iload_n 1, 1) := by decide +kernel
theorem dX9_spreads_13 : decode cX9_spreads 13 = .ok (.lconst 0, 1) := by decide +kernel
theorem dX9_spreads_14 : decode cX9_spreads 14 = .ok (.lastore, 1) := by decide +kernel
theorem dX9_spreads_15 : decode cX9_spreads 15 = .ok (.iinc 1 1, 3) := by decide +kernel
theorem dX9_spreads_18 : decode cX9_spreads 18 = .ok (.goto (-16), 3) := by decide +kernel
theorem dX9_spreads_21 : decode cX9_spreads 21 = .ok (.iconst 0, 1) := by decide +kernel
theorem dX9_spreads_22 : decode cX9_spreads 22 = .ok (.istore_n 1, 1) := by decide +kernel
theorem dX9_spreads_23 : decode cX9_spreads 23 = .ok (.iload_n 1, 1) := by decide +kernel
theorem dX9_spreads_24 : decode cX9_spreads 24 = .ok (.aload_n 0, 1) := by decide +kernel
theorem dX9_spreads_25 : decode cX9_spreads 25 = .ok (.getfield 354, 3) := by decide +kernel
theorem dX9_spreads_28 : decode cX9_spreads 28 = .ok (.if_icmp .ge 26, 3) := by decide +kernel
theorem dX9_spreads_31 : decode cX9_spreads 31 = .ok (.aload_n 0, 1) := by decide +kernel
theorem dX9_spreads_32 : decode cX9_spreads 32 = .ok (.getfield 86, 3) := by decide +kernel
theorem dX9_spreads_35 : decode cX9_spreads 35 = .ok (.iload_n 1, 1) := by decide +kernel
theorem dX9_spreads_36 : decode cX9_spreads 36 = .ok (.iload_n 1, 1) := by decide +kernel
theorem dX9_spreads_37 : decode cX9_spreads 37 = .ok (.ifCond .ne 9, 3) := by decide +kernel
theorem dX9_spreads_40 : decode cX9_spreads 40 = .ok (.ldc2_w 372, 3) := by decide +kernel
theorem dX9_spreads_43 : decode cX9_spreads 43 = .ok (.goto 4, 3) := by decide +kernel
theorem dX9_spreads_46 : decode cX9_spreads 46 = .ok (.lconst 0, 1) := by decide +kernel
theorem dX9_spreads_47 : decode cX9_spreads 47 = .ok (.lastore, 1) := by decide +kernel
theorem dX9_spreads_48 : decode cX9_spreads 48 = .ok (.iinc 1 1, 3) := by decide +kernel
theorem dX9_spreads_51 : decode cX9_spreads 51 = .ok (.goto (-28), 3) := by decide +kernel
theorem dX9_spreads_54 : decode cX9_spreads 54 = .ok (.iconst 0, 1) := by decide +kernel
theorem dX9_spreads_55 : decode cX9_spreads 55 = .ok (.istore_n 1, 1) := by decide +kernel
theorem dX9_spreads_56 : decode cX9_spreads 56 = .ok (.iload_n 1, 1) := by decide +kernel
theorem dX9_spreads_57 : decode cX9_spreads 57 = .ok (.aload_n 0, 1) := by decide +kernel
theorem dX9_spreads_58 : decode cX9_spreads 58 = .ok (.getfield 354, 3) := by decide +kernel
theorem dX9_spreads_61 : decode cX9_spreads 61 = .ok (.if_icmp .ge 263, 3) := by decide +kernel
theorem dX9_spreads_64 : decode cX9_spreads 64 = .ok (.aload_n 0, 1) := by decide +kernel
theorem dX9_spreads_65 : decode cX9_spreads 65 = .ok (.iload_n 1, 1) := by decide +kernel
theorem dX9_spreads_66 : decode cX9_spreads 66 = .ok (.aload_n 0, 1) := by decide +kernel
theorem dX9_spreads_67 : decode cX9_spreads 67 = .ok (.getfield 86, 3) := by decide +kernel
theorem dX9_spreads_70 : decode cX9_spreads 70 = .ok (.iload_n 1, 1) := by decide +kernel
theorem dX9_spreads_71 : decode cX9_spreads 71 = .ok (.laload, 1) := by decide +kernel
theorem dX9_spreads_72 : decode cX9_spreads 72 = .ok (.invokevirtual 409, 3) := by decide +kernel
theorem dX9_spreads_75 : decode cX9_spreads 75 = .ok (.lstore_n 2, 1) := by decide +kernel
theorem dX9_spreads_76 : decode cX9_spreads 76 = .ok (.aload_n 0, 1) := by decide +kernel
theorem dX9_spreads_77 : decode cX9_spreads 77 = .ok (.getfield 89, 3) := by decide +kernel
theorem dX9_spreads_80 : decode cX9_spreads 80 = .ok (.bipush 12, 2) := by decide +kernel
theorem dX9_spreads_82 : decode cX9_spreads 82 = .ok (.aload_n 0, 1) := by decide +kernel
theorem dX9_spreads_83 : decode cX9_spreads 83 = .ok (.getfield 50, 3) := by decide +kernel
theorem dX9_spreads_86 : decode cX9_spreads 86 = .ok (.iload_n 1, 1) := by decide +kernel
theorem dX9_spreads_87 : decode cX9_spreads 87 = .ok (.iaload, 1) := by decide +kernel
theorem dX9_spreads_88 : decode cX9_spreads 88 = .ok (.imul, 1) := by decide +kernel
theorem dX9_spreads_89 : decode cX9_spreads 89 = .ok (.aload_n 0, 1) := by decide +kernel
theorem dX9_spreads_90 : decode cX9_spreads 90 = .ok (.getfield 53, 3) := by decide +kernel
theorem dX9_spreads_93 : decode cX9_spreads 93 = .ok (.iload_n 1, 1) := by decide +kernel
theorem dX9_spreads_94 : decode cX9_spreads 94 = .ok (.iaload, 1) := by decide +kernel
theorem dX9_spreads_95 : decode cX9_spreads 95 = .ok (.iadd, 1) := by decide +kernel
theorem dX9_spreads_96 : decode cX9_spreads 96 = .ok (.iconst 1, 1) := by decide +kernel
theorem dX9_spreads_97 : decode cX9_spreads 97 = .ok (.isub, 1) := by decide +kernel
theorem dX9_spreads_98 : decode cX9_spreads 98 = .ok (.dup2, 1) := by decide +kernel
theorem dX9_spreads_99 : decode cX9_spreads 99 = .ok (.laload, 1) := by decide +kernel
theorem dX9_spreads_100 : decode cX9_spreads 100 = .ok (.lload_n 2, 1) := by decide +kernel
theorem dX9_spreads_101 : decode cX9_spreads 101 = .ok (.ladd, 1) := by decide +kernel
theorem dX9_spreads_102 : decode cX9_spreads 102 = .ok (.lastore, 1) := by decide +kernel
theorem dX9_spreads_103 : decode cX9_spreads 103 = .ok (.aload_n 0, 1) := by decide +kernel
theorem dX9_spreads_104 : decode cX9_spreads 104 = .ok (.getfield 86, 3) := by decide +kernel
theorem dX9_spreads_107 : decode cX9_spreads 107 = .ok (.iload_n 1, 1) := by decide +kernel
theorem dX9_spreads_108 : decode cX9_spreads 108 = .ok (.laload, 1) := by decide +kernel
theorem dX9_spreads_109 : decode cX9_spreads 109 = .ok (.lload_n 2, 1) := by decide +kernel
theorem dX9_spreads_110 : decode cX9_spreads 110 = .ok (.lsub, 1) := by decide +kernel
theorem dX9_spreads_111 : decode cX9_spreads 111 = .ok (.lstore 4, 2) := by decide +kernel
theorem dX9_spreads_113 : decode cX9_spreads 113 = .ok (.lload 4, 2) := by decide +kernel
theorem dX9_spreads_115 : decode cX9_spreads 115 = .ok (.lstore 6, 2) := by decide +kernel
theorem dX9_spreads_117 : decode cX9_spreads 117 = .ok (.aload_n 0, 1) := by decide +kernel
theorem dX9_spreads_118 : decode cX9_spreads 118 = .ok (.iload_n 1, 1) := by decide +kernel
theorem dX9_spreads_119 : decode cX9_spreads 119 = .ok (.invokevirtual 386, 3) := by decide +kernel
theorem dX9_spreads_122 : decode cX9_spreads 122 = .ok (.istore 8, 2) := by decide +kernel
theorem dX9_spreads_124 : decode cX9_spreads 124 = .ok (.iconst (-1), 1) := by decide +kernel
theorem dX9_spreads_125 : decode cX9_spreads 125 = .ok (.istore 9, 2) := by decide +kernel
theorem dX9_spreads_127 : decode cX9_spreads 127 = .ok (.iconst 0, 1) := by decide +kernel
theorem dX9_spreads_128 : decode cX9_spreads 128 = .ok (.istore 10, 2) := by decide +kernel
theorem dX9_spreads_130 : decode cX9_spreads 130 = .ok (.iload 10, 2) := by decide +kernel
theorem dX9_spreads_132 : decode cX9_spreads 132 = .ok (.aload_n 0, 1) := by decide +kernel
theorem dX9_spreads_133 : decode cX9_spreads 133 = .ok (.getfield 298, 3) := by decide +kernel
theorem dX9_spreads_136 : decode cX9_spreads 136 = .ok (.if_icmp .ge 29, 3) := by decide +kernel
theorem dX9_spreads_139 : decode cX9_spreads 139 = .ok (.aload_n 0, 1) := by decide +kernel
theorem dX9_spreads_140 : decode cX9_spreads 140 = .ok (.getfield 63, 3) := by decide +kernel
theorem dX9_spreads_143 : decode cX9_spreads 143 = .ok (.bipush 8, 2) := by decide +kernel
theorem dX9_spreads_145 : decode cX9_spreads 145 = .ok (.iload_n 1, 1) := by decide +kernel
theorem dX9_spreads_146 : decode cX9_spreads 146 = .ok (.imul, 1) := by decide +kernel
theorem dX9_spreads_147 : decode cX9_spreads 147 = .ok (.iload 10, 2) := by decide +kernel
theorem dX9_spreads_149 : decode cX9_spreads 149 = .ok (.iadd, 1) := by decide +kernel
theorem dX9_spreads_150 : decode cX9_spreads 150 = .ok (.iaload, 1) := by decide +kernel
theorem dX9_spreads_151 : decode cX9_spreads 151 = .ok (.iconst (-1), 1) := by decide +kernel
theorem dX9_spreads_152 : decode cX9_spreads 152 = .ok (.if_icmp .eq 7, 3) := by decide +kernel
theorem dX9_spreads_155 : decode cX9_spreads 155 = .ok (.iload 10, 2) := by decide +kernel
theorem dX9_spreads_157 : decode cX9_spreads 157 = .ok (.istore 9, 2) := by decide +kernel
theorem dX9_spreads_159 : decode cX9_spreads 159 = .ok (.iinc 10 1, 3) := by decide +kernel
theorem dX9_spreads_162 : decode cX9_spreads 162 = .ok (.goto (-32), 3) := by decide +kernel
theorem dX9_spreads_165 : decode cX9_spreads 165 = .ok (.iconst 0, 1) := by decide +kernel
theorem dX9_spreads_166 : decode cX9_spreads 166 = .ok (.istore 10, 2) := by decide +kernel
theorem dX9_spreads_168 : decode cX9_spreads 168 = .ok (.iload 10, 2) := by decide +kernel
theorem dX9_spreads_170 : decode cX9_spreads 170 = .ok (.aload_n 0, 1) := by decide +kernel
theorem dX9_spreads_171 : decode cX9_spreads 171 = .ok (.getfield 298, 3) := by decide +kernel
theorem dX9_spreads_174 : decode cX9_spreads 174 = .ok (.if_icmp .ge 144, 3) := by decide +kernel
theorem dX9_spreads_177 : decode cX9_spreads 177 = .ok (.lload 6, 2) := by decide +kernel
theorem dX9_spreads_179 : decode cX9_spreads 179 = .ok (.lconst 0, 1) := by decide +kernel
theorem dX9_spreads_180 : decode cX9_spreads 180 = .ok (.lcmp, 1) := by decide +kernel
theorem dX9_spreads_181 : decode cX9_spreads 181 = .ok (.ifCond .le 137, 3) := by decide +kernel
theorem dX9_spreads_184 : decode cX9_spreads 184 = .ok (.aload_n 0, 1) := by decide +kernel
theorem dX9_spreads_185 : decode cX9_spreads 185 = .ok (.getfield 63, 3) := by decide +kernel
theorem dX9_spreads_188 : decode cX9_spreads 188 = .ok (.bipush 8, 2) := by decide +kernel
theorem dX9_spreads_190 : decode cX9_spreads 190 = .ok (.iload_n 1, 1) := by decide +kernel
theorem dX9_spreads_191 : decode cX9_spreads 191 = .ok (.imul, 1) := by decide +kernel
theorem dX9_spreads_192 : decode cX9_spreads 192 = .ok (.iload 10, 2) := by decide +kernel
theorem dX9_spreads_194 : decode cX9_spreads 194 = .ok (.iadd, 1) := by decide +kernel
theorem dX9_spreads_195 : decode cX9_spreads 195 = .ok (.iaload, 1) := by decide +kernel
theorem dX9_spreads_196 : decode cX9_spreads 196 = .ok (.istore 11, 2) := by decide +kernel
theorem dX9_spreads_198 : decode cX9_spreads 198 = .ok (.iload 11, 2) := by decide +kernel
theorem dX9_spreads_200 : decode cX9_spreads 200 = .ok (.iconst (-1), 1) := by decide +kernel
theorem dX9_spreads_201 : decode cX9_spreads 201 = .ok (.if_icmp .ne 6, 3) := by decide +kernel
theorem dX9_spreads_204 : decode cX9_spreads 204 = .ok (.goto 108, 3) := by decide +kernel
theorem dX9_spreads_207 : decode cX9_spreads 207 = .ok (.aload_n 0, 1) := by decide +kernel
theorem dX9_spreads_208 : decode cX9_spreads 208 = .ok (.getfield 70, 3) := by decide +kernel
theorem dX9_spreads_211 : decode cX9_spreads 211 = .ok (.aload_n 0, 1) := by decide +kernel
theorem dX9_spreads_212 : decode cX9_spreads 212 = .ok (.getfield 50, 3) := by decide +kernel
theorem dX9_spreads_215 : decode cX9_spreads 215 = .ok (.iload_n 1, 1) := by decide +kernel
theorem dX9_spreads_216 : decode cX9_spreads 216 = .ok (.iaload, 1) := by decide +kernel
theorem dX9_spreads_217 : decode cX9_spreads 217 = .ok (.iaload, 1) := by decide +kernel
theorem dX9_spreads_218 : decode cX9_spreads 218 = .ok (.iconst 3, 1) := by decide +kernel
theorem dX9_spreads_219 : decode cX9_spreads 219 = .ok (.if_icmp .ne 7, 3) := by decide +kernel
theorem dX9_spreads_222 : decode cX9_spreads 222 = .ok (.iconst 1, 1) := by decide +kernel
theorem dX9_spreads_223 : decode cX9_spreads 223 = .ok (.goto 4, 3) := by decide +kernel
theorem dX9_spreads_226 : decode cX9_spreads 226 = .ok (.iconst 0, 1) := by decide +kernel
theorem dX9_spreads_227 : decode cX9_spreads 227 = .ok (.istore 12, 2) := by decide +kernel
theorem dX9_spreads_229 : decode cX9_spreads 229 = .ok (.iload 12, 2) := by decide +kernel
theorem dX9_spreads_231 : decode cX9_spreads 231 = .ok (.ifCond .eq 23, 3) := by decide +kernel
theorem dX9_spreads_234 : decode cX9_spreads 234 = .ok (.iload 10, 2) := by decide +kernel
theorem dX9_spreads_236 : decode cX9_spreads 236 = .ok (.aload_n 0, 1) := by decide +kernel
theorem dX9_spreads_237 : decode cX9_spreads 237 = .ok (.getfield 83, 3) := by decide +kernel
theorem dX9_spreads_240 : decode cX9_spreads 240 = .ok (.iload_n 1, 1) := by decide +kernel
theorem dX9_spreads_241 : decode cX9_spreads 241 = .ok (.iaload, 1) := by decide +kernel
theorem dX9_spreads_242 : decode cX9_spreads 242 = .ok (.if_icmp .ne 8, 3) := by decide +kernel
theorem dX9_spreads_245 : decode cX9_spreads 245 = .ok (.lload 6, 2) := by decide +kernel
theorem dX9_spreads_247 : decode cX9_spreads 247 = .ok (.goto 44, 3) := by decide +kernel
theorem dX9_spreads_250 : decode cX9_spreads 250 = .ok (.lconst 0, 1) := by decide +kernel
theorem dX9_spreads_251 : decode cX9_spreads 251 = .ok (.goto 40, 3) := by decide +kernel
theorem dX9_spreads_254 : decode cX9_spreads 254 = .ok (.iload 10, 2) := by decide +kernel
theorem dX9_spreads_256 : decode cX9_spreads 256 = .ok (.iload 9, 2) := by decide +kernel
theorem dX9_spreads_258 : decode cX9_spreads 258 = .ok (.if_icmp .ne 8, 3) := by decide +kernel
theorem dX9_spreads_261 : decode cX9_spreads 261 = .ok (.lload 4, 2) := by decide +kernel
theorem dX9_spreads_263 : decode cX9_spreads 263 = .ok (.goto 28, 3) := by decide +kernel
theorem dX9_spreads_266 : decode cX9_spreads 266 = .ok (.lload 6, 2) := by decide +kernel
theorem dX9_spreads_268 : decode cX9_spreads 268 = .ok (.aload_n 0, 1) := by decide +kernel
theorem dX9_spreads_269 : decode cX9_spreads 269 = .ok (.getfield 29, 3) := by decide +kernel
theorem dX9_spreads_272 : decode cX9_spreads 272 = .ok (.bipush 8, 2) := by decide +kernel
theorem dX9_spreads_274 : decode cX9_spreads 274 = .ok (.aload_n 0, 1) := by decide +kernel
theorem dX9_spreads_275 : decode cX9_spreads 275 = .ok (.getfield 50, 3) := by decide +kernel
theorem dX9_spreads_278 : decode cX9_spreads 278 = .ok (.iload_n 1, 1) := by decide +kernel
theorem dX9_spreads_279 : decode cX9_spreads 279 = .ok (.iaload, 1) := by decide +kernel
theorem dX9_spreads_280 : decode cX9_spreads 280 = .ok (.imul, 1) := by decide +kernel
theorem dX9_spreads_281 : decode cX9_spreads 281 = .ok (.iload 10, 2) := by decide +kernel
theorem dX9_spreads_283 : decode cX9_spreads 283 = .ok (.iadd, 1) := by decide +kernel
theorem dX9_spreads_284 : decode cX9_spreads 284 = .ok (.iaload, 1) := by decide +kernel
theorem dX9_spreads_285 : decode cX9_spreads 285 = .ok (.i2l, 1) := by decide +kernel
theorem dX9_spreads_286 : decode cX9_spreads 286 = .ok (.lmul, 1) := by decide +kernel
theorem dX9_spreads_287 : decode cX9_spreads 287 = .ok (.iload 8, 2) := by decide +kernel
theorem dX9_spreads_289 : decode cX9_spreads 289 = .ok (.i2l, 1) := by decide +kernel
theorem dX9_spreads_290 : decode cX9_spreads 290 = .ok (.ldiv, 1) := by decide +kernel
theorem dX9_spreads_291 : decode cX9_spreads 291 = .ok (.lstore 13, 2) := by decide +kernel
theorem dX9_spreads_293 : decode cX9_spreads 293 = .ok (.lload 4, 2) := by decide +kernel
theorem dX9_spreads_295 : decode cX9_spreads 295 = .ok (.lload 13, 2) := by decide +kernel
theorem dX9_spreads_297 : decode cX9_spreads 297 = .ok (.lsub, 1) := by decide +kernel
theorem dX9_spreads_298 : decode cX9_spreads 298 = .ok (.lstore 4, 2) := by decide +kernel
theorem dX9_spreads_300 : decode cX9_spreads 300 = .ok (.aload_n 0, 1) := by decide +kernel
theorem dX9_spreads_301 : decode cX9_spreads 301 = .ok (.getfield 86, 3) := by decide +kernel
theorem dX9_spreads_304 : decode cX9_spreads 304 = .ok (.iload 11, 2) := by decide +kernel
theorem dX9_spreads_306 : decode cX9_spreads 306 = .ok (.dup2, 1) := by decide +kernel
theorem dX9_spreads_307 : decode cX9_spreads 307 = .ok (.laload, 1) := by decide +kernel
theorem dX9_spreads_308 : decode cX9_spreads 308 = .ok (.lload 13, 2) := by decide +kernel
theorem dX9_spreads_310 : decode cX9_spreads 310 = .ok (.ladd, 1) := by decide +kernel
theorem dX9_spreads_311 : decode cX9_spreads 311 = .ok (.lastore, 1) := by decide +kernel
theorem dX9_spreads_312 : decode cX9_spreads 312 = .ok (.iinc 10 1, 3) := by decide +kernel
theorem dX9_spreads_315 : decode cX9_spreads 315 = .ok (.goto (-147), 3) := by decide +kernel
theorem dX9_spreads_318 : decode cX9_spreads 318 = .ok (.iinc 1 1, 3) := by decide +kernel
theorem dX9_spreads_321 : decode cX9_spreads 321 = .ok (.goto (-265), 3) := by decide +kernel
theorem dX9_spreads_324 : decode cX9_spreads 324 = .ok (.return_, 1) := by decide +kernel
theorem dX9_endAll_0 : decode cX9_endAll 0 = .ok (.lconst 0, 1) := by decide +kernel
theorem dX9_endAll_1 : decode cX9_endAll 1 = .ok (.lstore_n 1, 1) := by decide +kernel
theorem dX9_endAll_2 : decode cX9_endAll 2 = .ok (.iconst 0, 1) := by decide +kernel
theorem dX9_endAll_3 : decode cX9_endAll 3 = .ok (.istore_n 3, 1) := by decide +kernel
theorem dX9_endAll_4 : decode cX9_endAll 4 = .ok (.iload_n 3, 1) := by decide +kernel
theorem dX9_endAll_5 : decode cX9_endAll 5 = .ok (.aload_n 0, 1) := by decide +kernel
theorem dX9_endAll_6 : decode cX9_endAll 6 = .ok (.getfield 298, 3) := by decide +kernel
theorem dX9_endAll_9 : decode cX9_endAll 9 = .ok (.if_icmp .ge 28, 3) := by decide +kernel
theorem dX9_endAll_12 : decode cX9_endAll 12 = .ok (.lload_n 1, 1) := by decide +kernel
theorem dX9_endAll_13 : decode cX9_endAll 13 = .ok (.aload_n 0, 1) := by decide +kernel
theorem dX9_endAll_14 : decode cX9_endAll 14 = .ok (.getfield 89, 3) := by decide +kernel
theorem dX9_endAll_17 : decode cX9_endAll 17 = .ok (.bipush 12, 2) := by decide +kernel
theorem dX9_endAll_19 : decode cX9_endAll 19 = .ok (.iload_n 3, 1) := by decide +kernel
theorem dX9_endAll_20 : decode cX9_endAll 20 = .ok (.imul, 1) := by decide +kernel
theorem dX9_endAll_21 : decode cX9_endAll 21 = .ok (.aload_n 0, 1) := by decide +kernel
theorem dX9_endAll_22 : decode cX9_endAll 22 = .ok (.getfield 16, 3) := by decide +kernel
theorem dX9_endAll_25 : decode cX9_endAll 25 = .ok (.iadd, 1) := by decide +kernel
theorem dX9_endAll_26 : decode cX9_endAll 26 = .ok (.iconst 1, 1) := by decide +kernel
theorem dX9_endAll_27 : decode cX9_endAll 27 = .ok (.isub, 1) := by decide +kernel
theorem dX9_endAll_28 : decode cX9_endAll 28 = .ok (.laload, 1) := by decide +kernel
theorem dX9_endAll_29 : decode cX9_endAll 29 = .ok (.ladd, 1) := by decide +kernel
theorem dX9_endAll_30 : decode cX9_endAll 30 = .ok (.lstore_n 1, 1) := by decide +kernel
theorem dX9_endAll_31 : decode cX9_endAll 31 = .ok (.iinc 3 1, 3) := by decide +kernel
theorem dX9_endAll_34 : decode cX9_endAll 34 = .ok (.goto (-30), 3) := by decide +kernel
theorem dX9_endAll_37 : decode cX9_endAll 37 = .ok (.lload_n 1, 1) := by decide +kernel
theorem dX9_endAll_38 : decode cX9_endAll 38 = .ok (.lreturn, 1) := by decide +kernel
theorem dX9_goesAll_0 : decode cX9_goesAll 0 = .ok (.lconst 0, 1) := by decide +kernel
theorem dX9_goesAll_1 : decode cX9_goesAll 1 = .ok (.lstore_n 1, 1) := by decide +kernel
theorem dX9_goesAll_2 : decode cX9_goesAll 2 = .ok (.iconst 0, 1) := by decide +kernel
theorem dX9_goesAll_3 : decode cX9_goesAll 3 = .ok (.istore_n 3, 1) := by decide +kernel
theorem dX9_goesAll_4 : decode cX9_goesAll 4 = .ok (.iload_n 3, 1) := by decide +kernel
theorem dX9_goesAll_5 : decode cX9_goesAll 5 = .ok (.aload_n 0, 1) := by decide +kernel
theorem dX9_goesAll_6 : decode cX9_goesAll 6 = .ok (.getfield 298, 3) := by decide +kernel
theorem dX9_goesAll_9 : decode cX9_goesAll 9 = .ok (.if_icmp .ge 48, 3) := by decide +kernel
theorem dX9_goesAll_12 : decode cX9_goesAll 12 = .ok (.iconst 1, 1) := by decide +kernel
theorem dX9_goesAll_13 : decode cX9_goesAll 13 = .ok (.istore 4, 2) := by decide +kernel
theorem dX9_goesAll_15 : decode cX9_goesAll 15 = .ok (.iload 4, 2) := by decide +kernel
theorem dX9_goesAll_17 : decode cX9_goesAll 17 = .ok (.aload_n 0, 1) := by decide +kernel
theorem dX9_goesAll_18 : decode cX9_goesAll 18 = .ok (.getfield 16, 3) := by decide +kernel
theorem dX9_goesAll_21 : decode cX9_goesAll 21 = .ok (.if_icmp .gt 30, 3) := by decide +kernel
theorem dX9_goesAll_24 : decode cX9_goesAll 24 = .ok (.lload_n 1, 1) := by decide +kernel
theorem dX9_goesAll_25 : decode cX9_goesAll 25 = .ok (.iload 4, 2) := by decide +kernel
theorem dX9_goesAll_27 : decode cX9_goesAll 27 = .ok (.i2l, 1) := by decide +kernel
theorem dX9_goesAll_28 : decode cX9_goesAll 28 = .ok (.aload_n 0, 1) := by decide +kernel
theorem dX9_goesAll_29 : decode cX9_goesAll 29 = .ok (.getfield 89, 3) := by decide +kernel
theorem dX9_goesAll_32 : decode cX9_goesAll 32 = .ok (.bipush 12, 2) := by decide +kernel
theorem dX9_goesAll_34 : decode cX9_goesAll 34 = .ok (.iload_n 3, 1) := by decide +kernel
theorem dX9_goesAll_35 : decode cX9_goesAll 35 = .ok (.imul, 1) := by decide +kernel
theorem dX9_goesAll_36 : decode cX9_goesAll 36 = .ok (.iload 4, 2) := by decide +kernel
theorem dX9_goesAll_38 : decode cX9_goesAll 38 = .ok (.iadd, 1) := by decide +kernel
theorem dX9_goesAll_39 : decode cX9_goesAll 39 = .ok (.iconst 1, 1) := by decide +kernel
theorem dX9_goesAll_40 : decode cX9_goesAll 40 = .ok (.isub, 1) := by decide +kernel
theorem dX9_goesAll_41 : decode cX9_goesAll 41 = .ok (.laload, 1) := by decide +kernel
theorem dX9_goesAll_42 : decode cX9_goesAll 42 = .ok (.lmul, 1) := by decide +kernel
theorem dX9_goesAll_43 : decode cX9_goesAll 43 = .ok (.ladd, 1) := by decide +kernel
theorem dX9_goesAll_44 : decode cX9_goesAll 44 = .ok (.lstore_n 1, 1) := by decide +kernel
theorem dX9_goesAll_45 : decode cX9_goesAll 45 = .ok (.iinc 4 1, 3) := by decide +kernel
theorem dX9_goesAll_48 : decode cX9_goesAll 48 = .ok (.goto (-33), 3) := by decide +kernel
theorem dX9_goesAll_51 : decode cX9_goesAll 51 = .ok (.iinc 3 1, 3) := by decide +kernel
theorem dX9_goesAll_54 : decode cX9_goesAll 54 = .ok (.goto (-50), 3) := by decide +kernel
theorem dX9_goesAll_57 : decode cX9_goesAll 57 = .ok (.lload_n 1, 1) := by decide +kernel
theorem dX9_goesAll_58 : decode cX9_goesAll 58 = .ok (.lreturn, 1) := by decide +kernel
theorem dX9_opened_0 : decode cX9_opened 0 = .ok (.aload_n 0, 1) := by decide +kernel
theorem dX9_opened_1 : decode cX9_opened 1 = .ok (.iconst 0, 1) := by decide +kernel
theorem dX9_opened_2 : decode cX9_opened 2 = .ok (.putfield 170, 3) := by decide +kernel
theorem dX9_opened_5 : decode cX9_opened 5 = .ok (.aload_n 0, 1) := by decide +kernel
theorem dX9_opened_6 : decode cX9_opened 6 = .ok (.iload_n 1, 1) := by decide +kernel
theorem dX9_opened_7 : decode cX9_opened 7 = .ok (.invokevirtual 339, 3) := by decide +kernel
theorem dX9_opened_10 : decode cX9_opened 10 = .ok (.ifCond .eq 20, 3) := by decide +kernel
theorem dX9_opened_13 : decode cX9_opened 13 = .ok (.aload_n 0, 1) := by decide +kernel
theorem dX9_opened_14 : decode cX9_opened 14 = .ok (.iload_n 2, 1) := by decide +kernel
theorem dX9_opened_15 : decode cX9_opened 15 = .ok (.iconst 1, 1) := by decide +kernel
theorem dX9_opened_16 : decode cX9_opened 16 = .ok (.aload_n 0, 1) := by decide +kernel
theorem dX9_opened_17 : decode cX9_opened 17 = .ok (.getfield 16, 3) := by decide +kernel
theorem dX9_opened_20 : decode cX9_opened 20 = .ok (.invokestatic 336, 3) := by decide +kernel
theorem dX9_opened_23 : decode cX9_opened 23 = .ok (.iconst 1, 1) := by decide +kernel
theorem dX9_opened_24 : decode cX9_opened 24 = .ok (.invokevirtual 291, 3) := by decide +kernel
theorem dX9_opened_27 : decode cX9_opened 27 = .ok (.ifCond .ne 5, 3) := by decide +kernel
theorem dX9_opened_30 : decode cX9_opened 30 = .ok (.iconst 0, 1) := by decide +kernel
theorem dX9_opened_31 : decode cX9_opened 31 = .ok (.ireturn, 1) := by decide +kernel
theorem dX9_opened_32 : decode cX9_opened 32 = .ok (.aload_n 0, 1) := by decide +kernel
theorem dX9_opened_33 : decode cX9_opened 33 = .ok (.invokevirtual 413, 3) := by decide +kernel
theorem dX9_opened_36 : decode cX9_opened 36 = .ok (.aload_n 0, 1) := by decide +kernel
theorem dX9_opened_37 : decode cX9_opened 37 = .ok (.aload_n 0, 1) := by decide +kernel
theorem dX9_opened_38 : decode cX9_opened 38 = .ok (.aload_n 0, 1) := by decide +kernel
theorem dX9_opened_39 : decode cX9_opened 39 = .ok (.getfield 301, 3) := by decide +kernel
theorem dX9_opened_42 : decode cX9_opened 42 = .ok (.invokevirtual 416, 3) := by decide +kernel
theorem dX9_opened_45 : decode cX9_opened 45 = .ok (.iconst 2, 1) := by decide +kernel
theorem dX9_opened_46 : decode cX9_opened 46 = .ok (.invokevirtual 291, 3) := by decide +kernel
theorem dX9_opened_49 : decode cX9_opened 49 = .ok (.ifCond .ne 5, 3) := by decide +kernel
theorem dX9_opened_52 : decode cX9_opened 52 = .ok (.iconst 0, 1) := by decide +kernel
theorem dX9_opened_53 : decode cX9_opened 53 = .ok (.ireturn, 1) := by decide +kernel
theorem dX9_opened_54 : decode cX9_opened 54 = .ok (.aload_n 0, 1) := by decide +kernel
theorem dX9_opened_55 : decode cX9_opened 55 = .ok (.invokevirtual 419, 3) := by decide +kernel
theorem dX9_opened_58 : decode cX9_opened 58 = .ok (.aload_n 0, 1) := by decide +kernel
theorem dX9_opened_59 : decode cX9_opened 59 = .ok (.getfield 89, 3) := by decide +kernel
theorem dX9_opened_62 : decode cX9_opened 62 = .ok (.bipush 12, 2) := by decide +kernel
theorem dX9_opened_64 : decode cX9_opened 64 = .ok (.iload_n 1, 1) := by decide +kernel
theorem dX9_opened_65 : decode cX9_opened 65 = .ok (.imul, 1) := by decide +kernel
theorem dX9_opened_66 : decode cX9_opened 66 = .ok (.iload_n 2, 1) := by decide +kernel
theorem dX9_opened_67 : decode cX9_opened 67 = .ok (.iadd, 1) := by decide +kernel
theorem dX9_opened_68 : decode cX9_opened 68 = .ok (.iconst 1, 1) := by decide +kernel
theorem dX9_opened_69 : decode cX9_opened 69 = .ok (.isub, 1) := by decide +kernel
theorem dX9_opened_70 : decode cX9_opened 70 = .ok (.laload, 1) := by decide +kernel
theorem dX9_opened_71 : decode cX9_opened 71 = .ok (.l2i, 1) := by decide +kernel
theorem dX9_opened_72 : decode cX9_opened 72 = .ok (.ireturn, 1) := by decide +kernel
theorem dX9_goes_0 : decode cX9_goes 0 = .ok (.aload_n 0, 1) := by decide +kernel
theorem dX9_goes_1 : decode cX9_goes 1 = .ok (.iconst 0, 1) := by decide +kernel
theorem dX9_goes_2 : decode cX9_goes 2 = .ok (.putfield 170, 3) := by decide +kernel
theorem dX9_goes_5 : decode cX9_goes 5 = .ok (.aload_n 0, 1) := by decide +kernel
theorem dX9_goes_6 : decode cX9_goes 6 = .ok (.iload_n 1, 1) := by decide +kernel
theorem dX9_goes_7 : decode cX9_goes 7 = .ok (.ifCond .eq 8, 3) := by decide +kernel
theorem dX9_goes_10 : decode cX9_goes 10 = .ok (.iload_n 1, 1) := by decide +kernel
theorem dX9_goes_11 : decode cX9_goes 11 = .ok (.iconst 1, 1) := by decide +kernel
theorem dX9_goes_12 : decode cX9_goes 12 = .ok (.if_icmp .ne 14, 3) := by decide +kernel
theorem dX9_goes_15 : decode cX9_goes 15 = .ok (.aload_n 0, 1) := by decide +kernel
theorem dX9_goes_16 : decode cX9_goes 16 = .ok (.getfield 298, 3) := by decide +kernel
theorem dX9_goes_19 : decode cX9_goes 19 = .ok (.ifCond .le 7, 3) := by decide +kernel
theorem dX9_goes_22 : decode cX9_goes 22 = .ok (.iconst 1, 1) := by decide +kernel
theorem dX9_goes_23 : decode cX9_goes 23 = .ok (.goto 4, 3) := by decide +kernel
theorem dX9_goes_26 : decode cX9_goes 26 = .ok (.iconst 0, 1) := by decide +kernel
theorem dX9_goes_27 : decode cX9_goes 27 = .ok (.iconst 1, 1) := by decide +kernel
