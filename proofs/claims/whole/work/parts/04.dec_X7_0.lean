theorem dX7_init_0 : decode cX7_init 0 = .ok (.aload_n 0, 1) := by decide +kernel
theorem dX7_init_1 : decode cX7_init 1 = .ok (.invokespecial 3, 3) := by decide +kernel
theorem dX7_init_4 : decode cX7_init 4 = .ok (.aload_n 0, 1) := by decide +kernel
theorem dX7_init_5 : decode cX7_init 5 = .ok (.bipush 100, 2) := by decide +kernel
theorem dX7_init_7 : decode cX7_init 7 = .ok (.newarray .int, 2) := by decide +kernel
theorem dX7_init_9 : decode cX7_init 9 = .ok (.putfield 11, 3) := by decide +kernel
theorem dX7_init_12 : decode cX7_init 12 = .ok (.aload_n 0, 1) := by decide +kernel
theorem dX7_init_13 : decode cX7_init 13 = .ok (.bipush 100, 2) := by decide +kernel
theorem dX7_init_15 : decode cX7_init 15 = .ok (.newarray .int, 2) := by decide +kernel
theorem dX7_init_17 : decode cX7_init 17 = .ok (.putfield 15, 3) := by decide +kernel
theorem dX7_init_20 : decode cX7_init 20 = .ok (.aload_n 0, 1) := by decide +kernel
theorem dX7_init_21 : decode cX7_init 21 = .ok (.bipush 8, 2) := by decide +kernel
theorem dX7_init_23 : decode cX7_init 23 = .ok (.newarray .int, 2) := by decide +kernel
theorem dX7_init_25 : decode cX7_init 25 = .ok (.putfield 18, 3) := by decide +kernel
theorem dX7_init_28 : decode cX7_init 28 = .ok (.return_, 1) := by decide +kernel
theorem dX7_clear_0 : decode cX7_clear 0 = .ok (.aload_n 0, 1) := by decide +kernel
theorem dX7_clear_1 : decode cX7_clear 1 = .ok (.iconst 0, 1) := by decide +kernel
theorem dX7_clear_2 : decode cX7_clear 2 = .ok (.putfield 21, 3) := by decide +kernel
theorem dX7_clear_5 : decode cX7_clear 5 = .ok (.aload_n 0, 1) := by decide +kernel
theorem dX7_clear_6 : decode cX7_clear 6 = .ok (.iconst 0, 1) := by decide +kernel
theorem dX7_clear_7 : decode cX7_clear 7 = .ok (.putfield 25, 3) := by decide +kernel
theorem dX7_clear_10 : decode cX7_clear 10 = .ok (.return_, 1) := by decide +kernel
theorem dX7_start_0 : decode cX7_start 0 = .ok (.aload_n 0, 1) := by decide +kernel
theorem dX7_start_1 : decode cX7_start 1 = .ok (.iconst 1, 1) := by decide +kernel
theorem dX7_start_2 : decode cX7_start 2 = .ok (.putfield 21, 3) := by decide +kernel
theorem dX7_start_5 : decode cX7_start 5 = .ok (.aload_n 0, 1) := by decide +kernel
theorem dX7_start_6 : decode cX7_start 6 = .ok (.iload_n 1, 1) := by decide +kernel
theorem dX7_start_7 : decode cX7_start 7 = .ok (.putfield 29, 3) := by decide +kernel
theorem dX7_start_10 : decode cX7_start 10 = .ok (.aload_n 0, 1) := by decide +kernel
theorem dX7_start_11 : decode cX7_start 11 = .ok (.iload_n 2, 1) := by decide +kernel
theorem dX7_start_12 : decode cX7_start 12 = .ok (.putfield 32, 3) := by decide +kernel
theorem dX7_start_15 : decode cX7_start 15 = .ok (.aload_n 0, 1) := by decide +kernel
theorem dX7_start_16 : decode cX7_start 16 = .ok (.iconst 0, 1) := by decide +kernel
theorem dX7_start_17 : decode cX7_start 17 = .ok (.putfield 25, 3) := by decide +kernel
theorem dX7_start_20 : decode cX7_start 20 = .ok (.aload_n 0, 1) := by decide +kernel
theorem dX7_start_21 : decode cX7_start 21 = .ok (.getfield 18, 3) := by decide +kernel
theorem dX7_start_24 : decode cX7_start 24 = .ok (.iconst (-1), 1) := by decide +kernel
theorem dX7_start_25 : decode cX7_start 25 = .ok (.invokestatic 35, 3) := by decide +kernel
theorem dX7_start_28 : decode cX7_start 28 = .ok (.return_, 1) := by decide +kernel
theorem dX7_copy_0 : decode cX7_copy 0 = .ok (.aload_n 0, 1) := by decide +kernel
theorem dX7_copy_1 : decode cX7_copy 1 = .ok (.aload_n 1, 1) := by decide +kernel
theorem dX7_copy_2 : decode cX7_copy 2 = .ok (.getfield 21, 3) := by decide +kernel
theorem dX7_copy_5 : decode cX7_copy 5 = .ok (.putfield 21, 3) := by decide +kernel
theorem dX7_copy_8 : decode cX7_copy 8 = .ok (.aload_n 0, 1) := by decide +kernel
theorem dX7_copy_9 : decode cX7_copy 9 = .ok (.aload_n 1, 1) := by decide +kernel
theorem dX7_copy_10 : decode cX7_copy 10 = .ok (.getfield 29, 3) := by decide +kernel
theorem dX7_copy_13 : decode cX7_copy 13 = .ok (.putfield 29, 3) := by decide +kernel
theorem dX7_copy_16 : decode cX7_copy 16 = .ok (.aload_n 0, 1) := by decide +kernel
theorem dX7_copy_17 : decode cX7_copy 17 = .ok (.aload_n 1, 1) := by decide +kernel
theorem dX7_copy_18 : decode cX7_copy 18 = .ok (.getfield 32, 3) := by decide +kernel
theorem dX7_copy_21 : decode cX7_copy 21 = .ok (.putfield 32, 3) := by decide +kernel
theorem dX7_copy_24 : decode cX7_copy 24 = .ok (.aload_n 0, 1) := by decide +kernel
theorem dX7_copy_25 : decode cX7_copy 25 = .ok (.aload_n 1, 1) := by decide +kernel
theorem dX7_copy_26 : decode cX7_copy 26 = .ok (.getfield 25, 3) := by decide +kernel
theorem dX7_copy_29 : decode cX7_copy 29 = .ok (.putfield 25, 3) := by decide +kernel
theorem dX7_copy_32 : decode cX7_copy 32 = .ok (.aload_n 1, 1) := by decide +kernel
theorem dX7_copy_33 : decode cX7_copy 33 = .ok (.getfield 11, 3) := by decide +kernel
theorem dX7_copy_36 : decode cX7_copy 36 = .ok (.iconst 0, 1) := by decide +kernel
theorem dX7_copy_37 : decode cX7_copy 37 = .ok (.aload_n 0, 1) := by decide +kernel
theorem dX7_copy_38 : decode cX7_copy 38 = .ok (.getfield 11, 3) := by decide +kernel
theorem dX7_copy_41 : decode cX7_copy 41 = .ok (.iconst 0, 1) := by decide +kernel
theorem dX7_copy_42 : decode cX7_copy 42 = .ok (.bipush 100, 2) := by decide +kernel
theorem dX7_copy_44 : decode cX7_copy 44 = .ok (.invokestatic 41, 3) := by decide +kernel
theorem dX7_copy_47 : decode cX7_copy 47 = .ok (.aload_n 1, 1) := by decide +kernel
theorem dX7_copy_48 : decode cX7_copy 48 = .ok (.getfield 15, 3) := by decide +kernel
theorem dX7_copy_51 : decode cX7_copy 51 = .ok (.iconst 0, 1) := by decide +kernel
theorem dX7_copy_52 : decode cX7_copy 52 = .ok (.aload_n 0, 1) := by decide +kernel
theorem dX7_copy_53 : decode cX7_copy 53 = .ok (.getfield 15, 3) := by decide +kernel
theorem dX7_copy_56 : decode cX7_copy 56 = .ok (.iconst 0, 1) := by decide +kernel
theorem dX7_copy_57 : decode cX7_copy 57 = .ok (.bipush 100, 2) := by decide +kernel
theorem dX7_copy_59 : decode cX7_copy 59 = .ok (.invokestatic 41, 3) := by decide +kernel
theorem dX7_copy_62 : decode cX7_copy 62 = .ok (.aload_n 1, 1) := by decide +kernel
theorem dX7_copy_63 : decode cX7_copy 63 = .ok (.getfield 18, 3) := by decide +kernel
theorem dX7_copy_66 : decode cX7_copy 66 = .ok (.iconst 0, 1) := by decide +kernel
theorem dX7_copy_67 : decode cX7_copy 67 = .ok (.aload_n 0, 1) := by decide +kernel
theorem dX7_copy_68 : decode cX7_copy 68 = .ok (.getfield 18, 3) := by decide +kernel
theorem dX7_copy_71 : decode cX7_copy 71 = .ok (.iconst 0, 1) := by decide +kernel
theorem dX7_copy_72 : decode cX7_copy 72 = .ok (.bipush 8, 2) := by decide +kernel
theorem dX7_copy_74 : decode cX7_copy 74 = .ok (.invokestatic 41, 3) := by decide +kernel
theorem dX7_copy_77 : decode cX7_copy 77 = .ok (.return_, 1) := by decide +kernel
theorem dX7_draw_0 : decode cX7_draw 0 = .ok (.aload_n 0, 1) := by decide +kernel
theorem dX7_draw_1 : decode cX7_draw 1 = .ok (.aload_n 0, 1) := by decide +kernel
theorem dX7_draw_2 : decode cX7_draw 2 = .ok (.getfield 29, 3) := by decide +kernel
theorem dX7_draw_5 : decode cX7_draw 5 = .ok (.ldc 47, 2) := by decide +kernel
theorem dX7_draw_7 : decode cX7_draw 7 = .ok (.imul, 1) := by decide +kernel
theorem dX7_draw_8 : decode cX7_draw 8 = .ok (.sipush 12345, 3) := by decide +kernel
theorem dX7_draw_11 : decode cX7_draw 11 = .ok (.iadd, 1) := by decide +kernel
theorem dX7_draw_12 : decode cX7_draw 12 = .ok (.putfield 29, 3) := by decide +kernel
theorem dX7_draw_15 : decode cX7_draw 15 = .ok (.iload_n 1, 1) := by decide +kernel
theorem dX7_draw_16 : decode cX7_draw 16 = .ok (.ifCond .le 19, 3) := by decide +kernel
theorem dX7_draw_19 : decode cX7_draw 19 = .ok (.aload_n 0, 1) := by decide +kernel
theorem dX7_draw_20 : decode cX7_draw 20 = .ok (.getfield 29, 3) := by decide +kernel
theorem dX7_draw_23 : decode cX7_draw 23 = .ok (.bipush 16, 2) := by decide +kernel
theorem dX7_draw_25 : decode cX7_draw 25 = .ok (.iushr, 1) := by decide +kernel
theorem dX7_draw_26 : decode cX7_draw 26 = .ok (.sipush 32767, 3) := by decide +kernel
theorem dX7_draw_29 : decode cX7_draw 29 = .ok (.iand, 1) := by decide +kernel
theorem dX7_draw_30 : decode cX7_draw 30 = .ok (.iload_n 1, 1) := by decide +kernel
theorem dX7_draw_31 : decode cX7_draw 31 = .ok (.irem, 1) := by decide +kernel
theorem dX7_draw_32 : decode cX7_draw 32 = .ok (.goto 4, 3) := by decide +kernel
theorem dX7_draw_35 : decode cX7_draw 35 = .ok (.iconst 0, 1) := by decide +kernel
theorem dX7_draw_36 : decode cX7_draw 36 = .ok (.ireturn, 1) := by decide +kernel
theorem dX7_whoAreOut_0 : decode cX7_whoAreOut 0 = .ok (.iconst 0, 1) := by decide +kernel
theorem dX7_whoAreOut_1 : decode cX7_whoAreOut 1 = .ok (.istore_n 1, 1) := by decide +kernel
theorem dX7_whoAreOut_2 : decode cX7_whoAreOut 2 = .ok (.iconst 0, 1) := by decide +kernel
theorem dX7_whoAreOut_3 : decode cX7_whoAreOut 3 = .ok (.istore_n 2, 1) := by decide +kernel
theorem dX7_whoAreOut_4 : decode cX7_whoAreOut 4 = .ok (.iload_n 2, 1) := by decide +kernel
theorem dX7_whoAreOut_5 : decode cX7_whoAreOut 5 = .ok (.bipush 8, 2) := by decide +kernel
theorem dX7_whoAreOut_7 : decode cX7_whoAreOut 7 = .ok (.if_icmp .ge 28, 3) := by decide +kernel
theorem dX7_whoAreOut_10 : decode cX7_whoAreOut 10 = .ok (.aload_n 0, 1) := by decide +kernel
theorem dX7_whoAreOut_11 : decode cX7_whoAreOut 11 = .ok (.getfield 18, 3) := by decide +kernel
theorem dX7_whoAreOut_14 : decode cX7_whoAreOut 14 = .ok (.iload_n 2, 1) := by decide +kernel
theorem dX7_whoAreOut_15 : decode cX7_whoAreOut 15 = .ok (.iaload, 1) := by decide +kernel
theorem dX7_whoAreOut_16 : decode cX7_whoAreOut 16 = .ok (.aload_n 0, 1) := by decide +kernel
theorem dX7_whoAreOut_17 : decode cX7_whoAreOut 17 = .ok (.getfield 25, 3) := by decide +kernel
theorem dX7_whoAreOut_20 : decode cX7_whoAreOut 20 = .ok (.if_icmp .lt 9, 3) := by decide +kernel
theorem dX7_whoAreOut_23 : decode cX7_whoAreOut 23 = .ok (.iload_n 1, 1) := by decide +kernel
theorem dX7_whoAreOut_24 : decode cX7_whoAreOut 24 = .ok (.iconst 1, 1) := by decide +kernel
theorem dX7_whoAreOut_25 : decode cX7_whoAreOut 25 = .ok (.iload_n 2, 1) := by decide +kernel
theorem dX7_whoAreOut_26 : decode cX7_whoAreOut 26 = .ok (.ishl, 1) := by decide +kernel
theorem dX7_whoAreOut_27 : decode cX7_whoAreOut 27 = .ok (.ior, 1) := by decide +kernel
theorem dX7_whoAreOut_28 : decode cX7_whoAreOut 28 = .ok (.istore_n 1, 1) := by decide +kernel
theorem dX7_whoAreOut_29 : decode cX7_whoAreOut 29 = .ok (.iinc 2 1, 3) := by decide +kernel
theorem dX7_whoAreOut_32 : decode cX7_whoAreOut 32 = .ok (.goto (-28), 3) := by decide +kernel
theorem dX7_whoAreOut_35 : decode cX7_whoAreOut 35 = .ok (.iload_n 1, 1) := by decide +kernel
theorem dX7_whoAreOut_36 : decode cX7_whoAreOut 36 = .ok (.ireturn, 1) := by decide +kernel
theorem dX7_runOne_0 : decode cX7_runOne 0 = .ok (.aload_n 0, 1) := by decide +kernel
theorem dX7_runOne_1 : decode cX7_runOne 1 = .ok (.getfield 25, 3) := by decide +kernel
theorem dX7_runOne_4 : decode cX7_runOne 4 = .ok (.bipush 100, 2) := by decide +kernel
theorem dX7_runOne_6 : decode cX7_runOne 6 = .ok (.if_icmp .lt 4, 3) := by decide +kernel
theorem dX7_runOne_9 : decode cX7_runOne 9 = .ok (.return_, 1) := by decide +kernel
theorem dX7_runOne_10 : decode cX7_runOne 10 = .ok (.aload_n 0, 1) := by decide +kernel
theorem dX7_runOne_11 : decode cX7_runOne 11 = .ok (.invokevirtual 48, 3) := by decide +kernel
theorem dX7_runOne_14 : decode cX7_runOne 14 = .ok (.istore_n 2, 1) := by decide +kernel
theorem dX7_runOne_15 : decode cX7_runOne 15 = .ok (.aload_n 0, 1) := by decide +kernel
theorem dX7_runOne_16 : decode cX7_runOne 16 = .ok (.getfield 11, 3) := by decide +kernel
theorem dX7_runOne_19 : decode cX7_runOne 19 = .ok (.aload_n 0, 1) := by decide +kernel
theorem dX7_runOne_20 : decode cX7_runOne 20 = .ok (.getfield 25, 3) := by decide +kernel
theorem dX7_runOne_23 : decode cX7_runOne 23 = .ok (.iconst (-1), 1) := by decide +kernel
theorem dX7_runOne_24 : decode cX7_runOne 24 = .ok (.iastore, 1) := by decide +kernel
theorem dX7_runOne_25 : decode cX7_runOne 25 = .ok (.aload_n 0, 1) := by decide +kernel
theorem dX7_runOne_26 : decode cX7_runOne 26 = .ok (.getfield 15, 3) := by decide +kernel
theorem dX7_runOne_29 : decode cX7_runOne 29 = .ok (.aload_n 0, 1) := by decide +kernel
theorem dX7_runOne_30 : decode cX7_runOne 30 = .ok (.getfield 25, 3) := by decide +kernel
theorem dX7_runOne_33 : decode cX7_runOne 33 = .ok (.iconst 0, 1) := by decide +kernel
theorem dX7_runOne_34 : decode cX7_runOne 34 = .ok (.iastore, 1) := by decide +kernel
theorem dX7_runOne_35 : decode cX7_runOne 35 = .ok (.iload_n 2, 1) := by decide +kernel
theorem dX7_runOne_36 : decode cX7_runOne 36 = .ok (.aload_n 1, 1) := by decide +kernel
theorem dX7_runOne_37 : decode cX7_runOne 37 = .ok (.getfield 52, 3) := by decide +kernel
theorem dX7_runOne_40 : decode cX7_runOne 40 = .ok (.getfield 58, 3) := by decide +kernel
theorem dX7_runOne_43 : decode cX7_runOne 43 = .ok (.ishr, 1) := by decide +kernel
theorem dX7_runOne_44 : decode cX7_runOne 44 = .ok (.iconst 1, 1) := by decide +kernel
theorem dX7_runOne_45 : decode cX7_runOne 45 = .ok (.iand, 1) := by decide +kernel
theorem dX7_runOne_46 : decode cX7_runOne 46 = .ok (.ifCond .ne 61, 3) := by decide +kernel
theorem dX7_runOne_49 : decode cX7_runOne 49 = .ok (.iconst 0, 1) := by decide +kernel
theorem dX7_runOne_50 : decode cX7_runOne 50 = .ok (.istore_n 3, 1) := by decide +kernel
theorem dX7_runOne_51 : decode cX7_runOne 51 = .ok (.iconst 1, 1) := by decide +kernel
theorem dX7_runOne_52 : decode cX7_runOne 52 = .ok (.istore 4, 2) := by decide +kernel
theorem dX7_runOne_54 : decode cX7_runOne 54 = .ok (.iload 4, 2) := by decide +kernel
theorem dX7_runOne_56 : decode cX7_runOne 56 = .ok (.bipush 12, 2) := by decide +kernel
theorem dX7_runOne_58 : decode cX7_runOne 58 = .ok (.if_icmp .ge 29, 3) := by decide +kernel
theorem dX7_runOne_61 : decode cX7_runOne 61 = .ok (.aload_n 0, 1) := by decide +kernel
theorem dX7_runOne_62 : decode cX7_runOne 62 = .ok (.aload_n 1, 1) := by decide +kernel
theorem dX7_runOne_63 : decode cX7_runOne 63 = .ok (.iload_n 3, 1) := by decide +kernel
theorem dX7_runOne_64 : decode cX7_runOne 64 = .ok (.iload_n 2, 1) := by decide +kernel
theorem dX7_runOne_65 : decode cX7_runOne 65 = .ok (.invokevirtual 63, 3) := by decide +kernel
theorem dX7_runOne_68 : decode cX7_runOne 68 = .ok (.istore 5, 2) := by decide +kernel
theorem dX7_runOne_70 : decode cX7_runOne 70 = .ok (.iload 5, 2) := by decide +kernel
theorem dX7_runOne_72 : decode cX7_runOne 72 = .ok (.ifCond .ge 6, 3) := by decide +kernel
theorem dX7_runOne_75 : decode cX7_runOne 75 = .ok (.goto 12, 3) := by decide +kernel
theorem dX7_runOne_78 : decode cX7_runOne 78 = .ok (.iload 5, 2) := by decide +kernel
theorem dX7_runOne_80 : decode cX7_runOne 80 = .ok (.istore_n 3, 1) := by decide +kernel
theorem dX7_runOne_81 : decode cX7_runOne 81 = .ok (.iinc 4 1, 3) := by decide +kernel
theorem dX7_runOne_84 : decode cX7_runOne 84 = .ok (.goto (-30), 3) := by decide +kernel
theorem dX7_runOne_87 : decode cX7_runOne 87 = .ok (.aload_n 0, 1) := by decide +kernel
theorem dX7_runOne_88 : decode cX7_runOne 88 = .ok (.aload_n 1, 1) := by decide +kernel
theorem dX7_runOne_89 : decode cX7_runOne 89 = .ok (.getfield 67, 3) := by decide +kernel
theorem dX7_runOne_92 : decode cX7_runOne 92 = .ok (.getfield 71, 3) := by decide +kernel
theorem dX7_runOne_95 : decode cX7_runOne 95 = .ok (.iload_n 3, 1) := by decide +kernel
theorem dX7_runOne_96 : decode cX7_runOne 96 = .ok (.laload, 1) := by decide +kernel
theorem dX7_runOne_97 : decode cX7_runOne 97 = .ok (.aload_n 1, 1) := by decide +kernel
theorem dX7_runOne_98 : decode cX7_runOne 98 = .ok (.getfield 52, 3) := by decide +kernel
theorem dX7_runOne_101 : decode cX7_runOne 101 = .ok (.getfield 77, 3) := by decide +kernel
theorem dX7_runOne_104 : decode cX7_runOne 104 = .ok (.invokevirtual 79, 3) := by decide +kernel
theorem dX7_runOne_107 : decode cX7_runOne 107 = .ok (.aload_n 0, 1) := by decide +kernel
theorem dX7_runOne_108 : decode cX7_runOne 108 = .ok (.dup, 1) := by decide +kernel
theorem dX7_runOne_109 : decode cX7_runOne 109 = .ok (.getfield 25, 3) := by decide +kernel
theorem dX7_runOne_112 : decode cX7_runOne 112 = .ok (.iconst 1, 1) := by decide +kernel
theorem dX7_runOne_113 : decode cX7_runOne 113 = .ok (.iadd, 1) := by decide +kernel
theorem dX7_runOne_114 : decode cX7_runOne 114 = .ok (.putfield 25, 3) := by decide +kernel
theorem dX7_runOne_117 : decode cX7_runOne 117 = .ok (.return_, 1) := by decide +kernel
theorem dX7_noteOpened_0 : decode cX7_noteOpened 0 = .ok (.lload_n 1, 1) := by decide +kernel
theorem dX7_noteOpened_1 : decode cX7_noteOpened 1 = .ok (.invokestatic 83, 3) := by decide +kernel
theorem dX7_noteOpened_4 : decode cX7_noteOpened 4 = .ok (.istore 4, 2) := by decide +kernel
theorem dX7_noteOpened_6 : decode cX7_noteOpened 6 = .ok (.aload_n 0, 1) := by decide +kernel
theorem dX7_noteOpened_7 : decode cX7_noteOpened 7 = .ok (.getfield 11, 3) := by decide +kernel
theorem dX7_noteOpened_10 : decode cX7_noteOpened 10 = .ok (.aload_n 0, 1) := by decide +kernel
theorem dX7_noteOpened_11 : decode cX7_noteOpened 11 = .ok (.getfield 25, 3) := by decide +kernel
theorem dX7_noteOpened_14 : decode cX7_noteOpened 14 = .ok (.iload 4, 2) := by decide +kernel
theorem dX7_noteOpened_16 : decode cX7_noteOpened 16 = .ok (.iastore, 1) := by decide +kernel
theorem dX7_noteOpened_17 : decode cX7_noteOpened 17 = .ok (.aload_n 0, 1) := by decide +kernel
theorem dX7_noteOpened_18 : decode cX7_noteOpened 18 = .ok (.getfield 15, 3) := by decide +kernel
theorem dX7_noteOpened_21 : decode cX7_noteOpened 21 = .ok (.aload_n 0, 1) := by decide +kernel
theorem dX7_noteOpened_22 : decode cX7_noteOpened 22 = .ok (.getfield 25, 3) := by decide +kernel
theorem dX7_noteOpened_25 : decode cX7_noteOpened 25 = .ok (.lload_n 1, 1) := by decide +kernel
theorem dX7_noteOpened_26 : decode cX7_noteOpened 26 = .ok (.invokestatic 87, 3) := by decide +kernel
theorem dX7_noteOpened_29 : decode cX7_noteOpened 29 = .ok (.iastore, 1) := by decide +kernel
theorem dX7_noteOpened_30 : decode cX7_noteOpened 30 = .ok (.aload_n 0, 1) := by decide +kernel
theorem dX7_noteOpened_31 : decode cX7_noteOpened 31 = .ok (.getfield 15, 3) := by decide +kernel
theorem dX7_noteOpened_34 : decode cX7_noteOpened 34 = .ok (.aload_n 0, 1) := by decide +kernel
theorem dX7_noteOpened_35 : decode cX7_noteOpened 35 = .ok (.getfield 25, 3) := by decide +kernel
theorem dX7_noteOpened_38 : decode cX7_noteOpened 38 = .ok (.iaload, 1) := by decide +kernel
theorem dX7_noteOpened_39 : decode cX7_noteOpened 39 = .ok (.iload_n 3, 1) := by decide +kernel
theorem dX7_noteOpened_40 : decode cX7_noteOpened 40 = .ok (.if_icmp .ge 19, 3) := by decide +kernel
theorem dX7_noteOpened_43 : decode cX7_noteOpened 43 = .ok (.aload_n 0, 1) := by decide +kernel
theorem dX7_noteOpened_44 : decode cX7_noteOpened 44 = .ok (.getfield 18, 3) := by decide +kernel
theorem dX7_noteOpened_47 : decode cX7_noteOpened 47 = .ok (.iload 4, 2) := by decide +kernel
theorem dX7_noteOpened_49 : decode cX7_noteOpened 49 = .ok (.aload_n 0, 1) := by decide +kernel
theorem dX7_noteOpened_50 : decode cX7_noteOpened 50 = .ok (.getfield 25, 3) := by decide +kernel
theorem dX7_noteOpened_53 : decode cX7_noteOpened 53 = .ok (.aload_n 0, 1) := by decide +kernel
theorem dX7_noteOpened_54 : decode cX7_noteOpened 54 = .ok (.getfield 32, 3) := by decide +kernel
theorem dX7_noteOpened_57 : decode cX7_noteOpened 57 = .ok (.iadd, 1) := by decide +kernel
theorem dX7_noteOpened_58 : decode cX7_noteOpened 58 = .ok (.iastore, 1) := by decide +kernel
theorem dX7_noteOpened_59 : decode cX7_noteOpened 59 = .ok (.return_, 1) := by decide +kernel
theorem dX7_nodeBehind_0 : decode cX7_nodeBehind 0 = .ok (.aload_n 1, 1) := by decide +kernel
theorem dX7_nodeBehind_1 : decode cX7_nodeBehind 1 = .ok (.getfield 67, 3) := by decide +kernel
theorem dX7_nodeBehind_4 : decode cX7_nodeBehind 4 = .ok (.getfield 90, 3) := by decide +kernel
theorem dX7_nodeBehind_7 : decode cX7_nodeBehind 7 = .ok (.iload_n 2, 1) := by decide +kernel
theorem dX7_nodeBehind_8 : decode cX7_nodeBehind 8 = .ok (.iaload, 1) := by decide +kernel
theorem dX7_nodeBehind_9 : decode cX7_nodeBehind 9 = .ok (.istore 4, 2) := by decide +kernel
theorem dX7_nodeBehind_11 : decode cX7_nodeBehind 11 = .ok (.iload 4, 2) := by decide +kernel
theorem dX7_nodeBehind_13 : decode cX7_nodeBehind 13 = .ok (.ifCond .ne 5, 3) := by decide +kernel
theorem dX7_nodeBehind_16 : decode cX7_nodeBehind 16 = .ok (.iconst (-1), 1) := by decide +kernel
theorem dX7_nodeBehind_17 : decode cX7_nodeBehind 17 = .ok (.ireturn, 1) := by decide +kernel
theorem dX7_nodeBehind_18 : decode cX7_nodeBehind 18 = .ok (.aload_n 1, 1) := by decide +kernel
theorem dX7_nodeBehind_19 : decode cX7_nodeBehind 19 = .ok (.getfield 67, 3) := by decide +kernel
theorem dX7_nodeBehind_22 : decode cX7_nodeBehind 22 = .ok (.getfield 71, 3) := by decide +kernel
theorem dX7_nodeBehind_25 : decode cX7_nodeBehind 25 = .ok (.iload_n 2, 1) := by decide +kernel
theorem dX7_nodeBehind_26 : decode cX7_nodeBehind 26 = .ok (.laload, 1) := by decide +kernel
theorem dX7_nodeBehind_27 : decode cX7_nodeBehind 27 = .ok (.invokestatic 83, 3) := by decide +kernel
theorem dX7_nodeBehind_30 : decode cX7_nodeBehind 30 = .ok (.istore 5, 2) := by decide +kernel
theorem dX7_nodeBehind_32 : decode cX7_nodeBehind 32 = .ok (.aload_n 1, 1) := by decide +kernel
theorem dX7_nodeBehind_33 : decode cX7_nodeBehind 33 = .ok (.getfield 52, 3) := by decide +kernel
theorem dX7_nodeBehind_36 : decode cX7_nodeBehind 36 = .ok (.getfield 93, 3) := by decide +kernel
theorem dX7_nodeBehind_39 : decode cX7_nodeBehind 39 = .ok (.iload 5, 2) := by decide +kernel
theorem dX7_nodeBehind_41 : decode cX7_nodeBehind 41 = .ok (.iaload, 1) := by decide +kernel
theorem dX7_nodeBehind_42 : decode cX7_nodeBehind 42 = .ok (.istore 6, 2) := by decide +kernel
theorem dX7_nodeBehind_44 : decode cX7_nodeBehind 44 = .ok (.iload 6, 2) := by decide +kernel
theorem dX7_nodeBehind_46 : decode cX7_nodeBehind 46 = .ok (.iconst 2, 1) := by decide +kernel
theorem dX7_nodeBehind_47 : decode cX7_nodeBehind 47 = .ok (.if_icmp .ne 25, 3) := by decide +kernel
theorem dX7_nodeBehind_50 : decode cX7_nodeBehind 50 = .ok (.aload_n 0, 1) := by decide +kernel
theorem dX7_nodeBehind_51 : decode cX7_nodeBehind 51 = .ok (.sipush 1000, 3) := by decide +kernel
theorem dX7_nodeBehind_54 : decode cX7_nodeBehind 54 = .ok (.invokevirtual 96, 3) := by decide +kernel
theorem dX7_nodeBehind_57 : decode cX7_nodeBehind 57 = .ok (.aload_n 1, 1) := by decide +kernel
theorem dX7_nodeBehind_58 : decode cX7_nodeBehind 58 = .ok (.getfield 52, 3) := by decide +kernel
theorem dX7_nodeBehind_61 : decode cX7_nodeBehind 61 = .ok (.getfield 100, 3) := by decide +kernel
theorem dX7_nodeBehind_64 : decode cX7_nodeBehind 64 = .ok (.iload 5, 2) := by decide +kernel
theorem dX7_nodeBehind_66 : decode cX7_nodeBehind 66 = .ok (.iaload, 1) := by decide +kernel
theorem dX7_nodeBehind_67 : decode cX7_nodeBehind 67 = .ok (.if_icmp .ge 15, 3) := by decide +kernel
theorem dX7_nodeBehind_70 : decode cX7_nodeBehind 70 = .ok (.iconst (-1), 1) := by decide +kernel
theorem dX7_nodeBehind_71 : decode cX7_nodeBehind 71 = .ok (.ireturn, 1) := by decide +kernel
theorem dX7_nodeBehind_72 : decode cX7_nodeBehind 72 = .ok (.aload_n 1, 1) := by decide +kernel
theorem dX7_nodeBehind_73 : decode cX7_nodeBehind 73 = .ok (.iload_n 2, 1) := by decide +kernel
theorem dX7_nodeBehind_74 : decode cX7_nodeBehind 74 = .ok (.invokevirtual 103, 3) := by decide +kernel
theorem dX7_nodeBehind_77 : decode cX7_nodeBehind 77 = .ok (.ifCond .le 5, 3) := by decide +kernel
theorem dX7_nodeBehind_80 : decode cX7_nodeBehind 80 = .ok (.iconst (-1), 1) := by decide +kernel
theorem dX7_nodeBehind_81 : decode cX7_nodeBehind 81 = .ok (.ireturn, 1) := by decide +kernel
theorem dX7_nodeBehind_82 : decode cX7_nodeBehind 82 = .ok (.iload 6, 2) := by decide +kernel
theorem dX7_nodeBehind_84 : decode cX7_nodeBehind 84 = .ok (.iconst 3, 1) := by decide +kernel
theorem dX7_nodeBehind_85 : decode cX7_nodeBehind 85 = .ok (.if_icmp .ne 11, 3) := by decide +kernel
theorem dX7_nodeBehind_88 : decode cX7_nodeBehind 88 = .ok (.aload_n 1, 1) := by decide +kernel
theorem dX7_nodeBehind_89 : decode cX7_nodeBehind 89 = .ok (.iload_n 2, 1) := by decide +kernel
theorem dX7_nodeBehind_90 : decode cX7_nodeBehind 90 = .ok (.invokevirtual 106, 3) := by decide +kernel
theorem dX7_nodeBehind_93 : decode cX7_nodeBehind 93 = .ok (.goto 5, 3) := by decide +kernel
theorem dX7_nodeBehind_96 : decode cX7_nodeBehind 96 = .ok (.iload 4, 2) := by decide +kernel
theorem dX7_nodeBehind_98 : decode cX7_nodeBehind 98 = .ok (.iload_n 3, 1) := by decide +kernel
theorem dX7_nodeBehind_99 : decode cX7_nodeBehind 99 = .ok (.iconst (-1), 1) := by decide +kernel
theorem dX7_nodeBehind_100 : decode cX7_nodeBehind 100 = .ok (.ixor, 1) := by decide +kernel
theorem dX7_nodeBehind_101 : decode cX7_nodeBehind 101 = .ok (.iand, 1) := by decide +kernel
theorem dX7_nodeBehind_102 : decode cX7_nodeBehind 102 = .ok (.istore 7, 2) := by decide +kernel
theorem dX7_nodeBehind_104 : decode cX7_nodeBehind 104 = .ok (.iload 7, 2) := by decide +kernel
theorem dX7_nodeBehind_106 : decode cX7_nodeBehind 106 = .ok (.ifCond .ne 5, 3) := by decide +kernel
theorem dX7_nodeBehind_109 : decode cX7_nodeBehind 109 = .ok (.iconst (-1), 1) := by decide +kernel
theorem dX7_nodeBehind_110 : decode cX7_nodeBehind 110 = .ok (.ireturn, 1) := by decide +kernel
theorem dX7_nodeBehind_111 : decode cX7_nodeBehind 111 = .ok (.iload 6, 2) := by decide +kernel
theorem dX7_nodeBehind_113 : decode cX7_nodeBehind 113 = .ok (.iconst 3, 1) := by decide +kernel
theorem dX7_nodeBehind_114 : decode cX7_nodeBehind 114 = .ok (.if_icmp .ne 12, 3) := by decide +kernel
theorem dX7_nodeBehind_117 : decode cX7_nodeBehind 117 = .ok (.aload_n 1, 1) := by decide +kernel
theorem dX7_nodeBehind_118 : decode cX7_nodeBehind 118 = .ok (.getfield 109, 3) := by decide +kernel
theorem dX7_nodeBehind_121 : decode cX7_nodeBehind 121 = .ok (.iload_n 2, 1) := by decide +kernel
theorem dX7_nodeBehind_122 : decode cX7_nodeBehind 122 = .ok (.iaload, 1) := by decide +kernel
theorem dX7_nodeBehind_123 : decode cX7_nodeBehind 123 = .ok (.goto 12, 3) := by decide +kernel
theorem dX7_nodeBehind_126 : decode cX7_nodeBehind 126 = .ok (.aload_n 0, 1) := by decide +kernel
theorem dX7_nodeBehind_127 : decode cX7_nodeBehind 127 = .ok (.aload_n 1, 1) := by decide +kernel
theorem dX7_nodeBehind_128 : decode cX7_nodeBehind 128 = .ok (.iload 5, 2) := by decide +kernel
theorem dX7_nodeBehind_130 : decode cX7_nodeBehind 130 = .ok (.iload 7, 2) := by decide +kernel
theorem dX7_nodeBehind_132 : decode cX7_nodeBehind 132 = .ok (.invokevirtual 112, 3) := by decide +kernel
theorem dX7_nodeBehind_135 : decode cX7_nodeBehind 135 = .ok (.istore 8, 2) := by decide +kernel
theorem dX7_nodeBehind_137 : decode cX7_nodeBehind 137 = .ok (.iload 8, 2) := by decide +kernel
theorem dX7_nodeBehind_139 : decode cX7_nodeBehind 139 = .ok (.ifCond .ge 7, 3) := by decide +kernel
theorem dX7_nodeBehind_142 : decode cX7_nodeBehind 142 = .ok (.iconst (-1), 1) := by decide +kernel
theorem dX7_nodeBehind_143 : decode cX7_nodeBehind 143 = .ok (.goto 18, 3) := by decide +kernel
theorem dX7_nodeBehind_146 : decode cX7_nodeBehind 146 = .ok (.aload_n 1, 1) := by decide +kernel
theorem dX7_nodeBehind_147 : decode cX7_nodeBehind 147 = .ok (.getfield 67, 3) := by decide +kernel
theorem dX7_nodeBehind_150 : decode cX7_nodeBehind 150 = .ok (.getfield 115, 3) := by decide +kernel
theorem dX7_nodeBehind_153 : decode cX7_nodeBehind 153 = .ok (.iload_n 2, 1) := by decide +kernel
theorem dX7_nodeBehind_154 : decode cX7_nodeBehind 154 = .ok (.bipush 8, 2) := by decide +kernel
theorem dX7_nodeBehind_156 : decode cX7_nodeBehind 156 = .ok (.imul, 1) := by decide +kernel
theorem dX7_nodeBehind_157 : decode cX7_nodeBehind 157 = .ok (.iload 8, 2) := by decide +kernel
theorem dX7_nodeBehind_159 : decode cX7_nodeBehind 159 = .ok (.iadd, 1) := by decide +kernel
theorem dX7_nodeBehind_160 : decode cX7_nodeBehind 160 = .ok (.iaload, 1) := by decide +kernel
theorem dX7_nodeBehind_161 : decode cX7_nodeBehind 161 = .ok (.ireturn, 1) := by decide +kernel
theorem dX7_drawnOf_0 : decode cX7_drawnOf 0 = .ok (.aload_n 0, 1) := by decide +kernel
theorem dX7_drawnOf_1 : decode cX7_drawnOf 1 = .ok (.aload_n 1, 1) := by decide +kernel
theorem dX7_drawnOf_2 : decode cX7_drawnOf 2 = .ok (.iload_n 2, 1) := by decide +kernel
theorem dX7_drawnOf_3 : decode cX7_drawnOf 3 = .ok (.iload_n 3, 1) := by decide +kernel
theorem dX7_drawnOf_4 : decode cX7_drawnOf 4 = .ok (.invokevirtual 118, 3) := by decide +kernel
theorem dX7_drawnOf_7 : decode cX7_drawnOf 7 = .ok (.invokevirtual 96, 3) := by decide +kernel
theorem dX7_drawnOf_10 : decode cX7_drawnOf 10 = .ok (.istore 4, 2) := by decide +kernel
theorem dX7_drawnOf_12 : decode cX7_drawnOf 12 = .ok (.iconst 0, 1) := by decide +kernel
theorem dX7_drawnOf_13 : decode cX7_drawnOf 13 = .ok (.istore 5, 2) := by decide +kernel
theorem dX7_drawnOf_15 : decode cX7_drawnOf 15 = .ok (.iconst 0, 1) := by decide +kernel
theorem dX7_drawnOf_16 : decode cX7_drawnOf 16 = .ok (.istore 6, 2) := by decide +kernel
theorem dX7_drawnOf_18 : decode cX7_drawnOf 18 = .ok (.iload 6, 2) := by decide +kernel
theorem dX7_drawnOf_20 : decode cX7_drawnOf 20 = .ok (.bipush 8, 2) := by decide +kernel
theorem dX7_drawnOf_22 : decode cX7_drawnOf 22 = .ok (.if_icmp .ge 40, 3) := by decide +kernel
theorem dX7_drawnOf_25 : decode cX7_drawnOf 25 = .ok (.iload_n 3, 1) := by decide +kernel
theorem dX7_drawnOf_26 : decode cX7_drawnOf 26 = .ok (.iload 6, 2) := by decide +kernel
theorem dX7_drawnOf_28 : decode cX7_drawnOf 28 = .ok (.ishr, 1) := by decide +kernel
theorem dX7_drawnOf_29 : decode cX7_drawnOf 29 = .ok (.iconst 1, 1) := by decide +kernel
theorem dX7_drawnOf_30 : decode cX7_drawnOf 30 = .ok (.iand, 1) := by decide +kernel
theorem dX7_drawnOf_31 : decode cX7_drawnOf 31 = .ok (.ifCond .eq 25, 3) := by decide +kernel
theorem dX7_drawnOf_34 : decode cX7_drawnOf 34 = .ok (.iload 5, 2) := by decide +kernel
theorem dX7_drawnOf_36 : decode cX7_drawnOf 36 = .ok (.aload_n 1, 1) := by decide +kernel
theorem dX7_drawnOf_37 : decode cX7_drawnOf 37 = .ok (.iload_n 2, 1) := by decide +kernel
theorem dX7_drawnOf_38 : decode cX7_drawnOf 38 = .ok (.iload 6, 2) := by decide +kernel
theorem dX7_drawnOf_40 : decode cX7_drawnOf 40 = .ok (.invokevirtual 122, 3) := by decide +kernel
theorem dX7_drawnOf_43 : decode cX7_drawnOf 43 = .ok (.iadd, 1) := by decide +kernel
theorem dX7_drawnOf_44 : decode cX7_drawnOf 44 = .ok (.istore 5, 2) := by decide +kernel
theorem dX7_drawnOf_46 : decode cX7_drawnOf 46 = .ok (.iload 5, 2) := by decide +kernel
theorem dX7_drawnOf_48 : decode cX7_drawnOf 48 = .ok (.iload 4, 2) := by decide +kernel
theorem dX7_drawnOf_50 : decode cX7_drawnOf 50 = .ok (.if_icmp .le 6, 3) := by decide +kernel
theorem dX7_drawnOf_53 : decode cX7_drawnOf 53 = .ok (.iload 6, 2) := by decide +kernel
theorem dX7_drawnOf_55 : decode cX7_drawnOf 55 = .ok (.ireturn, 1) := by decide +kernel
theorem dX7_drawnOf_56 : decode cX7_drawnOf 56 = .ok (.iinc 6 1, 3) := by decide +kernel
theorem dX7_drawnOf_59 : decode cX7_drawnOf 59 = .ok (.goto (-41), 3) := by decide +kernel
theorem dX7_drawnOf_62 : decode cX7_drawnOf 62 = .ok (.iconst (-1), 1) := by decide +kernel
theorem dX7_drawnOf_63 : decode cX7_drawnOf 63 = .ok (.ireturn, 1) := by decide +kernel
