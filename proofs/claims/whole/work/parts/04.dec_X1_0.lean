theorem dX1_init_0 : decode cX1_init 0 = .ok (.aload_n 0, 1) := by decide +kernel
theorem dX1_init_1 : decode cX1_init 1 = .ok (.invokespecial 3, 3) := by decide +kernel
theorem dX1_init_4 : decode cX1_init 4 = .ok (.aload_n 0, 1) := by decide +kernel
theorem dX1_init_5 : decode cX1_init 5 = .ok (.new 9, 3) := by decide +kernel
theorem dX1_init_8 : decode cX1_init 8 = .ok (.dup, 1) := by decide +kernel
theorem dX1_init_9 : decode cX1_init 9 = .ok (.invokespecial 11, 3) := by decide +kernel
theorem dX1_init_12 : decode cX1_init 12 = .ok (.putfield 12, 3) := by decide +kernel
theorem dX1_init_15 : decode cX1_init 15 = .ok (.aload_n 0, 1) := by decide +kernel
theorem dX1_init_16 : decode cX1_init 16 = .ok (.bipush 96, 2) := by decide +kernel
theorem dX1_init_18 : decode cX1_init 18 = .ok (.newarray .long, 2) := by decide +kernel
theorem dX1_init_20 : decode cX1_init 20 = .ok (.putfield 18, 3) := by decide +kernel
theorem dX1_init_23 : decode cX1_init 23 = .ok (.aload_n 0, 1) := by decide +kernel
theorem dX1_init_24 : decode cX1_init 24 = .ok (.bipush 8, 2) := by decide +kernel
theorem dX1_init_26 : decode cX1_init 26 = .ok (.newarray .long, 2) := by decide +kernel
theorem dX1_init_28 : decode cX1_init 28 = .ok (.putfield 22, 3) := by decide +kernel
theorem dX1_init_31 : decode cX1_init 31 = .ok (.aload_n 0, 1) := by decide +kernel
theorem dX1_init_32 : decode cX1_init 32 = .ok (.bipush 8, 2) := by decide +kernel
theorem dX1_init_34 : decode cX1_init 34 = .ok (.newarray .int, 2) := by decide +kernel
theorem dX1_init_36 : decode cX1_init 36 = .ok (.putfield 25, 3) := by decide +kernel
theorem dX1_init_39 : decode cX1_init 39 = .ok (.aload_n 0, 1) := by decide +kernel
theorem dX1_init_40 : decode cX1_init 40 = .ok (.new 29, 3) := by decide +kernel
theorem dX1_init_43 : decode cX1_init 43 = .ok (.dup, 1) := by decide +kernel
theorem dX1_init_44 : decode cX1_init 44 = .ok (.iload_n 1, 1) := by decide +kernel
theorem dX1_init_45 : decode cX1_init 45 = .ok (.iload_n 2, 1) := by decide +kernel
theorem dX1_init_46 : decode cX1_init 46 = .ok (.invokespecial 31, 3) := by decide +kernel
theorem dX1_init_49 : decode cX1_init 49 = .ok (.putfield 34, 3) := by decide +kernel
theorem dX1_init_52 : decode cX1_init 52 = .ok (.aload_n 0, 1) := by decide +kernel
theorem dX1_init_53 : decode cX1_init 53 = .ok (.iload_n 1, 1) := by decide +kernel
theorem dX1_init_54 : decode cX1_init 54 = .ok (.newarray .long, 2) := by decide +kernel
theorem dX1_init_56 : decode cX1_init 56 = .ok (.putfield 38, 3) := by decide +kernel
theorem dX1_init_59 : decode cX1_init 59 = .ok (.aload_n 0, 1) := by decide +kernel
theorem dX1_init_60 : decode cX1_init 60 = .ok (.iload_n 1, 1) := by decide +kernel
theorem dX1_init_61 : decode cX1_init 61 = .ok (.bipush 8, 2) := by decide +kernel
theorem dX1_init_63 : decode cX1_init 63 = .ok (.imul, 1) := by decide +kernel
theorem dX1_init_64 : decode cX1_init 64 = .ok (.newarray .long, 2) := by decide +kernel
theorem dX1_init_66 : decode cX1_init 66 = .ok (.putfield 41, 3) := by decide +kernel
theorem dX1_init_69 : decode cX1_init 69 = .ok (.aload_n 0, 1) := by decide +kernel
theorem dX1_init_70 : decode cX1_init 70 = .ok (.iload_n 1, 1) := by decide +kernel
theorem dX1_init_71 : decode cX1_init 71 = .ok (.newarray .int, 2) := by decide +kernel
theorem dX1_init_73 : decode cX1_init 73 = .ok (.putfield 44, 3) := by decide +kernel
theorem dX1_init_76 : decode cX1_init 76 = .ok (.aload_n 0, 1) := by decide +kernel
theorem dX1_init_77 : decode cX1_init 77 = .ok (.iload_n 1, 1) := by decide +kernel
theorem dX1_init_78 : decode cX1_init 78 = .ok (.newarray .long, 2) := by decide +kernel
theorem dX1_init_80 : decode cX1_init 80 = .ok (.putfield 47, 3) := by decide +kernel
theorem dX1_init_83 : decode cX1_init 83 = .ok (.aload_n 0, 1) := by decide +kernel
theorem dX1_init_84 : decode cX1_init 84 = .ok (.iload_n 1, 1) := by decide +kernel
theorem dX1_init_85 : decode cX1_init 85 = .ok (.newarray .long, 2) := by decide +kernel
theorem dX1_init_87 : decode cX1_init 87 = .ok (.putfield 50, 3) := by decide +kernel
theorem dX1_init_90 : decode cX1_init 90 = .ok (.return_, 1) := by decide +kernel
theorem dX1_forget_0 : decode cX1_forget 0 = .ok (.aload_n 0, 1) := by decide +kernel
theorem dX1_forget_1 : decode cX1_forget 1 = .ok (.iconst 0, 1) := by decide +kernel
theorem dX1_forget_2 : decode cX1_forget 2 = .ok (.putfield 53, 3) := by decide +kernel
theorem dX1_forget_5 : decode cX1_forget 5 = .ok (.aload_n 0, 1) := by decide +kernel
theorem dX1_forget_6 : decode cX1_forget 6 = .ok (.getfield 34, 3) := by decide +kernel
theorem dX1_forget_9 : decode cX1_forget 9 = .ok (.invokevirtual 57, 3) := by decide +kernel
theorem dX1_forget_12 : decode cX1_forget 12 = .ok (.return_, 1) := by decide +kernel
theorem dX1_follow_0 : decode cX1_follow 0 = .ok (.aload_n 0, 1) := by decide +kernel
theorem dX1_follow_1 : decode cX1_follow 1 = .ok (.getfield 53, 3) := by decide +kernel
theorem dX1_follow_4 : decode cX1_follow 4 = .ok (.ifCond .eq 14, 3) := by decide +kernel
theorem dX1_follow_7 : decode cX1_follow 7 = .ok (.aload_n 0, 1) := by decide +kernel
theorem dX1_follow_8 : decode cX1_follow 8 = .ok (.getfield 12, 3) := by decide +kernel
theorem dX1_follow_11 : decode cX1_follow 11 = .ok (.aload_n 1, 1) := by decide +kernel
theorem dX1_follow_12 : decode cX1_follow 12 = .ok (.invokevirtual 60, 3) := by decide +kernel
theorem dX1_follow_15 : decode cX1_follow 15 = .ok (.ifCond .ne 26, 3) := by decide +kernel
theorem dX1_follow_18 : decode cX1_follow 18 = .ok (.aload_n 0, 1) := by decide +kernel
theorem dX1_follow_19 : decode cX1_follow 19 = .ok (.getfield 12, 3) := by decide +kernel
theorem dX1_follow_22 : decode cX1_follow 22 = .ok (.aload_n 1, 1) := by decide +kernel
theorem dX1_follow_23 : decode cX1_follow 23 = .ok (.invokevirtual 64, 3) := by decide +kernel
theorem dX1_follow_26 : decode cX1_follow 26 = .ok (.aload_n 0, 1) := by decide +kernel
theorem dX1_follow_27 : decode cX1_follow 27 = .ok (.iconst 1, 1) := by decide +kernel
theorem dX1_follow_28 : decode cX1_follow 28 = .ok (.putfield 53, 3) := by decide +kernel
theorem dX1_follow_31 : decode cX1_follow 31 = .ok (.aload_n 0, 1) := by decide +kernel
theorem dX1_follow_32 : decode cX1_follow 32 = .ok (.iconst 0, 1) := by decide +kernel
theorem dX1_follow_33 : decode cX1_follow 33 = .ok (.putfield 68, 3) := by decide +kernel
theorem dX1_follow_36 : decode cX1_follow 36 = .ok (.aload_n 0, 1) := by decide +kernel
theorem dX1_follow_37 : decode cX1_follow 37 = .ok (.iconst 0, 1) := by decide +kernel
theorem dX1_follow_38 : decode cX1_follow 38 = .ok (.putfield 71, 3) := by decide +kernel
theorem dX1_follow_41 : decode cX1_follow 41 = .ok (.aload_n 0, 1) := by decide +kernel
theorem dX1_follow_42 : decode cX1_follow 42 = .ok (.getfield 34, 3) := by decide +kernel
theorem dX1_follow_45 : decode cX1_follow 45 = .ok (.aload_n 0, 1) := by decide +kernel
theorem dX1_follow_46 : decode cX1_follow 46 = .ok (.getfield 12, 3) := by decide +kernel
theorem dX1_follow_49 : decode cX1_follow 49 = .ok (.invokevirtual 74, 3) := by decide +kernel
theorem dX1_follow_52 : decode cX1_follow 52 = .ok (.ireturn, 1) := by decide +kernel
theorem dX1_choose_0 : decode cX1_choose 0 = .ok (.aload_n 0, 1) := by decide +kernel
theorem dX1_choose_1 : decode cX1_choose 1 = .ok (.getfield 12, 3) := by decide +kernel
theorem dX1_choose_4 : decode cX1_choose 4 = .ok (.invokevirtual 77, 3) := by decide +kernel
theorem dX1_choose_7 : decode cX1_choose 7 = .ok (.ifCond .eq 8, 3) := by decide +kernel
theorem dX1_choose_10 : decode cX1_choose 10 = .ok (.aload_n 0, 1) := by decide +kernel
theorem dX1_choose_11 : decode cX1_choose 11 = .ok (.iconst 0, 1) := by decide +kernel
theorem dX1_choose_12 : decode cX1_choose 12 = .ok (.invokevirtual 81, 3) := by decide +kernel
theorem dX1_choose_15 : decode cX1_choose 15 = .ok (.return_, 1) := by decide +kernel
theorem dX1_reckon_0 : decode cX1_reckon 0 = .ok (.iload_n 1, 1) := by decide +kernel
theorem dX1_reckon_1 : decode cX1_reckon 1 = .ok (.aload_n 0, 1) := by decide +kernel
theorem dX1_reckon_2 : decode cX1_reckon 2 = .ok (.getfield 12, 3) := by decide +kernel
theorem dX1_reckon_5 : decode cX1_reckon 5 = .ok (.invokevirtual 77, 3) := by decide +kernel
theorem dX1_reckon_8 : decode cX1_reckon 8 = .ok (.ior, 1) := by decide +kernel
theorem dX1_reckon_9 : decode cX1_reckon 9 = .ok (.aload_n 0, 1) := by decide +kernel
theorem dX1_reckon_10 : decode cX1_reckon 10 = .ok (.getfield 12, 3) := by decide +kernel
theorem dX1_reckon_13 : decode cX1_reckon 13 = .ok (.invokevirtual 85, 3) := by decide +kernel
theorem dX1_reckon_16 : decode cX1_reckon 16 = .ok (.iand, 1) := by decide +kernel
theorem dX1_reckon_17 : decode cX1_reckon 17 = .ok (.istore_n 2, 1) := by decide +kernel
theorem dX1_reckon_18 : decode cX1_reckon 18 = .ok (.aload_n 0, 1) := by decide +kernel
theorem dX1_reckon_19 : decode cX1_reckon 19 = .ok (.getfield 71, 3) := by decide +kernel
theorem dX1_reckon_22 : decode cX1_reckon 22 = .ok (.ifCond .eq 15, 3) := by decide +kernel
theorem dX1_reckon_25 : decode cX1_reckon 25 = .ok (.iload_n 2, 1) := by decide +kernel
theorem dX1_reckon_26 : decode cX1_reckon 26 = .ok (.aload_n 0, 1) := by decide +kernel
theorem dX1_reckon_27 : decode cX1_reckon 27 = .ok (.getfield 88, 3) := by decide +kernel
theorem dX1_reckon_30 : decode cX1_reckon 30 = .ok (.iconst (-1), 1) := by decide +kernel
theorem dX1_reckon_31 : decode cX1_reckon 31 = .ok (.ixor, 1) := by decide +kernel
theorem dX1_reckon_32 : decode cX1_reckon 32 = .ok (.iand, 1) := by decide +kernel
theorem dX1_reckon_33 : decode cX1_reckon 33 = .ok (.ifCond .ne 4, 3) := by decide +kernel
theorem dX1_reckon_36 : decode cX1_reckon 36 = .ok (.return_, 1) := by decide +kernel
theorem dX1_reckon_37 : decode cX1_reckon 37 = .ok (.aload_n 0, 1) := by decide +kernel
theorem dX1_reckon_38 : decode cX1_reckon 38 = .ok (.iconst 0, 1) := by decide +kernel
theorem dX1_reckon_39 : decode cX1_reckon 39 = .ok (.putfield 92, 3) := by decide +kernel
theorem dX1_reckon_42 : decode cX1_reckon 42 = .ok (.iconst 0, 1) := by decide +kernel
theorem dX1_reckon_43 : decode cX1_reckon 43 = .ok (.istore_n 3, 1) := by decide +kernel
theorem dX1_reckon_44 : decode cX1_reckon 44 = .ok (.iload_n 3, 1) := by decide +kernel
theorem dX1_reckon_45 : decode cX1_reckon 45 = .ok (.bipush 8, 2) := by decide +kernel
theorem dX1_reckon_47 : decode cX1_reckon 47 = .ok (.if_icmp .ge 37, 3) := by decide +kernel
theorem dX1_reckon_50 : decode cX1_reckon 50 = .ok (.iload_n 2, 1) := by decide +kernel
theorem dX1_reckon_51 : decode cX1_reckon 51 = .ok (.iload_n 3, 1) := by decide +kernel
theorem dX1_reckon_52 : decode cX1_reckon 52 = .ok (.ishr, 1) := by decide +kernel
theorem dX1_reckon_53 : decode cX1_reckon 53 = .ok (.iconst 1, 1) := by decide +kernel
theorem dX1_reckon_54 : decode cX1_reckon 54 = .ok (.iand, 1) := by decide +kernel
theorem dX1_reckon_55 : decode cX1_reckon 55 = .ok (.ifCond .eq 23, 3) := by decide +kernel
theorem dX1_reckon_58 : decode cX1_reckon 58 = .ok (.aload_n 0, 1) := by decide +kernel
theorem dX1_reckon_59 : decode cX1_reckon 59 = .ok (.getfield 25, 3) := by decide +kernel
theorem dX1_reckon_62 : decode cX1_reckon 62 = .ok (.aload_n 0, 1) := by decide +kernel
theorem dX1_reckon_63 : decode cX1_reckon 63 = .ok (.getfield 92, 3) := by decide +kernel
theorem dX1_reckon_66 : decode cX1_reckon 66 = .ok (.iload_n 3, 1) := by decide +kernel
theorem dX1_reckon_67 : decode cX1_reckon 67 = .ok (.iastore, 1) := by decide +kernel
theorem dX1_reckon_68 : decode cX1_reckon 68 = .ok (.aload_n 0, 1) := by decide +kernel
theorem dX1_reckon_69 : decode cX1_reckon 69 = .ok (.dup, 1) := by decide +kernel
theorem dX1_reckon_70 : decode cX1_reckon 70 = .ok (.getfield 92, 3) := by decide +kernel
theorem dX1_reckon_73 : decode cX1_reckon 73 = .ok (.iconst 1, 1) := by decide +kernel
theorem dX1_reckon_74 : decode cX1_reckon 74 = .ok (.iadd, 1) := by decide +kernel
theorem dX1_reckon_75 : decode cX1_reckon 75 = .ok (.putfield 92, 3) := by decide +kernel
theorem dX1_reckon_78 : decode cX1_reckon 78 = .ok (.iinc 3 1, 3) := by decide +kernel
theorem dX1_reckon_81 : decode cX1_reckon 81 = .ok (.goto (-37), 3) := by decide +kernel
theorem dX1_reckon_84 : decode cX1_reckon 84 = .ok (.aload_n 0, 1) := by decide +kernel
theorem dX1_reckon_85 : decode cX1_reckon 85 = .ok (.getfield 34, 3) := by decide +kernel
theorem dX1_reckon_88 : decode cX1_reckon 88 = .ok (.getfield 95, 3) := by decide +kernel
theorem dX1_reckon_91 : decode cX1_reckon 91 = .ok (.iconst 1, 1) := by decide +kernel
theorem dX1_reckon_92 : decode cX1_reckon 92 = .ok (.isub, 1) := by decide +kernel
theorem dX1_reckon_93 : decode cX1_reckon 93 = .ok (.istore_n 3, 1) := by decide +kernel
theorem dX1_reckon_94 : decode cX1_reckon 94 = .ok (.iload_n 3, 1) := by decide +kernel
theorem dX1_reckon_95 : decode cX1_reckon 95 = .ok (.ifCond .lt 14, 3) := by decide +kernel
theorem dX1_reckon_98 : decode cX1_reckon 98 = .ok (.aload_n 0, 1) := by decide +kernel
theorem dX1_reckon_99 : decode cX1_reckon 99 = .ok (.iload_n 3, 1) := by decide +kernel
theorem dX1_reckon_100 : decode cX1_reckon 100 = .ok (.invokevirtual 98, 3) := by decide +kernel
theorem dX1_reckon_103 : decode cX1_reckon 103 = .ok (.iinc 3 (-1), 3) := by decide +kernel
theorem dX1_reckon_106 : decode cX1_reckon 106 = .ok (.goto (-12), 3) := by decide +kernel
theorem dX1_reckon_109 : decode cX1_reckon 109 = .ok (.aload_n 0, 1) := by decide +kernel
theorem dX1_reckon_110 : decode cX1_reckon 110 = .ok (.iconst 1, 1) := by decide +kernel
theorem dX1_reckon_111 : decode cX1_reckon 111 = .ok (.putfield 71, 3) := by decide +kernel
theorem dX1_reckon_114 : decode cX1_reckon 114 = .ok (.aload_n 0, 1) := by decide +kernel
theorem dX1_reckon_115 : decode cX1_reckon 115 = .ok (.iload_n 2, 1) := by decide +kernel
theorem dX1_reckon_116 : decode cX1_reckon 116 = .ok (.putfield 88, 3) := by decide +kernel
theorem dX1_reckon_119 : decode cX1_reckon 119 = .ok (.return_, 1) := by decide +kernel
theorem dX1_reckonHand_0 : decode cX1_reckonHand 0 = .ok (.aload_n 0, 1) := by decide +kernel
theorem dX1_reckonHand_1 : decode cX1_reckonHand 1 = .ok (.getfield 34, 3) := by decide +kernel
theorem dX1_reckonHand_4 : decode cX1_reckonHand 4 = .ok (.getfield 101, 3) := by decide +kernel
theorem dX1_reckonHand_7 : decode cX1_reckonHand 7 = .ok (.iload_n 1, 1) := by decide +kernel
theorem dX1_reckonHand_8 : decode cX1_reckonHand 8 = .ok (.laload, 1) := by decide +kernel
theorem dX1_reckonHand_9 : decode cX1_reckonHand 9 = .ok (.invokestatic 104, 3) := by decide +kernel
theorem dX1_reckonHand_12 : decode cX1_reckonHand 12 = .ok (.istore_n 2, 1) := by decide +kernel
theorem dX1_reckonHand_13 : decode cX1_reckonHand 13 = .ok (.aload_n 0, 1) := by decide +kernel
theorem dX1_reckonHand_14 : decode cX1_reckonHand 14 = .ok (.getfield 12, 3) := by decide +kernel
theorem dX1_reckonHand_17 : decode cX1_reckonHand 17 = .ok (.getfield 108, 3) := by decide +kernel
theorem dX1_reckonHand_20 : decode cX1_reckonHand 20 = .ok (.iload_n 2, 1) := by decide +kernel
theorem dX1_reckonHand_21 : decode cX1_reckonHand 21 = .ok (.iaload, 1) := by decide +kernel
theorem dX1_reckonHand_22 : decode cX1_reckonHand 22 = .ok (.iconst 3, 1) := by decide +kernel
theorem dX1_reckonHand_23 : decode cX1_reckonHand 23 = .ok (.if_icmp .ne 51, 3) := by decide +kernel
theorem dX1_reckonHand_26 : decode cX1_reckonHand 26 = .ok (.aload_n 0, 1) := by decide +kernel
theorem dX1_reckonHand_27 : decode cX1_reckonHand 27 = .ok (.iload_n 1, 1) := by decide +kernel
theorem dX1_reckonHand_28 : decode cX1_reckonHand 28 = .ok (.invokevirtual 111, 3) := by decide +kernel
theorem dX1_reckonHand_31 : decode cX1_reckonHand 31 = .ok (.istore_n 3, 1) := by decide +kernel
theorem dX1_reckonHand_32 : decode cX1_reckonHand 32 = .ok (.iload_n 3, 1) := by decide +kernel
theorem dX1_reckonHand_33 : decode cX1_reckonHand 33 = .ok (.ifCond .lt 22, 3) := by decide +kernel
theorem dX1_reckonHand_36 : decode cX1_reckonHand 36 = .ok (.aload_n 0, 1) := by decide +kernel
theorem dX1_reckonHand_37 : decode cX1_reckonHand 37 = .ok (.iload_n 1, 1) := by decide +kernel
theorem dX1_reckonHand_38 : decode cX1_reckonHand 38 = .ok (.iload_n 3, 1) := by decide +kernel
theorem dX1_reckonHand_39 : decode cX1_reckonHand 39 = .ok (.invokevirtual 115, 3) := by decide +kernel
theorem dX1_reckonHand_42 : decode cX1_reckonHand 42 = .ok (.aload_n 0, 1) := by decide +kernel
theorem dX1_reckonHand_43 : decode cX1_reckonHand 43 = .ok (.iload_n 1, 1) := by decide +kernel
theorem dX1_reckonHand_44 : decode cX1_reckonHand 44 = .ok (.invokevirtual 119, 3) := by decide +kernel
theorem dX1_reckonHand_47 : decode cX1_reckonHand 47 = .ok (.lcmp, 1) := by decide +kernel
theorem dX1_reckonHand_48 : decode cX1_reckonHand 48 = .ok (.ifCond .le 7, 3) := by decide +kernel
theorem dX1_reckonHand_51 : decode cX1_reckonHand 51 = .ok (.iconst 1, 1) := by decide +kernel
theorem dX1_reckonHand_52 : decode cX1_reckonHand 52 = .ok (.goto 4, 3) := by decide +kernel
theorem dX1_reckonHand_55 : decode cX1_reckonHand 55 = .ok (.iconst 0, 1) := by decide +kernel
theorem dX1_reckonHand_56 : decode cX1_reckonHand 56 = .ok (.istore 4, 2) := by decide +kernel
theorem dX1_reckonHand_58 : decode cX1_reckonHand 58 = .ok (.aload_n 0, 1) := by decide +kernel
theorem dX1_reckonHand_59 : decode cX1_reckonHand 59 = .ok (.getfield 44, 3) := by decide +kernel
theorem dX1_reckonHand_62 : decode cX1_reckonHand 62 = .ok (.iload_n 1, 1) := by decide +kernel
theorem dX1_reckonHand_63 : decode cX1_reckonHand 63 = .ok (.iload 4, 2) := by decide +kernel
theorem dX1_reckonHand_65 : decode cX1_reckonHand 65 = .ok (.ifCond .eq 7, 3) := by decide +kernel
theorem dX1_reckonHand_68 : decode cX1_reckonHand 68 = .ok (.iload_n 3, 1) := by decide +kernel
theorem dX1_reckonHand_69 : decode cX1_reckonHand 69 = .ok (.goto 4, 3) := by decide +kernel
theorem dX1_reckonHand_72 : decode cX1_reckonHand 72 = .ok (.iconst (-1), 1) := by decide +kernel
theorem dX1_reckonHand_73 : decode cX1_reckonHand 73 = .ok (.iastore, 1) := by decide +kernel
theorem dX1_reckonHand_74 : decode cX1_reckonHand 74 = .ok (.aload_n 0, 1) := by decide +kernel
theorem dX1_reckonHand_75 : decode cX1_reckonHand 75 = .ok (.iload_n 1, 1) := by decide +kernel
theorem dX1_reckonHand_76 : decode cX1_reckonHand 76 = .ok (.invokevirtual 123, 3) := by decide +kernel
theorem dX1_reckonHand_79 : decode cX1_reckonHand 79 = .ok (.istore_n 3, 1) := by decide +kernel
theorem dX1_reckonHand_80 : decode cX1_reckonHand 80 = .ok (.iload_n 3, 1) := by decide +kernel
theorem dX1_reckonHand_81 : decode cX1_reckonHand 81 = .ok (.sipush 1000, 3) := by decide +kernel
theorem dX1_reckonHand_84 : decode cX1_reckonHand 84 = .ok (.if_icmp .lt 12, 3) := by decide +kernel
theorem dX1_reckonHand_87 : decode cX1_reckonHand 87 = .ok (.aload_n 0, 1) := by decide +kernel
theorem dX1_reckonHand_88 : decode cX1_reckonHand 88 = .ok (.iload_n 1, 1) := by decide +kernel
theorem dX1_reckonHand_89 : decode cX1_reckonHand 89 = .ok (.iload_n 2, 1) := by decide +kernel
theorem dX1_reckonHand_90 : decode cX1_reckonHand 90 = .ok (.invokevirtual 126, 3) := by decide +kernel
theorem dX1_reckonHand_93 : decode cX1_reckonHand 93 = .ok (.goto 10, 3) := by decide +kernel
theorem dX1_reckonHand_96 : decode cX1_reckonHand 96 = .ok (.aload_n 0, 1) := by decide +kernel
theorem dX1_reckonHand_97 : decode cX1_reckonHand 97 = .ok (.iload_n 1, 1) := by decide +kernel
theorem dX1_reckonHand_98 : decode cX1_reckonHand 98 = .ok (.iload_n 2, 1) := by decide +kernel
theorem dX1_reckonHand_99 : decode cX1_reckonHand 99 = .ok (.iload_n 3, 1) := by decide +kernel
theorem dX1_reckonHand_100 : decode cX1_reckonHand 100 = .ok (.invokevirtual 129, 3) := by decide +kernel
theorem dX1_reckonHand_103 : decode cX1_reckonHand 103 = .ok (.return_, 1) := by decide +kernel
theorem dX1_reckonOpened_0 : decode cX1_reckonOpened 0 = .ok (.aload_n 0, 1) := by decide +kernel
theorem dX1_reckonOpened_1 : decode cX1_reckonOpened 1 = .ok (.getfield 34, 3) := by decide +kernel
theorem dX1_reckonOpened_4 : decode cX1_reckonOpened 4 = .ok (.getfield 101, 3) := by decide +kernel
theorem dX1_reckonOpened_7 : decode cX1_reckonOpened 7 = .ok (.iload_n 1, 1) := by decide +kernel
theorem dX1_reckonOpened_8 : decode cX1_reckonOpened 8 = .ok (.laload, 1) := by decide +kernel
theorem dX1_reckonOpened_9 : decode cX1_reckonOpened 9 = .ok (.invokestatic 133, 3) := by decide +kernel
theorem dX1_reckonOpened_12 : decode cX1_reckonOpened 12 = .ok (.istore_n 3, 1) := by decide +kernel
theorem dX1_reckonOpened_13 : decode cX1_reckonOpened 13 = .ok (.iload_n 3, 1) := by decide +kernel
theorem dX1_reckonOpened_14 : decode cX1_reckonOpened 14 = .ok (.aload_n 0, 1) := by decide +kernel
theorem dX1_reckonOpened_15 : decode cX1_reckonOpened 15 = .ok (.getfield 12, 3) := by decide +kernel
theorem dX1_reckonOpened_18 : decode cX1_reckonOpened 18 = .ok (.getfield 136, 3) := by decide +kernel
theorem dX1_reckonOpened_21 : decode cX1_reckonOpened 21 = .ok (.if_icmp .ne 7, 3) := by decide +kernel
theorem dX1_reckonOpened_24 : decode cX1_reckonOpened 24 = .ok (.iconst 1, 1) := by decide +kernel
theorem dX1_reckonOpened_25 : decode cX1_reckonOpened 25 = .ok (.goto 4, 3) := by decide +kernel
theorem dX1_reckonOpened_28 : decode cX1_reckonOpened 28 = .ok (.iconst 0, 1) := by decide +kernel
theorem dX1_reckonOpened_29 : decode cX1_reckonOpened 29 = .ok (.istore 4, 2) := by decide +kernel
theorem dX1_reckonOpened_31 : decode cX1_reckonOpened 31 = .ok (.iconst 0, 1) := by decide +kernel
theorem dX1_reckonOpened_32 : decode cX1_reckonOpened 32 = .ok (.istore 5, 2) := by decide +kernel
theorem dX1_reckonOpened_34 : decode cX1_reckonOpened 34 = .ok (.iload 5, 2) := by decide +kernel
theorem dX1_reckonOpened_36 : decode cX1_reckonOpened 36 = .ok (.aload_n 0, 1) := by decide +kernel
theorem dX1_reckonOpened_37 : decode cX1_reckonOpened 37 = .ok (.getfield 92, 3) := by decide +kernel
theorem dX1_reckonOpened_40 : decode cX1_reckonOpened 40 = .ok (.if_icmp .ge 27, 3) := by decide +kernel
theorem dX1_reckonOpened_43 : decode cX1_reckonOpened 43 = .ok (.aload_n 0, 1) := by decide +kernel
theorem dX1_reckonOpened_44 : decode cX1_reckonOpened 44 = .ok (.getfield 41, 3) := by decide +kernel
theorem dX1_reckonOpened_47 : decode cX1_reckonOpened 47 = .ok (.iload_n 1, 1) := by decide +kernel
theorem dX1_reckonOpened_48 : decode cX1_reckonOpened 48 = .ok (.bipush 8, 2) := by decide +kernel
theorem dX1_reckonOpened_50 : decode cX1_reckonOpened 50 = .ok (.imul, 1) := by decide +kernel
theorem dX1_reckonOpened_51 : decode cX1_reckonOpened 51 = .ok (.aload_n 0, 1) := by decide +kernel
theorem dX1_reckonOpened_52 : decode cX1_reckonOpened 52 = .ok (.getfield 25, 3) := by decide +kernel
theorem dX1_reckonOpened_55 : decode cX1_reckonOpened 55 = .ok (.iload 5, 2) := by decide +kernel
theorem dX1_reckonOpened_57 : decode cX1_reckonOpened 57 = .ok (.iaload, 1) := by decide +kernel
theorem dX1_reckonOpened_58 : decode cX1_reckonOpened 58 = .ok (.iadd, 1) := by decide +kernel
theorem dX1_reckonOpened_59 : decode cX1_reckonOpened 59 = .ok (.lconst 0, 1) := by decide +kernel
theorem dX1_reckonOpened_60 : decode cX1_reckonOpened 60 = .ok (.lastore, 1) := by decide +kernel
theorem dX1_reckonOpened_61 : decode cX1_reckonOpened 61 = .ok (.iinc 5 1, 3) := by decide +kernel
theorem dX1_reckonOpened_64 : decode cX1_reckonOpened 64 = .ok (.goto (-30), 3) := by decide +kernel
theorem dX1_reckonOpened_67 : decode cX1_reckonOpened 67 = .ok (.aload_n 0, 1) := by decide +kernel
theorem dX1_reckonOpened_68 : decode cX1_reckonOpened 68 = .ok (.getfield 41, 3) := by decide +kernel
theorem dX1_reckonOpened_71 : decode cX1_reckonOpened 71 = .ok (.iload_n 1, 1) := by decide +kernel
theorem dX1_reckonOpened_72 : decode cX1_reckonOpened 72 = .ok (.bipush 8, 2) := by decide +kernel
theorem dX1_reckonOpened_74 : decode cX1_reckonOpened 74 = .ok (.imul, 1) := by decide +kernel
theorem dX1_reckonOpened_75 : decode cX1_reckonOpened 75 = .ok (.iload_n 2, 1) := by decide +kernel
theorem dX1_reckonOpened_76 : decode cX1_reckonOpened 76 = .ok (.iadd, 1) := by decide +kernel
theorem dX1_reckonOpened_77 : decode cX1_reckonOpened 77 = .ok (.ldc2_w 139, 3) := by decide +kernel
theorem dX1_reckonOpened_80 : decode cX1_reckonOpened 80 = .ok (.aload_n 0, 1) := by decide +kernel
theorem dX1_reckonOpened_81 : decode cX1_reckonOpened 81 = .ok (.getfield 12, 3) := by decide +kernel
theorem dX1_reckonOpened_84 : decode cX1_reckonOpened 84 = .ok (.iload_n 3, 1) := by decide +kernel
theorem dX1_reckonOpened_85 : decode cX1_reckonOpened 85 = .ok (.invokevirtual 141, 3) := by decide +kernel
theorem dX1_reckonOpened_88 : decode cX1_reckonOpened 88 = .ok (.iload 4, 2) := by decide +kernel
theorem dX1_reckonOpened_90 : decode cX1_reckonOpened 90 = .ok (.ifCond .eq 13, 3) := by decide +kernel
theorem dX1_reckonOpened_93 : decode cX1_reckonOpened 93 = .ok (.aload_n 0, 1) := by decide +kernel
theorem dX1_reckonOpened_94 : decode cX1_reckonOpened 94 = .ok (.getfield 12, 3) := by decide +kernel
theorem dX1_reckonOpened_97 : decode cX1_reckonOpened 97 = .ok (.getfield 144, 3) := by decide +kernel
theorem dX1_reckonOpened_100 : decode cX1_reckonOpened 100 = .ok (.goto 4, 3) := by decide +kernel
theorem dX1_reckonOpened_103 : decode cX1_reckonOpened 103 = .ok (.iconst 0, 1) := by decide +kernel
theorem dX1_reckonOpened_104 : decode cX1_reckonOpened 104 = .ok (.iadd, 1) := by decide +kernel
theorem dX1_reckonOpened_105 : decode cX1_reckonOpened 105 = .ok (.i2l, 1) := by decide +kernel
theorem dX1_reckonOpened_106 : decode cX1_reckonOpened 106 = .ok (.lmul, 1) := by decide +kernel
theorem dX1_reckonOpened_107 : decode cX1_reckonOpened 107 = .ok (.lastore, 1) := by decide +kernel
theorem dX1_reckonOpened_108 : decode cX1_reckonOpened 108 = .ok (.aload_n 0, 1) := by decide +kernel
theorem dX1_reckonOpened_109 : decode cX1_reckonOpened 109 = .ok (.getfield 38, 3) := by decide +kernel
theorem dX1_reckonOpened_112 : decode cX1_reckonOpened 112 = .ok (.iload_n 1, 1) := by decide +kernel
theorem dX1_reckonOpened_113 : decode cX1_reckonOpened 113 = .ok (.iload 4, 2) := by decide +kernel
theorem dX1_reckonOpened_115 : decode cX1_reckonOpened 115 = .ok (.ifCond .eq 9, 3) := by decide +kernel
theorem dX1_reckonOpened_118 : decode cX1_reckonOpened 118 = .ok (.ldc2_w 147, 3) := by decide +kernel
theorem dX1_reckonOpened_121 : decode cX1_reckonOpened 121 = .ok (.goto 4, 3) := by decide +kernel
theorem dX1_reckonOpened_124 : decode cX1_reckonOpened 124 = .ok (.lconst 0, 1) := by decide +kernel
theorem dX1_reckonOpened_125 : decode cX1_reckonOpened 125 = .ok (.lastore, 1) := by decide +kernel
theorem dX1_reckonOpened_126 : decode cX1_reckonOpened 126 = .ok (.return_, 1) := by decide +kernel
theorem dX1_reckonSent_0 : decode cX1_reckonSent 0 = .ok (.lconst 0, 1) := by decide +kernel
theorem dX1_reckonSent_1 : decode cX1_reckonSent 1 = .ok (.lstore 4, 2) := by decide +kernel
theorem dX1_reckonSent_3 : decode cX1_reckonSent 3 = .ok (.lconst 0, 1) := by decide +kernel
theorem dX1_reckonSent_4 : decode cX1_reckonSent 4 = .ok (.lstore 6, 2) := by decide +kernel
theorem dX1_reckonSent_6 : decode cX1_reckonSent 6 = .ok (.aload_n 0, 1) := by decide +kernel
theorem dX1_reckonSent_7 : decode cX1_reckonSent 7 = .ok (.getfield 22, 3) := by decide +kernel
theorem dX1_reckonSent_10 : decode cX1_reckonSent 10 = .ok (.lconst 0, 1) := by decide +kernel
theorem dX1_reckonSent_11 : decode cX1_reckonSent 11 = .ok (.invokestatic 149, 3) := by decide +kernel
theorem dX1_reckonSent_14 : decode cX1_reckonSent 14 = .ok (.aload_n 0, 1) := by decide +kernel
theorem dX1_reckonSent_15 : decode cX1_reckonSent 15 = .ok (.iload_n 1, 1) := by decide +kernel
theorem dX1_reckonSent_16 : decode cX1_reckonSent 16 = .ok (.invokevirtual 155, 3) := by decide +kernel
theorem dX1_reckonSent_19 : decode cX1_reckonSent 19 = .ok (.istore 8, 2) := by decide +kernel
theorem dX1_reckonSent_21 : decode cX1_reckonSent 21 = .ok (.iconst 0, 1) := by decide +kernel
theorem dX1_reckonSent_22 : decode cX1_reckonSent 22 = .ok (.istore 9, 2) := by decide +kernel
theorem dX1_reckonSent_24 : decode cX1_reckonSent 24 = .ok (.iload 9, 2) := by decide +kernel
theorem dX1_reckonSent_26 : decode cX1_reckonSent 26 = .ok (.bipush 8, 2) := by decide +kernel
theorem dX1_reckonSent_28 : decode cX1_reckonSent 28 = .ok (.if_icmp .ge 158, 3) := by decide +kernel
theorem dX1_reckonSent_31 : decode cX1_reckonSent 31 = .ok (.aload_n 0, 1) := by decide +kernel
theorem dX1_reckonSent_32 : decode cX1_reckonSent 32 = .ok (.getfield 34, 3) := by decide +kernel
theorem dX1_reckonSent_35 : decode cX1_reckonSent 35 = .ok (.getfield 158, 3) := by decide +kernel
theorem dX1_reckonSent_38 : decode cX1_reckonSent 38 = .ok (.iload_n 1, 1) := by decide +kernel
theorem dX1_reckonSent_39 : decode cX1_reckonSent 39 = .ok (.bipush 8, 2) := by decide +kernel
theorem dX1_reckonSent_41 : decode cX1_reckonSent 41 = .ok (.imul, 1) := by decide +kernel
theorem dX1_reckonSent_42 : decode cX1_reckonSent 42 = .ok (.iload 9, 2) := by decide +kernel
theorem dX1_reckonSent_44 : decode cX1_reckonSent 44 = .ok (.iadd, 1) := by decide +kernel
theorem dX1_reckonSent_45 : decode cX1_reckonSent 45 = .ok (.iaload, 1) := by decide +kernel
theorem dX1_reckonSent_46 : decode cX1_reckonSent 46 = .ok (.istore 10, 2) := by decide +kernel
theorem dX1_reckonSent_48 : decode cX1_reckonSent 48 = .ok (.iload 8, 2) := by decide +kernel
theorem dX1_reckonSent_50 : decode cX1_reckonSent 50 = .ok (.iload 9, 2) := by decide +kernel
theorem dX1_reckonSent_52 : decode cX1_reckonSent 52 = .ok (.ishr, 1) := by decide +kernel
theorem dX1_reckonSent_53 : decode cX1_reckonSent 53 = .ok (.iconst 1, 1) := by decide +kernel
theorem dX1_reckonSent_54 : decode cX1_reckonSent 54 = .ok (.iand, 1) := by decide +kernel
theorem dX1_reckonSent_55 : decode cX1_reckonSent 55 = .ok (.ifCond .eq 125, 3) := by decide +kernel
theorem dX1_reckonSent_58 : decode cX1_reckonSent 58 = .ok (.iload 10, 2) := by decide +kernel
theorem dX1_reckonSent_60 : decode cX1_reckonSent 60 = .ok (.ifCond .lt 120, 3) := by decide +kernel
theorem dX1_reckonSent_63 : decode cX1_reckonSent 63 = .ok (.aload_n 0, 1) := by decide +kernel
theorem dX1_reckonSent_64 : decode cX1_reckonSent 64 = .ok (.iload_n 2, 1) := by decide +kernel
theorem dX1_reckonSent_65 : decode cX1_reckonSent 65 = .ok (.iload 9, 2) := by decide +kernel
theorem dX1_reckonSent_67 : decode cX1_reckonSent 67 = .ok (.invokevirtual 161, 3) := by decide +kernel
theorem dX1_reckonSent_70 : decode cX1_reckonSent 70 = .ok (.i2l, 1) := by decide +kernel
theorem dX1_reckonSent_71 : decode cX1_reckonSent 71 = .ok (.lstore 11, 2) := by decide +kernel
theorem dX1_reckonSent_73 : decode cX1_reckonSent 73 = .ok (.lload 4, 2) := by decide +kernel
theorem dX1_reckonSent_75 : decode cX1_reckonSent 75 = .ok (.lload 11, 2) := by decide +kernel
theorem dX1_reckonSent_77 : decode cX1_reckonSent 77 = .ok (.ladd, 1) := by decide +kernel
theorem dX1_reckonSent_78 : decode cX1_reckonSent 78 = .ok (.lstore 4, 2) := by decide +kernel
theorem dX1_reckonSent_80 : decode cX1_reckonSent 80 = .ok (.lload 6, 2) := by decide +kernel
theorem dX1_reckonSent_82 : decode cX1_reckonSent 82 = .ok (.lload 11, 2) := by decide +kernel
theorem dX1_reckonSent_84 : decode cX1_reckonSent 84 = .ok (.aload_n 0, 1) := by decide +kernel
theorem dX1_reckonSent_85 : decode cX1_reckonSent 85 = .ok (.getfield 38, 3) := by decide +kernel
theorem dX1_reckonSent_88 : decode cX1_reckonSent 88 = .ok (.iload 10, 2) := by decide +kernel
theorem dX1_reckonSent_90 : decode cX1_reckonSent 90 = .ok (.laload, 1) := by decide +kernel
theorem dX1_reckonSent_91 : decode cX1_reckonSent 91 = .ok (.lmul, 1) := by decide +kernel
theorem dX1_reckonSent_92 : decode cX1_reckonSent 92 = .ok (.ladd, 1) := by decide +kernel
theorem dX1_reckonSent_93 : decode cX1_reckonSent 93 = .ok (.lstore 6, 2) := by decide +kernel
theorem dX1_reckonSent_95 : decode cX1_reckonSent 95 = .ok (.iconst 0, 1) := by decide +kernel
theorem dX1_reckonSent_96 : decode cX1_reckonSent 96 = .ok (.istore 13, 2) := by decide +kernel
theorem dX1_reckonSent_98 : decode cX1_reckonSent 98 = .ok (.iload 13, 2) := by decide +kernel
theorem dX1_reckonSent_100 : decode cX1_reckonSent 100 = .ok (.aload_n 0, 1) := by decide +kernel
theorem dX1_reckonSent_101 : decode cX1_reckonSent 101 = .ok (.getfield 92, 3) := by decide +kernel
theorem dX1_reckonSent_104 : decode cX1_reckonSent 104 = .ok (.if_icmp .ge 45, 3) := by decide +kernel
theorem dX1_reckonSent_107 : decode cX1_reckonSent 107 = .ok (.aload_n 0, 1) := by decide +kernel
theorem dX1_reckonSent_108 : decode cX1_reckonSent 108 = .ok (.getfield 22, 3) := by decide +kernel
theorem dX1_reckonSent_111 : decode cX1_reckonSent 111 = .ok (.aload_n 0, 1) := by decide +kernel
theorem dX1_reckonSent_112 : decode cX1_reckonSent 112 = .ok (.getfield 25, 3) := by decide +kernel
theorem dX1_reckonSent_115 : decode cX1_reckonSent 115 = .ok (.iload 13, 2) := by decide +kernel
theorem dX1_reckonSent_117 : decode cX1_reckonSent 117 = .ok (.iaload, 1) := by decide +kernel
theorem dX1_reckonSent_118 : decode cX1_reckonSent 118 = .ok (.dup2, 1) := by decide +kernel
theorem dX1_reckonSent_119 : decode cX1_reckonSent 119 = .ok (.laload, 1) := by decide +kernel
theorem dX1_reckonSent_120 : decode cX1_reckonSent 120 = .ok (.lload 11, 2) := by decide +kernel
theorem dX1_reckonSent_122 : decode cX1_reckonSent 122 = .ok (.aload_n 0, 1) := by decide +kernel
theorem dX1_reckonSent_123 : decode cX1_reckonSent 123 = .ok (.getfield 41, 3) := by decide +kernel
theorem dX1_reckonSent_126 : decode cX1_reckonSent 126 = .ok (.iload 10, 2) := by decide +kernel
theorem dX1_reckonSent_128 : decode cX1_reckonSent 128 = .ok (.bipush 8, 2) := by decide +kernel
theorem dX1_reckonSent_130 : decode cX1_reckonSent 130 = .ok (.imul, 1) := by decide +kernel
theorem dX1_reckonSent_131 : decode cX1_reckonSent 131 = .ok (.aload_n 0, 1) := by decide +kernel
theorem dX1_reckonSent_132 : decode cX1_reckonSent 132 = .ok (.getfield 25, 3) := by decide +kernel
theorem dX1_reckonSent_135 : decode cX1_reckonSent 135 = .ok (.iload 13, 2) := by decide +kernel
theorem dX1_reckonSent_137 : decode cX1_reckonSent 137 = .ok (.iaload, 1) := by decide +kernel
theorem dX1_reckonSent_138 : decode cX1_reckonSent 138 = .ok (.iadd, 1) := by decide +kernel
theorem dX1_reckonSent_139 : decode cX1_reckonSent 139 = .ok (.laload, 1) := by decide +kernel
theorem dX1_reckonSent_140 : decode cX1_reckonSent 140 = .ok (.lmul, 1) := by decide +kernel
theorem dX1_reckonSent_141 : decode cX1_reckonSent 141 = .ok (.ladd, 1) := by decide +kernel
theorem dX1_reckonSent_142 : decode cX1_reckonSent 142 = .ok (.lastore, 1) := by decide +kernel
theorem dX1_reckonSent_143 : decode cX1_reckonSent 143 = .ok (.iinc 13 1, 3) := by decide +kernel
theorem dX1_reckonSent_146 : decode cX1_reckonSent 146 = .ok (.goto (-48), 3) := by decide +kernel
theorem dX1_reckonSent_149 : decode cX1_reckonSent 149 = .ok (.aload_n 0, 1) := by decide +kernel
theorem dX1_reckonSent_150 : decode cX1_reckonSent 150 = .ok (.getfield 22, 3) := by decide +kernel
theorem dX1_reckonSent_153 : decode cX1_reckonSent 153 = .ok (.iload_n 2, 1) := by decide +kernel
theorem dX1_reckonSent_154 : decode cX1_reckonSent 154 = .ok (.dup2, 1) := by decide +kernel
theorem dX1_reckonSent_155 : decode cX1_reckonSent 155 = .ok (.laload, 1) := by decide +kernel
theorem dX1_reckonSent_156 : decode cX1_reckonSent 156 = .ok (.lload 11, 2) := by decide +kernel
theorem dX1_reckonSent_158 : decode cX1_reckonSent 158 = .ok (.aload_n 0, 1) := by decide +kernel
theorem dX1_reckonSent_159 : decode cX1_reckonSent 159 = .ok (.iload 10, 2) := by decide +kernel
theorem dX1_reckonSent_161 : decode cX1_reckonSent 161 = .ok (.invokevirtual 165, 3) := by decide +kernel
theorem dX1_reckonSent_164 : decode cX1_reckonSent 164 = .ok (.ldc2_w 139, 3) := by decide +kernel
theorem dX1_reckonSent_167 : decode cX1_reckonSent 167 = .ok (.aload_n 0, 1) := by decide +kernel
theorem dX1_reckonSent_168 : decode cX1_reckonSent 168 = .ok (.getfield 12, 3) := by decide +kernel
theorem dX1_reckonSent_171 : decode cX1_reckonSent 171 = .ok (.getfield 168, 3) := by decide +kernel
theorem dX1_reckonSent_174 : decode cX1_reckonSent 174 = .ok (.i2l, 1) := by decide +kernel
theorem dX1_reckonSent_175 : decode cX1_reckonSent 175 = .ok (.lmul, 1) := by decide +kernel
theorem dX1_reckonSent_176 : decode cX1_reckonSent 176 = .ok (.lsub, 1) := by decide +kernel
theorem dX1_reckonSent_177 : decode cX1_reckonSent 177 = .ok (.lmul, 1) := by decide +kernel
theorem dX1_reckonSent_178 : decode cX1_reckonSent 178 = .ok (.ladd, 1) := by decide +kernel
theorem dX1_reckonSent_179 : decode cX1_reckonSent 179 = .ok (.lastore, 1) := by decide +kernel
theorem dX1_reckonSent_180 : decode cX1_reckonSent 180 = .ok (.iinc 9 1, 3) := by decide +kernel
theorem dX1_reckonSent_183 : decode cX1_reckonSent 183 = .ok (.goto (-159), 3) := by decide +kernel
theorem dX1_reckonSent_186 : decode cX1_reckonSent 186 = .ok (.lload 4, 2) := by decide +kernel
theorem dX1_reckonSent_188 : decode cX1_reckonSent 188 = .ok (.lconst 0, 1) := by decide +kernel
theorem dX1_reckonSent_189 : decode cX1_reckonSent 189 = .ok (.lcmp, 1) := by decide +kernel
theorem dX1_reckonSent_190 : decode cX1_reckonSent 190 = .ok (.ifCond .gt 4, 3) := by decide +kernel
theorem dX1_reckonSent_193 : decode cX1_reckonSent 193 = .ok (.return_, 1) := by decide +kernel
theorem dX1_reckonSent_194 : decode cX1_reckonSent 194 = .ok (.iconst 0, 1) := by decide +kernel
theorem dX1_reckonSent_195 : decode cX1_reckonSent 195 = .ok (.istore 9, 2) := by decide +kernel
theorem dX1_reckonSent_197 : decode cX1_reckonSent 197 = .ok (.iload 9, 2) := by decide +kernel
theorem dX1_reckonSent_199 : decode cX1_reckonSent 199 = .ok (.aload_n 0, 1) := by decide +kernel
theorem dX1_reckonSent_200 : decode cX1_reckonSent 200 = .ok (.getfield 92, 3) := by decide +kernel
theorem dX1_reckonSent_203 : decode cX1_reckonSent 203 = .ok (.if_icmp .ge 82, 3) := by decide +kernel
theorem dX1_reckonSent_206 : decode cX1_reckonSent 206 = .ok (.aload_n 0, 1) := by decide +kernel
theorem dX1_reckonSent_207 : decode cX1_reckonSent 207 = .ok (.getfield 25, 3) := by decide +kernel
theorem dX1_reckonSent_210 : decode cX1_reckonSent 210 = .ok (.iload 9, 2) := by decide +kernel
theorem dX1_reckonSent_212 : decode cX1_reckonSent 212 = .ok (.iaload, 1) := by decide +kernel
theorem dX1_reckonSent_213 : decode cX1_reckonSent 213 = .ok (.istore 10, 2) := by decide +kernel
theorem dX1_reckonSent_215 : decode cX1_reckonSent 215 = .ok (.aload_n 0, 1) := by decide +kernel
theorem dX1_reckonSent_216 : decode cX1_reckonSent 216 = .ok (.getfield 22, 3) := by decide +kernel
theorem dX1_reckonSent_219 : decode cX1_reckonSent 219 = .ok (.iload 10, 2) := by decide +kernel
theorem dX1_reckonSent_221 : decode cX1_reckonSent 221 = .ok (.laload, 1) := by decide +kernel
theorem dX1_reckonSent_222 : decode cX1_reckonSent 222 = .ok (.lload 4, 2) := by decide +kernel
theorem dX1_reckonSent_224 : decode cX1_reckonSent 224 = .ok (.invokestatic 171, 3) := by decide +kernel
theorem dX1_reckonSent_227 : decode cX1_reckonSent 227 = .ok (.sipush 1000, 3) := by decide +kernel
theorem dX1_reckonSent_230 : decode cX1_reckonSent 230 = .ok (.iload_n 3, 1) := by decide +kernel
theorem dX1_reckonSent_231 : decode cX1_reckonSent 231 = .ok (.isub, 1) := by decide +kernel
theorem dX1_reckonSent_232 : decode cX1_reckonSent 232 = .ok (.i2l, 1) := by decide +kernel
theorem dX1_reckonSent_233 : decode cX1_reckonSent 233 = .ok (.lmul, 1) := by decide +kernel
theorem dX1_reckonSent_234 : decode cX1_reckonSent 234 = .ok (.lstore 11, 2) := by decide +kernel
theorem dX1_reckonSent_236 : decode cX1_reckonSent 236 = .ok (.iload 10, 2) := by decide +kernel
theorem dX1_reckonSent_238 : decode cX1_reckonSent 238 = .ok (.iload_n 2, 1) := by decide +kernel
theorem dX1_reckonSent_239 : decode cX1_reckonSent 239 = .ok (.if_icmp .ne 14, 3) := by decide +kernel
theorem dX1_reckonSent_242 : decode cX1_reckonSent 242 = .ok (.aload_n 0, 1) := by decide +kernel
theorem dX1_reckonSent_243 : decode cX1_reckonSent 243 = .ok (.iload_n 1, 1) := by decide +kernel
theorem dX1_reckonSent_244 : decode cX1_reckonSent 244 = .ok (.invokevirtual 119, 3) := by decide +kernel
theorem dX1_reckonSent_247 : decode cX1_reckonSent 247 = .ok (.iload_n 3, 1) := by decide +kernel
theorem dX1_reckonSent_248 : decode cX1_reckonSent 248 = .ok (.i2l, 1) := by decide +kernel
theorem dX1_reckonSent_249 : decode cX1_reckonSent 249 = .ok (.lmul, 1) := by decide +kernel
theorem dX1_reckonSent_250 : decode cX1_reckonSent 250 = .ok (.goto 4, 3) := by decide +kernel
theorem dX1_reckonSent_253 : decode cX1_reckonSent 253 = .ok (.lconst 0, 1) := by decide +kernel
theorem dX1_reckonSent_254 : decode cX1_reckonSent 254 = .ok (.lstore 13, 2) := by decide +kernel
theorem dX1_reckonSent_256 : decode cX1_reckonSent 256 = .ok (.aload_n 0, 1) := by decide +kernel
theorem dX1_reckonSent_257 : decode cX1_reckonSent 257 = .ok (.getfield 41, 3) := by decide +kernel
theorem dX1_reckonSent_260 : decode cX1_reckonSent 260 = .ok (.iload_n 1, 1) := by decide +kernel
theorem dX1_reckonSent_261 : decode cX1_reckonSent 261 = .ok (.bipush 8, 2) := by decide +kernel
theorem dX1_reckonSent_263 : decode cX1_reckonSent 263 = .ok (.imul, 1) := by decide +kernel
theorem dX1_reckonSent_264 : decode cX1_reckonSent 264 = .ok (.iload 10, 2) := by decide +kernel
theorem dX1_reckonSent_266 : decode cX1_reckonSent 266 = .ok (.iadd, 1) := by decide +kernel
theorem dX1_reckonSent_267 : decode cX1_reckonSent 267 = .ok (.lload 13, 2) := by decide +kernel
theorem dX1_reckonSent_269 : decode cX1_reckonSent 269 = .ok (.lload 11, 2) := by decide +kernel
theorem dX1_reckonSent_271 : decode cX1_reckonSent 271 = .ok (.ladd, 1) := by decide +kernel
theorem dX1_reckonSent_272 : decode cX1_reckonSent 272 = .ok (.ldc2_w 139, 3) := by decide +kernel
theorem dX1_reckonSent_275 : decode cX1_reckonSent 275 = .ok (.invokestatic 171, 3) := by decide +kernel
theorem dX1_reckonSent_278 : decode cX1_reckonSent 278 = .ok (.lastore, 1) := by decide +kernel
theorem dX1_reckonSent_279 : decode cX1_reckonSent 279 = .ok (.iinc 9 1, 3) := by decide +kernel
theorem dX1_reckonSent_282 : decode cX1_reckonSent 282 = .ok (.goto (-85), 3) := by decide +kernel
theorem dX1_reckonSent_285 : decode cX1_reckonSent 285 = .ok (.aload_n 0, 1) := by decide +kernel
theorem dX1_reckonSent_286 : decode cX1_reckonSent 286 = .ok (.getfield 38, 3) := by decide +kernel
theorem dX1_reckonSent_289 : decode cX1_reckonSent 289 = .ok (.iload_n 1, 1) := by decide +kernel
theorem dX1_reckonSent_290 : decode cX1_reckonSent 290 = .ok (.lload 6, 2) := by decide +kernel
theorem dX1_reckonSent_292 : decode cX1_reckonSent 292 = .ok (.lload 4, 2) := by decide +kernel
theorem dX1_reckonSent_294 : decode cX1_reckonSent 294 = .ok (.ldiv, 1) := by decide +kernel
theorem dX1_reckonSent_295 : decode cX1_reckonSent 295 = .ok (.sipush 1000, 3) := by decide +kernel
theorem dX1_reckonSent_298 : decode cX1_reckonSent 298 = .ok (.iload_n 3, 1) := by decide +kernel
theorem dX1_reckonSent_299 : decode cX1_reckonSent 299 = .ok (.isub, 1) := by decide +kernel
theorem dX1_reckonSent_300 : decode cX1_reckonSent 300 = .ok (.i2l, 1) := by decide +kernel
theorem dX1_reckonSent_301 : decode cX1_reckonSent 301 = .ok (.lmul, 1) := by decide +kernel
theorem dX1_reckonSent_302 : decode cX1_reckonSent 302 = .ok (.ldc2_w 139, 3) := by decide +kernel
theorem dX1_reckonSent_305 : decode cX1_reckonSent 305 = .ok (.ldiv, 1) := by decide +kernel
theorem dX1_reckonSent_306 : decode cX1_reckonSent 306 = .ok (.lastore, 1) := by decide +kernel
theorem dX1_reckonSent_307 : decode cX1_reckonSent 307 = .ok (.return_, 1) := by decide +kernel
theorem dX1_payFor_0 : decode cX1_payFor 0 = .ok (.ldc2_w 139, 3) := by decide +kernel
theorem dX1_payFor_3 : decode cX1_payFor 3 = .ok (.aload_n 0, 1) := by decide +kernel
theorem dX1_payFor_4 : decode cX1_payFor 4 = .ok (.getfield 12, 3) := by decide +kernel
theorem dX1_payFor_7 : decode cX1_payFor 7 = .ok (.getfield 177, 3) := by decide +kernel
theorem dX1_payFor_10 : decode cX1_payFor 10 = .ok (.i2l, 1) := by decide +kernel
theorem dX1_payFor_11 : decode cX1_payFor 11 = .ok (.lmul, 1) := by decide +kernel
theorem dX1_payFor_12 : decode cX1_payFor 12 = .ok (.aload_n 0, 1) := by decide +kernel
theorem dX1_payFor_13 : decode cX1_payFor 13 = .ok (.getfield 38, 3) := by decide +kernel
theorem dX1_payFor_16 : decode cX1_payFor 16 = .ok (.iload_n 1, 1) := by decide +kernel
theorem dX1_payFor_17 : decode cX1_payFor 17 = .ok (.laload, 1) := by decide +kernel
theorem dX1_payFor_18 : decode cX1_payFor 18 = .ok (.lmul, 1) := by decide +kernel
theorem dX1_payFor_19 : decode cX1_payFor 19 = .ok (.ldc2_w 147, 3) := by decide +kernel
theorem dX1_payFor_22 : decode cX1_payFor 22 = .ok (.ldiv, 1) := by decide +kernel
theorem dX1_payFor_23 : decode cX1_payFor 23 = .ok (.lreturn, 1) := by decide +kernel
theorem dX1_worthOf_0 : decode cX1_worthOf 0 = .ok (.aload_n 0, 1) := by decide +kernel
theorem dX1_worthOf_1 : decode cX1_worthOf 1 = .ok (.getfield 34, 3) := by decide +kernel
theorem dX1_worthOf_4 : decode cX1_worthOf 4 = .ok (.getfield 158, 3) := by decide +kernel
theorem dX1_worthOf_7 : decode cX1_worthOf 7 = .ok (.iload_n 1, 1) := by decide +kernel
theorem dX1_worthOf_8 : decode cX1_worthOf 8 = .ok (.bipush 8, 2) := by decide +kernel
theorem dX1_worthOf_10 : decode cX1_worthOf 10 = .ok (.imul, 1) := by decide +kernel
theorem dX1_worthOf_11 : decode cX1_worthOf 11 = .ok (.iload_n 2, 1) := by decide +kernel
theorem dX1_worthOf_12 : decode cX1_worthOf 12 = .ok (.iadd, 1) := by decide +kernel
theorem dX1_worthOf_13 : decode cX1_worthOf 13 = .ok (.iaload, 1) := by decide +kernel
theorem dX1_worthOf_14 : decode cX1_worthOf 14 = .ok (.istore_n 3, 1) := by decide +kernel
theorem dX1_worthOf_15 : decode cX1_worthOf 15 = .ok (.iload_n 3, 1) := by decide +kernel
theorem dX1_worthOf_16 : decode cX1_worthOf 16 = .ok (.ifCond .ge 5, 3) := by decide +kernel
theorem dX1_worthOf_19 : decode cX1_worthOf 19 = .ok (.lconst 0, 1) := by decide +kernel
theorem dX1_worthOf_20 : decode cX1_worthOf 20 = .ok (.lreturn, 1) := by decide +kernel
theorem dX1_worthOf_21 : decode cX1_worthOf 21 = .ok (.aload_n 0, 1) := by decide +kernel
theorem dX1_worthOf_22 : decode cX1_worthOf 22 = .ok (.getfield 34, 3) := by decide +kernel
theorem dX1_worthOf_25 : decode cX1_worthOf 25 = .ok (.getfield 101, 3) := by decide +kernel
theorem dX1_worthOf_28 : decode cX1_worthOf 28 = .ok (.iload_n 1, 1) := by decide +kernel
theorem dX1_worthOf_29 : decode cX1_worthOf 29 = .ok (.laload, 1) := by decide +kernel
theorem dX1_worthOf_30 : decode cX1_worthOf 30 = .ok (.lstore 4, 2) := by decide +kernel
theorem dX1_worthOf_32 : decode cX1_worthOf 32 = .ok (.lload 4, 2) := by decide +kernel
theorem dX1_worthOf_34 : decode cX1_worthOf 34 = .ok (.invokestatic 104, 3) := by decide +kernel
theorem dX1_worthOf_37 : decode cX1_worthOf 37 = .ok (.istore 6, 2) := by decide +kernel
theorem dX1_worthOf_39 : decode cX1_worthOf 39 = .ok (.lload 4, 2) := by decide +kernel
theorem dX1_worthOf_41 : decode cX1_worthOf 41 = .ok (.iload 6, 2) := by decide +kernel
theorem dX1_worthOf_43 : decode cX1_worthOf 43 = .ok (.invokestatic 180, 3) := by decide +kernel
theorem dX1_worthOf_46 : decode cX1_worthOf 46 = .ok (.iconst 1, 1) := by decide +kernel
theorem dX1_worthOf_47 : decode cX1_worthOf 47 = .ok (.iadd, 1) := by decide +kernel
theorem dX1_worthOf_48 : decode cX1_worthOf 48 = .ok (.i2l, 1) := by decide +kernel
theorem dX1_worthOf_49 : decode cX1_worthOf 49 = .ok (.lstore 7, 2) := by decide +kernel
theorem dX1_worthOf_51 : decode cX1_worthOf 51 = .ok (.aload_n 0, 1) := by decide +kernel
theorem dX1_worthOf_52 : decode cX1_worthOf 52 = .ok (.getfield 12, 3) := by decide +kernel
theorem dX1_worthOf_55 : decode cX1_worthOf 55 = .ok (.getfield 108, 3) := by decide +kernel
theorem dX1_worthOf_58 : decode cX1_worthOf 58 = .ok (.iload 6, 2) := by decide +kernel
theorem dX1_worthOf_60 : decode cX1_worthOf 60 = .ok (.iaload, 1) := by decide +kernel
theorem dX1_worthOf_61 : decode cX1_worthOf 61 = .ok (.iconst 3, 1) := by decide +kernel
theorem dX1_worthOf_62 : decode cX1_worthOf 62 = .ok (.if_icmp .ne 17, 3) := by decide +kernel
theorem dX1_worthOf_65 : decode cX1_worthOf 65 = .ok (.aload_n 0, 1) := by decide +kernel
theorem dX1_worthOf_66 : decode cX1_worthOf 66 = .ok (.getfield 12, 3) := by decide +kernel
theorem dX1_worthOf_69 : decode cX1_worthOf 69 = .ok (.getfield 184, 3) := by decide +kernel
theorem dX1_worthOf_72 : decode cX1_worthOf 72 = .ok (.iload 6, 2) := by decide +kernel
theorem dX1_worthOf_74 : decode cX1_worthOf 74 = .ok (.iaload, 1) := by decide +kernel
theorem dX1_worthOf_75 : decode cX1_worthOf 75 = .ok (.i2l, 1) := by decide +kernel
theorem dX1_worthOf_76 : decode cX1_worthOf 76 = .ok (.goto 4, 3) := by decide +kernel
theorem dX1_worthOf_79 : decode cX1_worthOf 79 = .ok (.lconst 0, 1) := by decide +kernel
theorem dX1_worthOf_80 : decode cX1_worthOf 80 = .ok (.lstore 9, 2) := by decide +kernel
theorem dX1_worthOf_82 : decode cX1_worthOf 82 = .ok (.aload_n 0, 1) := by decide +kernel
theorem dX1_worthOf_83 : decode cX1_worthOf 83 = .ok (.getfield 41, 3) := by decide +kernel
theorem dX1_worthOf_86 : decode cX1_worthOf 86 = .ok (.iload_n 3, 1) := by decide +kernel
theorem dX1_worthOf_87 : decode cX1_worthOf 87 = .ok (.bipush 8, 2) := by decide +kernel
theorem dX1_worthOf_89 : decode cX1_worthOf 89 = .ok (.imul, 1) := by decide +kernel
theorem dX1_worthOf_90 : decode cX1_worthOf 90 = .ok (.iload 6, 2) := by decide +kernel
theorem dX1_worthOf_92 : decode cX1_worthOf 92 = .ok (.iadd, 1) := by decide +kernel
theorem dX1_worthOf_93 : decode cX1_worthOf 93 = .ok (.laload, 1) := by decide +kernel
theorem dX1_worthOf_94 : decode cX1_worthOf 94 = .ok (.lload 7, 2) := by decide +kernel
theorem dX1_worthOf_96 : decode cX1_worthOf 96 = .ok (.aload_n 0, 1) := by decide +kernel
theorem dX1_worthOf_97 : decode cX1_worthOf 97 = .ok (.iload_n 3, 1) := by decide +kernel
theorem dX1_worthOf_98 : decode cX1_worthOf 98 = .ok (.invokevirtual 165, 3) := by decide +kernel
theorem dX1_worthOf_101 : decode cX1_worthOf 101 = .ok (.lmul, 1) := by decide +kernel
theorem dX1_worthOf_102 : decode cX1_worthOf 102 = .ok (.ladd, 1) := by decide +kernel
theorem dX1_worthOf_103 : decode cX1_worthOf 103 = .ok (.ldc2_w 139, 3) := by decide +kernel
theorem dX1_worthOf_106 : decode cX1_worthOf 106 = .ok (.lload 9, 2) := by decide +kernel
theorem dX1_worthOf_108 : decode cX1_worthOf 108 = .ok (.aload_n 0, 1) := by decide +kernel
theorem dX1_worthOf_109 : decode cX1_worthOf 109 = .ok (.getfield 12, 3) := by decide +kernel
theorem dX1_worthOf_112 : decode cX1_worthOf 112 = .ok (.getfield 168, 3) := by decide +kernel
theorem dX1_worthOf_115 : decode cX1_worthOf 115 = .ok (.i2l, 1) := by decide +kernel
theorem dX1_worthOf_116 : decode cX1_worthOf 116 = .ok (.lsub, 1) := by decide +kernel
theorem dX1_worthOf_117 : decode cX1_worthOf 117 = .ok (.lmul, 1) := by decide +kernel
theorem dX1_worthOf_118 : decode cX1_worthOf 118 = .ok (.ladd, 1) := by decide +kernel
theorem dX1_worthOf_119 : decode cX1_worthOf 119 = .ok (.lreturn, 1) := by decide +kernel
theorem dX1_likedMost_0 : decode cX1_likedMost 0 = .ok (.iconst (-1), 1) := by decide +kernel
theorem dX1_likedMost_1 : decode cX1_likedMost 1 = .ok (.istore_n 2, 1) := by decide +kernel
theorem dX1_likedMost_2 : decode cX1_likedMost 2 = .ok (.lconst 0, 1) := by decide +kernel
theorem dX1_likedMost_3 : decode cX1_likedMost 3 = .ok (.lstore_n 3, 1) := by decide +kernel
theorem dX1_likedMost_4 : decode cX1_likedMost 4 = .ok (.iconst 0, 1) := by decide +kernel
theorem dX1_likedMost_5 : decode cX1_likedMost 5 = .ok (.istore 5, 2) := by decide +kernel
theorem dX1_likedMost_7 : decode cX1_likedMost 7 = .ok (.iload 5, 2) := by decide +kernel
theorem dX1_likedMost_9 : decode cX1_likedMost 9 = .ok (.bipush 8, 2) := by decide +kernel
theorem dX1_likedMost_11 : decode cX1_likedMost 11 = .ok (.if_icmp .ge 52, 3) := by decide +kernel
theorem dX1_likedMost_14 : decode cX1_likedMost 14 = .ok (.aload_n 0, 1) := by decide +kernel
theorem dX1_likedMost_15 : decode cX1_likedMost 15 = .ok (.getfield 34, 3) := by decide +kernel
theorem dX1_likedMost_18 : decode cX1_likedMost 18 = .ok (.getfield 187, 3) := by decide +kernel
theorem dX1_likedMost_21 : decode cX1_likedMost 21 = .ok (.iload_n 1, 1) := by decide +kernel
theorem dX1_likedMost_22 : decode cX1_likedMost 22 = .ok (.iaload, 1) := by decide +kernel
theorem dX1_likedMost_23 : decode cX1_likedMost 23 = .ok (.iload 5, 2) := by decide +kernel
theorem dX1_likedMost_25 : decode cX1_likedMost 25 = .ok (.ishr, 1) := by decide +kernel
theorem dX1_likedMost_26 : decode cX1_likedMost 26 = .ok (.iconst 1, 1) := by decide +kernel
theorem dX1_likedMost_27 : decode cX1_likedMost 27 = .ok (.iand, 1) := by decide +kernel
theorem dX1_likedMost_28 : decode cX1_likedMost 28 = .ok (.ifCond .eq 29, 3) := by decide +kernel
theorem dX1_likedMost_31 : decode cX1_likedMost 31 = .ok (.aload_n 0, 1) := by decide +kernel
theorem dX1_likedMost_32 : decode cX1_likedMost 32 = .ok (.iload_n 1, 1) := by decide +kernel
theorem dX1_likedMost_33 : decode cX1_likedMost 33 = .ok (.iload 5, 2) := by decide +kernel
theorem dX1_likedMost_35 : decode cX1_likedMost 35 = .ok (.invokevirtual 115, 3) := by decide +kernel
theorem dX1_likedMost_38 : decode cX1_likedMost 38 = .ok (.lstore 6, 2) := by decide +kernel
theorem dX1_likedMost_40 : decode cX1_likedMost 40 = .ok (.iload_n 2, 1) := by decide +kernel
theorem dX1_likedMost_41 : decode cX1_likedMost 41 = .ok (.ifCond .lt 10, 3) := by decide +kernel
theorem dX1_likedMost_44 : decode cX1_likedMost 44 = .ok (.lload 6, 2) := by decide +kernel
theorem dX1_likedMost_46 : decode cX1_likedMost 46 = .ok (.lload_n 3, 1) := by decide +kernel
theorem dX1_likedMost_47 : decode cX1_likedMost 47 = .ok (.lcmp, 1) := by decide +kernel
theorem dX1_likedMost_48 : decode cX1_likedMost 48 = .ok (.ifCond .le 9, 3) := by decide +kernel
theorem dX1_likedMost_51 : decode cX1_likedMost 51 = .ok (.iload 5, 2) := by decide +kernel
theorem dX1_likedMost_53 : decode cX1_likedMost 53 = .ok (.istore_n 2, 1) := by decide +kernel
theorem dX1_likedMost_54 : decode cX1_likedMost 54 = .ok (.lload 6, 2) := by decide +kernel
theorem dX1_likedMost_56 : decode cX1_likedMost 56 = .ok (.lstore_n 3, 1) := by decide +kernel
theorem dX1_likedMost_57 : decode cX1_likedMost 57 = .ok (.iinc 5 1, 3) := by decide +kernel
theorem dX1_likedMost_60 : decode cX1_likedMost 60 = .ok (.goto (-53), 3) := by decide +kernel
theorem dX1_likedMost_63 : decode cX1_likedMost 63 = .ok (.iload_n 2, 1) := by decide +kernel
theorem dX1_likedMost_64 : decode cX1_likedMost 64 = .ok (.ireturn, 1) := by decide +kernel
theorem dX1_openingOf_0 : decode cX1_openingOf 0 = .ok (.ldc2_w 139, 3) := by decide +kernel
theorem dX1_openingOf_3 : decode cX1_openingOf 3 = .ok (.aload_n 0, 1) := by decide +kernel
theorem dX1_openingOf_4 : decode cX1_openingOf 4 = .ok (.getfield 12, 3) := by decide +kernel
theorem dX1_openingOf_7 : decode cX1_openingOf 7 = .ok (.aload_n 0, 1) := by decide +kernel
theorem dX1_openingOf_8 : decode cX1_openingOf 8 = .ok (.getfield 34, 3) := by decide +kernel
theorem dX1_openingOf_11 : decode cX1_openingOf 11 = .ok (.getfield 101, 3) := by decide +kernel
theorem dX1_openingOf_14 : decode cX1_openingOf 14 = .ok (.iload_n 1, 1) := by decide +kernel
theorem dX1_openingOf_15 : decode cX1_openingOf 15 = .ok (.laload, 1) := by decide +kernel
theorem dX1_openingOf_16 : decode cX1_openingOf 16 = .ok (.invokestatic 133, 3) := by decide +kernel
theorem dX1_openingOf_19 : decode cX1_openingOf 19 = .ok (.invokevirtual 141, 3) := by decide +kernel
theorem dX1_openingOf_22 : decode cX1_openingOf 22 = .ok (.i2l, 1) := by decide +kernel
theorem dX1_openingOf_23 : decode cX1_openingOf 23 = .ok (.lmul, 1) := by decide +kernel
theorem dX1_openingOf_24 : decode cX1_openingOf 24 = .ok (.lreturn, 1) := by decide +kernel
theorem dX1_shareOpened_0 : decode cX1_shareOpened 0 = .ok (.aload_n 0, 1) := by decide +kernel
theorem dX1_shareOpened_1 : decode cX1_shareOpened 1 = .ok (.getfield 34, 3) := by decide +kernel
theorem dX1_shareOpened_4 : decode cX1_shareOpened 4 = .ok (.getfield 187, 3) := by decide +kernel
theorem dX1_shareOpened_7 : decode cX1_shareOpened 7 = .ok (.iload_n 1, 1) := by decide +kernel
theorem dX1_shareOpened_8 : decode cX1_shareOpened 8 = .ok (.iaload, 1) := by decide +kernel
theorem dX1_shareOpened_9 : decode cX1_shareOpened 9 = .ok (.ifCond .ne 7, 3) := by decide +kernel
theorem dX1_shareOpened_12 : decode cX1_shareOpened 12 = .ok (.sipush 1000, 3) := by decide +kernel
theorem dX1_shareOpened_15 : decode cX1_shareOpened 15 = .ok (.ireturn, 1) := by decide +kernel
theorem dX1_shareOpened_16 : decode cX1_shareOpened 16 = .ok (.aload_n 0, 1) := by decide +kernel
theorem dX1_shareOpened_17 : decode cX1_shareOpened 17 = .ok (.getfield 34, 3) := by decide +kernel
theorem dX1_shareOpened_20 : decode cX1_shareOpened 20 = .ok (.getfield 101, 3) := by decide +kernel
theorem dX1_shareOpened_23 : decode cX1_shareOpened 23 = .ok (.iload_n 1, 1) := by decide +kernel
theorem dX1_shareOpened_24 : decode cX1_shareOpened 24 = .ok (.laload, 1) := by decide +kernel
theorem dX1_shareOpened_25 : decode cX1_shareOpened 25 = .ok (.lstore_n 2, 1) := by decide +kernel
theorem dX1_shareOpened_26 : decode cX1_shareOpened 26 = .ok (.lload_n 2, 1) := by decide +kernel
theorem dX1_shareOpened_27 : decode cX1_shareOpened 27 = .ok (.invokestatic 104, 3) := by decide +kernel
theorem dX1_shareOpened_30 : decode cX1_shareOpened 30 = .ok (.istore 4, 2) := by decide +kernel
theorem dX1_shareOpened_32 : decode cX1_shareOpened 32 = .ok (.aload_n 0, 1) := by decide +kernel
theorem dX1_shareOpened_33 : decode cX1_shareOpened 33 = .ok (.getfield 12, 3) := by decide +kernel
theorem dX1_shareOpened_36 : decode cX1_shareOpened 36 = .ok (.getfield 108, 3) := by decide +kernel
theorem dX1_shareOpened_39 : decode cX1_shareOpened 39 = .ok (.iload 4, 2) := by decide +kernel
theorem dX1_shareOpened_41 : decode cX1_shareOpened 41 = .ok (.iaload, 1) := by decide +kernel
theorem dX1_shareOpened_42 : decode cX1_shareOpened 42 = .ok (.tableswitch 90 0 3 #[30, 90, 62, 73], 30) := by decide +kernel
theorem dX1_shareOpened_72 : decode cX1_shareOpened 72 = .ok (.aload_n 0, 1) := by decide +kernel
theorem dX1_shareOpened_73 : decode cX1_shareOpened 73 = .ok (.getfield 12, 3) := by decide +kernel
theorem dX1_shareOpened_76 : decode cX1_shareOpened 76 = .ok (.lload_n 2, 1) := by decide +kernel
theorem dX1_shareOpened_77 : decode cX1_shareOpened 77 = .ok (.invokestatic 133, 3) := by decide +kernel
theorem dX1_shareOpened_80 : decode cX1_shareOpened 80 = .ok (.invokevirtual 190, 3) := by decide +kernel
theorem dX1_shareOpened_83 : decode cX1_shareOpened 83 = .ok (.aload_n 0, 1) := by decide +kernel
theorem dX1_shareOpened_84 : decode cX1_shareOpened 84 = .ok (.getfield 12, 3) := by decide +kernel
theorem dX1_shareOpened_87 : decode cX1_shareOpened 87 = .ok (.getfield 184, 3) := by decide +kernel
theorem dX1_shareOpened_90 : decode cX1_shareOpened 90 = .ok (.iload 4, 2) := by decide +kernel
theorem dX1_shareOpened_92 : decode cX1_shareOpened 92 = .ok (.iaload, 1) := by decide +kernel
theorem dX1_shareOpened_93 : decode cX1_shareOpened 93 = .ok (.if_icmp .lt 9, 3) := by decide +kernel
theorem dX1_shareOpened_96 : decode cX1_shareOpened 96 = .ok (.sipush 1000, 3) := by decide +kernel
theorem dX1_shareOpened_99 : decode cX1_shareOpened 99 = .ok (.goto 4, 3) := by decide +kernel
theorem dX1_shareOpened_102 : decode cX1_shareOpened 102 = .ok (.iconst 0, 1) := by decide +kernel
theorem dX1_shareOpened_103 : decode cX1_shareOpened 103 = .ok (.ireturn, 1) := by decide +kernel
theorem dX1_shareOpened_104 : decode cX1_shareOpened 104 = .ok (.aload_n 0, 1) := by decide +kernel
theorem dX1_shareOpened_105 : decode cX1_shareOpened 105 = .ok (.getfield 12, 3) := by decide +kernel
theorem dX1_shareOpened_108 : decode cX1_shareOpened 108 = .ok (.getfield 184, 3) := by decide +kernel
theorem dX1_shareOpened_111 : decode cX1_shareOpened 111 = .ok (.iload 4, 2) := by decide +kernel
theorem dX1_shareOpened_113 : decode cX1_shareOpened 113 = .ok (.iaload, 1) := by decide +kernel
theorem dX1_shareOpened_114 : decode cX1_shareOpened 114 = .ok (.ireturn, 1) := by decide +kernel
theorem dX1_shareOpened_115 : decode cX1_shareOpened 115 = .ok (.aload_n 0, 1) := by decide +kernel
theorem dX1_shareOpened_116 : decode cX1_shareOpened 116 = .ok (.getfield 44, 3) := by decide +kernel
theorem dX1_shareOpened_119 : decode cX1_shareOpened 119 = .ok (.iload_n 1, 1) := by decide +kernel
theorem dX1_shareOpened_120 : decode cX1_shareOpened 120 = .ok (.iaload, 1) := by decide +kernel
theorem dX1_shareOpened_121 : decode cX1_shareOpened 121 = .ok (.ifCond .ge 9, 3) := by decide +kernel
theorem dX1_shareOpened_124 : decode cX1_shareOpened 124 = .ok (.sipush 1000, 3) := by decide +kernel
theorem dX1_shareOpened_127 : decode cX1_shareOpened 127 = .ok (.goto 4, 3) := by decide +kernel
theorem dX1_shareOpened_130 : decode cX1_shareOpened 130 = .ok (.iconst 0, 1) := by decide +kernel
theorem dX1_shareOpened_131 : decode cX1_shareOpened 131 = .ok (.ireturn, 1) := by decide +kernel
theorem dX1_shareOpened_132 : decode cX1_shareOpened 132 = .ok (.iconst 0, 1) := by decide +kernel
theorem dX1_shareOpened_133 : decode cX1_shareOpened 133 = .ok (.ireturn, 1) := by decide +kernel
theorem dX1_targetsOf_0 : decode cX1_targetsOf 0 = .ok (.aload_n 0, 1) := by decide +kernel
theorem dX1_targetsOf_1 : decode cX1_targetsOf 1 = .ok (.getfield 12, 3) := by decide +kernel
theorem dX1_targetsOf_4 : decode cX1_targetsOf 4 = .ok (.getfield 108, 3) := by decide +kernel
theorem dX1_targetsOf_7 : decode cX1_targetsOf 7 = .ok (.aload_n 0, 1) := by decide +kernel
theorem dX1_targetsOf_8 : decode cX1_targetsOf 8 = .ok (.getfield 34, 3) := by decide +kernel
theorem dX1_targetsOf_11 : decode cX1_targetsOf 11 = .ok (.getfield 101, 3) := by decide +kernel
theorem dX1_targetsOf_14 : decode cX1_targetsOf 14 = .ok (.iload_n 1, 1) := by decide +kernel
theorem dX1_targetsOf_15 : decode cX1_targetsOf 15 = .ok (.laload, 1) := by decide +kernel
theorem dX1_targetsOf_16 : decode cX1_targetsOf 16 = .ok (.invokestatic 104, 3) := by decide +kernel
theorem dX1_targetsOf_19 : decode cX1_targetsOf 19 = .ok (.iaload, 1) := by decide +kernel
theorem dX1_targetsOf_20 : decode cX1_targetsOf 20 = .ok (.iconst 3, 1) := by decide +kernel
theorem dX1_targetsOf_21 : decode cX1_targetsOf 21 = .ok (.if_icmp .eq 13, 3) := by decide +kernel
theorem dX1_targetsOf_24 : decode cX1_targetsOf 24 = .ok (.aload_n 0, 1) := by decide +kernel
theorem dX1_targetsOf_25 : decode cX1_targetsOf 25 = .ok (.getfield 34, 3) := by decide +kernel
theorem dX1_targetsOf_28 : decode cX1_targetsOf 28 = .ok (.getfield 187, 3) := by decide +kernel
theorem dX1_targetsOf_31 : decode cX1_targetsOf 31 = .ok (.iload_n 1, 1) := by decide +kernel
theorem dX1_targetsOf_32 : decode cX1_targetsOf 32 = .ok (.iaload, 1) := by decide +kernel
theorem dX1_targetsOf_33 : decode cX1_targetsOf 33 = .ok (.ireturn, 1) := by decide +kernel
theorem dX1_targetsOf_34 : decode cX1_targetsOf 34 = .ok (.aload_n 0, 1) := by decide +kernel
theorem dX1_targetsOf_35 : decode cX1_targetsOf 35 = .ok (.getfield 44, 3) := by decide +kernel
theorem dX1_targetsOf_38 : decode cX1_targetsOf 38 = .ok (.iload_n 1, 1) := by decide +kernel
theorem dX1_targetsOf_39 : decode cX1_targetsOf 39 = .ok (.iaload, 1) := by decide +kernel
theorem dX1_targetsOf_40 : decode cX1_targetsOf 40 = .ok (.ifCond .ge 7, 3) := by decide +kernel
theorem dX1_targetsOf_43 : decode cX1_targetsOf 43 = .ok (.iconst 0, 1) := by decide +kernel
theorem dX1_targetsOf_44 : decode cX1_targetsOf 44 = .ok (.goto 11, 3) := by decide +kernel
theorem dX1_targetsOf_47 : decode cX1_targetsOf 47 = .ok (.iconst 1, 1) := by decide +kernel
theorem dX1_targetsOf_48 : decode cX1_targetsOf 48 = .ok (.aload_n 0, 1) := by decide +kernel
theorem dX1_targetsOf_49 : decode cX1_targetsOf 49 = .ok (.getfield 44, 3) := by decide +kernel
theorem dX1_targetsOf_52 : decode cX1_targetsOf 52 = .ok (.iload_n 1, 1) := by decide +kernel
theorem dX1_targetsOf_53 : decode cX1_targetsOf 53 = .ok (.iaload, 1) := by decide +kernel
theorem dX1_targetsOf_54 : decode cX1_targetsOf 54 = .ok (.ishl, 1) := by decide +kernel
theorem dX1_targetsOf_55 : decode cX1_targetsOf 55 = .ok (.ireturn, 1) := by decide +kernel
theorem dX1_weightTo_0 : decode cX1_weightTo 0 = .ok (.aload_n 0, 1) := by decide +kernel
theorem dX1_weightTo_1 : decode cX1_weightTo 1 = .ok (.getfield 12, 3) := by decide +kernel
theorem dX1_weightTo_4 : decode cX1_weightTo 4 = .ok (.getfield 108, 3) := by decide +kernel
theorem dX1_weightTo_7 : decode cX1_weightTo 7 = .ok (.iload_n 1, 1) := by decide +kernel
theorem dX1_weightTo_8 : decode cX1_weightTo 8 = .ok (.iaload, 1) := by decide +kernel
theorem dX1_weightTo_9 : decode cX1_weightTo 9 = .ok (.iconst 3, 1) := by decide +kernel
theorem dX1_weightTo_10 : decode cX1_weightTo 10 = .ok (.if_icmp .ne 7, 3) := by decide +kernel
theorem dX1_weightTo_13 : decode cX1_weightTo 13 = .ok (.iconst 1, 1) := by decide +kernel
theorem dX1_weightTo_14 : decode cX1_weightTo 14 = .ok (.goto 17, 3) := by decide +kernel
theorem dX1_weightTo_17 : decode cX1_weightTo 17 = .ok (.aload_n 0, 1) := by decide +kernel
theorem dX1_weightTo_18 : decode cX1_weightTo 18 = .ok (.getfield 12, 3) := by decide +kernel
theorem dX1_weightTo_21 : decode cX1_weightTo 21 = .ok (.getfield 193, 3) := by decide +kernel
theorem dX1_weightTo_24 : decode cX1_weightTo 24 = .ok (.iload_n 1, 1) := by decide +kernel
theorem dX1_weightTo_25 : decode cX1_weightTo 25 = .ok (.bipush 8, 2) := by decide +kernel
theorem dX1_weightTo_27 : decode cX1_weightTo 27 = .ok (.imul, 1) := by decide +kernel
theorem dX1_weightTo_28 : decode cX1_weightTo 28 = .ok (.iload_n 2, 1) := by decide +kernel
theorem dX1_weightTo_29 : decode cX1_weightTo 29 = .ok (.iadd, 1) := by decide +kernel
theorem dX1_weightTo_30 : decode cX1_weightTo 30 = .ok (.iaload, 1) := by decide +kernel
theorem dX1_weightTo_31 : decode cX1_weightTo 31 = .ok (.ireturn, 1) := by decide +kernel
theorem dX1_weightsTo_0 : decode cX1_weightsTo 0 = .ok (.iconst 0, 1) := by decide +kernel
theorem dX1_weightsTo_1 : decode cX1_weightsTo 1 = .ok (.istore_n 3, 1) := by decide +kernel
theorem dX1_weightsTo_2 : decode cX1_weightsTo 2 = .ok (.iconst 0, 1) := by decide +kernel
theorem dX1_weightsTo_3 : decode cX1_weightsTo 3 = .ok (.istore 4, 2) := by decide +kernel
theorem dX1_weightsTo_5 : decode cX1_weightsTo 5 = .ok (.iload 4, 2) := by decide +kernel
theorem dX1_weightsTo_7 : decode cX1_weightsTo 7 = .ok (.bipush 8, 2) := by decide +kernel
theorem dX1_weightsTo_9 : decode cX1_weightsTo 9 = .ok (.if_icmp .ge 28, 3) := by decide +kernel
theorem dX1_weightsTo_12 : decode cX1_weightsTo 12 = .ok (.iload_n 2, 1) := by decide +kernel
theorem dX1_weightsTo_13 : decode cX1_weightsTo 13 = .ok (.iload 4, 2) := by decide +kernel
theorem dX1_weightsTo_15 : decode cX1_weightsTo 15 = .ok (.ishr, 1) := by decide +kernel
theorem dX1_weightsTo_16 : decode cX1_weightsTo 16 = .ok (.iconst 1, 1) := by decide +kernel
theorem dX1_weightsTo_17 : decode cX1_weightsTo 17 = .ok (.iand, 1) := by decide +kernel
theorem dX1_weightsTo_18 : decode cX1_weightsTo 18 = .ok (.ifCond .eq 13, 3) := by decide +kernel
theorem dX1_weightsTo_21 : decode cX1_weightsTo 21 = .ok (.iload_n 3, 1) := by decide +kernel
theorem dX1_weightsTo_22 : decode cX1_weightsTo 22 = .ok (.aload_n 0, 1) := by decide +kernel
theorem dX1_weightsTo_23 : decode cX1_weightsTo 23 = .ok (.iload_n 1, 1) := by decide +kernel
theorem dX1_weightsTo_24 : decode cX1_weightsTo 24 = .ok (.iload 4, 2) := by decide +kernel
theorem dX1_weightsTo_26 : decode cX1_weightsTo 26 = .ok (.invokevirtual 161, 3) := by decide +kernel
theorem dX1_weightsTo_29 : decode cX1_weightsTo 29 = .ok (.iadd, 1) := by decide +kernel
theorem dX1_weightsTo_30 : decode cX1_weightsTo 30 = .ok (.istore_n 3, 1) := by decide +kernel
theorem dX1_weightsTo_31 : decode cX1_weightsTo 31 = .ok (.iinc 4 1, 3) := by decide +kernel
theorem dX1_weightsTo_34 : decode cX1_weightsTo 34 = .ok (.goto (-29), 3) := by decide +kernel
theorem dX1_weightsTo_37 : decode cX1_weightsTo 37 = .ok (.iload_n 3, 1) := by decide +kernel
theorem dX1_weightsTo_38 : decode cX1_weightsTo 38 = .ok (.ireturn, 1) := by decide +kernel
theorem dX1_lastByChoice_0 : decode cX1_lastByChoice 0 = .ok (.iconst 0, 1) := by decide +kernel
theorem dX1_lastByChoice_1 : decode cX1_lastByChoice 1 = .ok (.istore_n 1, 1) := by decide +kernel
theorem dX1_lastByChoice_2 : decode cX1_lastByChoice 2 = .ok (.iconst 1, 1) := by decide +kernel
theorem dX1_lastByChoice_3 : decode cX1_lastByChoice 3 = .ok (.istore_n 2, 1) := by decide +kernel
theorem dX1_lastByChoice_4 : decode cX1_lastByChoice 4 = .ok (.iload_n 2, 1) := by decide +kernel
theorem dX1_lastByChoice_5 : decode cX1_lastByChoice 5 = .ok (.bipush 12, 2) := by decide +kernel
theorem dX1_lastByChoice_7 : decode cX1_lastByChoice 7 = .ok (.if_icmp .ge 51, 3) := by decide +kernel
theorem dX1_lastByChoice_10 : decode cX1_lastByChoice 10 = .ok (.aload_n 0, 1) := by decide +kernel
theorem dX1_lastByChoice_11 : decode cX1_lastByChoice 11 = .ok (.getfield 44, 3) := by decide +kernel
theorem dX1_lastByChoice_14 : decode cX1_lastByChoice 14 = .ok (.iload_n 1, 1) := by decide +kernel
theorem dX1_lastByChoice_15 : decode cX1_lastByChoice 15 = .ok (.iaload, 1) := by decide +kernel
theorem dX1_lastByChoice_16 : decode cX1_lastByChoice 16 = .ok (.istore_n 3, 1) := by decide +kernel
theorem dX1_lastByChoice_17 : decode cX1_lastByChoice 17 = .ok (.iload_n 3, 1) := by decide +kernel
theorem dX1_lastByChoice_18 : decode cX1_lastByChoice 18 = .ok (.ifCond .ge 7, 3) := by decide +kernel
theorem dX1_lastByChoice_21 : decode cX1_lastByChoice 21 = .ok (.iconst (-1), 1) := by decide +kernel
theorem dX1_lastByChoice_22 : decode cX1_lastByChoice 22 = .ok (.goto 17, 3) := by decide +kernel
theorem dX1_lastByChoice_25 : decode cX1_lastByChoice 25 = .ok (.aload_n 0, 1) := by decide +kernel
theorem dX1_lastByChoice_26 : decode cX1_lastByChoice 26 = .ok (.getfield 34, 3) := by decide +kernel
theorem dX1_lastByChoice_29 : decode cX1_lastByChoice 29 = .ok (.getfield 158, 3) := by decide +kernel
theorem dX1_lastByChoice_32 : decode cX1_lastByChoice 32 = .ok (.iload_n 1, 1) := by decide +kernel
theorem dX1_lastByChoice_33 : decode cX1_lastByChoice 33 = .ok (.bipush 8, 2) := by decide +kernel
theorem dX1_lastByChoice_35 : decode cX1_lastByChoice 35 = .ok (.imul, 1) := by decide +kernel
theorem dX1_lastByChoice_36 : decode cX1_lastByChoice 36 = .ok (.iload_n 3, 1) := by decide +kernel
theorem dX1_lastByChoice_37 : decode cX1_lastByChoice 37 = .ok (.iadd, 1) := by decide +kernel
theorem dX1_lastByChoice_38 : decode cX1_lastByChoice 38 = .ok (.iaload, 1) := by decide +kernel
theorem dX1_lastByChoice_39 : decode cX1_lastByChoice 39 = .ok (.istore 4, 2) := by decide +kernel
theorem dX1_lastByChoice_41 : decode cX1_lastByChoice 41 = .ok (.iload 4, 2) := by decide +kernel
theorem dX1_lastByChoice_43 : decode cX1_lastByChoice 43 = .ok (.ifCond .ge 6, 3) := by decide +kernel
theorem dX1_lastByChoice_46 : decode cX1_lastByChoice 46 = .ok (.goto 12, 3) := by decide +kernel
theorem dX1_lastByChoice_49 : decode cX1_lastByChoice 49 = .ok (.iload 4, 2) := by decide +kernel
theorem dX1_lastByChoice_51 : decode cX1_lastByChoice 51 = .ok (.istore_n 1, 1) := by decide +kernel
theorem dX1_lastByChoice_52 : decode cX1_lastByChoice 52 = .ok (.iinc 2 1, 3) := by decide +kernel
theorem dX1_lastByChoice_55 : decode cX1_lastByChoice 55 = .ok (.goto (-51), 3) := by decide +kernel
theorem dX1_lastByChoice_58 : decode cX1_lastByChoice 58 = .ok (.aload_n 0, 1) := by decide +kernel
theorem dX1_lastByChoice_59 : decode cX1_lastByChoice 59 = .ok (.getfield 34, 3) := by decide +kernel
theorem dX1_lastByChoice_62 : decode cX1_lastByChoice 62 = .ok (.getfield 101, 3) := by decide +kernel
theorem dX1_lastByChoice_65 : decode cX1_lastByChoice 65 = .ok (.iload_n 1, 1) := by decide +kernel
theorem dX1_lastByChoice_66 : decode cX1_lastByChoice 66 = .ok (.laload, 1) := by decide +kernel
theorem dX1_lastByChoice_67 : decode cX1_lastByChoice 67 = .ok (.lreturn, 1) := by decide +kernel
theorem dX1_countCases_0 : decode cX1_countCases 0 = .ok (.aload_n 0, 1) := by decide +kernel
theorem dX1_countCases_1 : decode cX1_countCases 1 = .ok (.getfield 68, 3) := by decide +kernel
theorem dX1_countCases_4 : decode cX1_countCases 4 = .ok (.ifCond .eq 4, 3) := by decide +kernel
theorem dX1_countCases_7 : decode cX1_countCases 7 = .ok (.return_, 1) := by decide +kernel
theorem dX1_countCases_8 : decode cX1_countCases 8 = .ok (.aload_n 0, 1) := by decide +kernel
theorem dX1_countCases_9 : decode cX1_countCases 9 = .ok (.invokevirtual 196, 3) := by decide +kernel
theorem dX1_countCases_12 : decode cX1_countCases 12 = .ok (.aload_n 0, 1) := by decide +kernel
theorem dX1_countCases_13 : decode cX1_countCases 13 = .ok (.getfield 18, 3) := by decide +kernel
theorem dX1_countCases_16 : decode cX1_countCases 16 = .ok (.lconst 0, 1) := by decide +kernel
theorem dX1_countCases_17 : decode cX1_countCases 17 = .ok (.invokestatic 149, 3) := by decide +kernel
theorem dX1_countCases_20 : decode cX1_countCases 20 = .ok (.aload_n 0, 1) := by decide +kernel
theorem dX1_countCases_21 : decode cX1_countCases 21 = .ok (.invokevirtual 199, 3) := by decide +kernel
theorem dX1_countCases_24 : decode cX1_countCases 24 = .ok (.iconst 0, 1) := by decide +kernel
theorem dX1_countCases_25 : decode cX1_countCases 25 = .ok (.istore_n 1, 1) := by decide +kernel
theorem dX1_countCases_26 : decode cX1_countCases 26 = .ok (.iload_n 1, 1) := by decide +kernel
theorem dX1_countCases_27 : decode cX1_countCases 27 = .ok (.aload_n 0, 1) := by decide +kernel
theorem dX1_countCases_28 : decode cX1_countCases 28 = .ok (.getfield 34, 3) := by decide +kernel
theorem dX1_countCases_31 : decode cX1_countCases 31 = .ok (.getfield 95, 3) := by decide +kernel
theorem dX1_countCases_34 : decode cX1_countCases 34 = .ok (.if_icmp .ge 25, 3) := by decide +kernel
theorem dX1_countCases_37 : decode cX1_countCases 37 = .ok (.aload_n 0, 1) := by decide +kernel
theorem dX1_countCases_38 : decode cX1_countCases 38 = .ok (.getfield 47, 3) := by decide +kernel
theorem dX1_countCases_41 : decode cX1_countCases 41 = .ok (.iload_n 1, 1) := by decide +kernel
theorem dX1_countCases_42 : decode cX1_countCases 42 = .ok (.laload, 1) := by decide +kernel
theorem dX1_countCases_43 : decode cX1_countCases 43 = .ok (.lconst 0, 1) := by decide +kernel
theorem dX1_countCases_44 : decode cX1_countCases 44 = .ok (.lcmp, 1) := by decide +kernel
theorem dX1_countCases_45 : decode cX1_countCases 45 = .ok (.ifCond .le 8, 3) := by decide +kernel
theorem dX1_countCases_48 : decode cX1_countCases 48 = .ok (.aload_n 0, 1) := by decide +kernel
theorem dX1_countCases_49 : decode cX1_countCases 49 = .ok (.iload_n 1, 1) := by decide +kernel
theorem dX1_countCases_50 : decode cX1_countCases 50 = .ok (.invokevirtual 202, 3) := by decide +kernel
theorem dX1_countCases_53 : decode cX1_countCases 53 = .ok (.iinc 1 1, 3) := by decide +kernel
theorem dX1_countCases_56 : decode cX1_countCases 56 = .ok (.goto (-30), 3) := by decide +kernel
theorem dX1_countCases_59 : decode cX1_countCases 59 = .ok (.aload_n 0, 1) := by decide +kernel
theorem dX1_countCases_60 : decode cX1_countCases 60 = .ok (.iconst 1, 1) := by decide +kernel
theorem dX1_countCases_61 : decode cX1_countCases 61 = .ok (.putfield 68, 3) := by decide +kernel
theorem dX1_countCases_64 : decode cX1_countCases 64 = .ok (.return_, 1) := by decide +kernel
theorem dX1_clearTally_0 : decode cX1_clearTally 0 = .ok (.iconst 1, 1) := by decide +kernel
theorem dX1_clearTally_1 : decode cX1_clearTally 1 = .ok (.istore_n 1, 1) := by decide +kernel
theorem dX1_clearTally_2 : decode cX1_clearTally 2 = .ok (.iload_n 1, 1) := by decide +kernel
theorem dX1_clearTally_3 : decode cX1_clearTally 3 = .ok (.aload_n 0, 1) := by decide +kernel
theorem dX1_clearTally_4 : decode cX1_clearTally 4 = .ok (.getfield 34, 3) := by decide +kernel
theorem dX1_clearTally_7 : decode cX1_clearTally 7 = .ok (.getfield 95, 3) := by decide +kernel
theorem dX1_clearTally_10 : decode cX1_clearTally 10 = .ok (.if_icmp .ge 16, 3) := by decide +kernel
theorem dX1_clearTally_13 : decode cX1_clearTally 13 = .ok (.aload_n 0, 1) := by decide +kernel
theorem dX1_clearTally_14 : decode cX1_clearTally 14 = .ok (.getfield 47, 3) := by decide +kernel
theorem dX1_clearTally_17 : decode cX1_clearTally 17 = .ok (.iload_n 1, 1) := by decide +kernel
theorem dX1_clearTally_18 : decode cX1_clearTally 18 = .ok (.lconst 0, 1) := by decide +kernel
theorem dX1_clearTally_19 : decode cX1_clearTally 19 = .ok (.lastore, 1) := by decide +kernel
theorem dX1_clearTally_20 : decode cX1_clearTally 20 = .ok (.iinc 1 1, 3) := by decide +kernel
theorem dX1_clearTally_23 : decode cX1_clearTally 23 = .ok (.goto (-21), 3) := by decide +kernel
theorem dX1_clearTally_26 : decode cX1_clearTally 26 = .ok (.aload_n 0, 1) := by decide +kernel
theorem dX1_clearTally_27 : decode cX1_clearTally 27 = .ok (.getfield 47, 3) := by decide +kernel
theorem dX1_clearTally_30 : decode cX1_clearTally 30 = .ok (.iconst 0, 1) := by decide +kernel
theorem dX1_clearTally_31 : decode cX1_clearTally 31 = .ok (.ldc2_w 147, 3) := by decide +kernel
theorem dX1_clearTally_34 : decode cX1_clearTally 34 = .ok (.lastore, 1) := by decide +kernel
theorem dX1_clearTally_35 : decode cX1_clearTally 35 = .ok (.return_, 1) := by decide +kernel
theorem dX1_spreadCases_0 : decode cX1_spreadCases 0 = .ok (.aload_n 0, 1) := by decide +kernel
theorem dX1_spreadCases_1 : decode cX1_spreadCases 1 = .ok (.getfield 34, 3) := by decide +kernel
theorem dX1_spreadCases_4 : decode cX1_spreadCases 4 = .ok (.getfield 101, 3) := by decide +kernel
theorem dX1_spreadCases_7 : decode cX1_spreadCases 7 = .ok (.iload_n 1, 1) := by decide +kernel
theorem dX1_spreadCases_8 : decode cX1_spreadCases 8 = .ok (.laload, 1) := by decide +kernel
theorem dX1_spreadCases_9 : decode cX1_spreadCases 9 = .ok (.lstore_n 2, 1) := by decide +kernel
theorem dX1_spreadCases_10 : decode cX1_spreadCases 10 = .ok (.lload_n 2, 1) := by decide +kernel
theorem dX1_spreadCases_11 : decode cX1_spreadCases 11 = .ok (.invokestatic 104, 3) := by decide +kernel
theorem dX1_spreadCases_14 : decode cX1_spreadCases 14 = .ok (.istore 4, 2) := by decide +kernel
theorem dX1_spreadCases_16 : decode cX1_spreadCases 16 = .ok (.lload_n 2, 1) := by decide +kernel
theorem dX1_spreadCases_17 : decode cX1_spreadCases 17 = .ok (.invokestatic 133, 3) := by decide +kernel
theorem dX1_spreadCases_20 : decode cX1_spreadCases 20 = .ok (.istore 5, 2) := by decide +kernel
theorem dX1_spreadCases_22 : decode cX1_spreadCases 22 = .ok (.aload_n 0, 1) := by decide +kernel
theorem dX1_spreadCases_23 : decode cX1_spreadCases 23 = .ok (.getfield 47, 3) := by decide +kernel
theorem dX1_spreadCases_26 : decode cX1_spreadCases 26 = .ok (.iload_n 1, 1) := by decide +kernel
theorem dX1_spreadCases_27 : decode cX1_spreadCases 27 = .ok (.laload, 1) := by decide +kernel
theorem dX1_spreadCases_28 : decode cX1_spreadCases 28 = .ok (.aload_n 0, 1) := by decide +kernel
theorem dX1_spreadCases_29 : decode cX1_spreadCases 29 = .ok (.iload_n 1, 1) := by decide +kernel
theorem dX1_spreadCases_30 : decode cX1_spreadCases 30 = .ok (.invokevirtual 123, 3) := by decide +kernel
theorem dX1_spreadCases_33 : decode cX1_spreadCases 33 = .ok (.i2l, 1) := by decide +kernel
theorem dX1_spreadCases_34 : decode cX1_spreadCases 34 = .ok (.lmul, 1) := by decide +kernel
theorem dX1_spreadCases_35 : decode cX1_spreadCases 35 = .ok (.ldc2_w 139, 3) := by decide +kernel
theorem dX1_spreadCases_38 : decode cX1_spreadCases 38 = .ok (.ldiv, 1) := by decide +kernel
theorem dX1_spreadCases_39 : decode cX1_spreadCases 39 = .ok (.lstore 6, 2) := by decide +kernel
theorem dX1_spreadCases_41 : decode cX1_spreadCases 41 = .ok (.iload 5, 2) := by decide +kernel
theorem dX1_spreadCases_43 : decode cX1_spreadCases 43 = .ok (.iconst 1, 1) := by decide +kernel
theorem dX1_spreadCases_44 : decode cX1_spreadCases 44 = .ok (.if_icmp .lt 30, 3) := by decide +kernel
theorem dX1_spreadCases_47 : decode cX1_spreadCases 47 = .ok (.iload 5, 2) := by decide +kernel
theorem dX1_spreadCases_49 : decode cX1_spreadCases 49 = .ok (.bipush 12, 2) := by decide +kernel
theorem dX1_spreadCases_51 : decode cX1_spreadCases 51 = .ok (.if_icmp .gt 23, 3) := by decide +kernel
theorem dX1_spreadCases_54 : decode cX1_spreadCases 54 = .ok (.aload_n 0, 1) := by decide +kernel
theorem dX1_spreadCases_55 : decode cX1_spreadCases 55 = .ok (.getfield 18, 3) := by decide +kernel
theorem dX1_spreadCases_58 : decode cX1_spreadCases 58 = .ok (.iload 4, 2) := by decide +kernel
theorem dX1_spreadCases_60 : decode cX1_spreadCases 60 = .ok (.bipush 12, 2) := by decide +kernel
theorem dX1_spreadCases_62 : decode cX1_spreadCases 62 = .ok (.imul, 1) := by decide +kernel
theorem dX1_spreadCases_63 : decode cX1_spreadCases 63 = .ok (.iload 5, 2) := by decide +kernel
theorem dX1_spreadCases_65 : decode cX1_spreadCases 65 = .ok (.iadd, 1) := by decide +kernel
theorem dX1_spreadCases_66 : decode cX1_spreadCases 66 = .ok (.iconst 1, 1) := by decide +kernel
theorem dX1_spreadCases_67 : decode cX1_spreadCases 67 = .ok (.isub, 1) := by decide +kernel
theorem dX1_spreadCases_68 : decode cX1_spreadCases 68 = .ok (.dup2, 1) := by decide +kernel
theorem dX1_spreadCases_69 : decode cX1_spreadCases 69 = .ok (.laload, 1) := by decide +kernel
theorem dX1_spreadCases_70 : decode cX1_spreadCases 70 = .ok (.lload 6, 2) := by decide +kernel
theorem dX1_spreadCases_72 : decode cX1_spreadCases 72 = .ok (.ladd, 1) := by decide +kernel
theorem dX1_spreadCases_73 : decode cX1_spreadCases 73 = .ok (.lastore, 1) := by decide +kernel
theorem dX1_spreadCases_74 : decode cX1_spreadCases 74 = .ok (.aload_n 0, 1) := by decide +kernel
theorem dX1_spreadCases_75 : decode cX1_spreadCases 75 = .ok (.getfield 47, 3) := by decide +kernel
theorem dX1_spreadCases_78 : decode cX1_spreadCases 78 = .ok (.iload_n 1, 1) := by decide +kernel
theorem dX1_spreadCases_79 : decode cX1_spreadCases 79 = .ok (.laload, 1) := by decide +kernel
theorem dX1_spreadCases_80 : decode cX1_spreadCases 80 = .ok (.lload 6, 2) := by decide +kernel
theorem dX1_spreadCases_82 : decode cX1_spreadCases 82 = .ok (.lsub, 1) := by decide +kernel
theorem dX1_spreadCases_83 : decode cX1_spreadCases 83 = .ok (.lstore 8, 2) := by decide +kernel
theorem dX1_spreadCases_85 : decode cX1_spreadCases 85 = .ok (.aload_n 0, 1) := by decide +kernel
theorem dX1_spreadCases_86 : decode cX1_spreadCases 86 = .ok (.iload_n 1, 1) := by decide +kernel
theorem dX1_spreadCases_87 : decode cX1_spreadCases 87 = .ok (.invokevirtual 155, 3) := by decide +kernel
theorem dX1_spreadCases_90 : decode cX1_spreadCases 90 = .ok (.istore 10, 2) := by decide +kernel
theorem dX1_spreadCases_92 : decode cX1_spreadCases 92 = .ok (.aload_n 0, 1) := by decide +kernel
theorem dX1_spreadCases_93 : decode cX1_spreadCases 93 = .ok (.iload 4, 2) := by decide +kernel
theorem dX1_spreadCases_95 : decode cX1_spreadCases 95 = .ok (.iload 10, 2) := by decide +kernel
theorem dX1_spreadCases_97 : decode cX1_spreadCases 97 = .ok (.invokevirtual 205, 3) := by decide +kernel
theorem dX1_spreadCases_100 : decode cX1_spreadCases 100 = .ok (.istore 11, 2) := by decide +kernel
theorem dX1_spreadCases_102 : decode cX1_spreadCases 102 = .ok (.lload 8, 2) := by decide +kernel
theorem dX1_spreadCases_104 : decode cX1_spreadCases 104 = .ok (.lconst 0, 1) := by decide +kernel
theorem dX1_spreadCases_105 : decode cX1_spreadCases 105 = .ok (.lcmp, 1) := by decide +kernel
theorem dX1_spreadCases_106 : decode cX1_spreadCases 106 = .ok (.ifCond .eq 8, 3) := by decide +kernel
theorem dX1_spreadCases_109 : decode cX1_spreadCases 109 = .ok (.iload 11, 2) := by decide +kernel
theorem dX1_spreadCases_111 : decode cX1_spreadCases 111 = .ok (.ifCond .gt 4, 3) := by decide +kernel
theorem dX1_spreadCases_114 : decode cX1_spreadCases 114 = .ok (.return_, 1) := by decide +kernel
theorem dX1_spreadCases_115 : decode cX1_spreadCases 115 = .ok (.lload 8, 2) := by decide +kernel
theorem dX1_spreadCases_117 : decode cX1_spreadCases 117 = .ok (.lstore 12, 2) := by decide +kernel
theorem dX1_spreadCases_119 : decode cX1_spreadCases 119 = .ok (.iconst 0, 1) := by decide +kernel
theorem dX1_spreadCases_120 : decode cX1_spreadCases 120 = .ok (.istore 14, 2) := by decide +kernel
theorem dX1_spreadCases_122 : decode cX1_spreadCases 122 = .ok (.iload 14, 2) := by decide +kernel
theorem dX1_spreadCases_124 : decode cX1_spreadCases 124 = .ok (.bipush 8, 2) := by decide +kernel
theorem dX1_spreadCases_126 : decode cX1_spreadCases 126 = .ok (.if_icmp .ge 104, 3) := by decide +kernel
theorem dX1_spreadCases_129 : decode cX1_spreadCases 129 = .ok (.aload_n 0, 1) := by decide +kernel
theorem dX1_spreadCases_130 : decode cX1_spreadCases 130 = .ok (.getfield 34, 3) := by decide +kernel
theorem dX1_spreadCases_133 : decode cX1_spreadCases 133 = .ok (.getfield 158, 3) := by decide +kernel
theorem dX1_spreadCases_136 : decode cX1_spreadCases 136 = .ok (.iload_n 1, 1) := by decide +kernel
theorem dX1_spreadCases_137 : decode cX1_spreadCases 137 = .ok (.bipush 8, 2) := by decide +kernel
theorem dX1_spreadCases_139 : decode cX1_spreadCases 139 = .ok (.imul, 1) := by decide +kernel
theorem dX1_spreadCases_140 : decode cX1_spreadCases 140 = .ok (.iload 14, 2) := by decide +kernel
theorem dX1_spreadCases_142 : decode cX1_spreadCases 142 = .ok (.iadd, 1) := by decide +kernel
theorem dX1_spreadCases_143 : decode cX1_spreadCases 143 = .ok (.iaload, 1) := by decide +kernel
theorem dX1_spreadCases_144 : decode cX1_spreadCases 144 = .ok (.istore 15, 2) := by decide +kernel
theorem dX1_spreadCases_146 : decode cX1_spreadCases 146 = .ok (.iload 10, 2) := by decide +kernel
theorem dX1_spreadCases_148 : decode cX1_spreadCases 148 = .ok (.iload 14, 2) := by decide +kernel
theorem dX1_spreadCases_150 : decode cX1_spreadCases 150 = .ok (.ishr, 1) := by decide +kernel
theorem dX1_spreadCases_151 : decode cX1_spreadCases 151 = .ok (.iconst 1, 1) := by decide +kernel
theorem dX1_spreadCases_152 : decode cX1_spreadCases 152 = .ok (.iand, 1) := by decide +kernel
theorem dX1_spreadCases_153 : decode cX1_spreadCases 153 = .ok (.ifCond .eq 71, 3) := by decide +kernel
theorem dX1_spreadCases_156 : decode cX1_spreadCases 156 = .ok (.iload 15, 2) := by decide +kernel
theorem dX1_spreadCases_158 : decode cX1_spreadCases 158 = .ok (.ifCond .lt 66, 3) := by decide +kernel
theorem dX1_spreadCases_161 : decode cX1_spreadCases 161 = .ok (.iload 10, 2) := by decide +kernel
theorem dX1_spreadCases_163 : decode cX1_spreadCases 163 = .ok (.iload 14, 2) := by decide +kernel
theorem dX1_spreadCases_165 : decode cX1_spreadCases 165 = .ok (.ishr, 1) := by decide +kernel
theorem dX1_spreadCases_166 : decode cX1_spreadCases 166 = .ok (.iconst 1, 1) := by decide +kernel
theorem dX1_spreadCases_167 : decode cX1_spreadCases 167 = .ok (.if_icmp .ne 7, 3) := by decide +kernel
theorem dX1_spreadCases_170 : decode cX1_spreadCases 170 = .ok (.iconst 1, 1) := by decide +kernel
theorem dX1_spreadCases_171 : decode cX1_spreadCases 171 = .ok (.goto 4, 3) := by decide +kernel
theorem dX1_spreadCases_174 : decode cX1_spreadCases 174 = .ok (.iconst 0, 1) := by decide +kernel
theorem dX1_spreadCases_175 : decode cX1_spreadCases 175 = .ok (.istore 16, 2) := by decide +kernel
theorem dX1_spreadCases_177 : decode cX1_spreadCases 177 = .ok (.iload 16, 2) := by decide +kernel
theorem dX1_spreadCases_179 : decode cX1_spreadCases 179 = .ok (.ifCond .eq 8, 3) := by decide +kernel
theorem dX1_spreadCases_182 : decode cX1_spreadCases 182 = .ok (.lload 12, 2) := by decide +kernel
theorem dX1_spreadCases_184 : decode cX1_spreadCases 184 = .ok (.goto 19, 3) := by decide +kernel
theorem dX1_spreadCases_187 : decode cX1_spreadCases 187 = .ok (.lload 8, 2) := by decide +kernel
theorem dX1_spreadCases_189 : decode cX1_spreadCases 189 = .ok (.aload_n 0, 1) := by decide +kernel
theorem dX1_spreadCases_190 : decode cX1_spreadCases 190 = .ok (.iload 4, 2) := by decide +kernel
theorem dX1_spreadCases_192 : decode cX1_spreadCases 192 = .ok (.iload 14, 2) := by decide +kernel
theorem dX1_spreadCases_194 : decode cX1_spreadCases 194 = .ok (.invokevirtual 161, 3) := by decide +kernel
theorem dX1_spreadCases_197 : decode cX1_spreadCases 197 = .ok (.i2l, 1) := by decide +kernel
theorem dX1_spreadCases_198 : decode cX1_spreadCases 198 = .ok (.lmul, 1) := by decide +kernel
theorem dX1_spreadCases_199 : decode cX1_spreadCases 199 = .ok (.iload 11, 2) := by decide +kernel
theorem dX1_spreadCases_201 : decode cX1_spreadCases 201 = .ok (.i2l, 1) := by decide +kernel
theorem dX1_spreadCases_202 : decode cX1_spreadCases 202 = .ok (.ldiv, 1) := by decide +kernel
theorem dX1_spreadCases_203 : decode cX1_spreadCases 203 = .ok (.lstore 17, 2) := by decide +kernel
theorem dX1_spreadCases_205 : decode cX1_spreadCases 205 = .ok (.lload 12, 2) := by decide +kernel
theorem dX1_spreadCases_207 : decode cX1_spreadCases 207 = .ok (.lload 17, 2) := by decide +kernel
theorem dX1_spreadCases_209 : decode cX1_spreadCases 209 = .ok (.lsub, 1) := by decide +kernel
theorem dX1_spreadCases_210 : decode cX1_spreadCases 210 = .ok (.lstore 12, 2) := by decide +kernel
theorem dX1_spreadCases_212 : decode cX1_spreadCases 212 = .ok (.aload_n 0, 1) := by decide +kernel
theorem dX1_spreadCases_213 : decode cX1_spreadCases 213 = .ok (.getfield 47, 3) := by decide +kernel
theorem dX1_spreadCases_216 : decode cX1_spreadCases 216 = .ok (.iload 15, 2) := by decide +kernel
theorem dX1_spreadCases_218 : decode cX1_spreadCases 218 = .ok (.dup2, 1) := by decide +kernel
theorem dX1_spreadCases_219 : decode cX1_spreadCases 219 = .ok (.laload, 1) := by decide +kernel
theorem dX1_spreadCases_220 : decode cX1_spreadCases 220 = .ok (.lload 17, 2) := by decide +kernel
theorem dX1_spreadCases_222 : decode cX1_spreadCases 222 = .ok (.ladd, 1) := by decide +kernel
theorem dX1_spreadCases_223 : decode cX1_spreadCases 223 = .ok (.lastore, 1) := by decide +kernel
theorem dX1_spreadCases_224 : decode cX1_spreadCases 224 = .ok (.iinc 14 1, 3) := by decide +kernel
theorem dX1_spreadCases_227 : decode cX1_spreadCases 227 = .ok (.goto (-105), 3) := by decide +kernel
theorem dX1_spreadCases_230 : decode cX1_spreadCases 230 = .ok (.return_, 1) := by decide +kernel
theorem dX1_casesOf_0 : decode cX1_casesOf 0 = .ok (.aload_n 0, 1) := by decide +kernel
theorem dX1_casesOf_1 : decode cX1_casesOf 1 = .ok (.getfield 18, 3) := by decide +kernel
theorem dX1_casesOf_4 : decode cX1_casesOf 4 = .ok (.iload_n 1, 1) := by decide +kernel
theorem dX1_casesOf_5 : decode cX1_casesOf 5 = .ok (.bipush 12, 2) := by decide +kernel
theorem dX1_casesOf_7 : decode cX1_casesOf 7 = .ok (.imul, 1) := by decide +kernel
theorem dX1_casesOf_8 : decode cX1_casesOf 8 = .ok (.iload_n 2, 1) := by decide +kernel
theorem dX1_casesOf_9 : decode cX1_casesOf 9 = .ok (.iadd, 1) := by decide +kernel
theorem dX1_casesOf_10 : decode cX1_casesOf 10 = .ok (.iconst 1, 1) := by decide +kernel
theorem dX1_casesOf_11 : decode cX1_casesOf 11 = .ok (.isub, 1) := by decide +kernel
theorem dX1_casesOf_12 : decode cX1_casesOf 12 = .ok (.laload, 1) := by decide +kernel
theorem dX1_casesOf_13 : decode cX1_casesOf 13 = .ok (.lreturn, 1) := by decide +kernel
theorem dX1_casesAt_0 : decode cX1_casesAt 0 = .ok (.lconst 0, 1) := by decide +kernel
theorem dX1_casesAt_1 : decode cX1_casesAt 1 = .ok (.lstore_n 2, 1) := by decide +kernel
theorem dX1_casesAt_2 : decode cX1_casesAt 2 = .ok (.iconst 0, 1) := by decide +kernel
theorem dX1_casesAt_3 : decode cX1_casesAt 3 = .ok (.istore 4, 2) := by decide +kernel
theorem dX1_casesAt_5 : decode cX1_casesAt 5 = .ok (.iload 4, 2) := by decide +kernel
theorem dX1_casesAt_7 : decode cX1_casesAt 7 = .ok (.bipush 8, 2) := by decide +kernel
theorem dX1_casesAt_9 : decode cX1_casesAt 9 = .ok (.if_icmp .ge 19, 3) := by decide +kernel
theorem dX1_casesAt_12 : decode cX1_casesAt 12 = .ok (.lload_n 2, 1) := by decide +kernel
theorem dX1_casesAt_13 : decode cX1_casesAt 13 = .ok (.aload_n 0, 1) := by decide +kernel
theorem dX1_casesAt_14 : decode cX1_casesAt 14 = .ok (.iload 4, 2) := by decide +kernel
theorem dX1_casesAt_16 : decode cX1_casesAt 16 = .ok (.iload_n 1, 1) := by decide +kernel
theorem dX1_casesAt_17 : decode cX1_casesAt 17 = .ok (.invokevirtual 208, 3) := by decide +kernel
theorem dX1_casesAt_20 : decode cX1_casesAt 20 = .ok (.ladd, 1) := by decide +kernel
theorem dX1_casesAt_21 : decode cX1_casesAt 21 = .ok (.lstore_n 2, 1) := by decide +kernel
theorem dX1_casesAt_22 : decode cX1_casesAt 22 = .ok (.iinc 4 1, 3) := by decide +kernel
theorem dX1_casesAt_25 : decode cX1_casesAt 25 = .ok (.goto (-20), 3) := by decide +kernel
theorem dX1_casesAt_28 : decode cX1_casesAt 28 = .ok (.lload_n 2, 1) := by decide +kernel
theorem dX1_casesAt_29 : decode cX1_casesAt 29 = .ok (.lreturn, 1) := by decide +kernel
theorem dX1_lengthOfAll_0 : decode cX1_lengthOfAll 0 = .ok (.lconst 0, 1) := by decide +kernel
theorem dX1_lengthOfAll_1 : decode cX1_lengthOfAll 1 = .ok (.lstore_n 1, 1) := by decide +kernel
theorem dX1_lengthOfAll_2 : decode cX1_lengthOfAll 2 = .ok (.iconst 1, 1) := by decide +kernel
theorem dX1_lengthOfAll_3 : decode cX1_lengthOfAll 3 = .ok (.istore_n 3, 1) := by decide +kernel
theorem dX1_lengthOfAll_4 : decode cX1_lengthOfAll 4 = .ok (.iload_n 3, 1) := by decide +kernel
theorem dX1_lengthOfAll_5 : decode cX1_lengthOfAll 5 = .ok (.bipush 12, 2) := by decide +kernel
theorem dX1_lengthOfAll_7 : decode cX1_lengthOfAll 7 = .ok (.if_icmp .gt 20, 3) := by decide +kernel
theorem dX1_lengthOfAll_10 : decode cX1_lengthOfAll 10 = .ok (.lload_n 1, 1) := by decide +kernel
theorem dX1_lengthOfAll_11 : decode cX1_lengthOfAll 11 = .ok (.iload_n 3, 1) := by decide +kernel
theorem dX1_lengthOfAll_12 : decode cX1_lengthOfAll 12 = .ok (.i2l, 1) := by decide +kernel
theorem dX1_lengthOfAll_13 : decode cX1_lengthOfAll 13 = .ok (.aload_n 0, 1) := by decide +kernel
theorem dX1_lengthOfAll_14 : decode cX1_lengthOfAll 14 = .ok (.iload_n 3, 1) := by decide +kernel
theorem dX1_lengthOfAll_15 : decode cX1_lengthOfAll 15 = .ok (.invokevirtual 211, 3) := by decide +kernel
theorem dX1_lengthOfAll_18 : decode cX1_lengthOfAll 18 = .ok (.lmul, 1) := by decide +kernel
theorem dX1_lengthOfAll_19 : decode cX1_lengthOfAll 19 = .ok (.ladd, 1) := by decide +kernel
theorem dX1_lengthOfAll_20 : decode cX1_lengthOfAll 20 = .ok (.lstore_n 1, 1) := by decide +kernel
theorem dX1_lengthOfAll_21 : decode cX1_lengthOfAll 21 = .ok (.iinc 3 1, 3) := by decide +kernel
theorem dX1_lengthOfAll_24 : decode cX1_lengthOfAll 24 = .ok (.goto (-20), 3) := by decide +kernel
theorem dX1_lengthOfAll_27 : decode cX1_lengthOfAll 27 = .ok (.lload_n 1, 1) := by decide +kernel
theorem dX1_lengthOfAll_28 : decode cX1_lengthOfAll 28 = .ok (.lreturn, 1) := by decide +kernel
theorem dX1_chanceTo_0 : decode cX1_chanceTo 0 = .ok (.aload_n 0, 1) := by decide +kernel
theorem dX1_chanceTo_1 : decode cX1_chanceTo 1 = .ok (.getfield 34, 3) := by decide +kernel
theorem dX1_chanceTo_4 : decode cX1_chanceTo 4 = .ok (.getfield 101, 3) := by decide +kernel
theorem dX1_chanceTo_7 : decode cX1_chanceTo 7 = .ok (.iload_n 1, 1) := by decide +kernel
theorem dX1_chanceTo_8 : decode cX1_chanceTo 8 = .ok (.laload, 1) := by decide +kernel
theorem dX1_chanceTo_9 : decode cX1_chanceTo 9 = .ok (.invokestatic 104, 3) := by decide +kernel
theorem dX1_chanceTo_12 : decode cX1_chanceTo 12 = .ok (.istore 5, 2) := by decide +kernel
theorem dX1_chanceTo_14 : decode cX1_chanceTo 14 = .ok (.aload_n 0, 1) := by decide +kernel
theorem dX1_chanceTo_15 : decode cX1_chanceTo 15 = .ok (.iload_n 1, 1) := by decide +kernel
theorem dX1_chanceTo_16 : decode cX1_chanceTo 16 = .ok (.invokevirtual 155, 3) := by decide +kernel
theorem dX1_chanceTo_19 : decode cX1_chanceTo 19 = .ok (.istore 6, 2) := by decide +kernel
theorem dX1_chanceTo_21 : decode cX1_chanceTo 21 = .ok (.aload_n 0, 1) := by decide +kernel
theorem dX1_chanceTo_22 : decode cX1_chanceTo 22 = .ok (.iload 5, 2) := by decide +kernel
theorem dX1_chanceTo_24 : decode cX1_chanceTo 24 = .ok (.iload 6, 2) := by decide +kernel
theorem dX1_chanceTo_26 : decode cX1_chanceTo 26 = .ok (.invokevirtual 205, 3) := by decide +kernel
theorem dX1_chanceTo_29 : decode cX1_chanceTo 29 = .ok (.istore 7, 2) := by decide +kernel
theorem dX1_chanceTo_31 : decode cX1_chanceTo 31 = .ok (.iload 6, 2) := by decide +kernel
theorem dX1_chanceTo_33 : decode cX1_chanceTo 33 = .ok (.iload_n 2, 1) := by decide +kernel
theorem dX1_chanceTo_34 : decode cX1_chanceTo 34 = .ok (.ishr, 1) := by decide +kernel
theorem dX1_chanceTo_35 : decode cX1_chanceTo 35 = .ok (.iconst 1, 1) := by decide +kernel
theorem dX1_chanceTo_36 : decode cX1_chanceTo 36 = .ok (.iand, 1) := by decide +kernel
theorem dX1_chanceTo_37 : decode cX1_chanceTo 37 = .ok (.ifCond .eq 8, 3) := by decide +kernel
theorem dX1_chanceTo_40 : decode cX1_chanceTo 40 = .ok (.iload 7, 2) := by decide +kernel
theorem dX1_chanceTo_42 : decode cX1_chanceTo 42 = .ok (.ifCond .gt 5, 3) := by decide +kernel
theorem dX1_chanceTo_45 : decode cX1_chanceTo 45 = .ok (.lconst 0, 1) := by decide +kernel
theorem dX1_chanceTo_46 : decode cX1_chanceTo 46 = .ok (.lreturn, 1) := by decide +kernel
theorem dX1_chanceTo_47 : decode cX1_chanceTo 47 = .ok (.lload_n 3, 1) := by decide +kernel
theorem dX1_chanceTo_48 : decode cX1_chanceTo 48 = .ok (.sipush 1000, 3) := by decide +kernel
theorem dX1_chanceTo_51 : decode cX1_chanceTo 51 = .ok (.aload_n 0, 1) := by decide +kernel
theorem dX1_chanceTo_52 : decode cX1_chanceTo 52 = .ok (.iload_n 1, 1) := by decide +kernel
theorem dX1_chanceTo_53 : decode cX1_chanceTo 53 = .ok (.invokevirtual 123, 3) := by decide +kernel
theorem dX1_chanceTo_56 : decode cX1_chanceTo 56 = .ok (.isub, 1) := by decide +kernel
theorem dX1_chanceTo_57 : decode cX1_chanceTo 57 = .ok (.i2l, 1) := by decide +kernel
theorem dX1_chanceTo_58 : decode cX1_chanceTo 58 = .ok (.lmul, 1) := by decide +kernel
theorem dX1_chanceTo_59 : decode cX1_chanceTo 59 = .ok (.ldc2_w 139, 3) := by decide +kernel
theorem dX1_chanceTo_62 : decode cX1_chanceTo 62 = .ok (.ldiv, 1) := by decide +kernel
theorem dX1_chanceTo_63 : decode cX1_chanceTo 63 = .ok (.lstore 8, 2) := by decide +kernel
theorem dX1_chanceTo_65 : decode cX1_chanceTo 65 = .ok (.lload 8, 2) := by decide +kernel
theorem dX1_chanceTo_67 : decode cX1_chanceTo 67 = .ok (.aload_n 0, 1) := by decide +kernel
theorem dX1_chanceTo_68 : decode cX1_chanceTo 68 = .ok (.iload 5, 2) := by decide +kernel
theorem dX1_chanceTo_70 : decode cX1_chanceTo 70 = .ok (.iload_n 2, 1) := by decide +kernel
theorem dX1_chanceTo_71 : decode cX1_chanceTo 71 = .ok (.invokevirtual 161, 3) := by decide +kernel
theorem dX1_chanceTo_74 : decode cX1_chanceTo 74 = .ok (.i2l, 1) := by decide +kernel
theorem dX1_chanceTo_75 : decode cX1_chanceTo 75 = .ok (.lmul, 1) := by decide +kernel
theorem dX1_chanceTo_76 : decode cX1_chanceTo 76 = .ok (.iload 7, 2) := by decide +kernel
theorem dX1_chanceTo_78 : decode cX1_chanceTo 78 = .ok (.i2l, 1) := by decide +kernel
theorem dX1_chanceTo_79 : decode cX1_chanceTo 79 = .ok (.ldiv, 1) := by decide +kernel
theorem dX1_chanceTo_80 : decode cX1_chanceTo 80 = .ok (.lreturn, 1) := by decide +kernel
theorem dX1_oddsOf_0 : decode cX1_oddsOf 0 = .ok (.iload_n 3, 1) := by decide +kernel
theorem dX1_oddsOf_1 : decode cX1_oddsOf 1 = .ok (.ifCond .le 16, 3) := by decide +kernel
theorem dX1_oddsOf_4 : decode cX1_oddsOf 4 = .ok (.aload_n 1, 1) := by decide +kernel
theorem dX1_oddsOf_5 : decode cX1_oddsOf 5 = .ok (.iload_n 2, 1) := by decide +kernel
theorem dX1_oddsOf_6 : decode cX1_oddsOf 6 = .ok (.iaload, 1) := by decide +kernel
theorem dX1_oddsOf_7 : decode cX1_oddsOf 7 = .ok (.aload_n 0, 1) := by decide +kernel
theorem dX1_oddsOf_8 : decode cX1_oddsOf 8 = .ok (.getfield 12, 3) := by decide +kernel
theorem dX1_oddsOf_11 : decode cX1_oddsOf 11 = .ok (.getfield 214, 3) := by decide +kernel
theorem dX1_oddsOf_14 : decode cX1_oddsOf 14 = .ok (.if_icmp .eq 5, 3) := by decide +kernel
theorem dX1_oddsOf_17 : decode cX1_oddsOf 17 = .ok (.lconst 0, 1) := by decide +kernel
theorem dX1_oddsOf_18 : decode cX1_oddsOf 18 = .ok (.lreturn, 1) := by decide +kernel
theorem dX1_oddsOf_19 : decode cX1_oddsOf 19 = .ok (.ldc2_w 147, 3) := by decide +kernel
theorem dX1_oddsOf_22 : decode cX1_oddsOf 22 = .ok (.lstore 4, 2) := by decide +kernel
theorem dX1_oddsOf_24 : decode cX1_oddsOf 24 = .ok (.iconst 0, 1) := by decide +kernel
theorem dX1_oddsOf_25 : decode cX1_oddsOf 25 = .ok (.istore 6, 2) := by decide +kernel
theorem dX1_oddsOf_27 : decode cX1_oddsOf 27 = .ok (.iconst 1, 1) := by decide +kernel
theorem dX1_oddsOf_28 : decode cX1_oddsOf 28 = .ok (.istore 7, 2) := by decide +kernel
theorem dX1_oddsOf_30 : decode cX1_oddsOf 30 = .ok (.iload 7, 2) := by decide +kernel
theorem dX1_oddsOf_32 : decode cX1_oddsOf 32 = .ok (.iload_n 3, 1) := by decide +kernel
theorem dX1_oddsOf_33 : decode cX1_oddsOf 33 = .ok (.if_icmp .ge 58, 3) := by decide +kernel
theorem dX1_oddsOf_36 : decode cX1_oddsOf 36 = .ok (.aload_n 1, 1) := by decide +kernel
theorem dX1_oddsOf_37 : decode cX1_oddsOf 37 = .ok (.iload_n 2, 1) := by decide +kernel
theorem dX1_oddsOf_38 : decode cX1_oddsOf 38 = .ok (.iload 7, 2) := by decide +kernel
theorem dX1_oddsOf_40 : decode cX1_oddsOf 40 = .ok (.iadd, 1) := by decide +kernel
theorem dX1_oddsOf_41 : decode cX1_oddsOf 41 = .ok (.iaload, 1) := by decide +kernel
theorem dX1_oddsOf_42 : decode cX1_oddsOf 42 = .ok (.istore 8, 2) := by decide +kernel
theorem dX1_oddsOf_44 : decode cX1_oddsOf 44 = .ok (.aload_n 0, 1) := by decide +kernel
theorem dX1_oddsOf_45 : decode cX1_oddsOf 45 = .ok (.getfield 34, 3) := by decide +kernel
theorem dX1_oddsOf_48 : decode cX1_oddsOf 48 = .ok (.getfield 158, 3) := by decide +kernel
theorem dX1_oddsOf_51 : decode cX1_oddsOf 51 = .ok (.iload 6, 2) := by decide +kernel
theorem dX1_oddsOf_53 : decode cX1_oddsOf 53 = .ok (.bipush 8, 2) := by decide +kernel
theorem dX1_oddsOf_55 : decode cX1_oddsOf 55 = .ok (.imul, 1) := by decide +kernel
theorem dX1_oddsOf_56 : decode cX1_oddsOf 56 = .ok (.iload 8, 2) := by decide +kernel
theorem dX1_oddsOf_58 : decode cX1_oddsOf 58 = .ok (.iadd, 1) := by decide +kernel
theorem dX1_oddsOf_59 : decode cX1_oddsOf 59 = .ok (.iaload, 1) := by decide +kernel
theorem dX1_oddsOf_60 : decode cX1_oddsOf 60 = .ok (.istore 9, 2) := by decide +kernel
theorem dX1_oddsOf_62 : decode cX1_oddsOf 62 = .ok (.iload 9, 2) := by decide +kernel
theorem dX1_oddsOf_64 : decode cX1_oddsOf 64 = .ok (.ifCond .ge 5, 3) := by decide +kernel
theorem dX1_oddsOf_67 : decode cX1_oddsOf 67 = .ok (.lconst 0, 1) := by decide +kernel
theorem dX1_oddsOf_68 : decode cX1_oddsOf 68 = .ok (.lreturn, 1) := by decide +kernel
theorem dX1_oddsOf_69 : decode cX1_oddsOf 69 = .ok (.aload_n 0, 1) := by decide +kernel
theorem dX1_oddsOf_70 : decode cX1_oddsOf 70 = .ok (.iload 6, 2) := by decide +kernel
theorem dX1_oddsOf_72 : decode cX1_oddsOf 72 = .ok (.iload 8, 2) := by decide +kernel
theorem dX1_oddsOf_74 : decode cX1_oddsOf 74 = .ok (.lload 4, 2) := by decide +kernel
theorem dX1_oddsOf_76 : decode cX1_oddsOf 76 = .ok (.invokevirtual 217, 3) := by decide +kernel
theorem dX1_oddsOf_79 : decode cX1_oddsOf 79 = .ok (.lstore 4, 2) := by decide +kernel
theorem dX1_oddsOf_81 : decode cX1_oddsOf 81 = .ok (.iload 9, 2) := by decide +kernel
theorem dX1_oddsOf_83 : decode cX1_oddsOf 83 = .ok (.istore 6, 2) := by decide +kernel
theorem dX1_oddsOf_85 : decode cX1_oddsOf 85 = .ok (.iinc 7 1, 3) := by decide +kernel
theorem dX1_oddsOf_88 : decode cX1_oddsOf 88 = .ok (.goto (-58), 3) := by decide +kernel
theorem dX1_oddsOf_91 : decode cX1_oddsOf 91 = .ok (.lload 4, 2) := by decide +kernel
theorem dX1_oddsOf_93 : decode cX1_oddsOf 93 = .ok (.aload_n 0, 1) := by decide +kernel
theorem dX1_oddsOf_94 : decode cX1_oddsOf 94 = .ok (.iload 6, 2) := by decide +kernel
theorem dX1_oddsOf_96 : decode cX1_oddsOf 96 = .ok (.invokevirtual 123, 3) := by decide +kernel
theorem dX1_oddsOf_99 : decode cX1_oddsOf 99 = .ok (.i2l, 1) := by decide +kernel
theorem dX1_oddsOf_100 : decode cX1_oddsOf 100 = .ok (.lmul, 1) := by decide +kernel
theorem dX1_oddsOf_101 : decode cX1_oddsOf 101 = .ok (.ldc2_w 139, 3) := by decide +kernel
theorem dX1_oddsOf_104 : decode cX1_oddsOf 104 = .ok (.ldiv, 1) := by decide +kernel
theorem dX1_oddsOf_105 : decode cX1_oddsOf 105 = .ok (.lreturn, 1) := by decide +kernel
theorem dX1_surestEnd_0 : decode cX1_surestEnd 0 = .ok (.aload_n 0, 1) := by decide +kernel
theorem dX1_surestEnd_1 : decode cX1_surestEnd 1 = .ok (.invokevirtual 199, 3) := by decide +kernel
theorem dX1_surestEnd_4 : decode cX1_surestEnd 4 = .ok (.aload_n 0, 1) := by decide +kernel
theorem dX1_surestEnd_5 : decode cX1_surestEnd 5 = .ok (.getfield 50, 3) := by decide +kernel
theorem dX1_surestEnd_8 : decode cX1_surestEnd 8 = .ok (.iconst 0, 1) := by decide +kernel
theorem dX1_surestEnd_9 : decode cX1_surestEnd 9 = .ok (.aload_n 0, 1) := by decide +kernel
theorem dX1_surestEnd_10 : decode cX1_surestEnd 10 = .ok (.getfield 12, 3) := by decide +kernel
theorem dX1_surestEnd_13 : decode cX1_surestEnd 13 = .ok (.getfield 214, 3) := by decide +kernel
theorem dX1_surestEnd_16 : decode cX1_surestEnd 16 = .ok (.i2l, 1) := by decide +kernel
theorem dX1_surestEnd_17 : decode cX1_surestEnd 17 = .ok (.lastore, 1) := by decide +kernel
theorem dX1_surestEnd_18 : decode cX1_surestEnd 18 = .ok (.iconst (-1), 1) := by decide +kernel
theorem dX1_surestEnd_19 : decode cX1_surestEnd 19 = .ok (.istore_n 1, 1) := by decide +kernel
theorem dX1_surestEnd_20 : decode cX1_surestEnd 20 = .ok (.iconst 0, 1) := by decide +kernel
theorem dX1_surestEnd_21 : decode cX1_surestEnd 21 = .ok (.istore_n 2, 1) := by decide +kernel
theorem dX1_surestEnd_22 : decode cX1_surestEnd 22 = .ok (.iload_n 2, 1) := by decide +kernel
theorem dX1_surestEnd_23 : decode cX1_surestEnd 23 = .ok (.aload_n 0, 1) := by decide +kernel
theorem dX1_surestEnd_24 : decode cX1_surestEnd 24 = .ok (.getfield 34, 3) := by decide +kernel
theorem dX1_surestEnd_27 : decode cX1_surestEnd 27 = .ok (.getfield 95, 3) := by decide +kernel
theorem dX1_surestEnd_30 : decode cX1_surestEnd 30 = .ok (.if_icmp .ge 76, 3) := by decide +kernel
theorem dX1_surestEnd_33 : decode cX1_surestEnd 33 = .ok (.aload_n 0, 1) := by decide +kernel
theorem dX1_surestEnd_34 : decode cX1_surestEnd 34 = .ok (.getfield 47, 3) := by decide +kernel
theorem dX1_surestEnd_37 : decode cX1_surestEnd 37 = .ok (.iload_n 2, 1) := by decide +kernel
theorem dX1_surestEnd_38 : decode cX1_surestEnd 38 = .ok (.laload, 1) := by decide +kernel
theorem dX1_surestEnd_39 : decode cX1_surestEnd 39 = .ok (.lconst 0, 1) := by decide +kernel
theorem dX1_surestEnd_40 : decode cX1_surestEnd 40 = .ok (.lcmp, 1) := by decide +kernel
theorem dX1_surestEnd_41 : decode cX1_surestEnd 41 = .ok (.ifCond .le 59, 3) := by decide +kernel
theorem dX1_surestEnd_44 : decode cX1_surestEnd 44 = .ok (.aload_n 0, 1) := by decide +kernel
theorem dX1_surestEnd_45 : decode cX1_surestEnd 45 = .ok (.getfield 34, 3) := by decide +kernel
theorem dX1_surestEnd_48 : decode cX1_surestEnd 48 = .ok (.getfield 101, 3) := by decide +kernel
theorem dX1_surestEnd_51 : decode cX1_surestEnd 51 = .ok (.iload_n 2, 1) := by decide +kernel
theorem dX1_surestEnd_52 : decode cX1_surestEnd 52 = .ok (.laload, 1) := by decide +kernel
theorem dX1_surestEnd_53 : decode cX1_surestEnd 53 = .ok (.invokestatic 133, 3) := by decide +kernel
theorem dX1_surestEnd_56 : decode cX1_surestEnd 56 = .ok (.aload_n 0, 1) := by decide +kernel
theorem dX1_surestEnd_57 : decode cX1_surestEnd 57 = .ok (.getfield 12, 3) := by decide +kernel
theorem dX1_surestEnd_60 : decode cX1_surestEnd 60 = .ok (.getfield 136, 3) := by decide +kernel
theorem dX1_surestEnd_63 : decode cX1_surestEnd 63 = .ok (.if_icmp .ge 11, 3) := by decide +kernel
theorem dX1_surestEnd_66 : decode cX1_surestEnd 66 = .ok (.aload_n 0, 1) := by decide +kernel
theorem dX1_surestEnd_67 : decode cX1_surestEnd 67 = .ok (.iload_n 2, 1) := by decide +kernel
theorem dX1_surestEnd_68 : decode cX1_surestEnd 68 = .ok (.invokevirtual 221, 3) := by decide +kernel
theorem dX1_surestEnd_71 : decode cX1_surestEnd 71 = .ok (.goto 29, 3) := by decide +kernel
theorem dX1_surestEnd_74 : decode cX1_surestEnd 74 = .ok (.iload_n 1, 1) := by decide +kernel
theorem dX1_surestEnd_75 : decode cX1_surestEnd 75 = .ok (.ifCond .lt 23, 3) := by decide +kernel
theorem dX1_surestEnd_78 : decode cX1_surestEnd 78 = .ok (.aload_n 0, 1) := by decide +kernel
theorem dX1_surestEnd_79 : decode cX1_surestEnd 79 = .ok (.aload_n 0, 1) := by decide +kernel
theorem dX1_surestEnd_80 : decode cX1_surestEnd 80 = .ok (.getfield 47, 3) := by decide +kernel
theorem dX1_surestEnd_83 : decode cX1_surestEnd 83 = .ok (.iload_n 2, 1) := by decide +kernel
theorem dX1_surestEnd_84 : decode cX1_surestEnd 84 = .ok (.laload, 1) := by decide +kernel
theorem dX1_surestEnd_85 : decode cX1_surestEnd 85 = .ok (.aload_n 0, 1) := by decide +kernel
theorem dX1_surestEnd_86 : decode cX1_surestEnd 86 = .ok (.getfield 50, 3) := by decide +kernel
theorem dX1_surestEnd_89 : decode cX1_surestEnd 89 = .ok (.iload_n 2, 1) := by decide +kernel
theorem dX1_surestEnd_90 : decode cX1_surestEnd 90 = .ok (.laload, 1) := by decide +kernel
theorem dX1_surestEnd_91 : decode cX1_surestEnd 91 = .ok (.iload_n 1, 1) := by decide +kernel
theorem dX1_surestEnd_92 : decode cX1_surestEnd 92 = .ok (.invokevirtual 224, 3) := by decide +kernel
theorem dX1_surestEnd_95 : decode cX1_surestEnd 95 = .ok (.ifCond .eq 5, 3) := by decide +kernel
theorem dX1_surestEnd_98 : decode cX1_surestEnd 98 = .ok (.iload_n 2, 1) := by decide +kernel
theorem dX1_surestEnd_99 : decode cX1_surestEnd 99 = .ok (.istore_n 1, 1) := by decide +kernel
theorem dX1_surestEnd_100 : decode cX1_surestEnd 100 = .ok (.iinc 2 1, 3) := by decide +kernel
theorem dX1_surestEnd_103 : decode cX1_surestEnd 103 = .ok (.goto (-81), 3) := by decide +kernel
theorem dX1_surestEnd_106 : decode cX1_surestEnd 106 = .ok (.iload_n 1, 1) := by decide +kernel
theorem dX1_surestEnd_107 : decode cX1_surestEnd 107 = .ok (.ireturn, 1) := by decide +kernel
theorem dX1_isSurer_0 : decode cX1_isSurer 0 = .ok (.lload_n 1, 1) := by decide +kernel
theorem dX1_isSurer_1 : decode cX1_isSurer 1 = .ok (.aload_n 0, 1) := by decide +kernel
theorem dX1_isSurer_2 : decode cX1_isSurer 2 = .ok (.getfield 47, 3) := by decide +kernel
theorem dX1_isSurer_5 : decode cX1_isSurer 5 = .ok (.iload 5, 2) := by decide +kernel
theorem dX1_isSurer_7 : decode cX1_isSurer 7 = .ok (.laload, 1) := by decide +kernel
theorem dX1_isSurer_8 : decode cX1_isSurer 8 = .ok (.lcmp, 1) := by decide +kernel
theorem dX1_isSurer_9 : decode cX1_isSurer 9 = .ok (.ifCond .gt 27, 3) := by decide +kernel
theorem dX1_isSurer_12 : decode cX1_isSurer 12 = .ok (.lload_n 1, 1) := by decide +kernel
theorem dX1_isSurer_13 : decode cX1_isSurer 13 = .ok (.aload_n 0, 1) := by decide +kernel
theorem dX1_isSurer_14 : decode cX1_isSurer 14 = .ok (.getfield 47, 3) := by decide +kernel
theorem dX1_isSurer_17 : decode cX1_isSurer 17 = .ok (.iload 5, 2) := by decide +kernel
theorem dX1_isSurer_19 : decode cX1_isSurer 19 = .ok (.laload, 1) := by decide +kernel
theorem dX1_isSurer_20 : decode cX1_isSurer 20 = .ok (.lcmp, 1) := by decide +kernel
theorem dX1_isSurer_21 : decode cX1_isSurer 21 = .ok (.ifCond .ne 19, 3) := by decide +kernel
theorem dX1_isSurer_24 : decode cX1_isSurer 24 = .ok (.lload_n 3, 1) := by decide +kernel
theorem dX1_isSurer_25 : decode cX1_isSurer 25 = .ok (.aload_n 0, 1) := by decide +kernel
theorem dX1_isSurer_26 : decode cX1_isSurer 26 = .ok (.getfield 50, 3) := by decide +kernel
theorem dX1_isSurer_29 : decode cX1_isSurer 29 = .ok (.iload 5, 2) := by decide +kernel
theorem dX1_isSurer_31 : decode cX1_isSurer 31 = .ok (.laload, 1) := by decide +kernel
theorem dX1_isSurer_32 : decode cX1_isSurer 32 = .ok (.lcmp, 1) := by decide +kernel
theorem dX1_isSurer_33 : decode cX1_isSurer 33 = .ok (.ifCond .ge 7, 3) := by decide +kernel
theorem dX1_isSurer_36 : decode cX1_isSurer 36 = .ok (.iconst 1, 1) := by decide +kernel
theorem dX1_isSurer_37 : decode cX1_isSurer 37 = .ok (.goto 4, 3) := by decide +kernel
theorem dX1_isSurer_40 : decode cX1_isSurer 40 = .ok (.iconst 0, 1) := by decide +kernel
theorem dX1_isSurer_41 : decode cX1_isSurer 41 = .ok (.ireturn, 1) := by decide +kernel
theorem dX1_tellBehind_0 : decode cX1_tellBehind 0 = .ok (.iconst 0, 1) := by decide +kernel
theorem dX1_tellBehind_1 : decode cX1_tellBehind 1 = .ok (.istore_n 2, 1) := by decide +kernel
theorem dX1_tellBehind_2 : decode cX1_tellBehind 2 = .ok (.iload_n 2, 1) := by decide +kernel
theorem dX1_tellBehind_3 : decode cX1_tellBehind 3 = .ok (.bipush 8, 2) := by decide +kernel
theorem dX1_tellBehind_5 : decode cX1_tellBehind 5 = .ok (.if_icmp .ge 90, 3) := by decide +kernel
theorem dX1_tellBehind_8 : decode cX1_tellBehind 8 = .ok (.aload_n 0, 1) := by decide +kernel
theorem dX1_tellBehind_9 : decode cX1_tellBehind 9 = .ok (.getfield 34, 3) := by decide +kernel
theorem dX1_tellBehind_12 : decode cX1_tellBehind 12 = .ok (.getfield 158, 3) := by decide +kernel
theorem dX1_tellBehind_15 : decode cX1_tellBehind 15 = .ok (.iload_n 1, 1) := by decide +kernel
theorem dX1_tellBehind_16 : decode cX1_tellBehind 16 = .ok (.bipush 8, 2) := by decide +kernel
theorem dX1_tellBehind_18 : decode cX1_tellBehind 18 = .ok (.imul, 1) := by decide +kernel
theorem dX1_tellBehind_19 : decode cX1_tellBehind 19 = .ok (.iload_n 2, 1) := by decide +kernel
theorem dX1_tellBehind_20 : decode cX1_tellBehind 20 = .ok (.iadd, 1) := by decide +kernel
theorem dX1_tellBehind_21 : decode cX1_tellBehind 21 = .ok (.iaload, 1) := by decide +kernel
theorem dX1_tellBehind_22 : decode cX1_tellBehind 22 = .ok (.istore_n 3, 1) := by decide +kernel
theorem dX1_tellBehind_23 : decode cX1_tellBehind 23 = .ok (.iload_n 3, 1) := by decide +kernel
theorem dX1_tellBehind_24 : decode cX1_tellBehind 24 = .ok (.ifCond .lt 65, 3) := by decide +kernel
theorem dX1_tellBehind_27 : decode cX1_tellBehind 27 = .ok (.aload_n 0, 1) := by decide +kernel
theorem dX1_tellBehind_28 : decode cX1_tellBehind 28 = .ok (.iload_n 1, 1) := by decide +kernel
theorem dX1_tellBehind_29 : decode cX1_tellBehind 29 = .ok (.iload_n 2, 1) := by decide +kernel
theorem dX1_tellBehind_30 : decode cX1_tellBehind 30 = .ok (.aload_n 0, 1) := by decide +kernel
theorem dX1_tellBehind_31 : decode cX1_tellBehind 31 = .ok (.getfield 47, 3) := by decide +kernel
theorem dX1_tellBehind_34 : decode cX1_tellBehind 34 = .ok (.iload_n 1, 1) := by decide +kernel
theorem dX1_tellBehind_35 : decode cX1_tellBehind 35 = .ok (.laload, 1) := by decide +kernel
theorem dX1_tellBehind_36 : decode cX1_tellBehind 36 = .ok (.invokevirtual 217, 3) := by decide +kernel
theorem dX1_tellBehind_39 : decode cX1_tellBehind 39 = .ok (.lstore 4, 2) := by decide +kernel
theorem dX1_tellBehind_41 : decode cX1_tellBehind 41 = .ok (.aload_n 0, 1) := by decide +kernel
theorem dX1_tellBehind_42 : decode cX1_tellBehind 42 = .ok (.getfield 50, 3) := by decide +kernel
theorem dX1_tellBehind_45 : decode cX1_tellBehind 45 = .ok (.iload_n 1, 1) := by decide +kernel
theorem dX1_tellBehind_46 : decode cX1_tellBehind 46 = .ok (.laload, 1) := by decide +kernel
theorem dX1_tellBehind_47 : decode cX1_tellBehind 47 = .ok (.iconst 3, 1) := by decide +kernel
theorem dX1_tellBehind_48 : decode cX1_tellBehind 48 = .ok (.lshl, 1) := by decide +kernel
theorem dX1_tellBehind_49 : decode cX1_tellBehind 49 = .ok (.iload_n 2, 1) := by decide +kernel
theorem dX1_tellBehind_50 : decode cX1_tellBehind 50 = .ok (.i2l, 1) := by decide +kernel
theorem dX1_tellBehind_51 : decode cX1_tellBehind 51 = .ok (.lor, 1) := by decide +kernel
theorem dX1_tellBehind_52 : decode cX1_tellBehind 52 = .ok (.lstore 6, 2) := by decide +kernel
theorem dX1_tellBehind_54 : decode cX1_tellBehind 54 = .ok (.lload 4, 2) := by decide +kernel
theorem dX1_tellBehind_56 : decode cX1_tellBehind 56 = .ok (.lconst 0, 1) := by decide +kernel
theorem dX1_tellBehind_57 : decode cX1_tellBehind 57 = .ok (.lcmp, 1) := by decide +kernel
theorem dX1_tellBehind_58 : decode cX1_tellBehind 58 = .ok (.ifCond .le 31, 3) := by decide +kernel
theorem dX1_tellBehind_61 : decode cX1_tellBehind 61 = .ok (.aload_n 0, 1) := by decide +kernel
theorem dX1_tellBehind_62 : decode cX1_tellBehind 62 = .ok (.lload 4, 2) := by decide +kernel
theorem dX1_tellBehind_64 : decode cX1_tellBehind 64 = .ok (.lload 6, 2) := by decide +kernel
theorem dX1_tellBehind_66 : decode cX1_tellBehind 66 = .ok (.iload_n 3, 1) := by decide +kernel
theorem dX1_tellBehind_67 : decode cX1_tellBehind 67 = .ok (.invokevirtual 224, 3) := by decide +kernel
theorem dX1_tellBehind_70 : decode cX1_tellBehind 70 = .ok (.ifCond .eq 19, 3) := by decide +kernel
theorem dX1_tellBehind_73 : decode cX1_tellBehind 73 = .ok (.aload_n 0, 1) := by decide +kernel
theorem dX1_tellBehind_74 : decode cX1_tellBehind 74 = .ok (.getfield 47, 3) := by decide +kernel
theorem dX1_tellBehind_77 : decode cX1_tellBehind 77 = .ok (.iload_n 3, 1) := by decide +kernel
theorem dX1_tellBehind_78 : decode cX1_tellBehind 78 = .ok (.lload 4, 2) := by decide +kernel
theorem dX1_tellBehind_80 : decode cX1_tellBehind 80 = .ok (.lastore, 1) := by decide +kernel
theorem dX1_tellBehind_81 : decode cX1_tellBehind 81 = .ok (.aload_n 0, 1) := by decide +kernel
theorem dX1_tellBehind_82 : decode cX1_tellBehind 82 = .ok (.getfield 50, 3) := by decide +kernel
theorem dX1_tellBehind_85 : decode cX1_tellBehind 85 = .ok (.iload_n 3, 1) := by decide +kernel
theorem dX1_tellBehind_86 : decode cX1_tellBehind 86 = .ok (.lload 6, 2) := by decide +kernel
theorem dX1_tellBehind_88 : decode cX1_tellBehind 88 = .ok (.lastore, 1) := by decide +kernel
theorem dX1_tellBehind_89 : decode cX1_tellBehind 89 = .ok (.iinc 2 1, 3) := by decide +kernel
theorem dX1_tellBehind_92 : decode cX1_tellBehind 92 = .ok (.goto (-90), 3) := by decide +kernel
theorem dX1_tellBehind_95 : decode cX1_tellBehind 95 = .ok (.return_, 1) := by decide +kernel
