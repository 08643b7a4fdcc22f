theorem dX9_goes_28 : decode cX9_goes 28 = .ok (.invokevirtual 291, 3) := by decide +kernel
theorem dX9_goes_31 : decode cX9_goes 31 = .ok (.ifCond .ne 5, 3) := by decide +kernel
theorem dX9_goes_34 : decode cX9_goes 34 = .ok (.lconst 0, 1) := by decide +kernel
theorem dX9_goes_35 : decode cX9_goes 35 = .ok (.lreturn, 1) := by decide +kernel
theorem dX9_goes_36 : decode cX9_goes 36 = .ok (.aload_n 0, 1) := by decide +kernel
theorem dX9_goes_37 : decode cX9_goes 37 = .ok (.invokevirtual 413, 3) := by decide +kernel
theorem dX9_goes_40 : decode cX9_goes 40 = .ok (.aload_n 0, 1) := by decide +kernel
theorem dX9_goes_41 : decode cX9_goes 41 = .ok (.aload_n 0, 1) := by decide +kernel
theorem dX9_goes_42 : decode cX9_goes 42 = .ok (.aload_n 0, 1) := by decide +kernel
theorem dX9_goes_43 : decode cX9_goes 43 = .ok (.getfield 301, 3) := by decide +kernel
theorem dX9_goes_46 : decode cX9_goes 46 = .ok (.invokevirtual 416, 3) := by decide +kernel
theorem dX9_goes_49 : decode cX9_goes 49 = .ok (.iconst 2, 1) := by decide +kernel
theorem dX9_goes_50 : decode cX9_goes 50 = .ok (.invokevirtual 291, 3) := by decide +kernel
theorem dX9_goes_53 : decode cX9_goes 53 = .ok (.ifCond .ne 5, 3) := by decide +kernel
theorem dX9_goes_56 : decode cX9_goes 56 = .ok (.lconst 0, 1) := by decide +kernel
theorem dX9_goes_57 : decode cX9_goes 57 = .ok (.lreturn, 1) := by decide +kernel
theorem dX9_goes_58 : decode cX9_goes 58 = .ok (.aload_n 0, 1) := by decide +kernel
theorem dX9_goes_59 : decode cX9_goes 59 = .ok (.invokevirtual 419, 3) := by decide +kernel
theorem dX9_goes_62 : decode cX9_goes 62 = .ok (.iload_n 1, 1) := by decide +kernel
theorem dX9_goes_63 : decode cX9_goes 63 = .ok (.ifCond .ne 10, 3) := by decide +kernel
theorem dX9_goes_66 : decode cX9_goes 66 = .ok (.aload_n 0, 1) := by decide +kernel
theorem dX9_goes_67 : decode cX9_goes 67 = .ok (.invokevirtual 422, 3) := by decide +kernel
theorem dX9_goes_70 : decode cX9_goes 70 = .ok (.goto 7, 3) := by decide +kernel
theorem dX9_goes_73 : decode cX9_goes 73 = .ok (.aload_n 0, 1) := by decide +kernel
theorem dX9_goes_74 : decode cX9_goes 74 = .ok (.invokevirtual 426, 3) := by decide +kernel
theorem dX9_goes_77 : decode cX9_goes 77 = .ok (.lreturn, 1) := by decide +kernel
theorem dX9_gets_0 : decode cX9_gets 0 = .ok (.aload_n 0, 1) := by decide +kernel
theorem dX9_gets_1 : decode cX9_gets 1 = .ok (.iconst 0, 1) := by decide +kernel
theorem dX9_gets_2 : decode cX9_gets 2 = .ok (.putfield 170, 3) := by decide +kernel
theorem dX9_gets_5 : decode cX9_gets 5 = .ok (.aload_n 0, 1) := by decide +kernel
theorem dX9_gets_6 : decode cX9_gets 6 = .ok (.iload_n 1, 1) := by decide +kernel
theorem dX9_gets_7 : decode cX9_gets 7 = .ok (.invokevirtual 339, 3) := by decide +kernel
theorem dX9_gets_10 : decode cX9_gets 10 = .ok (.ifCond .ne 5, 3) := by decide +kernel
theorem dX9_gets_13 : decode cX9_gets 13 = .ok (.lconst 0, 1) := by decide +kernel
theorem dX9_gets_14 : decode cX9_gets 14 = .ok (.lreturn, 1) := by decide +kernel
theorem dX9_gets_15 : decode cX9_gets 15 = .ok (.aload_n 0, 1) := by decide +kernel
theorem dX9_gets_16 : decode cX9_gets 16 = .ok (.invokevirtual 413, 3) := by decide +kernel
theorem dX9_gets_19 : decode cX9_gets 19 = .ok (.aload_n 0, 1) := by decide +kernel
theorem dX9_gets_20 : decode cX9_gets 20 = .ok (.aload_n 0, 1) := by decide +kernel
theorem dX9_gets_21 : decode cX9_gets 21 = .ok (.aload_n 0, 1) := by decide +kernel
theorem dX9_gets_22 : decode cX9_gets 22 = .ok (.getfield 301, 3) := by decide +kernel
theorem dX9_gets_25 : decode cX9_gets 25 = .ok (.invokevirtual 416, 3) := by decide +kernel
theorem dX9_gets_28 : decode cX9_gets 28 = .ok (.iconst 2, 1) := by decide +kernel
theorem dX9_gets_29 : decode cX9_gets 29 = .ok (.invokevirtual 291, 3) := by decide +kernel
theorem dX9_gets_32 : decode cX9_gets 32 = .ok (.ifCond .eq 12, 3) := by decide +kernel
theorem dX9_gets_35 : decode cX9_gets 35 = .ok (.aload_n 0, 1) := by decide +kernel
theorem dX9_gets_36 : decode cX9_gets 36 = .ok (.getfield 76, 3) := by decide +kernel
theorem dX9_gets_39 : decode cX9_gets 39 = .ok (.iload_n 1, 1) := by decide +kernel
theorem dX9_gets_40 : decode cX9_gets 40 = .ok (.laload, 1) := by decide +kernel
theorem dX9_gets_41 : decode cX9_gets 41 = .ok (.goto 4, 3) := by decide +kernel
theorem dX9_gets_44 : decode cX9_gets 44 = .ok (.lconst 0, 1) := by decide +kernel
theorem dX9_gets_45 : decode cX9_gets 45 = .ok (.lreturn, 1) := by decide +kernel
theorem dX9_allReckon_0 : decode cX9_allReckon 0 = .ok (.aload_n 0, 1) := by decide +kernel
theorem dX9_allReckon_1 : decode cX9_allReckon 1 = .ok (.invokevirtual 413, 3) := by decide +kernel
theorem dX9_allReckon_4 : decode cX9_allReckon 4 = .ok (.iconst 0, 1) := by decide +kernel
theorem dX9_allReckon_5 : decode cX9_allReckon 5 = .ok (.istore_n 1, 1) := by decide +kernel
theorem dX9_allReckon_6 : decode cX9_allReckon 6 = .ok (.iload_n 1, 1) := by decide +kernel
theorem dX9_allReckon_7 : decode cX9_allReckon 7 = .ok (.aload_n 0, 1) := by decide +kernel
theorem dX9_allReckon_8 : decode cX9_allReckon 8 = .ok (.getfield 298, 3) := by decide +kernel
theorem dX9_allReckon_11 : decode cX9_allReckon 11 = .ok (.if_icmp .ge 42, 3) := by decide +kernel
theorem dX9_allReckon_14 : decode cX9_allReckon 14 = .ok (.aload_n 0, 1) := by decide +kernel
theorem dX9_allReckon_15 : decode cX9_allReckon 15 = .ok (.getfield 73, 3) := by decide +kernel
theorem dX9_allReckon_18 : decode cX9_allReckon 18 = .ok (.iload_n 1, 1) := by decide +kernel
theorem dX9_allReckon_19 : decode cX9_allReckon 19 = .ok (.aload_n 0, 1) := by decide +kernel
theorem dX9_allReckon_20 : decode cX9_allReckon 20 = .ok (.getfield 22, 3) := by decide +kernel
theorem dX9_allReckon_23 : decode cX9_allReckon 23 = .ok (.iload_n 1, 1) := by decide +kernel
theorem dX9_allReckon_24 : decode cX9_allReckon 24 = .ok (.iaload, 1) := by decide +kernel
theorem dX9_allReckon_25 : decode cX9_allReckon 25 = .ok (.iconst 3, 1) := by decide +kernel
theorem dX9_allReckon_26 : decode cX9_allReckon 26 = .ok (.if_icmp .ne 12, 3) := by decide +kernel
theorem dX9_allReckon_29 : decode cX9_allReckon 29 = .ok (.aload_n 0, 1) := by decide +kernel
theorem dX9_allReckon_30 : decode cX9_allReckon 30 = .ok (.getfield 26, 3) := by decide +kernel
theorem dX9_allReckon_33 : decode cX9_allReckon 33 = .ok (.iload_n 1, 1) := by decide +kernel
theorem dX9_allReckon_34 : decode cX9_allReckon 34 = .ok (.iaload, 1) := by decide +kernel
theorem dX9_allReckon_35 : decode cX9_allReckon 35 = .ok (.goto 4, 3) := by decide +kernel
theorem dX9_allReckon_38 : decode cX9_allReckon 38 = .ok (.iconst 0, 1) := by decide +kernel
theorem dX9_allReckon_39 : decode cX9_allReckon 39 = .ok (.iastore, 1) := by decide +kernel
theorem dX9_allReckon_40 : decode cX9_allReckon 40 = .ok (.aload_n 0, 1) := by decide +kernel
theorem dX9_allReckon_41 : decode cX9_allReckon 41 = .ok (.getfield 70, 3) := by decide +kernel
theorem dX9_allReckon_44 : decode cX9_allReckon 44 = .ok (.iload_n 1, 1) := by decide +kernel
theorem dX9_allReckon_45 : decode cX9_allReckon 45 = .ok (.iconst 3, 1) := by decide +kernel
theorem dX9_allReckon_46 : decode cX9_allReckon 46 = .ok (.iastore, 1) := by decide +kernel
theorem dX9_allReckon_47 : decode cX9_allReckon 47 = .ok (.iinc 1 1, 3) := by decide +kernel
theorem dX9_allReckon_50 : decode cX9_allReckon 50 = .ok (.goto (-44), 3) := by decide +kernel
theorem dX9_allReckon_53 : decode cX9_allReckon 53 = .ok (.aload_n 0, 1) := by decide +kernel
theorem dX9_allReckon_54 : decode cX9_allReckon 54 = .ok (.aload_n 0, 1) := by decide +kernel
theorem dX9_allReckon_55 : decode cX9_allReckon 55 = .ok (.getfield 301, 3) := by decide +kernel
theorem dX9_allReckon_58 : decode cX9_allReckon 58 = .ok (.invokevirtual 416, 3) := by decide +kernel
theorem dX9_allReckon_61 : decode cX9_allReckon 61 = .ok (.ifCond .ne 5, 3) := by decide +kernel
theorem dX9_allReckon_64 : decode cX9_allReckon 64 = .ok (.iconst (-1), 1) := by decide +kernel
theorem dX9_allReckon_65 : decode cX9_allReckon 65 = .ok (.ireturn, 1) := by decide +kernel
theorem dX9_allReckon_66 : decode cX9_allReckon 66 = .ok (.iconst 0, 1) := by decide +kernel
theorem dX9_allReckon_67 : decode cX9_allReckon 67 = .ok (.istore_n 1, 1) := by decide +kernel
theorem dX9_allReckon_68 : decode cX9_allReckon 68 = .ok (.aload_n 0, 1) := by decide +kernel
theorem dX9_allReckon_69 : decode cX9_allReckon 69 = .ok (.getfield 83, 3) := by decide +kernel
theorem dX9_allReckon_72 : decode cX9_allReckon 72 = .ok (.iload_n 1, 1) := by decide +kernel
theorem dX9_allReckon_73 : decode cX9_allReckon 73 = .ok (.iaload, 1) := by decide +kernel
theorem dX9_allReckon_74 : decode cX9_allReckon 74 = .ok (.iconst (-1), 1) := by decide +kernel
theorem dX9_allReckon_75 : decode cX9_allReckon 75 = .ok (.if_icmp .eq 23, 3) := by decide +kernel
theorem dX9_allReckon_78 : decode cX9_allReckon 78 = .ok (.aload_n 0, 1) := by decide +kernel
theorem dX9_allReckon_79 : decode cX9_allReckon 79 = .ok (.getfield 63, 3) := by decide +kernel
theorem dX9_allReckon_82 : decode cX9_allReckon 82 = .ok (.bipush 8, 2) := by decide +kernel
theorem dX9_allReckon_84 : decode cX9_allReckon 84 = .ok (.iload_n 1, 1) := by decide +kernel
theorem dX9_allReckon_85 : decode cX9_allReckon 85 = .ok (.imul, 1) := by decide +kernel
theorem dX9_allReckon_86 : decode cX9_allReckon 86 = .ok (.aload_n 0, 1) := by decide +kernel
theorem dX9_allReckon_87 : decode cX9_allReckon 87 = .ok (.getfield 83, 3) := by decide +kernel
theorem dX9_allReckon_90 : decode cX9_allReckon 90 = .ok (.iload_n 1, 1) := by decide +kernel
theorem dX9_allReckon_91 : decode cX9_allReckon 91 = .ok (.iaload, 1) := by decide +kernel
theorem dX9_allReckon_92 : decode cX9_allReckon 92 = .ok (.iadd, 1) := by decide +kernel
theorem dX9_allReckon_93 : decode cX9_allReckon 93 = .ok (.iaload, 1) := by decide +kernel
theorem dX9_allReckon_94 : decode cX9_allReckon 94 = .ok (.istore_n 1, 1) := by decide +kernel
theorem dX9_allReckon_95 : decode cX9_allReckon 95 = .ok (.goto (-27), 3) := by decide +kernel
theorem dX9_allReckon_98 : decode cX9_allReckon 98 = .ok (.iload_n 1, 1) := by decide +kernel
theorem dX9_allReckon_99 : decode cX9_allReckon 99 = .ok (.ireturn, 1) := by decide +kernel
theorem dX9_all_0 : decode cX9_all 0 = .ok (.aload_n 0, 1) := by decide +kernel
theorem dX9_all_1 : decode cX9_all 1 = .ok (.iconst 0, 1) := by decide +kernel
theorem dX9_all_2 : decode cX9_all 2 = .ok (.putfield 170, 3) := by decide +kernel
theorem dX9_all_5 : decode cX9_all 5 = .ok (.aload_n 0, 1) := by decide +kernel
theorem dX9_all_6 : decode cX9_all 6 = .ok (.iload_n 1, 1) := by decide +kernel
theorem dX9_all_7 : decode cX9_all 7 = .ok (.ifCond .eq 8, 3) := by decide +kernel
theorem dX9_all_10 : decode cX9_all 10 = .ok (.iload_n 1, 1) := by decide +kernel
theorem dX9_all_11 : decode cX9_all 11 = .ok (.iconst 1, 1) := by decide +kernel
theorem dX9_all_12 : decode cX9_all 12 = .ok (.if_icmp .ne 14, 3) := by decide +kernel
theorem dX9_all_15 : decode cX9_all 15 = .ok (.aload_n 0, 1) := by decide +kernel
theorem dX9_all_16 : decode cX9_all 16 = .ok (.getfield 298, 3) := by decide +kernel
theorem dX9_all_19 : decode cX9_all 19 = .ok (.ifCond .le 7, 3) := by decide +kernel
theorem dX9_all_22 : decode cX9_all 22 = .ok (.iconst 1, 1) := by decide +kernel
theorem dX9_all_23 : decode cX9_all 23 = .ok (.goto 4, 3) := by decide +kernel
theorem dX9_all_26 : decode cX9_all 26 = .ok (.iconst 0, 1) := by decide +kernel
theorem dX9_all_27 : decode cX9_all 27 = .ok (.iconst 1, 1) := by decide +kernel
theorem dX9_all_28 : decode cX9_all 28 = .ok (.invokevirtual 291, 3) := by decide +kernel
theorem dX9_all_31 : decode cX9_all 31 = .ok (.ifCond .ne 5, 3) := by decide +kernel
theorem dX9_all_34 : decode cX9_all 34 = .ok (.iconst 0, 1) := by decide +kernel
theorem dX9_all_35 : decode cX9_all 35 = .ok (.ireturn, 1) := by decide +kernel
theorem dX9_all_36 : decode cX9_all 36 = .ok (.aload_n 0, 1) := by decide +kernel
theorem dX9_all_37 : decode cX9_all 37 = .ok (.invokevirtual 429, 3) := by decide +kernel
theorem dX9_all_40 : decode cX9_all 40 = .ok (.istore_n 2, 1) := by decide +kernel
theorem dX9_all_41 : decode cX9_all 41 = .ok (.aload_n 0, 1) := by decide +kernel
theorem dX9_all_42 : decode cX9_all 42 = .ok (.iload_n 2, 1) := by decide +kernel
theorem dX9_all_43 : decode cX9_all 43 = .ok (.iconst (-1), 1) := by decide +kernel
theorem dX9_all_44 : decode cX9_all 44 = .ok (.if_icmp .eq 7, 3) := by decide +kernel
theorem dX9_all_47 : decode cX9_all 47 = .ok (.iconst 1, 1) := by decide +kernel
theorem dX9_all_48 : decode cX9_all 48 = .ok (.goto 4, 3) := by decide +kernel
theorem dX9_all_51 : decode cX9_all 51 = .ok (.iconst 0, 1) := by decide +kernel
theorem dX9_all_52 : decode cX9_all 52 = .ok (.iconst 2, 1) := by decide +kernel
theorem dX9_all_53 : decode cX9_all 53 = .ok (.invokevirtual 291, 3) := by decide +kernel
theorem dX9_all_56 : decode cX9_all 56 = .ok (.ifCond .ne 5, 3) := by decide +kernel
theorem dX9_all_59 : decode cX9_all 59 = .ok (.iconst 0, 1) := by decide +kernel
theorem dX9_all_60 : decode cX9_all 60 = .ok (.ireturn, 1) := by decide +kernel
theorem dX9_all_61 : decode cX9_all 61 = .ok (.iload_n 1, 1) := by decide +kernel
theorem dX9_all_62 : decode cX9_all 62 = .ok (.ifCond .ne 12, 3) := by decide +kernel
theorem dX9_all_65 : decode cX9_all 65 = .ok (.aload_n 0, 1) := by decide +kernel
theorem dX9_all_66 : decode cX9_all 66 = .ok (.getfield 50, 3) := by decide +kernel
theorem dX9_all_69 : decode cX9_all 69 = .ok (.iload_n 2, 1) := by decide +kernel
theorem dX9_all_70 : decode cX9_all 70 = .ok (.iaload, 1) := by decide +kernel
theorem dX9_all_71 : decode cX9_all 71 = .ok (.goto 9, 3) := by decide +kernel
theorem dX9_all_74 : decode cX9_all 74 = .ok (.aload_n 0, 1) := by decide +kernel
theorem dX9_all_75 : decode cX9_all 75 = .ok (.getfield 53, 3) := by decide +kernel
theorem dX9_all_78 : decode cX9_all 78 = .ok (.iload_n 2, 1) := by decide +kernel
theorem dX9_all_79 : decode cX9_all 79 = .ok (.iaload, 1) := by decide +kernel
theorem dX9_all_80 : decode cX9_all 80 = .ok (.ireturn, 1) := by decide +kernel
theorem dX9_least_0 : decode cX9_least 0 = .ok (.aload_n 0, 1) := by decide +kernel
theorem dX9_least_1 : decode cX9_least 1 = .ok (.iconst 0, 1) := by decide +kernel
theorem dX9_least_2 : decode cX9_least 2 = .ok (.putfield 170, 3) := by decide +kernel
theorem dX9_least_5 : decode cX9_least 5 = .ok (.aload_n 0, 1) := by decide +kernel
theorem dX9_least_6 : decode cX9_least 6 = .ok (.aload_n 0, 1) := by decide +kernel
theorem dX9_least_7 : decode cX9_least 7 = .ok (.getfield 298, 3) := by decide +kernel
theorem dX9_least_10 : decode cX9_least 10 = .ok (.ifCond .le 7, 3) := by decide +kernel
theorem dX9_least_13 : decode cX9_least 13 = .ok (.iconst 1, 1) := by decide +kernel
theorem dX9_least_14 : decode cX9_least 14 = .ok (.goto 4, 3) := by decide +kernel
theorem dX9_least_17 : decode cX9_least 17 = .ok (.iconst 0, 1) := by decide +kernel
theorem dX9_least_18 : decode cX9_least 18 = .ok (.iconst 1, 1) := by decide +kernel
theorem dX9_least_19 : decode cX9_least 19 = .ok (.invokevirtual 291, 3) := by decide +kernel
theorem dX9_least_22 : decode cX9_least 22 = .ok (.ifCond .eq 44, 3) := by decide +kernel
theorem dX9_least_25 : decode cX9_least 25 = .ok (.aload_n 0, 1) := by decide +kernel
theorem dX9_least_26 : decode cX9_least 26 = .ok (.iload_n 2, 1) := by decide +kernel
theorem dX9_least_27 : decode cX9_least 27 = .ok (.iconst 0, 1) := by decide +kernel
theorem dX9_least_28 : decode cX9_least 28 = .ok (.sipush 9999, 3) := by decide +kernel
theorem dX9_least_31 : decode cX9_least 31 = .ok (.invokestatic 336, 3) := by decide +kernel
theorem dX9_least_34 : decode cX9_least 34 = .ok (.ifCond .eq 24, 3) := by decide +kernel
theorem dX9_least_37 : decode cX9_least 37 = .ok (.iload_n 3, 1) := by decide +kernel
theorem dX9_least_38 : decode cX9_least 38 = .ok (.iload_n 2, 1) := by decide +kernel
theorem dX9_least_39 : decode cX9_least 39 = .ok (.sipush 9999, 3) := by decide +kernel
theorem dX9_least_42 : decode cX9_least 42 = .ok (.invokestatic 336, 3) := by decide +kernel
theorem dX9_least_45 : decode cX9_least 45 = .ok (.ifCond .eq 13, 3) := by decide +kernel
theorem dX9_least_48 : decode cX9_least 48 = .ok (.iload 4, 2) := by decide +kernel
theorem dX9_least_50 : decode cX9_least 50 = .ok (.iconst 1, 1) := by decide +kernel
theorem dX9_least_51 : decode cX9_least 51 = .ok (.if_icmp .lt 7, 3) := by decide +kernel
theorem dX9_least_54 : decode cX9_least 54 = .ok (.iconst 1, 1) := by decide +kernel
theorem dX9_least_55 : decode cX9_least 55 = .ok (.goto 4, 3) := by decide +kernel
theorem dX9_least_58 : decode cX9_least 58 = .ok (.iconst 0, 1) := by decide +kernel
theorem dX9_least_59 : decode cX9_least 59 = .ok (.iconst 2, 1) := by decide +kernel
theorem dX9_least_60 : decode cX9_least 60 = .ok (.invokevirtual 291, 3) := by decide +kernel
theorem dX9_least_63 : decode cX9_least 63 = .ok (.ifCond .ne 5, 3) := by decide +kernel
theorem dX9_least_66 : decode cX9_least 66 = .ok (.iconst 0, 1) := by decide +kernel
theorem dX9_least_67 : decode cX9_least 67 = .ok (.ireturn, 1) := by decide +kernel
theorem dX9_least_68 : decode cX9_least 68 = .ok (.aload_n 0, 1) := by decide +kernel
theorem dX9_least_69 : decode cX9_least 69 = .ok (.iload_n 3, 1) := by decide +kernel
theorem dX9_least_70 : decode cX9_least 70 = .ok (.iload_n 2, 1) := by decide +kernel
theorem dX9_least_71 : decode cX9_least 71 = .ok (.isub, 1) := by decide +kernel
theorem dX9_least_72 : decode cX9_least 72 = .ok (.iload 4, 2) := by decide +kernel
theorem dX9_least_74 : decode cX9_least 74 = .ok (.idiv, 1) := by decide +kernel
theorem dX9_least_75 : decode cX9_least 75 = .ok (.bipush 60, 2) := by decide +kernel
theorem dX9_least_77 : decode cX9_least 77 = .ok (.if_icmp .ge 7, 3) := by decide +kernel
theorem dX9_least_80 : decode cX9_least 80 = .ok (.iconst 1, 1) := by decide +kernel
theorem dX9_least_81 : decode cX9_least 81 = .ok (.goto 4, 3) := by decide +kernel
theorem dX9_least_84 : decode cX9_least 84 = .ok (.iconst 0, 1) := by decide +kernel
theorem dX9_least_85 : decode cX9_least 85 = .ok (.iconst 2, 1) := by decide +kernel
theorem dX9_least_86 : decode cX9_least 86 = .ok (.invokevirtual 291, 3) := by decide +kernel
theorem dX9_least_89 : decode cX9_least 89 = .ok (.ifCond .ne 5, 3) := by decide +kernel
theorem dX9_least_92 : decode cX9_least 92 = .ok (.iconst 0, 1) := by decide +kernel
theorem dX9_least_93 : decode cX9_least 93 = .ok (.ireturn, 1) := by decide +kernel
theorem dX9_least_94 : decode cX9_least 94 = .ok (.aload_n 0, 1) := by decide +kernel
theorem dX9_least_95 : decode cX9_least 95 = .ok (.getfield 304, 3) := by decide +kernel
theorem dX9_least_98 : decode cX9_least 98 = .ok (.istore 5, 2) := by decide +kernel
theorem dX9_least_100 : decode cX9_least 100 = .ok (.aload_n 0, 1) := by decide +kernel
theorem dX9_least_101 : decode cX9_least 101 = .ok (.getfield 307, 3) := by decide +kernel
theorem dX9_least_104 : decode cX9_least 104 = .ok (.istore 6, 2) := by decide +kernel
theorem dX9_least_106 : decode cX9_least 106 = .ok (.iconst (-1), 1) := by decide +kernel
theorem dX9_least_107 : decode cX9_least 107 = .ok (.istore 7, 2) := by decide +kernel
theorem dX9_least_109 : decode cX9_least 109 = .ok (.iconst 1, 1) := by decide +kernel
theorem dX9_least_110 : decode cX9_least 110 = .ok (.istore 8, 2) := by decide +kernel
theorem dX9_least_112 : decode cX9_least 112 = .ok (.iload_n 2, 1) := by decide +kernel
theorem dX9_least_113 : decode cX9_least 113 = .ok (.istore 9, 2) := by decide +kernel
theorem dX9_least_115 : decode cX9_least 115 = .ok (.iload 9, 2) := by decide +kernel
theorem dX9_least_117 : decode cX9_least 117 = .ok (.iload_n 3, 1) := by decide +kernel
theorem dX9_least_118 : decode cX9_least 118 = .ok (.if_icmp .gt 97, 3) := by decide +kernel
theorem dX9_least_121 : decode cX9_least 121 = .ok (.iload 7, 2) := by decide +kernel
theorem dX9_least_123 : decode cX9_least 123 = .ok (.iconst (-1), 1) := by decide +kernel
theorem dX9_least_124 : decode cX9_least 124 = .ok (.if_icmp .ne 91, 3) := by decide +kernel
theorem dX9_least_127 : decode cX9_least 127 = .ok (.iload 8, 2) := by decide +kernel
theorem dX9_least_129 : decode cX9_least 129 = .ok (.ifCond .eq 86, 3) := by decide +kernel
theorem dX9_least_132 : decode cX9_least 132 = .ok (.iload_n 1, 1) := by decide +kernel
theorem dX9_least_133 : decode cX9_least 133 = .ok (.ifCond .eq 12, 3) := by decide +kernel
theorem dX9_least_136 : decode cX9_least 136 = .ok (.aload_n 0, 1) := by decide +kernel
theorem dX9_least_137 : decode cX9_least 137 = .ok (.iload 9, 2) := by decide +kernel
theorem dX9_least_139 : decode cX9_least 139 = .ok (.putfield 307, 3) := by decide +kernel
theorem dX9_least_142 : decode cX9_least 142 = .ok (.goto 9, 3) := by decide +kernel
theorem dX9_least_145 : decode cX9_least 145 = .ok (.aload_n 0, 1) := by decide +kernel
theorem dX9_least_146 : decode cX9_least 146 = .ok (.iload 9, 2) := by decide +kernel
theorem dX9_least_148 : decode cX9_least 148 = .ok (.putfield 304, 3) := by decide +kernel
theorem dX9_least_151 : decode cX9_least 151 = .ok (.aload_n 0, 1) := by decide +kernel
theorem dX9_least_152 : decode cX9_least 152 = .ok (.invokevirtual 429, 3) := by decide +kernel
theorem dX9_least_155 : decode cX9_least 155 = .ok (.istore 10, 2) := by decide +kernel
theorem dX9_least_157 : decode cX9_least 157 = .ok (.iload 10, 2) := by decide +kernel
theorem dX9_least_159 : decode cX9_least 159 = .ok (.iconst (-1), 1) := by decide +kernel
theorem dX9_least_160 : decode cX9_least 160 = .ok (.if_icmp .eq 7, 3) := by decide +kernel
theorem dX9_least_163 : decode cX9_least 163 = .ok (.iconst 1, 1) := by decide +kernel
theorem dX9_least_164 : decode cX9_least 164 = .ok (.goto 4, 3) := by decide +kernel
theorem dX9_least_167 : decode cX9_least 167 = .ok (.iconst 0, 1) := by decide +kernel
theorem dX9_least_168 : decode cX9_least 168 = .ok (.istore 8, 2) := by decide +kernel
theorem dX9_least_170 : decode cX9_least 170 = .ok (.iload 8, 2) := by decide +kernel
theorem dX9_least_172 : decode cX9_least 172 = .ok (.ifCond .eq 21, 3) := by decide +kernel
theorem dX9_least_175 : decode cX9_least 175 = .ok (.aload_n 0, 1) := by decide +kernel
theorem dX9_least_176 : decode cX9_least 176 = .ok (.getfield 53, 3) := by decide +kernel
theorem dX9_least_179 : decode cX9_least 179 = .ok (.iload 10, 2) := by decide +kernel
theorem dX9_least_181 : decode cX9_least 181 = .ok (.iaload, 1) := by decide +kernel
theorem dX9_least_182 : decode cX9_least 182 = .ok (.aload_n 0, 1) := by decide +kernel
theorem dX9_least_183 : decode cX9_least 183 = .ok (.getfield 16, 3) := by decide +kernel
theorem dX9_least_186 : decode cX9_least 186 = .ok (.if_icmp .ne 7, 3) := by decide +kernel
theorem dX9_least_189 : decode cX9_least 189 = .ok (.iload 9, 2) := by decide +kernel
theorem dX9_least_191 : decode cX9_least 191 = .ok (.istore 7, 2) := by decide +kernel
theorem dX9_least_193 : decode cX9_least 193 = .ok (.iload 9, 2) := by decide +kernel
theorem dX9_least_195 : decode cX9_least 195 = .ok (.iload_n 3, 1) := by decide +kernel
theorem dX9_least_196 : decode cX9_least 196 = .ok (.iload 4, 2) := by decide +kernel
theorem dX9_least_198 : decode cX9_least 198 = .ok (.isub, 1) := by decide +kernel
theorem dX9_least_199 : decode cX9_least 199 = .ok (.if_icmp .le 6, 3) := by decide +kernel
theorem dX9_least_202 : decode cX9_least 202 = .ok (.goto 13, 3) := by decide +kernel
theorem dX9_least_205 : decode cX9_least 205 = .ok (.iload 9, 2) := by decide +kernel
theorem dX9_least_207 : decode cX9_least 207 = .ok (.iload 4, 2) := by decide +kernel
theorem dX9_least_209 : decode cX9_least 209 = .ok (.iadd, 1) := by decide +kernel
theorem dX9_least_210 : decode cX9_least 210 = .ok (.istore 9, 2) := by decide +kernel
theorem dX9_least_212 : decode cX9_least 212 = .ok (.goto (-97), 3) := by decide +kernel
theorem dX9_least_215 : decode cX9_least 215 = .ok (.aload_n 0, 1) := by decide +kernel
theorem dX9_least_216 : decode cX9_least 216 = .ok (.iload 5, 2) := by decide +kernel
theorem dX9_least_218 : decode cX9_least 218 = .ok (.putfield 304, 3) := by decide +kernel
theorem dX9_least_221 : decode cX9_least 221 = .ok (.aload_n 0, 1) := by decide +kernel
theorem dX9_least_222 : decode cX9_least 222 = .ok (.iload 6, 2) := by decide +kernel
theorem dX9_least_224 : decode cX9_least 224 = .ok (.putfield 307, 3) := by decide +kernel
theorem dX9_least_227 : decode cX9_least 227 = .ok (.aload_n 0, 1) := by decide +kernel
theorem dX9_least_228 : decode cX9_least 228 = .ok (.iload 8, 2) := by decide +kernel
theorem dX9_least_230 : decode cX9_least 230 = .ok (.iconst 2, 1) := by decide +kernel
theorem dX9_least_231 : decode cX9_least 231 = .ok (.invokevirtual 291, 3) := by decide +kernel
theorem dX9_least_234 : decode cX9_least 234 = .ok (.ifCond .eq 8, 3) := by decide +kernel
theorem dX9_least_237 : decode cX9_least 237 = .ok (.iload 7, 2) := by decide +kernel
theorem dX9_least_239 : decode cX9_least 239 = .ok (.goto 4, 3) := by decide +kernel
theorem dX9_least_242 : decode cX9_least 242 = .ok (.iconst 0, 1) := by decide +kernel
theorem dX9_least_243 : decode cX9_least 243 = .ok (.ireturn, 1) := by decide +kernel
theorem dX9_one_0 : decode cX9_one 0 = .ok (.aload_n 0, 1) := by decide +kernel
theorem dX9_one_1 : decode cX9_one 1 = .ok (.iconst 0, 1) := by decide +kernel
theorem dX9_one_2 : decode cX9_one 2 = .ok (.putfield 170, 3) := by decide +kernel
theorem dX9_one_5 : decode cX9_one 5 = .ok (.aload_n 0, 1) := by decide +kernel
theorem dX9_one_6 : decode cX9_one 6 = .ok (.iload_n 1, 1) := by decide +kernel
theorem dX9_one_7 : decode cX9_one 7 = .ok (.invokevirtual 339, 3) := by decide +kernel
theorem dX9_one_10 : decode cX9_one 10 = .ok (.ifCond .eq 27, 3) := by decide +kernel
theorem dX9_one_13 : decode cX9_one 13 = .ok (.aload_n 0, 1) := by decide +kernel
theorem dX9_one_14 : decode cX9_one 14 = .ok (.iload 4, 2) := by decide +kernel
theorem dX9_one_16 : decode cX9_one 16 = .ok (.ifCond .eq 9, 3) := by decide +kernel
theorem dX9_one_19 : decode cX9_one 19 = .ok (.iload 4, 2) := by decide +kernel
theorem dX9_one_21 : decode cX9_one 21 = .ok (.iconst 1, 1) := by decide +kernel
theorem dX9_one_22 : decode cX9_one 22 = .ok (.if_icmp .ne 7, 3) := by decide +kernel
theorem dX9_one_25 : decode cX9_one 25 = .ok (.iconst 1, 1) := by decide +kernel
theorem dX9_one_26 : decode cX9_one 26 = .ok (.goto 4, 3) := by decide +kernel
theorem dX9_one_29 : decode cX9_one 29 = .ok (.iconst 0, 1) := by decide +kernel
theorem dX9_one_30 : decode cX9_one 30 = .ok (.iconst 1, 1) := by decide +kernel
theorem dX9_one_31 : decode cX9_one 31 = .ok (.invokevirtual 291, 3) := by decide +kernel
theorem dX9_one_34 : decode cX9_one 34 = .ok (.ifCond .ne 5, 3) := by decide +kernel
theorem dX9_one_37 : decode cX9_one 37 = .ok (.lconst 0, 1) := by decide +kernel
theorem dX9_one_38 : decode cX9_one 38 = .ok (.lreturn, 1) := by decide +kernel
theorem dX9_one_39 : decode cX9_one 39 = .ok (.aload_n 0, 1) := by decide +kernel
theorem dX9_one_40 : decode cX9_one 40 = .ok (.iload_n 2, 1) := by decide +kernel
theorem dX9_one_41 : decode cX9_one 41 = .ok (.iconst 0, 1) := by decide +kernel
theorem dX9_one_42 : decode cX9_one 42 = .ok (.sipush 9999, 3) := by decide +kernel
theorem dX9_one_45 : decode cX9_one 45 = .ok (.invokestatic 336, 3) := by decide +kernel
theorem dX9_one_48 : decode cX9_one 48 = .ok (.ifCond .eq 12, 3) := by decide +kernel
theorem dX9_one_51 : decode cX9_one 51 = .ok (.iload_n 3, 1) := by decide +kernel
theorem dX9_one_52 : decode cX9_one 52 = .ok (.iconst 1, 1) := by decide +kernel
theorem dX9_one_53 : decode cX9_one 53 = .ok (.if_icmp .lt 7, 3) := by decide +kernel
theorem dX9_one_56 : decode cX9_one 56 = .ok (.iconst 1, 1) := by decide +kernel
theorem dX9_one_57 : decode cX9_one 57 = .ok (.goto 4, 3) := by decide +kernel
theorem dX9_one_60 : decode cX9_one 60 = .ok (.iconst 0, 1) := by decide +kernel
theorem dX9_one_61 : decode cX9_one 61 = .ok (.iconst 2, 1) := by decide +kernel
theorem dX9_one_62 : decode cX9_one 62 = .ok (.invokevirtual 291, 3) := by decide +kernel
theorem dX9_one_65 : decode cX9_one 65 = .ok (.ifCond .eq 24, 3) := by decide +kernel
theorem dX9_one_68 : decode cX9_one 68 = .ok (.aload_n 0, 1) := by decide +kernel
theorem dX9_one_69 : decode cX9_one 69 = .ok (.iload_n 2, 1) := by decide +kernel
theorem dX9_one_70 : decode cX9_one 70 = .ok (.iload_n 3, 1) := by decide +kernel
theorem dX9_one_71 : decode cX9_one 71 = .ok (.idiv, 1) := by decide +kernel
theorem dX9_one_72 : decode cX9_one 72 = .ok (.bipush 60, 2) := by decide +kernel
theorem dX9_one_74 : decode cX9_one 74 = .ok (.if_icmp .ge 7, 3) := by decide +kernel
theorem dX9_one_77 : decode cX9_one 77 = .ok (.iconst 1, 1) := by decide +kernel
theorem dX9_one_78 : decode cX9_one 78 = .ok (.goto 4, 3) := by decide +kernel
theorem dX9_one_81 : decode cX9_one 81 = .ok (.iconst 0, 1) := by decide +kernel
theorem dX9_one_82 : decode cX9_one 82 = .ok (.iconst 2, 1) := by decide +kernel
theorem dX9_one_83 : decode cX9_one 83 = .ok (.invokevirtual 291, 3) := by decide +kernel
theorem dX9_one_86 : decode cX9_one 86 = .ok (.ifCond .ne 5, 3) := by decide +kernel
theorem dX9_one_89 : decode cX9_one 89 = .ok (.lconst 0, 1) := by decide +kernel
theorem dX9_one_90 : decode cX9_one 90 = .ok (.lreturn, 1) := by decide +kernel
theorem dX9_one_91 : decode cX9_one 91 = .ok (.aload_n 0, 1) := by decide +kernel
theorem dX9_one_92 : decode cX9_one 92 = .ok (.invokevirtual 413, 3) := by decide +kernel
theorem dX9_one_95 : decode cX9_one 95 = .ok (.aload_n 0, 1) := by decide +kernel
theorem dX9_one_96 : decode cX9_one 96 = .ok (.aload_n 0, 1) := by decide +kernel
theorem dX9_one_97 : decode cX9_one 97 = .ok (.aload_n 0, 1) := by decide +kernel
theorem dX9_one_98 : decode cX9_one 98 = .ok (.getfield 301, 3) := by decide +kernel
theorem dX9_one_101 : decode cX9_one 101 = .ok (.invokevirtual 403, 3) := by decide +kernel
theorem dX9_one_104 : decode cX9_one 104 = .ok (.iconst 2, 1) := by decide +kernel
theorem dX9_one_105 : decode cX9_one 105 = .ok (.invokevirtual 291, 3) := by decide +kernel
theorem dX9_one_108 : decode cX9_one 108 = .ok (.ifCond .ne 5, 3) := by decide +kernel
theorem dX9_one_111 : decode cX9_one 111 = .ok (.lconst 0, 1) := by decide +kernel
theorem dX9_one_112 : decode cX9_one 112 = .ok (.lreturn, 1) := by decide +kernel
theorem dX9_one_113 : decode cX9_one 113 = .ok (.aload_n 0, 1) := by decide +kernel
theorem dX9_one_114 : decode cX9_one 114 = .ok (.getfield 70, 3) := by decide +kernel
theorem dX9_one_117 : decode cX9_one 117 = .ok (.iload_n 1, 1) := by decide +kernel
theorem dX9_one_118 : decode cX9_one 118 = .ok (.iconst 0, 1) := by decide +kernel
theorem dX9_one_119 : decode cX9_one 119 = .ok (.iastore, 1) := by decide +kernel
theorem dX9_one_120 : decode cX9_one 120 = .ok (.lconst 0, 1) := by decide +kernel
theorem dX9_one_121 : decode cX9_one 121 = .ok (.lstore 5, 2) := by decide +kernel
theorem dX9_one_123 : decode cX9_one 123 = .ok (.iconst (-1), 1) := by decide +kernel
theorem dX9_one_124 : decode cX9_one 124 = .ok (.istore 7, 2) := by decide +kernel
theorem dX9_one_126 : decode cX9_one 126 = .ok (.iconst 0, 1) := by decide +kernel
theorem dX9_one_127 : decode cX9_one 127 = .ok (.istore 8, 2) := by decide +kernel
theorem dX9_one_129 : decode cX9_one 129 = .ok (.iload 8, 2) := by decide +kernel
theorem dX9_one_131 : decode cX9_one 131 = .ok (.iload_n 2, 1) := by decide +kernel
theorem dX9_one_132 : decode cX9_one 132 = .ok (.iload_n 3, 1) := by decide +kernel
theorem dX9_one_133 : decode cX9_one 133 = .ok (.idiv, 1) := by decide +kernel
theorem dX9_one_134 : decode cX9_one 134 = .ok (.if_icmp .gt 79, 3) := by decide +kernel
theorem dX9_one_137 : decode cX9_one 137 = .ok (.aload_n 0, 1) := by decide +kernel
theorem dX9_one_138 : decode cX9_one 138 = .ok (.getfield 73, 3) := by decide +kernel
theorem dX9_one_141 : decode cX9_one 141 = .ok (.iload_n 1, 1) := by decide +kernel
theorem dX9_one_142 : decode cX9_one 142 = .ok (.iload 8, 2) := by decide +kernel
theorem dX9_one_144 : decode cX9_one 144 = .ok (.iload_n 3, 1) := by decide +kernel
theorem dX9_one_145 : decode cX9_one 145 = .ok (.imul, 1) := by decide +kernel
theorem dX9_one_146 : decode cX9_one 146 = .ok (.iastore, 1) := by decide +kernel
theorem dX9_one_147 : decode cX9_one 147 = .ok (.aload_n 0, 1) := by decide +kernel
theorem dX9_one_148 : decode cX9_one 148 = .ok (.getfield 354, 3) := by decide +kernel
theorem dX9_one_151 : decode cX9_one 151 = .ok (.iconst 1, 1) := by decide +kernel
theorem dX9_one_152 : decode cX9_one 152 = .ok (.isub, 1) := by decide +kernel
theorem dX9_one_153 : decode cX9_one 153 = .ok (.istore 9, 2) := by decide +kernel
theorem dX9_one_155 : decode cX9_one 155 = .ok (.iload 9, 2) := by decide +kernel
theorem dX9_one_157 : decode cX9_one 157 = .ok (.ifCond .lt 15, 3) := by decide +kernel
theorem dX9_one_160 : decode cX9_one 160 = .ok (.aload_n 0, 1) := by decide +kernel
theorem dX9_one_161 : decode cX9_one 161 = .ok (.iload 9, 2) := by decide +kernel
theorem dX9_one_163 : decode cX9_one 163 = .ok (.invokevirtual 406, 3) := by decide +kernel
theorem dX9_one_166 : decode cX9_one 166 = .ok (.iinc 9 (-1), 3) := by decide +kernel
theorem dX9_one_169 : decode cX9_one 169 = .ok (.goto (-14), 3) := by decide +kernel
theorem dX9_one_172 : decode cX9_one 172 = .ok (.iload 7, 2) := by decide +kernel
theorem dX9_one_174 : decode cX9_one 174 = .ok (.iconst (-1), 1) := by decide +kernel
theorem dX9_one_175 : decode cX9_one 175 = .ok (.if_icmp .eq 18, 3) := by decide +kernel
theorem dX9_one_178 : decode cX9_one 178 = .ok (.aload_n 0, 1) := by decide +kernel
theorem dX9_one_179 : decode cX9_one 179 = .ok (.getfield 76, 3) := by decide +kernel
theorem dX9_one_182 : decode cX9_one 182 = .ok (.iload_n 1, 1) := by decide +kernel
theorem dX9_one_183 : decode cX9_one 183 = .ok (.laload, 1) := by decide +kernel
theorem dX9_one_184 : decode cX9_one 184 = .ok (.lload 5, 2) := by decide +kernel
theorem dX9_one_186 : decode cX9_one 186 = .ok (.lcmp, 1) := by decide +kernel
theorem dX9_one_187 : decode cX9_one 187 = .ok (.ifCond .gt 6, 3) := by decide +kernel
theorem dX9_one_190 : decode cX9_one 190 = .ok (.goto 17, 3) := by decide +kernel
theorem dX9_one_193 : decode cX9_one 193 = .ok (.iload 8, 2) := by decide +kernel
theorem dX9_one_195 : decode cX9_one 195 = .ok (.iload_n 3, 1) := by decide +kernel
theorem dX9_one_196 : decode cX9_one 196 = .ok (.imul, 1) := by decide +kernel
theorem dX9_one_197 : decode cX9_one 197 = .ok (.istore 7, 2) := by decide +kernel
theorem dX9_one_199 : decode cX9_one 199 = .ok (.aload_n 0, 1) := by decide +kernel
theorem dX9_one_200 : decode cX9_one 200 = .ok (.getfield 76, 3) := by decide +kernel
theorem dX9_one_203 : decode cX9_one 203 = .ok (.iload_n 1, 1) := by decide +kernel
theorem dX9_one_204 : decode cX9_one 204 = .ok (.laload, 1) := by decide +kernel
theorem dX9_one_205 : decode cX9_one 205 = .ok (.lstore 5, 2) := by decide +kernel
theorem dX9_one_207 : decode cX9_one 207 = .ok (.iinc 8 1, 3) := by decide +kernel
theorem dX9_one_210 : decode cX9_one 210 = .ok (.goto (-81), 3) := by decide +kernel
theorem dX9_one_213 : decode cX9_one 213 = .ok (.iload 4, 2) := by decide +kernel
theorem dX9_one_215 : decode cX9_one 215 = .ok (.ifCond .ne 9, 3) := by decide +kernel
theorem dX9_one_218 : decode cX9_one 218 = .ok (.iload 7, 2) := by decide +kernel
theorem dX9_one_220 : decode cX9_one 220 = .ok (.i2l, 1) := by decide +kernel
theorem dX9_one_221 : decode cX9_one 221 = .ok (.goto 5, 3) := by decide +kernel
theorem dX9_one_224 : decode cX9_one 224 = .ok (.lload 5, 2) := by decide +kernel
theorem dX9_one_226 : decode cX9_one 226 = .ok (.lreturn, 1) := by decide +kernel
theorem dX9_named_0 : decode cX9_named 0 = .ok (.aload_n 0, 1) := by decide +kernel
theorem dX9_named_1 : decode cX9_named 1 = .ok (.iconst 0, 1) := by decide +kernel
theorem dX9_named_2 : decode cX9_named 2 = .ok (.putfield 170, 3) := by decide +kernel
theorem dX9_named_5 : decode cX9_named 5 = .ok (.aload_n 0, 1) := by decide +kernel
theorem dX9_named_6 : decode cX9_named 6 = .ok (.iload_n 1, 1) := by decide +kernel
theorem dX9_named_7 : decode cX9_named 7 = .ok (.invokevirtual 339, 3) := by decide +kernel
theorem dX9_named_10 : decode cX9_named 10 = .ok (.ifCond .ne 5, 3) := by decide +kernel
theorem dX9_named_13 : decode cX9_named 13 = .ok (.lconst 0, 1) := by decide +kernel
theorem dX9_named_14 : decode cX9_named 14 = .ok (.lreturn, 1) := by decide +kernel
theorem dX9_named_15 : decode cX9_named 15 = .ok (.aload_n 0, 1) := by decide +kernel
theorem dX9_named_16 : decode cX9_named 16 = .ok (.invokevirtual 413, 3) := by decide +kernel
theorem dX9_named_19 : decode cX9_named 19 = .ok (.aload_n 0, 1) := by decide +kernel
theorem dX9_named_20 : decode cX9_named 20 = .ok (.getfield 70, 3) := by decide +kernel
theorem dX9_named_23 : decode cX9_named 23 = .ok (.iload_n 1, 1) := by decide +kernel
theorem dX9_named_24 : decode cX9_named 24 = .ok (.iconst 3, 1) := by decide +kernel
theorem dX9_named_25 : decode cX9_named 25 = .ok (.iastore, 1) := by decide +kernel
theorem dX9_named_26 : decode cX9_named 26 = .ok (.aload_n 0, 1) := by decide +kernel
theorem dX9_named_27 : decode cX9_named 27 = .ok (.getfield 73, 3) := by decide +kernel
theorem dX9_named_30 : decode cX9_named 30 = .ok (.iload_n 1, 1) := by decide +kernel
theorem dX9_named_31 : decode cX9_named 31 = .ok (.iconst 0, 1) := by decide +kernel
theorem dX9_named_32 : decode cX9_named 32 = .ok (.iastore, 1) := by decide +kernel
theorem dX9_named_33 : decode cX9_named 33 = .ok (.aload_n 0, 1) := by decide +kernel
theorem dX9_named_34 : decode cX9_named 34 = .ok (.aload_n 0, 1) := by decide +kernel
theorem dX9_named_35 : decode cX9_named 35 = .ok (.iload_n 1, 1) := by decide +kernel
theorem dX9_named_36 : decode cX9_named 36 = .ok (.invokevirtual 416, 3) := by decide +kernel
theorem dX9_named_39 : decode cX9_named 39 = .ok (.iconst 2, 1) := by decide +kernel
theorem dX9_named_40 : decode cX9_named 40 = .ok (.invokevirtual 291, 3) := by decide +kernel
theorem dX9_named_43 : decode cX9_named 43 = .ok (.ifCond .ne 5, 3) := by decide +kernel
theorem dX9_named_46 : decode cX9_named 46 = .ok (.lconst 0, 1) := by decide +kernel
theorem dX9_named_47 : decode cX9_named 47 = .ok (.lreturn, 1) := by decide +kernel
theorem dX9_named_48 : decode cX9_named 48 = .ok (.aload_n 0, 1) := by decide +kernel
theorem dX9_named_49 : decode cX9_named 49 = .ok (.iconst 0, 1) := by decide +kernel
theorem dX9_named_50 : decode cX9_named 50 = .ok (.invokevirtual 386, 3) := by decide +kernel
theorem dX9_named_53 : decode cX9_named 53 = .ok (.ifCond .ne 7, 3) := by decide +kernel
theorem dX9_named_56 : decode cX9_named 56 = .ok (.ldc2_w 433, 3) := by decide +kernel
theorem dX9_named_59 : decode cX9_named 59 = .ok (.lreturn, 1) := by decide +kernel
theorem dX9_named_60 : decode cX9_named 60 = .ok (.lconst 0, 1) := by decide +kernel
theorem dX9_named_61 : decode cX9_named 61 = .ok (.lstore_n 2, 1) := by decide +kernel
theorem dX9_named_62 : decode cX9_named 62 = .ok (.iconst 0, 1) := by decide +kernel
theorem dX9_named_63 : decode cX9_named 63 = .ok (.istore 4, 2) := by decide +kernel
theorem dX9_named_65 : decode cX9_named 65 = .ok (.iconst 0, 1) := by decide +kernel
theorem dX9_named_66 : decode cX9_named 66 = .ok (.istore 5, 2) := by decide +kernel
theorem dX9_named_68 : decode cX9_named 68 = .ok (.iload 5, 2) := by decide +kernel
theorem dX9_named_70 : decode cX9_named 70 = .ok (.aload_n 0, 1) := by decide +kernel
theorem dX9_named_71 : decode cX9_named 71 = .ok (.getfield 298, 3) := by decide +kernel
theorem dX9_named_74 : decode cX9_named 74 = .ok (.if_icmp .ge 51, 3) := by decide +kernel
theorem dX9_named_77 : decode cX9_named 77 = .ok (.aload_n 0, 1) := by decide +kernel
theorem dX9_named_78 : decode cX9_named 78 = .ok (.getfield 63, 3) := by decide +kernel
theorem dX9_named_81 : decode cX9_named 81 = .ok (.iload 5, 2) := by decide +kernel
theorem dX9_named_83 : decode cX9_named 83 = .ok (.iaload, 1) := by decide +kernel
theorem dX9_named_84 : decode cX9_named 84 = .ok (.iconst (-1), 1) := by decide +kernel
theorem dX9_named_85 : decode cX9_named 85 = .ok (.if_icmp .eq 34, 3) := by decide +kernel
theorem dX9_named_88 : decode cX9_named 88 = .ok (.iload 4, 2) := by decide +kernel
theorem dX9_named_90 : decode cX9_named 90 = .ok (.ifCond .eq 18, 3) := by decide +kernel
theorem dX9_named_93 : decode cX9_named 93 = .ok (.aload_n 0, 1) := by decide +kernel
theorem dX9_named_94 : decode cX9_named 94 = .ok (.iconst 0, 1) := by decide +kernel
theorem dX9_named_95 : decode cX9_named 95 = .ok (.iload 5, 2) := by decide +kernel
theorem dX9_named_97 : decode cX9_named 97 = .ok (.invokevirtual 392, 3) := by decide +kernel
theorem dX9_named_100 : decode cX9_named 100 = .ok (.lload_n 2, 1) := by decide +kernel
theorem dX9_named_101 : decode cX9_named 101 = .ok (.lcmp, 1) := by decide +kernel
theorem dX9_named_102 : decode cX9_named 102 = .ok (.ifCond .gt 6, 3) := by decide +kernel
theorem dX9_named_105 : decode cX9_named 105 = .ok (.goto 14, 3) := by decide +kernel
theorem dX9_named_108 : decode cX9_named 108 = .ok (.aload_n 0, 1) := by decide +kernel
theorem dX9_named_109 : decode cX9_named 109 = .ok (.iconst 0, 1) := by decide +kernel
theorem dX9_named_110 : decode cX9_named 110 = .ok (.iload 5, 2) := by decide +kernel
theorem dX9_named_112 : decode cX9_named 112 = .ok (.invokevirtual 392, 3) := by decide +kernel
theorem dX9_named_115 : decode cX9_named 115 = .ok (.lstore_n 2, 1) := by decide +kernel
theorem dX9_named_116 : decode cX9_named 116 = .ok (.iconst 1, 1) := by decide +kernel
theorem dX9_named_117 : decode cX9_named 117 = .ok (.istore 4, 2) := by decide +kernel
theorem dX9_named_119 : decode cX9_named 119 = .ok (.iinc 5 1, 3) := by decide +kernel
theorem dX9_named_122 : decode cX9_named 122 = .ok (.goto (-54), 3) := by decide +kernel
theorem dX9_named_125 : decode cX9_named 125 = .ok (.ldc2_w 370, 3) := by decide +kernel
theorem dX9_named_128 : decode cX9_named 128 = .ok (.aload_n 0, 1) := by decide +kernel
theorem dX9_named_129 : decode cX9_named 129 = .ok (.getfield 7, 3) := by decide +kernel
theorem dX9_named_132 : decode cX9_named 132 = .ok (.i2l, 1) := by decide +kernel
theorem dX9_named_133 : decode cX9_named 133 = .ok (.lmul, 1) := by decide +kernel
theorem dX9_named_134 : decode cX9_named 134 = .ok (.lstore 5, 2) := by decide +kernel
theorem dX9_named_136 : decode cX9_named 136 = .ok (.lload_n 2, 1) := by decide +kernel
theorem dX9_named_137 : decode cX9_named 137 = .ok (.lload 5, 2) := by decide +kernel
theorem dX9_named_139 : decode cX9_named 139 = .ok (.lcmp, 1) := by decide +kernel
theorem dX9_named_140 : decode cX9_named 140 = .ok (.ifCond .le 7, 3) := by decide +kernel
theorem dX9_named_143 : decode cX9_named 143 = .ok (.lconst 0, 1) := by decide +kernel
theorem dX9_named_144 : decode cX9_named 144 = .ok (.goto 13, 3) := by decide +kernel
theorem dX9_named_147 : decode cX9_named 147 = .ok (.lload 5, 2) := by decide +kernel
theorem dX9_named_149 : decode cX9_named 149 = .ok (.lload_n 2, 1) := by decide +kernel
theorem dX9_named_150 : decode cX9_named 150 = .ok (.lsub, 1) := by decide +kernel
theorem dX9_named_151 : decode cX9_named 151 = .ok (.ldc2_w 370, 3) := by decide +kernel
theorem dX9_named_154 : decode cX9_named 154 = .ok (.ldiv, 1) := by decide +kernel
theorem dX9_named_155 : decode cX9_named 155 = .ok (.lconst 1, 1) := by decide +kernel
theorem dX9_named_156 : decode cX9_named 156 = .ok (.ladd, 1) := by decide +kernel
theorem dX9_named_157 : decode cX9_named 157 = .ok (.lreturn, 1) := by decide +kernel
theorem dX9_hand_0 : decode cX9_hand 0 = .ok (.aload_n 0, 1) := by decide +kernel
theorem dX9_hand_1 : decode cX9_hand 1 = .ok (.iconst 0, 1) := by decide +kernel
theorem dX9_hand_2 : decode cX9_hand 2 = .ok (.putfield 170, 3) := by decide +kernel
theorem dX9_hand_5 : decode cX9_hand 5 = .ok (.aload_n 0, 1) := by decide +kernel
theorem dX9_hand_6 : decode cX9_hand 6 = .ok (.iload_n 1, 1) := by decide +kernel
theorem dX9_hand_7 : decode cX9_hand 7 = .ok (.invokevirtual 339, 3) := by decide +kernel
theorem dX9_hand_10 : decode cX9_hand 10 = .ok (.ifCond .ne 5, 3) := by decide +kernel
theorem dX9_hand_13 : decode cX9_hand 13 = .ok (.iconst 0, 1) := by decide +kernel
theorem dX9_hand_14 : decode cX9_hand 14 = .ok (.ireturn, 1) := by decide +kernel
theorem dX9_hand_15 : decode cX9_hand 15 = .ok (.aload_n 0, 1) := by decide +kernel
theorem dX9_hand_16 : decode cX9_hand 16 = .ok (.getfield 317, 3) := by decide +kernel
theorem dX9_hand_19 : decode cX9_hand 19 = .ok (.bipush 20, 2) := by decide +kernel
theorem dX9_hand_21 : decode cX9_hand 21 = .ok (.if_icmp .ne 15, 3) := by decide +kernel
theorem dX9_hand_24 : decode cX9_hand 24 = .ok (.aload_n 0, 1) := by decide +kernel
theorem dX9_hand_25 : decode cX9_hand 25 = .ok (.getfield 38, 3) := by decide +kernel
theorem dX9_hand_28 : decode cX9_hand 28 = .ok (.iconst 1, 1) := by decide +kernel
theorem dX9_hand_29 : decode cX9_hand 29 = .ok (.dup2, 1) := by decide +kernel
theorem dX9_hand_30 : decode cX9_hand 30 = .ok (.iaload, 1) := by decide +kernel
theorem dX9_hand_31 : decode cX9_hand 31 = .ok (.iconst 1, 1) := by decide +kernel
theorem dX9_hand_32 : decode cX9_hand 32 = .ok (.iadd, 1) := by decide +kernel
theorem dX9_hand_33 : decode cX9_hand 33 = .ok (.iastore, 1) := by decide +kernel
theorem dX9_hand_34 : decode cX9_hand 34 = .ok (.iconst (-1), 1) := by decide +kernel
theorem dX9_hand_35 : decode cX9_hand 35 = .ok (.ireturn, 1) := by decide +kernel
theorem dX9_hand_36 : decode cX9_hand 36 = .ok (.aload_n 0, 1) := by decide +kernel
theorem dX9_hand_37 : decode cX9_hand 37 = .ok (.getfield 92, 3) := by decide +kernel
theorem dX9_hand_40 : decode cX9_hand 40 = .ok (.aload_n 0, 1) := by decide +kernel
theorem dX9_hand_41 : decode cX9_hand 41 = .ok (.getfield 317, 3) := by decide +kernel
theorem dX9_hand_44 : decode cX9_hand 44 = .ok (.iload_n 1, 1) := by decide +kernel
theorem dX9_hand_45 : decode cX9_hand 45 = .ok (.iastore, 1) := by decide +kernel
theorem dX9_hand_46 : decode cX9_hand 46 = .ok (.aload_n 0, 1) := by decide +kernel
theorem dX9_hand_47 : decode cX9_hand 47 = .ok (.dup, 1) := by decide +kernel
theorem dX9_hand_48 : decode cX9_hand 48 = .ok (.getfield 317, 3) := by decide +kernel
theorem dX9_hand_51 : decode cX9_hand 51 = .ok (.iconst 1, 1) := by decide +kernel
theorem dX9_hand_52 : decode cX9_hand 52 = .ok (.iadd, 1) := by decide +kernel
theorem dX9_hand_53 : decode cX9_hand 53 = .ok (.putfield 317, 3) := by decide +kernel
theorem dX9_hand_56 : decode cX9_hand 56 = .ok (.aload_n 0, 1) := by decide +kernel
theorem dX9_hand_57 : decode cX9_hand 57 = .ok (.getfield 317, 3) := by decide +kernel
theorem dX9_hand_60 : decode cX9_hand 60 = .ok (.ireturn, 1) := by decide +kernel
theorem dX9_firstWrong_0 : decode cX9_firstWrong 0 = .ok (.iconst 0, 1) := by decide +kernel
theorem dX9_firstWrong_1 : decode cX9_firstWrong 1 = .ok (.istore_n 1, 1) := by decide +kernel
theorem dX9_firstWrong_2 : decode cX9_firstWrong 2 = .ok (.iconst 0, 1) := by decide +kernel
theorem dX9_firstWrong_3 : decode cX9_firstWrong 3 = .ok (.istore_n 2, 1) := by decide +kernel
theorem dX9_firstWrong_4 : decode cX9_firstWrong 4 = .ok (.iload_n 2, 1) := by decide +kernel
theorem dX9_firstWrong_5 : decode cX9_firstWrong 5 = .ok (.aload_n 0, 1) := by decide +kernel
theorem dX9_firstWrong_6 : decode cX9_firstWrong 6 = .ok (.getfield 435, 3) := by decide +kernel
theorem dX9_firstWrong_9 : decode cX9_firstWrong 9 = .ok (.if_icmp .ge 128, 3) := by decide +kernel
theorem dX9_firstWrong_12 : decode cX9_firstWrong 12 = .ok (.aload_n 0, 1) := by decide +kernel
theorem dX9_firstWrong_13 : decode cX9_firstWrong 13 = .ok (.getfield 101, 3) := by decide +kernel
theorem dX9_firstWrong_16 : decode cX9_firstWrong 16 = .ok (.iload_n 2, 1) := by decide +kernel
theorem dX9_firstWrong_17 : decode cX9_firstWrong 17 = .ok (.iaload, 1) := by decide +kernel
theorem dX9_firstWrong_18 : decode cX9_firstWrong 18 = .ok (.istore_n 3, 1) := by decide +kernel
theorem dX9_firstWrong_19 : decode cX9_firstWrong 19 = .ok (.iload_n 2, 1) := by decide +kernel
theorem dX9_firstWrong_20 : decode cX9_firstWrong 20 = .ok (.ifCond .ne 11, 3) := by decide +kernel
theorem dX9_firstWrong_23 : decode cX9_firstWrong 23 = .ok (.iload_n 3, 1) := by decide +kernel
theorem dX9_firstWrong_24 : decode cX9_firstWrong 24 = .ok (.aload_n 0, 1) := by decide +kernel
theorem dX9_firstWrong_25 : decode cX9_firstWrong 25 = .ok (.getfield 301, 3) := by decide +kernel
theorem dX9_firstWrong_28 : decode cX9_firstWrong 28 = .ok (.if_icmp .ne 11, 3) := by decide +kernel
theorem dX9_firstWrong_31 : decode cX9_firstWrong 31 = .ok (.iload_n 2, 1) := by decide +kernel
theorem dX9_firstWrong_32 : decode cX9_firstWrong 32 = .ok (.aload_n 0, 1) := by decide +kernel
theorem dX9_firstWrong_33 : decode cX9_firstWrong 33 = .ok (.getfield 16, 3) := by decide +kernel
theorem dX9_firstWrong_36 : decode cX9_firstWrong 36 = .ok (.if_icmp .lt 7, 3) := by decide +kernel
theorem dX9_firstWrong_39 : decode cX9_firstWrong 39 = .ok (.iload_n 2, 1) := by decide +kernel
theorem dX9_firstWrong_40 : decode cX9_firstWrong 40 = .ok (.iconst 1, 1) := by decide +kernel
theorem dX9_firstWrong_41 : decode cX9_firstWrong 41 = .ok (.iadd, 1) := by decide +kernel
theorem dX9_firstWrong_42 : decode cX9_firstWrong 42 = .ok (.ireturn, 1) := by decide +kernel
theorem dX9_firstWrong_43 : decode cX9_firstWrong 43 = .ok (.iload_n 2, 1) := by decide +kernel
theorem dX9_firstWrong_44 : decode cX9_firstWrong 44 = .ok (.ifCond .le 81, 3) := by decide +kernel
theorem dX9_firstWrong_47 : decode cX9_firstWrong 47 = .ok (.aload_n 0, 1) := by decide +kernel
theorem dX9_firstWrong_48 : decode cX9_firstWrong 48 = .ok (.getfield 101, 3) := by decide +kernel
theorem dX9_firstWrong_51 : decode cX9_firstWrong 51 = .ok (.iload_n 2, 1) := by decide +kernel
theorem dX9_firstWrong_52 : decode cX9_firstWrong 52 = .ok (.iconst 1, 1) := by decide +kernel
theorem dX9_firstWrong_53 : decode cX9_firstWrong 53 = .ok (.isub, 1) := by decide +kernel
theorem dX9_firstWrong_54 : decode cX9_firstWrong 54 = .ok (.iaload, 1) := by decide +kernel
theorem dX9_firstWrong_55 : decode cX9_firstWrong 55 = .ok (.istore 4, 2) := by decide +kernel
theorem dX9_firstWrong_57 : decode cX9_firstWrong 57 = .ok (.aload_n 0, 1) := by decide +kernel
theorem dX9_firstWrong_58 : decode cX9_firstWrong 58 = .ok (.getfield 29, 3) := by decide +kernel
theorem dX9_firstWrong_61 : decode cX9_firstWrong 61 = .ok (.bipush 8, 2) := by decide +kernel
theorem dX9_firstWrong_63 : decode cX9_firstWrong 63 = .ok (.iload 4, 2) := by decide +kernel
theorem dX9_firstWrong_65 : decode cX9_firstWrong 65 = .ok (.imul, 1) := by decide +kernel
theorem dX9_firstWrong_66 : decode cX9_firstWrong 66 = .ok (.iload_n 3, 1) := by decide +kernel
theorem dX9_firstWrong_67 : decode cX9_firstWrong 67 = .ok (.iadd, 1) := by decide +kernel
theorem dX9_firstWrong_68 : decode cX9_firstWrong 68 = .ok (.iaload, 1) := by decide +kernel
theorem dX9_firstWrong_69 : decode cX9_firstWrong 69 = .ok (.ifCond .ne 7, 3) := by decide +kernel
theorem dX9_firstWrong_72 : decode cX9_firstWrong 72 = .ok (.iload_n 2, 1) := by decide +kernel
theorem dX9_firstWrong_73 : decode cX9_firstWrong 73 = .ok (.iconst 1, 1) := by decide +kernel
theorem dX9_firstWrong_74 : decode cX9_firstWrong 74 = .ok (.iadd, 1) := by decide +kernel
theorem dX9_firstWrong_75 : decode cX9_firstWrong 75 = .ok (.ireturn, 1) := by decide +kernel
theorem dX9_firstWrong_76 : decode cX9_firstWrong 76 = .ok (.aload_n 0, 1) := by decide +kernel
theorem dX9_firstWrong_77 : decode cX9_firstWrong 77 = .ok (.getfield 310, 3) := by decide +kernel
theorem dX9_firstWrong_80 : decode cX9_firstWrong 80 = .ok (.ifCond .ne 16, 3) := by decide +kernel
theorem dX9_firstWrong_83 : decode cX9_firstWrong 83 = .ok (.iload_n 1, 1) := by decide +kernel
theorem dX9_firstWrong_84 : decode cX9_firstWrong 84 = .ok (.iload_n 3, 1) := by decide +kernel
theorem dX9_firstWrong_85 : decode cX9_firstWrong 85 = .ok (.ishr, 1) := by decide +kernel
theorem dX9_firstWrong_86 : decode cX9_firstWrong 86 = .ok (.iconst 1, 1) := by decide +kernel
theorem dX9_firstWrong_87 : decode cX9_firstWrong 87 = .ok (.iand, 1) := by decide +kernel
theorem dX9_firstWrong_88 : decode cX9_firstWrong 88 = .ok (.iconst 1, 1) := by decide +kernel
theorem dX9_firstWrong_89 : decode cX9_firstWrong 89 = .ok (.if_icmp .ne 7, 3) := by decide +kernel
theorem dX9_firstWrong_92 : decode cX9_firstWrong 92 = .ok (.iload_n 2, 1) := by decide +kernel
theorem dX9_firstWrong_93 : decode cX9_firstWrong 93 = .ok (.iconst 1, 1) := by decide +kernel
theorem dX9_firstWrong_94 : decode cX9_firstWrong 94 = .ok (.iadd, 1) := by decide +kernel
theorem dX9_firstWrong_95 : decode cX9_firstWrong 95 = .ok (.ireturn, 1) := by decide +kernel
theorem dX9_firstWrong_96 : decode cX9_firstWrong 96 = .ok (.aload_n 0, 1) := by decide +kernel
theorem dX9_firstWrong_97 : decode cX9_firstWrong 97 = .ok (.getfield 310, 3) := by decide +kernel
theorem dX9_firstWrong_100 : decode cX9_firstWrong 100 = .ok (.iconst 1, 1) := by decide +kernel
theorem dX9_firstWrong_101 : decode cX9_firstWrong 101 = .ok (.if_icmp .ne 24, 3) := by decide +kernel
theorem dX9_firstWrong_104 : decode cX9_firstWrong 104 = .ok (.iload_n 2, 1) := by decide +kernel
theorem dX9_firstWrong_105 : decode cX9_firstWrong 105 = .ok (.iconst 1, 1) := by decide +kernel
theorem dX9_firstWrong_106 : decode cX9_firstWrong 106 = .ok (.if_icmp .le 19, 3) := by decide +kernel
theorem dX9_firstWrong_109 : decode cX9_firstWrong 109 = .ok (.aload_n 0, 1) := by decide +kernel
theorem dX9_firstWrong_110 : decode cX9_firstWrong 110 = .ok (.getfield 101, 3) := by decide +kernel
theorem dX9_firstWrong_113 : decode cX9_firstWrong 113 = .ok (.iload_n 2, 1) := by decide +kernel
theorem dX9_firstWrong_114 : decode cX9_firstWrong 114 = .ok (.iconst 2, 1) := by decide +kernel
theorem dX9_firstWrong_115 : decode cX9_firstWrong 115 = .ok (.isub, 1) := by decide +kernel
theorem dX9_firstWrong_116 : decode cX9_firstWrong 116 = .ok (.iaload, 1) := by decide +kernel
theorem dX9_firstWrong_117 : decode cX9_firstWrong 117 = .ok (.iload_n 3, 1) := by decide +kernel
theorem dX9_firstWrong_118 : decode cX9_firstWrong 118 = .ok (.if_icmp .ne 7, 3) := by decide +kernel
theorem dX9_firstWrong_121 : decode cX9_firstWrong 121 = .ok (.iload_n 2, 1) := by decide +kernel
theorem dX9_firstWrong_122 : decode cX9_firstWrong 122 = .ok (.iconst 1, 1) := by decide +kernel
theorem dX9_firstWrong_123 : decode cX9_firstWrong 123 = .ok (.iadd, 1) := by decide +kernel
theorem dX9_firstWrong_124 : decode cX9_firstWrong 124 = .ok (.ireturn, 1) := by decide +kernel
theorem dX9_firstWrong_125 : decode cX9_firstWrong 125 = .ok (.iload_n 1, 1) := by decide +kernel
theorem dX9_firstWrong_126 : decode cX9_firstWrong 126 = .ok (.iconst 1, 1) := by decide +kernel
theorem dX9_firstWrong_127 : decode cX9_firstWrong 127 = .ok (.iload_n 3, 1) := by decide +kernel
theorem dX9_firstWrong_128 : decode cX9_firstWrong 128 = .ok (.ishl, 1) := by decide +kernel
theorem dX9_firstWrong_129 : decode cX9_firstWrong 129 = .ok (.ior, 1) := by decide +kernel
theorem dX9_firstWrong_130 : decode cX9_firstWrong 130 = .ok (.istore_n 1, 1) := by decide +kernel
theorem dX9_firstWrong_131 : decode cX9_firstWrong 131 = .ok (.iinc 2 1, 3) := by decide +kernel
theorem dX9_firstWrong_134 : decode cX9_firstWrong 134 = .ok (.goto (-130), 3) := by decide +kernel
theorem dX9_firstWrong_137 : decode cX9_firstWrong 137 = .ok (.iconst (-1), 1) := by decide +kernel
theorem dX9_firstWrong_138 : decode cX9_firstWrong 138 = .ok (.ireturn, 1) := by decide +kernel
theorem dX9_asksRow_0 : decode cX9_asksRow 0 = .ok (.aload_n 0, 1) := by decide +kernel
theorem dX9_asksRow_1 : decode cX9_asksRow 1 = .ok (.aload_n 0, 1) := by decide +kernel
theorem dX9_asksRow_2 : decode cX9_asksRow 2 = .ok (.getfield 317, 3) := by decide +kernel
theorem dX9_asksRow_5 : decode cX9_asksRow 5 = .ok (.putfield 435, 3) := by decide +kernel
theorem dX9_asksRow_8 : decode cX9_asksRow 8 = .ok (.aload_n 0, 1) := by decide +kernel
theorem dX9_asksRow_9 : decode cX9_asksRow 9 = .ok (.aload_n 0, 1) := by decide +kernel
theorem dX9_asksRow_10 : decode cX9_asksRow 10 = .ok (.getfield 92, 3) := by decide +kernel
theorem dX9_asksRow_13 : decode cX9_asksRow 13 = .ok (.aload_n 0, 1) := by decide +kernel
theorem dX9_asksRow_14 : decode cX9_asksRow 14 = .ok (.getfield 101, 3) := by decide +kernel
theorem dX9_asksRow_17 : decode cX9_asksRow 17 = .ok (.invokevirtual 313, 3) := by decide +kernel
theorem dX9_asksRow_20 : decode cX9_asksRow 20 = .ok (.return_, 1) := by decide +kernel
theorem dX9_judge_0 : decode cX9_judge 0 = .ok (.aload_n 0, 1) := by decide +kernel
theorem dX9_judge_1 : decode cX9_judge 1 = .ok (.iconst 0, 1) := by decide +kernel
theorem dX9_judge_2 : decode cX9_judge 2 = .ok (.putfield 170, 3) := by decide +kernel
theorem dX9_judge_5 : decode cX9_judge 5 = .ok (.aload_n 0, 1) := by decide +kernel
theorem dX9_judge_6 : decode cX9_judge 6 = .ok (.invokevirtual 438, 3) := by decide +kernel
theorem dX9_judge_9 : decode cX9_judge 9 = .ok (.aload_n 0, 1) := by decide +kernel
theorem dX9_judge_10 : decode cX9_judge 10 = .ok (.invokevirtual 441, 3) := by decide +kernel
theorem dX9_judge_13 : decode cX9_judge 13 = .ok (.ireturn, 1) := by decide +kernel
theorem dX9_stepTo_0 : decode cX9_stepTo 0 = .ok (.aload_n 0, 1) := by decide +kernel
theorem dX9_stepTo_1 : decode cX9_stepTo 1 = .ok (.getfield 63, 3) := by decide +kernel
theorem dX9_stepTo_4 : decode cX9_stepTo 4 = .ok (.bipush 8, 2) := by decide +kernel
theorem dX9_stepTo_6 : decode cX9_stepTo 6 = .ok (.iload_n 1, 1) := by decide +kernel
theorem dX9_stepTo_7 : decode cX9_stepTo 7 = .ok (.imul, 1) := by decide +kernel
theorem dX9_stepTo_8 : decode cX9_stepTo 8 = .ok (.iload_n 2, 1) := by decide +kernel
theorem dX9_stepTo_9 : decode cX9_stepTo 9 = .ok (.iadd, 1) := by decide +kernel
theorem dX9_stepTo_10 : decode cX9_stepTo 10 = .ok (.iaload, 1) := by decide +kernel
theorem dX9_stepTo_11 : decode cX9_stepTo 11 = .ok (.istore 5, 2) := by decide +kernel
theorem dX9_stepTo_13 : decode cX9_stepTo 13 = .ok (.iload 5, 2) := by decide +kernel
theorem dX9_stepTo_15 : decode cX9_stepTo 15 = .ok (.iconst (-1), 1) := by decide +kernel
theorem dX9_stepTo_16 : decode cX9_stepTo 16 = .ok (.if_icmp .ne 5, 3) := by decide +kernel
theorem dX9_stepTo_19 : decode cX9_stepTo 19 = .ok (.lconst 0, 1) := by decide +kernel
theorem dX9_stepTo_20 : decode cX9_stepTo 20 = .ok (.lreturn, 1) := by decide +kernel
theorem dX9_stepTo_21 : decode cX9_stepTo 21 = .ok (.aload_n 0, 1) := by decide +kernel
theorem dX9_stepTo_22 : decode cX9_stepTo 22 = .ok (.getfield 70, 3) := by decide +kernel
theorem dX9_stepTo_25 : decode cX9_stepTo 25 = .ok (.aload_n 0, 1) := by decide +kernel
theorem dX9_stepTo_26 : decode cX9_stepTo 26 = .ok (.getfield 50, 3) := by decide +kernel
theorem dX9_stepTo_29 : decode cX9_stepTo 29 = .ok (.iload_n 1, 1) := by decide +kernel
theorem dX9_stepTo_30 : decode cX9_stepTo 30 = .ok (.iaload, 1) := by decide +kernel
theorem dX9_stepTo_31 : decode cX9_stepTo 31 = .ok (.iaload, 1) := by decide +kernel
theorem dX9_stepTo_32 : decode cX9_stepTo 32 = .ok (.iconst 3, 1) := by decide +kernel
theorem dX9_stepTo_33 : decode cX9_stepTo 33 = .ok (.if_icmp .ne 19, 3) := by decide +kernel
theorem dX9_stepTo_36 : decode cX9_stepTo 36 = .ok (.aload_n 0, 1) := by decide +kernel
theorem dX9_stepTo_37 : decode cX9_stepTo 37 = .ok (.getfield 83, 3) := by decide +kernel
theorem dX9_stepTo_40 : decode cX9_stepTo 40 = .ok (.iload_n 1, 1) := by decide +kernel
theorem dX9_stepTo_41 : decode cX9_stepTo 41 = .ok (.iaload, 1) := by decide +kernel
theorem dX9_stepTo_42 : decode cX9_stepTo 42 = .ok (.iload_n 2, 1) := by decide +kernel
theorem dX9_stepTo_43 : decode cX9_stepTo 43 = .ok (.if_icmp .ne 7, 3) := by decide +kernel
theorem dX9_stepTo_46 : decode cX9_stepTo 46 = .ok (.lload_n 3, 1) := by decide +kernel
theorem dX9_stepTo_47 : decode cX9_stepTo 47 = .ok (.goto 4, 3) := by decide +kernel
theorem dX9_stepTo_50 : decode cX9_stepTo 50 = .ok (.lconst 0, 1) := by decide +kernel
theorem dX9_stepTo_51 : decode cX9_stepTo 51 = .ok (.lreturn, 1) := by decide +kernel
theorem dX9_stepTo_52 : decode cX9_stepTo 52 = .ok (.aload_n 0, 1) := by decide +kernel
theorem dX9_stepTo_53 : decode cX9_stepTo 53 = .ok (.iload_n 1, 1) := by decide +kernel
theorem dX9_stepTo_54 : decode cX9_stepTo 54 = .ok (.lload_n 3, 1) := by decide +kernel
theorem dX9_stepTo_55 : decode cX9_stepTo 55 = .ok (.invokevirtual 444, 3) := by decide +kernel
theorem dX9_stepTo_58 : decode cX9_stepTo 58 = .ok (.aload_n 0, 1) := by decide +kernel
theorem dX9_stepTo_59 : decode cX9_stepTo 59 = .ok (.getfield 29, 3) := by decide +kernel
theorem dX9_stepTo_62 : decode cX9_stepTo 62 = .ok (.bipush 8, 2) := by decide +kernel
theorem dX9_stepTo_64 : decode cX9_stepTo 64 = .ok (.aload_n 0, 1) := by decide +kernel
theorem dX9_stepTo_65 : decode cX9_stepTo 65 = .ok (.getfield 50, 3) := by decide +kernel
theorem dX9_stepTo_68 : decode cX9_stepTo 68 = .ok (.iload_n 1, 1) := by decide +kernel
theorem dX9_stepTo_69 : decode cX9_stepTo 69 = .ok (.iaload, 1) := by decide +kernel
theorem dX9_stepTo_70 : decode cX9_stepTo 70 = .ok (.imul, 1) := by decide +kernel
theorem dX9_stepTo_71 : decode cX9_stepTo 71 = .ok (.iload_n 2, 1) := by decide +kernel
theorem dX9_stepTo_72 : decode cX9_stepTo 72 = .ok (.iadd, 1) := by decide +kernel
theorem dX9_stepTo_73 : decode cX9_stepTo 73 = .ok (.iaload, 1) := by decide +kernel
theorem dX9_stepTo_74 : decode cX9_stepTo 74 = .ok (.i2l, 1) := by decide +kernel
theorem dX9_stepTo_75 : decode cX9_stepTo 75 = .ok (.lmul, 1) := by decide +kernel
theorem dX9_stepTo_76 : decode cX9_stepTo 76 = .ok (.aload_n 0, 1) := by decide +kernel
theorem dX9_stepTo_77 : decode cX9_stepTo 77 = .ok (.iload_n 1, 1) := by decide +kernel
theorem dX9_stepTo_78 : decode cX9_stepTo 78 = .ok (.invokevirtual 386, 3) := by decide +kernel
theorem dX9_stepTo_81 : decode cX9_stepTo 81 = .ok (.i2l, 1) := by decide +kernel
theorem dX9_stepTo_82 : decode cX9_stepTo 82 = .ok (.ldiv, 1) := by decide +kernel
theorem dX9_stepTo_83 : decode cX9_stepTo 83 = .ok (.lreturn, 1) := by decide +kernel
theorem dX9_sentOf_0 : decode cX9_sentOf 0 = .ok (.aload_n 0, 1) := by decide +kernel
theorem dX9_sentOf_1 : decode cX9_sentOf 1 = .ok (.getfield 50, 3) := by decide +kernel
theorem dX9_sentOf_4 : decode cX9_sentOf 4 = .ok (.iload_n 1, 1) := by decide +kernel
theorem dX9_sentOf_5 : decode cX9_sentOf 5 = .ok (.iaload, 1) := by decide +kernel
theorem dX9_sentOf_6 : decode cX9_sentOf 6 = .ok (.istore 4, 2) := by decide +kernel
theorem dX9_sentOf_8 : decode cX9_sentOf 8 = .ok (.aload_n 0, 1) := by decide +kernel
theorem dX9_sentOf_9 : decode cX9_sentOf 9 = .ok (.getfield 70, 3) := by decide +kernel
theorem dX9_sentOf_12 : decode cX9_sentOf 12 = .ok (.iload 4, 2) := by decide +kernel
theorem dX9_sentOf_14 : decode cX9_sentOf 14 = .ok (.iaload, 1) := by decide +kernel
theorem dX9_sentOf_15 : decode cX9_sentOf 15 = .ok (.lookupswitch 48 #[(0, 25), (1, 46)], 25) := by decide +kernel
theorem dX9_sentOf_40 : decode cX9_sentOf 40 = .ok (.aload_n 0, 1) := by decide +kernel
theorem dX9_sentOf_41 : decode cX9_sentOf 41 = .ok (.iload 4, 2) := by decide +kernel
theorem dX9_sentOf_43 : decode cX9_sentOf 43 = .ok (.aload_n 0, 1) := by decide +kernel
theorem dX9_sentOf_44 : decode cX9_sentOf 44 = .ok (.getfield 53, 3) := by decide +kernel
theorem dX9_sentOf_47 : decode cX9_sentOf 47 = .ok (.iload_n 1, 1) := by decide +kernel
theorem dX9_sentOf_48 : decode cX9_sentOf 48 = .ok (.iaload, 1) := by decide +kernel
theorem dX9_sentOf_49 : decode cX9_sentOf 49 = .ok (.invokevirtual 396, 3) := by decide +kernel
theorem dX9_sentOf_52 : decode cX9_sentOf 52 = .ok (.ifCond .eq 7, 3) := by decide +kernel
theorem dX9_sentOf_55 : decode cX9_sentOf 55 = .ok (.lconst 0, 1) := by decide +kernel
theorem dX9_sentOf_56 : decode cX9_sentOf 56 = .ok (.goto 4, 3) := by decide +kernel
theorem dX9_sentOf_59 : decode cX9_sentOf 59 = .ok (.lload_n 2, 1) := by decide +kernel
theorem dX9_sentOf_60 : decode cX9_sentOf 60 = .ok (.lreturn, 1) := by decide +kernel
theorem dX9_sentOf_61 : decode cX9_sentOf 61 = .ok (.lload_n 2, 1) := by decide +kernel
theorem dX9_sentOf_62 : decode cX9_sentOf 62 = .ok (.lreturn, 1) := by decide +kernel
theorem dX9_sentOf_63 : decode cX9_sentOf 63 = .ok (.lload_n 2, 1) := by decide +kernel
theorem dX9_sentOf_64 : decode cX9_sentOf 64 = .ok (.sipush 1000, 3) := by decide +kernel
theorem dX9_sentOf_67 : decode cX9_sentOf 67 = .ok (.aload_n 0, 1) := by decide +kernel
theorem dX9_sentOf_68 : decode cX9_sentOf 68 = .ok (.getfield 73, 3) := by decide +kernel
theorem dX9_sentOf_71 : decode cX9_sentOf 71 = .ok (.iload 4, 2) := by decide +kernel
theorem dX9_sentOf_73 : decode cX9_sentOf 73 = .ok (.iaload, 1) := by decide +kernel
theorem dX9_sentOf_74 : decode cX9_sentOf 74 = .ok (.isub, 1) := by decide +kernel
theorem dX9_sentOf_75 : decode cX9_sentOf 75 = .ok (.i2l, 1) := by decide +kernel
theorem dX9_sentOf_76 : decode cX9_sentOf 76 = .ok (.lmul, 1) := by decide +kernel
theorem dX9_sentOf_77 : decode cX9_sentOf 77 = .ok (.ldc2_w 370, 3) := by decide +kernel
theorem dX9_sentOf_80 : decode cX9_sentOf 80 = .ok (.ldiv, 1) := by decide +kernel
theorem dX9_sentOf_81 : decode cX9_sentOf 81 = .ok (.lreturn, 1) := by decide +kernel
theorem dX9_oddsNow_0 : decode cX9_oddsNow 0 = .ok (.aload_n 0, 1) := by decide +kernel
theorem dX9_oddsNow_1 : decode cX9_oddsNow 1 = .ok (.getfield 435, 3) := by decide +kernel
theorem dX9_oddsNow_4 : decode cX9_oddsNow 4 = .ok (.ifCond .eq 11, 3) := by decide +kernel
theorem dX9_oddsNow_7 : decode cX9_oddsNow 7 = .ok (.aload_n 0, 1) := by decide +kernel
theorem dX9_oddsNow_8 : decode cX9_oddsNow 8 = .ok (.invokevirtual 441, 3) := by decide +kernel
theorem dX9_oddsNow_11 : decode cX9_oddsNow 11 = .ok (.iconst (-1), 1) := by decide +kernel
theorem dX9_oddsNow_12 : decode cX9_oddsNow 12 = .ok (.if_icmp .eq 5, 3) := by decide +kernel
theorem dX9_oddsNow_15 : decode cX9_oddsNow 15 = .ok (.lconst 0, 1) := by decide +kernel
theorem dX9_oddsNow_16 : decode cX9_oddsNow 16 = .ok (.lreturn, 1) := by decide +kernel
theorem dX9_oddsNow_17 : decode cX9_oddsNow 17 = .ok (.ldc2_w 372, 3) := by decide +kernel
theorem dX9_oddsNow_20 : decode cX9_oddsNow 20 = .ok (.lstore_n 1, 1) := by decide +kernel
theorem dX9_oddsNow_21 : decode cX9_oddsNow 21 = .ok (.iconst 0, 1) := by decide +kernel
theorem dX9_oddsNow_22 : decode cX9_oddsNow 22 = .ok (.istore_n 3, 1) := by decide +kernel
theorem dX9_oddsNow_23 : decode cX9_oddsNow 23 = .ok (.iconst 0, 1) := by decide +kernel
theorem dX9_oddsNow_24 : decode cX9_oddsNow 24 = .ok (.istore 4, 2) := by decide +kernel
theorem dX9_oddsNow_26 : decode cX9_oddsNow 26 = .ok (.iload 4, 2) := by decide +kernel
theorem dX9_oddsNow_28 : decode cX9_oddsNow 28 = .ok (.iconst 1, 1) := by decide +kernel
theorem dX9_oddsNow_29 : decode cX9_oddsNow 29 = .ok (.iadd, 1) := by decide +kernel
theorem dX9_oddsNow_30 : decode cX9_oddsNow 30 = .ok (.aload_n 0, 1) := by decide +kernel
theorem dX9_oddsNow_31 : decode cX9_oddsNow 31 = .ok (.getfield 435, 3) := by decide +kernel
theorem dX9_oddsNow_34 : decode cX9_oddsNow 34 = .ok (.if_icmp .ge 45, 3) := by decide +kernel
theorem dX9_oddsNow_37 : decode cX9_oddsNow 37 = .ok (.aload_n 0, 1) := by decide +kernel
theorem dX9_oddsNow_38 : decode cX9_oddsNow 38 = .ok (.iload_n 3, 1) := by decide +kernel
theorem dX9_oddsNow_39 : decode cX9_oddsNow 39 = .ok (.aload_n 0, 1) := by decide +kernel
theorem dX9_oddsNow_40 : decode cX9_oddsNow 40 = .ok (.getfield 101, 3) := by decide +kernel
theorem dX9_oddsNow_43 : decode cX9_oddsNow 43 = .ok (.iload 4, 2) := by decide +kernel
theorem dX9_oddsNow_45 : decode cX9_oddsNow 45 = .ok (.iconst 1, 1) := by decide +kernel
theorem dX9_oddsNow_46 : decode cX9_oddsNow 46 = .ok (.iadd, 1) := by decide +kernel
theorem dX9_oddsNow_47 : decode cX9_oddsNow 47 = .ok (.iaload, 1) := by decide +kernel
theorem dX9_oddsNow_48 : decode cX9_oddsNow 48 = .ok (.lload_n 1, 1) := by decide +kernel
theorem dX9_oddsNow_49 : decode cX9_oddsNow 49 = .ok (.invokevirtual 447, 3) := by decide +kernel
theorem dX9_oddsNow_52 : decode cX9_oddsNow 52 = .ok (.lstore_n 1, 1) := by decide +kernel
theorem dX9_oddsNow_53 : decode cX9_oddsNow 53 = .ok (.aload_n 0, 1) := by decide +kernel
theorem dX9_oddsNow_54 : decode cX9_oddsNow 54 = .ok (.getfield 63, 3) := by decide +kernel
theorem dX9_oddsNow_57 : decode cX9_oddsNow 57 = .ok (.bipush 8, 2) := by decide +kernel
theorem dX9_oddsNow_59 : decode cX9_oddsNow 59 = .ok (.iload_n 3, 1) := by decide +kernel
theorem dX9_oddsNow_60 : decode cX9_oddsNow 60 = .ok (.imul, 1) := by decide +kernel
theorem dX9_oddsNow_61 : decode cX9_oddsNow 61 = .ok (.aload_n 0, 1) := by decide +kernel
theorem dX9_oddsNow_62 : decode cX9_oddsNow 62 = .ok (.getfield 101, 3) := by decide +kernel
theorem dX9_oddsNow_65 : decode cX9_oddsNow 65 = .ok (.iload 4, 2) := by decide +kernel
theorem dX9_oddsNow_67 : decode cX9_oddsNow 67 = .ok (.iconst 1, 1) := by decide +kernel
theorem dX9_oddsNow_68 : decode cX9_oddsNow 68 = .ok (.iadd, 1) := by decide +kernel
theorem dX9_oddsNow_69 : decode cX9_oddsNow 69 = .ok (.iaload, 1) := by decide +kernel
theorem dX9_oddsNow_70 : decode cX9_oddsNow 70 = .ok (.iadd, 1) := by decide +kernel
theorem dX9_oddsNow_71 : decode cX9_oddsNow 71 = .ok (.iaload, 1) := by decide +kernel
theorem dX9_oddsNow_72 : decode cX9_oddsNow 72 = .ok (.istore_n 3, 1) := by decide +kernel
theorem dX9_oddsNow_73 : decode cX9_oddsNow 73 = .ok (.iinc 4 1, 3) := by decide +kernel
theorem dX9_oddsNow_76 : decode cX9_oddsNow 76 = .ok (.goto (-50), 3) := by decide +kernel
theorem dX9_oddsNow_79 : decode cX9_oddsNow 79 = .ok (.aload_n 0, 1) := by decide +kernel
theorem dX9_oddsNow_80 : decode cX9_oddsNow 80 = .ok (.iload_n 3, 1) := by decide +kernel
theorem dX9_oddsNow_81 : decode cX9_oddsNow 81 = .ok (.lload_n 1, 1) := by decide +kernel
theorem dX9_oddsNow_82 : decode cX9_oddsNow 82 = .ok (.invokevirtual 409, 3) := by decide +kernel
theorem dX9_oddsNow_85 : decode cX9_oddsNow 85 = .ok (.lreturn, 1) := by decide +kernel
theorem dX9_odds_0 : decode cX9_odds 0 = .ok (.aload_n 0, 1) := by decide +kernel
theorem dX9_odds_1 : decode cX9_odds 1 = .ok (.iconst 0, 1) := by decide +kernel
theorem dX9_odds_2 : decode cX9_odds 2 = .ok (.putfield 170, 3) := by decide +kernel
theorem dX9_odds_5 : decode cX9_odds 5 = .ok (.aload_n 0, 1) := by decide +kernel
theorem dX9_odds_6 : decode cX9_odds 6 = .ok (.getfield 298, 3) := by decide +kernel
theorem dX9_odds_9 : decode cX9_odds 9 = .ok (.ifCond .ne 5, 3) := by decide +kernel
theorem dX9_odds_12 : decode cX9_odds 12 = .ok (.iconst 0, 1) := by decide +kernel
theorem dX9_odds_13 : decode cX9_odds 13 = .ok (.ireturn, 1) := by decide +kernel
theorem dX9_odds_14 : decode cX9_odds 14 = .ok (.aload_n 0, 1) := by decide +kernel
theorem dX9_odds_15 : decode cX9_odds 15 = .ok (.invokevirtual 413, 3) := by decide +kernel
theorem dX9_odds_18 : decode cX9_odds 18 = .ok (.aload_n 0, 1) := by decide +kernel
theorem dX9_odds_19 : decode cX9_odds 19 = .ok (.aload_n 0, 1) := by decide +kernel
theorem dX9_odds_20 : decode cX9_odds 20 = .ok (.aload_n 0, 1) := by decide +kernel
theorem dX9_odds_21 : decode cX9_odds 21 = .ok (.getfield 301, 3) := by decide +kernel
theorem dX9_odds_24 : decode cX9_odds 24 = .ok (.invokevirtual 416, 3) := by decide +kernel
theorem dX9_odds_27 : decode cX9_odds 27 = .ok (.iconst 1, 1) := by decide +kernel
theorem dX9_odds_28 : decode cX9_odds 28 = .ok (.invokevirtual 291, 3) := by decide +kernel
theorem dX9_odds_31 : decode cX9_odds 31 = .ok (.ifCond .ne 5, 3) := by decide +kernel
theorem dX9_odds_34 : decode cX9_odds 34 = .ok (.iconst 0, 1) := by decide +kernel
theorem dX9_odds_35 : decode cX9_odds 35 = .ok (.ireturn, 1) := by decide +kernel
theorem dX9_odds_36 : decode cX9_odds 36 = .ok (.aload_n 0, 1) := by decide +kernel
theorem dX9_odds_37 : decode cX9_odds 37 = .ok (.invokevirtual 438, 3) := by decide +kernel
theorem dX9_odds_40 : decode cX9_odds 40 = .ok (.aload_n 0, 1) := by decide +kernel
theorem dX9_odds_41 : decode cX9_odds 41 = .ok (.invokevirtual 451, 3) := by decide +kernel
theorem dX9_odds_44 : decode cX9_odds 44 = .ok (.l2i, 1) := by decide +kernel
theorem dX9_odds_45 : decode cX9_odds 45 = .ok (.ireturn, 1) := by decide +kernel
theorem dX9_ended_0 : decode cX9_ended 0 = .ok (.aload_n 0, 1) := by decide +kernel
theorem dX9_ended_1 : decode cX9_ended 1 = .ok (.iconst 0, 1) := by decide +kernel
theorem dX9_ended_2 : decode cX9_ended 2 = .ok (.putfield 170, 3) := by decide +kernel
theorem dX9_ended_5 : decode cX9_ended 5 = .ok (.aload_n 0, 1) := by decide +kernel
theorem dX9_ended_6 : decode cX9_ended 6 = .ok (.getfield 320, 3) := by decide +kernel
theorem dX9_ended_9 : decode cX9_ended 9 = .ok (.bipush 20, 2) := by decide +kernel
theorem dX9_ended_11 : decode cX9_ended 11 = .ok (.if_icmp .ne 5, 3) := by decide +kernel
theorem dX9_ended_14 : decode cX9_ended 14 = .ok (.iconst (-1), 1) := by decide +kernel
theorem dX9_ended_15 : decode cX9_ended 15 = .ok (.ireturn, 1) := by decide +kernel
theorem dX9_ended_16 : decode cX9_ended 16 = .ok (.iconst 0, 1) := by decide +kernel
theorem dX9_ended_17 : decode cX9_ended 17 = .ok (.istore_n 1, 1) := by decide +kernel
theorem dX9_ended_18 : decode cX9_ended 18 = .ok (.iload_n 1, 1) := by decide +kernel
theorem dX9_ended_19 : decode cX9_ended 19 = .ok (.bipush 20, 2) := by decide +kernel
theorem dX9_ended_21 : decode cX9_ended 21 = .ok (.if_icmp .ge 29, 3) := by decide +kernel
theorem dX9_ended_24 : decode cX9_ended 24 = .ok (.aload_n 0, 1) := by decide +kernel
theorem dX9_ended_25 : decode cX9_ended 25 = .ok (.getfield 95, 3) := by decide +kernel
theorem dX9_ended_28 : decode cX9_ended 28 = .ok (.bipush 20, 2) := by decide +kernel
theorem dX9_ended_30 : decode cX9_ended 30 = .ok (.aload_n 0, 1) := by decide +kernel
theorem dX9_ended_31 : decode cX9_ended 31 = .ok (.getfield 320, 3) := by decide +kernel
theorem dX9_ended_34 : decode cX9_ended 34 = .ok (.imul, 1) := by decide +kernel
theorem dX9_ended_35 : decode cX9_ended 35 = .ok (.iload_n 1, 1) := by decide +kernel
theorem dX9_ended_36 : decode cX9_ended 36 = .ok (.iadd, 1) := by decide +kernel
theorem dX9_ended_37 : decode cX9_ended 37 = .ok (.aload_n 0, 1) := by decide +kernel
theorem dX9_ended_38 : decode cX9_ended 38 = .ok (.getfield 92, 3) := by decide +kernel
theorem dX9_ended_41 : decode cX9_ended 41 = .ok (.iload_n 1, 1) := by decide +kernel
theorem dX9_ended_42 : decode cX9_ended 42 = .ok (.iaload, 1) := by decide +kernel
theorem dX9_ended_43 : decode cX9_ended 43 = .ok (.iastore, 1) := by decide +kernel
theorem dX9_ended_44 : decode cX9_ended 44 = .ok (.iinc 1 1, 3) := by decide +kernel
theorem dX9_ended_47 : decode cX9_ended 47 = .ok (.goto (-29), 3) := by decide +kernel
theorem dX9_ended_50 : decode cX9_ended 50 = .ok (.aload_n 0, 1) := by decide +kernel
theorem dX9_ended_51 : decode cX9_ended 51 = .ok (.getfield 98, 3) := by decide +kernel
theorem dX9_ended_54 : decode cX9_ended 54 = .ok (.aload_n 0, 1) := by decide +kernel
theorem dX9_ended_55 : decode cX9_ended 55 = .ok (.getfield 320, 3) := by decide +kernel
theorem dX9_ended_58 : decode cX9_ended 58 = .ok (.aload_n 0, 1) := by decide +kernel
theorem dX9_ended_59 : decode cX9_ended 59 = .ok (.getfield 317, 3) := by decide +kernel
theorem dX9_ended_62 : decode cX9_ended 62 = .ok (.iastore, 1) := by decide +kernel
theorem dX9_ended_63 : decode cX9_ended 63 = .ok (.aload_n 0, 1) := by decide +kernel
theorem dX9_ended_64 : decode cX9_ended 64 = .ok (.dup, 1) := by decide +kernel
theorem dX9_ended_65 : decode cX9_ended 65 = .ok (.getfield 320, 3) := by decide +kernel
theorem dX9_ended_68 : decode cX9_ended 68 = .ok (.iconst 1, 1) := by decide +kernel
theorem dX9_ended_69 : decode cX9_ended 69 = .ok (.iadd, 1) := by decide +kernel
theorem dX9_ended_70 : decode cX9_ended 70 = .ok (.putfield 320, 3) := by decide +kernel
theorem dX9_ended_73 : decode cX9_ended 73 = .ok (.aload_n 0, 1) := by decide +kernel
theorem dX9_ended_74 : decode cX9_ended 74 = .ok (.iconst 0, 1) := by decide +kernel
theorem dX9_ended_75 : decode cX9_ended 75 = .ok (.putfield 317, 3) := by decide +kernel
theorem dX9_ended_78 : decode cX9_ended 78 = .ok (.aload_n 0, 1) := by decide +kernel
theorem dX9_ended_79 : decode cX9_ended 79 = .ok (.getfield 320, 3) := by decide +kernel
theorem dX9_ended_82 : decode cX9_ended 82 = .ok (.ireturn, 1) := by decide +kernel
theorem dX9_guess_0 : decode cX9_guess 0 = .ok (.aload_n 0, 1) := by decide +kernel
theorem dX9_guess_1 : decode cX9_guess 1 = .ok (.iconst 0, 1) := by decide +kernel
theorem dX9_guess_2 : decode cX9_guess 2 = .ok (.putfield 170, 3) := by decide +kernel
theorem dX9_guess_5 : decode cX9_guess 5 = .ok (.aload_n 0, 1) := by decide +kernel
theorem dX9_guess_6 : decode cX9_guess 6 = .ok (.iload_n 1, 1) := by decide +kernel
theorem dX9_guess_7 : decode cX9_guess 7 = .ok (.iconst 0, 1) := by decide +kernel
theorem dX9_guess_8 : decode cX9_guess 8 = .ok (.iconst 3, 1) := by decide +kernel
theorem dX9_guess_9 : decode cX9_guess 9 = .ok (.invokestatic 336, 3) := by decide +kernel
theorem dX9_guess_12 : decode cX9_guess 12 = .ok (.iconst 1, 1) := by decide +kernel
theorem dX9_guess_13 : decode cX9_guess 13 = .ok (.invokevirtual 291, 3) := by decide +kernel
theorem dX9_guess_16 : decode cX9_guess 16 = .ok (.ifCond .eq 11, 3) := by decide +kernel
theorem dX9_guess_19 : decode cX9_guess 19 = .ok (.aload_n 0, 1) := by decide +kernel
theorem dX9_guess_20 : decode cX9_guess 20 = .ok (.iload_n 2, 1) := by decide +kernel
theorem dX9_guess_21 : decode cX9_guess 21 = .ok (.invokevirtual 339, 3) := by decide +kernel
theorem dX9_guess_24 : decode cX9_guess 24 = .ok (.ifCond .ne 5, 3) := by decide +kernel
theorem dX9_guess_27 : decode cX9_guess 27 = .ok (.iconst 0, 1) := by decide +kernel
theorem dX9_guess_28 : decode cX9_guess 28 = .ok (.ireturn, 1) := by decide +kernel
theorem dX9_guess_29 : decode cX9_guess 29 = .ok (.iload_n 3, 1) := by decide +kernel
theorem dX9_guess_30 : decode cX9_guess 30 = .ok (.iconst 0, 1) := by decide +kernel
theorem dX9_guess_31 : decode cX9_guess 31 = .ok (.iconst 3, 1) := by decide +kernel
theorem dX9_guess_32 : decode cX9_guess 32 = .ok (.invokestatic 336, 3) := by decide +kernel
theorem dX9_guess_35 : decode cX9_guess 35 = .ok (.ifCond .eq 31, 3) := by decide +kernel
theorem dX9_guess_38 : decode cX9_guess 38 = .ok (.iload_n 3, 1) := by decide +kernel
theorem dX9_guess_39 : decode cX9_guess 39 = .ok (.iconst 1, 1) := by decide +kernel
theorem dX9_guess_40 : decode cX9_guess 40 = .ok (.if_icmp .eq 28, 3) := by decide +kernel
theorem dX9_guess_43 : decode cX9_guess 43 = .ok (.iload 4, 2) := by decide +kernel
theorem dX9_guess_45 : decode cX9_guess 45 = .ok (.iconst 0, 1) := by decide +kernel
theorem dX9_guess_46 : decode cX9_guess 46 = .ok (.iload_n 3, 1) := by decide +kernel
theorem dX9_guess_47 : decode cX9_guess 47 = .ok (.iconst 2, 1) := by decide +kernel
theorem dX9_guess_48 : decode cX9_guess 48 = .ok (.if_icmp .ne 9, 3) := by decide +kernel
theorem dX9_guess_51 : decode cX9_guess 51 = .ok (.sipush 1000, 3) := by decide +kernel
theorem dX9_guess_54 : decode cX9_guess 54 = .ok (.goto 6, 3) := by decide +kernel
theorem dX9_guess_57 : decode cX9_guess 57 = .ok (.sipush 9999, 3) := by decide +kernel
theorem dX9_guess_60 : decode cX9_guess 60 = .ok (.invokestatic 336, 3) := by decide +kernel
theorem dX9_guess_63 : decode cX9_guess 63 = .ok (.ifCond .ne 5, 3) := by decide +kernel
theorem dX9_guess_66 : decode cX9_guess 66 = .ok (.iconst 0, 1) := by decide +kernel
theorem dX9_guess_67 : decode cX9_guess 67 = .ok (.ireturn, 1) := by decide +kernel
theorem dX9_guess_68 : decode cX9_guess 68 = .ok (.aload_n 0, 1) := by decide +kernel
theorem dX9_guess_69 : decode cX9_guess 69 = .ok (.getfield 104, 3) := by decide +kernel
theorem dX9_guess_72 : decode cX9_guess 72 = .ok (.bipush 8, 2) := by decide +kernel
theorem dX9_guess_74 : decode cX9_guess 74 = .ok (.iload_n 1, 1) := by decide +kernel
theorem dX9_guess_75 : decode cX9_guess 75 = .ok (.imul, 1) := by decide +kernel
theorem dX9_guess_76 : decode cX9_guess 76 = .ok (.iload_n 2, 1) := by decide +kernel
theorem dX9_guess_77 : decode cX9_guess 77 = .ok (.iadd, 1) := by decide +kernel
theorem dX9_guess_78 : decode cX9_guess 78 = .ok (.iload_n 3, 1) := by decide +kernel
theorem dX9_guess_79 : decode cX9_guess 79 = .ok (.iastore, 1) := by decide +kernel
theorem dX9_guess_80 : decode cX9_guess 80 = .ok (.aload_n 0, 1) := by decide +kernel
theorem dX9_guess_81 : decode cX9_guess 81 = .ok (.getfield 107, 3) := by decide +kernel
theorem dX9_guess_84 : decode cX9_guess 84 = .ok (.bipush 8, 2) := by decide +kernel
theorem dX9_guess_86 : decode cX9_guess 86 = .ok (.iload_n 1, 1) := by decide +kernel
theorem dX9_guess_87 : decode cX9_guess 87 = .ok (.imul, 1) := by decide +kernel
theorem dX9_guess_88 : decode cX9_guess 88 = .ok (.iload_n 2, 1) := by decide +kernel
theorem dX9_guess_89 : decode cX9_guess 89 = .ok (.iadd, 1) := by decide +kernel
theorem dX9_guess_90 : decode cX9_guess 90 = .ok (.iload_n 3, 1) := by decide +kernel
theorem dX9_guess_91 : decode cX9_guess 91 = .ok (.iconst 1, 1) := by decide +kernel
theorem dX9_guess_92 : decode cX9_guess 92 = .ok (.if_icmp .ne 7, 3) := by decide +kernel
theorem dX9_guess_95 : decode cX9_guess 95 = .ok (.iconst 0, 1) := by decide +kernel
theorem dX9_guess_96 : decode cX9_guess 96 = .ok (.goto 5, 3) := by decide +kernel
theorem dX9_guess_99 : decode cX9_guess 99 = .ok (.iload 4, 2) := by decide +kernel
theorem dX9_guess_101 : decode cX9_guess 101 = .ok (.iastore, 1) := by decide +kernel
theorem dX9_guess_102 : decode cX9_guess 102 = .ok (.iconst 1, 1) := by decide +kernel
theorem dX9_guess_103 : decode cX9_guess 103 = .ok (.ireturn, 1) := by decide +kernel
theorem dX9_isTold_0 : decode cX9_isTold 0 = .ok (.iconst 0, 1) := by decide +kernel
theorem dX9_isTold_1 : decode cX9_isTold 1 = .ok (.istore_n 2, 1) := by decide +kernel
theorem dX9_isTold_2 : decode cX9_isTold 2 = .ok (.iconst 0, 1) := by decide +kernel
theorem dX9_isTold_3 : decode cX9_isTold 3 = .ok (.istore_n 3, 1) := by decide +kernel
theorem dX9_isTold_4 : decode cX9_isTold 4 = .ok (.iload_n 3, 1) := by decide +kernel
theorem dX9_isTold_5 : decode cX9_isTold 5 = .ok (.bipush 8, 2) := by decide +kernel
theorem dX9_isTold_7 : decode cX9_isTold 7 = .ok (.if_icmp .ge 34, 3) := by decide +kernel
theorem dX9_isTold_10 : decode cX9_isTold 10 = .ok (.iload_n 2, 1) := by decide +kernel
theorem dX9_isTold_11 : decode cX9_isTold 11 = .ok (.ifCond .ne 18, 3) := by decide +kernel
theorem dX9_isTold_14 : decode cX9_isTold 14 = .ok (.aload_n 0, 1) := by decide +kernel
theorem dX9_isTold_15 : decode cX9_isTold 15 = .ok (.getfield 104, 3) := by decide +kernel
theorem dX9_isTold_18 : decode cX9_isTold 18 = .ok (.bipush 8, 2) := by decide +kernel
theorem dX9_isTold_20 : decode cX9_isTold 20 = .ok (.iload_n 1, 1) := by decide +kernel
theorem dX9_isTold_21 : decode cX9_isTold 21 = .ok (.imul, 1) := by decide +kernel
theorem dX9_isTold_22 : decode cX9_isTold 22 = .ok (.iload_n 3, 1) := by decide +kernel
theorem dX9_isTold_23 : decode cX9_isTold 23 = .ok (.iadd, 1) := by decide +kernel
theorem dX9_isTold_24 : decode cX9_isTold 24 = .ok (.iaload, 1) := by decide +kernel
theorem dX9_isTold_25 : decode cX9_isTold 25 = .ok (.iconst (-1), 1) := by decide +kernel
theorem dX9_isTold_26 : decode cX9_isTold 26 = .ok (.if_icmp .eq 7, 3) := by decide +kernel
theorem dX9_isTold_29 : decode cX9_isTold 29 = .ok (.iconst 1, 1) := by decide +kernel
theorem dX9_isTold_30 : decode cX9_isTold 30 = .ok (.goto 4, 3) := by decide +kernel
theorem dX9_isTold_33 : decode cX9_isTold 33 = .ok (.iconst 0, 1) := by decide +kernel
theorem dX9_isTold_34 : decode cX9_isTold 34 = .ok (.istore_n 2, 1) := by decide +kernel
theorem dX9_isTold_35 : decode cX9_isTold 35 = .ok (.iinc 3 1, 3) := by decide +kernel
theorem dX9_isTold_38 : decode cX9_isTold 38 = .ok (.goto (-34), 3) := by decide +kernel
theorem dX9_isTold_41 : decode cX9_isTold 41 = .ok (.iload_n 2, 1) := by decide +kernel
theorem dX9_isTold_42 : decode cX9_isTold 42 = .ok (.ireturn, 1) := by decide +kernel
theorem dX9_credit_0 : decode cX9_credit 0 = .ok (.aload_n 0, 1) := by decide +kernel
theorem dX9_credit_1 : decode cX9_credit 1 = .ok (.iconst 0, 1) := by decide +kernel
theorem dX9_credit_2 : decode cX9_credit 2 = .ok (.putfield 170, 3) := by decide +kernel
theorem dX9_credit_5 : decode cX9_credit 5 = .ok (.aload_n 0, 1) := by decide +kernel
theorem dX9_credit_6 : decode cX9_credit 6 = .ok (.iload_n 1, 1) := by decide +kernel
theorem dX9_credit_7 : decode cX9_credit 7 = .ok (.iconst 0, 1) := by decide +kernel
theorem dX9_credit_8 : decode cX9_credit 8 = .ok (.iconst 3, 1) := by decide +kernel
theorem dX9_credit_9 : decode cX9_credit 9 = .ok (.invokestatic 336, 3) := by decide +kernel
theorem dX9_credit_12 : decode cX9_credit 12 = .ok (.iconst 1, 1) := by decide +kernel
theorem dX9_credit_13 : decode cX9_credit 13 = .ok (.invokevirtual 291, 3) := by decide +kernel
theorem dX9_credit_16 : decode cX9_credit 16 = .ok (.ifCond .ne 5, 3) := by decide +kernel
theorem dX9_credit_19 : decode cX9_credit 19 = .ok (.iconst 0, 1) := by decide +kernel
theorem dX9_credit_20 : decode cX9_credit 20 = .ok (.ireturn, 1) := by decide +kernel
theorem dX9_credit_21 : decode cX9_credit 21 = .ok (.aload_n 0, 1) := by decide +kernel
theorem dX9_credit_22 : decode cX9_credit 22 = .ok (.iload_n 1, 1) := by decide +kernel
theorem dX9_credit_23 : decode cX9_credit 23 = .ok (.invokevirtual 454, 3) := by decide +kernel
theorem dX9_credit_26 : decode cX9_credit 26 = .ok (.ifCond .ne 5, 3) := by decide +kernel
theorem dX9_credit_29 : decode cX9_credit 29 = .ok (.iconst (-1), 1) := by decide +kernel
theorem dX9_credit_30 : decode cX9_credit 30 = .ok (.ireturn, 1) := by decide +kernel
theorem dX9_credit_31 : decode cX9_credit 31 = .ok (.aload_n 0, 1) := by decide +kernel
theorem dX9_credit_32 : decode cX9_credit 32 = .ok (.invokevirtual 413, 3) := by decide +kernel
theorem dX9_credit_35 : decode cX9_credit 35 = .ok (.aload_n 0, 1) := by decide +kernel
theorem dX9_credit_36 : decode cX9_credit 36 = .ok (.aload_n 0, 1) := by decide +kernel
theorem dX9_credit_37 : decode cX9_credit 37 = .ok (.aload_n 0, 1) := by decide +kernel
theorem dX9_credit_38 : decode cX9_credit 38 = .ok (.getfield 301, 3) := by decide +kernel
theorem dX9_credit_41 : decode cX9_credit 41 = .ok (.invokevirtual 403, 3) := by decide +kernel
theorem dX9_credit_44 : decode cX9_credit 44 = .ok (.iconst 2, 1) := by decide +kernel
theorem dX9_credit_45 : decode cX9_credit 45 = .ok (.invokevirtual 291, 3) := by decide +kernel
theorem dX9_credit_48 : decode cX9_credit 48 = .ok (.ifCond .ne 5, 3) := by decide +kernel
theorem dX9_credit_51 : decode cX9_credit 51 = .ok (.iconst 0, 1) := by decide +kernel
theorem dX9_credit_52 : decode cX9_credit 52 = .ok (.ireturn, 1) := by decide +kernel
theorem dX9_credit_53 : decode cX9_credit 53 = .ok (.iconst 0, 1) := by decide +kernel
theorem dX9_credit_54 : decode cX9_credit 54 = .ok (.istore_n 2, 1) := by decide +kernel
theorem dX9_credit_55 : decode cX9_credit 55 = .ok (.iconst 0, 1) := by decide +kernel
theorem dX9_credit_56 : decode cX9_credit 56 = .ok (.istore_n 3, 1) := by decide +kernel
theorem dX9_credit_57 : decode cX9_credit 57 = .ok (.iload_n 3, 1) := by decide +kernel
theorem dX9_credit_58 : decode cX9_credit 58 = .ok (.iconst 4, 1) := by decide +kernel
theorem dX9_credit_59 : decode cX9_credit 59 = .ok (.if_icmp .ge 25, 3) := by decide +kernel
theorem dX9_credit_62 : decode cX9_credit 62 = .ok (.iload_n 2, 1) := by decide +kernel
theorem dX9_credit_63 : decode cX9_credit 63 = .ok (.aload_n 0, 1) := by decide +kernel
theorem dX9_credit_64 : decode cX9_credit 64 = .ok (.iload_n 3, 1) := by decide +kernel
theorem dX9_credit_65 : decode cX9_credit 65 = .ok (.invokevirtual 454, 3) := by decide +kernel
theorem dX9_credit_68 : decode cX9_credit 68 = .ok (.ifCond .eq 7, 3) := by decide +kernel
theorem dX9_credit_71 : decode cX9_credit 71 = .ok (.iconst 1, 1) := by decide +kernel
theorem dX9_credit_72 : decode cX9_credit 72 = .ok (.goto 4, 3) := by decide +kernel
theorem dX9_credit_75 : decode cX9_credit 75 = .ok (.iconst 0, 1) := by decide +kernel
theorem dX9_credit_76 : decode cX9_credit 76 = .ok (.iadd, 1) := by decide +kernel
theorem dX9_credit_77 : decode cX9_credit 77 = .ok (.istore_n 2, 1) := by decide +kernel
theorem dX9_credit_78 : decode cX9_credit 78 = .ok (.iinc 3 1, 3) := by decide +kernel
theorem dX9_credit_81 : decode cX9_credit 81 = .ok (.goto (-24), 3) := by decide +kernel
theorem dX9_credit_84 : decode cX9_credit 84 = .ok (.iconst 0, 1) := by decide +kernel
theorem dX9_credit_85 : decode cX9_credit 85 = .ok (.istore_n 3, 1) := by decide +kernel
theorem dX9_credit_86 : decode cX9_credit 86 = .ok (.iload_n 3, 1) := by decide +kernel
theorem dX9_credit_87 : decode cX9_credit 87 = .ok (.iconst 4, 1) := by decide +kernel
theorem dX9_credit_88 : decode cX9_credit 88 = .ok (.if_icmp .ge 259, 3) := by decide +kernel
theorem dX9_credit_91 : decode cX9_credit 91 = .ok (.aload_n 0, 1) := by decide +kernel
theorem dX9_credit_92 : decode cX9_credit 92 = .ok (.getfield 110, 3) := by decide +kernel
theorem dX9_credit_95 : decode cX9_credit 95 = .ok (.iload_n 3, 1) := by decide +kernel
theorem dX9_credit_96 : decode cX9_credit 96 = .ok (.aload_n 0, 1) := by decide +kernel
theorem dX9_credit_97 : decode cX9_credit 97 = .ok (.iload_n 3, 1) := by decide +kernel
theorem dX9_credit_98 : decode cX9_credit 98 = .ok (.invokevirtual 454, 3) := by decide +kernel
theorem dX9_credit_101 : decode cX9_credit 101 = .ok (.ifCond .eq 12, 3) := by decide +kernel
theorem dX9_credit_104 : decode cX9_credit 104 = .ok (.ldc2_w 457, 3) := by decide +kernel
theorem dX9_credit_107 : decode cX9_credit 107 = .ok (.iload_n 2, 1) := by decide +kernel
theorem dX9_credit_108 : decode cX9_credit 108 = .ok (.i2l, 1) := by decide +kernel
theorem dX9_credit_109 : decode cX9_credit 109 = .ok (.ldiv, 1) := by decide +kernel
theorem dX9_credit_110 : decode cX9_credit 110 = .ok (.goto 4, 3) := by decide +kernel
theorem dX9_credit_113 : decode cX9_credit 113 = .ok (.lconst 0, 1) := by decide +kernel
theorem dX9_credit_114 : decode cX9_credit 114 = .ok (.lastore, 1) := by decide +kernel
theorem dX9_credit_115 : decode cX9_credit 115 = .ok (.aload_n 0, 1) := by decide +kernel
theorem dX9_credit_116 : decode cX9_credit 116 = .ok (.iload_n 3, 1) := by decide +kernel
theorem dX9_credit_117 : decode cX9_credit 117 = .ok (.invokevirtual 454, 3) := by decide +kernel
theorem dX9_credit_120 : decode cX9_credit 120 = .ok (.ifCond .ne 6, 3) := by decide +kernel
theorem dX9_credit_123 : decode cX9_credit 123 = .ok (.goto 218, 3) := by decide +kernel
theorem dX9_credit_126 : decode cX9_credit 126 = .ok (.iconst 0, 1) := by decide +kernel
theorem dX9_credit_127 : decode cX9_credit 127 = .ok (.istore 4, 2) := by decide +kernel
theorem dX9_credit_129 : decode cX9_credit 129 = .ok (.iload 4, 2) := by decide +kernel
theorem dX9_credit_131 : decode cX9_credit 131 = .ok (.aload_n 0, 1) := by decide +kernel
theorem dX9_credit_132 : decode cX9_credit 132 = .ok (.getfield 298, 3) := by decide +kernel
theorem dX9_credit_135 : decode cX9_credit 135 = .ok (.if_icmp .ge 100, 3) := by decide +kernel
theorem dX9_credit_138 : decode cX9_credit 138 = .ok (.aload_n 0, 1) := by decide +kernel
theorem dX9_credit_139 : decode cX9_credit 139 = .ok (.getfield 104, 3) := by decide +kernel
theorem dX9_credit_142 : decode cX9_credit 142 = .ok (.bipush 8, 2) := by decide +kernel
theorem dX9_credit_144 : decode cX9_credit 144 = .ok (.iload_n 3, 1) := by decide +kernel
theorem dX9_credit_145 : decode cX9_credit 145 = .ok (.imul, 1) := by decide +kernel
theorem dX9_credit_146 : decode cX9_credit 146 = .ok (.iload 4, 2) := by decide +kernel
theorem dX9_credit_148 : decode cX9_credit 148 = .ok (.iadd, 1) := by decide +kernel
theorem dX9_credit_149 : decode cX9_credit 149 = .ok (.iaload, 1) := by decide +kernel
theorem dX9_credit_150 : decode cX9_credit 150 = .ok (.iconst (-1), 1) := by decide +kernel
theorem dX9_credit_151 : decode cX9_credit 151 = .ok (.if_icmp .eq 7, 3) := by decide +kernel
theorem dX9_credit_154 : decode cX9_credit 154 = .ok (.iconst 1, 1) := by decide +kernel
theorem dX9_credit_155 : decode cX9_credit 155 = .ok (.goto 4, 3) := by decide +kernel
theorem dX9_credit_158 : decode cX9_credit 158 = .ok (.iconst 0, 1) := by decide +kernel
theorem dX9_credit_159 : decode cX9_credit 159 = .ok (.istore 5, 2) := by decide +kernel
theorem dX9_credit_161 : decode cX9_credit 161 = .ok (.aload_n 0, 1) := by decide +kernel
theorem dX9_credit_162 : decode cX9_credit 162 = .ok (.getfield 70, 3) := by decide +kernel
theorem dX9_credit_165 : decode cX9_credit 165 = .ok (.iload 4, 2) := by decide +kernel
theorem dX9_credit_167 : decode cX9_credit 167 = .ok (.iload 5, 2) := by decide +kernel
theorem dX9_credit_169 : decode cX9_credit 169 = .ok (.ifCond .eq 18, 3) := by decide +kernel
theorem dX9_credit_172 : decode cX9_credit 172 = .ok (.aload_n 0, 1) := by decide +kernel
theorem dX9_credit_173 : decode cX9_credit 173 = .ok (.getfield 104, 3) := by decide +kernel
theorem dX9_credit_176 : decode cX9_credit 176 = .ok (.bipush 8, 2) := by decide +kernel
theorem dX9_credit_178 : decode cX9_credit 178 = .ok (.iload_n 3, 1) := by decide +kernel
theorem dX9_credit_179 : decode cX9_credit 179 = .ok (.imul, 1) := by decide +kernel
theorem dX9_credit_180 : decode cX9_credit 180 = .ok (.iload 4, 2) := by decide +kernel
theorem dX9_credit_182 : decode cX9_credit 182 = .ok (.iadd, 1) := by decide +kernel
theorem dX9_credit_183 : decode cX9_credit 183 = .ok (.iaload, 1) := by decide +kernel
theorem dX9_credit_184 : decode cX9_credit 184 = .ok (.goto 10, 3) := by decide +kernel
theorem dX9_credit_187 : decode cX9_credit 187 = .ok (.aload_n 0, 1) := by decide +kernel
theorem dX9_credit_188 : decode cX9_credit 188 = .ok (.getfield 22, 3) := by decide +kernel
theorem dX9_credit_191 : decode cX9_credit 191 = .ok (.iload 4, 2) := by decide +kernel
theorem dX9_credit_193 : decode cX9_credit 193 = .ok (.iaload, 1) := by decide +kernel
theorem dX9_credit_194 : decode cX9_credit 194 = .ok (.iastore, 1) := by decide +kernel
theorem dX9_credit_195 : decode cX9_credit 195 = .ok (.aload_n 0, 1) := by decide +kernel
theorem dX9_credit_196 : decode cX9_credit 196 = .ok (.getfield 73, 3) := by decide +kernel
theorem dX9_credit_199 : decode cX9_credit 199 = .ok (.iload 4, 2) := by decide +kernel
theorem dX9_credit_201 : decode cX9_credit 201 = .ok (.iload 5, 2) := by decide +kernel
theorem dX9_credit_203 : decode cX9_credit 203 = .ok (.ifCond .eq 18, 3) := by decide +kernel
theorem dX9_credit_206 : decode cX9_credit 206 = .ok (.aload_n 0, 1) := by decide +kernel
theorem dX9_credit_207 : decode cX9_credit 207 = .ok (.getfield 107, 3) := by decide +kernel
theorem dX9_credit_210 : decode cX9_credit 210 = .ok (.bipush 8, 2) := by decide +kernel
theorem dX9_credit_212 : decode cX9_credit 212 = .ok (.iload_n 3, 1) := by decide +kernel
theorem dX9_credit_213 : decode cX9_credit 213 = .ok (.imul, 1) := by decide +kernel
theorem dX9_credit_214 : decode cX9_credit 214 = .ok (.iload 4, 2) := by decide +kernel
theorem dX9_credit_216 : decode cX9_credit 216 = .ok (.iadd, 1) := by decide +kernel
theorem dX9_credit_217 : decode cX9_credit 217 = .ok (.iaload, 1) := by decide +kernel
theorem dX9_credit_218 : decode cX9_credit 218 = .ok (.goto 10, 3) := by decide +kernel
theorem dX9_credit_221 : decode cX9_credit 221 = .ok (.aload_n 0, 1) := by decide +kernel
theorem dX9_credit_222 : decode cX9_credit 222 = .ok (.getfield 26, 3) := by decide +kernel
theorem dX9_credit_225 : decode cX9_credit 225 = .ok (.iload 4, 2) := by decide +kernel
theorem dX9_credit_227 : decode cX9_credit 227 = .ok (.iaload, 1) := by decide +kernel
theorem dX9_credit_228 : decode cX9_credit 228 = .ok (.iastore, 1) := by decide +kernel
theorem dX9_credit_229 : decode cX9_credit 229 = .ok (.iinc 4 1, 3) := by decide +kernel
theorem dX9_credit_232 : decode cX9_credit 232 = .ok (.goto (-103), 3) := by decide +kernel
theorem dX9_credit_235 : decode cX9_credit 235 = .ok (.aload_n 0, 1) := by decide +kernel
theorem dX9_credit_236 : decode cX9_credit 236 = .ok (.getfield 354, 3) := by decide +kernel
theorem dX9_credit_239 : decode cX9_credit 239 = .ok (.iconst 1, 1) := by decide +kernel
theorem dX9_credit_240 : decode cX9_credit 240 = .ok (.isub, 1) := by decide +kernel
theorem dX9_credit_241 : decode cX9_credit 241 = .ok (.istore 4, 2) := by decide +kernel
theorem dX9_credit_243 : decode cX9_credit 243 = .ok (.iload 4, 2) := by decide +kernel
theorem dX9_credit_245 : decode cX9_credit 245 = .ok (.ifCond .lt 15, 3) := by decide +kernel
theorem dX9_credit_248 : decode cX9_credit 248 = .ok (.aload_n 0, 1) := by decide +kernel
theorem dX9_credit_249 : decode cX9_credit 249 = .ok (.iload 4, 2) := by decide +kernel
theorem dX9_credit_251 : decode cX9_credit 251 = .ok (.invokevirtual 406, 3) := by decide +kernel
theorem dX9_credit_254 : decode cX9_credit 254 = .ok (.iinc 4 (-1), 3) := by decide +kernel
theorem dX9_credit_257 : decode cX9_credit 257 = .ok (.goto (-14), 3) := by decide +kernel
theorem dX9_credit_260 : decode cX9_credit 260 = .ok (.iconst 0, 1) := by decide +kernel
theorem dX9_credit_261 : decode cX9_credit 261 = .ok (.istore 4, 2) := by decide +kernel
theorem dX9_credit_263 : decode cX9_credit 263 = .ok (.iload 4, 2) := by decide +kernel
theorem dX9_credit_265 : decode cX9_credit 265 = .ok (.aload_n 0, 1) := by decide +kernel
theorem dX9_credit_266 : decode cX9_credit 266 = .ok (.getfield 320, 3) := by decide +kernel
theorem dX9_credit_269 : decode cX9_credit 269 = .ok (.if_icmp .ge 72, 3) := by decide +kernel
theorem dX9_credit_272 : decode cX9_credit 272 = .ok (.aload_n 0, 1) := by decide +kernel
theorem dX9_credit_273 : decode cX9_credit 273 = .ok (.aload_n 0, 1) := by decide +kernel
theorem dX9_credit_274 : decode cX9_credit 274 = .ok (.getfield 98, 3) := by decide +kernel
theorem dX9_credit_277 : decode cX9_credit 277 = .ok (.iload 4, 2) := by decide +kernel
theorem dX9_credit_279 : decode cX9_credit 279 = .ok (.iaload, 1) := by decide +kernel
theorem dX9_credit_280 : decode cX9_credit 280 = .ok (.putfield 435, 3) := by decide +kernel
theorem dX9_credit_283 : decode cX9_credit 283 = .ok (.iconst 0, 1) := by decide +kernel
theorem dX9_credit_284 : decode cX9_credit 284 = .ok (.istore 5, 2) := by decide +kernel
theorem dX9_credit_286 : decode cX9_credit 286 = .ok (.iload 5, 2) := by decide +kernel
theorem dX9_credit_288 : decode cX9_credit 288 = .ok (.bipush 20, 2) := by decide +kernel
theorem dX9_credit_290 : decode cX9_credit 290 = .ok (.if_icmp .ge 29, 3) := by decide +kernel
theorem dX9_credit_293 : decode cX9_credit 293 = .ok (.aload_n 0, 1) := by decide +kernel
theorem dX9_credit_294 : decode cX9_credit 294 = .ok (.getfield 101, 3) := by decide +kernel
theorem dX9_credit_297 : decode cX9_credit 297 = .ok (.iload 5, 2) := by decide +kernel
theorem dX9_credit_299 : decode cX9_credit 299 = .ok (.aload_n 0, 1) := by decide +kernel
theorem dX9_credit_300 : decode cX9_credit 300 = .ok (.getfield 95, 3) := by decide +kernel
theorem dX9_credit_303 : decode cX9_credit 303 = .ok (.bipush 20, 2) := by decide +kernel
theorem dX9_credit_305 : decode cX9_credit 305 = .ok (.iload 4, 2) := by decide +kernel
theorem dX9_credit_307 : decode cX9_credit 307 = .ok (.imul, 1) := by decide +kernel
theorem dX9_credit_308 : decode cX9_credit 308 = .ok (.iload 5, 2) := by decide +kernel
theorem dX9_credit_310 : decode cX9_credit 310 = .ok (.iadd, 1) := by decide +kernel
theorem dX9_credit_311 : decode cX9_credit 311 = .ok (.iaload, 1) := by decide +kernel
theorem dX9_credit_312 : decode cX9_credit 312 = .ok (.iastore, 1) := by decide +kernel
theorem dX9_credit_313 : decode cX9_credit 313 = .ok (.iinc 5 1, 3) := by decide +kernel
theorem dX9_credit_316 : decode cX9_credit 316 = .ok (.goto (-30), 3) := by decide +kernel
theorem dX9_credit_319 : decode cX9_credit 319 = .ok (.aload_n 0, 1) := by decide +kernel
theorem dX9_credit_320 : decode cX9_credit 320 = .ok (.getfield 113, 3) := by decide +kernel
theorem dX9_credit_323 : decode cX9_credit 323 = .ok (.bipush 20, 2) := by decide +kernel
theorem dX9_credit_325 : decode cX9_credit 325 = .ok (.iload_n 3, 1) := by decide +kernel
theorem dX9_credit_326 : decode cX9_credit 326 = .ok (.imul, 1) := by decide +kernel
theorem dX9_credit_327 : decode cX9_credit 327 = .ok (.iload 4, 2) := by decide +kernel
theorem dX9_credit_329 : decode cX9_credit 329 = .ok (.iadd, 1) := by decide +kernel
theorem dX9_credit_330 : decode cX9_credit 330 = .ok (.aload_n 0, 1) := by decide +kernel
theorem dX9_credit_331 : decode cX9_credit 331 = .ok (.invokevirtual 451, 3) := by decide +kernel
theorem dX9_credit_334 : decode cX9_credit 334 = .ok (.lastore, 1) := by decide +kernel
theorem dX9_credit_335 : decode cX9_credit 335 = .ok (.iinc 4 1, 3) := by decide +kernel
theorem dX9_credit_338 : decode cX9_credit 338 = .ok (.goto (-75), 3) := by decide +kernel
theorem dX9_credit_341 : decode cX9_credit 341 = .ok (.iinc 3 1, 3) := by decide +kernel
theorem dX9_credit_344 : decode cX9_credit 344 = .ok (.goto (-258), 3) := by decide +kernel
theorem dX9_credit_347 : decode cX9_credit 347 = .ok (.iconst 0, 1) := by decide +kernel
theorem dX9_credit_348 : decode cX9_credit 348 = .ok (.istore_n 3, 1) := by decide +kernel
theorem dX9_credit_349 : decode cX9_credit 349 = .ok (.iload_n 3, 1) := by decide +kernel
theorem dX9_credit_350 : decode cX9_credit 350 = .ok (.aload_n 0, 1) := by decide +kernel
theorem dX9_credit_351 : decode cX9_credit 351 = .ok (.getfield 320, 3) := by decide +kernel
theorem dX9_credit_354 : decode cX9_credit 354 = .ok (.if_icmp .ge 136, 3) := by decide +kernel
theorem dX9_credit_357 : decode cX9_credit 357 = .ok (.lconst 0, 1) := by decide +kernel
theorem dX9_credit_358 : decode cX9_credit 358 = .ok (.lstore 4, 2) := by decide +kernel
theorem dX9_credit_360 : decode cX9_credit 360 = .ok (.iconst 0, 1) := by decide +kernel
theorem dX9_credit_361 : decode cX9_credit 361 = .ok (.istore 6, 2) := by decide +kernel
theorem dX9_credit_363 : decode cX9_credit 363 = .ok (.iload 6, 2) := by decide +kernel
theorem dX9_credit_365 : decode cX9_credit 365 = .ok (.iconst 4, 1) := by decide +kernel
theorem dX9_credit_366 : decode cX9_credit 366 = .ok (.if_icmp .ge 71, 3) := by decide +kernel
theorem dX9_credit_369 : decode cX9_credit 369 = .ok (.aload_n 0, 1) := by decide +kernel
theorem dX9_credit_370 : decode cX9_credit 370 = .ok (.getfield 113, 3) := by decide +kernel
theorem dX9_credit_373 : decode cX9_credit 373 = .ok (.bipush 20, 2) := by decide +kernel
theorem dX9_credit_375 : decode cX9_credit 375 = .ok (.iload 6, 2) := by decide +kernel
theorem dX9_credit_377 : decode cX9_credit 377 = .ok (.imul, 1) := by decide +kernel
theorem dX9_credit_378 : decode cX9_credit 378 = .ok (.iload_n 3, 1) := by decide +kernel
theorem dX9_credit_379 : decode cX9_credit 379 = .ok (.iadd, 1) := by decide +kernel
theorem dX9_credit_380 : decode cX9_credit 380 = .ok (.laload, 1) := by decide +kernel
theorem dX9_credit_381 : decode cX9_credit 381 = .ok (.ldc2_w 370, 3) := by decide +kernel
theorem dX9_credit_384 : decode cX9_credit 384 = .ok (.ldiv, 1) := by decide +kernel
theorem dX9_credit_385 : decode cX9_credit 385 = .ok (.lstore 7, 2) := by decide +kernel
theorem dX9_credit_387 : decode cX9_credit 387 = .ok (.aload_n 0, 1) := by decide +kernel
theorem dX9_credit_388 : decode cX9_credit 388 = .ok (.iload 6, 2) := by decide +kernel
theorem dX9_credit_390 : decode cX9_credit 390 = .ok (.invokevirtual 454, 3) := by decide +kernel
theorem dX9_credit_393 : decode cX9_credit 393 = .ok (.ifCond .eq 26, 3) := by decide +kernel
theorem dX9_credit_396 : decode cX9_credit 396 = .ok (.aload_n 0, 1) := by decide +kernel
theorem dX9_credit_397 : decode cX9_credit 397 = .ok (.getfield 110, 3) := by decide +kernel
theorem dX9_credit_400 : decode cX9_credit 400 = .ok (.iload 6, 2) := by decide +kernel
theorem dX9_credit_402 : decode cX9_credit 402 = .ok (.dup2, 1) := by decide +kernel
theorem dX9_credit_403 : decode cX9_credit 403 = .ok (.laload, 1) := by decide +kernel
theorem dX9_credit_404 : decode cX9_credit 404 = .ok (.lload 7, 2) := by decide +kernel
theorem dX9_credit_406 : decode cX9_credit 406 = .ok (.lconst 1, 1) := by decide +kernel
theorem dX9_credit_407 : decode cX9_credit 407 = .ok (.lcmp, 1) := by decide +kernel
theorem dX9_credit_408 : decode cX9_credit 408 = .ok (.ifCond .ge 7, 3) := by decide +kernel
theorem dX9_credit_411 : decode cX9_credit 411 = .ok (.lconst 1, 1) := by decide +kernel
theorem dX9_credit_412 : decode cX9_credit 412 = .ok (.goto 5, 3) := by decide +kernel
theorem dX9_credit_415 : decode cX9_credit 415 = .ok (.lload 7, 2) := by decide +kernel
theorem dX9_credit_417 : decode cX9_credit 417 = .ok (.lmul, 1) := by decide +kernel
theorem dX9_credit_418 : decode cX9_credit 418 = .ok (.lastore, 1) := by decide +kernel
theorem dX9_credit_419 : decode cX9_credit 419 = .ok (.lload 4, 2) := by decide +kernel
theorem dX9_credit_421 : decode cX9_credit 421 = .ok (.aload_n 0, 1) := by decide +kernel
theorem dX9_credit_422 : decode cX9_credit 422 = .ok (.getfield 110, 3) := by decide +kernel
theorem dX9_credit_425 : decode cX9_credit 425 = .ok (.iload 6, 2) := by decide +kernel
theorem dX9_credit_427 : decode cX9_credit 427 = .ok (.laload, 1) := by decide +kernel
theorem dX9_credit_428 : decode cX9_credit 428 = .ok (.ladd, 1) := by decide +kernel
theorem dX9_credit_429 : decode cX9_credit 429 = .ok (.lstore 4, 2) := by decide +kernel
theorem dX9_credit_431 : decode cX9_credit 431 = .ok (.iinc 6 1, 3) := by decide +kernel
theorem dX9_credit_434 : decode cX9_credit 434 = .ok (.goto (-71), 3) := by decide +kernel
theorem dX9_credit_437 : decode cX9_credit 437 = .ok (.iconst 0, 1) := by decide +kernel
theorem dX9_credit_438 : decode cX9_credit 438 = .ok (.istore 6, 2) := by decide +kernel
theorem dX9_credit_440 : decode cX9_credit 440 = .ok (.iload 6, 2) := by decide +kernel
theorem dX9_credit_442 : decode cX9_credit 442 = .ok (.iconst 4, 1) := by decide +kernel
theorem dX9_credit_443 : decode cX9_credit 443 = .ok (.if_icmp .ge 41, 3) := by decide +kernel
theorem dX9_credit_446 : decode cX9_credit 446 = .ok (.aload_n 0, 1) := by decide +kernel
theorem dX9_credit_447 : decode cX9_credit 447 = .ok (.getfield 110, 3) := by decide +kernel
theorem dX9_credit_450 : decode cX9_credit 450 = .ok (.iload 6, 2) := by decide +kernel
theorem dX9_credit_452 : decode cX9_credit 452 = .ok (.lload 4, 2) := by decide +kernel
theorem dX9_credit_454 : decode cX9_credit 454 = .ok (.lconst 0, 1) := by decide +kernel
theorem dX9_credit_455 : decode cX9_credit 455 = .ok (.lcmp, 1) := by decide +kernel
theorem dX9_credit_456 : decode cX9_credit 456 = .ok (.ifCond .ne 7, 3) := by decide +kernel
theorem dX9_credit_459 : decode cX9_credit 459 = .ok (.lconst 0, 1) := by decide +kernel
theorem dX9_credit_460 : decode cX9_credit 460 = .ok (.goto 17, 3) := by decide +kernel
theorem dX9_credit_463 : decode cX9_credit 463 = .ok (.aload_n 0, 1) := by decide +kernel
theorem dX9_credit_464 : decode cX9_credit 464 = .ok (.getfield 110, 3) := by decide +kernel
theorem dX9_credit_467 : decode cX9_credit 467 = .ok (.iload 6, 2) := by decide +kernel
theorem dX9_credit_469 : decode cX9_credit 469 = .ok (.laload, 1) := by decide +kernel
theorem dX9_credit_470 : decode cX9_credit 470 = .ok (.ldc2_w 457, 3) := by decide +kernel
theorem dX9_credit_473 : decode cX9_credit 473 = .ok (.lmul, 1) := by decide +kernel
theorem dX9_credit_474 : decode cX9_credit 474 = .ok (.lload 4, 2) := by decide +kernel
theorem dX9_credit_476 : decode cX9_credit 476 = .ok (.ldiv, 1) := by decide +kernel
theorem dX9_credit_477 : decode cX9_credit 477 = .ok (.lastore, 1) := by decide +kernel
theorem dX9_credit_478 : decode cX9_credit 478 = .ok (.iinc 6 1, 3) := by decide +kernel
theorem dX9_credit_481 : decode cX9_credit 481 = .ok (.goto (-41), 3) := by decide +kernel
theorem dX9_credit_484 : decode cX9_credit 484 = .ok (.iinc 3 1, 3) := by decide +kernel
theorem dX9_credit_487 : decode cX9_credit 487 = .ok (.goto (-138), 3) := by decide +kernel
theorem dX9_credit_490 : decode cX9_credit 490 = .ok (.aload_n 0, 1) := by decide +kernel
theorem dX9_credit_491 : decode cX9_credit 491 = .ok (.getfield 110, 3) := by decide +kernel
theorem dX9_credit_494 : decode cX9_credit 494 = .ok (.iload_n 1, 1) := by decide +kernel
theorem dX9_credit_495 : decode cX9_credit 495 = .ok (.laload, 1) := by decide +kernel
theorem dX9_credit_496 : decode cX9_credit 496 = .ok (.l2i, 1) := by decide +kernel
theorem dX9_credit_497 : decode cX9_credit 497 = .ok (.ireturn, 1) := by decide +kernel
theorem dX9_chain_0 : decode cX9_chain 0 = .ok (.aload_n 0, 1) := by decide +kernel
theorem dX9_chain_1 : decode cX9_chain 1 = .ok (.iconst 0, 1) := by decide +kernel
theorem dX9_chain_2 : decode cX9_chain 2 = .ok (.putfield 170, 3) := by decide +kernel
theorem dX9_chain_5 : decode cX9_chain 5 = .ok (.aload_n 0, 1) := by decide +kernel
theorem dX9_chain_6 : decode cX9_chain 6 = .ok (.iload_n 1, 1) := by decide +kernel
theorem dX9_chain_7 : decode cX9_chain 7 = .ok (.iconst 0, 1) := by decide +kernel
theorem dX9_chain_8 : decode cX9_chain 8 = .ok (.iconst 2, 1) := by decide +kernel
theorem dX9_chain_9 : decode cX9_chain 9 = .ok (.invokestatic 336, 3) := by decide +kernel
theorem dX9_chain_12 : decode cX9_chain 12 = .ok (.ifCond .eq 14, 3) := by decide +kernel
theorem dX9_chain_15 : decode cX9_chain 15 = .ok (.aload_n 0, 1) := by decide +kernel
theorem dX9_chain_16 : decode cX9_chain 16 = .ok (.getfield 298, 3) := by decide +kernel
theorem dX9_chain_19 : decode cX9_chain 19 = .ok (.ifCond .le 7, 3) := by decide +kernel
theorem dX9_chain_22 : decode cX9_chain 22 = .ok (.iconst 1, 1) := by decide +kernel
theorem dX9_chain_23 : decode cX9_chain 23 = .ok (.goto 4, 3) := by decide +kernel
theorem dX9_chain_26 : decode cX9_chain 26 = .ok (.iconst 0, 1) := by decide +kernel
theorem dX9_chain_27 : decode cX9_chain 27 = .ok (.iconst 1, 1) := by decide +kernel
theorem dX9_chain_28 : decode cX9_chain 28 = .ok (.invokevirtual 291, 3) := by decide +kernel
theorem dX9_chain_31 : decode cX9_chain 31 = .ok (.ifCond .ne 5, 3) := by decide +kernel
theorem dX9_chain_34 : decode cX9_chain 34 = .ok (.iconst 0, 1) := by decide +kernel
theorem dX9_chain_35 : decode cX9_chain 35 = .ok (.ireturn, 1) := by decide +kernel
theorem dX9_chain_36 : decode cX9_chain 36 = .ok (.aload_n 0, 1) := by decide +kernel
theorem dX9_chain_37 : decode cX9_chain 37 = .ok (.invokevirtual 413, 3) := by decide +kernel
theorem dX9_chain_40 : decode cX9_chain 40 = .ok (.aload_n 0, 1) := by decide +kernel
theorem dX9_chain_41 : decode cX9_chain 41 = .ok (.iload_n 1, 1) := by decide +kernel
theorem dX9_chain_42 : decode cX9_chain 42 = .ok (.putfield 342, 3) := by decide +kernel
theorem dX9_chain_45 : decode cX9_chain 45 = .ok (.aload_n 0, 1) := by decide +kernel
theorem dX9_chain_46 : decode cX9_chain 46 = .ok (.aload_n 0, 1) := by decide +kernel
theorem dX9_chain_47 : decode cX9_chain 47 = .ok (.aload_n 0, 1) := by decide +kernel
theorem dX9_chain_48 : decode cX9_chain 48 = .ok (.getfield 301, 3) := by decide +kernel
theorem dX9_chain_51 : decode cX9_chain 51 = .ok (.invokevirtual 416, 3) := by decide +kernel
theorem dX9_chain_54 : decode cX9_chain 54 = .ok (.iconst 2, 1) := by decide +kernel
theorem dX9_chain_55 : decode cX9_chain 55 = .ok (.invokevirtual 291, 3) := by decide +kernel
theorem dX9_chain_58 : decode cX9_chain 58 = .ok (.ifCond .ne 5, 3) := by decide +kernel
theorem dX9_chain_61 : decode cX9_chain 61 = .ok (.iconst 0, 1) := by decide +kernel
theorem dX9_chain_62 : decode cX9_chain 62 = .ok (.ireturn, 1) := by decide +kernel
theorem dX9_chain_63 : decode cX9_chain 63 = .ok (.iconst 0, 1) := by decide +kernel
theorem dX9_chain_64 : decode cX9_chain 64 = .ok (.istore_n 2, 1) := by decide +kernel
theorem dX9_chain_65 : decode cX9_chain 65 = .ok (.iload_n 2, 1) := by decide +kernel
theorem dX9_chain_66 : decode cX9_chain 66 = .ok (.aload_n 0, 1) := by decide +kernel
theorem dX9_chain_67 : decode cX9_chain 67 = .ok (.getfield 354, 3) := by decide +kernel
theorem dX9_chain_70 : decode cX9_chain 70 = .ok (.if_icmp .ge 26, 3) := by decide +kernel
theorem dX9_chain_73 : decode cX9_chain 73 = .ok (.aload_n 0, 1) := by decide +kernel
theorem dX9_chain_74 : decode cX9_chain 74 = .ok (.getfield 119, 3) := by decide +kernel
theorem dX9_chain_77 : decode cX9_chain 77 = .ok (.iload_n 2, 1) := by decide +kernel
theorem dX9_chain_78 : decode cX9_chain 78 = .ok (.iload_n 2, 1) := by decide +kernel
theorem dX9_chain_79 : decode cX9_chain 79 = .ok (.ifCond .ne 9, 3) := by decide +kernel
theorem dX9_chain_82 : decode cX9_chain 82 = .ok (.ldc2_w 372, 3) := by decide +kernel
theorem dX9_chain_85 : decode cX9_chain 85 = .ok (.goto 4, 3) := by decide +kernel
theorem dX9_chain_88 : decode cX9_chain 88 = .ok (.lconst 0, 1) := by decide +kernel
theorem dX9_chain_89 : decode cX9_chain 89 = .ok (.lastore, 1) := by decide +kernel
theorem dX9_chain_90 : decode cX9_chain 90 = .ok (.iinc 2 1, 3) := by decide +kernel
theorem dX9_chain_93 : decode cX9_chain 93 = .ok (.goto (-28), 3) := by decide +kernel
theorem dX9_chain_96 : decode cX9_chain 96 = .ok (.aload_n 0, 1) := by decide +kernel
theorem dX9_chain_97 : decode cX9_chain 97 = .ok (.getfield 122, 3) := by decide +kernel
theorem dX9_chain_100 : decode cX9_chain 100 = .ok (.iconst 0, 1) := by decide +kernel
theorem dX9_chain_101 : decode cX9_chain 101 = .ok (.aload_n 0, 1) := by decide +kernel
theorem dX9_chain_102 : decode cX9_chain 102 = .ok (.getfield 301, 3) := by decide +kernel
theorem dX9_chain_105 : decode cX9_chain 105 = .ok (.i2l, 1) := by decide +kernel
theorem dX9_chain_106 : decode cX9_chain 106 = .ok (.lastore, 1) := by decide +kernel
theorem dX9_chain_107 : decode cX9_chain 107 = .ok (.iconst (-1), 1) := by decide +kernel
theorem dX9_chain_108 : decode cX9_chain 108 = .ok (.istore_n 2, 1) := by decide +kernel
theorem dX9_chain_109 : decode cX9_chain 109 = .ok (.iconst 0, 1) := by decide +kernel
theorem dX9_chain_110 : decode cX9_chain 110 = .ok (.istore_n 3, 1) := by decide +kernel
theorem dX9_chain_111 : decode cX9_chain 111 = .ok (.iload_n 3, 1) := by decide +kernel
theorem dX9_chain_112 : decode cX9_chain 112 = .ok (.aload_n 0, 1) := by decide +kernel
theorem dX9_chain_113 : decode cX9_chain 113 = .ok (.getfield 354, 3) := by decide +kernel
theorem dX9_chain_116 : decode cX9_chain 116 = .ok (.if_icmp .ge 231, 3) := by decide +kernel
theorem dX9_chain_119 : decode cX9_chain 119 = .ok (.aload_n 0, 1) := by decide +kernel
theorem dX9_chain_120 : decode cX9_chain 120 = .ok (.getfield 119, 3) := by decide +kernel
theorem dX9_chain_123 : decode cX9_chain 123 = .ok (.iload_n 3, 1) := by decide +kernel
theorem dX9_chain_124 : decode cX9_chain 124 = .ok (.laload, 1) := by decide +kernel
theorem dX9_chain_125 : decode cX9_chain 125 = .ok (.lconst 0, 1) := by decide +kernel
theorem dX9_chain_126 : decode cX9_chain 126 = .ok (.lcmp, 1) := by decide +kernel
theorem dX9_chain_127 : decode cX9_chain 127 = .ok (.ifCond .ne 6, 3) := by decide +kernel
theorem dX9_chain_130 : decode cX9_chain 130 = .ok (.goto 211, 3) := by decide +kernel
theorem dX9_chain_133 : decode cX9_chain 133 = .ok (.aload_n 0, 1) := by decide +kernel
theorem dX9_chain_134 : decode cX9_chain 134 = .ok (.getfield 53, 3) := by decide +kernel
theorem dX9_chain_137 : decode cX9_chain 137 = .ok (.iload_n 3, 1) := by decide +kernel
theorem dX9_chain_138 : decode cX9_chain 138 = .ok (.iaload, 1) := by decide +kernel
theorem dX9_chain_139 : decode cX9_chain 139 = .ok (.aload_n 0, 1) := by decide +kernel
theorem dX9_chain_140 : decode cX9_chain 140 = .ok (.getfield 16, 3) := by decide +kernel
theorem dX9_chain_143 : decode cX9_chain 143 = .ok (.if_icmp .ne 58, 3) := by decide +kernel
theorem dX9_chain_146 : decode cX9_chain 146 = .ok (.iload_n 2, 1) := by decide +kernel
theorem dX9_chain_147 : decode cX9_chain 147 = .ok (.iconst (-1), 1) := by decide +kernel
theorem dX9_chain_148 : decode cX9_chain 148 = .ok (.if_icmp .eq 51, 3) := by decide +kernel
theorem dX9_chain_151 : decode cX9_chain 151 = .ok (.aload_n 0, 1) := by decide +kernel
theorem dX9_chain_152 : decode cX9_chain 152 = .ok (.getfield 119, 3) := by decide +kernel
theorem dX9_chain_155 : decode cX9_chain 155 = .ok (.iload_n 3, 1) := by decide +kernel
theorem dX9_chain_156 : decode cX9_chain 156 = .ok (.laload, 1) := by decide +kernel
theorem dX9_chain_157 : decode cX9_chain 157 = .ok (.aload_n 0, 1) := by decide +kernel
theorem dX9_chain_158 : decode cX9_chain 158 = .ok (.getfield 119, 3) := by decide +kernel
theorem dX9_chain_161 : decode cX9_chain 161 = .ok (.iload_n 2, 1) := by decide +kernel
theorem dX9_chain_162 : decode cX9_chain 162 = .ok (.laload, 1) := by decide +kernel
theorem dX9_chain_163 : decode cX9_chain 163 = .ok (.lcmp, 1) := by decide +kernel
theorem dX9_chain_164 : decode cX9_chain 164 = .ok (.ifCond .gt 35, 3) := by decide +kernel
theorem dX9_chain_167 : decode cX9_chain 167 = .ok (.aload_n 0, 1) := by decide +kernel
theorem dX9_chain_168 : decode cX9_chain 168 = .ok (.getfield 119, 3) := by decide +kernel
theorem dX9_chain_171 : decode cX9_chain 171 = .ok (.iload_n 3, 1) := by decide +kernel
theorem dX9_chain_172 : decode cX9_chain 172 = .ok (.laload, 1) := by decide +kernel
theorem dX9_chain_173 : decode cX9_chain 173 = .ok (.aload_n 0, 1) := by decide +kernel
theorem dX9_chain_174 : decode cX9_chain 174 = .ok (.getfield 119, 3) := by decide +kernel
theorem dX9_chain_177 : decode cX9_chain 177 = .ok (.iload_n 2, 1) := by decide +kernel
theorem dX9_chain_178 : decode cX9_chain 178 = .ok (.laload, 1) := by decide +kernel
theorem dX9_chain_179 : decode cX9_chain 179 = .ok (.lcmp, 1) := by decide +kernel
theorem dX9_chain_180 : decode cX9_chain 180 = .ok (.ifCond .ne 21, 3) := by decide +kernel
theorem dX9_chain_183 : decode cX9_chain 183 = .ok (.aload_n 0, 1) := by decide +kernel
theorem dX9_chain_184 : decode cX9_chain 184 = .ok (.getfield 122, 3) := by decide +kernel
theorem dX9_chain_187 : decode cX9_chain 187 = .ok (.iload_n 3, 1) := by decide +kernel
theorem dX9_chain_188 : decode cX9_chain 188 = .ok (.laload, 1) := by decide +kernel
theorem dX9_chain_189 : decode cX9_chain 189 = .ok (.aload_n 0, 1) := by decide +kernel
theorem dX9_chain_190 : decode cX9_chain 190 = .ok (.getfield 122, 3) := by decide +kernel
theorem dX9_chain_193 : decode cX9_chain 193 = .ok (.iload_n 2, 1) := by decide +kernel
theorem dX9_chain_194 : decode cX9_chain 194 = .ok (.laload, 1) := by decide +kernel
theorem dX9_chain_195 : decode cX9_chain 195 = .ok (.lcmp, 1) := by decide +kernel
theorem dX9_chain_196 : decode cX9_chain 196 = .ok (.ifCond .ge 5, 3) := by decide +kernel
theorem dX9_chain_199 : decode cX9_chain 199 = .ok (.iload_n 3, 1) := by decide +kernel
theorem dX9_chain_200 : decode cX9_chain 200 = .ok (.istore_n 2, 1) := by decide +kernel
theorem dX9_chain_201 : decode cX9_chain 201 = .ok (.iconst 0, 1) := by decide +kernel
theorem dX9_chain_202 : decode cX9_chain 202 = .ok (.istore 4, 2) := by decide +kernel
theorem dX9_chain_204 : decode cX9_chain 204 = .ok (.iload 4, 2) := by decide +kernel
theorem dX9_chain_206 : decode cX9_chain 206 = .ok (.aload_n 0, 1) := by decide +kernel
theorem dX9_chain_207 : decode cX9_chain 207 = .ok (.getfield 298, 3) := by decide +kernel
theorem dX9_chain_210 : decode cX9_chain 210 = .ok (.if_icmp .ge 131, 3) := by decide +kernel
theorem dX9_chain_213 : decode cX9_chain 213 = .ok (.aload_n 0, 1) := by decide +kernel
theorem dX9_chain_214 : decode cX9_chain 214 = .ok (.getfield 63, 3) := by decide +kernel
theorem dX9_chain_217 : decode cX9_chain 217 = .ok (.bipush 8, 2) := by decide +kernel
theorem dX9_chain_219 : decode cX9_chain 219 = .ok (.iload_n 3, 1) := by decide +kernel
theorem dX9_chain_220 : decode cX9_chain 220 = .ok (.imul, 1) := by decide +kernel
theorem dX9_chain_221 : decode cX9_chain 221 = .ok (.iload 4, 2) := by decide +kernel
theorem dX9_chain_223 : decode cX9_chain 223 = .ok (.iadd, 1) := by decide +kernel
theorem dX9_chain_224 : decode cX9_chain 224 = .ok (.iaload, 1) := by decide +kernel
theorem dX9_chain_225 : decode cX9_chain 225 = .ok (.istore 5, 2) := by decide +kernel
theorem dX9_chain_227 : decode cX9_chain 227 = .ok (.iload 5, 2) := by decide +kernel
theorem dX9_chain_229 : decode cX9_chain 229 = .ok (.iconst (-1), 1) := by decide +kernel
theorem dX9_chain_230 : decode cX9_chain 230 = .ok (.if_icmp .ne 7, 3) := by decide +kernel
theorem dX9_chain_233 : decode cX9_chain 233 = .ok (.lconst 0, 1) := by decide +kernel
theorem dX9_chain_234 : decode cX9_chain 234 = .ok (.goto 16, 3) := by decide +kernel
theorem dX9_chain_237 : decode cX9_chain 237 = .ok (.aload_n 0, 1) := by decide +kernel
theorem dX9_chain_238 : decode cX9_chain 238 = .ok (.iload_n 3, 1) := by decide +kernel
theorem dX9_chain_239 : decode cX9_chain 239 = .ok (.iload 4, 2) := by decide +kernel
theorem dX9_chain_241 : decode cX9_chain 241 = .ok (.aload_n 0, 1) := by decide +kernel
theorem dX9_chain_242 : decode cX9_chain 242 = .ok (.getfield 119, 3) := by decide +kernel
theorem dX9_chain_245 : decode cX9_chain 245 = .ok (.iload_n 3, 1) := by decide +kernel
theorem dX9_chain_246 : decode cX9_chain 246 = .ok (.laload, 1) := by decide +kernel
theorem dX9_chain_247 : decode cX9_chain 247 = .ok (.invokevirtual 447, 3) := by decide +kernel
theorem dX9_chain_250 : decode cX9_chain 250 = .ok (.lstore 6, 2) := by decide +kernel
theorem dX9_chain_252 : decode cX9_chain 252 = .ok (.ldc2_w 459, 3) := by decide +kernel
theorem dX9_chain_255 : decode cX9_chain 255 = .ok (.aload_n 0, 1) := by decide +kernel
theorem dX9_chain_256 : decode cX9_chain 256 = .ok (.getfield 122, 3) := by decide +kernel
theorem dX9_chain_259 : decode cX9_chain 259 = .ok (.iload_n 3, 1) := by decide +kernel
theorem dX9_chain_260 : decode cX9_chain 260 = .ok (.laload, 1) := by decide +kernel
theorem dX9_chain_261 : decode cX9_chain 261 = .ok (.lmul, 1) := by decide +kernel
theorem dX9_chain_262 : decode cX9_chain 262 = .ok (.iload 4, 2) := by decide +kernel
theorem dX9_chain_264 : decode cX9_chain 264 = .ok (.i2l, 1) := by decide +kernel
theorem dX9_chain_265 : decode cX9_chain 265 = .ok (.ladd, 1) := by decide +kernel
theorem dX9_chain_266 : decode cX9_chain 266 = .ok (.lstore 8, 2) := by decide +kernel
theorem dX9_chain_268 : decode cX9_chain 268 = .ok (.lload 6, 2) := by decide +kernel
theorem dX9_chain_270 : decode cX9_chain 270 = .ok (.lconst 0, 1) := by decide +kernel
theorem dX9_chain_271 : decode cX9_chain 271 = .ok (.lcmp, 1) := by decide +kernel
theorem dX9_chain_272 : decode cX9_chain 272 = .ok (.ifCond .eq 63, 3) := by decide +kernel
theorem dX9_chain_275 : decode cX9_chain 275 = .ok (.lload 6, 2) := by decide +kernel
theorem dX9_chain_277 : decode cX9_chain 277 = .ok (.aload_n 0, 1) := by decide +kernel
theorem dX9_chain_278 : decode cX9_chain 278 = .ok (.getfield 119, 3) := by decide +kernel
theorem dX9_chain_281 : decode cX9_chain 281 = .ok (.iload 5, 2) := by decide +kernel
theorem dX9_chain_283 : decode cX9_chain 283 = .ok (.laload, 1) := by decide +kernel
theorem dX9_chain_284 : decode cX9_chain 284 = .ok (.lcmp, 1) := by decide +kernel
theorem dX9_chain_285 : decode cX9_chain 285 = .ok (.ifCond .lt 50, 3) := by decide +kernel
theorem dX9_chain_288 : decode cX9_chain 288 = .ok (.lload 6, 2) := by decide +kernel
theorem dX9_chain_290 : decode cX9_chain 290 = .ok (.aload_n 0, 1) := by decide +kernel
theorem dX9_chain_291 : decode cX9_chain 291 = .ok (.getfield 119, 3) := by decide +kernel
theorem dX9_chain_294 : decode cX9_chain 294 = .ok (.iload 5, 2) := by decide +kernel
theorem dX9_chain_296 : decode cX9_chain 296 = .ok (.laload, 1) := by decide +kernel
theorem dX9_chain_297 : decode cX9_chain 297 = .ok (.lcmp, 1) := by decide +kernel
theorem dX9_chain_298 : decode cX9_chain 298 = .ok (.ifCond .ne 19, 3) := by decide +kernel
theorem dX9_chain_301 : decode cX9_chain 301 = .ok (.lload 8, 2) := by decide +kernel
theorem dX9_chain_303 : decode cX9_chain 303 = .ok (.aload_n 0, 1) := by decide +kernel
theorem dX9_chain_304 : decode cX9_chain 304 = .ok (.getfield 122, 3) := by decide +kernel
theorem dX9_chain_307 : decode cX9_chain 307 = .ok (.iload 5, 2) := by decide +kernel
theorem dX9_chain_309 : decode cX9_chain 309 = .ok (.laload, 1) := by decide +kernel
theorem dX9_chain_310 : decode cX9_chain 310 = .ok (.lcmp, 1) := by decide +kernel
theorem dX9_chain_311 : decode cX9_chain 311 = .ok (.ifCond .lt 6, 3) := by decide +kernel
theorem dX9_chain_314 : decode cX9_chain 314 = .ok (.goto 21, 3) := by decide +kernel
theorem dX9_chain_317 : decode cX9_chain 317 = .ok (.aload_n 0, 1) := by decide +kernel
theorem dX9_chain_318 : decode cX9_chain 318 = .ok (.getfield 119, 3) := by decide +kernel
theorem dX9_chain_321 : decode cX9_chain 321 = .ok (.iload 5, 2) := by decide +kernel
theorem dX9_chain_323 : decode cX9_chain 323 = .ok (.lload 6, 2) := by decide +kernel
theorem dX9_chain_325 : decode cX9_chain 325 = .ok (.lastore, 1) := by decide +kernel
theorem dX9_chain_326 : decode cX9_chain 326 = .ok (.aload_n 0, 1) := by decide +kernel
theorem dX9_chain_327 : decode cX9_chain 327 = .ok (.getfield 122, 3) := by decide +kernel
theorem dX9_chain_330 : decode cX9_chain 330 = .ok (.iload 5, 2) := by decide +kernel
theorem dX9_chain_332 : decode cX9_chain 332 = .ok (.lload 8, 2) := by decide +kernel
theorem dX9_chain_334 : decode cX9_chain 334 = .ok (.lastore, 1) := by decide +kernel
theorem dX9_chain_335 : decode cX9_chain 335 = .ok (.iinc 4 1, 3) := by decide +kernel
theorem dX9_chain_338 : decode cX9_chain 338 = .ok (.goto (-134), 3) := by decide +kernel
theorem dX9_chain_341 : decode cX9_chain 341 = .ok (.iinc 3 1, 3) := by decide +kernel
theorem dX9_chain_344 : decode cX9_chain 344 = .ok (.goto (-233), 3) := by decide +kernel
theorem dX9_chain_347 : decode cX9_chain 347 = .ok (.iload_n 2, 1) := by decide +kernel
theorem dX9_chain_348 : decode cX9_chain 348 = .ok (.iconst (-1), 1) := by decide +kernel
theorem dX9_chain_349 : decode cX9_chain 349 = .ok (.if_icmp .ne 5, 3) := by decide +kernel
theorem dX9_chain_352 : decode cX9_chain 352 = .ok (.iconst (-1), 1) := by decide +kernel
theorem dX9_chain_353 : decode cX9_chain 353 = .ok (.ireturn, 1) := by decide +kernel
theorem dX9_chain_354 : decode cX9_chain 354 = .ok (.aload_n 0, 1) := by decide +kernel
theorem dX9_chain_355 : decode cX9_chain 355 = .ok (.aload_n 0, 1) := by decide +kernel
theorem dX9_chain_356 : decode cX9_chain 356 = .ok (.getfield 16, 3) := by decide +kernel
theorem dX9_chain_359 : decode cX9_chain 359 = .ok (.putfield 326, 3) := by decide +kernel
theorem dX9_chain_362 : decode cX9_chain 362 = .ok (.aload_n 0, 1) := by decide +kernel
theorem dX9_chain_363 : decode cX9_chain 363 = .ok (.getfield 122, 3) := by decide +kernel
theorem dX9_chain_366 : decode cX9_chain 366 = .ok (.iload_n 2, 1) := by decide +kernel
theorem dX9_chain_367 : decode cX9_chain 367 = .ok (.laload, 1) := by decide +kernel
theorem dX9_chain_368 : decode cX9_chain 368 = .ok (.lstore_n 3, 1) := by decide +kernel
theorem dX9_chain_369 : decode cX9_chain 369 = .ok (.aload_n 0, 1) := by decide +kernel
theorem dX9_chain_370 : decode cX9_chain 370 = .ok (.getfield 16, 3) := by decide +kernel
theorem dX9_chain_373 : decode cX9_chain 373 = .ok (.iconst 1, 1) := by decide +kernel
theorem dX9_chain_374 : decode cX9_chain 374 = .ok (.isub, 1) := by decide +kernel
theorem dX9_chain_375 : decode cX9_chain 375 = .ok (.istore 5, 2) := by decide +kernel
theorem dX9_chain_377 : decode cX9_chain 377 = .ok (.iload 5, 2) := by decide +kernel
theorem dX9_chain_379 : decode cX9_chain 379 = .ok (.ifCond .lt 28, 3) := by decide +kernel
theorem dX9_chain_382 : decode cX9_chain 382 = .ok (.aload_n 0, 1) := by decide +kernel
theorem dX9_chain_383 : decode cX9_chain 383 = .ok (.getfield 116, 3) := by decide +kernel
theorem dX9_chain_386 : decode cX9_chain 386 = .ok (.iload 5, 2) := by decide +kernel
theorem dX9_chain_388 : decode cX9_chain 388 = .ok (.lload_n 3, 1) := by decide +kernel
theorem dX9_chain_389 : decode cX9_chain 389 = .ok (.ldc2_w 459, 3) := by decide +kernel
theorem dX9_chain_392 : decode cX9_chain 392 = .ok (.lrem, 1) := by decide +kernel
theorem dX9_chain_393 : decode cX9_chain 393 = .ok (.l2i, 1) := by decide +kernel
theorem dX9_chain_394 : decode cX9_chain 394 = .ok (.iastore, 1) := by decide +kernel
theorem dX9_chain_395 : decode cX9_chain 395 = .ok (.lload_n 3, 1) := by decide +kernel
theorem dX9_chain_396 : decode cX9_chain 396 = .ok (.ldc2_w 459, 3) := by decide +kernel
theorem dX9_chain_399 : decode cX9_chain 399 = .ok (.ldiv, 1) := by decide +kernel
theorem dX9_chain_400 : decode cX9_chain 400 = .ok (.lstore_n 3, 1) := by decide +kernel
theorem dX9_chain_401 : decode cX9_chain 401 = .ok (.iinc 5 (-1), 3) := by decide +kernel
theorem dX9_chain_404 : decode cX9_chain 404 = .ok (.goto (-27), 3) := by decide +kernel
theorem dX9_chain_407 : decode cX9_chain 407 = .ok (.aload_n 0, 1) := by decide +kernel
theorem dX9_chain_408 : decode cX9_chain 408 = .ok (.getfield 119, 3) := by decide +kernel
theorem dX9_chain_411 : decode cX9_chain 411 = .ok (.iload_n 2, 1) := by decide +kernel
theorem dX9_chain_412 : decode cX9_chain 412 = .ok (.laload, 1) := by decide +kernel
theorem dX9_chain_413 : decode cX9_chain 413 = .ok (.l2i, 1) := by decide +kernel
theorem dX9_chain_414 : decode cX9_chain 414 = .ok (.ireturn, 1) := by decide +kernel
theorem dX9_chained_0 : decode cX9_chained 0 = .ok (.aload_n 0, 1) := by decide +kernel
theorem dX9_chained_1 : decode cX9_chained 1 = .ok (.iconst 0, 1) := by decide +kernel
theorem dX9_chained_2 : decode cX9_chained 2 = .ok (.putfield 170, 3) := by decide +kernel
theorem dX9_chained_5 : decode cX9_chained 5 = .ok (.aload_n 0, 1) := by decide +kernel
theorem dX9_chained_6 : decode cX9_chained 6 = .ok (.iload_n 1, 1) := by decide +kernel
theorem dX9_chained_7 : decode cX9_chained 7 = .ok (.ifCond .lt 15, 3) := by decide +kernel
theorem dX9_chained_10 : decode cX9_chained 10 = .ok (.iload_n 1, 1) := by decide +kernel
theorem dX9_chained_11 : decode cX9_chained 11 = .ok (.aload_n 0, 1) := by decide +kernel
theorem dX9_chained_12 : decode cX9_chained 12 = .ok (.getfield 326, 3) := by decide +kernel
theorem dX9_chained_15 : decode cX9_chained 15 = .ok (.if_icmp .ge 7, 3) := by decide +kernel
theorem dX9_chained_18 : decode cX9_chained 18 = .ok (.iconst 1, 1) := by decide +kernel
theorem dX9_chained_19 : decode cX9_chained 19 = .ok (.goto 4, 3) := by decide +kernel
theorem dX9_chained_22 : decode cX9_chained 22 = .ok (.iconst 0, 1) := by decide +kernel
theorem dX9_chained_23 : decode cX9_chained 23 = .ok (.iconst 1, 1) := by decide +kernel
theorem dX9_chained_24 : decode cX9_chained 24 = .ok (.invokevirtual 291, 3) := by decide +kernel
theorem dX9_chained_27 : decode cX9_chained 27 = .ok (.ifCond .eq 12, 3) := by decide +kernel
theorem dX9_chained_30 : decode cX9_chained 30 = .ok (.aload_n 0, 1) := by decide +kernel
theorem dX9_chained_31 : decode cX9_chained 31 = .ok (.getfield 116, 3) := by decide +kernel
theorem dX9_chained_34 : decode cX9_chained 34 = .ok (.iload_n 1, 1) := by decide +kernel
theorem dX9_chained_35 : decode cX9_chained 35 = .ok (.iaload, 1) := by decide +kernel
theorem dX9_chained_36 : decode cX9_chained 36 = .ok (.goto 4, 3) := by decide +kernel
theorem dX9_chained_39 : decode cX9_chained 39 = .ok (.iconst 0, 1) := by decide +kernel
theorem dX9_chained_40 : decode cX9_chained 40 = .ok (.ireturn, 1) := by decide +kernel
theorem dX9_two_0 : decode cX9_two 0 = .ok (.aload_n 0, 1) := by decide +kernel
theorem dX9_two_1 : decode cX9_two 1 = .ok (.iconst 0, 1) := by decide +kernel
theorem dX9_two_2 : decode cX9_two 2 = .ok (.putfield 170, 3) := by decide +kernel
theorem dX9_two_5 : decode cX9_two 5 = .ok (.aload_n 0, 1) := by decide +kernel
