theorem dX4_init_0 : decode cX4_init 0 = .ok (.aload_n 0, 1) := by decide +kernel
theorem dX4_init_1 : decode cX4_init 1 = .ok (.invokespecial 3, 3) := by decide +kernel
theorem dX4_init_4 : decode cX4_init 4 = .ok (.aload_n 0, 1) := by decide +kernel
theorem dX4_init_5 : decode cX4_init 5 = .ok (.bipush 30, 2) := by decide +kernel
theorem dX4_init_7 : decode cX4_init 7 = .ok (.newarray .int, 2) := by decide +kernel
theorem dX4_init_9 : decode cX4_init 9 = .ok (.putfield 11, 3) := by decide +kernel
theorem dX4_init_12 : decode cX4_init 12 = .ok (.aload_n 0, 1) := by decide +kernel
theorem dX4_init_13 : decode cX4_init 13 = .ok (.bipush 30, 2) := by decide +kernel
theorem dX4_init_15 : decode cX4_init 15 = .ok (.newarray .int, 2) := by decide +kernel
theorem dX4_init_17 : decode cX4_init 17 = .ok (.putfield 15, 3) := by decide +kernel
theorem dX4_init_20 : decode cX4_init 20 = .ok (.aload_n 0, 1) := by decide +kernel
theorem dX4_init_21 : decode cX4_init 21 = .ok (.bipush 8, 2) := by decide +kernel
theorem dX4_init_23 : decode cX4_init 23 = .ok (.newarray .int, 2) := by decide +kernel
theorem dX4_init_25 : decode cX4_init 25 = .ok (.putfield 18, 3) := by decide +kernel
theorem dX4_init_28 : decode cX4_init 28 = .ok (.return_, 1) := by decide +kernel
theorem dX4_clear_0 : decode cX4_clear 0 = .ok (.aload_n 0, 1) := by decide +kernel
theorem dX4_clear_1 : decode cX4_clear 1 = .ok (.iconst 0, 1) := by decide +kernel
theorem dX4_clear_2 : decode cX4_clear 2 = .ok (.putfield 21, 3) := by decide +kernel
theorem dX4_clear_5 : decode cX4_clear 5 = .ok (.return_, 1) := by decide +kernel
theorem dX4_add_0 : decode cX4_add 0 = .ok (.aload_n 0, 1) := by decide +kernel
theorem dX4_add_1 : decode cX4_add 1 = .ok (.getfield 21, 3) := by decide +kernel
theorem dX4_add_4 : decode cX4_add 4 = .ok (.bipush 30, 2) := by decide +kernel
theorem dX4_add_6 : decode cX4_add 6 = .ok (.if_icmp .lt 5, 3) := by decide +kernel
theorem dX4_add_9 : decode cX4_add 9 = .ok (.iconst 0, 1) := by decide +kernel
theorem dX4_add_10 : decode cX4_add 10 = .ok (.ireturn, 1) := by decide +kernel
theorem dX4_add_11 : decode cX4_add 11 = .ok (.aload_n 0, 1) := by decide +kernel
theorem dX4_add_12 : decode cX4_add 12 = .ok (.getfield 11, 3) := by decide +kernel
theorem dX4_add_15 : decode cX4_add 15 = .ok (.aload_n 0, 1) := by decide +kernel
theorem dX4_add_16 : decode cX4_add 16 = .ok (.getfield 21, 3) := by decide +kernel
theorem dX4_add_19 : decode cX4_add 19 = .ok (.iload_n 1, 1) := by decide +kernel
theorem dX4_add_20 : decode cX4_add 20 = .ok (.iastore, 1) := by decide +kernel
theorem dX4_add_21 : decode cX4_add 21 = .ok (.aload_n 0, 1) := by decide +kernel
theorem dX4_add_22 : decode cX4_add 22 = .ok (.getfield 15, 3) := by decide +kernel
theorem dX4_add_25 : decode cX4_add 25 = .ok (.aload_n 0, 1) := by decide +kernel
theorem dX4_add_26 : decode cX4_add 26 = .ok (.getfield 21, 3) := by decide +kernel
theorem dX4_add_29 : decode cX4_add 29 = .ok (.iload_n 2, 1) := by decide +kernel
theorem dX4_add_30 : decode cX4_add 30 = .ok (.iastore, 1) := by decide +kernel
theorem dX4_add_31 : decode cX4_add 31 = .ok (.aload_n 0, 1) := by decide +kernel
theorem dX4_add_32 : decode cX4_add 32 = .ok (.dup, 1) := by decide +kernel
theorem dX4_add_33 : decode cX4_add 33 = .ok (.getfield 21, 3) := by decide +kernel
theorem dX4_add_36 : decode cX4_add 36 = .ok (.iconst 1, 1) := by decide +kernel
theorem dX4_add_37 : decode cX4_add 37 = .ok (.iadd, 1) := by decide +kernel
theorem dX4_add_38 : decode cX4_add 38 = .ok (.putfield 21, 3) := by decide +kernel
theorem dX4_add_41 : decode cX4_add 41 = .ok (.iconst 1, 1) := by decide +kernel
theorem dX4_add_42 : decode cX4_add 42 = .ok (.ireturn, 1) := by decide +kernel
theorem dX4_explains_0 : decode cX4_explains 0 = .ok (.iconst 0, 1) := by decide +kernel
theorem dX4_explains_1 : decode cX4_explains 1 = .ok (.istore_n 2, 1) := by decide +kernel
theorem dX4_explains_2 : decode cX4_explains 2 = .ok (.iload_n 2, 1) := by decide +kernel
theorem dX4_explains_3 : decode cX4_explains 3 = .ok (.aload_n 0, 1) := by decide +kernel
theorem dX4_explains_4 : decode cX4_explains 4 = .ok (.getfield 21, 3) := by decide +kernel
theorem dX4_explains_7 : decode cX4_explains 7 = .ok (.if_icmp .ge 31, 3) := by decide +kernel
theorem dX4_explains_10 : decode cX4_explains 10 = .ok (.iload_n 1, 1) := by decide +kernel
theorem dX4_explains_11 : decode cX4_explains 11 = .ok (.aload_n 0, 1) := by decide +kernel
theorem dX4_explains_12 : decode cX4_explains 12 = .ok (.getfield 11, 3) := by decide +kernel
theorem dX4_explains_15 : decode cX4_explains 15 = .ok (.iload_n 2, 1) := by decide +kernel
theorem dX4_explains_16 : decode cX4_explains 16 = .ok (.iaload, 1) := by decide +kernel
theorem dX4_explains_17 : decode cX4_explains 17 = .ok (.iand, 1) := by decide +kernel
theorem dX4_explains_18 : decode cX4_explains 18 = .ok (.invokestatic 25, 3) := by decide +kernel
theorem dX4_explains_21 : decode cX4_explains 21 = .ok (.aload_n 0, 1) := by decide +kernel
theorem dX4_explains_22 : decode cX4_explains 22 = .ok (.getfield 15, 3) := by decide +kernel
theorem dX4_explains_25 : decode cX4_explains 25 = .ok (.iload_n 2, 1) := by decide +kernel
theorem dX4_explains_26 : decode cX4_explains 26 = .ok (.iaload, 1) := by decide +kernel
theorem dX4_explains_27 : decode cX4_explains 27 = .ok (.if_icmp .eq 5, 3) := by decide +kernel
theorem dX4_explains_30 : decode cX4_explains 30 = .ok (.iconst 0, 1) := by decide +kernel
theorem dX4_explains_31 : decode cX4_explains 31 = .ok (.ireturn, 1) := by decide +kernel
theorem dX4_explains_32 : decode cX4_explains 32 = .ok (.iinc 2 1, 3) := by decide +kernel
theorem dX4_explains_35 : decode cX4_explains 35 = .ok (.goto (-33), 3) := by decide +kernel
theorem dX4_explains_38 : decode cX4_explains 38 = .ok (.iconst 1, 1) := by decide +kernel
theorem dX4_explains_39 : decode cX4_explains 39 = .ok (.ireturn, 1) := by decide +kernel
theorem dX4_weigh_0 : decode cX4_weigh 0 = .ok (.aload_n 0, 1) := by decide +kernel
theorem dX4_weigh_1 : decode cX4_weigh 1 = .ok (.iconst 0, 1) := by decide +kernel
theorem dX4_weigh_2 : decode cX4_weigh 2 = .ok (.putfield 31, 3) := by decide +kernel
theorem dX4_weigh_5 : decode cX4_weigh 5 = .ok (.aload_n 0, 1) := by decide +kernel
theorem dX4_weigh_6 : decode cX4_weigh 6 = .ok (.iconst 1, 1) := by decide +kernel
theorem dX4_weigh_7 : decode cX4_weigh 7 = .ok (.iload_n 1, 1) := by decide +kernel
theorem dX4_weigh_8 : decode cX4_weigh 8 = .ok (.ishl, 1) := by decide +kernel
theorem dX4_weigh_9 : decode cX4_weigh 9 = .ok (.iconst 1, 1) := by decide +kernel
theorem dX4_weigh_10 : decode cX4_weigh 10 = .ok (.isub, 1) := by decide +kernel
theorem dX4_weigh_11 : decode cX4_weigh 11 = .ok (.putfield 34, 3) := by decide +kernel
theorem dX4_weigh_14 : decode cX4_weigh 14 = .ok (.aload_n 0, 1) := by decide +kernel
theorem dX4_weigh_15 : decode cX4_weigh 15 = .ok (.iconst 0, 1) := by decide +kernel
theorem dX4_weigh_16 : decode cX4_weigh 16 = .ok (.putfield 37, 3) := by decide +kernel
theorem dX4_weigh_19 : decode cX4_weigh 19 = .ok (.aload_n 0, 1) := by decide +kernel
theorem dX4_weigh_20 : decode cX4_weigh 20 = .ok (.iconst (-1), 1) := by decide +kernel
theorem dX4_weigh_21 : decode cX4_weigh 21 = .ok (.putfield 40, 3) := by decide +kernel
theorem dX4_weigh_24 : decode cX4_weigh 24 = .ok (.aload_n 0, 1) := by decide +kernel
theorem dX4_weigh_25 : decode cX4_weigh 25 = .ok (.getfield 18, 3) := by decide +kernel
theorem dX4_weigh_28 : decode cX4_weigh 28 = .ok (.iconst 0, 1) := by decide +kernel
theorem dX4_weigh_29 : decode cX4_weigh 29 = .ok (.invokestatic 43, 3) := by decide +kernel
theorem dX4_weigh_32 : decode cX4_weigh 32 = .ok (.iconst 0, 1) := by decide +kernel
theorem dX4_weigh_33 : decode cX4_weigh 33 = .ok (.istore_n 2, 1) := by decide +kernel
theorem dX4_weigh_34 : decode cX4_weigh 34 = .ok (.iload_n 2, 1) := by decide +kernel
theorem dX4_weigh_35 : decode cX4_weigh 35 = .ok (.iconst 1, 1) := by decide +kernel
theorem dX4_weigh_36 : decode cX4_weigh 36 = .ok (.iload_n 1, 1) := by decide +kernel
theorem dX4_weigh_37 : decode cX4_weigh 37 = .ok (.ishl, 1) := by decide +kernel
theorem dX4_weigh_38 : decode cX4_weigh 38 = .ok (.if_icmp .ge 23, 3) := by decide +kernel
theorem dX4_weigh_41 : decode cX4_weigh 41 = .ok (.aload_n 0, 1) := by decide +kernel
theorem dX4_weigh_42 : decode cX4_weigh 42 = .ok (.iload_n 2, 1) := by decide +kernel
theorem dX4_weigh_43 : decode cX4_weigh 43 = .ok (.invokevirtual 49, 3) := by decide +kernel
theorem dX4_weigh_46 : decode cX4_weigh 46 = .ok (.ifCond .eq 9, 3) := by decide +kernel
theorem dX4_weigh_49 : decode cX4_weigh 49 = .ok (.aload_n 0, 1) := by decide +kernel
theorem dX4_weigh_50 : decode cX4_weigh 50 = .ok (.iload_n 2, 1) := by decide +kernel
theorem dX4_weigh_51 : decode cX4_weigh 51 = .ok (.iload_n 1, 1) := by decide +kernel
theorem dX4_weigh_52 : decode cX4_weigh 52 = .ok (.invokevirtual 53, 3) := by decide +kernel
theorem dX4_weigh_55 : decode cX4_weigh 55 = .ok (.iinc 2 1, 3) := by decide +kernel
theorem dX4_weigh_58 : decode cX4_weigh 58 = .ok (.goto (-24), 3) := by decide +kernel
theorem dX4_weigh_61 : decode cX4_weigh 61 = .ok (.aload_n 0, 1) := by decide +kernel
theorem dX4_weigh_62 : decode cX4_weigh 62 = .ok (.getfield 31, 3) := by decide +kernel
theorem dX4_weigh_65 : decode cX4_weigh 65 = .ok (.ifCond .ne 8, 3) := by decide +kernel
theorem dX4_weigh_68 : decode cX4_weigh 68 = .ok (.aload_n 0, 1) := by decide +kernel
theorem dX4_weigh_69 : decode cX4_weigh 69 = .ok (.iconst 0, 1) := by decide +kernel
theorem dX4_weigh_70 : decode cX4_weigh 70 = .ok (.putfield 34, 3) := by decide +kernel
theorem dX4_weigh_73 : decode cX4_weigh 73 = .ok (.return_, 1) := by decide +kernel
theorem dX4_take_0 : decode cX4_take 0 = .ok (.aload_n 0, 1) := by decide +kernel
theorem dX4_take_1 : decode cX4_take 1 = .ok (.dup, 1) := by decide +kernel
theorem dX4_take_2 : decode cX4_take 2 = .ok (.getfield 31, 3) := by decide +kernel
theorem dX4_take_5 : decode cX4_take 5 = .ok (.iconst 1, 1) := by decide +kernel
theorem dX4_take_6 : decode cX4_take 6 = .ok (.iadd, 1) := by decide +kernel
theorem dX4_take_7 : decode cX4_take 7 = .ok (.putfield 31, 3) := by decide +kernel
theorem dX4_take_10 : decode cX4_take 10 = .ok (.aload_n 0, 1) := by decide +kernel
theorem dX4_take_11 : decode cX4_take 11 = .ok (.dup, 1) := by decide +kernel
theorem dX4_take_12 : decode cX4_take 12 = .ok (.getfield 34, 3) := by decide +kernel
theorem dX4_take_15 : decode cX4_take 15 = .ok (.iload_n 1, 1) := by decide +kernel
theorem dX4_take_16 : decode cX4_take 16 = .ok (.iand, 1) := by decide +kernel
theorem dX4_take_17 : decode cX4_take 17 = .ok (.putfield 34, 3) := by decide +kernel
theorem dX4_take_20 : decode cX4_take 20 = .ok (.aload_n 0, 1) := by decide +kernel
theorem dX4_take_21 : decode cX4_take 21 = .ok (.dup, 1) := by decide +kernel
theorem dX4_take_22 : decode cX4_take 22 = .ok (.getfield 37, 3) := by decide +kernel
theorem dX4_take_25 : decode cX4_take 25 = .ok (.iload_n 1, 1) := by decide +kernel
theorem dX4_take_26 : decode cX4_take 26 = .ok (.ior, 1) := by decide +kernel
theorem dX4_take_27 : decode cX4_take 27 = .ok (.putfield 37, 3) := by decide +kernel
theorem dX4_take_30 : decode cX4_take 30 = .ok (.aload_n 0, 1) := by decide +kernel
theorem dX4_take_31 : decode cX4_take 31 = .ok (.getfield 40, 3) := by decide +kernel
theorem dX4_take_34 : decode cX4_take 34 = .ok (.ifCond .lt 17, 3) := by decide +kernel
theorem dX4_take_37 : decode cX4_take 37 = .ok (.iload_n 1, 1) := by decide +kernel
theorem dX4_take_38 : decode cX4_take 38 = .ok (.invokestatic 25, 3) := by decide +kernel
theorem dX4_take_41 : decode cX4_take 41 = .ok (.aload_n 0, 1) := by decide +kernel
theorem dX4_take_42 : decode cX4_take 42 = .ok (.getfield 40, 3) := by decide +kernel
theorem dX4_take_45 : decode cX4_take 45 = .ok (.invokestatic 25, 3) := by decide +kernel
theorem dX4_take_48 : decode cX4_take 48 = .ok (.if_icmp .ge 8, 3) := by decide +kernel
theorem dX4_take_51 : decode cX4_take 51 = .ok (.aload_n 0, 1) := by decide +kernel
theorem dX4_take_52 : decode cX4_take 52 = .ok (.iload_n 1, 1) := by decide +kernel
theorem dX4_take_53 : decode cX4_take 53 = .ok (.putfield 40, 3) := by decide +kernel
theorem dX4_take_56 : decode cX4_take 56 = .ok (.iconst 0, 1) := by decide +kernel
theorem dX4_take_57 : decode cX4_take 57 = .ok (.istore_n 3, 1) := by decide +kernel
theorem dX4_take_58 : decode cX4_take 58 = .ok (.iload_n 3, 1) := by decide +kernel
theorem dX4_take_59 : decode cX4_take 59 = .ok (.iload_n 2, 1) := by decide +kernel
theorem dX4_take_60 : decode cX4_take 60 = .ok (.if_icmp .ge 23, 3) := by decide +kernel
theorem dX4_take_63 : decode cX4_take 63 = .ok (.aload_n 0, 1) := by decide +kernel
theorem dX4_take_64 : decode cX4_take 64 = .ok (.getfield 18, 3) := by decide +kernel
theorem dX4_take_67 : decode cX4_take 67 = .ok (.iload_n 3, 1) := by decide +kernel
theorem dX4_take_68 : decode cX4_take 68 = .ok (.dup2, 1) := by decide +kernel
theorem dX4_take_69 : decode cX4_take 69 = .ok (.iaload, 1) := by decide +kernel
theorem dX4_take_70 : decode cX4_take 70 = .ok (.iload_n 1, 1) := by decide +kernel
theorem dX4_take_71 : decode cX4_take 71 = .ok (.iload_n 3, 1) := by decide +kernel
theorem dX4_take_72 : decode cX4_take 72 = .ok (.ishr, 1) := by decide +kernel
theorem dX4_take_73 : decode cX4_take 73 = .ok (.iconst 1, 1) := by decide +kernel
theorem dX4_take_74 : decode cX4_take 74 = .ok (.iand, 1) := by decide +kernel
theorem dX4_take_75 : decode cX4_take 75 = .ok (.iadd, 1) := by decide +kernel
theorem dX4_take_76 : decode cX4_take 76 = .ok (.iastore, 1) := by decide +kernel
theorem dX4_take_77 : decode cX4_take 77 = .ok (.iinc 3 1, 3) := by decide +kernel
theorem dX4_take_80 : decode cX4_take 80 = .ok (.goto (-22), 3) := by decide +kernel
theorem dX4_take_83 : decode cX4_take 83 = .ok (.return_, 1) := by decide +kernel
theorem dX4_whomToAsk_0 : decode cX4_whomToAsk 0 = .ok (.aload_n 0, 1) := by decide +kernel
theorem dX4_whomToAsk_1 : decode cX4_whomToAsk 1 = .ok (.getfield 31, 3) := by decide +kernel
theorem dX4_whomToAsk_4 : decode cX4_whomToAsk 4 = .ok (.ifCond .ne 5, 3) := by decide +kernel
theorem dX4_whomToAsk_7 : decode cX4_whomToAsk 7 = .ok (.iconst (-1), 1) := by decide +kernel
theorem dX4_whomToAsk_8 : decode cX4_whomToAsk 8 = .ok (.ireturn, 1) := by decide +kernel
theorem dX4_whomToAsk_9 : decode cX4_whomToAsk 9 = .ok (.iconst (-1), 1) := by decide +kernel
theorem dX4_whomToAsk_10 : decode cX4_whomToAsk 10 = .ok (.istore_n 2, 1) := by decide +kernel
theorem dX4_whomToAsk_11 : decode cX4_whomToAsk 11 = .ok (.iconst 0, 1) := by decide +kernel
theorem dX4_whomToAsk_12 : decode cX4_whomToAsk 12 = .ok (.istore_n 3, 1) := by decide +kernel
theorem dX4_whomToAsk_13 : decode cX4_whomToAsk 13 = .ok (.iconst 0, 1) := by decide +kernel
theorem dX4_whomToAsk_14 : decode cX4_whomToAsk 14 = .ok (.istore 4, 2) := by decide +kernel
theorem dX4_whomToAsk_16 : decode cX4_whomToAsk 16 = .ok (.iload 4, 2) := by decide +kernel
theorem dX4_whomToAsk_18 : decode cX4_whomToAsk 18 = .ok (.iload_n 1, 1) := by decide +kernel
theorem dX4_whomToAsk_19 : decode cX4_whomToAsk 19 = .ok (.if_icmp .ge 44, 3) := by decide +kernel
theorem dX4_whomToAsk_22 : decode cX4_whomToAsk 22 = .ok (.iconst 2, 1) := by decide +kernel
theorem dX4_whomToAsk_23 : decode cX4_whomToAsk 23 = .ok (.aload_n 0, 1) := by decide +kernel
theorem dX4_whomToAsk_24 : decode cX4_whomToAsk 24 = .ok (.getfield 18, 3) := by decide +kernel
theorem dX4_whomToAsk_27 : decode cX4_whomToAsk 27 = .ok (.iload 4, 2) := by decide +kernel
theorem dX4_whomToAsk_29 : decode cX4_whomToAsk 29 = .ok (.iaload, 1) := by decide +kernel
theorem dX4_whomToAsk_30 : decode cX4_whomToAsk 30 = .ok (.imul, 1) := by decide +kernel
theorem dX4_whomToAsk_31 : decode cX4_whomToAsk 31 = .ok (.aload_n 0, 1) := by decide +kernel
theorem dX4_whomToAsk_32 : decode cX4_whomToAsk 32 = .ok (.getfield 31, 3) := by decide +kernel
theorem dX4_whomToAsk_35 : decode cX4_whomToAsk 35 = .ok (.isub, 1) := by decide +kernel
theorem dX4_whomToAsk_36 : decode cX4_whomToAsk 36 = .ok (.invokestatic 57, 3) := by decide +kernel
theorem dX4_whomToAsk_39 : decode cX4_whomToAsk 39 = .ok (.istore 5, 2) := by decide +kernel
theorem dX4_whomToAsk_41 : decode cX4_whomToAsk 41 = .ok (.iload_n 2, 1) := by decide +kernel
theorem dX4_whomToAsk_42 : decode cX4_whomToAsk 42 = .ok (.ifCond .lt 9, 3) := by decide +kernel
theorem dX4_whomToAsk_45 : decode cX4_whomToAsk 45 = .ok (.iload 5, 2) := by decide +kernel
theorem dX4_whomToAsk_47 : decode cX4_whomToAsk 47 = .ok (.iload_n 3, 1) := by decide +kernel
theorem dX4_whomToAsk_48 : decode cX4_whomToAsk 48 = .ok (.if_icmp .ge 9, 3) := by decide +kernel
theorem dX4_whomToAsk_51 : decode cX4_whomToAsk 51 = .ok (.iload 4, 2) := by decide +kernel
theorem dX4_whomToAsk_53 : decode cX4_whomToAsk 53 = .ok (.istore_n 2, 1) := by decide +kernel
theorem dX4_whomToAsk_54 : decode cX4_whomToAsk 54 = .ok (.iload 5, 2) := by decide +kernel
theorem dX4_whomToAsk_56 : decode cX4_whomToAsk 56 = .ok (.istore_n 3, 1) := by decide +kernel
theorem dX4_whomToAsk_57 : decode cX4_whomToAsk 57 = .ok (.iinc 4 1, 3) := by decide +kernel
theorem dX4_whomToAsk_60 : decode cX4_whomToAsk 60 = .ok (.goto (-44), 3) := by decide +kernel
theorem dX4_whomToAsk_63 : decode cX4_whomToAsk 63 = .ok (.iload_n 2, 1) := by decide +kernel
theorem dX4_whomToAsk_64 : decode cX4_whomToAsk 64 = .ok (.ireturn, 1) := by decide +kernel
