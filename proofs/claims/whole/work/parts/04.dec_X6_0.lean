theorem dX6_init_0 : decode cX6_init 0 = .ok (.aload_n 0, 1) := by decide +kernel
theorem dX6_init_1 : decode cX6_init 1 = .ok (.invokespecial 5, 3) := by decide +kernel
theorem dX6_init_4 : decode cX6_init 4 = .ok (.aload_n 0, 1) := by decide +kernel
theorem dX6_init_5 : decode cX6_init 5 = .ok (.iconst (-1), 1) := by decide +kernel
theorem dX6_init_6 : decode cX6_init 6 = .ok (.putfield 11, 3) := by decide +kernel
theorem dX6_init_9 : decode cX6_init 9 = .ok (.aload_n 0, 1) := by decide +kernel
theorem dX6_init_10 : decode cX6_init 10 = .ok (.iload_n 1, 1) := by decide +kernel
theorem dX6_init_11 : decode cX6_init 11 = .ok (.putfield 15, 3) := by decide +kernel
theorem dX6_init_14 : decode cX6_init 14 = .ok (.aload_n 0, 1) := by decide +kernel
theorem dX6_init_15 : decode cX6_init 15 = .ok (.iload_n 1, 1) := by decide +kernel
theorem dX6_init_16 : decode cX6_init 16 = .ok (.newarray .long, 2) := by decide +kernel
theorem dX6_init_18 : decode cX6_init 18 = .ok (.putfield 18, 3) := by decide +kernel
theorem dX6_init_21 : decode cX6_init 21 = .ok (.aload_n 0, 1) := by decide +kernel
theorem dX6_init_22 : decode cX6_init 22 = .ok (.iload_n 1, 1) := by decide +kernel
theorem dX6_init_23 : decode cX6_init 23 = .ok (.newarray .int, 2) := by decide +kernel
theorem dX6_init_25 : decode cX6_init 25 = .ok (.putfield 22, 3) := by decide +kernel
theorem dX6_init_28 : decode cX6_init 28 = .ok (.aload_n 0, 1) := by decide +kernel
theorem dX6_init_29 : decode cX6_init 29 = .ok (.iload_n 1, 1) := by decide +kernel
theorem dX6_init_30 : decode cX6_init 30 = .ok (.bipush 8, 2) := by decide +kernel
theorem dX6_init_32 : decode cX6_init 32 = .ok (.imul, 1) := by decide +kernel
theorem dX6_init_33 : decode cX6_init 33 = .ok (.newarray .int, 2) := by decide +kernel
theorem dX6_init_35 : decode cX6_init 35 = .ok (.putfield 26, 3) := by decide +kernel
theorem dX6_init_38 : decode cX6_init 38 = .ok (.aload_n 0, 1) := by decide +kernel
theorem dX6_init_39 : decode cX6_init 39 = .ok (.iload_n 2, 1) := by decide +kernel
theorem dX6_init_40 : decode cX6_init 40 = .ok (.newarray .int, 2) := by decide +kernel
theorem dX6_init_42 : decode cX6_init 42 = .ok (.putfield 29, 3) := by decide +kernel
theorem dX6_init_45 : decode cX6_init 45 = .ok (.return_, 1) := by decide +kernel
theorem dX6_whoOf_0 : decode cX6_whoOf 0 = .ok (.lload_n 0, 1) := by decide +kernel
theorem dX6_whoOf_1 : decode cX6_whoOf 1 = .ok (.l2i, 1) := by decide +kernel
theorem dX6_whoOf_2 : decode cX6_whoOf 2 = .ok (.bipush 7, 2) := by decide +kernel
theorem dX6_whoOf_4 : decode cX6_whoOf 4 = .ok (.iand, 1) := by decide +kernel
theorem dX6_whoOf_5 : decode cX6_whoOf 5 = .ok (.ireturn, 1) := by decide +kernel
theorem dX6_handOf_0 : decode cX6_handOf 0 = .ok (.lload_n 0, 1) := by decide +kernel
theorem dX6_handOf_1 : decode cX6_handOf 1 = .ok (.iconst 3, 1) := by decide +kernel
theorem dX6_handOf_2 : decode cX6_handOf 2 = .ok (.lshr, 1) := by decide +kernel
theorem dX6_handOf_3 : decode cX6_handOf 3 = .ok (.l2i, 1) := by decide +kernel
theorem dX6_handOf_4 : decode cX6_handOf 4 = .ok (.bipush 15, 2) := by decide +kernel
theorem dX6_handOf_6 : decode cX6_handOf 6 = .ok (.iand, 1) := by decide +kernel
theorem dX6_handOf_7 : decode cX6_handOf 7 = .ok (.ireturn, 1) := by decide +kernel
theorem dX6_timesSent_0 : decode cX6_timesSent 0 = .ok (.lload_n 0, 1) := by decide +kernel
theorem dX6_timesSent_1 : decode cX6_timesSent 1 = .ok (.bipush 19, 2) := by decide +kernel
theorem dX6_timesSent_3 : decode cX6_timesSent 3 = .ok (.iconst 4, 1) := by decide +kernel
theorem dX6_timesSent_4 : decode cX6_timesSent 4 = .ok (.iload_n 2, 1) := by decide +kernel
theorem dX6_timesSent_5 : decode cX6_timesSent 5 = .ok (.imul, 1) := by decide +kernel
theorem dX6_timesSent_6 : decode cX6_timesSent 6 = .ok (.iadd, 1) := by decide +kernel
theorem dX6_timesSent_7 : decode cX6_timesSent 7 = .ok (.lshr, 1) := by decide +kernel
theorem dX6_timesSent_8 : decode cX6_timesSent 8 = .ok (.l2i, 1) := by decide +kernel
theorem dX6_timesSent_9 : decode cX6_timesSent 9 = .ok (.bipush 15, 2) := by decide +kernel
theorem dX6_timesSent_11 : decode cX6_timesSent 11 = .ok (.iand, 1) := by decide +kernel
theorem dX6_timesSent_12 : decode cX6_timesSent 12 = .ok (.ireturn, 1) := by decide +kernel
theorem dX6_firstKey_0 : decode cX6_firstKey 0 = .ok (.aload_n 0, 1) := by decide +kernel
theorem dX6_firstKey_1 : decode cX6_firstKey 1 = .ok (.getfield 32, 3) := by decide +kernel
theorem dX6_firstKey_4 : decode cX6_firstKey 4 = .ok (.bipush 7, 2) := by decide +kernel
theorem dX6_firstKey_6 : decode cX6_firstKey 6 = .ok (.iand, 1) := by decide +kernel
theorem dX6_firstKey_7 : decode cX6_firstKey 7 = .ok (.bipush 8, 2) := by decide +kernel
theorem dX6_firstKey_9 : decode cX6_firstKey 9 = .ok (.ior, 1) := by decide +kernel
theorem dX6_firstKey_10 : decode cX6_firstKey 10 = .ok (.i2l, 1) := by decide +kernel
theorem dX6_firstKey_11 : decode cX6_firstKey 11 = .ok (.lstore_n 1, 1) := by decide +kernel
theorem dX6_firstKey_12 : decode cX6_firstKey 12 = .ok (.aload_n 0, 1) := by decide +kernel
theorem dX6_firstKey_13 : decode cX6_firstKey 13 = .ok (.getfield 37, 3) := by decide +kernel
theorem dX6_firstKey_16 : decode cX6_firstKey 16 = .ok (.ifCond .ne 20, 3) := by decide +kernel
theorem dX6_firstKey_19 : decode cX6_firstKey 19 = .ok (.lload_n 1, 1) := by decide +kernel
theorem dX6_firstKey_20 : decode cX6_firstKey 20 = .ok (.lconst 1, 1) := by decide +kernel
theorem dX6_firstKey_21 : decode cX6_firstKey 21 = .ok (.bipush 7, 2) := by decide +kernel
theorem dX6_firstKey_23 : decode cX6_firstKey 23 = .ok (.aload_n 0, 1) := by decide +kernel
theorem dX6_firstKey_24 : decode cX6_firstKey 24 = .ok (.getfield 32, 3) := by decide +kernel
theorem dX6_firstKey_27 : decode cX6_firstKey 27 = .ok (.bipush 7, 2) := by decide +kernel
theorem dX6_firstKey_29 : decode cX6_firstKey 29 = .ok (.iand, 1) := by decide +kernel
theorem dX6_firstKey_30 : decode cX6_firstKey 30 = .ok (.iadd, 1) := by decide +kernel
theorem dX6_firstKey_31 : decode cX6_firstKey 31 = .ok (.lshl, 1) := by decide +kernel
theorem dX6_firstKey_32 : decode cX6_firstKey 32 = .ok (.lor, 1) := by decide +kernel
theorem dX6_firstKey_33 : decode cX6_firstKey 33 = .ok (.goto 4, 3) := by decide +kernel
theorem dX6_firstKey_36 : decode cX6_firstKey 36 = .ok (.lload_n 1, 1) := by decide +kernel
theorem dX6_firstKey_37 : decode cX6_firstKey 37 = .ok (.lreturn, 1) := by decide +kernel
theorem dX6_keyBehind_0 : decode cX6_keyBehind 0 = .ok (.lload_n 1, 1) := by decide +kernel
theorem dX6_keyBehind_1 : decode cX6_keyBehind 1 = .ok (.invokestatic 40, 3) := by decide +kernel
theorem dX6_keyBehind_4 : decode cX6_keyBehind 4 = .ok (.istore 4, 2) := by decide +kernel
theorem dX6_keyBehind_6 : decode cX6_keyBehind 6 = .ok (.iload_n 3, 1) := by decide +kernel
theorem dX6_keyBehind_7 : decode cX6_keyBehind 7 = .ok (.i2l, 1) := by decide +kernel
theorem dX6_keyBehind_8 : decode cX6_keyBehind 8 = .ok (.lload_n 1, 1) := by decide +kernel
theorem dX6_keyBehind_9 : decode cX6_keyBehind 9 = .ok (.invokestatic 44, 3) := by decide +kernel
theorem dX6_keyBehind_12 : decode cX6_keyBehind 12 = .ok (.iconst 1, 1) := by decide +kernel
theorem dX6_keyBehind_13 : decode cX6_keyBehind 13 = .ok (.iadd, 1) := by decide +kernel
theorem dX6_keyBehind_14 : decode cX6_keyBehind 14 = .ok (.i2l, 1) := by decide +kernel
theorem dX6_keyBehind_15 : decode cX6_keyBehind 15 = .ok (.iconst 3, 1) := by decide +kernel
theorem dX6_keyBehind_16 : decode cX6_keyBehind 16 = .ok (.lshl, 1) := by decide +kernel
theorem dX6_keyBehind_17 : decode cX6_keyBehind 17 = .ok (.lor, 1) := by decide +kernel
theorem dX6_keyBehind_18 : decode cX6_keyBehind 18 = .ok (.lstore 5, 2) := by decide +kernel
theorem dX6_keyBehind_20 : decode cX6_keyBehind 20 = .ok (.aload_n 0, 1) := by decide +kernel
theorem dX6_keyBehind_21 : decode cX6_keyBehind 21 = .ok (.getfield 37, 3) := by decide +kernel
theorem dX6_keyBehind_24 : decode cX6_keyBehind 24 = .ok (.ifCond .ne 23, 3) := by decide +kernel
theorem dX6_keyBehind_27 : decode cX6_keyBehind 27 = .ok (.lload 5, 2) := by decide +kernel
theorem dX6_keyBehind_29 : decode cX6_keyBehind 29 = .ok (.lload_n 1, 1) := by decide +kernel
theorem dX6_keyBehind_30 : decode cX6_keyBehind 30 = .ok (.ldc2_w 47, 3) := by decide +kernel
theorem dX6_keyBehind_33 : decode cX6_keyBehind 33 = .ok (.land, 1) := by decide +kernel
theorem dX6_keyBehind_34 : decode cX6_keyBehind 34 = .ok (.lconst 1, 1) := by decide +kernel
theorem dX6_keyBehind_35 : decode cX6_keyBehind 35 = .ok (.bipush 7, 2) := by decide +kernel
theorem dX6_keyBehind_37 : decode cX6_keyBehind 37 = .ok (.iload_n 3, 1) := by decide +kernel
theorem dX6_keyBehind_38 : decode cX6_keyBehind 38 = .ok (.iadd, 1) := by decide +kernel
theorem dX6_keyBehind_39 : decode cX6_keyBehind 39 = .ok (.lshl, 1) := by decide +kernel
theorem dX6_keyBehind_40 : decode cX6_keyBehind 40 = .ok (.lor, 1) := by decide +kernel
theorem dX6_keyBehind_41 : decode cX6_keyBehind 41 = .ok (.lor, 1) := by decide +kernel
theorem dX6_keyBehind_42 : decode cX6_keyBehind 42 = .ok (.lstore 5, 2) := by decide +kernel
theorem dX6_keyBehind_44 : decode cX6_keyBehind 44 = .ok (.goto 24, 3) := by decide +kernel
theorem dX6_keyBehind_47 : decode cX6_keyBehind 47 = .ok (.aload_n 0, 1) := by decide +kernel
theorem dX6_keyBehind_48 : decode cX6_keyBehind 48 = .ok (.getfield 37, 3) := by decide +kernel
theorem dX6_keyBehind_51 : decode cX6_keyBehind 51 = .ok (.iconst 1, 1) := by decide +kernel
theorem dX6_keyBehind_52 : decode cX6_keyBehind 52 = .ok (.if_icmp .ne 16, 3) := by decide +kernel
theorem dX6_keyBehind_55 : decode cX6_keyBehind 55 = .ok (.lload 5, 2) := by decide +kernel
theorem dX6_keyBehind_57 : decode cX6_keyBehind 57 = .ok (.iload 4, 2) := by decide +kernel
theorem dX6_keyBehind_59 : decode cX6_keyBehind 59 = .ok (.iconst 1, 1) := by decide +kernel
theorem dX6_keyBehind_60 : decode cX6_keyBehind 60 = .ok (.iadd, 1) := by decide +kernel
theorem dX6_keyBehind_61 : decode cX6_keyBehind 61 = .ok (.i2l, 1) := by decide +kernel
theorem dX6_keyBehind_62 : decode cX6_keyBehind 62 = .ok (.bipush 15, 2) := by decide +kernel
theorem dX6_keyBehind_64 : decode cX6_keyBehind 64 = .ok (.lshl, 1) := by decide +kernel
theorem dX6_keyBehind_65 : decode cX6_keyBehind 65 = .ok (.lor, 1) := by decide +kernel
theorem dX6_keyBehind_66 : decode cX6_keyBehind 66 = .ok (.lstore 5, 2) := by decide +kernel
theorem dX6_keyBehind_68 : decode cX6_keyBehind 68 = .ok (.aload_n 0, 1) := by decide +kernel
theorem dX6_keyBehind_69 : decode cX6_keyBehind 69 = .ok (.invokevirtual 49, 3) := by decide +kernel
theorem dX6_keyBehind_72 : decode cX6_keyBehind 72 = .ok (.ifCond .eq 23, 3) := by decide +kernel
theorem dX6_keyBehind_75 : decode cX6_keyBehind 75 = .ok (.lload 5, 2) := by decide +kernel
theorem dX6_keyBehind_77 : decode cX6_keyBehind 77 = .ok (.lload_n 1, 1) := by decide +kernel
theorem dX6_keyBehind_78 : decode cX6_keyBehind 78 = .ok (.ldc2_w 53, 3) := by decide +kernel
theorem dX6_keyBehind_81 : decode cX6_keyBehind 81 = .ok (.land, 1) := by decide +kernel
theorem dX6_keyBehind_82 : decode cX6_keyBehind 82 = .ok (.lconst 1, 1) := by decide +kernel
theorem dX6_keyBehind_83 : decode cX6_keyBehind 83 = .ok (.bipush 19, 2) := by decide +kernel
theorem dX6_keyBehind_85 : decode cX6_keyBehind 85 = .ok (.iconst 4, 1) := by decide +kernel
theorem dX6_keyBehind_86 : decode cX6_keyBehind 86 = .ok (.iload 4, 2) := by decide +kernel
theorem dX6_keyBehind_88 : decode cX6_keyBehind 88 = .ok (.imul, 1) := by decide +kernel
theorem dX6_keyBehind_89 : decode cX6_keyBehind 89 = .ok (.iadd, 1) := by decide +kernel
theorem dX6_keyBehind_90 : decode cX6_keyBehind 90 = .ok (.lshl, 1) := by decide +kernel
theorem dX6_keyBehind_91 : decode cX6_keyBehind 91 = .ok (.ladd, 1) := by decide +kernel
theorem dX6_keyBehind_92 : decode cX6_keyBehind 92 = .ok (.lor, 1) := by decide +kernel
theorem dX6_keyBehind_93 : decode cX6_keyBehind 93 = .ok (.lstore 5, 2) := by decide +kernel
theorem dX6_keyBehind_95 : decode cX6_keyBehind 95 = .ok (.lload 5, 2) := by decide +kernel
theorem dX6_keyBehind_97 : decode cX6_keyBehind 97 = .ok (.lreturn, 1) := by decide +kernel
theorem dX6_maySendTo_0 : decode cX6_maySendTo 0 = .ok (.lload_n 1, 1) := by decide +kernel
theorem dX6_maySendTo_1 : decode cX6_maySendTo 1 = .ok (.invokestatic 44, 3) := by decide +kernel
theorem dX6_maySendTo_4 : decode cX6_maySendTo 4 = .ok (.aload_n 0, 1) := by decide +kernel
theorem dX6_maySendTo_5 : decode cX6_maySendTo 5 = .ok (.getfield 55, 3) := by decide +kernel
theorem dX6_maySendTo_8 : decode cX6_maySendTo 8 = .ok (.if_icmp .lt 5, 3) := by decide +kernel
theorem dX6_maySendTo_11 : decode cX6_maySendTo 11 = .ok (.iconst 0, 1) := by decide +kernel
theorem dX6_maySendTo_12 : decode cX6_maySendTo 12 = .ok (.ireturn, 1) := by decide +kernel
theorem dX6_maySendTo_13 : decode cX6_maySendTo 13 = .ok (.aload_n 0, 1) := by decide +kernel
theorem dX6_maySendTo_14 : decode cX6_maySendTo 14 = .ok (.getfield 58, 3) := by decide +kernel
theorem dX6_maySendTo_17 : decode cX6_maySendTo 17 = .ok (.lload_n 1, 1) := by decide +kernel
theorem dX6_maySendTo_18 : decode cX6_maySendTo 18 = .ok (.invokestatic 40, 3) := by decide +kernel
theorem dX6_maySendTo_21 : decode cX6_maySendTo 21 = .ok (.iaload, 1) := by decide +kernel
theorem dX6_maySendTo_22 : decode cX6_maySendTo 22 = .ok (.aload_n 0, 1) := by decide +kernel
theorem dX6_maySendTo_23 : decode cX6_maySendTo 23 = .ok (.getfield 61, 3) := by decide +kernel
theorem dX6_maySendTo_26 : decode cX6_maySendTo 26 = .ok (.iconst (-1), 1) := by decide +kernel
theorem dX6_maySendTo_27 : decode cX6_maySendTo 27 = .ok (.ixor, 1) := by decide +kernel
theorem dX6_maySendTo_28 : decode cX6_maySendTo 28 = .ok (.iand, 1) := by decide +kernel
theorem dX6_maySendTo_29 : decode cX6_maySendTo 29 = .ok (.istore_n 3, 1) := by decide +kernel
theorem dX6_maySendTo_30 : decode cX6_maySendTo 30 = .ok (.aload_n 0, 1) := by decide +kernel
theorem dX6_maySendTo_31 : decode cX6_maySendTo 31 = .ok (.getfield 37, 3) := by decide +kernel
theorem dX6_maySendTo_34 : decode cX6_maySendTo 34 = .ok (.ifCond .ne 20, 3) := by decide +kernel
theorem dX6_maySendTo_37 : decode cX6_maySendTo 37 = .ok (.iload_n 3, 1) := by decide +kernel
theorem dX6_maySendTo_38 : decode cX6_maySendTo 38 = .ok (.lload_n 1, 1) := by decide +kernel
theorem dX6_maySendTo_39 : decode cX6_maySendTo 39 = .ok (.bipush 7, 2) := by decide +kernel
theorem dX6_maySendTo_41 : decode cX6_maySendTo 41 = .ok (.lshr, 1) := by decide +kernel
theorem dX6_maySendTo_42 : decode cX6_maySendTo 42 = .ok (.ldc2_w 64, 3) := by decide +kernel
theorem dX6_maySendTo_45 : decode cX6_maySendTo 45 = .ok (.land, 1) := by decide +kernel
theorem dX6_maySendTo_46 : decode cX6_maySendTo 46 = .ok (.l2i, 1) := by decide +kernel
theorem dX6_maySendTo_47 : decode cX6_maySendTo 47 = .ok (.iconst (-1), 1) := by decide +kernel
theorem dX6_maySendTo_48 : decode cX6_maySendTo 48 = .ok (.ixor, 1) := by decide +kernel
theorem dX6_maySendTo_49 : decode cX6_maySendTo 49 = .ok (.iand, 1) := by decide +kernel
theorem dX6_maySendTo_50 : decode cX6_maySendTo 50 = .ok (.istore_n 3, 1) := by decide +kernel
theorem dX6_maySendTo_51 : decode cX6_maySendTo 51 = .ok (.goto 43, 3) := by decide +kernel
theorem dX6_maySendTo_54 : decode cX6_maySendTo 54 = .ok (.aload_n 0, 1) := by decide +kernel
theorem dX6_maySendTo_55 : decode cX6_maySendTo 55 = .ok (.getfield 37, 3) := by decide +kernel
theorem dX6_maySendTo_58 : decode cX6_maySendTo 58 = .ok (.iconst 1, 1) := by decide +kernel
theorem dX6_maySendTo_59 : decode cX6_maySendTo 59 = .ok (.if_icmp .ne 35, 3) := by decide +kernel
theorem dX6_maySendTo_62 : decode cX6_maySendTo 62 = .ok (.lload_n 1, 1) := by decide +kernel
theorem dX6_maySendTo_63 : decode cX6_maySendTo 63 = .ok (.bipush 15, 2) := by decide +kernel
theorem dX6_maySendTo_65 : decode cX6_maySendTo 65 = .ok (.lshr, 1) := by decide +kernel
theorem dX6_maySendTo_66 : decode cX6_maySendTo 66 = .ok (.l2i, 1) := by decide +kernel
theorem dX6_maySendTo_67 : decode cX6_maySendTo 67 = .ok (.bipush 15, 2) := by decide +kernel
theorem dX6_maySendTo_69 : decode cX6_maySendTo 69 = .ok (.iand, 1) := by decide +kernel
theorem dX6_maySendTo_70 : decode cX6_maySendTo 70 = .ok (.istore 4, 2) := by decide +kernel
theorem dX6_maySendTo_72 : decode cX6_maySendTo 72 = .ok (.iload_n 3, 1) := by decide +kernel
theorem dX6_maySendTo_73 : decode cX6_maySendTo 73 = .ok (.iload 4, 2) := by decide +kernel
theorem dX6_maySendTo_75 : decode cX6_maySendTo 75 = .ok (.ifCond .ne 9, 3) := by decide +kernel
theorem dX6_maySendTo_78 : decode cX6_maySendTo 78 = .ok (.sipush 255, 3) := by decide +kernel
theorem dX6_maySendTo_81 : decode cX6_maySendTo 81 = .ok (.goto 11, 3) := by decide +kernel
theorem dX6_maySendTo_84 : decode cX6_maySendTo 84 = .ok (.iconst 1, 1) := by decide +kernel
theorem dX6_maySendTo_85 : decode cX6_maySendTo 85 = .ok (.iload 4, 2) := by decide +kernel
theorem dX6_maySendTo_87 : decode cX6_maySendTo 87 = .ok (.iconst 1, 1) := by decide +kernel
theorem dX6_maySendTo_88 : decode cX6_maySendTo 88 = .ok (.isub, 1) := by decide +kernel
theorem dX6_maySendTo_89 : decode cX6_maySendTo 89 = .ok (.ishl, 1) := by decide +kernel
theorem dX6_maySendTo_90 : decode cX6_maySendTo 90 = .ok (.iconst (-1), 1) := by decide +kernel
theorem dX6_maySendTo_91 : decode cX6_maySendTo 91 = .ok (.ixor, 1) := by decide +kernel
theorem dX6_maySendTo_92 : decode cX6_maySendTo 92 = .ok (.iand, 1) := by decide +kernel
theorem dX6_maySendTo_93 : decode cX6_maySendTo 93 = .ok (.istore_n 3, 1) := by decide +kernel
theorem dX6_maySendTo_94 : decode cX6_maySendTo 94 = .ok (.iload_n 3, 1) := by decide +kernel
theorem dX6_maySendTo_95 : decode cX6_maySendTo 95 = .ok (.sipush 255, 3) := by decide +kernel
theorem dX6_maySendTo_98 : decode cX6_maySendTo 98 = .ok (.iand, 1) := by decide +kernel
theorem dX6_maySendTo_99 : decode cX6_maySendTo 99 = .ok (.ireturn, 1) := by decide +kernel
theorem dX6_forget_0 : decode cX6_forget 0 = .ok (.aload_n 0, 1) := by decide +kernel
theorem dX6_forget_1 : decode cX6_forget 1 = .ok (.iconst (-1), 1) := by decide +kernel
theorem dX6_forget_2 : decode cX6_forget 2 = .ok (.putfield 11, 3) := by decide +kernel
theorem dX6_forget_5 : decode cX6_forget 5 = .ok (.return_, 1) := by decide +kernel
theorem dX6_lay_0 : decode cX6_lay 0 = .ok (.aload_n 1, 1) := by decide +kernel
theorem dX6_lay_1 : decode cX6_lay 1 = .ok (.getfield 37, 3) := by decide +kernel
theorem dX6_lay_4 : decode cX6_lay 4 = .ok (.aload_n 1, 1) := by decide +kernel
theorem dX6_lay_5 : decode cX6_lay 5 = .ok (.invokevirtual 49, 3) := by decide +kernel
theorem dX6_lay_8 : decode cX6_lay 8 = .ok (.ifCond .eq 7, 3) := by decide +kernel
theorem dX6_lay_11 : decode cX6_lay 11 = .ok (.iconst 4, 1) := by decide +kernel
theorem dX6_lay_12 : decode cX6_lay 12 = .ok (.goto 4, 3) := by decide +kernel
theorem dX6_lay_15 : decode cX6_lay 15 = .ok (.iconst 0, 1) := by decide +kernel
theorem dX6_lay_16 : decode cX6_lay 16 = .ok (.ior, 1) := by decide +kernel
theorem dX6_lay_17 : decode cX6_lay 17 = .ok (.aload_n 1, 1) := by decide +kernel
theorem dX6_lay_18 : decode cX6_lay 18 = .ok (.getfield 32, 3) := by decide +kernel
theorem dX6_lay_21 : decode cX6_lay 21 = .ok (.iconst 3, 1) := by decide +kernel
theorem dX6_lay_22 : decode cX6_lay 22 = .ok (.ishl, 1) := by decide +kernel
theorem dX6_lay_23 : decode cX6_lay 23 = .ok (.ior, 1) := by decide +kernel
theorem dX6_lay_24 : decode cX6_lay 24 = .ok (.aload_n 1, 1) := by decide +kernel
theorem dX6_lay_25 : decode cX6_lay 25 = .ok (.getfield 61, 3) := by decide +kernel
theorem dX6_lay_28 : decode cX6_lay 28 = .ok (.bipush 6, 2) := by decide +kernel
theorem dX6_lay_30 : decode cX6_lay 30 = .ok (.ishl, 1) := by decide +kernel
theorem dX6_lay_31 : decode cX6_lay 31 = .ok (.ior, 1) := by decide +kernel
theorem dX6_lay_32 : decode cX6_lay 32 = .ok (.istore_n 2, 1) := by decide +kernel
theorem dX6_lay_33 : decode cX6_lay 33 = .ok (.iload_n 2, 1) := by decide +kernel
theorem dX6_lay_34 : decode cX6_lay 34 = .ok (.aload_n 0, 1) := by decide +kernel
theorem dX6_lay_35 : decode cX6_lay 35 = .ok (.getfield 11, 3) := by decide +kernel
theorem dX6_lay_38 : decode cX6_lay 38 = .ok (.if_icmp .eq 72, 3) := by decide +kernel
theorem dX6_lay_41 : decode cX6_lay 41 = .ok (.aload_n 0, 1) := by decide +kernel
theorem dX6_lay_42 : decode cX6_lay 42 = .ok (.iload_n 2, 1) := by decide +kernel
theorem dX6_lay_43 : decode cX6_lay 43 = .ok (.putfield 11, 3) := by decide +kernel
theorem dX6_lay_46 : decode cX6_lay 46 = .ok (.aload_n 0, 1) := by decide +kernel
theorem dX6_lay_47 : decode cX6_lay 47 = .ok (.getfield 29, 3) := by decide +kernel
theorem dX6_lay_50 : decode cX6_lay 50 = .ok (.iconst (-1), 1) := by decide +kernel
theorem dX6_lay_51 : decode cX6_lay 51 = .ok (.invokestatic 66, 3) := by decide +kernel
theorem dX6_lay_54 : decode cX6_lay 54 = .ok (.aload_n 0, 1) := by decide +kernel
theorem dX6_lay_55 : decode cX6_lay 55 = .ok (.iconst 0, 1) := by decide +kernel
theorem dX6_lay_56 : decode cX6_lay 56 = .ok (.putfield 72, 3) := by decide +kernel
theorem dX6_lay_59 : decode cX6_lay 59 = .ok (.aload_n 0, 1) := by decide +kernel
theorem dX6_lay_60 : decode cX6_lay 60 = .ok (.aload_n 1, 1) := by decide +kernel
theorem dX6_lay_61 : decode cX6_lay 61 = .ok (.invokestatic 75, 3) := by decide +kernel
theorem dX6_lay_64 : decode cX6_lay 64 = .ok (.invokevirtual 79, 3) := by decide +kernel
theorem dX6_lay_67 : decode cX6_lay 67 = .ok (.pop, 1) := by decide +kernel
theorem dX6_lay_68 : decode cX6_lay 68 = .ok (.aload_n 0, 1) := by decide +kernel
theorem dX6_lay_69 : decode cX6_lay 69 = .ok (.iconst 1, 1) := by decide +kernel
theorem dX6_lay_70 : decode cX6_lay 70 = .ok (.putfield 82, 3) := by decide +kernel
theorem dX6_lay_73 : decode cX6_lay 73 = .ok (.iconst 0, 1) := by decide +kernel
theorem dX6_lay_74 : decode cX6_lay 74 = .ok (.istore_n 3, 1) := by decide +kernel
theorem dX6_lay_75 : decode cX6_lay 75 = .ok (.iload_n 3, 1) := by decide +kernel
theorem dX6_lay_76 : decode cX6_lay 76 = .ok (.aload_n 0, 1) := by decide +kernel
theorem dX6_lay_77 : decode cX6_lay 77 = .ok (.getfield 15, 3) := by decide +kernel
theorem dX6_lay_80 : decode cX6_lay 80 = .ok (.if_icmp .ge 30, 3) := by decide +kernel
theorem dX6_lay_83 : decode cX6_lay 83 = .ok (.iload_n 3, 1) := by decide +kernel
theorem dX6_lay_84 : decode cX6_lay 84 = .ok (.aload_n 0, 1) := by decide +kernel
theorem dX6_lay_85 : decode cX6_lay 85 = .ok (.getfield 72, 3) := by decide +kernel
theorem dX6_lay_88 : decode cX6_lay 88 = .ok (.if_icmp .ge 22, 3) := by decide +kernel
theorem dX6_lay_91 : decode cX6_lay 91 = .ok (.aload_n 0, 1) := by decide +kernel
theorem dX6_lay_92 : decode cX6_lay 92 = .ok (.getfield 82, 3) := by decide +kernel
theorem dX6_lay_95 : decode cX6_lay 95 = .ok (.ifCond .eq 15, 3) := by decide +kernel
theorem dX6_lay_98 : decode cX6_lay 98 = .ok (.aload_n 0, 1) := by decide +kernel
theorem dX6_lay_99 : decode cX6_lay 99 = .ok (.aload_n 1, 1) := by decide +kernel
theorem dX6_lay_100 : decode cX6_lay 100 = .ok (.iload_n 3, 1) := by decide +kernel
theorem dX6_lay_101 : decode cX6_lay 101 = .ok (.invokevirtual 86, 3) := by decide +kernel
theorem dX6_lay_104 : decode cX6_lay 104 = .ok (.iinc 3 1, 3) := by decide +kernel
theorem dX6_lay_107 : decode cX6_lay 107 = .ok (.goto (-32), 3) := by decide +kernel
theorem dX6_lay_110 : decode cX6_lay 110 = .ok (.aload_n 0, 1) := by decide +kernel
theorem dX6_lay_111 : decode cX6_lay 111 = .ok (.getfield 82, 3) := by decide +kernel
theorem dX6_lay_114 : decode cX6_lay 114 = .ok (.ireturn, 1) := by decide +kernel
theorem dX6_layHand_0 : decode cX6_layHand 0 = .ok (.aload_n 1, 1) := by decide +kernel
theorem dX6_layHand_1 : decode cX6_layHand 1 = .ok (.aload_n 0, 1) := by decide +kernel
theorem dX6_layHand_2 : decode cX6_layHand 2 = .ok (.getfield 18, 3) := by decide +kernel
theorem dX6_layHand_5 : decode cX6_layHand 5 = .ok (.iload_n 2, 1) := by decide +kernel
theorem dX6_layHand_6 : decode cX6_layHand 6 = .ok (.laload, 1) := by decide +kernel
theorem dX6_layHand_7 : decode cX6_layHand 7 = .ok (.invokestatic 90, 3) := by decide +kernel
theorem dX6_layHand_10 : decode cX6_layHand 10 = .ok (.istore_n 3, 1) := by decide +kernel
theorem dX6_layHand_11 : decode cX6_layHand 11 = .ok (.aload_n 0, 1) := by decide +kernel
theorem dX6_layHand_12 : decode cX6_layHand 12 = .ok (.getfield 22, 3) := by decide +kernel
theorem dX6_layHand_15 : decode cX6_layHand 15 = .ok (.iload_n 2, 1) := by decide +kernel
theorem dX6_layHand_16 : decode cX6_layHand 16 = .ok (.iload_n 3, 1) := by decide +kernel
theorem dX6_layHand_17 : decode cX6_layHand 17 = .ok (.iastore, 1) := by decide +kernel
theorem dX6_layHand_18 : decode cX6_layHand 18 = .ok (.iconst 0, 1) := by decide +kernel
theorem dX6_layHand_19 : decode cX6_layHand 19 = .ok (.istore 4, 2) := by decide +kernel
theorem dX6_layHand_21 : decode cX6_layHand 21 = .ok (.iload 4, 2) := by decide +kernel
theorem dX6_layHand_23 : decode cX6_layHand 23 = .ok (.bipush 8, 2) := by decide +kernel
theorem dX6_layHand_25 : decode cX6_layHand 25 = .ok (.if_icmp .ge 63, 3) := by decide +kernel
theorem dX6_layHand_28 : decode cX6_layHand 28 = .ok (.iconst (-1), 1) := by decide +kernel
theorem dX6_layHand_29 : decode cX6_layHand 29 = .ok (.istore 5, 2) := by decide +kernel
theorem dX6_layHand_31 : decode cX6_layHand 31 = .ok (.iload_n 3, 1) := by decide +kernel
theorem dX6_layHand_32 : decode cX6_layHand 32 = .ok (.iload 4, 2) := by decide +kernel
theorem dX6_layHand_34 : decode cX6_layHand 34 = .ok (.ishr, 1) := by decide +kernel
theorem dX6_layHand_35 : decode cX6_layHand 35 = .ok (.iconst 1, 1) := by decide +kernel
theorem dX6_layHand_36 : decode cX6_layHand 36 = .ok (.iand, 1) := by decide +kernel
theorem dX6_layHand_37 : decode cX6_layHand 37 = .ok (.ifCond .eq 31, 3) := by decide +kernel
theorem dX6_layHand_40 : decode cX6_layHand 40 = .ok (.aload_n 0, 1) := by decide +kernel
theorem dX6_layHand_41 : decode cX6_layHand 41 = .ok (.aload_n 1, 1) := by decide +kernel
theorem dX6_layHand_42 : decode cX6_layHand 42 = .ok (.aload_n 0, 1) := by decide +kernel
theorem dX6_layHand_43 : decode cX6_layHand 43 = .ok (.getfield 18, 3) := by decide +kernel
theorem dX6_layHand_46 : decode cX6_layHand 46 = .ok (.iload_n 2, 1) := by decide +kernel
theorem dX6_layHand_47 : decode cX6_layHand 47 = .ok (.laload, 1) := by decide +kernel
theorem dX6_layHand_48 : decode cX6_layHand 48 = .ok (.iload 4, 2) := by decide +kernel
theorem dX6_layHand_50 : decode cX6_layHand 50 = .ok (.invokestatic 94, 3) := by decide +kernel
theorem dX6_layHand_53 : decode cX6_layHand 53 = .ok (.invokevirtual 79, 3) := by decide +kernel
theorem dX6_layHand_56 : decode cX6_layHand 56 = .ok (.istore 5, 2) := by decide +kernel
theorem dX6_layHand_58 : decode cX6_layHand 58 = .ok (.iload 5, 2) := by decide +kernel
theorem dX6_layHand_60 : decode cX6_layHand 60 = .ok (.ifCond .ge 8, 3) := by decide +kernel
theorem dX6_layHand_63 : decode cX6_layHand 63 = .ok (.aload_n 0, 1) := by decide +kernel
theorem dX6_layHand_64 : decode cX6_layHand 64 = .ok (.iconst 0, 1) := by decide +kernel
theorem dX6_layHand_65 : decode cX6_layHand 65 = .ok (.putfield 82, 3) := by decide +kernel
theorem dX6_layHand_68 : decode cX6_layHand 68 = .ok (.aload_n 0, 1) := by decide +kernel
theorem dX6_layHand_69 : decode cX6_layHand 69 = .ok (.getfield 26, 3) := by decide +kernel
theorem dX6_layHand_72 : decode cX6_layHand 72 = .ok (.iload_n 2, 1) := by decide +kernel
theorem dX6_layHand_73 : decode cX6_layHand 73 = .ok (.bipush 8, 2) := by decide +kernel
theorem dX6_layHand_75 : decode cX6_layHand 75 = .ok (.imul, 1) := by decide +kernel
theorem dX6_layHand_76 : decode cX6_layHand 76 = .ok (.iload 4, 2) := by decide +kernel
theorem dX6_layHand_78 : decode cX6_layHand 78 = .ok (.iadd, 1) := by decide +kernel
theorem dX6_layHand_79 : decode cX6_layHand 79 = .ok (.iload 5, 2) := by decide +kernel
theorem dX6_layHand_81 : decode cX6_layHand 81 = .ok (.iastore, 1) := by decide +kernel
theorem dX6_layHand_82 : decode cX6_layHand 82 = .ok (.iinc 4 1, 3) := by decide +kernel
theorem dX6_layHand_85 : decode cX6_layHand 85 = .ok (.goto (-64), 3) := by decide +kernel
theorem dX6_layHand_88 : decode cX6_layHand 88 = .ok (.return_, 1) := by decide +kernel
theorem dX6_placeOf_0 : decode cX6_placeOf 0 = .ok (.aload_n 0, 1) := by decide +kernel
theorem dX6_placeOf_1 : decode cX6_placeOf 1 = .ok (.getfield 29, 3) := by decide +kernel
theorem dX6_placeOf_4 : decode cX6_placeOf 4 = .ok (.arraylength, 1) := by decide +kernel
theorem dX6_placeOf_5 : decode cX6_placeOf 5 = .ok (.iconst 1, 1) := by decide +kernel
theorem dX6_placeOf_6 : decode cX6_placeOf 6 = .ok (.isub, 1) := by decide +kernel
theorem dX6_placeOf_7 : decode cX6_placeOf 7 = .ok (.istore_n 3, 1) := by decide +kernel
theorem dX6_placeOf_8 : decode cX6_placeOf 8 = .ok (.lload_n 1, 1) := by decide +kernel
theorem dX6_placeOf_9 : decode cX6_placeOf 9 = .ok (.ldc2_w 98, 3) := by decide +kernel
theorem dX6_placeOf_12 : decode cX6_placeOf 12 = .ok (.lmul, 1) := by decide +kernel
theorem dX6_placeOf_13 : decode cX6_placeOf 13 = .ok (.bipush 40, 2) := by decide +kernel
theorem dX6_placeOf_15 : decode cX6_placeOf 15 = .ok (.lushr, 1) := by decide +kernel
theorem dX6_placeOf_16 : decode cX6_placeOf 16 = .ok (.l2i, 1) := by decide +kernel
theorem dX6_placeOf_17 : decode cX6_placeOf 17 = .ok (.iload_n 3, 1) := by decide +kernel
theorem dX6_placeOf_18 : decode cX6_placeOf 18 = .ok (.iand, 1) := by decide +kernel
theorem dX6_placeOf_19 : decode cX6_placeOf 19 = .ok (.istore 4, 2) := by decide +kernel
theorem dX6_placeOf_21 : decode cX6_placeOf 21 = .ok (.iconst 0, 1) := by decide +kernel
theorem dX6_placeOf_22 : decode cX6_placeOf 22 = .ok (.istore 5, 2) := by decide +kernel
theorem dX6_placeOf_24 : decode cX6_placeOf 24 = .ok (.iload 5, 2) := by decide +kernel
theorem dX6_placeOf_26 : decode cX6_placeOf 26 = .ok (.iload_n 3, 1) := by decide +kernel
theorem dX6_placeOf_27 : decode cX6_placeOf 27 = .ok (.if_icmp .gt 97, 3) := by decide +kernel
theorem dX6_placeOf_30 : decode cX6_placeOf 30 = .ok (.aload_n 0, 1) := by decide +kernel
theorem dX6_placeOf_31 : decode cX6_placeOf 31 = .ok (.getfield 29, 3) := by decide +kernel
theorem dX6_placeOf_34 : decode cX6_placeOf 34 = .ok (.iload 4, 2) := by decide +kernel
theorem dX6_placeOf_36 : decode cX6_placeOf 36 = .ok (.iaload, 1) := by decide +kernel
theorem dX6_placeOf_37 : decode cX6_placeOf 37 = .ok (.istore 6, 2) := by decide +kernel
theorem dX6_placeOf_39 : decode cX6_placeOf 39 = .ok (.iload 6, 2) := by decide +kernel
theorem dX6_placeOf_41 : decode cX6_placeOf 41 = .ok (.ifCond .ge 54, 3) := by decide +kernel
theorem dX6_placeOf_44 : decode cX6_placeOf 44 = .ok (.aload_n 0, 1) := by decide +kernel
theorem dX6_placeOf_45 : decode cX6_placeOf 45 = .ok (.getfield 72, 3) := by decide +kernel
theorem dX6_placeOf_48 : decode cX6_placeOf 48 = .ok (.aload_n 0, 1) := by decide +kernel
theorem dX6_placeOf_49 : decode cX6_placeOf 49 = .ok (.getfield 15, 3) := by decide +kernel
theorem dX6_placeOf_52 : decode cX6_placeOf 52 = .ok (.if_icmp .lt 5, 3) := by decide +kernel
theorem dX6_placeOf_55 : decode cX6_placeOf 55 = .ok (.iconst (-1), 1) := by decide +kernel
theorem dX6_placeOf_56 : decode cX6_placeOf 56 = .ok (.ireturn, 1) := by decide +kernel
theorem dX6_placeOf_57 : decode cX6_placeOf 57 = .ok (.aload_n 0, 1) := by decide +kernel
theorem dX6_placeOf_58 : decode cX6_placeOf 58 = .ok (.getfield 29, 3) := by decide +kernel
theorem dX6_placeOf_61 : decode cX6_placeOf 61 = .ok (.iload 4, 2) := by decide +kernel
theorem dX6_placeOf_63 : decode cX6_placeOf 63 = .ok (.aload_n 0, 1) := by decide +kernel
theorem dX6_placeOf_64 : decode cX6_placeOf 64 = .ok (.getfield 72, 3) := by decide +kernel
theorem dX6_placeOf_67 : decode cX6_placeOf 67 = .ok (.iastore, 1) := by decide +kernel
theorem dX6_placeOf_68 : decode cX6_placeOf 68 = .ok (.aload_n 0, 1) := by decide +kernel
theorem dX6_placeOf_69 : decode cX6_placeOf 69 = .ok (.getfield 18, 3) := by decide +kernel
theorem dX6_placeOf_72 : decode cX6_placeOf 72 = .ok (.aload_n 0, 1) := by decide +kernel
theorem dX6_placeOf_73 : decode cX6_placeOf 73 = .ok (.getfield 72, 3) := by decide +kernel
theorem dX6_placeOf_76 : decode cX6_placeOf 76 = .ok (.lload_n 1, 1) := by decide +kernel
theorem dX6_placeOf_77 : decode cX6_placeOf 77 = .ok (.lastore, 1) := by decide +kernel
theorem dX6_placeOf_78 : decode cX6_placeOf 78 = .ok (.aload_n 0, 1) := by decide +kernel
theorem dX6_placeOf_79 : decode cX6_placeOf 79 = .ok (.dup, 1) := by decide +kernel
theorem dX6_placeOf_80 : decode cX6_placeOf 80 = .ok (.getfield 72, 3) := by decide +kernel
theorem dX6_placeOf_83 : decode cX6_placeOf 83 = .ok (.iconst 1, 1) := by decide +kernel
theorem dX6_placeOf_84 : decode cX6_placeOf 84 = .ok (.iadd, 1) := by decide +kernel
theorem dX6_placeOf_85 : decode cX6_placeOf 85 = .ok (.putfield 72, 3) := by decide +kernel
theorem dX6_placeOf_88 : decode cX6_placeOf 88 = .ok (.aload_n 0, 1) := by decide +kernel
theorem dX6_placeOf_89 : decode cX6_placeOf 89 = .ok (.getfield 72, 3) := by decide +kernel
theorem dX6_placeOf_92 : decode cX6_placeOf 92 = .ok (.iconst 1, 1) := by decide +kernel
theorem dX6_placeOf_93 : decode cX6_placeOf 93 = .ok (.isub, 1) := by decide +kernel
theorem dX6_placeOf_94 : decode cX6_placeOf 94 = .ok (.ireturn, 1) := by decide +kernel
theorem dX6_placeOf_95 : decode cX6_placeOf 95 = .ok (.aload_n 0, 1) := by decide +kernel
theorem dX6_placeOf_96 : decode cX6_placeOf 96 = .ok (.getfield 18, 3) := by decide +kernel
theorem dX6_placeOf_99 : decode cX6_placeOf 99 = .ok (.iload 6, 2) := by decide +kernel
theorem dX6_placeOf_101 : decode cX6_placeOf 101 = .ok (.laload, 1) := by decide +kernel
theorem dX6_placeOf_102 : decode cX6_placeOf 102 = .ok (.lload_n 1, 1) := by decide +kernel
theorem dX6_placeOf_103 : decode cX6_placeOf 103 = .ok (.lcmp, 1) := by decide +kernel
theorem dX6_placeOf_104 : decode cX6_placeOf 104 = .ok (.ifCond .ne 6, 3) := by decide +kernel
theorem dX6_placeOf_107 : decode cX6_placeOf 107 = .ok (.iload 6, 2) := by decide +kernel
theorem dX6_placeOf_109 : decode cX6_placeOf 109 = .ok (.ireturn, 1) := by decide +kernel
theorem dX6_placeOf_110 : decode cX6_placeOf 110 = .ok (.iload 4, 2) := by decide +kernel
theorem dX6_placeOf_112 : decode cX6_placeOf 112 = .ok (.iconst 1, 1) := by decide +kernel
theorem dX6_placeOf_113 : decode cX6_placeOf 113 = .ok (.iadd, 1) := by decide +kernel
theorem dX6_placeOf_114 : decode cX6_placeOf 114 = .ok (.iload_n 3, 1) := by decide +kernel
theorem dX6_placeOf_115 : decode cX6_placeOf 115 = .ok (.iand, 1) := by decide +kernel
theorem dX6_placeOf_116 : decode cX6_placeOf 116 = .ok (.istore 4, 2) := by decide +kernel
theorem dX6_placeOf_118 : decode cX6_placeOf 118 = .ok (.iinc 5 1, 3) := by decide +kernel
theorem dX6_placeOf_121 : decode cX6_placeOf 121 = .ok (.goto (-97), 3) := by decide +kernel
theorem dX6_placeOf_124 : decode cX6_placeOf 124 = .ok (.iconst (-1), 1) := by decide +kernel
theorem dX6_placeOf_125 : decode cX6_placeOf 125 = .ok (.ireturn, 1) := by decide +kernel
