theorem dX0_init_0 : decode cX0_init 0 = .ok (.aload_n 0, 1) := by decide +kernel
theorem dX0_init_1 : decode cX0_init 1 = .ok (.invokespecial 3, 3) := by decide +kernel
theorem dX0_init_4 : decode cX0_init 4 = .ok (.aload_n 0, 1) := by decide +kernel
theorem dX0_init_5 : decode cX0_init 5 = .ok (.bipush 32, 2) := by decide +kernel
theorem dX0_init_7 : decode cX0_init 7 = .ok (.newarray .int, 2) := by decide +kernel
theorem dX0_init_9 : decode cX0_init 9 = .ok (.putfield 9, 3) := by decide +kernel
theorem dX0_init_12 : decode cX0_init 12 = .ok (.aload_n 0, 1) := by decide +kernel
theorem dX0_init_13 : decode cX0_init 13 = .ok (.bipush 32, 2) := by decide +kernel
theorem dX0_init_15 : decode cX0_init 15 = .ok (.newarray .int, 2) := by decide +kernel
theorem dX0_init_17 : decode cX0_init 17 = .ok (.putfield 15, 3) := by decide +kernel
theorem dX0_init_20 : decode cX0_init 20 = .ok (.aload_n 0, 1) := by decide +kernel
theorem dX0_init_21 : decode cX0_init 21 = .ok (.bipush 80, 2) := by decide +kernel
theorem dX0_init_23 : decode cX0_init 23 = .ok (.newarray .long, 2) := by decide +kernel
theorem dX0_init_25 : decode cX0_init 25 = .ok (.putfield 20, 3) := by decide +kernel
theorem dX0_init_28 : decode cX0_init 28 = .ok (.aload_n 0, 1) := by decide +kernel
theorem dX0_init_29 : decode cX0_init 29 = .ok (.iconst 4, 1) := by decide +kernel
theorem dX0_init_30 : decode cX0_init 30 = .ok (.newarray .long, 2) := by decide +kernel
theorem dX0_init_32 : decode cX0_init 32 = .ok (.putfield 24, 3) := by decide +kernel
theorem dX0_init_35 : decode cX0_init 35 = .ok (.aload_n 0, 1) := by decide +kernel
theorem dX0_init_36 : decode cX0_init 36 = .ok (.getfield 9, 3) := by decide +kernel
theorem dX0_init_39 : decode cX0_init 39 = .ok (.iconst (-1), 1) := by decide +kernel
theorem dX0_init_40 : decode cX0_init 40 = .ok (.invokestatic 27, 3) := by decide +kernel
theorem dX0_init_43 : decode cX0_init 43 = .ok (.return_, 1) := by decide +kernel
theorem dX0_clear_0 : decode cX0_clear 0 = .ok (.aload_n 0, 1) := by decide +kernel
theorem dX0_clear_1 : decode cX0_clear 1 = .ok (.getfield 9, 3) := by decide +kernel
theorem dX0_clear_4 : decode cX0_clear 4 = .ok (.iconst (-1), 1) := by decide +kernel
theorem dX0_clear_5 : decode cX0_clear 5 = .ok (.invokestatic 27, 3) := by decide +kernel
theorem dX0_clear_8 : decode cX0_clear 8 = .ok (.aload_n 0, 1) := by decide +kernel
theorem dX0_clear_9 : decode cX0_clear 9 = .ok (.iconst 0, 1) := by decide +kernel
theorem dX0_clear_10 : decode cX0_clear 10 = .ok (.putfield 33, 3) := by decide +kernel
theorem dX0_clear_13 : decode cX0_clear 13 = .ok (.return_, 1) := by decide +kernel
theorem dX0_isTold_0 : decode cX0_isTold 0 = .ok (.aload_n 0, 1) := by decide +kernel
theorem dX0_isTold_1 : decode cX0_isTold 1 = .ok (.getfield 33, 3) := by decide +kernel
theorem dX0_isTold_4 : decode cX0_isTold 4 = .ok (.iload_n 1, 1) := by decide +kernel
theorem dX0_isTold_5 : decode cX0_isTold 5 = .ok (.ishr, 1) := by decide +kernel
theorem dX0_isTold_6 : decode cX0_isTold 6 = .ok (.iconst 1, 1) := by decide +kernel
theorem dX0_isTold_7 : decode cX0_isTold 7 = .ok (.iand, 1) := by decide +kernel
theorem dX0_isTold_8 : decode cX0_isTold 8 = .ok (.ifCond .eq 7, 3) := by decide +kernel
theorem dX0_isTold_11 : decode cX0_isTold 11 = .ok (.iconst 1, 1) := by decide +kernel
theorem dX0_isTold_12 : decode cX0_isTold 12 = .ok (.goto 4, 3) := by decide +kernel
theorem dX0_isTold_15 : decode cX0_isTold 15 = .ok (.iconst 0, 1) := by decide +kernel
theorem dX0_isTold_16 : decode cX0_isTold 16 = .ok (.ireturn, 1) := by decide +kernel
theorem dX0_tell_0 : decode cX0_tell 0 = .ok (.aload_n 0, 1) := by decide +kernel
theorem dX0_tell_1 : decode cX0_tell 1 = .ok (.getfield 9, 3) := by decide +kernel
theorem dX0_tell_4 : decode cX0_tell 4 = .ok (.iload_n 1, 1) := by decide +kernel
theorem dX0_tell_5 : decode cX0_tell 5 = .ok (.bipush 8, 2) := by decide +kernel
theorem dX0_tell_7 : decode cX0_tell 7 = .ok (.imul, 1) := by decide +kernel
theorem dX0_tell_8 : decode cX0_tell 8 = .ok (.iload_n 2, 1) := by decide +kernel
theorem dX0_tell_9 : decode cX0_tell 9 = .ok (.iadd, 1) := by decide +kernel
theorem dX0_tell_10 : decode cX0_tell 10 = .ok (.iload_n 3, 1) := by decide +kernel
theorem dX0_tell_11 : decode cX0_tell 11 = .ok (.iastore, 1) := by decide +kernel
theorem dX0_tell_12 : decode cX0_tell 12 = .ok (.aload_n 0, 1) := by decide +kernel
theorem dX0_tell_13 : decode cX0_tell 13 = .ok (.getfield 15, 3) := by decide +kernel
theorem dX0_tell_16 : decode cX0_tell 16 = .ok (.iload_n 1, 1) := by decide +kernel
theorem dX0_tell_17 : decode cX0_tell 17 = .ok (.bipush 8, 2) := by decide +kernel
theorem dX0_tell_19 : decode cX0_tell 19 = .ok (.imul, 1) := by decide +kernel
theorem dX0_tell_20 : decode cX0_tell 20 = .ok (.iload_n 2, 1) := by decide +kernel
theorem dX0_tell_21 : decode cX0_tell 21 = .ok (.iadd, 1) := by decide +kernel
theorem dX0_tell_22 : decode cX0_tell 22 = .ok (.iload 4, 2) := by decide +kernel
theorem dX0_tell_24 : decode cX0_tell 24 = .ok (.iastore, 1) := by decide +kernel
theorem dX0_tell_25 : decode cX0_tell 25 = .ok (.aload_n 0, 1) := by decide +kernel
theorem dX0_tell_26 : decode cX0_tell 26 = .ok (.dup, 1) := by decide +kernel
theorem dX0_tell_27 : decode cX0_tell 27 = .ok (.getfield 33, 3) := by decide +kernel
theorem dX0_tell_30 : decode cX0_tell 30 = .ok (.iconst 1, 1) := by decide +kernel
theorem dX0_tell_31 : decode cX0_tell 31 = .ok (.iload_n 1, 1) := by decide +kernel
theorem dX0_tell_32 : decode cX0_tell 32 = .ok (.ishl, 1) := by decide +kernel
theorem dX0_tell_33 : decode cX0_tell 33 = .ok (.ior, 1) := by decide +kernel
theorem dX0_tell_34 : decode cX0_tell 34 = .ok (.putfield 33, 3) := by decide +kernel
theorem dX0_tell_37 : decode cX0_tell 37 = .ok (.return_, 1) := by decide +kernel
theorem dX0_putInto_0 : decode cX0_putInto 0 = .ok (.iconst 0, 1) := by decide +kernel
theorem dX0_putInto_1 : decode cX0_putInto 1 = .ok (.istore_n 3, 1) := by decide +kernel
theorem dX0_putInto_2 : decode cX0_putInto 2 = .ok (.iload_n 3, 1) := by decide +kernel
theorem dX0_putInto_3 : decode cX0_putInto 3 = .ok (.bipush 8, 2) := by decide +kernel
theorem dX0_putInto_5 : decode cX0_putInto 5 = .ok (.if_icmp .ge 57, 3) := by decide +kernel
theorem dX0_putInto_8 : decode cX0_putInto 8 = .ok (.aload_n 0, 1) := by decide +kernel
theorem dX0_putInto_9 : decode cX0_putInto 9 = .ok (.getfield 9, 3) := by decide +kernel
theorem dX0_putInto_12 : decode cX0_putInto 12 = .ok (.iload_n 2, 1) := by decide +kernel
theorem dX0_putInto_13 : decode cX0_putInto 13 = .ok (.bipush 8, 2) := by decide +kernel
theorem dX0_putInto_15 : decode cX0_putInto 15 = .ok (.imul, 1) := by decide +kernel
theorem dX0_putInto_16 : decode cX0_putInto 16 = .ok (.iload_n 3, 1) := by decide +kernel
theorem dX0_putInto_17 : decode cX0_putInto 17 = .ok (.iadd, 1) := by decide +kernel
theorem dX0_putInto_18 : decode cX0_putInto 18 = .ok (.iaload, 1) := by decide +kernel
theorem dX0_putInto_19 : decode cX0_putInto 19 = .ok (.ifCond .lt 37, 3) := by decide +kernel
theorem dX0_putInto_22 : decode cX0_putInto 22 = .ok (.aload_n 1, 1) := by decide +kernel
theorem dX0_putInto_23 : decode cX0_putInto 23 = .ok (.getfield 37, 3) := by decide +kernel
theorem dX0_putInto_26 : decode cX0_putInto 26 = .ok (.iload_n 3, 1) := by decide +kernel
theorem dX0_putInto_27 : decode cX0_putInto 27 = .ok (.aload_n 0, 1) := by decide +kernel
theorem dX0_putInto_28 : decode cX0_putInto 28 = .ok (.getfield 9, 3) := by decide +kernel
theorem dX0_putInto_31 : decode cX0_putInto 31 = .ok (.iload_n 2, 1) := by decide +kernel
theorem dX0_putInto_32 : decode cX0_putInto 32 = .ok (.bipush 8, 2) := by decide +kernel
theorem dX0_putInto_34 : decode cX0_putInto 34 = .ok (.imul, 1) := by decide +kernel
theorem dX0_putInto_35 : decode cX0_putInto 35 = .ok (.iload_n 3, 1) := by decide +kernel
theorem dX0_putInto_36 : decode cX0_putInto 36 = .ok (.iadd, 1) := by decide +kernel
theorem dX0_putInto_37 : decode cX0_putInto 37 = .ok (.iaload, 1) := by decide +kernel
theorem dX0_putInto_38 : decode cX0_putInto 38 = .ok (.iastore, 1) := by decide +kernel
theorem dX0_putInto_39 : decode cX0_putInto 39 = .ok (.aload_n 1, 1) := by decide +kernel
theorem dX0_putInto_40 : decode cX0_putInto 40 = .ok (.getfield 42, 3) := by decide +kernel
theorem dX0_putInto_43 : decode cX0_putInto 43 = .ok (.iload_n 3, 1) := by decide +kernel
theorem dX0_putInto_44 : decode cX0_putInto 44 = .ok (.aload_n 0, 1) := by decide +kernel
theorem dX0_putInto_45 : decode cX0_putInto 45 = .ok (.getfield 15, 3) := by decide +kernel
theorem dX0_putInto_48 : decode cX0_putInto 48 = .ok (.iload_n 2, 1) := by decide +kernel
theorem dX0_putInto_49 : decode cX0_putInto 49 = .ok (.bipush 8, 2) := by decide +kernel
theorem dX0_putInto_51 : decode cX0_putInto 51 = .ok (.imul, 1) := by decide +kernel
theorem dX0_putInto_52 : decode cX0_putInto 52 = .ok (.iload_n 3, 1) := by decide +kernel
theorem dX0_putInto_53 : decode cX0_putInto 53 = .ok (.iadd, 1) := by decide +kernel
theorem dX0_putInto_54 : decode cX0_putInto 54 = .ok (.iaload, 1) := by decide +kernel
theorem dX0_putInto_55 : decode cX0_putInto 55 = .ok (.iastore, 1) := by decide +kernel
theorem dX0_putInto_56 : decode cX0_putInto 56 = .ok (.iinc 3 1, 3) := by decide +kernel
theorem dX0_putInto_59 : decode cX0_putInto 59 = .ok (.goto (-57), 3) := by decide +kernel
theorem dX0_putInto_62 : decode cX0_putInto 62 = .ok (.return_, 1) := by decide +kernel
theorem dX0_noteOdds_0 : decode cX0_noteOdds 0 = .ok (.iconst 0, 1) := by decide +kernel
theorem dX0_noteOdds_1 : decode cX0_noteOdds 1 = .ok (.istore 4, 2) := by decide +kernel
theorem dX0_noteOdds_3 : decode cX0_noteOdds 3 = .ok (.iload 4, 2) := by decide +kernel
theorem dX0_noteOdds_5 : decode cX0_noteOdds 5 = .ok (.aload_n 3, 1) := by decide +kernel
theorem dX0_noteOdds_6 : decode cX0_noteOdds 6 = .ok (.getfield 45, 3) := by decide +kernel
theorem dX0_noteOdds_9 : decode cX0_noteOdds 9 = .ok (.if_icmp .ge 41, 3) := by decide +kernel
theorem dX0_noteOdds_12 : decode cX0_noteOdds 12 = .ok (.aload_n 0, 1) := by decide +kernel
theorem dX0_noteOdds_13 : decode cX0_noteOdds 13 = .ok (.getfield 20, 3) := by decide +kernel
theorem dX0_noteOdds_16 : decode cX0_noteOdds 16 = .ok (.iload_n 1, 1) := by decide +kernel
theorem dX0_noteOdds_17 : decode cX0_noteOdds 17 = .ok (.bipush 20, 2) := by decide +kernel
theorem dX0_noteOdds_19 : decode cX0_noteOdds 19 = .ok (.imul, 1) := by decide +kernel
theorem dX0_noteOdds_20 : decode cX0_noteOdds 20 = .ok (.iload 4, 2) := by decide +kernel
theorem dX0_noteOdds_22 : decode cX0_noteOdds 22 = .ok (.iadd, 1) := by decide +kernel
theorem dX0_noteOdds_23 : decode cX0_noteOdds 23 = .ok (.aload_n 2, 1) := by decide +kernel
theorem dX0_noteOdds_24 : decode cX0_noteOdds 24 = .ok (.aload_n 3, 1) := by decide +kernel
theorem dX0_noteOdds_25 : decode cX0_noteOdds 25 = .ok (.getfield 48, 3) := by decide +kernel
theorem dX0_noteOdds_28 : decode cX0_noteOdds 28 = .ok (.iload 4, 2) := by decide +kernel
theorem dX0_noteOdds_30 : decode cX0_noteOdds 30 = .ok (.bipush 20, 2) := by decide +kernel
theorem dX0_noteOdds_32 : decode cX0_noteOdds 32 = .ok (.imul, 1) := by decide +kernel
theorem dX0_noteOdds_33 : decode cX0_noteOdds 33 = .ok (.aload_n 3, 1) := by decide +kernel
theorem dX0_noteOdds_34 : decode cX0_noteOdds 34 = .ok (.getfield 51, 3) := by decide +kernel
theorem dX0_noteOdds_37 : decode cX0_noteOdds 37 = .ok (.iload 4, 2) := by decide +kernel
theorem dX0_noteOdds_39 : decode cX0_noteOdds 39 = .ok (.iaload, 1) := by decide +kernel
theorem dX0_noteOdds_40 : decode cX0_noteOdds 40 = .ok (.invokevirtual 54, 3) := by decide +kernel
theorem dX0_noteOdds_43 : decode cX0_noteOdds 43 = .ok (.lastore, 1) := by decide +kernel
theorem dX0_noteOdds_44 : decode cX0_noteOdds 44 = .ok (.iinc 4 1, 3) := by decide +kernel
theorem dX0_noteOdds_47 : decode cX0_noteOdds 47 = .ok (.goto (-44), 3) := by decide +kernel
theorem dX0_noteOdds_50 : decode cX0_noteOdds 50 = .ok (.return_, 1) := by decide +kernel
theorem dX0_creditOf_0 : decode cX0_creditOf 0 = .ok (.aload_n 0, 1) := by decide +kernel
theorem dX0_creditOf_1 : decode cX0_creditOf 1 = .ok (.getfield 33, 3) := by decide +kernel
theorem dX0_creditOf_4 : decode cX0_creditOf 4 = .ok (.invokestatic 60, 3) := by decide +kernel
theorem dX0_creditOf_7 : decode cX0_creditOf 7 = .ok (.istore_n 3, 1) := by decide +kernel
theorem dX0_creditOf_8 : decode cX0_creditOf 8 = .ok (.iload_n 3, 1) := by decide +kernel
theorem dX0_creditOf_9 : decode cX0_creditOf 9 = .ok (.ifCond .ne 5, 3) := by decide +kernel
theorem dX0_creditOf_12 : decode cX0_creditOf 12 = .ok (.iconst (-1), 1) := by decide +kernel
theorem dX0_creditOf_13 : decode cX0_creditOf 13 = .ok (.ireturn, 1) := by decide +kernel
theorem dX0_creditOf_14 : decode cX0_creditOf 14 = .ok (.aload_n 0, 1) := by decide +kernel
theorem dX0_creditOf_15 : decode cX0_creditOf 15 = .ok (.getfield 24, 3) := by decide +kernel
theorem dX0_creditOf_18 : decode cX0_creditOf 18 = .ok (.ldc 66, 2) := by decide +kernel
theorem dX0_creditOf_20 : decode cX0_creditOf 20 = .ok (.iload_n 3, 1) := by decide +kernel
theorem dX0_creditOf_21 : decode cX0_creditOf 21 = .ok (.idiv, 1) := by decide +kernel
theorem dX0_creditOf_22 : decode cX0_creditOf 22 = .ok (.i2l, 1) := by decide +kernel
theorem dX0_creditOf_23 : decode cX0_creditOf 23 = .ok (.invokestatic 67, 3) := by decide +kernel
theorem dX0_creditOf_26 : decode cX0_creditOf 26 = .ok (.iconst 0, 1) := by decide +kernel
theorem dX0_creditOf_27 : decode cX0_creditOf 27 = .ok (.istore 4, 2) := by decide +kernel
theorem dX0_creditOf_29 : decode cX0_creditOf 29 = .ok (.iload 4, 2) := by decide +kernel
theorem dX0_creditOf_31 : decode cX0_creditOf 31 = .ok (.iload_n 2, 1) := by decide +kernel
theorem dX0_creditOf_32 : decode cX0_creditOf 32 = .ok (.if_icmp .ge 15, 3) := by decide +kernel
theorem dX0_creditOf_35 : decode cX0_creditOf 35 = .ok (.aload_n 0, 1) := by decide +kernel
theorem dX0_creditOf_36 : decode cX0_creditOf 36 = .ok (.iload 4, 2) := by decide +kernel
theorem dX0_creditOf_38 : decode cX0_creditOf 38 = .ok (.invokevirtual 70, 3) := by decide +kernel
theorem dX0_creditOf_41 : decode cX0_creditOf 41 = .ok (.iinc 4 1, 3) := by decide +kernel
theorem dX0_creditOf_44 : decode cX0_creditOf 44 = .ok (.goto (-15), 3) := by decide +kernel
theorem dX0_creditOf_47 : decode cX0_creditOf 47 = .ok (.aload_n 0, 1) := by decide +kernel
theorem dX0_creditOf_48 : decode cX0_creditOf 48 = .ok (.getfield 24, 3) := by decide +kernel
theorem dX0_creditOf_51 : decode cX0_creditOf 51 = .ok (.iload_n 1, 1) := by decide +kernel
theorem dX0_creditOf_52 : decode cX0_creditOf 52 = .ok (.laload, 1) := by decide +kernel
theorem dX0_creditOf_53 : decode cX0_creditOf 53 = .ok (.l2i, 1) := by decide +kernel
theorem dX0_creditOf_54 : decode cX0_creditOf 54 = .ok (.ireturn, 1) := by decide +kernel
theorem dX0_weighBy_0 : decode cX0_weighBy 0 = .ok (.lconst 0, 1) := by decide +kernel
theorem dX0_weighBy_1 : decode cX0_weighBy 1 = .ok (.lstore_n 2, 1) := by decide +kernel
theorem dX0_weighBy_2 : decode cX0_weighBy 2 = .ok (.iconst 0, 1) := by decide +kernel
theorem dX0_weighBy_3 : decode cX0_weighBy 3 = .ok (.istore 4, 2) := by decide +kernel
theorem dX0_weighBy_5 : decode cX0_weighBy 5 = .ok (.iload 4, 2) := by decide +kernel
theorem dX0_weighBy_7 : decode cX0_weighBy 7 = .ok (.iconst 4, 1) := by decide +kernel
theorem dX0_weighBy_8 : decode cX0_weighBy 8 = .ok (.if_icmp .ge 58, 3) := by decide +kernel
theorem dX0_weighBy_11 : decode cX0_weighBy 11 = .ok (.aload_n 0, 1) := by decide +kernel
theorem dX0_weighBy_12 : decode cX0_weighBy 12 = .ok (.iload 4, 2) := by decide +kernel
theorem dX0_weighBy_14 : decode cX0_weighBy 14 = .ok (.invokevirtual 74, 3) := by decide +kernel
theorem dX0_weighBy_17 : decode cX0_weighBy 17 = .ok (.ifCond .eq 43, 3) := by decide +kernel
theorem dX0_weighBy_20 : decode cX0_weighBy 20 = .ok (.aload_n 0, 1) := by decide +kernel
theorem dX0_weighBy_21 : decode cX0_weighBy 21 = .ok (.getfield 24, 3) := by decide +kernel
theorem dX0_weighBy_24 : decode cX0_weighBy 24 = .ok (.iload 4, 2) := by decide +kernel
theorem dX0_weighBy_26 : decode cX0_weighBy 26 = .ok (.dup2, 1) := by decide +kernel
theorem dX0_weighBy_27 : decode cX0_weighBy 27 = .ok (.laload, 1) := by decide +kernel
theorem dX0_weighBy_28 : decode cX0_weighBy 28 = .ok (.lconst 1, 1) := by decide +kernel
theorem dX0_weighBy_29 : decode cX0_weighBy 29 = .ok (.aload_n 0, 1) := by decide +kernel
theorem dX0_weighBy_30 : decode cX0_weighBy 30 = .ok (.getfield 20, 3) := by decide +kernel
theorem dX0_weighBy_33 : decode cX0_weighBy 33 = .ok (.iload 4, 2) := by decide +kernel
theorem dX0_weighBy_35 : decode cX0_weighBy 35 = .ok (.bipush 20, 2) := by decide +kernel
theorem dX0_weighBy_37 : decode cX0_weighBy 37 = .ok (.imul, 1) := by decide +kernel
theorem dX0_weighBy_38 : decode cX0_weighBy 38 = .ok (.iload_n 1, 1) := by decide +kernel
theorem dX0_weighBy_39 : decode cX0_weighBy 39 = .ok (.iadd, 1) := by decide +kernel
theorem dX0_weighBy_40 : decode cX0_weighBy 40 = .ok (.laload, 1) := by decide +kernel
theorem dX0_weighBy_41 : decode cX0_weighBy 41 = .ok (.ldc2_w 78, 3) := by decide +kernel
theorem dX0_weighBy_44 : decode cX0_weighBy 44 = .ok (.ldiv, 1) := by decide +kernel
theorem dX0_weighBy_45 : decode cX0_weighBy 45 = .ok (.invokestatic 80, 3) := by decide +kernel
theorem dX0_weighBy_48 : decode cX0_weighBy 48 = .ok (.lmul, 1) := by decide +kernel
theorem dX0_weighBy_49 : decode cX0_weighBy 49 = .ok (.lastore, 1) := by decide +kernel
theorem dX0_weighBy_50 : decode cX0_weighBy 50 = .ok (.lload_n 2, 1) := by decide +kernel
theorem dX0_weighBy_51 : decode cX0_weighBy 51 = .ok (.aload_n 0, 1) := by decide +kernel
theorem dX0_weighBy_52 : decode cX0_weighBy 52 = .ok (.getfield 24, 3) := by decide +kernel
theorem dX0_weighBy_55 : decode cX0_weighBy 55 = .ok (.iload 4, 2) := by decide +kernel
theorem dX0_weighBy_57 : decode cX0_weighBy 57 = .ok (.laload, 1) := by decide +kernel
theorem dX0_weighBy_58 : decode cX0_weighBy 58 = .ok (.ladd, 1) := by decide +kernel
theorem dX0_weighBy_59 : decode cX0_weighBy 59 = .ok (.lstore_n 2, 1) := by decide +kernel
theorem dX0_weighBy_60 : decode cX0_weighBy 60 = .ok (.iinc 4 1, 3) := by decide +kernel
theorem dX0_weighBy_63 : decode cX0_weighBy 63 = .ok (.goto (-58), 3) := by decide +kernel
theorem dX0_weighBy_66 : decode cX0_weighBy 66 = .ok (.lload_n 2, 1) := by decide +kernel
theorem dX0_weighBy_67 : decode cX0_weighBy 67 = .ok (.lconst 0, 1) := by decide +kernel
theorem dX0_weighBy_68 : decode cX0_weighBy 68 = .ok (.lcmp, 1) := by decide +kernel
theorem dX0_weighBy_69 : decode cX0_weighBy 69 = .ok (.ifCond .gt 4, 3) := by decide +kernel
theorem dX0_weighBy_72 : decode cX0_weighBy 72 = .ok (.return_, 1) := by decide +kernel
theorem dX0_weighBy_73 : decode cX0_weighBy 73 = .ok (.iconst 0, 1) := by decide +kernel
theorem dX0_weighBy_74 : decode cX0_weighBy 74 = .ok (.istore 4, 2) := by decide +kernel
theorem dX0_weighBy_76 : decode cX0_weighBy 76 = .ok (.iload 4, 2) := by decide +kernel
theorem dX0_weighBy_78 : decode cX0_weighBy 78 = .ok (.iconst 4, 1) := by decide +kernel
theorem dX0_weighBy_79 : decode cX0_weighBy 79 = .ok (.if_icmp .ge 38, 3) := by decide +kernel
theorem dX0_weighBy_82 : decode cX0_weighBy 82 = .ok (.aload_n 0, 1) := by decide +kernel
theorem dX0_weighBy_83 : decode cX0_weighBy 83 = .ok (.iload 4, 2) := by decide +kernel
theorem dX0_weighBy_85 : decode cX0_weighBy 85 = .ok (.invokevirtual 74, 3) := by decide +kernel
theorem dX0_weighBy_88 : decode cX0_weighBy 88 = .ok (.ifCond .eq 23, 3) := by decide +kernel
theorem dX0_weighBy_91 : decode cX0_weighBy 91 = .ok (.aload_n 0, 1) := by decide +kernel
theorem dX0_weighBy_92 : decode cX0_weighBy 92 = .ok (.getfield 24, 3) := by decide +kernel
theorem dX0_weighBy_95 : decode cX0_weighBy 95 = .ok (.iload 4, 2) := by decide +kernel
theorem dX0_weighBy_97 : decode cX0_weighBy 97 = .ok (.aload_n 0, 1) := by decide +kernel
theorem dX0_weighBy_98 : decode cX0_weighBy 98 = .ok (.getfield 24, 3) := by decide +kernel
theorem dX0_weighBy_101 : decode cX0_weighBy 101 = .ok (.iload 4, 2) := by decide +kernel
theorem dX0_weighBy_103 : decode cX0_weighBy 103 = .ok (.laload, 1) := by decide +kernel
theorem dX0_weighBy_104 : decode cX0_weighBy 104 = .ok (.ldc2_w 86, 3) := by decide +kernel
theorem dX0_weighBy_107 : decode cX0_weighBy 107 = .ok (.lmul, 1) := by decide +kernel
theorem dX0_weighBy_108 : decode cX0_weighBy 108 = .ok (.lload_n 2, 1) := by decide +kernel
theorem dX0_weighBy_109 : decode cX0_weighBy 109 = .ok (.ldiv, 1) := by decide +kernel
theorem dX0_weighBy_110 : decode cX0_weighBy 110 = .ok (.lastore, 1) := by decide +kernel
theorem dX0_weighBy_111 : decode cX0_weighBy 111 = .ok (.iinc 4 1, 3) := by decide +kernel
theorem dX0_weighBy_114 : decode cX0_weighBy 114 = .ok (.goto (-38), 3) := by decide +kernel
theorem dX0_weighBy_117 : decode cX0_weighBy 117 = .ok (.return_, 1) := by decide +kernel
