theorem dX5_init_0 : decode cX5_init 0 = .ok (.aload_n 0, 1) := by decide +kernel
theorem dX5_init_1 : decode cX5_init 1 = .ok (.invokespecial 3, 3) := by decide +kernel
theorem dX5_init_4 : decode cX5_init 4 = .ok (.aload_n 0, 1) := by decide +kernel
theorem dX5_init_5 : decode cX5_init 5 = .ok (.bipush 8, 2) := by decide +kernel
theorem dX5_init_7 : decode cX5_init 7 = .ok (.newarray .int, 2) := by decide +kernel
theorem dX5_init_9 : decode cX5_init 9 = .ok (.putfield 9, 3) := by decide +kernel
theorem dX5_init_12 : decode cX5_init 12 = .ok (.aload_n 0, 1) := by decide +kernel
theorem dX5_init_13 : decode cX5_init 13 = .ok (.bipush 8, 2) := by decide +kernel
theorem dX5_init_15 : decode cX5_init 15 = .ok (.newarray .int, 2) := by decide +kernel
theorem dX5_init_17 : decode cX5_init 17 = .ok (.putfield 15, 3) := by decide +kernel
theorem dX5_init_20 : decode cX5_init 20 = .ok (.aload_n 0, 1) := by decide +kernel
theorem dX5_init_21 : decode cX5_init 21 = .ok (.bipush 8, 2) := by decide +kernel
theorem dX5_init_23 : decode cX5_init 23 = .ok (.newarray .int, 2) := by decide +kernel
theorem dX5_init_25 : decode cX5_init 25 = .ok (.putfield 18, 3) := by decide +kernel
theorem dX5_init_28 : decode cX5_init 28 = .ok (.aload_n 0, 1) := by decide +kernel
theorem dX5_init_29 : decode cX5_init 29 = .ok (.bipush 64, 2) := by decide +kernel
theorem dX5_init_31 : decode cX5_init 31 = .ok (.newarray .int, 2) := by decide +kernel
theorem dX5_init_33 : decode cX5_init 33 = .ok (.putfield 21, 3) := by decide +kernel
theorem dX5_init_36 : decode cX5_init 36 = .ok (.aload_n 0, 1) := by decide +kernel
theorem dX5_init_37 : decode cX5_init 37 = .ok (.invokevirtual 24, 3) := by decide +kernel
theorem dX5_init_40 : decode cX5_init 40 = .ok (.return_, 1) := by decide +kernel
theorem dX5_reset_0 : decode cX5_reset 0 = .ok (.aload_n 0, 1) := by decide +kernel
theorem dX5_reset_1 : decode cX5_reset 1 = .ok (.iconst 0, 1) := by decide +kernel
theorem dX5_reset_2 : decode cX5_reset 2 = .ok (.putfield 27, 3) := by decide +kernel
theorem dX5_reset_5 : decode cX5_reset 5 = .ok (.aload_n 0, 1) := by decide +kernel
theorem dX5_reset_6 : decode cX5_reset 6 = .ok (.getfield 9, 3) := by decide +kernel
theorem dX5_reset_9 : decode cX5_reset 9 = .ok (.iconst 0, 1) := by decide +kernel
theorem dX5_reset_10 : decode cX5_reset 10 = .ok (.invokestatic 31, 3) := by decide +kernel
theorem dX5_reset_13 : decode cX5_reset 13 = .ok (.aload_n 0, 1) := by decide +kernel
theorem dX5_reset_14 : decode cX5_reset 14 = .ok (.getfield 15, 3) := by decide +kernel
theorem dX5_reset_17 : decode cX5_reset 17 = .ok (.iconst 0, 1) := by decide +kernel
theorem dX5_reset_18 : decode cX5_reset 18 = .ok (.invokestatic 31, 3) := by decide +kernel
theorem dX5_reset_21 : decode cX5_reset 21 = .ok (.aload_n 0, 1) := by decide +kernel
theorem dX5_reset_22 : decode cX5_reset 22 = .ok (.getfield 18, 3) := by decide +kernel
theorem dX5_reset_25 : decode cX5_reset 25 = .ok (.iconst 0, 1) := by decide +kernel
theorem dX5_reset_26 : decode cX5_reset 26 = .ok (.invokestatic 31, 3) := by decide +kernel
theorem dX5_reset_29 : decode cX5_reset 29 = .ok (.aload_n 0, 1) := by decide +kernel
theorem dX5_reset_30 : decode cX5_reset 30 = .ok (.getfield 21, 3) := by decide +kernel
theorem dX5_reset_33 : decode cX5_reset 33 = .ok (.iconst 0, 1) := by decide +kernel
theorem dX5_reset_34 : decode cX5_reset 34 = .ok (.invokestatic 31, 3) := by decide +kernel
theorem dX5_reset_37 : decode cX5_reset 37 = .ok (.aload_n 0, 1) := by decide +kernel
theorem dX5_reset_38 : decode cX5_reset 38 = .ok (.iconst 1, 1) := by decide +kernel
theorem dX5_reset_39 : decode cX5_reset 39 = .ok (.putfield 37, 3) := by decide +kernel
theorem dX5_reset_42 : decode cX5_reset 42 = .ok (.aload_n 0, 1) := by decide +kernel
theorem dX5_reset_43 : decode cX5_reset 43 = .ok (.iconst 1, 1) := by decide +kernel
theorem dX5_reset_44 : decode cX5_reset 44 = .ok (.putfield 40, 3) := by decide +kernel
theorem dX5_reset_47 : decode cX5_reset 47 = .ok (.aload_n 0, 1) := by decide +kernel
theorem dX5_reset_48 : decode cX5_reset 48 = .ok (.bipush 8, 2) := by decide +kernel
theorem dX5_reset_50 : decode cX5_reset 50 = .ok (.putfield 43, 3) := by decide +kernel
theorem dX5_reset_53 : decode cX5_reset 53 = .ok (.aload_n 0, 1) := by decide +kernel
theorem dX5_reset_54 : decode cX5_reset 54 = .ok (.iconst 0, 1) := by decide +kernel
theorem dX5_reset_55 : decode cX5_reset 55 = .ok (.putfield 46, 3) := by decide +kernel
theorem dX5_reset_58 : decode cX5_reset 58 = .ok (.aload_n 0, 1) := by decide +kernel
theorem dX5_reset_59 : decode cX5_reset 59 = .ok (.iconst 0, 1) := by decide +kernel
theorem dX5_reset_60 : decode cX5_reset 60 = .ok (.putfield 49, 3) := by decide +kernel
theorem dX5_reset_63 : decode cX5_reset 63 = .ok (.aload_n 0, 1) := by decide +kernel
theorem dX5_reset_64 : decode cX5_reset 64 = .ok (.iconst 0, 1) := by decide +kernel
theorem dX5_reset_65 : decode cX5_reset 65 = .ok (.putfield 52, 3) := by decide +kernel
theorem dX5_reset_68 : decode cX5_reset 68 = .ok (.aload_n 0, 1) := by decide +kernel
theorem dX5_reset_69 : decode cX5_reset 69 = .ok (.iconst 1, 1) := by decide +kernel
theorem dX5_reset_70 : decode cX5_reset 70 = .ok (.putfield 55, 3) := by decide +kernel
theorem dX5_reset_73 : decode cX5_reset 73 = .ok (.aload_n 0, 1) := by decide +kernel
theorem dX5_reset_74 : decode cX5_reset 74 = .ok (.iconst 0, 1) := by decide +kernel
theorem dX5_reset_75 : decode cX5_reset 75 = .ok (.putfield 58, 3) := by decide +kernel
theorem dX5_reset_78 : decode cX5_reset 78 = .ok (.aload_n 0, 1) := by decide +kernel
theorem dX5_reset_79 : decode cX5_reset 79 = .ok (.iconst 0, 1) := by decide +kernel
theorem dX5_reset_80 : decode cX5_reset 80 = .ok (.putfield 61, 3) := by decide +kernel
theorem dX5_reset_83 : decode cX5_reset 83 = .ok (.return_, 1) := by decide +kernel
theorem dX5_copy_0 : decode cX5_copy 0 = .ok (.aload_n 0, 1) := by decide +kernel
theorem dX5_copy_1 : decode cX5_copy 1 = .ok (.aload_n 1, 1) := by decide +kernel
theorem dX5_copy_2 : decode cX5_copy 2 = .ok (.getfield 27, 3) := by decide +kernel
theorem dX5_copy_5 : decode cX5_copy 5 = .ok (.putfield 27, 3) := by decide +kernel
theorem dX5_copy_8 : decode cX5_copy 8 = .ok (.aload_n 1, 1) := by decide +kernel
theorem dX5_copy_9 : decode cX5_copy 9 = .ok (.getfield 9, 3) := by decide +kernel
theorem dX5_copy_12 : decode cX5_copy 12 = .ok (.iconst 0, 1) := by decide +kernel
theorem dX5_copy_13 : decode cX5_copy 13 = .ok (.aload_n 0, 1) := by decide +kernel
theorem dX5_copy_14 : decode cX5_copy 14 = .ok (.getfield 9, 3) := by decide +kernel
theorem dX5_copy_17 : decode cX5_copy 17 = .ok (.iconst 0, 1) := by decide +kernel
theorem dX5_copy_18 : decode cX5_copy 18 = .ok (.bipush 8, 2) := by decide +kernel
theorem dX5_copy_20 : decode cX5_copy 20 = .ok (.invokestatic 64, 3) := by decide +kernel
theorem dX5_copy_23 : decode cX5_copy 23 = .ok (.aload_n 1, 1) := by decide +kernel
theorem dX5_copy_24 : decode cX5_copy 24 = .ok (.getfield 15, 3) := by decide +kernel
theorem dX5_copy_27 : decode cX5_copy 27 = .ok (.iconst 0, 1) := by decide +kernel
theorem dX5_copy_28 : decode cX5_copy 28 = .ok (.aload_n 0, 1) := by decide +kernel
theorem dX5_copy_29 : decode cX5_copy 29 = .ok (.getfield 15, 3) := by decide +kernel
theorem dX5_copy_32 : decode cX5_copy 32 = .ok (.iconst 0, 1) := by decide +kernel
theorem dX5_copy_33 : decode cX5_copy 33 = .ok (.bipush 8, 2) := by decide +kernel
theorem dX5_copy_35 : decode cX5_copy 35 = .ok (.invokestatic 64, 3) := by decide +kernel
theorem dX5_copy_38 : decode cX5_copy 38 = .ok (.aload_n 1, 1) := by decide +kernel
theorem dX5_copy_39 : decode cX5_copy 39 = .ok (.getfield 18, 3) := by decide +kernel
theorem dX5_copy_42 : decode cX5_copy 42 = .ok (.iconst 0, 1) := by decide +kernel
theorem dX5_copy_43 : decode cX5_copy 43 = .ok (.aload_n 0, 1) := by decide +kernel
theorem dX5_copy_44 : decode cX5_copy 44 = .ok (.getfield 18, 3) := by decide +kernel
theorem dX5_copy_47 : decode cX5_copy 47 = .ok (.iconst 0, 1) := by decide +kernel
theorem dX5_copy_48 : decode cX5_copy 48 = .ok (.bipush 8, 2) := by decide +kernel
theorem dX5_copy_50 : decode cX5_copy 50 = .ok (.invokestatic 64, 3) := by decide +kernel
theorem dX5_copy_53 : decode cX5_copy 53 = .ok (.aload_n 1, 1) := by decide +kernel
theorem dX5_copy_54 : decode cX5_copy 54 = .ok (.getfield 21, 3) := by decide +kernel
theorem dX5_copy_57 : decode cX5_copy 57 = .ok (.iconst 0, 1) := by decide +kernel
theorem dX5_copy_58 : decode cX5_copy 58 = .ok (.aload_n 0, 1) := by decide +kernel
theorem dX5_copy_59 : decode cX5_copy 59 = .ok (.getfield 21, 3) := by decide +kernel
theorem dX5_copy_62 : decode cX5_copy 62 = .ok (.iconst 0, 1) := by decide +kernel
theorem dX5_copy_63 : decode cX5_copy 63 = .ok (.bipush 64, 2) := by decide +kernel
theorem dX5_copy_65 : decode cX5_copy 65 = .ok (.invokestatic 64, 3) := by decide +kernel
theorem dX5_copy_68 : decode cX5_copy 68 = .ok (.aload_n 0, 1) := by decide +kernel
theorem dX5_copy_69 : decode cX5_copy 69 = .ok (.aload_n 1, 1) := by decide +kernel
theorem dX5_copy_70 : decode cX5_copy 70 = .ok (.getfield 37, 3) := by decide +kernel
theorem dX5_copy_73 : decode cX5_copy 73 = .ok (.putfield 37, 3) := by decide +kernel
theorem dX5_copy_76 : decode cX5_copy 76 = .ok (.aload_n 0, 1) := by decide +kernel
theorem dX5_copy_77 : decode cX5_copy 77 = .ok (.aload_n 1, 1) := by decide +kernel
theorem dX5_copy_78 : decode cX5_copy 78 = .ok (.getfield 40, 3) := by decide +kernel
theorem dX5_copy_81 : decode cX5_copy 81 = .ok (.putfield 40, 3) := by decide +kernel
theorem dX5_copy_84 : decode cX5_copy 84 = .ok (.aload_n 0, 1) := by decide +kernel
theorem dX5_copy_85 : decode cX5_copy 85 = .ok (.aload_n 1, 1) := by decide +kernel
theorem dX5_copy_86 : decode cX5_copy 86 = .ok (.getfield 43, 3) := by decide +kernel
theorem dX5_copy_89 : decode cX5_copy 89 = .ok (.putfield 43, 3) := by decide +kernel
theorem dX5_copy_92 : decode cX5_copy 92 = .ok (.aload_n 0, 1) := by decide +kernel
theorem dX5_copy_93 : decode cX5_copy 93 = .ok (.aload_n 1, 1) := by decide +kernel
theorem dX5_copy_94 : decode cX5_copy 94 = .ok (.getfield 46, 3) := by decide +kernel
theorem dX5_copy_97 : decode cX5_copy 97 = .ok (.putfield 46, 3) := by decide +kernel
theorem dX5_copy_100 : decode cX5_copy 100 = .ok (.aload_n 0, 1) := by decide +kernel
theorem dX5_copy_101 : decode cX5_copy 101 = .ok (.aload_n 1, 1) := by decide +kernel
theorem dX5_copy_102 : decode cX5_copy 102 = .ok (.getfield 49, 3) := by decide +kernel
theorem dX5_copy_105 : decode cX5_copy 105 = .ok (.putfield 49, 3) := by decide +kernel
theorem dX5_copy_108 : decode cX5_copy 108 = .ok (.aload_n 0, 1) := by decide +kernel
theorem dX5_copy_109 : decode cX5_copy 109 = .ok (.aload_n 1, 1) := by decide +kernel
theorem dX5_copy_110 : decode cX5_copy 110 = .ok (.getfield 52, 3) := by decide +kernel
theorem dX5_copy_113 : decode cX5_copy 113 = .ok (.putfield 52, 3) := by decide +kernel
theorem dX5_copy_116 : decode cX5_copy 116 = .ok (.aload_n 0, 1) := by decide +kernel
theorem dX5_copy_117 : decode cX5_copy 117 = .ok (.aload_n 1, 1) := by decide +kernel
theorem dX5_copy_118 : decode cX5_copy 118 = .ok (.getfield 55, 3) := by decide +kernel
theorem dX5_copy_121 : decode cX5_copy 121 = .ok (.putfield 55, 3) := by decide +kernel
theorem dX5_copy_124 : decode cX5_copy 124 = .ok (.aload_n 0, 1) := by decide +kernel
theorem dX5_copy_125 : decode cX5_copy 125 = .ok (.aload_n 1, 1) := by decide +kernel
theorem dX5_copy_126 : decode cX5_copy 126 = .ok (.getfield 58, 3) := by decide +kernel
theorem dX5_copy_129 : decode cX5_copy 129 = .ok (.putfield 58, 3) := by decide +kernel
theorem dX5_copy_132 : decode cX5_copy 132 = .ok (.aload_n 0, 1) := by decide +kernel
theorem dX5_copy_133 : decode cX5_copy 133 = .ok (.aload_n 1, 1) := by decide +kernel
theorem dX5_copy_134 : decode cX5_copy 134 = .ok (.getfield 61, 3) := by decide +kernel
theorem dX5_copy_137 : decode cX5_copy 137 = .ok (.putfield 61, 3) := by decide +kernel
theorem dX5_copy_140 : decode cX5_copy 140 = .ok (.return_, 1) := by decide +kernel
theorem dX5_isAsked_0 : decode cX5_isAsked 0 = .ok (.aload_n 0, 1) := by decide +kernel
theorem dX5_isAsked_1 : decode cX5_isAsked 1 = .ok (.getfield 46, 3) := by decide +kernel
theorem dX5_isAsked_4 : decode cX5_isAsked 4 = .ok (.aload_n 1, 1) := by decide +kernel
theorem dX5_isAsked_5 : decode cX5_isAsked 5 = .ok (.getfield 46, 3) := by decide +kernel
theorem dX5_isAsked_8 : decode cX5_isAsked 8 = .ok (.if_icmp .ne 25, 3) := by decide +kernel
theorem dX5_isAsked_11 : decode cX5_isAsked 11 = .ok (.aload_n 0, 1) := by decide +kernel
theorem dX5_isAsked_12 : decode cX5_isAsked 12 = .ok (.getfield 49, 3) := by decide +kernel
theorem dX5_isAsked_15 : decode cX5_isAsked 15 = .ok (.aload_n 1, 1) := by decide +kernel
theorem dX5_isAsked_16 : decode cX5_isAsked 16 = .ok (.getfield 49, 3) := by decide +kernel
theorem dX5_isAsked_19 : decode cX5_isAsked 19 = .ok (.if_icmp .ne 14, 3) := by decide +kernel
theorem dX5_isAsked_22 : decode cX5_isAsked 22 = .ok (.aload_n 0, 1) := by decide +kernel
theorem dX5_isAsked_23 : decode cX5_isAsked 23 = .ok (.getfield 52, 3) := by decide +kernel
theorem dX5_isAsked_26 : decode cX5_isAsked 26 = .ok (.aload_n 1, 1) := by decide +kernel
theorem dX5_isAsked_27 : decode cX5_isAsked 27 = .ok (.getfield 52, 3) := by decide +kernel
theorem dX5_isAsked_30 : decode cX5_isAsked 30 = .ok (.if_icmp .eq 5, 3) := by decide +kernel
theorem dX5_isAsked_33 : decode cX5_isAsked 33 = .ok (.iconst 0, 1) := by decide +kernel
theorem dX5_isAsked_34 : decode cX5_isAsked 34 = .ok (.ireturn, 1) := by decide +kernel
theorem dX5_isAsked_35 : decode cX5_isAsked 35 = .ok (.aload_n 0, 1) := by decide +kernel
theorem dX5_isAsked_36 : decode cX5_isAsked 36 = .ok (.getfield 55, 3) := by decide +kernel
theorem dX5_isAsked_39 : decode cX5_isAsked 39 = .ok (.aload_n 1, 1) := by decide +kernel
theorem dX5_isAsked_40 : decode cX5_isAsked 40 = .ok (.getfield 55, 3) := by decide +kernel
theorem dX5_isAsked_43 : decode cX5_isAsked 43 = .ok (.if_icmp .ne 25, 3) := by decide +kernel
theorem dX5_isAsked_46 : decode cX5_isAsked 46 = .ok (.aload_n 0, 1) := by decide +kernel
theorem dX5_isAsked_47 : decode cX5_isAsked 47 = .ok (.getfield 58, 3) := by decide +kernel
theorem dX5_isAsked_50 : decode cX5_isAsked 50 = .ok (.aload_n 1, 1) := by decide +kernel
theorem dX5_isAsked_51 : decode cX5_isAsked 51 = .ok (.getfield 58, 3) := by decide +kernel
theorem dX5_isAsked_54 : decode cX5_isAsked 54 = .ok (.if_icmp .ne 14, 3) := by decide +kernel
theorem dX5_isAsked_57 : decode cX5_isAsked 57 = .ok (.aload_n 0, 1) := by decide +kernel
theorem dX5_isAsked_58 : decode cX5_isAsked 58 = .ok (.getfield 61, 3) := by decide +kernel
theorem dX5_isAsked_61 : decode cX5_isAsked 61 = .ok (.aload_n 1, 1) := by decide +kernel
theorem dX5_isAsked_62 : decode cX5_isAsked 62 = .ok (.getfield 61, 3) := by decide +kernel
theorem dX5_isAsked_65 : decode cX5_isAsked 65 = .ok (.if_icmp .eq 5, 3) := by decide +kernel
theorem dX5_isAsked_68 : decode cX5_isAsked 68 = .ok (.iconst 0, 1) := by decide +kernel
theorem dX5_isAsked_69 : decode cX5_isAsked 69 = .ok (.ireturn, 1) := by decide +kernel
theorem dX5_isAsked_70 : decode cX5_isAsked 70 = .ok (.iconst 0, 1) := by decide +kernel
theorem dX5_isAsked_71 : decode cX5_isAsked 71 = .ok (.istore_n 2, 1) := by decide +kernel
theorem dX5_isAsked_72 : decode cX5_isAsked 72 = .ok (.iload_n 2, 1) := by decide +kernel
theorem dX5_isAsked_73 : decode cX5_isAsked 73 = .ok (.bipush 8, 2) := by decide +kernel
theorem dX5_isAsked_75 : decode cX5_isAsked 75 = .ok (.if_icmp .ge 41, 3) := by decide +kernel
theorem dX5_isAsked_78 : decode cX5_isAsked 78 = .ok (.aload_n 0, 1) := by decide +kernel
theorem dX5_isAsked_79 : decode cX5_isAsked 79 = .ok (.getfield 9, 3) := by decide +kernel
theorem dX5_isAsked_82 : decode cX5_isAsked 82 = .ok (.iload_n 2, 1) := by decide +kernel
theorem dX5_isAsked_83 : decode cX5_isAsked 83 = .ok (.iaload, 1) := by decide +kernel
theorem dX5_isAsked_84 : decode cX5_isAsked 84 = .ok (.aload_n 1, 1) := by decide +kernel
theorem dX5_isAsked_85 : decode cX5_isAsked 85 = .ok (.getfield 9, 3) := by decide +kernel
theorem dX5_isAsked_88 : decode cX5_isAsked 88 = .ok (.iload_n 2, 1) := by decide +kernel
theorem dX5_isAsked_89 : decode cX5_isAsked 89 = .ok (.iaload, 1) := by decide +kernel
theorem dX5_isAsked_90 : decode cX5_isAsked 90 = .ok (.if_icmp .ne 18, 3) := by decide +kernel
theorem dX5_isAsked_93 : decode cX5_isAsked 93 = .ok (.aload_n 0, 1) := by decide +kernel
theorem dX5_isAsked_94 : decode cX5_isAsked 94 = .ok (.getfield 15, 3) := by decide +kernel
theorem dX5_isAsked_97 : decode cX5_isAsked 97 = .ok (.iload_n 2, 1) := by decide +kernel
theorem dX5_isAsked_98 : decode cX5_isAsked 98 = .ok (.iaload, 1) := by decide +kernel
theorem dX5_isAsked_99 : decode cX5_isAsked 99 = .ok (.aload_n 1, 1) := by decide +kernel
theorem dX5_isAsked_100 : decode cX5_isAsked 100 = .ok (.getfield 15, 3) := by decide +kernel
theorem dX5_isAsked_103 : decode cX5_isAsked 103 = .ok (.iload_n 2, 1) := by decide +kernel
theorem dX5_isAsked_104 : decode cX5_isAsked 104 = .ok (.iaload, 1) := by decide +kernel
theorem dX5_isAsked_105 : decode cX5_isAsked 105 = .ok (.if_icmp .eq 5, 3) := by decide +kernel
theorem dX5_isAsked_108 : decode cX5_isAsked 108 = .ok (.iconst 0, 1) := by decide +kernel
theorem dX5_isAsked_109 : decode cX5_isAsked 109 = .ok (.ireturn, 1) := by decide +kernel
theorem dX5_isAsked_110 : decode cX5_isAsked 110 = .ok (.iinc 2 1, 3) := by decide +kernel
theorem dX5_isAsked_113 : decode cX5_isAsked 113 = .ok (.goto (-41), 3) := by decide +kernel
theorem dX5_isAsked_116 : decode cX5_isAsked 116 = .ok (.iconst 1, 1) := by decide +kernel
theorem dX5_isAsked_117 : decode cX5_isAsked 117 = .ok (.ireturn, 1) := by decide +kernel
theorem dX5_everyone_0 : decode cX5_everyone 0 = .ok (.iconst 1, 1) := by decide +kernel
theorem dX5_everyone_1 : decode cX5_everyone 1 = .ok (.aload_n 0, 1) := by decide +kernel
theorem dX5_everyone_2 : decode cX5_everyone 2 = .ok (.getfield 27, 3) := by decide +kernel
theorem dX5_everyone_5 : decode cX5_everyone 5 = .ok (.ishl, 1) := by decide +kernel
theorem dX5_everyone_6 : decode cX5_everyone 6 = .ok (.iconst 1, 1) := by decide +kernel
theorem dX5_everyone_7 : decode cX5_everyone 7 = .ok (.isub, 1) := by decide +kernel
theorem dX5_everyone_8 : decode cX5_everyone 8 = .ok (.ireturn, 1) := by decide +kernel
theorem dX5_pence_0 : decode cX5_pence 0 = .ok (.aload_n 0, 1) := by decide +kernel
theorem dX5_pence_1 : decode cX5_pence 1 = .ok (.getfield 37, 3) := by decide +kernel
theorem dX5_pence_4 : decode cX5_pence 4 = .ok (.aload_n 0, 1) := by decide +kernel
theorem dX5_pence_5 : decode cX5_pence 5 = .ok (.getfield 40, 3) := by decide +kernel
theorem dX5_pence_8 : decode cX5_pence 8 = .ok (.iload_n 1, 1) := by decide +kernel
theorem dX5_pence_9 : decode cX5_pence 9 = .ok (.iconst 1, 1) := by decide +kernel
theorem dX5_pence_10 : decode cX5_pence 10 = .ok (.isub, 1) := by decide +kernel
theorem dX5_pence_11 : decode cX5_pence 11 = .ok (.imul, 1) := by decide +kernel
theorem dX5_pence_12 : decode cX5_pence 12 = .ok (.iadd, 1) := by decide +kernel
theorem dX5_pence_13 : decode cX5_pence 13 = .ok (.ireturn, 1) := by decide +kernel
theorem dX5_felt_0 : decode cX5_felt 0 = .ok (.aload_n 0, 1) := by decide +kernel
theorem dX5_felt_1 : decode cX5_felt 1 = .ok (.iload_n 1, 1) := by decide +kernel
theorem dX5_felt_2 : decode cX5_felt 2 = .ok (.invokevirtual 70, 3) := by decide +kernel
theorem dX5_felt_5 : decode cX5_felt 5 = .ok (.istore_n 2, 1) := by decide +kernel
theorem dX5_felt_6 : decode cX5_felt 6 = .ok (.aload_n 0, 1) := by decide +kernel
theorem dX5_felt_7 : decode cX5_felt 7 = .ok (.getfield 55, 3) := by decide +kernel
theorem dX5_felt_10 : decode cX5_felt 10 = .ok (.ifCond .le 14, 3) := by decide +kernel
theorem dX5_felt_13 : decode cX5_felt 13 = .ok (.iload_n 2, 1) := by decide +kernel
theorem dX5_felt_14 : decode cX5_felt 14 = .ok (.iload_n 2, 1) := by decide +kernel
theorem dX5_felt_15 : decode cX5_felt 15 = .ok (.aload_n 0, 1) := by decide +kernel
theorem dX5_felt_16 : decode cX5_felt 16 = .ok (.getfield 55, 3) := by decide +kernel
theorem dX5_felt_19 : decode cX5_felt 19 = .ok (.irem, 1) := by decide +kernel
theorem dX5_felt_20 : decode cX5_felt 20 = .ok (.isub, 1) := by decide +kernel
theorem dX5_felt_21 : decode cX5_felt 21 = .ok (.goto 4, 3) := by decide +kernel
theorem dX5_felt_24 : decode cX5_felt 24 = .ok (.iload_n 2, 1) := by decide +kernel
theorem dX5_felt_25 : decode cX5_felt 25 = .ok (.ireturn, 1) := by decide +kernel
theorem dX5_handsOpenedAt_0 : decode cX5_handsOpenedAt 0 = .ok (.iconst 0, 1) := by decide +kernel
theorem dX5_handsOpenedAt_1 : decode cX5_handsOpenedAt 1 = .ok (.istore_n 2, 1) := by decide +kernel
theorem dX5_handsOpenedAt_2 : decode cX5_handsOpenedAt 2 = .ok (.iconst 1, 1) := by decide +kernel
theorem dX5_handsOpenedAt_3 : decode cX5_handsOpenedAt 3 = .ok (.istore_n 3, 1) := by decide +kernel
theorem dX5_handsOpenedAt_4 : decode cX5_handsOpenedAt 4 = .ok (.iload_n 3, 1) := by decide +kernel
theorem dX5_handsOpenedAt_5 : decode cX5_handsOpenedAt 5 = .ok (.aload_n 0, 1) := by decide +kernel
theorem dX5_handsOpenedAt_6 : decode cX5_handsOpenedAt 6 = .ok (.getfield 43, 3) := by decide +kernel
theorem dX5_handsOpenedAt_9 : decode cX5_handsOpenedAt 9 = .ok (.if_icmp .gt 21, 3) := by decide +kernel
theorem dX5_handsOpenedAt_12 : decode cX5_handsOpenedAt 12 = .ok (.aload_n 0, 1) := by decide +kernel
theorem dX5_handsOpenedAt_13 : decode cX5_handsOpenedAt 13 = .ok (.iload_n 3, 1) := by decide +kernel
theorem dX5_handsOpenedAt_14 : decode cX5_handsOpenedAt 14 = .ok (.invokevirtual 74, 3) := by decide +kernel
theorem dX5_handsOpenedAt_17 : decode cX5_handsOpenedAt 17 = .ok (.iload_n 1, 1) := by decide +kernel
theorem dX5_handsOpenedAt_18 : decode cX5_handsOpenedAt 18 = .ok (.if_icmp .lt 6, 3) := by decide +kernel
theorem dX5_handsOpenedAt_21 : decode cX5_handsOpenedAt 21 = .ok (.iinc 2 1, 3) := by decide +kernel
theorem dX5_handsOpenedAt_24 : decode cX5_handsOpenedAt 24 = .ok (.iinc 3 1, 3) := by decide +kernel
theorem dX5_handsOpenedAt_27 : decode cX5_handsOpenedAt 27 = .ok (.goto (-23), 3) := by decide +kernel
theorem dX5_handsOpenedAt_30 : decode cX5_handsOpenedAt 30 = .ok (.iload_n 2, 1) := by decide +kernel
theorem dX5_handsOpenedAt_31 : decode cX5_handsOpenedAt 31 = .ok (.ireturn, 1) := by decide +kernel
theorem dX5_countsSent_0 : decode cX5_countsSent 0 = .ok (.aload_n 0, 1) := by decide +kernel
theorem dX5_countsSent_1 : decode cX5_countsSent 1 = .ok (.getfield 52, 3) := by decide +kernel
theorem dX5_countsSent_4 : decode cX5_countsSent 4 = .ok (.ifCond .eq 14, 3) := by decide +kernel
theorem dX5_countsSent_7 : decode cX5_countsSent 7 = .ok (.aload_n 0, 1) := by decide +kernel
theorem dX5_countsSent_8 : decode cX5_countsSent 8 = .ok (.getfield 49, 3) := by decide +kernel
theorem dX5_countsSent_11 : decode cX5_countsSent 11 = .ok (.ifCond .le 7, 3) := by decide +kernel
theorem dX5_countsSent_14 : decode cX5_countsSent 14 = .ok (.iconst 1, 1) := by decide +kernel
theorem dX5_countsSent_15 : decode cX5_countsSent 15 = .ok (.goto 4, 3) := by decide +kernel
theorem dX5_countsSent_18 : decode cX5_countsSent 18 = .ok (.iconst 0, 1) := by decide +kernel
theorem dX5_countsSent_19 : decode cX5_countsSent 19 = .ok (.ireturn, 1) := by decide +kernel
theorem dX5_letAllReckon_0 : decode cX5_letAllReckon 0 = .ok (.iconst 0, 1) := by decide +kernel
theorem dX5_letAllReckon_1 : decode cX5_letAllReckon 1 = .ok (.istore_n 1, 1) := by decide +kernel
theorem dX5_letAllReckon_2 : decode cX5_letAllReckon 2 = .ok (.iload_n 1, 1) := by decide +kernel
theorem dX5_letAllReckon_3 : decode cX5_letAllReckon 3 = .ok (.aload_n 0, 1) := by decide +kernel
theorem dX5_letAllReckon_4 : decode cX5_letAllReckon 4 = .ok (.getfield 27, 3) := by decide +kernel
theorem dX5_letAllReckon_7 : decode cX5_letAllReckon 7 = .ok (.if_icmp .ge 33, 3) := by decide +kernel
theorem dX5_letAllReckon_10 : decode cX5_letAllReckon 10 = .ok (.aload_n 0, 1) := by decide +kernel
theorem dX5_letAllReckon_11 : decode cX5_letAllReckon 11 = .ok (.getfield 9, 3) := by decide +kernel
theorem dX5_letAllReckon_14 : decode cX5_letAllReckon 14 = .ok (.iload_n 1, 1) := by decide +kernel
theorem dX5_letAllReckon_15 : decode cX5_letAllReckon 15 = .ok (.iaload, 1) := by decide +kernel
theorem dX5_letAllReckon_16 : decode cX5_letAllReckon 16 = .ok (.iconst 3, 1) := by decide +kernel
theorem dX5_letAllReckon_17 : decode cX5_letAllReckon 17 = .ok (.if_icmp .eq 17, 3) := by decide +kernel
theorem dX5_letAllReckon_20 : decode cX5_letAllReckon 20 = .ok (.aload_n 0, 1) := by decide +kernel
theorem dX5_letAllReckon_21 : decode cX5_letAllReckon 21 = .ok (.getfield 9, 3) := by decide +kernel
theorem dX5_letAllReckon_24 : decode cX5_letAllReckon 24 = .ok (.iload_n 1, 1) := by decide +kernel
theorem dX5_letAllReckon_25 : decode cX5_letAllReckon 25 = .ok (.iconst 3, 1) := by decide +kernel
theorem dX5_letAllReckon_26 : decode cX5_letAllReckon 26 = .ok (.iastore, 1) := by decide +kernel
theorem dX5_letAllReckon_27 : decode cX5_letAllReckon 27 = .ok (.aload_n 0, 1) := by decide +kernel
theorem dX5_letAllReckon_28 : decode cX5_letAllReckon 28 = .ok (.getfield 15, 3) := by decide +kernel
theorem dX5_letAllReckon_31 : decode cX5_letAllReckon 31 = .ok (.iload_n 1, 1) := by decide +kernel
theorem dX5_letAllReckon_32 : decode cX5_letAllReckon 32 = .ok (.iconst 0, 1) := by decide +kernel
theorem dX5_letAllReckon_33 : decode cX5_letAllReckon 33 = .ok (.iastore, 1) := by decide +kernel
theorem dX5_letAllReckon_34 : decode cX5_letAllReckon 34 = .ok (.iinc 1 1, 3) := by decide +kernel
theorem dX5_letAllReckon_37 : decode cX5_letAllReckon 37 = .ok (.goto (-35), 3) := by decide +kernel
theorem dX5_letAllReckon_40 : decode cX5_letAllReckon 40 = .ok (.return_, 1) := by decide +kernel
theorem dX5_reckoners_0 : decode cX5_reckoners 0 = .ok (.iconst 0, 1) := by decide +kernel
theorem dX5_reckoners_1 : decode cX5_reckoners 1 = .ok (.istore_n 1, 1) := by decide +kernel
theorem dX5_reckoners_2 : decode cX5_reckoners 2 = .ok (.iconst 0, 1) := by decide +kernel
theorem dX5_reckoners_3 : decode cX5_reckoners 3 = .ok (.istore_n 2, 1) := by decide +kernel
theorem dX5_reckoners_4 : decode cX5_reckoners 4 = .ok (.iload_n 2, 1) := by decide +kernel
theorem dX5_reckoners_5 : decode cX5_reckoners 5 = .ok (.aload_n 0, 1) := by decide +kernel
theorem dX5_reckoners_6 : decode cX5_reckoners 6 = .ok (.getfield 27, 3) := by decide +kernel
theorem dX5_reckoners_9 : decode cX5_reckoners 9 = .ok (.if_icmp .ge 25, 3) := by decide +kernel
theorem dX5_reckoners_12 : decode cX5_reckoners 12 = .ok (.aload_n 0, 1) := by decide +kernel
theorem dX5_reckoners_13 : decode cX5_reckoners 13 = .ok (.getfield 9, 3) := by decide +kernel
theorem dX5_reckoners_16 : decode cX5_reckoners 16 = .ok (.iload_n 2, 1) := by decide +kernel
theorem dX5_reckoners_17 : decode cX5_reckoners 17 = .ok (.iaload, 1) := by decide +kernel
theorem dX5_reckoners_18 : decode cX5_reckoners 18 = .ok (.iconst 3, 1) := by decide +kernel
theorem dX5_reckoners_19 : decode cX5_reckoners 19 = .ok (.if_icmp .ne 9, 3) := by decide +kernel
theorem dX5_reckoners_22 : decode cX5_reckoners 22 = .ok (.iload_n 1, 1) := by decide +kernel
theorem dX5_reckoners_23 : decode cX5_reckoners 23 = .ok (.iconst 1, 1) := by decide +kernel
theorem dX5_reckoners_24 : decode cX5_reckoners 24 = .ok (.iload_n 2, 1) := by decide +kernel
theorem dX5_reckoners_25 : decode cX5_reckoners 25 = .ok (.ishl, 1) := by decide +kernel
theorem dX5_reckoners_26 : decode cX5_reckoners 26 = .ok (.ior, 1) := by decide +kernel
theorem dX5_reckoners_27 : decode cX5_reckoners 27 = .ok (.istore_n 1, 1) := by decide +kernel
theorem dX5_reckoners_28 : decode cX5_reckoners 28 = .ok (.iinc 2 1, 3) := by decide +kernel
theorem dX5_reckoners_31 : decode cX5_reckoners 31 = .ok (.goto (-27), 3) := by decide +kernel
theorem dX5_reckoners_34 : decode cX5_reckoners 34 = .ok (.iload_n 1, 1) := by decide +kernel
theorem dX5_reckoners_35 : decode cX5_reckoners 35 = .ok (.ireturn, 1) := by decide +kernel
