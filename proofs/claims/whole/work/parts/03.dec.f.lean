theorem dX5_kind_2 : decode cX5_kind 2 = .ok (.invokevirtual 205, 3) := by decide +kernel
theorem dX5_kind_5 : decode cX5_kind 5 = .ok (.ifCond .eq 21, 3) := by decide +kernel
theorem dX5_kind_8 : decode cX5_kind 8 = .ok (.iload_n 2, 1) := by decide +kernel
theorem dX5_kind_9 : decode cX5_kind 9 = .ok (.invokestatic 243, 3) := by decide +kernel
theorem dX5_kind_12 : decode cX5_kind 12 = .ok (.ifCond .eq 14, 3) := by decide +kernel
theorem dX5_kind_15 : decode cX5_kind 15 = .ok (.aload_n 0, 1) := by decide +kernel
theorem dX5_kind_16 : decode cX5_kind 16 = .ok (.iload_n 1, 1) := by decide +kernel
theorem dX5_kind_17 : decode cX5_kind 17 = .ok (.iconst 0, 1) := by decide +kernel
theorem dX5_kind_18 : decode cX5_kind 18 = .ok (.iconst 3, 1) := by decide +kernel
theorem dX5_kind_19 : decode cX5_kind 19 = .ok (.iload_n 2, 1) := by decide +kernel
theorem dX5_kind_20 : decode cX5_kind 20 = .ok (.invokevirtual 259, 3) := by decide +kernel
theorem dX5_kind_23 : decode cX5_kind 23 = .ok (.goto 4, 3) := by decide +kernel
theorem dX5_kind_26 : decode cX5_kind 26 = .ok (.iconst (-1), 1) := by decide +kernel
theorem dX5_kind_27 : decode cX5_kind 27 = .ok (.ireturn, 1) := by decide +kernel
theorem dX5_common_0 : decode cX5_common 0 = .ok (.lload_n 0, 1) := by decide +kernel
theorem dX5_common_1 : decode cX5_common 1 = .ok (.lstore 4, 2) := by decide +kernel
theorem dX5_common_3 : decode cX5_common 3 = .ok (.lload_n 2, 1) := by decide +kernel
theorem dX5_common_4 : decode cX5_common 4 = .ok (.lstore 6, 2) := by decide +kernel
theorem dX5_common_6 : decode cX5_common 6 = .ok (.lload 6, 2) := by decide +kernel
theorem dX5_common_8 : decode cX5_common 8 = .ok (.lconst 0, 1) := by decide +kernel
theorem dX5_common_9 : decode cX5_common 9 = .ok (.lcmp, 1) := by decide +kernel
theorem dX5_common_10 : decode cX5_common 10 = .ok (.ifCond .eq 21, 3) := by decide +kernel
theorem dX5_common_13 : decode cX5_common 13 = .ok (.lload 4, 2) := by decide +kernel
theorem dX5_common_15 : decode cX5_common 15 = .ok (.lload 6, 2) := by decide +kernel
theorem dX5_common_17 : decode cX5_common 17 = .ok (.lrem, 1) := by decide +kernel
theorem dX5_common_18 : decode cX5_common 18 = .ok (.lstore 8, 2) := by decide +kernel
theorem dX5_common_20 : decode cX5_common 20 = .ok (.lload 6, 2) := by decide +kernel
theorem dX5_common_22 : decode cX5_common 22 = .ok (.lstore 4, 2) := by decide +kernel
theorem dX5_common_24 : decode cX5_common 24 = .ok (.lload 8, 2) := by decide +kernel
theorem dX5_common_26 : decode cX5_common 26 = .ok (.lstore 6, 2) := by decide +kernel
theorem dX5_common_28 : decode cX5_common 28 = .ok (.goto (-22), 3) := by decide +kernel
theorem dX5_common_31 : decode cX5_common 31 = .ok (.lload 4, 2) := by decide +kernel
theorem dX5_common_33 : decode cX5_common 33 = .ok (.lreturn, 1) := by decide +kernel
theorem dX5_told_0 : decode cX5_told 0 = .ok (.lload_n 2, 1) := by decide +kernel
theorem dX5_told_1 : decode cX5_told 1 = .ok (.lload_n 0, 1) := by decide +kernel
theorem dX5_told_2 : decode cX5_told 2 = .ok (.invokestatic 263, 3) := by decide +kernel
theorem dX5_told_5 : decode cX5_told 5 = .ok (.lstore 5, 2) := by decide +kernel
theorem dX5_told_7 : decode cX5_told 7 = .ok (.iload 4, 2) := by decide +kernel
theorem dX5_told_9 : decode cX5_told 9 = .ok (.ifCond .ne 10, 3) := by decide +kernel
theorem dX5_told_12 : decode cX5_told 12 = .ok (.lload_n 0, 1) := by decide +kernel
theorem dX5_told_13 : decode cX5_told 13 = .ok (.lload 5, 2) := by decide +kernel
theorem dX5_told_15 : decode cX5_told 15 = .ok (.ldiv, 1) := by decide +kernel
theorem dX5_told_16 : decode cX5_told 16 = .ok (.goto 7, 3) := by decide +kernel
theorem dX5_told_19 : decode cX5_told 19 = .ok (.lload_n 2, 1) := by decide +kernel
theorem dX5_told_20 : decode cX5_told 20 = .ok (.lload 5, 2) := by decide +kernel
theorem dX5_told_22 : decode cX5_told 22 = .ok (.ldiv, 1) := by decide +kernel
theorem dX5_told_23 : decode cX5_told 23 = .ok (.lreturn, 1) := by decide +kernel
theorem dX5_findOdds_0 : decode cX5_findOdds 0 = .ok (.aload_n 0, 1) := by decide +kernel
theorem dX5_findOdds_1 : decode cX5_findOdds 1 = .ok (.lconst 0, 1) := by decide +kernel
theorem dX5_findOdds_2 : decode cX5_findOdds 2 = .ok (.putfield 267, 3) := by decide +kernel
theorem dX5_findOdds_5 : decode cX5_findOdds 5 = .ok (.aload_n 0, 1) := by decide +kernel
theorem dX5_findOdds_6 : decode cX5_findOdds 6 = .ok (.lconst 0, 1) := by decide +kernel
theorem dX5_findOdds_7 : decode cX5_findOdds 7 = .ok (.putfield 271, 3) := by decide +kernel
theorem dX5_findOdds_10 : decode cX5_findOdds 10 = .ok (.aload_n 0, 1) := by decide +kernel
theorem dX5_findOdds_11 : decode cX5_findOdds 11 = .ok (.lconst 1, 1) := by decide +kernel
theorem dX5_findOdds_12 : decode cX5_findOdds 12 = .ok (.putfield 274, 3) := by decide +kernel
theorem dX5_findOdds_15 : decode cX5_findOdds 15 = .ok (.iconst 0, 1) := by decide +kernel
theorem dX5_findOdds_16 : decode cX5_findOdds 16 = .ok (.istore_n 3, 1) := by decide +kernel
theorem dX5_findOdds_17 : decode cX5_findOdds 17 = .ok (.iload_n 3, 1) := by decide +kernel
theorem dX5_findOdds_18 : decode cX5_findOdds 18 = .ok (.iload_n 2, 1) := by decide +kernel
theorem dX5_findOdds_19 : decode cX5_findOdds 19 = .ok (.if_icmp .ge 21, 3) := by decide +kernel
theorem dX5_findOdds_22 : decode cX5_findOdds 22 = .ok (.aload_n 0, 1) := by decide +kernel
theorem dX5_findOdds_23 : decode cX5_findOdds 23 = .ok (.dup, 1) := by decide +kernel
theorem dX5_findOdds_24 : decode cX5_findOdds 24 = .ok (.getfield 274, 3) := by decide +kernel
theorem dX5_findOdds_27 : decode cX5_findOdds 27 = .ok (.ldc2_w 277, 3) := by decide +kernel
theorem dX5_findOdds_30 : decode cX5_findOdds 30 = .ok (.lmul, 1) := by decide +kernel
theorem dX5_findOdds_31 : decode cX5_findOdds 31 = .ok (.putfield 274, 3) := by decide +kernel
theorem dX5_findOdds_34 : decode cX5_findOdds 34 = .ok (.iinc 3 1, 3) := by decide +kernel
theorem dX5_findOdds_37 : decode cX5_findOdds 37 = .ok (.goto (-20), 3) := by decide +kernel
theorem dX5_findOdds_40 : decode cX5_findOdds 40 = .ok (.iconst 0, 1) := by decide +kernel
theorem dX5_findOdds_41 : decode cX5_findOdds 41 = .ok (.istore_n 3, 1) := by decide +kernel
theorem dX5_findOdds_42 : decode cX5_findOdds 42 = .ok (.iload_n 3, 1) := by decide +kernel
theorem dX5_findOdds_43 : decode cX5_findOdds 43 = .ok (.iconst 1, 1) := by decide +kernel
theorem dX5_findOdds_44 : decode cX5_findOdds 44 = .ok (.iload_n 2, 1) := by decide +kernel
theorem dX5_findOdds_45 : decode cX5_findOdds 45 = .ok (.ishl, 1) := by decide +kernel
theorem dX5_findOdds_46 : decode cX5_findOdds 46 = .ok (.if_icmp .ge 116, 3) := by decide +kernel
theorem dX5_findOdds_49 : decode cX5_findOdds 49 = .ok (.lconst 1, 1) := by decide +kernel
theorem dX5_findOdds_50 : decode cX5_findOdds 50 = .ok (.lstore 4, 2) := by decide +kernel
theorem dX5_findOdds_52 : decode cX5_findOdds 52 = .ok (.aload_n 0, 1) := by decide +kernel
theorem dX5_findOdds_53 : decode cX5_findOdds 53 = .ok (.invokevirtual 196, 3) := by decide +kernel
theorem dX5_findOdds_56 : decode cX5_findOdds 56 = .ok (.iconst 0, 1) := by decide +kernel
theorem dX5_findOdds_57 : decode cX5_findOdds 57 = .ok (.istore 6, 2) := by decide +kernel
theorem dX5_findOdds_59 : decode cX5_findOdds 59 = .ok (.iload 6, 2) := by decide +kernel
theorem dX5_findOdds_61 : decode cX5_findOdds 61 = .ok (.iload_n 2, 1) := by decide +kernel
theorem dX5_findOdds_62 : decode cX5_findOdds 62 = .ok (.if_icmp .ge 52, 3) := by decide +kernel
theorem dX5_findOdds_65 : decode cX5_findOdds 65 = .ok (.iload_n 3, 1) := by decide +kernel
theorem dX5_findOdds_66 : decode cX5_findOdds 66 = .ok (.iload 6, 2) := by decide +kernel
theorem dX5_findOdds_68 : decode cX5_findOdds 68 = .ok (.ishr, 1) := by decide +kernel
theorem dX5_findOdds_69 : decode cX5_findOdds 69 = .ok (.iconst 1, 1) := by decide +kernel
theorem dX5_findOdds_70 : decode cX5_findOdds 70 = .ok (.iand, 1) := by decide +kernel
theorem dX5_findOdds_71 : decode cX5_findOdds 71 = .ok (.iconst 1, 1) := by decide +kernel
theorem dX5_findOdds_72 : decode cX5_findOdds 72 = .ok (.if_icmp .ne 7, 3) := by decide +kernel
theorem dX5_findOdds_75 : decode cX5_findOdds 75 = .ok (.iconst 1, 1) := by decide +kernel
theorem dX5_findOdds_76 : decode cX5_findOdds 76 = .ok (.goto 4, 3) := by decide +kernel
theorem dX5_findOdds_79 : decode cX5_findOdds 79 = .ok (.iconst 0, 1) := by decide +kernel
theorem dX5_findOdds_80 : decode cX5_findOdds 80 = .ok (.istore 7, 2) := by decide +kernel
theorem dX5_findOdds_82 : decode cX5_findOdds 82 = .ok (.lload 4, 2) := by decide +kernel
theorem dX5_findOdds_84 : decode cX5_findOdds 84 = .ok (.iload 7, 2) := by decide +kernel
theorem dX5_findOdds_86 : decode cX5_findOdds 86 = .ok (.ifCond .eq 8, 3) := by decide +kernel
theorem dX5_findOdds_89 : decode cX5_findOdds 89 = .ok (.iload_n 1, 1) := by decide +kernel
theorem dX5_findOdds_90 : decode cX5_findOdds 90 = .ok (.i2l, 1) := by decide +kernel
theorem dX5_findOdds_91 : decode cX5_findOdds 91 = .ok (.goto 8, 3) := by decide +kernel
theorem dX5_findOdds_94 : decode cX5_findOdds 94 = .ok (.bipush 10, 2) := by decide +kernel
theorem dX5_findOdds_96 : decode cX5_findOdds 96 = .ok (.iload_n 1, 1) := by decide +kernel
theorem dX5_findOdds_97 : decode cX5_findOdds 97 = .ok (.isub, 1) := by decide +kernel
theorem dX5_findOdds_98 : decode cX5_findOdds 98 = .ok (.i2l, 1) := by decide +kernel
theorem dX5_findOdds_99 : decode cX5_findOdds 99 = .ok (.lmul, 1) := by decide +kernel
theorem dX5_findOdds_100 : decode cX5_findOdds 100 = .ok (.lstore 4, 2) := by decide +kernel
theorem dX5_findOdds_102 : decode cX5_findOdds 102 = .ok (.aload_n 0, 1) := by decide +kernel
theorem dX5_findOdds_103 : decode cX5_findOdds 103 = .ok (.iload 7, 2) := by decide +kernel
theorem dX5_findOdds_105 : decode cX5_findOdds 105 = .ok (.invokevirtual 192, 3) := by decide +kernel
theorem dX5_findOdds_108 : decode cX5_findOdds 108 = .ok (.iinc 6 1, 3) := by decide +kernel
theorem dX5_findOdds_111 : decode cX5_findOdds 111 = .ok (.goto (-52), 3) := by decide +kernel
theorem dX5_findOdds_114 : decode cX5_findOdds 114 = .ok (.aload_n 0, 1) := by decide +kernel
theorem dX5_findOdds_115 : decode cX5_findOdds 115 = .ok (.dup, 1) := by decide +kernel
theorem dX5_findOdds_116 : decode cX5_findOdds 116 = .ok (.getfield 267, 3) := by decide +kernel
theorem dX5_findOdds_119 : decode cX5_findOdds 119 = .ok (.aload_n 0, 1) := by decide +kernel
theorem dX5_findOdds_120 : decode cX5_findOdds 120 = .ok (.invokevirtual 185, 3) := by decide +kernel
theorem dX5_findOdds_123 : decode cX5_findOdds 123 = .ok (.ifCond .eq 8, 3) := by decide +kernel
theorem dX5_findOdds_126 : decode cX5_findOdds 126 = .ok (.lload 4, 2) := by decide +kernel
theorem dX5_findOdds_128 : decode cX5_findOdds 128 = .ok (.goto 4, 3) := by decide +kernel
theorem dX5_findOdds_131 : decode cX5_findOdds 131 = .ok (.lconst 0, 1) := by decide +kernel
theorem dX5_findOdds_132 : decode cX5_findOdds 132 = .ok (.ladd, 1) := by decide +kernel
theorem dX5_findOdds_133 : decode cX5_findOdds 133 = .ok (.putfield 267, 3) := by decide +kernel
theorem dX5_findOdds_136 : decode cX5_findOdds 136 = .ok (.aload_n 0, 1) := by decide +kernel
theorem dX5_findOdds_137 : decode cX5_findOdds 137 = .ok (.dup, 1) := by decide +kernel
theorem dX5_findOdds_138 : decode cX5_findOdds 138 = .ok (.getfield 271, 3) := by decide +kernel
theorem dX5_findOdds_141 : decode cX5_findOdds 141 = .ok (.lload 4, 2) := by decide +kernel
theorem dX5_findOdds_143 : decode cX5_findOdds 143 = .ok (.aload_n 0, 1) := by decide +kernel
theorem dX5_findOdds_144 : decode cX5_findOdds 144 = .ok (.getfield 13, 3) := by decide +kernel
theorem dX5_findOdds_147 : decode cX5_findOdds 147 = .ok (.bipush 25, 2) := by decide +kernel
theorem dX5_findOdds_149 : decode cX5_findOdds 149 = .ok (.iaload, 1) := by decide +kernel
theorem dX5_findOdds_150 : decode cX5_findOdds 150 = .ok (.i2l, 1) := by decide +kernel
theorem dX5_findOdds_151 : decode cX5_findOdds 151 = .ok (.lmul, 1) := by decide +kernel
theorem dX5_findOdds_152 : decode cX5_findOdds 152 = .ok (.ladd, 1) := by decide +kernel
theorem dX5_findOdds_153 : decode cX5_findOdds 153 = .ok (.putfield 271, 3) := by decide +kernel
theorem dX5_findOdds_156 : decode cX5_findOdds 156 = .ok (.iinc 3 1, 3) := by decide +kernel
theorem dX5_findOdds_159 : decode cX5_findOdds 159 = .ok (.goto (-117), 3) := by decide +kernel
theorem dX5_findOdds_162 : decode cX5_findOdds 162 = .ok (.return_, 1) := by decide +kernel
theorem dX5_isOdds_0 : decode cX5_isOdds 0 = .ok (.iload_n 0, 1) := by decide +kernel
theorem dX5_isOdds_1 : decode cX5_isOdds 1 = .ok (.i2l, 1) := by decide +kernel
theorem dX5_isOdds_2 : decode cX5_isOdds 2 = .ok (.lconst 0, 1) := by decide +kernel
theorem dX5_isOdds_3 : decode cX5_isOdds 3 = .ok (.ldc2_w 277, 3) := by decide +kernel
theorem dX5_isOdds_6 : decode cX5_isOdds 6 = .ok (.invokestatic 56, 3) := by decide +kernel
theorem dX5_isOdds_9 : decode cX5_isOdds 9 = .ok (.ifCond .eq 26, 3) := by decide +kernel
theorem dX5_isOdds_12 : decode cX5_isOdds 12 = .ok (.iload_n 1, 1) := by decide +kernel
theorem dX5_isOdds_13 : decode cX5_isOdds 13 = .ok (.i2l, 1) := by decide +kernel
theorem dX5_isOdds_14 : decode cX5_isOdds 14 = .ok (.lconst 0, 1) := by decide +kernel
theorem dX5_isOdds_15 : decode cX5_isOdds 15 = .ok (.ldc2_w 279, 3) := by decide +kernel
theorem dX5_isOdds_18 : decode cX5_isOdds 18 = .ok (.invokestatic 56, 3) := by decide +kernel
theorem dX5_isOdds_21 : decode cX5_isOdds 21 = .ok (.ifCond .eq 14, 3) := by decide +kernel
theorem dX5_isOdds_24 : decode cX5_isOdds 24 = .ok (.iload_n 2, 1) := by decide +kernel
theorem dX5_isOdds_25 : decode cX5_isOdds 25 = .ok (.invokestatic 243, 3) := by decide +kernel
theorem dX5_isOdds_28 : decode cX5_isOdds 28 = .ok (.ifCond .eq 7, 3) := by decide +kernel
theorem dX5_isOdds_31 : decode cX5_isOdds 31 = .ok (.iconst 1, 1) := by decide +kernel
theorem dX5_isOdds_32 : decode cX5_isOdds 32 = .ok (.goto 4, 3) := by decide +kernel
theorem dX5_isOdds_35 : decode cX5_isOdds 35 = .ok (.iconst 0, 1) := by decide +kernel
theorem dX5_isOdds_36 : decode cX5_isOdds 36 = .ok (.ireturn, 1) := by decide +kernel
theorem dX5_luck_0 : decode cX5_luck 0 = .ok (.iload_n 1, 1) := by decide +kernel
theorem dX5_luck_1 : decode cX5_luck 1 = .ok (.iload_n 2, 1) := by decide +kernel
theorem dX5_luck_2 : decode cX5_luck 2 = .ok (.iload_n 3, 1) := by decide +kernel
theorem dX5_luck_3 : decode cX5_luck 3 = .ok (.invokestatic 281, 3) := by decide +kernel
theorem dX5_luck_6 : decode cX5_luck 6 = .ok (.ifCond .ne 7, 3) := by decide +kernel
theorem dX5_luck_9 : decode cX5_luck 9 = .ok (.ldc2_w 284, 3) := by decide +kernel
theorem dX5_luck_12 : decode cX5_luck 12 = .ok (.lreturn, 1) := by decide +kernel
theorem dX5_luck_13 : decode cX5_luck 13 = .ok (.aload_n 0, 1) := by decide +kernel
theorem dX5_luck_14 : decode cX5_luck 14 = .ok (.iload_n 1, 1) := by decide +kernel
theorem dX5_luck_15 : decode cX5_luck 15 = .ok (.iload_n 2, 1) := by decide +kernel
theorem dX5_luck_16 : decode cX5_luck 16 = .ok (.invokevirtual 286, 3) := by decide +kernel
theorem dX5_luck_19 : decode cX5_luck 19 = .ok (.aload_n 0, 1) := by decide +kernel
theorem dX5_luck_20 : decode cX5_luck 20 = .ok (.getfield 267, 3) := by decide +kernel
theorem dX5_luck_23 : decode cX5_luck 23 = .ok (.aload_n 0, 1) := by decide +kernel
theorem dX5_luck_24 : decode cX5_luck 24 = .ok (.getfield 274, 3) := by decide +kernel
theorem dX5_luck_27 : decode cX5_luck 27 = .ok (.iload_n 3, 1) := by decide +kernel
theorem dX5_luck_28 : decode cX5_luck 28 = .ok (.invokestatic 289, 3) := by decide +kernel
theorem dX5_luck_31 : decode cX5_luck 31 = .ok (.lreturn, 1) := by decide +kernel
theorem dX5_mean_0 : decode cX5_mean 0 = .ok (.iload_n 1, 1) := by decide +kernel
theorem dX5_mean_1 : decode cX5_mean 1 = .ok (.iload_n 2, 1) := by decide +kernel
theorem dX5_mean_2 : decode cX5_mean 2 = .ok (.iload_n 3, 1) := by decide +kernel
theorem dX5_mean_3 : decode cX5_mean 3 = .ok (.invokestatic 281, 3) := by decide +kernel
theorem dX5_mean_6 : decode cX5_mean 6 = .ok (.ifCond .ne 7, 3) := by decide +kernel
theorem dX5_mean_9 : decode cX5_mean 9 = .ok (.ldc2_w 284, 3) := by decide +kernel
theorem dX5_mean_12 : decode cX5_mean 12 = .ok (.lreturn, 1) := by decide +kernel
theorem dX5_mean_13 : decode cX5_mean 13 = .ok (.aload_n 0, 1) := by decide +kernel
theorem dX5_mean_14 : decode cX5_mean 14 = .ok (.iload_n 1, 1) := by decide +kernel
theorem dX5_mean_15 : decode cX5_mean 15 = .ok (.iload_n 2, 1) := by decide +kernel
theorem dX5_mean_16 : decode cX5_mean 16 = .ok (.invokevirtual 286, 3) := by decide +kernel
theorem dX5_mean_19 : decode cX5_mean 19 = .ok (.aload_n 0, 1) := by decide +kernel
theorem dX5_mean_20 : decode cX5_mean 20 = .ok (.getfield 271, 3) := by decide +kernel
theorem dX5_mean_23 : decode cX5_mean 23 = .ok (.aload_n 0, 1) := by decide +kernel
theorem dX5_mean_24 : decode cX5_mean 24 = .ok (.getfield 274, 3) := by decide +kernel
theorem dX5_mean_27 : decode cX5_mean 27 = .ok (.iload_n 3, 1) := by decide +kernel
theorem dX5_mean_28 : decode cX5_mean 28 = .ok (.invokestatic 289, 3) := by decide +kernel
theorem dX5_mean_31 : decode cX5_mean 31 = .ok (.lreturn, 1) := by decide +kernel
theorem dX5_see_0 : decode cX5_see 0 = .ok (.iload_n 1, 1) := by decide +kernel
theorem dX5_see_1 : decode cX5_see 1 = .ok (.i2l, 1) := by decide +kernel
theorem dX5_see_2 : decode cX5_see 2 = .ok (.lconst 0, 1) := by decide +kernel
theorem dX5_see_3 : decode cX5_see 3 = .ok (.ldc2_w 123, 3) := by decide +kernel
theorem dX5_see_6 : decode cX5_see 6 = .ok (.invokestatic 56, 3) := by decide +kernel
theorem dX5_see_9 : decode cX5_see 9 = .ok (.ifCond .eq 10, 3) := by decide +kernel
theorem dX5_see_12 : decode cX5_see 12 = .ok (.iload_n 2, 1) := by decide +kernel
theorem dX5_see_13 : decode cX5_see 13 = .ok (.invokestatic 182, 3) := by decide +kernel
theorem dX5_see_16 : decode cX5_see 16 = .ok (.ifCond .ne 5, 3) := by decide +kernel
theorem dX5_see_19 : decode cX5_see 19 = .ok (.iconst (-1), 1) := by decide +kernel
theorem dX5_see_20 : decode cX5_see 20 = .ok (.ireturn, 1) := by decide +kernel
theorem dX5_see_21 : decode cX5_see 21 = .ok (.aload_n 0, 1) := by decide +kernel
theorem dX5_see_22 : decode cX5_see 22 = .ok (.getfield 7, 3) := by decide +kernel
theorem dX5_see_25 : decode cX5_see 25 = .ok (.bipush 28, 2) := by decide +kernel
theorem dX5_see_27 : decode cX5_see 27 = .ok (.iaload, 1) := by decide +kernel
theorem dX5_see_28 : decode cX5_see 28 = .ok (.bipush 6, 2) := by decide +kernel
theorem dX5_see_30 : decode cX5_see 30 = .ok (.if_icmp .ne 6, 3) := by decide +kernel
theorem dX5_see_33 : decode cX5_see 33 = .ok (.bipush (-3), 2) := by decide +kernel
theorem dX5_see_35 : decode cX5_see 35 = .ok (.ireturn, 1) := by decide +kernel
theorem dX5_see_36 : decode cX5_see 36 = .ok (.bipush 29, 2) := by decide +kernel
theorem dX5_see_38 : decode cX5_see 38 = .ok (.iconst 2, 1) := by decide +kernel
theorem dX5_see_39 : decode cX5_see 39 = .ok (.aload_n 0, 1) := by decide +kernel
theorem dX5_see_40 : decode cX5_see 40 = .ok (.getfield 7, 3) := by decide +kernel
theorem dX5_see_43 : decode cX5_see 43 = .ok (.bipush 28, 2) := by decide +kernel
theorem dX5_see_45 : decode cX5_see 45 = .ok (.iaload, 1) := by decide +kernel
theorem dX5_see_46 : decode cX5_see 46 = .ok (.imul, 1) := by decide +kernel
theorem dX5_see_47 : decode cX5_see 47 = .ok (.iadd, 1) := by decide +kernel
theorem dX5_see_48 : decode cX5_see 48 = .ok (.istore_n 3, 1) := by decide +kernel
theorem dX5_see_49 : decode cX5_see 49 = .ok (.aload_n 0, 1) := by decide +kernel
theorem dX5_see_50 : decode cX5_see 50 = .ok (.getfield 7, 3) := by decide +kernel
theorem dX5_see_53 : decode cX5_see 53 = .ok (.iload_n 3, 1) := by decide +kernel
theorem dX5_see_54 : decode cX5_see 54 = .ok (.iload_n 1, 1) := by decide +kernel
theorem dX5_see_55 : decode cX5_see 55 = .ok (.iastore, 1) := by decide +kernel
theorem dX5_see_56 : decode cX5_see 56 = .ok (.aload_n 0, 1) := by decide +kernel
theorem dX5_see_57 : decode cX5_see 57 = .ok (.getfield 7, 3) := by decide +kernel
theorem dX5_see_60 : decode cX5_see 60 = .ok (.iload_n 3, 1) := by decide +kernel
theorem dX5_see_61 : decode cX5_see 61 = .ok (.iconst 1, 1) := by decide +kernel
theorem dX5_see_62 : decode cX5_see 62 = .ok (.iadd, 1) := by decide +kernel
theorem dX5_see_63 : decode cX5_see 63 = .ok (.iload_n 2, 1) := by decide +kernel
theorem dX5_see_64 : decode cX5_see 64 = .ok (.iastore, 1) := by decide +kernel
theorem dX5_see_65 : decode cX5_see 65 = .ok (.aload_n 0, 1) := by decide +kernel
theorem dX5_see_66 : decode cX5_see 66 = .ok (.getfield 7, 3) := by decide +kernel
theorem dX5_see_69 : decode cX5_see 69 = .ok (.bipush 28, 2) := by decide +kernel
theorem dX5_see_71 : decode cX5_see 71 = .ok (.dup2, 1) := by decide +kernel
theorem dX5_see_72 : decode cX5_see 72 = .ok (.iaload, 1) := by decide +kernel
theorem dX5_see_73 : decode cX5_see 73 = .ok (.iconst 1, 1) := by decide +kernel
theorem dX5_see_74 : decode cX5_see 74 = .ok (.iadd, 1) := by decide +kernel
theorem dX5_see_75 : decode cX5_see 75 = .ok (.iastore, 1) := by decide +kernel
theorem dX5_see_76 : decode cX5_see 76 = .ok (.aload_n 0, 1) := by decide +kernel
theorem dX5_see_77 : decode cX5_see 77 = .ok (.getfield 7, 3) := by decide +kernel
theorem dX5_see_80 : decode cX5_see 80 = .ok (.bipush 28, 2) := by decide +kernel
theorem dX5_see_82 : decode cX5_see 82 = .ok (.iaload, 1) := by decide +kernel
theorem dX5_see_83 : decode cX5_see 83 = .ok (.ireturn, 1) := by decide +kernel
theorem dX5_forget_0 : decode cX5_forget 0 = .ok (.iload_n 1, 1) := by decide +kernel
theorem dX5_forget_1 : decode cX5_forget 1 = .ok (.i2l, 1) := by decide +kernel
theorem dX5_forget_2 : decode cX5_forget 2 = .ok (.lconst 0, 1) := by decide +kernel
theorem dX5_forget_3 : decode cX5_forget 3 = .ok (.aload_n 0, 1) := by decide +kernel
theorem dX5_forget_4 : decode cX5_forget 4 = .ok (.getfield 7, 3) := by decide +kernel
theorem dX5_forget_7 : decode cX5_forget 7 = .ok (.bipush 28, 2) := by decide +kernel
theorem dX5_forget_9 : decode cX5_forget 9 = .ok (.iaload, 1) := by decide +kernel
theorem dX5_forget_10 : decode cX5_forget 10 = .ok (.i2l, 1) := by decide +kernel
theorem dX5_forget_11 : decode cX5_forget 11 = .ok (.invokestatic 56, 3) := by decide +kernel
theorem dX5_forget_14 : decode cX5_forget 14 = .ok (.ifCond .eq 13, 3) := by decide +kernel
theorem dX5_forget_17 : decode cX5_forget 17 = .ok (.aload_n 0, 1) := by decide +kernel
theorem dX5_forget_18 : decode cX5_forget 18 = .ok (.bipush 28, 2) := by decide +kernel
theorem dX5_forget_20 : decode cX5_forget 20 = .ok (.iload_n 1, 1) := by decide +kernel
theorem dX5_forget_21 : decode cX5_forget 21 = .ok (.invokevirtual 212, 3) := by decide +kernel
theorem dX5_forget_24 : decode cX5_forget 24 = .ok (.goto 4, 3) := by decide +kernel
theorem dX5_forget_27 : decode cX5_forget 27 = .ok (.iconst (-1), 1) := by decide +kernel
theorem dX5_forget_28 : decode cX5_forget 28 = .ok (.ireturn, 1) := by decide +kernel
theorem dX5_isSoWith_0 : decode cX5_isSoWith 0 = .ok (.aload_n 0, 1) := by decide +kernel
theorem dX5_isSoWith_1 : decode cX5_isSoWith 1 = .ok (.invokevirtual 196, 3) := by decide +kernel
theorem dX5_isSoWith_4 : decode cX5_isSoWith 4 = .ok (.aload_n 0, 1) := by decide +kernel
theorem dX5_isSoWith_5 : decode cX5_isSoWith 5 = .ok (.getfield 13, 3) := by decide +kernel
theorem dX5_isSoWith_8 : decode cX5_isSoWith 8 = .ok (.iload_n 1, 1) := by decide +kernel
theorem dX5_isSoWith_9 : decode cX5_isSoWith 9 = .ok (.iload_n 2, 1) := by decide +kernel
theorem dX5_isSoWith_10 : decode cX5_isSoWith 10 = .ok (.iastore, 1) := by decide +kernel
theorem dX5_isSoWith_11 : decode cX5_isSoWith 11 = .ok (.iconst 0, 1) := by decide +kernel
theorem dX5_isSoWith_12 : decode cX5_isSoWith 12 = .ok (.istore_n 3, 1) := by decide +kernel
theorem dX5_isSoWith_13 : decode cX5_isSoWith 13 = .ok (.iload_n 3, 1) := by decide +kernel
theorem dX5_isSoWith_14 : decode cX5_isSoWith 14 = .ok (.bipush 20, 2) := by decide +kernel
theorem dX5_isSoWith_16 : decode cX5_isSoWith 16 = .ok (.if_icmp .gt 27, 3) := by decide +kernel
theorem dX5_isSoWith_19 : decode cX5_isSoWith 19 = .ok (.aload_n 0, 1) := by decide +kernel
theorem dX5_isSoWith_20 : decode cX5_isSoWith 20 = .ok (.getfield 26, 3) := by decide +kernel
theorem dX5_isSoWith_23 : decode cX5_isSoWith 23 = .ok (.iload_n 3, 1) := by decide +kernel
theorem dX5_isSoWith_24 : decode cX5_isSoWith 24 = .ok (.aload_n 0, 1) := by decide +kernel
theorem dX5_isSoWith_25 : decode cX5_isSoWith 25 = .ok (.getfield 13, 3) := by decide +kernel
theorem dX5_isSoWith_28 : decode cX5_isSoWith 28 = .ok (.bipush 25, 2) := by decide +kernel
theorem dX5_isSoWith_30 : decode cX5_isSoWith 30 = .ok (.iaload, 1) := by decide +kernel
theorem dX5_isSoWith_31 : decode cX5_isSoWith 31 = .ok (.iastore, 1) := by decide +kernel
theorem dX5_isSoWith_32 : decode cX5_isSoWith 32 = .ok (.aload_n 0, 1) := by decide +kernel
theorem dX5_isSoWith_33 : decode cX5_isSoWith 33 = .ok (.iconst 0, 1) := by decide +kernel
theorem dX5_isSoWith_34 : decode cX5_isSoWith 34 = .ok (.invokevirtual 192, 3) := by decide +kernel
theorem dX5_isSoWith_37 : decode cX5_isSoWith 37 = .ok (.iinc 3 1, 3) := by decide +kernel
theorem dX5_isSoWith_40 : decode cX5_isSoWith 40 = .ok (.goto (-27), 3) := by decide +kernel
theorem dX5_isSoWith_43 : decode cX5_isSoWith 43 = .ok (.iconst 1, 1) := by decide +kernel
theorem dX5_isSoWith_44 : decode cX5_isSoWith 44 = .ok (.istore_n 3, 1) := by decide +kernel
theorem dX5_isSoWith_45 : decode cX5_isSoWith 45 = .ok (.iconst 0, 1) := by decide +kernel
theorem dX5_isSoWith_46 : decode cX5_isSoWith 46 = .ok (.istore 4, 2) := by decide +kernel
theorem dX5_isSoWith_48 : decode cX5_isSoWith 48 = .ok (.iload 4, 2) := by decide +kernel
theorem dX5_isSoWith_50 : decode cX5_isSoWith 50 = .ok (.aload_n 0, 1) := by decide +kernel
theorem dX5_isSoWith_51 : decode cX5_isSoWith 51 = .ok (.getfield 7, 3) := by decide +kernel
theorem dX5_isSoWith_54 : decode cX5_isSoWith 54 = .ok (.bipush 28, 2) := by decide +kernel
theorem dX5_isSoWith_56 : decode cX5_isSoWith 56 = .ok (.iaload, 1) := by decide +kernel
theorem dX5_isSoWith_57 : decode cX5_isSoWith 57 = .ok (.if_icmp .ge 53, 3) := by decide +kernel
theorem dX5_isSoWith_60 : decode cX5_isSoWith 60 = .ok (.iload_n 3, 1) := by decide +kernel
theorem dX5_isSoWith_61 : decode cX5_isSoWith 61 = .ok (.ifCond .eq 41, 3) := by decide +kernel
theorem dX5_isSoWith_64 : decode cX5_isSoWith 64 = .ok (.aload_n 0, 1) := by decide +kernel
theorem dX5_isSoWith_65 : decode cX5_isSoWith 65 = .ok (.getfield 26, 3) := by decide +kernel
theorem dX5_isSoWith_68 : decode cX5_isSoWith 68 = .ok (.aload_n 0, 1) := by decide +kernel
theorem dX5_isSoWith_69 : decode cX5_isSoWith 69 = .ok (.getfield 7, 3) := by decide +kernel
theorem dX5_isSoWith_72 : decode cX5_isSoWith 72 = .ok (.bipush 29, 2) := by decide +kernel
theorem dX5_isSoWith_74 : decode cX5_isSoWith 74 = .ok (.iconst 2, 1) := by decide +kernel
theorem dX5_isSoWith_75 : decode cX5_isSoWith 75 = .ok (.iload 4, 2) := by decide +kernel
theorem dX5_isSoWith_77 : decode cX5_isSoWith 77 = .ok (.imul, 1) := by decide +kernel
theorem dX5_isSoWith_78 : decode cX5_isSoWith 78 = .ok (.iadd, 1) := by decide +kernel
theorem dX5_isSoWith_79 : decode cX5_isSoWith 79 = .ok (.iaload, 1) := by decide +kernel
theorem dX5_isSoWith_80 : decode cX5_isSoWith 80 = .ok (.iaload, 1) := by decide +kernel
theorem dX5_isSoWith_81 : decode cX5_isSoWith 81 = .ok (.aload_n 0, 1) := by decide +kernel
theorem dX5_isSoWith_82 : decode cX5_isSoWith 82 = .ok (.getfield 7, 3) := by decide +kernel
theorem dX5_isSoWith_85 : decode cX5_isSoWith 85 = .ok (.bipush 29, 2) := by decide +kernel
theorem dX5_isSoWith_87 : decode cX5_isSoWith 87 = .ok (.iconst 2, 1) := by decide +kernel
theorem dX5_isSoWith_88 : decode cX5_isSoWith 88 = .ok (.iload 4, 2) := by decide +kernel
theorem dX5_isSoWith_90 : decode cX5_isSoWith 90 = .ok (.imul, 1) := by decide +kernel
theorem dX5_isSoWith_91 : decode cX5_isSoWith 91 = .ok (.iadd, 1) := by decide +kernel
theorem dX5_isSoWith_92 : decode cX5_isSoWith 92 = .ok (.iconst 1, 1) := by decide +kernel
theorem dX5_isSoWith_93 : decode cX5_isSoWith 93 = .ok (.iadd, 1) := by decide +kernel
theorem dX5_isSoWith_94 : decode cX5_isSoWith 94 = .ok (.iaload, 1) := by decide +kernel
theorem dX5_isSoWith_95 : decode cX5_isSoWith 95 = .ok (.if_icmp .ne 7, 3) := by decide +kernel
theorem dX5_isSoWith_98 : decode cX5_isSoWith 98 = .ok (.iconst 1, 1) := by decide +kernel
theorem dX5_isSoWith_99 : decode cX5_isSoWith 99 = .ok (.goto 4, 3) := by decide +kernel
theorem dX5_isSoWith_102 : decode cX5_isSoWith 102 = .ok (.iconst 0, 1) := by decide +kernel
theorem dX5_isSoWith_103 : decode cX5_isSoWith 103 = .ok (.istore_n 3, 1) := by decide +kernel
theorem dX5_isSoWith_104 : decode cX5_isSoWith 104 = .ok (.iinc 4 1, 3) := by decide +kernel
theorem dX5_isSoWith_107 : decode cX5_isSoWith 107 = .ok (.goto (-59), 3) := by decide +kernel
theorem dX5_isSoWith_110 : decode cX5_isSoWith 110 = .ok (.iload_n 3, 1) := by decide +kernel
theorem dX5_isSoWith_111 : decode cX5_isSoWith 111 = .ok (.ireturn, 1) := by decide +kernel
theorem dX5_which_0 : decode cX5_which 0 = .ok (.iconst 0, 1) := by decide +kernel
theorem dX5_which_1 : decode cX5_which 1 = .ok (.istore_n 3, 1) := by decide +kernel
theorem dX5_which_2 : decode cX5_which 2 = .ok (.iconst 0, 1) := by decide +kernel
theorem dX5_which_3 : decode cX5_which 3 = .ok (.istore 4, 2) := by decide +kernel
theorem dX5_which_5 : decode cX5_which 5 = .ok (.iload 4, 2) := by decide +kernel
theorem dX5_which_7 : decode cX5_which 7 = .ok (.iload_n 2, 1) := by decide +kernel
theorem dX5_which_8 : decode cX5_which 8 = .ok (.if_icmp .gt 25, 3) := by decide +kernel
theorem dX5_which_11 : decode cX5_which 11 = .ok (.iload_n 3, 1) := by decide +kernel
theorem dX5_which_12 : decode cX5_which 12 = .ok (.aload_n 0, 1) := by decide +kernel
theorem dX5_which_13 : decode cX5_which 13 = .ok (.iload_n 1, 1) := by decide +kernel
theorem dX5_which_14 : decode cX5_which 14 = .ok (.iload 4, 2) := by decide +kernel
theorem dX5_which_16 : decode cX5_which 16 = .ok (.invokevirtual 293, 3) := by decide +kernel
theorem dX5_which_19 : decode cX5_which 19 = .ok (.invokestatic 153, 3) := by decide +kernel
theorem dX5_which_22 : decode cX5_which 22 = .ok (.iload 4, 2) := by decide +kernel
theorem dX5_which_24 : decode cX5_which 24 = .ok (.ishl, 1) := by decide +kernel
theorem dX5_which_25 : decode cX5_which 25 = .ok (.ior, 1) := by decide +kernel
theorem dX5_which_26 : decode cX5_which 26 = .ok (.istore_n 3, 1) := by decide +kernel
theorem dX5_which_27 : decode cX5_which 27 = .ok (.iinc 4 1, 3) := by decide +kernel
theorem dX5_which_30 : decode cX5_which 30 = .ok (.goto (-25), 3) := by decide +kernel
theorem dX5_which_33 : decode cX5_which 33 = .ok (.iload_n 3, 1) := by decide +kernel
theorem dX5_which_34 : decode cX5_which 34 = .ok (.ireturn, 1) := by decide +kernel
theorem dX5_kinds_0 : decode cX5_kinds 0 = .ok (.aload_n 0, 1) := by decide +kernel
theorem dX5_kinds_1 : decode cX5_kinds 1 = .ok (.iload_n 1, 1) := by decide +kernel
theorem dX5_kinds_2 : decode cX5_kinds 2 = .ok (.invokevirtual 205, 3) := by decide +kernel
theorem dX5_kinds_5 : decode cX5_kinds 5 = .ok (.ifCond .eq 16, 3) := by decide +kernel
theorem dX5_kinds_8 : decode cX5_kinds 8 = .ok (.aload_n 0, 1) := by decide +kernel
theorem dX5_kinds_9 : decode cX5_kinds 9 = .ok (.iconst 4, 1) := by decide +kernel
theorem dX5_kinds_10 : decode cX5_kinds 10 = .ok (.iload_n 1, 1) := by decide +kernel
theorem dX5_kinds_11 : decode cX5_kinds 11 = .ok (.imul, 1) := by decide +kernel
theorem dX5_kinds_12 : decode cX5_kinds 12 = .ok (.iconst 0, 1) := by decide +kernel
theorem dX5_kinds_13 : decode cX5_kinds 13 = .ok (.iadd, 1) := by decide +kernel
theorem dX5_kinds_14 : decode cX5_kinds 14 = .ok (.iconst 3, 1) := by decide +kernel
theorem dX5_kinds_15 : decode cX5_kinds 15 = .ok (.invokevirtual 296, 3) := by decide +kernel
theorem dX5_kinds_18 : decode cX5_kinds 18 = .ok (.goto 4, 3) := by decide +kernel
theorem dX5_kinds_21 : decode cX5_kinds 21 = .ok (.iconst (-1), 1) := by decide +kernel
theorem dX5_kinds_22 : decode cX5_kinds 22 = .ok (.ireturn, 1) := by decide +kernel
theorem dX5_wants_0 : decode cX5_wants 0 = .ok (.aload_n 0, 1) := by decide +kernel
theorem dX5_wants_1 : decode cX5_wants 1 = .ok (.iload_n 1, 1) := by decide +kernel
theorem dX5_wants_2 : decode cX5_wants 2 = .ok (.invokevirtual 205, 3) := by decide +kernel
theorem dX5_wants_5 : decode cX5_wants 5 = .ok (.ifCond .eq 17, 3) := by decide +kernel
theorem dX5_wants_8 : decode cX5_wants 8 = .ok (.aload_n 0, 1) := by decide +kernel
theorem dX5_wants_9 : decode cX5_wants 9 = .ok (.iconst 4, 1) := by decide +kernel
theorem dX5_wants_10 : decode cX5_wants 10 = .ok (.iload_n 1, 1) := by decide +kernel
theorem dX5_wants_11 : decode cX5_wants 11 = .ok (.imul, 1) := by decide +kernel
theorem dX5_wants_12 : decode cX5_wants 12 = .ok (.iconst 2, 1) := by decide +kernel
theorem dX5_wants_13 : decode cX5_wants 13 = .ok (.iadd, 1) := by decide +kernel
theorem dX5_wants_14 : decode cX5_wants 14 = .ok (.bipush 20, 2) := by decide +kernel
theorem dX5_wants_16 : decode cX5_wants 16 = .ok (.invokevirtual 296, 3) := by decide +kernel
theorem dX5_wants_19 : decode cX5_wants 19 = .ok (.goto 4, 3) := by decide +kernel
theorem dX5_wants_22 : decode cX5_wants 22 = .ok (.iconst (-1), 1) := by decide +kernel
theorem dX5_wants_23 : decode cX5_wants 23 = .ok (.ireturn, 1) := by decide +kernel
theorem dX5_ask_0 : decode cX5_ask 0 = .ok (.aload_n 0, 1) := by decide +kernel
theorem dX5_ask_1 : decode cX5_ask 1 = .ok (.iload_n 1, 1) := by decide +kernel
theorem dX5_ask_2 : decode cX5_ask 2 = .ok (.invokevirtual 205, 3) := by decide +kernel
theorem dX5_ask_5 : decode cX5_ask 5 = .ok (.ifCond .eq 10, 3) := by decide +kernel
theorem dX5_ask_8 : decode cX5_ask 8 = .ok (.iload_n 2, 1) := by decide +kernel
theorem dX5_ask_9 : decode cX5_ask 9 = .ok (.invokestatic 243, 3) := by decide +kernel
theorem dX5_ask_12 : decode cX5_ask 12 = .ok (.ifCond .ne 5, 3) := by decide +kernel
theorem dX5_ask_15 : decode cX5_ask 15 = .ok (.iconst (-1), 1) := by decide +kernel
theorem dX5_ask_16 : decode cX5_ask 16 = .ok (.ireturn, 1) := by decide +kernel
theorem dX5_ask_17 : decode cX5_ask 17 = .ok (.iconst 0, 1) := by decide +kernel
theorem dX5_ask_18 : decode cX5_ask 18 = .ok (.istore_n 3, 1) := by decide +kernel
theorem dX5_ask_19 : decode cX5_ask 19 = .ok (.iconst 0, 1) := by decide +kernel
theorem dX5_ask_20 : decode cX5_ask 20 = .ok (.istore 4, 2) := by decide +kernel
theorem dX5_ask_22 : decode cX5_ask 22 = .ok (.iload 4, 2) := by decide +kernel
theorem dX5_ask_24 : decode cX5_ask 24 = .ok (.bipush 20, 2) := by decide +kernel
theorem dX5_ask_26 : decode cX5_ask 26 = .ok (.if_icmp .gt 61, 3) := by decide +kernel
theorem dX5_ask_29 : decode cX5_ask 29 = .ok (.aload_n 0, 1) := by decide +kernel
theorem dX5_ask_30 : decode cX5_ask 30 = .ok (.iconst 4, 1) := by decide +kernel
theorem dX5_ask_31 : decode cX5_ask 31 = .ok (.iload_n 1, 1) := by decide +kernel
theorem dX5_ask_32 : decode cX5_ask 32 = .ok (.imul, 1) := by decide +kernel
theorem dX5_ask_33 : decode cX5_ask 33 = .ok (.iconst 2, 1) := by decide +kernel
theorem dX5_ask_34 : decode cX5_ask 34 = .ok (.iadd, 1) := by decide +kernel
theorem dX5_ask_35 : decode cX5_ask 35 = .ok (.iload 4, 2) := by decide +kernel
theorem dX5_ask_37 : decode cX5_ask 37 = .ok (.invokevirtual 293, 3) := by decide +kernel
theorem dX5_ask_40 : decode cX5_ask 40 = .ok (.ifCond .eq 41, 3) := by decide +kernel
theorem dX5_ask_43 : decode cX5_ask 43 = .ok (.iconst 0, 1) := by decide +kernel
theorem dX5_ask_44 : decode cX5_ask 44 = .ok (.istore 5, 2) := by decide +kernel
theorem dX5_ask_46 : decode cX5_ask 46 = .ok (.iload 5, 2) := by decide +kernel
theorem dX5_ask_48 : decode cX5_ask 48 = .ok (.bipush 20, 2) := by decide +kernel
theorem dX5_ask_50 : decode cX5_ask 50 = .ok (.if_icmp .gt 28, 3) := by decide +kernel
theorem dX5_ask_53 : decode cX5_ask 53 = .ok (.aload_n 0, 1) := by decide +kernel
theorem dX5_ask_54 : decode cX5_ask 54 = .ok (.getfield 29, 3) := by decide +kernel
theorem dX5_ask_57 : decode cX5_ask 57 = .ok (.bipush 21, 2) := by decide +kernel
theorem dX5_ask_59 : decode cX5_ask 59 = .ok (.iload_n 3, 1) := by decide +kernel
theorem dX5_ask_60 : decode cX5_ask 60 = .ok (.imul, 1) := by decide +kernel
theorem dX5_ask_61 : decode cX5_ask 61 = .ok (.iload 5, 2) := by decide +kernel
theorem dX5_ask_63 : decode cX5_ask 63 = .ok (.iadd, 1) := by decide +kernel
theorem dX5_ask_64 : decode cX5_ask 64 = .ok (.aload_n 0, 1) := by decide +kernel
theorem dX5_ask_65 : decode cX5_ask 65 = .ok (.getfield 26, 3) := by decide +kernel
theorem dX5_ask_68 : decode cX5_ask 68 = .ok (.iload 5, 2) := by decide +kernel
theorem dX5_ask_70 : decode cX5_ask 70 = .ok (.iaload, 1) := by decide +kernel
theorem dX5_ask_71 : decode cX5_ask 71 = .ok (.iastore, 1) := by decide +kernel
theorem dX5_ask_72 : decode cX5_ask 72 = .ok (.iinc 5 1, 3) := by decide +kernel
theorem dX5_ask_75 : decode cX5_ask 75 = .ok (.goto (-29), 3) := by decide +kernel
theorem dX5_ask_78 : decode cX5_ask 78 = .ok (.iinc 3 1, 3) := by decide +kernel
theorem dX5_ask_81 : decode cX5_ask 81 = .ok (.iinc 4 1, 3) := by decide +kernel
theorem dX5_ask_84 : decode cX5_ask 84 = .ok (.goto (-62), 3) := by decide +kernel
theorem dX5_ask_87 : decode cX5_ask 87 = .ok (.aload_n 0, 1) := by decide +kernel
theorem dX5_ask_88 : decode cX5_ask 88 = .ok (.iload_n 3, 1) := by decide +kernel
theorem dX5_ask_89 : decode cX5_ask 89 = .ok (.invokevirtual 246, 3) := by decide +kernel
theorem dX5_ask_92 : decode cX5_ask 92 = .ok (.iconst 0, 1) := by decide +kernel
theorem dX5_ask_93 : decode cX5_ask 93 = .ok (.istore 4, 2) := by decide +kernel
theorem dX5_ask_95 : decode cX5_ask 95 = .ok (.iload 4, 2) := by decide +kernel
theorem dX5_ask_97 : decode cX5_ask 97 = .ok (.bipush 20, 2) := by decide +kernel
theorem dX5_ask_99 : decode cX5_ask 99 = .ok (.if_icmp .gt 111, 3) := by decide +kernel
theorem dX5_ask_102 : decode cX5_ask 102 = .ok (.iconst 0, 1) := by decide +kernel
theorem dX5_ask_103 : decode cX5_ask 103 = .ok (.istore 5, 2) := by decide +kernel
theorem dX5_ask_105 : decode cX5_ask 105 = .ok (.iconst 0, 1) := by decide +kernel
theorem dX5_ask_106 : decode cX5_ask 106 = .ok (.istore 6, 2) := by decide +kernel
theorem dX5_ask_108 : decode cX5_ask 108 = .ok (.iload 6, 2) := by decide +kernel
theorem dX5_ask_110 : decode cX5_ask 110 = .ok (.iload_n 3, 1) := by decide +kernel
theorem dX5_ask_111 : decode cX5_ask 111 = .ok (.if_icmp .ge 85, 3) := by decide +kernel
theorem dX5_ask_114 : decode cX5_ask 114 = .ok (.iconst 0, 1) := by decide +kernel
theorem dX5_ask_115 : decode cX5_ask 115 = .ok (.istore 7, 2) := by decide +kernel
theorem dX5_ask_117 : decode cX5_ask 117 = .ok (.iconst 0, 1) := by decide +kernel
theorem dX5_ask_118 : decode cX5_ask 118 = .ok (.istore 8, 2) := by decide +kernel
theorem dX5_ask_120 : decode cX5_ask 120 = .ok (.iload 8, 2) := by decide +kernel
theorem dX5_ask_122 : decode cX5_ask 122 = .ok (.iload_n 3, 1) := by decide +kernel
theorem dX5_ask_123 : decode cX5_ask 123 = .ok (.if_icmp .ge 51, 3) := by decide +kernel
theorem dX5_ask_126 : decode cX5_ask 126 = .ok (.iload 7, 2) := by decide +kernel
theorem dX5_ask_128 : decode cX5_ask 128 = .ok (.aload_n 0, 1) := by decide +kernel
theorem dX5_ask_129 : decode cX5_ask 129 = .ok (.getfield 29, 3) := by decide +kernel
theorem dX5_ask_132 : decode cX5_ask 132 = .ok (.bipush 21, 2) := by decide +kernel
theorem dX5_ask_134 : decode cX5_ask 134 = .ok (.iload 6, 2) := by decide +kernel
theorem dX5_ask_136 : decode cX5_ask 136 = .ok (.imul, 1) := by decide +kernel
theorem dX5_ask_137 : decode cX5_ask 137 = .ok (.iload 4, 2) := by decide +kernel
theorem dX5_ask_139 : decode cX5_ask 139 = .ok (.iadd, 1) := by decide +kernel
theorem dX5_ask_140 : decode cX5_ask 140 = .ok (.iaload, 1) := by decide +kernel
theorem dX5_ask_141 : decode cX5_ask 141 = .ok (.aload_n 0, 1) := by decide +kernel
theorem dX5_ask_142 : decode cX5_ask 142 = .ok (.getfield 29, 3) := by decide +kernel
theorem dX5_ask_145 : decode cX5_ask 145 = .ok (.bipush 21, 2) := by decide +kernel
theorem dX5_ask_147 : decode cX5_ask 147 = .ok (.iload 8, 2) := by decide +kernel
theorem dX5_ask_149 : decode cX5_ask 149 = .ok (.imul, 1) := by decide +kernel
theorem dX5_ask_150 : decode cX5_ask 150 = .ok (.iload 4, 2) := by decide +kernel
theorem dX5_ask_152 : decode cX5_ask 152 = .ok (.iadd, 1) := by decide +kernel
theorem dX5_ask_153 : decode cX5_ask 153 = .ok (.iaload, 1) := by decide +kernel
theorem dX5_ask_154 : decode cX5_ask 154 = .ok (.if_icmp .ne 7, 3) := by decide +kernel
theorem dX5_ask_157 : decode cX5_ask 157 = .ok (.iconst 1, 1) := by decide +kernel
theorem dX5_ask_158 : decode cX5_ask 158 = .ok (.goto 4, 3) := by decide +kernel
theorem dX5_ask_161 : decode cX5_ask 161 = .ok (.iconst 0, 1) := by decide +kernel
theorem dX5_ask_162 : decode cX5_ask 162 = .ok (.invokestatic 153, 3) := by decide +kernel
theorem dX5_ask_165 : decode cX5_ask 165 = .ok (.iadd, 1) := by decide +kernel
theorem dX5_ask_166 : decode cX5_ask 166 = .ok (.istore 7, 2) := by decide +kernel
theorem dX5_ask_168 : decode cX5_ask 168 = .ok (.iinc 8 1, 3) := by decide +kernel
theorem dX5_ask_171 : decode cX5_ask 171 = .ok (.goto (-51), 3) := by decide +kernel
theorem dX5_ask_174 : decode cX5_ask 174 = .ok (.iload 7, 2) := by decide +kernel
theorem dX5_ask_176 : decode cX5_ask 176 = .ok (.iload 5, 2) := by decide +kernel
theorem dX5_ask_178 : decode cX5_ask 178 = .ok (.if_icmp .le 8, 3) := by decide +kernel
theorem dX5_ask_181 : decode cX5_ask 181 = .ok (.iload 7, 2) := by decide +kernel
theorem dX5_ask_183 : decode cX5_ask 183 = .ok (.goto 5, 3) := by decide +kernel
theorem dX5_ask_186 : decode cX5_ask 186 = .ok (.iload 5, 2) := by decide +kernel
theorem dX5_ask_188 : decode cX5_ask 188 = .ok (.istore 5, 2) := by decide +kernel
theorem dX5_ask_190 : decode cX5_ask 190 = .ok (.iinc 6 1, 3) := by decide +kernel
theorem dX5_ask_193 : decode cX5_ask 193 = .ok (.goto (-85), 3) := by decide +kernel
theorem dX5_ask_196 : decode cX5_ask 196 = .ok (.aload_n 0, 1) := by decide +kernel
theorem dX5_ask_197 : decode cX5_ask 197 = .ok (.iload 4, 2) := by decide +kernel
theorem dX5_ask_199 : decode cX5_ask 199 = .ok (.iload 5, 2) := by decide +kernel
theorem dX5_ask_201 : decode cX5_ask 201 = .ok (.invokevirtual 249, 3) := by decide +kernel
theorem dX5_ask_204 : decode cX5_ask 204 = .ok (.iinc 4 1, 3) := by decide +kernel
theorem dX5_ask_207 : decode cX5_ask 207 = .ok (.goto (-112), 3) := by decide +kernel
theorem dX5_ask_210 : decode cX5_ask 210 = .ok (.aload_n 0, 1) := by decide +kernel
theorem dX5_ask_211 : decode cX5_ask 211 = .ok (.iload_n 2, 1) := by decide +kernel
theorem dX5_ask_212 : decode cX5_ask 212 = .ok (.invokevirtual 253, 3) := by decide +kernel
theorem dX5_ask_215 : decode cX5_ask 215 = .ok (.ireturn, 1) := by decide +kernel
theorem dX5_drift_0 : decode cX5_drift 0 = .ok (.iload_n 2, 1) := by decide +kernel
theorem dX5_drift_1 : decode cX5_drift 1 = .ok (.i2l, 1) := by decide +kernel
theorem dX5_drift_2 : decode cX5_drift 2 = .ok (.lconst 1, 1) := by decide +kernel
theorem dX5_drift_3 : decode cX5_drift 3 = .ok (.ldc2_w 223, 3) := by decide +kernel
theorem dX5_drift_6 : decode cX5_drift 6 = .ok (.invokestatic 56, 3) := by decide +kernel
theorem dX5_drift_9 : decode cX5_drift 9 = .ok (.ifCond .eq 10, 3) := by decide +kernel
theorem dX5_drift_12 : decode cX5_drift 12 = .ok (.iload_n 3, 1) := by decide +kernel
theorem dX5_drift_13 : decode cX5_drift 13 = .ok (.invokestatic 243, 3) := by decide +kernel
theorem dX5_drift_16 : decode cX5_drift 16 = .ok (.ifCond .ne 5, 3) := by decide +kernel
theorem dX5_drift_19 : decode cX5_drift 19 = .ok (.iconst (-1), 1) := by decide +kernel
theorem dX5_drift_20 : decode cX5_drift 20 = .ok (.ireturn, 1) := by decide +kernel
theorem dX5_drift_21 : decode cX5_drift 21 = .ok (.aload_n 0, 1) := by decide +kernel
theorem dX5_drift_22 : decode cX5_drift 22 = .ok (.getfield 7, 3) := by decide +kernel
theorem dX5_drift_25 : decode cX5_drift 25 = .ok (.bipush 24, 2) := by decide +kernel
theorem dX5_drift_27 : decode cX5_drift 27 = .ok (.iaload, 1) := by decide +kernel
theorem dX5_drift_28 : decode cX5_drift 28 = .ok (.ifCond .ne 6, 3) := by decide +kernel
theorem dX5_drift_31 : decode cX5_drift 31 = .ok (.bipush (-2), 2) := by decide +kernel
theorem dX5_drift_33 : decode cX5_drift 33 = .ok (.ireturn, 1) := by decide +kernel
theorem dX5_drift_34 : decode cX5_drift 34 = .ok (.iload_n 1, 1) := by decide +kernel
theorem dX5_drift_35 : decode cX5_drift 35 = .ok (.istore 4, 2) := by decide +kernel
theorem dX5_drift_37 : decode cX5_drift 37 = .ok (.aload_n 0, 1) := by decide +kernel
theorem dX5_drift_38 : decode cX5_drift 38 = .ok (.invokevirtual 196, 3) := by decide +kernel
theorem dX5_drift_41 : decode cX5_drift 41 = .ok (.iconst 0, 1) := by decide +kernel
theorem dX5_drift_42 : decode cX5_drift 42 = .ok (.istore 5, 2) := by decide +kernel
theorem dX5_drift_44 : decode cX5_drift 44 = .ok (.iload 5, 2) := by decide +kernel
theorem dX5_drift_46 : decode cX5_drift 46 = .ok (.iload_n 2, 1) := by decide +kernel
theorem dX5_drift_47 : decode cX5_drift 47 = .ok (.if_icmp .ge 60, 3) := by decide +kernel
theorem dX5_drift_50 : decode cX5_drift 50 = .ok (.iload 4, 2) := by decide +kernel
theorem dX5_drift_52 : decode cX5_drift 52 = .ok (.ldc_w 299, 3) := by decide +kernel
theorem dX5_drift_55 : decode cX5_drift 55 = .ok (.imul, 1) := by decide +kernel
theorem dX5_drift_56 : decode cX5_drift 56 = .ok (.sipush 12345, 3) := by decide +kernel
theorem dX5_drift_59 : decode cX5_drift 59 = .ok (.iadd, 1) := by decide +kernel
theorem dX5_drift_60 : decode cX5_drift 60 = .ok (.istore 4, 2) := by decide +kernel
theorem dX5_drift_62 : decode cX5_drift 62 = .ok (.iload 4, 2) := by decide +kernel
theorem dX5_drift_64 : decode cX5_drift 64 = .ok (.bipush 16, 2) := by decide +kernel
theorem dX5_drift_66 : decode cX5_drift 66 = .ok (.ishr, 1) := by decide +kernel
theorem dX5_drift_67 : decode cX5_drift 67 = .ok (.sipush 32767, 3) := by decide +kernel
theorem dX5_drift_70 : decode cX5_drift 70 = .ok (.iand, 1) := by decide +kernel
theorem dX5_drift_71 : decode cX5_drift 71 = .ok (.istore 6, 2) := by decide +kernel
theorem dX5_drift_73 : decode cX5_drift 73 = .ok (.aload_n 0, 1) := by decide +kernel
theorem dX5_drift_74 : decode cX5_drift 74 = .ok (.iload 6, 2) := by decide +kernel
theorem dX5_drift_76 : decode cX5_drift 76 = .ok (.aload_n 0, 1) := by decide +kernel
theorem dX5_drift_77 : decode cX5_drift 77 = .ok (.getfield 7, 3) := by decide +kernel
theorem dX5_drift_80 : decode cX5_drift 80 = .ok (.bipush 24, 2) := by decide +kernel
theorem dX5_drift_82 : decode cX5_drift 82 = .ok (.iaload, 1) := by decide +kernel
theorem dX5_drift_83 : decode cX5_drift 83 = .ok (.irem, 1) := by decide +kernel
theorem dX5_drift_84 : decode cX5_drift 84 = .ok (.iconst 2, 1) := by decide +kernel
theorem dX5_drift_85 : decode cX5_drift 85 = .ok (.iload 6, 2) := by decide +kernel
theorem dX5_drift_87 : decode cX5_drift 87 = .ok (.bipush 8, 2) := by decide +kernel
theorem dX5_drift_89 : decode cX5_drift 89 = .ok (.idiv, 1) := by decide +kernel
theorem dX5_drift_90 : decode cX5_drift 90 = .ok (.bipush 21, 2) := by decide +kernel
theorem dX5_drift_92 : decode cX5_drift 92 = .ok (.irem, 1) := by decide +kernel
theorem dX5_drift_93 : decode cX5_drift 93 = .ok (.invokevirtual 178, 3) := by decide +kernel
theorem dX5_drift_96 : decode cX5_drift 96 = .ok (.aload_n 0, 1) := by decide +kernel
theorem dX5_drift_97 : decode cX5_drift 97 = .ok (.iconst 0, 1) := by decide +kernel
theorem dX5_drift_98 : decode cX5_drift 98 = .ok (.invokevirtual 192, 3) := by decide +kernel
theorem dX5_drift_101 : decode cX5_drift 101 = .ok (.iinc 5 1, 3) := by decide +kernel
theorem dX5_drift_104 : decode cX5_drift 104 = .ok (.goto (-60), 3) := by decide +kernel
theorem dX5_drift_107 : decode cX5_drift 107 = .ok (.iload_n 3, 1) := by decide +kernel
theorem dX5_drift_108 : decode cX5_drift 108 = .ok (.ifCond .ne 13, 3) := by decide +kernel
theorem dX5_drift_111 : decode cX5_drift 111 = .ok (.aload_n 0, 1) := by decide +kernel
theorem dX5_drift_112 : decode cX5_drift 112 = .ok (.getfield 13, 3) := by decide +kernel
theorem dX5_drift_115 : decode cX5_drift 115 = .ok (.bipush 25, 2) := by decide +kernel
theorem dX5_drift_117 : decode cX5_drift 117 = .ok (.iaload, 1) := by decide +kernel
theorem dX5_drift_118 : decode cX5_drift 118 = .ok (.goto 7, 3) := by decide +kernel
theorem dX5_drift_121 : decode cX5_drift 121 = .ok (.aload_n 0, 1) := by decide +kernel
theorem dX5_drift_122 : decode cX5_drift 122 = .ok (.getfield 128, 3) := by decide +kernel
theorem dX5_drift_125 : decode cX5_drift 125 = .ok (.ireturn, 1) := by decide +kernel
theorem dX5_copies_0 : decode cX5_copies 0 = .ok (.iconst 0, 1) := by decide +kernel
theorem dX5_copies_1 : decode cX5_copies 1 = .ok (.istore_n 3, 1) := by decide +kernel
theorem dX5_copies_2 : decode cX5_copies 2 = .ok (.iload_n 3, 1) := by decide +kernel
theorem dX5_copies_3 : decode cX5_copies 3 = .ok (.bipush 41, 2) := by decide +kernel
theorem dX5_copies_5 : decode cX5_copies 5 = .ok (.if_icmp .ge 25, 3) := by decide +kernel
theorem dX5_copies_8 : decode cX5_copies 8 = .ok (.aload_n 0, 1) := by decide +kernel
theorem dX5_copies_9 : decode cX5_copies 9 = .ok (.getfield 7, 3) := by decide +kernel
theorem dX5_copies_12 : decode cX5_copies 12 = .ok (.iload_n 1, 1) := by decide +kernel
theorem dX5_copies_13 : decode cX5_copies 13 = .ok (.iload_n 3, 1) := by decide +kernel
theorem dX5_copies_14 : decode cX5_copies 14 = .ok (.iadd, 1) := by decide +kernel
theorem dX5_copies_15 : decode cX5_copies 15 = .ok (.aload_n 0, 1) := by decide +kernel
theorem dX5_copies_16 : decode cX5_copies 16 = .ok (.getfield 7, 3) := by decide +kernel
theorem dX5_copies_19 : decode cX5_copies 19 = .ok (.iload_n 2, 1) := by decide +kernel
theorem dX5_copies_20 : decode cX5_copies 20 = .ok (.iload_n 3, 1) := by decide +kernel
theorem dX5_copies_21 : decode cX5_copies 21 = .ok (.iadd, 1) := by decide +kernel
theorem dX5_copies_22 : decode cX5_copies 22 = .ok (.iaload, 1) := by decide +kernel
theorem dX5_copies_23 : decode cX5_copies 23 = .ok (.iastore, 1) := by decide +kernel
theorem dX5_copies_24 : decode cX5_copies 24 = .ok (.iinc 3 1, 3) := by decide +kernel
theorem dX5_copies_27 : decode cX5_copies 27 = .ok (.goto (-25), 3) := by decide +kernel
theorem dX5_copies_30 : decode cX5_copies 30 = .ok (.return_, 1) := by decide +kernel
theorem dX5_keep_0 : decode cX5_keep 0 = .ok (.iload_n 1, 1) := by decide +kernel
theorem dX5_keep_1 : decode cX5_keep 1 = .ok (.i2l, 1) := by decide +kernel
theorem dX5_keep_2 : decode cX5_keep 2 = .ok (.lconst 0, 1) := by decide +kernel
theorem dX5_keep_3 : decode cX5_keep 3 = .ok (.lconst 1, 1) := by decide +kernel
theorem dX5_keep_4 : decode cX5_keep 4 = .ok (.invokestatic 56, 3) := by decide +kernel
theorem dX5_keep_7 : decode cX5_keep 7 = .ok (.ifCond .ne 5, 3) := by decide +kernel
theorem dX5_keep_10 : decode cX5_keep 10 = .ok (.iconst (-1), 1) := by decide +kernel
theorem dX5_keep_11 : decode cX5_keep 11 = .ok (.ireturn, 1) := by decide +kernel
theorem dX5_keep_12 : decode cX5_keep 12 = .ok (.aload_n 0, 1) := by decide +kernel
theorem dX5_keep_13 : decode cX5_keep 13 = .ok (.getfield 16, 3) := by decide +kernel
theorem dX5_keep_16 : decode cX5_keep 16 = .ok (.iload_n 1, 1) := by decide +kernel
theorem dX5_keep_17 : decode cX5_keep 17 = .ok (.baload, 1) := by decide +kernel
theorem dX5_keep_18 : decode cX5_keep 18 = .ok (.invokestatic 153, 3) := by decide +kernel
theorem dX5_keep_21 : decode cX5_keep 21 = .ok (.istore_n 2, 1) := by decide +kernel
theorem dX5_keep_22 : decode cX5_keep 22 = .ok (.aload_n 0, 1) := by decide +kernel
theorem dX5_keep_23 : decode cX5_keep 23 = .ok (.getfield 16, 3) := by decide +kernel
theorem dX5_keep_26 : decode cX5_keep 26 = .ok (.iload_n 1, 1) := by decide +kernel
theorem dX5_keep_27 : decode cX5_keep 27 = .ok (.iconst 1, 1) := by decide +kernel
theorem dX5_keep_28 : decode cX5_keep 28 = .ok (.bastore, 1) := by decide +kernel
theorem dX5_keep_29 : decode cX5_keep 29 = .ok (.aload_n 0, 1) := by decide +kernel
theorem dX5_keep_30 : decode cX5_keep 30 = .ok (.bipush 41, 2) := by decide +kernel
theorem dX5_keep_32 : decode cX5_keep 32 = .ok (.iload_n 1, 1) := by decide +kernel
theorem dX5_keep_33 : decode cX5_keep 33 = .ok (.iconst 1, 1) := by decide +kernel
theorem dX5_keep_34 : decode cX5_keep 34 = .ok (.iadd, 1) := by decide +kernel
theorem dX5_keep_35 : decode cX5_keep 35 = .ok (.imul, 1) := by decide +kernel
theorem dX5_keep_36 : decode cX5_keep 36 = .ok (.iconst 0, 1) := by decide +kernel
theorem dX5_keep_37 : decode cX5_keep 37 = .ok (.invokevirtual 300, 3) := by decide +kernel
theorem dX5_keep_40 : decode cX5_keep 40 = .ok (.iload_n 2, 1) := by decide +kernel
theorem dX5_keep_41 : decode cX5_keep 41 = .ok (.ireturn, 1) := by decide +kernel
theorem dX5_back_0 : decode cX5_back 0 = .ok (.iload_n 1, 1) := by decide +kernel
theorem dX5_back_1 : decode cX5_back 1 = .ok (.i2l, 1) := by decide +kernel
theorem dX5_back_2 : decode cX5_back 2 = .ok (.lconst 0, 1) := by decide +kernel
theorem dX5_back_3 : decode cX5_back 3 = .ok (.lconst 1, 1) := by decide +kernel
theorem dX5_back_4 : decode cX5_back 4 = .ok (.invokestatic 56, 3) := by decide +kernel
theorem dX5_back_7 : decode cX5_back 7 = .ok (.ifCond .ne 5, 3) := by decide +kernel
theorem dX5_back_10 : decode cX5_back 10 = .ok (.iconst (-1), 1) := by decide +kernel
theorem dX5_back_11 : decode cX5_back 11 = .ok (.ireturn, 1) := by decide +kernel
theorem dX5_back_12 : decode cX5_back 12 = .ok (.aload_n 0, 1) := by decide +kernel
theorem dX5_back_13 : decode cX5_back 13 = .ok (.getfield 16, 3) := by decide +kernel
theorem dX5_back_16 : decode cX5_back 16 = .ok (.iload_n 1, 1) := by decide +kernel
theorem dX5_back_17 : decode cX5_back 17 = .ok (.baload, 1) := by decide +kernel
theorem dX5_back_18 : decode cX5_back 18 = .ok (.ifCond .ne 6, 3) := by decide +kernel
theorem dX5_back_21 : decode cX5_back 21 = .ok (.bipush (-2), 2) := by decide +kernel
theorem dX5_back_23 : decode cX5_back 23 = .ok (.ireturn, 1) := by decide +kernel
theorem dX5_back_24 : decode cX5_back 24 = .ok (.aload_n 0, 1) := by decide +kernel
theorem dX5_back_25 : decode cX5_back 25 = .ok (.iconst 0, 1) := by decide +kernel
theorem dX5_back_26 : decode cX5_back 26 = .ok (.bipush 41, 2) := by decide +kernel
theorem dX5_back_28 : decode cX5_back 28 = .ok (.iload_n 1, 1) := by decide +kernel
theorem dX5_back_29 : decode cX5_back 29 = .ok (.iconst 1, 1) := by decide +kernel
theorem dX5_back_30 : decode cX5_back 30 = .ok (.iadd, 1) := by decide +kernel
theorem dX5_back_31 : decode cX5_back 31 = .ok (.imul, 1) := by decide +kernel
theorem dX5_back_32 : decode cX5_back 32 = .ok (.invokevirtual 300, 3) := by decide +kernel
theorem dX5_back_35 : decode cX5_back 35 = .ok (.aload_n 0, 1) := by decide +kernel
theorem dX5_back_36 : decode cX5_back 36 = .ok (.getfield 7, 3) := by decide +kernel
theorem dX5_back_39 : decode cX5_back 39 = .ok (.bipush 26, 2) := by decide +kernel
theorem dX5_back_41 : decode cX5_back 41 = .ok (.iaload, 1) := by decide +kernel
theorem dX5_back_42 : decode cX5_back 42 = .ok (.ireturn, 1) := by decide +kernel
theorem dX5_isSheet_0 : decode cX5_isSheet 0 = .ok (.iload_n 0, 1) := by decide +kernel
theorem dX5_isSheet_1 : decode cX5_isSheet 1 = .ok (.i2l, 1) := by decide +kernel
theorem dX5_isSheet_2 : decode cX5_isSheet 2 = .ok (.lconst 0, 1) := by decide +kernel
theorem dX5_isSheet_3 : decode cX5_isSheet 3 = .ok (.ldc2_w 210, 3) := by decide +kernel
theorem dX5_isSheet_6 : decode cX5_isSheet 6 = .ok (.invokestatic 56, 3) := by decide +kernel
theorem dX5_isSheet_9 : decode cX5_isSheet 9 = .ok (.ifCond .eq 19, 3) := by decide +kernel
theorem dX5_isSheet_12 : decode cX5_isSheet 12 = .ok (.iload_n 1, 1) := by decide +kernel
theorem dX5_isSheet_13 : decode cX5_isSheet 13 = .ok (.i2l, 1) := by decide +kernel
theorem dX5_isSheet_14 : decode cX5_isSheet 14 = .ok (.lconst 0, 1) := by decide +kernel
theorem dX5_isSheet_15 : decode cX5_isSheet 15 = .ok (.ldc2_w 140, 3) := by decide +kernel
theorem dX5_isSheet_18 : decode cX5_isSheet 18 = .ok (.invokestatic 56, 3) := by decide +kernel
theorem dX5_isSheet_21 : decode cX5_isSheet 21 = .ok (.ifCond .eq 7, 3) := by decide +kernel
theorem dX5_isSheet_24 : decode cX5_isSheet 24 = .ok (.iconst 1, 1) := by decide +kernel
theorem dX5_isSheet_25 : decode cX5_isSheet 25 = .ok (.goto 4, 3) := by decide +kernel
theorem dX5_isSheet_28 : decode cX5_isSheet 28 = .ok (.iconst 0, 1) := by decide +kernel
theorem dX5_isSheet_29 : decode cX5_isSheet 29 = .ok (.ireturn, 1) := by decide +kernel
theorem dX5_sheet_0 : decode cX5_sheet 0 = .ok (.iload_n 1, 1) := by decide +kernel
theorem dX5_sheet_1 : decode cX5_sheet 1 = .ok (.iload_n 2, 1) := by decide +kernel
theorem dX5_sheet_2 : decode cX5_sheet 2 = .ok (.invokestatic 303, 3) := by decide +kernel
theorem dX5_sheet_5 : decode cX5_sheet 5 = .ok (.ifCond .eq 9, 3) := by decide +kernel
theorem dX5_sheet_8 : decode cX5_sheet 8 = .ok (.iload_n 3, 1) := by decide +kernel
theorem dX5_sheet_9 : decode cX5_sheet 9 = .ok (.bipush 40, 2) := by decide +kernel
theorem dX5_sheet_11 : decode cX5_sheet 11 = .ok (.if_icmp .le 5, 3) := by decide +kernel
theorem dX5_sheet_14 : decode cX5_sheet 14 = .ok (.iconst (-1), 1) := by decide +kernel
theorem dX5_sheet_15 : decode cX5_sheet 15 = .ok (.ireturn, 1) := by decide +kernel
theorem dX5_sheet_16 : decode cX5_sheet 16 = .ok (.iload_n 3, 1) := by decide +kernel
theorem dX5_sheet_17 : decode cX5_sheet 17 = .ok (.ifCond .ge 6, 3) := by decide +kernel
theorem dX5_sheet_20 : decode cX5_sheet 20 = .ok (.bipush (-14), 2) := by decide +kernel
theorem dX5_sheet_22 : decode cX5_sheet 22 = .ok (.ireturn, 1) := by decide +kernel
theorem dX5_sheet_23 : decode cX5_sheet 23 = .ok (.aload_n 0, 1) := by decide +kernel
theorem dX5_sheet_24 : decode cX5_sheet 24 = .ok (.getfield 32, 3) := by decide +kernel
theorem dX5_sheet_27 : decode cX5_sheet 27 = .ok (.iload_n 1, 1) := by decide +kernel
theorem dX5_sheet_28 : decode cX5_sheet 28 = .ok (.iload_n 2, 1) := by decide +kernel
theorem dX5_sheet_29 : decode cX5_sheet 29 = .ok (.iastore, 1) := by decide +kernel
theorem dX5_sheet_30 : decode cX5_sheet 30 = .ok (.aload_n 0, 1) := by decide +kernel
theorem dX5_sheet_31 : decode cX5_sheet 31 = .ok (.getfield 35, 3) := by decide +kernel
theorem dX5_sheet_34 : decode cX5_sheet 34 = .ok (.iload_n 1, 1) := by decide +kernel
theorem dX5_sheet_35 : decode cX5_sheet 35 = .ok (.iload_n 3, 1) := by decide +kernel
theorem dX5_sheet_36 : decode cX5_sheet 36 = .ok (.iastore, 1) := by decide +kernel
theorem dX5_sheet_37 : decode cX5_sheet 37 = .ok (.iconst 0, 1) := by decide +kernel
theorem dX5_sheet_38 : decode cX5_sheet 38 = .ok (.istore 4, 2) := by decide +kernel
theorem dX5_sheet_40 : decode cX5_sheet 40 = .ok (.iload 4, 2) := by decide +kernel
theorem dX5_sheet_42 : decode cX5_sheet 42 = .ok (.bipush 40, 2) := by decide +kernel
theorem dX5_sheet_44 : decode cX5_sheet 44 = .ok (.if_icmp .ge 22, 3) := by decide +kernel
theorem dX5_sheet_47 : decode cX5_sheet 47 = .ok (.aload_n 0, 1) := by decide +kernel
theorem dX5_sheet_48 : decode cX5_sheet 48 = .ok (.getfield 38, 3) := by decide +kernel
theorem dX5_sheet_51 : decode cX5_sheet 51 = .ok (.bipush 40, 2) := by decide +kernel
theorem dX5_sheet_53 : decode cX5_sheet 53 = .ok (.iload_n 1, 1) := by decide +kernel
theorem dX5_sheet_54 : decode cX5_sheet 54 = .ok (.imul, 1) := by decide +kernel
theorem dX5_sheet_55 : decode cX5_sheet 55 = .ok (.iload 4, 2) := by decide +kernel
theorem dX5_sheet_57 : decode cX5_sheet 57 = .ok (.iadd, 1) := by decide +kernel
theorem dX5_sheet_58 : decode cX5_sheet 58 = .ok (.iconst 0, 1) := by decide +kernel
theorem dX5_sheet_59 : decode cX5_sheet 59 = .ok (.iastore, 1) := by decide +kernel
theorem dX5_sheet_60 : decode cX5_sheet 60 = .ok (.iinc 4 1, 3) := by decide +kernel
theorem dX5_sheet_63 : decode cX5_sheet 63 = .ok (.goto (-23), 3) := by decide +kernel
theorem dX5_sheet_66 : decode cX5_sheet 66 = .ok (.iconst 1, 1) := by decide +kernel
theorem dX5_sheet_67 : decode cX5_sheet 67 = .ok (.ireturn, 1) := by decide +kernel
theorem dX5_lay_0 : decode cX5_lay 0 = .ok (.iload_n 1, 1) := by decide +kernel
theorem dX5_lay_1 : decode cX5_lay 1 = .ok (.iconst 0, 1) := by decide +kernel
theorem dX5_lay_2 : decode cX5_lay 2 = .ok (.invokestatic 303, 3) := by decide +kernel
theorem dX5_lay_5 : decode cX5_lay 5 = .ok (.ifCond .ne 5, 3) := by decide +kernel
theorem dX5_lay_8 : decode cX5_lay 8 = .ok (.iconst (-1), 1) := by decide +kernel
theorem dX5_lay_9 : decode cX5_lay 9 = .ok (.ireturn, 1) := by decide +kernel
theorem dX5_lay_10 : decode cX5_lay 10 = .ok (.aload_n 0, 1) := by decide +kernel
theorem dX5_lay_11 : decode cX5_lay 11 = .ok (.getfield 32, 3) := by decide +kernel
theorem dX5_lay_14 : decode cX5_lay 14 = .ok (.iload_n 1, 1) := by decide +kernel
theorem dX5_lay_15 : decode cX5_lay 15 = .ok (.iaload, 1) := by decide +kernel
theorem dX5_lay_16 : decode cX5_lay 16 = .ok (.bipush (-4), 2) := by decide +kernel
theorem dX5_lay_18 : decode cX5_lay 18 = .ok (.if_icmp .ne 6, 3) := by decide +kernel
theorem dX5_lay_21 : decode cX5_lay 21 = .ok (.bipush (-11), 2) := by decide +kernel
theorem dX5_lay_23 : decode cX5_lay 23 = .ok (.ireturn, 1) := by decide +kernel
theorem dX5_lay_24 : decode cX5_lay 24 = .ok (.iload_n 2, 1) := by decide +kernel
theorem dX5_lay_25 : decode cX5_lay 25 = .ok (.i2l, 1) := by decide +kernel
theorem dX5_lay_26 : decode cX5_lay 26 = .ok (.lconst 0, 1) := by decide +kernel
theorem dX5_lay_27 : decode cX5_lay 27 = .ok (.aload_n 0, 1) := by decide +kernel
theorem dX5_lay_28 : decode cX5_lay 28 = .ok (.getfield 35, 3) := by decide +kernel
theorem dX5_lay_31 : decode cX5_lay 31 = .ok (.iload_n 1, 1) := by decide +kernel
theorem dX5_lay_32 : decode cX5_lay 32 = .ok (.iaload, 1) := by decide +kernel
theorem dX5_lay_33 : decode cX5_lay 33 = .ok (.iconst 1, 1) := by decide +kernel
theorem dX5_lay_34 : decode cX5_lay 34 = .ok (.isub, 1) := by decide +kernel
theorem dX5_lay_35 : decode cX5_lay 35 = .ok (.i2l, 1) := by decide +kernel
theorem dX5_lay_36 : decode cX5_lay 36 = .ok (.invokestatic 56, 3) := by decide +kernel
theorem dX5_lay_39 : decode cX5_lay 39 = .ok (.ifCond .ne 6, 3) := by decide +kernel
theorem dX5_lay_42 : decode cX5_lay 42 = .ok (.bipush (-12), 2) := by decide +kernel
theorem dX5_lay_44 : decode cX5_lay 44 = .ok (.ireturn, 1) := by decide +kernel
theorem dX5_lay_45 : decode cX5_lay 45 = .ok (.aload_n 0, 1) := by decide +kernel
theorem dX5_lay_46 : decode cX5_lay 46 = .ok (.getfield 38, 3) := by decide +kernel
theorem dX5_lay_49 : decode cX5_lay 49 = .ok (.bipush 40, 2) := by decide +kernel
theorem dX5_lay_51 : decode cX5_lay 51 = .ok (.iload_n 1, 1) := by decide +kernel
theorem dX5_lay_52 : decode cX5_lay 52 = .ok (.imul, 1) := by decide +kernel
theorem dX5_lay_53 : decode cX5_lay 53 = .ok (.iload_n 2, 1) := by decide +kernel
theorem dX5_lay_54 : decode cX5_lay 54 = .ok (.iadd, 1) := by decide +kernel
theorem dX5_lay_55 : decode cX5_lay 55 = .ok (.aload_n 0, 1) := by decide +kernel
theorem dX5_lay_56 : decode cX5_lay 56 = .ok (.getfield 32, 3) := by decide +kernel
theorem dX5_lay_59 : decode cX5_lay 59 = .ok (.iload_n 1, 1) := by decide +kernel
theorem dX5_lay_60 : decode cX5_lay 60 = .ok (.iaload, 1) := by decide +kernel
theorem dX5_lay_61 : decode cX5_lay 61 = .ok (.ifCond .ne 8, 3) := by decide +kernel
theorem dX5_lay_64 : decode cX5_lay 64 = .ok (.iload_n 3, 1) := by decide +kernel
theorem dX5_lay_65 : decode cX5_lay 65 = .ok (.i2b, 1) := by decide +kernel
theorem dX5_lay_66 : decode cX5_lay 66 = .ok (.goto 19, 3) := by decide +kernel
theorem dX5_lay_69 : decode cX5_lay 69 = .ok (.aload_n 0, 1) := by decide +kernel
theorem dX5_lay_70 : decode cX5_lay 70 = .ok (.getfield 32, 3) := by decide +kernel
theorem dX5_lay_73 : decode cX5_lay 73 = .ok (.iload_n 1, 1) := by decide +kernel
theorem dX5_lay_74 : decode cX5_lay 74 = .ok (.iaload, 1) := by decide +kernel
theorem dX5_lay_75 : decode cX5_lay 75 = .ok (.iconst 1, 1) := by decide +kernel
theorem dX5_lay_76 : decode cX5_lay 76 = .ok (.if_icmp .ne 8, 3) := by decide +kernel
theorem dX5_lay_79 : decode cX5_lay 79 = .ok (.iload_n 3, 1) := by decide +kernel
theorem dX5_lay_80 : decode cX5_lay 80 = .ok (.i2s, 1) := by decide +kernel
theorem dX5_lay_81 : decode cX5_lay 81 = .ok (.goto 4, 3) := by decide +kernel
theorem dX5_lay_84 : decode cX5_lay 84 = .ok (.iload_n 3, 1) := by decide +kernel
theorem dX5_lay_85 : decode cX5_lay 85 = .ok (.iastore, 1) := by decide +kernel
theorem dX5_lay_86 : decode cX5_lay 86 = .ok (.iconst 1, 1) := by decide +kernel
theorem dX5_lay_87 : decode cX5_lay 87 = .ok (.ireturn, 1) := by decide +kernel
theorem dX5_read_0 : decode cX5_read 0 = .ok (.iload_n 1, 1) := by decide +kernel
theorem dX5_read_1 : decode cX5_read 1 = .ok (.iload_n 2, 1) := by decide +kernel
theorem dX5_read_2 : decode cX5_read 2 = .ok (.invokestatic 303, 3) := by decide +kernel
theorem dX5_read_5 : decode cX5_read 5 = .ok (.ifCond .eq 16, 3) := by decide +kernel
theorem dX5_read_8 : decode cX5_read 8 = .ok (.iload 4, 2) := by decide +kernel
theorem dX5_read_10 : decode cX5_read 10 = .ok (.i2l, 1) := by decide +kernel
theorem dX5_read_11 : decode cX5_read 11 = .ok (.lconst 0, 1) := by decide +kernel
theorem dX5_read_12 : decode cX5_read 12 = .ok (.ldc2_w 123, 3) := by decide +kernel
theorem dX5_read_15 : decode cX5_read 15 = .ok (.invokestatic 56, 3) := by decide +kernel
theorem dX5_read_18 : decode cX5_read 18 = .ok (.ifCond .ne 5, 3) := by decide +kernel
theorem dX5_read_21 : decode cX5_read 21 = .ok (.iconst (-1), 1) := by decide +kernel
theorem dX5_read_22 : decode cX5_read 22 = .ok (.ireturn, 1) := by decide +kernel
theorem dX5_read_23 : decode cX5_read 23 = .ok (.iconst 0, 1) := by decide +kernel
theorem dX5_read_24 : decode cX5_read 24 = .ok (.istore 5, 2) := by decide +kernel
theorem dX5_read_26 : decode cX5_read 26 = .ok (.iload 5, 2) := by decide +kernel
theorem dX5_read_28 : decode cX5_read 28 = .ok (.bipush 41, 2) := by decide +kernel
theorem dX5_read_30 : decode cX5_read 30 = .ok (.if_icmp .ge 23, 3) := by decide +kernel
theorem dX5_read_33 : decode cX5_read 33 = .ok (.aload_n 0, 1) := by decide +kernel
theorem dX5_read_34 : decode cX5_read 34 = .ok (.getfield 41, 3) := by decide +kernel
theorem dX5_read_37 : decode cX5_read 37 = .ok (.iload 5, 2) := by decide +kernel
theorem dX5_read_39 : decode cX5_read 39 = .ok (.aload_n 0, 1) := by decide +kernel
theorem dX5_read_40 : decode cX5_read 40 = .ok (.getfield 7, 3) := by decide +kernel
theorem dX5_read_43 : decode cX5_read 43 = .ok (.iload 5, 2) := by decide +kernel
theorem dX5_read_45 : decode cX5_read 45 = .ok (.iaload, 1) := by decide +kernel
theorem dX5_read_46 : decode cX5_read 46 = .ok (.iastore, 1) := by decide +kernel
theorem dX5_read_47 : decode cX5_read 47 = .ok (.iinc 5 1, 3) := by decide +kernel
theorem dX5_read_50 : decode cX5_read 50 = .ok (.goto (-24), 3) := by decide +kernel
theorem dX5_read_53 : decode cX5_read 53 = .ok (.iconst 0, 1) := by decide +kernel
theorem dX5_read_54 : decode cX5_read 54 = .ok (.istore 5, 2) := by decide +kernel
theorem dX5_read_56 : decode cX5_read 56 = .ok (.iconst 0, 1) := by decide +kernel
theorem dX5_read_57 : decode cX5_read 57 = .ok (.istore 6, 2) := by decide +kernel
theorem dX5_read_59 : decode cX5_read 59 = .ok (.iconst 0, 1) := by decide +kernel
theorem dX5_read_60 : decode cX5_read 60 = .ok (.istore 7, 2) := by decide +kernel
theorem dX5_read_62 : decode cX5_read 62 = .ok (.iload 7, 2) := by decide +kernel
theorem dX5_read_64 : decode cX5_read 64 = .ok (.iload 4, 2) := by decide +kernel
theorem dX5_read_66 : decode cX5_read 66 = .ok (.if_icmp .ge 185, 3) := by decide +kernel
theorem dX5_read_69 : decode cX5_read 69 = .ok (.iload 5, 2) := by decide +kernel
theorem dX5_read_71 : decode cX5_read 71 = .ok (.ifCond .ne 180, 3) := by decide +kernel
theorem dX5_read_74 : decode cX5_read 74 = .ok (.iconst 0, 1) := by decide +kernel
theorem dX5_read_75 : decode cX5_read 75 = .ok (.istore 8, 2) := by decide +kernel
theorem dX5_read_77 : decode cX5_read 77 = .ok (.iload 8, 2) := by decide +kernel
theorem dX5_read_79 : decode cX5_read 79 = .ok (.iconst 2, 1) := by decide +kernel
theorem dX5_read_80 : decode cX5_read 80 = .ok (.if_icmp .ge 84, 3) := by decide +kernel
theorem dX5_read_83 : decode cX5_read 83 = .ok (.iload 5, 2) := by decide +kernel
theorem dX5_read_85 : decode cX5_read 85 = .ok (.ifCond .ne 79, 3) := by decide +kernel
theorem dX5_read_88 : decode cX5_read 88 = .ok (.iload_n 3, 1) := by decide +kernel
theorem dX5_read_89 : decode cX5_read 89 = .ok (.i2l, 1) := by decide +kernel
theorem dX5_read_90 : decode cX5_read 90 = .ok (.iconst 2, 1) := by decide +kernel
theorem dX5_read_91 : decode cX5_read 91 = .ok (.iload 7, 2) := by decide +kernel
theorem dX5_read_93 : decode cX5_read 93 = .ok (.imul, 1) := by decide +kernel
theorem dX5_read_94 : decode cX5_read 94 = .ok (.i2l, 1) := by decide +kernel
theorem dX5_read_95 : decode cX5_read 95 = .ok (.ladd, 1) := by decide +kernel
theorem dX5_read_96 : decode cX5_read 96 = .ok (.iload 8, 2) := by decide +kernel
theorem dX5_read_98 : decode cX5_read 98 = .ok (.i2l, 1) := by decide +kernel
theorem dX5_read_99 : decode cX5_read 99 = .ok (.ladd, 1) := by decide +kernel
theorem dX5_read_100 : decode cX5_read 100 = .ok (.lstore 9, 2) := by decide +kernel
theorem dX5_read_102 : decode cX5_read 102 = .ok (.aload_n 0, 1) := by decide +kernel
theorem dX5_read_103 : decode cX5_read 103 = .ok (.getfield 32, 3) := by decide +kernel
theorem dX5_read_106 : decode cX5_read 106 = .ok (.iload_n 1, 1) := by decide +kernel
theorem dX5_read_107 : decode cX5_read 107 = .ok (.iaload, 1) := by decide +kernel
theorem dX5_read_108 : decode cX5_read 108 = .ok (.bipush (-4), 2) := by decide +kernel
theorem dX5_read_110 : decode cX5_read 110 = .ok (.if_icmp .ne 7, 3) := by decide +kernel
theorem dX5_read_113 : decode cX5_read 113 = .ok (.iconst 1, 1) := by decide +kernel
theorem dX5_read_114 : decode cX5_read 114 = .ok (.goto 42, 3) := by decide +kernel
theorem dX5_read_117 : decode cX5_read 117 = .ok (.aload_n 0, 1) := by decide +kernel
theorem dX5_read_118 : decode cX5_read 118 = .ok (.getfield 32, 3) := by decide +kernel
theorem dX5_read_121 : decode cX5_read 121 = .ok (.iload_n 1, 1) := by decide +kernel
theorem dX5_read_122 : decode cX5_read 122 = .ok (.iaload, 1) := by decide +kernel
theorem dX5_read_123 : decode cX5_read 123 = .ok (.iload_n 2, 1) := by decide +kernel
theorem dX5_read_124 : decode cX5_read 124 = .ok (.if_icmp .eq 7, 3) := by decide +kernel
theorem dX5_read_127 : decode cX5_read 127 = .ok (.iconst 3, 1) := by decide +kernel
theorem dX5_read_128 : decode cX5_read 128 = .ok (.goto 28, 3) := by decide +kernel
theorem dX5_read_131 : decode cX5_read 131 = .ok (.lload 9, 2) := by decide +kernel
theorem dX5_read_133 : decode cX5_read 133 = .ok (.lconst 0, 1) := by decide +kernel
theorem dX5_read_134 : decode cX5_read 134 = .ok (.lcmp, 1) := by decide +kernel
theorem dX5_read_135 : decode cX5_read 135 = .ok (.ifCond .lt 16, 3) := by decide +kernel
theorem dX5_read_138 : decode cX5_read 138 = .ok (.lload 9, 2) := by decide +kernel
theorem dX5_read_140 : decode cX5_read 140 = .ok (.aload_n 0, 1) := by decide +kernel
theorem dX5_read_141 : decode cX5_read 141 = .ok (.getfield 35, 3) := by decide +kernel
theorem dX5_read_144 : decode cX5_read 144 = .ok (.iload_n 1, 1) := by decide +kernel
theorem dX5_read_145 : decode cX5_read 145 = .ok (.iaload, 1) := by decide +kernel
theorem dX5_read_146 : decode cX5_read 146 = .ok (.i2l, 1) := by decide +kernel
theorem dX5_read_147 : decode cX5_read 147 = .ok (.lcmp, 1) := by decide +kernel
theorem dX5_read_148 : decode cX5_read 148 = .ok (.ifCond .lt 7, 3) := by decide +kernel
theorem dX5_read_151 : decode cX5_read 151 = .ok (.iconst 2, 1) := by decide +kernel
theorem dX5_read_152 : decode cX5_read 152 = .ok (.goto 4, 3) := by decide +kernel
theorem dX5_read_155 : decode cX5_read 155 = .ok (.iconst 0, 1) := by decide +kernel
theorem dX5_read_156 : decode cX5_read 156 = .ok (.istore 5, 2) := by decide +kernel
theorem dX5_read_158 : decode cX5_read 158 = .ok (.iinc 8 1, 3) := by decide +kernel
theorem dX5_read_161 : decode cX5_read 161 = .ok (.goto (-84), 3) := by decide +kernel
theorem dX5_read_164 : decode cX5_read 164 = .ok (.iload 5, 2) := by decide +kernel
theorem dX5_read_166 : decode cX5_read 166 = .ok (.ifCond .ne 79, 3) := by decide +kernel
theorem dX5_read_169 : decode cX5_read 169 = .ok (.bipush 40, 2) := by decide +kernel
theorem dX5_read_171 : decode cX5_read 171 = .ok (.iload_n 1, 1) := by decide +kernel
theorem dX5_read_172 : decode cX5_read 172 = .ok (.imul, 1) := by decide +kernel
theorem dX5_read_173 : decode cX5_read 173 = .ok (.iload_n 3, 1) := by decide +kernel
theorem dX5_read_174 : decode cX5_read 174 = .ok (.iadd, 1) := by decide +kernel
theorem dX5_read_175 : decode cX5_read 175 = .ok (.iconst 2, 1) := by decide +kernel
theorem dX5_read_176 : decode cX5_read 176 = .ok (.iload 7, 2) := by decide +kernel
theorem dX5_read_178 : decode cX5_read 178 = .ok (.imul, 1) := by decide +kernel
theorem dX5_read_179 : decode cX5_read 179 = .ok (.iadd, 1) := by decide +kernel
theorem dX5_read_180 : decode cX5_read 180 = .ok (.istore 8, 2) := by decide +kernel
theorem dX5_read_182 : decode cX5_read 182 = .ok (.aload_n 0, 1) := by decide +kernel
theorem dX5_read_183 : decode cX5_read 183 = .ok (.aload_n 0, 1) := by decide +kernel
theorem dX5_read_184 : decode cX5_read 184 = .ok (.getfield 38, 3) := by decide +kernel
theorem dX5_read_187 : decode cX5_read 187 = .ok (.iload 8, 2) := by decide +kernel
theorem dX5_read_189 : decode cX5_read 189 = .ok (.iaload, 1) := by decide +kernel
theorem dX5_read_190 : decode cX5_read 190 = .ok (.iconst 2, 1) := by decide +kernel
theorem dX5_read_191 : decode cX5_read 191 = .ok (.aload_n 0, 1) := by decide +kernel
theorem dX5_read_192 : decode cX5_read 192 = .ok (.getfield 38, 3) := by decide +kernel
theorem dX5_read_195 : decode cX5_read 195 = .ok (.iload 8, 2) := by decide +kernel
theorem dX5_read_197 : decode cX5_read 197 = .ok (.iconst 1, 1) := by decide +kernel
theorem dX5_read_198 : decode cX5_read 198 = .ok (.iadd, 1) := by decide +kernel
theorem dX5_read_199 : decode cX5_read 199 = .ok (.iaload, 1) := by decide +kernel
theorem dX5_read_200 : decode cX5_read 200 = .ok (.invokevirtual 306, 3) := by decide +kernel
theorem dX5_read_203 : decode cX5_read 203 = .ok (.ifCond .ge 39, 3) := by decide +kernel
theorem dX5_read_206 : decode cX5_read 206 = .ok (.iconst 0, 1) := by decide +kernel
theorem dX5_read_207 : decode cX5_read 207 = .ok (.istore 9, 2) := by decide +kernel
theorem dX5_read_209 : decode cX5_read 209 = .ok (.iload 9, 2) := by decide +kernel
theorem dX5_read_211 : decode cX5_read 211 = .ok (.bipush 41, 2) := by decide +kernel
theorem dX5_read_213 : decode cX5_read 213 = .ok (.if_icmp .ge 23, 3) := by decide +kernel
theorem dX5_read_216 : decode cX5_read 216 = .ok (.aload_n 0, 1) := by decide +kernel
theorem dX5_read_217 : decode cX5_read 217 = .ok (.getfield 7, 3) := by decide +kernel
theorem dX5_read_220 : decode cX5_read 220 = .ok (.iload 9, 2) := by decide +kernel
theorem dX5_read_222 : decode cX5_read 222 = .ok (.aload_n 0, 1) := by decide +kernel
theorem dX5_read_223 : decode cX5_read 223 = .ok (.getfield 41, 3) := by decide +kernel
theorem dX5_read_226 : decode cX5_read 226 = .ok (.iload 9, 2) := by decide +kernel
theorem dX5_read_228 : decode cX5_read 228 = .ok (.iaload, 1) := by decide +kernel
theorem dX5_read_229 : decode cX5_read 229 = .ok (.iastore, 1) := by decide +kernel
theorem dX5_read_230 : decode cX5_read 230 = .ok (.iinc 9 1, 3) := by decide +kernel
theorem dX5_read_233 : decode cX5_read 233 = .ok (.goto (-24), 3) := by decide +kernel
theorem dX5_read_236 : decode cX5_read 236 = .ok (.bipush (-20), 2) := by decide +kernel
theorem dX5_read_238 : decode cX5_read 238 = .ok (.iload 7, 2) := by decide +kernel
theorem dX5_read_240 : decode cX5_read 240 = .ok (.isub, 1) := by decide +kernel
theorem dX5_read_241 : decode cX5_read 241 = .ok (.ireturn, 1) := by decide +kernel
theorem dX5_read_242 : decode cX5_read 242 = .ok (.iinc 6 1, 3) := by decide +kernel
theorem dX5_read_245 : decode cX5_read 245 = .ok (.iinc 7 1, 3) := by decide +kernel
theorem dX5_read_248 : decode cX5_read 248 = .ok (.goto (-186), 3) := by decide +kernel
theorem dX5_read_251 : decode cX5_read 251 = .ok (.aload_n 0, 1) := by decide +kernel
theorem dX5_read_252 : decode cX5_read 252 = .ok (.iload 5, 2) := by decide +kernel
theorem dX5_read_254 : decode cX5_read 254 = .ok (.putfield 310, 3) := by decide +kernel
theorem dX5_read_257 : decode cX5_read 257 = .ok (.iload 6, 2) := by decide +kernel
theorem dX5_read_259 : decode cX5_read 259 = .ok (.ireturn, 1) := by decide +kernel
theorem dX5_torn_0 : decode cX5_torn 0 = .ok (.aload_n 0, 1) := by decide +kernel
theorem dX5_torn_1 : decode cX5_torn 1 = .ok (.getfield 310, 3) := by decide +kernel
theorem dX5_torn_4 : decode cX5_torn 4 = .ok (.ireturn, 1) := by decide +kernel
theorem dX5_count_0 : decode cX5_count 0 = .ok (.aload_n 0, 1) := by decide +kernel
theorem dX5_count_1 : decode cX5_count 1 = .ok (.invokevirtual 196, 3) := by decide +kernel
theorem dX5_count_4 : decode cX5_count 4 = .ok (.iload_n 1, 1) := by decide +kernel
theorem dX5_count_5 : decode cX5_count 5 = .ok (.tableswitch 107 0 5 #[39, 47, 67, 72, 95, 101], 39) := by decide +kernel
theorem dX5_count_44 : decode cX5_count 44 = .ok (.aload_n 0, 1) := by decide +kernel
theorem dX5_count_45 : decode cX5_count 45 = .ok (.getfield 7, 3) := by decide +kernel
theorem dX5_count_48 : decode cX5_count 48 = .ok (.bipush 28, 2) := by decide +kernel
theorem dX5_count_50 : decode cX5_count 50 = .ok (.iaload, 1) := by decide +kernel
theorem dX5_count_51 : decode cX5_count 51 = .ok (.ireturn, 1) := by decide +kernel
theorem dX5_count_52 : decode cX5_count 52 = .ok (.aload_n 0, 1) := by decide +kernel
theorem dX5_count_53 : decode cX5_count 53 = .ok (.getfield 16, 3) := by decide +kernel
theorem dX5_count_56 : decode cX5_count 56 = .ok (.iconst 0, 1) := by decide +kernel
theorem dX5_count_57 : decode cX5_count 57 = .ok (.baload, 1) := by decide +kernel
theorem dX5_count_58 : decode cX5_count 58 = .ok (.invokestatic 153, 3) := by decide +kernel
theorem dX5_count_61 : decode cX5_count 61 = .ok (.aload_n 0, 1) := by decide +kernel
theorem dX5_count_62 : decode cX5_count 62 = .ok (.getfield 16, 3) := by decide +kernel
theorem dX5_count_65 : decode cX5_count 65 = .ok (.iconst 1, 1) := by decide +kernel
theorem dX5_count_66 : decode cX5_count 66 = .ok (.baload, 1) := by decide +kernel
theorem dX5_count_67 : decode cX5_count 67 = .ok (.invokestatic 153, 3) := by decide +kernel
theorem dX5_count_70 : decode cX5_count 70 = .ok (.iadd, 1) := by decide +kernel
theorem dX5_count_71 : decode cX5_count 71 = .ok (.ireturn, 1) := by decide +kernel
theorem dX5_count_72 : decode cX5_count 72 = .ok (.aload_n 0, 1) := by decide +kernel
theorem dX5_count_73 : decode cX5_count 73 = .ok (.getfield 60, 3) := by decide +kernel
theorem dX5_count_76 : decode cX5_count 76 = .ok (.ireturn, 1) := by decide +kernel
theorem dX5_count_77 : decode cX5_count 77 = .ok (.aload_n 0, 1) := by decide +kernel
theorem dX5_count_78 : decode cX5_count 78 = .ok (.getfield 32, 3) := by decide +kernel
theorem dX5_count_81 : decode cX5_count 81 = .ok (.iconst 0, 1) := by decide +kernel
theorem dX5_count_82 : decode cX5_count 82 = .ok (.iaload, 1) := by decide +kernel
theorem dX5_count_83 : decode cX5_count 83 = .ok (.bipush (-4), 2) := by decide +kernel
theorem dX5_count_85 : decode cX5_count 85 = .ok (.if_icmp .ne 8, 3) := by decide +kernel
theorem dX5_count_88 : decode cX5_count 88 = .ok (.bipush (-4), 2) := by decide +kernel
theorem dX5_count_90 : decode cX5_count 90 = .ok (.goto 9, 3) := by decide +kernel
theorem dX5_count_93 : decode cX5_count 93 = .ok (.aload_n 0, 1) := by decide +kernel
theorem dX5_count_94 : decode cX5_count 94 = .ok (.getfield 35, 3) := by decide +kernel
theorem dX5_count_97 : decode cX5_count 97 = .ok (.iconst 0, 1) := by decide +kernel
theorem dX5_count_98 : decode cX5_count 98 = .ok (.iaload, 1) := by decide +kernel
theorem dX5_count_99 : decode cX5_count 99 = .ok (.ireturn, 1) := by decide +kernel
theorem dX5_count_100 : decode cX5_count 100 = .ok (.aload_n 0, 1) := by decide +kernel
theorem dX5_count_101 : decode cX5_count 101 = .ok (.iconst 2, 1) := by decide +kernel
theorem dX5_count_102 : decode cX5_count 102 = .ok (.invokevirtual 230, 3) := by decide +kernel
theorem dX5_count_105 : decode cX5_count 105 = .ok (.ireturn, 1) := by decide +kernel
theorem dX5_count_106 : decode cX5_count 106 = .ok (.aload_n 0, 1) := by decide +kernel
theorem dX5_count_107 : decode cX5_count 107 = .ok (.iconst 3, 1) := by decide +kernel
theorem dX5_count_108 : decode cX5_count 108 = .ok (.invokevirtual 230, 3) := by decide +kernel
theorem dX5_count_111 : decode cX5_count 111 = .ok (.ireturn, 1) := by decide +kernel
theorem dX5_count_112 : decode cX5_count 112 = .ok (.iconst (-1), 1) := by decide +kernel
theorem dX5_count_113 : decode cX5_count 113 = .ok (.ireturn, 1) := by decide +kernel
