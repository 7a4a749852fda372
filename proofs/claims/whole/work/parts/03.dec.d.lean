theorem dX5_init_0 : decode cX5_init 0 = .ok (.aload_n 0, 1) := by decide +kernel
theorem dX5_init_1 : decode cX5_init 1 = .ok (.invokespecial 1, 3) := by decide +kernel
theorem dX5_init_4 : decode cX5_init 4 = .ok (.aload_n 0, 1) := by decide +kernel
theorem dX5_init_5 : decode cX5_init 5 = .ok (.bipush 123, 2) := by decide +kernel
theorem dX5_init_7 : decode cX5_init 7 = .ok (.newarray .int, 2) := by decide +kernel
theorem dX5_init_9 : decode cX5_init 9 = .ok (.putfield 7, 3) := by decide +kernel
theorem dX5_init_12 : decode cX5_init 12 = .ok (.aload_n 0, 1) := by decide +kernel
theorem dX5_init_13 : decode cX5_init 13 = .ok (.bipush 41, 2) := by decide +kernel
theorem dX5_init_15 : decode cX5_init 15 = .ok (.newarray .int, 2) := by decide +kernel
theorem dX5_init_17 : decode cX5_init 17 = .ok (.putfield 13, 3) := by decide +kernel
theorem dX5_init_20 : decode cX5_init 20 = .ok (.aload_n 0, 1) := by decide +kernel
theorem dX5_init_21 : decode cX5_init 21 = .ok (.iconst 2, 1) := by decide +kernel
theorem dX5_init_22 : decode cX5_init 22 = .ok (.newarray .boolean, 2) := by decide +kernel
theorem dX5_init_24 : decode cX5_init 24 = .ok (.putfield 16, 3) := by decide +kernel
theorem dX5_init_27 : decode cX5_init 27 = .ok (.aload_n 0, 1) := by decide +kernel
theorem dX5_init_28 : decode cX5_init 28 = .ok (.bipush 41, 2) := by decide +kernel
theorem dX5_init_30 : decode cX5_init 30 = .ok (.newarray .int, 2) := by decide +kernel
theorem dX5_init_32 : decode cX5_init 32 = .ok (.putfield 20, 3) := by decide +kernel
theorem dX5_init_35 : decode cX5_init 35 = .ok (.aload_n 0, 1) := by decide +kernel
theorem dX5_init_36 : decode cX5_init 36 = .ok (.sipush 160, 3) := by decide +kernel
theorem dX5_init_39 : decode cX5_init 39 = .ok (.newarray .int, 2) := by decide +kernel
theorem dX5_init_41 : decode cX5_init 41 = .ok (.putfield 23, 3) := by decide +kernel
theorem dX5_init_44 : decode cX5_init 44 = .ok (.aload_n 0, 1) := by decide +kernel
theorem dX5_init_45 : decode cX5_init 45 = .ok (.bipush 21, 2) := by decide +kernel
theorem dX5_init_47 : decode cX5_init 47 = .ok (.newarray .int, 2) := by decide +kernel
theorem dX5_init_49 : decode cX5_init 49 = .ok (.putfield 26, 3) := by decide +kernel
theorem dX5_init_52 : decode cX5_init 52 = .ok (.aload_n 0, 1) := by decide +kernel
theorem dX5_init_53 : decode cX5_init 53 = .ok (.sipush 441, 3) := by decide +kernel
theorem dX5_init_56 : decode cX5_init 56 = .ok (.newarray .int, 2) := by decide +kernel
theorem dX5_init_58 : decode cX5_init 58 = .ok (.putfield 29, 3) := by decide +kernel
theorem dX5_init_61 : decode cX5_init 61 = .ok (.aload_n 0, 1) := by decide +kernel
theorem dX5_init_62 : decode cX5_init 62 = .ok (.iconst 4, 1) := by decide +kernel
theorem dX5_init_63 : decode cX5_init 63 = .ok (.newarray .int, 2) := by decide +kernel
theorem dX5_init_65 : decode cX5_init 65 = .ok (.putfield 32, 3) := by decide +kernel
theorem dX5_init_68 : decode cX5_init 68 = .ok (.aload_n 0, 1) := by decide +kernel
theorem dX5_init_69 : decode cX5_init 69 = .ok (.iconst 4, 1) := by decide +kernel
theorem dX5_init_70 : decode cX5_init 70 = .ok (.newarray .int, 2) := by decide +kernel
theorem dX5_init_72 : decode cX5_init 72 = .ok (.putfield 35, 3) := by decide +kernel
theorem dX5_init_75 : decode cX5_init 75 = .ok (.aload_n 0, 1) := by decide +kernel
theorem dX5_init_76 : decode cX5_init 76 = .ok (.sipush 160, 3) := by decide +kernel
theorem dX5_init_79 : decode cX5_init 79 = .ok (.newarray .int, 2) := by decide +kernel
theorem dX5_init_81 : decode cX5_init 81 = .ok (.putfield 38, 3) := by decide +kernel
theorem dX5_init_84 : decode cX5_init 84 = .ok (.aload_n 0, 1) := by decide +kernel
theorem dX5_init_85 : decode cX5_init 85 = .ok (.bipush 41, 2) := by decide +kernel
theorem dX5_init_87 : decode cX5_init 87 = .ok (.newarray .int, 2) := by decide +kernel
theorem dX5_init_89 : decode cX5_init 89 = .ok (.putfield 41, 3) := by decide +kernel
theorem dX5_init_92 : decode cX5_init 92 = .ok (.iconst 0, 1) := by decide +kernel
theorem dX5_init_93 : decode cX5_init 93 = .ok (.istore_n 1, 1) := by decide +kernel
theorem dX5_init_94 : decode cX5_init 94 = .ok (.iload_n 1, 1) := by decide +kernel
theorem dX5_init_95 : decode cX5_init 95 = .ok (.iconst 4, 1) := by decide +kernel
theorem dX5_init_96 : decode cX5_init 96 = .ok (.if_icmp .ge 17, 3) := by decide +kernel
theorem dX5_init_99 : decode cX5_init 99 = .ok (.aload_n 0, 1) := by decide +kernel
theorem dX5_init_100 : decode cX5_init 100 = .ok (.getfield 32, 3) := by decide +kernel
theorem dX5_init_103 : decode cX5_init 103 = .ok (.iload_n 1, 1) := by decide +kernel
theorem dX5_init_104 : decode cX5_init 104 = .ok (.bipush (-4), 2) := by decide +kernel
theorem dX5_init_106 : decode cX5_init 106 = .ok (.iastore, 1) := by decide +kernel
theorem dX5_init_107 : decode cX5_init 107 = .ok (.iinc 1 1, 3) := by decide +kernel
theorem dX5_init_110 : decode cX5_init 110 = .ok (.goto (-16), 3) := by decide +kernel
theorem dX5_init_113 : decode cX5_init 113 = .ok (.aload_n 0, 1) := by decide +kernel
theorem dX5_init_114 : decode cX5_init 114 = .ok (.invokevirtual 44, 3) := by decide +kernel
theorem dX5_init_117 : decode cX5_init 117 = .ok (.aload_n 0, 1) := by decide +kernel
theorem dX5_init_118 : decode cX5_init 118 = .ok (.invokevirtual 47, 3) := by decide +kernel
theorem dX5_init_121 : decode cX5_init 121 = .ok (.return_, 1) := by decide +kernel
theorem dX5_in_0 : decode cX5_in 0 = .ok (.lload_n 0, 1) := by decide +kernel
theorem dX5_in_1 : decode cX5_in 1 = .ok (.lload_n 2, 1) := by decide +kernel
theorem dX5_in_2 : decode cX5_in 2 = .ok (.lcmp, 1) := by decide +kernel
theorem dX5_in_3 : decode cX5_in 3 = .ok (.ifCond .lt 14, 3) := by decide +kernel
theorem dX5_in_6 : decode cX5_in 6 = .ok (.lload_n 0, 1) := by decide +kernel
theorem dX5_in_7 : decode cX5_in 7 = .ok (.lload 4, 2) := by decide +kernel
theorem dX5_in_9 : decode cX5_in 9 = .ok (.lcmp, 1) := by decide +kernel
theorem dX5_in_10 : decode cX5_in 10 = .ok (.ifCond .gt 7, 3) := by decide +kernel
theorem dX5_in_13 : decode cX5_in 13 = .ok (.iconst 1, 1) := by decide +kernel
theorem dX5_in_14 : decode cX5_in 14 = .ok (.goto 4, 3) := by decide +kernel
theorem dX5_in_17 : decode cX5_in 17 = .ok (.iconst 0, 1) := by decide +kernel
theorem dX5_in_18 : decode cX5_in 18 = .ok (.ireturn, 1) := by decide +kernel
theorem dX5_flag_0 : decode cX5_flag 0 = .ok (.iload_n 0, 1) := by decide +kernel
theorem dX5_flag_1 : decode cX5_flag 1 = .ok (.ifCond .eq 7, 3) := by decide +kernel
theorem dX5_flag_4 : decode cX5_flag 4 = .ok (.iconst 1, 1) := by decide +kernel
theorem dX5_flag_5 : decode cX5_flag 5 = .ok (.goto 4, 3) := by decide +kernel
theorem dX5_flag_8 : decode cX5_flag 8 = .ok (.iconst 0, 1) := by decide +kernel
theorem dX5_flag_9 : decode cX5_flag 9 = .ok (.ireturn, 1) := by decide +kernel
theorem dX5_lesser_0 : decode cX5_lesser 0 = .ok (.iload_n 0, 1) := by decide +kernel
theorem dX5_lesser_1 : decode cX5_lesser 1 = .ok (.iload_n 1, 1) := by decide +kernel
theorem dX5_lesser_2 : decode cX5_lesser 2 = .ok (.if_icmp .ge 7, 3) := by decide +kernel
theorem dX5_lesser_5 : decode cX5_lesser 5 = .ok (.iload_n 0, 1) := by decide +kernel
theorem dX5_lesser_6 : decode cX5_lesser 6 = .ok (.goto 4, 3) := by decide +kernel
theorem dX5_lesser_9 : decode cX5_lesser 9 = .ok (.iload_n 1, 1) := by decide +kernel
theorem dX5_lesser_10 : decode cX5_lesser 10 = .ok (.ireturn, 1) := by decide +kernel
theorem dX5_firstDraft_0 : decode cX5_firstDraft 0 = .ok (.iconst 0, 1) := by decide +kernel
theorem dX5_firstDraft_1 : decode cX5_firstDraft 1 = .ok (.istore_n 1, 1) := by decide +kernel
theorem dX5_firstDraft_2 : decode cX5_firstDraft 2 = .ok (.iload_n 1, 1) := by decide +kernel
theorem dX5_firstDraft_3 : decode cX5_firstDraft 3 = .ok (.bipush 41, 2) := by decide +kernel
theorem dX5_firstDraft_5 : decode cX5_firstDraft 5 = .ok (.if_icmp .ge 16, 3) := by decide +kernel
theorem dX5_firstDraft_8 : decode cX5_firstDraft 8 = .ok (.aload_n 0, 1) := by decide +kernel
theorem dX5_firstDraft_9 : decode cX5_firstDraft 9 = .ok (.getfield 20, 3) := by decide +kernel
theorem dX5_firstDraft_12 : decode cX5_firstDraft 12 = .ok (.iload_n 1, 1) := by decide +kernel
theorem dX5_firstDraft_13 : decode cX5_firstDraft 13 = .ok (.iconst 0, 1) := by decide +kernel
theorem dX5_firstDraft_14 : decode cX5_firstDraft 14 = .ok (.iastore, 1) := by decide +kernel
theorem dX5_firstDraft_15 : decode cX5_firstDraft 15 = .ok (.iinc 1 1, 3) := by decide +kernel
theorem dX5_firstDraft_18 : decode cX5_firstDraft 18 = .ok (.goto (-16), 3) := by decide +kernel
theorem dX5_firstDraft_21 : decode cX5_firstDraft 21 = .ok (.aload_n 0, 1) := by decide +kernel
theorem dX5_firstDraft_22 : decode cX5_firstDraft 22 = .ok (.getfield 20, 3) := by decide +kernel
theorem dX5_firstDraft_25 : decode cX5_firstDraft 25 = .ok (.bipush 25, 2) := by decide +kernel
theorem dX5_firstDraft_27 : decode cX5_firstDraft 27 = .ok (.bipush 10, 2) := by decide +kernel
theorem dX5_firstDraft_29 : decode cX5_firstDraft 29 = .ok (.iastore, 1) := by decide +kernel
theorem dX5_firstDraft_30 : decode cX5_firstDraft 30 = .ok (.aload_n 0, 1) := by decide +kernel
theorem dX5_firstDraft_31 : decode cX5_firstDraft 31 = .ok (.iconst 0, 1) := by decide +kernel
theorem dX5_firstDraft_32 : decode cX5_firstDraft 32 = .ok (.putfield 50, 3) := by decide +kernel
theorem dX5_firstDraft_35 : decode cX5_firstDraft 35 = .ok (.return_, 1) := by decide +kernel
theorem dX5_keepDraft_0 : decode cX5_keepDraft 0 = .ok (.iconst 0, 1) := by decide +kernel
theorem dX5_keepDraft_1 : decode cX5_keepDraft 1 = .ok (.istore_n 1, 1) := by decide +kernel
theorem dX5_keepDraft_2 : decode cX5_keepDraft 2 = .ok (.iload_n 1, 1) := by decide +kernel
theorem dX5_keepDraft_3 : decode cX5_keepDraft 3 = .ok (.bipush 41, 2) := by decide +kernel
theorem dX5_keepDraft_5 : decode cX5_keepDraft 5 = .ok (.if_icmp .ge 21, 3) := by decide +kernel
theorem dX5_keepDraft_8 : decode cX5_keepDraft 8 = .ok (.aload_n 0, 1) := by decide +kernel
theorem dX5_keepDraft_9 : decode cX5_keepDraft 9 = .ok (.getfield 7, 3) := by decide +kernel
theorem dX5_keepDraft_12 : decode cX5_keepDraft 12 = .ok (.iload_n 1, 1) := by decide +kernel
theorem dX5_keepDraft_13 : decode cX5_keepDraft 13 = .ok (.aload_n 0, 1) := by decide +kernel
theorem dX5_keepDraft_14 : decode cX5_keepDraft 14 = .ok (.getfield 20, 3) := by decide +kernel
theorem dX5_keepDraft_17 : decode cX5_keepDraft 17 = .ok (.iload_n 1, 1) := by decide +kernel
theorem dX5_keepDraft_18 : decode cX5_keepDraft 18 = .ok (.iaload, 1) := by decide +kernel
theorem dX5_keepDraft_19 : decode cX5_keepDraft 19 = .ok (.iastore, 1) := by decide +kernel
theorem dX5_keepDraft_20 : decode cX5_keepDraft 20 = .ok (.iinc 1 1, 3) := by decide +kernel
theorem dX5_keepDraft_23 : decode cX5_keepDraft 23 = .ok (.goto (-21), 3) := by decide +kernel
theorem dX5_keepDraft_26 : decode cX5_keepDraft 26 = .ok (.aload_n 0, 1) := by decide +kernel
theorem dX5_keepDraft_27 : decode cX5_keepDraft 27 = .ok (.getfield 16, 3) := by decide +kernel
theorem dX5_keepDraft_30 : decode cX5_keepDraft 30 = .ok (.iconst 0, 1) := by decide +kernel
theorem dX5_keepDraft_31 : decode cX5_keepDraft 31 = .ok (.iconst 0, 1) := by decide +kernel
theorem dX5_keepDraft_32 : decode cX5_keepDraft 32 = .ok (.bastore, 1) := by decide +kernel
theorem dX5_keepDraft_33 : decode cX5_keepDraft 33 = .ok (.aload_n 0, 1) := by decide +kernel
theorem dX5_keepDraft_34 : decode cX5_keepDraft 34 = .ok (.getfield 16, 3) := by decide +kernel
theorem dX5_keepDraft_37 : decode cX5_keepDraft 37 = .ok (.iconst 1, 1) := by decide +kernel
theorem dX5_keepDraft_38 : decode cX5_keepDraft 38 = .ok (.iconst 0, 1) := by decide +kernel
theorem dX5_keepDraft_39 : decode cX5_keepDraft 39 = .ok (.bastore, 1) := by decide +kernel
theorem dX5_keepDraft_40 : decode cX5_keepDraft 40 = .ok (.return_, 1) := by decide +kernel
theorem dX5_feed_0 : decode cX5_feed 0 = .ok (.iload_n 1, 1) := by decide +kernel
theorem dX5_feed_1 : decode cX5_feed 1 = .ok (.i2l, 1) := by decide +kernel
theorem dX5_feed_2 : decode cX5_feed 2 = .ok (.lconst 0, 1) := by decide +kernel
theorem dX5_feed_3 : decode cX5_feed 3 = .ok (.ldc2_w 54, 3) := by decide +kernel
theorem dX5_feed_6 : decode cX5_feed 6 = .ok (.invokestatic 56, 3) := by decide +kernel
theorem dX5_feed_9 : decode cX5_feed 9 = .ok (.ifCond .ne 5, 3) := by decide +kernel
theorem dX5_feed_12 : decode cX5_feed 12 = .ok (.iconst (-1), 1) := by decide +kernel
theorem dX5_feed_13 : decode cX5_feed 13 = .ok (.ireturn, 1) := by decide +kernel
theorem dX5_feed_14 : decode cX5_feed 14 = .ok (.aload_n 0, 1) := by decide +kernel
theorem dX5_feed_15 : decode cX5_feed 15 = .ok (.getfield 60, 3) := by decide +kernel
theorem dX5_feed_18 : decode cX5_feed 18 = .ok (.sipush 160, 3) := by decide +kernel
theorem dX5_feed_21 : decode cX5_feed 21 = .ok (.if_icmp .ne 6, 3) := by decide +kernel
theorem dX5_feed_24 : decode cX5_feed 24 = .ok (.bipush (-3), 2) := by decide +kernel
theorem dX5_feed_26 : decode cX5_feed 26 = .ok (.ireturn, 1) := by decide +kernel
theorem dX5_feed_27 : decode cX5_feed 27 = .ok (.aload_n 0, 1) := by decide +kernel
theorem dX5_feed_28 : decode cX5_feed 28 = .ok (.getfield 23, 3) := by decide +kernel
theorem dX5_feed_31 : decode cX5_feed 31 = .ok (.aload_n 0, 1) := by decide +kernel
theorem dX5_feed_32 : decode cX5_feed 32 = .ok (.getfield 60, 3) := by decide +kernel
theorem dX5_feed_35 : decode cX5_feed 35 = .ok (.iload_n 1, 1) := by decide +kernel
theorem dX5_feed_36 : decode cX5_feed 36 = .ok (.iastore, 1) := by decide +kernel
theorem dX5_feed_37 : decode cX5_feed 37 = .ok (.aload_n 0, 1) := by decide +kernel
theorem dX5_feed_38 : decode cX5_feed 38 = .ok (.dup, 1) := by decide +kernel
theorem dX5_feed_39 : decode cX5_feed 39 = .ok (.getfield 60, 3) := by decide +kernel
theorem dX5_feed_42 : decode cX5_feed 42 = .ok (.iconst 1, 1) := by decide +kernel
theorem dX5_feed_43 : decode cX5_feed 43 = .ok (.iadd, 1) := by decide +kernel
theorem dX5_feed_44 : decode cX5_feed 44 = .ok (.putfield 60, 3) := by decide +kernel
theorem dX5_feed_47 : decode cX5_feed 47 = .ok (.aload_n 0, 1) := by decide +kernel
theorem dX5_feed_48 : decode cX5_feed 48 = .ok (.getfield 60, 3) := by decide +kernel
theorem dX5_feed_51 : decode cX5_feed 51 = .ok (.ireturn, 1) := by decide +kernel
theorem dX5_end_0 : decode cX5_end 0 = .ok (.iload_n 1, 1) := by decide +kernel
theorem dX5_end_1 : decode cX5_end 1 = .ok (.i2l, 1) := by decide +kernel
theorem dX5_end_2 : decode cX5_end 2 = .ok (.lconst 0, 1) := by decide +kernel
theorem dX5_end_3 : decode cX5_end 3 = .ok (.aload_n 0, 1) := by decide +kernel
theorem dX5_end_4 : decode cX5_end 4 = .ok (.getfield 60, 3) := by decide +kernel
theorem dX5_end_7 : decode cX5_end 7 = .ok (.i2l, 1) := by decide +kernel
theorem dX5_end_8 : decode cX5_end 8 = .ok (.invokestatic 56, 3) := by decide +kernel
theorem dX5_end_11 : decode cX5_end 11 = .ok (.ifCond .ne 5, 3) := by decide +kernel
theorem dX5_end_14 : decode cX5_end 14 = .ok (.iconst (-1), 1) := by decide +kernel
theorem dX5_end_15 : decode cX5_end 15 = .ok (.ireturn, 1) := by decide +kernel
theorem dX5_end_16 : decode cX5_end 16 = .ok (.aload_n 0, 1) := by decide +kernel
theorem dX5_end_17 : decode cX5_end 17 = .ok (.getfield 60, 3) := by decide +kernel
theorem dX5_end_20 : decode cX5_end 20 = .ok (.istore_n 2, 1) := by decide +kernel
theorem dX5_end_21 : decode cX5_end 21 = .ok (.aload_n 0, 1) := by decide +kernel
theorem dX5_end_22 : decode cX5_end 22 = .ok (.iload_n 1, 1) := by decide +kernel
theorem dX5_end_23 : decode cX5_end 23 = .ok (.putfield 60, 3) := by decide +kernel
theorem dX5_end_26 : decode cX5_end 26 = .ok (.iload_n 2, 1) := by decide +kernel
theorem dX5_end_27 : decode cX5_end 27 = .ok (.ireturn, 1) := by decide +kernel
theorem dX5_requires_0 : decode cX5_requires 0 = .ok (.iload_n 1, 1) := by decide +kernel
theorem dX5_requires_1 : decode cX5_requires 1 = .ok (.ifCond .ne 23, 3) := by decide +kernel
theorem dX5_requires_4 : decode cX5_requires 4 = .ok (.aload_n 0, 1) := by decide +kernel
theorem dX5_requires_5 : decode cX5_requires 5 = .ok (.getfield 64, 3) := by decide +kernel
theorem dX5_requires_8 : decode cX5_requires 8 = .ok (.ifCond .ne 16, 3) := by decide +kernel
theorem dX5_requires_11 : decode cX5_requires 11 = .ok (.aload_n 0, 1) := by decide +kernel
theorem dX5_requires_12 : decode cX5_requires 12 = .ok (.iload_n 2, 1) := by decide +kernel
theorem dX5_requires_13 : decode cX5_requires 13 = .ok (.putfield 64, 3) := by decide +kernel
theorem dX5_requires_16 : decode cX5_requires 16 = .ok (.aload_n 0, 1) := by decide +kernel
theorem dX5_requires_17 : decode cX5_requires 17 = .ok (.aload_n 0, 1) := by decide +kernel
theorem dX5_requires_18 : decode cX5_requires 18 = .ok (.getfield 67, 3) := by decide +kernel
theorem dX5_requires_21 : decode cX5_requires 21 = .ok (.putfield 70, 3) := by decide +kernel
theorem dX5_requires_24 : decode cX5_requires 24 = .ok (.return_, 1) := by decide +kernel
theorem dX5_byteAt_0 : decode cX5_byteAt 0 = .ok (.iload_n 1, 1) := by decide +kernel
theorem dX5_byteAt_1 : decode cX5_byteAt 1 = .ok (.aload_n 0, 1) := by decide +kernel
theorem dX5_byteAt_2 : decode cX5_byteAt 2 = .ok (.getfield 60, 3) := by decide +kernel
theorem dX5_byteAt_5 : decode cX5_byteAt 5 = .ok (.if_icmp .ge 12, 3) := by decide +kernel
theorem dX5_byteAt_8 : decode cX5_byteAt 8 = .ok (.aload_n 0, 1) := by decide +kernel
theorem dX5_byteAt_9 : decode cX5_byteAt 9 = .ok (.getfield 23, 3) := by decide +kernel
theorem dX5_byteAt_12 : decode cX5_byteAt 12 = .ok (.iload_n 1, 1) := by decide +kernel
theorem dX5_byteAt_13 : decode cX5_byteAt 13 = .ok (.iaload, 1) := by decide +kernel
theorem dX5_byteAt_14 : decode cX5_byteAt 14 = .ok (.goto 4, 3) := by decide +kernel
theorem dX5_byteAt_17 : decode cX5_byteAt 17 = .ok (.iconst (-1), 1) := by decide +kernel
theorem dX5_byteAt_18 : decode cX5_byteAt 18 = .ok (.ireturn, 1) := by decide +kernel
theorem dX5_is_0 : decode cX5_is 0 = .ok (.aload_n 0, 1) := by decide +kernel
theorem dX5_is_1 : decode cX5_is 1 = .ok (.getfield 73, 3) := by decide +kernel
theorem dX5_is_4 : decode cX5_is 4 = .ok (.aload_n 0, 1) := by decide +kernel
theorem dX5_is_5 : decode cX5_is 5 = .ok (.getfield 67, 3) := by decide +kernel
theorem dX5_is_8 : decode cX5_is 8 = .ok (.isub, 1) := by decide +kernel
theorem dX5_is_9 : decode cX5_is 9 = .ok (.iload_n 1, 1) := by decide +kernel
theorem dX5_is_10 : decode cX5_is 10 = .ok (.if_icmp .ne 63, 3) := by decide +kernel
theorem dX5_is_13 : decode cX5_is 13 = .ok (.aload_n 0, 1) := by decide +kernel
theorem dX5_is_14 : decode cX5_is 14 = .ok (.aload_n 0, 1) := by decide +kernel
theorem dX5_is_15 : decode cX5_is 15 = .ok (.getfield 67, 3) := by decide +kernel
theorem dX5_is_18 : decode cX5_is 18 = .ok (.invokevirtual 76, 3) := by decide +kernel
theorem dX5_is_21 : decode cX5_is 21 = .ok (.iload_n 2, 1) := by decide +kernel
theorem dX5_is_22 : decode cX5_is 22 = .ok (.if_icmp .ne 51, 3) := by decide +kernel
theorem dX5_is_25 : decode cX5_is 25 = .ok (.aload_n 0, 1) := by decide +kernel
theorem dX5_is_26 : decode cX5_is 26 = .ok (.aload_n 0, 1) := by decide +kernel
theorem dX5_is_27 : decode cX5_is 27 = .ok (.getfield 67, 3) := by decide +kernel
theorem dX5_is_30 : decode cX5_is 30 = .ok (.iconst 1, 1) := by decide +kernel
theorem dX5_is_31 : decode cX5_is 31 = .ok (.iadd, 1) := by decide +kernel
theorem dX5_is_32 : decode cX5_is 32 = .ok (.invokevirtual 76, 3) := by decide +kernel
theorem dX5_is_35 : decode cX5_is 35 = .ok (.iload_n 3, 1) := by decide +kernel
theorem dX5_is_36 : decode cX5_is 36 = .ok (.if_icmp .ne 37, 3) := by decide +kernel
theorem dX5_is_39 : decode cX5_is 39 = .ok (.aload_n 0, 1) := by decide +kernel
theorem dX5_is_40 : decode cX5_is 40 = .ok (.aload_n 0, 1) := by decide +kernel
theorem dX5_is_41 : decode cX5_is 41 = .ok (.getfield 67, 3) := by decide +kernel
theorem dX5_is_44 : decode cX5_is 44 = .ok (.iconst 2, 1) := by decide +kernel
theorem dX5_is_45 : decode cX5_is 45 = .ok (.iadd, 1) := by decide +kernel
theorem dX5_is_46 : decode cX5_is 46 = .ok (.invokevirtual 76, 3) := by decide +kernel
theorem dX5_is_49 : decode cX5_is 49 = .ok (.iload 4, 2) := by decide +kernel
theorem dX5_is_51 : decode cX5_is 51 = .ok (.if_icmp .ne 22, 3) := by decide +kernel
theorem dX5_is_54 : decode cX5_is 54 = .ok (.aload_n 0, 1) := by decide +kernel
theorem dX5_is_55 : decode cX5_is 55 = .ok (.aload_n 0, 1) := by decide +kernel
theorem dX5_is_56 : decode cX5_is 56 = .ok (.getfield 67, 3) := by decide +kernel
theorem dX5_is_59 : decode cX5_is 59 = .ok (.iconst 3, 1) := by decide +kernel
theorem dX5_is_60 : decode cX5_is 60 = .ok (.iadd, 1) := by decide +kernel
theorem dX5_is_61 : decode cX5_is 61 = .ok (.invokevirtual 76, 3) := by decide +kernel
theorem dX5_is_64 : decode cX5_is 64 = .ok (.iload 5, 2) := by decide +kernel
theorem dX5_is_66 : decode cX5_is 66 = .ok (.if_icmp .ne 7, 3) := by decide +kernel
theorem dX5_is_69 : decode cX5_is 69 = .ok (.iconst 1, 1) := by decide +kernel
theorem dX5_is_70 : decode cX5_is 70 = .ok (.goto 4, 3) := by decide +kernel
theorem dX5_is_73 : decode cX5_is 73 = .ok (.iconst 0, 1) := by decide +kernel
theorem dX5_is_74 : decode cX5_is 74 = .ok (.ireturn, 1) := by decide +kernel
theorem dX5_endsIn_0 : decode cX5_endsIn 0 = .ok (.aload_n 0, 1) := by decide +kernel
theorem dX5_endsIn_1 : decode cX5_endsIn 1 = .ok (.aload_n 0, 1) := by decide +kernel
theorem dX5_endsIn_2 : decode cX5_endsIn 2 = .ok (.getfield 67, 3) := by decide +kernel
theorem dX5_endsIn_5 : decode cX5_endsIn 5 = .ok (.iconst 4, 1) := by decide +kernel
theorem dX5_endsIn_6 : decode cX5_endsIn 6 = .ok (.iadd, 1) := by decide +kernel
theorem dX5_endsIn_7 : decode cX5_endsIn 7 = .ok (.invokevirtual 76, 3) := by decide +kernel
theorem dX5_endsIn_10 : decode cX5_endsIn 10 = .ok (.iload_n 1, 1) := by decide +kernel
theorem dX5_endsIn_11 : decode cX5_endsIn 11 = .ok (.if_icmp .ne 44, 3) := by decide +kernel
theorem dX5_endsIn_14 : decode cX5_endsIn 14 = .ok (.iload_n 2, 1) := by decide +kernel
theorem dX5_endsIn_15 : decode cX5_endsIn 15 = .ok (.ifCond .eq 17, 3) := by decide +kernel
theorem dX5_endsIn_18 : decode cX5_endsIn 18 = .ok (.aload_n 0, 1) := by decide +kernel
theorem dX5_endsIn_19 : decode cX5_endsIn 19 = .ok (.aload_n 0, 1) := by decide +kernel
theorem dX5_endsIn_20 : decode cX5_endsIn 20 = .ok (.getfield 67, 3) := by decide +kernel
theorem dX5_endsIn_23 : decode cX5_endsIn 23 = .ok (.iconst 5, 1) := by decide +kernel
theorem dX5_endsIn_24 : decode cX5_endsIn 24 = .ok (.iadd, 1) := by decide +kernel
theorem dX5_endsIn_25 : decode cX5_endsIn 25 = .ok (.invokevirtual 76, 3) := by decide +kernel
theorem dX5_endsIn_28 : decode cX5_endsIn 28 = .ok (.iload_n 2, 1) := by decide +kernel
theorem dX5_endsIn_29 : decode cX5_endsIn 29 = .ok (.if_icmp .ne 26, 3) := by decide +kernel
theorem dX5_endsIn_32 : decode cX5_endsIn 32 = .ok (.iload_n 3, 1) := by decide +kernel
theorem dX5_endsIn_33 : decode cX5_endsIn 33 = .ok (.ifCond .eq 18, 3) := by decide +kernel
theorem dX5_endsIn_36 : decode cX5_endsIn 36 = .ok (.aload_n 0, 1) := by decide +kernel
theorem dX5_endsIn_37 : decode cX5_endsIn 37 = .ok (.aload_n 0, 1) := by decide +kernel
theorem dX5_endsIn_38 : decode cX5_endsIn 38 = .ok (.getfield 67, 3) := by decide +kernel
theorem dX5_endsIn_41 : decode cX5_endsIn 41 = .ok (.bipush 6, 2) := by decide +kernel
theorem dX5_endsIn_43 : decode cX5_endsIn 43 = .ok (.iadd, 1) := by decide +kernel
theorem dX5_endsIn_44 : decode cX5_endsIn 44 = .ok (.invokevirtual 76, 3) := by decide +kernel
theorem dX5_endsIn_47 : decode cX5_endsIn 47 = .ok (.iload_n 3, 1) := by decide +kernel
theorem dX5_endsIn_48 : decode cX5_endsIn 48 = .ok (.if_icmp .ne 7, 3) := by decide +kernel
theorem dX5_endsIn_51 : decode cX5_endsIn 51 = .ok (.iconst 1, 1) := by decide +kernel
theorem dX5_endsIn_52 : decode cX5_endsIn 52 = .ok (.goto 4, 3) := by decide +kernel
theorem dX5_endsIn_55 : decode cX5_endsIn 55 = .ok (.iconst 0, 1) := by decide +kernel
theorem dX5_endsIn_56 : decode cX5_endsIn 56 = .ok (.ireturn, 1) := by decide +kernel
theorem dX5_lineNow_0 : decode cX5_lineNow 0 = .ok (.aload_n 0, 1) := by decide +kernel
theorem dX5_lineNow_1 : decode cX5_lineNow 1 = .ok (.iconst 5, 1) := by decide +kernel
theorem dX5_lineNow_2 : decode cX5_lineNow 2 = .ok (.bipush 112, 2) := by decide +kernel
theorem dX5_lineNow_4 : decode cX5_lineNow 4 = .ok (.bipush 108, 2) := by decide +kernel
theorem dX5_lineNow_6 : decode cX5_lineNow 6 = .ok (.bipush 97, 2) := by decide +kernel
theorem dX5_lineNow_8 : decode cX5_lineNow 8 = .ok (.bipush 105, 2) := by decide +kernel
theorem dX5_lineNow_10 : decode cX5_lineNow 10 = .ok (.invokevirtual 80, 3) := by decide +kernel
theorem dX5_lineNow_13 : decode cX5_lineNow 13 = .ok (.ifCond .eq 16, 3) := by decide +kernel
theorem dX5_lineNow_16 : decode cX5_lineNow 16 = .ok (.aload_n 0, 1) := by decide +kernel
theorem dX5_lineNow_17 : decode cX5_lineNow 17 = .ok (.bipush 110, 2) := by decide +kernel
theorem dX5_lineNow_19 : decode cX5_lineNow 19 = .ok (.iconst 0, 1) := by decide +kernel
theorem dX5_lineNow_20 : decode cX5_lineNow 20 = .ok (.iconst 0, 1) := by decide +kernel
theorem dX5_lineNow_21 : decode cX5_lineNow 21 = .ok (.invokevirtual 84, 3) := by decide +kernel
theorem dX5_lineNow_24 : decode cX5_lineNow 24 = .ok (.ifCond .eq 5, 3) := by decide +kernel
theorem dX5_lineNow_27 : decode cX5_lineNow 27 = .ok (.iconst 0, 1) := by decide +kernel
theorem dX5_lineNow_28 : decode cX5_lineNow 28 = .ok (.ireturn, 1) := by decide +kernel
theorem dX5_lineNow_29 : decode cX5_lineNow 29 = .ok (.aload_n 0, 1) := by decide +kernel
theorem dX5_lineNow_30 : decode cX5_lineNow 30 = .ok (.iconst 4, 1) := by decide +kernel
theorem dX5_lineNow_31 : decode cX5_lineNow 31 = .ok (.bipush 119, 2) := by decide +kernel
theorem dX5_lineNow_33 : decode cX5_lineNow 33 = .ok (.bipush 104, 2) := by decide +kernel
theorem dX5_lineNow_35 : decode cX5_lineNow 35 = .ok (.bipush 105, 2) := by decide +kernel
theorem dX5_lineNow_37 : decode cX5_lineNow 37 = .ok (.bipush 112, 2) := by decide +kernel
theorem dX5_lineNow_39 : decode cX5_lineNow 39 = .ok (.invokevirtual 80, 3) := by decide +kernel
theorem dX5_lineNow_42 : decode cX5_lineNow 42 = .ok (.ifCond .eq 5, 3) := by decide +kernel
theorem dX5_lineNow_45 : decode cX5_lineNow 45 = .ok (.iconst 1, 1) := by decide +kernel
theorem dX5_lineNow_46 : decode cX5_lineNow 46 = .ok (.ireturn, 1) := by decide +kernel
theorem dX5_lineNow_47 : decode cX5_lineNow 47 = .ok (.aload_n 0, 1) := by decide +kernel
theorem dX5_lineNow_48 : decode cX5_lineNow 48 = .ok (.bipush 7, 2) := by decide +kernel
theorem dX5_lineNow_50 : decode cX5_lineNow 50 = .ok (.bipush 100, 2) := by decide +kernel
theorem dX5_lineNow_52 : decode cX5_lineNow 52 = .ok (.bipush 111, 2) := by decide +kernel
theorem dX5_lineNow_54 : decode cX5_lineNow 54 = .ok (.bipush 117, 2) := by decide +kernel
theorem dX5_lineNow_56 : decode cX5_lineNow 56 = .ok (.bipush 98, 2) := by decide +kernel
theorem dX5_lineNow_58 : decode cX5_lineNow 58 = .ok (.invokevirtual 80, 3) := by decide +kernel
theorem dX5_lineNow_61 : decode cX5_lineNow 61 = .ok (.ifCond .eq 18, 3) := by decide +kernel
theorem dX5_lineNow_64 : decode cX5_lineNow 64 = .ok (.aload_n 0, 1) := by decide +kernel
theorem dX5_lineNow_65 : decode cX5_lineNow 65 = .ok (.bipush 116, 2) := by decide +kernel
theorem dX5_lineNow_67 : decode cX5_lineNow 67 = .ok (.bipush 101, 2) := by decide +kernel
theorem dX5_lineNow_69 : decode cX5_lineNow 69 = .ok (.bipush 114, 2) := by decide +kernel
theorem dX5_lineNow_71 : decode cX5_lineNow 71 = .ok (.invokevirtual 84, 3) := by decide +kernel
theorem dX5_lineNow_74 : decode cX5_lineNow 74 = .ok (.ifCond .eq 5, 3) := by decide +kernel
theorem dX5_lineNow_77 : decode cX5_lineNow 77 = .ok (.iconst 2, 1) := by decide +kernel
theorem dX5_lineNow_78 : decode cX5_lineNow 78 = .ok (.ireturn, 1) := by decide +kernel
theorem dX5_lineNow_79 : decode cX5_lineNow 79 = .ok (.aload_n 0, 1) := by decide +kernel
theorem dX5_lineNow_80 : decode cX5_lineNow 80 = .ok (.bipush 6, 2) := by decide +kernel
theorem dX5_lineNow_82 : decode cX5_lineNow 82 = .ok (.bipush 109, 2) := by decide +kernel
theorem dX5_lineNow_84 : decode cX5_lineNow 84 = .ok (.bipush 97, 2) := by decide +kernel
theorem dX5_lineNow_86 : decode cX5_lineNow 86 = .ok (.bipush 103, 2) := by decide +kernel
theorem dX5_lineNow_88 : decode cX5_lineNow 88 = .ok (.bipush 103, 2) := by decide +kernel
theorem dX5_lineNow_90 : decode cX5_lineNow 90 = .ok (.invokevirtual 80, 3) := by decide +kernel
theorem dX5_lineNow_93 : decode cX5_lineNow 93 = .ok (.ifCond .eq 17, 3) := by decide +kernel
theorem dX5_lineNow_96 : decode cX5_lineNow 96 = .ok (.aload_n 0, 1) := by decide +kernel
theorem dX5_lineNow_97 : decode cX5_lineNow 97 = .ok (.bipush 111, 2) := by decide +kernel
theorem dX5_lineNow_99 : decode cX5_lineNow 99 = .ok (.bipush 116, 2) := by decide +kernel
theorem dX5_lineNow_101 : decode cX5_lineNow 101 = .ok (.iconst 0, 1) := by decide +kernel
theorem dX5_lineNow_102 : decode cX5_lineNow 102 = .ok (.invokevirtual 84, 3) := by decide +kernel
theorem dX5_lineNow_105 : decode cX5_lineNow 105 = .ok (.ifCond .eq 5, 3) := by decide +kernel
theorem dX5_lineNow_108 : decode cX5_lineNow 108 = .ok (.iconst 3, 1) := by decide +kernel
theorem dX5_lineNow_109 : decode cX5_lineNow 109 = .ok (.ireturn, 1) := by decide +kernel
theorem dX5_lineNow_110 : decode cX5_lineNow 110 = .ok (.aload_n 0, 1) := by decide +kernel
theorem dX5_lineNow_111 : decode cX5_lineNow 111 = .ok (.bipush 6, 2) := by decide +kernel
theorem dX5_lineNow_113 : decode cX5_lineNow 113 = .ok (.bipush 109, 2) := by decide +kernel
theorem dX5_lineNow_115 : decode cX5_lineNow 115 = .ok (.bipush 111, 2) := by decide +kernel
theorem dX5_lineNow_117 : decode cX5_lineNow 117 = .ok (.bipush 116, 2) := by decide +kernel
theorem dX5_lineNow_119 : decode cX5_lineNow 119 = .ok (.bipush 105, 2) := by decide +kernel
theorem dX5_lineNow_121 : decode cX5_lineNow 121 = .ok (.invokevirtual 80, 3) := by decide +kernel
theorem dX5_lineNow_124 : decode cX5_lineNow 124 = .ok (.ifCond .eq 19, 3) := by decide +kernel
theorem dX5_lineNow_127 : decode cX5_lineNow 127 = .ok (.aload_n 0, 1) := by decide +kernel
theorem dX5_lineNow_128 : decode cX5_lineNow 128 = .ok (.bipush 111, 2) := by decide +kernel
theorem dX5_lineNow_130 : decode cX5_lineNow 130 = .ok (.bipush 110, 2) := by decide +kernel
theorem dX5_lineNow_132 : decode cX5_lineNow 132 = .ok (.iconst 0, 1) := by decide +kernel
theorem dX5_lineNow_133 : decode cX5_lineNow 133 = .ok (.invokevirtual 84, 3) := by decide +kernel
theorem dX5_lineNow_136 : decode cX5_lineNow 136 = .ok (.ifCond .eq 7, 3) := by decide +kernel
theorem dX5_lineNow_139 : decode cX5_lineNow 139 = .ok (.iconst 4, 1) := by decide +kernel
theorem dX5_lineNow_140 : decode cX5_lineNow 140 = .ok (.goto 5, 3) := by decide +kernel
theorem dX5_lineNow_143 : decode cX5_lineNow 143 = .ok (.bipush (-4), 2) := by decide +kernel
theorem dX5_lineNow_145 : decode cX5_lineNow 145 = .ok (.ireturn, 1) := by decide +kernel
theorem dX5_reads_0 : decode cX5_reads 0 = .ok (.aload_n 0, 1) := by decide +kernel
theorem dX5_reads_1 : decode cX5_reads 1 = .ok (.getfield 64, 3) := by decide +kernel
theorem dX5_reads_4 : decode cX5_reads 4 = .ok (.ifCond .le 4, 3) := by decide +kernel
theorem dX5_reads_7 : decode cX5_reads 7 = .ok (.return_, 1) := by decide +kernel
theorem dX5_reads_8 : decode cX5_reads 8 = .ok (.aload_n 0, 1) := by decide +kernel
theorem dX5_reads_9 : decode cX5_reads 9 = .ok (.aload_n 0, 1) := by decide +kernel
theorem dX5_reads_10 : decode cX5_reads 10 = .ok (.getfield 73, 3) := by decide +kernel
theorem dX5_reads_13 : decode cX5_reads 13 = .ok (.invokevirtual 76, 3) := by decide +kernel
theorem dX5_reads_16 : decode cX5_reads 16 = .ok (.bipush 32, 2) := by decide +kernel
theorem dX5_reads_18 : decode cX5_reads 18 = .ok (.if_icmp .ne 16, 3) := by decide +kernel
theorem dX5_reads_21 : decode cX5_reads 21 = .ok (.aload_n 0, 1) := by decide +kernel
theorem dX5_reads_22 : decode cX5_reads 22 = .ok (.dup, 1) := by decide +kernel
theorem dX5_reads_23 : decode cX5_reads 23 = .ok (.getfield 73, 3) := by decide +kernel
theorem dX5_reads_26 : decode cX5_reads 26 = .ok (.iconst 1, 1) := by decide +kernel
theorem dX5_reads_27 : decode cX5_reads 27 = .ok (.iadd, 1) := by decide +kernel
theorem dX5_reads_28 : decode cX5_reads 28 = .ok (.putfield 73, 3) := by decide +kernel
theorem dX5_reads_31 : decode cX5_reads 31 = .ok (.goto (-23), 3) := by decide +kernel
theorem dX5_reads_34 : decode cX5_reads 34 = .ok (.aload_n 0, 1) := by decide +kernel
theorem dX5_reads_35 : decode cX5_reads 35 = .ok (.aload_n 0, 1) := by decide +kernel
theorem dX5_reads_36 : decode cX5_reads 36 = .ok (.getfield 73, 3) := by decide +kernel
theorem dX5_reads_39 : decode cX5_reads 39 = .ok (.putfield 67, 3) := by decide +kernel
theorem dX5_reads_42 : decode cX5_reads 42 = .ok (.aload_n 0, 1) := by decide +kernel
theorem dX5_reads_43 : decode cX5_reads 43 = .ok (.aload_n 0, 1) := by decide +kernel
theorem dX5_reads_44 : decode cX5_reads 44 = .ok (.getfield 73, 3) := by decide +kernel
theorem dX5_reads_47 : decode cX5_reads 47 = .ok (.invokevirtual 76, 3) := by decide +kernel
theorem dX5_reads_50 : decode cX5_reads 50 = .ok (.istore_n 1, 1) := by decide +kernel
theorem dX5_reads_51 : decode cX5_reads 51 = .ok (.iload_n 1, 1) := by decide +kernel
theorem dX5_reads_52 : decode cX5_reads 52 = .ok (.ifCond .ge 11, 3) := by decide +kernel
theorem dX5_reads_55 : decode cX5_reads 55 = .ok (.aload_n 0, 1) := by decide +kernel
theorem dX5_reads_56 : decode cX5_reads 56 = .ok (.iconst 0, 1) := by decide +kernel
theorem dX5_reads_57 : decode cX5_reads 57 = .ok (.putfield 88, 3) := by decide +kernel
theorem dX5_reads_60 : decode cX5_reads 60 = .ok (.goto 214, 3) := by decide +kernel
theorem dX5_reads_63 : decode cX5_reads 63 = .ok (.iload_n 1, 1) := by decide +kernel
theorem dX5_reads_64 : decode cX5_reads 64 = .ok (.i2l, 1) := by decide +kernel
theorem dX5_reads_65 : decode cX5_reads 65 = .ok (.ldc2_w 91, 3) := by decide +kernel
theorem dX5_reads_68 : decode cX5_reads 68 = .ok (.ldc2_w 93, 3) := by decide +kernel
theorem dX5_reads_71 : decode cX5_reads 71 = .ok (.invokestatic 56, 3) := by decide +kernel
theorem dX5_reads_74 : decode cX5_reads 74 = .ok (.ifCond .eq 42, 3) := by decide +kernel
theorem dX5_reads_77 : decode cX5_reads 77 = .ok (.aload_n 0, 1) := by decide +kernel
theorem dX5_reads_78 : decode cX5_reads 78 = .ok (.iconst 1, 1) := by decide +kernel
theorem dX5_reads_79 : decode cX5_reads 79 = .ok (.putfield 88, 3) := by decide +kernel
theorem dX5_reads_82 : decode cX5_reads 82 = .ok (.aload_n 0, 1) := by decide +kernel
theorem dX5_reads_83 : decode cX5_reads 83 = .ok (.aload_n 0, 1) := by decide +kernel
theorem dX5_reads_84 : decode cX5_reads 84 = .ok (.getfield 73, 3) := by decide +kernel
theorem dX5_reads_87 : decode cX5_reads 87 = .ok (.invokevirtual 76, 3) := by decide +kernel
theorem dX5_reads_90 : decode cX5_reads 90 = .ok (.i2l, 1) := by decide +kernel
theorem dX5_reads_91 : decode cX5_reads 91 = .ok (.ldc2_w 91, 3) := by decide +kernel
theorem dX5_reads_94 : decode cX5_reads 94 = .ok (.ldc2_w 93, 3) := by decide +kernel
theorem dX5_reads_97 : decode cX5_reads 97 = .ok (.invokestatic 56, 3) := by decide +kernel
theorem dX5_reads_100 : decode cX5_reads 100 = .ok (.ifCond .eq 174, 3) := by decide +kernel
theorem dX5_reads_103 : decode cX5_reads 103 = .ok (.aload_n 0, 1) := by decide +kernel
theorem dX5_reads_104 : decode cX5_reads 104 = .ok (.dup, 1) := by decide +kernel
theorem dX5_reads_105 : decode cX5_reads 105 = .ok (.getfield 73, 3) := by decide +kernel
theorem dX5_reads_108 : decode cX5_reads 108 = .ok (.iconst 1, 1) := by decide +kernel
theorem dX5_reads_109 : decode cX5_reads 109 = .ok (.iadd, 1) := by decide +kernel
theorem dX5_reads_110 : decode cX5_reads 110 = .ok (.putfield 73, 3) := by decide +kernel
theorem dX5_reads_113 : decode cX5_reads 113 = .ok (.goto (-31), 3) := by decide +kernel
theorem dX5_reads_116 : decode cX5_reads 116 = .ok (.iload_n 1, 1) := by decide +kernel
theorem dX5_reads_117 : decode cX5_reads 117 = .ok (.i2l, 1) := by decide +kernel
theorem dX5_reads_118 : decode cX5_reads 118 = .ok (.ldc2_w 95, 3) := by decide +kernel
theorem dX5_reads_121 : decode cX5_reads 121 = .ok (.ldc2_w 97, 3) := by decide +kernel
theorem dX5_reads_124 : decode cX5_reads 124 = .ok (.invokestatic 56, 3) := by decide +kernel
theorem dX5_reads_127 : decode cX5_reads 127 = .ok (.ifCond .eq 116, 3) := by decide +kernel
theorem dX5_reads_130 : decode cX5_reads 130 = .ok (.aload_n 0, 1) := by decide +kernel
theorem dX5_reads_131 : decode cX5_reads 131 = .ok (.iconst 2, 1) := by decide +kernel
theorem dX5_reads_132 : decode cX5_reads 132 = .ok (.putfield 88, 3) := by decide +kernel
theorem dX5_reads_135 : decode cX5_reads 135 = .ok (.aload_n 0, 1) := by decide +kernel
theorem dX5_reads_136 : decode cX5_reads 136 = .ok (.iconst 0, 1) := by decide +kernel
theorem dX5_reads_137 : decode cX5_reads 137 = .ok (.putfield 99, 3) := by decide +kernel
theorem dX5_reads_140 : decode cX5_reads 140 = .ok (.aload_n 0, 1) := by decide +kernel
theorem dX5_reads_141 : decode cX5_reads 141 = .ok (.aload_n 0, 1) := by decide +kernel
theorem dX5_reads_142 : decode cX5_reads 142 = .ok (.getfield 73, 3) := by decide +kernel
theorem dX5_reads_145 : decode cX5_reads 145 = .ok (.invokevirtual 76, 3) := by decide +kernel
theorem dX5_reads_148 : decode cX5_reads 148 = .ok (.i2l, 1) := by decide +kernel
theorem dX5_reads_149 : decode cX5_reads 149 = .ok (.ldc2_w 95, 3) := by decide +kernel
theorem dX5_reads_152 : decode cX5_reads 152 = .ok (.ldc2_w 97, 3) := by decide +kernel
theorem dX5_reads_155 : decode cX5_reads 155 = .ok (.invokestatic 56, 3) := by decide +kernel
theorem dX5_reads_158 : decode cX5_reads 158 = .ok (.ifCond .eq 59, 3) := by decide +kernel
theorem dX5_reads_161 : decode cX5_reads 161 = .ok (.aload_n 0, 1) := by decide +kernel
theorem dX5_reads_162 : decode cX5_reads 162 = .ok (.aload_n 0, 1) := by decide +kernel
theorem dX5_reads_163 : decode cX5_reads 163 = .ok (.getfield 73, 3) := by decide +kernel
theorem dX5_reads_166 : decode cX5_reads 166 = .ok (.aload_n 0, 1) := by decide +kernel
theorem dX5_reads_167 : decode cX5_reads 167 = .ok (.getfield 67, 3) := by decide +kernel
theorem dX5_reads_170 : decode cX5_reads 170 = .ok (.isub, 1) := by decide +kernel
theorem dX5_reads_171 : decode cX5_reads 171 = .ok (.iconst 2, 1) := by decide +kernel
theorem dX5_reads_172 : decode cX5_reads 172 = .ok (.if_icmp .ge 25, 3) := by decide +kernel
theorem dX5_reads_175 : decode cX5_reads 175 = .ok (.bipush 10, 2) := by decide +kernel
theorem dX5_reads_177 : decode cX5_reads 177 = .ok (.aload_n 0, 1) := by decide +kernel
theorem dX5_reads_178 : decode cX5_reads 178 = .ok (.getfield 99, 3) := by decide +kernel
theorem dX5_reads_181 : decode cX5_reads 181 = .ok (.imul, 1) := by decide +kernel
theorem dX5_reads_182 : decode cX5_reads 182 = .ok (.aload_n 0, 1) := by decide +kernel
theorem dX5_reads_183 : decode cX5_reads 183 = .ok (.aload_n 0, 1) := by decide +kernel
theorem dX5_reads_184 : decode cX5_reads 184 = .ok (.getfield 73, 3) := by decide +kernel
theorem dX5_reads_187 : decode cX5_reads 187 = .ok (.invokevirtual 76, 3) := by decide +kernel
theorem dX5_reads_190 : decode cX5_reads 190 = .ok (.iadd, 1) := by decide +kernel
theorem dX5_reads_191 : decode cX5_reads 191 = .ok (.bipush 48, 2) := by decide +kernel
theorem dX5_reads_193 : decode cX5_reads 193 = .ok (.isub, 1) := by decide +kernel
theorem dX5_reads_194 : decode cX5_reads 194 = .ok (.goto 7, 3) := by decide +kernel
theorem dX5_reads_197 : decode cX5_reads 197 = .ok (.aload_n 0, 1) := by decide +kernel
theorem dX5_reads_198 : decode cX5_reads 198 = .ok (.getfield 99, 3) := by decide +kernel
theorem dX5_reads_201 : decode cX5_reads 201 = .ok (.putfield 99, 3) := by decide +kernel
theorem dX5_reads_204 : decode cX5_reads 204 = .ok (.aload_n 0, 1) := by decide +kernel
theorem dX5_reads_205 : decode cX5_reads 205 = .ok (.dup, 1) := by decide +kernel
theorem dX5_reads_206 : decode cX5_reads 206 = .ok (.getfield 73, 3) := by decide +kernel
theorem dX5_reads_209 : decode cX5_reads 209 = .ok (.iconst 1, 1) := by decide +kernel
theorem dX5_reads_210 : decode cX5_reads 210 = .ok (.iadd, 1) := by decide +kernel
theorem dX5_reads_211 : decode cX5_reads 211 = .ok (.putfield 73, 3) := by decide +kernel
theorem dX5_reads_214 : decode cX5_reads 214 = .ok (.goto (-74), 3) := by decide +kernel
theorem dX5_reads_217 : decode cX5_reads 217 = .ok (.aload_n 0, 1) := by decide +kernel
theorem dX5_reads_218 : decode cX5_reads 218 = .ok (.aload_n 0, 1) := by decide +kernel
theorem dX5_reads_219 : decode cX5_reads 219 = .ok (.getfield 73, 3) := by decide +kernel
theorem dX5_reads_222 : decode cX5_reads 222 = .ok (.aload_n 0, 1) := by decide +kernel
theorem dX5_reads_223 : decode cX5_reads 223 = .ok (.getfield 67, 3) := by decide +kernel
theorem dX5_reads_226 : decode cX5_reads 226 = .ok (.isub, 1) := by decide +kernel
theorem dX5_reads_227 : decode cX5_reads 227 = .ok (.iconst 2, 1) := by decide +kernel
theorem dX5_reads_228 : decode cX5_reads 228 = .ok (.if_icmp .gt 7, 3) := by decide +kernel
theorem dX5_reads_231 : decode cX5_reads 231 = .ok (.iconst 1, 1) := by decide +kernel
theorem dX5_reads_232 : decode cX5_reads 232 = .ok (.goto 4, 3) := by decide +kernel
theorem dX5_reads_235 : decode cX5_reads 235 = .ok (.iconst 0, 1) := by decide +kernel
theorem dX5_reads_236 : decode cX5_reads 236 = .ok (.iconst 1, 1) := by decide +kernel
theorem dX5_reads_237 : decode cX5_reads 237 = .ok (.invokevirtual 102, 3) := by decide +kernel
theorem dX5_reads_240 : decode cX5_reads 240 = .ok (.goto 34, 3) := by decide +kernel
theorem dX5_reads_243 : decode cX5_reads 243 = .ok (.aload_n 0, 1) := by decide +kernel
theorem dX5_reads_244 : decode cX5_reads 244 = .ok (.iconst 3, 1) := by decide +kernel
theorem dX5_reads_245 : decode cX5_reads 245 = .ok (.putfield 88, 3) := by decide +kernel
theorem dX5_reads_248 : decode cX5_reads 248 = .ok (.aload_n 0, 1) := by decide +kernel
theorem dX5_reads_249 : decode cX5_reads 249 = .ok (.iload_n 1, 1) := by decide +kernel
theorem dX5_reads_250 : decode cX5_reads 250 = .ok (.bipush 59, 2) := by decide +kernel
theorem dX5_reads_252 : decode cX5_reads 252 = .ok (.if_icmp .ne 7, 3) := by decide +kernel
theorem dX5_reads_255 : decode cX5_reads 255 = .ok (.iconst 1, 1) := by decide +kernel
theorem dX5_reads_256 : decode cX5_reads 256 = .ok (.goto 4, 3) := by decide +kernel
theorem dX5_reads_259 : decode cX5_reads 259 = .ok (.iconst 0, 1) := by decide +kernel
theorem dX5_reads_260 : decode cX5_reads 260 = .ok (.iconst 1, 1) := by decide +kernel
theorem dX5_reads_261 : decode cX5_reads 261 = .ok (.invokevirtual 102, 3) := by decide +kernel
theorem dX5_reads_264 : decode cX5_reads 264 = .ok (.aload_n 0, 1) := by decide +kernel
theorem dX5_reads_265 : decode cX5_reads 265 = .ok (.dup, 1) := by decide +kernel
theorem dX5_reads_266 : decode cX5_reads 266 = .ok (.getfield 73, 3) := by decide +kernel
theorem dX5_reads_269 : decode cX5_reads 269 = .ok (.iconst 1, 1) := by decide +kernel
theorem dX5_reads_270 : decode cX5_reads 270 = .ok (.iadd, 1) := by decide +kernel
theorem dX5_reads_271 : decode cX5_reads 271 = .ok (.putfield 73, 3) := by decide +kernel
theorem dX5_reads_274 : decode cX5_reads 274 = .ok (.return_, 1) := by decide +kernel
theorem dX5_readNumber_0 : decode cX5_readNumber 0 = .ok (.aload_n 0, 1) := by decide +kernel
theorem dX5_readNumber_1 : decode cX5_readNumber 1 = .ok (.getfield 64, 3) := by decide +kernel
theorem dX5_readNumber_4 : decode cX5_readNumber 4 = .ok (.ifCond .ne 21, 3) := by decide +kernel
theorem dX5_readNumber_7 : decode cX5_readNumber 7 = .ok (.aload_n 0, 1) := by decide +kernel
theorem dX5_readNumber_8 : decode cX5_readNumber 8 = .ok (.aload_n 0, 1) := by decide +kernel
theorem dX5_readNumber_9 : decode cX5_readNumber 9 = .ok (.getfield 88, 3) := by decide +kernel
theorem dX5_readNumber_12 : decode cX5_readNumber 12 = .ok (.iconst 2, 1) := by decide +kernel
theorem dX5_readNumber_13 : decode cX5_readNumber 13 = .ok (.if_icmp .ne 7, 3) := by decide +kernel
theorem dX5_readNumber_16 : decode cX5_readNumber 16 = .ok (.iconst 1, 1) := by decide +kernel
theorem dX5_readNumber_17 : decode cX5_readNumber 17 = .ok (.goto 4, 3) := by decide +kernel
theorem dX5_readNumber_20 : decode cX5_readNumber 20 = .ok (.iconst 0, 1) := by decide +kernel
theorem dX5_readNumber_21 : decode cX5_readNumber 21 = .ok (.iconst 2, 1) := by decide +kernel
theorem dX5_readNumber_22 : decode cX5_readNumber 22 = .ok (.invokevirtual 102, 3) := by decide +kernel
theorem dX5_readNumber_25 : decode cX5_readNumber 25 = .ok (.aload_n 0, 1) := by decide +kernel
theorem dX5_readNumber_26 : decode cX5_readNumber 26 = .ok (.getfield 64, 3) := by decide +kernel
theorem dX5_readNumber_29 : decode cX5_readNumber 29 = .ok (.ifCond .ne 19, 3) := by decide +kernel
theorem dX5_readNumber_32 : decode cX5_readNumber 32 = .ok (.aload_n 0, 1) := by decide +kernel
theorem dX5_readNumber_33 : decode cX5_readNumber 33 = .ok (.aload_n 0, 1) := by decide +kernel
theorem dX5_readNumber_34 : decode cX5_readNumber 34 = .ok (.getfield 99, 3) := by decide +kernel
theorem dX5_readNumber_37 : decode cX5_readNumber 37 = .ok (.i2l, 1) := by decide +kernel
theorem dX5_readNumber_38 : decode cX5_readNumber 38 = .ok (.lconst 0, 1) := by decide +kernel
theorem dX5_readNumber_39 : decode cX5_readNumber 39 = .ok (.iload_n 1, 1) := by decide +kernel
theorem dX5_readNumber_40 : decode cX5_readNumber 40 = .ok (.i2l, 1) := by decide +kernel
theorem dX5_readNumber_41 : decode cX5_readNumber 41 = .ok (.invokestatic 56, 3) := by decide +kernel
theorem dX5_readNumber_44 : decode cX5_readNumber 44 = .ok (.iconst 3, 1) := by decide +kernel
theorem dX5_readNumber_45 : decode cX5_readNumber 45 = .ok (.invokevirtual 102, 3) := by decide +kernel
theorem dX5_readNumber_48 : decode cX5_readNumber 48 = .ok (.aload_n 0, 1) := by decide +kernel
theorem dX5_readNumber_49 : decode cX5_readNumber 49 = .ok (.getfield 64, 3) := by decide +kernel
theorem dX5_readNumber_52 : decode cX5_readNumber 52 = .ok (.ifCond .ne 10, 3) := by decide +kernel
theorem dX5_readNumber_55 : decode cX5_readNumber 55 = .ok (.aload_n 0, 1) := by decide +kernel
theorem dX5_readNumber_56 : decode cX5_readNumber 56 = .ok (.getfield 99, 3) := by decide +kernel
theorem dX5_readNumber_59 : decode cX5_readNumber 59 = .ok (.goto 4, 3) := by decide +kernel
theorem dX5_readNumber_62 : decode cX5_readNumber 62 = .ok (.iconst 0, 1) := by decide +kernel
theorem dX5_readNumber_63 : decode cX5_readNumber 63 = .ok (.istore_n 2, 1) := by decide +kernel
theorem dX5_readNumber_64 : decode cX5_readNumber 64 = .ok (.aload_n 0, 1) := by decide +kernel
theorem dX5_readNumber_65 : decode cX5_readNumber 65 = .ok (.invokevirtual 106, 3) := by decide +kernel
theorem dX5_readNumber_68 : decode cX5_readNumber 68 = .ok (.iload_n 2, 1) := by decide +kernel
theorem dX5_readNumber_69 : decode cX5_readNumber 69 = .ok (.ireturn, 1) := by decide +kernel
theorem dX5_readMember_0 : decode cX5_readMember 0 = .ok (.iconst 4, 1) := by decide +kernel
theorem dX5_readMember_1 : decode cX5_readMember 1 = .ok (.aload_n 0, 1) := by decide +kernel
theorem dX5_readMember_2 : decode cX5_readMember 2 = .ok (.getfield 20, 3) := by decide +kernel
theorem dX5_readMember_5 : decode cX5_readMember 5 = .ok (.bipush 24, 2) := by decide +kernel
theorem dX5_readMember_7 : decode cX5_readMember 7 = .ok (.iaload, 1) := by decide +kernel
theorem dX5_readMember_8 : decode cX5_readMember 8 = .ok (.imul, 1) := by decide +kernel
theorem dX5_readMember_9 : decode cX5_readMember 9 = .ok (.istore_n 2, 1) := by decide +kernel
theorem dX5_readMember_10 : decode cX5_readMember 10 = .ok (.aload_n 0, 1) := by decide +kernel
theorem dX5_readMember_11 : decode cX5_readMember 11 = .ok (.getfield 20, 3) := by decide +kernel
theorem dX5_readMember_14 : decode cX5_readMember 14 = .ok (.iload_n 2, 1) := by decide +kernel
theorem dX5_readMember_15 : decode cX5_readMember 15 = .ok (.iconst 0, 1) := by decide +kernel
theorem dX5_readMember_16 : decode cX5_readMember 16 = .ok (.iadd, 1) := by decide +kernel
theorem dX5_readMember_17 : decode cX5_readMember 17 = .ok (.iload_n 1, 1) := by decide +kernel
theorem dX5_readMember_18 : decode cX5_readMember 18 = .ok (.iastore, 1) := by decide +kernel
theorem dX5_readMember_19 : decode cX5_readMember 19 = .ok (.aload_n 0, 1) := by decide +kernel
theorem dX5_readMember_20 : decode cX5_readMember 20 = .ok (.getfield 20, 3) := by decide +kernel
theorem dX5_readMember_23 : decode cX5_readMember 23 = .ok (.iload_n 2, 1) := by decide +kernel
theorem dX5_readMember_24 : decode cX5_readMember 24 = .ok (.iconst 1, 1) := by decide +kernel
theorem dX5_readMember_25 : decode cX5_readMember 25 = .ok (.iadd, 1) := by decide +kernel
theorem dX5_readMember_26 : decode cX5_readMember 26 = .ok (.aload_n 0, 1) := by decide +kernel
theorem dX5_readMember_27 : decode cX5_readMember 27 = .ok (.iconst 1, 1) := by decide +kernel
theorem dX5_readMember_28 : decode cX5_readMember 28 = .ok (.invokevirtual 109, 3) := by decide +kernel
theorem dX5_readMember_31 : decode cX5_readMember 31 = .ok (.iastore, 1) := by decide +kernel
theorem dX5_readMember_32 : decode cX5_readMember 32 = .ok (.aload_n 0, 1) := by decide +kernel
theorem dX5_readMember_33 : decode cX5_readMember 33 = .ok (.getfield 20, 3) := by decide +kernel
theorem dX5_readMember_36 : decode cX5_readMember 36 = .ok (.iload_n 2, 1) := by decide +kernel
theorem dX5_readMember_37 : decode cX5_readMember 37 = .ok (.iconst 2, 1) := by decide +kernel
theorem dX5_readMember_38 : decode cX5_readMember 38 = .ok (.iadd, 1) := by decide +kernel
theorem dX5_readMember_39 : decode cX5_readMember 39 = .ok (.aload_n 0, 1) := by decide +kernel
theorem dX5_readMember_40 : decode cX5_readMember 40 = .ok (.bipush 20, 2) := by decide +kernel
theorem dX5_readMember_42 : decode cX5_readMember 42 = .ok (.invokevirtual 109, 3) := by decide +kernel
theorem dX5_readMember_45 : decode cX5_readMember 45 = .ok (.iastore, 1) := by decide +kernel
theorem dX5_readMember_46 : decode cX5_readMember 46 = .ok (.aload_n 0, 1) := by decide +kernel
theorem dX5_readMember_47 : decode cX5_readMember 47 = .ok (.getfield 20, 3) := by decide +kernel
theorem dX5_readMember_50 : decode cX5_readMember 50 = .ok (.iload_n 2, 1) := by decide +kernel
theorem dX5_readMember_51 : decode cX5_readMember 51 = .ok (.iconst 3, 1) := by decide +kernel
theorem dX5_readMember_52 : decode cX5_readMember 52 = .ok (.iadd, 1) := by decide +kernel
theorem dX5_readMember_53 : decode cX5_readMember 53 = .ok (.aload_n 0, 1) := by decide +kernel
theorem dX5_readMember_54 : decode cX5_readMember 54 = .ok (.bipush 20, 2) := by decide +kernel
theorem dX5_readMember_56 : decode cX5_readMember 56 = .ok (.invokevirtual 109, 3) := by decide +kernel
theorem dX5_readMember_59 : decode cX5_readMember 59 = .ok (.iastore, 1) := by decide +kernel
theorem dX5_readMember_60 : decode cX5_readMember 60 = .ok (.aload_n 0, 1) := by decide +kernel
theorem dX5_readMember_61 : decode cX5_readMember 61 = .ok (.getfield 20, 3) := by decide +kernel
theorem dX5_readMember_64 : decode cX5_readMember 64 = .ok (.bipush 24, 2) := by decide +kernel
theorem dX5_readMember_66 : decode cX5_readMember 66 = .ok (.dup2, 1) := by decide +kernel
theorem dX5_readMember_67 : decode cX5_readMember 67 = .ok (.iaload, 1) := by decide +kernel
theorem dX5_readMember_68 : decode cX5_readMember 68 = .ok (.iconst 1, 1) := by decide +kernel
theorem dX5_readMember_69 : decode cX5_readMember 69 = .ok (.iadd, 1) := by decide +kernel
theorem dX5_readMember_70 : decode cX5_readMember 70 = .ok (.iastore, 1) := by decide +kernel
theorem dX5_readMember_71 : decode cX5_readMember 71 = .ok (.return_, 1) := by decide +kernel
theorem dX5_readLine_0 : decode cX5_readLine 0 = .ok (.aload_n 0, 1) := by decide +kernel
theorem dX5_readLine_1 : decode cX5_readLine 1 = .ok (.getfield 88, 3) := by decide +kernel
theorem dX5_readLine_4 : decode cX5_readLine 4 = .ok (.iconst 1, 1) := by decide +kernel
theorem dX5_readLine_5 : decode cX5_readLine 5 = .ok (.if_icmp .ne 10, 3) := by decide +kernel
theorem dX5_readLine_8 : decode cX5_readLine 8 = .ok (.aload_n 0, 1) := by decide +kernel
theorem dX5_readLine_9 : decode cX5_readLine 9 = .ok (.invokevirtual 112, 3) := by decide +kernel
theorem dX5_readLine_12 : decode cX5_readLine 12 = .ok (.goto 5, 3) := by decide +kernel
theorem dX5_readLine_15 : decode cX5_readLine 15 = .ok (.bipush (-4), 2) := by decide +kernel
theorem dX5_readLine_17 : decode cX5_readLine 17 = .ok (.istore_n 1, 1) := by decide +kernel
theorem dX5_readLine_18 : decode cX5_readLine 18 = .ok (.aload_n 0, 1) := by decide +kernel
theorem dX5_readLine_19 : decode cX5_readLine 19 = .ok (.iload_n 1, 1) := by decide +kernel
theorem dX5_readLine_20 : decode cX5_readLine 20 = .ok (.bipush (-4), 2) := by decide +kernel
theorem dX5_readLine_22 : decode cX5_readLine 22 = .ok (.if_icmp .eq 7, 3) := by decide +kernel
theorem dX5_readLine_25 : decode cX5_readLine 25 = .ok (.iconst 1, 1) := by decide +kernel
theorem dX5_readLine_26 : decode cX5_readLine 26 = .ok (.goto 4, 3) := by decide +kernel
theorem dX5_readLine_29 : decode cX5_readLine 29 = .ok (.iconst 0, 1) := by decide +kernel
theorem dX5_readLine_30 : decode cX5_readLine 30 = .ok (.iconst 2, 1) := by decide +kernel
theorem dX5_readLine_31 : decode cX5_readLine 31 = .ok (.invokevirtual 102, 3) := by decide +kernel
theorem dX5_readLine_34 : decode cX5_readLine 34 = .ok (.aload_n 0, 1) := by decide +kernel
theorem dX5_readLine_35 : decode cX5_readLine 35 = .ok (.iload_n 1, 1) := by decide +kernel
theorem dX5_readLine_36 : decode cX5_readLine 36 = .ok (.iconst 4, 1) := by decide +kernel
theorem dX5_readLine_37 : decode cX5_readLine 37 = .ok (.if_icmp .ge 15, 3) := by decide +kernel
theorem dX5_readLine_40 : decode cX5_readLine 40 = .ok (.aload_n 0, 1) := by decide +kernel
theorem dX5_readLine_41 : decode cX5_readLine 41 = .ok (.getfield 20, 3) := by decide +kernel
theorem dX5_readLine_44 : decode cX5_readLine 44 = .ok (.bipush 24, 2) := by decide +kernel
theorem dX5_readLine_46 : decode cX5_readLine 46 = .ok (.iaload, 1) := by decide +kernel
theorem dX5_readLine_47 : decode cX5_readLine 47 = .ok (.bipush 6, 2) := by decide +kernel
theorem dX5_readLine_49 : decode cX5_readLine 49 = .ok (.if_icmp .ge 7, 3) := by decide +kernel
theorem dX5_readLine_52 : decode cX5_readLine 52 = .ok (.iconst 1, 1) := by decide +kernel
theorem dX5_readLine_53 : decode cX5_readLine 53 = .ok (.goto 4, 3) := by decide +kernel
theorem dX5_readLine_56 : decode cX5_readLine 56 = .ok (.iconst 0, 1) := by decide +kernel
theorem dX5_readLine_57 : decode cX5_readLine 57 = .ok (.iconst 5, 1) := by decide +kernel
theorem dX5_readLine_58 : decode cX5_readLine 58 = .ok (.invokevirtual 102, 3) := by decide +kernel
theorem dX5_readLine_61 : decode cX5_readLine 61 = .ok (.aload_n 0, 1) := by decide +kernel
theorem dX5_readLine_62 : decode cX5_readLine 62 = .ok (.iload_n 1, 1) := by decide +kernel
theorem dX5_readLine_63 : decode cX5_readLine 63 = .ok (.iconst 4, 1) := by decide +kernel
theorem dX5_readLine_64 : decode cX5_readLine 64 = .ok (.if_icmp .ne 10, 3) := by decide +kernel
theorem dX5_readLine_67 : decode cX5_readLine 67 = .ok (.aload_n 0, 1) := by decide +kernel
theorem dX5_readLine_68 : decode cX5_readLine 68 = .ok (.getfield 50, 3) := by decide +kernel
theorem dX5_readLine_71 : decode cX5_readLine 71 = .ok (.ifCond .ne 7, 3) := by decide +kernel
theorem dX5_readLine_74 : decode cX5_readLine 74 = .ok (.iconst 1, 1) := by decide +kernel
theorem dX5_readLine_75 : decode cX5_readLine 75 = .ok (.goto 4, 3) := by decide +kernel
theorem dX5_readLine_78 : decode cX5_readLine 78 = .ok (.iconst 0, 1) := by decide +kernel
theorem dX5_readLine_79 : decode cX5_readLine 79 = .ok (.iconst 4, 1) := by decide +kernel
theorem dX5_readLine_80 : decode cX5_readLine 80 = .ok (.invokevirtual 102, 3) := by decide +kernel
theorem dX5_readLine_83 : decode cX5_readLine 83 = .ok (.aload_n 0, 1) := by decide +kernel
theorem dX5_readLine_84 : decode cX5_readLine 84 = .ok (.aload_n 0, 1) := by decide +kernel
theorem dX5_readLine_85 : decode cX5_readLine 85 = .ok (.getfield 50, 3) := by decide +kernel
theorem dX5_readLine_88 : decode cX5_readLine 88 = .ok (.ifCond .ne 8, 3) := by decide +kernel
theorem dX5_readLine_91 : decode cX5_readLine 91 = .ok (.iload_n 1, 1) := by decide +kernel
theorem dX5_readLine_92 : decode cX5_readLine 92 = .ok (.iconst 4, 1) := by decide +kernel
theorem dX5_readLine_93 : decode cX5_readLine 93 = .ok (.if_icmp .ne 7, 3) := by decide +kernel
theorem dX5_readLine_96 : decode cX5_readLine 96 = .ok (.iconst 1, 1) := by decide +kernel
theorem dX5_readLine_97 : decode cX5_readLine 97 = .ok (.goto 4, 3) := by decide +kernel
theorem dX5_readLine_100 : decode cX5_readLine 100 = .ok (.iconst 0, 1) := by decide +kernel
theorem dX5_readLine_101 : decode cX5_readLine 101 = .ok (.putfield 50, 3) := by decide +kernel
theorem dX5_readLine_104 : decode cX5_readLine 104 = .ok (.aload_n 0, 1) := by decide +kernel
theorem dX5_readLine_105 : decode cX5_readLine 105 = .ok (.invokevirtual 106, 3) := by decide +kernel
theorem dX5_readLine_108 : decode cX5_readLine 108 = .ok (.aload_n 0, 1) := by decide +kernel
theorem dX5_readLine_109 : decode cX5_readLine 109 = .ok (.getfield 64, 3) := by decide +kernel
theorem dX5_readLine_112 : decode cX5_readLine 112 = .ok (.ifCond .le 4, 3) := by decide +kernel
theorem dX5_readLine_115 : decode cX5_readLine 115 = .ok (.return_, 1) := by decide +kernel
theorem dX5_readLine_116 : decode cX5_readLine 116 = .ok (.iload_n 1, 1) := by decide +kernel
theorem dX5_readLine_117 : decode cX5_readLine 117 = .ok (.iconst 4, 1) := by decide +kernel
theorem dX5_readLine_118 : decode cX5_readLine 118 = .ok (.if_icmp .ne 19, 3) := by decide +kernel
theorem dX5_readLine_121 : decode cX5_readLine 121 = .ok (.aload_n 0, 1) := by decide +kernel
theorem dX5_readLine_122 : decode cX5_readLine 122 = .ok (.getfield 20, 3) := by decide +kernel
theorem dX5_readLine_125 : decode cX5_readLine 125 = .ok (.bipush 25, 2) := by decide +kernel
theorem dX5_readLine_127 : decode cX5_readLine 127 = .ok (.aload_n 0, 1) := by decide +kernel
theorem dX5_readLine_128 : decode cX5_readLine 128 = .ok (.bipush 20, 2) := by decide +kernel
theorem dX5_readLine_130 : decode cX5_readLine 130 = .ok (.invokevirtual 109, 3) := by decide +kernel
theorem dX5_readLine_133 : decode cX5_readLine 133 = .ok (.iastore, 1) := by decide +kernel
theorem dX5_readLine_134 : decode cX5_readLine 134 = .ok (.goto 8, 3) := by decide +kernel
theorem dX5_readLine_137 : decode cX5_readLine 137 = .ok (.aload_n 0, 1) := by decide +kernel
theorem dX5_readLine_138 : decode cX5_readLine 138 = .ok (.iload_n 1, 1) := by decide +kernel
theorem dX5_readLine_139 : decode cX5_readLine 139 = .ok (.invokevirtual 116, 3) := by decide +kernel
theorem dX5_readLine_142 : decode cX5_readLine 142 = .ok (.aload_n 0, 1) := by decide +kernel
theorem dX5_readLine_143 : decode cX5_readLine 143 = .ok (.getfield 64, 3) := by decide +kernel
theorem dX5_readLine_146 : decode cX5_readLine 146 = .ok (.ifCond .ne 21, 3) := by decide +kernel
theorem dX5_readLine_149 : decode cX5_readLine 149 = .ok (.aload_n 0, 1) := by decide +kernel
theorem dX5_readLine_150 : decode cX5_readLine 150 = .ok (.aload_n 0, 1) := by decide +kernel
theorem dX5_readLine_151 : decode cX5_readLine 151 = .ok (.getfield 88, 3) := by decide +kernel
theorem dX5_readLine_154 : decode cX5_readLine 154 = .ok (.iconst 3, 1) := by decide +kernel
theorem dX5_readLine_155 : decode cX5_readLine 155 = .ok (.if_icmp .ne 7, 3) := by decide +kernel
theorem dX5_readLine_158 : decode cX5_readLine 158 = .ok (.iconst 1, 1) := by decide +kernel
theorem dX5_readLine_159 : decode cX5_readLine 159 = .ok (.goto 4, 3) := by decide +kernel
theorem dX5_readLine_162 : decode cX5_readLine 162 = .ok (.iconst 0, 1) := by decide +kernel
theorem dX5_readLine_163 : decode cX5_readLine 163 = .ok (.iconst 2, 1) := by decide +kernel
theorem dX5_readLine_164 : decode cX5_readLine 164 = .ok (.invokevirtual 102, 3) := by decide +kernel
theorem dX5_readLine_167 : decode cX5_readLine 167 = .ok (.aload_n 0, 1) := by decide +kernel
theorem dX5_readLine_168 : decode cX5_readLine 168 = .ok (.invokevirtual 106, 3) := by decide +kernel
theorem dX5_readLine_171 : decode cX5_readLine 171 = .ok (.return_, 1) := by decide +kernel
theorem dX5_text_0 : decode cX5_text 0 = .ok (.iconst 0, 1) := by decide +kernel
theorem dX5_text_1 : decode cX5_text 1 = .ok (.istore_n 1, 1) := by decide +kernel
theorem dX5_text_2 : decode cX5_text 2 = .ok (.aload_n 0, 1) := by decide +kernel
theorem dX5_text_3 : decode cX5_text 3 = .ok (.iconst 0, 1) := by decide +kernel
theorem dX5_text_4 : decode cX5_text 4 = .ok (.putfield 64, 3) := by decide +kernel
theorem dX5_text_7 : decode cX5_text 7 = .ok (.aload_n 0, 1) := by decide +kernel
theorem dX5_text_8 : decode cX5_text 8 = .ok (.iconst 0, 1) := by decide +kernel
theorem dX5_text_9 : decode cX5_text 9 = .ok (.putfield 73, 3) := by decide +kernel
theorem dX5_text_12 : decode cX5_text 12 = .ok (.aload_n 0, 1) := by decide +kernel
theorem dX5_text_13 : decode cX5_text 13 = .ok (.invokevirtual 44, 3) := by decide +kernel
theorem dX5_text_16 : decode cX5_text 16 = .ok (.aload_n 0, 1) := by decide +kernel
theorem dX5_text_17 : decode cX5_text 17 = .ok (.invokevirtual 106, 3) := by decide +kernel
theorem dX5_text_20 : decode cX5_text 20 = .ok (.aload_n 0, 1) := by decide +kernel
theorem dX5_text_21 : decode cX5_text 21 = .ok (.getfield 64, 3) := by decide +kernel
theorem dX5_text_24 : decode cX5_text 24 = .ok (.ifCond .ne 20, 3) := by decide +kernel
theorem dX5_text_27 : decode cX5_text 27 = .ok (.aload_n 0, 1) := by decide +kernel
theorem dX5_text_28 : decode cX5_text 28 = .ok (.getfield 88, 3) := by decide +kernel
theorem dX5_text_31 : decode cX5_text 31 = .ok (.ifCond .eq 13, 3) := by decide +kernel
theorem dX5_text_34 : decode cX5_text 34 = .ok (.aload_n 0, 1) := by decide +kernel
theorem dX5_text_35 : decode cX5_text 35 = .ok (.invokevirtual 120, 3) := by decide +kernel
theorem dX5_text_38 : decode cX5_text 38 = .ok (.iinc 1 1, 3) := by decide +kernel
theorem dX5_text_41 : decode cX5_text 41 = .ok (.goto (-21), 3) := by decide +kernel
theorem dX5_text_44 : decode cX5_text 44 = .ok (.aload_n 0, 1) := by decide +kernel
theorem dX5_text_45 : decode cX5_text 45 = .ok (.iconst 0, 1) := by decide +kernel
theorem dX5_text_46 : decode cX5_text 46 = .ok (.putfield 60, 3) := by decide +kernel
theorem dX5_text_49 : decode cX5_text 49 = .ok (.aload_n 0, 1) := by decide +kernel
theorem dX5_text_50 : decode cX5_text 50 = .ok (.getfield 64, 3) := by decide +kernel
theorem dX5_text_53 : decode cX5_text 53 = .ok (.ifCond .le 11, 3) := by decide +kernel
theorem dX5_text_56 : decode cX5_text 56 = .ok (.bipush (-10), 2) := by decide +kernel
theorem dX5_text_58 : decode cX5_text 58 = .ok (.aload_n 0, 1) := by decide +kernel
theorem dX5_text_59 : decode cX5_text 59 = .ok (.getfield 70, 3) := by decide +kernel
theorem dX5_text_62 : decode cX5_text 62 = .ok (.isub, 1) := by decide +kernel
theorem dX5_text_63 : decode cX5_text 63 = .ok (.ireturn, 1) := by decide +kernel
theorem dX5_text_64 : decode cX5_text 64 = .ok (.aload_n 0, 1) := by decide +kernel
theorem dX5_text_65 : decode cX5_text 65 = .ok (.invokevirtual 47, 3) := by decide +kernel
theorem dX5_text_68 : decode cX5_text 68 = .ok (.iload_n 1, 1) := by decide +kernel
theorem dX5_text_69 : decode cX5_text 69 = .ok (.ireturn, 1) := by decide +kernel
theorem dX5_fault_0 : decode cX5_fault 0 = .ok (.aload_n 0, 1) := by decide +kernel
theorem dX5_fault_1 : decode cX5_fault 1 = .ok (.getfield 64, 3) := by decide +kernel
theorem dX5_fault_4 : decode cX5_fault 4 = .ok (.ireturn, 1) := by decide +kernel
theorem dX5_isMember_0 : decode cX5_isMember 0 = .ok (.iload_n 1, 1) := by decide +kernel
theorem dX5_isMember_1 : decode cX5_isMember 1 = .ok (.i2l, 1) := by decide +kernel
theorem dX5_isMember_2 : decode cX5_isMember 2 = .ok (.lconst 0, 1) := by decide +kernel
theorem dX5_isMember_3 : decode cX5_isMember 3 = .ok (.aload_n 0, 1) := by decide +kernel
theorem dX5_isMember_4 : decode cX5_isMember 4 = .ok (.getfield 7, 3) := by decide +kernel
theorem dX5_isMember_7 : decode cX5_isMember 7 = .ok (.bipush 24, 2) := by decide +kernel
theorem dX5_isMember_9 : decode cX5_isMember 9 = .ok (.iaload, 1) := by decide +kernel
theorem dX5_isMember_10 : decode cX5_isMember 10 = .ok (.iconst 1, 1) := by decide +kernel
theorem dX5_isMember_11 : decode cX5_isMember 11 = .ok (.isub, 1) := by decide +kernel
theorem dX5_isMember_12 : decode cX5_isMember 12 = .ok (.i2l, 1) := by decide +kernel
theorem dX5_isMember_13 : decode cX5_isMember 13 = .ok (.invokestatic 56, 3) := by decide +kernel
theorem dX5_isMember_16 : decode cX5_isMember 16 = .ok (.ireturn, 1) := by decide +kernel
theorem dX5_isMotion_0 : decode cX5_isMotion 0 = .ok (.iload_n 0, 1) := by decide +kernel
theorem dX5_isMotion_1 : decode cX5_isMotion 1 = .ok (.i2l, 1) := by decide +kernel
theorem dX5_isMotion_2 : decode cX5_isMotion 2 = .ok (.lconst 0, 1) := by decide +kernel
theorem dX5_isMotion_3 : decode cX5_isMotion 3 = .ok (.ldc2_w 123, 3) := by decide +kernel
theorem dX5_isMotion_6 : decode cX5_isMotion 6 = .ok (.invokestatic 56, 3) := by decide +kernel
theorem dX5_isMotion_9 : decode cX5_isMotion 9 = .ok (.ireturn, 1) := by decide +kernel
theorem dX5_isPart_0 : decode cX5_isPart 0 = .ok (.iload_n 0, 1) := by decide +kernel
theorem dX5_isPart_1 : decode cX5_isPart 1 = .ok (.i2l, 1) := by decide +kernel
theorem dX5_isPart_2 : decode cX5_isPart 2 = .ok (.lconst 0, 1) := by decide +kernel
theorem dX5_isPart_3 : decode cX5_isPart 3 = .ok (.lconst 1, 1) := by decide +kernel
theorem dX5_isPart_4 : decode cX5_isPart 4 = .ok (.invokestatic 56, 3) := by decide +kernel
theorem dX5_isPart_7 : decode cX5_isPart 7 = .ok (.ireturn, 1) := by decide +kernel
theorem dX5_starts_0 : decode cX5_starts 0 = .ok (.iconst 0, 1) := by decide +kernel
theorem dX5_starts_1 : decode cX5_starts 1 = .ok (.istore_n 1, 1) := by decide +kernel
theorem dX5_starts_2 : decode cX5_starts 2 = .ok (.iload_n 1, 1) := by decide +kernel
theorem dX5_starts_3 : decode cX5_starts 3 = .ok (.bipush 41, 2) := by decide +kernel
theorem dX5_starts_5 : decode cX5_starts 5 = .ok (.if_icmp .ge 21, 3) := by decide +kernel
theorem dX5_starts_8 : decode cX5_starts 8 = .ok (.aload_n 0, 1) := by decide +kernel
theorem dX5_starts_9 : decode cX5_starts 9 = .ok (.getfield 13, 3) := by decide +kernel
theorem dX5_starts_12 : decode cX5_starts 12 = .ok (.iload_n 1, 1) := by decide +kernel
theorem dX5_starts_13 : decode cX5_starts 13 = .ok (.aload_n 0, 1) := by decide +kernel
theorem dX5_starts_14 : decode cX5_starts 14 = .ok (.getfield 7, 3) := by decide +kernel
theorem dX5_starts_17 : decode cX5_starts 17 = .ok (.iload_n 1, 1) := by decide +kernel
theorem dX5_starts_18 : decode cX5_starts 18 = .ok (.iaload, 1) := by decide +kernel
theorem dX5_starts_19 : decode cX5_starts 19 = .ok (.iastore, 1) := by decide +kernel
theorem dX5_starts_20 : decode cX5_starts 20 = .ok (.iinc 1 1, 3) := by decide +kernel
theorem dX5_starts_23 : decode cX5_starts 23 = .ok (.goto (-21), 3) := by decide +kernel
theorem dX5_starts_26 : decode cX5_starts 26 = .ok (.aload_n 0, 1) := by decide +kernel
theorem dX5_starts_27 : decode cX5_starts 27 = .ok (.bipush (-4), 2) := by decide +kernel
theorem dX5_starts_29 : decode cX5_starts 29 = .ok (.putfield 125, 3) := by decide +kernel
theorem dX5_starts_32 : decode cX5_starts 32 = .ok (.aload_n 0, 1) := by decide +kernel
theorem dX5_starts_33 : decode cX5_starts 33 = .ok (.iconst 0, 1) := by decide +kernel
theorem dX5_starts_34 : decode cX5_starts 34 = .ok (.putfield 128, 3) := by decide +kernel
theorem dX5_starts_37 : decode cX5_starts 37 = .ok (.return_, 1) := by decide +kernel
theorem dX5_settles_0 : decode cX5_settles 0 = .ok (.iconst 0, 1) := by decide +kernel
theorem dX5_settles_1 : decode cX5_settles 1 = .ok (.istore_n 1, 1) := by decide +kernel
theorem dX5_settles_2 : decode cX5_settles 2 = .ok (.iload_n 1, 1) := by decide +kernel
theorem dX5_settles_3 : decode cX5_settles 3 = .ok (.bipush 41, 2) := by decide +kernel
theorem dX5_settles_5 : decode cX5_settles 5 = .ok (.if_icmp .ge 21, 3) := by decide +kernel
theorem dX5_settles_8 : decode cX5_settles 8 = .ok (.aload_n 0, 1) := by decide +kernel
theorem dX5_settles_9 : decode cX5_settles 9 = .ok (.getfield 7, 3) := by decide +kernel
theorem dX5_settles_12 : decode cX5_settles 12 = .ok (.iload_n 1, 1) := by decide +kernel
theorem dX5_settles_13 : decode cX5_settles 13 = .ok (.aload_n 0, 1) := by decide +kernel
theorem dX5_settles_14 : decode cX5_settles 14 = .ok (.getfield 13, 3) := by decide +kernel
theorem dX5_settles_17 : decode cX5_settles 17 = .ok (.iload_n 1, 1) := by decide +kernel
theorem dX5_settles_18 : decode cX5_settles 18 = .ok (.iaload, 1) := by decide +kernel
theorem dX5_settles_19 : decode cX5_settles 19 = .ok (.iastore, 1) := by decide +kernel
theorem dX5_settles_20 : decode cX5_settles 20 = .ok (.iinc 1 1, 3) := by decide +kernel
theorem dX5_settles_23 : decode cX5_settles 23 = .ok (.goto (-21), 3) := by decide +kernel
theorem dX5_settles_26 : decode cX5_settles 26 = .ok (.return_, 1) := by decide +kernel
theorem dX5_of_0 : decode cX5_of 0 = .ok (.aload_n 0, 1) := by decide +kernel
theorem dX5_of_1 : decode cX5_of 1 = .ok (.getfield 13, 3) := by decide +kernel
theorem dX5_of_4 : decode cX5_of 4 = .ok (.iconst 4, 1) := by decide +kernel
theorem dX5_of_5 : decode cX5_of 5 = .ok (.iload_n 1, 1) := by decide +kernel
theorem dX5_of_6 : decode cX5_of 6 = .ok (.imul, 1) := by decide +kernel
theorem dX5_of_7 : decode cX5_of 7 = .ok (.iload_n 2, 1) := by decide +kernel
theorem dX5_of_8 : decode cX5_of 8 = .ok (.iadd, 1) := by decide +kernel
theorem dX5_of_9 : decode cX5_of 9 = .ok (.iaload, 1) := by decide +kernel
theorem dX5_of_10 : decode cX5_of 10 = .ok (.ireturn, 1) := by decide +kernel
theorem dX5_becomesOf_0 : decode cX5_becomesOf 0 = .ok (.aload_n 0, 1) := by decide +kernel
theorem dX5_becomesOf_1 : decode cX5_becomesOf 1 = .ok (.getfield 13, 3) := by decide +kernel
theorem dX5_becomesOf_4 : decode cX5_becomesOf 4 = .ok (.iconst 4, 1) := by decide +kernel
theorem dX5_becomesOf_5 : decode cX5_becomesOf 5 = .ok (.iload_n 1, 1) := by decide +kernel
theorem dX5_becomesOf_6 : decode cX5_becomesOf 6 = .ok (.imul, 1) := by decide +kernel
theorem dX5_becomesOf_7 : decode cX5_becomesOf 7 = .ok (.iload_n 2, 1) := by decide +kernel
theorem dX5_becomesOf_8 : decode cX5_becomesOf 8 = .ok (.iadd, 1) := by decide +kernel
theorem dX5_becomesOf_9 : decode cX5_becomesOf 9 = .ok (.iload_n 3, 1) := by decide +kernel
theorem dX5_becomesOf_10 : decode cX5_becomesOf 10 = .ok (.iastore, 1) := by decide +kernel
theorem dX5_becomesOf_11 : decode cX5_becomesOf 11 = .ok (.return_, 1) := by decide +kernel
theorem dX5_awayBy_0 : decode cX5_awayBy 0 = .ok (.aload_n 0, 1) := by decide +kernel
theorem dX5_awayBy_1 : decode cX5_awayBy 1 = .ok (.iload_n 1, 1) := by decide +kernel
theorem dX5_awayBy_2 : decode cX5_awayBy 2 = .ok (.iconst 2, 1) := by decide +kernel
theorem dX5_awayBy_3 : decode cX5_awayBy 3 = .ok (.invokevirtual 131, 3) := by decide +kernel
theorem dX5_awayBy_6 : decode cX5_awayBy 6 = .ok (.aload_n 0, 1) := by decide +kernel
theorem dX5_awayBy_7 : decode cX5_awayBy 7 = .ok (.getfield 13, 3) := by decide +kernel
theorem dX5_awayBy_10 : decode cX5_awayBy 10 = .ok (.bipush 25, 2) := by decide +kernel
theorem dX5_awayBy_12 : decode cX5_awayBy 12 = .ok (.iaload, 1) := by decide +kernel
theorem dX5_awayBy_13 : decode cX5_awayBy 13 = .ok (.isub, 1) := by decide +kernel
theorem dX5_awayBy_14 : decode cX5_awayBy 14 = .ok (.ireturn, 1) := by decide +kernel
theorem dX5_votes_0 : decode cX5_votes 0 = .ok (.aload_n 0, 1) := by decide +kernel
theorem dX5_votes_1 : decode cX5_votes 1 = .ok (.iload_n 1, 1) := by decide +kernel
theorem dX5_votes_2 : decode cX5_votes 2 = .ok (.invokevirtual 135, 3) := by decide +kernel
theorem dX5_votes_5 : decode cX5_votes 5 = .ok (.i2l, 1) := by decide +kernel
theorem dX5_votes_6 : decode cX5_votes 6 = .ok (.aload_n 0, 1) := by decide +kernel
theorem dX5_votes_7 : decode cX5_votes 7 = .ok (.iload_n 1, 1) := by decide +kernel
theorem dX5_votes_8 : decode cX5_votes 8 = .ok (.iconst 3, 1) := by decide +kernel
theorem dX5_votes_9 : decode cX5_votes 9 = .ok (.invokevirtual 131, 3) := by decide +kernel
theorem dX5_votes_12 : decode cX5_votes 12 = .ok (.ineg, 1) := by decide +kernel
theorem dX5_votes_13 : decode cX5_votes 13 = .ok (.i2l, 1) := by decide +kernel
theorem dX5_votes_14 : decode cX5_votes 14 = .ok (.aload_n 0, 1) := by decide +kernel
theorem dX5_votes_15 : decode cX5_votes 15 = .ok (.iload_n 1, 1) := by decide +kernel
theorem dX5_votes_16 : decode cX5_votes 16 = .ok (.iconst 3, 1) := by decide +kernel
theorem dX5_votes_17 : decode cX5_votes 17 = .ok (.invokevirtual 131, 3) := by decide +kernel
theorem dX5_votes_20 : decode cX5_votes 20 = .ok (.i2l, 1) := by decide +kernel
theorem dX5_votes_21 : decode cX5_votes 21 = .ok (.invokestatic 56, 3) := by decide +kernel
theorem dX5_votes_24 : decode cX5_votes 24 = .ok (.ireturn, 1) := by decide +kernel
theorem dX5_sign_0 : decode cX5_sign 0 = .ok (.iload_n 0, 1) := by decide +kernel
theorem dX5_sign_1 : decode cX5_sign 1 = .ok (.ifCond .le 7, 3) := by decide +kernel
theorem dX5_sign_4 : decode cX5_sign 4 = .ok (.iconst 1, 1) := by decide +kernel
theorem dX5_sign_5 : decode cX5_sign 5 = .ok (.goto 12, 3) := by decide +kernel
theorem dX5_sign_8 : decode cX5_sign 8 = .ok (.iload_n 0, 1) := by decide +kernel
theorem dX5_sign_9 : decode cX5_sign 9 = .ok (.ifCond .ge 7, 3) := by decide +kernel
theorem dX5_sign_12 : decode cX5_sign 12 = .ok (.iconst (-1), 1) := by decide +kernel
theorem dX5_sign_13 : decode cX5_sign 13 = .ok (.goto 4, 3) := by decide +kernel
theorem dX5_sign_16 : decode cX5_sign 16 = .ok (.iconst 0, 1) := by decide +kernel
theorem dX5_sign_17 : decode cX5_sign 17 = .ok (.ireturn, 1) := by decide +kernel
theorem dX5_pull_0 : decode cX5_pull 0 = .ok (.aload_n 0, 1) := by decide +kernel
theorem dX5_pull_1 : decode cX5_pull 1 = .ok (.iload_n 1, 1) := by decide +kernel
theorem dX5_pull_2 : decode cX5_pull 2 = .ok (.invokevirtual 135, 3) := by decide +kernel
theorem dX5_pull_5 : decode cX5_pull 5 = .ok (.istore_n 2, 1) := by decide +kernel
theorem dX5_pull_6 : decode cX5_pull 6 = .ok (.iload_n 2, 1) := by decide +kernel
theorem dX5_pull_7 : decode cX5_pull 7 = .ok (.i2l, 1) := by decide +kernel
theorem dX5_pull_8 : decode cX5_pull 8 = .ok (.ldc2_w 138, 3) := by decide +kernel
theorem dX5_pull_11 : decode cX5_pull 11 = .ok (.ldc2_w 140, 3) := by decide +kernel
theorem dX5_pull_14 : decode cX5_pull 14 = .ok (.invokestatic 56, 3) := by decide +kernel
theorem dX5_pull_17 : decode cX5_pull 17 = .ok (.ifCond .eq 7, 3) := by decide +kernel
theorem dX5_pull_20 : decode cX5_pull 20 = .ok (.iconst 0, 1) := by decide +kernel
theorem dX5_pull_21 : decode cX5_pull 21 = .ok (.goto 7, 3) := by decide +kernel
theorem dX5_pull_24 : decode cX5_pull 24 = .ok (.iload_n 2, 1) := by decide +kernel
theorem dX5_pull_25 : decode cX5_pull 25 = .ok (.invokestatic 142, 3) := by decide +kernel
theorem dX5_pull_28 : decode cX5_pull 28 = .ok (.istore_n 3, 1) := by decide +kernel
theorem dX5_pull_29 : decode cX5_pull 29 = .ok (.aload_n 0, 1) := by decide +kernel
theorem dX5_pull_30 : decode cX5_pull 30 = .ok (.iload_n 1, 1) := by decide +kernel
theorem dX5_pull_31 : decode cX5_pull 31 = .ok (.iconst 0, 1) := by decide +kernel
theorem dX5_pull_32 : decode cX5_pull 32 = .ok (.invokevirtual 131, 3) := by decide +kernel
theorem dX5_pull_35 : decode cX5_pull 35 = .ok (.tableswitch 37 1 3 #[25, 32, 34], 25) := by decide +kernel
theorem dX5_pull_60 : decode cX5_pull 60 = .ok (.iconst 2, 1) := by decide +kernel
theorem dX5_pull_61 : decode cX5_pull 61 = .ok (.iload_n 2, 1) := by decide +kernel
theorem dX5_pull_62 : decode cX5_pull 62 = .ok (.invokestatic 142, 3) := by decide +kernel
theorem dX5_pull_65 : decode cX5_pull 65 = .ok (.imul, 1) := by decide +kernel
theorem dX5_pull_66 : decode cX5_pull 66 = .ok (.ireturn, 1) := by decide +kernel
theorem dX5_pull_67 : decode cX5_pull 67 = .ok (.iload_n 3, 1) := by decide +kernel
theorem dX5_pull_68 : decode cX5_pull 68 = .ok (.ireturn, 1) := by decide +kernel
theorem dX5_pull_69 : decode cX5_pull 69 = .ok (.iload_n 3, 1) := by decide +kernel
theorem dX5_pull_70 : decode cX5_pull 70 = .ok (.ineg, 1) := by decide +kernel
theorem dX5_pull_71 : decode cX5_pull 71 = .ok (.ireturn, 1) := by decide +kernel
theorem dX5_pull_72 : decode cX5_pull 72 = .ok (.iload_n 2, 1) := by decide +kernel
theorem dX5_pull_73 : decode cX5_pull 73 = .ok (.invokestatic 142, 3) := by decide +kernel
theorem dX5_pull_76 : decode cX5_pull 76 = .ok (.ireturn, 1) := by decide +kernel
theorem dX5_tires_0 : decode cX5_tires 0 = .ok (.iload_n 0, 1) := by decide +kernel
theorem dX5_tires_1 : decode cX5_tires 1 = .ok (.iconst 1, 1) := by decide +kernel
theorem dX5_tires_2 : decode cX5_tires 2 = .ok (.if_icmp .ne 7, 3) := by decide +kernel
theorem dX5_tires_5 : decode cX5_tires 5 = .ok (.iconst 0, 1) := by decide +kernel
theorem dX5_tires_6 : decode cX5_tires 6 = .ok (.goto 22, 3) := by decide +kernel
theorem dX5_tires_9 : decode cX5_tires 9 = .ok (.iload_n 0, 1) := by decide +kernel
theorem dX5_tires_10 : decode cX5_tires 10 = .ok (.iconst 2, 1) := by decide +kernel
theorem dX5_tires_11 : decode cX5_tires 11 = .ok (.if_icmp .ne 7, 3) := by decide +kernel
theorem dX5_tires_14 : decode cX5_tires 14 = .ok (.iconst 2, 1) := by decide +kernel
theorem dX5_tires_15 : decode cX5_tires 15 = .ok (.goto 13, 3) := by decide +kernel
theorem dX5_tires_18 : decode cX5_tires 18 = .ok (.iload_n 0, 1) := by decide +kernel
theorem dX5_tires_19 : decode cX5_tires 19 = .ok (.iconst 3, 1) := by decide +kernel
theorem dX5_tires_20 : decode cX5_tires 20 = .ok (.if_icmp .ne 7, 3) := by decide +kernel
theorem dX5_tires_23 : decode cX5_tires 23 = .ok (.iconst 3, 1) := by decide +kernel
theorem dX5_tires_24 : decode cX5_tires 24 = .ok (.goto 4, 3) := by decide +kernel
theorem dX5_tires_27 : decode cX5_tires 27 = .ok (.iconst 1, 1) := by decide +kernel
theorem dX5_tires_28 : decode cX5_tires 28 = .ok (.ireturn, 1) := by decide +kernel
theorem dX5_isOf_0 : decode cX5_isOf 0 = .ok (.iload_n 1, 1) := by decide +kernel
theorem dX5_isOf_1 : decode cX5_isOf 1 = .ok (.aload_n 0, 1) := by decide +kernel
theorem dX5_isOf_2 : decode cX5_isOf 2 = .ok (.getfield 125, 3) := by decide +kernel
theorem dX5_isOf_5 : decode cX5_isOf 5 = .ok (.if_icmp .eq 17, 3) := by decide +kernel
theorem dX5_isOf_8 : decode cX5_isOf 8 = .ok (.aload_n 0, 1) := by decide +kernel
theorem dX5_isOf_9 : decode cX5_isOf 9 = .ok (.iload_n 1, 1) := by decide +kernel
theorem dX5_isOf_10 : decode cX5_isOf 10 = .ok (.iconst 1, 1) := by decide +kernel
theorem dX5_isOf_11 : decode cX5_isOf 11 = .ok (.invokevirtual 131, 3) := by decide +kernel
theorem dX5_isOf_14 : decode cX5_isOf 14 = .ok (.iload_n 2, 1) := by decide +kernel
theorem dX5_isOf_15 : decode cX5_isOf 15 = .ok (.if_icmp .ne 7, 3) := by decide +kernel
theorem dX5_isOf_18 : decode cX5_isOf 18 = .ok (.iconst 1, 1) := by decide +kernel
theorem dX5_isOf_19 : decode cX5_isOf 19 = .ok (.goto 4, 3) := by decide +kernel
theorem dX5_isOf_22 : decode cX5_isOf 22 = .ok (.iconst 0, 1) := by decide +kernel
theorem dX5_isOf_23 : decode cX5_isOf 23 = .ok (.ireturn, 1) := by decide +kernel
theorem dX5_votesFor_0 : decode cX5_votesFor 0 = .ok (.iconst 0, 1) := by decide +kernel
theorem dX5_votesFor_1 : decode cX5_votesFor 1 = .ok (.istore_n 2, 1) := by decide +kernel
theorem dX5_votesFor_2 : decode cX5_votesFor 2 = .ok (.iconst 0, 1) := by decide +kernel
theorem dX5_votesFor_3 : decode cX5_votesFor 3 = .ok (.istore_n 3, 1) := by decide +kernel
theorem dX5_votesFor_4 : decode cX5_votesFor 4 = .ok (.iload_n 3, 1) := by decide +kernel
theorem dX5_votesFor_5 : decode cX5_votesFor 5 = .ok (.aload_n 0, 1) := by decide +kernel
theorem dX5_votesFor_6 : decode cX5_votesFor 6 = .ok (.getfield 13, 3) := by decide +kernel
theorem dX5_votesFor_9 : decode cX5_votesFor 9 = .ok (.bipush 24, 2) := by decide +kernel
theorem dX5_votesFor_11 : decode cX5_votesFor 11 = .ok (.iaload, 1) := by decide +kernel
theorem dX5_votesFor_12 : decode cX5_votesFor 12 = .ok (.if_icmp .ge 37, 3) := by decide +kernel
theorem dX5_votesFor_15 : decode cX5_votesFor 15 = .ok (.iload_n 2, 1) := by decide +kernel
theorem dX5_votesFor_16 : decode cX5_votesFor 16 = .ok (.aload_n 0, 1) := by decide +kernel
theorem dX5_votesFor_17 : decode cX5_votesFor 17 = .ok (.iload_n 3, 1) := by decide +kernel
theorem dX5_votesFor_18 : decode cX5_votesFor 18 = .ok (.iload_n 1, 1) := by decide +kernel
theorem dX5_votesFor_19 : decode cX5_votesFor 19 = .ok (.invokevirtual 145, 3) := by decide +kernel
theorem dX5_votesFor_22 : decode cX5_votesFor 22 = .ok (.ifCond .eq 15, 3) := by decide +kernel
theorem dX5_votesFor_25 : decode cX5_votesFor 25 = .ok (.aload_n 0, 1) := by decide +kernel
theorem dX5_votesFor_26 : decode cX5_votesFor 26 = .ok (.iload_n 3, 1) := by decide +kernel
theorem dX5_votesFor_27 : decode cX5_votesFor 27 = .ok (.invokevirtual 149, 3) := by decide +kernel
theorem dX5_votesFor_30 : decode cX5_votesFor 30 = .ok (.ifCond .eq 7, 3) := by decide +kernel
theorem dX5_votesFor_33 : decode cX5_votesFor 33 = .ok (.iconst 1, 1) := by decide +kernel
theorem dX5_votesFor_34 : decode cX5_votesFor 34 = .ok (.goto 4, 3) := by decide +kernel
theorem dX5_votesFor_37 : decode cX5_votesFor 37 = .ok (.iconst 0, 1) := by decide +kernel
theorem dX5_votesFor_38 : decode cX5_votesFor 38 = .ok (.invokestatic 153, 3) := by decide +kernel
theorem dX5_votesFor_41 : decode cX5_votesFor 41 = .ok (.iadd, 1) := by decide +kernel
theorem dX5_votesFor_42 : decode cX5_votesFor 42 = .ok (.istore_n 2, 1) := by decide +kernel
theorem dX5_votesFor_43 : decode cX5_votesFor 43 = .ok (.iinc 3 1, 3) := by decide +kernel
theorem dX5_votesFor_46 : decode cX5_votesFor 46 = .ok (.goto (-42), 3) := by decide +kernel
theorem dX5_votesFor_49 : decode cX5_votesFor 49 = .ok (.iload_n 2, 1) := by decide +kernel
theorem dX5_votesFor_50 : decode cX5_votesFor 50 = .ok (.ireturn, 1) := by decide +kernel
theorem dX5_votesAgainst_0 : decode cX5_votesAgainst 0 = .ok (.iconst 0, 1) := by decide +kernel
theorem dX5_votesAgainst_1 : decode cX5_votesAgainst 1 = .ok (.istore_n 2, 1) := by decide +kernel
theorem dX5_votesAgainst_2 : decode cX5_votesAgainst 2 = .ok (.iconst 0, 1) := by decide +kernel
theorem dX5_votesAgainst_3 : decode cX5_votesAgainst 3 = .ok (.istore_n 3, 1) := by decide +kernel
theorem dX5_votesAgainst_4 : decode cX5_votesAgainst 4 = .ok (.iload_n 3, 1) := by decide +kernel
theorem dX5_votesAgainst_5 : decode cX5_votesAgainst 5 = .ok (.aload_n 0, 1) := by decide +kernel
theorem dX5_votesAgainst_6 : decode cX5_votesAgainst 6 = .ok (.getfield 13, 3) := by decide +kernel
theorem dX5_votesAgainst_9 : decode cX5_votesAgainst 9 = .ok (.bipush 24, 2) := by decide +kernel
theorem dX5_votesAgainst_11 : decode cX5_votesAgainst 11 = .ok (.iaload, 1) := by decide +kernel
theorem dX5_votesAgainst_12 : decode cX5_votesAgainst 12 = .ok (.if_icmp .ge 37, 3) := by decide +kernel
theorem dX5_votesAgainst_15 : decode cX5_votesAgainst 15 = .ok (.iload_n 2, 1) := by decide +kernel
theorem dX5_votesAgainst_16 : decode cX5_votesAgainst 16 = .ok (.aload_n 0, 1) := by decide +kernel
theorem dX5_votesAgainst_17 : decode cX5_votesAgainst 17 = .ok (.iload_n 3, 1) := by decide +kernel
theorem dX5_votesAgainst_18 : decode cX5_votesAgainst 18 = .ok (.iload_n 1, 1) := by decide +kernel
theorem dX5_votesAgainst_19 : decode cX5_votesAgainst 19 = .ok (.invokevirtual 145, 3) := by decide +kernel
theorem dX5_votesAgainst_22 : decode cX5_votesAgainst 22 = .ok (.ifCond .eq 15, 3) := by decide +kernel
theorem dX5_votesAgainst_25 : decode cX5_votesAgainst 25 = .ok (.aload_n 0, 1) := by decide +kernel
theorem dX5_votesAgainst_26 : decode cX5_votesAgainst 26 = .ok (.iload_n 3, 1) := by decide +kernel
theorem dX5_votesAgainst_27 : decode cX5_votesAgainst 27 = .ok (.invokevirtual 149, 3) := by decide +kernel
theorem dX5_votesAgainst_30 : decode cX5_votesAgainst 30 = .ok (.ifCond .ne 7, 3) := by decide +kernel
theorem dX5_votesAgainst_33 : decode cX5_votesAgainst 33 = .ok (.iconst 1, 1) := by decide +kernel
theorem dX5_votesAgainst_34 : decode cX5_votesAgainst 34 = .ok (.goto 4, 3) := by decide +kernel
