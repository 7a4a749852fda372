theorem dX5_votesAgainst_37 : decode cX5_votesAgainst 37 = .ok (.iconst 0, 1) := by decide +kernel
theorem dX5_votesAgainst_38 : decode cX5_votesAgainst 38 = .ok (.invokestatic 153, 3) := by decide +kernel
theorem dX5_votesAgainst_41 : decode cX5_votesAgainst 41 = .ok (.iadd, 1) := by decide +kernel
theorem dX5_votesAgainst_42 : decode cX5_votesAgainst 42 = .ok (.istore_n 2, 1) := by decide +kernel
theorem dX5_votesAgainst_43 : decode cX5_votesAgainst 43 = .ok (.iinc 3 1, 3) := by decide +kernel
theorem dX5_votesAgainst_46 : decode cX5_votesAgainst 46 = .ok (.goto (-42), 3) := by decide +kernel
theorem dX5_votesAgainst_49 : decode cX5_votesAgainst 49 = .ok (.iload_n 2, 1) := by decide +kernel
theorem dX5_votesAgainst_50 : decode cX5_votesAgainst 50 = .ok (.ireturn, 1) := by decide +kernel
theorem dX5_pullOfAll_0 : decode cX5_pullOfAll 0 = .ok (.iconst 0, 1) := by decide +kernel
theorem dX5_pullOfAll_1 : decode cX5_pullOfAll 1 = .ok (.istore_n 2, 1) := by decide +kernel
theorem dX5_pullOfAll_2 : decode cX5_pullOfAll 2 = .ok (.iconst 0, 1) := by decide +kernel
theorem dX5_pullOfAll_3 : decode cX5_pullOfAll 3 = .ok (.istore_n 3, 1) := by decide +kernel
theorem dX5_pullOfAll_4 : decode cX5_pullOfAll 4 = .ok (.iload_n 3, 1) := by decide +kernel
theorem dX5_pullOfAll_5 : decode cX5_pullOfAll 5 = .ok (.aload_n 0, 1) := by decide +kernel
theorem dX5_pullOfAll_6 : decode cX5_pullOfAll 6 = .ok (.getfield 13, 3) := by decide +kernel
theorem dX5_pullOfAll_9 : decode cX5_pullOfAll 9 = .ok (.bipush 24, 2) := by decide +kernel
theorem dX5_pullOfAll_11 : decode cX5_pullOfAll 11 = .ok (.iaload, 1) := by decide +kernel
theorem dX5_pullOfAll_12 : decode cX5_pullOfAll 12 = .ok (.if_icmp .ge 30, 3) := by decide +kernel
theorem dX5_pullOfAll_15 : decode cX5_pullOfAll 15 = .ok (.iload_n 2, 1) := by decide +kernel
theorem dX5_pullOfAll_16 : decode cX5_pullOfAll 16 = .ok (.aload_n 0, 1) := by decide +kernel
theorem dX5_pullOfAll_17 : decode cX5_pullOfAll 17 = .ok (.iload_n 3, 1) := by decide +kernel
theorem dX5_pullOfAll_18 : decode cX5_pullOfAll 18 = .ok (.iload_n 1, 1) := by decide +kernel
theorem dX5_pullOfAll_19 : decode cX5_pullOfAll 19 = .ok (.invokevirtual 145, 3) := by decide +kernel
theorem dX5_pullOfAll_22 : decode cX5_pullOfAll 22 = .ok (.ifCond .eq 11, 3) := by decide +kernel
theorem dX5_pullOfAll_25 : decode cX5_pullOfAll 25 = .ok (.aload_n 0, 1) := by decide +kernel
theorem dX5_pullOfAll_26 : decode cX5_pullOfAll 26 = .ok (.iload_n 3, 1) := by decide +kernel
theorem dX5_pullOfAll_27 : decode cX5_pullOfAll 27 = .ok (.invokevirtual 157, 3) := by decide +kernel
theorem dX5_pullOfAll_30 : decode cX5_pullOfAll 30 = .ok (.goto 4, 3) := by decide +kernel
theorem dX5_pullOfAll_33 : decode cX5_pullOfAll 33 = .ok (.iconst 0, 1) := by decide +kernel
theorem dX5_pullOfAll_34 : decode cX5_pullOfAll 34 = .ok (.iadd, 1) := by decide +kernel
theorem dX5_pullOfAll_35 : decode cX5_pullOfAll 35 = .ok (.istore_n 2, 1) := by decide +kernel
theorem dX5_pullOfAll_36 : decode cX5_pullOfAll 36 = .ok (.iinc 3 1, 3) := by decide +kernel
theorem dX5_pullOfAll_39 : decode cX5_pullOfAll 39 = .ok (.goto (-35), 3) := by decide +kernel
theorem dX5_pullOfAll_42 : decode cX5_pullOfAll 42 = .ok (.iload_n 2, 1) := by decide +kernel
theorem dX5_pullOfAll_43 : decode cX5_pullOfAll 43 = .ok (.ireturn, 1) := by decide +kernel
theorem dX5_agrees_0 : decode cX5_agrees 0 = .ok (.aload_n 0, 1) := by decide +kernel
theorem dX5_agrees_1 : decode cX5_agrees 1 = .ok (.iload_n 1, 1) := by decide +kernel
theorem dX5_agrees_2 : decode cX5_agrees 2 = .ok (.invokevirtual 160, 3) := by decide +kernel
theorem dX5_agrees_5 : decode cX5_agrees 5 = .ok (.istore_n 2, 1) := by decide +kernel
theorem dX5_agrees_6 : decode cX5_agrees 6 = .ok (.aload_n 0, 1) := by decide +kernel
theorem dX5_agrees_7 : decode cX5_agrees 7 = .ok (.iload_n 1, 1) := by decide +kernel
theorem dX5_agrees_8 : decode cX5_agrees 8 = .ok (.invokevirtual 163, 3) := by decide +kernel
theorem dX5_agrees_11 : decode cX5_agrees 11 = .ok (.istore_n 3, 1) := by decide +kernel
theorem dX5_agrees_12 : decode cX5_agrees 12 = .ok (.iload_n 2, 1) := by decide +kernel
theorem dX5_agrees_13 : decode cX5_agrees 13 = .ok (.iload_n 3, 1) := by decide +kernel
theorem dX5_agrees_14 : decode cX5_agrees 14 = .ok (.if_icmp .gt 9, 3) := by decide +kernel
theorem dX5_agrees_17 : decode cX5_agrees 17 = .ok (.iload_n 2, 1) := by decide +kernel
theorem dX5_agrees_18 : decode cX5_agrees 18 = .ok (.iload_n 3, 1) := by decide +kernel
theorem dX5_agrees_19 : decode cX5_agrees 19 = .ok (.iadd, 1) := by decide +kernel
theorem dX5_agrees_20 : decode cX5_agrees 20 = .ok (.ifCond .ne 7, 3) := by decide +kernel
theorem dX5_agrees_23 : decode cX5_agrees 23 = .ok (.iconst 1, 1) := by decide +kernel
theorem dX5_agrees_24 : decode cX5_agrees 24 = .ok (.goto 4, 3) := by decide +kernel
theorem dX5_agrees_27 : decode cX5_agrees 27 = .ok (.iconst 0, 1) := by decide +kernel
theorem dX5_agrees_28 : decode cX5_agrees 28 = .ok (.ireturn, 1) := by decide +kernel
theorem dX5_isCarried_0 : decode cX5_isCarried 0 = .ok (.aload_n 0, 1) := by decide +kernel
theorem dX5_isCarried_1 : decode cX5_isCarried 1 = .ok (.iconst 0, 1) := by decide +kernel
theorem dX5_isCarried_2 : decode cX5_isCarried 2 = .ok (.invokevirtual 166, 3) := by decide +kernel
theorem dX5_isCarried_5 : decode cX5_isCarried 5 = .ok (.ifCond .eq 15, 3) := by decide +kernel
theorem dX5_isCarried_8 : decode cX5_isCarried 8 = .ok (.aload_n 0, 1) := by decide +kernel
theorem dX5_isCarried_9 : decode cX5_isCarried 9 = .ok (.iconst 1, 1) := by decide +kernel
theorem dX5_isCarried_10 : decode cX5_isCarried 10 = .ok (.invokevirtual 166, 3) := by decide +kernel
theorem dX5_isCarried_13 : decode cX5_isCarried 13 = .ok (.ifCond .eq 7, 3) := by decide +kernel
theorem dX5_isCarried_16 : decode cX5_isCarried 16 = .ok (.iconst 1, 1) := by decide +kernel
theorem dX5_isCarried_17 : decode cX5_isCarried 17 = .ok (.goto 4, 3) := by decide +kernel
theorem dX5_isCarried_20 : decode cX5_isCarried 20 = .ok (.iconst 0, 1) := by decide +kernel
theorem dX5_isCarried_21 : decode cX5_isCarried 21 = .ok (.ireturn, 1) := by decide +kernel
theorem dX5_sits_0 : decode cX5_sits 0 = .ok (.aload_n 0, 1) := by decide +kernel
theorem dX5_sits_1 : decode cX5_sits 1 = .ok (.iload_n 1, 1) := by decide +kernel
theorem dX5_sits_2 : decode cX5_sits 2 = .ok (.invokevirtual 169, 3) := by decide +kernel
theorem dX5_sits_5 : decode cX5_sits 5 = .ok (.istore_n 2, 1) := by decide +kernel
theorem dX5_sits_6 : decode cX5_sits 6 = .ok (.iconst 0, 1) := by decide +kernel
theorem dX5_sits_7 : decode cX5_sits 7 = .ok (.istore_n 3, 1) := by decide +kernel
theorem dX5_sits_8 : decode cX5_sits 8 = .ok (.iload_n 3, 1) := by decide +kernel
theorem dX5_sits_9 : decode cX5_sits 9 = .ok (.aload_n 0, 1) := by decide +kernel
theorem dX5_sits_10 : decode cX5_sits 10 = .ok (.getfield 13, 3) := by decide +kernel
theorem dX5_sits_13 : decode cX5_sits 13 = .ok (.bipush 24, 2) := by decide +kernel
theorem dX5_sits_15 : decode cX5_sits 15 = .ok (.iaload, 1) := by decide +kernel
theorem dX5_sits_16 : decode cX5_sits 16 = .ok (.if_icmp .ge 53, 3) := by decide +kernel
theorem dX5_sits_19 : decode cX5_sits 19 = .ok (.aload_n 0, 1) := by decide +kernel
theorem dX5_sits_20 : decode cX5_sits 20 = .ok (.iload_n 3, 1) := by decide +kernel
theorem dX5_sits_21 : decode cX5_sits 21 = .ok (.iload_n 1, 1) := by decide +kernel
theorem dX5_sits_22 : decode cX5_sits 22 = .ok (.invokevirtual 145, 3) := by decide +kernel
theorem dX5_sits_25 : decode cX5_sits 25 = .ok (.ifCond .eq 38, 3) := by decide +kernel
theorem dX5_sits_28 : decode cX5_sits 28 = .ok (.aload_n 0, 1) := by decide +kernel
theorem dX5_sits_29 : decode cX5_sits 29 = .ok (.iload_n 3, 1) := by decide +kernel
theorem dX5_sits_30 : decode cX5_sits 30 = .ok (.invokevirtual 149, 3) := by decide +kernel
theorem dX5_sits_33 : decode cX5_sits 33 = .ok (.ifCond .ne 30, 3) := by decide +kernel
theorem dX5_sits_36 : decode cX5_sits 36 = .ok (.aload_n 0, 1) := by decide +kernel
theorem dX5_sits_37 : decode cX5_sits 37 = .ok (.iload_n 3, 1) := by decide +kernel
theorem dX5_sits_38 : decode cX5_sits 38 = .ok (.iconst 3, 1) := by decide +kernel
theorem dX5_sits_39 : decode cX5_sits 39 = .ok (.bipush 20, 2) := by decide +kernel
theorem dX5_sits_41 : decode cX5_sits 41 = .ok (.aload_n 0, 1) := by decide +kernel
theorem dX5_sits_42 : decode cX5_sits 42 = .ok (.iload_n 3, 1) := by decide +kernel
theorem dX5_sits_43 : decode cX5_sits 43 = .ok (.iconst 3, 1) := by decide +kernel
theorem dX5_sits_44 : decode cX5_sits 44 = .ok (.invokevirtual 131, 3) := by decide +kernel
theorem dX5_sits_47 : decode cX5_sits 47 = .ok (.aload_n 0, 1) := by decide +kernel
theorem dX5_sits_48 : decode cX5_sits 48 = .ok (.iload_n 3, 1) := by decide +kernel
theorem dX5_sits_49 : decode cX5_sits 49 = .ok (.iconst 0, 1) := by decide +kernel
theorem dX5_sits_50 : decode cX5_sits 50 = .ok (.invokevirtual 131, 3) := by decide +kernel
theorem dX5_sits_53 : decode cX5_sits 53 = .ok (.invokestatic 172, 3) := by decide +kernel
theorem dX5_sits_56 : decode cX5_sits 56 = .ok (.iadd, 1) := by decide +kernel
theorem dX5_sits_57 : decode cX5_sits 57 = .ok (.invokestatic 175, 3) := by decide +kernel
theorem dX5_sits_60 : decode cX5_sits 60 = .ok (.invokevirtual 178, 3) := by decide +kernel
theorem dX5_sits_63 : decode cX5_sits 63 = .ok (.iinc 3 1, 3) := by decide +kernel
theorem dX5_sits_66 : decode cX5_sits 66 = .ok (.goto (-58), 3) := by decide +kernel
theorem dX5_sits_69 : decode cX5_sits 69 = .ok (.aload_n 0, 1) := by decide +kernel
theorem dX5_sits_70 : decode cX5_sits 70 = .ok (.getfield 13, 3) := by decide +kernel
theorem dX5_sits_73 : decode cX5_sits 73 = .ok (.bipush 25, 2) := by decide +kernel
theorem dX5_sits_75 : decode cX5_sits 75 = .ok (.iaload, 1) := by decide +kernel
theorem dX5_sits_76 : decode cX5_sits 76 = .ok (.iload_n 2, 1) := by decide +kernel
theorem dX5_sits_77 : decode cX5_sits 77 = .ok (.invokestatic 142, 3) := by decide +kernel
theorem dX5_sits_80 : decode cX5_sits 80 = .ok (.iadd, 1) := by decide +kernel
theorem dX5_sits_81 : decode cX5_sits 81 = .ok (.istore_n 3, 1) := by decide +kernel
theorem dX5_sits_82 : decode cX5_sits 82 = .ok (.iload_n 3, 1) := by decide +kernel
theorem dX5_sits_83 : decode cX5_sits 83 = .ok (.aload_n 0, 1) := by decide +kernel
theorem dX5_sits_84 : decode cX5_sits 84 = .ok (.getfield 13, 3) := by decide +kernel
theorem dX5_sits_87 : decode cX5_sits 87 = .ok (.bipush 25, 2) := by decide +kernel
theorem dX5_sits_89 : decode cX5_sits 89 = .ok (.iaload, 1) := by decide +kernel
theorem dX5_sits_90 : decode cX5_sits 90 = .ok (.if_icmp .eq 50, 3) := by decide +kernel
theorem dX5_sits_93 : decode cX5_sits 93 = .ok (.iload_n 3, 1) := by decide +kernel
theorem dX5_sits_94 : decode cX5_sits 94 = .ok (.invokestatic 182, 3) := by decide +kernel
theorem dX5_sits_97 : decode cX5_sits 97 = .ok (.ifCond .eq 43, 3) := by decide +kernel
theorem dX5_sits_100 : decode cX5_sits 100 = .ok (.aload_n 0, 1) := by decide +kernel
theorem dX5_sits_101 : decode cX5_sits 101 = .ok (.getfield 13, 3) := by decide +kernel
theorem dX5_sits_104 : decode cX5_sits 104 = .ok (.bipush 25, 2) := by decide +kernel
theorem dX5_sits_106 : decode cX5_sits 106 = .ok (.iload_n 3, 1) := by decide +kernel
theorem dX5_sits_107 : decode cX5_sits 107 = .ok (.iastore, 1) := by decide +kernel
theorem dX5_sits_108 : decode cX5_sits 108 = .ok (.aload_n 0, 1) := by decide +kernel
theorem dX5_sits_109 : decode cX5_sits 109 = .ok (.getfield 13, 3) := by decide +kernel
theorem dX5_sits_112 : decode cX5_sits 112 = .ok (.bipush 27, 2) := by decide +kernel
theorem dX5_sits_114 : decode cX5_sits 114 = .ok (.sipush 999, 3) := by decide +kernel
theorem dX5_sits_117 : decode cX5_sits 117 = .ok (.aload_n 0, 1) := by decide +kernel
theorem dX5_sits_118 : decode cX5_sits 118 = .ok (.getfield 13, 3) := by decide +kernel
theorem dX5_sits_121 : decode cX5_sits 121 = .ok (.bipush 27, 2) := by decide +kernel
theorem dX5_sits_123 : decode cX5_sits 123 = .ok (.iaload, 1) := by decide +kernel
theorem dX5_sits_124 : decode cX5_sits 124 = .ok (.iconst 1, 1) := by decide +kernel
theorem dX5_sits_125 : decode cX5_sits 125 = .ok (.iadd, 1) := by decide +kernel
theorem dX5_sits_126 : decode cX5_sits 126 = .ok (.invokestatic 175, 3) := by decide +kernel
theorem dX5_sits_129 : decode cX5_sits 129 = .ok (.iastore, 1) := by decide +kernel
theorem dX5_sits_130 : decode cX5_sits 130 = .ok (.aload_n 0, 1) := by decide +kernel
theorem dX5_sits_131 : decode cX5_sits 131 = .ok (.dup, 1) := by decide +kernel
theorem dX5_sits_132 : decode cX5_sits 132 = .ok (.getfield 128, 3) := by decide +kernel
theorem dX5_sits_135 : decode cX5_sits 135 = .ok (.iconst 1, 1) := by decide +kernel
theorem dX5_sits_136 : decode cX5_sits 136 = .ok (.iadd, 1) := by decide +kernel
theorem dX5_sits_137 : decode cX5_sits 137 = .ok (.putfield 128, 3) := by decide +kernel
theorem dX5_sits_140 : decode cX5_sits 140 = .ok (.return_, 1) := by decide +kernel
theorem dX5_dayGoes_0 : decode cX5_dayGoes 0 = .ok (.iload_n 1, 1) := by decide +kernel
theorem dX5_dayGoes_1 : decode cX5_dayGoes 1 = .ok (.ifCond .ne 23, 3) := by decide +kernel
theorem dX5_dayGoes_4 : decode cX5_dayGoes 4 = .ok (.aload_n 0, 1) := by decide +kernel
theorem dX5_dayGoes_5 : decode cX5_dayGoes 5 = .ok (.invokevirtual 185, 3) := by decide +kernel
theorem dX5_dayGoes_8 : decode cX5_dayGoes 8 = .ok (.ifCond .ne 16, 3) := by decide +kernel
theorem dX5_dayGoes_11 : decode cX5_dayGoes 11 = .ok (.aload_n 0, 1) := by decide +kernel
theorem dX5_dayGoes_12 : decode cX5_dayGoes 12 = .ok (.aload_n 0, 1) := by decide +kernel
theorem dX5_dayGoes_13 : decode cX5_dayGoes 13 = .ok (.getfield 13, 3) := by decide +kernel
theorem dX5_dayGoes_16 : decode cX5_dayGoes 16 = .ok (.bipush 26, 2) := by decide +kernel
theorem dX5_dayGoes_18 : decode cX5_dayGoes 18 = .ok (.iaload, 1) := by decide +kernel
theorem dX5_dayGoes_19 : decode cX5_dayGoes 19 = .ok (.iconst 2, 1) := by decide +kernel
theorem dX5_dayGoes_20 : decode cX5_dayGoes 20 = .ok (.irem, 1) := by decide +kernel
theorem dX5_dayGoes_21 : decode cX5_dayGoes 21 = .ok (.invokevirtual 189, 3) := by decide +kernel
theorem dX5_dayGoes_24 : decode cX5_dayGoes 24 = .ok (.aload_n 0, 1) := by decide +kernel
theorem dX5_dayGoes_25 : decode cX5_dayGoes 25 = .ok (.getfield 13, 3) := by decide +kernel
theorem dX5_dayGoes_28 : decode cX5_dayGoes 28 = .ok (.bipush 26, 2) := by decide +kernel
theorem dX5_dayGoes_30 : decode cX5_dayGoes 30 = .ok (.dup2, 1) := by decide +kernel
theorem dX5_dayGoes_31 : decode cX5_dayGoes 31 = .ok (.iaload, 1) := by decide +kernel
theorem dX5_dayGoes_32 : decode cX5_dayGoes 32 = .ok (.iconst 1, 1) := by decide +kernel
theorem dX5_dayGoes_33 : decode cX5_dayGoes 33 = .ok (.iadd, 1) := by decide +kernel
theorem dX5_dayGoes_34 : decode cX5_dayGoes 34 = .ok (.iastore, 1) := by decide +kernel
theorem dX5_dayGoes_35 : decode cX5_dayGoes 35 = .ok (.return_, 1) := by decide +kernel
theorem dX5_daysGo_0 : decode cX5_daysGo 0 = .ok (.iconst 0, 1) := by decide +kernel
theorem dX5_daysGo_1 : decode cX5_daysGo 1 = .ok (.istore_n 2, 1) := by decide +kernel
theorem dX5_daysGo_2 : decode cX5_daysGo 2 = .ok (.iload_n 2, 1) := by decide +kernel
theorem dX5_daysGo_3 : decode cX5_daysGo 3 = .ok (.iload_n 1, 1) := by decide +kernel
theorem dX5_daysGo_4 : decode cX5_daysGo 4 = .ok (.if_icmp .ge 14, 3) := by decide +kernel
theorem dX5_daysGo_7 : decode cX5_daysGo 7 = .ok (.aload_n 0, 1) := by decide +kernel
theorem dX5_daysGo_8 : decode cX5_daysGo 8 = .ok (.iconst 0, 1) := by decide +kernel
theorem dX5_daysGo_9 : decode cX5_daysGo 9 = .ok (.invokevirtual 192, 3) := by decide +kernel
theorem dX5_daysGo_12 : decode cX5_daysGo 12 = .ok (.iinc 2 1, 3) := by decide +kernel
theorem dX5_daysGo_15 : decode cX5_daysGo 15 = .ok (.goto (-13), 3) := by decide +kernel
theorem dX5_daysGo_18 : decode cX5_daysGo 18 = .ok (.return_, 1) := by decide +kernel
theorem dX5_sumOf_0 : decode cX5_sumOf 0 = .ok (.iconst 0, 1) := by decide +kernel
theorem dX5_sumOf_1 : decode cX5_sumOf 1 = .ok (.istore_n 2, 1) := by decide +kernel
theorem dX5_sumOf_2 : decode cX5_sumOf 2 = .ok (.iconst 0, 1) := by decide +kernel
theorem dX5_sumOf_3 : decode cX5_sumOf 3 = .ok (.istore_n 3, 1) := by decide +kernel
theorem dX5_sumOf_4 : decode cX5_sumOf 4 = .ok (.iload_n 3, 1) := by decide +kernel
theorem dX5_sumOf_5 : decode cX5_sumOf 5 = .ok (.aload_n 0, 1) := by decide +kernel
theorem dX5_sumOf_6 : decode cX5_sumOf 6 = .ok (.getfield 13, 3) := by decide +kernel
theorem dX5_sumOf_9 : decode cX5_sumOf 9 = .ok (.bipush 24, 2) := by decide +kernel
theorem dX5_sumOf_11 : decode cX5_sumOf 11 = .ok (.iaload, 1) := by decide +kernel
theorem dX5_sumOf_12 : decode cX5_sumOf 12 = .ok (.if_icmp .ge 18, 3) := by decide +kernel
theorem dX5_sumOf_15 : decode cX5_sumOf 15 = .ok (.iload_n 2, 1) := by decide +kernel
theorem dX5_sumOf_16 : decode cX5_sumOf 16 = .ok (.aload_n 0, 1) := by decide +kernel
theorem dX5_sumOf_17 : decode cX5_sumOf 17 = .ok (.iload_n 3, 1) := by decide +kernel
theorem dX5_sumOf_18 : decode cX5_sumOf 18 = .ok (.iload_n 1, 1) := by decide +kernel
theorem dX5_sumOf_19 : decode cX5_sumOf 19 = .ok (.invokevirtual 131, 3) := by decide +kernel
theorem dX5_sumOf_22 : decode cX5_sumOf 22 = .ok (.iadd, 1) := by decide +kernel
theorem dX5_sumOf_23 : decode cX5_sumOf 23 = .ok (.istore_n 2, 1) := by decide +kernel
theorem dX5_sumOf_24 : decode cX5_sumOf 24 = .ok (.iinc 3 1, 3) := by decide +kernel
theorem dX5_sumOf_27 : decode cX5_sumOf 27 = .ok (.goto (-23), 3) := by decide +kernel
theorem dX5_sumOf_30 : decode cX5_sumOf 30 = .ok (.iload_n 2, 1) := by decide +kernel
theorem dX5_sumOf_31 : decode cX5_sumOf 31 = .ok (.ireturn, 1) := by decide +kernel
theorem dX5_agreeing_0 : decode cX5_agreeing 0 = .ok (.aload_n 0, 1) := by decide +kernel
theorem dX5_agreeing_1 : decode cX5_agreeing 1 = .ok (.iconst 0, 1) := by decide +kernel
theorem dX5_agreeing_2 : decode cX5_agreeing 2 = .ok (.invokevirtual 166, 3) := by decide +kernel
theorem dX5_agreeing_5 : decode cX5_agreeing 5 = .ok (.invokestatic 153, 3) := by decide +kernel
theorem dX5_agreeing_8 : decode cX5_agreeing 8 = .ok (.iconst 2, 1) := by decide +kernel
theorem dX5_agreeing_9 : decode cX5_agreeing 9 = .ok (.aload_n 0, 1) := by decide +kernel
theorem dX5_agreeing_10 : decode cX5_agreeing 10 = .ok (.iconst 1, 1) := by decide +kernel
theorem dX5_agreeing_11 : decode cX5_agreeing 11 = .ok (.invokevirtual 166, 3) := by decide +kernel
theorem dX5_agreeing_14 : decode cX5_agreeing 14 = .ok (.invokestatic 153, 3) := by decide +kernel
theorem dX5_agreeing_17 : decode cX5_agreeing 17 = .ok (.imul, 1) := by decide +kernel
theorem dX5_agreeing_18 : decode cX5_agreeing 18 = .ok (.iadd, 1) := by decide +kernel
theorem dX5_agreeing_19 : decode cX5_agreeing 19 = .ok (.ireturn, 1) := by decide +kernel
theorem dX5_votingNow_0 : decode cX5_votingNow 0 = .ok (.iconst 0, 1) := by decide +kernel
theorem dX5_votingNow_1 : decode cX5_votingNow 1 = .ok (.istore_n 1, 1) := by decide +kernel
theorem dX5_votingNow_2 : decode cX5_votingNow 2 = .ok (.iconst 0, 1) := by decide +kernel
theorem dX5_votingNow_3 : decode cX5_votingNow 3 = .ok (.istore_n 2, 1) := by decide +kernel
theorem dX5_votingNow_4 : decode cX5_votingNow 4 = .ok (.iload_n 2, 1) := by decide +kernel
theorem dX5_votingNow_5 : decode cX5_votingNow 5 = .ok (.aload_n 0, 1) := by decide +kernel
theorem dX5_votingNow_6 : decode cX5_votingNow 6 = .ok (.getfield 13, 3) := by decide +kernel
theorem dX5_votingNow_9 : decode cX5_votingNow 9 = .ok (.bipush 24, 2) := by decide +kernel
theorem dX5_votingNow_11 : decode cX5_votingNow 11 = .ok (.iaload, 1) := by decide +kernel
theorem dX5_votingNow_12 : decode cX5_votingNow 12 = .ok (.if_icmp .ge 22, 3) := by decide +kernel
theorem dX5_votingNow_15 : decode cX5_votingNow 15 = .ok (.iload_n 1, 1) := by decide +kernel
theorem dX5_votingNow_16 : decode cX5_votingNow 16 = .ok (.aload_n 0, 1) := by decide +kernel
theorem dX5_votingNow_17 : decode cX5_votingNow 17 = .ok (.iload_n 2, 1) := by decide +kernel
theorem dX5_votingNow_18 : decode cX5_votingNow 18 = .ok (.invokevirtual 149, 3) := by decide +kernel
theorem dX5_votingNow_21 : decode cX5_votingNow 21 = .ok (.invokestatic 153, 3) := by decide +kernel
theorem dX5_votingNow_24 : decode cX5_votingNow 24 = .ok (.iload_n 2, 1) := by decide +kernel
theorem dX5_votingNow_25 : decode cX5_votingNow 25 = .ok (.ishl, 1) := by decide +kernel
theorem dX5_votingNow_26 : decode cX5_votingNow 26 = .ok (.ior, 1) := by decide +kernel
theorem dX5_votingNow_27 : decode cX5_votingNow 27 = .ok (.istore_n 1, 1) := by decide +kernel
theorem dX5_votingNow_28 : decode cX5_votingNow 28 = .ok (.iinc 2 1, 3) := by decide +kernel
theorem dX5_votingNow_31 : decode cX5_votingNow 31 = .ok (.goto (-27), 3) := by decide +kernel
theorem dX5_votingNow_34 : decode cX5_votingNow 34 = .ok (.iload_n 1, 1) := by decide +kernel
theorem dX5_votingNow_35 : decode cX5_votingNow 35 = .ok (.ireturn, 1) := by decide +kernel
theorem dX5_rule_0 : decode cX5_rule 0 = .ok (.aload_n 0, 1) := by decide +kernel
theorem dX5_rule_1 : decode cX5_rule 1 = .ok (.invokevirtual 196, 3) := by decide +kernel
theorem dX5_rule_4 : decode cX5_rule 4 = .ok (.iload_n 1, 1) := by decide +kernel
theorem dX5_rule_5 : decode cX5_rule 5 = .ok (.tableswitch 93 0 6 #[43, 51, 59, 67, 75, 80, 85], 43) := by decide +kernel
theorem dX5_rule_48 : decode cX5_rule 48 = .ok (.aload_n 0, 1) := by decide +kernel
theorem dX5_rule_49 : decode cX5_rule 49 = .ok (.getfield 7, 3) := by decide +kernel
theorem dX5_rule_52 : decode cX5_rule 52 = .ok (.bipush 24, 2) := by decide +kernel
theorem dX5_rule_54 : decode cX5_rule 54 = .ok (.iaload, 1) := by decide +kernel
theorem dX5_rule_55 : decode cX5_rule 55 = .ok (.ireturn, 1) := by decide +kernel
theorem dX5_rule_56 : decode cX5_rule 56 = .ok (.aload_n 0, 1) := by decide +kernel
theorem dX5_rule_57 : decode cX5_rule 57 = .ok (.getfield 7, 3) := by decide +kernel
theorem dX5_rule_60 : decode cX5_rule 60 = .ok (.bipush 26, 2) := by decide +kernel
theorem dX5_rule_62 : decode cX5_rule 62 = .ok (.iaload, 1) := by decide +kernel
theorem dX5_rule_63 : decode cX5_rule 63 = .ok (.ireturn, 1) := by decide +kernel
theorem dX5_rule_64 : decode cX5_rule 64 = .ok (.aload_n 0, 1) := by decide +kernel
theorem dX5_rule_65 : decode cX5_rule 65 = .ok (.getfield 7, 3) := by decide +kernel
theorem dX5_rule_68 : decode cX5_rule 68 = .ok (.bipush 25, 2) := by decide +kernel
theorem dX5_rule_70 : decode cX5_rule 70 = .ok (.iaload, 1) := by decide +kernel
theorem dX5_rule_71 : decode cX5_rule 71 = .ok (.ireturn, 1) := by decide +kernel
theorem dX5_rule_72 : decode cX5_rule 72 = .ok (.aload_n 0, 1) := by decide +kernel
theorem dX5_rule_73 : decode cX5_rule 73 = .ok (.invokevirtual 185, 3) := by decide +kernel
theorem dX5_rule_76 : decode cX5_rule 76 = .ok (.invokestatic 153, 3) := by decide +kernel
theorem dX5_rule_79 : decode cX5_rule 79 = .ok (.ireturn, 1) := by decide +kernel
theorem dX5_rule_80 : decode cX5_rule 80 = .ok (.aload_n 0, 1) := by decide +kernel
theorem dX5_rule_81 : decode cX5_rule 81 = .ok (.invokevirtual 199, 3) := by decide +kernel
theorem dX5_rule_84 : decode cX5_rule 84 = .ok (.ireturn, 1) := by decide +kernel
theorem dX5_rule_85 : decode cX5_rule 85 = .ok (.aload_n 0, 1) := by decide +kernel
theorem dX5_rule_86 : decode cX5_rule 86 = .ok (.invokevirtual 202, 3) := by decide +kernel
theorem dX5_rule_89 : decode cX5_rule 89 = .ok (.ireturn, 1) := by decide +kernel
theorem dX5_rule_90 : decode cX5_rule 90 = .ok (.aload_n 0, 1) := by decide +kernel
theorem dX5_rule_91 : decode cX5_rule 91 = .ok (.getfield 7, 3) := by decide +kernel
theorem dX5_rule_94 : decode cX5_rule 94 = .ok (.bipush 27, 2) := by decide +kernel
theorem dX5_rule_96 : decode cX5_rule 96 = .ok (.iaload, 1) := by decide +kernel
theorem dX5_rule_97 : decode cX5_rule 97 = .ok (.ireturn, 1) := by decide +kernel
theorem dX5_rule_98 : decode cX5_rule 98 = .ok (.iconst (-1), 1) := by decide +kernel
theorem dX5_rule_99 : decode cX5_rule 99 = .ok (.ireturn, 1) := by decide +kernel
theorem dX5_member_0 : decode cX5_member 0 = .ok (.aload_n 0, 1) := by decide +kernel
theorem dX5_member_1 : decode cX5_member 1 = .ok (.iload_n 1, 1) := by decide +kernel
theorem dX5_member_2 : decode cX5_member 2 = .ok (.invokevirtual 205, 3) := by decide +kernel
theorem dX5_member_5 : decode cX5_member 5 = .ok (.ifCond .eq 15, 3) := by decide +kernel
theorem dX5_member_8 : decode cX5_member 8 = .ok (.iload_n 2, 1) := by decide +kernel
theorem dX5_member_9 : decode cX5_member 9 = .ok (.i2l, 1) := by decide +kernel
theorem dX5_member_10 : decode cX5_member 10 = .ok (.lconst 0, 1) := by decide +kernel
theorem dX5_member_11 : decode cX5_member 11 = .ok (.ldc2_w 208, 3) := by decide +kernel
theorem dX5_member_14 : decode cX5_member 14 = .ok (.invokestatic 56, 3) := by decide +kernel
theorem dX5_member_17 : decode cX5_member 17 = .ok (.ifCond .ne 5, 3) := by decide +kernel
theorem dX5_member_20 : decode cX5_member 20 = .ok (.iconst (-1), 1) := by decide +kernel
theorem dX5_member_21 : decode cX5_member 21 = .ok (.ireturn, 1) := by decide +kernel
theorem dX5_member_22 : decode cX5_member 22 = .ok (.aload_n 0, 1) := by decide +kernel
theorem dX5_member_23 : decode cX5_member 23 = .ok (.invokevirtual 196, 3) := by decide +kernel
theorem dX5_member_26 : decode cX5_member 26 = .ok (.iload_n 2, 1) := by decide +kernel
theorem dX5_member_27 : decode cX5_member 27 = .ok (.iconst 4, 1) := by decide +kernel
theorem dX5_member_28 : decode cX5_member 28 = .ok (.if_icmp .ge 12, 3) := by decide +kernel
theorem dX5_member_31 : decode cX5_member 31 = .ok (.aload_n 0, 1) := by decide +kernel
theorem dX5_member_32 : decode cX5_member 32 = .ok (.iload_n 1, 1) := by decide +kernel
theorem dX5_member_33 : decode cX5_member 33 = .ok (.iload_n 2, 1) := by decide +kernel
theorem dX5_member_34 : decode cX5_member 34 = .ok (.invokevirtual 131, 3) := by decide +kernel
theorem dX5_member_37 : decode cX5_member 37 = .ok (.goto 26, 3) := by decide +kernel
theorem dX5_member_40 : decode cX5_member 40 = .ok (.iload_n 2, 1) := by decide +kernel
theorem dX5_member_41 : decode cX5_member 41 = .ok (.iconst 4, 1) := by decide +kernel
theorem dX5_member_42 : decode cX5_member 42 = .ok (.if_icmp .ne 14, 3) := by decide +kernel
theorem dX5_member_45 : decode cX5_member 45 = .ok (.aload_n 0, 1) := by decide +kernel
theorem dX5_member_46 : decode cX5_member 46 = .ok (.iload_n 1, 1) := by decide +kernel
theorem dX5_member_47 : decode cX5_member 47 = .ok (.invokevirtual 149, 3) := by decide +kernel
theorem dX5_member_50 : decode cX5_member 50 = .ok (.invokestatic 153, 3) := by decide +kernel
theorem dX5_member_53 : decode cX5_member 53 = .ok (.goto 10, 3) := by decide +kernel
theorem dX5_member_56 : decode cX5_member 56 = .ok (.iconst 2, 1) := by decide +kernel
theorem dX5_member_57 : decode cX5_member 57 = .ok (.aload_n 0, 1) := by decide +kernel
theorem dX5_member_58 : decode cX5_member 58 = .ok (.iload_n 1, 1) := by decide +kernel
theorem dX5_member_59 : decode cX5_member 59 = .ok (.invokevirtual 157, 3) := by decide +kernel
theorem dX5_member_62 : decode cX5_member 62 = .ok (.iadd, 1) := by decide +kernel
theorem dX5_member_63 : decode cX5_member 63 = .ok (.ireturn, 1) := by decide +kernel
theorem dX5_house_0 : decode cX5_house 0 = .ok (.iload_n 1, 1) := by decide +kernel
theorem dX5_house_1 : decode cX5_house 1 = .ok (.i2l, 1) := by decide +kernel
theorem dX5_house_2 : decode cX5_house 2 = .ok (.lconst 0, 1) := by decide +kernel
theorem dX5_house_3 : decode cX5_house 3 = .ok (.lconst 1, 1) := by decide +kernel
theorem dX5_house_4 : decode cX5_house 4 = .ok (.invokestatic 56, 3) := by decide +kernel
theorem dX5_house_7 : decode cX5_house 7 = .ok (.ifCond .ne 5, 3) := by decide +kernel
theorem dX5_house_10 : decode cX5_house 10 = .ok (.iconst (-1), 1) := by decide +kernel
theorem dX5_house_11 : decode cX5_house 11 = .ok (.ireturn, 1) := by decide +kernel
theorem dX5_house_12 : decode cX5_house 12 = .ok (.aload_n 0, 1) := by decide +kernel
theorem dX5_house_13 : decode cX5_house 13 = .ok (.invokevirtual 196, 3) := by decide +kernel
theorem dX5_house_16 : decode cX5_house 16 = .ok (.iconst 0, 1) := by decide +kernel
theorem dX5_house_17 : decode cX5_house 17 = .ok (.istore_n 3, 1) := by decide +kernel
theorem dX5_house_18 : decode cX5_house 18 = .ok (.iconst 0, 1) := by decide +kernel
theorem dX5_house_19 : decode cX5_house 19 = .ok (.istore 4, 2) := by decide +kernel
theorem dX5_house_21 : decode cX5_house 21 = .ok (.iload 4, 2) := by decide +kernel
theorem dX5_house_23 : decode cX5_house 23 = .ok (.aload_n 0, 1) := by decide +kernel
theorem dX5_house_24 : decode cX5_house 24 = .ok (.getfield 7, 3) := by decide +kernel
theorem dX5_house_27 : decode cX5_house 27 = .ok (.bipush 24, 2) := by decide +kernel
theorem dX5_house_29 : decode cX5_house 29 = .ok (.iaload, 1) := by decide +kernel
theorem dX5_house_30 : decode cX5_house 30 = .ok (.if_icmp .ge 25, 3) := by decide +kernel
theorem dX5_house_33 : decode cX5_house 33 = .ok (.iload_n 3, 1) := by decide +kernel
theorem dX5_house_34 : decode cX5_house 34 = .ok (.aload_n 0, 1) := by decide +kernel
theorem dX5_house_35 : decode cX5_house 35 = .ok (.iload 4, 2) := by decide +kernel
theorem dX5_house_37 : decode cX5_house 37 = .ok (.iload_n 1, 1) := by decide +kernel
theorem dX5_house_38 : decode cX5_house 38 = .ok (.invokevirtual 145, 3) := by decide +kernel
theorem dX5_house_41 : decode cX5_house 41 = .ok (.invokestatic 153, 3) := by decide +kernel
theorem dX5_house_44 : decode cX5_house 44 = .ok (.iload 4, 2) := by decide +kernel
theorem dX5_house_46 : decode cX5_house 46 = .ok (.ishl, 1) := by decide +kernel
theorem dX5_house_47 : decode cX5_house 47 = .ok (.ior, 1) := by decide +kernel
theorem dX5_house_48 : decode cX5_house 48 = .ok (.istore_n 3, 1) := by decide +kernel
theorem dX5_house_49 : decode cX5_house 49 = .ok (.iinc 4 1, 3) := by decide +kernel
theorem dX5_house_52 : decode cX5_house 52 = .ok (.goto (-31), 3) := by decide +kernel
theorem dX5_house_55 : decode cX5_house 55 = .ok (.iload_n 2, 1) := by decide +kernel
theorem dX5_house_56 : decode cX5_house 56 = .ok (.tableswitch 55 0 3 #[32, 34, 40, 46], 32) := by decide +kernel
theorem dX5_house_88 : decode cX5_house 88 = .ok (.iload_n 3, 1) := by decide +kernel
theorem dX5_house_89 : decode cX5_house 89 = .ok (.ireturn, 1) := by decide +kernel
theorem dX5_house_90 : decode cX5_house 90 = .ok (.aload_n 0, 1) := by decide +kernel
theorem dX5_house_91 : decode cX5_house 91 = .ok (.iload_n 1, 1) := by decide +kernel
theorem dX5_house_92 : decode cX5_house 92 = .ok (.invokevirtual 160, 3) := by decide +kernel
theorem dX5_house_95 : decode cX5_house 95 = .ok (.ireturn, 1) := by decide +kernel
theorem dX5_house_96 : decode cX5_house 96 = .ok (.aload_n 0, 1) := by decide +kernel
theorem dX5_house_97 : decode cX5_house 97 = .ok (.iload_n 1, 1) := by decide +kernel
theorem dX5_house_98 : decode cX5_house 98 = .ok (.invokevirtual 163, 3) := by decide +kernel
theorem dX5_house_101 : decode cX5_house 101 = .ok (.ireturn, 1) := by decide +kernel
theorem dX5_house_102 : decode cX5_house 102 = .ok (.bipush 20, 2) := by decide +kernel
theorem dX5_house_104 : decode cX5_house 104 = .ok (.aload_n 0, 1) := by decide +kernel
theorem dX5_house_105 : decode cX5_house 105 = .ok (.iload_n 1, 1) := by decide +kernel
theorem dX5_house_106 : decode cX5_house 106 = .ok (.invokevirtual 169, 3) := by decide +kernel
theorem dX5_house_109 : decode cX5_house 109 = .ok (.iadd, 1) := by decide +kernel
theorem dX5_house_110 : decode cX5_house 110 = .ok (.ireturn, 1) := by decide +kernel
theorem dX5_house_111 : decode cX5_house 111 = .ok (.iconst (-1), 1) := by decide +kernel
theorem dX5_house_112 : decode cX5_house 112 = .ok (.ireturn, 1) := by decide +kernel
theorem dX5_becomes_0 : decode cX5_becomes 0 = .ok (.aload_n 0, 1) := by decide +kernel
theorem dX5_becomes_1 : decode cX5_becomes 1 = .ok (.getfield 7, 3) := by decide +kernel
theorem dX5_becomes_4 : decode cX5_becomes 4 = .ok (.iload_n 1, 1) := by decide +kernel
theorem dX5_becomes_5 : decode cX5_becomes 5 = .ok (.iaload, 1) := by decide +kernel
theorem dX5_becomes_6 : decode cX5_becomes 6 = .ok (.istore_n 3, 1) := by decide +kernel
theorem dX5_becomes_7 : decode cX5_becomes 7 = .ok (.aload_n 0, 1) := by decide +kernel
theorem dX5_becomes_8 : decode cX5_becomes 8 = .ok (.getfield 7, 3) := by decide +kernel
theorem dX5_becomes_11 : decode cX5_becomes 11 = .ok (.iload_n 1, 1) := by decide +kernel
theorem dX5_becomes_12 : decode cX5_becomes 12 = .ok (.iload_n 2, 1) := by decide +kernel
theorem dX5_becomes_13 : decode cX5_becomes 13 = .ok (.iastore, 1) := by decide +kernel
theorem dX5_becomes_14 : decode cX5_becomes 14 = .ok (.iload_n 3, 1) := by decide +kernel
theorem dX5_becomes_15 : decode cX5_becomes 15 = .ok (.ireturn, 1) := by decide +kernel
theorem dX5_alter_0 : decode cX5_alter 0 = .ok (.iload_n 2, 1) := by decide +kernel
theorem dX5_alter_1 : decode cX5_alter 1 = .ok (.ifCond .ne 7, 3) := by decide +kernel
theorem dX5_alter_4 : decode cX5_alter 4 = .ok (.iconst 3, 1) := by decide +kernel
theorem dX5_alter_5 : decode cX5_alter 5 = .ok (.goto 14, 3) := by decide +kernel
theorem dX5_alter_8 : decode cX5_alter 8 = .ok (.iload_n 2, 1) := by decide +kernel
theorem dX5_alter_9 : decode cX5_alter 9 = .ok (.iconst 1, 1) := by decide +kernel
theorem dX5_alter_10 : decode cX5_alter 10 = .ok (.if_icmp .ne 7, 3) := by decide +kernel
theorem dX5_alter_13 : decode cX5_alter 13 = .ok (.iconst 1, 1) := by decide +kernel
theorem dX5_alter_14 : decode cX5_alter 14 = .ok (.goto 5, 3) := by decide +kernel
theorem dX5_alter_17 : decode cX5_alter 17 = .ok (.bipush 20, 2) := by decide +kernel
theorem dX5_alter_19 : decode cX5_alter 19 = .ok (.istore 4, 2) := by decide +kernel
theorem dX5_alter_21 : decode cX5_alter 21 = .ok (.aload_n 0, 1) := by decide +kernel
theorem dX5_alter_22 : decode cX5_alter 22 = .ok (.iload_n 1, 1) := by decide +kernel
theorem dX5_alter_23 : decode cX5_alter 23 = .ok (.invokevirtual 205, 3) := by decide +kernel
theorem dX5_alter_26 : decode cX5_alter 26 = .ok (.ifCond .eq 40, 3) := by decide +kernel
theorem dX5_alter_29 : decode cX5_alter 29 = .ok (.iload_n 2, 1) := by decide +kernel
theorem dX5_alter_30 : decode cX5_alter 30 = .ok (.i2l, 1) := by decide +kernel
theorem dX5_alter_31 : decode cX5_alter 31 = .ok (.lconst 0, 1) := by decide +kernel
theorem dX5_alter_32 : decode cX5_alter 32 = .ok (.ldc2_w 210, 3) := by decide +kernel
theorem dX5_alter_35 : decode cX5_alter 35 = .ok (.invokestatic 56, 3) := by decide +kernel
theorem dX5_alter_38 : decode cX5_alter 38 = .ok (.ifCond .eq 28, 3) := by decide +kernel
theorem dX5_alter_41 : decode cX5_alter 41 = .ok (.iload_n 3, 1) := by decide +kernel
theorem dX5_alter_42 : decode cX5_alter 42 = .ok (.i2l, 1) := by decide +kernel
theorem dX5_alter_43 : decode cX5_alter 43 = .ok (.lconst 0, 1) := by decide +kernel
theorem dX5_alter_44 : decode cX5_alter 44 = .ok (.iload 4, 2) := by decide +kernel
theorem dX5_alter_46 : decode cX5_alter 46 = .ok (.i2l, 1) := by decide +kernel
theorem dX5_alter_47 : decode cX5_alter 47 = .ok (.invokestatic 56, 3) := by decide +kernel
theorem dX5_alter_50 : decode cX5_alter 50 = .ok (.ifCond .eq 16, 3) := by decide +kernel
theorem dX5_alter_53 : decode cX5_alter 53 = .ok (.aload_n 0, 1) := by decide +kernel
theorem dX5_alter_54 : decode cX5_alter 54 = .ok (.iconst 4, 1) := by decide +kernel
theorem dX5_alter_55 : decode cX5_alter 55 = .ok (.iload_n 1, 1) := by decide +kernel
theorem dX5_alter_56 : decode cX5_alter 56 = .ok (.imul, 1) := by decide +kernel
theorem dX5_alter_57 : decode cX5_alter 57 = .ok (.iload_n 2, 1) := by decide +kernel
theorem dX5_alter_58 : decode cX5_alter 58 = .ok (.iadd, 1) := by decide +kernel
theorem dX5_alter_59 : decode cX5_alter 59 = .ok (.iload_n 3, 1) := by decide +kernel
theorem dX5_alter_60 : decode cX5_alter 60 = .ok (.invokevirtual 212, 3) := by decide +kernel
theorem dX5_alter_63 : decode cX5_alter 63 = .ok (.goto 4, 3) := by decide +kernel
theorem dX5_alter_66 : decode cX5_alter 66 = .ok (.iconst (-1), 1) := by decide +kernel
theorem dX5_alter_67 : decode cX5_alter 67 = .ok (.ireturn, 1) := by decide +kernel
theorem dX5_word_0 : decode cX5_word 0 = .ok (.iload_n 1, 1) := by decide +kernel
theorem dX5_word_1 : decode cX5_word 1 = .ok (.invokestatic 182, 3) := by decide +kernel
theorem dX5_word_4 : decode cX5_word 4 = .ok (.ifCond .eq 13, 3) := by decide +kernel
theorem dX5_word_7 : decode cX5_word 7 = .ok (.aload_n 0, 1) := by decide +kernel
theorem dX5_word_8 : decode cX5_word 8 = .ok (.bipush 25, 2) := by decide +kernel
theorem dX5_word_10 : decode cX5_word 10 = .ok (.iload_n 1, 1) := by decide +kernel
theorem dX5_word_11 : decode cX5_word 11 = .ok (.invokevirtual 212, 3) := by decide +kernel
theorem dX5_word_14 : decode cX5_word 14 = .ok (.goto 4, 3) := by decide +kernel
theorem dX5_word_17 : decode cX5_word 17 = .ok (.iconst (-1), 1) := by decide +kernel
theorem dX5_word_18 : decode cX5_word 18 = .ok (.ireturn, 1) := by decide +kernel
theorem dX5_seat_0 : decode cX5_seat 0 = .ok (.iload_n 1, 1) := by decide +kernel
theorem dX5_seat_1 : decode cX5_seat 1 = .ok (.i2l, 1) := by decide +kernel
theorem dX5_seat_2 : decode cX5_seat 2 = .ok (.lconst 0, 1) := by decide +kernel
theorem dX5_seat_3 : decode cX5_seat 3 = .ok (.lconst 1, 1) := by decide +kernel
theorem dX5_seat_4 : decode cX5_seat 4 = .ok (.invokestatic 56, 3) := by decide +kernel
theorem dX5_seat_7 : decode cX5_seat 7 = .ok (.ifCond .eq 10, 3) := by decide +kernel
theorem dX5_seat_10 : decode cX5_seat 10 = .ok (.iload_n 2, 1) := by decide +kernel
theorem dX5_seat_11 : decode cX5_seat 11 = .ok (.invokestatic 182, 3) := by decide +kernel
theorem dX5_seat_14 : decode cX5_seat 14 = .ok (.ifCond .ne 5, 3) := by decide +kernel
theorem dX5_seat_17 : decode cX5_seat 17 = .ok (.iconst (-1), 1) := by decide +kernel
theorem dX5_seat_18 : decode cX5_seat 18 = .ok (.ireturn, 1) := by decide +kernel
theorem dX5_seat_19 : decode cX5_seat 19 = .ok (.aload_n 0, 1) := by decide +kernel
theorem dX5_seat_20 : decode cX5_seat 20 = .ok (.getfield 7, 3) := by decide +kernel
theorem dX5_seat_23 : decode cX5_seat 23 = .ok (.bipush 24, 2) := by decide +kernel
theorem dX5_seat_25 : decode cX5_seat 25 = .ok (.iaload, 1) := by decide +kernel
theorem dX5_seat_26 : decode cX5_seat 26 = .ok (.bipush 6, 2) := by decide +kernel
theorem dX5_seat_28 : decode cX5_seat 28 = .ok (.if_icmp .ne 6, 3) := by decide +kernel
theorem dX5_seat_31 : decode cX5_seat 31 = .ok (.bipush (-3), 2) := by decide +kernel
theorem dX5_seat_33 : decode cX5_seat 33 = .ok (.ireturn, 1) := by decide +kernel
theorem dX5_seat_34 : decode cX5_seat 34 = .ok (.iconst 4, 1) := by decide +kernel
theorem dX5_seat_35 : decode cX5_seat 35 = .ok (.aload_n 0, 1) := by decide +kernel
theorem dX5_seat_36 : decode cX5_seat 36 = .ok (.getfield 7, 3) := by decide +kernel
theorem dX5_seat_39 : decode cX5_seat 39 = .ok (.bipush 24, 2) := by decide +kernel
theorem dX5_seat_41 : decode cX5_seat 41 = .ok (.iaload, 1) := by decide +kernel
theorem dX5_seat_42 : decode cX5_seat 42 = .ok (.imul, 1) := by decide +kernel
theorem dX5_seat_43 : decode cX5_seat 43 = .ok (.istore_n 3, 1) := by decide +kernel
theorem dX5_seat_44 : decode cX5_seat 44 = .ok (.aload_n 0, 1) := by decide +kernel
theorem dX5_seat_45 : decode cX5_seat 45 = .ok (.getfield 7, 3) := by decide +kernel
theorem dX5_seat_48 : decode cX5_seat 48 = .ok (.iload_n 3, 1) := by decide +kernel
theorem dX5_seat_49 : decode cX5_seat 49 = .ok (.iconst 0, 1) := by decide +kernel
theorem dX5_seat_50 : decode cX5_seat 50 = .ok (.iadd, 1) := by decide +kernel
theorem dX5_seat_51 : decode cX5_seat 51 = .ok (.iconst 0, 1) := by decide +kernel
theorem dX5_seat_52 : decode cX5_seat 52 = .ok (.iastore, 1) := by decide +kernel
theorem dX5_seat_53 : decode cX5_seat 53 = .ok (.aload_n 0, 1) := by decide +kernel
theorem dX5_seat_54 : decode cX5_seat 54 = .ok (.getfield 7, 3) := by decide +kernel
theorem dX5_seat_57 : decode cX5_seat 57 = .ok (.iload_n 3, 1) := by decide +kernel
theorem dX5_seat_58 : decode cX5_seat 58 = .ok (.iconst 1, 1) := by decide +kernel
theorem dX5_seat_59 : decode cX5_seat 59 = .ok (.iadd, 1) := by decide +kernel
theorem dX5_seat_60 : decode cX5_seat 60 = .ok (.iload_n 1, 1) := by decide +kernel
theorem dX5_seat_61 : decode cX5_seat 61 = .ok (.iastore, 1) := by decide +kernel
theorem dX5_seat_62 : decode cX5_seat 62 = .ok (.aload_n 0, 1) := by decide +kernel
theorem dX5_seat_63 : decode cX5_seat 63 = .ok (.getfield 7, 3) := by decide +kernel
theorem dX5_seat_66 : decode cX5_seat 66 = .ok (.iload_n 3, 1) := by decide +kernel
theorem dX5_seat_67 : decode cX5_seat 67 = .ok (.iconst 2, 1) := by decide +kernel
theorem dX5_seat_68 : decode cX5_seat 68 = .ok (.iadd, 1) := by decide +kernel
theorem dX5_seat_69 : decode cX5_seat 69 = .ok (.iload_n 2, 1) := by decide +kernel
theorem dX5_seat_70 : decode cX5_seat 70 = .ok (.iastore, 1) := by decide +kernel
theorem dX5_seat_71 : decode cX5_seat 71 = .ok (.aload_n 0, 1) := by decide +kernel
theorem dX5_seat_72 : decode cX5_seat 72 = .ok (.getfield 7, 3) := by decide +kernel
theorem dX5_seat_75 : decode cX5_seat 75 = .ok (.iload_n 3, 1) := by decide +kernel
theorem dX5_seat_76 : decode cX5_seat 76 = .ok (.iconst 3, 1) := by decide +kernel
theorem dX5_seat_77 : decode cX5_seat 77 = .ok (.iadd, 1) := by decide +kernel
theorem dX5_seat_78 : decode cX5_seat 78 = .ok (.iconst 0, 1) := by decide +kernel
theorem dX5_seat_79 : decode cX5_seat 79 = .ok (.iastore, 1) := by decide +kernel
theorem dX5_seat_80 : decode cX5_seat 80 = .ok (.aload_n 0, 1) := by decide +kernel
theorem dX5_seat_81 : decode cX5_seat 81 = .ok (.getfield 7, 3) := by decide +kernel
theorem dX5_seat_84 : decode cX5_seat 84 = .ok (.bipush 24, 2) := by decide +kernel
theorem dX5_seat_86 : decode cX5_seat 86 = .ok (.dup2, 1) := by decide +kernel
theorem dX5_seat_87 : decode cX5_seat 87 = .ok (.iaload, 1) := by decide +kernel
theorem dX5_seat_88 : decode cX5_seat 88 = .ok (.iconst 1, 1) := by decide +kernel
theorem dX5_seat_89 : decode cX5_seat 89 = .ok (.iadd, 1) := by decide +kernel
theorem dX5_seat_90 : decode cX5_seat 90 = .ok (.iastore, 1) := by decide +kernel
theorem dX5_seat_91 : decode cX5_seat 91 = .ok (.aload_n 0, 1) := by decide +kernel
theorem dX5_seat_92 : decode cX5_seat 92 = .ok (.getfield 7, 3) := by decide +kernel
theorem dX5_seat_95 : decode cX5_seat 95 = .ok (.bipush 24, 2) := by decide +kernel
theorem dX5_seat_97 : decode cX5_seat 97 = .ok (.iaload, 1) := by decide +kernel
theorem dX5_seat_98 : decode cX5_seat 98 = .ok (.ireturn, 1) := by decide +kernel
theorem dX5_clear_0 : decode cX5_clear 0 = .ok (.iload_n 1, 1) := by decide +kernel
theorem dX5_clear_1 : decode cX5_clear 1 = .ok (.i2l, 1) := by decide +kernel
theorem dX5_clear_2 : decode cX5_clear 2 = .ok (.lconst 0, 1) := by decide +kernel
theorem dX5_clear_3 : decode cX5_clear 3 = .ok (.aload_n 0, 1) := by decide +kernel
theorem dX5_clear_4 : decode cX5_clear 4 = .ok (.getfield 7, 3) := by decide +kernel
theorem dX5_clear_7 : decode cX5_clear 7 = .ok (.bipush 24, 2) := by decide +kernel
theorem dX5_clear_9 : decode cX5_clear 9 = .ok (.iaload, 1) := by decide +kernel
theorem dX5_clear_10 : decode cX5_clear 10 = .ok (.i2l, 1) := by decide +kernel
theorem dX5_clear_11 : decode cX5_clear 11 = .ok (.invokestatic 56, 3) := by decide +kernel
theorem dX5_clear_14 : decode cX5_clear 14 = .ok (.ifCond .eq 13, 3) := by decide +kernel
theorem dX5_clear_17 : decode cX5_clear 17 = .ok (.aload_n 0, 1) := by decide +kernel
theorem dX5_clear_18 : decode cX5_clear 18 = .ok (.bipush 24, 2) := by decide +kernel
theorem dX5_clear_20 : decode cX5_clear 20 = .ok (.iload_n 1, 1) := by decide +kernel
theorem dX5_clear_21 : decode cX5_clear 21 = .ok (.invokevirtual 212, 3) := by decide +kernel
theorem dX5_clear_24 : decode cX5_clear 24 = .ok (.goto 4, 3) := by decide +kernel
theorem dX5_clear_27 : decode cX5_clear 27 = .ok (.iconst (-1), 1) := by decide +kernel
theorem dX5_clear_28 : decode cX5_clear 28 = .ok (.ireturn, 1) := by decide +kernel
theorem dX5_days_0 : decode cX5_days 0 = .ok (.iload_n 1, 1) := by decide +kernel
theorem dX5_days_1 : decode cX5_days 1 = .ok (.i2l, 1) := by decide +kernel
theorem dX5_days_2 : decode cX5_days 2 = .ok (.lconst 0, 1) := by decide +kernel
theorem dX5_days_3 : decode cX5_days 3 = .ok (.ldc2_w 215, 3) := by decide +kernel
theorem dX5_days_6 : decode cX5_days 6 = .ok (.invokestatic 56, 3) := by decide +kernel
theorem dX5_days_9 : decode cX5_days 9 = .ok (.ifCond .ne 5, 3) := by decide +kernel
theorem dX5_days_12 : decode cX5_days 12 = .ok (.iconst (-1), 1) := by decide +kernel
theorem dX5_days_13 : decode cX5_days 13 = .ok (.ireturn, 1) := by decide +kernel
theorem dX5_days_14 : decode cX5_days 14 = .ok (.aload_n 0, 1) := by decide +kernel
theorem dX5_days_15 : decode cX5_days 15 = .ok (.getfield 7, 3) := by decide +kernel
theorem dX5_days_18 : decode cX5_days 18 = .ok (.bipush 26, 2) := by decide +kernel
theorem dX5_days_20 : decode cX5_days 20 = .ok (.iaload, 1) := by decide +kernel
theorem dX5_days_21 : decode cX5_days 21 = .ok (.iload_n 1, 1) := by decide +kernel
theorem dX5_days_22 : decode cX5_days 22 = .ok (.iadd, 1) := by decide +kernel
theorem dX5_days_23 : decode cX5_days 23 = .ok (.sipush 999, 3) := by decide +kernel
theorem dX5_days_26 : decode cX5_days 26 = .ok (.if_icmp .le 6, 3) := by decide +kernel
theorem dX5_days_29 : decode cX5_days 29 = .ok (.bipush (-3), 2) := by decide +kernel
theorem dX5_days_31 : decode cX5_days 31 = .ok (.ireturn, 1) := by decide +kernel
theorem dX5_days_32 : decode cX5_days 32 = .ok (.aload_n 0, 1) := by decide +kernel
theorem dX5_days_33 : decode cX5_days 33 = .ok (.invokevirtual 196, 3) := by decide +kernel
theorem dX5_days_36 : decode cX5_days 36 = .ok (.aload_n 0, 1) := by decide +kernel
theorem dX5_days_37 : decode cX5_days 37 = .ok (.iload_n 1, 1) := by decide +kernel
theorem dX5_days_38 : decode cX5_days 38 = .ok (.invokevirtual 217, 3) := by decide +kernel
theorem dX5_days_41 : decode cX5_days 41 = .ok (.aload_n 0, 1) := by decide +kernel
theorem dX5_days_42 : decode cX5_days 42 = .ok (.invokevirtual 220, 3) := by decide +kernel
theorem dX5_days_45 : decode cX5_days 45 = .ok (.aload_n 0, 1) := by decide +kernel
theorem dX5_days_46 : decode cX5_days 46 = .ok (.getfield 128, 3) := by decide +kernel
theorem dX5_days_49 : decode cX5_days 49 = .ok (.ireturn, 1) := by decide +kernel
theorem dX5_isFar_0 : decode cX5_isFar 0 = .ok (.iload_n 0, 1) := by decide +kernel
theorem dX5_isFar_1 : decode cX5_isFar 1 = .ok (.i2l, 1) := by decide +kernel
theorem dX5_isFar_2 : decode cX5_isFar 2 = .ok (.lconst 0, 1) := by decide +kernel
theorem dX5_isFar_3 : decode cX5_isFar 3 = .ok (.ldc2_w 223, 3) := by decide +kernel
theorem dX5_isFar_6 : decode cX5_isFar 6 = .ok (.invokestatic 56, 3) := by decide +kernel
theorem dX5_isFar_9 : decode cX5_isFar 9 = .ok (.ireturn, 1) := by decide +kernel
theorem dX5_runs_0 : decode cX5_runs 0 = .ok (.iload_n 1, 1) := by decide +kernel
theorem dX5_runs_1 : decode cX5_runs 1 = .ok (.invokestatic 225, 3) := by decide +kernel
theorem dX5_runs_4 : decode cX5_runs 4 = .ok (.ifCond .eq 15, 3) := by decide +kernel
theorem dX5_runs_7 : decode cX5_runs 7 = .ok (.iload_n 2, 1) := by decide +kernel
theorem dX5_runs_8 : decode cX5_runs 8 = .ok (.i2l, 1) := by decide +kernel
theorem dX5_runs_9 : decode cX5_runs 9 = .ok (.lconst 0, 1) := by decide +kernel
theorem dX5_runs_10 : decode cX5_runs 10 = .ok (.ldc2_w 228, 3) := by decide +kernel
theorem dX5_runs_13 : decode cX5_runs 13 = .ok (.invokestatic 56, 3) := by decide +kernel
theorem dX5_runs_16 : decode cX5_runs 16 = .ok (.ifCond .ne 5, 3) := by decide +kernel
theorem dX5_runs_19 : decode cX5_runs 19 = .ok (.iconst (-1), 1) := by decide +kernel
theorem dX5_runs_20 : decode cX5_runs 20 = .ok (.ireturn, 1) := by decide +kernel
theorem dX5_runs_21 : decode cX5_runs 21 = .ok (.aload_n 0, 1) := by decide +kernel
theorem dX5_runs_22 : decode cX5_runs 22 = .ok (.invokevirtual 196, 3) := by decide +kernel
theorem dX5_runs_25 : decode cX5_runs 25 = .ok (.aload_n 0, 1) := by decide +kernel
theorem dX5_runs_26 : decode cX5_runs 26 = .ok (.iload_n 1, 1) := by decide +kernel
theorem dX5_runs_27 : decode cX5_runs 27 = .ok (.invokevirtual 217, 3) := by decide +kernel
theorem dX5_runs_30 : decode cX5_runs 30 = .ok (.iload_n 2, 1) := by decide +kernel
theorem dX5_runs_31 : decode cX5_runs 31 = .ok (.tableswitch 56 0 3 #[29, 37, 42, 50], 29) := by decide +kernel
theorem dX5_runs_60 : decode cX5_runs 60 = .ok (.aload_n 0, 1) := by decide +kernel
theorem dX5_runs_61 : decode cX5_runs 61 = .ok (.getfield 13, 3) := by decide +kernel
theorem dX5_runs_64 : decode cX5_runs 64 = .ok (.bipush 25, 2) := by decide +kernel
theorem dX5_runs_66 : decode cX5_runs 66 = .ok (.iaload, 1) := by decide +kernel
theorem dX5_runs_67 : decode cX5_runs 67 = .ok (.ireturn, 1) := by decide +kernel
theorem dX5_runs_68 : decode cX5_runs 68 = .ok (.aload_n 0, 1) := by decide +kernel
theorem dX5_runs_69 : decode cX5_runs 69 = .ok (.getfield 128, 3) := by decide +kernel
theorem dX5_runs_72 : decode cX5_runs 72 = .ok (.ireturn, 1) := by decide +kernel
theorem dX5_runs_73 : decode cX5_runs 73 = .ok (.aload_n 0, 1) := by decide +kernel
theorem dX5_runs_74 : decode cX5_runs 74 = .ok (.invokevirtual 185, 3) := by decide +kernel
theorem dX5_runs_77 : decode cX5_runs 77 = .ok (.invokestatic 153, 3) := by decide +kernel
theorem dX5_runs_80 : decode cX5_runs 80 = .ok (.ireturn, 1) := by decide +kernel
theorem dX5_runs_81 : decode cX5_runs 81 = .ok (.aload_n 0, 1) := by decide +kernel
theorem dX5_runs_82 : decode cX5_runs 82 = .ok (.iconst 3, 1) := by decide +kernel
theorem dX5_runs_83 : decode cX5_runs 83 = .ok (.invokevirtual 230, 3) := by decide +kernel
theorem dX5_runs_86 : decode cX5_runs 86 = .ok (.ireturn, 1) := by decide +kernel
theorem dX5_runs_87 : decode cX5_runs 87 = .ok (.aload_n 0, 1) := by decide +kernel
theorem dX5_runs_88 : decode cX5_runs 88 = .ok (.invokevirtual 199, 3) := by decide +kernel
theorem dX5_runs_91 : decode cX5_runs 91 = .ok (.ireturn, 1) := by decide +kernel
theorem dX5_ahead_0 : decode cX5_ahead 0 = .ok (.aload_n 0, 1) := by decide +kernel
theorem dX5_ahead_1 : decode cX5_ahead 1 = .ok (.iload_n 1, 1) := by decide +kernel
theorem dX5_ahead_2 : decode cX5_ahead 2 = .ok (.invokevirtual 205, 3) := by decide +kernel
theorem dX5_ahead_5 : decode cX5_ahead 5 = .ok (.ifCond .eq 10, 3) := by decide +kernel
theorem dX5_ahead_8 : decode cX5_ahead 8 = .ok (.iload_n 2, 1) := by decide +kernel
theorem dX5_ahead_9 : decode cX5_ahead 9 = .ok (.invokestatic 225, 3) := by decide +kernel
theorem dX5_ahead_12 : decode cX5_ahead 12 = .ok (.ifCond .ne 5, 3) := by decide +kernel
theorem dX5_ahead_15 : decode cX5_ahead 15 = .ok (.iconst (-1), 1) := by decide +kernel
theorem dX5_ahead_16 : decode cX5_ahead 16 = .ok (.ireturn, 1) := by decide +kernel
theorem dX5_ahead_17 : decode cX5_ahead 17 = .ok (.aload_n 0, 1) := by decide +kernel
theorem dX5_ahead_18 : decode cX5_ahead 18 = .ok (.invokevirtual 196, 3) := by decide +kernel
theorem dX5_ahead_21 : decode cX5_ahead 21 = .ok (.aload_n 0, 1) := by decide +kernel
theorem dX5_ahead_22 : decode cX5_ahead 22 = .ok (.iload_n 2, 1) := by decide +kernel
theorem dX5_ahead_23 : decode cX5_ahead 23 = .ok (.invokevirtual 217, 3) := by decide +kernel
theorem dX5_ahead_26 : decode cX5_ahead 26 = .ok (.aload_n 0, 1) := by decide +kernel
theorem dX5_ahead_27 : decode cX5_ahead 27 = .ok (.iload_n 1, 1) := by decide +kernel
theorem dX5_ahead_28 : decode cX5_ahead 28 = .ok (.iconst 3, 1) := by decide +kernel
theorem dX5_ahead_29 : decode cX5_ahead 29 = .ok (.invokevirtual 131, 3) := by decide +kernel
theorem dX5_ahead_32 : decode cX5_ahead 32 = .ok (.ireturn, 1) := by decide +kernel
theorem dX5_daysTo_0 : decode cX5_daysTo 0 = .ok (.iconst 0, 1) := by decide +kernel
theorem dX5_daysTo_1 : decode cX5_daysTo 1 = .ok (.istore_n 1, 1) := by decide +kernel
theorem dX5_daysTo_2 : decode cX5_daysTo 2 = .ok (.iload_n 1, 1) := by decide +kernel
theorem dX5_daysTo_3 : decode cX5_daysTo 3 = .ok (.bipush 60, 2) := by decide +kernel
theorem dX5_daysTo_5 : decode cX5_daysTo 5 = .ok (.if_icmp .gt 23, 3) := by decide +kernel
theorem dX5_daysTo_8 : decode cX5_daysTo 8 = .ok (.aload_n 0, 1) := by decide +kernel
theorem dX5_daysTo_9 : decode cX5_daysTo 9 = .ok (.invokevirtual 185, 3) := by decide +kernel
theorem dX5_daysTo_12 : decode cX5_daysTo 12 = .ok (.ifCond .eq 5, 3) := by decide +kernel
theorem dX5_daysTo_15 : decode cX5_daysTo 15 = .ok (.iload_n 1, 1) := by decide +kernel
theorem dX5_daysTo_16 : decode cX5_daysTo 16 = .ok (.ireturn, 1) := by decide +kernel
theorem dX5_daysTo_17 : decode cX5_daysTo 17 = .ok (.aload_n 0, 1) := by decide +kernel
theorem dX5_daysTo_18 : decode cX5_daysTo 18 = .ok (.iconst 0, 1) := by decide +kernel
theorem dX5_daysTo_19 : decode cX5_daysTo 19 = .ok (.invokevirtual 192, 3) := by decide +kernel
theorem dX5_daysTo_22 : decode cX5_daysTo 22 = .ok (.iinc 1 1, 3) := by decide +kernel
theorem dX5_daysTo_25 : decode cX5_daysTo 25 = .ok (.goto (-23), 3) := by decide +kernel
theorem dX5_daysTo_28 : decode cX5_daysTo 28 = .ok (.bipush (-4), 2) := by decide +kernel
theorem dX5_daysTo_30 : decode cX5_daysTo 30 = .ok (.ireturn, 1) := by decide +kernel
theorem dX5_carries_0 : decode cX5_carries 0 = .ok (.aload_n 0, 1) := by decide +kernel
theorem dX5_carries_1 : decode cX5_carries 1 = .ok (.invokevirtual 196, 3) := by decide +kernel
theorem dX5_carries_4 : decode cX5_carries 4 = .ok (.aload_n 0, 1) := by decide +kernel
theorem dX5_carries_5 : decode cX5_carries 5 = .ok (.invokevirtual 233, 3) := by decide +kernel
theorem dX5_carries_8 : decode cX5_carries 8 = .ok (.ireturn, 1) := by decide +kernel
theorem dX5_startsJudging_0 : decode cX5_startsJudging 0 = .ok (.aload_n 0, 1) := by decide +kernel
theorem dX5_startsJudging_1 : decode cX5_startsJudging 1 = .ok (.bipush (-4), 2) := by decide +kernel
theorem dX5_startsJudging_3 : decode cX5_startsJudging 3 = .ok (.putfield 236, 3) := by decide +kernel
theorem dX5_startsJudging_6 : decode cX5_startsJudging 6 = .ok (.aload_n 0, 1) := by decide +kernel
theorem dX5_startsJudging_7 : decode cX5_startsJudging 7 = .ok (.iload_n 1, 1) := by decide +kernel
theorem dX5_startsJudging_8 : decode cX5_startsJudging 8 = .ok (.bipush (-4), 2) := by decide +kernel
theorem dX5_startsJudging_10 : decode cX5_startsJudging 10 = .ok (.if_icmp .ne 8, 3) := by decide +kernel
theorem dX5_startsJudging_13 : decode cX5_startsJudging 13 = .ok (.ldc 239, 2) := by decide +kernel
theorem dX5_startsJudging_15 : decode cX5_startsJudging 15 = .ok (.goto 4, 3) := by decide +kernel
theorem dX5_startsJudging_18 : decode cX5_startsJudging 18 = .ok (.iload_n 1, 1) := by decide +kernel
theorem dX5_startsJudging_19 : decode cX5_startsJudging 19 = .ok (.putfield 240, 3) := by decide +kernel
theorem dX5_startsJudging_22 : decode cX5_startsJudging 22 = .ok (.return_, 1) := by decide +kernel
theorem dX5_judges_0 : decode cX5_judges 0 = .ok (.iload_n 2, 1) := by decide +kernel
theorem dX5_judges_1 : decode cX5_judges 1 = .ok (.bipush (-4), 2) := by decide +kernel
theorem dX5_judges_3 : decode cX5_judges 3 = .ok (.if_icmp .eq 21, 3) := by decide +kernel
theorem dX5_judges_6 : decode cX5_judges 6 = .ok (.iload_n 2, 1) := by decide +kernel
theorem dX5_judges_7 : decode cX5_judges 7 = .ok (.aload_n 0, 1) := by decide +kernel
theorem dX5_judges_8 : decode cX5_judges 8 = .ok (.getfield 240, 3) := by decide +kernel
theorem dX5_judges_11 : decode cX5_judges 11 = .ok (.if_icmp .ge 13, 3) := by decide +kernel
theorem dX5_judges_14 : decode cX5_judges 14 = .ok (.aload_n 0, 1) := by decide +kernel
theorem dX5_judges_15 : decode cX5_judges 15 = .ok (.iload_n 1, 1) := by decide +kernel
theorem dX5_judges_16 : decode cX5_judges 16 = .ok (.putfield 236, 3) := by decide +kernel
theorem dX5_judges_19 : decode cX5_judges 19 = .ok (.aload_n 0, 1) := by decide +kernel
theorem dX5_judges_20 : decode cX5_judges 20 = .ok (.iload_n 2, 1) := by decide +kernel
theorem dX5_judges_21 : decode cX5_judges 21 = .ok (.putfield 240, 3) := by decide +kernel
theorem dX5_judges_24 : decode cX5_judges 24 = .ok (.return_, 1) := by decide +kernel
theorem dX5_judged_0 : decode cX5_judged 0 = .ok (.aload_n 0, 1) := by decide +kernel
theorem dX5_judged_1 : decode cX5_judged 1 = .ok (.getfield 236, 3) := by decide +kernel
theorem dX5_judged_4 : decode cX5_judged 4 = .ok (.bipush (-4), 2) := by decide +kernel
theorem dX5_judged_6 : decode cX5_judged 6 = .ok (.if_icmp .ne 8, 3) := by decide +kernel
theorem dX5_judged_9 : decode cX5_judged 9 = .ok (.bipush (-4), 2) := by decide +kernel
theorem dX5_judged_11 : decode cX5_judged 11 = .ok (.goto 18, 3) := by decide +kernel
theorem dX5_judged_14 : decode cX5_judged 14 = .ok (.iload_n 1, 1) := by decide +kernel
theorem dX5_judged_15 : decode cX5_judged 15 = .ok (.ifCond .ne 10, 3) := by decide +kernel
theorem dX5_judged_18 : decode cX5_judged 18 = .ok (.aload_n 0, 1) := by decide +kernel
theorem dX5_judged_19 : decode cX5_judged 19 = .ok (.getfield 236, 3) := by decide +kernel
theorem dX5_judged_22 : decode cX5_judged 22 = .ok (.goto 7, 3) := by decide +kernel
theorem dX5_judged_25 : decode cX5_judged 25 = .ok (.aload_n 0, 1) := by decide +kernel
theorem dX5_judged_26 : decode cX5_judged 26 = .ok (.getfield 240, 3) := by decide +kernel
theorem dX5_judged_29 : decode cX5_judged 29 = .ok (.ireturn, 1) := by decide +kernel
theorem dX5_wording_0 : decode cX5_wording 0 = .ok (.iload_n 1, 1) := by decide +kernel
theorem dX5_wording_1 : decode cX5_wording 1 = .ok (.invokestatic 243, 3) := by decide +kernel
theorem dX5_wording_4 : decode cX5_wording 4 = .ok (.ifCond .ne 5, 3) := by decide +kernel
theorem dX5_wording_7 : decode cX5_wording 7 = .ok (.iconst (-1), 1) := by decide +kernel
theorem dX5_wording_8 : decode cX5_wording 8 = .ok (.ireturn, 1) := by decide +kernel
theorem dX5_wording_9 : decode cX5_wording 9 = .ok (.aload_n 0, 1) := by decide +kernel
theorem dX5_wording_10 : decode cX5_wording 10 = .ok (.bipush (-4), 2) := by decide +kernel
theorem dX5_wording_12 : decode cX5_wording 12 = .ok (.invokevirtual 246, 3) := by decide +kernel
theorem dX5_wording_15 : decode cX5_wording 15 = .ok (.iconst 0, 1) := by decide +kernel
theorem dX5_wording_16 : decode cX5_wording 16 = .ok (.istore_n 2, 1) := by decide +kernel
theorem dX5_wording_17 : decode cX5_wording 17 = .ok (.iload_n 2, 1) := by decide +kernel
theorem dX5_wording_18 : decode cX5_wording 18 = .ok (.bipush 20, 2) := by decide +kernel
theorem dX5_wording_20 : decode cX5_wording 20 = .ok (.if_icmp .gt 30, 3) := by decide +kernel
theorem dX5_wording_23 : decode cX5_wording 23 = .ok (.aload_n 0, 1) := by decide +kernel
theorem dX5_wording_24 : decode cX5_wording 24 = .ok (.invokevirtual 196, 3) := by decide +kernel
theorem dX5_wording_27 : decode cX5_wording 27 = .ok (.aload_n 0, 1) := by decide +kernel
theorem dX5_wording_28 : decode cX5_wording 28 = .ok (.getfield 13, 3) := by decide +kernel
theorem dX5_wording_31 : decode cX5_wording 31 = .ok (.bipush 25, 2) := by decide +kernel
theorem dX5_wording_33 : decode cX5_wording 33 = .ok (.iload_n 2, 1) := by decide +kernel
theorem dX5_wording_34 : decode cX5_wording 34 = .ok (.iastore, 1) := by decide +kernel
theorem dX5_wording_35 : decode cX5_wording 35 = .ok (.aload_n 0, 1) := by decide +kernel
theorem dX5_wording_36 : decode cX5_wording 36 = .ok (.iload_n 2, 1) := by decide +kernel
theorem dX5_wording_37 : decode cX5_wording 37 = .ok (.aload_n 0, 1) := by decide +kernel
theorem dX5_wording_38 : decode cX5_wording 38 = .ok (.invokevirtual 233, 3) := by decide +kernel
theorem dX5_wording_41 : decode cX5_wording 41 = .ok (.invokevirtual 249, 3) := by decide +kernel
theorem dX5_wording_44 : decode cX5_wording 44 = .ok (.iinc 2 1, 3) := by decide +kernel
theorem dX5_wording_47 : decode cX5_wording 47 = .ok (.goto (-30), 3) := by decide +kernel
theorem dX5_wording_50 : decode cX5_wording 50 = .ok (.aload_n 0, 1) := by decide +kernel
theorem dX5_wording_51 : decode cX5_wording 51 = .ok (.iload_n 1, 1) := by decide +kernel
theorem dX5_wording_52 : decode cX5_wording 52 = .ok (.invokevirtual 253, 3) := by decide +kernel
theorem dX5_wording_55 : decode cX5_wording 55 = .ok (.ireturn, 1) := by decide +kernel
theorem dX5_middle_0 : decode cX5_middle 0 = .ok (.iload_n 1, 1) := by decide +kernel
theorem dX5_middle_1 : decode cX5_middle 1 = .ok (.invokestatic 243, 3) := by decide +kernel
theorem dX5_middle_4 : decode cX5_middle 4 = .ok (.ifCond .ne 5, 3) := by decide +kernel
theorem dX5_middle_7 : decode cX5_middle 7 = .ok (.iconst (-1), 1) := by decide +kernel
theorem dX5_middle_8 : decode cX5_middle 8 = .ok (.ireturn, 1) := by decide +kernel
theorem dX5_middle_9 : decode cX5_middle 9 = .ok (.iconst (-1), 1) := by decide +kernel
theorem dX5_middle_10 : decode cX5_middle 10 = .ok (.istore_n 2, 1) := by decide +kernel
theorem dX5_middle_11 : decode cX5_middle 11 = .ok (.iconst 0, 1) := by decide +kernel
theorem dX5_middle_12 : decode cX5_middle 12 = .ok (.istore_n 3, 1) := by decide +kernel
theorem dX5_middle_13 : decode cX5_middle 13 = .ok (.aload_n 0, 1) := by decide +kernel
theorem dX5_middle_14 : decode cX5_middle 14 = .ok (.invokevirtual 196, 3) := by decide +kernel
theorem dX5_middle_17 : decode cX5_middle 17 = .ok (.iconst 0, 1) := by decide +kernel
theorem dX5_middle_18 : decode cX5_middle 18 = .ok (.istore 4, 2) := by decide +kernel
theorem dX5_middle_20 : decode cX5_middle 20 = .ok (.iload 4, 2) := by decide +kernel
theorem dX5_middle_22 : decode cX5_middle 22 = .ok (.bipush 20, 2) := by decide +kernel
theorem dX5_middle_24 : decode cX5_middle 24 = .ok (.if_icmp .gt 57, 3) := by decide +kernel
theorem dX5_middle_27 : decode cX5_middle 27 = .ok (.aload_n 0, 1) := by decide +kernel
theorem dX5_middle_28 : decode cX5_middle 28 = .ok (.getfield 13, 3) := by decide +kernel
theorem dX5_middle_31 : decode cX5_middle 31 = .ok (.bipush 25, 2) := by decide +kernel
theorem dX5_middle_33 : decode cX5_middle 33 = .ok (.iload 4, 2) := by decide +kernel
theorem dX5_middle_35 : decode cX5_middle 35 = .ok (.iastore, 1) := by decide +kernel
theorem dX5_middle_36 : decode cX5_middle 36 = .ok (.aload_n 0, 1) := by decide +kernel
theorem dX5_middle_37 : decode cX5_middle 37 = .ok (.iconst 0, 1) := by decide +kernel
theorem dX5_middle_38 : decode cX5_middle 38 = .ok (.invokevirtual 160, 3) := by decide +kernel
theorem dX5_middle_41 : decode cX5_middle 41 = .ok (.aload_n 0, 1) := by decide +kernel
theorem dX5_middle_42 : decode cX5_middle 42 = .ok (.iconst 1, 1) := by decide +kernel
theorem dX5_middle_43 : decode cX5_middle 43 = .ok (.invokevirtual 160, 3) := by decide +kernel
theorem dX5_middle_46 : decode cX5_middle 46 = .ok (.iadd, 1) := by decide +kernel
theorem dX5_middle_47 : decode cX5_middle 47 = .ok (.istore 5, 2) := by decide +kernel
theorem dX5_middle_49 : decode cX5_middle 49 = .ok (.iload 5, 2) := by decide +kernel
theorem dX5_middle_51 : decode cX5_middle 51 = .ok (.iload_n 2, 1) := by decide +kernel
theorem dX5_middle_52 : decode cX5_middle 52 = .ok (.if_icmp .le 8, 3) := by decide +kernel
theorem dX5_middle_55 : decode cX5_middle 55 = .ok (.iload 4, 2) := by decide +kernel
theorem dX5_middle_57 : decode cX5_middle 57 = .ok (.goto 4, 3) := by decide +kernel
theorem dX5_middle_60 : decode cX5_middle 60 = .ok (.iload_n 3, 1) := by decide +kernel
theorem dX5_middle_61 : decode cX5_middle 61 = .ok (.istore_n 3, 1) := by decide +kernel
theorem dX5_middle_62 : decode cX5_middle 62 = .ok (.iload 5, 2) := by decide +kernel
theorem dX5_middle_64 : decode cX5_middle 64 = .ok (.iload_n 2, 1) := by decide +kernel
theorem dX5_middle_65 : decode cX5_middle 65 = .ok (.if_icmp .le 8, 3) := by decide +kernel
theorem dX5_middle_68 : decode cX5_middle 68 = .ok (.iload 5, 2) := by decide +kernel
theorem dX5_middle_70 : decode cX5_middle 70 = .ok (.goto 4, 3) := by decide +kernel
theorem dX5_middle_73 : decode cX5_middle 73 = .ok (.iload_n 2, 1) := by decide +kernel
theorem dX5_middle_74 : decode cX5_middle 74 = .ok (.istore_n 2, 1) := by decide +kernel
theorem dX5_middle_75 : decode cX5_middle 75 = .ok (.iinc 4 1, 3) := by decide +kernel
theorem dX5_middle_78 : decode cX5_middle 78 = .ok (.goto (-58), 3) := by decide +kernel
theorem dX5_middle_81 : decode cX5_middle 81 = .ok (.iload_n 1, 1) := by decide +kernel
theorem dX5_middle_82 : decode cX5_middle 82 = .ok (.ifCond .ne 7, 3) := by decide +kernel
theorem dX5_middle_85 : decode cX5_middle 85 = .ok (.iload_n 3, 1) := by decide +kernel
theorem dX5_middle_86 : decode cX5_middle 86 = .ok (.goto 4, 3) := by decide +kernel
theorem dX5_middle_89 : decode cX5_middle 89 = .ok (.iload_n 2, 1) := by decide +kernel
theorem dX5_middle_90 : decode cX5_middle 90 = .ok (.ireturn, 1) := by decide +kernel
theorem dX5_swing_0 : decode cX5_swing 0 = .ok (.aload_n 0, 1) := by decide +kernel
theorem dX5_swing_1 : decode cX5_swing 1 = .ok (.iload_n 1, 1) := by decide +kernel
theorem dX5_swing_2 : decode cX5_swing 2 = .ok (.invokevirtual 205, 3) := by decide +kernel
theorem dX5_swing_5 : decode cX5_swing 5 = .ok (.ifCond .ne 5, 3) := by decide +kernel
theorem dX5_swing_8 : decode cX5_swing 8 = .ok (.iconst (-1), 1) := by decide +kernel
theorem dX5_swing_9 : decode cX5_swing 9 = .ok (.ireturn, 1) := by decide +kernel
theorem dX5_swing_10 : decode cX5_swing 10 = .ok (.iconst 0, 1) := by decide +kernel
theorem dX5_swing_11 : decode cX5_swing 11 = .ok (.istore_n 2, 1) := by decide +kernel
theorem dX5_swing_12 : decode cX5_swing 12 = .ok (.aload_n 0, 1) := by decide +kernel
theorem dX5_swing_13 : decode cX5_swing 13 = .ok (.invokevirtual 196, 3) := by decide +kernel
theorem dX5_swing_16 : decode cX5_swing 16 = .ok (.aload_n 0, 1) := by decide +kernel
theorem dX5_swing_17 : decode cX5_swing 17 = .ok (.iload_n 1, 1) := by decide +kernel
theorem dX5_swing_18 : decode cX5_swing 18 = .ok (.putfield 125, 3) := by decide +kernel
theorem dX5_swing_21 : decode cX5_swing 21 = .ok (.aload_n 0, 1) := by decide +kernel
theorem dX5_swing_22 : decode cX5_swing 22 = .ok (.iload_n 1, 1) := by decide +kernel
theorem dX5_swing_23 : decode cX5_swing 23 = .ok (.iconst 1, 1) := by decide +kernel
theorem dX5_swing_24 : decode cX5_swing 24 = .ok (.invokevirtual 131, 3) := by decide +kernel
theorem dX5_swing_27 : decode cX5_swing 27 = .ok (.istore_n 3, 1) := by decide +kernel
theorem dX5_swing_28 : decode cX5_swing 28 = .ok (.iconst 0, 1) := by decide +kernel
theorem dX5_swing_29 : decode cX5_swing 29 = .ok (.istore 4, 2) := by decide +kernel
theorem dX5_swing_31 : decode cX5_swing 31 = .ok (.iload 4, 2) := by decide +kernel
theorem dX5_swing_33 : decode cX5_swing 33 = .ok (.bipush 20, 2) := by decide +kernel
theorem dX5_swing_35 : decode cX5_swing 35 = .ok (.if_icmp .gt 61, 3) := by decide +kernel
theorem dX5_swing_38 : decode cX5_swing 38 = .ok (.aload_n 0, 1) := by decide +kernel
theorem dX5_swing_39 : decode cX5_swing 39 = .ok (.getfield 13, 3) := by decide +kernel
theorem dX5_swing_42 : decode cX5_swing 42 = .ok (.bipush 25, 2) := by decide +kernel
theorem dX5_swing_44 : decode cX5_swing 44 = .ok (.iload 4, 2) := by decide +kernel
theorem dX5_swing_46 : decode cX5_swing 46 = .ok (.iastore, 1) := by decide +kernel
theorem dX5_swing_47 : decode cX5_swing 47 = .ok (.aload_n 0, 1) := by decide +kernel
theorem dX5_swing_48 : decode cX5_swing 48 = .ok (.iload_n 3, 1) := by decide +kernel
theorem dX5_swing_49 : decode cX5_swing 49 = .ok (.invokevirtual 160, 3) := by decide +kernel
theorem dX5_swing_52 : decode cX5_swing 52 = .ok (.istore 5, 2) := by decide +kernel
theorem dX5_swing_54 : decode cX5_swing 54 = .ok (.aload_n 0, 1) := by decide +kernel
theorem dX5_swing_55 : decode cX5_swing 55 = .ok (.iload_n 3, 1) := by decide +kernel
theorem dX5_swing_56 : decode cX5_swing 56 = .ok (.invokevirtual 163, 3) := by decide +kernel
theorem dX5_swing_59 : decode cX5_swing 59 = .ok (.istore 6, 2) := by decide +kernel
theorem dX5_swing_61 : decode cX5_swing 61 = .ok (.iload_n 2, 1) := by decide +kernel
theorem dX5_swing_62 : decode cX5_swing 62 = .ok (.iload 5, 2) := by decide +kernel
theorem dX5_swing_64 : decode cX5_swing 64 = .ok (.iconst 1, 1) := by decide +kernel
theorem dX5_swing_65 : decode cX5_swing 65 = .ok (.iadd, 1) := by decide +kernel
theorem dX5_swing_66 : decode cX5_swing 66 = .ok (.iload 6, 2) := by decide +kernel
theorem dX5_swing_68 : decode cX5_swing 68 = .ok (.if_icmp .le 16, 3) := by decide +kernel
theorem dX5_swing_71 : decode cX5_swing 71 = .ok (.iload 5, 2) := by decide +kernel
theorem dX5_swing_73 : decode cX5_swing 73 = .ok (.iload 6, 2) := by decide +kernel
theorem dX5_swing_75 : decode cX5_swing 75 = .ok (.iconst 1, 1) := by decide +kernel
theorem dX5_swing_76 : decode cX5_swing 76 = .ok (.iadd, 1) := by decide +kernel
theorem dX5_swing_77 : decode cX5_swing 77 = .ok (.if_icmp .gt 7, 3) := by decide +kernel
theorem dX5_swing_80 : decode cX5_swing 80 = .ok (.iconst 1, 1) := by decide +kernel
theorem dX5_swing_81 : decode cX5_swing 81 = .ok (.goto 4, 3) := by decide +kernel
theorem dX5_swing_84 : decode cX5_swing 84 = .ok (.iconst 0, 1) := by decide +kernel
theorem dX5_swing_85 : decode cX5_swing 85 = .ok (.invokestatic 153, 3) := by decide +kernel
theorem dX5_swing_88 : decode cX5_swing 88 = .ok (.iadd, 1) := by decide +kernel
theorem dX5_swing_89 : decode cX5_swing 89 = .ok (.istore_n 2, 1) := by decide +kernel
theorem dX5_swing_90 : decode cX5_swing 90 = .ok (.iinc 4 1, 3) := by decide +kernel
theorem dX5_swing_93 : decode cX5_swing 93 = .ok (.goto (-62), 3) := by decide +kernel
theorem dX5_swing_96 : decode cX5_swing 96 = .ok (.iload_n 2, 1) := by decide +kernel
theorem dX5_swing_97 : decode cX5_swing 97 = .ok (.ireturn, 1) := by decide +kernel
theorem dX5_soonestNow_0 : decode cX5_soonestNow 0 = .ok (.aload_n 0, 1) := by decide +kernel
theorem dX5_soonestNow_1 : decode cX5_soonestNow 1 = .ok (.invokevirtual 196, 3) := by decide +kernel
theorem dX5_soonestNow_4 : decode cX5_soonestNow 4 = .ok (.aload_n 0, 1) := by decide +kernel
theorem dX5_soonestNow_5 : decode cX5_soonestNow 5 = .ok (.invokevirtual 233, 3) := by decide +kernel
theorem dX5_soonestNow_8 : decode cX5_soonestNow 8 = .ok (.ireturn, 1) := by decide +kernel
theorem dX5_lose_0 : decode cX5_lose 0 = .ok (.iload_n 1, 1) := by decide +kernel
theorem dX5_lose_1 : decode cX5_lose 1 = .ok (.invokestatic 243, 3) := by decide +kernel
theorem dX5_lose_4 : decode cX5_lose 4 = .ok (.ifCond .ne 5, 3) := by decide +kernel
theorem dX5_lose_7 : decode cX5_lose 7 = .ok (.iconst (-1), 1) := by decide +kernel
theorem dX5_lose_8 : decode cX5_lose 8 = .ok (.ireturn, 1) := by decide +kernel
theorem dX5_lose_9 : decode cX5_lose 9 = .ok (.aload_n 0, 1) := by decide +kernel
theorem dX5_lose_10 : decode cX5_lose 10 = .ok (.aload_n 0, 1) := by decide +kernel
theorem dX5_lose_11 : decode cX5_lose 11 = .ok (.invokevirtual 256, 3) := by decide +kernel
theorem dX5_lose_14 : decode cX5_lose 14 = .ok (.invokevirtual 246, 3) := by decide +kernel
theorem dX5_lose_17 : decode cX5_lose 17 = .ok (.iconst 0, 1) := by decide +kernel
theorem dX5_lose_18 : decode cX5_lose 18 = .ok (.istore_n 2, 1) := by decide +kernel
theorem dX5_lose_19 : decode cX5_lose 19 = .ok (.iload_n 2, 1) := by decide +kernel
theorem dX5_lose_20 : decode cX5_lose 20 = .ok (.aload_n 0, 1) := by decide +kernel
theorem dX5_lose_21 : decode cX5_lose 21 = .ok (.getfield 7, 3) := by decide +kernel
theorem dX5_lose_24 : decode cX5_lose 24 = .ok (.bipush 24, 2) := by decide +kernel
theorem dX5_lose_26 : decode cX5_lose 26 = .ok (.iaload, 1) := by decide +kernel
theorem dX5_lose_27 : decode cX5_lose 27 = .ok (.if_icmp .ge 27, 3) := by decide +kernel
theorem dX5_lose_30 : decode cX5_lose 30 = .ok (.aload_n 0, 1) := by decide +kernel
theorem dX5_lose_31 : decode cX5_lose 31 = .ok (.invokevirtual 196, 3) := by decide +kernel
theorem dX5_lose_34 : decode cX5_lose 34 = .ok (.aload_n 0, 1) := by decide +kernel
theorem dX5_lose_35 : decode cX5_lose 35 = .ok (.iload_n 2, 1) := by decide +kernel
theorem dX5_lose_36 : decode cX5_lose 36 = .ok (.putfield 125, 3) := by decide +kernel
theorem dX5_lose_39 : decode cX5_lose 39 = .ok (.aload_n 0, 1) := by decide +kernel
theorem dX5_lose_40 : decode cX5_lose 40 = .ok (.iload_n 2, 1) := by decide +kernel
theorem dX5_lose_41 : decode cX5_lose 41 = .ok (.aload_n 0, 1) := by decide +kernel
theorem dX5_lose_42 : decode cX5_lose 42 = .ok (.invokevirtual 233, 3) := by decide +kernel
theorem dX5_lose_45 : decode cX5_lose 45 = .ok (.invokevirtual 249, 3) := by decide +kernel
theorem dX5_lose_48 : decode cX5_lose 48 = .ok (.iinc 2 1, 3) := by decide +kernel
theorem dX5_lose_51 : decode cX5_lose 51 = .ok (.goto (-32), 3) := by decide +kernel
theorem dX5_lose_54 : decode cX5_lose 54 = .ok (.aload_n 0, 1) := by decide +kernel
theorem dX5_lose_55 : decode cX5_lose 55 = .ok (.iload_n 1, 1) := by decide +kernel
theorem dX5_lose_56 : decode cX5_lose 56 = .ok (.invokevirtual 253, 3) := by decide +kernel
theorem dX5_lose_59 : decode cX5_lose 59 = .ok (.ireturn, 1) := by decide +kernel
theorem dX5_cross_0 : decode cX5_cross 0 = .ok (.iload_n 1, 1) := by decide +kernel
theorem dX5_cross_1 : decode cX5_cross 1 = .ok (.invokestatic 243, 3) := by decide +kernel
theorem dX5_cross_4 : decode cX5_cross 4 = .ok (.ifCond .ne 5, 3) := by decide +kernel
theorem dX5_cross_7 : decode cX5_cross 7 = .ok (.iconst (-1), 1) := by decide +kernel
theorem dX5_cross_8 : decode cX5_cross 8 = .ok (.ireturn, 1) := by decide +kernel
theorem dX5_cross_9 : decode cX5_cross 9 = .ok (.aload_n 0, 1) := by decide +kernel
theorem dX5_cross_10 : decode cX5_cross 10 = .ok (.aload_n 0, 1) := by decide +kernel
theorem dX5_cross_11 : decode cX5_cross 11 = .ok (.invokevirtual 256, 3) := by decide +kernel
theorem dX5_cross_14 : decode cX5_cross 14 = .ok (.invokevirtual 246, 3) := by decide +kernel
theorem dX5_cross_17 : decode cX5_cross 17 = .ok (.iconst 0, 1) := by decide +kernel
theorem dX5_cross_18 : decode cX5_cross 18 = .ok (.istore_n 2, 1) := by decide +kernel
theorem dX5_cross_19 : decode cX5_cross 19 = .ok (.iload_n 2, 1) := by decide +kernel
theorem dX5_cross_20 : decode cX5_cross 20 = .ok (.aload_n 0, 1) := by decide +kernel
theorem dX5_cross_21 : decode cX5_cross 21 = .ok (.getfield 7, 3) := by decide +kernel
theorem dX5_cross_24 : decode cX5_cross 24 = .ok (.bipush 24, 2) := by decide +kernel
theorem dX5_cross_26 : decode cX5_cross 26 = .ok (.iaload, 1) := by decide +kernel
theorem dX5_cross_27 : decode cX5_cross 27 = .ok (.if_icmp .ge 36, 3) := by decide +kernel
theorem dX5_cross_30 : decode cX5_cross 30 = .ok (.aload_n 0, 1) := by decide +kernel
theorem dX5_cross_31 : decode cX5_cross 31 = .ok (.invokevirtual 196, 3) := by decide +kernel
theorem dX5_cross_34 : decode cX5_cross 34 = .ok (.aload_n 0, 1) := by decide +kernel
theorem dX5_cross_35 : decode cX5_cross 35 = .ok (.iload_n 2, 1) := by decide +kernel
theorem dX5_cross_36 : decode cX5_cross 36 = .ok (.iconst 1, 1) := by decide +kernel
theorem dX5_cross_37 : decode cX5_cross 37 = .ok (.iconst 1, 1) := by decide +kernel
theorem dX5_cross_38 : decode cX5_cross 38 = .ok (.aload_n 0, 1) := by decide +kernel
theorem dX5_cross_39 : decode cX5_cross 39 = .ok (.iload_n 2, 1) := by decide +kernel
theorem dX5_cross_40 : decode cX5_cross 40 = .ok (.iconst 1, 1) := by decide +kernel
theorem dX5_cross_41 : decode cX5_cross 41 = .ok (.invokevirtual 131, 3) := by decide +kernel
theorem dX5_cross_44 : decode cX5_cross 44 = .ok (.isub, 1) := by decide +kernel
theorem dX5_cross_45 : decode cX5_cross 45 = .ok (.invokevirtual 178, 3) := by decide +kernel
theorem dX5_cross_48 : decode cX5_cross 48 = .ok (.aload_n 0, 1) := by decide +kernel
theorem dX5_cross_49 : decode cX5_cross 49 = .ok (.iload_n 2, 1) := by decide +kernel
theorem dX5_cross_50 : decode cX5_cross 50 = .ok (.aload_n 0, 1) := by decide +kernel
theorem dX5_cross_51 : decode cX5_cross 51 = .ok (.invokevirtual 233, 3) := by decide +kernel
theorem dX5_cross_54 : decode cX5_cross 54 = .ok (.invokevirtual 249, 3) := by decide +kernel
theorem dX5_cross_57 : decode cX5_cross 57 = .ok (.iinc 2 1, 3) := by decide +kernel
theorem dX5_cross_60 : decode cX5_cross 60 = .ok (.goto (-41), 3) := by decide +kernel
theorem dX5_cross_63 : decode cX5_cross 63 = .ok (.aload_n 0, 1) := by decide +kernel
theorem dX5_cross_64 : decode cX5_cross 64 = .ok (.iload_n 1, 1) := by decide +kernel
theorem dX5_cross_65 : decode cX5_cross 65 = .ok (.invokevirtual 253, 3) := by decide +kernel
theorem dX5_cross_68 : decode cX5_cross 68 = .ok (.ireturn, 1) := by decide +kernel
theorem dX5_give_0 : decode cX5_give 0 = .ok (.aload_n 0, 1) := by decide +kernel
theorem dX5_give_1 : decode cX5_give 1 = .ok (.iload_n 1, 1) := by decide +kernel
theorem dX5_give_2 : decode cX5_give 2 = .ok (.invokevirtual 205, 3) := by decide +kernel
theorem dX5_give_5 : decode cX5_give 5 = .ok (.ifCond .eq 10, 3) := by decide +kernel
theorem dX5_give_8 : decode cX5_give 8 = .ok (.iload_n 2, 1) := by decide +kernel
theorem dX5_give_9 : decode cX5_give 9 = .ok (.invokestatic 225, 3) := by decide +kernel
theorem dX5_give_12 : decode cX5_give 12 = .ok (.ifCond .ne 5, 3) := by decide +kernel
theorem dX5_give_15 : decode cX5_give 15 = .ok (.iconst (-1), 1) := by decide +kernel
theorem dX5_give_16 : decode cX5_give 16 = .ok (.ireturn, 1) := by decide +kernel
theorem dX5_give_17 : decode cX5_give 17 = .ok (.iconst 0, 1) := by decide +kernel
theorem dX5_give_18 : decode cX5_give 18 = .ok (.istore_n 3, 1) := by decide +kernel
theorem dX5_give_19 : decode cX5_give 19 = .ok (.iload_n 3, 1) := by decide +kernel
theorem dX5_give_20 : decode cX5_give 20 = .ok (.bipush 20, 2) := by decide +kernel
theorem dX5_give_22 : decode cX5_give 22 = .ok (.if_icmp .gt 34, 3) := by decide +kernel
theorem dX5_give_25 : decode cX5_give 25 = .ok (.aload_n 0, 1) := by decide +kernel
theorem dX5_give_26 : decode cX5_give 26 = .ok (.invokevirtual 196, 3) := by decide +kernel
theorem dX5_give_29 : decode cX5_give 29 = .ok (.aload_n 0, 1) := by decide +kernel
theorem dX5_give_30 : decode cX5_give 30 = .ok (.iload_n 1, 1) := by decide +kernel
theorem dX5_give_31 : decode cX5_give 31 = .ok (.iconst 3, 1) := by decide +kernel
theorem dX5_give_32 : decode cX5_give 32 = .ok (.iload_n 3, 1) := by decide +kernel
theorem dX5_give_33 : decode cX5_give 33 = .ok (.invokevirtual 178, 3) := by decide +kernel
theorem dX5_give_36 : decode cX5_give 36 = .ok (.aload_n 0, 1) := by decide +kernel
theorem dX5_give_37 : decode cX5_give 37 = .ok (.iload_n 2, 1) := by decide +kernel
theorem dX5_give_38 : decode cX5_give 38 = .ok (.invokevirtual 217, 3) := by decide +kernel
theorem dX5_give_41 : decode cX5_give 41 = .ok (.aload_n 0, 1) := by decide +kernel
theorem dX5_give_42 : decode cX5_give 42 = .ok (.invokevirtual 185, 3) := by decide +kernel
theorem dX5_give_45 : decode cX5_give 45 = .ok (.ifCond .eq 5, 3) := by decide +kernel
theorem dX5_give_48 : decode cX5_give 48 = .ok (.iload_n 3, 1) := by decide +kernel
theorem dX5_give_49 : decode cX5_give 49 = .ok (.ireturn, 1) := by decide +kernel
theorem dX5_give_50 : decode cX5_give 50 = .ok (.iinc 3 1, 3) := by decide +kernel
theorem dX5_give_53 : decode cX5_give 53 = .ok (.goto (-34), 3) := by decide +kernel
theorem dX5_give_56 : decode cX5_give 56 = .ok (.bipush (-4), 2) := by decide +kernel
theorem dX5_give_58 : decode cX5_give 58 = .ok (.ireturn, 1) := by decide +kernel
theorem dX5_soonestBy_0 : decode cX5_soonestBy 0 = .ok (.aload_n 0, 1) := by decide +kernel
theorem dX5_soonestBy_1 : decode cX5_soonestBy 1 = .ok (.bipush (-4), 2) := by decide +kernel
theorem dX5_soonestBy_3 : decode cX5_soonestBy 3 = .ok (.invokevirtual 246, 3) := by decide +kernel
theorem dX5_soonestBy_6 : decode cX5_soonestBy 6 = .ok (.iconst 0, 1) := by decide +kernel
theorem dX5_soonestBy_7 : decode cX5_soonestBy 7 = .ok (.istore 5, 2) := by decide +kernel
theorem dX5_soonestBy_9 : decode cX5_soonestBy 9 = .ok (.iload 5, 2) := by decide +kernel
theorem dX5_soonestBy_11 : decode cX5_soonestBy 11 = .ok (.iload_n 3, 1) := by decide +kernel
theorem dX5_soonestBy_12 : decode cX5_soonestBy 12 = .ok (.if_icmp .gt 31, 3) := by decide +kernel
theorem dX5_soonestBy_15 : decode cX5_soonestBy 15 = .ok (.aload_n 0, 1) := by decide +kernel
theorem dX5_soonestBy_16 : decode cX5_soonestBy 16 = .ok (.invokevirtual 196, 3) := by decide +kernel
theorem dX5_soonestBy_19 : decode cX5_soonestBy 19 = .ok (.aload_n 0, 1) := by decide +kernel
theorem dX5_soonestBy_20 : decode cX5_soonestBy 20 = .ok (.iload_n 1, 1) := by decide +kernel
theorem dX5_soonestBy_21 : decode cX5_soonestBy 21 = .ok (.iload_n 2, 1) := by decide +kernel
theorem dX5_soonestBy_22 : decode cX5_soonestBy 22 = .ok (.iload 5, 2) := by decide +kernel
theorem dX5_soonestBy_24 : decode cX5_soonestBy 24 = .ok (.invokevirtual 178, 3) := by decide +kernel
theorem dX5_soonestBy_27 : decode cX5_soonestBy 27 = .ok (.aload_n 0, 1) := by decide +kernel
theorem dX5_soonestBy_28 : decode cX5_soonestBy 28 = .ok (.iload 5, 2) := by decide +kernel
theorem dX5_soonestBy_30 : decode cX5_soonestBy 30 = .ok (.aload_n 0, 1) := by decide +kernel
theorem dX5_soonestBy_31 : decode cX5_soonestBy 31 = .ok (.invokevirtual 233, 3) := by decide +kernel
theorem dX5_soonestBy_34 : decode cX5_soonestBy 34 = .ok (.invokevirtual 249, 3) := by decide +kernel
theorem dX5_soonestBy_37 : decode cX5_soonestBy 37 = .ok (.iinc 5 1, 3) := by decide +kernel
theorem dX5_soonestBy_40 : decode cX5_soonestBy 40 = .ok (.goto (-31), 3) := by decide +kernel
theorem dX5_soonestBy_43 : decode cX5_soonestBy 43 = .ok (.aload_n 0, 1) := by decide +kernel
theorem dX5_soonestBy_44 : decode cX5_soonestBy 44 = .ok (.iload 4, 2) := by decide +kernel
theorem dX5_soonestBy_46 : decode cX5_soonestBy 46 = .ok (.invokevirtual 253, 3) := by decide +kernel
theorem dX5_soonestBy_49 : decode cX5_soonestBy 49 = .ok (.ireturn, 1) := by decide +kernel
theorem dX5_mind_0 : decode cX5_mind 0 = .ok (.aload_n 0, 1) := by decide +kernel
theorem dX5_mind_1 : decode cX5_mind 1 = .ok (.iload_n 1, 1) := by decide +kernel
theorem dX5_mind_2 : decode cX5_mind 2 = .ok (.invokevirtual 205, 3) := by decide +kernel
theorem dX5_mind_5 : decode cX5_mind 5 = .ok (.ifCond .eq 22, 3) := by decide +kernel
theorem dX5_mind_8 : decode cX5_mind 8 = .ok (.iload_n 2, 1) := by decide +kernel
theorem dX5_mind_9 : decode cX5_mind 9 = .ok (.invokestatic 243, 3) := by decide +kernel
theorem dX5_mind_12 : decode cX5_mind 12 = .ok (.ifCond .eq 15, 3) := by decide +kernel
theorem dX5_mind_15 : decode cX5_mind 15 = .ok (.aload_n 0, 1) := by decide +kernel
theorem dX5_mind_16 : decode cX5_mind 16 = .ok (.iload_n 1, 1) := by decide +kernel
theorem dX5_mind_17 : decode cX5_mind 17 = .ok (.iconst 2, 1) := by decide +kernel
theorem dX5_mind_18 : decode cX5_mind 18 = .ok (.bipush 20, 2) := by decide +kernel
theorem dX5_mind_20 : decode cX5_mind 20 = .ok (.iload_n 2, 1) := by decide +kernel
theorem dX5_mind_21 : decode cX5_mind 21 = .ok (.invokevirtual 259, 3) := by decide +kernel
theorem dX5_mind_24 : decode cX5_mind 24 = .ok (.goto 4, 3) := by decide +kernel
theorem dX5_mind_27 : decode cX5_mind 27 = .ok (.iconst (-1), 1) := by decide +kernel
theorem dX5_mind_28 : decode cX5_mind 28 = .ok (.ireturn, 1) := by decide +kernel
theorem dX5_kind_0 : decode cX5_kind 0 = .ok (.aload_n 0, 1) := by decide +kernel
theorem dX5_kind_1 : decode cX5_kind 1 = .ok (.iload_n 1, 1) := by decide +kernel
