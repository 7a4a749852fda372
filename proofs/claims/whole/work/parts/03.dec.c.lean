theorem dX4_wants_5 : decode cX4_wants 5 = .ok (.ifCond .eq 12, 3) := by decide +kernel
theorem dX4_wants_8 : decode cX4_wants 8 = .ok (.aload_n 0, 1) := by decide +kernel
theorem dX4_wants_9 : decode cX4_wants 9 = .ok (.iload_n 1, 1) := by decide +kernel
theorem dX4_wants_10 : decode cX4_wants 10 = .ok (.iconst 2, 1) := by decide +kernel
theorem dX4_wants_11 : decode cX4_wants 11 = .ok (.invokevirtual 180, 3) := by decide +kernel
theorem dX4_wants_14 : decode cX4_wants 14 = .ok (.goto 4, 3) := by decide +kernel
theorem dX4_wants_17 : decode cX4_wants 17 = .ok (.iconst (-1), 1) := by decide +kernel
theorem dX4_wants_18 : decode cX4_wants 18 = .ok (.ireturn, 1) := by decide +kernel
theorem dX4_ask_0 : decode cX4_ask 0 = .ok (.aload_n 0, 1) := by decide +kernel
theorem dX4_ask_1 : decode cX4_ask 1 = .ok (.iload_n 1, 1) := by decide +kernel
theorem dX4_ask_2 : decode cX4_ask 2 = .ok (.invokevirtual 112, 3) := by decide +kernel
theorem dX4_ask_5 : decode cX4_ask 5 = .ok (.ifCond .eq 11, 3) := by decide +kernel
theorem dX4_ask_8 : decode cX4_ask 8 = .ok (.iload_n 2, 1) := by decide +kernel
theorem dX4_ask_9 : decode cX4_ask 9 = .ok (.iconst 1, 1) := by decide +kernel
theorem dX4_ask_10 : decode cX4_ask 10 = .ok (.invokestatic 62, 3) := by decide +kernel
theorem dX4_ask_13 : decode cX4_ask 13 = .ok (.ifCond .ne 5, 3) := by decide +kernel
theorem dX4_ask_16 : decode cX4_ask 16 = .ok (.iconst (-1), 1) := by decide +kernel
theorem dX4_ask_17 : decode cX4_ask 17 = .ok (.ireturn, 1) := by decide +kernel
theorem dX4_ask_18 : decode cX4_ask 18 = .ok (.aload_n 0, 1) := by decide +kernel
theorem dX4_ask_19 : decode cX4_ask 19 = .ok (.iload_n 1, 1) := by decide +kernel
theorem dX4_ask_20 : decode cX4_ask 20 = .ok (.invokevirtual 183, 3) := by decide +kernel
theorem dX4_ask_23 : decode cX4_ask 23 = .ok (.istore_n 3, 1) := by decide +kernel
theorem dX4_ask_24 : decode cX4_ask 24 = .ok (.bipush (-4), 2) := by decide +kernel
theorem dX4_ask_26 : decode cX4_ask 26 = .ok (.istore 4, 2) := by decide +kernel
theorem dX4_ask_28 : decode cX4_ask 28 = .ok (.iconst 0, 1) := by decide +kernel
theorem dX4_ask_29 : decode cX4_ask 29 = .ok (.istore 5, 2) := by decide +kernel
theorem dX4_ask_31 : decode cX4_ask 31 = .ok (.iload 5, 2) := by decide +kernel
theorem dX4_ask_33 : decode cX4_ask 33 = .ok (.bipush 20, 2) := by decide +kernel
theorem dX4_ask_35 : decode cX4_ask 35 = .ok (.if_icmp .gt 30, 3) := by decide +kernel
theorem dX4_ask_38 : decode cX4_ask 38 = .ok (.aload_n 0, 1) := by decide +kernel
theorem dX4_ask_39 : decode cX4_ask 39 = .ok (.iload 5, 2) := by decide +kernel
theorem dX4_ask_41 : decode cX4_ask 41 = .ok (.invokevirtual 186, 3) := by decide +kernel
theorem dX4_ask_44 : decode cX4_ask 44 = .ok (.istore 6, 2) := by decide +kernel
theorem dX4_ask_46 : decode cX4_ask 46 = .ok (.iload 6, 2) := by decide +kernel
theorem dX4_ask_48 : decode cX4_ask 48 = .ok (.iload_n 3, 1) := by decide +kernel
theorem dX4_ask_49 : decode cX4_ask 49 = .ok (.if_icmp .ge 10, 3) := by decide +kernel
theorem dX4_ask_52 : decode cX4_ask 52 = .ok (.iload 6, 2) := by decide +kernel
theorem dX4_ask_54 : decode cX4_ask 54 = .ok (.istore_n 3, 1) := by decide +kernel
theorem dX4_ask_55 : decode cX4_ask 55 = .ok (.iload 5, 2) := by decide +kernel
theorem dX4_ask_57 : decode cX4_ask 57 = .ok (.istore 4, 2) := by decide +kernel
theorem dX4_ask_59 : decode cX4_ask 59 = .ok (.iinc 5 1, 3) := by decide +kernel
theorem dX4_ask_62 : decode cX4_ask 62 = .ok (.goto (-31), 3) := by decide +kernel
theorem dX4_ask_65 : decode cX4_ask 65 = .ok (.iload 4, 2) := by decide +kernel
theorem dX4_ask_67 : decode cX4_ask 67 = .ok (.bipush (-4), 2) := by decide +kernel
theorem dX4_ask_69 : decode cX4_ask 69 = .ok (.if_icmp .ne 6, 3) := by decide +kernel
theorem dX4_ask_72 : decode cX4_ask 72 = .ok (.bipush (-4), 2) := by decide +kernel
theorem dX4_ask_74 : decode cX4_ask 74 = .ok (.ireturn, 1) := by decide +kernel
theorem dX4_ask_75 : decode cX4_ask 75 = .ok (.iload_n 2, 1) := by decide +kernel
theorem dX4_ask_76 : decode cX4_ask 76 = .ok (.ifCond .ne 8, 3) := by decide +kernel
theorem dX4_ask_79 : decode cX4_ask 79 = .ok (.iload 4, 2) := by decide +kernel
theorem dX4_ask_81 : decode cX4_ask 81 = .ok (.goto 4, 3) := by decide +kernel
theorem dX4_ask_84 : decode cX4_ask 84 = .ok (.iload_n 3, 1) := by decide +kernel
theorem dX4_ask_85 : decode cX4_ask 85 = .ok (.ireturn, 1) := by decide +kernel
theorem dX4_drift_0 : decode cX4_drift 0 = .ok (.iload_n 2, 1) := by decide +kernel
theorem dX4_drift_1 : decode cX4_drift 1 = .ok (.iconst 1, 1) := by decide +kernel
theorem dX4_drift_2 : decode cX4_drift 2 = .ok (.if_icmp .lt 17, 3) := by decide +kernel
theorem dX4_drift_5 : decode cX4_drift 5 = .ok (.iload_n 2, 1) := by decide +kernel
theorem dX4_drift_6 : decode cX4_drift 6 = .ok (.bipush 60, 2) := by decide +kernel
theorem dX4_drift_8 : decode cX4_drift 8 = .ok (.if_icmp .gt 11, 3) := by decide +kernel
theorem dX4_drift_11 : decode cX4_drift 11 = .ok (.iload_n 3, 1) := by decide +kernel
theorem dX4_drift_12 : decode cX4_drift 12 = .ok (.iconst 1, 1) := by decide +kernel
theorem dX4_drift_13 : decode cX4_drift 13 = .ok (.invokestatic 62, 3) := by decide +kernel
theorem dX4_drift_16 : decode cX4_drift 16 = .ok (.ifCond .ne 5, 3) := by decide +kernel
theorem dX4_drift_19 : decode cX4_drift 19 = .ok (.iconst (-1), 1) := by decide +kernel
theorem dX4_drift_20 : decode cX4_drift 20 = .ok (.ireturn, 1) := by decide +kernel
theorem dX4_drift_21 : decode cX4_drift 21 = .ok (.aload_n 0, 1) := by decide +kernel
theorem dX4_drift_22 : decode cX4_drift 22 = .ok (.getfield 26, 3) := by decide +kernel
theorem dX4_drift_25 : decode cX4_drift 25 = .ok (.getfield 84, 3) := by decide +kernel
theorem dX4_drift_28 : decode cX4_drift 28 = .ok (.iconst 1, 1) := by decide +kernel
theorem dX4_drift_29 : decode cX4_drift 29 = .ok (.if_icmp .ge 6, 3) := by decide +kernel
theorem dX4_drift_32 : decode cX4_drift 32 = .ok (.bipush (-2), 2) := by decide +kernel
theorem dX4_drift_34 : decode cX4_drift 34 = .ok (.ireturn, 1) := by decide +kernel
theorem dX4_drift_35 : decode cX4_drift 35 = .ok (.aload_n 0, 1) := by decide +kernel
theorem dX4_drift_36 : decode cX4_drift 36 = .ok (.getfield 30, 3) := by decide +kernel
theorem dX4_drift_39 : decode cX4_drift 39 = .ok (.aload_n 0, 1) := by decide +kernel
theorem dX4_drift_40 : decode cX4_drift 40 = .ok (.getfield 26, 3) := by decide +kernel
theorem dX4_drift_43 : decode cX4_drift 43 = .ok (.invokevirtual 80, 3) := by decide +kernel
theorem dX4_drift_46 : decode cX4_drift 46 = .ok (.iload_n 1, 1) := by decide +kernel
theorem dX4_drift_47 : decode cX4_drift 47 = .ok (.istore 4, 2) := by decide +kernel
theorem dX4_drift_49 : decode cX4_drift 49 = .ok (.iconst 0, 1) := by decide +kernel
theorem dX4_drift_50 : decode cX4_drift 50 = .ok (.istore 5, 2) := by decide +kernel
theorem dX4_drift_52 : decode cX4_drift 52 = .ok (.iconst 0, 1) := by decide +kernel
theorem dX4_drift_53 : decode cX4_drift 53 = .ok (.istore 6, 2) := by decide +kernel
theorem dX4_drift_55 : decode cX4_drift 55 = .ok (.iload 6, 2) := by decide +kernel
theorem dX4_drift_57 : decode cX4_drift 57 = .ok (.iload_n 2, 1) := by decide +kernel
theorem dX4_drift_58 : decode cX4_drift 58 = .ok (.if_icmp .ge 70, 3) := by decide +kernel
theorem dX4_drift_61 : decode cX4_drift 61 = .ok (.iload 4, 2) := by decide +kernel
theorem dX4_drift_63 : decode cX4_drift 63 = .ok (.ldc 189, 2) := by decide +kernel
theorem dX4_drift_65 : decode cX4_drift 65 = .ok (.imul, 1) := by decide +kernel
theorem dX4_drift_66 : decode cX4_drift 66 = .ok (.sipush 12345, 3) := by decide +kernel
theorem dX4_drift_69 : decode cX4_drift 69 = .ok (.iadd, 1) := by decide +kernel
theorem dX4_drift_70 : decode cX4_drift 70 = .ok (.istore 4, 2) := by decide +kernel
theorem dX4_drift_72 : decode cX4_drift 72 = .ok (.iload 4, 2) := by decide +kernel
theorem dX4_drift_74 : decode cX4_drift 74 = .ok (.bipush 16, 2) := by decide +kernel
theorem dX4_drift_76 : decode cX4_drift 76 = .ok (.iushr, 1) := by decide +kernel
theorem dX4_drift_77 : decode cX4_drift 77 = .ok (.sipush 32767, 3) := by decide +kernel
theorem dX4_drift_80 : decode cX4_drift 80 = .ok (.iand, 1) := by decide +kernel
theorem dX4_drift_81 : decode cX4_drift 81 = .ok (.istore 7, 2) := by decide +kernel
theorem dX4_drift_83 : decode cX4_drift 83 = .ok (.aload_n 0, 1) := by decide +kernel
theorem dX4_drift_84 : decode cX4_drift 84 = .ok (.getfield 30, 3) := by decide +kernel
theorem dX4_drift_87 : decode cX4_drift 87 = .ok (.iload 7, 2) := by decide +kernel
theorem dX4_drift_89 : decode cX4_drift 89 = .ok (.aload_n 0, 1) := by decide +kernel
theorem dX4_drift_90 : decode cX4_drift 90 = .ok (.getfield 26, 3) := by decide +kernel
theorem dX4_drift_93 : decode cX4_drift 93 = .ok (.getfield 84, 3) := by decide +kernel
theorem dX4_drift_96 : decode cX4_drift 96 = .ok (.irem, 1) := by decide +kernel
theorem dX4_drift_97 : decode cX4_drift 97 = .ok (.iconst 2, 1) := by decide +kernel
theorem dX4_drift_98 : decode cX4_drift 98 = .ok (.iload 7, 2) := by decide +kernel
theorem dX4_drift_100 : decode cX4_drift 100 = .ok (.bipush 8, 2) := by decide +kernel
theorem dX4_drift_102 : decode cX4_drift 102 = .ok (.idiv, 1) := by decide +kernel
theorem dX4_drift_103 : decode cX4_drift 103 = .ok (.bipush 21, 2) := by decide +kernel
theorem dX4_drift_105 : decode cX4_drift 105 = .ok (.irem, 1) := by decide +kernel
theorem dX4_drift_106 : decode cX4_drift 106 = .ok (.invokevirtual 141, 3) := by decide +kernel
theorem dX4_drift_109 : decode cX4_drift 109 = .ok (.iload 5, 2) := by decide +kernel
theorem dX4_drift_111 : decode cX4_drift 111 = .ok (.aload_n 0, 1) := by decide +kernel
theorem dX4_drift_112 : decode cX4_drift 112 = .ok (.getfield 30, 3) := by decide +kernel
theorem dX4_drift_115 : decode cX4_drift 115 = .ok (.iconst 1, 1) := by decide +kernel
theorem dX4_drift_116 : decode cX4_drift 116 = .ok (.invokevirtual 190, 3) := by decide +kernel
theorem dX4_drift_119 : decode cX4_drift 119 = .ok (.iadd, 1) := by decide +kernel
theorem dX4_drift_120 : decode cX4_drift 120 = .ok (.istore 5, 2) := by decide +kernel
theorem dX4_drift_122 : decode cX4_drift 122 = .ok (.iinc 6 1, 3) := by decide +kernel
theorem dX4_drift_125 : decode cX4_drift 125 = .ok (.goto (-70), 3) := by decide +kernel
theorem dX4_drift_128 : decode cX4_drift 128 = .ok (.iload_n 3, 1) := by decide +kernel
theorem dX4_drift_129 : decode cX4_drift 129 = .ok (.ifCond .ne 13, 3) := by decide +kernel
theorem dX4_drift_132 : decode cX4_drift 132 = .ok (.aload_n 0, 1) := by decide +kernel
theorem dX4_drift_133 : decode cX4_drift 133 = .ok (.getfield 30, 3) := by decide +kernel
theorem dX4_drift_136 : decode cX4_drift 136 = .ok (.getfield 90, 3) := by decide +kernel
theorem dX4_drift_139 : decode cX4_drift 139 = .ok (.goto 5, 3) := by decide +kernel
theorem dX4_drift_142 : decode cX4_drift 142 = .ok (.iload 5, 2) := by decide +kernel
theorem dX4_drift_144 : decode cX4_drift 144 = .ok (.ireturn, 1) := by decide +kernel
theorem dX4_keep_0 : decode cX4_keep 0 = .ok (.iload_n 1, 1) := by decide +kernel
theorem dX4_keep_1 : decode cX4_keep 1 = .ok (.iconst 1, 1) := by decide +kernel
theorem dX4_keep_2 : decode cX4_keep 2 = .ok (.invokestatic 62, 3) := by decide +kernel
theorem dX4_keep_5 : decode cX4_keep 5 = .ok (.ifCond .ne 5, 3) := by decide +kernel
theorem dX4_keep_8 : decode cX4_keep 8 = .ok (.iconst (-1), 1) := by decide +kernel
theorem dX4_keep_9 : decode cX4_keep 9 = .ok (.ireturn, 1) := by decide +kernel
theorem dX4_keep_10 : decode cX4_keep 10 = .ok (.aload_n 0, 1) := by decide +kernel
theorem dX4_keep_11 : decode cX4_keep 11 = .ok (.getfield 37, 3) := by decide +kernel
theorem dX4_keep_14 : decode cX4_keep 14 = .ok (.iload_n 1, 1) := by decide +kernel
theorem dX4_keep_15 : decode cX4_keep 15 = .ok (.baload, 1) := by decide +kernel
theorem dX4_keep_16 : decode cX4_keep 16 = .ok (.invokestatic 97, 3) := by decide +kernel
theorem dX4_keep_19 : decode cX4_keep 19 = .ok (.istore_n 2, 1) := by decide +kernel
theorem dX4_keep_20 : decode cX4_keep 20 = .ok (.aload_n 0, 1) := by decide +kernel
theorem dX4_keep_21 : decode cX4_keep 21 = .ok (.getfield 33, 3) := by decide +kernel
theorem dX4_keep_24 : decode cX4_keep 24 = .ok (.iload_n 1, 1) := by decide +kernel
theorem dX4_keep_25 : decode cX4_keep 25 = .ok (.aaload, 1) := by decide +kernel
theorem dX4_keep_26 : decode cX4_keep 26 = .ok (.aload_n 0, 1) := by decide +kernel
theorem dX4_keep_27 : decode cX4_keep 27 = .ok (.getfield 26, 3) := by decide +kernel
theorem dX4_keep_30 : decode cX4_keep 30 = .ok (.invokevirtual 80, 3) := by decide +kernel
theorem dX4_keep_33 : decode cX4_keep 33 = .ok (.aload_n 0, 1) := by decide +kernel
theorem dX4_keep_34 : decode cX4_keep 34 = .ok (.getfield 37, 3) := by decide +kernel
theorem dX4_keep_37 : decode cX4_keep 37 = .ok (.iload_n 1, 1) := by decide +kernel
theorem dX4_keep_38 : decode cX4_keep 38 = .ok (.iconst 1, 1) := by decide +kernel
theorem dX4_keep_39 : decode cX4_keep 39 = .ok (.bastore, 1) := by decide +kernel
theorem dX4_keep_40 : decode cX4_keep 40 = .ok (.iload_n 2, 1) := by decide +kernel
theorem dX4_keep_41 : decode cX4_keep 41 = .ok (.ireturn, 1) := by decide +kernel
theorem dX4_back_0 : decode cX4_back 0 = .ok (.iload_n 1, 1) := by decide +kernel
theorem dX4_back_1 : decode cX4_back 1 = .ok (.iconst 1, 1) := by decide +kernel
theorem dX4_back_2 : decode cX4_back 2 = .ok (.invokestatic 62, 3) := by decide +kernel
theorem dX4_back_5 : decode cX4_back 5 = .ok (.ifCond .ne 5, 3) := by decide +kernel
theorem dX4_back_8 : decode cX4_back 8 = .ok (.iconst (-1), 1) := by decide +kernel
theorem dX4_back_9 : decode cX4_back 9 = .ok (.ireturn, 1) := by decide +kernel
theorem dX4_back_10 : decode cX4_back 10 = .ok (.aload_n 0, 1) := by decide +kernel
theorem dX4_back_11 : decode cX4_back 11 = .ok (.getfield 37, 3) := by decide +kernel
theorem dX4_back_14 : decode cX4_back 14 = .ok (.iload_n 1, 1) := by decide +kernel
theorem dX4_back_15 : decode cX4_back 15 = .ok (.baload, 1) := by decide +kernel
theorem dX4_back_16 : decode cX4_back 16 = .ok (.ifCond .ne 6, 3) := by decide +kernel
theorem dX4_back_19 : decode cX4_back 19 = .ok (.bipush (-2), 2) := by decide +kernel
theorem dX4_back_21 : decode cX4_back 21 = .ok (.ireturn, 1) := by decide +kernel
theorem dX4_back_22 : decode cX4_back 22 = .ok (.aload_n 0, 1) := by decide +kernel
theorem dX4_back_23 : decode cX4_back 23 = .ok (.getfield 26, 3) := by decide +kernel
theorem dX4_back_26 : decode cX4_back 26 = .ok (.aload_n 0, 1) := by decide +kernel
theorem dX4_back_27 : decode cX4_back 27 = .ok (.getfield 33, 3) := by decide +kernel
theorem dX4_back_30 : decode cX4_back 30 = .ok (.iload_n 1, 1) := by decide +kernel
theorem dX4_back_31 : decode cX4_back 31 = .ok (.aaload, 1) := by decide +kernel
theorem dX4_back_32 : decode cX4_back 32 = .ok (.invokevirtual 80, 3) := by decide +kernel
theorem dX4_back_35 : decode cX4_back 35 = .ok (.aload_n 0, 1) := by decide +kernel
theorem dX4_back_36 : decode cX4_back 36 = .ok (.getfield 26, 3) := by decide +kernel
theorem dX4_back_39 : decode cX4_back 39 = .ok (.getfield 87, 3) := by decide +kernel
theorem dX4_back_42 : decode cX4_back 42 = .ok (.ireturn, 1) := by decide +kernel
theorem dX4_sheet_0 : decode cX4_sheet 0 = .ok (.iload_n 1, 1) := by decide +kernel
theorem dX4_sheet_1 : decode cX4_sheet 1 = .ok (.iconst 3, 1) := by decide +kernel
theorem dX4_sheet_2 : decode cX4_sheet 2 = .ok (.invokestatic 62, 3) := by decide +kernel
theorem dX4_sheet_5 : decode cX4_sheet 5 = .ok (.ifCond .eq 17, 3) := by decide +kernel
theorem dX4_sheet_8 : decode cX4_sheet 8 = .ok (.iload_n 2, 1) := by decide +kernel
theorem dX4_sheet_9 : decode cX4_sheet 9 = .ok (.iconst 2, 1) := by decide +kernel
theorem dX4_sheet_10 : decode cX4_sheet 10 = .ok (.invokestatic 62, 3) := by decide +kernel
theorem dX4_sheet_13 : decode cX4_sheet 13 = .ok (.ifCond .eq 9, 3) := by decide +kernel
theorem dX4_sheet_16 : decode cX4_sheet 16 = .ok (.iload_n 3, 1) := by decide +kernel
theorem dX4_sheet_17 : decode cX4_sheet 17 = .ok (.bipush 40, 2) := by decide +kernel
theorem dX4_sheet_19 : decode cX4_sheet 19 = .ok (.if_icmp .le 5, 3) := by decide +kernel
theorem dX4_sheet_22 : decode cX4_sheet 22 = .ok (.iconst (-1), 1) := by decide +kernel
theorem dX4_sheet_23 : decode cX4_sheet 23 = .ok (.ireturn, 1) := by decide +kernel
theorem dX4_sheet_24 : decode cX4_sheet 24 = .ok (.iload_n 3, 1) := by decide +kernel
theorem dX4_sheet_25 : decode cX4_sheet 25 = .ok (.ifCond .ge 6, 3) := by decide +kernel
theorem dX4_sheet_28 : decode cX4_sheet 28 = .ok (.bipush (-14), 2) := by decide +kernel
theorem dX4_sheet_30 : decode cX4_sheet 30 = .ok (.ireturn, 1) := by decide +kernel
theorem dX4_sheet_31 : decode cX4_sheet 31 = .ok (.aload_n 0, 1) := by decide +kernel
theorem dX4_sheet_32 : decode cX4_sheet 32 = .ok (.getfield 43, 3) := by decide +kernel
theorem dX4_sheet_35 : decode cX4_sheet 35 = .ok (.iload_n 1, 1) := by decide +kernel
theorem dX4_sheet_36 : decode cX4_sheet 36 = .ok (.aaload, 1) := by decide +kernel
theorem dX4_sheet_37 : decode cX4_sheet 37 = .ok (.iload_n 2, 1) := by decide +kernel
theorem dX4_sheet_38 : decode cX4_sheet 38 = .ok (.iload_n 3, 1) := by decide +kernel
theorem dX4_sheet_39 : decode cX4_sheet 39 = .ok (.invokevirtual 193, 3) := by decide +kernel
theorem dX4_sheet_42 : decode cX4_sheet 42 = .ok (.iconst 1, 1) := by decide +kernel
theorem dX4_sheet_43 : decode cX4_sheet 43 = .ok (.ireturn, 1) := by decide +kernel
theorem dX4_lay_0 : decode cX4_lay 0 = .ok (.iload_n 1, 1) := by decide +kernel
theorem dX4_lay_1 : decode cX4_lay 1 = .ok (.iconst 3, 1) := by decide +kernel
theorem dX4_lay_2 : decode cX4_lay 2 = .ok (.invokestatic 62, 3) := by decide +kernel
theorem dX4_lay_5 : decode cX4_lay 5 = .ok (.ifCond .ne 5, 3) := by decide +kernel
theorem dX4_lay_8 : decode cX4_lay 8 = .ok (.iconst (-1), 1) := by decide +kernel
theorem dX4_lay_9 : decode cX4_lay 9 = .ok (.ireturn, 1) := by decide +kernel
theorem dX4_lay_10 : decode cX4_lay 10 = .ok (.aload_n 0, 1) := by decide +kernel
theorem dX4_lay_11 : decode cX4_lay 11 = .ok (.getfield 43, 3) := by decide +kernel
theorem dX4_lay_14 : decode cX4_lay 14 = .ok (.iload_n 1, 1) := by decide +kernel
theorem dX4_lay_15 : decode cX4_lay 15 = .ok (.aaload, 1) := by decide +kernel
theorem dX4_lay_16 : decode cX4_lay 16 = .ok (.iload_n 2, 1) := by decide +kernel
theorem dX4_lay_17 : decode cX4_lay 17 = .ok (.invokevirtual 197, 3) := by decide +kernel
theorem dX4_lay_20 : decode cX4_lay 20 = .ok (.istore 4, 2) := by decide +kernel
theorem dX4_lay_22 : decode cX4_lay 22 = .ok (.iload 4, 2) := by decide +kernel
theorem dX4_lay_24 : decode cX4_lay 24 = .ok (.ifCond .eq 9, 3) := by decide +kernel
theorem dX4_lay_27 : decode cX4_lay 27 = .ok (.bipush (-10), 2) := by decide +kernel
theorem dX4_lay_29 : decode cX4_lay 29 = .ok (.iload 4, 2) := by decide +kernel
theorem dX4_lay_31 : decode cX4_lay 31 = .ok (.isub, 1) := by decide +kernel
theorem dX4_lay_32 : decode cX4_lay 32 = .ok (.ireturn, 1) := by decide +kernel
theorem dX4_lay_33 : decode cX4_lay 33 = .ok (.aload_n 0, 1) := by decide +kernel
theorem dX4_lay_34 : decode cX4_lay 34 = .ok (.getfield 43, 3) := by decide +kernel
theorem dX4_lay_37 : decode cX4_lay 37 = .ok (.iload_n 1, 1) := by decide +kernel
theorem dX4_lay_38 : decode cX4_lay 38 = .ok (.aaload, 1) := by decide +kernel
theorem dX4_lay_39 : decode cX4_lay 39 = .ok (.iload_n 2, 1) := by decide +kernel
theorem dX4_lay_40 : decode cX4_lay 40 = .ok (.iload_n 3, 1) := by decide +kernel
theorem dX4_lay_41 : decode cX4_lay 41 = .ok (.invokevirtual 200, 3) := by decide +kernel
theorem dX4_lay_44 : decode cX4_lay 44 = .ok (.iconst 1, 1) := by decide +kernel
theorem dX4_lay_45 : decode cX4_lay 45 = .ok (.ireturn, 1) := by decide +kernel
theorem dX4_read_0 : decode cX4_read 0 = .ok (.iload_n 1, 1) := by decide +kernel
theorem dX4_read_1 : decode cX4_read 1 = .ok (.iconst 3, 1) := by decide +kernel
theorem dX4_read_2 : decode cX4_read 2 = .ok (.invokestatic 62, 3) := by decide +kernel
theorem dX4_read_5 : decode cX4_read 5 = .ok (.ifCond .eq 21, 3) := by decide +kernel
theorem dX4_read_8 : decode cX4_read 8 = .ok (.iload_n 2, 1) := by decide +kernel
theorem dX4_read_9 : decode cX4_read 9 = .ok (.iconst 2, 1) := by decide +kernel
theorem dX4_read_10 : decode cX4_read 10 = .ok (.invokestatic 62, 3) := by decide +kernel
theorem dX4_read_13 : decode cX4_read 13 = .ok (.ifCond .eq 13, 3) := by decide +kernel
theorem dX4_read_16 : decode cX4_read 16 = .ok (.iload 4, 2) := by decide +kernel
theorem dX4_read_18 : decode cX4_read 18 = .ok (.bipush 20, 2) := by decide +kernel
theorem dX4_read_20 : decode cX4_read 20 = .ok (.invokestatic 62, 3) := by decide +kernel
theorem dX4_read_23 : decode cX4_read 23 = .ok (.ifCond .ne 5, 3) := by decide +kernel
theorem dX4_read_26 : decode cX4_read 26 = .ok (.iconst (-1), 1) := by decide +kernel
theorem dX4_read_27 : decode cX4_read 27 = .ok (.ireturn, 1) := by decide +kernel
theorem dX4_read_28 : decode cX4_read 28 = .ok (.aload_n 0, 1) := by decide +kernel
theorem dX4_read_29 : decode cX4_read 29 = .ok (.getfield 43, 3) := by decide +kernel
theorem dX4_read_32 : decode cX4_read 32 = .ok (.iload_n 1, 1) := by decide +kernel
theorem dX4_read_33 : decode cX4_read 33 = .ok (.aaload, 1) := by decide +kernel
theorem dX4_read_34 : decode cX4_read 34 = .ok (.astore 5, 2) := by decide +kernel
theorem dX4_read_36 : decode cX4_read 36 = .ok (.aload_n 0, 1) := by decide +kernel
theorem dX4_read_37 : decode cX4_read 37 = .ok (.getfield 30, 3) := by decide +kernel
theorem dX4_read_40 : decode cX4_read 40 = .ok (.aload_n 0, 1) := by decide +kernel
theorem dX4_read_41 : decode cX4_read 41 = .ok (.getfield 26, 3) := by decide +kernel
theorem dX4_read_44 : decode cX4_read 44 = .ok (.invokevirtual 80, 3) := by decide +kernel
theorem dX4_read_47 : decode cX4_read 47 = .ok (.iconst 0, 1) := by decide +kernel
theorem dX4_read_48 : decode cX4_read 48 = .ok (.istore 6, 2) := by decide +kernel
theorem dX4_read_50 : decode cX4_read 50 = .ok (.iconst 0, 1) := by decide +kernel
theorem dX4_read_51 : decode cX4_read 51 = .ok (.istore 7, 2) := by decide +kernel
theorem dX4_read_53 : decode cX4_read 53 = .ok (.iconst 0, 1) := by decide +kernel
theorem dX4_read_54 : decode cX4_read 54 = .ok (.istore 8, 2) := by decide +kernel
theorem dX4_read_56 : decode cX4_read 56 = .ok (.iload 8, 2) := by decide +kernel
theorem dX4_read_58 : decode cX4_read 58 = .ok (.iload 4, 2) := by decide +kernel
theorem dX4_read_60 : decode cX4_read 60 = .ok (.if_icmp .ge 92, 3) := by decide +kernel
theorem dX4_read_63 : decode cX4_read 63 = .ok (.iload 6, 2) := by decide +kernel
theorem dX4_read_65 : decode cX4_read 65 = .ok (.ifCond .ne 87, 3) := by decide +kernel
theorem dX4_read_68 : decode cX4_read 68 = .ok (.iload_n 3, 1) := by decide +kernel
theorem dX4_read_69 : decode cX4_read 69 = .ok (.iconst 2, 1) := by decide +kernel
theorem dX4_read_70 : decode cX4_read 70 = .ok (.iload 8, 2) := by decide +kernel
theorem dX4_read_72 : decode cX4_read 72 = .ok (.imul, 1) := by decide +kernel
theorem dX4_read_73 : decode cX4_read 73 = .ok (.iadd, 1) := by decide +kernel
theorem dX4_read_74 : decode cX4_read 74 = .ok (.istore 9, 2) := by decide +kernel
theorem dX4_read_76 : decode cX4_read 76 = .ok (.aload 5, 2) := by decide +kernel
theorem dX4_read_78 : decode cX4_read 78 = .ok (.iload_n 2, 1) := by decide +kernel
theorem dX4_read_79 : decode cX4_read 79 = .ok (.iload 9, 2) := by decide +kernel
theorem dX4_read_81 : decode cX4_read 81 = .ok (.invokevirtual 203, 3) := by decide +kernel
theorem dX4_read_84 : decode cX4_read 84 = .ok (.istore 6, 2) := by decide +kernel
theorem dX4_read_86 : decode cX4_read 86 = .ok (.iload 6, 2) := by decide +kernel
theorem dX4_read_88 : decode cX4_read 88 = .ok (.ifCond .ne 58, 3) := by decide +kernel
theorem dX4_read_91 : decode cX4_read 91 = .ok (.aload 5, 2) := by decide +kernel
theorem dX4_read_93 : decode cX4_read 93 = .ok (.getfield 206, 3) := by decide +kernel
theorem dX4_read_96 : decode cX4_read 96 = .ok (.iload 9, 2) := by decide +kernel
theorem dX4_read_98 : decode cX4_read 98 = .ok (.iaload, 1) := by decide +kernel
theorem dX4_read_99 : decode cX4_read 99 = .ok (.istore 10, 2) := by decide +kernel
theorem dX4_read_101 : decode cX4_read 101 = .ok (.aload 5, 2) := by decide +kernel
theorem dX4_read_103 : decode cX4_read 103 = .ok (.getfield 206, 3) := by decide +kernel
theorem dX4_read_106 : decode cX4_read 106 = .ok (.iload 9, 2) := by decide +kernel
theorem dX4_read_108 : decode cX4_read 108 = .ok (.iconst 1, 1) := by decide +kernel
theorem dX4_read_109 : decode cX4_read 109 = .ok (.iadd, 1) := by decide +kernel
theorem dX4_read_110 : decode cX4_read 110 = .ok (.iaload, 1) := by decide +kernel
theorem dX4_read_111 : decode cX4_read 111 = .ok (.istore 11, 2) := by decide +kernel
theorem dX4_read_113 : decode cX4_read 113 = .ok (.aload_n 0, 1) := by decide +kernel
theorem dX4_read_114 : decode cX4_read 114 = .ok (.iload 10, 2) := by decide +kernel
theorem dX4_read_116 : decode cX4_read 116 = .ok (.iconst 2, 1) := by decide +kernel
theorem dX4_read_117 : decode cX4_read 117 = .ok (.iload 11, 2) := by decide +kernel
theorem dX4_read_119 : decode cX4_read 119 = .ok (.invokevirtual 137, 3) := by decide +kernel
theorem dX4_read_122 : decode cX4_read 122 = .ok (.ifCond .ne 9, 3) := by decide +kernel
theorem dX4_read_125 : decode cX4_read 125 = .ok (.bipush (-20), 2) := by decide +kernel
theorem dX4_read_127 : decode cX4_read 127 = .ok (.iload 8, 2) := by decide +kernel
theorem dX4_read_129 : decode cX4_read 129 = .ok (.isub, 1) := by decide +kernel
theorem dX4_read_130 : decode cX4_read 130 = .ok (.ireturn, 1) := by decide +kernel
theorem dX4_read_131 : decode cX4_read 131 = .ok (.aload_n 0, 1) := by decide +kernel
theorem dX4_read_132 : decode cX4_read 132 = .ok (.getfield 30, 3) := by decide +kernel
theorem dX4_read_135 : decode cX4_read 135 = .ok (.iload 10, 2) := by decide +kernel
theorem dX4_read_137 : decode cX4_read 137 = .ok (.iconst 2, 1) := by decide +kernel
theorem dX4_read_138 : decode cX4_read 138 = .ok (.iload 11, 2) := by decide +kernel
theorem dX4_read_140 : decode cX4_read 140 = .ok (.invokevirtual 141, 3) := by decide +kernel
theorem dX4_read_143 : decode cX4_read 143 = .ok (.iinc 7 1, 3) := by decide +kernel
theorem dX4_read_146 : decode cX4_read 146 = .ok (.iinc 8 1, 3) := by decide +kernel
theorem dX4_read_149 : decode cX4_read 149 = .ok (.goto (-93), 3) := by decide +kernel
theorem dX4_read_152 : decode cX4_read 152 = .ok (.aload_n 0, 1) := by decide +kernel
theorem dX4_read_153 : decode cX4_read 153 = .ok (.getfield 26, 3) := by decide +kernel
theorem dX4_read_156 : decode cX4_read 156 = .ok (.aload_n 0, 1) := by decide +kernel
theorem dX4_read_157 : decode cX4_read 157 = .ok (.getfield 30, 3) := by decide +kernel
theorem dX4_read_160 : decode cX4_read 160 = .ok (.invokevirtual 80, 3) := by decide +kernel
theorem dX4_read_163 : decode cX4_read 163 = .ok (.aload_n 0, 1) := by decide +kernel
theorem dX4_read_164 : decode cX4_read 164 = .ok (.iload 6, 2) := by decide +kernel
theorem dX4_read_166 : decode cX4_read 166 = .ok (.putfield 58, 3) := by decide +kernel
theorem dX4_read_169 : decode cX4_read 169 = .ok (.iload 7, 2) := by decide +kernel
theorem dX4_read_171 : decode cX4_read 171 = .ok (.ireturn, 1) := by decide +kernel
theorem dX4_torn_0 : decode cX4_torn 0 = .ok (.aload_n 0, 1) := by decide +kernel
theorem dX4_torn_1 : decode cX4_torn 1 = .ok (.getfield 58, 3) := by decide +kernel
theorem dX4_torn_4 : decode cX4_torn 4 = .ok (.ireturn, 1) := by decide +kernel
theorem dX4_count_0 : decode cX4_count 0 = .ok (.iload_n 1, 1) := by decide +kernel
theorem dX4_count_1 : decode cX4_count 1 = .ok (.tableswitch 121 0 5 #[39, 47, 67, 75, 103, 112], 39) := by decide +kernel
theorem dX4_count_40 : decode cX4_count 40 = .ok (.aload_n 0, 1) := by decide +kernel
theorem dX4_count_41 : decode cX4_count 41 = .ok (.getfield 26, 3) := by decide +kernel
theorem dX4_count_44 : decode cX4_count 44 = .ok (.getfield 171, 3) := by decide +kernel
theorem dX4_count_47 : decode cX4_count 47 = .ok (.ireturn, 1) := by decide +kernel
theorem dX4_count_48 : decode cX4_count 48 = .ok (.aload_n 0, 1) := by decide +kernel
theorem dX4_count_49 : decode cX4_count 49 = .ok (.getfield 37, 3) := by decide +kernel
theorem dX4_count_52 : decode cX4_count 52 = .ok (.iconst 0, 1) := by decide +kernel
theorem dX4_count_53 : decode cX4_count 53 = .ok (.baload, 1) := by decide +kernel
theorem dX4_count_54 : decode cX4_count 54 = .ok (.invokestatic 97, 3) := by decide +kernel
theorem dX4_count_57 : decode cX4_count 57 = .ok (.aload_n 0, 1) := by decide +kernel
theorem dX4_count_58 : decode cX4_count 58 = .ok (.getfield 37, 3) := by decide +kernel
theorem dX4_count_61 : decode cX4_count 61 = .ok (.iconst 1, 1) := by decide +kernel
theorem dX4_count_62 : decode cX4_count 62 = .ok (.baload, 1) := by decide +kernel
theorem dX4_count_63 : decode cX4_count 63 = .ok (.invokestatic 97, 3) := by decide +kernel
theorem dX4_count_66 : decode cX4_count 66 = .ok (.iadd, 1) := by decide +kernel
theorem dX4_count_67 : decode cX4_count 67 = .ok (.ireturn, 1) := by decide +kernel
theorem dX4_count_68 : decode cX4_count 68 = .ok (.aload_n 0, 1) := by decide +kernel
theorem dX4_count_69 : decode cX4_count 69 = .ok (.getfield 12, 3) := by decide +kernel
theorem dX4_count_72 : decode cX4_count 72 = .ok (.getfield 66, 3) := by decide +kernel
theorem dX4_count_75 : decode cX4_count 75 = .ok (.ireturn, 1) := by decide +kernel
theorem dX4_count_76 : decode cX4_count 76 = .ok (.aload_n 0, 1) := by decide +kernel
theorem dX4_count_77 : decode cX4_count 77 = .ok (.getfield 43, 3) := by decide +kernel
theorem dX4_count_80 : decode cX4_count 80 = .ok (.iconst 0, 1) := by decide +kernel
theorem dX4_count_81 : decode cX4_count 81 = .ok (.aaload, 1) := by decide +kernel
theorem dX4_count_82 : decode cX4_count 82 = .ok (.getfield 209, 3) := by decide +kernel
theorem dX4_count_85 : decode cX4_count 85 = .ok (.iconst (-1), 1) := by decide +kernel
theorem dX4_count_86 : decode cX4_count 86 = .ok (.if_icmp .ne 8, 3) := by decide +kernel
theorem dX4_count_89 : decode cX4_count 89 = .ok (.bipush (-4), 2) := by decide +kernel
theorem dX4_count_91 : decode cX4_count 91 = .ok (.goto 12, 3) := by decide +kernel
theorem dX4_count_94 : decode cX4_count 94 = .ok (.aload_n 0, 1) := by decide +kernel
theorem dX4_count_95 : decode cX4_count 95 = .ok (.getfield 43, 3) := by decide +kernel
theorem dX4_count_98 : decode cX4_count 98 = .ok (.iconst 0, 1) := by decide +kernel
theorem dX4_count_99 : decode cX4_count 99 = .ok (.aaload, 1) := by decide +kernel
theorem dX4_count_100 : decode cX4_count 100 = .ok (.getfield 209, 3) := by decide +kernel
theorem dX4_count_103 : decode cX4_count 103 = .ok (.ireturn, 1) := by decide +kernel
theorem dX4_count_104 : decode cX4_count 104 = .ok (.aload_n 0, 1) := by decide +kernel
theorem dX4_count_105 : decode cX4_count 105 = .ok (.getfield 26, 3) := by decide +kernel
theorem dX4_count_108 : decode cX4_count 108 = .ok (.iconst 2, 1) := by decide +kernel
theorem dX4_count_109 : decode cX4_count 109 = .ok (.invokevirtual 151, 3) := by decide +kernel
theorem dX4_count_112 : decode cX4_count 112 = .ok (.ireturn, 1) := by decide +kernel
theorem dX4_count_113 : decode cX4_count 113 = .ok (.aload_n 0, 1) := by decide +kernel
theorem dX4_count_114 : decode cX4_count 114 = .ok (.getfield 26, 3) := by decide +kernel
theorem dX4_count_117 : decode cX4_count 117 = .ok (.iconst 3, 1) := by decide +kernel
theorem dX4_count_118 : decode cX4_count 118 = .ok (.invokevirtual 151, 3) := by decide +kernel
theorem dX4_count_121 : decode cX4_count 121 = .ok (.ireturn, 1) := by decide +kernel
theorem dX4_count_122 : decode cX4_count 122 = .ok (.iconst (-1), 1) := by decide +kernel
theorem dX4_count_123 : decode cX4_count 123 = .ok (.ireturn, 1) := by decide +kernel
theorem dX4_within_0 : decode cX4_within 0 = .ok (.iload_n 0, 1) := by decide +kernel
theorem dX4_within_1 : decode cX4_within 1 = .ok (.ifCond .lt 12, 3) := by decide +kernel
theorem dX4_within_4 : decode cX4_within 4 = .ok (.iload_n 0, 1) := by decide +kernel
theorem dX4_within_5 : decode cX4_within 5 = .ok (.iload_n 1, 1) := by decide +kernel
theorem dX4_within_6 : decode cX4_within 6 = .ok (.if_icmp .gt 7, 3) := by decide +kernel
theorem dX4_within_9 : decode cX4_within 9 = .ok (.iconst 1, 1) := by decide +kernel
theorem dX4_within_10 : decode cX4_within 10 = .ok (.goto 4, 3) := by decide +kernel
theorem dX4_within_13 : decode cX4_within 13 = .ok (.iconst 0, 1) := by decide +kernel
theorem dX4_within_14 : decode cX4_within 14 = .ok (.ireturn, 1) := by decide +kernel
theorem dX4_bit_0 : decode cX4_bit 0 = .ok (.iload_n 0, 1) := by decide +kernel
theorem dX4_bit_1 : decode cX4_bit 1 = .ok (.ifCond .eq 7, 3) := by decide +kernel
theorem dX4_bit_4 : decode cX4_bit 4 = .ok (.iconst 1, 1) := by decide +kernel
theorem dX4_bit_5 : decode cX4_bit 5 = .ok (.goto 4, 3) := by decide +kernel
theorem dX4_bit_8 : decode cX4_bit 8 = .ok (.iconst 0, 1) := by decide +kernel
theorem dX4_bit_9 : decode cX4_bit 9 = .ok (.ireturn, 1) := by decide +kernel
theorem dX4_sign_0 : decode cX4_sign 0 = .ok (.iload_n 0, 1) := by decide +kernel
theorem dX4_sign_1 : decode cX4_sign 1 = .ok (.ifCond .le 7, 3) := by decide +kernel
theorem dX4_sign_4 : decode cX4_sign 4 = .ok (.iconst 1, 1) := by decide +kernel
theorem dX4_sign_5 : decode cX4_sign 5 = .ok (.goto 12, 3) := by decide +kernel
theorem dX4_sign_8 : decode cX4_sign 8 = .ok (.iload_n 0, 1) := by decide +kernel
theorem dX4_sign_9 : decode cX4_sign 9 = .ok (.ifCond .ge 7, 3) := by decide +kernel
theorem dX4_sign_12 : decode cX4_sign 12 = .ok (.iconst (-1), 1) := by decide +kernel
theorem dX4_sign_13 : decode cX4_sign 13 = .ok (.goto 4, 3) := by decide +kernel
theorem dX4_sign_16 : decode cX4_sign 16 = .ok (.iconst 0, 1) := by decide +kernel
theorem dX4_sign_17 : decode cX4_sign 17 = .ok (.ireturn, 1) := by decide +kernel
theorem dX4_isMember_0 : decode cX4_isMember 0 = .ok (.iload_n 1, 1) := by decide +kernel
theorem dX4_isMember_1 : decode cX4_isMember 1 = .ok (.aload_n 0, 1) := by decide +kernel
theorem dX4_isMember_2 : decode cX4_isMember 2 = .ok (.getfield 26, 3) := by decide +kernel
theorem dX4_isMember_5 : decode cX4_isMember 5 = .ok (.getfield 84, 3) := by decide +kernel
theorem dX4_isMember_8 : decode cX4_isMember 8 = .ok (.iconst 1, 1) := by decide +kernel
theorem dX4_isMember_9 : decode cX4_isMember 9 = .ok (.isub, 1) := by decide +kernel
theorem dX4_isMember_10 : decode cX4_isMember 10 = .ok (.invokestatic 62, 3) := by decide +kernel
theorem dX4_isMember_13 : decode cX4_isMember 13 = .ok (.ireturn, 1) := by decide +kernel
theorem dX4_canAlter_0 : decode cX4_canAlter 0 = .ok (.aload_n 0, 1) := by decide +kernel
theorem dX4_canAlter_1 : decode cX4_canAlter 1 = .ok (.iload_n 1, 1) := by decide +kernel
theorem dX4_canAlter_2 : decode cX4_canAlter 2 = .ok (.invokevirtual 112, 3) := by decide +kernel
theorem dX4_canAlter_5 : decode cX4_canAlter 5 = .ok (.ifCond .eq 27, 3) := by decide +kernel
theorem dX4_canAlter_8 : decode cX4_canAlter 8 = .ok (.iload_n 2, 1) := by decide +kernel
theorem dX4_canAlter_9 : decode cX4_canAlter 9 = .ok (.iconst 3, 1) := by decide +kernel
theorem dX4_canAlter_10 : decode cX4_canAlter 10 = .ok (.invokestatic 62, 3) := by decide +kernel
theorem dX4_canAlter_13 : decode cX4_canAlter 13 = .ok (.ifCond .eq 19, 3) := by decide +kernel
theorem dX4_canAlter_16 : decode cX4_canAlter 16 = .ok (.iload_n 3, 1) := by decide +kernel
theorem dX4_canAlter_17 : decode cX4_canAlter 17 = .ok (.getstatic 212, 3) := by decide +kernel
theorem dX4_canAlter_20 : decode cX4_canAlter 20 = .ok (.iload_n 2, 1) := by decide +kernel
theorem dX4_canAlter_21 : decode cX4_canAlter 21 = .ok (.iaload, 1) := by decide +kernel
theorem dX4_canAlter_22 : decode cX4_canAlter 22 = .ok (.invokestatic 62, 3) := by decide +kernel
theorem dX4_canAlter_25 : decode cX4_canAlter 25 = .ok (.ifCond .eq 7, 3) := by decide +kernel
theorem dX4_canAlter_28 : decode cX4_canAlter 28 = .ok (.iconst 1, 1) := by decide +kernel
theorem dX4_canAlter_29 : decode cX4_canAlter 29 = .ok (.goto 4, 3) := by decide +kernel
theorem dX4_canAlter_32 : decode cX4_canAlter 32 = .ok (.iconst 0, 1) := by decide +kernel
theorem dX4_canAlter_33 : decode cX4_canAlter 33 = .ok (.ireturn, 1) := by decide +kernel
theorem dX4_soonest_0 : decode cX4_soonest 0 = .ok (.bipush 61, 2) := by decide +kernel
theorem dX4_soonest_2 : decode cX4_soonest 2 = .ok (.istore 4, 2) := by decide +kernel
theorem dX4_soonest_4 : decode cX4_soonest 4 = .ok (.bipush (-4), 2) := by decide +kernel
theorem dX4_soonest_6 : decode cX4_soonest 6 = .ok (.istore 5, 2) := by decide +kernel
theorem dX4_soonest_8 : decode cX4_soonest 8 = .ok (.iconst 0, 1) := by decide +kernel
theorem dX4_soonest_9 : decode cX4_soonest 9 = .ok (.istore 6, 2) := by decide +kernel
theorem dX4_soonest_11 : decode cX4_soonest 11 = .ok (.iload 6, 2) := by decide +kernel
theorem dX4_soonest_13 : decode cX4_soonest 13 = .ok (.getstatic 212, 3) := by decide +kernel
theorem dX4_soonest_16 : decode cX4_soonest 16 = .ok (.iload_n 2, 1) := by decide +kernel
theorem dX4_soonest_17 : decode cX4_soonest 17 = .ok (.iaload, 1) := by decide +kernel
theorem dX4_soonest_18 : decode cX4_soonest 18 = .ok (.if_icmp .gt 55, 3) := by decide +kernel
theorem dX4_soonest_21 : decode cX4_soonest 21 = .ok (.aload_n 0, 1) := by decide +kernel
theorem dX4_soonest_22 : decode cX4_soonest 22 = .ok (.getfield 30, 3) := by decide +kernel
theorem dX4_soonest_25 : decode cX4_soonest 25 = .ok (.aload_n 0, 1) := by decide +kernel
theorem dX4_soonest_26 : decode cX4_soonest 26 = .ok (.getfield 26, 3) := by decide +kernel
theorem dX4_soonest_29 : decode cX4_soonest 29 = .ok (.invokevirtual 80, 3) := by decide +kernel
theorem dX4_soonest_32 : decode cX4_soonest 32 = .ok (.aload_n 0, 1) := by decide +kernel
theorem dX4_soonest_33 : decode cX4_soonest 33 = .ok (.getfield 30, 3) := by decide +kernel
theorem dX4_soonest_36 : decode cX4_soonest 36 = .ok (.iload_n 1, 1) := by decide +kernel
theorem dX4_soonest_37 : decode cX4_soonest 37 = .ok (.iload_n 2, 1) := by decide +kernel
theorem dX4_soonest_38 : decode cX4_soonest 38 = .ok (.iload 6, 2) := by decide +kernel
theorem dX4_soonest_40 : decode cX4_soonest 40 = .ok (.invokevirtual 141, 3) := by decide +kernel
theorem dX4_soonest_43 : decode cX4_soonest 43 = .ok (.aload_n 0, 1) := by decide +kernel
theorem dX4_soonest_44 : decode cX4_soonest 44 = .ok (.getfield 30, 3) := by decide +kernel
theorem dX4_soonest_47 : decode cX4_soonest 47 = .ok (.invokevirtual 154, 3) := by decide +kernel
theorem dX4_soonest_50 : decode cX4_soonest 50 = .ok (.istore 7, 2) := by decide +kernel
theorem dX4_soonest_52 : decode cX4_soonest 52 = .ok (.iload 7, 2) := by decide +kernel
theorem dX4_soonest_54 : decode cX4_soonest 54 = .ok (.iload 4, 2) := by decide +kernel
theorem dX4_soonest_56 : decode cX4_soonest 56 = .ok (.if_icmp .ge 11, 3) := by decide +kernel
theorem dX4_soonest_59 : decode cX4_soonest 59 = .ok (.iload 7, 2) := by decide +kernel
theorem dX4_soonest_61 : decode cX4_soonest 61 = .ok (.istore 4, 2) := by decide +kernel
theorem dX4_soonest_63 : decode cX4_soonest 63 = .ok (.iload 6, 2) := by decide +kernel
theorem dX4_soonest_65 : decode cX4_soonest 65 = .ok (.istore 5, 2) := by decide +kernel
theorem dX4_soonest_67 : decode cX4_soonest 67 = .ok (.iinc 6 1, 3) := by decide +kernel
theorem dX4_soonest_70 : decode cX4_soonest 70 = .ok (.goto (-59), 3) := by decide +kernel
theorem dX4_soonest_73 : decode cX4_soonest 73 = .ok (.iload 5, 2) := by decide +kernel
theorem dX4_soonest_75 : decode cX4_soonest 75 = .ok (.bipush (-4), 2) := by decide +kernel
theorem dX4_soonest_77 : decode cX4_soonest 77 = .ok (.if_icmp .ne 6, 3) := by decide +kernel
theorem dX4_soonest_80 : decode cX4_soonest 80 = .ok (.bipush (-4), 2) := by decide +kernel
theorem dX4_soonest_82 : decode cX4_soonest 82 = .ok (.ireturn, 1) := by decide +kernel
theorem dX4_soonest_83 : decode cX4_soonest 83 = .ok (.iload_n 3, 1) := by decide +kernel
theorem dX4_soonest_84 : decode cX4_soonest 84 = .ok (.ifCond .ne 8, 3) := by decide +kernel
theorem dX4_soonest_87 : decode cX4_soonest 87 = .ok (.iload 5, 2) := by decide +kernel
theorem dX4_soonest_89 : decode cX4_soonest 89 = .ok (.goto 5, 3) := by decide +kernel
theorem dX4_soonest_92 : decode cX4_soonest 92 = .ok (.iload 4, 2) := by decide +kernel
theorem dX4_soonest_94 : decode cX4_soonest 94 = .ok (.ireturn, 1) := by decide +kernel
theorem dX4_soonerWith_0 : decode cX4_soonerWith 0 = .ok (.aload_n 0, 1) := by decide +kernel
theorem dX4_soonerWith_1 : decode cX4_soonerWith 1 = .ok (.getfield 30, 3) := by decide +kernel
theorem dX4_soonerWith_4 : decode cX4_soonerWith 4 = .ok (.aload_n 0, 1) := by decide +kernel
theorem dX4_soonerWith_5 : decode cX4_soonerWith 5 = .ok (.getfield 26, 3) := by decide +kernel
theorem dX4_soonerWith_8 : decode cX4_soonerWith 8 = .ok (.invokevirtual 80, 3) := by decide +kernel
theorem dX4_soonerWith_11 : decode cX4_soonerWith 11 = .ok (.aload_n 0, 1) := by decide +kernel
theorem dX4_soonerWith_12 : decode cX4_soonerWith 12 = .ok (.getfield 30, 3) := by decide +kernel
theorem dX4_soonerWith_15 : decode cX4_soonerWith 15 = .ok (.invokevirtual 154, 3) := by decide +kernel
theorem dX4_soonerWith_18 : decode cX4_soonerWith 18 = .ok (.istore_n 3, 1) := by decide +kernel
theorem dX4_soonerWith_19 : decode cX4_soonerWith 19 = .ok (.bipush (-4), 2) := by decide +kernel
theorem dX4_soonerWith_21 : decode cX4_soonerWith 21 = .ok (.istore 4, 2) := by decide +kernel
theorem dX4_soonerWith_23 : decode cX4_soonerWith 23 = .ok (.iconst 0, 1) := by decide +kernel
theorem dX4_soonerWith_24 : decode cX4_soonerWith 24 = .ok (.istore 5, 2) := by decide +kernel
theorem dX4_soonerWith_26 : decode cX4_soonerWith 26 = .ok (.iload 5, 2) := by decide +kernel
theorem dX4_soonerWith_28 : decode cX4_soonerWith 28 = .ok (.aload_n 0, 1) := by decide +kernel
theorem dX4_soonerWith_29 : decode cX4_soonerWith 29 = .ok (.getfield 26, 3) := by decide +kernel
theorem dX4_soonerWith_32 : decode cX4_soonerWith 32 = .ok (.getfield 84, 3) := by decide +kernel
theorem dX4_soonerWith_35 : decode cX4_soonerWith 35 = .ok (.if_icmp .ge 80, 3) := by decide +kernel
theorem dX4_soonerWith_38 : decode cX4_soonerWith 38 = .ok (.aload_n 0, 1) := by decide +kernel
theorem dX4_soonerWith_39 : decode cX4_soonerWith 39 = .ok (.getfield 30, 3) := by decide +kernel
theorem dX4_soonerWith_42 : decode cX4_soonerWith 42 = .ok (.aload_n 0, 1) := by decide +kernel
theorem dX4_soonerWith_43 : decode cX4_soonerWith 43 = .ok (.getfield 26, 3) := by decide +kernel
theorem dX4_soonerWith_46 : decode cX4_soonerWith 46 = .ok (.invokevirtual 80, 3) := by decide +kernel
theorem dX4_soonerWith_49 : decode cX4_soonerWith 49 = .ok (.iload_n 1, 1) := by decide +kernel
theorem dX4_soonerWith_50 : decode cX4_soonerWith 50 = .ok (.ifCond .eq 15, 3) := by decide +kernel
theorem dX4_soonerWith_53 : decode cX4_soonerWith 53 = .ok (.aload_n 0, 1) := by decide +kernel
theorem dX4_soonerWith_54 : decode cX4_soonerWith 54 = .ok (.getfield 30, 3) := by decide +kernel
theorem dX4_soonerWith_57 : decode cX4_soonerWith 57 = .ok (.iload 5, 2) := by decide +kernel
theorem dX4_soonerWith_59 : decode cX4_soonerWith 59 = .ok (.invokevirtual 215, 3) := by decide +kernel
theorem dX4_soonerWith_62 : decode cX4_soonerWith 62 = .ok (.goto 25, 3) := by decide +kernel
theorem dX4_soonerWith_65 : decode cX4_soonerWith 65 = .ok (.aload_n 0, 1) := by decide +kernel
theorem dX4_soonerWith_66 : decode cX4_soonerWith 66 = .ok (.getfield 30, 3) := by decide +kernel
theorem dX4_soonerWith_69 : decode cX4_soonerWith 69 = .ok (.iload 5, 2) := by decide +kernel
theorem dX4_soonerWith_71 : decode cX4_soonerWith 71 = .ok (.iconst 1, 1) := by decide +kernel
theorem dX4_soonerWith_72 : decode cX4_soonerWith 72 = .ok (.iconst 1, 1) := by decide +kernel
theorem dX4_soonerWith_73 : decode cX4_soonerWith 73 = .ok (.aload_n 0, 1) := by decide +kernel
theorem dX4_soonerWith_74 : decode cX4_soonerWith 74 = .ok (.getfield 26, 3) := by decide +kernel
theorem dX4_soonerWith_77 : decode cX4_soonerWith 77 = .ok (.iload 5, 2) := by decide +kernel
theorem dX4_soonerWith_79 : decode cX4_soonerWith 79 = .ok (.iconst 1, 1) := by decide +kernel
theorem dX4_soonerWith_80 : decode cX4_soonerWith 80 = .ok (.invokevirtual 116, 3) := by decide +kernel
theorem dX4_soonerWith_83 : decode cX4_soonerWith 83 = .ok (.isub, 1) := by decide +kernel
theorem dX4_soonerWith_84 : decode cX4_soonerWith 84 = .ok (.invokevirtual 141, 3) := by decide +kernel
theorem dX4_soonerWith_87 : decode cX4_soonerWith 87 = .ok (.aload_n 0, 1) := by decide +kernel
theorem dX4_soonerWith_88 : decode cX4_soonerWith 88 = .ok (.getfield 30, 3) := by decide +kernel
theorem dX4_soonerWith_91 : decode cX4_soonerWith 91 = .ok (.invokevirtual 154, 3) := by decide +kernel
theorem dX4_soonerWith_94 : decode cX4_soonerWith 94 = .ok (.istore 6, 2) := by decide +kernel
theorem dX4_soonerWith_96 : decode cX4_soonerWith 96 = .ok (.iload 6, 2) := by decide +kernel
theorem dX4_soonerWith_98 : decode cX4_soonerWith 98 = .ok (.iload_n 3, 1) := by decide +kernel
theorem dX4_soonerWith_99 : decode cX4_soonerWith 99 = .ok (.if_icmp .ge 10, 3) := by decide +kernel
theorem dX4_soonerWith_102 : decode cX4_soonerWith 102 = .ok (.iload 6, 2) := by decide +kernel
theorem dX4_soonerWith_104 : decode cX4_soonerWith 104 = .ok (.istore_n 3, 1) := by decide +kernel
theorem dX4_soonerWith_105 : decode cX4_soonerWith 105 = .ok (.iload 5, 2) := by decide +kernel
theorem dX4_soonerWith_107 : decode cX4_soonerWith 107 = .ok (.istore 4, 2) := by decide +kernel
theorem dX4_soonerWith_109 : decode cX4_soonerWith 109 = .ok (.iinc 5 1, 3) := by decide +kernel
theorem dX4_soonerWith_112 : decode cX4_soonerWith 112 = .ok (.goto (-86), 3) := by decide +kernel
theorem dX4_soonerWith_115 : decode cX4_soonerWith 115 = .ok (.iload 4, 2) := by decide +kernel
theorem dX4_soonerWith_117 : decode cX4_soonerWith 117 = .ok (.bipush (-4), 2) := by decide +kernel
theorem dX4_soonerWith_119 : decode cX4_soonerWith 119 = .ok (.if_icmp .ne 6, 3) := by decide +kernel
theorem dX4_soonerWith_122 : decode cX4_soonerWith 122 = .ok (.bipush (-4), 2) := by decide +kernel
theorem dX4_soonerWith_124 : decode cX4_soonerWith 124 = .ok (.ireturn, 1) := by decide +kernel
theorem dX4_soonerWith_125 : decode cX4_soonerWith 125 = .ok (.iload_n 2, 1) := by decide +kernel
theorem dX4_soonerWith_126 : decode cX4_soonerWith 126 = .ok (.ifCond .ne 8, 3) := by decide +kernel
theorem dX4_soonerWith_129 : decode cX4_soonerWith 129 = .ok (.iload 4, 2) := by decide +kernel
theorem dX4_soonerWith_131 : decode cX4_soonerWith 131 = .ok (.goto 4, 3) := by decide +kernel
theorem dX4_soonerWith_134 : decode cX4_soonerWith 134 = .ok (.iload_n 3, 1) := by decide +kernel
theorem dX4_soonerWith_135 : decode cX4_soonerWith 135 = .ok (.ireturn, 1) := by decide +kernel
theorem dX4_byOdds_0 : decode cX4_byOdds 0 = .ok (.lconst 0, 1) := by decide +kernel
theorem dX4_byOdds_1 : decode cX4_byOdds 1 = .ok (.lstore 5, 2) := by decide +kernel
theorem dX4_byOdds_3 : decode cX4_byOdds 3 = .ok (.lconst 0, 1) := by decide +kernel
theorem dX4_byOdds_4 : decode cX4_byOdds 4 = .ok (.lstore 7, 2) := by decide +kernel
theorem dX4_byOdds_6 : decode cX4_byOdds 6 = .ok (.iconst 0, 1) := by decide +kernel
theorem dX4_byOdds_7 : decode cX4_byOdds 7 = .ok (.istore 9, 2) := by decide +kernel
theorem dX4_byOdds_9 : decode cX4_byOdds 9 = .ok (.iload 9, 2) := by decide +kernel
theorem dX4_byOdds_11 : decode cX4_byOdds 11 = .ok (.iconst 1, 1) := by decide +kernel
theorem dX4_byOdds_12 : decode cX4_byOdds 12 = .ok (.iload_n 2, 1) := by decide +kernel
theorem dX4_byOdds_13 : decode cX4_byOdds 13 = .ok (.ishl, 1) := by decide +kernel
theorem dX4_byOdds_14 : decode cX4_byOdds 14 = .ok (.if_icmp .ge 115, 3) := by decide +kernel
theorem dX4_byOdds_17 : decode cX4_byOdds 17 = .ok (.iload 9, 2) := by decide +kernel
theorem dX4_byOdds_19 : decode cX4_byOdds 19 = .ok (.iload_n 1, 1) := by decide +kernel
theorem dX4_byOdds_20 : decode cX4_byOdds 20 = .ok (.iload_n 2, 1) := by decide +kernel
theorem dX4_byOdds_21 : decode cX4_byOdds 21 = .ok (.invokestatic 219, 3) := by decide +kernel
theorem dX4_byOdds_24 : decode cX4_byOdds 24 = .ok (.lstore 10, 2) := by decide +kernel
theorem dX4_byOdds_26 : decode cX4_byOdds 26 = .ok (.lload 7, 2) := by decide +kernel
theorem dX4_byOdds_28 : decode cX4_byOdds 28 = .ok (.lload 10, 2) := by decide +kernel
theorem dX4_byOdds_30 : decode cX4_byOdds 30 = .ok (.ladd, 1) := by decide +kernel
theorem dX4_byOdds_31 : decode cX4_byOdds 31 = .ok (.lstore 7, 2) := by decide +kernel
theorem dX4_byOdds_33 : decode cX4_byOdds 33 = .ok (.lload 10, 2) := by decide +kernel
theorem dX4_byOdds_35 : decode cX4_byOdds 35 = .ok (.lconst 0, 1) := by decide +kernel
theorem dX4_byOdds_36 : decode cX4_byOdds 36 = .ok (.lcmp, 1) := by decide +kernel
theorem dX4_byOdds_37 : decode cX4_byOdds 37 = .ok (.ifCond .le 86, 3) := by decide +kernel
theorem dX4_byOdds_40 : decode cX4_byOdds 40 = .ok (.aload_n 0, 1) := by decide +kernel
theorem dX4_byOdds_41 : decode cX4_byOdds 41 = .ok (.getfield 30, 3) := by decide +kernel
theorem dX4_byOdds_44 : decode cX4_byOdds 44 = .ok (.aload_n 0, 1) := by decide +kernel
theorem dX4_byOdds_45 : decode cX4_byOdds 45 = .ok (.getfield 26, 3) := by decide +kernel
theorem dX4_byOdds_48 : decode cX4_byOdds 48 = .ok (.invokevirtual 80, 3) := by decide +kernel
theorem dX4_byOdds_51 : decode cX4_byOdds 51 = .ok (.iconst 0, 1) := by decide +kernel
theorem dX4_byOdds_52 : decode cX4_byOdds 52 = .ok (.istore 12, 2) := by decide +kernel
theorem dX4_byOdds_54 : decode cX4_byOdds 54 = .ok (.iload 12, 2) := by decide +kernel
theorem dX4_byOdds_56 : decode cX4_byOdds 56 = .ok (.iload_n 2, 1) := by decide +kernel
theorem dX4_byOdds_57 : decode cX4_byOdds 57 = .ok (.if_icmp .ge 32, 3) := by decide +kernel
theorem dX4_byOdds_60 : decode cX4_byOdds 60 = .ok (.aload_n 0, 1) := by decide +kernel
theorem dX4_byOdds_61 : decode cX4_byOdds 61 = .ok (.getfield 30, 3) := by decide +kernel
theorem dX4_byOdds_64 : decode cX4_byOdds 64 = .ok (.iload 9, 2) := by decide +kernel
theorem dX4_byOdds_66 : decode cX4_byOdds 66 = .ok (.iload 12, 2) := by decide +kernel
theorem dX4_byOdds_68 : decode cX4_byOdds 68 = .ok (.ishr, 1) := by decide +kernel
theorem dX4_byOdds_69 : decode cX4_byOdds 69 = .ok (.iconst 1, 1) := by decide +kernel
theorem dX4_byOdds_70 : decode cX4_byOdds 70 = .ok (.iand, 1) := by decide +kernel
theorem dX4_byOdds_71 : decode cX4_byOdds 71 = .ok (.ifCond .ne 7, 3) := by decide +kernel
theorem dX4_byOdds_74 : decode cX4_byOdds 74 = .ok (.iconst 1, 1) := by decide +kernel
theorem dX4_byOdds_75 : decode cX4_byOdds 75 = .ok (.goto 4, 3) := by decide +kernel
theorem dX4_byOdds_78 : decode cX4_byOdds 78 = .ok (.iconst 0, 1) := by decide +kernel
theorem dX4_byOdds_79 : decode cX4_byOdds 79 = .ok (.invokevirtual 190, 3) := by decide +kernel
theorem dX4_byOdds_82 : decode cX4_byOdds 82 = .ok (.pop, 1) := by decide +kernel
theorem dX4_byOdds_83 : decode cX4_byOdds 83 = .ok (.iinc 12 1, 3) := by decide +kernel
theorem dX4_byOdds_86 : decode cX4_byOdds 86 = .ok (.goto (-32), 3) := by decide +kernel
theorem dX4_byOdds_89 : decode cX4_byOdds 89 = .ok (.lload 5, 2) := by decide +kernel
theorem dX4_byOdds_91 : decode cX4_byOdds 91 = .ok (.lload 10, 2) := by decide +kernel
theorem dX4_byOdds_93 : decode cX4_byOdds 93 = .ok (.iload 4, 2) := by decide +kernel
theorem dX4_byOdds_95 : decode cX4_byOdds 95 = .ok (.ifCond .eq 16, 3) := by decide +kernel
theorem dX4_byOdds_98 : decode cX4_byOdds 98 = .ok (.aload_n 0, 1) := by decide +kernel
theorem dX4_byOdds_99 : decode cX4_byOdds 99 = .ok (.getfield 30, 3) := by decide +kernel
theorem dX4_byOdds_102 : decode cX4_byOdds 102 = .ok (.invokevirtual 93, 3) := by decide +kernel
theorem dX4_byOdds_105 : decode cX4_byOdds 105 = .ok (.invokestatic 97, 3) := by decide +kernel
theorem dX4_byOdds_108 : decode cX4_byOdds 108 = .ok (.goto 10, 3) := by decide +kernel
theorem dX4_byOdds_111 : decode cX4_byOdds 111 = .ok (.aload_n 0, 1) := by decide +kernel
theorem dX4_byOdds_112 : decode cX4_byOdds 112 = .ok (.getfield 30, 3) := by decide +kernel
theorem dX4_byOdds_115 : decode cX4_byOdds 115 = .ok (.getfield 90, 3) := by decide +kernel
theorem dX4_byOdds_118 : decode cX4_byOdds 118 = .ok (.i2l, 1) := by decide +kernel
theorem dX4_byOdds_119 : decode cX4_byOdds 119 = .ok (.lmul, 1) := by decide +kernel
theorem dX4_byOdds_120 : decode cX4_byOdds 120 = .ok (.ladd, 1) := by decide +kernel
theorem dX4_byOdds_121 : decode cX4_byOdds 121 = .ok (.lstore 5, 2) := by decide +kernel
theorem dX4_byOdds_123 : decode cX4_byOdds 123 = .ok (.iinc 9 1, 3) := by decide +kernel
theorem dX4_byOdds_126 : decode cX4_byOdds 126 = .ok (.goto (-117), 3) := by decide +kernel
theorem dX4_byOdds_129 : decode cX4_byOdds 129 = .ok (.lload 7, 2) := by decide +kernel
theorem dX4_byOdds_131 : decode cX4_byOdds 131 = .ok (.lload 5, 2) := by decide +kernel
theorem dX4_byOdds_133 : decode cX4_byOdds 133 = .ok (.invokestatic 223, 3) := by decide +kernel
theorem dX4_byOdds_136 : decode cX4_byOdds 136 = .ok (.lstore 9, 2) := by decide +kernel
theorem dX4_byOdds_138 : decode cX4_byOdds 138 = .ok (.lload 9, 2) := by decide +kernel
theorem dX4_byOdds_140 : decode cX4_byOdds 140 = .ok (.lconst 1, 1) := by decide +kernel
theorem dX4_byOdds_141 : decode cX4_byOdds 141 = .ok (.lcmp, 1) := by decide +kernel
theorem dX4_byOdds_142 : decode cX4_byOdds 142 = .ok (.ifCond .ge 6, 3) := by decide +kernel
theorem dX4_byOdds_145 : decode cX4_byOdds 145 = .ok (.iload_n 3, 1) := by decide +kernel
theorem dX4_byOdds_146 : decode cX4_byOdds 146 = .ok (.i2l, 1) := by decide +kernel
theorem dX4_byOdds_147 : decode cX4_byOdds 147 = .ok (.lreturn, 1) := by decide +kernel
theorem dX4_byOdds_148 : decode cX4_byOdds 148 = .ok (.iload_n 3, 1) := by decide +kernel
theorem dX4_byOdds_149 : decode cX4_byOdds 149 = .ok (.ifCond .ne 11, 3) := by decide +kernel
theorem dX4_byOdds_152 : decode cX4_byOdds 152 = .ok (.lload 5, 2) := by decide +kernel
theorem dX4_byOdds_154 : decode cX4_byOdds 154 = .ok (.lload 9, 2) := by decide +kernel
theorem dX4_byOdds_156 : decode cX4_byOdds 156 = .ok (.ldiv, 1) := by decide +kernel
theorem dX4_byOdds_157 : decode cX4_byOdds 157 = .ok (.goto 8, 3) := by decide +kernel
theorem dX4_byOdds_160 : decode cX4_byOdds 160 = .ok (.lload 7, 2) := by decide +kernel
theorem dX4_byOdds_162 : decode cX4_byOdds 162 = .ok (.lload 9, 2) := by decide +kernel
theorem dX4_byOdds_164 : decode cX4_byOdds 164 = .ok (.ldiv, 1) := by decide +kernel
theorem dX4_byOdds_165 : decode cX4_byOdds 165 = .ok (.lreturn, 1) := by decide +kernel
theorem dX4_weightOf_0 : decode cX4_weightOf 0 = .ok (.lconst 1, 1) := by decide +kernel
theorem dX4_weightOf_1 : decode cX4_weightOf 1 = .ok (.lstore_n 3, 1) := by decide +kernel
theorem dX4_weightOf_2 : decode cX4_weightOf 2 = .ok (.iconst 0, 1) := by decide +kernel
theorem dX4_weightOf_3 : decode cX4_weightOf 3 = .ok (.istore 5, 2) := by decide +kernel
theorem dX4_weightOf_5 : decode cX4_weightOf 5 = .ok (.iload 5, 2) := by decide +kernel
theorem dX4_weightOf_7 : decode cX4_weightOf 7 = .ok (.iload_n 2, 1) := by decide +kernel
theorem dX4_weightOf_8 : decode cX4_weightOf 8 = .ok (.if_icmp .ge 32, 3) := by decide +kernel
theorem dX4_weightOf_11 : decode cX4_weightOf 11 = .ok (.lload_n 3, 1) := by decide +kernel
theorem dX4_weightOf_12 : decode cX4_weightOf 12 = .ok (.iload_n 0, 1) := by decide +kernel
theorem dX4_weightOf_13 : decode cX4_weightOf 13 = .ok (.iload 5, 2) := by decide +kernel
theorem dX4_weightOf_15 : decode cX4_weightOf 15 = .ok (.ishr, 1) := by decide +kernel
theorem dX4_weightOf_16 : decode cX4_weightOf 16 = .ok (.iconst 1, 1) := by decide +kernel
theorem dX4_weightOf_17 : decode cX4_weightOf 17 = .ok (.iand, 1) := by decide +kernel
theorem dX4_weightOf_18 : decode cX4_weightOf 18 = .ok (.iconst 1, 1) := by decide +kernel
theorem dX4_weightOf_19 : decode cX4_weightOf 19 = .ok (.if_icmp .ne 8, 3) := by decide +kernel
theorem dX4_weightOf_22 : decode cX4_weightOf 22 = .ok (.iload_n 1, 1) := by decide +kernel
theorem dX4_weightOf_23 : decode cX4_weightOf 23 = .ok (.i2l, 1) := by decide +kernel
theorem dX4_weightOf_24 : decode cX4_weightOf 24 = .ok (.goto 8, 3) := by decide +kernel
theorem dX4_weightOf_27 : decode cX4_weightOf 27 = .ok (.bipush 10, 2) := by decide +kernel
theorem dX4_weightOf_29 : decode cX4_weightOf 29 = .ok (.iload_n 1, 1) := by decide +kernel
theorem dX4_weightOf_30 : decode cX4_weightOf 30 = .ok (.isub, 1) := by decide +kernel
theorem dX4_weightOf_31 : decode cX4_weightOf 31 = .ok (.i2l, 1) := by decide +kernel
theorem dX4_weightOf_32 : decode cX4_weightOf 32 = .ok (.lmul, 1) := by decide +kernel
theorem dX4_weightOf_33 : decode cX4_weightOf 33 = .ok (.lstore_n 3, 1) := by decide +kernel
theorem dX4_weightOf_34 : decode cX4_weightOf 34 = .ok (.iinc 5 1, 3) := by decide +kernel
theorem dX4_weightOf_37 : decode cX4_weightOf 37 = .ok (.goto (-32), 3) := by decide +kernel
theorem dX4_weightOf_40 : decode cX4_weightOf 40 = .ok (.lload_n 3, 1) := by decide +kernel
theorem dX4_weightOf_41 : decode cX4_weightOf 41 = .ok (.lreturn, 1) := by decide +kernel
theorem dX4_commonDivisor_0 : decode cX4_commonDivisor 0 = .ok (.lload_n 0, 1) := by decide +kernel
theorem dX4_commonDivisor_1 : decode cX4_commonDivisor 1 = .ok (.lstore 4, 2) := by decide +kernel
theorem dX4_commonDivisor_3 : decode cX4_commonDivisor 3 = .ok (.lload_n 2, 1) := by decide +kernel
theorem dX4_commonDivisor_4 : decode cX4_commonDivisor 4 = .ok (.lstore 6, 2) := by decide +kernel
theorem dX4_commonDivisor_6 : decode cX4_commonDivisor 6 = .ok (.iconst 0, 1) := by decide +kernel
theorem dX4_commonDivisor_7 : decode cX4_commonDivisor 7 = .ok (.istore 8, 2) := by decide +kernel
theorem dX4_commonDivisor_9 : decode cX4_commonDivisor 9 = .ok (.iload 8, 2) := by decide +kernel
theorem dX4_commonDivisor_11 : decode cX4_commonDivisor 11 = .ok (.sipush 200, 3) := by decide +kernel
theorem dX4_commonDivisor_14 : decode cX4_commonDivisor 14 = .ok (.if_icmp .ge 31, 3) := by decide +kernel
theorem dX4_commonDivisor_17 : decode cX4_commonDivisor 17 = .ok (.lload 6, 2) := by decide +kernel
theorem dX4_commonDivisor_19 : decode cX4_commonDivisor 19 = .ok (.lconst 0, 1) := by decide +kernel
theorem dX4_commonDivisor_20 : decode cX4_commonDivisor 20 = .ok (.lcmp, 1) := by decide +kernel
theorem dX4_commonDivisor_21 : decode cX4_commonDivisor 21 = .ok (.ifCond .eq 24, 3) := by decide +kernel
theorem dX4_commonDivisor_24 : decode cX4_commonDivisor 24 = .ok (.lload 4, 2) := by decide +kernel
theorem dX4_commonDivisor_26 : decode cX4_commonDivisor 26 = .ok (.lload 6, 2) := by decide +kernel
theorem dX4_commonDivisor_28 : decode cX4_commonDivisor 28 = .ok (.lrem, 1) := by decide +kernel
theorem dX4_commonDivisor_29 : decode cX4_commonDivisor 29 = .ok (.lstore 9, 2) := by decide +kernel
theorem dX4_commonDivisor_31 : decode cX4_commonDivisor 31 = .ok (.lload 6, 2) := by decide +kernel
theorem dX4_commonDivisor_33 : decode cX4_commonDivisor 33 = .ok (.lstore 4, 2) := by decide +kernel
theorem dX4_commonDivisor_35 : decode cX4_commonDivisor 35 = .ok (.lload 9, 2) := by decide +kernel
theorem dX4_commonDivisor_37 : decode cX4_commonDivisor 37 = .ok (.lstore 6, 2) := by decide +kernel
theorem dX4_commonDivisor_39 : decode cX4_commonDivisor 39 = .ok (.iinc 8 1, 3) := by decide +kernel
theorem dX4_commonDivisor_42 : decode cX4_commonDivisor 42 = .ok (.goto (-33), 3) := by decide +kernel
theorem dX4_commonDivisor_45 : decode cX4_commonDivisor 45 = .ok (.lload 4, 2) := by decide +kernel
theorem dX4_commonDivisor_47 : decode cX4_commonDivisor 47 = .ok (.lreturn, 1) := by decide +kernel
theorem dX4_asSeen_0 : decode cX4_asSeen 0 = .ok (.iconst 0, 1) := by decide +kernel
theorem dX4_asSeen_1 : decode cX4_asSeen 1 = .ok (.istore_n 3, 1) := by decide +kernel
theorem dX4_asSeen_2 : decode cX4_asSeen 2 = .ok (.iconst 0, 1) := by decide +kernel
theorem dX4_asSeen_3 : decode cX4_asSeen 3 = .ok (.istore 4, 2) := by decide +kernel
theorem dX4_asSeen_5 : decode cX4_asSeen 5 = .ok (.iload 4, 2) := by decide +kernel
theorem dX4_asSeen_7 : decode cX4_asSeen 7 = .ok (.getstatic 212, 3) := by decide +kernel
theorem dX4_asSeen_10 : decode cX4_asSeen 10 = .ok (.iload_n 2, 1) := by decide +kernel
theorem dX4_asSeen_11 : decode cX4_asSeen 11 = .ok (.iaload, 1) := by decide +kernel
theorem dX4_asSeen_12 : decode cX4_asSeen 12 = .ok (.if_icmp .gt 31, 3) := by decide +kernel
theorem dX4_asSeen_15 : decode cX4_asSeen 15 = .ok (.aload_n 0, 1) := by decide +kernel
theorem dX4_asSeen_16 : decode cX4_asSeen 16 = .ok (.iload_n 1, 1) := by decide +kernel
theorem dX4_asSeen_17 : decode cX4_asSeen 17 = .ok (.iload_n 2, 1) := by decide +kernel
theorem dX4_asSeen_18 : decode cX4_asSeen 18 = .ok (.iload 4, 2) := by decide +kernel
theorem dX4_asSeen_20 : decode cX4_asSeen 20 = .ok (.invokevirtual 227, 3) := by decide +kernel
theorem dX4_asSeen_23 : decode cX4_asSeen 23 = .ok (.aload_n 0, 1) := by decide +kernel
theorem dX4_asSeen_24 : decode cX4_asSeen 24 = .ok (.invokevirtual 230, 3) := by decide +kernel
theorem dX4_asSeen_27 : decode cX4_asSeen 27 = .ok (.ifCond .eq 10, 3) := by decide +kernel
theorem dX4_asSeen_30 : decode cX4_asSeen 30 = .ok (.iload_n 3, 1) := by decide +kernel
theorem dX4_asSeen_31 : decode cX4_asSeen 31 = .ok (.iconst 1, 1) := by decide +kernel
theorem dX4_asSeen_32 : decode cX4_asSeen 32 = .ok (.iload 4, 2) := by decide +kernel
theorem dX4_asSeen_34 : decode cX4_asSeen 34 = .ok (.ishl, 1) := by decide +kernel
theorem dX4_asSeen_35 : decode cX4_asSeen 35 = .ok (.ior, 1) := by decide +kernel
theorem dX4_asSeen_36 : decode cX4_asSeen 36 = .ok (.istore_n 3, 1) := by decide +kernel
theorem dX4_asSeen_37 : decode cX4_asSeen 37 = .ok (.iinc 4 1, 3) := by decide +kernel
theorem dX4_asSeen_40 : decode cX4_asSeen 40 = .ok (.goto (-35), 3) := by decide +kernel
theorem dX4_asSeen_43 : decode cX4_asSeen 43 = .ok (.iload_n 3, 1) := by decide +kernel
theorem dX4_asSeen_44 : decode cX4_asSeen 44 = .ok (.ireturn, 1) := by decide +kernel
theorem dX4_traceWith_0 : decode cX4_traceWith 0 = .ok (.aload_n 0, 1) := by decide +kernel
theorem dX4_traceWith_1 : decode cX4_traceWith 1 = .ok (.getfield 30, 3) := by decide +kernel
theorem dX4_traceWith_4 : decode cX4_traceWith 4 = .ok (.aload_n 0, 1) := by decide +kernel
theorem dX4_traceWith_5 : decode cX4_traceWith 5 = .ok (.getfield 26, 3) := by decide +kernel
theorem dX4_traceWith_8 : decode cX4_traceWith 8 = .ok (.invokevirtual 80, 3) := by decide +kernel
theorem dX4_traceWith_11 : decode cX4_traceWith 11 = .ok (.aload_n 0, 1) := by decide +kernel
theorem dX4_traceWith_12 : decode cX4_traceWith 12 = .ok (.getfield 30, 3) := by decide +kernel
theorem dX4_traceWith_15 : decode cX4_traceWith 15 = .ok (.iload_n 1, 1) := by decide +kernel
theorem dX4_traceWith_16 : decode cX4_traceWith 16 = .ok (.iload_n 2, 1) := by decide +kernel
theorem dX4_traceWith_17 : decode cX4_traceWith 17 = .ok (.iload_n 3, 1) := by decide +kernel
theorem dX4_traceWith_18 : decode cX4_traceWith 18 = .ok (.invokevirtual 141, 3) := by decide +kernel
theorem dX4_traceWith_21 : decode cX4_traceWith 21 = .ok (.iconst 0, 1) := by decide +kernel
theorem dX4_traceWith_22 : decode cX4_traceWith 22 = .ok (.istore 4, 2) := by decide +kernel
theorem dX4_traceWith_24 : decode cX4_traceWith 24 = .ok (.iload 4, 2) := by decide +kernel
theorem dX4_traceWith_26 : decode cX4_traceWith 26 = .ok (.bipush 20, 2) := by decide +kernel
theorem dX4_traceWith_28 : decode cX4_traceWith 28 = .ok (.if_icmp .gt 32, 3) := by decide +kernel
theorem dX4_traceWith_31 : decode cX4_traceWith 31 = .ok (.aload_n 0, 1) := by decide +kernel
theorem dX4_traceWith_32 : decode cX4_traceWith 32 = .ok (.getfield 47, 3) := by decide +kernel
theorem dX4_traceWith_35 : decode cX4_traceWith 35 = .ok (.iload 4, 2) := by decide +kernel
theorem dX4_traceWith_37 : decode cX4_traceWith 37 = .ok (.aload_n 0, 1) := by decide +kernel
theorem dX4_traceWith_38 : decode cX4_traceWith 38 = .ok (.getfield 30, 3) := by decide +kernel
theorem dX4_traceWith_41 : decode cX4_traceWith 41 = .ok (.getfield 90, 3) := by decide +kernel
theorem dX4_traceWith_44 : decode cX4_traceWith 44 = .ok (.iastore, 1) := by decide +kernel
theorem dX4_traceWith_45 : decode cX4_traceWith 45 = .ok (.aload_n 0, 1) := by decide +kernel
theorem dX4_traceWith_46 : decode cX4_traceWith 46 = .ok (.getfield 30, 3) := by decide +kernel
theorem dX4_traceWith_49 : decode cX4_traceWith 49 = .ok (.iconst 1, 1) := by decide +kernel
theorem dX4_traceWith_50 : decode cX4_traceWith 50 = .ok (.invokevirtual 190, 3) := by decide +kernel
theorem dX4_traceWith_53 : decode cX4_traceWith 53 = .ok (.pop, 1) := by decide +kernel
theorem dX4_traceWith_54 : decode cX4_traceWith 54 = .ok (.iinc 4 1, 3) := by decide +kernel
theorem dX4_traceWith_57 : decode cX4_traceWith 57 = .ok (.goto (-33), 3) := by decide +kernel
theorem dX4_traceWith_60 : decode cX4_traceWith 60 = .ok (.return_, 1) := by decide +kernel
theorem dX4_traceIsAsSeen_0 : decode cX4_traceIsAsSeen 0 = .ok (.iconst 0, 1) := by decide +kernel
theorem dX4_traceIsAsSeen_1 : decode cX4_traceIsAsSeen 1 = .ok (.istore_n 1, 1) := by decide +kernel
theorem dX4_traceIsAsSeen_2 : decode cX4_traceIsAsSeen 2 = .ok (.iload_n 1, 1) := by decide +kernel
theorem dX4_traceIsAsSeen_3 : decode cX4_traceIsAsSeen 3 = .ok (.aload_n 0, 1) := by decide +kernel
theorem dX4_traceIsAsSeen_4 : decode cX4_traceIsAsSeen 4 = .ok (.getfield 26, 3) := by decide +kernel
theorem dX4_traceIsAsSeen_7 : decode cX4_traceIsAsSeen 7 = .ok (.getfield 171, 3) := by decide +kernel
theorem dX4_traceIsAsSeen_10 : decode cX4_traceIsAsSeen 10 = .ok (.if_icmp .ge 37, 3) := by decide +kernel
theorem dX4_traceIsAsSeen_13 : decode cX4_traceIsAsSeen 13 = .ok (.aload_n 0, 1) := by decide +kernel
theorem dX4_traceIsAsSeen_14 : decode cX4_traceIsAsSeen 14 = .ok (.getfield 47, 3) := by decide +kernel
theorem dX4_traceIsAsSeen_17 : decode cX4_traceIsAsSeen 17 = .ok (.aload_n 0, 1) := by decide +kernel
theorem dX4_traceIsAsSeen_18 : decode cX4_traceIsAsSeen 18 = .ok (.getfield 26, 3) := by decide +kernel
theorem dX4_traceIsAsSeen_21 : decode cX4_traceIsAsSeen 21 = .ok (.getfield 174, 3) := by decide +kernel
theorem dX4_traceIsAsSeen_24 : decode cX4_traceIsAsSeen 24 = .ok (.iload_n 1, 1) := by decide +kernel
theorem dX4_traceIsAsSeen_25 : decode cX4_traceIsAsSeen 25 = .ok (.iaload, 1) := by decide +kernel
theorem dX4_traceIsAsSeen_26 : decode cX4_traceIsAsSeen 26 = .ok (.iaload, 1) := by decide +kernel
theorem dX4_traceIsAsSeen_27 : decode cX4_traceIsAsSeen 27 = .ok (.aload_n 0, 1) := by decide +kernel
theorem dX4_traceIsAsSeen_28 : decode cX4_traceIsAsSeen 28 = .ok (.getfield 26, 3) := by decide +kernel
theorem dX4_traceIsAsSeen_31 : decode cX4_traceIsAsSeen 31 = .ok (.getfield 177, 3) := by decide +kernel
theorem dX4_traceIsAsSeen_34 : decode cX4_traceIsAsSeen 34 = .ok (.iload_n 1, 1) := by decide +kernel
theorem dX4_traceIsAsSeen_35 : decode cX4_traceIsAsSeen 35 = .ok (.iaload, 1) := by decide +kernel
theorem dX4_traceIsAsSeen_36 : decode cX4_traceIsAsSeen 36 = .ok (.if_icmp .eq 5, 3) := by decide +kernel
theorem dX4_traceIsAsSeen_39 : decode cX4_traceIsAsSeen 39 = .ok (.iconst 0, 1) := by decide +kernel
theorem dX4_traceIsAsSeen_40 : decode cX4_traceIsAsSeen 40 = .ok (.ireturn, 1) := by decide +kernel
theorem dX4_traceIsAsSeen_41 : decode cX4_traceIsAsSeen 41 = .ok (.iinc 1 1, 3) := by decide +kernel
theorem dX4_traceIsAsSeen_44 : decode cX4_traceIsAsSeen 44 = .ok (.goto (-42), 3) := by decide +kernel
theorem dX4_traceIsAsSeen_47 : decode cX4_traceIsAsSeen 47 = .ok (.iconst 1, 1) := by decide +kernel
theorem dX4_traceIsAsSeen_48 : decode cX4_traceIsAsSeen 48 = .ok (.ireturn, 1) := by decide +kernel
theorem dX4_tallyWants_0 : decode cX4_tallyWants 0 = .ok (.aload_n 0, 1) := by decide +kernel
theorem dX4_tallyWants_1 : decode cX4_tallyWants 1 = .ok (.getfield 51, 3) := by decide +kernel
theorem dX4_tallyWants_4 : decode cX4_tallyWants 4 = .ok (.iconst 0, 1) := by decide +kernel
theorem dX4_tallyWants_5 : decode cX4_tallyWants 5 = .ok (.invokestatic 233, 3) := by decide +kernel
theorem dX4_tallyWants_8 : decode cX4_tallyWants 8 = .ok (.iconst 0, 1) := by decide +kernel
theorem dX4_tallyWants_9 : decode cX4_tallyWants 9 = .ok (.istore_n 2, 1) := by decide +kernel
theorem dX4_tallyWants_10 : decode cX4_tallyWants 10 = .ok (.iconst 0, 1) := by decide +kernel
theorem dX4_tallyWants_11 : decode cX4_tallyWants 11 = .ok (.istore_n 3, 1) := by decide +kernel
theorem dX4_tallyWants_12 : decode cX4_tallyWants 12 = .ok (.iload_n 3, 1) := by decide +kernel
theorem dX4_tallyWants_13 : decode cX4_tallyWants 13 = .ok (.bipush 20, 2) := by decide +kernel
theorem dX4_tallyWants_15 : decode cX4_tallyWants 15 = .ok (.if_icmp .gt 64, 3) := by decide +kernel
theorem dX4_tallyWants_18 : decode cX4_tallyWants 18 = .ok (.aload_n 0, 1) := by decide +kernel
theorem dX4_tallyWants_19 : decode cX4_tallyWants 19 = .ok (.iload_n 1, 1) := by decide +kernel
theorem dX4_tallyWants_20 : decode cX4_tallyWants 20 = .ok (.iconst 2, 1) := by decide +kernel
theorem dX4_tallyWants_21 : decode cX4_tallyWants 21 = .ok (.iload_n 3, 1) := by decide +kernel
theorem dX4_tallyWants_22 : decode cX4_tallyWants 22 = .ok (.invokevirtual 227, 3) := by decide +kernel
theorem dX4_tallyWants_25 : decode cX4_tallyWants 25 = .ok (.aload_n 0, 1) := by decide +kernel
theorem dX4_tallyWants_26 : decode cX4_tallyWants 26 = .ok (.invokevirtual 230, 3) := by decide +kernel
theorem dX4_tallyWants_29 : decode cX4_tallyWants 29 = .ok (.ifCond .eq 44, 3) := by decide +kernel
theorem dX4_tallyWants_32 : decode cX4_tallyWants 32 = .ok (.iinc 2 1, 3) := by decide +kernel
theorem dX4_tallyWants_35 : decode cX4_tallyWants 35 = .ok (.iconst 0, 1) := by decide +kernel
theorem dX4_tallyWants_36 : decode cX4_tallyWants 36 = .ok (.istore 4, 2) := by decide +kernel
theorem dX4_tallyWants_38 : decode cX4_tallyWants 38 = .ok (.iload 4, 2) := by decide +kernel
theorem dX4_tallyWants_40 : decode cX4_tallyWants 40 = .ok (.bipush 20, 2) := by decide +kernel
theorem dX4_tallyWants_42 : decode cX4_tallyWants 42 = .ok (.if_icmp .gt 31, 3) := by decide +kernel
theorem dX4_tallyWants_45 : decode cX4_tallyWants 45 = .ok (.aload_n 0, 1) := by decide +kernel
theorem dX4_tallyWants_46 : decode cX4_tallyWants 46 = .ok (.getfield 51, 3) := by decide +kernel
theorem dX4_tallyWants_49 : decode cX4_tallyWants 49 = .ok (.iload 4, 2) := by decide +kernel
theorem dX4_tallyWants_51 : decode cX4_tallyWants 51 = .ok (.bipush 21, 2) := by decide +kernel
theorem dX4_tallyWants_53 : decode cX4_tallyWants 53 = .ok (.imul, 1) := by decide +kernel
theorem dX4_tallyWants_54 : decode cX4_tallyWants 54 = .ok (.aload_n 0, 1) := by decide +kernel
theorem dX4_tallyWants_55 : decode cX4_tallyWants 55 = .ok (.getfield 47, 3) := by decide +kernel
theorem dX4_tallyWants_58 : decode cX4_tallyWants 58 = .ok (.iload 4, 2) := by decide +kernel
theorem dX4_tallyWants_60 : decode cX4_tallyWants 60 = .ok (.iaload, 1) := by decide +kernel
theorem dX4_tallyWants_61 : decode cX4_tallyWants 61 = .ok (.iadd, 1) := by decide +kernel
theorem dX4_tallyWants_62 : decode cX4_tallyWants 62 = .ok (.dup2, 1) := by decide +kernel
theorem dX4_tallyWants_63 : decode cX4_tallyWants 63 = .ok (.iaload, 1) := by decide +kernel
theorem dX4_tallyWants_64 : decode cX4_tallyWants 64 = .ok (.iconst 1, 1) := by decide +kernel
theorem dX4_tallyWants_65 : decode cX4_tallyWants 65 = .ok (.iadd, 1) := by decide +kernel
theorem dX4_tallyWants_66 : decode cX4_tallyWants 66 = .ok (.iastore, 1) := by decide +kernel
theorem dX4_tallyWants_67 : decode cX4_tallyWants 67 = .ok (.iinc 4 1, 3) := by decide +kernel
theorem dX4_tallyWants_70 : decode cX4_tallyWants 70 = .ok (.goto (-32), 3) := by decide +kernel
theorem dX4_tallyWants_73 : decode cX4_tallyWants 73 = .ok (.iinc 3 1, 3) := by decide +kernel
theorem dX4_tallyWants_76 : decode cX4_tallyWants 76 = .ok (.goto (-64), 3) := by decide +kernel
theorem dX4_tallyWants_79 : decode cX4_tallyWants 79 = .ok (.iload_n 2, 1) := by decide +kernel
theorem dX4_tallyWants_80 : decode cX4_tallyWants 80 = .ok (.ireturn, 1) := by decide +kernel
theorem dX4_worstLeft_0 : decode cX4_worstLeft 0 = .ok (.iconst 0, 1) := by decide +kernel
theorem dX4_worstLeft_1 : decode cX4_worstLeft 1 = .ok (.istore_n 2, 1) := by decide +kernel
theorem dX4_worstLeft_2 : decode cX4_worstLeft 2 = .ok (.iconst 0, 1) := by decide +kernel
theorem dX4_worstLeft_3 : decode cX4_worstLeft 3 = .ok (.istore_n 3, 1) := by decide +kernel
theorem dX4_worstLeft_4 : decode cX4_worstLeft 4 = .ok (.iload_n 3, 1) := by decide +kernel
theorem dX4_worstLeft_5 : decode cX4_worstLeft 5 = .ok (.bipush 20, 2) := by decide +kernel
theorem dX4_worstLeft_7 : decode cX4_worstLeft 7 = .ok (.if_icmp .gt 25, 3) := by decide +kernel
theorem dX4_worstLeft_10 : decode cX4_worstLeft 10 = .ok (.iload_n 2, 1) := by decide +kernel
theorem dX4_worstLeft_11 : decode cX4_worstLeft 11 = .ok (.aload_n 0, 1) := by decide +kernel
theorem dX4_worstLeft_12 : decode cX4_worstLeft 12 = .ok (.getfield 51, 3) := by decide +kernel
theorem dX4_worstLeft_15 : decode cX4_worstLeft 15 = .ok (.iload_n 1, 1) := by decide +kernel
theorem dX4_worstLeft_16 : decode cX4_worstLeft 16 = .ok (.bipush 21, 2) := by decide +kernel
theorem dX4_worstLeft_18 : decode cX4_worstLeft 18 = .ok (.imul, 1) := by decide +kernel
theorem dX4_worstLeft_19 : decode cX4_worstLeft 19 = .ok (.iload_n 3, 1) := by decide +kernel
theorem dX4_worstLeft_20 : decode cX4_worstLeft 20 = .ok (.iadd, 1) := by decide +kernel
theorem dX4_worstLeft_21 : decode cX4_worstLeft 21 = .ok (.iaload, 1) := by decide +kernel
theorem dX4_worstLeft_22 : decode cX4_worstLeft 22 = .ok (.invokestatic 239, 3) := by decide +kernel
theorem dX4_worstLeft_25 : decode cX4_worstLeft 25 = .ok (.istore_n 2, 1) := by decide +kernel
theorem dX4_worstLeft_26 : decode cX4_worstLeft 26 = .ok (.iinc 3 1, 3) := by decide +kernel
theorem dX4_worstLeft_29 : decode cX4_worstLeft 29 = .ok (.goto (-25), 3) := by decide +kernel
theorem dX4_worstLeft_32 : decode cX4_worstLeft 32 = .ok (.iload_n 2, 1) := by decide +kernel
theorem dX4_worstLeft_33 : decode cX4_worstLeft 33 = .ok (.ireturn, 1) := by decide +kernel
