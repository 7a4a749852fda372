theorem dX4_init_0 : decode cX4_init 0 = .ok (.aload_n 0, 1) := by decide +kernel
theorem dX4_init_1 : decode cX4_init 1 = .ok (.invokespecial 3, 3) := by decide +kernel
theorem dX4_init_4 : decode cX4_init 4 = .ok (.aload_n 0, 1) := by decide +kernel
theorem dX4_init_5 : decode cX4_init 5 = .ok (.new 9, 3) := by decide +kernel
theorem dX4_init_8 : decode cX4_init 8 = .ok (.dup, 1) := by decide +kernel
theorem dX4_init_9 : decode cX4_init 9 = .ok (.invokespecial 11, 3) := by decide +kernel
theorem dX4_init_12 : decode cX4_init 12 = .ok (.putfield 12, 3) := by decide +kernel
theorem dX4_init_15 : decode cX4_init 15 = .ok (.aload_n 0, 1) := by decide +kernel
theorem dX4_init_16 : decode cX4_init 16 = .ok (.new 16, 3) := by decide +kernel
theorem dX4_init_19 : decode cX4_init 19 = .ok (.dup, 1) := by decide +kernel
theorem dX4_init_20 : decode cX4_init 20 = .ok (.invokespecial 18, 3) := by decide +kernel
theorem dX4_init_23 : decode cX4_init 23 = .ok (.putfield 19, 3) := by decide +kernel
theorem dX4_init_26 : decode cX4_init 26 = .ok (.aload_n 0, 1) := by decide +kernel
theorem dX4_init_27 : decode cX4_init 27 = .ok (.new 23, 3) := by decide +kernel
theorem dX4_init_30 : decode cX4_init 30 = .ok (.dup, 1) := by decide +kernel
theorem dX4_init_31 : decode cX4_init 31 = .ok (.invokespecial 25, 3) := by decide +kernel
theorem dX4_init_34 : decode cX4_init 34 = .ok (.putfield 26, 3) := by decide +kernel
theorem dX4_init_37 : decode cX4_init 37 = .ok (.aload_n 0, 1) := by decide +kernel
theorem dX4_init_38 : decode cX4_init 38 = .ok (.new 23, 3) := by decide +kernel
theorem dX4_init_41 : decode cX4_init 41 = .ok (.dup, 1) := by decide +kernel
theorem dX4_init_42 : decode cX4_init 42 = .ok (.invokespecial 25, 3) := by decide +kernel
theorem dX4_init_45 : decode cX4_init 45 = .ok (.putfield 30, 3) := by decide +kernel
theorem dX4_init_48 : decode cX4_init 48 = .ok (.aload_n 0, 1) := by decide +kernel
theorem dX4_init_49 : decode cX4_init 49 = .ok (.iconst 2, 1) := by decide +kernel
theorem dX4_init_50 : decode cX4_init 50 = .ok (.anewarray 23, 3) := by decide +kernel
theorem dX4_init_53 : decode cX4_init 53 = .ok (.putfield 33, 3) := by decide +kernel
theorem dX4_init_56 : decode cX4_init 56 = .ok (.aload_n 0, 1) := by decide +kernel
theorem dX4_init_57 : decode cX4_init 57 = .ok (.iconst 2, 1) := by decide +kernel
theorem dX4_init_58 : decode cX4_init 58 = .ok (.newarray .boolean, 2) := by decide +kernel
theorem dX4_init_60 : decode cX4_init 60 = .ok (.putfield 37, 3) := by decide +kernel
theorem dX4_init_63 : decode cX4_init 63 = .ok (.aload_n 0, 1) := by decide +kernel
theorem dX4_init_64 : decode cX4_init 64 = .ok (.iconst 4, 1) := by decide +kernel
theorem dX4_init_65 : decode cX4_init 65 = .ok (.anewarray 41, 3) := by decide +kernel
theorem dX4_init_68 : decode cX4_init 68 = .ok (.putfield 43, 3) := by decide +kernel
theorem dX4_init_71 : decode cX4_init 71 = .ok (.aload_n 0, 1) := by decide +kernel
theorem dX4_init_72 : decode cX4_init 72 = .ok (.bipush 21, 2) := by decide +kernel
theorem dX4_init_74 : decode cX4_init 74 = .ok (.newarray .int, 2) := by decide +kernel
theorem dX4_init_76 : decode cX4_init 76 = .ok (.putfield 47, 3) := by decide +kernel
theorem dX4_init_79 : decode cX4_init 79 = .ok (.aload_n 0, 1) := by decide +kernel
theorem dX4_init_80 : decode cX4_init 80 = .ok (.sipush 441, 3) := by decide +kernel
theorem dX4_init_83 : decode cX4_init 83 = .ok (.newarray .int, 2) := by decide +kernel
theorem dX4_init_85 : decode cX4_init 85 = .ok (.putfield 51, 3) := by decide +kernel
theorem dX4_init_88 : decode cX4_init 88 = .ok (.aload_n 0, 1) := by decide +kernel
theorem dX4_init_89 : decode cX4_init 89 = .ok (.iconst 0, 1) := by decide +kernel
theorem dX4_init_90 : decode cX4_init 90 = .ok (.putfield 54, 3) := by decide +kernel
theorem dX4_init_93 : decode cX4_init 93 = .ok (.aload_n 0, 1) := by decide +kernel
theorem dX4_init_94 : decode cX4_init 94 = .ok (.iconst 0, 1) := by decide +kernel
theorem dX4_init_95 : decode cX4_init 95 = .ok (.putfield 58, 3) := by decide +kernel
theorem dX4_init_98 : decode cX4_init 98 = .ok (.iconst 0, 1) := by decide +kernel
theorem dX4_init_99 : decode cX4_init 99 = .ok (.istore_n 1, 1) := by decide +kernel
theorem dX4_init_100 : decode cX4_init 100 = .ok (.iload_n 1, 1) := by decide +kernel
theorem dX4_init_101 : decode cX4_init 101 = .ok (.iconst 2, 1) := by decide +kernel
theorem dX4_init_102 : decode cX4_init 102 = .ok (.if_icmp .ge 22, 3) := by decide +kernel
theorem dX4_init_105 : decode cX4_init 105 = .ok (.aload_n 0, 1) := by decide +kernel
theorem dX4_init_106 : decode cX4_init 106 = .ok (.getfield 33, 3) := by decide +kernel
theorem dX4_init_109 : decode cX4_init 109 = .ok (.iload_n 1, 1) := by decide +kernel
theorem dX4_init_110 : decode cX4_init 110 = .ok (.new 23, 3) := by decide +kernel
theorem dX4_init_113 : decode cX4_init 113 = .ok (.dup, 1) := by decide +kernel
theorem dX4_init_114 : decode cX4_init 114 = .ok (.invokespecial 25, 3) := by decide +kernel
theorem dX4_init_117 : decode cX4_init 117 = .ok (.aastore, 1) := by decide +kernel
theorem dX4_init_118 : decode cX4_init 118 = .ok (.iinc 1 1, 3) := by decide +kernel
theorem dX4_init_121 : decode cX4_init 121 = .ok (.goto (-21), 3) := by decide +kernel
theorem dX4_init_124 : decode cX4_init 124 = .ok (.iconst 0, 1) := by decide +kernel
theorem dX4_init_125 : decode cX4_init 125 = .ok (.istore_n 1, 1) := by decide +kernel
theorem dX4_init_126 : decode cX4_init 126 = .ok (.iload_n 1, 1) := by decide +kernel
theorem dX4_init_127 : decode cX4_init 127 = .ok (.iconst 4, 1) := by decide +kernel
theorem dX4_init_128 : decode cX4_init 128 = .ok (.if_icmp .ge 22, 3) := by decide +kernel
theorem dX4_init_131 : decode cX4_init 131 = .ok (.aload_n 0, 1) := by decide +kernel
theorem dX4_init_132 : decode cX4_init 132 = .ok (.getfield 43, 3) := by decide +kernel
theorem dX4_init_135 : decode cX4_init 135 = .ok (.iload_n 1, 1) := by decide +kernel
theorem dX4_init_136 : decode cX4_init 136 = .ok (.new 41, 3) := by decide +kernel
theorem dX4_init_139 : decode cX4_init 139 = .ok (.dup, 1) := by decide +kernel
theorem dX4_init_140 : decode cX4_init 140 = .ok (.invokespecial 61, 3) := by decide +kernel
theorem dX4_init_143 : decode cX4_init 143 = .ok (.aastore, 1) := by decide +kernel
theorem dX4_init_144 : decode cX4_init 144 = .ok (.iinc 1 1, 3) := by decide +kernel
theorem dX4_init_147 : decode cX4_init 147 = .ok (.goto (-21), 3) := by decide +kernel
theorem dX4_init_150 : decode cX4_init 150 = .ok (.return_, 1) := by decide +kernel
theorem dX4_feed_0 : decode cX4_feed 0 = .ok (.iload_n 1, 1) := by decide +kernel
theorem dX4_feed_1 : decode cX4_feed 1 = .ok (.bipush 127, 2) := by decide +kernel
theorem dX4_feed_3 : decode cX4_feed 3 = .ok (.invokestatic 62, 3) := by decide +kernel
theorem dX4_feed_6 : decode cX4_feed 6 = .ok (.ifCond .ne 5, 3) := by decide +kernel
theorem dX4_feed_9 : decode cX4_feed 9 = .ok (.iconst (-1), 1) := by decide +kernel
theorem dX4_feed_10 : decode cX4_feed 10 = .ok (.ireturn, 1) := by decide +kernel
theorem dX4_feed_11 : decode cX4_feed 11 = .ok (.aload_n 0, 1) := by decide +kernel
theorem dX4_feed_12 : decode cX4_feed 12 = .ok (.getfield 12, 3) := by decide +kernel
theorem dX4_feed_15 : decode cX4_feed 15 = .ok (.getfield 66, 3) := by decide +kernel
theorem dX4_feed_18 : decode cX4_feed 18 = .ok (.sipush 160, 3) := by decide +kernel
theorem dX4_feed_21 : decode cX4_feed 21 = .ok (.if_icmp .lt 6, 3) := by decide +kernel
theorem dX4_feed_24 : decode cX4_feed 24 = .ok (.bipush (-3), 2) := by decide +kernel
theorem dX4_feed_26 : decode cX4_feed 26 = .ok (.ireturn, 1) := by decide +kernel
theorem dX4_feed_27 : decode cX4_feed 27 = .ok (.aload_n 0, 1) := by decide +kernel
theorem dX4_feed_28 : decode cX4_feed 28 = .ok (.getfield 12, 3) := by decide +kernel
theorem dX4_feed_31 : decode cX4_feed 31 = .ok (.getfield 69, 3) := by decide +kernel
theorem dX4_feed_34 : decode cX4_feed 34 = .ok (.aload_n 0, 1) := by decide +kernel
theorem dX4_feed_35 : decode cX4_feed 35 = .ok (.getfield 12, 3) := by decide +kernel
theorem dX4_feed_38 : decode cX4_feed 38 = .ok (.getfield 66, 3) := by decide +kernel
theorem dX4_feed_41 : decode cX4_feed 41 = .ok (.iload_n 1, 1) := by decide +kernel
theorem dX4_feed_42 : decode cX4_feed 42 = .ok (.i2b, 1) := by decide +kernel
theorem dX4_feed_43 : decode cX4_feed 43 = .ok (.bastore, 1) := by decide +kernel
theorem dX4_feed_44 : decode cX4_feed 44 = .ok (.aload_n 0, 1) := by decide +kernel
theorem dX4_feed_45 : decode cX4_feed 45 = .ok (.getfield 12, 3) := by decide +kernel
theorem dX4_feed_48 : decode cX4_feed 48 = .ok (.dup, 1) := by decide +kernel
theorem dX4_feed_49 : decode cX4_feed 49 = .ok (.getfield 66, 3) := by decide +kernel
theorem dX4_feed_52 : decode cX4_feed 52 = .ok (.iconst 1, 1) := by decide +kernel
theorem dX4_feed_53 : decode cX4_feed 53 = .ok (.iadd, 1) := by decide +kernel
theorem dX4_feed_54 : decode cX4_feed 54 = .ok (.putfield 66, 3) := by decide +kernel
theorem dX4_feed_57 : decode cX4_feed 57 = .ok (.aload_n 0, 1) := by decide +kernel
theorem dX4_feed_58 : decode cX4_feed 58 = .ok (.getfield 12, 3) := by decide +kernel
theorem dX4_feed_61 : decode cX4_feed 61 = .ok (.getfield 66, 3) := by decide +kernel
theorem dX4_feed_64 : decode cX4_feed 64 = .ok (.ireturn, 1) := by decide +kernel
theorem dX4_end_0 : decode cX4_end 0 = .ok (.iload_n 1, 1) := by decide +kernel
theorem dX4_end_1 : decode cX4_end 1 = .ok (.aload_n 0, 1) := by decide +kernel
theorem dX4_end_2 : decode cX4_end 2 = .ok (.getfield 12, 3) := by decide +kernel
theorem dX4_end_5 : decode cX4_end 5 = .ok (.getfield 66, 3) := by decide +kernel
theorem dX4_end_8 : decode cX4_end 8 = .ok (.invokestatic 62, 3) := by decide +kernel
theorem dX4_end_11 : decode cX4_end 11 = .ok (.ifCond .ne 5, 3) := by decide +kernel
theorem dX4_end_14 : decode cX4_end 14 = .ok (.iconst (-1), 1) := by decide +kernel
theorem dX4_end_15 : decode cX4_end 15 = .ok (.ireturn, 1) := by decide +kernel
theorem dX4_end_16 : decode cX4_end 16 = .ok (.aload_n 0, 1) := by decide +kernel
theorem dX4_end_17 : decode cX4_end 17 = .ok (.getfield 12, 3) := by decide +kernel
theorem dX4_end_20 : decode cX4_end 20 = .ok (.getfield 66, 3) := by decide +kernel
theorem dX4_end_23 : decode cX4_end 23 = .ok (.istore_n 2, 1) := by decide +kernel
theorem dX4_end_24 : decode cX4_end 24 = .ok (.aload_n 0, 1) := by decide +kernel
theorem dX4_end_25 : decode cX4_end 25 = .ok (.getfield 12, 3) := by decide +kernel
theorem dX4_end_28 : decode cX4_end 28 = .ok (.iload_n 1, 1) := by decide +kernel
theorem dX4_end_29 : decode cX4_end 29 = .ok (.putfield 66, 3) := by decide +kernel
theorem dX4_end_32 : decode cX4_end 32 = .ok (.iload_n 2, 1) := by decide +kernel
theorem dX4_end_33 : decode cX4_end 33 = .ok (.ireturn, 1) := by decide +kernel
theorem dX4_text_0 : decode cX4_text 0 = .ok (.aload_n 0, 1) := by decide +kernel
theorem dX4_text_1 : decode cX4_text 1 = .ok (.getfield 19, 3) := by decide +kernel
theorem dX4_text_4 : decode cX4_text 4 = .ok (.aload_n 0, 1) := by decide +kernel
theorem dX4_text_5 : decode cX4_text 5 = .ok (.getfield 12, 3) := by decide +kernel
theorem dX4_text_8 : decode cX4_text 8 = .ok (.aload_n 0, 1) := by decide +kernel
theorem dX4_text_9 : decode cX4_text 9 = .ok (.getfield 30, 3) := by decide +kernel
theorem dX4_text_12 : decode cX4_text 12 = .ok (.invokevirtual 73, 3) := by decide +kernel
theorem dX4_text_15 : decode cX4_text 15 = .ok (.istore_n 1, 1) := by decide +kernel
theorem dX4_text_16 : decode cX4_text 16 = .ok (.aload_n 0, 1) := by decide +kernel
theorem dX4_text_17 : decode cX4_text 17 = .ok (.getfield 12, 3) := by decide +kernel
theorem dX4_text_20 : decode cX4_text 20 = .ok (.iconst 0, 1) := by decide +kernel
theorem dX4_text_21 : decode cX4_text 21 = .ok (.putfield 66, 3) := by decide +kernel
theorem dX4_text_24 : decode cX4_text 24 = .ok (.aload_n 0, 1) := by decide +kernel
theorem dX4_text_25 : decode cX4_text 25 = .ok (.aload_n 0, 1) := by decide +kernel
theorem dX4_text_26 : decode cX4_text 26 = .ok (.getfield 19, 3) := by decide +kernel
theorem dX4_text_29 : decode cX4_text 29 = .ok (.getfield 77, 3) := by decide +kernel
theorem dX4_text_32 : decode cX4_text 32 = .ok (.putfield 54, 3) := by decide +kernel
theorem dX4_text_35 : decode cX4_text 35 = .ok (.aload_n 0, 1) := by decide +kernel
theorem dX4_text_36 : decode cX4_text 36 = .ok (.getfield 54, 3) := by decide +kernel
theorem dX4_text_39 : decode cX4_text 39 = .ok (.ifCond .ne 34, 3) := by decide +kernel
theorem dX4_text_42 : decode cX4_text 42 = .ok (.aload_n 0, 1) := by decide +kernel
theorem dX4_text_43 : decode cX4_text 43 = .ok (.getfield 26, 3) := by decide +kernel
theorem dX4_text_46 : decode cX4_text 46 = .ok (.aload_n 0, 1) := by decide +kernel
theorem dX4_text_47 : decode cX4_text 47 = .ok (.getfield 30, 3) := by decide +kernel
theorem dX4_text_50 : decode cX4_text 50 = .ok (.invokevirtual 80, 3) := by decide +kernel
theorem dX4_text_53 : decode cX4_text 53 = .ok (.iconst 0, 1) := by decide +kernel
theorem dX4_text_54 : decode cX4_text 54 = .ok (.istore_n 2, 1) := by decide +kernel
theorem dX4_text_55 : decode cX4_text 55 = .ok (.iload_n 2, 1) := by decide +kernel
theorem dX4_text_56 : decode cX4_text 56 = .ok (.iconst 2, 1) := by decide +kernel
theorem dX4_text_57 : decode cX4_text 57 = .ok (.if_icmp .ge 16, 3) := by decide +kernel
theorem dX4_text_60 : decode cX4_text 60 = .ok (.aload_n 0, 1) := by decide +kernel
theorem dX4_text_61 : decode cX4_text 61 = .ok (.getfield 37, 3) := by decide +kernel
theorem dX4_text_64 : decode cX4_text 64 = .ok (.iload_n 2, 1) := by decide +kernel
theorem dX4_text_65 : decode cX4_text 65 = .ok (.iconst 0, 1) := by decide +kernel
theorem dX4_text_66 : decode cX4_text 66 = .ok (.bastore, 1) := by decide +kernel
theorem dX4_text_67 : decode cX4_text 67 = .ok (.iinc 2 1, 3) := by decide +kernel
theorem dX4_text_70 : decode cX4_text 70 = .ok (.goto (-15), 3) := by decide +kernel
theorem dX4_text_73 : decode cX4_text 73 = .ok (.iload_n 1, 1) := by decide +kernel
theorem dX4_text_74 : decode cX4_text 74 = .ok (.ireturn, 1) := by decide +kernel
theorem dX4_fault_0 : decode cX4_fault 0 = .ok (.aload_n 0, 1) := by decide +kernel
theorem dX4_fault_1 : decode cX4_fault 1 = .ok (.getfield 54, 3) := by decide +kernel
theorem dX4_fault_4 : decode cX4_fault 4 = .ok (.ireturn, 1) := by decide +kernel
theorem dX4_rule_0 : decode cX4_rule 0 = .ok (.iload_n 1, 1) := by decide +kernel
theorem dX4_rule_1 : decode cX4_rule 1 = .ok (.tableswitch 109 0 6 #[43, 51, 59, 67, 78, 86, 101], 43) := by decide +kernel
theorem dX4_rule_44 : decode cX4_rule 44 = .ok (.aload_n 0, 1) := by decide +kernel
theorem dX4_rule_45 : decode cX4_rule 45 = .ok (.getfield 26, 3) := by decide +kernel
theorem dX4_rule_48 : decode cX4_rule 48 = .ok (.getfield 84, 3) := by decide +kernel
theorem dX4_rule_51 : decode cX4_rule 51 = .ok (.ireturn, 1) := by decide +kernel
theorem dX4_rule_52 : decode cX4_rule 52 = .ok (.aload_n 0, 1) := by decide +kernel
theorem dX4_rule_53 : decode cX4_rule 53 = .ok (.getfield 26, 3) := by decide +kernel
theorem dX4_rule_56 : decode cX4_rule 56 = .ok (.getfield 87, 3) := by decide +kernel
theorem dX4_rule_59 : decode cX4_rule 59 = .ok (.ireturn, 1) := by decide +kernel
theorem dX4_rule_60 : decode cX4_rule 60 = .ok (.aload_n 0, 1) := by decide +kernel
theorem dX4_rule_61 : decode cX4_rule 61 = .ok (.getfield 26, 3) := by decide +kernel
theorem dX4_rule_64 : decode cX4_rule 64 = .ok (.getfield 90, 3) := by decide +kernel
theorem dX4_rule_67 : decode cX4_rule 67 = .ok (.ireturn, 1) := by decide +kernel
theorem dX4_rule_68 : decode cX4_rule 68 = .ok (.aload_n 0, 1) := by decide +kernel
theorem dX4_rule_69 : decode cX4_rule 69 = .ok (.getfield 26, 3) := by decide +kernel
theorem dX4_rule_72 : decode cX4_rule 72 = .ok (.invokevirtual 93, 3) := by decide +kernel
theorem dX4_rule_75 : decode cX4_rule 75 = .ok (.invokestatic 97, 3) := by decide +kernel
theorem dX4_rule_78 : decode cX4_rule 78 = .ok (.ireturn, 1) := by decide +kernel
theorem dX4_rule_79 : decode cX4_rule 79 = .ok (.aload_n 0, 1) := by decide +kernel
theorem dX4_rule_80 : decode cX4_rule 80 = .ok (.getfield 26, 3) := by decide +kernel
theorem dX4_rule_83 : decode cX4_rule 83 = .ok (.invokevirtual 101, 3) := by decide +kernel
theorem dX4_rule_86 : decode cX4_rule 86 = .ok (.ireturn, 1) := by decide +kernel
theorem dX4_rule_87 : decode cX4_rule 87 = .ok (.aload_n 0, 1) := by decide +kernel
theorem dX4_rule_88 : decode cX4_rule 88 = .ok (.getfield 26, 3) := by decide +kernel
theorem dX4_rule_91 : decode cX4_rule 91 = .ok (.aload_n 0, 1) := by decide +kernel
theorem dX4_rule_92 : decode cX4_rule 92 = .ok (.getfield 26, 3) := by decide +kernel
theorem dX4_rule_95 : decode cX4_rule 95 = .ok (.getfield 90, 3) := by decide +kernel
theorem dX4_rule_98 : decode cX4_rule 98 = .ok (.invokevirtual 105, 3) := by decide +kernel
theorem dX4_rule_101 : decode cX4_rule 101 = .ok (.ireturn, 1) := by decide +kernel
theorem dX4_rule_102 : decode cX4_rule 102 = .ok (.aload_n 0, 1) := by decide +kernel
theorem dX4_rule_103 : decode cX4_rule 103 = .ok (.getfield 26, 3) := by decide +kernel
theorem dX4_rule_106 : decode cX4_rule 106 = .ok (.getfield 109, 3) := by decide +kernel
theorem dX4_rule_109 : decode cX4_rule 109 = .ok (.ireturn, 1) := by decide +kernel
theorem dX4_rule_110 : decode cX4_rule 110 = .ok (.iconst (-1), 1) := by decide +kernel
theorem dX4_rule_111 : decode cX4_rule 111 = .ok (.ireturn, 1) := by decide +kernel
theorem dX4_member_0 : decode cX4_member 0 = .ok (.aload_n 0, 1) := by decide +kernel
theorem dX4_member_1 : decode cX4_member 1 = .ok (.iload_n 1, 1) := by decide +kernel
theorem dX4_member_2 : decode cX4_member 2 = .ok (.invokevirtual 112, 3) := by decide +kernel
theorem dX4_member_5 : decode cX4_member 5 = .ok (.ifCond .ne 5, 3) := by decide +kernel
theorem dX4_member_8 : decode cX4_member 8 = .ok (.iconst (-1), 1) := by decide +kernel
theorem dX4_member_9 : decode cX4_member 9 = .ok (.ireturn, 1) := by decide +kernel
theorem dX4_member_10 : decode cX4_member 10 = .ok (.iload_n 2, 1) := by decide +kernel
theorem dX4_member_11 : decode cX4_member 11 = .ok (.tableswitch 77 0 5 #[37, 37, 37, 37, 47, 66], 37) := by decide +kernel
theorem dX4_member_48 : decode cX4_member 48 = .ok (.aload_n 0, 1) := by decide +kernel
theorem dX4_member_49 : decode cX4_member 49 = .ok (.getfield 26, 3) := by decide +kernel
theorem dX4_member_52 : decode cX4_member 52 = .ok (.iload_n 1, 1) := by decide +kernel
theorem dX4_member_53 : decode cX4_member 53 = .ok (.iload_n 2, 1) := by decide +kernel
theorem dX4_member_54 : decode cX4_member 54 = .ok (.invokevirtual 116, 3) := by decide +kernel
theorem dX4_member_57 : decode cX4_member 57 = .ok (.ireturn, 1) := by decide +kernel
theorem dX4_member_58 : decode cX4_member 58 = .ok (.aload_n 0, 1) := by decide +kernel
theorem dX4_member_59 : decode cX4_member 59 = .ok (.getfield 26, 3) := by decide +kernel
theorem dX4_member_62 : decode cX4_member 62 = .ok (.iload_n 1, 1) := by decide +kernel
theorem dX4_member_63 : decode cX4_member 63 = .ok (.aload_n 0, 1) := by decide +kernel
theorem dX4_member_64 : decode cX4_member 64 = .ok (.getfield 26, 3) := by decide +kernel
theorem dX4_member_67 : decode cX4_member 67 = .ok (.getfield 90, 3) := by decide +kernel
theorem dX4_member_70 : decode cX4_member 70 = .ok (.invokevirtual 120, 3) := by decide +kernel
theorem dX4_member_73 : decode cX4_member 73 = .ok (.invokestatic 97, 3) := by decide +kernel
theorem dX4_member_76 : decode cX4_member 76 = .ok (.ireturn, 1) := by decide +kernel
theorem dX4_member_77 : decode cX4_member 77 = .ok (.iconst 2, 1) := by decide +kernel
theorem dX4_member_78 : decode cX4_member 78 = .ok (.aload_n 0, 1) := by decide +kernel
theorem dX4_member_79 : decode cX4_member 79 = .ok (.getfield 26, 3) := by decide +kernel
theorem dX4_member_82 : decode cX4_member 82 = .ok (.iload_n 1, 1) := by decide +kernel
theorem dX4_member_83 : decode cX4_member 83 = .ok (.invokevirtual 123, 3) := by decide +kernel
theorem dX4_member_86 : decode cX4_member 86 = .ok (.iadd, 1) := by decide +kernel
theorem dX4_member_87 : decode cX4_member 87 = .ok (.ireturn, 1) := by decide +kernel
theorem dX4_member_88 : decode cX4_member 88 = .ok (.iconst (-1), 1) := by decide +kernel
theorem dX4_member_89 : decode cX4_member 89 = .ok (.ireturn, 1) := by decide +kernel
theorem dX4_house_0 : decode cX4_house 0 = .ok (.iload_n 1, 1) := by decide +kernel
theorem dX4_house_1 : decode cX4_house 1 = .ok (.iconst 1, 1) := by decide +kernel
theorem dX4_house_2 : decode cX4_house 2 = .ok (.invokestatic 62, 3) := by decide +kernel
theorem dX4_house_5 : decode cX4_house 5 = .ok (.ifCond .ne 5, 3) := by decide +kernel
theorem dX4_house_8 : decode cX4_house 8 = .ok (.iconst (-1), 1) := by decide +kernel
theorem dX4_house_9 : decode cX4_house 9 = .ok (.ireturn, 1) := by decide +kernel
theorem dX4_house_10 : decode cX4_house 10 = .ok (.aload_n 0, 1) := by decide +kernel
theorem dX4_house_11 : decode cX4_house 11 = .ok (.getfield 26, 3) := by decide +kernel
theorem dX4_house_14 : decode cX4_house 14 = .ok (.iload_n 1, 1) := by decide +kernel
theorem dX4_house_15 : decode cX4_house 15 = .ok (.invokevirtual 126, 3) := by decide +kernel
theorem dX4_house_18 : decode cX4_house 18 = .ok (.istore_n 3, 1) := by decide +kernel
theorem dX4_house_19 : decode cX4_house 19 = .ok (.aload_n 0, 1) := by decide +kernel
theorem dX4_house_20 : decode cX4_house 20 = .ok (.getfield 26, 3) := by decide +kernel
theorem dX4_house_23 : decode cX4_house 23 = .ok (.aload_n 0, 1) := by decide +kernel
theorem dX4_house_24 : decode cX4_house 24 = .ok (.getfield 26, 3) := by decide +kernel
theorem dX4_house_27 : decode cX4_house 27 = .ok (.getfield 90, 3) := by decide +kernel
theorem dX4_house_30 : decode cX4_house 30 = .ok (.invokevirtual 105, 3) := by decide +kernel
theorem dX4_house_33 : decode cX4_house 33 = .ok (.istore 4, 2) := by decide +kernel
theorem dX4_house_35 : decode cX4_house 35 = .ok (.iload_n 2, 1) := by decide +kernel
theorem dX4_house_36 : decode cX4_house 36 = .ok (.tableswitch 64 0 3 #[32, 34, 42, 52], 32) := by decide +kernel
theorem dX4_house_68 : decode cX4_house 68 = .ok (.iload_n 3, 1) := by decide +kernel
theorem dX4_house_69 : decode cX4_house 69 = .ok (.ireturn, 1) := by decide +kernel
theorem dX4_house_70 : decode cX4_house 70 = .ok (.iload_n 3, 1) := by decide +kernel
theorem dX4_house_71 : decode cX4_house 71 = .ok (.iload 4, 2) := by decide +kernel
theorem dX4_house_73 : decode cX4_house 73 = .ok (.iand, 1) := by decide +kernel
theorem dX4_house_74 : decode cX4_house 74 = .ok (.invokestatic 129, 3) := by decide +kernel
theorem dX4_house_77 : decode cX4_house 77 = .ok (.ireturn, 1) := by decide +kernel
theorem dX4_house_78 : decode cX4_house 78 = .ok (.iload_n 3, 1) := by decide +kernel
theorem dX4_house_79 : decode cX4_house 79 = .ok (.iload 4, 2) := by decide +kernel
theorem dX4_house_81 : decode cX4_house 81 = .ok (.iconst (-1), 1) := by decide +kernel
theorem dX4_house_82 : decode cX4_house 82 = .ok (.ixor, 1) := by decide +kernel
theorem dX4_house_83 : decode cX4_house 83 = .ok (.iand, 1) := by decide +kernel
theorem dX4_house_84 : decode cX4_house 84 = .ok (.invokestatic 129, 3) := by decide +kernel
theorem dX4_house_87 : decode cX4_house 87 = .ok (.ireturn, 1) := by decide +kernel
theorem dX4_house_88 : decode cX4_house 88 = .ok (.bipush 20, 2) := by decide +kernel
theorem dX4_house_90 : decode cX4_house 90 = .ok (.aload_n 0, 1) := by decide +kernel
theorem dX4_house_91 : decode cX4_house 91 = .ok (.getfield 26, 3) := by decide +kernel
theorem dX4_house_94 : decode cX4_house 94 = .ok (.iload_n 1, 1) := by decide +kernel
theorem dX4_house_95 : decode cX4_house 95 = .ok (.invokevirtual 134, 3) := by decide +kernel
theorem dX4_house_98 : decode cX4_house 98 = .ok (.iadd, 1) := by decide +kernel
theorem dX4_house_99 : decode cX4_house 99 = .ok (.ireturn, 1) := by decide +kernel
theorem dX4_house_100 : decode cX4_house 100 = .ok (.iconst (-1), 1) := by decide +kernel
theorem dX4_house_101 : decode cX4_house 101 = .ok (.ireturn, 1) := by decide +kernel
theorem dX4_alter_0 : decode cX4_alter 0 = .ok (.aload_n 0, 1) := by decide +kernel
theorem dX4_alter_1 : decode cX4_alter 1 = .ok (.iload_n 1, 1) := by decide +kernel
theorem dX4_alter_2 : decode cX4_alter 2 = .ok (.iload_n 2, 1) := by decide +kernel
theorem dX4_alter_3 : decode cX4_alter 3 = .ok (.iload_n 3, 1) := by decide +kernel
theorem dX4_alter_4 : decode cX4_alter 4 = .ok (.invokevirtual 137, 3) := by decide +kernel
theorem dX4_alter_7 : decode cX4_alter 7 = .ok (.ifCond .ne 5, 3) := by decide +kernel
theorem dX4_alter_10 : decode cX4_alter 10 = .ok (.iconst (-1), 1) := by decide +kernel
theorem dX4_alter_11 : decode cX4_alter 11 = .ok (.ireturn, 1) := by decide +kernel
theorem dX4_alter_12 : decode cX4_alter 12 = .ok (.aload_n 0, 1) := by decide +kernel
theorem dX4_alter_13 : decode cX4_alter 13 = .ok (.getfield 26, 3) := by decide +kernel
theorem dX4_alter_16 : decode cX4_alter 16 = .ok (.iload_n 1, 1) := by decide +kernel
theorem dX4_alter_17 : decode cX4_alter 17 = .ok (.iload_n 2, 1) := by decide +kernel
theorem dX4_alter_18 : decode cX4_alter 18 = .ok (.invokevirtual 116, 3) := by decide +kernel
theorem dX4_alter_21 : decode cX4_alter 21 = .ok (.istore 4, 2) := by decide +kernel
theorem dX4_alter_23 : decode cX4_alter 23 = .ok (.aload_n 0, 1) := by decide +kernel
theorem dX4_alter_24 : decode cX4_alter 24 = .ok (.getfield 26, 3) := by decide +kernel
theorem dX4_alter_27 : decode cX4_alter 27 = .ok (.iload_n 1, 1) := by decide +kernel
theorem dX4_alter_28 : decode cX4_alter 28 = .ok (.iload_n 2, 1) := by decide +kernel
theorem dX4_alter_29 : decode cX4_alter 29 = .ok (.iload_n 3, 1) := by decide +kernel
theorem dX4_alter_30 : decode cX4_alter 30 = .ok (.invokevirtual 141, 3) := by decide +kernel
theorem dX4_alter_33 : decode cX4_alter 33 = .ok (.iload 4, 2) := by decide +kernel
theorem dX4_alter_35 : decode cX4_alter 35 = .ok (.ireturn, 1) := by decide +kernel
theorem dX4_word_0 : decode cX4_word 0 = .ok (.iload_n 1, 1) := by decide +kernel
theorem dX4_word_1 : decode cX4_word 1 = .ok (.bipush 20, 2) := by decide +kernel
theorem dX4_word_3 : decode cX4_word 3 = .ok (.invokestatic 62, 3) := by decide +kernel
theorem dX4_word_6 : decode cX4_word 6 = .ok (.ifCond .ne 5, 3) := by decide +kernel
theorem dX4_word_9 : decode cX4_word 9 = .ok (.iconst (-1), 1) := by decide +kernel
theorem dX4_word_10 : decode cX4_word 10 = .ok (.ireturn, 1) := by decide +kernel
theorem dX4_word_11 : decode cX4_word 11 = .ok (.aload_n 0, 1) := by decide +kernel
theorem dX4_word_12 : decode cX4_word 12 = .ok (.getfield 26, 3) := by decide +kernel
theorem dX4_word_15 : decode cX4_word 15 = .ok (.getfield 90, 3) := by decide +kernel
theorem dX4_word_18 : decode cX4_word 18 = .ok (.istore_n 2, 1) := by decide +kernel
theorem dX4_word_19 : decode cX4_word 19 = .ok (.aload_n 0, 1) := by decide +kernel
theorem dX4_word_20 : decode cX4_word 20 = .ok (.getfield 26, 3) := by decide +kernel
theorem dX4_word_23 : decode cX4_word 23 = .ok (.iload_n 1, 1) := by decide +kernel
theorem dX4_word_24 : decode cX4_word 24 = .ok (.putfield 90, 3) := by decide +kernel
theorem dX4_word_27 : decode cX4_word 27 = .ok (.iload_n 2, 1) := by decide +kernel
theorem dX4_word_28 : decode cX4_word 28 = .ok (.ireturn, 1) := by decide +kernel
theorem dX4_seat_0 : decode cX4_seat 0 = .ok (.iload_n 1, 1) := by decide +kernel
theorem dX4_seat_1 : decode cX4_seat 1 = .ok (.iconst 1, 1) := by decide +kernel
theorem dX4_seat_2 : decode cX4_seat 2 = .ok (.invokestatic 62, 3) := by decide +kernel
theorem dX4_seat_5 : decode cX4_seat 5 = .ok (.ifCond .eq 12, 3) := by decide +kernel
theorem dX4_seat_8 : decode cX4_seat 8 = .ok (.iload_n 2, 1) := by decide +kernel
theorem dX4_seat_9 : decode cX4_seat 9 = .ok (.bipush 20, 2) := by decide +kernel
theorem dX4_seat_11 : decode cX4_seat 11 = .ok (.invokestatic 62, 3) := by decide +kernel
theorem dX4_seat_14 : decode cX4_seat 14 = .ok (.ifCond .ne 5, 3) := by decide +kernel
theorem dX4_seat_17 : decode cX4_seat 17 = .ok (.iconst (-1), 1) := by decide +kernel
theorem dX4_seat_18 : decode cX4_seat 18 = .ok (.ireturn, 1) := by decide +kernel
theorem dX4_seat_19 : decode cX4_seat 19 = .ok (.aload_n 0, 1) := by decide +kernel
theorem dX4_seat_20 : decode cX4_seat 20 = .ok (.getfield 26, 3) := by decide +kernel
theorem dX4_seat_23 : decode cX4_seat 23 = .ok (.getfield 84, 3) := by decide +kernel
theorem dX4_seat_26 : decode cX4_seat 26 = .ok (.bipush 6, 2) := by decide +kernel
theorem dX4_seat_28 : decode cX4_seat 28 = .ok (.if_icmp .lt 6, 3) := by decide +kernel
theorem dX4_seat_31 : decode cX4_seat 31 = .ok (.bipush (-3), 2) := by decide +kernel
theorem dX4_seat_33 : decode cX4_seat 33 = .ok (.ireturn, 1) := by decide +kernel
theorem dX4_seat_34 : decode cX4_seat 34 = .ok (.aload_n 0, 1) := by decide +kernel
theorem dX4_seat_35 : decode cX4_seat 35 = .ok (.getfield 26, 3) := by decide +kernel
theorem dX4_seat_38 : decode cX4_seat 38 = .ok (.iconst 0, 1) := by decide +kernel
theorem dX4_seat_39 : decode cX4_seat 39 = .ok (.invokevirtual 145, 3) := by decide +kernel
theorem dX4_seat_42 : decode cX4_seat 42 = .ok (.istore_n 3, 1) := by decide +kernel
theorem dX4_seat_43 : decode cX4_seat 43 = .ok (.aload_n 0, 1) := by decide +kernel
theorem dX4_seat_44 : decode cX4_seat 44 = .ok (.getfield 26, 3) := by decide +kernel
theorem dX4_seat_47 : decode cX4_seat 47 = .ok (.iload_n 3, 1) := by decide +kernel
theorem dX4_seat_48 : decode cX4_seat 48 = .ok (.iconst 1, 1) := by decide +kernel
theorem dX4_seat_49 : decode cX4_seat 49 = .ok (.iload_n 1, 1) := by decide +kernel
theorem dX4_seat_50 : decode cX4_seat 50 = .ok (.invokevirtual 141, 3) := by decide +kernel
theorem dX4_seat_53 : decode cX4_seat 53 = .ok (.aload_n 0, 1) := by decide +kernel
theorem dX4_seat_54 : decode cX4_seat 54 = .ok (.getfield 26, 3) := by decide +kernel
theorem dX4_seat_57 : decode cX4_seat 57 = .ok (.iload_n 3, 1) := by decide +kernel
theorem dX4_seat_58 : decode cX4_seat 58 = .ok (.iconst 2, 1) := by decide +kernel
theorem dX4_seat_59 : decode cX4_seat 59 = .ok (.iload_n 2, 1) := by decide +kernel
theorem dX4_seat_60 : decode cX4_seat 60 = .ok (.invokevirtual 141, 3) := by decide +kernel
theorem dX4_seat_63 : decode cX4_seat 63 = .ok (.aload_n 0, 1) := by decide +kernel
theorem dX4_seat_64 : decode cX4_seat 64 = .ok (.getfield 26, 3) := by decide +kernel
theorem dX4_seat_67 : decode cX4_seat 67 = .ok (.getfield 84, 3) := by decide +kernel
theorem dX4_seat_70 : decode cX4_seat 70 = .ok (.ireturn, 1) := by decide +kernel
theorem dX4_clear_0 : decode cX4_clear 0 = .ok (.iload_n 1, 1) := by decide +kernel
theorem dX4_clear_1 : decode cX4_clear 1 = .ok (.aload_n 0, 1) := by decide +kernel
theorem dX4_clear_2 : decode cX4_clear 2 = .ok (.getfield 26, 3) := by decide +kernel
theorem dX4_clear_5 : decode cX4_clear 5 = .ok (.getfield 84, 3) := by decide +kernel
theorem dX4_clear_8 : decode cX4_clear 8 = .ok (.invokestatic 62, 3) := by decide +kernel
theorem dX4_clear_11 : decode cX4_clear 11 = .ok (.ifCond .ne 5, 3) := by decide +kernel
theorem dX4_clear_14 : decode cX4_clear 14 = .ok (.iconst (-1), 1) := by decide +kernel
theorem dX4_clear_15 : decode cX4_clear 15 = .ok (.ireturn, 1) := by decide +kernel
theorem dX4_clear_16 : decode cX4_clear 16 = .ok (.aload_n 0, 1) := by decide +kernel
theorem dX4_clear_17 : decode cX4_clear 17 = .ok (.getfield 26, 3) := by decide +kernel
theorem dX4_clear_20 : decode cX4_clear 20 = .ok (.getfield 84, 3) := by decide +kernel
theorem dX4_clear_23 : decode cX4_clear 23 = .ok (.istore_n 2, 1) := by decide +kernel
theorem dX4_clear_24 : decode cX4_clear 24 = .ok (.aload_n 0, 1) := by decide +kernel
theorem dX4_clear_25 : decode cX4_clear 25 = .ok (.getfield 26, 3) := by decide +kernel
theorem dX4_clear_28 : decode cX4_clear 28 = .ok (.iload_n 1, 1) := by decide +kernel
theorem dX4_clear_29 : decode cX4_clear 29 = .ok (.putfield 84, 3) := by decide +kernel
theorem dX4_clear_32 : decode cX4_clear 32 = .ok (.iload_n 2, 1) := by decide +kernel
theorem dX4_clear_33 : decode cX4_clear 33 = .ok (.ireturn, 1) := by decide +kernel
theorem dX4_days_0 : decode cX4_days 0 = .ok (.iload_n 1, 1) := by decide +kernel
theorem dX4_days_1 : decode cX4_days 1 = .ok (.bipush 30, 2) := by decide +kernel
theorem dX4_days_3 : decode cX4_days 3 = .ok (.invokestatic 62, 3) := by decide +kernel
theorem dX4_days_6 : decode cX4_days 6 = .ok (.ifCond .ne 5, 3) := by decide +kernel
theorem dX4_days_9 : decode cX4_days 9 = .ok (.iconst (-1), 1) := by decide +kernel
theorem dX4_days_10 : decode cX4_days 10 = .ok (.ireturn, 1) := by decide +kernel
theorem dX4_days_11 : decode cX4_days 11 = .ok (.aload_n 0, 1) := by decide +kernel
theorem dX4_days_12 : decode cX4_days 12 = .ok (.getfield 26, 3) := by decide +kernel
theorem dX4_days_15 : decode cX4_days 15 = .ok (.getfield 87, 3) := by decide +kernel
theorem dX4_days_18 : decode cX4_days 18 = .ok (.iload_n 1, 1) := by decide +kernel
theorem dX4_days_19 : decode cX4_days 19 = .ok (.iadd, 1) := by decide +kernel
theorem dX4_days_20 : decode cX4_days 20 = .ok (.sipush 999, 3) := by decide +kernel
theorem dX4_days_23 : decode cX4_days 23 = .ok (.if_icmp .le 6, 3) := by decide +kernel
theorem dX4_days_26 : decode cX4_days 26 = .ok (.bipush (-3), 2) := by decide +kernel
theorem dX4_days_28 : decode cX4_days 28 = .ok (.ireturn, 1) := by decide +kernel
theorem dX4_days_29 : decode cX4_days 29 = .ok (.aload_n 0, 1) := by decide +kernel
theorem dX4_days_30 : decode cX4_days 30 = .ok (.getfield 26, 3) := by decide +kernel
theorem dX4_days_33 : decode cX4_days 33 = .ok (.iload_n 1, 1) := by decide +kernel
theorem dX4_days_34 : decode cX4_days 34 = .ok (.invokevirtual 148, 3) := by decide +kernel
theorem dX4_days_37 : decode cX4_days 37 = .ok (.ireturn, 1) := by decide +kernel
theorem dX4_runs_0 : decode cX4_runs 0 = .ok (.iload_n 1, 1) := by decide +kernel
theorem dX4_runs_1 : decode cX4_runs 1 = .ok (.bipush 60, 2) := by decide +kernel
theorem dX4_runs_3 : decode cX4_runs 3 = .ok (.invokestatic 62, 3) := by decide +kernel
theorem dX4_runs_6 : decode cX4_runs 6 = .ok (.ifCond .eq 11, 3) := by decide +kernel
theorem dX4_runs_9 : decode cX4_runs 9 = .ok (.iload_n 2, 1) := by decide +kernel
theorem dX4_runs_10 : decode cX4_runs 10 = .ok (.iconst 4, 1) := by decide +kernel
theorem dX4_runs_11 : decode cX4_runs 11 = .ok (.invokestatic 62, 3) := by decide +kernel
theorem dX4_runs_14 : decode cX4_runs 14 = .ok (.ifCond .ne 5, 3) := by decide +kernel
theorem dX4_runs_17 : decode cX4_runs 17 = .ok (.iconst (-1), 1) := by decide +kernel
theorem dX4_runs_18 : decode cX4_runs 18 = .ok (.ireturn, 1) := by decide +kernel
theorem dX4_runs_19 : decode cX4_runs 19 = .ok (.aload_n 0, 1) := by decide +kernel
theorem dX4_runs_20 : decode cX4_runs 20 = .ok (.getfield 30, 3) := by decide +kernel
theorem dX4_runs_23 : decode cX4_runs 23 = .ok (.aload_n 0, 1) := by decide +kernel
theorem dX4_runs_24 : decode cX4_runs 24 = .ok (.getfield 26, 3) := by decide +kernel
theorem dX4_runs_27 : decode cX4_runs 27 = .ok (.invokevirtual 80, 3) := by decide +kernel
theorem dX4_runs_30 : decode cX4_runs 30 = .ok (.aload_n 0, 1) := by decide +kernel
theorem dX4_runs_31 : decode cX4_runs 31 = .ok (.getfield 30, 3) := by decide +kernel
theorem dX4_runs_34 : decode cX4_runs 34 = .ok (.iload_n 1, 1) := by decide +kernel
theorem dX4_runs_35 : decode cX4_runs 35 = .ok (.invokevirtual 148, 3) := by decide +kernel
theorem dX4_runs_38 : decode cX4_runs 38 = .ok (.istore_n 3, 1) := by decide +kernel
theorem dX4_runs_39 : decode cX4_runs 39 = .ok (.iload_n 2, 1) := by decide +kernel
theorem dX4_runs_40 : decode cX4_runs 40 = .ok (.tableswitch 62 0 3 #[32, 40, 42, 53], 32) := by decide +kernel
theorem dX4_runs_72 : decode cX4_runs 72 = .ok (.aload_n 0, 1) := by decide +kernel
theorem dX4_runs_73 : decode cX4_runs 73 = .ok (.getfield 30, 3) := by decide +kernel
theorem dX4_runs_76 : decode cX4_runs 76 = .ok (.getfield 90, 3) := by decide +kernel
theorem dX4_runs_79 : decode cX4_runs 79 = .ok (.ireturn, 1) := by decide +kernel
theorem dX4_runs_80 : decode cX4_runs 80 = .ok (.iload_n 3, 1) := by decide +kernel
theorem dX4_runs_81 : decode cX4_runs 81 = .ok (.ireturn, 1) := by decide +kernel
theorem dX4_runs_82 : decode cX4_runs 82 = .ok (.aload_n 0, 1) := by decide +kernel
theorem dX4_runs_83 : decode cX4_runs 83 = .ok (.getfield 30, 3) := by decide +kernel
theorem dX4_runs_86 : decode cX4_runs 86 = .ok (.invokevirtual 93, 3) := by decide +kernel
theorem dX4_runs_89 : decode cX4_runs 89 = .ok (.invokestatic 97, 3) := by decide +kernel
theorem dX4_runs_92 : decode cX4_runs 92 = .ok (.ireturn, 1) := by decide +kernel
theorem dX4_runs_93 : decode cX4_runs 93 = .ok (.aload_n 0, 1) := by decide +kernel
theorem dX4_runs_94 : decode cX4_runs 94 = .ok (.getfield 30, 3) := by decide +kernel
theorem dX4_runs_97 : decode cX4_runs 97 = .ok (.iconst 3, 1) := by decide +kernel
theorem dX4_runs_98 : decode cX4_runs 98 = .ok (.invokevirtual 151, 3) := by decide +kernel
theorem dX4_runs_101 : decode cX4_runs 101 = .ok (.ireturn, 1) := by decide +kernel
theorem dX4_runs_102 : decode cX4_runs 102 = .ok (.aload_n 0, 1) := by decide +kernel
theorem dX4_runs_103 : decode cX4_runs 103 = .ok (.getfield 30, 3) := by decide +kernel
theorem dX4_runs_106 : decode cX4_runs 106 = .ok (.invokevirtual 101, 3) := by decide +kernel
theorem dX4_runs_109 : decode cX4_runs 109 = .ok (.ireturn, 1) := by decide +kernel
theorem dX4_ahead_0 : decode cX4_ahead 0 = .ok (.aload_n 0, 1) := by decide +kernel
theorem dX4_ahead_1 : decode cX4_ahead 1 = .ok (.iload_n 1, 1) := by decide +kernel
theorem dX4_ahead_2 : decode cX4_ahead 2 = .ok (.invokevirtual 112, 3) := by decide +kernel
theorem dX4_ahead_5 : decode cX4_ahead 5 = .ok (.ifCond .eq 12, 3) := by decide +kernel
theorem dX4_ahead_8 : decode cX4_ahead 8 = .ok (.iload_n 2, 1) := by decide +kernel
theorem dX4_ahead_9 : decode cX4_ahead 9 = .ok (.bipush 60, 2) := by decide +kernel
theorem dX4_ahead_11 : decode cX4_ahead 11 = .ok (.invokestatic 62, 3) := by decide +kernel
theorem dX4_ahead_14 : decode cX4_ahead 14 = .ok (.ifCond .ne 5, 3) := by decide +kernel
theorem dX4_ahead_17 : decode cX4_ahead 17 = .ok (.iconst (-1), 1) := by decide +kernel
theorem dX4_ahead_18 : decode cX4_ahead 18 = .ok (.ireturn, 1) := by decide +kernel
theorem dX4_ahead_19 : decode cX4_ahead 19 = .ok (.aload_n 0, 1) := by decide +kernel
theorem dX4_ahead_20 : decode cX4_ahead 20 = .ok (.getfield 30, 3) := by decide +kernel
theorem dX4_ahead_23 : decode cX4_ahead 23 = .ok (.aload_n 0, 1) := by decide +kernel
theorem dX4_ahead_24 : decode cX4_ahead 24 = .ok (.getfield 26, 3) := by decide +kernel
theorem dX4_ahead_27 : decode cX4_ahead 27 = .ok (.invokevirtual 80, 3) := by decide +kernel
theorem dX4_ahead_30 : decode cX4_ahead 30 = .ok (.aload_n 0, 1) := by decide +kernel
theorem dX4_ahead_31 : decode cX4_ahead 31 = .ok (.getfield 30, 3) := by decide +kernel
theorem dX4_ahead_34 : decode cX4_ahead 34 = .ok (.iload_n 2, 1) := by decide +kernel
theorem dX4_ahead_35 : decode cX4_ahead 35 = .ok (.invokevirtual 148, 3) := by decide +kernel
theorem dX4_ahead_38 : decode cX4_ahead 38 = .ok (.pop, 1) := by decide +kernel
theorem dX4_ahead_39 : decode cX4_ahead 39 = .ok (.aload_n 0, 1) := by decide +kernel
theorem dX4_ahead_40 : decode cX4_ahead 40 = .ok (.getfield 30, 3) := by decide +kernel
theorem dX4_ahead_43 : decode cX4_ahead 43 = .ok (.iload_n 1, 1) := by decide +kernel
theorem dX4_ahead_44 : decode cX4_ahead 44 = .ok (.iconst 3, 1) := by decide +kernel
theorem dX4_ahead_45 : decode cX4_ahead 45 = .ok (.invokevirtual 116, 3) := by decide +kernel
theorem dX4_ahead_48 : decode cX4_ahead 48 = .ok (.ireturn, 1) := by decide +kernel
theorem dX4_carries_0 : decode cX4_carries 0 = .ok (.aload_n 0, 1) := by decide +kernel
theorem dX4_carries_1 : decode cX4_carries 1 = .ok (.getfield 30, 3) := by decide +kernel
theorem dX4_carries_4 : decode cX4_carries 4 = .ok (.aload_n 0, 1) := by decide +kernel
theorem dX4_carries_5 : decode cX4_carries 5 = .ok (.getfield 26, 3) := by decide +kernel
theorem dX4_carries_8 : decode cX4_carries 8 = .ok (.invokevirtual 80, 3) := by decide +kernel
theorem dX4_carries_11 : decode cX4_carries 11 = .ok (.aload_n 0, 1) := by decide +kernel
theorem dX4_carries_12 : decode cX4_carries 12 = .ok (.getfield 30, 3) := by decide +kernel
theorem dX4_carries_15 : decode cX4_carries 15 = .ok (.invokevirtual 154, 3) := by decide +kernel
theorem dX4_carries_18 : decode cX4_carries 18 = .ok (.istore_n 1, 1) := by decide +kernel
theorem dX4_carries_19 : decode cX4_carries 19 = .ok (.iload_n 1, 1) := by decide +kernel
theorem dX4_carries_20 : decode cX4_carries 20 = .ok (.bipush 60, 2) := by decide +kernel
theorem dX4_carries_22 : decode cX4_carries 22 = .ok (.if_icmp .le 8, 3) := by decide +kernel
theorem dX4_carries_25 : decode cX4_carries 25 = .ok (.bipush (-4), 2) := by decide +kernel
theorem dX4_carries_27 : decode cX4_carries 27 = .ok (.goto 4, 3) := by decide +kernel
theorem dX4_carries_30 : decode cX4_carries 30 = .ok (.iload_n 1, 1) := by decide +kernel
theorem dX4_carries_31 : decode cX4_carries 31 = .ok (.ireturn, 1) := by decide +kernel
theorem dX4_wording_0 : decode cX4_wording 0 = .ok (.iload_n 1, 1) := by decide +kernel
theorem dX4_wording_1 : decode cX4_wording 1 = .ok (.iconst 1, 1) := by decide +kernel
theorem dX4_wording_2 : decode cX4_wording 2 = .ok (.invokestatic 62, 3) := by decide +kernel
theorem dX4_wording_5 : decode cX4_wording 5 = .ok (.ifCond .ne 5, 3) := by decide +kernel
theorem dX4_wording_8 : decode cX4_wording 8 = .ok (.iconst (-1), 1) := by decide +kernel
theorem dX4_wording_9 : decode cX4_wording 9 = .ok (.ireturn, 1) := by decide +kernel
theorem dX4_wording_10 : decode cX4_wording 10 = .ok (.aload_n 0, 1) := by decide +kernel
theorem dX4_wording_11 : decode cX4_wording 11 = .ok (.iconst 0, 1) := by decide +kernel
theorem dX4_wording_12 : decode cX4_wording 12 = .ok (.iconst 4, 1) := by decide +kernel
theorem dX4_wording_13 : decode cX4_wording 13 = .ok (.iload_n 1, 1) := by decide +kernel
theorem dX4_wording_14 : decode cX4_wording 14 = .ok (.invokevirtual 157, 3) := by decide +kernel
theorem dX4_wording_17 : decode cX4_wording 17 = .ok (.ireturn, 1) := by decide +kernel
theorem dX4_middle_0 : decode cX4_middle 0 = .ok (.iload_n 1, 1) := by decide +kernel
theorem dX4_middle_1 : decode cX4_middle 1 = .ok (.iconst 1, 1) := by decide +kernel
theorem dX4_middle_2 : decode cX4_middle 2 = .ok (.invokestatic 62, 3) := by decide +kernel
theorem dX4_middle_5 : decode cX4_middle 5 = .ok (.ifCond .ne 5, 3) := by decide +kernel
theorem dX4_middle_8 : decode cX4_middle 8 = .ok (.iconst (-1), 1) := by decide +kernel
theorem dX4_middle_9 : decode cX4_middle 9 = .ok (.ireturn, 1) := by decide +kernel
theorem dX4_middle_10 : decode cX4_middle 10 = .ok (.iconst (-1), 1) := by decide +kernel
theorem dX4_middle_11 : decode cX4_middle 11 = .ok (.istore_n 2, 1) := by decide +kernel
theorem dX4_middle_12 : decode cX4_middle 12 = .ok (.iconst 0, 1) := by decide +kernel
theorem dX4_middle_13 : decode cX4_middle 13 = .ok (.istore_n 3, 1) := by decide +kernel
theorem dX4_middle_14 : decode cX4_middle 14 = .ok (.iconst 0, 1) := by decide +kernel
theorem dX4_middle_15 : decode cX4_middle 15 = .ok (.istore 4, 2) := by decide +kernel
theorem dX4_middle_17 : decode cX4_middle 17 = .ok (.iload 4, 2) := by decide +kernel
theorem dX4_middle_19 : decode cX4_middle 19 = .ok (.bipush 20, 2) := by decide +kernel
theorem dX4_middle_21 : decode cX4_middle 21 = .ok (.if_icmp .gt 35, 3) := by decide +kernel
theorem dX4_middle_24 : decode cX4_middle 24 = .ok (.aload_n 0, 1) := by decide +kernel
theorem dX4_middle_25 : decode cX4_middle 25 = .ok (.getfield 26, 3) := by decide +kernel
theorem dX4_middle_28 : decode cX4_middle 28 = .ok (.iload 4, 2) := by decide +kernel
theorem dX4_middle_30 : decode cX4_middle 30 = .ok (.invokevirtual 105, 3) := by decide +kernel
theorem dX4_middle_33 : decode cX4_middle 33 = .ok (.invokestatic 129, 3) := by decide +kernel
theorem dX4_middle_36 : decode cX4_middle 36 = .ok (.istore 5, 2) := by decide +kernel
theorem dX4_middle_38 : decode cX4_middle 38 = .ok (.iload 5, 2) := by decide +kernel
theorem dX4_middle_40 : decode cX4_middle 40 = .ok (.iload_n 2, 1) := by decide +kernel
theorem dX4_middle_41 : decode cX4_middle 41 = .ok (.if_icmp .le 9, 3) := by decide +kernel
theorem dX4_middle_44 : decode cX4_middle 44 = .ok (.iload 5, 2) := by decide +kernel
theorem dX4_middle_46 : decode cX4_middle 46 = .ok (.istore_n 2, 1) := by decide +kernel
theorem dX4_middle_47 : decode cX4_middle 47 = .ok (.iload 4, 2) := by decide +kernel
theorem dX4_middle_49 : decode cX4_middle 49 = .ok (.istore_n 3, 1) := by decide +kernel
theorem dX4_middle_50 : decode cX4_middle 50 = .ok (.iinc 4 1, 3) := by decide +kernel
theorem dX4_middle_53 : decode cX4_middle 53 = .ok (.goto (-36), 3) := by decide +kernel
theorem dX4_middle_56 : decode cX4_middle 56 = .ok (.iload_n 1, 1) := by decide +kernel
theorem dX4_middle_57 : decode cX4_middle 57 = .ok (.ifCond .ne 7, 3) := by decide +kernel
theorem dX4_middle_60 : decode cX4_middle 60 = .ok (.iload_n 3, 1) := by decide +kernel
theorem dX4_middle_61 : decode cX4_middle 61 = .ok (.goto 4, 3) := by decide +kernel
theorem dX4_middle_64 : decode cX4_middle 64 = .ok (.iload_n 2, 1) := by decide +kernel
theorem dX4_middle_65 : decode cX4_middle 65 = .ok (.ireturn, 1) := by decide +kernel
theorem dX4_swing_0 : decode cX4_swing 0 = .ok (.aload_n 0, 1) := by decide +kernel
theorem dX4_swing_1 : decode cX4_swing 1 = .ok (.iload_n 1, 1) := by decide +kernel
theorem dX4_swing_2 : decode cX4_swing 2 = .ok (.invokevirtual 112, 3) := by decide +kernel
theorem dX4_swing_5 : decode cX4_swing 5 = .ok (.ifCond .ne 5, 3) := by decide +kernel
theorem dX4_swing_8 : decode cX4_swing 8 = .ok (.iconst (-1), 1) := by decide +kernel
theorem dX4_swing_9 : decode cX4_swing 9 = .ok (.ireturn, 1) := by decide +kernel
theorem dX4_swing_10 : decode cX4_swing 10 = .ok (.aload_n 0, 1) := by decide +kernel
theorem dX4_swing_11 : decode cX4_swing 11 = .ok (.getfield 26, 3) := by decide +kernel
theorem dX4_swing_14 : decode cX4_swing 14 = .ok (.aload_n 0, 1) := by decide +kernel
theorem dX4_swing_15 : decode cX4_swing 15 = .ok (.getfield 26, 3) := by decide +kernel
theorem dX4_swing_18 : decode cX4_swing 18 = .ok (.iload_n 1, 1) := by decide +kernel
theorem dX4_swing_19 : decode cX4_swing 19 = .ok (.iconst 1, 1) := by decide +kernel
theorem dX4_swing_20 : decode cX4_swing 20 = .ok (.invokevirtual 116, 3) := by decide +kernel
theorem dX4_swing_23 : decode cX4_swing 23 = .ok (.invokevirtual 126, 3) := by decide +kernel
theorem dX4_swing_26 : decode cX4_swing 26 = .ok (.iconst 1, 1) := by decide +kernel
theorem dX4_swing_27 : decode cX4_swing 27 = .ok (.iload_n 1, 1) := by decide +kernel
theorem dX4_swing_28 : decode cX4_swing 28 = .ok (.ishl, 1) := by decide +kernel
theorem dX4_swing_29 : decode cX4_swing 29 = .ok (.iconst (-1), 1) := by decide +kernel
theorem dX4_swing_30 : decode cX4_swing 30 = .ok (.ixor, 1) := by decide +kernel
theorem dX4_swing_31 : decode cX4_swing 31 = .ok (.iand, 1) := by decide +kernel
theorem dX4_swing_32 : decode cX4_swing 32 = .ok (.istore_n 2, 1) := by decide +kernel
theorem dX4_swing_33 : decode cX4_swing 33 = .ok (.iconst 0, 1) := by decide +kernel
theorem dX4_swing_34 : decode cX4_swing 34 = .ok (.istore_n 3, 1) := by decide +kernel
theorem dX4_swing_35 : decode cX4_swing 35 = .ok (.iconst 0, 1) := by decide +kernel
theorem dX4_swing_36 : decode cX4_swing 36 = .ok (.istore 4, 2) := by decide +kernel
theorem dX4_swing_38 : decode cX4_swing 38 = .ok (.iload 4, 2) := by decide +kernel
theorem dX4_swing_40 : decode cX4_swing 40 = .ok (.bipush 20, 2) := by decide +kernel
theorem dX4_swing_42 : decode cX4_swing 42 = .ok (.if_icmp .gt 61, 3) := by decide +kernel
theorem dX4_swing_45 : decode cX4_swing 45 = .ok (.aload_n 0, 1) := by decide +kernel
theorem dX4_swing_46 : decode cX4_swing 46 = .ok (.getfield 26, 3) := by decide +kernel
theorem dX4_swing_49 : decode cX4_swing 49 = .ok (.iload 4, 2) := by decide +kernel
theorem dX4_swing_51 : decode cX4_swing 51 = .ok (.invokevirtual 105, 3) := by decide +kernel
theorem dX4_swing_54 : decode cX4_swing 54 = .ok (.istore 5, 2) := by decide +kernel
theorem dX4_swing_56 : decode cX4_swing 56 = .ok (.iload_n 2, 1) := by decide +kernel
theorem dX4_swing_57 : decode cX4_swing 57 = .ok (.iload 5, 2) := by decide +kernel
theorem dX4_swing_59 : decode cX4_swing 59 = .ok (.iand, 1) := by decide +kernel
theorem dX4_swing_60 : decode cX4_swing 60 = .ok (.invokestatic 129, 3) := by decide +kernel
theorem dX4_swing_63 : decode cX4_swing 63 = .ok (.istore 6, 2) := by decide +kernel
theorem dX4_swing_65 : decode cX4_swing 65 = .ok (.iload_n 2, 1) := by decide +kernel
theorem dX4_swing_66 : decode cX4_swing 66 = .ok (.iload 5, 2) := by decide +kernel
theorem dX4_swing_68 : decode cX4_swing 68 = .ok (.iconst (-1), 1) := by decide +kernel
theorem dX4_swing_69 : decode cX4_swing 69 = .ok (.ixor, 1) := by decide +kernel
theorem dX4_swing_70 : decode cX4_swing 70 = .ok (.iand, 1) := by decide +kernel
theorem dX4_swing_71 : decode cX4_swing 71 = .ok (.invokestatic 129, 3) := by decide +kernel
theorem dX4_swing_74 : decode cX4_swing 74 = .ok (.istore 7, 2) := by decide +kernel
theorem dX4_swing_76 : decode cX4_swing 76 = .ok (.iload 6, 2) := by decide +kernel
theorem dX4_swing_78 : decode cX4_swing 78 = .ok (.iconst 1, 1) := by decide +kernel
theorem dX4_swing_79 : decode cX4_swing 79 = .ok (.iadd, 1) := by decide +kernel
theorem dX4_swing_80 : decode cX4_swing 80 = .ok (.iload 7, 2) := by decide +kernel
theorem dX4_swing_82 : decode cX4_swing 82 = .ok (.if_icmp .le 15, 3) := by decide +kernel
theorem dX4_swing_85 : decode cX4_swing 85 = .ok (.iload 6, 2) := by decide +kernel
theorem dX4_swing_87 : decode cX4_swing 87 = .ok (.iload 7, 2) := by decide +kernel
theorem dX4_swing_89 : decode cX4_swing 89 = .ok (.iconst 1, 1) := by decide +kernel
theorem dX4_swing_90 : decode cX4_swing 90 = .ok (.iadd, 1) := by decide +kernel
theorem dX4_swing_91 : decode cX4_swing 91 = .ok (.if_icmp .gt 6, 3) := by decide +kernel
theorem dX4_swing_94 : decode cX4_swing 94 = .ok (.iinc 3 1, 3) := by decide +kernel
theorem dX4_swing_97 : decode cX4_swing 97 = .ok (.iinc 4 1, 3) := by decide +kernel
theorem dX4_swing_100 : decode cX4_swing 100 = .ok (.goto (-62), 3) := by decide +kernel
theorem dX4_swing_103 : decode cX4_swing 103 = .ok (.iload_n 3, 1) := by decide +kernel
theorem dX4_swing_104 : decode cX4_swing 104 = .ok (.ireturn, 1) := by decide +kernel
theorem dX4_lose_0 : decode cX4_lose 0 = .ok (.iload_n 1, 1) := by decide +kernel
theorem dX4_lose_1 : decode cX4_lose 1 = .ok (.iconst 1, 1) := by decide +kernel
theorem dX4_lose_2 : decode cX4_lose 2 = .ok (.invokestatic 62, 3) := by decide +kernel
theorem dX4_lose_5 : decode cX4_lose 5 = .ok (.ifCond .ne 5, 3) := by decide +kernel
theorem dX4_lose_8 : decode cX4_lose 8 = .ok (.iconst (-1), 1) := by decide +kernel
theorem dX4_lose_9 : decode cX4_lose 9 = .ok (.ireturn, 1) := by decide +kernel
theorem dX4_lose_10 : decode cX4_lose 10 = .ok (.aload_n 0, 1) := by decide +kernel
theorem dX4_lose_11 : decode cX4_lose 11 = .ok (.iconst 1, 1) := by decide +kernel
theorem dX4_lose_12 : decode cX4_lose 12 = .ok (.iload_n 1, 1) := by decide +kernel
theorem dX4_lose_13 : decode cX4_lose 13 = .ok (.invokevirtual 161, 3) := by decide +kernel
theorem dX4_lose_16 : decode cX4_lose 16 = .ok (.ireturn, 1) := by decide +kernel
theorem dX4_cross_0 : decode cX4_cross 0 = .ok (.iload_n 1, 1) := by decide +kernel
theorem dX4_cross_1 : decode cX4_cross 1 = .ok (.iconst 1, 1) := by decide +kernel
theorem dX4_cross_2 : decode cX4_cross 2 = .ok (.invokestatic 62, 3) := by decide +kernel
theorem dX4_cross_5 : decode cX4_cross 5 = .ok (.ifCond .ne 5, 3) := by decide +kernel
theorem dX4_cross_8 : decode cX4_cross 8 = .ok (.iconst (-1), 1) := by decide +kernel
theorem dX4_cross_9 : decode cX4_cross 9 = .ok (.ireturn, 1) := by decide +kernel
theorem dX4_cross_10 : decode cX4_cross 10 = .ok (.aload_n 0, 1) := by decide +kernel
theorem dX4_cross_11 : decode cX4_cross 11 = .ok (.iconst 0, 1) := by decide +kernel
theorem dX4_cross_12 : decode cX4_cross 12 = .ok (.iload_n 1, 1) := by decide +kernel
theorem dX4_cross_13 : decode cX4_cross 13 = .ok (.invokevirtual 161, 3) := by decide +kernel
theorem dX4_cross_16 : decode cX4_cross 16 = .ok (.ireturn, 1) := by decide +kernel
theorem dX4_give_0 : decode cX4_give 0 = .ok (.aload_n 0, 1) := by decide +kernel
theorem dX4_give_1 : decode cX4_give 1 = .ok (.iload_n 1, 1) := by decide +kernel
theorem dX4_give_2 : decode cX4_give 2 = .ok (.invokevirtual 112, 3) := by decide +kernel
theorem dX4_give_5 : decode cX4_give 5 = .ok (.ifCond .eq 12, 3) := by decide +kernel
theorem dX4_give_8 : decode cX4_give 8 = .ok (.iload_n 2, 1) := by decide +kernel
theorem dX4_give_9 : decode cX4_give 9 = .ok (.bipush 60, 2) := by decide +kernel
theorem dX4_give_11 : decode cX4_give 11 = .ok (.invokestatic 62, 3) := by decide +kernel
theorem dX4_give_14 : decode cX4_give 14 = .ok (.ifCond .ne 5, 3) := by decide +kernel
theorem dX4_give_17 : decode cX4_give 17 = .ok (.iconst (-1), 1) := by decide +kernel
theorem dX4_give_18 : decode cX4_give 18 = .ok (.ireturn, 1) := by decide +kernel
theorem dX4_give_19 : decode cX4_give 19 = .ok (.iconst 0, 1) := by decide +kernel
theorem dX4_give_20 : decode cX4_give 20 = .ok (.istore_n 3, 1) := by decide +kernel
theorem dX4_give_21 : decode cX4_give 21 = .ok (.iload_n 3, 1) := by decide +kernel
theorem dX4_give_22 : decode cX4_give 22 = .ok (.bipush 20, 2) := by decide +kernel
theorem dX4_give_24 : decode cX4_give 24 = .ok (.if_icmp .gt 51, 3) := by decide +kernel
theorem dX4_give_27 : decode cX4_give 27 = .ok (.aload_n 0, 1) := by decide +kernel
theorem dX4_give_28 : decode cX4_give 28 = .ok (.getfield 30, 3) := by decide +kernel
theorem dX4_give_31 : decode cX4_give 31 = .ok (.aload_n 0, 1) := by decide +kernel
theorem dX4_give_32 : decode cX4_give 32 = .ok (.getfield 26, 3) := by decide +kernel
theorem dX4_give_35 : decode cX4_give 35 = .ok (.invokevirtual 80, 3) := by decide +kernel
theorem dX4_give_38 : decode cX4_give 38 = .ok (.aload_n 0, 1) := by decide +kernel
theorem dX4_give_39 : decode cX4_give 39 = .ok (.getfield 30, 3) := by decide +kernel
theorem dX4_give_42 : decode cX4_give 42 = .ok (.iload_n 1, 1) := by decide +kernel
theorem dX4_give_43 : decode cX4_give 43 = .ok (.iconst 3, 1) := by decide +kernel
theorem dX4_give_44 : decode cX4_give 44 = .ok (.iload_n 3, 1) := by decide +kernel
theorem dX4_give_45 : decode cX4_give 45 = .ok (.invokevirtual 141, 3) := by decide +kernel
theorem dX4_give_48 : decode cX4_give 48 = .ok (.aload_n 0, 1) := by decide +kernel
theorem dX4_give_49 : decode cX4_give 49 = .ok (.getfield 30, 3) := by decide +kernel
theorem dX4_give_52 : decode cX4_give 52 = .ok (.iload_n 2, 1) := by decide +kernel
theorem dX4_give_53 : decode cX4_give 53 = .ok (.invokevirtual 148, 3) := by decide +kernel
theorem dX4_give_56 : decode cX4_give 56 = .ok (.pop, 1) := by decide +kernel
theorem dX4_give_57 : decode cX4_give 57 = .ok (.aload_n 0, 1) := by decide +kernel
theorem dX4_give_58 : decode cX4_give 58 = .ok (.getfield 30, 3) := by decide +kernel
theorem dX4_give_61 : decode cX4_give 61 = .ok (.invokevirtual 93, 3) := by decide +kernel
theorem dX4_give_64 : decode cX4_give 64 = .ok (.ifCond .eq 5, 3) := by decide +kernel
theorem dX4_give_67 : decode cX4_give 67 = .ok (.iload_n 3, 1) := by decide +kernel
theorem dX4_give_68 : decode cX4_give 68 = .ok (.ireturn, 1) := by decide +kernel
theorem dX4_give_69 : decode cX4_give 69 = .ok (.iinc 3 1, 3) := by decide +kernel
theorem dX4_give_72 : decode cX4_give 72 = .ok (.goto (-51), 3) := by decide +kernel
theorem dX4_give_75 : decode cX4_give 75 = .ok (.bipush (-4), 2) := by decide +kernel
theorem dX4_give_77 : decode cX4_give 77 = .ok (.ireturn, 1) := by decide +kernel
theorem dX4_mind_0 : decode cX4_mind 0 = .ok (.aload_n 0, 1) := by decide +kernel
theorem dX4_mind_1 : decode cX4_mind 1 = .ok (.iload_n 1, 1) := by decide +kernel
theorem dX4_mind_2 : decode cX4_mind 2 = .ok (.invokevirtual 112, 3) := by decide +kernel
theorem dX4_mind_5 : decode cX4_mind 5 = .ok (.ifCond .eq 11, 3) := by decide +kernel
theorem dX4_mind_8 : decode cX4_mind 8 = .ok (.iload_n 2, 1) := by decide +kernel
theorem dX4_mind_9 : decode cX4_mind 9 = .ok (.iconst 1, 1) := by decide +kernel
theorem dX4_mind_10 : decode cX4_mind 10 = .ok (.invokestatic 62, 3) := by decide +kernel
theorem dX4_mind_13 : decode cX4_mind 13 = .ok (.ifCond .ne 5, 3) := by decide +kernel
theorem dX4_mind_16 : decode cX4_mind 16 = .ok (.iconst (-1), 1) := by decide +kernel
theorem dX4_mind_17 : decode cX4_mind 17 = .ok (.ireturn, 1) := by decide +kernel
theorem dX4_mind_18 : decode cX4_mind 18 = .ok (.aload_n 0, 1) := by decide +kernel
theorem dX4_mind_19 : decode cX4_mind 19 = .ok (.iload_n 1, 1) := by decide +kernel
theorem dX4_mind_20 : decode cX4_mind 20 = .ok (.iconst 2, 1) := by decide +kernel
theorem dX4_mind_21 : decode cX4_mind 21 = .ok (.iload_n 2, 1) := by decide +kernel
theorem dX4_mind_22 : decode cX4_mind 22 = .ok (.invokevirtual 157, 3) := by decide +kernel
theorem dX4_mind_25 : decode cX4_mind 25 = .ok (.ireturn, 1) := by decide +kernel
theorem dX4_kind_0 : decode cX4_kind 0 = .ok (.aload_n 0, 1) := by decide +kernel
theorem dX4_kind_1 : decode cX4_kind 1 = .ok (.iload_n 1, 1) := by decide +kernel
theorem dX4_kind_2 : decode cX4_kind 2 = .ok (.invokevirtual 112, 3) := by decide +kernel
theorem dX4_kind_5 : decode cX4_kind 5 = .ok (.ifCond .eq 11, 3) := by decide +kernel
theorem dX4_kind_8 : decode cX4_kind 8 = .ok (.iload_n 2, 1) := by decide +kernel
theorem dX4_kind_9 : decode cX4_kind 9 = .ok (.iconst 1, 1) := by decide +kernel
theorem dX4_kind_10 : decode cX4_kind 10 = .ok (.invokestatic 62, 3) := by decide +kernel
theorem dX4_kind_13 : decode cX4_kind 13 = .ok (.ifCond .ne 5, 3) := by decide +kernel
theorem dX4_kind_16 : decode cX4_kind 16 = .ok (.iconst (-1), 1) := by decide +kernel
theorem dX4_kind_17 : decode cX4_kind 17 = .ok (.ireturn, 1) := by decide +kernel
theorem dX4_kind_18 : decode cX4_kind 18 = .ok (.aload_n 0, 1) := by decide +kernel
theorem dX4_kind_19 : decode cX4_kind 19 = .ok (.iload_n 1, 1) := by decide +kernel
theorem dX4_kind_20 : decode cX4_kind 20 = .ok (.iconst 0, 1) := by decide +kernel
theorem dX4_kind_21 : decode cX4_kind 21 = .ok (.iload_n 2, 1) := by decide +kernel
theorem dX4_kind_22 : decode cX4_kind 22 = .ok (.invokevirtual 157, 3) := by decide +kernel
theorem dX4_kind_25 : decode cX4_kind 25 = .ok (.ireturn, 1) := by decide +kernel
theorem dX4_luck_0 : decode cX4_luck 0 = .ok (.iload_n 1, 1) := by decide +kernel
theorem dX4_luck_1 : decode cX4_luck 1 = .ok (.bipush 10, 2) := by decide +kernel
theorem dX4_luck_3 : decode cX4_luck 3 = .ok (.invokestatic 62, 3) := by decide +kernel
theorem dX4_luck_6 : decode cX4_luck 6 = .ok (.ifCond .eq 20, 3) := by decide +kernel
theorem dX4_luck_9 : decode cX4_luck 9 = .ok (.iload_n 2, 1) := by decide +kernel
theorem dX4_luck_10 : decode cX4_luck 10 = .ok (.bipush 8, 2) := by decide +kernel
theorem dX4_luck_12 : decode cX4_luck 12 = .ok (.invokestatic 62, 3) := by decide +kernel
theorem dX4_luck_15 : decode cX4_luck 15 = .ok (.ifCond .eq 11, 3) := by decide +kernel
theorem dX4_luck_18 : decode cX4_luck 18 = .ok (.iload_n 3, 1) := by decide +kernel
theorem dX4_luck_19 : decode cX4_luck 19 = .ok (.iconst 1, 1) := by decide +kernel
theorem dX4_luck_20 : decode cX4_luck 20 = .ok (.invokestatic 62, 3) := by decide +kernel
theorem dX4_luck_23 : decode cX4_luck 23 = .ok (.ifCond .ne 7, 3) := by decide +kernel
theorem dX4_luck_26 : decode cX4_luck 26 = .ok (.ldc2_w 165, 3) := by decide +kernel
theorem dX4_luck_29 : decode cX4_luck 29 = .ok (.lreturn, 1) := by decide +kernel
theorem dX4_luck_30 : decode cX4_luck 30 = .ok (.aload_n 0, 1) := by decide +kernel
theorem dX4_luck_31 : decode cX4_luck 31 = .ok (.iload_n 1, 1) := by decide +kernel
theorem dX4_luck_32 : decode cX4_luck 32 = .ok (.iload_n 2, 1) := by decide +kernel
theorem dX4_luck_33 : decode cX4_luck 33 = .ok (.iload_n 3, 1) := by decide +kernel
theorem dX4_luck_34 : decode cX4_luck 34 = .ok (.iconst 1, 1) := by decide +kernel
theorem dX4_luck_35 : decode cX4_luck 35 = .ok (.invokevirtual 167, 3) := by decide +kernel
theorem dX4_luck_38 : decode cX4_luck 38 = .ok (.lreturn, 1) := by decide +kernel
theorem dX4_mean_0 : decode cX4_mean 0 = .ok (.iload_n 1, 1) := by decide +kernel
theorem dX4_mean_1 : decode cX4_mean 1 = .ok (.bipush 10, 2) := by decide +kernel
theorem dX4_mean_3 : decode cX4_mean 3 = .ok (.invokestatic 62, 3) := by decide +kernel
theorem dX4_mean_6 : decode cX4_mean 6 = .ok (.ifCond .eq 20, 3) := by decide +kernel
theorem dX4_mean_9 : decode cX4_mean 9 = .ok (.iload_n 2, 1) := by decide +kernel
theorem dX4_mean_10 : decode cX4_mean 10 = .ok (.bipush 8, 2) := by decide +kernel
theorem dX4_mean_12 : decode cX4_mean 12 = .ok (.invokestatic 62, 3) := by decide +kernel
theorem dX4_mean_15 : decode cX4_mean 15 = .ok (.ifCond .eq 11, 3) := by decide +kernel
theorem dX4_mean_18 : decode cX4_mean 18 = .ok (.iload_n 3, 1) := by decide +kernel
theorem dX4_mean_19 : decode cX4_mean 19 = .ok (.iconst 1, 1) := by decide +kernel
theorem dX4_mean_20 : decode cX4_mean 20 = .ok (.invokestatic 62, 3) := by decide +kernel
theorem dX4_mean_23 : decode cX4_mean 23 = .ok (.ifCond .ne 7, 3) := by decide +kernel
theorem dX4_mean_26 : decode cX4_mean 26 = .ok (.ldc2_w 165, 3) := by decide +kernel
theorem dX4_mean_29 : decode cX4_mean 29 = .ok (.lreturn, 1) := by decide +kernel
theorem dX4_mean_30 : decode cX4_mean 30 = .ok (.aload_n 0, 1) := by decide +kernel
theorem dX4_mean_31 : decode cX4_mean 31 = .ok (.iload_n 1, 1) := by decide +kernel
theorem dX4_mean_32 : decode cX4_mean 32 = .ok (.iload_n 2, 1) := by decide +kernel
theorem dX4_mean_33 : decode cX4_mean 33 = .ok (.iload_n 3, 1) := by decide +kernel
theorem dX4_mean_34 : decode cX4_mean 34 = .ok (.iconst 0, 1) := by decide +kernel
theorem dX4_mean_35 : decode cX4_mean 35 = .ok (.invokevirtual 167, 3) := by decide +kernel
theorem dX4_mean_38 : decode cX4_mean 38 = .ok (.lreturn, 1) := by decide +kernel
theorem dX4_see_0 : decode cX4_see 0 = .ok (.iload_n 1, 1) := by decide +kernel
theorem dX4_see_1 : decode cX4_see 1 = .ok (.bipush 20, 2) := by decide +kernel
theorem dX4_see_3 : decode cX4_see 3 = .ok (.invokestatic 62, 3) := by decide +kernel
theorem dX4_see_6 : decode cX4_see 6 = .ok (.ifCond .eq 12, 3) := by decide +kernel
theorem dX4_see_9 : decode cX4_see 9 = .ok (.iload_n 2, 1) := by decide +kernel
theorem dX4_see_10 : decode cX4_see 10 = .ok (.bipush 20, 2) := by decide +kernel
theorem dX4_see_12 : decode cX4_see 12 = .ok (.invokestatic 62, 3) := by decide +kernel
theorem dX4_see_15 : decode cX4_see 15 = .ok (.ifCond .ne 5, 3) := by decide +kernel
theorem dX4_see_18 : decode cX4_see 18 = .ok (.iconst (-1), 1) := by decide +kernel
theorem dX4_see_19 : decode cX4_see 19 = .ok (.ireturn, 1) := by decide +kernel
theorem dX4_see_20 : decode cX4_see 20 = .ok (.aload_n 0, 1) := by decide +kernel
theorem dX4_see_21 : decode cX4_see 21 = .ok (.getfield 26, 3) := by decide +kernel
theorem dX4_see_24 : decode cX4_see 24 = .ok (.getfield 171, 3) := by decide +kernel
theorem dX4_see_27 : decode cX4_see 27 = .ok (.bipush 6, 2) := by decide +kernel
theorem dX4_see_29 : decode cX4_see 29 = .ok (.if_icmp .lt 6, 3) := by decide +kernel
theorem dX4_see_32 : decode cX4_see 32 = .ok (.bipush (-3), 2) := by decide +kernel
theorem dX4_see_34 : decode cX4_see 34 = .ok (.ireturn, 1) := by decide +kernel
theorem dX4_see_35 : decode cX4_see 35 = .ok (.aload_n 0, 1) := by decide +kernel
theorem dX4_see_36 : decode cX4_see 36 = .ok (.getfield 26, 3) := by decide +kernel
theorem dX4_see_39 : decode cX4_see 39 = .ok (.getfield 174, 3) := by decide +kernel
theorem dX4_see_42 : decode cX4_see 42 = .ok (.aload_n 0, 1) := by decide +kernel
theorem dX4_see_43 : decode cX4_see 43 = .ok (.getfield 26, 3) := by decide +kernel
theorem dX4_see_46 : decode cX4_see 46 = .ok (.getfield 171, 3) := by decide +kernel
theorem dX4_see_49 : decode cX4_see 49 = .ok (.iload_n 1, 1) := by decide +kernel
theorem dX4_see_50 : decode cX4_see 50 = .ok (.iastore, 1) := by decide +kernel
theorem dX4_see_51 : decode cX4_see 51 = .ok (.aload_n 0, 1) := by decide +kernel
theorem dX4_see_52 : decode cX4_see 52 = .ok (.getfield 26, 3) := by decide +kernel
theorem dX4_see_55 : decode cX4_see 55 = .ok (.getfield 177, 3) := by decide +kernel
theorem dX4_see_58 : decode cX4_see 58 = .ok (.aload_n 0, 1) := by decide +kernel
theorem dX4_see_59 : decode cX4_see 59 = .ok (.getfield 26, 3) := by decide +kernel
theorem dX4_see_62 : decode cX4_see 62 = .ok (.getfield 171, 3) := by decide +kernel
theorem dX4_see_65 : decode cX4_see 65 = .ok (.iload_n 2, 1) := by decide +kernel
theorem dX4_see_66 : decode cX4_see 66 = .ok (.iastore, 1) := by decide +kernel
theorem dX4_see_67 : decode cX4_see 67 = .ok (.aload_n 0, 1) := by decide +kernel
theorem dX4_see_68 : decode cX4_see 68 = .ok (.getfield 26, 3) := by decide +kernel
theorem dX4_see_71 : decode cX4_see 71 = .ok (.dup, 1) := by decide +kernel
theorem dX4_see_72 : decode cX4_see 72 = .ok (.getfield 171, 3) := by decide +kernel
theorem dX4_see_75 : decode cX4_see 75 = .ok (.iconst 1, 1) := by decide +kernel
theorem dX4_see_76 : decode cX4_see 76 = .ok (.iadd, 1) := by decide +kernel
theorem dX4_see_77 : decode cX4_see 77 = .ok (.putfield 171, 3) := by decide +kernel
theorem dX4_see_80 : decode cX4_see 80 = .ok (.aload_n 0, 1) := by decide +kernel
theorem dX4_see_81 : decode cX4_see 81 = .ok (.getfield 26, 3) := by decide +kernel
theorem dX4_see_84 : decode cX4_see 84 = .ok (.getfield 171, 3) := by decide +kernel
theorem dX4_see_87 : decode cX4_see 87 = .ok (.ireturn, 1) := by decide +kernel
theorem dX4_forget_0 : decode cX4_forget 0 = .ok (.iload_n 1, 1) := by decide +kernel
theorem dX4_forget_1 : decode cX4_forget 1 = .ok (.aload_n 0, 1) := by decide +kernel
theorem dX4_forget_2 : decode cX4_forget 2 = .ok (.getfield 26, 3) := by decide +kernel
theorem dX4_forget_5 : decode cX4_forget 5 = .ok (.getfield 171, 3) := by decide +kernel
theorem dX4_forget_8 : decode cX4_forget 8 = .ok (.invokestatic 62, 3) := by decide +kernel
theorem dX4_forget_11 : decode cX4_forget 11 = .ok (.ifCond .ne 5, 3) := by decide +kernel
theorem dX4_forget_14 : decode cX4_forget 14 = .ok (.iconst (-1), 1) := by decide +kernel
theorem dX4_forget_15 : decode cX4_forget 15 = .ok (.ireturn, 1) := by decide +kernel
theorem dX4_forget_16 : decode cX4_forget 16 = .ok (.aload_n 0, 1) := by decide +kernel
theorem dX4_forget_17 : decode cX4_forget 17 = .ok (.getfield 26, 3) := by decide +kernel
theorem dX4_forget_20 : decode cX4_forget 20 = .ok (.getfield 171, 3) := by decide +kernel
theorem dX4_forget_23 : decode cX4_forget 23 = .ok (.istore_n 2, 1) := by decide +kernel
theorem dX4_forget_24 : decode cX4_forget 24 = .ok (.aload_n 0, 1) := by decide +kernel
theorem dX4_forget_25 : decode cX4_forget 25 = .ok (.getfield 26, 3) := by decide +kernel
theorem dX4_forget_28 : decode cX4_forget 28 = .ok (.iload_n 1, 1) := by decide +kernel
theorem dX4_forget_29 : decode cX4_forget 29 = .ok (.putfield 171, 3) := by decide +kernel
theorem dX4_forget_32 : decode cX4_forget 32 = .ok (.iload_n 2, 1) := by decide +kernel
theorem dX4_forget_33 : decode cX4_forget 33 = .ok (.ireturn, 1) := by decide +kernel
theorem dX4_kinds_0 : decode cX4_kinds 0 = .ok (.aload_n 0, 1) := by decide +kernel
theorem dX4_kinds_1 : decode cX4_kinds 1 = .ok (.iload_n 1, 1) := by decide +kernel
theorem dX4_kinds_2 : decode cX4_kinds 2 = .ok (.invokevirtual 112, 3) := by decide +kernel
theorem dX4_kinds_5 : decode cX4_kinds 5 = .ok (.ifCond .eq 12, 3) := by decide +kernel
theorem dX4_kinds_8 : decode cX4_kinds 8 = .ok (.aload_n 0, 1) := by decide +kernel
theorem dX4_kinds_9 : decode cX4_kinds 9 = .ok (.iload_n 1, 1) := by decide +kernel
theorem dX4_kinds_10 : decode cX4_kinds 10 = .ok (.iconst 0, 1) := by decide +kernel
theorem dX4_kinds_11 : decode cX4_kinds 11 = .ok (.invokevirtual 180, 3) := by decide +kernel
theorem dX4_kinds_14 : decode cX4_kinds 14 = .ok (.goto 4, 3) := by decide +kernel
theorem dX4_kinds_17 : decode cX4_kinds 17 = .ok (.iconst (-1), 1) := by decide +kernel
theorem dX4_kinds_18 : decode cX4_kinds 18 = .ok (.ireturn, 1) := by decide +kernel
theorem dX4_wants_0 : decode cX4_wants 0 = .ok (.aload_n 0, 1) := by decide +kernel
theorem dX4_wants_1 : decode cX4_wants 1 = .ok (.iload_n 1, 1) := by decide +kernel
theorem dX4_wants_2 : decode cX4_wants 2 = .ok (.invokevirtual 112, 3) := by decide +kernel
