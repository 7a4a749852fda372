theorem dX0_init_0 : decode cX0_init 0 = .ok (.aload_n 0, 1) := by decide +kernel
theorem dX0_init_1 : decode cX0_init 1 = .ok (.invokespecial 3, 3) := by decide +kernel
theorem dX0_init_4 : decode cX0_init 4 = .ok (.aload_n 0, 1) := by decide +kernel
theorem dX0_init_5 : decode cX0_init 5 = .ok (.bipush 24, 2) := by decide +kernel
theorem dX0_init_7 : decode cX0_init 7 = .ok (.newarray .int, 2) := by decide +kernel
theorem dX0_init_9 : decode cX0_init 9 = .ok (.putfield 9, 3) := by decide +kernel
theorem dX0_init_12 : decode cX0_init 12 = .ok (.aload_n 0, 1) := by decide +kernel
theorem dX0_init_13 : decode cX0_init 13 = .ok (.bipush 6, 2) := by decide +kernel
theorem dX0_init_15 : decode cX0_init 15 = .ok (.newarray .int, 2) := by decide +kernel
theorem dX0_init_17 : decode cX0_init 17 = .ok (.putfield 15, 3) := by decide +kernel
theorem dX0_init_20 : decode cX0_init 20 = .ok (.aload_n 0, 1) := by decide +kernel
theorem dX0_init_21 : decode cX0_init 21 = .ok (.bipush 6, 2) := by decide +kernel
theorem dX0_init_23 : decode cX0_init 23 = .ok (.newarray .int, 2) := by decide +kernel
theorem dX0_init_25 : decode cX0_init 25 = .ok (.putfield 18, 3) := by decide +kernel
theorem dX0_init_28 : decode cX0_init 28 = .ok (.aload_n 0, 1) := by decide +kernel
theorem dX0_init_29 : decode cX0_init 29 = .ok (.iconst 0, 1) := by decide +kernel
theorem dX0_init_30 : decode cX0_init 30 = .ok (.putfield 21, 3) := by decide +kernel
theorem dX0_init_33 : decode cX0_init 33 = .ok (.aload_n 0, 1) := by decide +kernel
theorem dX0_init_34 : decode cX0_init 34 = .ok (.bipush 10, 2) := by decide +kernel
theorem dX0_init_36 : decode cX0_init 36 = .ok (.putfield 25, 3) := by decide +kernel
theorem dX0_init_39 : decode cX0_init 39 = .ok (.aload_n 0, 1) := by decide +kernel
theorem dX0_init_40 : decode cX0_init 40 = .ok (.iconst 0, 1) := by decide +kernel
theorem dX0_init_41 : decode cX0_init 41 = .ok (.putfield 28, 3) := by decide +kernel
theorem dX0_init_44 : decode cX0_init 44 = .ok (.aload_n 0, 1) := by decide +kernel
theorem dX0_init_45 : decode cX0_init 45 = .ok (.iconst 0, 1) := by decide +kernel
theorem dX0_init_46 : decode cX0_init 46 = .ok (.putfield 31, 3) := by decide +kernel
theorem dX0_init_49 : decode cX0_init 49 = .ok (.aload_n 0, 1) := by decide +kernel
theorem dX0_init_50 : decode cX0_init 50 = .ok (.iconst 0, 1) := by decide +kernel
theorem dX0_init_51 : decode cX0_init 51 = .ok (.putfield 34, 3) := by decide +kernel
theorem dX0_init_54 : decode cX0_init 54 = .ok (.return_, 1) := by decide +kernel
theorem dX0_become_0 : decode cX0_become 0 = .ok (.aload_n 1, 1) := by decide +kernel
theorem dX0_become_1 : decode cX0_become 1 = .ok (.getfield 9, 3) := by decide +kernel
theorem dX0_become_4 : decode cX0_become 4 = .ok (.iconst 0, 1) := by decide +kernel
theorem dX0_become_5 : decode cX0_become 5 = .ok (.aload_n 0, 1) := by decide +kernel
theorem dX0_become_6 : decode cX0_become 6 = .ok (.getfield 9, 3) := by decide +kernel
theorem dX0_become_9 : decode cX0_become 9 = .ok (.iconst 0, 1) := by decide +kernel
theorem dX0_become_10 : decode cX0_become 10 = .ok (.aload_n 0, 1) := by decide +kernel
theorem dX0_become_11 : decode cX0_become 11 = .ok (.getfield 9, 3) := by decide +kernel
theorem dX0_become_14 : decode cX0_become 14 = .ok (.arraylength, 1) := by decide +kernel
theorem dX0_become_15 : decode cX0_become 15 = .ok (.invokestatic 37, 3) := by decide +kernel
theorem dX0_become_18 : decode cX0_become 18 = .ok (.aload_n 1, 1) := by decide +kernel
theorem dX0_become_19 : decode cX0_become 19 = .ok (.getfield 15, 3) := by decide +kernel
theorem dX0_become_22 : decode cX0_become 22 = .ok (.iconst 0, 1) := by decide +kernel
theorem dX0_become_23 : decode cX0_become 23 = .ok (.aload_n 0, 1) := by decide +kernel
theorem dX0_become_24 : decode cX0_become 24 = .ok (.getfield 15, 3) := by decide +kernel
theorem dX0_become_27 : decode cX0_become 27 = .ok (.iconst 0, 1) := by decide +kernel
theorem dX0_become_28 : decode cX0_become 28 = .ok (.aload_n 0, 1) := by decide +kernel
theorem dX0_become_29 : decode cX0_become 29 = .ok (.getfield 15, 3) := by decide +kernel
theorem dX0_become_32 : decode cX0_become 32 = .ok (.arraylength, 1) := by decide +kernel
theorem dX0_become_33 : decode cX0_become 33 = .ok (.invokestatic 37, 3) := by decide +kernel
theorem dX0_become_36 : decode cX0_become 36 = .ok (.aload_n 1, 1) := by decide +kernel
theorem dX0_become_37 : decode cX0_become 37 = .ok (.getfield 18, 3) := by decide +kernel
theorem dX0_become_40 : decode cX0_become 40 = .ok (.iconst 0, 1) := by decide +kernel
theorem dX0_become_41 : decode cX0_become 41 = .ok (.aload_n 0, 1) := by decide +kernel
theorem dX0_become_42 : decode cX0_become 42 = .ok (.getfield 18, 3) := by decide +kernel
theorem dX0_become_45 : decode cX0_become 45 = .ok (.iconst 0, 1) := by decide +kernel
theorem dX0_become_46 : decode cX0_become 46 = .ok (.aload_n 0, 1) := by decide +kernel
theorem dX0_become_47 : decode cX0_become 47 = .ok (.getfield 18, 3) := by decide +kernel
theorem dX0_become_50 : decode cX0_become 50 = .ok (.arraylength, 1) := by decide +kernel
theorem dX0_become_51 : decode cX0_become 51 = .ok (.invokestatic 37, 3) := by decide +kernel
theorem dX0_become_54 : decode cX0_become 54 = .ok (.aload_n 0, 1) := by decide +kernel
theorem dX0_become_55 : decode cX0_become 55 = .ok (.aload_n 1, 1) := by decide +kernel
theorem dX0_become_56 : decode cX0_become 56 = .ok (.getfield 21, 3) := by decide +kernel
theorem dX0_become_59 : decode cX0_become 59 = .ok (.putfield 21, 3) := by decide +kernel
theorem dX0_become_62 : decode cX0_become 62 = .ok (.aload_n 0, 1) := by decide +kernel
theorem dX0_become_63 : decode cX0_become 63 = .ok (.aload_n 1, 1) := by decide +kernel
theorem dX0_become_64 : decode cX0_become 64 = .ok (.getfield 25, 3) := by decide +kernel
theorem dX0_become_67 : decode cX0_become 67 = .ok (.putfield 25, 3) := by decide +kernel
theorem dX0_become_70 : decode cX0_become 70 = .ok (.aload_n 0, 1) := by decide +kernel
theorem dX0_become_71 : decode cX0_become 71 = .ok (.aload_n 1, 1) := by decide +kernel
theorem dX0_become_72 : decode cX0_become 72 = .ok (.getfield 28, 3) := by decide +kernel
theorem dX0_become_75 : decode cX0_become 75 = .ok (.putfield 28, 3) := by decide +kernel
theorem dX0_become_78 : decode cX0_become 78 = .ok (.aload_n 0, 1) := by decide +kernel
theorem dX0_become_79 : decode cX0_become 79 = .ok (.aload_n 1, 1) := by decide +kernel
theorem dX0_become_80 : decode cX0_become 80 = .ok (.getfield 31, 3) := by decide +kernel
theorem dX0_become_83 : decode cX0_become 83 = .ok (.putfield 31, 3) := by decide +kernel
theorem dX0_become_86 : decode cX0_become 86 = .ok (.aload_n 0, 1) := by decide +kernel
theorem dX0_become_87 : decode cX0_become 87 = .ok (.aload_n 1, 1) := by decide +kernel
theorem dX0_become_88 : decode cX0_become 88 = .ok (.getfield 34, 3) := by decide +kernel
theorem dX0_become_91 : decode cX0_become 91 = .ok (.putfield 34, 3) := by decide +kernel
theorem dX0_become_94 : decode cX0_become 94 = .ok (.return_, 1) := by decide +kernel
theorem dX0_beginAnew_0 : decode cX0_beginAnew 0 = .ok (.aload_n 0, 1) := by decide +kernel
theorem dX0_beginAnew_1 : decode cX0_beginAnew 1 = .ok (.iconst 0, 1) := by decide +kernel
theorem dX0_beginAnew_2 : decode cX0_beginAnew 2 = .ok (.putfield 21, 3) := by decide +kernel
theorem dX0_beginAnew_5 : decode cX0_beginAnew 5 = .ok (.aload_n 0, 1) := by decide +kernel
theorem dX0_beginAnew_6 : decode cX0_beginAnew 6 = .ok (.bipush 10, 2) := by decide +kernel
theorem dX0_beginAnew_8 : decode cX0_beginAnew 8 = .ok (.putfield 25, 3) := by decide +kernel
theorem dX0_beginAnew_11 : decode cX0_beginAnew 11 = .ok (.aload_n 0, 1) := by decide +kernel
theorem dX0_beginAnew_12 : decode cX0_beginAnew 12 = .ok (.iconst 0, 1) := by decide +kernel
theorem dX0_beginAnew_13 : decode cX0_beginAnew 13 = .ok (.putfield 28, 3) := by decide +kernel
theorem dX0_beginAnew_16 : decode cX0_beginAnew 16 = .ok (.aload_n 0, 1) := by decide +kernel
theorem dX0_beginAnew_17 : decode cX0_beginAnew 17 = .ok (.iconst 0, 1) := by decide +kernel
theorem dX0_beginAnew_18 : decode cX0_beginAnew 18 = .ok (.putfield 31, 3) := by decide +kernel
theorem dX0_beginAnew_21 : decode cX0_beginAnew 21 = .ok (.aload_n 0, 1) := by decide +kernel
theorem dX0_beginAnew_22 : decode cX0_beginAnew 22 = .ok (.iconst 0, 1) := by decide +kernel
theorem dX0_beginAnew_23 : decode cX0_beginAnew 23 = .ok (.putfield 34, 3) := by decide +kernel
theorem dX0_beginAnew_26 : decode cX0_beginAnew 26 = .ok (.return_, 1) := by decide +kernel
theorem dX0_part_0 : decode cX0_part 0 = .ok (.aload_n 0, 1) := by decide +kernel
theorem dX0_part_1 : decode cX0_part 1 = .ok (.getfield 9, 3) := by decide +kernel
theorem dX0_part_4 : decode cX0_part 4 = .ok (.iload_n 1, 1) := by decide +kernel
theorem dX0_part_5 : decode cX0_part 5 = .ok (.iconst 4, 1) := by decide +kernel
theorem dX0_part_6 : decode cX0_part 6 = .ok (.imul, 1) := by decide +kernel
theorem dX0_part_7 : decode cX0_part 7 = .ok (.iload_n 2, 1) := by decide +kernel
theorem dX0_part_8 : decode cX0_part 8 = .ok (.iadd, 1) := by decide +kernel
theorem dX0_part_9 : decode cX0_part 9 = .ok (.iaload, 1) := by decide +kernel
theorem dX0_part_10 : decode cX0_part 10 = .ok (.ireturn, 1) := by decide +kernel
theorem dX0_put_0 : decode cX0_put 0 = .ok (.iload_n 2, 1) := by decide +kernel
theorem dX0_put_1 : decode cX0_put 1 = .ok (.iconst 4, 1) := by decide +kernel
theorem dX0_put_2 : decode cX0_put 2 = .ok (.if_icmp .ne 11, 3) := by decide +kernel
theorem dX0_put_5 : decode cX0_put 5 = .ok (.aload_n 0, 1) := by decide +kernel
theorem dX0_put_6 : decode cX0_put 6 = .ok (.iload_n 3, 1) := by decide +kernel
theorem dX0_put_7 : decode cX0_put 7 = .ok (.putfield 25, 3) := by decide +kernel
theorem dX0_put_10 : decode cX0_put 10 = .ok (.goto 14, 3) := by decide +kernel
theorem dX0_put_13 : decode cX0_put 13 = .ok (.aload_n 0, 1) := by decide +kernel
theorem dX0_put_14 : decode cX0_put 14 = .ok (.getfield 9, 3) := by decide +kernel
theorem dX0_put_17 : decode cX0_put 17 = .ok (.iload_n 1, 1) := by decide +kernel
theorem dX0_put_18 : decode cX0_put 18 = .ok (.iconst 4, 1) := by decide +kernel
theorem dX0_put_19 : decode cX0_put 19 = .ok (.imul, 1) := by decide +kernel
theorem dX0_put_20 : decode cX0_put 20 = .ok (.iload_n 2, 1) := by decide +kernel
theorem dX0_put_21 : decode cX0_put 21 = .ok (.iadd, 1) := by decide +kernel
theorem dX0_put_22 : decode cX0_put 22 = .ok (.iload_n 3, 1) := by decide +kernel
theorem dX0_put_23 : decode cX0_put 23 = .ok (.iastore, 1) := by decide +kernel
theorem dX0_put_24 : decode cX0_put 24 = .ok (.return_, 1) := by decide +kernel
theorem dX0_addMember_0 : decode cX0_addMember 0 = .ok (.aload_n 0, 1) := by decide +kernel
theorem dX0_addMember_1 : decode cX0_addMember 1 = .ok (.getfield 21, 3) := by decide +kernel
theorem dX0_addMember_4 : decode cX0_addMember 4 = .ok (.istore_n 2, 1) := by decide +kernel
theorem dX0_addMember_5 : decode cX0_addMember 5 = .ok (.aload_n 0, 1) := by decide +kernel
theorem dX0_addMember_6 : decode cX0_addMember 6 = .ok (.dup, 1) := by decide +kernel
theorem dX0_addMember_7 : decode cX0_addMember 7 = .ok (.getfield 21, 3) := by decide +kernel
theorem dX0_addMember_10 : decode cX0_addMember 10 = .ok (.iconst 1, 1) := by decide +kernel
theorem dX0_addMember_11 : decode cX0_addMember 11 = .ok (.iadd, 1) := by decide +kernel
theorem dX0_addMember_12 : decode cX0_addMember 12 = .ok (.putfield 21, 3) := by decide +kernel
theorem dX0_addMember_15 : decode cX0_addMember 15 = .ok (.aload_n 0, 1) := by decide +kernel
theorem dX0_addMember_16 : decode cX0_addMember 16 = .ok (.iload_n 2, 1) := by decide +kernel
theorem dX0_addMember_17 : decode cX0_addMember 17 = .ok (.iconst 0, 1) := by decide +kernel
theorem dX0_addMember_18 : decode cX0_addMember 18 = .ok (.iload_n 1, 1) := by decide +kernel
theorem dX0_addMember_19 : decode cX0_addMember 19 = .ok (.invokevirtual 43, 3) := by decide +kernel
theorem dX0_addMember_22 : decode cX0_addMember 22 = .ok (.aload_n 0, 1) := by decide +kernel
theorem dX0_addMember_23 : decode cX0_addMember 23 = .ok (.iload_n 2, 1) := by decide +kernel
theorem dX0_addMember_24 : decode cX0_addMember 24 = .ok (.iconst 1, 1) := by decide +kernel
theorem dX0_addMember_25 : decode cX0_addMember 25 = .ok (.iconst 0, 1) := by decide +kernel
theorem dX0_addMember_26 : decode cX0_addMember 26 = .ok (.invokevirtual 43, 3) := by decide +kernel
theorem dX0_addMember_29 : decode cX0_addMember 29 = .ok (.aload_n 0, 1) := by decide +kernel
theorem dX0_addMember_30 : decode cX0_addMember 30 = .ok (.iload_n 2, 1) := by decide +kernel
theorem dX0_addMember_31 : decode cX0_addMember 31 = .ok (.iconst 2, 1) := by decide +kernel
theorem dX0_addMember_32 : decode cX0_addMember 32 = .ok (.iconst 0, 1) := by decide +kernel
theorem dX0_addMember_33 : decode cX0_addMember 33 = .ok (.invokevirtual 43, 3) := by decide +kernel
theorem dX0_addMember_36 : decode cX0_addMember 36 = .ok (.aload_n 0, 1) := by decide +kernel
theorem dX0_addMember_37 : decode cX0_addMember 37 = .ok (.iload_n 2, 1) := by decide +kernel
theorem dX0_addMember_38 : decode cX0_addMember 38 = .ok (.iconst 3, 1) := by decide +kernel
theorem dX0_addMember_39 : decode cX0_addMember 39 = .ok (.iconst 0, 1) := by decide +kernel
theorem dX0_addMember_40 : decode cX0_addMember 40 = .ok (.invokevirtual 43, 3) := by decide +kernel
theorem dX0_addMember_43 : decode cX0_addMember 43 = .ok (.iload_n 2, 1) := by decide +kernel
theorem dX0_addMember_44 : decode cX0_addMember 44 = .ok (.ireturn, 1) := by decide +kernel
theorem dX0_leaveOut_0 : decode cX0_leaveOut 0 = .ok (.iload_n 1, 1) := by decide +kernel
theorem dX0_leaveOut_1 : decode cX0_leaveOut 1 = .ok (.iconst 1, 1) := by decide +kernel
theorem dX0_leaveOut_2 : decode cX0_leaveOut 2 = .ok (.iadd, 1) := by decide +kernel
theorem dX0_leaveOut_3 : decode cX0_leaveOut 3 = .ok (.iconst 4, 1) := by decide +kernel
theorem dX0_leaveOut_4 : decode cX0_leaveOut 4 = .ok (.imul, 1) := by decide +kernel
theorem dX0_leaveOut_5 : decode cX0_leaveOut 5 = .ok (.istore_n 2, 1) := by decide +kernel
theorem dX0_leaveOut_6 : decode cX0_leaveOut 6 = .ok (.aload_n 0, 1) := by decide +kernel
theorem dX0_leaveOut_7 : decode cX0_leaveOut 7 = .ok (.getfield 9, 3) := by decide +kernel
theorem dX0_leaveOut_10 : decode cX0_leaveOut 10 = .ok (.iload_n 2, 1) := by decide +kernel
theorem dX0_leaveOut_11 : decode cX0_leaveOut 11 = .ok (.aload_n 0, 1) := by decide +kernel
theorem dX0_leaveOut_12 : decode cX0_leaveOut 12 = .ok (.getfield 9, 3) := by decide +kernel
theorem dX0_leaveOut_15 : decode cX0_leaveOut 15 = .ok (.iload_n 1, 1) := by decide +kernel
theorem dX0_leaveOut_16 : decode cX0_leaveOut 16 = .ok (.iconst 4, 1) := by decide +kernel
theorem dX0_leaveOut_17 : decode cX0_leaveOut 17 = .ok (.imul, 1) := by decide +kernel
theorem dX0_leaveOut_18 : decode cX0_leaveOut 18 = .ok (.aload_n 0, 1) := by decide +kernel
theorem dX0_leaveOut_19 : decode cX0_leaveOut 19 = .ok (.getfield 9, 3) := by decide +kernel
theorem dX0_leaveOut_22 : decode cX0_leaveOut 22 = .ok (.arraylength, 1) := by decide +kernel
theorem dX0_leaveOut_23 : decode cX0_leaveOut 23 = .ok (.iload_n 2, 1) := by decide +kernel
theorem dX0_leaveOut_24 : decode cX0_leaveOut 24 = .ok (.isub, 1) := by decide +kernel
theorem dX0_leaveOut_25 : decode cX0_leaveOut 25 = .ok (.invokestatic 37, 3) := by decide +kernel
theorem dX0_leaveOut_28 : decode cX0_leaveOut 28 = .ok (.aload_n 0, 1) := by decide +kernel
theorem dX0_leaveOut_29 : decode cX0_leaveOut 29 = .ok (.dup, 1) := by decide +kernel
theorem dX0_leaveOut_30 : decode cX0_leaveOut 30 = .ok (.getfield 21, 3) := by decide +kernel
theorem dX0_leaveOut_33 : decode cX0_leaveOut 33 = .ok (.iconst 1, 1) := by decide +kernel
theorem dX0_leaveOut_34 : decode cX0_leaveOut 34 = .ok (.isub, 1) := by decide +kernel
theorem dX0_leaveOut_35 : decode cX0_leaveOut 35 = .ok (.putfield 21, 3) := by decide +kernel
theorem dX0_leaveOut_38 : decode cX0_leaveOut 38 = .ok (.return_, 1) := by decide +kernel
theorem dX0_sumOf_0 : decode cX0_sumOf 0 = .ok (.iconst 0, 1) := by decide +kernel
theorem dX0_sumOf_1 : decode cX0_sumOf 1 = .ok (.istore_n 2, 1) := by decide +kernel
theorem dX0_sumOf_2 : decode cX0_sumOf 2 = .ok (.iconst 0, 1) := by decide +kernel
theorem dX0_sumOf_3 : decode cX0_sumOf 3 = .ok (.istore_n 3, 1) := by decide +kernel
theorem dX0_sumOf_4 : decode cX0_sumOf 4 = .ok (.iload_n 3, 1) := by decide +kernel
theorem dX0_sumOf_5 : decode cX0_sumOf 5 = .ok (.aload_n 0, 1) := by decide +kernel
theorem dX0_sumOf_6 : decode cX0_sumOf 6 = .ok (.getfield 21, 3) := by decide +kernel
theorem dX0_sumOf_9 : decode cX0_sumOf 9 = .ok (.if_icmp .ge 18, 3) := by decide +kernel
theorem dX0_sumOf_12 : decode cX0_sumOf 12 = .ok (.iload_n 2, 1) := by decide +kernel
theorem dX0_sumOf_13 : decode cX0_sumOf 13 = .ok (.aload_n 0, 1) := by decide +kernel
theorem dX0_sumOf_14 : decode cX0_sumOf 14 = .ok (.iload_n 3, 1) := by decide +kernel
theorem dX0_sumOf_15 : decode cX0_sumOf 15 = .ok (.iload_n 1, 1) := by decide +kernel
theorem dX0_sumOf_16 : decode cX0_sumOf 16 = .ok (.invokevirtual 47, 3) := by decide +kernel
theorem dX0_sumOf_19 : decode cX0_sumOf 19 = .ok (.iadd, 1) := by decide +kernel
theorem dX0_sumOf_20 : decode cX0_sumOf 20 = .ok (.istore_n 2, 1) := by decide +kernel
theorem dX0_sumOf_21 : decode cX0_sumOf 21 = .ok (.iinc 3 1, 3) := by decide +kernel
theorem dX0_sumOf_24 : decode cX0_sumOf 24 = .ok (.goto (-20), 3) := by decide +kernel
theorem dX0_sumOf_27 : decode cX0_sumOf 27 = .ok (.iload_n 2, 1) := by decide +kernel
theorem dX0_sumOf_28 : decode cX0_sumOf 28 = .ok (.ireturn, 1) := by decide +kernel
theorem dX0_votesFor_0 : decode cX0_votesFor 0 = .ok (.iload_n 2, 1) := by decide +kernel
theorem dX0_votesFor_1 : decode cX0_votesFor 1 = .ok (.aload_n 0, 1) := by decide +kernel
theorem dX0_votesFor_2 : decode cX0_votesFor 2 = .ok (.getfield 9, 3) := by decide +kernel
theorem dX0_votesFor_5 : decode cX0_votesFor 5 = .ok (.iload_n 1, 1) := by decide +kernel
theorem dX0_votesFor_6 : decode cX0_votesFor 6 = .ok (.iconst 4, 1) := by decide +kernel
theorem dX0_votesFor_7 : decode cX0_votesFor 7 = .ok (.imul, 1) := by decide +kernel
theorem dX0_votesFor_8 : decode cX0_votesFor 8 = .ok (.iconst 2, 1) := by decide +kernel
theorem dX0_votesFor_9 : decode cX0_votesFor 9 = .ok (.iadd, 1) := by decide +kernel
theorem dX0_votesFor_10 : decode cX0_votesFor 10 = .ok (.iaload, 1) := by decide +kernel
theorem dX0_votesFor_11 : decode cX0_votesFor 11 = .ok (.isub, 1) := by decide +kernel
theorem dX0_votesFor_12 : decode cX0_votesFor 12 = .ok (.istore_n 3, 1) := by decide +kernel
theorem dX0_votesFor_13 : decode cX0_votesFor 13 = .ok (.aload_n 0, 1) := by decide +kernel
theorem dX0_votesFor_14 : decode cX0_votesFor 14 = .ok (.getfield 9, 3) := by decide +kernel
theorem dX0_votesFor_17 : decode cX0_votesFor 17 = .ok (.iload_n 1, 1) := by decide +kernel
theorem dX0_votesFor_18 : decode cX0_votesFor 18 = .ok (.iconst 4, 1) := by decide +kernel
theorem dX0_votesFor_19 : decode cX0_votesFor 19 = .ok (.imul, 1) := by decide +kernel
theorem dX0_votesFor_20 : decode cX0_votesFor 20 = .ok (.iconst 3, 1) := by decide +kernel
theorem dX0_votesFor_21 : decode cX0_votesFor 21 = .ok (.iadd, 1) := by decide +kernel
theorem dX0_votesFor_22 : decode cX0_votesFor 22 = .ok (.iaload, 1) := by decide +kernel
theorem dX0_votesFor_23 : decode cX0_votesFor 23 = .ok (.istore 4, 2) := by decide +kernel
theorem dX0_votesFor_25 : decode cX0_votesFor 25 = .ok (.iload_n 3, 1) := by decide +kernel
theorem dX0_votesFor_26 : decode cX0_votesFor 26 = .ok (.iload 4, 2) := by decide +kernel
theorem dX0_votesFor_28 : decode cX0_votesFor 28 = .ok (.if_icmp .gt 14, 3) := by decide +kernel
theorem dX0_votesFor_31 : decode cX0_votesFor 31 = .ok (.iload_n 3, 1) := by decide +kernel
theorem dX0_votesFor_32 : decode cX0_votesFor 32 = .ok (.ineg, 1) := by decide +kernel
theorem dX0_votesFor_33 : decode cX0_votesFor 33 = .ok (.iload 4, 2) := by decide +kernel
theorem dX0_votesFor_35 : decode cX0_votesFor 35 = .ok (.if_icmp .gt 7, 3) := by decide +kernel
theorem dX0_votesFor_38 : decode cX0_votesFor 38 = .ok (.iconst 1, 1) := by decide +kernel
theorem dX0_votesFor_39 : decode cX0_votesFor 39 = .ok (.goto 4, 3) := by decide +kernel
theorem dX0_votesFor_42 : decode cX0_votesFor 42 = .ok (.iconst 0, 1) := by decide +kernel
theorem dX0_votesFor_43 : decode cX0_votesFor 43 = .ok (.ireturn, 1) := by decide +kernel
theorem dX0_votersFor_0 : decode cX0_votersFor 0 = .ok (.iconst 0, 1) := by decide +kernel
theorem dX0_votersFor_1 : decode cX0_votersFor 1 = .ok (.istore_n 2, 1) := by decide +kernel
theorem dX0_votersFor_2 : decode cX0_votersFor 2 = .ok (.iconst 0, 1) := by decide +kernel
theorem dX0_votersFor_3 : decode cX0_votersFor 3 = .ok (.istore_n 3, 1) := by decide +kernel
theorem dX0_votersFor_4 : decode cX0_votersFor 4 = .ok (.iload_n 3, 1) := by decide +kernel
theorem dX0_votersFor_5 : decode cX0_votersFor 5 = .ok (.aload_n 0, 1) := by decide +kernel
theorem dX0_votersFor_6 : decode cX0_votersFor 6 = .ok (.getfield 21, 3) := by decide +kernel
theorem dX0_votersFor_9 : decode cX0_votersFor 9 = .ok (.if_icmp .ge 24, 3) := by decide +kernel
theorem dX0_votersFor_12 : decode cX0_votersFor 12 = .ok (.aload_n 0, 1) := by decide +kernel
theorem dX0_votersFor_13 : decode cX0_votersFor 13 = .ok (.iload_n 3, 1) := by decide +kernel
theorem dX0_votersFor_14 : decode cX0_votersFor 14 = .ok (.iload_n 1, 1) := by decide +kernel
theorem dX0_votersFor_15 : decode cX0_votersFor 15 = .ok (.invokevirtual 51, 3) := by decide +kernel
theorem dX0_votersFor_18 : decode cX0_votersFor 18 = .ok (.ifCond .eq 9, 3) := by decide +kernel
theorem dX0_votersFor_21 : decode cX0_votersFor 21 = .ok (.iload_n 2, 1) := by decide +kernel
theorem dX0_votersFor_22 : decode cX0_votersFor 22 = .ok (.iconst 1, 1) := by decide +kernel
theorem dX0_votersFor_23 : decode cX0_votersFor 23 = .ok (.iload_n 3, 1) := by decide +kernel
theorem dX0_votersFor_24 : decode cX0_votersFor 24 = .ok (.ishl, 1) := by decide +kernel
theorem dX0_votersFor_25 : decode cX0_votersFor 25 = .ok (.ior, 1) := by decide +kernel
theorem dX0_votersFor_26 : decode cX0_votersFor 26 = .ok (.istore_n 2, 1) := by decide +kernel
theorem dX0_votersFor_27 : decode cX0_votersFor 27 = .ok (.iinc 3 1, 3) := by decide +kernel
theorem dX0_votersFor_30 : decode cX0_votersFor 30 = .ok (.goto (-26), 3) := by decide +kernel
theorem dX0_votersFor_33 : decode cX0_votersFor 33 = .ok (.iload_n 2, 1) := by decide +kernel
theorem dX0_votersFor_34 : decode cX0_votersFor 34 = .ok (.ireturn, 1) := by decide +kernel
theorem dX0_membersOf_0 : decode cX0_membersOf 0 = .ok (.iconst 0, 1) := by decide +kernel
theorem dX0_membersOf_1 : decode cX0_membersOf 1 = .ok (.istore_n 2, 1) := by decide +kernel
theorem dX0_membersOf_2 : decode cX0_membersOf 2 = .ok (.iconst 0, 1) := by decide +kernel
theorem dX0_membersOf_3 : decode cX0_membersOf 3 = .ok (.istore_n 3, 1) := by decide +kernel
theorem dX0_membersOf_4 : decode cX0_membersOf 4 = .ok (.iload_n 3, 1) := by decide +kernel
theorem dX0_membersOf_5 : decode cX0_membersOf 5 = .ok (.aload_n 0, 1) := by decide +kernel
theorem dX0_membersOf_6 : decode cX0_membersOf 6 = .ok (.getfield 21, 3) := by decide +kernel
theorem dX0_membersOf_9 : decode cX0_membersOf 9 = .ok (.if_icmp .ge 25, 3) := by decide +kernel
theorem dX0_membersOf_12 : decode cX0_membersOf 12 = .ok (.aload_n 0, 1) := by decide +kernel
theorem dX0_membersOf_13 : decode cX0_membersOf 13 = .ok (.iload_n 3, 1) := by decide +kernel
theorem dX0_membersOf_14 : decode cX0_membersOf 14 = .ok (.iconst 1, 1) := by decide +kernel
theorem dX0_membersOf_15 : decode cX0_membersOf 15 = .ok (.invokevirtual 47, 3) := by decide +kernel
theorem dX0_membersOf_18 : decode cX0_membersOf 18 = .ok (.iload_n 1, 1) := by decide +kernel
theorem dX0_membersOf_19 : decode cX0_membersOf 19 = .ok (.if_icmp .ne 9, 3) := by decide +kernel
theorem dX0_membersOf_22 : decode cX0_membersOf 22 = .ok (.iload_n 2, 1) := by decide +kernel
theorem dX0_membersOf_23 : decode cX0_membersOf 23 = .ok (.iconst 1, 1) := by decide +kernel
theorem dX0_membersOf_24 : decode cX0_membersOf 24 = .ok (.iload_n 3, 1) := by decide +kernel
theorem dX0_membersOf_25 : decode cX0_membersOf 25 = .ok (.ishl, 1) := by decide +kernel
theorem dX0_membersOf_26 : decode cX0_membersOf 26 = .ok (.ior, 1) := by decide +kernel
theorem dX0_membersOf_27 : decode cX0_membersOf 27 = .ok (.istore_n 2, 1) := by decide +kernel
theorem dX0_membersOf_28 : decode cX0_membersOf 28 = .ok (.iinc 3 1, 3) := by decide +kernel
theorem dX0_membersOf_31 : decode cX0_membersOf 31 = .ok (.goto (-27), 3) := by decide +kernel
theorem dX0_membersOf_34 : decode cX0_membersOf 34 = .ok (.iload_n 2, 1) := by decide +kernel
theorem dX0_membersOf_35 : decode cX0_membersOf 35 = .ok (.ireturn, 1) := by decide +kernel
theorem dX0_agrees_0 : decode cX0_agrees 0 = .ok (.iconst 0, 1) := by decide +kernel
theorem dX0_agrees_1 : decode cX0_agrees 1 = .ok (.istore_n 2, 1) := by decide +kernel
theorem dX0_agrees_2 : decode cX0_agrees 2 = .ok (.iconst 0, 1) := by decide +kernel
theorem dX0_agrees_3 : decode cX0_agrees 3 = .ok (.istore_n 3, 1) := by decide +kernel
theorem dX0_agrees_4 : decode cX0_agrees 4 = .ok (.iconst 0, 1) := by decide +kernel
theorem dX0_agrees_5 : decode cX0_agrees 5 = .ok (.istore 4, 2) := by decide +kernel
theorem dX0_agrees_7 : decode cX0_agrees 7 = .ok (.iload 4, 2) := by decide +kernel
theorem dX0_agrees_9 : decode cX0_agrees 9 = .ok (.aload_n 0, 1) := by decide +kernel
theorem dX0_agrees_10 : decode cX0_agrees 10 = .ok (.getfield 21, 3) := by decide +kernel
theorem dX0_agrees_13 : decode cX0_agrees 13 = .ok (.if_icmp .ge 44, 3) := by decide +kernel
theorem dX0_agrees_16 : decode cX0_agrees 16 = .ok (.aload_n 0, 1) := by decide +kernel
theorem dX0_agrees_17 : decode cX0_agrees 17 = .ok (.iload 4, 2) := by decide +kernel
theorem dX0_agrees_19 : decode cX0_agrees 19 = .ok (.iconst 1, 1) := by decide +kernel
theorem dX0_agrees_20 : decode cX0_agrees 20 = .ok (.invokevirtual 47, 3) := by decide +kernel
theorem dX0_agrees_23 : decode cX0_agrees 23 = .ok (.iload_n 1, 1) := by decide +kernel
theorem dX0_agrees_24 : decode cX0_agrees 24 = .ok (.if_icmp .ne 27, 3) := by decide +kernel
theorem dX0_agrees_27 : decode cX0_agrees 27 = .ok (.iinc 2 1, 3) := by decide +kernel
theorem dX0_agrees_30 : decode cX0_agrees 30 = .ok (.iload_n 3, 1) := by decide +kernel
theorem dX0_agrees_31 : decode cX0_agrees 31 = .ok (.aload_n 0, 1) := by decide +kernel
theorem dX0_agrees_32 : decode cX0_agrees 32 = .ok (.iload 4, 2) := by decide +kernel
theorem dX0_agrees_34 : decode cX0_agrees 34 = .ok (.aload_n 0, 1) := by decide +kernel
theorem dX0_agrees_35 : decode cX0_agrees 35 = .ok (.getfield 25, 3) := by decide +kernel
theorem dX0_agrees_38 : decode cX0_agrees 38 = .ok (.invokevirtual 51, 3) := by decide +kernel
theorem dX0_agrees_41 : decode cX0_agrees 41 = .ok (.ifCond .eq 7, 3) := by decide +kernel
theorem dX0_agrees_44 : decode cX0_agrees 44 = .ok (.iconst 1, 1) := by decide +kernel
theorem dX0_agrees_45 : decode cX0_agrees 45 = .ok (.goto 4, 3) := by decide +kernel
theorem dX0_agrees_48 : decode cX0_agrees 48 = .ok (.iconst (-1), 1) := by decide +kernel
theorem dX0_agrees_49 : decode cX0_agrees 49 = .ok (.iadd, 1) := by decide +kernel
theorem dX0_agrees_50 : decode cX0_agrees 50 = .ok (.istore_n 3, 1) := by decide +kernel
theorem dX0_agrees_51 : decode cX0_agrees 51 = .ok (.iinc 4 1, 3) := by decide +kernel
theorem dX0_agrees_54 : decode cX0_agrees 54 = .ok (.goto (-47), 3) := by decide +kernel
theorem dX0_agrees_57 : decode cX0_agrees 57 = .ok (.iload_n 2, 1) := by decide +kernel
theorem dX0_agrees_58 : decode cX0_agrees 58 = .ok (.ifCond .eq 7, 3) := by decide +kernel
theorem dX0_agrees_61 : decode cX0_agrees 61 = .ok (.iload_n 3, 1) := by decide +kernel
theorem dX0_agrees_62 : decode cX0_agrees 62 = .ok (.ifCond .le 7, 3) := by decide +kernel
theorem dX0_agrees_65 : decode cX0_agrees 65 = .ok (.iconst 1, 1) := by decide +kernel
theorem dX0_agrees_66 : decode cX0_agrees 66 = .ok (.goto 4, 3) := by decide +kernel
theorem dX0_agrees_69 : decode cX0_agrees 69 = .ok (.iconst 0, 1) := by decide +kernel
theorem dX0_agrees_70 : decode cX0_agrees 70 = .ok (.ireturn, 1) := by decide +kernel
theorem dX0_agreeingHouses_0 : decode cX0_agreeingHouses 0 = .ok (.aload_n 0, 1) := by decide +kernel
theorem dX0_agreeingHouses_1 : decode cX0_agreeingHouses 1 = .ok (.iconst 0, 1) := by decide +kernel
theorem dX0_agreeingHouses_2 : decode cX0_agreeingHouses 2 = .ok (.invokevirtual 55, 3) := by decide +kernel
theorem dX0_agreeingHouses_5 : decode cX0_agreeingHouses 5 = .ok (.invokestatic 59, 3) := by decide +kernel
theorem dX0_agreeingHouses_8 : decode cX0_agreeingHouses 8 = .ok (.iconst 2, 1) := by decide +kernel
theorem dX0_agreeingHouses_9 : decode cX0_agreeingHouses 9 = .ok (.aload_n 0, 1) := by decide +kernel
theorem dX0_agreeingHouses_10 : decode cX0_agreeingHouses 10 = .ok (.iconst 1, 1) := by decide +kernel
theorem dX0_agreeingHouses_11 : decode cX0_agreeingHouses 11 = .ok (.invokevirtual 55, 3) := by decide +kernel
theorem dX0_agreeingHouses_14 : decode cX0_agreeingHouses 14 = .ok (.invokestatic 59, 3) := by decide +kernel
theorem dX0_agreeingHouses_17 : decode cX0_agreeingHouses 17 = .ok (.imul, 1) := by decide +kernel
theorem dX0_agreeingHouses_18 : decode cX0_agreeingHouses 18 = .ok (.iadd, 1) := by decide +kernel
theorem dX0_agreeingHouses_19 : decode cX0_agreeingHouses 19 = .ok (.ireturn, 1) := by decide +kernel
theorem dX0_isCarried_0 : decode cX0_isCarried 0 = .ok (.aload_n 0, 1) := by decide +kernel
theorem dX0_isCarried_1 : decode cX0_isCarried 1 = .ok (.iconst 0, 1) := by decide +kernel
theorem dX0_isCarried_2 : decode cX0_isCarried 2 = .ok (.invokevirtual 55, 3) := by decide +kernel
theorem dX0_isCarried_5 : decode cX0_isCarried 5 = .ok (.ifCond .eq 15, 3) := by decide +kernel
theorem dX0_isCarried_8 : decode cX0_isCarried 8 = .ok (.aload_n 0, 1) := by decide +kernel
theorem dX0_isCarried_9 : decode cX0_isCarried 9 = .ok (.iconst 1, 1) := by decide +kernel
theorem dX0_isCarried_10 : decode cX0_isCarried 10 = .ok (.invokevirtual 55, 3) := by decide +kernel
theorem dX0_isCarried_13 : decode cX0_isCarried 13 = .ok (.ifCond .eq 7, 3) := by decide +kernel
theorem dX0_isCarried_16 : decode cX0_isCarried 16 = .ok (.iconst 1, 1) := by decide +kernel
theorem dX0_isCarried_17 : decode cX0_isCarried 17 = .ok (.goto 4, 3) := by decide +kernel
theorem dX0_isCarried_20 : decode cX0_isCarried 20 = .ok (.iconst 0, 1) := by decide +kernel
theorem dX0_isCarried_21 : decode cX0_isCarried 21 = .ok (.ireturn, 1) := by decide +kernel
theorem dX0_pull_0 : decode cX0_pull 0 = .ok (.aload_n 0, 1) := by decide +kernel
theorem dX0_pull_1 : decode cX0_pull 1 = .ok (.iload_n 1, 1) := by decide +kernel
theorem dX0_pull_2 : decode cX0_pull 2 = .ok (.iconst 2, 1) := by decide +kernel
theorem dX0_pull_3 : decode cX0_pull 3 = .ok (.invokevirtual 47, 3) := by decide +kernel
theorem dX0_pull_6 : decode cX0_pull 6 = .ok (.aload_n 0, 1) := by decide +kernel
theorem dX0_pull_7 : decode cX0_pull 7 = .ok (.getfield 25, 3) := by decide +kernel
theorem dX0_pull_10 : decode cX0_pull 10 = .ok (.isub, 1) := by decide +kernel
theorem dX0_pull_11 : decode cX0_pull 11 = .ok (.istore_n 2, 1) := by decide +kernel
theorem dX0_pull_12 : decode cX0_pull 12 = .ok (.iload_n 2, 1) := by decide +kernel
theorem dX0_pull_13 : decode cX0_pull 13 = .ok (.invokestatic 63, 3) := by decide +kernel
theorem dX0_pull_16 : decode cX0_pull 16 = .ok (.istore_n 3, 1) := by decide +kernel
theorem dX0_pull_17 : decode cX0_pull 17 = .ok (.iload_n 2, 1) := by decide +kernel
theorem dX0_pull_18 : decode cX0_pull 18 = .ok (.invokestatic 67, 3) := by decide +kernel
theorem dX0_pull_21 : decode cX0_pull 21 = .ok (.iconst 2, 1) := by decide +kernel
theorem dX0_pull_22 : decode cX0_pull 22 = .ok (.if_icmp .le 7, 3) := by decide +kernel
theorem dX0_pull_25 : decode cX0_pull 25 = .ok (.iload_n 3, 1) := by decide +kernel
theorem dX0_pull_26 : decode cX0_pull 26 = .ok (.goto 4, 3) := by decide +kernel
theorem dX0_pull_29 : decode cX0_pull 29 = .ok (.iconst 0, 1) := by decide +kernel
theorem dX0_pull_30 : decode cX0_pull 30 = .ok (.istore 4, 2) := by decide +kernel
theorem dX0_pull_32 : decode cX0_pull 32 = .ok (.aload_n 0, 1) := by decide +kernel
theorem dX0_pull_33 : decode cX0_pull 33 = .ok (.iload_n 1, 1) := by decide +kernel
theorem dX0_pull_34 : decode cX0_pull 34 = .ok (.iconst 0, 1) := by decide +kernel
theorem dX0_pull_35 : decode cX0_pull 35 = .ok (.invokevirtual 47, 3) := by decide +kernel
theorem dX0_pull_38 : decode cX0_pull 38 = .ok (.tableswitch 37 1 3 #[26, 30, 33], 26) := by decide +kernel
theorem dX0_pull_64 : decode cX0_pull 64 = .ok (.iconst 2, 1) := by decide +kernel
theorem dX0_pull_65 : decode cX0_pull 65 = .ok (.iload_n 3, 1) := by decide +kernel
theorem dX0_pull_66 : decode cX0_pull 66 = .ok (.imul, 1) := by decide +kernel
theorem dX0_pull_67 : decode cX0_pull 67 = .ok (.ireturn, 1) := by decide +kernel
theorem dX0_pull_68 : decode cX0_pull 68 = .ok (.iload 4, 2) := by decide +kernel
theorem dX0_pull_70 : decode cX0_pull 70 = .ok (.ireturn, 1) := by decide +kernel
theorem dX0_pull_71 : decode cX0_pull 71 = .ok (.iload 4, 2) := by decide +kernel
theorem dX0_pull_73 : decode cX0_pull 73 = .ok (.ineg, 1) := by decide +kernel
theorem dX0_pull_74 : decode cX0_pull 74 = .ok (.ireturn, 1) := by decide +kernel
theorem dX0_pull_75 : decode cX0_pull 75 = .ok (.iload_n 3, 1) := by decide +kernel
theorem dX0_pull_76 : decode cX0_pull 76 = .ok (.ireturn, 1) := by decide +kernel
theorem dX0_pullOf_0 : decode cX0_pullOf 0 = .ok (.iconst 0, 1) := by decide +kernel
theorem dX0_pullOf_1 : decode cX0_pullOf 1 = .ok (.istore_n 2, 1) := by decide +kernel
theorem dX0_pullOf_2 : decode cX0_pullOf 2 = .ok (.iconst 0, 1) := by decide +kernel
theorem dX0_pullOf_3 : decode cX0_pullOf 3 = .ok (.istore_n 3, 1) := by decide +kernel
theorem dX0_pullOf_4 : decode cX0_pullOf 4 = .ok (.iload_n 3, 1) := by decide +kernel
theorem dX0_pullOf_5 : decode cX0_pullOf 5 = .ok (.aload_n 0, 1) := by decide +kernel
theorem dX0_pullOf_6 : decode cX0_pullOf 6 = .ok (.getfield 21, 3) := by decide +kernel
theorem dX0_pullOf_9 : decode cX0_pullOf 9 = .ok (.if_icmp .ge 27, 3) := by decide +kernel
theorem dX0_pullOf_12 : decode cX0_pullOf 12 = .ok (.aload_n 0, 1) := by decide +kernel
theorem dX0_pullOf_13 : decode cX0_pullOf 13 = .ok (.iload_n 3, 1) := by decide +kernel
theorem dX0_pullOf_14 : decode cX0_pullOf 14 = .ok (.iconst 1, 1) := by decide +kernel
theorem dX0_pullOf_15 : decode cX0_pullOf 15 = .ok (.invokevirtual 47, 3) := by decide +kernel
theorem dX0_pullOf_18 : decode cX0_pullOf 18 = .ok (.iload_n 1, 1) := by decide +kernel
theorem dX0_pullOf_19 : decode cX0_pullOf 19 = .ok (.if_icmp .ne 11, 3) := by decide +kernel
theorem dX0_pullOf_22 : decode cX0_pullOf 22 = .ok (.iload_n 2, 1) := by decide +kernel
theorem dX0_pullOf_23 : decode cX0_pullOf 23 = .ok (.aload_n 0, 1) := by decide +kernel
theorem dX0_pullOf_24 : decode cX0_pullOf 24 = .ok (.iload_n 3, 1) := by decide +kernel
theorem dX0_pullOf_25 : decode cX0_pullOf 25 = .ok (.invokevirtual 72, 3) := by decide +kernel
theorem dX0_pullOf_28 : decode cX0_pullOf 28 = .ok (.iadd, 1) := by decide +kernel
theorem dX0_pullOf_29 : decode cX0_pullOf 29 = .ok (.istore_n 2, 1) := by decide +kernel
theorem dX0_pullOf_30 : decode cX0_pullOf 30 = .ok (.iinc 3 1, 3) := by decide +kernel
theorem dX0_pullOf_33 : decode cX0_pullOf 33 = .ok (.goto (-29), 3) := by decide +kernel
theorem dX0_pullOf_36 : decode cX0_pullOf 36 = .ok (.iload_n 2, 1) := by decide +kernel
theorem dX0_pullOf_37 : decode cX0_pullOf 37 = .ok (.ireturn, 1) := by decide +kernel
theorem dX0_passDays_0 : decode cX0_passDays 0 = .ok (.iconst 0, 1) := by decide +kernel
theorem dX0_passDays_1 : decode cX0_passDays 1 = .ok (.istore_n 2, 1) := by decide +kernel
theorem dX0_passDays_2 : decode cX0_passDays 2 = .ok (.iconst 0, 1) := by decide +kernel
theorem dX0_passDays_3 : decode cX0_passDays 3 = .ok (.istore_n 3, 1) := by decide +kernel
theorem dX0_passDays_4 : decode cX0_passDays 4 = .ok (.iload_n 3, 1) := by decide +kernel
theorem dX0_passDays_5 : decode cX0_passDays 5 = .ok (.iload_n 1, 1) := by decide +kernel
theorem dX0_passDays_6 : decode cX0_passDays 6 = .ok (.if_icmp .ge 17, 3) := by decide +kernel
theorem dX0_passDays_9 : decode cX0_passDays 9 = .ok (.iload_n 2, 1) := by decide +kernel
theorem dX0_passDays_10 : decode cX0_passDays 10 = .ok (.aload_n 0, 1) := by decide +kernel
theorem dX0_passDays_11 : decode cX0_passDays 11 = .ok (.iconst 1, 1) := by decide +kernel
theorem dX0_passDays_12 : decode cX0_passDays 12 = .ok (.invokevirtual 75, 3) := by decide +kernel
theorem dX0_passDays_15 : decode cX0_passDays 15 = .ok (.iadd, 1) := by decide +kernel
theorem dX0_passDays_16 : decode cX0_passDays 16 = .ok (.istore_n 2, 1) := by decide +kernel
theorem dX0_passDays_17 : decode cX0_passDays 17 = .ok (.iinc 3 1, 3) := by decide +kernel
theorem dX0_passDays_20 : decode cX0_passDays 20 = .ok (.goto (-16), 3) := by decide +kernel
theorem dX0_passDays_23 : decode cX0_passDays 23 = .ok (.iload_n 2, 1) := by decide +kernel
theorem dX0_passDays_24 : decode cX0_passDays 24 = .ok (.ireturn, 1) := by decide +kernel
theorem dX0_passDay_0 : decode cX0_passDay 0 = .ok (.iload_n 1, 1) := by decide +kernel
theorem dX0_passDay_1 : decode cX0_passDay 1 = .ok (.ifCond .eq 23, 3) := by decide +kernel
theorem dX0_passDay_4 : decode cX0_passDay 4 = .ok (.aload_n 0, 1) := by decide +kernel
theorem dX0_passDay_5 : decode cX0_passDay 5 = .ok (.invokevirtual 78, 3) := by decide +kernel
theorem dX0_passDay_8 : decode cX0_passDay 8 = .ok (.ifCond .ne 16, 3) := by decide +kernel
theorem dX0_passDay_11 : decode cX0_passDay 11 = .ok (.aload_n 0, 1) := by decide +kernel
theorem dX0_passDay_12 : decode cX0_passDay 12 = .ok (.aload_n 0, 1) := by decide +kernel
theorem dX0_passDay_13 : decode cX0_passDay 13 = .ok (.getfield 28, 3) := by decide +kernel
theorem dX0_passDay_16 : decode cX0_passDay 16 = .ok (.iconst 2, 1) := by decide +kernel
theorem dX0_passDay_17 : decode cX0_passDay 17 = .ok (.irem, 1) := by decide +kernel
theorem dX0_passDay_18 : decode cX0_passDay 18 = .ok (.invokevirtual 82, 3) := by decide +kernel
theorem dX0_passDay_21 : decode cX0_passDay 21 = .ok (.goto 4, 3) := by decide +kernel
theorem dX0_passDay_24 : decode cX0_passDay 24 = .ok (.iconst 0, 1) := by decide +kernel
theorem dX0_passDay_25 : decode cX0_passDay 25 = .ok (.istore_n 2, 1) := by decide +kernel
theorem dX0_passDay_26 : decode cX0_passDay 26 = .ok (.aload_n 0, 1) := by decide +kernel
theorem dX0_passDay_27 : decode cX0_passDay 27 = .ok (.dup, 1) := by decide +kernel
theorem dX0_passDay_28 : decode cX0_passDay 28 = .ok (.getfield 28, 3) := by decide +kernel
theorem dX0_passDay_31 : decode cX0_passDay 31 = .ok (.iconst 1, 1) := by decide +kernel
theorem dX0_passDay_32 : decode cX0_passDay 32 = .ok (.iadd, 1) := by decide +kernel
theorem dX0_passDay_33 : decode cX0_passDay 33 = .ok (.putfield 28, 3) := by decide +kernel
theorem dX0_passDay_36 : decode cX0_passDay 36 = .ok (.iload_n 2, 1) := by decide +kernel
theorem dX0_passDay_37 : decode cX0_passDay 37 = .ok (.ireturn, 1) := by decide +kernel
theorem dX0_sit_0 : decode cX0_sit 0 = .ok (.iconst 0, 1) := by decide +kernel
theorem dX0_sit_1 : decode cX0_sit 1 = .ok (.istore_n 2, 1) := by decide +kernel
theorem dX0_sit_2 : decode cX0_sit 2 = .ok (.iconst 0, 1) := by decide +kernel
theorem dX0_sit_3 : decode cX0_sit 3 = .ok (.istore_n 3, 1) := by decide +kernel
theorem dX0_sit_4 : decode cX0_sit 4 = .ok (.iload_n 3, 1) := by decide +kernel
theorem dX0_sit_5 : decode cX0_sit 5 = .ok (.aload_n 0, 1) := by decide +kernel
theorem dX0_sit_6 : decode cX0_sit 6 = .ok (.getfield 21, 3) := by decide +kernel
theorem dX0_sit_9 : decode cX0_sit 9 = .ok (.if_icmp .ge 32, 3) := by decide +kernel
theorem dX0_sit_12 : decode cX0_sit 12 = .ok (.aload_n 0, 1) := by decide +kernel
theorem dX0_sit_13 : decode cX0_sit 13 = .ok (.iload_n 3, 1) := by decide +kernel
theorem dX0_sit_14 : decode cX0_sit 14 = .ok (.iconst 1, 1) := by decide +kernel
theorem dX0_sit_15 : decode cX0_sit 15 = .ok (.invokevirtual 47, 3) := by decide +kernel
theorem dX0_sit_18 : decode cX0_sit 18 = .ok (.iload_n 1, 1) := by decide +kernel
theorem dX0_sit_19 : decode cX0_sit 19 = .ok (.if_icmp .ne 16, 3) := by decide +kernel
theorem dX0_sit_22 : decode cX0_sit 22 = .ok (.iload_n 2, 1) := by decide +kernel
theorem dX0_sit_23 : decode cX0_sit 23 = .ok (.aload_n 0, 1) := by decide +kernel
theorem dX0_sit_24 : decode cX0_sit 24 = .ok (.iload_n 3, 1) := by decide +kernel
theorem dX0_sit_25 : decode cX0_sit 25 = .ok (.invokevirtual 72, 3) := by decide +kernel
theorem dX0_sit_28 : decode cX0_sit 28 = .ok (.iadd, 1) := by decide +kernel
theorem dX0_sit_29 : decode cX0_sit 29 = .ok (.istore_n 2, 1) := by decide +kernel
theorem dX0_sit_30 : decode cX0_sit 30 = .ok (.aload_n 0, 1) := by decide +kernel
theorem dX0_sit_31 : decode cX0_sit 31 = .ok (.iload_n 3, 1) := by decide +kernel
theorem dX0_sit_32 : decode cX0_sit 32 = .ok (.invokevirtual 85, 3) := by decide +kernel
theorem dX0_sit_35 : decode cX0_sit 35 = .ok (.iinc 3 1, 3) := by decide +kernel
theorem dX0_sit_38 : decode cX0_sit 38 = .ok (.goto (-34), 3) := by decide +kernel
theorem dX0_sit_41 : decode cX0_sit 41 = .ok (.aload_n 0, 1) := by decide +kernel
theorem dX0_sit_42 : decode cX0_sit 42 = .ok (.iload_n 2, 1) := by decide +kernel
theorem dX0_sit_43 : decode cX0_sit 43 = .ok (.invokestatic 63, 3) := by decide +kernel
theorem dX0_sit_46 : decode cX0_sit 46 = .ok (.invokevirtual 89, 3) := by decide +kernel
theorem dX0_sit_49 : decode cX0_sit 49 = .ok (.ireturn, 1) := by decide +kernel
theorem dX0_tire_0 : decode cX0_tire 0 = .ok (.aload_n 0, 1) := by decide +kernel
theorem dX0_tire_1 : decode cX0_tire 1 = .ok (.iload_n 1, 1) := by decide +kernel
theorem dX0_tire_2 : decode cX0_tire 2 = .ok (.aload_n 0, 1) := by decide +kernel
theorem dX0_tire_3 : decode cX0_tire 3 = .ok (.getfield 25, 3) := by decide +kernel
theorem dX0_tire_6 : decode cX0_tire 6 = .ok (.invokevirtual 51, 3) := by decide +kernel
theorem dX0_tire_9 : decode cX0_tire 9 = .ok (.ifCond .ne 31, 3) := by decide +kernel
theorem dX0_tire_12 : decode cX0_tire 12 = .ok (.aload_n 0, 1) := by decide +kernel
theorem dX0_tire_13 : decode cX0_tire 13 = .ok (.iload_n 1, 1) := by decide +kernel
theorem dX0_tire_14 : decode cX0_tire 14 = .ok (.iconst 3, 1) := by decide +kernel
theorem dX0_tire_15 : decode cX0_tire 15 = .ok (.bipush 20, 2) := by decide +kernel
theorem dX0_tire_17 : decode cX0_tire 17 = .ok (.aload_n 0, 1) := by decide +kernel
theorem dX0_tire_18 : decode cX0_tire 18 = .ok (.iload_n 1, 1) := by decide +kernel
theorem dX0_tire_19 : decode cX0_tire 19 = .ok (.iconst 3, 1) := by decide +kernel
theorem dX0_tire_20 : decode cX0_tire 20 = .ok (.invokevirtual 47, 3) := by decide +kernel
theorem dX0_tire_23 : decode cX0_tire 23 = .ok (.getstatic 92, 3) := by decide +kernel
theorem dX0_tire_26 : decode cX0_tire 26 = .ok (.aload_n 0, 1) := by decide +kernel
theorem dX0_tire_27 : decode cX0_tire 27 = .ok (.iload_n 1, 1) := by decide +kernel
theorem dX0_tire_28 : decode cX0_tire 28 = .ok (.iconst 0, 1) := by decide +kernel
theorem dX0_tire_29 : decode cX0_tire 29 = .ok (.invokevirtual 47, 3) := by decide +kernel
theorem dX0_tire_32 : decode cX0_tire 32 = .ok (.iaload, 1) := by decide +kernel
theorem dX0_tire_33 : decode cX0_tire 33 = .ok (.iadd, 1) := by decide +kernel
theorem dX0_tire_34 : decode cX0_tire 34 = .ok (.invokestatic 95, 3) := by decide +kernel
theorem dX0_tire_37 : decode cX0_tire 37 = .ok (.invokevirtual 43, 3) := by decide +kernel
theorem dX0_tire_40 : decode cX0_tire 40 = .ok (.return_, 1) := by decide +kernel
theorem dX0_amend_0 : decode cX0_amend 0 = .ok (.iconst 0, 1) := by decide +kernel
theorem dX0_amend_1 : decode cX0_amend 1 = .ok (.bipush 20, 2) := by decide +kernel
theorem dX0_amend_3 : decode cX0_amend 3 = .ok (.aload_n 0, 1) := by decide +kernel
theorem dX0_amend_4 : decode cX0_amend 4 = .ok (.getfield 25, 3) := by decide +kernel
theorem dX0_amend_7 : decode cX0_amend 7 = .ok (.iload_n 1, 1) := by decide +kernel
theorem dX0_amend_8 : decode cX0_amend 8 = .ok (.iadd, 1) := by decide +kernel
theorem dX0_amend_9 : decode cX0_amend 9 = .ok (.invokestatic 95, 3) := by decide +kernel
theorem dX0_amend_12 : decode cX0_amend 12 = .ok (.invokestatic 98, 3) := by decide +kernel
theorem dX0_amend_15 : decode cX0_amend 15 = .ok (.istore_n 2, 1) := by decide +kernel
theorem dX0_amend_16 : decode cX0_amend 16 = .ok (.iload_n 2, 1) := by decide +kernel
theorem dX0_amend_17 : decode cX0_amend 17 = .ok (.aload_n 0, 1) := by decide +kernel
theorem dX0_amend_18 : decode cX0_amend 18 = .ok (.getfield 25, 3) := by decide +kernel
theorem dX0_amend_21 : decode cX0_amend 21 = .ok (.if_icmp .ne 5, 3) := by decide +kernel
theorem dX0_amend_24 : decode cX0_amend 24 = .ok (.iconst 0, 1) := by decide +kernel
theorem dX0_amend_25 : decode cX0_amend 25 = .ok (.ireturn, 1) := by decide +kernel
theorem dX0_amend_26 : decode cX0_amend 26 = .ok (.aload_n 0, 1) := by decide +kernel
theorem dX0_amend_27 : decode cX0_amend 27 = .ok (.iload_n 2, 1) := by decide +kernel
theorem dX0_amend_28 : decode cX0_amend 28 = .ok (.putfield 25, 3) := by decide +kernel
theorem dX0_amend_31 : decode cX0_amend 31 = .ok (.aload_n 0, 1) := by decide +kernel
theorem dX0_amend_32 : decode cX0_amend 32 = .ok (.sipush 999, 3) := by decide +kernel
theorem dX0_amend_35 : decode cX0_amend 35 = .ok (.aload_n 0, 1) := by decide +kernel
theorem dX0_amend_36 : decode cX0_amend 36 = .ok (.getfield 31, 3) := by decide +kernel
theorem dX0_amend_39 : decode cX0_amend 39 = .ok (.iconst 1, 1) := by decide +kernel
theorem dX0_amend_40 : decode cX0_amend 40 = .ok (.iadd, 1) := by decide +kernel
theorem dX0_amend_41 : decode cX0_amend 41 = .ok (.invokestatic 95, 3) := by decide +kernel
theorem dX0_amend_44 : decode cX0_amend 44 = .ok (.putfield 31, 3) := by decide +kernel
theorem dX0_amend_47 : decode cX0_amend 47 = .ok (.iconst 1, 1) := by decide +kernel
theorem dX0_amend_48 : decode cX0_amend 48 = .ok (.ireturn, 1) := by decide +kernel
theorem dX0_daysToCarry_0 : decode cX0_daysToCarry 0 = .ok (.iconst 0, 1) := by decide +kernel
theorem dX0_daysToCarry_1 : decode cX0_daysToCarry 1 = .ok (.istore_n 1, 1) := by decide +kernel
theorem dX0_daysToCarry_2 : decode cX0_daysToCarry 2 = .ok (.iload_n 1, 1) := by decide +kernel
theorem dX0_daysToCarry_3 : decode cX0_daysToCarry 3 = .ok (.bipush 60, 2) := by decide +kernel
theorem dX0_daysToCarry_5 : decode cX0_daysToCarry 5 = .ok (.if_icmp .gt 24, 3) := by decide +kernel
theorem dX0_daysToCarry_8 : decode cX0_daysToCarry 8 = .ok (.aload_n 0, 1) := by decide +kernel
theorem dX0_daysToCarry_9 : decode cX0_daysToCarry 9 = .ok (.invokevirtual 78, 3) := by decide +kernel
theorem dX0_daysToCarry_12 : decode cX0_daysToCarry 12 = .ok (.ifCond .eq 5, 3) := by decide +kernel
theorem dX0_daysToCarry_15 : decode cX0_daysToCarry 15 = .ok (.iload_n 1, 1) := by decide +kernel
theorem dX0_daysToCarry_16 : decode cX0_daysToCarry 16 = .ok (.ireturn, 1) := by decide +kernel
theorem dX0_daysToCarry_17 : decode cX0_daysToCarry 17 = .ok (.aload_n 0, 1) := by decide +kernel
theorem dX0_daysToCarry_18 : decode cX0_daysToCarry 18 = .ok (.iconst 1, 1) := by decide +kernel
theorem dX0_daysToCarry_19 : decode cX0_daysToCarry 19 = .ok (.invokevirtual 75, 3) := by decide +kernel
theorem dX0_daysToCarry_22 : decode cX0_daysToCarry 22 = .ok (.pop, 1) := by decide +kernel
theorem dX0_daysToCarry_23 : decode cX0_daysToCarry 23 = .ok (.iinc 1 1, 3) := by decide +kernel
theorem dX0_daysToCarry_26 : decode cX0_daysToCarry 26 = .ok (.goto (-24), 3) := by decide +kernel
theorem dX0_daysToCarry_29 : decode cX0_daysToCarry 29 = .ok (.bipush 61, 2) := by decide +kernel
theorem dX0_daysToCarry_31 : decode cX0_daysToCarry 31 = .ok (.ireturn, 1) := by decide +kernel
theorem dX1_init_0 : decode cX1_init 0 = .ok (.aload_n 0, 1) := by decide +kernel
theorem dX1_init_1 : decode cX1_init 1 = .ok (.invokespecial 3, 3) := by decide +kernel
theorem dX1_init_4 : decode cX1_init 4 = .ok (.aload_n 0, 1) := by decide +kernel
theorem dX1_init_5 : decode cX1_init 5 = .ok (.bipush 40, 2) := by decide +kernel
theorem dX1_init_7 : decode cX1_init 7 = .ok (.newarray .int, 2) := by decide +kernel
theorem dX1_init_9 : decode cX1_init 9 = .ok (.putfield 9, 3) := by decide +kernel
theorem dX1_init_12 : decode cX1_init 12 = .ok (.aload_n 0, 1) := by decide +kernel
theorem dX1_init_13 : decode cX1_init 13 = .ok (.iconst 0, 1) := by decide +kernel
theorem dX1_init_14 : decode cX1_init 14 = .ok (.putfield 15, 3) := by decide +kernel
theorem dX1_init_17 : decode cX1_init 17 = .ok (.aload_n 0, 1) := by decide +kernel
theorem dX1_init_18 : decode cX1_init 18 = .ok (.iconst (-1), 1) := by decide +kernel
theorem dX1_init_19 : decode cX1_init 19 = .ok (.putfield 19, 3) := by decide +kernel
theorem dX1_init_22 : decode cX1_init 22 = .ok (.return_, 1) := by decide +kernel
theorem dX1_renew_0 : decode cX1_renew 0 = .ok (.aload_n 0, 1) := by decide +kernel
theorem dX1_renew_1 : decode cX1_renew 1 = .ok (.getfield 9, 3) := by decide +kernel
theorem dX1_renew_4 : decode cX1_renew 4 = .ok (.iconst 0, 1) := by decide +kernel
theorem dX1_renew_5 : decode cX1_renew 5 = .ok (.invokestatic 22, 3) := by decide +kernel
theorem dX1_renew_8 : decode cX1_renew 8 = .ok (.aload_n 0, 1) := by decide +kernel
theorem dX1_renew_9 : decode cX1_renew 9 = .ok (.iload_n 1, 1) := by decide +kernel
theorem dX1_renew_10 : decode cX1_renew 10 = .ok (.putfield 15, 3) := by decide +kernel
theorem dX1_renew_13 : decode cX1_renew 13 = .ok (.aload_n 0, 1) := by decide +kernel
theorem dX1_renew_14 : decode cX1_renew 14 = .ok (.iload_n 2, 1) := by decide +kernel
theorem dX1_renew_15 : decode cX1_renew 15 = .ok (.putfield 19, 3) := by decide +kernel
theorem dX1_renew_18 : decode cX1_renew 18 = .ok (.return_, 1) := by decide +kernel
theorem dX1_faultOfCell_0 : decode cX1_faultOfCell 0 = .ok (.aload_n 0, 1) := by decide +kernel
theorem dX1_faultOfCell_1 : decode cX1_faultOfCell 1 = .ok (.getfield 19, 3) := by decide +kernel
theorem dX1_faultOfCell_4 : decode cX1_faultOfCell 4 = .ok (.iconst (-1), 1) := by decide +kernel
theorem dX1_faultOfCell_5 : decode cX1_faultOfCell 5 = .ok (.if_icmp .ne 5, 3) := by decide +kernel
theorem dX1_faultOfCell_8 : decode cX1_faultOfCell 8 = .ok (.iconst 1, 1) := by decide +kernel
theorem dX1_faultOfCell_9 : decode cX1_faultOfCell 9 = .ok (.ireturn, 1) := by decide +kernel
theorem dX1_faultOfCell_10 : decode cX1_faultOfCell 10 = .ok (.iload_n 1, 1) := by decide +kernel
theorem dX1_faultOfCell_11 : decode cX1_faultOfCell 11 = .ok (.aload_n 0, 1) := by decide +kernel
theorem dX1_faultOfCell_12 : decode cX1_faultOfCell 12 = .ok (.getfield 19, 3) := by decide +kernel
theorem dX1_faultOfCell_15 : decode cX1_faultOfCell 15 = .ok (.iconst 1, 1) := by decide +kernel
theorem dX1_faultOfCell_16 : decode cX1_faultOfCell 16 = .ok (.isub, 1) := by decide +kernel
theorem dX1_faultOfCell_17 : decode cX1_faultOfCell 17 = .ok (.invokestatic 28, 3) := by decide +kernel
theorem dX1_faultOfCell_20 : decode cX1_faultOfCell 20 = .ok (.ifCond .eq 7, 3) := by decide +kernel
theorem dX1_faultOfCell_23 : decode cX1_faultOfCell 23 = .ok (.iconst 0, 1) := by decide +kernel
theorem dX1_faultOfCell_24 : decode cX1_faultOfCell 24 = .ok (.goto 4, 3) := by decide +kernel
theorem dX1_faultOfCell_27 : decode cX1_faultOfCell 27 = .ok (.iconst 2, 1) := by decide +kernel
theorem dX1_faultOfCell_28 : decode cX1_faultOfCell 28 = .ok (.ireturn, 1) := by decide +kernel
theorem dX1_faultOfPair_0 : decode cX1_faultOfPair 0 = .ok (.aload_n 0, 1) := by decide +kernel
theorem dX1_faultOfPair_1 : decode cX1_faultOfPair 1 = .ok (.getfield 19, 3) := by decide +kernel
theorem dX1_faultOfPair_4 : decode cX1_faultOfPair 4 = .ok (.iconst (-1), 1) := by decide +kernel
theorem dX1_faultOfPair_5 : decode cX1_faultOfPair 5 = .ok (.if_icmp .eq 13, 3) := by decide +kernel
theorem dX1_faultOfPair_8 : decode cX1_faultOfPair 8 = .ok (.iload_n 1, 1) := by decide +kernel
theorem dX1_faultOfPair_9 : decode cX1_faultOfPair 9 = .ok (.aload_n 0, 1) := by decide +kernel
theorem dX1_faultOfPair_10 : decode cX1_faultOfPair 10 = .ok (.getfield 15, 3) := by decide +kernel
theorem dX1_faultOfPair_13 : decode cX1_faultOfPair 13 = .ok (.if_icmp .eq 5, 3) := by decide +kernel
theorem dX1_faultOfPair_16 : decode cX1_faultOfPair 16 = .ok (.iconst 3, 1) := by decide +kernel
theorem dX1_faultOfPair_17 : decode cX1_faultOfPair 17 = .ok (.ireturn, 1) := by decide +kernel
theorem dX1_faultOfPair_18 : decode cX1_faultOfPair 18 = .ok (.aload_n 0, 1) := by decide +kernel
theorem dX1_faultOfPair_19 : decode cX1_faultOfPair 19 = .ok (.iload_n 2, 1) := by decide +kernel
theorem dX1_faultOfPair_20 : decode cX1_faultOfPair 20 = .ok (.invokevirtual 32, 3) := by decide +kernel
theorem dX1_faultOfPair_23 : decode cX1_faultOfPair 23 = .ok (.istore_n 3, 1) := by decide +kernel
theorem dX1_faultOfPair_24 : decode cX1_faultOfPair 24 = .ok (.iload_n 3, 1) := by decide +kernel
theorem dX1_faultOfPair_25 : decode cX1_faultOfPair 25 = .ok (.ifCond .eq 7, 3) := by decide +kernel
theorem dX1_faultOfPair_28 : decode cX1_faultOfPair 28 = .ok (.iload_n 3, 1) := by decide +kernel
theorem dX1_faultOfPair_29 : decode cX1_faultOfPair 29 = .ok (.goto 10, 3) := by decide +kernel
theorem dX1_faultOfPair_32 : decode cX1_faultOfPair 32 = .ok (.aload_n 0, 1) := by decide +kernel
theorem dX1_faultOfPair_33 : decode cX1_faultOfPair 33 = .ok (.iload_n 2, 1) := by decide +kernel
theorem dX1_faultOfPair_34 : decode cX1_faultOfPair 34 = .ok (.iconst 1, 1) := by decide +kernel
theorem dX1_faultOfPair_35 : decode cX1_faultOfPair 35 = .ok (.iadd, 1) := by decide +kernel
theorem dX1_faultOfPair_36 : decode cX1_faultOfPair 36 = .ok (.invokevirtual 32, 3) := by decide +kernel
theorem dX1_faultOfPair_39 : decode cX1_faultOfPair 39 = .ok (.ireturn, 1) := by decide +kernel
theorem dX1_putCell_0 : decode cX1_putCell 0 = .ok (.aload_n 0, 1) := by decide +kernel
theorem dX1_putCell_1 : decode cX1_putCell 1 = .ok (.getfield 15, 3) := by decide +kernel
theorem dX1_putCell_4 : decode cX1_putCell 4 = .ok (.ifCond .ne 14, 3) := by decide +kernel
theorem dX1_putCell_7 : decode cX1_putCell 7 = .ok (.aload_n 0, 1) := by decide +kernel
theorem dX1_putCell_8 : decode cX1_putCell 8 = .ok (.getfield 9, 3) := by decide +kernel
theorem dX1_putCell_11 : decode cX1_putCell 11 = .ok (.iload_n 1, 1) := by decide +kernel
theorem dX1_putCell_12 : decode cX1_putCell 12 = .ok (.iload_n 2, 1) := by decide +kernel
theorem dX1_putCell_13 : decode cX1_putCell 13 = .ok (.i2b, 1) := by decide +kernel
theorem dX1_putCell_14 : decode cX1_putCell 14 = .ok (.iastore, 1) := by decide +kernel
theorem dX1_putCell_15 : decode cX1_putCell 15 = .ok (.goto 29, 3) := by decide +kernel
theorem dX1_putCell_18 : decode cX1_putCell 18 = .ok (.aload_n 0, 1) := by decide +kernel
theorem dX1_putCell_19 : decode cX1_putCell 19 = .ok (.getfield 15, 3) := by decide +kernel
theorem dX1_putCell_22 : decode cX1_putCell 22 = .ok (.iconst 1, 1) := by decide +kernel
theorem dX1_putCell_23 : decode cX1_putCell 23 = .ok (.if_icmp .ne 14, 3) := by decide +kernel
theorem dX1_putCell_26 : decode cX1_putCell 26 = .ok (.aload_n 0, 1) := by decide +kernel
theorem dX1_putCell_27 : decode cX1_putCell 27 = .ok (.getfield 9, 3) := by decide +kernel
theorem dX1_putCell_30 : decode cX1_putCell 30 = .ok (.iload_n 1, 1) := by decide +kernel
theorem dX1_putCell_31 : decode cX1_putCell 31 = .ok (.iload_n 2, 1) := by decide +kernel
theorem dX1_putCell_32 : decode cX1_putCell 32 = .ok (.i2s, 1) := by decide +kernel
theorem dX1_putCell_33 : decode cX1_putCell 33 = .ok (.iastore, 1) := by decide +kernel
theorem dX1_putCell_34 : decode cX1_putCell 34 = .ok (.goto 10, 3) := by decide +kernel
theorem dX1_putCell_37 : decode cX1_putCell 37 = .ok (.aload_n 0, 1) := by decide +kernel
theorem dX1_putCell_38 : decode cX1_putCell 38 = .ok (.getfield 9, 3) := by decide +kernel
theorem dX1_putCell_41 : decode cX1_putCell 41 = .ok (.iload_n 1, 1) := by decide +kernel
theorem dX1_putCell_42 : decode cX1_putCell 42 = .ok (.iload_n 2, 1) := by decide +kernel
theorem dX1_putCell_43 : decode cX1_putCell 43 = .ok (.iastore, 1) := by decide +kernel
theorem dX1_putCell_44 : decode cX1_putCell 44 = .ok (.return_, 1) := by decide +kernel
theorem dX2_init_0 : decode cX2_init 0 = .ok (.aload_n 0, 1) := by decide +kernel
theorem dX2_init_1 : decode cX2_init 1 = .ok (.invokespecial 3, 3) := by decide +kernel
theorem dX2_init_4 : decode cX2_init 4 = .ok (.aload_n 0, 1) := by decide +kernel
theorem dX2_init_5 : decode cX2_init 5 = .ok (.sipush 160, 3) := by decide +kernel
theorem dX2_init_8 : decode cX2_init 8 = .ok (.newarray .byte, 2) := by decide +kernel
theorem dX2_init_10 : decode cX2_init 10 = .ok (.putfield 9, 3) := by decide +kernel
theorem dX2_init_13 : decode cX2_init 13 = .ok (.aload_n 0, 1) := by decide +kernel
theorem dX2_init_14 : decode cX2_init 14 = .ok (.iconst 0, 1) := by decide +kernel
theorem dX2_init_15 : decode cX2_init 15 = .ok (.putfield 15, 3) := by decide +kernel
theorem dX2_init_18 : decode cX2_init 18 = .ok (.aload_n 0, 1) := by decide +kernel
theorem dX2_init_19 : decode cX2_init 19 = .ok (.iconst 0, 1) := by decide +kernel
theorem dX2_init_20 : decode cX2_init 20 = .ok (.putfield 19, 3) := by decide +kernel
theorem dX2_init_23 : decode cX2_init 23 = .ok (.aload_n 0, 1) := by decide +kernel
theorem dX2_init_24 : decode cX2_init 24 = .ok (.iconst 0, 1) := by decide +kernel
theorem dX2_init_25 : decode cX2_init 25 = .ok (.putfield 22, 3) := by decide +kernel
theorem dX2_init_28 : decode cX2_init 28 = .ok (.aload_n 0, 1) := by decide +kernel
theorem dX2_init_29 : decode cX2_init 29 = .ok (.iconst 0, 1) := by decide +kernel
theorem dX2_init_30 : decode cX2_init 30 = .ok (.putfield 25, 3) := by decide +kernel
theorem dX2_init_33 : decode cX2_init 33 = .ok (.aload_n 0, 1) := by decide +kernel
theorem dX2_init_34 : decode cX2_init 34 = .ok (.iconst 0, 1) := by decide +kernel
theorem dX2_init_35 : decode cX2_init 35 = .ok (.putfield 28, 3) := by decide +kernel
theorem dX2_init_38 : decode cX2_init 38 = .ok (.return_, 1) := by decide +kernel
theorem dX2_rewind_0 : decode cX2_rewind 0 = .ok (.aload_n 0, 1) := by decide +kernel
theorem dX2_rewind_1 : decode cX2_rewind 1 = .ok (.iconst 0, 1) := by decide +kernel
theorem dX2_rewind_2 : decode cX2_rewind 2 = .ok (.putfield 25, 3) := by decide +kernel
theorem dX2_rewind_5 : decode cX2_rewind 5 = .ok (.return_, 1) := by decide +kernel
theorem dX2_readToken_0 : decode cX2_readToken 0 = .ok (.aload_n 0, 1) := by decide +kernel
theorem dX2_readToken_1 : decode cX2_readToken 1 = .ok (.aload_n 0, 1) := by decide +kernel
theorem dX2_readToken_2 : decode cX2_readToken 2 = .ok (.getfield 25, 3) := by decide +kernel
theorem dX2_readToken_5 : decode cX2_readToken 5 = .ok (.putfield 22, 3) := by decide +kernel
theorem dX2_readToken_8 : decode cX2_readToken 8 = .ok (.aload_n 0, 1) := by decide +kernel
theorem dX2_readToken_9 : decode cX2_readToken 9 = .ok (.getfield 22, 3) := by decide +kernel
theorem dX2_readToken_12 : decode cX2_readToken 12 = .ok (.aload_n 0, 1) := by decide +kernel
theorem dX2_readToken_13 : decode cX2_readToken 13 = .ok (.getfield 15, 3) := by decide +kernel
theorem dX2_readToken_16 : decode cX2_readToken 16 = .ok (.if_icmp .ge 30, 3) := by decide +kernel
theorem dX2_readToken_19 : decode cX2_readToken 19 = .ok (.aload_n 0, 1) := by decide +kernel
theorem dX2_readToken_20 : decode cX2_readToken 20 = .ok (.getfield 9, 3) := by decide +kernel
theorem dX2_readToken_23 : decode cX2_readToken 23 = .ok (.aload_n 0, 1) := by decide +kernel
theorem dX2_readToken_24 : decode cX2_readToken 24 = .ok (.getfield 22, 3) := by decide +kernel
theorem dX2_readToken_27 : decode cX2_readToken 27 = .ok (.baload, 1) := by decide +kernel
theorem dX2_readToken_28 : decode cX2_readToken 28 = .ok (.bipush 32, 2) := by decide +kernel
theorem dX2_readToken_30 : decode cX2_readToken 30 = .ok (.if_icmp .ne 16, 3) := by decide +kernel
theorem dX2_readToken_33 : decode cX2_readToken 33 = .ok (.aload_n 0, 1) := by decide +kernel
theorem dX2_readToken_34 : decode cX2_readToken 34 = .ok (.dup, 1) := by decide +kernel
theorem dX2_readToken_35 : decode cX2_readToken 35 = .ok (.getfield 22, 3) := by decide +kernel
theorem dX2_readToken_38 : decode cX2_readToken 38 = .ok (.iconst 1, 1) := by decide +kernel
theorem dX2_readToken_39 : decode cX2_readToken 39 = .ok (.iadd, 1) := by decide +kernel
theorem dX2_readToken_40 : decode cX2_readToken 40 = .ok (.putfield 22, 3) := by decide +kernel
theorem dX2_readToken_43 : decode cX2_readToken 43 = .ok (.goto (-35), 3) := by decide +kernel
theorem dX2_readToken_46 : decode cX2_readToken 46 = .ok (.aload_n 0, 1) := by decide +kernel
theorem dX2_readToken_47 : decode cX2_readToken 47 = .ok (.aload_n 0, 1) := by decide +kernel
theorem dX2_readToken_48 : decode cX2_readToken 48 = .ok (.getfield 22, 3) := by decide +kernel
theorem dX2_readToken_51 : decode cX2_readToken 51 = .ok (.putfield 25, 3) := by decide +kernel
theorem dX2_readToken_54 : decode cX2_readToken 54 = .ok (.aload_n 0, 1) := by decide +kernel
theorem dX2_readToken_55 : decode cX2_readToken 55 = .ok (.getfield 22, 3) := by decide +kernel
theorem dX2_readToken_58 : decode cX2_readToken 58 = .ok (.aload_n 0, 1) := by decide +kernel
theorem dX2_readToken_59 : decode cX2_readToken 59 = .ok (.getfield 15, 3) := by decide +kernel
theorem dX2_readToken_62 : decode cX2_readToken 62 = .ok (.if_icmp .lt 11, 3) := by decide +kernel
theorem dX2_readToken_65 : decode cX2_readToken 65 = .ok (.aload_n 0, 1) := by decide +kernel
theorem dX2_readToken_66 : decode cX2_readToken 66 = .ok (.iconst 0, 1) := by decide +kernel
theorem dX2_readToken_67 : decode cX2_readToken 67 = .ok (.putfield 19, 3) := by decide +kernel
theorem dX2_readToken_70 : decode cX2_readToken 70 = .ok (.goto 97, 3) := by decide +kernel
theorem dX2_readToken_73 : decode cX2_readToken 73 = .ok (.aload_n 0, 1) := by decide +kernel
theorem dX2_readToken_74 : decode cX2_readToken 74 = .ok (.bipush 97, 2) := by decide +kernel
theorem dX2_readToken_76 : decode cX2_readToken 76 = .ok (.bipush 122, 2) := by decide +kernel
theorem dX2_readToken_78 : decode cX2_readToken 78 = .ok (.invokevirtual 31, 3) := by decide +kernel
theorem dX2_readToken_81 : decode cX2_readToken 81 = .ok (.ifCond .eq 23, 3) := by decide +kernel
theorem dX2_readToken_84 : decode cX2_readToken 84 = .ok (.aload_n 0, 1) := by decide +kernel
theorem dX2_readToken_85 : decode cX2_readToken 85 = .ok (.iconst 1, 1) := by decide +kernel
theorem dX2_readToken_86 : decode cX2_readToken 86 = .ok (.putfield 19, 3) := by decide +kernel
theorem dX2_readToken_89 : decode cX2_readToken 89 = .ok (.aload_n 0, 1) := by decide +kernel
theorem dX2_readToken_90 : decode cX2_readToken 90 = .ok (.aload_n 0, 1) := by decide +kernel
theorem dX2_readToken_91 : decode cX2_readToken 91 = .ok (.bipush 97, 2) := by decide +kernel
theorem dX2_readToken_93 : decode cX2_readToken 93 = .ok (.bipush 122, 2) := by decide +kernel
theorem dX2_readToken_95 : decode cX2_readToken 95 = .ok (.invokevirtual 35, 3) := by decide +kernel
theorem dX2_readToken_98 : decode cX2_readToken 98 = .ok (.putfield 25, 3) := by decide +kernel
theorem dX2_readToken_101 : decode cX2_readToken 101 = .ok (.goto 66, 3) := by decide +kernel
theorem dX2_readToken_104 : decode cX2_readToken 104 = .ok (.aload_n 0, 1) := by decide +kernel
theorem dX2_readToken_105 : decode cX2_readToken 105 = .ok (.bipush 48, 2) := by decide +kernel
theorem dX2_readToken_107 : decode cX2_readToken 107 = .ok (.bipush 57, 2) := by decide +kernel
theorem dX2_readToken_109 : decode cX2_readToken 109 = .ok (.invokevirtual 31, 3) := by decide +kernel
theorem dX2_readToken_112 : decode cX2_readToken 112 = .ok (.ifCond .eq 22, 3) := by decide +kernel
theorem dX2_readToken_115 : decode cX2_readToken 115 = .ok (.aload_n 0, 1) := by decide +kernel
theorem dX2_readToken_116 : decode cX2_readToken 116 = .ok (.aload_n 0, 1) := by decide +kernel
theorem dX2_readToken_117 : decode cX2_readToken 117 = .ok (.bipush 48, 2) := by decide +kernel
theorem dX2_readToken_119 : decode cX2_readToken 119 = .ok (.bipush 57, 2) := by decide +kernel
theorem dX2_readToken_121 : decode cX2_readToken 121 = .ok (.invokevirtual 35, 3) := by decide +kernel
theorem dX2_readToken_124 : decode cX2_readToken 124 = .ok (.putfield 25, 3) := by decide +kernel
theorem dX2_readToken_127 : decode cX2_readToken 127 = .ok (.aload_n 0, 1) := by decide +kernel
theorem dX2_readToken_128 : decode cX2_readToken 128 = .ok (.invokevirtual 39, 3) := by decide +kernel
theorem dX2_readToken_131 : decode cX2_readToken 131 = .ok (.goto 36, 3) := by decide +kernel
theorem dX2_readToken_134 : decode cX2_readToken 134 = .ok (.aload_n 0, 1) := by decide +kernel
theorem dX2_readToken_135 : decode cX2_readToken 135 = .ok (.aload_n 0, 1) := by decide +kernel
theorem dX2_readToken_136 : decode cX2_readToken 136 = .ok (.getfield 9, 3) := by decide +kernel
theorem dX2_readToken_139 : decode cX2_readToken 139 = .ok (.aload_n 0, 1) := by decide +kernel
theorem dX2_readToken_140 : decode cX2_readToken 140 = .ok (.getfield 22, 3) := by decide +kernel
theorem dX2_readToken_143 : decode cX2_readToken 143 = .ok (.baload, 1) := by decide +kernel
theorem dX2_readToken_144 : decode cX2_readToken 144 = .ok (.bipush 59, 2) := by decide +kernel
theorem dX2_readToken_146 : decode cX2_readToken 146 = .ok (.if_icmp .ne 7, 3) := by decide +kernel
theorem dX2_readToken_149 : decode cX2_readToken 149 = .ok (.iconst 3, 1) := by decide +kernel
theorem dX2_readToken_150 : decode cX2_readToken 150 = .ok (.goto 4, 3) := by decide +kernel
theorem dX2_readToken_153 : decode cX2_readToken 153 = .ok (.iconst 4, 1) := by decide +kernel
theorem dX2_readToken_154 : decode cX2_readToken 154 = .ok (.putfield 19, 3) := by decide +kernel
theorem dX2_readToken_157 : decode cX2_readToken 157 = .ok (.aload_n 0, 1) := by decide +kernel
theorem dX2_readToken_158 : decode cX2_readToken 158 = .ok (.aload_n 0, 1) := by decide +kernel
theorem dX2_readToken_159 : decode cX2_readToken 159 = .ok (.getfield 22, 3) := by decide +kernel
theorem dX2_readToken_162 : decode cX2_readToken 162 = .ok (.iconst 1, 1) := by decide +kernel
theorem dX2_readToken_163 : decode cX2_readToken 163 = .ok (.iadd, 1) := by decide +kernel
theorem dX2_readToken_164 : decode cX2_readToken 164 = .ok (.putfield 25, 3) := by decide +kernel
theorem dX2_readToken_167 : decode cX2_readToken 167 = .ok (.return_, 1) := by decide +kernel
theorem dX2_startsWithin_0 : decode cX2_startsWithin 0 = .ok (.aload_n 0, 1) := by decide +kernel
theorem dX2_startsWithin_1 : decode cX2_startsWithin 1 = .ok (.getfield 9, 3) := by decide +kernel
theorem dX2_startsWithin_4 : decode cX2_startsWithin 4 = .ok (.aload_n 0, 1) := by decide +kernel
theorem dX2_startsWithin_5 : decode cX2_startsWithin 5 = .ok (.getfield 22, 3) := by decide +kernel
theorem dX2_startsWithin_8 : decode cX2_startsWithin 8 = .ok (.baload, 1) := by decide +kernel
theorem dX2_startsWithin_9 : decode cX2_startsWithin 9 = .ok (.iload_n 1, 1) := by decide +kernel
theorem dX2_startsWithin_10 : decode cX2_startsWithin 10 = .ok (.if_icmp .lt 20, 3) := by decide +kernel
theorem dX2_startsWithin_13 : decode cX2_startsWithin 13 = .ok (.aload_n 0, 1) := by decide +kernel
theorem dX2_startsWithin_14 : decode cX2_startsWithin 14 = .ok (.getfield 9, 3) := by decide +kernel
theorem dX2_startsWithin_17 : decode cX2_startsWithin 17 = .ok (.aload_n 0, 1) := by decide +kernel
theorem dX2_startsWithin_18 : decode cX2_startsWithin 18 = .ok (.getfield 22, 3) := by decide +kernel
theorem dX2_startsWithin_21 : decode cX2_startsWithin 21 = .ok (.baload, 1) := by decide +kernel
theorem dX2_startsWithin_22 : decode cX2_startsWithin 22 = .ok (.iload_n 2, 1) := by decide +kernel
theorem dX2_startsWithin_23 : decode cX2_startsWithin 23 = .ok (.if_icmp .gt 7, 3) := by decide +kernel
theorem dX2_startsWithin_26 : decode cX2_startsWithin 26 = .ok (.iconst 1, 1) := by decide +kernel
theorem dX2_startsWithin_27 : decode cX2_startsWithin 27 = .ok (.goto 4, 3) := by decide +kernel
theorem dX2_startsWithin_30 : decode cX2_startsWithin 30 = .ok (.iconst 0, 1) := by decide +kernel
theorem dX2_startsWithin_31 : decode cX2_startsWithin 31 = .ok (.ireturn, 1) := by decide +kernel
theorem dX2_endOfRun_0 : decode cX2_endOfRun 0 = .ok (.aload_n 0, 1) := by decide +kernel
theorem dX2_endOfRun_1 : decode cX2_endOfRun 1 = .ok (.getfield 22, 3) := by decide +kernel
theorem dX2_endOfRun_4 : decode cX2_endOfRun 4 = .ok (.istore_n 3, 1) := by decide +kernel
theorem dX2_endOfRun_5 : decode cX2_endOfRun 5 = .ok (.iload_n 3, 1) := by decide +kernel
theorem dX2_endOfRun_6 : decode cX2_endOfRun 6 = .ok (.aload_n 0, 1) := by decide +kernel
theorem dX2_endOfRun_7 : decode cX2_endOfRun 7 = .ok (.getfield 15, 3) := by decide +kernel
theorem dX2_endOfRun_10 : decode cX2_endOfRun 10 = .ok (.if_icmp .ge 29, 3) := by decide +kernel
theorem dX2_endOfRun_13 : decode cX2_endOfRun 13 = .ok (.aload_n 0, 1) := by decide +kernel
theorem dX2_endOfRun_14 : decode cX2_endOfRun 14 = .ok (.getfield 9, 3) := by decide +kernel
theorem dX2_endOfRun_17 : decode cX2_endOfRun 17 = .ok (.iload_n 3, 1) := by decide +kernel
theorem dX2_endOfRun_18 : decode cX2_endOfRun 18 = .ok (.baload, 1) := by decide +kernel
theorem dX2_endOfRun_19 : decode cX2_endOfRun 19 = .ok (.iload_n 1, 1) := by decide +kernel
theorem dX2_endOfRun_20 : decode cX2_endOfRun 20 = .ok (.if_icmp .lt 19, 3) := by decide +kernel
theorem dX2_endOfRun_23 : decode cX2_endOfRun 23 = .ok (.aload_n 0, 1) := by decide +kernel
theorem dX2_endOfRun_24 : decode cX2_endOfRun 24 = .ok (.getfield 9, 3) := by decide +kernel
theorem dX2_endOfRun_27 : decode cX2_endOfRun 27 = .ok (.iload_n 3, 1) := by decide +kernel
theorem dX2_endOfRun_28 : decode cX2_endOfRun 28 = .ok (.baload, 1) := by decide +kernel
theorem dX2_endOfRun_29 : decode cX2_endOfRun 29 = .ok (.iload_n 2, 1) := by decide +kernel
theorem dX2_endOfRun_30 : decode cX2_endOfRun 30 = .ok (.if_icmp .gt 9, 3) := by decide +kernel
theorem dX2_endOfRun_33 : decode cX2_endOfRun 33 = .ok (.iinc 3 1, 3) := by decide +kernel
theorem dX2_endOfRun_36 : decode cX2_endOfRun 36 = .ok (.goto (-31), 3) := by decide +kernel
theorem dX2_endOfRun_39 : decode cX2_endOfRun 39 = .ok (.iload_n 3, 1) := by decide +kernel
theorem dX2_endOfRun_40 : decode cX2_endOfRun 40 = .ok (.ireturn, 1) := by decide +kernel
theorem dX2_readFigures_0 : decode cX2_readFigures 0 = .ok (.aload_n 0, 1) := by decide +kernel
theorem dX2_readFigures_1 : decode cX2_readFigures 1 = .ok (.aload_n 0, 1) := by decide +kernel
theorem dX2_readFigures_2 : decode cX2_readFigures 2 = .ok (.getfield 25, 3) := by decide +kernel
theorem dX2_readFigures_5 : decode cX2_readFigures 5 = .ok (.aload_n 0, 1) := by decide +kernel
theorem dX2_readFigures_6 : decode cX2_readFigures 6 = .ok (.getfield 22, 3) := by decide +kernel
theorem dX2_readFigures_9 : decode cX2_readFigures 9 = .ok (.isub, 1) := by decide +kernel
theorem dX2_readFigures_10 : decode cX2_readFigures 10 = .ok (.iconst 2, 1) := by decide +kernel
theorem dX2_readFigures_11 : decode cX2_readFigures 11 = .ok (.if_icmp .le 7, 3) := by decide +kernel
theorem dX2_readFigures_14 : decode cX2_readFigures 14 = .ok (.iconst 4, 1) := by decide +kernel
theorem dX2_readFigures_15 : decode cX2_readFigures 15 = .ok (.goto 4, 3) := by decide +kernel
theorem dX2_readFigures_18 : decode cX2_readFigures 18 = .ok (.iconst 2, 1) := by decide +kernel
theorem dX2_readFigures_19 : decode cX2_readFigures 19 = .ok (.putfield 19, 3) := by decide +kernel
theorem dX2_readFigures_22 : decode cX2_readFigures 22 = .ok (.aload_n 0, 1) := by decide +kernel
theorem dX2_readFigures_23 : decode cX2_readFigures 23 = .ok (.iconst 0, 1) := by decide +kernel
theorem dX2_readFigures_24 : decode cX2_readFigures 24 = .ok (.putfield 28, 3) := by decide +kernel
theorem dX2_readFigures_27 : decode cX2_readFigures 27 = .ok (.aload_n 0, 1) := by decide +kernel
theorem dX2_readFigures_28 : decode cX2_readFigures 28 = .ok (.getfield 22, 3) := by decide +kernel
theorem dX2_readFigures_31 : decode cX2_readFigures 31 = .ok (.istore_n 1, 1) := by decide +kernel
theorem dX2_readFigures_32 : decode cX2_readFigures 32 = .ok (.iload_n 1, 1) := by decide +kernel
theorem dX2_readFigures_33 : decode cX2_readFigures 33 = .ok (.aload_n 0, 1) := by decide +kernel
theorem dX2_readFigures_34 : decode cX2_readFigures 34 = .ok (.getfield 25, 3) := by decide +kernel
theorem dX2_readFigures_37 : decode cX2_readFigures 37 = .ok (.if_icmp .ge 38, 3) := by decide +kernel
theorem dX2_readFigures_40 : decode cX2_readFigures 40 = .ok (.aload_n 0, 1) := by decide +kernel
theorem dX2_readFigures_41 : decode cX2_readFigures 41 = .ok (.getfield 19, 3) := by decide +kernel
theorem dX2_readFigures_44 : decode cX2_readFigures 44 = .ok (.iconst 2, 1) := by decide +kernel
theorem dX2_readFigures_45 : decode cX2_readFigures 45 = .ok (.if_icmp .ne 30, 3) := by decide +kernel
theorem dX2_readFigures_48 : decode cX2_readFigures 48 = .ok (.aload_n 0, 1) := by decide +kernel
theorem dX2_readFigures_49 : decode cX2_readFigures 49 = .ok (.aload_n 0, 1) := by decide +kernel
theorem dX2_readFigures_50 : decode cX2_readFigures 50 = .ok (.getfield 28, 3) := by decide +kernel
theorem dX2_readFigures_53 : decode cX2_readFigures 53 = .ok (.bipush 10, 2) := by decide +kernel
theorem dX2_readFigures_55 : decode cX2_readFigures 55 = .ok (.imul, 1) := by decide +kernel
theorem dX2_readFigures_56 : decode cX2_readFigures 56 = .ok (.aload_n 0, 1) := by decide +kernel
theorem dX2_readFigures_57 : decode cX2_readFigures 57 = .ok (.getfield 9, 3) := by decide +kernel
theorem dX2_readFigures_60 : decode cX2_readFigures 60 = .ok (.iload_n 1, 1) := by decide +kernel
theorem dX2_readFigures_61 : decode cX2_readFigures 61 = .ok (.baload, 1) := by decide +kernel
theorem dX2_readFigures_62 : decode cX2_readFigures 62 = .ok (.iadd, 1) := by decide +kernel
theorem dX2_readFigures_63 : decode cX2_readFigures 63 = .ok (.bipush 48, 2) := by decide +kernel
theorem dX2_readFigures_65 : decode cX2_readFigures 65 = .ok (.isub, 1) := by decide +kernel
theorem dX2_readFigures_66 : decode cX2_readFigures 66 = .ok (.putfield 28, 3) := by decide +kernel
theorem dX2_readFigures_69 : decode cX2_readFigures 69 = .ok (.iinc 1 1, 3) := by decide +kernel
theorem dX2_readFigures_72 : decode cX2_readFigures 72 = .ok (.goto (-40), 3) := by decide +kernel
theorem dX2_readFigures_75 : decode cX2_readFigures 75 = .ok (.return_, 1) := by decide +kernel
theorem dX2_isNamed_0 : decode cX2_isNamed 0 = .ok (.aload_n 0, 1) := by decide +kernel
theorem dX2_isNamed_1 : decode cX2_isNamed 1 = .ok (.getfield 19, 3) := by decide +kernel
theorem dX2_isNamed_4 : decode cX2_isNamed 4 = .ok (.iconst 1, 1) := by decide +kernel
theorem dX2_isNamed_5 : decode cX2_isNamed 5 = .ok (.if_icmp .ne 19, 3) := by decide +kernel
theorem dX2_isNamed_8 : decode cX2_isNamed 8 = .ok (.aload_n 0, 1) := by decide +kernel
theorem dX2_isNamed_9 : decode cX2_isNamed 9 = .ok (.getfield 25, 3) := by decide +kernel
theorem dX2_isNamed_12 : decode cX2_isNamed 12 = .ok (.aload_n 0, 1) := by decide +kernel
theorem dX2_isNamed_13 : decode cX2_isNamed 13 = .ok (.getfield 22, 3) := by decide +kernel
theorem dX2_isNamed_16 : decode cX2_isNamed 16 = .ok (.isub, 1) := by decide +kernel
theorem dX2_isNamed_17 : decode cX2_isNamed 17 = .ok (.aload_n 1, 1) := by decide +kernel
theorem dX2_isNamed_18 : decode cX2_isNamed 18 = .ok (.invokevirtual 42, 3) := by decide +kernel
theorem dX2_isNamed_21 : decode cX2_isNamed 21 = .ok (.if_icmp .eq 5, 3) := by decide +kernel
theorem dX2_isNamed_24 : decode cX2_isNamed 24 = .ok (.iconst 0, 1) := by decide +kernel
theorem dX2_isNamed_25 : decode cX2_isNamed 25 = .ok (.ireturn, 1) := by decide +kernel
theorem dX2_isNamed_26 : decode cX2_isNamed 26 = .ok (.iconst 0, 1) := by decide +kernel
theorem dX2_isNamed_27 : decode cX2_isNamed 27 = .ok (.istore_n 2, 1) := by decide +kernel
theorem dX2_isNamed_28 : decode cX2_isNamed 28 = .ok (.iload_n 2, 1) := by decide +kernel
theorem dX2_isNamed_29 : decode cX2_isNamed 29 = .ok (.aload_n 1, 1) := by decide +kernel
theorem dX2_isNamed_30 : decode cX2_isNamed 30 = .ok (.invokevirtual 42, 3) := by decide +kernel
theorem dX2_isNamed_33 : decode cX2_isNamed 33 = .ok (.if_icmp .ge 30, 3) := by decide +kernel
theorem dX2_isNamed_36 : decode cX2_isNamed 36 = .ok (.aload_n 0, 1) := by decide +kernel
theorem dX2_isNamed_37 : decode cX2_isNamed 37 = .ok (.getfield 9, 3) := by decide +kernel
theorem dX2_isNamed_40 : decode cX2_isNamed 40 = .ok (.aload_n 0, 1) := by decide +kernel
theorem dX2_isNamed_41 : decode cX2_isNamed 41 = .ok (.getfield 22, 3) := by decide +kernel
theorem dX2_isNamed_44 : decode cX2_isNamed 44 = .ok (.iload_n 2, 1) := by decide +kernel
theorem dX2_isNamed_45 : decode cX2_isNamed 45 = .ok (.iadd, 1) := by decide +kernel
theorem dX2_isNamed_46 : decode cX2_isNamed 46 = .ok (.baload, 1) := by decide +kernel
theorem dX2_isNamed_47 : decode cX2_isNamed 47 = .ok (.aload_n 1, 1) := by decide +kernel
theorem dX2_isNamed_48 : decode cX2_isNamed 48 = .ok (.iload_n 2, 1) := by decide +kernel
theorem dX2_isNamed_49 : decode cX2_isNamed 49 = .ok (.invokevirtual 47, 3) := by decide +kernel
theorem dX2_isNamed_52 : decode cX2_isNamed 52 = .ok (.if_icmp .eq 5, 3) := by decide +kernel
theorem dX2_isNamed_55 : decode cX2_isNamed 55 = .ok (.iconst 0, 1) := by decide +kernel
theorem dX2_isNamed_56 : decode cX2_isNamed 56 = .ok (.ireturn, 1) := by decide +kernel
theorem dX2_isNamed_57 : decode cX2_isNamed 57 = .ok (.iinc 2 1, 3) := by decide +kernel
theorem dX2_isNamed_60 : decode cX2_isNamed 60 = .ok (.goto (-32), 3) := by decide +kernel
theorem dX2_isNamed_63 : decode cX2_isNamed 63 = .ok (.iconst 1, 1) := by decide +kernel
theorem dX2_isNamed_64 : decode cX2_isNamed 64 = .ok (.ireturn, 1) := by decide +kernel
theorem dX3_init_0 : decode cX3_init 0 = .ok (.aload_n 0, 1) := by decide +kernel
theorem dX3_init_1 : decode cX3_init 1 = .ok (.invokespecial 3, 3) := by decide +kernel
theorem dX3_init_4 : decode cX3_init 4 = .ok (.aload_n 0, 1) := by decide +kernel
theorem dX3_init_5 : decode cX3_init 5 = .ok (.iconst 0, 1) := by decide +kernel
theorem dX3_init_6 : decode cX3_init 6 = .ok (.putfield 9, 3) := by decide +kernel
theorem dX3_init_9 : decode cX3_init 9 = .ok (.aload_n 0, 1) := by decide +kernel
theorem dX3_init_10 : decode cX3_init 10 = .ok (.iconst 0, 1) := by decide +kernel
theorem dX3_init_11 : decode cX3_init 11 = .ok (.putfield 15, 3) := by decide +kernel
theorem dX3_init_14 : decode cX3_init 14 = .ok (.return_, 1) := by decide +kernel
theorem dX3_tell_0 : decode cX3_tell 0 = .ok (.aload_n 2, 1) := by decide +kernel
theorem dX3_tell_1 : decode cX3_tell 1 = .ok (.invokevirtual 19, 3) := by decide +kernel
theorem dX3_tell_4 : decode cX3_tell 4 = .ok (.aload_n 1, 1) := by decide +kernel
theorem dX3_tell_5 : decode cX3_tell 5 = .ok (.invokevirtual 24, 3) := by decide +kernel
theorem dX3_tell_8 : decode cX3_tell 8 = .ok (.aload_n 0, 1) := by decide +kernel
theorem dX3_tell_9 : decode cX3_tell 9 = .ok (.iconst 0, 1) := by decide +kernel
theorem dX3_tell_10 : decode cX3_tell 10 = .ok (.putfield 9, 3) := by decide +kernel
theorem dX3_tell_13 : decode cX3_tell 13 = .ok (.aload_n 0, 1) := by decide +kernel
theorem dX3_tell_14 : decode cX3_tell 14 = .ok (.iconst 0, 1) := by decide +kernel
theorem dX3_tell_15 : decode cX3_tell 15 = .ok (.putfield 15, 3) := by decide +kernel
theorem dX3_tell_18 : decode cX3_tell 18 = .ok (.iconst 0, 1) := by decide +kernel
theorem dX3_tell_19 : decode cX3_tell 19 = .ok (.istore_n 3, 1) := by decide +kernel
theorem dX3_tell_20 : decode cX3_tell 20 = .ok (.aload_n 1, 1) := by decide +kernel
theorem dX3_tell_21 : decode cX3_tell 21 = .ok (.invokevirtual 29, 3) := by decide +kernel
theorem dX3_tell_24 : decode cX3_tell 24 = .ok (.iload_n 3, 1) := by decide +kernel
theorem dX3_tell_25 : decode cX3_tell 25 = .ok (.sipush 160, 3) := by decide +kernel
theorem dX3_tell_28 : decode cX3_tell 28 = .ok (.if_icmp .ge 45, 3) := by decide +kernel
theorem dX3_tell_31 : decode cX3_tell 31 = .ok (.aload_n 1, 1) := by decide +kernel
theorem dX3_tell_32 : decode cX3_tell 32 = .ok (.getfield 32, 3) := by decide +kernel
theorem dX3_tell_35 : decode cX3_tell 35 = .ok (.ifCond .eq 38, 3) := by decide +kernel
theorem dX3_tell_38 : decode cX3_tell 38 = .ok (.aload_n 0, 1) := by decide +kernel
theorem dX3_tell_39 : decode cX3_tell 39 = .ok (.aload_n 0, 1) := by decide +kernel
theorem dX3_tell_40 : decode cX3_tell 40 = .ok (.aload_n 1, 1) := by decide +kernel
theorem dX3_tell_41 : decode cX3_tell 41 = .ok (.aload_n 2, 1) := by decide +kernel
theorem dX3_tell_42 : decode cX3_tell 42 = .ok (.invokevirtual 35, 3) := by decide +kernel
theorem dX3_tell_45 : decode cX3_tell 45 = .ok (.putfield 9, 3) := by decide +kernel
theorem dX3_tell_48 : decode cX3_tell 48 = .ok (.aload_n 0, 1) := by decide +kernel
theorem dX3_tell_49 : decode cX3_tell 49 = .ok (.getfield 9, 3) := by decide +kernel
theorem dX3_tell_52 : decode cX3_tell 52 = .ok (.ifCond .eq 11, 3) := by decide +kernel
theorem dX3_tell_55 : decode cX3_tell 55 = .ok (.bipush (-10), 2) := by decide +kernel
theorem dX3_tell_57 : decode cX3_tell 57 = .ok (.aload_n 1, 1) := by decide +kernel
theorem dX3_tell_58 : decode cX3_tell 58 = .ok (.getfield 39, 3) := by decide +kernel
theorem dX3_tell_61 : decode cX3_tell 61 = .ok (.isub, 1) := by decide +kernel
theorem dX3_tell_62 : decode cX3_tell 62 = .ok (.ireturn, 1) := by decide +kernel
theorem dX3_tell_63 : decode cX3_tell 63 = .ok (.iinc 3 1, 3) := by decide +kernel
theorem dX3_tell_66 : decode cX3_tell 66 = .ok (.aload_n 1, 1) := by decide +kernel
theorem dX3_tell_67 : decode cX3_tell 67 = .ok (.invokevirtual 29, 3) := by decide +kernel
theorem dX3_tell_70 : decode cX3_tell 70 = .ok (.goto (-46), 3) := by decide +kernel
theorem dX3_tell_73 : decode cX3_tell 73 = .ok (.iload_n 3, 1) := by decide +kernel
theorem dX3_tell_74 : decode cX3_tell 74 = .ok (.ireturn, 1) := by decide +kernel
theorem dX3_faultOfLine_0 : decode cX3_faultOfLine 0 = .ok (.aload_n 1, 1) := by decide +kernel
theorem dX3_faultOfLine_1 : decode cX3_faultOfLine 1 = .ok (.getfield 32, 3) := by decide +kernel
theorem dX3_faultOfLine_4 : decode cX3_faultOfLine 4 = .ok (.iconst 4, 1) := by decide +kernel
theorem dX3_faultOfLine_5 : decode cX3_faultOfLine 5 = .ok (.if_icmp .ne 5, 3) := by decide +kernel
theorem dX3_faultOfLine_8 : decode cX3_faultOfLine 8 = .ok (.iconst 1, 1) := by decide +kernel
theorem dX3_faultOfLine_9 : decode cX3_faultOfLine 9 = .ok (.ireturn, 1) := by decide +kernel
theorem dX3_faultOfLine_10 : decode cX3_faultOfLine 10 = .ok (.aload_n 1, 1) := by decide +kernel
theorem dX3_faultOfLine_11 : decode cX3_faultOfLine 11 = .ok (.invokestatic 42, 3) := by decide +kernel
theorem dX3_faultOfLine_14 : decode cX3_faultOfLine 14 = .ok (.istore_n 3, 1) := by decide +kernel
theorem dX3_faultOfLine_15 : decode cX3_faultOfLine 15 = .ok (.iload_n 3, 1) := by decide +kernel
theorem dX3_faultOfLine_16 : decode cX3_faultOfLine 16 = .ok (.iconst (-1), 1) := by decide +kernel
theorem dX3_faultOfLine_17 : decode cX3_faultOfLine 17 = .ok (.if_icmp .ne 5, 3) := by decide +kernel
theorem dX3_faultOfLine_20 : decode cX3_faultOfLine 20 = .ok (.iconst 2, 1) := by decide +kernel
theorem dX3_faultOfLine_21 : decode cX3_faultOfLine 21 = .ok (.ireturn, 1) := by decide +kernel
theorem dX3_faultOfLine_22 : decode cX3_faultOfLine 22 = .ok (.iload_n 3, 1) := by decide +kernel
theorem dX3_faultOfLine_23 : decode cX3_faultOfLine 23 = .ok (.iconst 4, 1) := by decide +kernel
theorem dX3_faultOfLine_24 : decode cX3_faultOfLine 24 = .ok (.if_icmp .ne 26, 3) := by decide +kernel
theorem dX3_faultOfLine_27 : decode cX3_faultOfLine 27 = .ok (.aload_n 0, 1) := by decide +kernel
theorem dX3_faultOfLine_28 : decode cX3_faultOfLine 28 = .ok (.getfield 15, 3) := by decide +kernel
theorem dX3_faultOfLine_31 : decode cX3_faultOfLine 31 = .ok (.ifCond .eq 5, 3) := by decide +kernel
theorem dX3_faultOfLine_34 : decode cX3_faultOfLine 34 = .ok (.iconst 4, 1) := by decide +kernel
theorem dX3_faultOfLine_35 : decode cX3_faultOfLine 35 = .ok (.ireturn, 1) := by decide +kernel
theorem dX3_faultOfLine_36 : decode cX3_faultOfLine 36 = .ok (.aload_n 0, 1) := by decide +kernel
theorem dX3_faultOfLine_37 : decode cX3_faultOfLine 37 = .ok (.iconst 1, 1) := by decide +kernel
theorem dX3_faultOfLine_38 : decode cX3_faultOfLine 38 = .ok (.putfield 15, 3) := by decide +kernel
theorem dX3_faultOfLine_41 : decode cX3_faultOfLine 41 = .ok (.aload_n 1, 1) := by decide +kernel
theorem dX3_faultOfLine_42 : decode cX3_faultOfLine 42 = .ok (.aload_n 2, 1) := by decide +kernel
theorem dX3_faultOfLine_43 : decode cX3_faultOfLine 43 = .ok (.iconst 0, 1) := by decide +kernel
theorem dX3_faultOfLine_44 : decode cX3_faultOfLine 44 = .ok (.iconst 4, 1) := by decide +kernel
theorem dX3_faultOfLine_45 : decode cX3_faultOfLine 45 = .ok (.iconst 4, 1) := by decide +kernel
theorem dX3_faultOfLine_46 : decode cX3_faultOfLine 46 = .ok (.invokestatic 46, 3) := by decide +kernel
theorem dX3_faultOfLine_49 : decode cX3_faultOfLine 49 = .ok (.ireturn, 1) := by decide +kernel
theorem dX3_faultOfLine_50 : decode cX3_faultOfLine 50 = .ok (.aload_n 2, 1) := by decide +kernel
theorem dX3_faultOfLine_51 : decode cX3_faultOfLine 51 = .ok (.getfield 50, 3) := by decide +kernel
theorem dX3_faultOfLine_54 : decode cX3_faultOfLine 54 = .ok (.bipush 6, 2) := by decide +kernel
theorem dX3_faultOfLine_56 : decode cX3_faultOfLine 56 = .ok (.if_icmp .lt 5, 3) := by decide +kernel
theorem dX3_faultOfLine_59 : decode cX3_faultOfLine 59 = .ok (.iconst 5, 1) := by decide +kernel
theorem dX3_faultOfLine_60 : decode cX3_faultOfLine 60 = .ok (.ireturn, 1) := by decide +kernel
theorem dX3_faultOfLine_61 : decode cX3_faultOfLine 61 = .ok (.aload_n 1, 1) := by decide +kernel
theorem dX3_faultOfLine_62 : decode cX3_faultOfLine 62 = .ok (.aload_n 2, 1) := by decide +kernel
theorem dX3_faultOfLine_63 : decode cX3_faultOfLine 63 = .ok (.aload_n 2, 1) := by decide +kernel
theorem dX3_faultOfLine_64 : decode cX3_faultOfLine 64 = .ok (.iload_n 3, 1) := by decide +kernel
theorem dX3_faultOfLine_65 : decode cX3_faultOfLine 65 = .ok (.invokevirtual 53, 3) := by decide +kernel
theorem dX3_faultOfLine_68 : decode cX3_faultOfLine 68 = .ok (.iconst 1, 1) := by decide +kernel
theorem dX3_faultOfLine_69 : decode cX3_faultOfLine 69 = .ok (.iconst 3, 1) := by decide +kernel
theorem dX3_faultOfLine_70 : decode cX3_faultOfLine 70 = .ok (.invokestatic 46, 3) := by decide +kernel
theorem dX3_faultOfLine_73 : decode cX3_faultOfLine 73 = .ok (.ireturn, 1) := by decide +kernel
theorem dX3_wordOf_0 : decode cX3_wordOf 0 = .ok (.aload_n 0, 1) := by decide +kernel
theorem dX3_wordOf_1 : decode cX3_wordOf 1 = .ok (.ldc 57, 2) := by decide +kernel
theorem dX3_wordOf_3 : decode cX3_wordOf 3 = .ok (.invokevirtual 59, 3) := by decide +kernel
theorem dX3_wordOf_6 : decode cX3_wordOf 6 = .ok (.ifCond .eq 5, 3) := by decide +kernel
theorem dX3_wordOf_9 : decode cX3_wordOf 9 = .ok (.iconst 0, 1) := by decide +kernel
theorem dX3_wordOf_10 : decode cX3_wordOf 10 = .ok (.ireturn, 1) := by decide +kernel
theorem dX3_wordOf_11 : decode cX3_wordOf 11 = .ok (.aload_n 0, 1) := by decide +kernel
theorem dX3_wordOf_12 : decode cX3_wordOf 12 = .ok (.ldc 63, 2) := by decide +kernel
theorem dX3_wordOf_14 : decode cX3_wordOf 14 = .ok (.invokevirtual 59, 3) := by decide +kernel
theorem dX3_wordOf_17 : decode cX3_wordOf 17 = .ok (.ifCond .eq 5, 3) := by decide +kernel
theorem dX3_wordOf_20 : decode cX3_wordOf 20 = .ok (.iconst 1, 1) := by decide +kernel
theorem dX3_wordOf_21 : decode cX3_wordOf 21 = .ok (.ireturn, 1) := by decide +kernel
theorem dX3_wordOf_22 : decode cX3_wordOf 22 = .ok (.aload_n 0, 1) := by decide +kernel
theorem dX3_wordOf_23 : decode cX3_wordOf 23 = .ok (.ldc 65, 2) := by decide +kernel
theorem dX3_wordOf_25 : decode cX3_wordOf 25 = .ok (.invokevirtual 59, 3) := by decide +kernel
theorem dX3_wordOf_28 : decode cX3_wordOf 28 = .ok (.ifCond .eq 5, 3) := by decide +kernel
theorem dX3_wordOf_31 : decode cX3_wordOf 31 = .ok (.iconst 2, 1) := by decide +kernel
theorem dX3_wordOf_32 : decode cX3_wordOf 32 = .ok (.ireturn, 1) := by decide +kernel
theorem dX3_wordOf_33 : decode cX3_wordOf 33 = .ok (.aload_n 0, 1) := by decide +kernel
theorem dX3_wordOf_34 : decode cX3_wordOf 34 = .ok (.ldc 67, 2) := by decide +kernel
theorem dX3_wordOf_36 : decode cX3_wordOf 36 = .ok (.invokevirtual 59, 3) := by decide +kernel
theorem dX3_wordOf_39 : decode cX3_wordOf 39 = .ok (.ifCond .eq 5, 3) := by decide +kernel
theorem dX3_wordOf_42 : decode cX3_wordOf 42 = .ok (.iconst 3, 1) := by decide +kernel
theorem dX3_wordOf_43 : decode cX3_wordOf 43 = .ok (.ireturn, 1) := by decide +kernel
theorem dX3_wordOf_44 : decode cX3_wordOf 44 = .ok (.aload_n 0, 1) := by decide +kernel
theorem dX3_wordOf_45 : decode cX3_wordOf 45 = .ok (.ldc 69, 2) := by decide +kernel
theorem dX3_wordOf_47 : decode cX3_wordOf 47 = .ok (.invokevirtual 59, 3) := by decide +kernel
theorem dX3_wordOf_50 : decode cX3_wordOf 50 = .ok (.ifCond .eq 7, 3) := by decide +kernel
theorem dX3_wordOf_53 : decode cX3_wordOf 53 = .ok (.iconst 4, 1) := by decide +kernel
theorem dX3_wordOf_54 : decode cX3_wordOf 54 = .ok (.goto 4, 3) := by decide +kernel
theorem dX3_wordOf_57 : decode cX3_wordOf 57 = .ok (.iconst (-1), 1) := by decide +kernel
theorem dX3_wordOf_58 : decode cX3_wordOf 58 = .ok (.ireturn, 1) := by decide +kernel
theorem dX3_faultOfNumbers_0 : decode cX3_faultOfNumbers 0 = .ok (.iload_n 3, 1) := by decide +kernel
theorem dX3_faultOfNumbers_1 : decode cX3_faultOfNumbers 1 = .ok (.istore 5, 2) := by decide +kernel
theorem dX3_faultOfNumbers_3 : decode cX3_faultOfNumbers 3 = .ok (.iload 5, 2) := by decide +kernel
theorem dX3_faultOfNumbers_5 : decode cX3_faultOfNumbers 5 = .ok (.iload 4, 2) := by decide +kernel
theorem dX3_faultOfNumbers_7 : decode cX3_faultOfNumbers 7 = .ok (.if_icmp .gt 50, 3) := by decide +kernel
theorem dX3_faultOfNumbers_10 : decode cX3_faultOfNumbers 10 = .ok (.aload_n 0, 1) := by decide +kernel
theorem dX3_faultOfNumbers_11 : decode cX3_faultOfNumbers 11 = .ok (.iconst 2, 1) := by decide +kernel
theorem dX3_faultOfNumbers_12 : decode cX3_faultOfNumbers 12 = .ok (.invokestatic 71, 3) := by decide +kernel
theorem dX3_faultOfNumbers_15 : decode cX3_faultOfNumbers 15 = .ok (.istore 6, 2) := by decide +kernel
theorem dX3_faultOfNumbers_17 : decode cX3_faultOfNumbers 17 = .ok (.iload 6, 2) := by decide +kernel
theorem dX3_faultOfNumbers_19 : decode cX3_faultOfNumbers 19 = .ok (.ifCond .eq 6, 3) := by decide +kernel
theorem dX3_faultOfNumbers_22 : decode cX3_faultOfNumbers 22 = .ok (.iload 6, 2) := by decide +kernel
theorem dX3_faultOfNumbers_24 : decode cX3_faultOfNumbers 24 = .ok (.ireturn, 1) := by decide +kernel
theorem dX3_faultOfNumbers_25 : decode cX3_faultOfNumbers 25 = .ok (.aload_n 0, 1) := by decide +kernel
theorem dX3_faultOfNumbers_26 : decode cX3_faultOfNumbers 26 = .ok (.getfield 75, 3) := by decide +kernel
theorem dX3_faultOfNumbers_29 : decode cX3_faultOfNumbers 29 = .ok (.getstatic 78, 3) := by decide +kernel
theorem dX3_faultOfNumbers_32 : decode cX3_faultOfNumbers 32 = .ok (.iload 5, 2) := by decide +kernel
theorem dX3_faultOfNumbers_34 : decode cX3_faultOfNumbers 34 = .ok (.iaload, 1) := by decide +kernel
theorem dX3_faultOfNumbers_35 : decode cX3_faultOfNumbers 35 = .ok (.if_icmp .le 5, 3) := by decide +kernel
theorem dX3_faultOfNumbers_38 : decode cX3_faultOfNumbers 38 = .ok (.iconst 3, 1) := by decide +kernel
theorem dX3_faultOfNumbers_39 : decode cX3_faultOfNumbers 39 = .ok (.ireturn, 1) := by decide +kernel
theorem dX3_faultOfNumbers_40 : decode cX3_faultOfNumbers 40 = .ok (.aload_n 1, 1) := by decide +kernel
theorem dX3_faultOfNumbers_41 : decode cX3_faultOfNumbers 41 = .ok (.iload_n 2, 1) := by decide +kernel
theorem dX3_faultOfNumbers_42 : decode cX3_faultOfNumbers 42 = .ok (.iload 5, 2) := by decide +kernel
theorem dX3_faultOfNumbers_44 : decode cX3_faultOfNumbers 44 = .ok (.aload_n 0, 1) := by decide +kernel
theorem dX3_faultOfNumbers_45 : decode cX3_faultOfNumbers 45 = .ok (.getfield 75, 3) := by decide +kernel
theorem dX3_faultOfNumbers_48 : decode cX3_faultOfNumbers 48 = .ok (.invokevirtual 82, 3) := by decide +kernel
theorem dX3_faultOfNumbers_51 : decode cX3_faultOfNumbers 51 = .ok (.iinc 5 1, 3) := by decide +kernel
theorem dX3_faultOfNumbers_54 : decode cX3_faultOfNumbers 54 = .ok (.goto (-51), 3) := by decide +kernel
theorem dX3_faultOfNumbers_57 : decode cX3_faultOfNumbers 57 = .ok (.aload_n 0, 1) := by decide +kernel
theorem dX3_faultOfNumbers_58 : decode cX3_faultOfNumbers 58 = .ok (.iconst 3, 1) := by decide +kernel
theorem dX3_faultOfNumbers_59 : decode cX3_faultOfNumbers 59 = .ok (.invokestatic 71, 3) := by decide +kernel
theorem dX3_faultOfNumbers_62 : decode cX3_faultOfNumbers 62 = .ok (.ireturn, 1) := by decide +kernel
theorem dX3_faultOfToken_0 : decode cX3_faultOfToken 0 = .ok (.aload_n 0, 1) := by decide +kernel
theorem dX3_faultOfToken_1 : decode cX3_faultOfToken 1 = .ok (.invokevirtual 29, 3) := by decide +kernel
theorem dX3_faultOfToken_4 : decode cX3_faultOfToken 4 = .ok (.aload_n 0, 1) := by decide +kernel
theorem dX3_faultOfToken_5 : decode cX3_faultOfToken 5 = .ok (.getfield 32, 3) := by decide +kernel
theorem dX3_faultOfToken_8 : decode cX3_faultOfToken 8 = .ok (.iconst 4, 1) := by decide +kernel
theorem dX3_faultOfToken_9 : decode cX3_faultOfToken 9 = .ok (.if_icmp .ne 5, 3) := by decide +kernel
theorem dX3_faultOfToken_12 : decode cX3_faultOfToken 12 = .ok (.iconst 1, 1) := by decide +kernel
theorem dX3_faultOfToken_13 : decode cX3_faultOfToken 13 = .ok (.ireturn, 1) := by decide +kernel
theorem dX3_faultOfToken_14 : decode cX3_faultOfToken 14 = .ok (.aload_n 0, 1) := by decide +kernel
theorem dX3_faultOfToken_15 : decode cX3_faultOfToken 15 = .ok (.getfield 32, 3) := by decide +kernel
theorem dX3_faultOfToken_18 : decode cX3_faultOfToken 18 = .ok (.iload_n 1, 1) := by decide +kernel
theorem dX3_faultOfToken_19 : decode cX3_faultOfToken 19 = .ok (.if_icmp .ne 7, 3) := by decide +kernel
theorem dX3_faultOfToken_22 : decode cX3_faultOfToken 22 = .ok (.iconst 0, 1) := by decide +kernel
theorem dX3_faultOfToken_23 : decode cX3_faultOfToken 23 = .ok (.goto 4, 3) := by decide +kernel
theorem dX3_faultOfToken_26 : decode cX3_faultOfToken 26 = .ok (.iconst 2, 1) := by decide +kernel
theorem dX3_faultOfToken_27 : decode cX3_faultOfToken 27 = .ok (.ireturn, 1) := by decide +kernel
theorem dJ6_bitCount_0f7a4_0 : decode cJ6_bitCount_0f7a4 0 = .ok (.iload_n 0, 1) := by decide +kernel
theorem dJ6_bitCount_0f7a4_1 : decode cJ6_bitCount_0f7a4 1 = .ok (.iload_n 0, 1) := by decide +kernel
theorem dJ6_bitCount_0f7a4_2 : decode cJ6_bitCount_0f7a4 2 = .ok (.iconst 1, 1) := by decide +kernel
theorem dJ6_bitCount_0f7a4_3 : decode cJ6_bitCount_0f7a4 3 = .ok (.iushr, 1) := by decide +kernel
theorem dJ6_bitCount_0f7a4_4 : decode cJ6_bitCount_0f7a4 4 = .ok (.ldc_w 265, 3) := by decide +kernel
theorem dJ6_bitCount_0f7a4_7 : decode cJ6_bitCount_0f7a4 7 = .ok (.iand, 1) := by decide +kernel
theorem dJ6_bitCount_0f7a4_8 : decode cJ6_bitCount_0f7a4 8 = .ok (.isub, 1) := by decide +kernel
theorem dJ6_bitCount_0f7a4_9 : decode cJ6_bitCount_0f7a4 9 = .ok (.istore_n 0, 1) := by decide +kernel
theorem dJ6_bitCount_0f7a4_10 : decode cJ6_bitCount_0f7a4 10 = .ok (.iload_n 0, 1) := by decide +kernel
theorem dJ6_bitCount_0f7a4_11 : decode cJ6_bitCount_0f7a4 11 = .ok (.ldc_w 266, 3) := by decide +kernel
theorem dJ6_bitCount_0f7a4_14 : decode cJ6_bitCount_0f7a4 14 = .ok (.iand, 1) := by decide +kernel
theorem dJ6_bitCount_0f7a4_15 : decode cJ6_bitCount_0f7a4 15 = .ok (.iload_n 0, 1) := by decide +kernel
theorem dJ6_bitCount_0f7a4_16 : decode cJ6_bitCount_0f7a4 16 = .ok (.iconst 2, 1) := by decide +kernel
theorem dJ6_bitCount_0f7a4_17 : decode cJ6_bitCount_0f7a4 17 = .ok (.iushr, 1) := by decide +kernel
theorem dJ6_bitCount_0f7a4_18 : decode cJ6_bitCount_0f7a4 18 = .ok (.ldc_w 266, 3) := by decide +kernel
theorem dJ6_bitCount_0f7a4_21 : decode cJ6_bitCount_0f7a4 21 = .ok (.iand, 1) := by decide +kernel
theorem dJ6_bitCount_0f7a4_22 : decode cJ6_bitCount_0f7a4 22 = .ok (.iadd, 1) := by decide +kernel
theorem dJ6_bitCount_0f7a4_23 : decode cJ6_bitCount_0f7a4 23 = .ok (.istore_n 0, 1) := by decide +kernel
theorem dJ6_bitCount_0f7a4_24 : decode cJ6_bitCount_0f7a4 24 = .ok (.iload_n 0, 1) := by decide +kernel
theorem dJ6_bitCount_0f7a4_25 : decode cJ6_bitCount_0f7a4 25 = .ok (.iload_n 0, 1) := by decide +kernel
theorem dJ6_bitCount_0f7a4_26 : decode cJ6_bitCount_0f7a4 26 = .ok (.iconst 4, 1) := by decide +kernel
theorem dJ6_bitCount_0f7a4_27 : decode cJ6_bitCount_0f7a4 27 = .ok (.iushr, 1) := by decide +kernel
theorem dJ6_bitCount_0f7a4_28 : decode cJ6_bitCount_0f7a4 28 = .ok (.iadd, 1) := by decide +kernel
theorem dJ6_bitCount_0f7a4_29 : decode cJ6_bitCount_0f7a4 29 = .ok (.ldc_w 267, 3) := by decide +kernel
theorem dJ6_bitCount_0f7a4_32 : decode cJ6_bitCount_0f7a4 32 = .ok (.iand, 1) := by decide +kernel
theorem dJ6_bitCount_0f7a4_33 : decode cJ6_bitCount_0f7a4 33 = .ok (.istore_n 0, 1) := by decide +kernel
theorem dJ6_bitCount_0f7a4_34 : decode cJ6_bitCount_0f7a4 34 = .ok (.iload_n 0, 1) := by decide +kernel
theorem dJ6_bitCount_0f7a4_35 : decode cJ6_bitCount_0f7a4 35 = .ok (.iload_n 0, 1) := by decide +kernel
theorem dJ6_bitCount_0f7a4_36 : decode cJ6_bitCount_0f7a4 36 = .ok (.bipush 8, 2) := by decide +kernel
theorem dJ6_bitCount_0f7a4_38 : decode cJ6_bitCount_0f7a4 38 = .ok (.iushr, 1) := by decide +kernel
theorem dJ6_bitCount_0f7a4_39 : decode cJ6_bitCount_0f7a4 39 = .ok (.iadd, 1) := by decide +kernel
theorem dJ6_bitCount_0f7a4_40 : decode cJ6_bitCount_0f7a4 40 = .ok (.istore_n 0, 1) := by decide +kernel
theorem dJ6_bitCount_0f7a4_41 : decode cJ6_bitCount_0f7a4 41 = .ok (.iload_n 0, 1) := by decide +kernel
theorem dJ6_bitCount_0f7a4_42 : decode cJ6_bitCount_0f7a4 42 = .ok (.iload_n 0, 1) := by decide +kernel
theorem dJ6_bitCount_0f7a4_43 : decode cJ6_bitCount_0f7a4 43 = .ok (.bipush 16, 2) := by decide +kernel
theorem dJ6_bitCount_0f7a4_45 : decode cJ6_bitCount_0f7a4 45 = .ok (.iushr, 1) := by decide +kernel
theorem dJ6_bitCount_0f7a4_46 : decode cJ6_bitCount_0f7a4 46 = .ok (.iadd, 1) := by decide +kernel
theorem dJ6_bitCount_0f7a4_47 : decode cJ6_bitCount_0f7a4 47 = .ok (.istore_n 0, 1) := by decide +kernel
theorem dJ6_bitCount_0f7a4_48 : decode cJ6_bitCount_0f7a4 48 = .ok (.iload_n 0, 1) := by decide +kernel
theorem dJ6_bitCount_0f7a4_49 : decode cJ6_bitCount_0f7a4 49 = .ok (.bipush 63, 2) := by decide +kernel
theorem dJ6_bitCount_0f7a4_51 : decode cJ6_bitCount_0f7a4 51 = .ok (.iand, 1) := by decide +kernel
theorem dJ6_bitCount_0f7a4_52 : decode cJ6_bitCount_0f7a4 52 = .ok (.ireturn, 1) := by decide +kernel
theorem dJ9_abs_0f7a4_0 : decode cJ9_abs_0f7a4 0 = .ok (.iload_n 0, 1) := by decide +kernel
theorem dJ9_abs_0f7a4_1 : decode cJ9_abs_0f7a4 1 = .ok (.ifCond .ge 8, 3) := by decide +kernel
theorem dJ9_abs_0f7a4_4 : decode cJ9_abs_0f7a4 4 = .ok (.iload_n 0, 1) := by decide +kernel
theorem dJ9_abs_0f7a4_5 : decode cJ9_abs_0f7a4 5 = .ok (.ineg, 1) := by decide +kernel
theorem dJ9_abs_0f7a4_6 : decode cJ9_abs_0f7a4 6 = .ok (.goto 4, 3) := by decide +kernel
theorem dJ9_abs_0f7a4_9 : decode cJ9_abs_0f7a4 9 = .ok (.iload_n 0, 1) := by decide +kernel
theorem dJ9_abs_0f7a4_10 : decode cJ9_abs_0f7a4 10 = .ok (.ireturn, 1) := by decide +kernel
theorem dJ9_max_7cf53_0 : decode cJ9_max_7cf53 0 = .ok (.iload_n 0, 1) := by decide +kernel
theorem dJ9_max_7cf53_1 : decode cJ9_max_7cf53 1 = .ok (.iload_n 1, 1) := by decide +kernel
theorem dJ9_max_7cf53_2 : decode cJ9_max_7cf53 2 = .ok (.if_icmp .lt 7, 3) := by decide +kernel
theorem dJ9_max_7cf53_5 : decode cJ9_max_7cf53 5 = .ok (.iload_n 0, 1) := by decide +kernel
theorem dJ9_max_7cf53_6 : decode cJ9_max_7cf53 6 = .ok (.goto 4, 3) := by decide +kernel
theorem dJ9_max_7cf53_9 : decode cJ9_max_7cf53 9 = .ok (.iload_n 1, 1) := by decide +kernel
theorem dJ9_max_7cf53_10 : decode cJ9_max_7cf53 10 = .ok (.ireturn, 1) := by decide +kernel
theorem dJ9_min_7cf53_0 : decode cJ9_min_7cf53 0 = .ok (.iload_n 0, 1) := by decide +kernel
theorem dJ9_min_7cf53_1 : decode cJ9_min_7cf53 1 = .ok (.iload_n 1, 1) := by decide +kernel
theorem dJ9_min_7cf53_2 : decode cJ9_min_7cf53 2 = .ok (.if_icmp .gt 7, 3) := by decide +kernel
theorem dJ9_min_7cf53_5 : decode cJ9_min_7cf53 5 = .ok (.iload_n 0, 1) := by decide +kernel
theorem dJ9_min_7cf53_6 : decode cJ9_min_7cf53 6 = .ok (.goto 4, 3) := by decide +kernel
theorem dJ9_min_7cf53_9 : decode cJ9_min_7cf53 9 = .ok (.iload_n 1, 1) := by decide +kernel
theorem dJ9_min_7cf53_10 : decode cJ9_min_7cf53 10 = .ok (.ireturn, 1) := by decide +kernel
theorem dJ0_length_8abf5_0 : decode cJ0_length_8abf5 0 = .ok (.aload_n 0, 1) := by decide +kernel
theorem dJ0_length_8abf5_1 : decode cJ0_length_8abf5 1 = .ok (.getfield 9, 3) := by decide +kernel
theorem dJ0_length_8abf5_4 : decode cJ0_length_8abf5 4 = .ok (.arraylength, 1) := by decide +kernel
theorem dJ0_length_8abf5_5 : decode cJ0_length_8abf5 5 = .ok (.aload_n 0, 1) := by decide +kernel
theorem dJ0_length_8abf5_6 : decode cJ0_length_8abf5 6 = .ok (.invokevirtual 335, 3) := by decide +kernel
theorem dJ0_length_8abf5_9 : decode cJ0_length_8abf5 9 = .ok (.ishr, 1) := by decide +kernel
theorem dJ0_length_8abf5_10 : decode cJ0_length_8abf5 10 = .ok (.ireturn, 1) := by decide +kernel
theorem dJ0_charAt_5068e_0 : decode cJ0_charAt_5068e 0 = .ok (.aload_n 0, 1) := by decide +kernel
theorem dJ0_charAt_5068e_1 : decode cJ0_charAt_5068e 1 = .ok (.invokevirtual 492, 3) := by decide +kernel
theorem dJ0_charAt_5068e_4 : decode cJ0_charAt_5068e 4 = .ok (.ifCond .eq 12, 3) := by decide +kernel
theorem dJ0_charAt_5068e_7 : decode cJ0_charAt_5068e 7 = .ok (.aload_n 0, 1) := by decide +kernel
theorem dJ0_charAt_5068e_8 : decode cJ0_charAt_5068e 8 = .ok (.getfield 9, 3) := by decide +kernel
theorem dJ0_charAt_5068e_11 : decode cJ0_charAt_5068e 11 = .ok (.iload_n 1, 1) := by decide +kernel
theorem dJ0_charAt_5068e_12 : decode cJ0_charAt_5068e 12 = .ok (.invokestatic 495, 3) := by decide +kernel
theorem dJ0_charAt_5068e_15 : decode cJ0_charAt_5068e 15 = .ok (.ireturn, 1) := by decide +kernel
theorem dJ0_charAt_5068e_16 : decode cJ0_charAt_5068e 16 = .ok (.aload_n 0, 1) := by decide +kernel
theorem dJ0_charAt_5068e_17 : decode cJ0_charAt_5068e 17 = .ok (.getfield 9, 3) := by decide +kernel
theorem dJ0_charAt_5068e_20 : decode cJ0_charAt_5068e 20 = .ok (.iload_n 1, 1) := by decide +kernel
theorem dJ0_charAt_5068e_21 : decode cJ0_charAt_5068e 21 = .ok (.invokestatic 498, 3) := by decide +kernel
theorem dJ0_charAt_5068e_24 : decode cJ0_charAt_5068e 24 = .ok (.ireturn, 1) := by decide +kernel
theorem dJ0_coder_7d493_0 : decode cJ0_coder_7d493 0 = .ok (.getstatic 38, 3) := by decide +kernel
theorem dJ0_coder_7d493_3 : decode cJ0_coder_7d493 3 = .ok (.ifCond .eq 10, 3) := by decide +kernel
theorem dJ0_coder_7d493_6 : decode cJ0_coder_7d493 6 = .ok (.aload_n 0, 1) := by decide +kernel
theorem dJ0_coder_7d493_7 : decode cJ0_coder_7d493 7 = .ok (.getfield 15, 3) := by decide +kernel
theorem dJ0_coder_7d493_10 : decode cJ0_coder_7d493 10 = .ok (.goto 4, 3) := by decide +kernel
theorem dJ0_coder_7d493_13 : decode cJ0_coder_7d493 13 = .ok (.iconst 1, 1) := by decide +kernel
theorem dJ0_coder_7d493_14 : decode cJ0_coder_7d493 14 = .ok (.ireturn, 1) := by decide +kernel
theorem dJ0_isLatin1_aae02_0 : decode cJ0_isLatin1_aae02 0 = .ok (.getstatic 38, 3) := by decide +kernel
theorem dJ0_isLatin1_aae02_3 : decode cJ0_isLatin1_aae02 3 = .ok (.ifCond .eq 14, 3) := by decide +kernel
theorem dJ0_isLatin1_aae02_6 : decode cJ0_isLatin1_aae02 6 = .ok (.aload_n 0, 1) := by decide +kernel
theorem dJ0_isLatin1_aae02_7 : decode cJ0_isLatin1_aae02 7 = .ok (.getfield 15, 3) := by decide +kernel
theorem dJ0_isLatin1_aae02_10 : decode cJ0_isLatin1_aae02 10 = .ok (.ifCond .ne 7, 3) := by decide +kernel
theorem dJ0_isLatin1_aae02_13 : decode cJ0_isLatin1_aae02 13 = .ok (.iconst 1, 1) := by decide +kernel
theorem dJ0_isLatin1_aae02_14 : decode cJ0_isLatin1_aae02 14 = .ok (.goto 4, 3) := by decide +kernel
theorem dJ0_isLatin1_aae02_17 : decode cJ0_isLatin1_aae02 17 = .ok (.iconst 0, 1) := by decide +kernel
theorem dJ0_isLatin1_aae02_18 : decode cJ0_isLatin1_aae02 18 = .ok (.ireturn, 1) := by decide +kernel
theorem dJ0_checkIndex_df160_0 : decode cJ0_checkIndex_df160 0 = .ok (.iload_n 0, 1) := by decide +kernel
theorem dJ0_checkIndex_df160_1 : decode cJ0_checkIndex_df160 1 = .ok (.iload_n 1, 1) := by decide +kernel
theorem dJ0_checkIndex_df160_2 : decode cJ0_checkIndex_df160 2 = .ok (.getstatic 1053, 3) := by decide +kernel
theorem dJ0_checkIndex_df160_5 : decode cJ0_checkIndex_df160 5 = .ok (.invokestatic 1059, 3) := by decide +kernel
theorem dJ0_checkIndex_df160_8 : decode cJ0_checkIndex_df160 8 = .ok (.pop, 1) := by decide +kernel
theorem dJ0_checkIndex_df160_9 : decode cJ0_checkIndex_df160 9 = .ok (.return_, 1) := by decide +kernel
theorem dJ1_charAt_3b067_0 : decode cJ1_charAt_3b067 0 = .ok (.iload_n 1, 1) := by decide +kernel
theorem dJ1_charAt_3b067_1 : decode cJ1_charAt_3b067 1 = .ok (.aload_n 0, 1) := by decide +kernel
theorem dJ1_charAt_3b067_2 : decode cJ1_charAt_3b067 2 = .ok (.arraylength, 1) := by decide +kernel
theorem dJ1_charAt_3b067_3 : decode cJ1_charAt_3b067 3 = .ok (.invokestatic 9, 3) := by decide +kernel
theorem dJ1_charAt_3b067_6 : decode cJ1_charAt_3b067 6 = .ok (.aload_n 0, 1) := by decide +kernel
theorem dJ1_charAt_3b067_7 : decode cJ1_charAt_3b067 7 = .ok (.iload_n 1, 1) := by decide +kernel
theorem dJ1_charAt_3b067_8 : decode cJ1_charAt_3b067 8 = .ok (.baload, 1) := by decide +kernel
theorem dJ1_charAt_3b067_9 : decode cJ1_charAt_3b067 9 = .ok (.sipush 255, 3) := by decide +kernel
theorem dJ1_charAt_3b067_12 : decode cJ1_charAt_3b067 12 = .ok (.iand, 1) := by decide +kernel
theorem dJ1_charAt_3b067_13 : decode cJ1_charAt_3b067 13 = .ok (.i2c, 1) := by decide +kernel
theorem dJ1_charAt_3b067_14 : decode cJ1_charAt_3b067 14 = .ok (.ireturn, 1) := by decide +kernel
theorem dJ2_getChar_3b067_0 : decode cJ2_getChar_3b067 0 = .ok (.getstatic 44, 3) := by decide +kernel
theorem dJ2_getChar_3b067_3 : decode cJ2_getChar_3b067 3 = .ok (.ifCond .ne 25, 3) := by decide +kernel
theorem dJ2_getChar_3b067_6 : decode cJ2_getChar_3b067 6 = .ok (.iload_n 1, 1) := by decide +kernel
theorem dJ2_getChar_3b067_7 : decode cJ2_getChar_3b067 7 = .ok (.ifCond .lt 11, 3) := by decide +kernel
theorem dJ2_getChar_3b067_10 : decode cJ2_getChar_3b067 10 = .ok (.iload_n 1, 1) := by decide +kernel
theorem dJ2_getChar_3b067_11 : decode cJ2_getChar_3b067 11 = .ok (.aload_n 0, 1) := by decide +kernel
theorem dJ2_getChar_3b067_12 : decode cJ2_getChar_3b067 12 = .ok (.invokestatic 48, 3) := by decide +kernel
theorem dJ2_getChar_3b067_15 : decode cJ2_getChar_3b067 15 = .ok (.if_icmp .lt 13, 3) := by decide +kernel
theorem dJ2_getChar_3b067_18 : decode cJ2_getChar_3b067 18 = .ok (.new 52, 3) := by decide +kernel
theorem dJ2_getChar_3b067_21 : decode cJ2_getChar_3b067 21 = .ok (.dup, 1) := by decide +kernel
theorem dJ2_getChar_3b067_22 : decode cJ2_getChar_3b067 22 = .ok (.ldc 54, 2) := by decide +kernel
theorem dJ2_getChar_3b067_24 : decode cJ2_getChar_3b067 24 = .ok (.invokespecial 56, 3) := by decide +kernel
theorem dJ2_getChar_3b067_27 : decode cJ2_getChar_3b067 27 = .ok (.athrow, 1) := by decide +kernel
theorem dJ2_getChar_3b067_28 : decode cJ2_getChar_3b067 28 = .ok (.iload_n 1, 1) := by decide +kernel
theorem dJ2_getChar_3b067_29 : decode cJ2_getChar_3b067 29 = .ok (.iconst 1, 1) := by decide +kernel
theorem dJ2_getChar_3b067_30 : decode cJ2_getChar_3b067 30 = .ok (.ishl, 1) := by decide +kernel
theorem dJ2_getChar_3b067_31 : decode cJ2_getChar_3b067 31 = .ok (.istore_n 1, 1) := by decide +kernel
theorem dJ2_getChar_3b067_32 : decode cJ2_getChar_3b067 32 = .ok (.aload_n 0, 1) := by decide +kernel
theorem dJ2_getChar_3b067_33 : decode cJ2_getChar_3b067 33 = .ok (.iload_n 1, 1) := by decide +kernel
theorem dJ2_getChar_3b067_34 : decode cJ2_getChar_3b067 34 = .ok (.iinc 1 1, 3) := by decide +kernel
theorem dJ2_getChar_3b067_37 : decode cJ2_getChar_3b067 37 = .ok (.baload, 1) := by decide +kernel
theorem dJ2_getChar_3b067_38 : decode cJ2_getChar_3b067 38 = .ok (.sipush 255, 3) := by decide +kernel
theorem dJ2_getChar_3b067_41 : decode cJ2_getChar_3b067 41 = .ok (.iand, 1) := by decide +kernel
theorem dJ2_getChar_3b067_42 : decode cJ2_getChar_3b067 42 = .ok (.getstatic 59, 3) := by decide +kernel
theorem dJ2_getChar_3b067_45 : decode cJ2_getChar_3b067 45 = .ok (.ishl, 1) := by decide +kernel
theorem dJ2_getChar_3b067_46 : decode cJ2_getChar_3b067 46 = .ok (.aload_n 0, 1) := by decide +kernel
theorem dJ2_getChar_3b067_47 : decode cJ2_getChar_3b067 47 = .ok (.iload_n 1, 1) := by decide +kernel
theorem dJ2_getChar_3b067_48 : decode cJ2_getChar_3b067 48 = .ok (.baload, 1) := by decide +kernel
theorem dJ2_getChar_3b067_49 : decode cJ2_getChar_3b067 49 = .ok (.sipush 255, 3) := by decide +kernel
theorem dJ2_getChar_3b067_52 : decode cJ2_getChar_3b067 52 = .ok (.iand, 1) := by decide +kernel
theorem dJ2_getChar_3b067_53 : decode cJ2_getChar_3b067 53 = .ok (.getstatic 63, 3) := by decide +kernel
theorem dJ2_getChar_3b067_56 : decode cJ2_getChar_3b067 56 = .ok (.ishl, 1) := by decide +kernel
theorem dJ2_getChar_3b067_57 : decode cJ2_getChar_3b067 57 = .ok (.ior, 1) := by decide +kernel
theorem dJ2_getChar_3b067_58 : decode cJ2_getChar_3b067 58 = .ok (.i2c, 1) := by decide +kernel
theorem dJ2_getChar_3b067_59 : decode cJ2_getChar_3b067 59 = .ok (.ireturn, 1) := by decide +kernel
theorem dJ2_length_9d52b_0 : decode cJ2_length_9d52b 0 = .ok (.aload_n 0, 1) := by decide +kernel
theorem dJ2_length_9d52b_1 : decode cJ2_length_9d52b 1 = .ok (.arraylength, 1) := by decide +kernel
theorem dJ2_length_9d52b_2 : decode cJ2_length_9d52b 2 = .ok (.iconst 1, 1) := by decide +kernel
theorem dJ2_length_9d52b_3 : decode cJ2_length_9d52b 3 = .ok (.ishr, 1) := by decide +kernel
theorem dJ2_length_9d52b_4 : decode cJ2_length_9d52b 4 = .ok (.ireturn, 1) := by decide +kernel
theorem dJ2_charAt_3b067_0 : decode cJ2_charAt_3b067 0 = .ok (.iload_n 1, 1) := by decide +kernel
theorem dJ2_charAt_3b067_1 : decode cJ2_charAt_3b067 1 = .ok (.aload_n 0, 1) := by decide +kernel
theorem dJ2_charAt_3b067_2 : decode cJ2_charAt_3b067 2 = .ok (.invokestatic 67, 3) := by decide +kernel
theorem dJ2_charAt_3b067_5 : decode cJ2_charAt_3b067 5 = .ok (.aload_n 0, 1) := by decide +kernel
theorem dJ2_charAt_3b067_6 : decode cJ2_charAt_3b067 6 = .ok (.iload_n 1, 1) := by decide +kernel
theorem dJ2_charAt_3b067_7 : decode cJ2_charAt_3b067 7 = .ok (.invokestatic 71, 3) := by decide +kernel
theorem dJ2_charAt_3b067_10 : decode cJ2_charAt_3b067 10 = .ok (.ireturn, 1) := by decide +kernel
theorem dJ2_checkIndex_2214a_0 : decode cJ2_checkIndex_2214a 0 = .ok (.iload_n 0, 1) := by decide +kernel
theorem dJ2_checkIndex_2214a_1 : decode cJ2_checkIndex_2214a 1 = .ok (.aload_n 1, 1) := by decide +kernel
theorem dJ2_checkIndex_2214a_2 : decode cJ2_checkIndex_2214a 2 = .ok (.invokestatic 48, 3) := by decide +kernel
theorem dJ2_checkIndex_2214a_5 : decode cJ2_checkIndex_2214a 5 = .ok (.invokestatic 414, 3) := by decide +kernel
theorem dJ2_checkIndex_2214a_8 : decode cJ2_checkIndex_2214a 8 = .ok (.return_, 1) := by decide +kernel
theorem dJ7_fill_53178_0 : decode cJ7_fill_53178 0 = .ok (.iconst 0, 1) := by decide +kernel
theorem dJ7_fill_53178_1 : decode cJ7_fill_53178 1 = .ok (.istore_n 2, 1) := by decide +kernel
theorem dJ7_fill_53178_2 : decode cJ7_fill_53178 2 = .ok (.aload_n 0, 1) := by decide +kernel
theorem dJ7_fill_53178_3 : decode cJ7_fill_53178 3 = .ok (.arraylength, 1) := by decide +kernel
theorem dJ7_fill_53178_4 : decode cJ7_fill_53178 4 = .ok (.istore_n 3, 1) := by decide +kernel
theorem dJ7_fill_53178_5 : decode cJ7_fill_53178 5 = .ok (.iload_n 2, 1) := by decide +kernel
theorem dJ7_fill_53178_6 : decode cJ7_fill_53178 6 = .ok (.iload_n 3, 1) := by decide +kernel
theorem dJ7_fill_53178_7 : decode cJ7_fill_53178 7 = .ok (.if_icmp .ge 13, 3) := by decide +kernel
theorem dJ7_fill_53178_10 : decode cJ7_fill_53178 10 = .ok (.aload_n 0, 1) := by decide +kernel
theorem dJ7_fill_53178_11 : decode cJ7_fill_53178 11 = .ok (.iload_n 2, 1) := by decide +kernel
theorem dJ7_fill_53178_12 : decode cJ7_fill_53178 12 = .ok (.iload_n 1, 1) := by decide +kernel
theorem dJ7_fill_53178_13 : decode cJ7_fill_53178 13 = .ok (.iastore, 1) := by decide +kernel
theorem dJ7_fill_53178_14 : decode cJ7_fill_53178 14 = .ok (.iinc 2 1, 3) := by decide +kernel
theorem dJ7_fill_53178_17 : decode cJ7_fill_53178 17 = .ok (.goto (-12), 3) := by decide +kernel
theorem dJ7_fill_53178_20 : decode cJ7_fill_53178 20 = .ok (.return_, 1) := by decide +kernel
theorem dJ3_checkIndex_8e157_0 : decode cJ3_checkIndex_8e157 0 = .ok (.iload_n 0, 1) := by decide +kernel
theorem dJ3_checkIndex_8e157_1 : decode cJ3_checkIndex_8e157 1 = .ok (.ifCond .lt 8, 3) := by decide +kernel
theorem dJ3_checkIndex_8e157_4 : decode cJ3_checkIndex_8e157 4 = .ok (.iload_n 0, 1) := by decide +kernel
theorem dJ3_checkIndex_8e157_5 : decode cJ3_checkIndex_8e157 5 = .ok (.iload_n 1, 1) := by decide +kernel
theorem dJ3_checkIndex_8e157_6 : decode cJ3_checkIndex_8e157 6 = .ok (.if_icmp .lt 10, 3) := by decide +kernel
theorem dJ3_checkIndex_8e157_9 : decode cJ3_checkIndex_8e157 9 = .ok (.aload_n 2, 1) := by decide +kernel
theorem dJ3_checkIndex_8e157_10 : decode cJ3_checkIndex_8e157 10 = .ok (.iload_n 0, 1) := by decide +kernel
theorem dJ3_checkIndex_8e157_11 : decode cJ3_checkIndex_8e157 11 = .ok (.iload_n 1, 1) := by decide +kernel
theorem dJ3_checkIndex_8e157_12 : decode cJ3_checkIndex_8e157 12 = .ok (.invokestatic 95, 3) := by decide +kernel
theorem dJ3_checkIndex_8e157_15 : decode cJ3_checkIndex_8e157 15 = .ok (.athrow, 1) := by decide +kernel
theorem dJ3_checkIndex_8e157_16 : decode cJ3_checkIndex_8e157 16 = .ok (.iload_n 0, 1) := by decide +kernel
theorem dJ3_checkIndex_8e157_17 : decode cJ3_checkIndex_8e157 17 = .ok (.ireturn, 1) := by decide +kernel
