theorem dX0_init_0 : decode cX0_init 0 = .ok (.aload_n 0, 1) := by decide +kernel
theorem dX0_init_1 : decode cX0_init 1 = .ok (.invokespecial 3, 3) := by decide +kernel
theorem dX0_init_4 : decode cX0_init 4 = .ok (.aload_n 0, 1) := by decide +kernel
theorem dX0_init_5 : decode cX0_init 5 = .ok (.bipush 60, 2) := by decide +kernel
theorem dX0_init_7 : decode cX0_init 7 = .ok (.newarray .int, 2) := by decide +kernel
theorem dX0_init_9 : decode cX0_init 9 = .ok (.putfield 9, 3) := by decide +kernel
theorem dX0_init_12 : decode cX0_init 12 = .ok (.return_, 1) := by decide +kernel
theorem dX0_countIn_0 : decode cX0_countIn 0 = .ok (.iload_n 1, 1) := by decide +kernel
theorem dX0_countIn_1 : decode cX0_countIn 1 = .ok (.iconst 1, 1) := by decide +kernel
theorem dX0_countIn_2 : decode cX0_countIn 2 = .ok (.if_icmp .eq 8, 3) := by decide +kernel
theorem dX0_countIn_5 : decode cX0_countIn 5 = .ok (.iload_n 1, 1) := by decide +kernel
theorem dX0_countIn_6 : decode cX0_countIn 6 = .ok (.iconst 2, 1) := by decide +kernel
theorem dX0_countIn_7 : decode cX0_countIn 7 = .ok (.if_icmp .ne 7, 3) := by decide +kernel
theorem dX0_countIn_10 : decode cX0_countIn 10 = .ok (.iconst 1, 1) := by decide +kernel
theorem dX0_countIn_11 : decode cX0_countIn 11 = .ok (.goto 4, 3) := by decide +kernel
theorem dX0_countIn_14 : decode cX0_countIn 14 = .ok (.iconst 0, 1) := by decide +kernel
theorem dX0_countIn_15 : decode cX0_countIn 15 = .ok (.istore_n 2, 1) := by decide +kernel
theorem dX0_countIn_16 : decode cX0_countIn 16 = .ok (.iload_n 2, 1) := by decide +kernel
theorem dX0_countIn_17 : decode cX0_countIn 17 = .ok (.ifCond .eq 19, 3) := by decide +kernel
theorem dX0_countIn_20 : decode cX0_countIn 20 = .ok (.aload_n 0, 1) := by decide +kernel
theorem dX0_countIn_21 : decode cX0_countIn 21 = .ok (.getfield 15, 3) := by decide +kernel
theorem dX0_countIn_24 : decode cX0_countIn 24 = .ok (.ifCond .le 12, 3) := by decide +kernel
theorem dX0_countIn_27 : decode cX0_countIn 27 = .ok (.aload_n 0, 1) := by decide +kernel
theorem dX0_countIn_28 : decode cX0_countIn 28 = .ok (.getfield 15, 3) := by decide +kernel
theorem dX0_countIn_31 : decode cX0_countIn 31 = .ok (.iconst 1, 1) := by decide +kernel
theorem dX0_countIn_32 : decode cX0_countIn 32 = .ok (.isub, 1) := by decide +kernel
theorem dX0_countIn_33 : decode cX0_countIn 33 = .ok (.goto 7, 3) := by decide +kernel
theorem dX0_countIn_36 : decode cX0_countIn 36 = .ok (.aload_n 0, 1) := by decide +kernel
theorem dX0_countIn_37 : decode cX0_countIn 37 = .ok (.getfield 15, 3) := by decide +kernel
theorem dX0_countIn_40 : decode cX0_countIn 40 = .ok (.ireturn, 1) := by decide +kernel
theorem dX0_valueIn_0 : decode cX0_valueIn 0 = .ok (.iload_n 1, 1) := by decide +kernel
theorem dX0_valueIn_1 : decode cX0_valueIn 1 = .ok (.tableswitch 64 0 3 #[31, 38, 46, 57], 31) := by decide +kernel
theorem dX0_valueIn_32 : decode cX0_valueIn 32 = .ok (.aload_n 0, 1) := by decide +kernel
theorem dX0_valueIn_33 : decode cX0_valueIn 33 = .ok (.getfield 21, 3) := by decide +kernel
theorem dX0_valueIn_36 : decode cX0_valueIn 36 = .ok (.iload_n 2, 1) := by decide +kernel
theorem dX0_valueIn_37 : decode cX0_valueIn 37 = .ok (.iaload, 1) := by decide +kernel
theorem dX0_valueIn_38 : decode cX0_valueIn 38 = .ok (.ireturn, 1) := by decide +kernel
theorem dX0_valueIn_39 : decode cX0_valueIn 39 = .ok (.aload_n 0, 1) := by decide +kernel
theorem dX0_valueIn_40 : decode cX0_valueIn 40 = .ok (.iload_n 2, 1) := by decide +kernel
theorem dX0_valueIn_41 : decode cX0_valueIn 41 = .ok (.iconst 1, 1) := by decide +kernel
theorem dX0_valueIn_42 : decode cX0_valueIn 42 = .ok (.iadd, 1) := by decide +kernel
theorem dX0_valueIn_43 : decode cX0_valueIn 43 = .ok (.invokevirtual 24, 3) := by decide +kernel
theorem dX0_valueIn_46 : decode cX0_valueIn 46 = .ok (.ireturn, 1) := by decide +kernel
theorem dX0_valueIn_47 : decode cX0_valueIn 47 = .ok (.aload_n 0, 1) := by decide +kernel
theorem dX0_valueIn_48 : decode cX0_valueIn 48 = .ok (.iload_n 2, 1) := by decide +kernel
theorem dX0_valueIn_49 : decode cX0_valueIn 49 = .ok (.iconst 1, 1) := by decide +kernel
theorem dX0_valueIn_50 : decode cX0_valueIn 50 = .ok (.iadd, 1) := by decide +kernel
theorem dX0_valueIn_51 : decode cX0_valueIn 51 = .ok (.invokevirtual 24, 3) := by decide +kernel
theorem dX0_valueIn_54 : decode cX0_valueIn 54 = .ok (.invokestatic 28, 3) := by decide +kernel
theorem dX0_valueIn_57 : decode cX0_valueIn 57 = .ok (.ireturn, 1) := by decide +kernel
theorem dX0_valueIn_58 : decode cX0_valueIn 58 = .ok (.aload_n 0, 1) := by decide +kernel
theorem dX0_valueIn_59 : decode cX0_valueIn 59 = .ok (.getfield 33, 3) := by decide +kernel
theorem dX0_valueIn_62 : decode cX0_valueIn 62 = .ok (.iload_n 2, 1) := by decide +kernel
theorem dX0_valueIn_63 : decode cX0_valueIn 63 = .ok (.iaload, 1) := by decide +kernel
theorem dX0_valueIn_64 : decode cX0_valueIn 64 = .ok (.ireturn, 1) := by decide +kernel
theorem dX0_valueIn_65 : decode cX0_valueIn 65 = .ok (.aload_n 0, 1) := by decide +kernel
theorem dX0_valueIn_66 : decode cX0_valueIn 66 = .ok (.getfield 21, 3) := by decide +kernel
theorem dX0_valueIn_69 : decode cX0_valueIn 69 = .ok (.iload_n 2, 1) := by decide +kernel
theorem dX0_valueIn_70 : decode cX0_valueIn 70 = .ok (.iaload, 1) := by decide +kernel
theorem dX0_valueIn_71 : decode cX0_valueIn 71 = .ok (.sipush 1000, 3) := by decide +kernel
theorem dX0_valueIn_74 : decode cX0_valueIn 74 = .ok (.imul, 1) := by decide +kernel
theorem dX0_valueIn_75 : decode cX0_valueIn 75 = .ok (.aload_n 0, 1) := by decide +kernel
theorem dX0_valueIn_76 : decode cX0_valueIn 76 = .ok (.getfield 33, 3) := by decide +kernel
theorem dX0_valueIn_79 : decode cX0_valueIn 79 = .ok (.iload_n 2, 1) := by decide +kernel
theorem dX0_valueIn_80 : decode cX0_valueIn 80 = .ok (.iaload, 1) := by decide +kernel
theorem dX0_valueIn_81 : decode cX0_valueIn 81 = .ok (.iadd, 1) := by decide +kernel
theorem dX0_valueIn_82 : decode cX0_valueIn 82 = .ok (.ireturn, 1) := by decide +kernel
theorem dX0_read_0 : decode cX0_read 0 = .ok (.aload_n 0, 1) := by decide +kernel
theorem dX0_read_1 : decode cX0_read 1 = .ok (.aload_n 1, 1) := by decide +kernel
theorem dX0_read_2 : decode cX0_read 2 = .ok (.iload_n 2, 1) := by decide +kernel
theorem dX0_read_3 : decode cX0_read 3 = .ok (.invokestatic 36, 3) := by decide +kernel
theorem dX0_read_6 : decode cX0_read 6 = .ok (.putfield 40, 3) := by decide +kernel
theorem dX0_read_9 : decode cX0_read 9 = .ok (.iconst 0, 1) := by decide +kernel
theorem dX0_read_10 : decode cX0_read 10 = .ok (.istore_n 3, 1) := by decide +kernel
theorem dX0_read_11 : decode cX0_read 11 = .ok (.iload_n 3, 1) := by decide +kernel
theorem dX0_read_12 : decode cX0_read 12 = .ok (.aload_n 0, 1) := by decide +kernel
theorem dX0_read_13 : decode cX0_read 13 = .ok (.getfield 40, 3) := by decide +kernel
theorem dX0_read_16 : decode cX0_read 16 = .ok (.if_icmp .ge 21, 3) := by decide +kernel
theorem dX0_read_19 : decode cX0_read 19 = .ok (.aload_n 0, 1) := by decide +kernel
theorem dX0_read_20 : decode cX0_read 20 = .ok (.getfield 9, 3) := by decide +kernel
theorem dX0_read_23 : decode cX0_read 23 = .ok (.iload_n 3, 1) := by decide +kernel
theorem dX0_read_24 : decode cX0_read 24 = .ok (.aload_n 1, 1) := by decide +kernel
theorem dX0_read_25 : decode cX0_read 25 = .ok (.iload_n 2, 1) := by decide +kernel
theorem dX0_read_26 : decode cX0_read 26 = .ok (.iload_n 3, 1) := by decide +kernel
theorem dX0_read_27 : decode cX0_read 27 = .ok (.invokestatic 41, 3) := by decide +kernel
theorem dX0_read_30 : decode cX0_read 30 = .ok (.iastore, 1) := by decide +kernel
theorem dX0_read_31 : decode cX0_read 31 = .ok (.iinc 3 1, 3) := by decide +kernel
theorem dX0_read_34 : decode cX0_read 34 = .ok (.goto (-23), 3) := by decide +kernel
theorem dX0_read_37 : decode cX0_read 37 = .ok (.return_, 1) := by decide +kernel
theorem dX0_countDifferent_0 : decode cX0_countDifferent 0 = .ok (.iconst 0, 1) := by decide +kernel
theorem dX0_countDifferent_1 : decode cX0_countDifferent 1 = .ok (.istore_n 2, 1) := by decide +kernel
theorem dX0_countDifferent_2 : decode cX0_countDifferent 2 = .ok (.iconst 0, 1) := by decide +kernel
theorem dX0_countDifferent_3 : decode cX0_countDifferent 3 = .ok (.istore_n 3, 1) := by decide +kernel
theorem dX0_countDifferent_4 : decode cX0_countDifferent 4 = .ok (.iload_n 3, 1) := by decide +kernel
theorem dX0_countDifferent_5 : decode cX0_countDifferent 5 = .ok (.iload_n 1, 1) := by decide +kernel
theorem dX0_countDifferent_6 : decode cX0_countDifferent 6 = .ok (.iadd, 1) := by decide +kernel
theorem dX0_countDifferent_7 : decode cX0_countDifferent 7 = .ok (.aload_n 0, 1) := by decide +kernel
theorem dX0_countDifferent_8 : decode cX0_countDifferent 8 = .ok (.getfield 40, 3) := by decide +kernel
theorem dX0_countDifferent_11 : decode cX0_countDifferent 11 = .ok (.if_icmp .gt 21, 3) := by decide +kernel
theorem dX0_countDifferent_14 : decode cX0_countDifferent 14 = .ok (.aload_n 0, 1) := by decide +kernel
theorem dX0_countDifferent_15 : decode cX0_countDifferent 15 = .ok (.iload_n 3, 1) := by decide +kernel
theorem dX0_countDifferent_16 : decode cX0_countDifferent 16 = .ok (.iload_n 1, 1) := by decide +kernel
theorem dX0_countDifferent_17 : decode cX0_countDifferent 17 = .ok (.invokevirtual 45, 3) := by decide +kernel
theorem dX0_countDifferent_20 : decode cX0_countDifferent 20 = .ok (.ifCond .ne 6, 3) := by decide +kernel
theorem dX0_countDifferent_23 : decode cX0_countDifferent 23 = .ok (.iinc 2 1, 3) := by decide +kernel
theorem dX0_countDifferent_26 : decode cX0_countDifferent 26 = .ok (.iinc 3 1, 3) := by decide +kernel
theorem dX0_countDifferent_29 : decode cX0_countDifferent 29 = .ok (.goto (-25), 3) := by decide +kernel
theorem dX0_countDifferent_32 : decode cX0_countDifferent 32 = .ok (.iload_n 2, 1) := by decide +kernel
theorem dX0_countDifferent_33 : decode cX0_countDifferent 33 = .ok (.ireturn, 1) := by decide +kernel
theorem dX0_cameBefore_0 : decode cX0_cameBefore 0 = .ok (.iconst 0, 1) := by decide +kernel
theorem dX0_cameBefore_1 : decode cX0_cameBefore 1 = .ok (.istore_n 3, 1) := by decide +kernel
theorem dX0_cameBefore_2 : decode cX0_cameBefore 2 = .ok (.iload_n 3, 1) := by decide +kernel
theorem dX0_cameBefore_3 : decode cX0_cameBefore 3 = .ok (.iload_n 1, 1) := by decide +kernel
theorem dX0_cameBefore_4 : decode cX0_cameBefore 4 = .ok (.if_icmp .ge 21, 3) := by decide +kernel
theorem dX0_cameBefore_7 : decode cX0_cameBefore 7 = .ok (.aload_n 0, 1) := by decide +kernel
theorem dX0_cameBefore_8 : decode cX0_cameBefore 8 = .ok (.iload_n 3, 1) := by decide +kernel
theorem dX0_cameBefore_9 : decode cX0_cameBefore 9 = .ok (.iload_n 1, 1) := by decide +kernel
theorem dX0_cameBefore_10 : decode cX0_cameBefore 10 = .ok (.invokevirtual 49, 3) := by decide +kernel
theorem dX0_cameBefore_13 : decode cX0_cameBefore 13 = .ok (.iload_n 2, 1) := by decide +kernel
theorem dX0_cameBefore_14 : decode cX0_cameBefore 14 = .ok (.if_icmp .lt 5, 3) := by decide +kernel
theorem dX0_cameBefore_17 : decode cX0_cameBefore 17 = .ok (.iconst 1, 1) := by decide +kernel
theorem dX0_cameBefore_18 : decode cX0_cameBefore 18 = .ok (.ireturn, 1) := by decide +kernel
theorem dX0_cameBefore_19 : decode cX0_cameBefore 19 = .ok (.iinc 3 1, 3) := by decide +kernel
theorem dX0_cameBefore_22 : decode cX0_cameBefore 22 = .ok (.goto (-20), 3) := by decide +kernel
theorem dX0_cameBefore_25 : decode cX0_cameBefore 25 = .ok (.iconst 0, 1) := by decide +kernel
theorem dX0_cameBefore_26 : decode cX0_cameBefore 26 = .ok (.ireturn, 1) := by decide +kernel
theorem dX0_sameRun_0 : decode cX0_sameRun 0 = .ok (.iconst 0, 1) := by decide +kernel
theorem dX0_sameRun_1 : decode cX0_sameRun 1 = .ok (.istore_n 3, 1) := by decide +kernel
theorem dX0_sameRun_2 : decode cX0_sameRun 2 = .ok (.iload_n 2, 1) := by decide +kernel
theorem dX0_sameRun_3 : decode cX0_sameRun 3 = .ok (.iload_n 3, 1) := by decide +kernel
theorem dX0_sameRun_4 : decode cX0_sameRun 4 = .ok (.iadd, 1) := by decide +kernel
theorem dX0_sameRun_5 : decode cX0_sameRun 5 = .ok (.aload_n 0, 1) := by decide +kernel
theorem dX0_sameRun_6 : decode cX0_sameRun 6 = .ok (.getfield 40, 3) := by decide +kernel
theorem dX0_sameRun_9 : decode cX0_sameRun 9 = .ok (.if_icmp .ge 28, 3) := by decide +kernel
theorem dX0_sameRun_12 : decode cX0_sameRun 12 = .ok (.aload_n 0, 1) := by decide +kernel
theorem dX0_sameRun_13 : decode cX0_sameRun 13 = .ok (.getfield 9, 3) := by decide +kernel
theorem dX0_sameRun_16 : decode cX0_sameRun 16 = .ok (.iload_n 1, 1) := by decide +kernel
theorem dX0_sameRun_17 : decode cX0_sameRun 17 = .ok (.iload_n 3, 1) := by decide +kernel
theorem dX0_sameRun_18 : decode cX0_sameRun 18 = .ok (.iadd, 1) := by decide +kernel
theorem dX0_sameRun_19 : decode cX0_sameRun 19 = .ok (.iaload, 1) := by decide +kernel
theorem dX0_sameRun_20 : decode cX0_sameRun 20 = .ok (.aload_n 0, 1) := by decide +kernel
theorem dX0_sameRun_21 : decode cX0_sameRun 21 = .ok (.getfield 9, 3) := by decide +kernel
theorem dX0_sameRun_24 : decode cX0_sameRun 24 = .ok (.iload_n 2, 1) := by decide +kernel
theorem dX0_sameRun_25 : decode cX0_sameRun 25 = .ok (.iload_n 3, 1) := by decide +kernel
theorem dX0_sameRun_26 : decode cX0_sameRun 26 = .ok (.iadd, 1) := by decide +kernel
theorem dX0_sameRun_27 : decode cX0_sameRun 27 = .ok (.iaload, 1) := by decide +kernel
theorem dX0_sameRun_28 : decode cX0_sameRun 28 = .ok (.if_icmp .ne 9, 3) := by decide +kernel
theorem dX0_sameRun_31 : decode cX0_sameRun 31 = .ok (.iinc 3 1, 3) := by decide +kernel
theorem dX0_sameRun_34 : decode cX0_sameRun 34 = .ok (.goto (-32), 3) := by decide +kernel
theorem dX0_sameRun_37 : decode cX0_sameRun 37 = .ok (.iload_n 3, 1) := by decide +kernel
theorem dX0_sameRun_38 : decode cX0_sameRun 38 = .ok (.ireturn, 1) := by decide +kernel
theorem dX0_repeatLength_0 : decode cX0_repeatLength 0 = .ok (.iload_n 1, 1) := by decide +kernel
theorem dX0_repeatLength_1 : decode cX0_repeatLength 1 = .ok (.ifCond .le 26, 3) := by decide +kernel
theorem dX0_repeatLength_4 : decode cX0_repeatLength 4 = .ok (.aload_n 0, 1) := by decide +kernel
theorem dX0_repeatLength_5 : decode cX0_repeatLength 5 = .ok (.getfield 9, 3) := by decide +kernel
theorem dX0_repeatLength_8 : decode cX0_repeatLength 8 = .ok (.iload_n 1, 1) := by decide +kernel
theorem dX0_repeatLength_9 : decode cX0_repeatLength 9 = .ok (.iconst 1, 1) := by decide +kernel
theorem dX0_repeatLength_10 : decode cX0_repeatLength 10 = .ok (.isub, 1) := by decide +kernel
theorem dX0_repeatLength_11 : decode cX0_repeatLength 11 = .ok (.iaload, 1) := by decide +kernel
theorem dX0_repeatLength_12 : decode cX0_repeatLength 12 = .ok (.aload_n 0, 1) := by decide +kernel
theorem dX0_repeatLength_13 : decode cX0_repeatLength 13 = .ok (.getfield 9, 3) := by decide +kernel
theorem dX0_repeatLength_16 : decode cX0_repeatLength 16 = .ok (.iload_n 2, 1) := by decide +kernel
theorem dX0_repeatLength_17 : decode cX0_repeatLength 17 = .ok (.iconst 1, 1) := by decide +kernel
theorem dX0_repeatLength_18 : decode cX0_repeatLength 18 = .ok (.isub, 1) := by decide +kernel
theorem dX0_repeatLength_19 : decode cX0_repeatLength 19 = .ok (.iaload, 1) := by decide +kernel
theorem dX0_repeatLength_20 : decode cX0_repeatLength 20 = .ok (.if_icmp .ne 7, 3) := by decide +kernel
theorem dX0_repeatLength_23 : decode cX0_repeatLength 23 = .ok (.iconst 1, 1) := by decide +kernel
theorem dX0_repeatLength_24 : decode cX0_repeatLength 24 = .ok (.goto 4, 3) := by decide +kernel
theorem dX0_repeatLength_27 : decode cX0_repeatLength 27 = .ok (.iconst 0, 1) := by decide +kernel
theorem dX0_repeatLength_28 : decode cX0_repeatLength 28 = .ok (.istore_n 3, 1) := by decide +kernel
theorem dX0_repeatLength_29 : decode cX0_repeatLength 29 = .ok (.iload_n 3, 1) := by decide +kernel
theorem dX0_repeatLength_30 : decode cX0_repeatLength 30 = .ok (.ifCond .eq 7, 3) := by decide +kernel
theorem dX0_repeatLength_33 : decode cX0_repeatLength 33 = .ok (.iconst 0, 1) := by decide +kernel
theorem dX0_repeatLength_34 : decode cX0_repeatLength 34 = .ok (.goto 9, 3) := by decide +kernel
theorem dX0_repeatLength_37 : decode cX0_repeatLength 37 = .ok (.aload_n 0, 1) := by decide +kernel
theorem dX0_repeatLength_38 : decode cX0_repeatLength 38 = .ok (.iload_n 1, 1) := by decide +kernel
theorem dX0_repeatLength_39 : decode cX0_repeatLength 39 = .ok (.iload_n 2, 1) := by decide +kernel
theorem dX0_repeatLength_40 : decode cX0_repeatLength 40 = .ok (.invokevirtual 49, 3) := by decide +kernel
theorem dX0_repeatLength_43 : decode cX0_repeatLength 43 = .ok (.ireturn, 1) := by decide +kernel
theorem dX0_leastPeriod_0 : decode cX0_leastPeriod 0 = .ok (.iconst 1, 1) := by decide +kernel
theorem dX0_leastPeriod_1 : decode cX0_leastPeriod 1 = .ok (.istore_n 1, 1) := by decide +kernel
theorem dX0_leastPeriod_2 : decode cX0_leastPeriod 2 = .ok (.iload_n 1, 1) := by decide +kernel
theorem dX0_leastPeriod_3 : decode cX0_leastPeriod 3 = .ok (.aload_n 0, 1) := by decide +kernel
theorem dX0_leastPeriod_4 : decode cX0_leastPeriod 4 = .ok (.getfield 40, 3) := by decide +kernel
theorem dX0_leastPeriod_7 : decode cX0_leastPeriod 7 = .ok (.if_icmp .ge 26, 3) := by decide +kernel
theorem dX0_leastPeriod_10 : decode cX0_leastPeriod 10 = .ok (.aload_n 0, 1) := by decide +kernel
theorem dX0_leastPeriod_11 : decode cX0_leastPeriod 11 = .ok (.iconst 0, 1) := by decide +kernel
theorem dX0_leastPeriod_12 : decode cX0_leastPeriod 12 = .ok (.iload_n 1, 1) := by decide +kernel
theorem dX0_leastPeriod_13 : decode cX0_leastPeriod 13 = .ok (.invokevirtual 49, 3) := by decide +kernel
theorem dX0_leastPeriod_16 : decode cX0_leastPeriod 16 = .ok (.aload_n 0, 1) := by decide +kernel
theorem dX0_leastPeriod_17 : decode cX0_leastPeriod 17 = .ok (.getfield 40, 3) := by decide +kernel
theorem dX0_leastPeriod_20 : decode cX0_leastPeriod 20 = .ok (.iload_n 1, 1) := by decide +kernel
theorem dX0_leastPeriod_21 : decode cX0_leastPeriod 21 = .ok (.isub, 1) := by decide +kernel
theorem dX0_leastPeriod_22 : decode cX0_leastPeriod 22 = .ok (.if_icmp .ne 5, 3) := by decide +kernel
theorem dX0_leastPeriod_25 : decode cX0_leastPeriod 25 = .ok (.iload_n 1, 1) := by decide +kernel
theorem dX0_leastPeriod_26 : decode cX0_leastPeriod 26 = .ok (.ireturn, 1) := by decide +kernel
theorem dX0_leastPeriod_27 : decode cX0_leastPeriod 27 = .ok (.iinc 1 1, 3) := by decide +kernel
theorem dX0_leastPeriod_30 : decode cX0_leastPeriod 30 = .ok (.goto (-28), 3) := by decide +kernel
theorem dX0_leastPeriod_33 : decode cX0_leastPeriod 33 = .ok (.aload_n 0, 1) := by decide +kernel
theorem dX0_leastPeriod_34 : decode cX0_leastPeriod 34 = .ok (.getfield 40, 3) := by decide +kernel
theorem dX0_leastPeriod_37 : decode cX0_leastPeriod 37 = .ok (.ireturn, 1) := by decide +kernel
theorem dX0_countSame_0 : decode cX0_countSame 0 = .ok (.iconst 0, 1) := by decide +kernel
theorem dX0_countSame_1 : decode cX0_countSame 1 = .ok (.istore 4, 2) := by decide +kernel
theorem dX0_countSame_3 : decode cX0_countSame 3 = .ok (.iconst 0, 1) := by decide +kernel
theorem dX0_countSame_4 : decode cX0_countSame 4 = .ok (.istore 5, 2) := by decide +kernel
theorem dX0_countSame_6 : decode cX0_countSame 6 = .ok (.iload 5, 2) := by decide +kernel
theorem dX0_countSame_8 : decode cX0_countSame 8 = .ok (.iload_n 3, 1) := by decide +kernel
theorem dX0_countSame_9 : decode cX0_countSame 9 = .ok (.if_icmp .ge 33, 3) := by decide +kernel
theorem dX0_countSame_12 : decode cX0_countSame 12 = .ok (.aload_n 0, 1) := by decide +kernel
theorem dX0_countSame_13 : decode cX0_countSame 13 = .ok (.getfield 9, 3) := by decide +kernel
theorem dX0_countSame_16 : decode cX0_countSame 16 = .ok (.iload_n 1, 1) := by decide +kernel
theorem dX0_countSame_17 : decode cX0_countSame 17 = .ok (.iload 5, 2) := by decide +kernel
theorem dX0_countSame_19 : decode cX0_countSame 19 = .ok (.iadd, 1) := by decide +kernel
theorem dX0_countSame_20 : decode cX0_countSame 20 = .ok (.iaload, 1) := by decide +kernel
theorem dX0_countSame_21 : decode cX0_countSame 21 = .ok (.aload_n 0, 1) := by decide +kernel
theorem dX0_countSame_22 : decode cX0_countSame 22 = .ok (.getfield 9, 3) := by decide +kernel
theorem dX0_countSame_25 : decode cX0_countSame 25 = .ok (.iload_n 2, 1) := by decide +kernel
theorem dX0_countSame_26 : decode cX0_countSame 26 = .ok (.iload 5, 2) := by decide +kernel
theorem dX0_countSame_28 : decode cX0_countSame 28 = .ok (.iadd, 1) := by decide +kernel
theorem dX0_countSame_29 : decode cX0_countSame 29 = .ok (.iaload, 1) := by decide +kernel
theorem dX0_countSame_30 : decode cX0_countSame 30 = .ok (.if_icmp .ne 6, 3) := by decide +kernel
theorem dX0_countSame_33 : decode cX0_countSame 33 = .ok (.iinc 4 1, 3) := by decide +kernel
theorem dX0_countSame_36 : decode cX0_countSame 36 = .ok (.iinc 5 1, 3) := by decide +kernel
theorem dX0_countSame_39 : decode cX0_countSame 39 = .ok (.goto (-33), 3) := by decide +kernel
theorem dX0_countSame_42 : decode cX0_countSame 42 = .ok (.iload 4, 2) := by decide +kernel
theorem dX0_countSame_44 : decode cX0_countSame 44 = .ok (.ireturn, 1) := by decide +kernel
theorem dX1_init_0 : decode cX1_init 0 = .ok (.aload_n 0, 1) := by decide +kernel
theorem dX1_init_1 : decode cX1_init 1 = .ok (.invokespecial 3, 3) := by decide +kernel
theorem dX1_init_4 : decode cX1_init 4 = .ok (.aload_n 0, 1) := by decide +kernel
theorem dX1_init_5 : decode cX1_init 5 = .ok (.bipush 60, 2) := by decide +kernel
theorem dX1_init_7 : decode cX1_init 7 = .ok (.newarray .int, 2) := by decide +kernel
theorem dX1_init_9 : decode cX1_init 9 = .ok (.putfield 9, 3) := by decide +kernel
theorem dX1_init_12 : decode cX1_init 12 = .ok (.aload_n 0, 1) := by decide +kernel
theorem dX1_init_13 : decode cX1_init 13 = .ok (.bipush 60, 2) := by decide +kernel
theorem dX1_init_15 : decode cX1_init 15 = .ok (.newarray .int, 2) := by decide +kernel
theorem dX1_init_17 : decode cX1_init 17 = .ok (.putfield 15, 3) := by decide +kernel
theorem dX1_init_20 : decode cX1_init 20 = .ok (.return_, 1) := by decide +kernel
theorem dX1_append_0 : decode cX1_append 0 = .ok (.aload_n 0, 1) := by decide +kernel
theorem dX1_append_1 : decode cX1_append 1 = .ok (.getfield 18, 3) := by decide +kernel
theorem dX1_append_4 : decode cX1_append 4 = .ok (.bipush 60, 2) := by decide +kernel
theorem dX1_append_6 : decode cX1_append 6 = .ok (.if_icmp .ge 33, 3) := by decide +kernel
theorem dX1_append_9 : decode cX1_append 9 = .ok (.aload_n 0, 1) := by decide +kernel
theorem dX1_append_10 : decode cX1_append 10 = .ok (.getfield 9, 3) := by decide +kernel
theorem dX1_append_13 : decode cX1_append 13 = .ok (.aload_n 0, 1) := by decide +kernel
theorem dX1_append_14 : decode cX1_append 14 = .ok (.getfield 18, 3) := by decide +kernel
theorem dX1_append_17 : decode cX1_append 17 = .ok (.iload_n 1, 1) := by decide +kernel
theorem dX1_append_18 : decode cX1_append 18 = .ok (.iastore, 1) := by decide +kernel
theorem dX1_append_19 : decode cX1_append 19 = .ok (.aload_n 0, 1) := by decide +kernel
theorem dX1_append_20 : decode cX1_append 20 = .ok (.getfield 15, 3) := by decide +kernel
theorem dX1_append_23 : decode cX1_append 23 = .ok (.aload_n 0, 1) := by decide +kernel
theorem dX1_append_24 : decode cX1_append 24 = .ok (.getfield 18, 3) := by decide +kernel
theorem dX1_append_27 : decode cX1_append 27 = .ok (.iload_n 2, 1) := by decide +kernel
theorem dX1_append_28 : decode cX1_append 28 = .ok (.iastore, 1) := by decide +kernel
theorem dX1_append_29 : decode cX1_append 29 = .ok (.aload_n 0, 1) := by decide +kernel
theorem dX1_append_30 : decode cX1_append 30 = .ok (.dup, 1) := by decide +kernel
theorem dX1_append_31 : decode cX1_append 31 = .ok (.getfield 18, 3) := by decide +kernel
theorem dX1_append_34 : decode cX1_append 34 = .ok (.iconst 1, 1) := by decide +kernel
theorem dX1_append_35 : decode cX1_append 35 = .ok (.iadd, 1) := by decide +kernel
theorem dX1_append_36 : decode cX1_append 36 = .ok (.putfield 18, 3) := by decide +kernel
theorem dX1_append_39 : decode cX1_append 39 = .ok (.return_, 1) := by decide +kernel
theorem dX1_stepTo_0 : decode cX1_stepTo 0 = .ok (.aload_n 0, 1) := by decide +kernel
theorem dX1_stepTo_1 : decode cX1_stepTo 1 = .ok (.getfield 9, 3) := by decide +kernel
theorem dX1_stepTo_4 : decode cX1_stepTo 4 = .ok (.iload_n 1, 1) := by decide +kernel
theorem dX1_stepTo_5 : decode cX1_stepTo 5 = .ok (.iaload, 1) := by decide +kernel
theorem dX1_stepTo_6 : decode cX1_stepTo 6 = .ok (.aload_n 0, 1) := by decide +kernel
theorem dX1_stepTo_7 : decode cX1_stepTo 7 = .ok (.getfield 9, 3) := by decide +kernel
theorem dX1_stepTo_10 : decode cX1_stepTo 10 = .ok (.iload_n 1, 1) := by decide +kernel
theorem dX1_stepTo_11 : decode cX1_stepTo 11 = .ok (.iconst 1, 1) := by decide +kernel
theorem dX1_stepTo_12 : decode cX1_stepTo 12 = .ok (.isub, 1) := by decide +kernel
theorem dX1_stepTo_13 : decode cX1_stepTo 13 = .ok (.iaload, 1) := by decide +kernel
theorem dX1_stepTo_14 : decode cX1_stepTo 14 = .ok (.isub, 1) := by decide +kernel
theorem dX1_stepTo_15 : decode cX1_stepTo 15 = .ok (.ireturn, 1) := by decide +kernel
theorem dX2_init_0 : decode cX2_init 0 = .ok (.aload_n 0, 1) := by decide +kernel
theorem dX2_init_1 : decode cX2_init 1 = .ok (.invokespecial 3, 3) := by decide +kernel
theorem dX2_init_4 : decode cX2_init 4 = .ok (.aload_n 0, 1) := by decide +kernel
theorem dX2_init_5 : decode cX2_init 5 = .ok (.bipush 60, 2) := by decide +kernel
theorem dX2_init_7 : decode cX2_init 7 = .ok (.newarray .int, 2) := by decide +kernel
theorem dX2_init_9 : decode cX2_init 9 = .ok (.putfield 9, 3) := by decide +kernel
theorem dX2_init_12 : decode cX2_init 12 = .ok (.aload_n 0, 1) := by decide +kernel
theorem dX2_init_13 : decode cX2_init 13 = .ok (.bipush 61, 2) := by decide +kernel
theorem dX2_init_15 : decode cX2_init 15 = .ok (.newarray .int, 2) := by decide +kernel
theorem dX2_init_17 : decode cX2_init 17 = .ok (.putfield 15, 3) := by decide +kernel
theorem dX2_init_20 : decode cX2_init 20 = .ok (.aload_n 0, 1) := by decide +kernel
theorem dX2_init_21 : decode cX2_init 21 = .ok (.bipush 61, 2) := by decide +kernel
theorem dX2_init_23 : decode cX2_init 23 = .ok (.newarray .int, 2) := by decide +kernel
theorem dX2_init_25 : decode cX2_init 25 = .ok (.putfield 18, 3) := by decide +kernel
theorem dX2_init_28 : decode cX2_init 28 = .ok (.aload_n 0, 1) := by decide +kernel
theorem dX2_init_29 : decode cX2_init 29 = .ok (.bipush 61, 2) := by decide +kernel
theorem dX2_init_31 : decode cX2_init 31 = .ok (.newarray .int, 2) := by decide +kernel
theorem dX2_init_33 : decode cX2_init 33 = .ok (.putfield 21, 3) := by decide +kernel
theorem dX2_init_36 : decode cX2_init 36 = .ok (.return_, 1) := by decide +kernel
theorem dX2_part_0 : decode cX2_part 0 = .ok (.aload_n 0, 1) := by decide +kernel
theorem dX2_part_1 : decode cX2_part 1 = .ok (.getfield 15, 3) := by decide +kernel
theorem dX2_part_4 : decode cX2_part 4 = .ok (.aload_n 1, 1) := by decide +kernel
theorem dX2_part_5 : decode cX2_part 5 = .ok (.getfield 24, 3) := by decide +kernel
theorem dX2_part_8 : decode cX2_part 8 = .ok (.iconst 0, 1) := by decide +kernel
theorem dX2_part_9 : decode cX2_part 9 = .ok (.iastore, 1) := by decide +kernel
theorem dX2_part_10 : decode cX2_part 10 = .ok (.aload_n 0, 1) := by decide +kernel
theorem dX2_part_11 : decode cX2_part 11 = .ok (.getfield 18, 3) := by decide +kernel
theorem dX2_part_14 : decode cX2_part 14 = .ok (.aload_n 1, 1) := by decide +kernel
theorem dX2_part_15 : decode cX2_part 15 = .ok (.getfield 24, 3) := by decide +kernel
theorem dX2_part_18 : decode cX2_part 18 = .ok (.iconst 0, 1) := by decide +kernel
theorem dX2_part_19 : decode cX2_part 19 = .ok (.iastore, 1) := by decide +kernel
theorem dX2_part_20 : decode cX2_part 20 = .ok (.aload_n 1, 1) := by decide +kernel
theorem dX2_part_21 : decode cX2_part 21 = .ok (.getfield 24, 3) := by decide +kernel
theorem dX2_part_24 : decode cX2_part 24 = .ok (.iconst 1, 1) := by decide +kernel
theorem dX2_part_25 : decode cX2_part 25 = .ok (.isub, 1) := by decide +kernel
theorem dX2_part_26 : decode cX2_part 26 = .ok (.istore 4, 2) := by decide +kernel
theorem dX2_part_28 : decode cX2_part 28 = .ok (.iload 4, 2) := by decide +kernel
theorem dX2_part_30 : decode cX2_part 30 = .ok (.ifCond .lt 18, 3) := by decide +kernel
theorem dX2_part_33 : decode cX2_part 33 = .ok (.aload_n 0, 1) := by decide +kernel
theorem dX2_part_34 : decode cX2_part 34 = .ok (.aload_n 1, 1) := by decide +kernel
theorem dX2_part_35 : decode cX2_part 35 = .ok (.iload 4, 2) := by decide +kernel
theorem dX2_part_37 : decode cX2_part 37 = .ok (.iload_n 2, 1) := by decide +kernel
theorem dX2_part_38 : decode cX2_part 38 = .ok (.iload_n 3, 1) := by decide +kernel
theorem dX2_part_39 : decode cX2_part 39 = .ok (.invokevirtual 30, 3) := by decide +kernel
theorem dX2_part_42 : decode cX2_part 42 = .ok (.iinc 4 (-1), 3) := by decide +kernel
theorem dX2_part_45 : decode cX2_part 45 = .ok (.goto (-17), 3) := by decide +kernel
theorem dX2_part_48 : decode cX2_part 48 = .ok (.aload_n 0, 1) := by decide +kernel
theorem dX2_part_49 : decode cX2_part 49 = .ok (.aload_n 0, 1) := by decide +kernel
theorem dX2_part_50 : decode cX2_part 50 = .ok (.getfield 15, 3) := by decide +kernel
theorem dX2_part_53 : decode cX2_part 53 = .ok (.iconst 0, 1) := by decide +kernel
theorem dX2_part_54 : decode cX2_part 54 = .ok (.iaload, 1) := by decide +kernel
theorem dX2_part_55 : decode cX2_part 55 = .ok (.putfield 34, 3) := by decide +kernel
theorem dX2_part_58 : decode cX2_part 58 = .ok (.aload_n 0, 1) := by decide +kernel
theorem dX2_part_59 : decode cX2_part 59 = .ok (.aload_n 0, 1) := by decide +kernel
theorem dX2_part_60 : decode cX2_part 60 = .ok (.getfield 18, 3) := by decide +kernel
theorem dX2_part_63 : decode cX2_part 63 = .ok (.iconst 0, 1) := by decide +kernel
theorem dX2_part_64 : decode cX2_part 64 = .ok (.iaload, 1) := by decide +kernel
theorem dX2_part_65 : decode cX2_part 65 = .ok (.putfield 37, 3) := by decide +kernel
theorem dX2_part_68 : decode cX2_part 68 = .ok (.iconst 0, 1) := by decide +kernel
theorem dX2_part_69 : decode cX2_part 69 = .ok (.istore 4, 2) := by decide +kernel
theorem dX2_part_71 : decode cX2_part 71 = .ok (.iconst 0, 1) := by decide +kernel
theorem dX2_part_72 : decode cX2_part 72 = .ok (.istore 5, 2) := by decide +kernel
theorem dX2_part_74 : decode cX2_part 74 = .ok (.iload 5, 2) := by decide +kernel
theorem dX2_part_76 : decode cX2_part 76 = .ok (.aload_n 0, 1) := by decide +kernel
theorem dX2_part_77 : decode cX2_part 77 = .ok (.getfield 37, 3) := by decide +kernel
theorem dX2_part_80 : decode cX2_part 80 = .ok (.if_icmp .ge 27, 3) := by decide +kernel
theorem dX2_part_83 : decode cX2_part 83 = .ok (.aload_n 0, 1) := by decide +kernel
theorem dX2_part_84 : decode cX2_part 84 = .ok (.getfield 9, 3) := by decide +kernel
theorem dX2_part_87 : decode cX2_part 87 = .ok (.iload 5, 2) := by decide +kernel
theorem dX2_part_89 : decode cX2_part 89 = .ok (.iload 4, 2) := by decide +kernel
theorem dX2_part_91 : decode cX2_part 91 = .ok (.iastore, 1) := by decide +kernel
theorem dX2_part_92 : decode cX2_part 92 = .ok (.aload_n 0, 1) := by decide +kernel
theorem dX2_part_93 : decode cX2_part 93 = .ok (.getfield 21, 3) := by decide +kernel
theorem dX2_part_96 : decode cX2_part 96 = .ok (.iload 4, 2) := by decide +kernel
theorem dX2_part_98 : decode cX2_part 98 = .ok (.iaload, 1) := by decide +kernel
theorem dX2_part_99 : decode cX2_part 99 = .ok (.istore 4, 2) := by decide +kernel
theorem dX2_part_101 : decode cX2_part 101 = .ok (.iinc 5 1, 3) := by decide +kernel
theorem dX2_part_104 : decode cX2_part 104 = .ok (.goto (-30), 3) := by decide +kernel
theorem dX2_part_107 : decode cX2_part 107 = .ok (.return_, 1) := by decide +kernel
theorem dX2_weighFrom_0 : decode cX2_weighFrom 0 = .ok (.aload_n 1, 1) := by decide +kernel
theorem dX2_weighFrom_1 : decode cX2_weighFrom 1 = .ok (.getfield 38, 3) := by decide +kernel
theorem dX2_weighFrom_4 : decode cX2_weighFrom 4 = .ok (.iload_n 2, 1) := by decide +kernel
theorem dX2_weighFrom_5 : decode cX2_weighFrom 5 = .ok (.iaload, 1) := by decide +kernel
theorem dX2_weighFrom_6 : decode cX2_weighFrom 6 = .ok (.istore 5, 2) := by decide +kernel
theorem dX2_weighFrom_8 : decode cX2_weighFrom 8 = .ok (.iload 5, 2) := by decide +kernel
theorem dX2_weighFrom_10 : decode cX2_weighFrom 10 = .ok (.istore 6, 2) := by decide +kernel
theorem dX2_weighFrom_12 : decode cX2_weighFrom 12 = .ok (.iload_n 2, 1) := by decide +kernel
theorem dX2_weighFrom_13 : decode cX2_weighFrom 13 = .ok (.iconst 1, 1) := by decide +kernel
theorem dX2_weighFrom_14 : decode cX2_weighFrom 14 = .ok (.iadd, 1) := by decide +kernel
theorem dX2_weighFrom_15 : decode cX2_weighFrom 15 = .ok (.istore 7, 2) := by decide +kernel
theorem dX2_weighFrom_17 : decode cX2_weighFrom 17 = .ok (.iload 7, 2) := by decide +kernel
theorem dX2_weighFrom_19 : decode cX2_weighFrom 19 = .ok (.aload_n 1, 1) := by decide +kernel
theorem dX2_weighFrom_20 : decode cX2_weighFrom 20 = .ok (.getfield 24, 3) := by decide +kernel
theorem dX2_weighFrom_23 : decode cX2_weighFrom 23 = .ok (.if_icmp .gt 116, 3) := by decide +kernel
theorem dX2_weighFrom_26 : decode cX2_weighFrom 26 = .ok (.iload 5, 2) := by decide +kernel
theorem dX2_weighFrom_28 : decode cX2_weighFrom 28 = .ok (.aload_n 1, 1) := by decide +kernel
theorem dX2_weighFrom_29 : decode cX2_weighFrom 29 = .ok (.getfield 38, 3) := by decide +kernel
theorem dX2_weighFrom_32 : decode cX2_weighFrom 32 = .ok (.iload 7, 2) := by decide +kernel
theorem dX2_weighFrom_34 : decode cX2_weighFrom 34 = .ok (.iconst 1, 1) := by decide +kernel
theorem dX2_weighFrom_35 : decode cX2_weighFrom 35 = .ok (.isub, 1) := by decide +kernel
theorem dX2_weighFrom_36 : decode cX2_weighFrom 36 = .ok (.iaload, 1) := by decide +kernel
theorem dX2_weighFrom_37 : decode cX2_weighFrom 37 = .ok (.invokestatic 41, 3) := by decide +kernel
theorem dX2_weighFrom_40 : decode cX2_weighFrom 40 = .ok (.istore 5, 2) := by decide +kernel
theorem dX2_weighFrom_42 : decode cX2_weighFrom 42 = .ok (.iload 6, 2) := by decide +kernel
theorem dX2_weighFrom_44 : decode cX2_weighFrom 44 = .ok (.aload_n 1, 1) := by decide +kernel
theorem dX2_weighFrom_45 : decode cX2_weighFrom 45 = .ok (.getfield 38, 3) := by decide +kernel
theorem dX2_weighFrom_48 : decode cX2_weighFrom 48 = .ok (.iload 7, 2) := by decide +kernel
theorem dX2_weighFrom_50 : decode cX2_weighFrom 50 = .ok (.iconst 1, 1) := by decide +kernel
theorem dX2_weighFrom_51 : decode cX2_weighFrom 51 = .ok (.isub, 1) := by decide +kernel
theorem dX2_weighFrom_52 : decode cX2_weighFrom 52 = .ok (.iaload, 1) := by decide +kernel
theorem dX2_weighFrom_53 : decode cX2_weighFrom 53 = .ok (.invokestatic 47, 3) := by decide +kernel
theorem dX2_weighFrom_56 : decode cX2_weighFrom 56 = .ok (.istore 6, 2) := by decide +kernel
theorem dX2_weighFrom_58 : decode cX2_weighFrom 58 = .ok (.iload_n 3, 1) := by decide +kernel
theorem dX2_weighFrom_59 : decode cX2_weighFrom 59 = .ok (.iload 4, 2) := by decide +kernel
theorem dX2_weighFrom_61 : decode cX2_weighFrom 61 = .ok (.iload 5, 2) := by decide +kernel
theorem dX2_weighFrom_63 : decode cX2_weighFrom 63 = .ok (.iload 6, 2) := by decide +kernel
theorem dX2_weighFrom_65 : decode cX2_weighFrom 65 = .ok (.isub, 1) := by decide +kernel
theorem dX2_weighFrom_66 : decode cX2_weighFrom 66 = .ok (.imul, 1) := by decide +kernel
theorem dX2_weighFrom_67 : decode cX2_weighFrom 67 = .ok (.iadd, 1) := by decide +kernel
theorem dX2_weighFrom_68 : decode cX2_weighFrom 68 = .ok (.aload_n 0, 1) := by decide +kernel
theorem dX2_weighFrom_69 : decode cX2_weighFrom 69 = .ok (.getfield 15, 3) := by decide +kernel
theorem dX2_weighFrom_72 : decode cX2_weighFrom 72 = .ok (.iload 7, 2) := by decide +kernel
theorem dX2_weighFrom_74 : decode cX2_weighFrom 74 = .ok (.iaload, 1) := by decide +kernel
theorem dX2_weighFrom_75 : decode cX2_weighFrom 75 = .ok (.iadd, 1) := by decide +kernel
theorem dX2_weighFrom_76 : decode cX2_weighFrom 76 = .ok (.istore 8, 2) := by decide +kernel
theorem dX2_weighFrom_78 : decode cX2_weighFrom 78 = .ok (.iconst 1, 1) := by decide +kernel
theorem dX2_weighFrom_79 : decode cX2_weighFrom 79 = .ok (.aload_n 0, 1) := by decide +kernel
theorem dX2_weighFrom_80 : decode cX2_weighFrom 80 = .ok (.getfield 18, 3) := by decide +kernel
theorem dX2_weighFrom_83 : decode cX2_weighFrom 83 = .ok (.iload 7, 2) := by decide +kernel
theorem dX2_weighFrom_85 : decode cX2_weighFrom 85 = .ok (.iaload, 1) := by decide +kernel
theorem dX2_weighFrom_86 : decode cX2_weighFrom 86 = .ok (.iadd, 1) := by decide +kernel
theorem dX2_weighFrom_87 : decode cX2_weighFrom 87 = .ok (.istore 9, 2) := by decide +kernel
theorem dX2_weighFrom_89 : decode cX2_weighFrom 89 = .ok (.iload 7, 2) := by decide +kernel
theorem dX2_weighFrom_91 : decode cX2_weighFrom 91 = .ok (.iload_n 2, 1) := by decide +kernel
theorem dX2_weighFrom_92 : decode cX2_weighFrom 92 = .ok (.iconst 1, 1) := by decide +kernel
theorem dX2_weighFrom_93 : decode cX2_weighFrom 93 = .ok (.iadd, 1) := by decide +kernel
theorem dX2_weighFrom_94 : decode cX2_weighFrom 94 = .ok (.if_icmp .eq 15, 3) := by decide +kernel
theorem dX2_weighFrom_97 : decode cX2_weighFrom 97 = .ok (.aload_n 0, 1) := by decide +kernel
theorem dX2_weighFrom_98 : decode cX2_weighFrom 98 = .ok (.iload_n 2, 1) := by decide +kernel
theorem dX2_weighFrom_99 : decode cX2_weighFrom 99 = .ok (.iload 8, 2) := by decide +kernel
theorem dX2_weighFrom_101 : decode cX2_weighFrom 101 = .ok (.iload 9, 2) := by decide +kernel
theorem dX2_weighFrom_103 : decode cX2_weighFrom 103 = .ok (.invokevirtual 50, 3) := by decide +kernel
theorem dX2_weighFrom_106 : decode cX2_weighFrom 106 = .ok (.ifCond .eq 27, 3) := by decide +kernel
theorem dX2_weighFrom_109 : decode cX2_weighFrom 109 = .ok (.aload_n 0, 1) := by decide +kernel
theorem dX2_weighFrom_110 : decode cX2_weighFrom 110 = .ok (.getfield 15, 3) := by decide +kernel
theorem dX2_weighFrom_113 : decode cX2_weighFrom 113 = .ok (.iload_n 2, 1) := by decide +kernel
theorem dX2_weighFrom_114 : decode cX2_weighFrom 114 = .ok (.iload 8, 2) := by decide +kernel
theorem dX2_weighFrom_116 : decode cX2_weighFrom 116 = .ok (.iastore, 1) := by decide +kernel
theorem dX2_weighFrom_117 : decode cX2_weighFrom 117 = .ok (.aload_n 0, 1) := by decide +kernel
theorem dX2_weighFrom_118 : decode cX2_weighFrom 118 = .ok (.getfield 18, 3) := by decide +kernel
theorem dX2_weighFrom_121 : decode cX2_weighFrom 121 = .ok (.iload_n 2, 1) := by decide +kernel
theorem dX2_weighFrom_122 : decode cX2_weighFrom 122 = .ok (.iload 9, 2) := by decide +kernel
theorem dX2_weighFrom_124 : decode cX2_weighFrom 124 = .ok (.iastore, 1) := by decide +kernel
theorem dX2_weighFrom_125 : decode cX2_weighFrom 125 = .ok (.aload_n 0, 1) := by decide +kernel
theorem dX2_weighFrom_126 : decode cX2_weighFrom 126 = .ok (.getfield 21, 3) := by decide +kernel
theorem dX2_weighFrom_129 : decode cX2_weighFrom 129 = .ok (.iload_n 2, 1) := by decide +kernel
theorem dX2_weighFrom_130 : decode cX2_weighFrom 130 = .ok (.iload 7, 2) := by decide +kernel
theorem dX2_weighFrom_132 : decode cX2_weighFrom 132 = .ok (.iastore, 1) := by decide +kernel
theorem dX2_weighFrom_133 : decode cX2_weighFrom 133 = .ok (.iinc 7 1, 3) := by decide +kernel
theorem dX2_weighFrom_136 : decode cX2_weighFrom 136 = .ok (.goto (-119), 3) := by decide +kernel
theorem dX2_weighFrom_139 : decode cX2_weighFrom 139 = .ok (.return_, 1) := by decide +kernel
theorem dX2_isBetter_0 : decode cX2_isBetter 0 = .ok (.iload_n 2, 1) := by decide +kernel
theorem dX2_isBetter_1 : decode cX2_isBetter 1 = .ok (.aload_n 0, 1) := by decide +kernel
theorem dX2_isBetter_2 : decode cX2_isBetter 2 = .ok (.getfield 15, 3) := by decide +kernel
theorem dX2_isBetter_5 : decode cX2_isBetter 5 = .ok (.iload_n 1, 1) := by decide +kernel
theorem dX2_isBetter_6 : decode cX2_isBetter 6 = .ok (.iaload, 1) := by decide +kernel
theorem dX2_isBetter_7 : decode cX2_isBetter 7 = .ok (.if_icmp .lt 23, 3) := by decide +kernel
theorem dX2_isBetter_10 : decode cX2_isBetter 10 = .ok (.iload_n 2, 1) := by decide +kernel
theorem dX2_isBetter_11 : decode cX2_isBetter 11 = .ok (.aload_n 0, 1) := by decide +kernel
theorem dX2_isBetter_12 : decode cX2_isBetter 12 = .ok (.getfield 15, 3) := by decide +kernel
theorem dX2_isBetter_15 : decode cX2_isBetter 15 = .ok (.iload_n 1, 1) := by decide +kernel
theorem dX2_isBetter_16 : decode cX2_isBetter 16 = .ok (.iaload, 1) := by decide +kernel
theorem dX2_isBetter_17 : decode cX2_isBetter 17 = .ok (.if_icmp .ne 17, 3) := by decide +kernel
theorem dX2_isBetter_20 : decode cX2_isBetter 20 = .ok (.iload_n 3, 1) := by decide +kernel
theorem dX2_isBetter_21 : decode cX2_isBetter 21 = .ok (.aload_n 0, 1) := by decide +kernel
theorem dX2_isBetter_22 : decode cX2_isBetter 22 = .ok (.getfield 18, 3) := by decide +kernel
theorem dX2_isBetter_25 : decode cX2_isBetter 25 = .ok (.iload_n 1, 1) := by decide +kernel
theorem dX2_isBetter_26 : decode cX2_isBetter 26 = .ok (.iaload, 1) := by decide +kernel
theorem dX2_isBetter_27 : decode cX2_isBetter 27 = .ok (.if_icmp .ge 7, 3) := by decide +kernel
theorem dX2_isBetter_30 : decode cX2_isBetter 30 = .ok (.iconst 1, 1) := by decide +kernel
theorem dX2_isBetter_31 : decode cX2_isBetter 31 = .ok (.goto 4, 3) := by decide +kernel
theorem dX2_isBetter_34 : decode cX2_isBetter 34 = .ok (.iconst 0, 1) := by decide +kernel
theorem dX2_isBetter_35 : decode cX2_isBetter 35 = .ok (.ireturn, 1) := by decide +kernel
theorem dX3_init_0 : decode cX3_init 0 = .ok (.aload_n 0, 1) := by decide +kernel
theorem dX3_init_1 : decode cX3_init 1 = .ok (.invokespecial 3, 3) := by decide +kernel
theorem dX3_init_4 : decode cX3_init 4 = .ok (.aload_n 0, 1) := by decide +kernel
theorem dX3_init_5 : decode cX3_init 5 = .ok (.bipush 60, 2) := by decide +kernel
theorem dX3_init_7 : decode cX3_init 7 = .ok (.newarray .int, 2) := by decide +kernel
theorem dX3_init_9 : decode cX3_init 9 = .ok (.putfield 9, 3) := by decide +kernel
theorem dX3_init_12 : decode cX3_init 12 = .ok (.return_, 1) := by decide +kernel
theorem dX3_append_0 : decode cX3_append 0 = .ok (.aload_n 0, 1) := by decide +kernel
theorem dX3_append_1 : decode cX3_append 1 = .ok (.getfield 15, 3) := by decide +kernel
theorem dX3_append_4 : decode cX3_append 4 = .ok (.bipush 60, 2) := by decide +kernel
theorem dX3_append_6 : decode cX3_append 6 = .ok (.if_icmp .ge 23, 3) := by decide +kernel
theorem dX3_append_9 : decode cX3_append 9 = .ok (.aload_n 0, 1) := by decide +kernel
theorem dX3_append_10 : decode cX3_append 10 = .ok (.getfield 9, 3) := by decide +kernel
theorem dX3_append_13 : decode cX3_append 13 = .ok (.aload_n 0, 1) := by decide +kernel
theorem dX3_append_14 : decode cX3_append 14 = .ok (.getfield 15, 3) := by decide +kernel
theorem dX3_append_17 : decode cX3_append 17 = .ok (.iload_n 1, 1) := by decide +kernel
theorem dX3_append_18 : decode cX3_append 18 = .ok (.iastore, 1) := by decide +kernel
theorem dX3_append_19 : decode cX3_append 19 = .ok (.aload_n 0, 1) := by decide +kernel
theorem dX3_append_20 : decode cX3_append 20 = .ok (.dup, 1) := by decide +kernel
theorem dX3_append_21 : decode cX3_append 21 = .ok (.getfield 15, 3) := by decide +kernel
theorem dX3_append_24 : decode cX3_append 24 = .ok (.iconst 1, 1) := by decide +kernel
theorem dX3_append_25 : decode cX3_append 25 = .ok (.iadd, 1) := by decide +kernel
theorem dX3_append_26 : decode cX3_append 26 = .ok (.putfield 15, 3) := by decide +kernel
theorem dX3_append_29 : decode cX3_append 29 = .ok (.return_, 1) := by decide +kernel
theorem dX4_init_0 : decode cX4_init 0 = .ok (.aload_n 0, 1) := by decide +kernel
theorem dX4_init_1 : decode cX4_init 1 = .ok (.invokespecial 3, 3) := by decide +kernel
theorem dX4_init_4 : decode cX4_init 4 = .ok (.aload_n 0, 1) := by decide +kernel
theorem dX4_init_5 : decode cX4_init 5 = .ok (.sipush 2700, 3) := by decide +kernel
theorem dX4_init_8 : decode cX4_init 8 = .ok (.newarray .int, 2) := by decide +kernel
theorem dX4_init_10 : decode cX4_init 10 = .ok (.putfield 11, 3) := by decide +kernel
theorem dX4_init_13 : decode cX4_init 13 = .ok (.aload_n 0, 1) := by decide +kernel
theorem dX4_init_14 : decode cX4_init 14 = .ok (.bipush 60, 2) := by decide +kernel
theorem dX4_init_16 : decode cX4_init 16 = .ok (.newarray .int, 2) := by decide +kernel
theorem dX4_init_18 : decode cX4_init 18 = .ok (.putfield 15, 3) := by decide +kernel
theorem dX4_init_21 : decode cX4_init 21 = .ok (.return_, 1) := by decide +kernel
theorem dX4_partOf_0 : decode cX4_partOf 0 = .ok (.aload_n 0, 1) := by decide +kernel
theorem dX4_partOf_1 : decode cX4_partOf 1 = .ok (.getfield 11, 3) := by decide +kernel
theorem dX4_partOf_4 : decode cX4_partOf 4 = .ok (.iconst 3, 1) := by decide +kernel
theorem dX4_partOf_5 : decode cX4_partOf 5 = .ok (.iload_n 1, 1) := by decide +kernel
theorem dX4_partOf_6 : decode cX4_partOf 6 = .ok (.imul, 1) := by decide +kernel
theorem dX4_partOf_7 : decode cX4_partOf 7 = .ok (.iload_n 2, 1) := by decide +kernel
theorem dX4_partOf_8 : decode cX4_partOf 8 = .ok (.iadd, 1) := by decide +kernel
theorem dX4_partOf_9 : decode cX4_partOf 9 = .ok (.iaload, 1) := by decide +kernel
theorem dX4_partOf_10 : decode cX4_partOf 10 = .ok (.ireturn, 1) := by decide +kernel
theorem dX4_gather_0 : decode cX4_gather 0 = .ok (.aload_n 0, 1) := by decide +kernel
theorem dX4_gather_1 : decode cX4_gather 1 = .ok (.aload_n 1, 1) := by decide +kernel
theorem dX4_gather_2 : decode cX4_gather 2 = .ok (.iload_n 2, 1) := by decide +kernel
theorem dX4_gather_3 : decode cX4_gather 3 = .ok (.invokevirtual 18, 3) := by decide +kernel
theorem dX4_gather_6 : decode cX4_gather 6 = .ok (.aload_n 0, 1) := by decide +kernel
theorem dX4_gather_7 : decode cX4_gather 7 = .ok (.invokevirtual 22, 3) := by decide +kernel
theorem dX4_gather_10 : decode cX4_gather 10 = .ok (.aload_n 0, 1) := by decide +kernel
theorem dX4_gather_11 : decode cX4_gather 11 = .ok (.aload_n 1, 1) := by decide +kernel
theorem dX4_gather_12 : decode cX4_gather 12 = .ok (.iload_n 2, 1) := by decide +kernel
theorem dX4_gather_13 : decode cX4_gather 13 = .ok (.invokevirtual 25, 3) := by decide +kernel
theorem dX4_gather_16 : decode cX4_gather 16 = .ok (.return_, 1) := by decide +kernel
theorem dX4_countByLength_0 : decode cX4_countByLength 0 = .ok (.iconst 0, 1) := by decide +kernel
theorem dX4_countByLength_1 : decode cX4_countByLength 1 = .ok (.istore_n 3, 1) := by decide +kernel
theorem dX4_countByLength_2 : decode cX4_countByLength 2 = .ok (.iload_n 3, 1) := by decide +kernel
theorem dX4_countByLength_3 : decode cX4_countByLength 3 = .ok (.bipush 60, 2) := by decide +kernel
theorem dX4_countByLength_5 : decode cX4_countByLength 5 = .ok (.if_icmp .ge 16, 3) := by decide +kernel
theorem dX4_countByLength_8 : decode cX4_countByLength 8 = .ok (.aload_n 0, 1) := by decide +kernel
theorem dX4_countByLength_9 : decode cX4_countByLength 9 = .ok (.getfield 15, 3) := by decide +kernel
theorem dX4_countByLength_12 : decode cX4_countByLength 12 = .ok (.iload_n 3, 1) := by decide +kernel
theorem dX4_countByLength_13 : decode cX4_countByLength 13 = .ok (.iconst 0, 1) := by decide +kernel
theorem dX4_countByLength_14 : decode cX4_countByLength 14 = .ok (.iastore, 1) := by decide +kernel
theorem dX4_countByLength_15 : decode cX4_countByLength 15 = .ok (.iinc 3 1, 3) := by decide +kernel
theorem dX4_countByLength_18 : decode cX4_countByLength 18 = .ok (.goto (-16), 3) := by decide +kernel
theorem dX4_countByLength_21 : decode cX4_countByLength 21 = .ok (.iconst 0, 1) := by decide +kernel
theorem dX4_countByLength_22 : decode cX4_countByLength 22 = .ok (.istore_n 3, 1) := by decide +kernel
theorem dX4_countByLength_23 : decode cX4_countByLength 23 = .ok (.iload_n 3, 1) := by decide +kernel
theorem dX4_countByLength_24 : decode cX4_countByLength 24 = .ok (.aload_n 1, 1) := by decide +kernel
theorem dX4_countByLength_25 : decode cX4_countByLength 25 = .ok (.getfield 28, 3) := by decide +kernel
theorem dX4_countByLength_28 : decode cX4_countByLength 28 = .ok (.if_icmp .ge 55, 3) := by decide +kernel
theorem dX4_countByLength_31 : decode cX4_countByLength 31 = .ok (.iload_n 3, 1) := by decide +kernel
theorem dX4_countByLength_32 : decode cX4_countByLength 32 = .ok (.iconst 1, 1) := by decide +kernel
theorem dX4_countByLength_33 : decode cX4_countByLength 33 = .ok (.iadd, 1) := by decide +kernel
theorem dX4_countByLength_34 : decode cX4_countByLength 34 = .ok (.istore 4, 2) := by decide +kernel
theorem dX4_countByLength_36 : decode cX4_countByLength 36 = .ok (.iload 4, 2) := by decide +kernel
theorem dX4_countByLength_38 : decode cX4_countByLength 38 = .ok (.aload_n 1, 1) := by decide +kernel
theorem dX4_countByLength_39 : decode cX4_countByLength 39 = .ok (.getfield 28, 3) := by decide +kernel
theorem dX4_countByLength_42 : decode cX4_countByLength 42 = .ok (.if_icmp .ge 35, 3) := by decide +kernel
theorem dX4_countByLength_45 : decode cX4_countByLength 45 = .ok (.aload_n 1, 1) := by decide +kernel
theorem dX4_countByLength_46 : decode cX4_countByLength 46 = .ok (.iload_n 3, 1) := by decide +kernel
theorem dX4_countByLength_47 : decode cX4_countByLength 47 = .ok (.iload 4, 2) := by decide +kernel
theorem dX4_countByLength_49 : decode cX4_countByLength 49 = .ok (.invokevirtual 34, 3) := by decide +kernel
theorem dX4_countByLength_52 : decode cX4_countByLength 52 = .ok (.istore 5, 2) := by decide +kernel
theorem dX4_countByLength_54 : decode cX4_countByLength 54 = .ok (.iload 5, 2) := by decide +kernel
theorem dX4_countByLength_56 : decode cX4_countByLength 56 = .ok (.iload_n 2, 1) := by decide +kernel
theorem dX4_countByLength_57 : decode cX4_countByLength 57 = .ok (.if_icmp .lt 14, 3) := by decide +kernel
theorem dX4_countByLength_60 : decode cX4_countByLength 60 = .ok (.aload_n 0, 1) := by decide +kernel
theorem dX4_countByLength_61 : decode cX4_countByLength 61 = .ok (.getfield 15, 3) := by decide +kernel
theorem dX4_countByLength_64 : decode cX4_countByLength 64 = .ok (.iload 5, 2) := by decide +kernel
theorem dX4_countByLength_66 : decode cX4_countByLength 66 = .ok (.dup2, 1) := by decide +kernel
theorem dX4_countByLength_67 : decode cX4_countByLength 67 = .ok (.iaload, 1) := by decide +kernel
theorem dX4_countByLength_68 : decode cX4_countByLength 68 = .ok (.iconst 1, 1) := by decide +kernel
theorem dX4_countByLength_69 : decode cX4_countByLength 69 = .ok (.iadd, 1) := by decide +kernel
theorem dX4_countByLength_70 : decode cX4_countByLength 70 = .ok (.iastore, 1) := by decide +kernel
theorem dX4_countByLength_71 : decode cX4_countByLength 71 = .ok (.iinc 4 1, 3) := by decide +kernel
theorem dX4_countByLength_74 : decode cX4_countByLength 74 = .ok (.goto (-38), 3) := by decide +kernel
theorem dX4_countByLength_77 : decode cX4_countByLength 77 = .ok (.iinc 3 1, 3) := by decide +kernel
theorem dX4_countByLength_80 : decode cX4_countByLength 80 = .ok (.goto (-57), 3) := by decide +kernel
theorem dX4_countByLength_83 : decode cX4_countByLength 83 = .ok (.return_, 1) := by decide +kernel
theorem dX4_giveSlotsLongestFirst_0 : decode cX4_giveSlotsLongestFirst 0 = .ok (.aload_n 0, 1) := by decide +kernel
theorem dX4_giveSlotsLongestFirst_1 : decode cX4_giveSlotsLongestFirst 1 = .ok (.iconst 0, 1) := by decide +kernel
theorem dX4_giveSlotsLongestFirst_2 : decode cX4_giveSlotsLongestFirst 2 = .ok (.putfield 38, 3) := by decide +kernel
theorem dX4_giveSlotsLongestFirst_5 : decode cX4_giveSlotsLongestFirst 5 = .ok (.bipush 59, 2) := by decide +kernel
theorem dX4_giveSlotsLongestFirst_7 : decode cX4_giveSlotsLongestFirst 7 = .ok (.istore_n 1, 1) := by decide +kernel
theorem dX4_giveSlotsLongestFirst_8 : decode cX4_giveSlotsLongestFirst 8 = .ok (.iload_n 1, 1) := by decide +kernel
theorem dX4_giveSlotsLongestFirst_9 : decode cX4_giveSlotsLongestFirst 9 = .ok (.ifCond .le 36, 3) := by decide +kernel
theorem dX4_giveSlotsLongestFirst_12 : decode cX4_giveSlotsLongestFirst 12 = .ok (.aload_n 0, 1) := by decide +kernel
theorem dX4_giveSlotsLongestFirst_13 : decode cX4_giveSlotsLongestFirst 13 = .ok (.getfield 15, 3) := by decide +kernel
theorem dX4_giveSlotsLongestFirst_16 : decode cX4_giveSlotsLongestFirst 16 = .ok (.iload_n 1, 1) := by decide +kernel
theorem dX4_giveSlotsLongestFirst_17 : decode cX4_giveSlotsLongestFirst 17 = .ok (.iaload, 1) := by decide +kernel
theorem dX4_giveSlotsLongestFirst_18 : decode cX4_giveSlotsLongestFirst 18 = .ok (.istore_n 2, 1) := by decide +kernel
theorem dX4_giveSlotsLongestFirst_19 : decode cX4_giveSlotsLongestFirst 19 = .ok (.aload_n 0, 1) := by decide +kernel
theorem dX4_giveSlotsLongestFirst_20 : decode cX4_giveSlotsLongestFirst 20 = .ok (.getfield 15, 3) := by decide +kernel
theorem dX4_giveSlotsLongestFirst_23 : decode cX4_giveSlotsLongestFirst 23 = .ok (.iload_n 1, 1) := by decide +kernel
theorem dX4_giveSlotsLongestFirst_24 : decode cX4_giveSlotsLongestFirst 24 = .ok (.aload_n 0, 1) := by decide +kernel
theorem dX4_giveSlotsLongestFirst_25 : decode cX4_giveSlotsLongestFirst 25 = .ok (.getfield 38, 3) := by decide +kernel
theorem dX4_giveSlotsLongestFirst_28 : decode cX4_giveSlotsLongestFirst 28 = .ok (.iastore, 1) := by decide +kernel
theorem dX4_giveSlotsLongestFirst_29 : decode cX4_giveSlotsLongestFirst 29 = .ok (.aload_n 0, 1) := by decide +kernel
theorem dX4_giveSlotsLongestFirst_30 : decode cX4_giveSlotsLongestFirst 30 = .ok (.dup, 1) := by decide +kernel
theorem dX4_giveSlotsLongestFirst_31 : decode cX4_giveSlotsLongestFirst 31 = .ok (.getfield 38, 3) := by decide +kernel
theorem dX4_giveSlotsLongestFirst_34 : decode cX4_giveSlotsLongestFirst 34 = .ok (.iload_n 2, 1) := by decide +kernel
theorem dX4_giveSlotsLongestFirst_35 : decode cX4_giveSlotsLongestFirst 35 = .ok (.iadd, 1) := by decide +kernel
theorem dX4_giveSlotsLongestFirst_36 : decode cX4_giveSlotsLongestFirst 36 = .ok (.putfield 38, 3) := by decide +kernel
theorem dX4_giveSlotsLongestFirst_39 : decode cX4_giveSlotsLongestFirst 39 = .ok (.iinc 1 (-1), 3) := by decide +kernel
theorem dX4_giveSlotsLongestFirst_42 : decode cX4_giveSlotsLongestFirst 42 = .ok (.goto (-34), 3) := by decide +kernel
theorem dX4_giveSlotsLongestFirst_45 : decode cX4_giveSlotsLongestFirst 45 = .ok (.return_, 1) := by decide +kernel
theorem dX4_putInSlots_0 : decode cX4_putInSlots 0 = .ok (.iconst 0, 1) := by decide +kernel
theorem dX4_putInSlots_1 : decode cX4_putInSlots 1 = .ok (.istore_n 3, 1) := by decide +kernel
theorem dX4_putInSlots_2 : decode cX4_putInSlots 2 = .ok (.iload_n 3, 1) := by decide +kernel
theorem dX4_putInSlots_3 : decode cX4_putInSlots 3 = .ok (.aload_n 1, 1) := by decide +kernel
theorem dX4_putInSlots_4 : decode cX4_putInSlots 4 = .ok (.getfield 28, 3) := by decide +kernel
theorem dX4_putInSlots_7 : decode cX4_putInSlots 7 = .ok (.if_icmp .ge 71, 3) := by decide +kernel
theorem dX4_putInSlots_10 : decode cX4_putInSlots 10 = .ok (.iload_n 3, 1) := by decide +kernel
theorem dX4_putInSlots_11 : decode cX4_putInSlots 11 = .ok (.iconst 1, 1) := by decide +kernel
theorem dX4_putInSlots_12 : decode cX4_putInSlots 12 = .ok (.iadd, 1) := by decide +kernel
theorem dX4_putInSlots_13 : decode cX4_putInSlots 13 = .ok (.istore 4, 2) := by decide +kernel
theorem dX4_putInSlots_15 : decode cX4_putInSlots 15 = .ok (.iload 4, 2) := by decide +kernel
theorem dX4_putInSlots_17 : decode cX4_putInSlots 17 = .ok (.aload_n 1, 1) := by decide +kernel
theorem dX4_putInSlots_18 : decode cX4_putInSlots 18 = .ok (.getfield 28, 3) := by decide +kernel
theorem dX4_putInSlots_21 : decode cX4_putInSlots 21 = .ok (.if_icmp .ge 51, 3) := by decide +kernel
theorem dX4_putInSlots_24 : decode cX4_putInSlots 24 = .ok (.aload_n 1, 1) := by decide +kernel
theorem dX4_putInSlots_25 : decode cX4_putInSlots 25 = .ok (.iload_n 3, 1) := by decide +kernel
theorem dX4_putInSlots_26 : decode cX4_putInSlots 26 = .ok (.iload 4, 2) := by decide +kernel
theorem dX4_putInSlots_28 : decode cX4_putInSlots 28 = .ok (.invokevirtual 34, 3) := by decide +kernel
theorem dX4_putInSlots_31 : decode cX4_putInSlots 31 = .ok (.istore 5, 2) := by decide +kernel
theorem dX4_putInSlots_33 : decode cX4_putInSlots 33 = .ok (.iload 5, 2) := by decide +kernel
theorem dX4_putInSlots_35 : decode cX4_putInSlots 35 = .ok (.iload_n 2, 1) := by decide +kernel
theorem dX4_putInSlots_36 : decode cX4_putInSlots 36 = .ok (.if_icmp .lt 30, 3) := by decide +kernel
theorem dX4_putInSlots_39 : decode cX4_putInSlots 39 = .ok (.aload_n 0, 1) := by decide +kernel
theorem dX4_putInSlots_40 : decode cX4_putInSlots 40 = .ok (.aload_n 0, 1) := by decide +kernel
theorem dX4_putInSlots_41 : decode cX4_putInSlots 41 = .ok (.getfield 15, 3) := by decide +kernel
theorem dX4_putInSlots_44 : decode cX4_putInSlots 44 = .ok (.iload 5, 2) := by decide +kernel
theorem dX4_putInSlots_46 : decode cX4_putInSlots 46 = .ok (.iaload, 1) := by decide +kernel
theorem dX4_putInSlots_47 : decode cX4_putInSlots 47 = .ok (.iload_n 3, 1) := by decide +kernel
theorem dX4_putInSlots_48 : decode cX4_putInSlots 48 = .ok (.iload 4, 2) := by decide +kernel
theorem dX4_putInSlots_50 : decode cX4_putInSlots 50 = .ok (.iload 5, 2) := by decide +kernel
theorem dX4_putInSlots_52 : decode cX4_putInSlots 52 = .ok (.invokevirtual 39, 3) := by decide +kernel
theorem dX4_putInSlots_55 : decode cX4_putInSlots 55 = .ok (.aload_n 0, 1) := by decide +kernel
theorem dX4_putInSlots_56 : decode cX4_putInSlots 56 = .ok (.getfield 15, 3) := by decide +kernel
theorem dX4_putInSlots_59 : decode cX4_putInSlots 59 = .ok (.iload 5, 2) := by decide +kernel
theorem dX4_putInSlots_61 : decode cX4_putInSlots 61 = .ok (.dup2, 1) := by decide +kernel
theorem dX4_putInSlots_62 : decode cX4_putInSlots 62 = .ok (.iaload, 1) := by decide +kernel
theorem dX4_putInSlots_63 : decode cX4_putInSlots 63 = .ok (.iconst 1, 1) := by decide +kernel
theorem dX4_putInSlots_64 : decode cX4_putInSlots 64 = .ok (.iadd, 1) := by decide +kernel
theorem dX4_putInSlots_65 : decode cX4_putInSlots 65 = .ok (.iastore, 1) := by decide +kernel
theorem dX4_putInSlots_66 : decode cX4_putInSlots 66 = .ok (.iinc 4 1, 3) := by decide +kernel
theorem dX4_putInSlots_69 : decode cX4_putInSlots 69 = .ok (.goto (-54), 3) := by decide +kernel
theorem dX4_putInSlots_72 : decode cX4_putInSlots 72 = .ok (.iinc 3 1, 3) := by decide +kernel
theorem dX4_putInSlots_75 : decode cX4_putInSlots 75 = .ok (.goto (-73), 3) := by decide +kernel
theorem dX4_putInSlots_78 : decode cX4_putInSlots 78 = .ok (.return_, 1) := by decide +kernel
theorem dX4_put_0 : decode cX4_put 0 = .ok (.iload_n 1, 1) := by decide +kernel
theorem dX4_put_1 : decode cX4_put 1 = .ok (.sipush 900, 3) := by decide +kernel
theorem dX4_put_4 : decode cX4_put 4 = .ok (.if_icmp .ge 35, 3) := by decide +kernel
theorem dX4_put_7 : decode cX4_put 7 = .ok (.aload_n 0, 1) := by decide +kernel
theorem dX4_put_8 : decode cX4_put 8 = .ok (.getfield 11, 3) := by decide +kernel
theorem dX4_put_11 : decode cX4_put 11 = .ok (.iconst 3, 1) := by decide +kernel
theorem dX4_put_12 : decode cX4_put 12 = .ok (.iload_n 1, 1) := by decide +kernel
theorem dX4_put_13 : decode cX4_put 13 = .ok (.imul, 1) := by decide +kernel
theorem dX4_put_14 : decode cX4_put 14 = .ok (.iload_n 2, 1) := by decide +kernel
theorem dX4_put_15 : decode cX4_put 15 = .ok (.iastore, 1) := by decide +kernel
theorem dX4_put_16 : decode cX4_put 16 = .ok (.aload_n 0, 1) := by decide +kernel
theorem dX4_put_17 : decode cX4_put 17 = .ok (.getfield 11, 3) := by decide +kernel
theorem dX4_put_20 : decode cX4_put 20 = .ok (.iconst 3, 1) := by decide +kernel
theorem dX4_put_21 : decode cX4_put 21 = .ok (.iload_n 1, 1) := by decide +kernel
theorem dX4_put_22 : decode cX4_put 22 = .ok (.imul, 1) := by decide +kernel
theorem dX4_put_23 : decode cX4_put 23 = .ok (.iconst 1, 1) := by decide +kernel
theorem dX4_put_24 : decode cX4_put 24 = .ok (.iadd, 1) := by decide +kernel
theorem dX4_put_25 : decode cX4_put 25 = .ok (.iload_n 3, 1) := by decide +kernel
theorem dX4_put_26 : decode cX4_put 26 = .ok (.iastore, 1) := by decide +kernel
theorem dX4_put_27 : decode cX4_put 27 = .ok (.aload_n 0, 1) := by decide +kernel
theorem dX4_put_28 : decode cX4_put 28 = .ok (.getfield 11, 3) := by decide +kernel
theorem dX4_put_31 : decode cX4_put 31 = .ok (.iconst 3, 1) := by decide +kernel
theorem dX4_put_32 : decode cX4_put 32 = .ok (.iload_n 1, 1) := by decide +kernel
theorem dX4_put_33 : decode cX4_put 33 = .ok (.imul, 1) := by decide +kernel
theorem dX4_put_34 : decode cX4_put 34 = .ok (.iconst 2, 1) := by decide +kernel
theorem dX4_put_35 : decode cX4_put 35 = .ok (.iadd, 1) := by decide +kernel
theorem dX4_put_36 : decode cX4_put 36 = .ok (.iload 4, 2) := by decide +kernel
theorem dX4_put_38 : decode cX4_put 38 = .ok (.iastore, 1) := by decide +kernel
theorem dX4_put_39 : decode cX4_put 39 = .ok (.return_, 1) := by decide +kernel
theorem dJ6_signum_0f7a4_0 : decode cJ6_signum_0f7a4 0 = .ok (.iload_n 0, 1) := by decide +kernel
theorem dJ6_signum_0f7a4_1 : decode cJ6_signum_0f7a4 1 = .ok (.bipush 31, 2) := by decide +kernel
theorem dJ6_signum_0f7a4_3 : decode cJ6_signum_0f7a4 3 = .ok (.ishr, 1) := by decide +kernel
theorem dJ6_signum_0f7a4_4 : decode cJ6_signum_0f7a4 4 = .ok (.iload_n 0, 1) := by decide +kernel
theorem dJ6_signum_0f7a4_5 : decode cJ6_signum_0f7a4 5 = .ok (.ineg, 1) := by decide +kernel
theorem dJ6_signum_0f7a4_6 : decode cJ6_signum_0f7a4 6 = .ok (.bipush 31, 2) := by decide +kernel
theorem dJ6_signum_0f7a4_8 : decode cJ6_signum_0f7a4 8 = .ok (.iushr, 1) := by decide +kernel
theorem dJ6_signum_0f7a4_9 : decode cJ6_signum_0f7a4 9 = .ok (.ior, 1) := by decide +kernel
theorem dJ6_signum_0f7a4_10 : decode cJ6_signum_0f7a4 10 = .ok (.ireturn, 1) := by decide +kernel
theorem dJ9_floorMod_7cf53_0 : decode cJ9_floorMod_7cf53 0 = .ok (.iload_n 0, 1) := by decide +kernel
theorem dJ9_floorMod_7cf53_1 : decode cJ9_floorMod_7cf53 1 = .ok (.iload_n 1, 1) := by decide +kernel
theorem dJ9_floorMod_7cf53_2 : decode cJ9_floorMod_7cf53 2 = .ok (.irem, 1) := by decide +kernel
theorem dJ9_floorMod_7cf53_3 : decode cJ9_floorMod_7cf53 3 = .ok (.istore_n 2, 1) := by decide +kernel
theorem dJ9_floorMod_7cf53_4 : decode cJ9_floorMod_7cf53 4 = .ok (.iload_n 0, 1) := by decide +kernel
theorem dJ9_floorMod_7cf53_5 : decode cJ9_floorMod_7cf53 5 = .ok (.iload_n 1, 1) := by decide +kernel
theorem dJ9_floorMod_7cf53_6 : decode cJ9_floorMod_7cf53 6 = .ok (.ixor, 1) := by decide +kernel
theorem dJ9_floorMod_7cf53_7 : decode cJ9_floorMod_7cf53 7 = .ok (.ifCond .ge 11, 3) := by decide +kernel
theorem dJ9_floorMod_7cf53_10 : decode cJ9_floorMod_7cf53 10 = .ok (.iload_n 2, 1) := by decide +kernel
theorem dJ9_floorMod_7cf53_11 : decode cJ9_floorMod_7cf53 11 = .ok (.ifCond .eq 7, 3) := by decide +kernel
theorem dJ9_floorMod_7cf53_14 : decode cJ9_floorMod_7cf53 14 = .ok (.iload_n 2, 1) := by decide +kernel
theorem dJ9_floorMod_7cf53_15 : decode cJ9_floorMod_7cf53 15 = .ok (.iload_n 1, 1) := by decide +kernel
theorem dJ9_floorMod_7cf53_16 : decode cJ9_floorMod_7cf53 16 = .ok (.iadd, 1) := by decide +kernel
theorem dJ9_floorMod_7cf53_17 : decode cJ9_floorMod_7cf53 17 = .ok (.ireturn, 1) := by decide +kernel
theorem dJ9_floorMod_7cf53_18 : decode cJ9_floorMod_7cf53 18 = .ok (.iload_n 2, 1) := by decide +kernel
theorem dJ9_floorMod_7cf53_19 : decode cJ9_floorMod_7cf53 19 = .ok (.ireturn, 1) := by decide +kernel
theorem dJ9_max_7cf53_0 : decode cJ9_max_7cf53 0 = .ok (.iload_n 0, 1) := by decide +kernel
theorem dJ9_max_7cf53_1 : decode cJ9_max_7cf53 1 = .ok (.iload_n 1, 1) := by decide +kernel
theorem dJ9_max_7cf53_2 : decode cJ9_max_7cf53 2 = .ok (.if_icmp .lt 7, 3) := by decide +kernel
theorem dJ9_max_7cf53_5 : decode cJ9_max_7cf53 5 = .ok (.iload_n 0, 1) := by decide +kernel
theorem dJ9_max_7cf53_6 : decode cJ9_max_7cf53 6 = .ok (.goto 4, 3) := by decide +kernel
theorem dJ9_max_7cf53_9 : decode cJ9_max_7cf53 9 = .ok (.iload_n 1, 1) := by decide +kernel
theorem dJ9_max_7cf53_10 : decode cJ9_max_7cf53 10 = .ok (.ireturn, 1) := by decide +kernel
theorem dJ9_min_7cf53_0 : decode cJ9_min_7cf53 0 = .ok (.iload_n 0, 1) := by decide +kernel
theorem dJ9_min_7cf53_1 : decode cJ9_min_7cf53 1 = .ok (.iload_n 1, 1) := by decide +kernel
theorem dJ9_min_7cf53_2 : decode cJ9_min_7cf53 2 = .ok (.if_icmp .gt 7, 3) := by decide +kernel
theorem dJ9_min_7cf53_5 : decode cJ9_min_7cf53 5 = .ok (.iload_n 0, 1) := by decide +kernel
theorem dJ9_min_7cf53_6 : decode cJ9_min_7cf53 6 = .ok (.goto 4, 3) := by decide +kernel
theorem dJ9_min_7cf53_9 : decode cJ9_min_7cf53 9 = .ok (.iload_n 1, 1) := by decide +kernel
theorem dJ9_min_7cf53_10 : decode cJ9_min_7cf53 10 = .ok (.ireturn, 1) := by decide +kernel
theorem dX5_init_0 : decode cX5_init 0 = .ok (.aload_n 0, 1) := by decide +kernel
theorem dX5_init_1 : decode cX5_init 1 = .ok (.invokespecial 1, 3) := by decide +kernel
theorem dX5_init_4 : decode cX5_init 4 = .ok (.aload_n 0, 1) := by decide +kernel
theorem dX5_init_5 : decode cX5_init 5 = .ok (.new 7, 3) := by decide +kernel
theorem dX5_init_8 : decode cX5_init 8 = .ok (.dup, 1) := by decide +kernel
theorem dX5_init_9 : decode cX5_init 9 = .ok (.invokespecial 9, 3) := by decide +kernel
theorem dX5_init_12 : decode cX5_init 12 = .ok (.putfield 10, 3) := by decide +kernel
theorem dX5_init_15 : decode cX5_init 15 = .ok (.aload_n 0, 1) := by decide +kernel
theorem dX5_init_16 : decode cX5_init 16 = .ok (.new 7, 3) := by decide +kernel
theorem dX5_init_19 : decode cX5_init 19 = .ok (.dup, 1) := by decide +kernel
theorem dX5_init_20 : decode cX5_init 20 = .ok (.invokespecial 9, 3) := by decide +kernel
theorem dX5_init_23 : decode cX5_init 23 = .ok (.putfield 16, 3) := by decide +kernel
theorem dX5_init_26 : decode cX5_init 26 = .ok (.aload_n 0, 1) := by decide +kernel
theorem dX5_init_27 : decode cX5_init 27 = .ok (.new 7, 3) := by decide +kernel
theorem dX5_init_30 : decode cX5_init 30 = .ok (.dup, 1) := by decide +kernel
theorem dX5_init_31 : decode cX5_init 31 = .ok (.invokespecial 9, 3) := by decide +kernel
theorem dX5_init_34 : decode cX5_init 34 = .ok (.putfield 19, 3) := by decide +kernel
theorem dX5_init_37 : decode cX5_init 37 = .ok (.aload_n 0, 1) := by decide +kernel
theorem dX5_init_38 : decode cX5_init 38 = .ok (.new 22, 3) := by decide +kernel
theorem dX5_init_41 : decode cX5_init 41 = .ok (.dup, 1) := by decide +kernel
theorem dX5_init_42 : decode cX5_init 42 = .ok (.invokespecial 24, 3) := by decide +kernel
theorem dX5_init_45 : decode cX5_init 45 = .ok (.putfield 25, 3) := by decide +kernel
theorem dX5_init_48 : decode cX5_init 48 = .ok (.aload_n 0, 1) := by decide +kernel
theorem dX5_init_49 : decode cX5_init 49 = .ok (.new 29, 3) := by decide +kernel
theorem dX5_init_52 : decode cX5_init 52 = .ok (.dup, 1) := by decide +kernel
theorem dX5_init_53 : decode cX5_init 53 = .ok (.invokespecial 31, 3) := by decide +kernel
theorem dX5_init_56 : decode cX5_init 56 = .ok (.putfield 32, 3) := by decide +kernel
theorem dX5_init_59 : decode cX5_init 59 = .ok (.aload_n 0, 1) := by decide +kernel
theorem dX5_init_60 : decode cX5_init 60 = .ok (.new 36, 3) := by decide +kernel
theorem dX5_init_63 : decode cX5_init 63 = .ok (.dup, 1) := by decide +kernel
theorem dX5_init_64 : decode cX5_init 64 = .ok (.invokespecial 38, 3) := by decide +kernel
theorem dX5_init_67 : decode cX5_init 67 = .ok (.putfield 39, 3) := by decide +kernel
theorem dX5_init_70 : decode cX5_init 70 = .ok (.aload_n 0, 1) := by decide +kernel
theorem dX5_init_71 : decode cX5_init 71 = .ok (.new 43, 3) := by decide +kernel
theorem dX5_init_74 : decode cX5_init 74 = .ok (.dup, 1) := by decide +kernel
theorem dX5_init_75 : decode cX5_init 75 = .ok (.invokespecial 45, 3) := by decide +kernel
theorem dX5_init_78 : decode cX5_init 78 = .ok (.putfield 46, 3) := by decide +kernel
theorem dX5_init_81 : decode cX5_init 81 = .ok (.return_, 1) := by decide +kernel
theorem dX5_clear_0 : decode cX5_clear 0 = .ok (.aload_n 0, 1) := by decide +kernel
theorem dX5_clear_1 : decode cX5_clear 1 = .ok (.getfield 10, 3) := by decide +kernel
theorem dX5_clear_4 : decode cX5_clear 4 = .ok (.getfield 50, 3) := by decide +kernel
theorem dX5_clear_7 : decode cX5_clear 7 = .ok (.istore_n 1, 1) := by decide +kernel
theorem dX5_clear_8 : decode cX5_clear 8 = .ok (.aload_n 0, 1) := by decide +kernel
theorem dX5_clear_9 : decode cX5_clear 9 = .ok (.getfield 10, 3) := by decide +kernel
theorem dX5_clear_12 : decode cX5_clear 12 = .ok (.iconst 0, 1) := by decide +kernel
theorem dX5_clear_13 : decode cX5_clear 13 = .ok (.putfield 50, 3) := by decide +kernel
theorem dX5_clear_16 : decode cX5_clear 16 = .ok (.aload_n 0, 1) := by decide +kernel
theorem dX5_clear_17 : decode cX5_clear 17 = .ok (.getfield 16, 3) := by decide +kernel
theorem dX5_clear_20 : decode cX5_clear 20 = .ok (.iconst 0, 1) := by decide +kernel
theorem dX5_clear_21 : decode cX5_clear 21 = .ok (.putfield 50, 3) := by decide +kernel
theorem dX5_clear_24 : decode cX5_clear 24 = .ok (.aload_n 0, 1) := by decide +kernel
theorem dX5_clear_25 : decode cX5_clear 25 = .ok (.getfield 32, 3) := by decide +kernel
theorem dX5_clear_28 : decode cX5_clear 28 = .ok (.iconst 0, 1) := by decide +kernel
theorem dX5_clear_29 : decode cX5_clear 29 = .ok (.putfield 54, 3) := by decide +kernel
theorem dX5_clear_32 : decode cX5_clear 32 = .ok (.aload_n 0, 1) := by decide +kernel
theorem dX5_clear_33 : decode cX5_clear 33 = .ok (.getfield 39, 3) := by decide +kernel
theorem dX5_clear_36 : decode cX5_clear 36 = .ok (.iconst 0, 1) := by decide +kernel
theorem dX5_clear_37 : decode cX5_clear 37 = .ok (.putfield 55, 3) := by decide +kernel
theorem dX5_clear_40 : decode cX5_clear 40 = .ok (.aload_n 0, 1) := by decide +kernel
theorem dX5_clear_41 : decode cX5_clear 41 = .ok (.getfield 46, 3) := by decide +kernel
theorem dX5_clear_44 : decode cX5_clear 44 = .ok (.iconst 0, 1) := by decide +kernel
theorem dX5_clear_45 : decode cX5_clear 45 = .ok (.putfield 56, 3) := by decide +kernel
theorem dX5_clear_48 : decode cX5_clear 48 = .ok (.aload_n 0, 1) := by decide +kernel
theorem dX5_clear_49 : decode cX5_clear 49 = .ok (.getfield 46, 3) := by decide +kernel
theorem dX5_clear_52 : decode cX5_clear 52 = .ok (.iconst 0, 1) := by decide +kernel
theorem dX5_clear_53 : decode cX5_clear 53 = .ok (.putfield 57, 3) := by decide +kernel
theorem dX5_clear_56 : decode cX5_clear 56 = .ok (.iload_n 1, 1) := by decide +kernel
theorem dX5_clear_57 : decode cX5_clear 57 = .ok (.ireturn, 1) := by decide +kernel
theorem dX5_note_0 : decode cX5_note 0 = .ok (.iload_n 1, 1) := by decide +kernel
theorem dX5_note_1 : decode cX5_note 1 = .ok (.iconst 0, 1) := by decide +kernel
theorem dX5_note_2 : decode cX5_note 2 = .ok (.bipush 127, 2) := by decide +kernel
theorem dX5_note_4 : decode cX5_note 4 = .ok (.invokestatic 60, 3) := by decide +kernel
theorem dX5_note_7 : decode cX5_note 7 = .ok (.ifCond .eq 14, 3) := by decide +kernel
theorem dX5_note_10 : decode cX5_note 10 = .ok (.iload_n 2, 1) := by decide +kernel
theorem dX5_note_11 : decode cX5_note 11 = .ok (.iconst 1, 1) := by decide +kernel
theorem dX5_note_12 : decode cX5_note 12 = .ok (.sipush 999, 3) := by decide +kernel
theorem dX5_note_15 : decode cX5_note 15 = .ok (.invokestatic 60, 3) := by decide +kernel
theorem dX5_note_18 : decode cX5_note 18 = .ok (.ifCond .ne 13, 3) := by decide +kernel
theorem dX5_note_21 : decode cX5_note 21 = .ok (.new 64, 3) := by decide +kernel
theorem dX5_note_24 : decode cX5_note 24 = .ok (.dup, 1) := by decide +kernel
theorem dX5_note_25 : decode cX5_note 25 = .ok (.ldc 66, 2) := by decide +kernel
theorem dX5_note_27 : decode cX5_note 27 = .ok (.invokespecial 68, 3) := by decide +kernel
theorem dX5_note_30 : decode cX5_note 30 = .ok (.athrow, 1) := by decide +kernel
theorem dX5_note_31 : decode cX5_note 31 = .ok (.aload_n 0, 1) := by decide +kernel
theorem dX5_note_32 : decode cX5_note 32 = .ok (.getfield 10, 3) := by decide +kernel
theorem dX5_note_35 : decode cX5_note 35 = .ok (.getfield 50, 3) := by decide +kernel
theorem dX5_note_38 : decode cX5_note 38 = .ok (.bipush 60, 2) := by decide +kernel
theorem dX5_note_40 : decode cX5_note 40 = .ok (.if_icmp .lt 13, 3) := by decide +kernel
theorem dX5_note_43 : decode cX5_note 43 = .ok (.new 71, 3) := by decide +kernel
theorem dX5_note_46 : decode cX5_note 46 = .ok (.dup, 1) := by decide +kernel
theorem dX5_note_47 : decode cX5_note 47 = .ok (.ldc 73, 2) := by decide +kernel
theorem dX5_note_49 : decode cX5_note 49 = .ok (.invokespecial 75, 3) := by decide +kernel
theorem dX5_note_52 : decode cX5_note 52 = .ok (.athrow, 1) := by decide +kernel
theorem dX5_note_53 : decode cX5_note 53 = .ok (.aload_n 0, 1) := by decide +kernel
theorem dX5_note_54 : decode cX5_note 54 = .ok (.getfield 10, 3) := by decide +kernel
theorem dX5_note_57 : decode cX5_note 57 = .ok (.iload_n 1, 1) := by decide +kernel
theorem dX5_note_58 : decode cX5_note 58 = .ok (.iload_n 2, 1) := by decide +kernel
theorem dX5_note_59 : decode cX5_note 59 = .ok (.invokevirtual 76, 3) := by decide +kernel
theorem dX5_note_62 : decode cX5_note 62 = .ok (.aload_n 0, 1) := by decide +kernel
theorem dX5_note_63 : decode cX5_note 63 = .ok (.getfield 10, 3) := by decide +kernel
theorem dX5_note_66 : decode cX5_note 66 = .ok (.getfield 50, 3) := by decide +kernel
theorem dX5_note_69 : decode cX5_note 69 = .ok (.iconst 1, 1) := by decide +kernel
theorem dX5_note_70 : decode cX5_note 70 = .ok (.isub, 1) := by decide +kernel
theorem dX5_note_71 : decode cX5_note 71 = .ok (.ireturn, 1) := by decide +kernel
theorem dX5_drop_0 : decode cX5_drop 0 = .ok (.iload_n 1, 1) := by decide +kernel
theorem dX5_drop_1 : decode cX5_drop 1 = .ok (.iconst 0, 1) := by decide +kernel
theorem dX5_drop_2 : decode cX5_drop 2 = .ok (.aload_n 0, 1) := by decide +kernel
theorem dX5_drop_3 : decode cX5_drop 3 = .ok (.getfield 10, 3) := by decide +kernel
theorem dX5_drop_6 : decode cX5_drop 6 = .ok (.getfield 50, 3) := by decide +kernel
theorem dX5_drop_9 : decode cX5_drop 9 = .ok (.invokestatic 60, 3) := by decide +kernel
theorem dX5_drop_12 : decode cX5_drop 12 = .ok (.ifCond .ne 13, 3) := by decide +kernel
theorem dX5_drop_15 : decode cX5_drop 15 = .ok (.new 64, 3) := by decide +kernel
theorem dX5_drop_18 : decode cX5_drop 18 = .ok (.dup, 1) := by decide +kernel
theorem dX5_drop_19 : decode cX5_drop 19 = .ok (.ldc 80, 2) := by decide +kernel
theorem dX5_drop_21 : decode cX5_drop 21 = .ok (.invokespecial 68, 3) := by decide +kernel
theorem dX5_drop_24 : decode cX5_drop 24 = .ok (.athrow, 1) := by decide +kernel
theorem dX5_drop_25 : decode cX5_drop 25 = .ok (.aload_n 0, 1) := by decide +kernel
theorem dX5_drop_26 : decode cX5_drop 26 = .ok (.getfield 10, 3) := by decide +kernel
theorem dX5_drop_29 : decode cX5_drop 29 = .ok (.dup, 1) := by decide +kernel
theorem dX5_drop_30 : decode cX5_drop 30 = .ok (.getfield 50, 3) := by decide +kernel
theorem dX5_drop_33 : decode cX5_drop 33 = .ok (.iload_n 1, 1) := by decide +kernel
theorem dX5_drop_34 : decode cX5_drop 34 = .ok (.isub, 1) := by decide +kernel
theorem dX5_drop_35 : decode cX5_drop 35 = .ok (.putfield 50, 3) := by decide +kernel
theorem dX5_drop_38 : decode cX5_drop 38 = .ok (.aload_n 0, 1) := by decide +kernel
theorem dX5_drop_39 : decode cX5_drop 39 = .ok (.getfield 10, 3) := by decide +kernel
theorem dX5_drop_42 : decode cX5_drop 42 = .ok (.getfield 50, 3) := by decide +kernel
theorem dX5_drop_45 : decode cX5_drop 45 = .ok (.ireturn, 1) := by decide +kernel
theorem dX5_items_0 : decode cX5_items 0 = .ok (.iload_n 1, 1) := by decide +kernel
theorem dX5_items_1 : decode cX5_items 1 = .ok (.invokestatic 82, 3) := by decide +kernel
theorem dX5_items_4 : decode cX5_items 4 = .ok (.ifCond .ne 13, 3) := by decide +kernel
theorem dX5_items_7 : decode cX5_items 7 = .ok (.new 64, 3) := by decide +kernel
theorem dX5_items_10 : decode cX5_items 10 = .ok (.dup, 1) := by decide +kernel
theorem dX5_items_11 : decode cX5_items 11 = .ok (.ldc 86, 2) := by decide +kernel
theorem dX5_items_13 : decode cX5_items 13 = .ok (.invokespecial 68, 3) := by decide +kernel
theorem dX5_items_16 : decode cX5_items 16 = .ok (.athrow, 1) := by decide +kernel
theorem dX5_items_17 : decode cX5_items 17 = .ok (.aload_n 0, 1) := by decide +kernel
theorem dX5_items_18 : decode cX5_items 18 = .ok (.getfield 10, 3) := by decide +kernel
theorem dX5_items_21 : decode cX5_items 21 = .ok (.iload_n 1, 1) := by decide +kernel
theorem dX5_items_22 : decode cX5_items 22 = .ok (.invokestatic 88, 3) := by decide +kernel
theorem dX5_items_25 : decode cX5_items 25 = .ok (.ireturn, 1) := by decide +kernel
theorem dX5_item_0 : decode cX5_item 0 = .ok (.iload_n 1, 1) := by decide +kernel
theorem dX5_item_1 : decode cX5_item 1 = .ok (.invokestatic 82, 3) := by decide +kernel
theorem dX5_item_4 : decode cX5_item 4 = .ok (.ifCond .eq 21, 3) := by decide +kernel
theorem dX5_item_7 : decode cX5_item 7 = .ok (.iload_n 2, 1) := by decide +kernel
theorem dX5_item_8 : decode cX5_item 8 = .ok (.iconst 0, 1) := by decide +kernel
theorem dX5_item_9 : decode cX5_item 9 = .ok (.aload_n 0, 1) := by decide +kernel
theorem dX5_item_10 : decode cX5_item 10 = .ok (.getfield 10, 3) := by decide +kernel
theorem dX5_item_13 : decode cX5_item 13 = .ok (.iload_n 1, 1) := by decide +kernel
theorem dX5_item_14 : decode cX5_item 14 = .ok (.invokestatic 88, 3) := by decide +kernel
theorem dX5_item_17 : decode cX5_item 17 = .ok (.iconst 1, 1) := by decide +kernel
theorem dX5_item_18 : decode cX5_item 18 = .ok (.isub, 1) := by decide +kernel
theorem dX5_item_19 : decode cX5_item 19 = .ok (.invokestatic 60, 3) := by decide +kernel
theorem dX5_item_22 : decode cX5_item 22 = .ok (.ifCond .ne 13, 3) := by decide +kernel
theorem dX5_item_25 : decode cX5_item 25 = .ok (.new 64, 3) := by decide +kernel
theorem dX5_item_28 : decode cX5_item 28 = .ok (.dup, 1) := by decide +kernel
theorem dX5_item_29 : decode cX5_item 29 = .ok (.ldc 92, 2) := by decide +kernel
theorem dX5_item_31 : decode cX5_item 31 = .ok (.invokespecial 68, 3) := by decide +kernel
theorem dX5_item_34 : decode cX5_item 34 = .ok (.athrow, 1) := by decide +kernel
theorem dX5_item_35 : decode cX5_item 35 = .ok (.aload_n 0, 1) := by decide +kernel
theorem dX5_item_36 : decode cX5_item 36 = .ok (.getfield 10, 3) := by decide +kernel
theorem dX5_item_39 : decode cX5_item 39 = .ok (.iload_n 1, 1) := by decide +kernel
theorem dX5_item_40 : decode cX5_item 40 = .ok (.iload_n 2, 1) := by decide +kernel
theorem dX5_item_41 : decode cX5_item 41 = .ok (.invokestatic 94, 3) := by decide +kernel
theorem dX5_item_44 : decode cX5_item 44 = .ok (.ireturn, 1) := by decide +kernel
theorem dX5_repeats_0 : decode cX5_repeats 0 = .ok (.iload_n 1, 1) := by decide +kernel
theorem dX5_repeats_1 : decode cX5_repeats 1 = .ok (.invokestatic 82, 3) := by decide +kernel
theorem dX5_repeats_4 : decode cX5_repeats 4 = .ok (.ifCond .eq 13, 3) := by decide +kernel
theorem dX5_repeats_7 : decode cX5_repeats 7 = .ok (.iload_n 2, 1) := by decide +kernel
theorem dX5_repeats_8 : decode cX5_repeats 8 = .ok (.iconst 1, 1) := by decide +kernel
theorem dX5_repeats_9 : decode cX5_repeats 9 = .ok (.bipush 60, 2) := by decide +kernel
theorem dX5_repeats_11 : decode cX5_repeats 11 = .ok (.invokestatic 60, 3) := by decide +kernel
theorem dX5_repeats_14 : decode cX5_repeats 14 = .ok (.ifCond .ne 13, 3) := by decide +kernel
theorem dX5_repeats_17 : decode cX5_repeats 17 = .ok (.new 64, 3) := by decide +kernel
theorem dX5_repeats_20 : decode cX5_repeats 20 = .ok (.dup, 1) := by decide +kernel
theorem dX5_repeats_21 : decode cX5_repeats 21 = .ok (.ldc 98, 2) := by decide +kernel
theorem dX5_repeats_23 : decode cX5_repeats 23 = .ok (.invokespecial 68, 3) := by decide +kernel
theorem dX5_repeats_26 : decode cX5_repeats 26 = .ok (.athrow, 1) := by decide +kernel
theorem dX5_repeats_27 : decode cX5_repeats 27 = .ok (.aload_n 0, 1) := by decide +kernel
theorem dX5_repeats_28 : decode cX5_repeats 28 = .ok (.getfield 25, 3) := by decide +kernel
theorem dX5_repeats_31 : decode cX5_repeats 31 = .ok (.aload_n 0, 1) := by decide +kernel
theorem dX5_repeats_32 : decode cX5_repeats 32 = .ok (.getfield 10, 3) := by decide +kernel
theorem dX5_repeats_35 : decode cX5_repeats 35 = .ok (.iload_n 1, 1) := by decide +kernel
theorem dX5_repeats_36 : decode cX5_repeats 36 = .ok (.invokevirtual 100, 3) := by decide +kernel
theorem dX5_repeats_39 : decode cX5_repeats 39 = .ok (.aload_n 0, 1) := by decide +kernel
theorem dX5_repeats_40 : decode cX5_repeats 40 = .ok (.getfield 32, 3) := by decide +kernel
theorem dX5_repeats_43 : decode cX5_repeats 43 = .ok (.aload_n 0, 1) := by decide +kernel
theorem dX5_repeats_44 : decode cX5_repeats 44 = .ok (.getfield 25, 3) := by decide +kernel
theorem dX5_repeats_47 : decode cX5_repeats 47 = .ok (.iload_n 2, 1) := by decide +kernel
theorem dX5_repeats_48 : decode cX5_repeats 48 = .ok (.invokevirtual 104, 3) := by decide +kernel
theorem dX5_repeats_51 : decode cX5_repeats 51 = .ok (.aload_n 0, 1) := by decide +kernel
theorem dX5_repeats_52 : decode cX5_repeats 52 = .ok (.getfield 32, 3) := by decide +kernel
theorem dX5_repeats_55 : decode cX5_repeats 55 = .ok (.getfield 54, 3) := by decide +kernel
theorem dX5_repeats_58 : decode cX5_repeats 58 = .ok (.ireturn, 1) := by decide +kernel
theorem dX5_repeat_0 : decode cX5_repeat 0 = .ok (.iload_n 1, 1) := by decide +kernel
theorem dX5_repeat_1 : decode cX5_repeat 1 = .ok (.iconst 0, 1) := by decide +kernel
theorem dX5_repeat_2 : decode cX5_repeat 2 = .ok (.aload_n 0, 1) := by decide +kernel
theorem dX5_repeat_3 : decode cX5_repeat 3 = .ok (.getfield 32, 3) := by decide +kernel
theorem dX5_repeat_6 : decode cX5_repeat 6 = .ok (.getfield 54, 3) := by decide +kernel
theorem dX5_repeat_9 : decode cX5_repeat 9 = .ok (.iconst 1, 1) := by decide +kernel
theorem dX5_repeat_10 : decode cX5_repeat 10 = .ok (.isub, 1) := by decide +kernel
theorem dX5_repeat_11 : decode cX5_repeat 11 = .ok (.invokestatic 60, 3) := by decide +kernel
theorem dX5_repeat_14 : decode cX5_repeat 14 = .ok (.ifCond .eq 12, 3) := by decide +kernel
theorem dX5_repeat_17 : decode cX5_repeat 17 = .ok (.iload_n 2, 1) := by decide +kernel
theorem dX5_repeat_18 : decode cX5_repeat 18 = .ok (.iconst 0, 1) := by decide +kernel
theorem dX5_repeat_19 : decode cX5_repeat 19 = .ok (.iconst 2, 1) := by decide +kernel
theorem dX5_repeat_20 : decode cX5_repeat 20 = .ok (.invokestatic 60, 3) := by decide +kernel
theorem dX5_repeat_23 : decode cX5_repeat 23 = .ok (.ifCond .ne 13, 3) := by decide +kernel
theorem dX5_repeat_26 : decode cX5_repeat 26 = .ok (.new 64, 3) := by decide +kernel
theorem dX5_repeat_29 : decode cX5_repeat 29 = .ok (.dup, 1) := by decide +kernel
theorem dX5_repeat_30 : decode cX5_repeat 30 = .ok (.ldc 108, 2) := by decide +kernel
theorem dX5_repeat_32 : decode cX5_repeat 32 = .ok (.invokespecial 68, 3) := by decide +kernel
theorem dX5_repeat_35 : decode cX5_repeat 35 = .ok (.athrow, 1) := by decide +kernel
theorem dX5_repeat_36 : decode cX5_repeat 36 = .ok (.aload_n 0, 1) := by decide +kernel
theorem dX5_repeat_37 : decode cX5_repeat 37 = .ok (.getfield 32, 3) := by decide +kernel
theorem dX5_repeat_40 : decode cX5_repeat 40 = .ok (.iload_n 1, 1) := by decide +kernel
theorem dX5_repeat_41 : decode cX5_repeat 41 = .ok (.iload_n 2, 1) := by decide +kernel
theorem dX5_repeat_42 : decode cX5_repeat 42 = .ok (.invokevirtual 110, 3) := by decide +kernel
theorem dX5_repeat_45 : decode cX5_repeat 45 = .ok (.ireturn, 1) := by decide +kernel
theorem dX5_passages_0 : decode cX5_passages 0 = .ok (.iload_n 1, 1) := by decide +kernel
theorem dX5_passages_1 : decode cX5_passages 1 = .ok (.invokestatic 82, 3) := by decide +kernel
theorem dX5_passages_4 : decode cX5_passages 4 = .ok (.ifCond .eq 13, 3) := by decide +kernel
theorem dX5_passages_7 : decode cX5_passages 7 = .ok (.iload_n 2, 1) := by decide +kernel
theorem dX5_passages_8 : decode cX5_passages 8 = .ok (.iconst 1, 1) := by decide +kernel
theorem dX5_passages_9 : decode cX5_passages 9 = .ok (.bipush 60, 2) := by decide +kernel
theorem dX5_passages_11 : decode cX5_passages 11 = .ok (.invokestatic 60, 3) := by decide +kernel
theorem dX5_passages_14 : decode cX5_passages 14 = .ok (.ifCond .ne 13, 3) := by decide +kernel
theorem dX5_passages_17 : decode cX5_passages 17 = .ok (.new 64, 3) := by decide +kernel
theorem dX5_passages_20 : decode cX5_passages 20 = .ok (.dup, 1) := by decide +kernel
theorem dX5_passages_21 : decode cX5_passages 21 = .ok (.ldc 114, 2) := by decide +kernel
theorem dX5_passages_23 : decode cX5_passages 23 = .ok (.invokespecial 68, 3) := by decide +kernel
theorem dX5_passages_26 : decode cX5_passages 26 = .ok (.athrow, 1) := by decide +kernel
theorem dX5_passages_27 : decode cX5_passages 27 = .ok (.aload_n 0, 1) := by decide +kernel
theorem dX5_passages_28 : decode cX5_passages 28 = .ok (.getfield 25, 3) := by decide +kernel
theorem dX5_passages_31 : decode cX5_passages 31 = .ok (.aload_n 0, 1) := by decide +kernel
theorem dX5_passages_32 : decode cX5_passages 32 = .ok (.getfield 10, 3) := by decide +kernel
theorem dX5_passages_35 : decode cX5_passages 35 = .ok (.iload_n 1, 1) := by decide +kernel
theorem dX5_passages_36 : decode cX5_passages 36 = .ok (.invokevirtual 100, 3) := by decide +kernel
theorem dX5_passages_39 : decode cX5_passages 39 = .ok (.aload_n 0, 1) := by decide +kernel
theorem dX5_passages_40 : decode cX5_passages 40 = .ok (.getfield 25, 3) := by decide +kernel
theorem dX5_passages_43 : decode cX5_passages 43 = .ok (.iload_n 2, 1) := by decide +kernel
theorem dX5_passages_44 : decode cX5_passages 44 = .ok (.invokevirtual 116, 3) := by decide +kernel
theorem dX5_passages_47 : decode cX5_passages 47 = .ok (.ireturn, 1) := by decide +kernel
theorem dX5_period_0 : decode cX5_period 0 = .ok (.iload_n 1, 1) := by decide +kernel
theorem dX5_period_1 : decode cX5_period 1 = .ok (.invokestatic 82, 3) := by decide +kernel
theorem dX5_period_4 : decode cX5_period 4 = .ok (.ifCond .ne 13, 3) := by decide +kernel
theorem dX5_period_7 : decode cX5_period 7 = .ok (.new 64, 3) := by decide +kernel
theorem dX5_period_10 : decode cX5_period 10 = .ok (.dup, 1) := by decide +kernel
theorem dX5_period_11 : decode cX5_period 11 = .ok (.ldc 86, 2) := by decide +kernel
theorem dX5_period_13 : decode cX5_period 13 = .ok (.invokespecial 68, 3) := by decide +kernel
theorem dX5_period_16 : decode cX5_period 16 = .ok (.athrow, 1) := by decide +kernel
theorem dX5_period_17 : decode cX5_period 17 = .ok (.aload_n 0, 1) := by decide +kernel
theorem dX5_period_18 : decode cX5_period 18 = .ok (.getfield 25, 3) := by decide +kernel
theorem dX5_period_21 : decode cX5_period 21 = .ok (.aload_n 0, 1) := by decide +kernel
theorem dX5_period_22 : decode cX5_period 22 = .ok (.getfield 10, 3) := by decide +kernel
theorem dX5_period_25 : decode cX5_period 25 = .ok (.iload_n 1, 1) := by decide +kernel
theorem dX5_period_26 : decode cX5_period 26 = .ok (.invokevirtual 100, 3) := by decide +kernel
theorem dX5_period_29 : decode cX5_period 29 = .ok (.aload_n 0, 1) := by decide +kernel
theorem dX5_period_30 : decode cX5_period 30 = .ok (.getfield 25, 3) := by decide +kernel
theorem dX5_period_33 : decode cX5_period 33 = .ok (.invokevirtual 120, 3) := by decide +kernel
theorem dX5_period_36 : decode cX5_period 36 = .ok (.ireturn, 1) := by decide +kernel
theorem dX5_alike_0 : decode cX5_alike 0 = .ok (.iload_n 1, 1) := by decide +kernel
theorem dX5_alike_1 : decode cX5_alike 1 = .ok (.invokestatic 82, 3) := by decide +kernel
theorem dX5_alike_4 : decode cX5_alike 4 = .ok (.ifCond .eq 8, 3) := by decide +kernel
theorem dX5_alike_7 : decode cX5_alike 7 = .ok (.iload 4, 2) := by decide +kernel
theorem dX5_alike_9 : decode cX5_alike 9 = .ok (.ifCond .ge 13, 3) := by decide +kernel
theorem dX5_alike_12 : decode cX5_alike 12 = .ok (.new 64, 3) := by decide +kernel
theorem dX5_alike_15 : decode cX5_alike 15 = .ok (.dup, 1) := by decide +kernel
theorem dX5_alike_16 : decode cX5_alike 16 = .ok (.ldc 114, 2) := by decide +kernel
theorem dX5_alike_18 : decode cX5_alike 18 = .ok (.invokespecial 68, 3) := by decide +kernel
theorem dX5_alike_21 : decode cX5_alike 21 = .ok (.athrow, 1) := by decide +kernel
theorem dX5_alike_22 : decode cX5_alike 22 = .ok (.aload_n 0, 1) := by decide +kernel
theorem dX5_alike_23 : decode cX5_alike 23 = .ok (.getfield 10, 3) := by decide +kernel
theorem dX5_alike_26 : decode cX5_alike 26 = .ok (.iload_n 1, 1) := by decide +kernel
theorem dX5_alike_27 : decode cX5_alike 27 = .ok (.invokestatic 88, 3) := by decide +kernel
theorem dX5_alike_30 : decode cX5_alike 30 = .ok (.iload 4, 2) := by decide +kernel
theorem dX5_alike_32 : decode cX5_alike 32 = .ok (.isub, 1) := by decide +kernel
theorem dX5_alike_33 : decode cX5_alike 33 = .ok (.istore 5, 2) := by decide +kernel
theorem dX5_alike_35 : decode cX5_alike 35 = .ok (.iload_n 2, 1) := by decide +kernel
theorem dX5_alike_36 : decode cX5_alike 36 = .ok (.iconst 0, 1) := by decide +kernel
theorem dX5_alike_37 : decode cX5_alike 37 = .ok (.iload 5, 2) := by decide +kernel
theorem dX5_alike_39 : decode cX5_alike 39 = .ok (.invokestatic 60, 3) := by decide +kernel
theorem dX5_alike_42 : decode cX5_alike 42 = .ok (.ifCond .eq 13, 3) := by decide +kernel
theorem dX5_alike_45 : decode cX5_alike 45 = .ok (.iload_n 3, 1) := by decide +kernel
theorem dX5_alike_46 : decode cX5_alike 46 = .ok (.iconst 0, 1) := by decide +kernel
theorem dX5_alike_47 : decode cX5_alike 47 = .ok (.iload 5, 2) := by decide +kernel
theorem dX5_alike_49 : decode cX5_alike 49 = .ok (.invokestatic 60, 3) := by decide +kernel
theorem dX5_alike_52 : decode cX5_alike 52 = .ok (.ifCond .ne 13, 3) := by decide +kernel
theorem dX5_alike_55 : decode cX5_alike 55 = .ok (.new 64, 3) := by decide +kernel
theorem dX5_alike_58 : decode cX5_alike 58 = .ok (.dup, 1) := by decide +kernel
theorem dX5_alike_59 : decode cX5_alike 59 = .ok (.ldc 124, 2) := by decide +kernel
theorem dX5_alike_61 : decode cX5_alike 61 = .ok (.invokespecial 68, 3) := by decide +kernel
theorem dX5_alike_64 : decode cX5_alike 64 = .ok (.athrow, 1) := by decide +kernel
theorem dX5_alike_65 : decode cX5_alike 65 = .ok (.iload 4, 2) := by decide +kernel
theorem dX5_alike_67 : decode cX5_alike 67 = .ok (.ifCond .ne 13, 3) := by decide +kernel
theorem dX5_alike_70 : decode cX5_alike 70 = .ok (.new 126, 3) := by decide +kernel
theorem dX5_alike_73 : decode cX5_alike 73 = .ok (.dup, 1) := by decide +kernel
theorem dX5_alike_74 : decode cX5_alike 74 = .ok (.ldc 128, 2) := by decide +kernel
theorem dX5_alike_76 : decode cX5_alike 76 = .ok (.invokespecial 130, 3) := by decide +kernel
theorem dX5_alike_79 : decode cX5_alike 79 = .ok (.athrow, 1) := by decide +kernel
theorem dX5_alike_80 : decode cX5_alike 80 = .ok (.aload_n 0, 1) := by decide +kernel
theorem dX5_alike_81 : decode cX5_alike 81 = .ok (.getfield 25, 3) := by decide +kernel
theorem dX5_alike_84 : decode cX5_alike 84 = .ok (.aload_n 0, 1) := by decide +kernel
theorem dX5_alike_85 : decode cX5_alike 85 = .ok (.getfield 10, 3) := by decide +kernel
theorem dX5_alike_88 : decode cX5_alike 88 = .ok (.iload_n 1, 1) := by decide +kernel
theorem dX5_alike_89 : decode cX5_alike 89 = .ok (.invokevirtual 100, 3) := by decide +kernel
theorem dX5_alike_92 : decode cX5_alike 92 = .ok (.bipush 100, 2) := by decide +kernel
theorem dX5_alike_94 : decode cX5_alike 94 = .ok (.aload_n 0, 1) := by decide +kernel
theorem dX5_alike_95 : decode cX5_alike 95 = .ok (.getfield 25, 3) := by decide +kernel
theorem dX5_alike_98 : decode cX5_alike 98 = .ok (.iload_n 2, 1) := by decide +kernel
theorem dX5_alike_99 : decode cX5_alike 99 = .ok (.iload_n 3, 1) := by decide +kernel
theorem dX5_alike_100 : decode cX5_alike 100 = .ok (.iload 4, 2) := by decide +kernel
theorem dX5_alike_102 : decode cX5_alike 102 = .ok (.invokevirtual 131, 3) := by decide +kernel
theorem dX5_alike_105 : decode cX5_alike 105 = .ok (.imul, 1) := by decide +kernel
theorem dX5_alike_106 : decode cX5_alike 106 = .ok (.iload 4, 2) := by decide +kernel
theorem dX5_alike_108 : decode cX5_alike 108 = .ok (.idiv, 1) := by decide +kernel
theorem dX5_alike_109 : decode cX5_alike 109 = .ok (.ireturn, 1) := by decide +kernel
theorem dX5_motive_0 : decode cX5_motive 0 = .ok (.iload_n 2, 1) := by decide +kernel
theorem dX5_motive_1 : decode cX5_motive 1 = .ok (.iconst 1, 1) := by decide +kernel
theorem dX5_motive_2 : decode cX5_motive 2 = .ok (.bipush 12, 2) := by decide +kernel
theorem dX5_motive_4 : decode cX5_motive 4 = .ok (.invokestatic 60, 3) := by decide +kernel
theorem dX5_motive_7 : decode cX5_motive 7 = .ok (.ifCond .eq 20, 3) := by decide +kernel
theorem dX5_motive_10 : decode cX5_motive 10 = .ok (.iload_n 1, 1) := by decide +kernel
theorem dX5_motive_11 : decode cX5_motive 11 = .ok (.iconst 0, 1) := by decide +kernel
theorem dX5_motive_12 : decode cX5_motive 12 = .ok (.aload_n 0, 1) := by decide +kernel
theorem dX5_motive_13 : decode cX5_motive 13 = .ok (.getfield 10, 3) := by decide +kernel
theorem dX5_motive_16 : decode cX5_motive 16 = .ok (.getfield 50, 3) := by decide +kernel
theorem dX5_motive_19 : decode cX5_motive 19 = .ok (.iload_n 2, 1) := by decide +kernel
theorem dX5_motive_20 : decode cX5_motive 20 = .ok (.isub, 1) := by decide +kernel
theorem dX5_motive_21 : decode cX5_motive 21 = .ok (.invokestatic 60, 3) := by decide +kernel
theorem dX5_motive_24 : decode cX5_motive 24 = .ok (.ifCond .ne 13, 3) := by decide +kernel
theorem dX5_motive_27 : decode cX5_motive 27 = .ok (.new 64, 3) := by decide +kernel
theorem dX5_motive_30 : decode cX5_motive 30 = .ok (.dup, 1) := by decide +kernel
theorem dX5_motive_31 : decode cX5_motive 31 = .ok (.ldc 135, 2) := by decide +kernel
theorem dX5_motive_33 : decode cX5_motive 33 = .ok (.invokespecial 68, 3) := by decide +kernel
theorem dX5_motive_36 : decode cX5_motive 36 = .ok (.athrow, 1) := by decide +kernel
theorem dX5_motive_37 : decode cX5_motive 37 = .ok (.aload_n 0, 1) := by decide +kernel
theorem dX5_motive_38 : decode cX5_motive 38 = .ok (.getfield 16, 3) := by decide +kernel
theorem dX5_motive_41 : decode cX5_motive 41 = .ok (.iconst 0, 1) := by decide +kernel
theorem dX5_motive_42 : decode cX5_motive 42 = .ok (.putfield 50, 3) := by decide +kernel
theorem dX5_motive_45 : decode cX5_motive 45 = .ok (.iload_n 1, 1) := by decide +kernel
theorem dX5_motive_46 : decode cX5_motive 46 = .ok (.istore_n 3, 1) := by decide +kernel
theorem dX5_motive_47 : decode cX5_motive 47 = .ok (.iload_n 3, 1) := by decide +kernel
theorem dX5_motive_48 : decode cX5_motive 48 = .ok (.iload_n 1, 1) := by decide +kernel
theorem dX5_motive_49 : decode cX5_motive 49 = .ok (.iload_n 2, 1) := by decide +kernel
theorem dX5_motive_50 : decode cX5_motive 50 = .ok (.iadd, 1) := by decide +kernel
theorem dX5_motive_51 : decode cX5_motive 51 = .ok (.if_icmp .ge 34, 3) := by decide +kernel
theorem dX5_motive_54 : decode cX5_motive 54 = .ok (.aload_n 0, 1) := by decide +kernel
theorem dX5_motive_55 : decode cX5_motive 55 = .ok (.getfield 16, 3) := by decide +kernel
theorem dX5_motive_58 : decode cX5_motive 58 = .ok (.aload_n 0, 1) := by decide +kernel
theorem dX5_motive_59 : decode cX5_motive 59 = .ok (.getfield 10, 3) := by decide +kernel
theorem dX5_motive_62 : decode cX5_motive 62 = .ok (.getfield 137, 3) := by decide +kernel
theorem dX5_motive_65 : decode cX5_motive 65 = .ok (.iload_n 3, 1) := by decide +kernel
theorem dX5_motive_66 : decode cX5_motive 66 = .ok (.iaload, 1) := by decide +kernel
theorem dX5_motive_67 : decode cX5_motive 67 = .ok (.aload_n 0, 1) := by decide +kernel
theorem dX5_motive_68 : decode cX5_motive 68 = .ok (.getfield 10, 3) := by decide +kernel
theorem dX5_motive_71 : decode cX5_motive 71 = .ok (.getfield 141, 3) := by decide +kernel
theorem dX5_motive_74 : decode cX5_motive 74 = .ok (.iload_n 3, 1) := by decide +kernel
theorem dX5_motive_75 : decode cX5_motive 75 = .ok (.iaload, 1) := by decide +kernel
theorem dX5_motive_76 : decode cX5_motive 76 = .ok (.invokevirtual 76, 3) := by decide +kernel
theorem dX5_motive_79 : decode cX5_motive 79 = .ok (.iinc 3 1, 3) := by decide +kernel
theorem dX5_motive_82 : decode cX5_motive 82 = .ok (.goto (-35), 3) := by decide +kernel
theorem dX5_motive_85 : decode cX5_motive 85 = .ok (.aload_n 0, 1) := by decide +kernel
theorem dX5_motive_86 : decode cX5_motive 86 = .ok (.getfield 16, 3) := by decide +kernel
theorem dX5_motive_89 : decode cX5_motive 89 = .ok (.getfield 137, 3) := by decide +kernel
theorem dX5_motive_92 : decode cX5_motive 92 = .ok (.iconst 0, 1) := by decide +kernel
theorem dX5_motive_93 : decode cX5_motive 93 = .ok (.iaload, 1) := by decide +kernel
theorem dX5_motive_94 : decode cX5_motive 94 = .ok (.ireturn, 1) := by decide +kernel
theorem dX5_form_0 : decode cX5_form 0 = .ok (.iload_n 1, 1) := by decide +kernel
theorem dX5_form_1 : decode cX5_form 1 = .ok (.invokestatic 144, 3) := by decide +kernel
theorem dX5_form_4 : decode cX5_form 4 = .ok (.ifCond .eq 29, 3) := by decide +kernel
theorem dX5_form_7 : decode cX5_form 7 = .ok (.iload_n 2, 1) := by decide +kernel
theorem dX5_form_8 : decode cX5_form 8 = .ok (.iconst 0, 1) := by decide +kernel
theorem dX5_form_9 : decode cX5_form 9 = .ok (.aload_n 0, 1) := by decide +kernel
theorem dX5_form_10 : decode cX5_form 10 = .ok (.getfield 16, 3) := by decide +kernel
theorem dX5_form_13 : decode cX5_form 13 = .ok (.getfield 50, 3) := by decide +kernel
theorem dX5_form_16 : decode cX5_form 16 = .ok (.iconst 1, 1) := by decide +kernel
theorem dX5_form_17 : decode cX5_form 17 = .ok (.isub, 1) := by decide +kernel
theorem dX5_form_18 : decode cX5_form 18 = .ok (.invokestatic 60, 3) := by decide +kernel
theorem dX5_form_21 : decode cX5_form 21 = .ok (.ifCond .eq 12, 3) := by decide +kernel
theorem dX5_form_24 : decode cX5_form 24 = .ok (.iload_n 3, 1) := by decide +kernel
theorem dX5_form_25 : decode cX5_form 25 = .ok (.iconst 0, 1) := by decide +kernel
theorem dX5_form_26 : decode cX5_form 26 = .ok (.iconst 1, 1) := by decide +kernel
theorem dX5_form_27 : decode cX5_form 27 = .ok (.invokestatic 60, 3) := by decide +kernel
theorem dX5_form_30 : decode cX5_form 30 = .ok (.ifCond .ne 13, 3) := by decide +kernel
theorem dX5_form_33 : decode cX5_form 33 = .ok (.new 64, 3) := by decide +kernel
theorem dX5_form_36 : decode cX5_form 36 = .ok (.dup, 1) := by decide +kernel
theorem dX5_form_37 : decode cX5_form 37 = .ok (.ldc 147, 2) := by decide +kernel
theorem dX5_form_39 : decode cX5_form 39 = .ok (.invokespecial 68, 3) := by decide +kernel
theorem dX5_form_42 : decode cX5_form 42 = .ok (.athrow, 1) := by decide +kernel
theorem dX5_form_43 : decode cX5_form 43 = .ok (.iload_n 3, 1) := by decide +kernel
theorem dX5_form_44 : decode cX5_form 44 = .ok (.ifCond .ne 12, 3) := by decide +kernel
theorem dX5_form_47 : decode cX5_form 47 = .ok (.aload_n 0, 1) := by decide +kernel
theorem dX5_form_48 : decode cX5_form 48 = .ok (.iload_n 1, 1) := by decide +kernel
theorem dX5_form_49 : decode cX5_form 49 = .ok (.iload_n 2, 1) := by decide +kernel
theorem dX5_form_50 : decode cX5_form 50 = .ok (.invokevirtual 149, 3) := by decide +kernel
theorem dX5_form_53 : decode cX5_form 53 = .ok (.goto 9, 3) := by decide +kernel
theorem dX5_form_56 : decode cX5_form 56 = .ok (.aload_n 0, 1) := by decide +kernel
theorem dX5_form_57 : decode cX5_form 57 = .ok (.iload_n 1, 1) := by decide +kernel
theorem dX5_form_58 : decode cX5_form 58 = .ok (.iload_n 2, 1) := by decide +kernel
theorem dX5_form_59 : decode cX5_form 59 = .ok (.invokevirtual 152, 3) := by decide +kernel
theorem dX5_form_62 : decode cX5_form 62 = .ok (.ireturn, 1) := by decide +kernel
theorem dX5_find_0 : decode cX5_find 0 = .ok (.iload_n 1, 1) := by decide +kernel
theorem dX5_find_1 : decode cX5_find 1 = .ok (.invokestatic 144, 3) := by decide +kernel
theorem dX5_find_4 : decode cX5_find 4 = .ok (.ifCond .eq 11, 3) := by decide +kernel
theorem dX5_find_7 : decode cX5_find 7 = .ok (.iload_n 2, 1) := by decide +kernel
theorem dX5_find_8 : decode cX5_find 8 = .ok (.iload_n 3, 1) := by decide +kernel
theorem dX5_find_9 : decode cX5_find 9 = .ok (.invokestatic 155, 3) := by decide +kernel
theorem dX5_find_12 : decode cX5_find 12 = .ok (.ifCond .ne 13, 3) := by decide +kernel
theorem dX5_find_15 : decode cX5_find 15 = .ok (.new 64, 3) := by decide +kernel
theorem dX5_find_18 : decode cX5_find 18 = .ok (.dup, 1) := by decide +kernel
theorem dX5_find_19 : decode cX5_find 19 = .ok (.ldc 159, 2) := by decide +kernel
theorem dX5_find_21 : decode cX5_find 21 = .ok (.invokespecial 68, 3) := by decide +kernel
theorem dX5_find_24 : decode cX5_find 24 = .ok (.athrow, 1) := by decide +kernel
theorem dX5_find_25 : decode cX5_find 25 = .ok (.aload_n 0, 1) := by decide +kernel
theorem dX5_find_26 : decode cX5_find 26 = .ok (.getfield 16, 3) := by decide +kernel
theorem dX5_find_29 : decode cX5_find 29 = .ok (.getfield 50, 3) := by decide +kernel
theorem dX5_find_32 : decode cX5_find 32 = .ok (.ifCond .ne 13, 3) := by decide +kernel
theorem dX5_find_35 : decode cX5_find 35 = .ok (.new 71, 3) := by decide +kernel
theorem dX5_find_38 : decode cX5_find 38 = .ok (.dup, 1) := by decide +kernel
theorem dX5_find_39 : decode cX5_find 39 = .ok (.ldc 161, 2) := by decide +kernel
theorem dX5_find_41 : decode cX5_find 41 = .ok (.invokespecial 75, 3) := by decide +kernel
theorem dX5_find_44 : decode cX5_find 44 = .ok (.athrow, 1) := by decide +kernel
theorem dX5_find_45 : decode cX5_find 45 = .ok (.aload_n 0, 1) := by decide +kernel
theorem dX5_find_46 : decode cX5_find 46 = .ok (.getfield 19, 3) := by decide +kernel
theorem dX5_find_49 : decode cX5_find 49 = .ok (.iconst 0, 1) := by decide +kernel
theorem dX5_find_50 : decode cX5_find 50 = .ok (.putfield 50, 3) := by decide +kernel
theorem dX5_find_53 : decode cX5_find 53 = .ok (.iconst 0, 1) := by decide +kernel
theorem dX5_find_54 : decode cX5_find 54 = .ok (.istore 4, 2) := by decide +kernel
theorem dX5_find_56 : decode cX5_find 56 = .ok (.iload 4, 2) := by decide +kernel
theorem dX5_find_58 : decode cX5_find 58 = .ok (.aload_n 0, 1) := by decide +kernel
theorem dX5_find_59 : decode cX5_find 59 = .ok (.getfield 16, 3) := by decide +kernel
theorem dX5_find_62 : decode cX5_find 62 = .ok (.getfield 50, 3) := by decide +kernel
theorem dX5_find_65 : decode cX5_find 65 = .ok (.if_icmp .ge 30, 3) := by decide +kernel
theorem dX5_find_68 : decode cX5_find 68 = .ok (.aload_n 0, 1) := by decide +kernel
theorem dX5_find_69 : decode cX5_find 69 = .ok (.getfield 19, 3) := by decide +kernel
theorem dX5_find_72 : decode cX5_find 72 = .ok (.aload_n 0, 1) := by decide +kernel
theorem dX5_find_73 : decode cX5_find 73 = .ok (.iload_n 1, 1) := by decide +kernel
theorem dX5_find_74 : decode cX5_find 74 = .ok (.iload 4, 2) := by decide +kernel
theorem dX5_find_76 : decode cX5_find 76 = .ok (.invokevirtual 149, 3) := by decide +kernel
theorem dX5_find_79 : decode cX5_find 79 = .ok (.aload_n 0, 1) := by decide +kernel
theorem dX5_find_80 : decode cX5_find 80 = .ok (.iload_n 1, 1) := by decide +kernel
theorem dX5_find_81 : decode cX5_find 81 = .ok (.iload 4, 2) := by decide +kernel
theorem dX5_find_83 : decode cX5_find 83 = .ok (.invokevirtual 152, 3) := by decide +kernel
theorem dX5_find_86 : decode cX5_find 86 = .ok (.invokevirtual 76, 3) := by decide +kernel
theorem dX5_find_89 : decode cX5_find 89 = .ok (.iinc 4 1, 3) := by decide +kernel
theorem dX5_find_92 : decode cX5_find 92 = .ok (.goto (-36), 3) := by decide +kernel
theorem dX5_find_95 : decode cX5_find 95 = .ok (.aload_n 0, 1) := by decide +kernel
theorem dX5_find_96 : decode cX5_find 96 = .ok (.iload_n 2, 1) := by decide +kernel
theorem dX5_find_97 : decode cX5_find 97 = .ok (.iload_n 3, 1) := by decide +kernel
theorem dX5_find_98 : decode cX5_find 98 = .ok (.invokevirtual 163, 3) := by decide +kernel
theorem dX5_find_101 : decode cX5_find 101 = .ok (.aload_n 0, 1) := by decide +kernel
theorem dX5_find_102 : decode cX5_find 102 = .ok (.getfield 39, 3) := by decide +kernel
theorem dX5_find_105 : decode cX5_find 105 = .ok (.getfield 55, 3) := by decide +kernel
theorem dX5_find_108 : decode cX5_find 108 = .ok (.ireturn, 1) := by decide +kernel
theorem dX5_answer_0 : decode cX5_answer 0 = .ok (.iload_n 1, 1) := by decide +kernel
theorem dX5_answer_1 : decode cX5_answer 1 = .ok (.iload_n 2, 1) := by decide +kernel
theorem dX5_answer_2 : decode cX5_answer 2 = .ok (.invokestatic 166, 3) := by decide +kernel
theorem dX5_answer_5 : decode cX5_answer 5 = .ok (.ifCond .eq 20, 3) := by decide +kernel
theorem dX5_answer_8 : decode cX5_answer 8 = .ok (.iload_n 3, 1) := by decide +kernel
theorem dX5_answer_9 : decode cX5_answer 9 = .ok (.iconst 0, 1) := by decide +kernel
theorem dX5_answer_10 : decode cX5_answer 10 = .ok (.aload_n 0, 1) := by decide +kernel
theorem dX5_answer_11 : decode cX5_answer 11 = .ok (.getfield 16, 3) := by decide +kernel
theorem dX5_answer_14 : decode cX5_answer 14 = .ok (.getfield 50, 3) := by decide +kernel
theorem dX5_answer_17 : decode cX5_answer 17 = .ok (.iconst 1, 1) := by decide +kernel
theorem dX5_answer_18 : decode cX5_answer 18 = .ok (.isub, 1) := by decide +kernel
theorem dX5_answer_19 : decode cX5_answer 19 = .ok (.invokestatic 60, 3) := by decide +kernel
theorem dX5_answer_22 : decode cX5_answer 22 = .ok (.ifCond .ne 13, 3) := by decide +kernel
theorem dX5_answer_25 : decode cX5_answer 25 = .ok (.new 64, 3) := by decide +kernel
theorem dX5_answer_28 : decode cX5_answer 28 = .ok (.dup, 1) := by decide +kernel
theorem dX5_answer_29 : decode cX5_answer 29 = .ok (.ldc 169, 2) := by decide +kernel
theorem dX5_answer_31 : decode cX5_answer 31 = .ok (.invokespecial 68, 3) := by decide +kernel
theorem dX5_answer_34 : decode cX5_answer 34 = .ok (.athrow, 1) := by decide +kernel
theorem dX5_answer_35 : decode cX5_answer 35 = .ok (.aload_n 0, 1) := by decide +kernel
theorem dX5_answer_36 : decode cX5_answer 36 = .ok (.iload_n 1, 1) := by decide +kernel
theorem dX5_answer_37 : decode cX5_answer 37 = .ok (.iload_n 2, 1) := by decide +kernel
theorem dX5_answer_38 : decode cX5_answer 38 = .ok (.iload_n 3, 1) := by decide +kernel
theorem dX5_answer_39 : decode cX5_answer 39 = .ok (.invokevirtual 171, 3) := by decide +kernel
theorem dX5_answer_42 : decode cX5_answer 42 = .ok (.ireturn, 1) := by decide +kernel
theorem dX5_entries_0 : decode cX5_entries 0 = .ok (.iload_n 1, 1) := by decide +kernel
theorem dX5_entries_1 : decode cX5_entries 1 = .ok (.iload_n 2, 1) := by decide +kernel
theorem dX5_entries_2 : decode cX5_entries 2 = .ok (.invokestatic 166, 3) := by decide +kernel
theorem dX5_entries_5 : decode cX5_entries 5 = .ok (.ifCond .ne 13, 3) := by decide +kernel
theorem dX5_entries_8 : decode cX5_entries 8 = .ok (.new 64, 3) := by decide +kernel
theorem dX5_entries_11 : decode cX5_entries 11 = .ok (.dup, 1) := by decide +kernel
theorem dX5_entries_12 : decode cX5_entries 12 = .ok (.ldc 174, 2) := by decide +kernel
theorem dX5_entries_14 : decode cX5_entries 14 = .ok (.invokespecial 68, 3) := by decide +kernel
theorem dX5_entries_17 : decode cX5_entries 17 = .ok (.athrow, 1) := by decide +kernel
theorem dX5_entries_18 : decode cX5_entries 18 = .ok (.aload_n 0, 1) := by decide +kernel
theorem dX5_entries_19 : decode cX5_entries 19 = .ok (.getfield 16, 3) := by decide +kernel
theorem dX5_entries_22 : decode cX5_entries 22 = .ok (.getfield 50, 3) := by decide +kernel
theorem dX5_entries_25 : decode cX5_entries 25 = .ok (.ifCond .ne 13, 3) := by decide +kernel
theorem dX5_entries_28 : decode cX5_entries 28 = .ok (.new 71, 3) := by decide +kernel
theorem dX5_entries_31 : decode cX5_entries 31 = .ok (.dup, 1) := by decide +kernel
theorem dX5_entries_32 : decode cX5_entries 32 = .ok (.ldc 161, 2) := by decide +kernel
theorem dX5_entries_34 : decode cX5_entries 34 = .ok (.invokespecial 75, 3) := by decide +kernel
theorem dX5_entries_37 : decode cX5_entries 37 = .ok (.athrow, 1) := by decide +kernel
theorem dX5_entries_38 : decode cX5_entries 38 = .ok (.aload_n 0, 1) := by decide +kernel
theorem dX5_entries_39 : decode cX5_entries 39 = .ok (.getfield 19, 3) := by decide +kernel
theorem dX5_entries_42 : decode cX5_entries 42 = .ok (.iconst 0, 1) := by decide +kernel
theorem dX5_entries_43 : decode cX5_entries 43 = .ok (.putfield 50, 3) := by decide +kernel
theorem dX5_entries_46 : decode cX5_entries 46 = .ok (.iconst 0, 1) := by decide +kernel
theorem dX5_entries_47 : decode cX5_entries 47 = .ok (.istore_n 3, 1) := by decide +kernel
theorem dX5_entries_48 : decode cX5_entries 48 = .ok (.iload_n 3, 1) := by decide +kernel
theorem dX5_entries_49 : decode cX5_entries 49 = .ok (.aload_n 0, 1) := by decide +kernel
theorem dX5_entries_50 : decode cX5_entries 50 = .ok (.getfield 16, 3) := by decide +kernel
theorem dX5_entries_53 : decode cX5_entries 53 = .ok (.getfield 50, 3) := by decide +kernel
theorem dX5_entries_56 : decode cX5_entries 56 = .ok (.if_icmp .ge 32, 3) := by decide +kernel
theorem dX5_entries_59 : decode cX5_entries 59 = .ok (.aload_n 0, 1) := by decide +kernel
theorem dX5_entries_60 : decode cX5_entries 60 = .ok (.getfield 19, 3) := by decide +kernel
theorem dX5_entries_63 : decode cX5_entries 63 = .ok (.aload_n 0, 1) := by decide +kernel
theorem dX5_entries_64 : decode cX5_entries 64 = .ok (.iload_n 1, 1) := by decide +kernel
theorem dX5_entries_65 : decode cX5_entries 65 = .ok (.iload_n 2, 1) := by decide +kernel
theorem dX5_entries_66 : decode cX5_entries 66 = .ok (.iload_n 3, 1) := by decide +kernel
theorem dX5_entries_67 : decode cX5_entries 67 = .ok (.invokevirtual 171, 3) := by decide +kernel
theorem dX5_entries_70 : decode cX5_entries 70 = .ok (.aload_n 0, 1) := by decide +kernel
theorem dX5_entries_71 : decode cX5_entries 71 = .ok (.getfield 16, 3) := by decide +kernel
theorem dX5_entries_74 : decode cX5_entries 74 = .ok (.getfield 141, 3) := by decide +kernel
theorem dX5_entries_77 : decode cX5_entries 77 = .ok (.iload_n 3, 1) := by decide +kernel
theorem dX5_entries_78 : decode cX5_entries 78 = .ok (.iaload, 1) := by decide +kernel
theorem dX5_entries_79 : decode cX5_entries 79 = .ok (.invokevirtual 76, 3) := by decide +kernel
theorem dX5_entries_82 : decode cX5_entries 82 = .ok (.iinc 3 1, 3) := by decide +kernel
theorem dX5_entries_85 : decode cX5_entries 85 = .ok (.goto (-37), 3) := by decide +kernel
theorem dX5_entries_88 : decode cX5_entries 88 = .ok (.aload_n 0, 1) := by decide +kernel
theorem dX5_entries_89 : decode cX5_entries 89 = .ok (.iconst 0, 1) := by decide +kernel
theorem dX5_entries_90 : decode cX5_entries 90 = .ok (.iconst 0, 1) := by decide +kernel
theorem dX5_entries_91 : decode cX5_entries 91 = .ok (.invokevirtual 163, 3) := by decide +kernel
theorem dX5_entries_94 : decode cX5_entries 94 = .ok (.aload_n 0, 1) := by decide +kernel
theorem dX5_entries_95 : decode cX5_entries 95 = .ok (.getfield 39, 3) := by decide +kernel
theorem dX5_entries_98 : decode cX5_entries 98 = .ok (.getfield 55, 3) := by decide +kernel
theorem dX5_entries_101 : decode cX5_entries 101 = .ok (.ireturn, 1) := by decide +kernel
theorem dX5_found_0 : decode cX5_found 0 = .ok (.iload_n 1, 1) := by decide +kernel
theorem dX5_found_1 : decode cX5_found 1 = .ok (.ifCond .ge 13, 3) := by decide +kernel
theorem dX5_found_4 : decode cX5_found 4 = .ok (.new 64, 3) := by decide +kernel
theorem dX5_found_7 : decode cX5_found 7 = .ok (.dup, 1) := by decide +kernel
theorem dX5_found_8 : decode cX5_found 8 = .ok (.ldc 176, 2) := by decide +kernel
theorem dX5_found_10 : decode cX5_found 10 = .ok (.invokespecial 68, 3) := by decide +kernel
theorem dX5_found_13 : decode cX5_found 13 = .ok (.athrow, 1) := by decide +kernel
theorem dX5_found_14 : decode cX5_found 14 = .ok (.iload_n 1, 1) := by decide +kernel
theorem dX5_found_15 : decode cX5_found 15 = .ok (.aload_n 0, 1) := by decide +kernel
theorem dX5_found_16 : decode cX5_found 16 = .ok (.getfield 39, 3) := by decide +kernel
theorem dX5_found_19 : decode cX5_found 19 = .ok (.getfield 55, 3) := by decide +kernel
theorem dX5_found_22 : decode cX5_found 22 = .ok (.if_icmp .ge 15, 3) := by decide +kernel
theorem dX5_found_25 : decode cX5_found 25 = .ok (.aload_n 0, 1) := by decide +kernel
theorem dX5_found_26 : decode cX5_found 26 = .ok (.getfield 39, 3) := by decide +kernel
theorem dX5_found_29 : decode cX5_found 29 = .ok (.getfield 178, 3) := by decide +kernel
theorem dX5_found_32 : decode cX5_found 32 = .ok (.iload_n 1, 1) := by decide +kernel
theorem dX5_found_33 : decode cX5_found 33 = .ok (.iaload, 1) := by decide +kernel
theorem dX5_found_34 : decode cX5_found 34 = .ok (.goto 4, 3) := by decide +kernel
theorem dX5_found_37 : decode cX5_found 37 = .ok (.iconst (-1), 1) := by decide +kernel
theorem dX5_found_38 : decode cX5_found 38 = .ok (.ireturn, 1) := by decide +kernel
theorem dX5_sections_0 : decode cX5_sections 0 = .ok (.iload_n 1, 1) := by decide +kernel
theorem dX5_sections_1 : decode cX5_sections 1 = .ok (.iconst 0, 1) := by decide +kernel
theorem dX5_sections_2 : decode cX5_sections 2 = .ok (.sipush 1000, 3) := by decide +kernel
theorem dX5_sections_5 : decode cX5_sections 5 = .ok (.invokestatic 60, 3) := by decide +kernel
theorem dX5_sections_8 : decode cX5_sections 8 = .ok (.ifCond .eq 13, 3) := by decide +kernel
theorem dX5_sections_11 : decode cX5_sections 11 = .ok (.iload_n 2, 1) := by decide +kernel
theorem dX5_sections_12 : decode cX5_sections 12 = .ok (.iconst 0, 1) := by decide +kernel
theorem dX5_sections_13 : decode cX5_sections 13 = .ok (.bipush 100, 2) := by decide +kernel
theorem dX5_sections_15 : decode cX5_sections 15 = .ok (.invokestatic 60, 3) := by decide +kernel
theorem dX5_sections_18 : decode cX5_sections 18 = .ok (.ifCond .ne 13, 3) := by decide +kernel
theorem dX5_sections_21 : decode cX5_sections 21 = .ok (.new 64, 3) := by decide +kernel
theorem dX5_sections_24 : decode cX5_sections 24 = .ok (.dup, 1) := by decide +kernel
theorem dX5_sections_25 : decode cX5_sections 25 = .ok (.ldc 181, 2) := by decide +kernel
theorem dX5_sections_27 : decode cX5_sections 27 = .ok (.invokespecial 68, 3) := by decide +kernel
theorem dX5_sections_30 : decode cX5_sections 30 = .ok (.athrow, 1) := by decide +kernel
theorem dX5_sections_31 : decode cX5_sections 31 = .ok (.aload_n 0, 1) := by decide +kernel
theorem dX5_sections_32 : decode cX5_sections 32 = .ok (.getfield 46, 3) := by decide +kernel
theorem dX5_sections_35 : decode cX5_sections 35 = .ok (.aload_n 0, 1) := by decide +kernel
theorem dX5_sections_36 : decode cX5_sections 36 = .ok (.getfield 10, 3) := by decide +kernel
theorem dX5_sections_39 : decode cX5_sections 39 = .ok (.iload_n 1, 1) := by decide +kernel
theorem dX5_sections_40 : decode cX5_sections 40 = .ok (.iload_n 2, 1) := by decide +kernel
theorem dX5_sections_41 : decode cX5_sections 41 = .ok (.invokevirtual 183, 3) := by decide +kernel
theorem dX5_sections_44 : decode cX5_sections 44 = .ok (.aload_n 0, 1) := by decide +kernel
theorem dX5_sections_45 : decode cX5_sections 45 = .ok (.getfield 46, 3) := by decide +kernel
theorem dX5_sections_48 : decode cX5_sections 48 = .ok (.getfield 56, 3) := by decide +kernel
theorem dX5_sections_51 : decode cX5_sections 51 = .ok (.ireturn, 1) := by decide +kernel
theorem dX5_section_0 : decode cX5_section 0 = .ok (.iload_n 1, 1) := by decide +kernel
theorem dX5_section_1 : decode cX5_section 1 = .ok (.ifCond .ge 13, 3) := by decide +kernel
theorem dX5_section_4 : decode cX5_section 4 = .ok (.new 64, 3) := by decide +kernel
theorem dX5_section_7 : decode cX5_section 7 = .ok (.dup, 1) := by decide +kernel
theorem dX5_section_8 : decode cX5_section 8 = .ok (.ldc 176, 2) := by decide +kernel
theorem dX5_section_10 : decode cX5_section 10 = .ok (.invokespecial 68, 3) := by decide +kernel
theorem dX5_section_13 : decode cX5_section 13 = .ok (.athrow, 1) := by decide +kernel
theorem dX5_section_14 : decode cX5_section 14 = .ok (.iload_n 1, 1) := by decide +kernel
theorem dX5_section_15 : decode cX5_section 15 = .ok (.aload_n 0, 1) := by decide +kernel
theorem dX5_section_16 : decode cX5_section 16 = .ok (.getfield 46, 3) := by decide +kernel
theorem dX5_section_19 : decode cX5_section 19 = .ok (.getfield 56, 3) := by decide +kernel
theorem dX5_section_22 : decode cX5_section 22 = .ok (.if_icmp .ge 15, 3) := by decide +kernel
theorem dX5_section_25 : decode cX5_section 25 = .ok (.aload_n 0, 1) := by decide +kernel
theorem dX5_section_26 : decode cX5_section 26 = .ok (.getfield 46, 3) := by decide +kernel
theorem dX5_section_29 : decode cX5_section 29 = .ok (.getfield 187, 3) := by decide +kernel
theorem dX5_section_32 : decode cX5_section 32 = .ok (.iload_n 1, 1) := by decide +kernel
theorem dX5_section_33 : decode cX5_section 33 = .ok (.iaload, 1) := by decide +kernel
theorem dX5_section_34 : decode cX5_section 34 = .ok (.goto 4, 3) := by decide +kernel
theorem dX5_section_37 : decode cX5_section 37 = .ok (.iconst (-1), 1) := by decide +kernel
theorem dX5_section_38 : decode cX5_section 38 = .ok (.ireturn, 1) := by decide +kernel
theorem dX5_of_0 : decode cX5_of 0 = .ok (.iload_n 1, 1) := by decide +kernel
theorem dX5_of_1 : decode cX5_of 1 = .ok (.tableswitch 75 0 4 #[35, 43, 51, 59, 67], 35) := by decide +kernel
theorem dX5_of_36 : decode cX5_of 36 = .ok (.aload_n 0, 1) := by decide +kernel
theorem dX5_of_37 : decode cX5_of 37 = .ok (.getfield 10, 3) := by decide +kernel
theorem dX5_of_40 : decode cX5_of 40 = .ok (.getfield 50, 3) := by decide +kernel
theorem dX5_of_43 : decode cX5_of 43 = .ok (.ireturn, 1) := by decide +kernel
theorem dX5_of_44 : decode cX5_of 44 = .ok (.aload_n 0, 1) := by decide +kernel
theorem dX5_of_45 : decode cX5_of 45 = .ok (.getfield 16, 3) := by decide +kernel
theorem dX5_of_48 : decode cX5_of 48 = .ok (.getfield 50, 3) := by decide +kernel
theorem dX5_of_51 : decode cX5_of 51 = .ok (.ireturn, 1) := by decide +kernel
theorem dX5_of_52 : decode cX5_of 52 = .ok (.aload_n 0, 1) := by decide +kernel
theorem dX5_of_53 : decode cX5_of 53 = .ok (.getfield 46, 3) := by decide +kernel
theorem dX5_of_56 : decode cX5_of 56 = .ok (.getfield 57, 3) := by decide +kernel
theorem dX5_of_59 : decode cX5_of 59 = .ok (.ireturn, 1) := by decide +kernel
theorem dX5_of_60 : decode cX5_of 60 = .ok (.aload_n 0, 1) := by decide +kernel
theorem dX5_of_61 : decode cX5_of 61 = .ok (.getfield 39, 3) := by decide +kernel
theorem dX5_of_64 : decode cX5_of 64 = .ok (.getfield 55, 3) := by decide +kernel
theorem dX5_of_67 : decode cX5_of 67 = .ok (.ireturn, 1) := by decide +kernel
theorem dX5_of_68 : decode cX5_of 68 = .ok (.aload_n 0, 1) := by decide +kernel
theorem dX5_of_69 : decode cX5_of 69 = .ok (.getfield 32, 3) := by decide +kernel
theorem dX5_of_72 : decode cX5_of 72 = .ok (.getfield 54, 3) := by decide +kernel
theorem dX5_of_75 : decode cX5_of 75 = .ok (.ireturn, 1) := by decide +kernel
theorem dX5_of_76 : decode cX5_of 76 = .ok (.new 64, 3) := by decide +kernel
theorem dX5_of_79 : decode cX5_of 79 = .ok (.dup, 1) := by decide +kernel
theorem dX5_of_80 : decode cX5_of 80 = .ok (.ldc 188, 2) := by decide +kernel
theorem dX5_of_82 : decode cX5_of 82 = .ok (.invokespecial 68, 3) := by decide +kernel
theorem dX5_of_85 : decode cX5_of 85 = .ok (.athrow, 1) := by decide +kernel
theorem dX5_isWithin_0 : decode cX5_isWithin 0 = .ok (.iload_n 0, 1) := by decide +kernel
theorem dX5_isWithin_1 : decode cX5_isWithin 1 = .ok (.iload_n 1, 1) := by decide +kernel
theorem dX5_isWithin_2 : decode cX5_isWithin 2 = .ok (.if_icmp .lt 12, 3) := by decide +kernel
theorem dX5_isWithin_5 : decode cX5_isWithin 5 = .ok (.iload_n 0, 1) := by decide +kernel
theorem dX5_isWithin_6 : decode cX5_isWithin 6 = .ok (.iload_n 2, 1) := by decide +kernel
theorem dX5_isWithin_7 : decode cX5_isWithin 7 = .ok (.if_icmp .gt 7, 3) := by decide +kernel
theorem dX5_isWithin_10 : decode cX5_isWithin 10 = .ok (.iconst 1, 1) := by decide +kernel
theorem dX5_isWithin_11 : decode cX5_isWithin 11 = .ok (.goto 4, 3) := by decide +kernel
theorem dX5_isWithin_14 : decode cX5_isWithin 14 = .ok (.iconst 0, 1) := by decide +kernel
theorem dX5_isWithin_15 : decode cX5_isWithin 15 = .ok (.ireturn, 1) := by decide +kernel
theorem dX5_isView_0 : decode cX5_isView 0 = .ok (.iload_n 0, 1) := by decide +kernel
theorem dX5_isView_1 : decode cX5_isView 1 = .ok (.iconst 0, 1) := by decide +kernel
theorem dX5_isView_2 : decode cX5_isView 2 = .ok (.iconst 4, 1) := by decide +kernel
theorem dX5_isView_3 : decode cX5_isView 3 = .ok (.invokestatic 60, 3) := by decide +kernel
theorem dX5_isView_6 : decode cX5_isView 6 = .ok (.ireturn, 1) := by decide +kernel
theorem dX5_isForm_0 : decode cX5_isForm 0 = .ok (.iload_n 0, 1) := by decide +kernel
theorem dX5_isForm_1 : decode cX5_isForm 1 = .ok (.iconst 0, 1) := by decide +kernel
theorem dX5_isForm_2 : decode cX5_isForm 2 = .ok (.iconst 3, 1) := by decide +kernel
theorem dX5_isForm_3 : decode cX5_isForm 3 = .ok (.invokestatic 60, 3) := by decide +kernel
theorem dX5_isForm_6 : decode cX5_isForm 6 = .ok (.ireturn, 1) := by decide +kernel
theorem dX5_isScale_0 : decode cX5_isScale 0 = .ok (.iload_n 0, 1) := by decide +kernel
theorem dX5_isScale_1 : decode cX5_isScale 1 = .ok (.ifCond .ne 11, 3) := by decide +kernel
theorem dX5_isScale_4 : decode cX5_isScale 4 = .ok (.iload_n 1, 1) := by decide +kernel
theorem dX5_isScale_5 : decode cX5_isScale 5 = .ok (.ifCond .ne 7, 3) := by decide +kernel
theorem dX5_isScale_8 : decode cX5_isScale 8 = .ok (.iconst 1, 1) := by decide +kernel
theorem dX5_isScale_9 : decode cX5_isScale 9 = .ok (.goto 4, 3) := by decide +kernel
theorem dX5_isScale_12 : decode cX5_isScale 12 = .ok (.iconst 0, 1) := by decide +kernel
theorem dX5_isScale_13 : decode cX5_isScale 13 = .ok (.istore_n 2, 1) := by decide +kernel
theorem dX5_isScale_14 : decode cX5_isScale 14 = .ok (.iload_n 2, 1) := by decide +kernel
theorem dX5_isScale_15 : decode cX5_isScale 15 = .ok (.ifCond .ne 23, 3) := by decide +kernel
theorem dX5_isScale_18 : decode cX5_isScale 18 = .ok (.iload_n 0, 1) := by decide +kernel
theorem dX5_isScale_19 : decode cX5_isScale 19 = .ok (.iconst 1, 1) := by decide +kernel
theorem dX5_isScale_20 : decode cX5_isScale 20 = .ok (.bipush 9, 2) := by decide +kernel
theorem dX5_isScale_22 : decode cX5_isScale 22 = .ok (.invokestatic 60, 3) := by decide +kernel
theorem dX5_isScale_25 : decode cX5_isScale 25 = .ok (.ifCond .eq 17, 3) := by decide +kernel
theorem dX5_isScale_28 : decode cX5_isScale 28 = .ok (.iload_n 1, 1) := by decide +kernel
theorem dX5_isScale_29 : decode cX5_isScale 29 = .ok (.iconst 1, 1) := by decide +kernel
theorem dX5_isScale_30 : decode cX5_isScale 30 = .ok (.bipush 9, 2) := by decide +kernel
theorem dX5_isScale_32 : decode cX5_isScale 32 = .ok (.invokestatic 60, 3) := by decide +kernel
theorem dX5_isScale_35 : decode cX5_isScale 35 = .ok (.ifCond .eq 7, 3) := by decide +kernel
theorem dX5_isScale_38 : decode cX5_isScale 38 = .ok (.iconst 1, 1) := by decide +kernel
theorem dX5_isScale_39 : decode cX5_isScale 39 = .ok (.goto 4, 3) := by decide +kernel
theorem dX5_isScale_42 : decode cX5_isScale 42 = .ok (.iconst 0, 1) := by decide +kernel
theorem dX5_isScale_43 : decode cX5_isScale 43 = .ok (.ireturn, 1) := by decide +kernel
theorem dX5_isKeyAndHead_0 : decode cX5_isKeyAndHead 0 = .ok (.iload_n 0, 1) := by decide +kernel
theorem dX5_isKeyAndHead_1 : decode cX5_isKeyAndHead 1 = .ok (.iconst 0, 1) := by decide +kernel
theorem dX5_isKeyAndHead_2 : decode cX5_isKeyAndHead 2 = .ok (.bipush 11, 2) := by decide +kernel
theorem dX5_isKeyAndHead_4 : decode cX5_isKeyAndHead 4 = .ok (.invokestatic 60, 3) := by decide +kernel
theorem dX5_isKeyAndHead_7 : decode cX5_isKeyAndHead 7 = .ok (.ifCond .eq 17, 3) := by decide +kernel
theorem dX5_isKeyAndHead_10 : decode cX5_isKeyAndHead 10 = .ok (.iload_n 1, 1) := by decide +kernel
theorem dX5_isKeyAndHead_11 : decode cX5_isKeyAndHead 11 = .ok (.iconst 0, 1) := by decide +kernel
theorem dX5_isKeyAndHead_12 : decode cX5_isKeyAndHead 12 = .ok (.bipush 12, 2) := by decide +kernel
theorem dX5_isKeyAndHead_14 : decode cX5_isKeyAndHead 14 = .ok (.invokestatic 60, 3) := by decide +kernel
theorem dX5_isKeyAndHead_17 : decode cX5_isKeyAndHead 17 = .ok (.ifCond .eq 7, 3) := by decide +kernel
theorem dX5_isKeyAndHead_20 : decode cX5_isKeyAndHead 20 = .ok (.iconst 1, 1) := by decide +kernel
theorem dX5_isKeyAndHead_21 : decode cX5_isKeyAndHead 21 = .ok (.goto 4, 3) := by decide +kernel
theorem dX5_isKeyAndHead_24 : decode cX5_isKeyAndHead 24 = .ok (.iconst 0, 1) := by decide +kernel
theorem dX5_isKeyAndHead_25 : decode cX5_isKeyAndHead 25 = .ok (.ireturn, 1) := by decide +kernel
theorem dX5_formPitch_0 : decode cX5_formPitch 0 = .ok (.aload_n 0, 1) := by decide +kernel
theorem dX5_formPitch_1 : decode cX5_formPitch 1 = .ok (.getfield 16, 3) := by decide +kernel
theorem dX5_formPitch_4 : decode cX5_formPitch 4 = .ok (.getfield 137, 3) := by decide +kernel
theorem dX5_formPitch_7 : decode cX5_formPitch 7 = .ok (.aload_n 0, 1) := by decide +kernel
theorem dX5_formPitch_8 : decode cX5_formPitch 8 = .ok (.iload_n 1, 1) := by decide +kernel
theorem dX5_formPitch_9 : decode cX5_formPitch 9 = .ok (.iload_n 2, 1) := by decide +kernel
theorem dX5_formPitch_10 : decode cX5_formPitch 10 = .ok (.invokevirtual 190, 3) := by decide +kernel
theorem dX5_formPitch_13 : decode cX5_formPitch 13 = .ok (.iaload, 1) := by decide +kernel
theorem dX5_formPitch_14 : decode cX5_formPitch 14 = .ok (.istore_n 3, 1) := by decide +kernel
theorem dX5_formPitch_15 : decode cX5_formPitch 15 = .ok (.iload_n 1, 1) := by decide +kernel
theorem dX5_formPitch_16 : decode cX5_formPitch 16 = .ok (.iconst 1, 1) := by decide +kernel
theorem dX5_formPitch_17 : decode cX5_formPitch 17 = .ok (.if_icmp .eq 8, 3) := by decide +kernel
theorem dX5_formPitch_20 : decode cX5_formPitch 20 = .ok (.iload_n 1, 1) := by decide +kernel
theorem dX5_formPitch_21 : decode cX5_formPitch 21 = .ok (.iconst 3, 1) := by decide +kernel
theorem dX5_formPitch_22 : decode cX5_formPitch 22 = .ok (.if_icmp .ne 7, 3) := by decide +kernel
theorem dX5_formPitch_25 : decode cX5_formPitch 25 = .ok (.iconst 1, 1) := by decide +kernel
theorem dX5_formPitch_26 : decode cX5_formPitch 26 = .ok (.goto 4, 3) := by decide +kernel
theorem dX5_formPitch_29 : decode cX5_formPitch 29 = .ok (.iconst 0, 1) := by decide +kernel
theorem dX5_formPitch_30 : decode cX5_formPitch 30 = .ok (.istore 4, 2) := by decide +kernel
theorem dX5_formPitch_32 : decode cX5_formPitch 32 = .ok (.iload 4, 2) := by decide +kernel
theorem dX5_formPitch_34 : decode cX5_formPitch 34 = .ok (.ifCond .eq 24, 3) := by decide +kernel
theorem dX5_formPitch_37 : decode cX5_formPitch 37 = .ok (.iconst 2, 1) := by decide +kernel
theorem dX5_formPitch_38 : decode cX5_formPitch 38 = .ok (.aload_n 0, 1) := by decide +kernel
theorem dX5_formPitch_39 : decode cX5_formPitch 39 = .ok (.getfield 16, 3) := by decide +kernel
theorem dX5_formPitch_42 : decode cX5_formPitch 42 = .ok (.getfield 137, 3) := by decide +kernel
theorem dX5_formPitch_45 : decode cX5_formPitch 45 = .ok (.aload_n 0, 1) := by decide +kernel
theorem dX5_formPitch_46 : decode cX5_formPitch 46 = .ok (.iload_n 1, 1) := by decide +kernel
theorem dX5_formPitch_47 : decode cX5_formPitch 47 = .ok (.iconst 0, 1) := by decide +kernel
theorem dX5_formPitch_48 : decode cX5_formPitch 48 = .ok (.invokevirtual 190, 3) := by decide +kernel
theorem dX5_formPitch_51 : decode cX5_formPitch 51 = .ok (.iaload, 1) := by decide +kernel
theorem dX5_formPitch_52 : decode cX5_formPitch 52 = .ok (.imul, 1) := by decide +kernel
theorem dX5_formPitch_53 : decode cX5_formPitch 53 = .ok (.iload_n 3, 1) := by decide +kernel
theorem dX5_formPitch_54 : decode cX5_formPitch 54 = .ok (.isub, 1) := by decide +kernel
theorem dX5_formPitch_55 : decode cX5_formPitch 55 = .ok (.goto 4, 3) := by decide +kernel
theorem dX5_formPitch_58 : decode cX5_formPitch 58 = .ok (.iload_n 3, 1) := by decide +kernel
theorem dX5_formPitch_59 : decode cX5_formPitch 59 = .ok (.ireturn, 1) := by decide +kernel
theorem dX5_formLength_0 : decode cX5_formLength 0 = .ok (.aload_n 0, 1) := by decide +kernel
theorem dX5_formLength_1 : decode cX5_formLength 1 = .ok (.getfield 16, 3) := by decide +kernel
theorem dX5_formLength_4 : decode cX5_formLength 4 = .ok (.getfield 141, 3) := by decide +kernel
theorem dX5_formLength_7 : decode cX5_formLength 7 = .ok (.aload_n 0, 1) := by decide +kernel
theorem dX5_formLength_8 : decode cX5_formLength 8 = .ok (.iload_n 1, 1) := by decide +kernel
theorem dX5_formLength_9 : decode cX5_formLength 9 = .ok (.iload_n 2, 1) := by decide +kernel
theorem dX5_formLength_10 : decode cX5_formLength 10 = .ok (.invokevirtual 190, 3) := by decide +kernel
theorem dX5_formLength_13 : decode cX5_formLength 13 = .ok (.iaload, 1) := by decide +kernel
theorem dX5_formLength_14 : decode cX5_formLength 14 = .ok (.ireturn, 1) := by decide +kernel
theorem dX5_placeInTheme_0 : decode cX5_placeInTheme 0 = .ok (.iload_n 1, 1) := by decide +kernel
theorem dX5_placeInTheme_1 : decode cX5_placeInTheme 1 = .ok (.iconst 2, 1) := by decide +kernel
theorem dX5_placeInTheme_2 : decode cX5_placeInTheme 2 = .ok (.if_icmp .eq 8, 3) := by decide +kernel
theorem dX5_placeInTheme_5 : decode cX5_placeInTheme 5 = .ok (.iload_n 1, 1) := by decide +kernel
theorem dX5_placeInTheme_6 : decode cX5_placeInTheme 6 = .ok (.iconst 3, 1) := by decide +kernel
theorem dX5_placeInTheme_7 : decode cX5_placeInTheme 7 = .ok (.if_icmp .ne 7, 3) := by decide +kernel
theorem dX5_placeInTheme_10 : decode cX5_placeInTheme 10 = .ok (.iconst 1, 1) := by decide +kernel
theorem dX5_placeInTheme_11 : decode cX5_placeInTheme 11 = .ok (.goto 4, 3) := by decide +kernel
theorem dX5_placeInTheme_14 : decode cX5_placeInTheme 14 = .ok (.iconst 0, 1) := by decide +kernel
theorem dX5_placeInTheme_15 : decode cX5_placeInTheme 15 = .ok (.istore_n 3, 1) := by decide +kernel
theorem dX5_placeInTheme_16 : decode cX5_placeInTheme 16 = .ok (.iload_n 3, 1) := by decide +kernel
theorem dX5_placeInTheme_17 : decode cX5_placeInTheme 17 = .ok (.ifCond .eq 17, 3) := by decide +kernel
theorem dX5_placeInTheme_20 : decode cX5_placeInTheme 20 = .ok (.aload_n 0, 1) := by decide +kernel
theorem dX5_placeInTheme_21 : decode cX5_placeInTheme 21 = .ok (.getfield 16, 3) := by decide +kernel
theorem dX5_placeInTheme_24 : decode cX5_placeInTheme 24 = .ok (.getfield 50, 3) := by decide +kernel
theorem dX5_placeInTheme_27 : decode cX5_placeInTheme 27 = .ok (.iconst 1, 1) := by decide +kernel
theorem dX5_placeInTheme_28 : decode cX5_placeInTheme 28 = .ok (.isub, 1) := by decide +kernel
theorem dX5_placeInTheme_29 : decode cX5_placeInTheme 29 = .ok (.iload_n 2, 1) := by decide +kernel
theorem dX5_placeInTheme_30 : decode cX5_placeInTheme 30 = .ok (.isub, 1) := by decide +kernel
theorem dX5_placeInTheme_31 : decode cX5_placeInTheme 31 = .ok (.goto 4, 3) := by decide +kernel
theorem dX5_placeInTheme_34 : decode cX5_placeInTheme 34 = .ok (.iload_n 2, 1) := by decide +kernel
theorem dX5_placeInTheme_35 : decode cX5_placeInTheme 35 = .ok (.ireturn, 1) := by decide +kernel
theorem dX5_answerPitch_0 : decode cX5_answerPitch 0 = .ok (.aload_n 0, 1) := by decide +kernel
theorem dX5_answerPitch_1 : decode cX5_answerPitch 1 = .ok (.getfield 16, 3) := by decide +kernel
theorem dX5_answerPitch_4 : decode cX5_answerPitch 4 = .ok (.getfield 137, 3) := by decide +kernel
theorem dX5_answerPitch_7 : decode cX5_answerPitch 7 = .ok (.iload_n 3, 1) := by decide +kernel
theorem dX5_answerPitch_8 : decode cX5_answerPitch 8 = .ok (.iaload, 1) := by decide +kernel
theorem dX5_answerPitch_9 : decode cX5_answerPitch 9 = .ok (.istore 4, 2) := by decide +kernel
theorem dX5_answerPitch_11 : decode cX5_answerPitch 11 = .ok (.iload_n 3, 1) := by decide +kernel
theorem dX5_answerPitch_12 : decode cX5_answerPitch 12 = .ok (.iload_n 2, 1) := by decide +kernel
theorem dX5_answerPitch_13 : decode cX5_answerPitch 13 = .ok (.if_icmp .ge 21, 3) := by decide +kernel
theorem dX5_answerPitch_16 : decode cX5_answerPitch 16 = .ok (.iload 4, 2) := by decide +kernel
theorem dX5_answerPitch_18 : decode cX5_answerPitch 18 = .ok (.iload_n 1, 1) := by decide +kernel
theorem dX5_answerPitch_19 : decode cX5_answerPitch 19 = .ok (.isub, 1) := by decide +kernel
theorem dX5_answerPitch_20 : decode cX5_answerPitch 20 = .ok (.bipush 12, 2) := by decide +kernel
theorem dX5_answerPitch_22 : decode cX5_answerPitch 22 = .ok (.invokestatic 193, 3) := by decide +kernel
theorem dX5_answerPitch_25 : decode cX5_answerPitch 25 = .ok (.bipush 7, 2) := by decide +kernel
theorem dX5_answerPitch_27 : decode cX5_answerPitch 27 = .ok (.if_icmp .ne 7, 3) := by decide +kernel
theorem dX5_answerPitch_30 : decode cX5_answerPitch 30 = .ok (.iconst 1, 1) := by decide +kernel
theorem dX5_answerPitch_31 : decode cX5_answerPitch 31 = .ok (.goto 4, 3) := by decide +kernel
theorem dX5_answerPitch_34 : decode cX5_answerPitch 34 = .ok (.iconst 0, 1) := by decide +kernel
theorem dX5_answerPitch_35 : decode cX5_answerPitch 35 = .ok (.istore 5, 2) := by decide +kernel
theorem dX5_answerPitch_37 : decode cX5_answerPitch 37 = .ok (.iload 4, 2) := by decide +kernel
theorem dX5_answerPitch_39 : decode cX5_answerPitch 39 = .ok (.iload 5, 2) := by decide +kernel
theorem dX5_answerPitch_41 : decode cX5_answerPitch 41 = .ok (.ifCond .eq 7, 3) := by decide +kernel
theorem dX5_answerPitch_44 : decode cX5_answerPitch 44 = .ok (.iconst 5, 1) := by decide +kernel
theorem dX5_answerPitch_45 : decode cX5_answerPitch 45 = .ok (.goto 5, 3) := by decide +kernel
theorem dX5_answerPitch_48 : decode cX5_answerPitch 48 = .ok (.bipush 7, 2) := by decide +kernel
theorem dX5_answerPitch_50 : decode cX5_answerPitch 50 = .ok (.iadd, 1) := by decide +kernel
theorem dX5_answerPitch_51 : decode cX5_answerPitch 51 = .ok (.ireturn, 1) := by decide +kernel
theorem dX5_lookForSought_0 : decode cX5_lookForSought 0 = .ok (.aload_n 0, 1) := by decide +kernel
theorem dX5_lookForSought_1 : decode cX5_lookForSought 1 = .ok (.getfield 39, 3) := by decide +kernel
theorem dX5_lookForSought_4 : decode cX5_lookForSought 4 = .ok (.iconst 0, 1) := by decide +kernel
theorem dX5_lookForSought_5 : decode cX5_lookForSought 5 = .ok (.putfield 55, 3) := by decide +kernel
theorem dX5_lookForSought_8 : decode cX5_lookForSought 8 = .ok (.iconst 0, 1) := by decide +kernel
theorem dX5_lookForSought_9 : decode cX5_lookForSought 9 = .ok (.istore_n 3, 1) := by decide +kernel
theorem dX5_lookForSought_10 : decode cX5_lookForSought 10 = .ok (.iload_n 3, 1) := by decide +kernel
theorem dX5_lookForSought_11 : decode cX5_lookForSought 11 = .ok (.aload_n 0, 1) := by decide +kernel
theorem dX5_lookForSought_12 : decode cX5_lookForSought 12 = .ok (.getfield 19, 3) := by decide +kernel
theorem dX5_lookForSought_15 : decode cX5_lookForSought 15 = .ok (.getfield 50, 3) := by decide +kernel
theorem dX5_lookForSought_18 : decode cX5_lookForSought 18 = .ok (.iadd, 1) := by decide +kernel
theorem dX5_lookForSought_19 : decode cX5_lookForSought 19 = .ok (.aload_n 0, 1) := by decide +kernel
theorem dX5_lookForSought_20 : decode cX5_lookForSought 20 = .ok (.getfield 10, 3) := by decide +kernel
theorem dX5_lookForSought_23 : decode cX5_lookForSought 23 = .ok (.getfield 50, 3) := by decide +kernel
theorem dX5_lookForSought_26 : decode cX5_lookForSought 26 = .ok (.if_icmp .gt 27, 3) := by decide +kernel
theorem dX5_lookForSought_29 : decode cX5_lookForSought 29 = .ok (.aload_n 0, 1) := by decide +kernel
theorem dX5_lookForSought_30 : decode cX5_lookForSought 30 = .ok (.iload_n 3, 1) := by decide +kernel
theorem dX5_lookForSought_31 : decode cX5_lookForSought 31 = .ok (.iload_n 1, 1) := by decide +kernel
theorem dX5_lookForSought_32 : decode cX5_lookForSought 32 = .ok (.iload_n 2, 1) := by decide +kernel
theorem dX5_lookForSought_33 : decode cX5_lookForSought 33 = .ok (.invokevirtual 198, 3) := by decide +kernel
theorem dX5_lookForSought_36 : decode cX5_lookForSought 36 = .ok (.ifCond .eq 11, 3) := by decide +kernel
theorem dX5_lookForSought_39 : decode cX5_lookForSought 39 = .ok (.aload_n 0, 1) := by decide +kernel
theorem dX5_lookForSought_40 : decode cX5_lookForSought 40 = .ok (.getfield 39, 3) := by decide +kernel
theorem dX5_lookForSought_43 : decode cX5_lookForSought 43 = .ok (.iload_n 3, 1) := by decide +kernel
theorem dX5_lookForSought_44 : decode cX5_lookForSought 44 = .ok (.invokevirtual 201, 3) := by decide +kernel
theorem dX5_lookForSought_47 : decode cX5_lookForSought 47 = .ok (.iinc 3 1, 3) := by decide +kernel
theorem dX5_lookForSought_50 : decode cX5_lookForSought 50 = .ok (.goto (-40), 3) := by decide +kernel
theorem dX5_lookForSought_53 : decode cX5_lookForSought 53 = .ok (.return_, 1) := by decide +kernel
theorem dX5_isSoughtAt_0 : decode cX5_isSoughtAt 0 = .ok (.iconst 0, 1) := by decide +kernel
theorem dX5_isSoughtAt_1 : decode cX5_isSoughtAt 1 = .ok (.istore 4, 2) := by decide +kernel
theorem dX5_isSoughtAt_3 : decode cX5_isSoughtAt 3 = .ok (.iload 4, 2) := by decide +kernel
theorem dX5_isSoughtAt_5 : decode cX5_isSoughtAt 5 = .ok (.aload_n 0, 1) := by decide +kernel
theorem dX5_isSoughtAt_6 : decode cX5_isSoughtAt 6 = .ok (.getfield 19, 3) := by decide +kernel
theorem dX5_isSoughtAt_9 : decode cX5_isSoughtAt 9 = .ok (.getfield 50, 3) := by decide +kernel
theorem dX5_isSoughtAt_12 : decode cX5_isSoughtAt 12 = .ok (.if_icmp .ge 70, 3) := by decide +kernel
theorem dX5_isSoughtAt_15 : decode cX5_isSoughtAt 15 = .ok (.iload 4, 2) := by decide +kernel
theorem dX5_isSoughtAt_17 : decode cX5_isSoughtAt 17 = .ok (.ifCond .le 28, 3) := by decide +kernel
theorem dX5_isSoughtAt_20 : decode cX5_isSoughtAt 20 = .ok (.aload_n 0, 1) := by decide +kernel
theorem dX5_isSoughtAt_21 : decode cX5_isSoughtAt 21 = .ok (.getfield 10, 3) := by decide +kernel
theorem dX5_isSoughtAt_24 : decode cX5_isSoughtAt 24 = .ok (.iload_n 1, 1) := by decide +kernel
theorem dX5_isSoughtAt_25 : decode cX5_isSoughtAt 25 = .ok (.iload 4, 2) := by decide +kernel
theorem dX5_isSoughtAt_27 : decode cX5_isSoughtAt 27 = .ok (.iadd, 1) := by decide +kernel
theorem dX5_isSoughtAt_28 : decode cX5_isSoughtAt 28 = .ok (.invokevirtual 204, 3) := by decide +kernel
theorem dX5_isSoughtAt_31 : decode cX5_isSoughtAt 31 = .ok (.aload_n 0, 1) := by decide +kernel
theorem dX5_isSoughtAt_32 : decode cX5_isSoughtAt 32 = .ok (.getfield 19, 3) := by decide +kernel
theorem dX5_isSoughtAt_35 : decode cX5_isSoughtAt 35 = .ok (.iload 4, 2) := by decide +kernel
theorem dX5_isSoughtAt_37 : decode cX5_isSoughtAt 37 = .ok (.invokevirtual 204, 3) := by decide +kernel
theorem dX5_isSoughtAt_40 : decode cX5_isSoughtAt 40 = .ok (.if_icmp .eq 5, 3) := by decide +kernel
theorem dX5_isSoughtAt_43 : decode cX5_isSoughtAt 43 = .ok (.iconst 0, 1) := by decide +kernel
theorem dX5_isSoughtAt_44 : decode cX5_isSoughtAt 44 = .ok (.ireturn, 1) := by decide +kernel
theorem dX5_isSoughtAt_45 : decode cX5_isSoughtAt 45 = .ok (.aload_n 0, 1) := by decide +kernel
theorem dX5_isSoughtAt_46 : decode cX5_isSoughtAt 46 = .ok (.getfield 10, 3) := by decide +kernel
theorem dX5_isSoughtAt_49 : decode cX5_isSoughtAt 49 = .ok (.getfield 141, 3) := by decide +kernel
theorem dX5_isSoughtAt_52 : decode cX5_isSoughtAt 52 = .ok (.iload_n 1, 1) := by decide +kernel
theorem dX5_isSoughtAt_53 : decode cX5_isSoughtAt 53 = .ok (.iload 4, 2) := by decide +kernel
theorem dX5_isSoughtAt_55 : decode cX5_isSoughtAt 55 = .ok (.iadd, 1) := by decide +kernel
theorem dX5_isSoughtAt_56 : decode cX5_isSoughtAt 56 = .ok (.iaload, 1) := by decide +kernel
theorem dX5_isSoughtAt_57 : decode cX5_isSoughtAt 57 = .ok (.iload_n 3, 1) := by decide +kernel
theorem dX5_isSoughtAt_58 : decode cX5_isSoughtAt 58 = .ok (.imul, 1) := by decide +kernel
theorem dX5_isSoughtAt_59 : decode cX5_isSoughtAt 59 = .ok (.aload_n 0, 1) := by decide +kernel
theorem dX5_isSoughtAt_60 : decode cX5_isSoughtAt 60 = .ok (.getfield 19, 3) := by decide +kernel
theorem dX5_isSoughtAt_63 : decode cX5_isSoughtAt 63 = .ok (.getfield 141, 3) := by decide +kernel
theorem dX5_isSoughtAt_66 : decode cX5_isSoughtAt 66 = .ok (.iload 4, 2) := by decide +kernel
theorem dX5_isSoughtAt_68 : decode cX5_isSoughtAt 68 = .ok (.iaload, 1) := by decide +kernel
theorem dX5_isSoughtAt_69 : decode cX5_isSoughtAt 69 = .ok (.iload_n 2, 1) := by decide +kernel
theorem dX5_isSoughtAt_70 : decode cX5_isSoughtAt 70 = .ok (.imul, 1) := by decide +kernel
theorem dX5_isSoughtAt_71 : decode cX5_isSoughtAt 71 = .ok (.if_icmp .eq 5, 3) := by decide +kernel
theorem dX5_isSoughtAt_74 : decode cX5_isSoughtAt 74 = .ok (.iconst 0, 1) := by decide +kernel
theorem dX5_isSoughtAt_75 : decode cX5_isSoughtAt 75 = .ok (.ireturn, 1) := by decide +kernel
theorem dX5_isSoughtAt_76 : decode cX5_isSoughtAt 76 = .ok (.iinc 4 1, 3) := by decide +kernel
theorem dX5_isSoughtAt_79 : decode cX5_isSoughtAt 79 = .ok (.goto (-76), 3) := by decide +kernel
theorem dX5_isSoughtAt_82 : decode cX5_isSoughtAt 82 = .ok (.iconst 1, 1) := by decide +kernel
theorem dX5_isSoughtAt_83 : decode cX5_isSoughtAt 83 = .ok (.ireturn, 1) := by decide +kernel
