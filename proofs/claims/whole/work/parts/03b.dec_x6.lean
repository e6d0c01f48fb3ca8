theorem dX6_init_0 : decode cX6_init 0 = .ok (.aload_n 0, 1) := by decide +kernel
theorem dX6_init_1 : decode cX6_init 1 = .ok (.invokespecial 1, 3) := by decide +kernel
theorem dX6_init_4 : decode cX6_init 4 = .ok (.aload_n 0, 1) := by decide +kernel
theorem dX6_init_5 : decode cX6_init 5 = .ok (.bipush 60, 2) := by decide +kernel
theorem dX6_init_7 : decode cX6_init 7 = .ok (.newarray .int, 2) := by decide +kernel
theorem dX6_init_9 : decode cX6_init 9 = .ok (.putfield 7, 3) := by decide +kernel
theorem dX6_init_12 : decode cX6_init 12 = .ok (.aload_n 0, 1) := by decide +kernel
theorem dX6_init_13 : decode cX6_init 13 = .ok (.bipush 60, 2) := by decide +kernel
theorem dX6_init_15 : decode cX6_init 15 = .ok (.newarray .int, 2) := by decide +kernel
theorem dX6_init_17 : decode cX6_init 17 = .ok (.putfield 13, 3) := by decide +kernel
theorem dX6_init_20 : decode cX6_init 20 = .ok (.aload_n 0, 1) := by decide +kernel
theorem dX6_init_21 : decode cX6_init 21 = .ok (.sipush 5400, 3) := by decide +kernel
theorem dX6_init_24 : decode cX6_init 24 = .ok (.newarray .int, 2) := by decide +kernel
theorem dX6_init_26 : decode cX6_init 26 = .ok (.putfield 16, 3) := by decide +kernel
theorem dX6_init_29 : decode cX6_init 29 = .ok (.aload_n 0, 1) := by decide +kernel
theorem dX6_init_30 : decode cX6_init 30 = .ok (.bipush 12, 2) := by decide +kernel
theorem dX6_init_32 : decode cX6_init 32 = .ok (.newarray .int, 2) := by decide +kernel
theorem dX6_init_34 : decode cX6_init 34 = .ok (.putfield 19, 3) := by decide +kernel
theorem dX6_init_37 : decode cX6_init 37 = .ok (.aload_n 0, 1) := by decide +kernel
theorem dX6_init_38 : decode cX6_init 38 = .ok (.bipush 12, 2) := by decide +kernel
theorem dX6_init_40 : decode cX6_init 40 = .ok (.newarray .int, 2) := by decide +kernel
theorem dX6_init_42 : decode cX6_init 42 = .ok (.putfield 22, 3) := by decide +kernel
theorem dX6_init_45 : decode cX6_init 45 = .ok (.aload_n 0, 1) := by decide +kernel
theorem dX6_init_46 : decode cX6_init 46 = .ok (.bipush 60, 2) := by decide +kernel
theorem dX6_init_48 : decode cX6_init 48 = .ok (.newarray .int, 2) := by decide +kernel
theorem dX6_init_50 : decode cX6_init 50 = .ok (.putfield 25, 3) := by decide +kernel
theorem dX6_init_53 : decode cX6_init 53 = .ok (.aload_n 0, 1) := by decide +kernel
theorem dX6_init_54 : decode cX6_init 54 = .ok (.bipush 60, 2) := by decide +kernel
theorem dX6_init_56 : decode cX6_init 56 = .ok (.newarray .int, 2) := by decide +kernel
theorem dX6_init_58 : decode cX6_init 58 = .ok (.putfield 28, 3) := by decide +kernel
theorem dX6_init_61 : decode cX6_init 61 = .ok (.aload_n 0, 1) := by decide +kernel
theorem dX6_init_62 : decode cX6_init 62 = .ok (.bipush 12, 2) := by decide +kernel
theorem dX6_init_64 : decode cX6_init 64 = .ok (.newarray .int, 2) := by decide +kernel
theorem dX6_init_66 : decode cX6_init 66 = .ok (.putfield 31, 3) := by decide +kernel
theorem dX6_init_69 : decode cX6_init 69 = .ok (.aload_n 0, 1) := by decide +kernel
theorem dX6_init_70 : decode cX6_init 70 = .ok (.bipush 61, 2) := by decide +kernel
theorem dX6_init_72 : decode cX6_init 72 = .ok (.newarray .int, 2) := by decide +kernel
theorem dX6_init_74 : decode cX6_init 74 = .ok (.putfield 34, 3) := by decide +kernel
theorem dX6_init_77 : decode cX6_init 77 = .ok (.aload_n 0, 1) := by decide +kernel
theorem dX6_init_78 : decode cX6_init 78 = .ok (.bipush 61, 2) := by decide +kernel
theorem dX6_init_80 : decode cX6_init 80 = .ok (.newarray .int, 2) := by decide +kernel
theorem dX6_init_82 : decode cX6_init 82 = .ok (.putfield 37, 3) := by decide +kernel
theorem dX6_init_85 : decode cX6_init 85 = .ok (.aload_n 0, 1) := by decide +kernel
theorem dX6_init_86 : decode cX6_init 86 = .ok (.bipush 61, 2) := by decide +kernel
theorem dX6_init_88 : decode cX6_init 88 = .ok (.newarray .int, 2) := by decide +kernel
theorem dX6_init_90 : decode cX6_init 90 = .ok (.putfield 40, 3) := by decide +kernel
theorem dX6_init_93 : decode cX6_init 93 = .ok (.aload_n 0, 1) := by decide +kernel
theorem dX6_init_94 : decode cX6_init 94 = .ok (.invokevirtual 43, 3) := by decide +kernel
theorem dX6_init_97 : decode cX6_init 97 = .ok (.return_, 1) := by decide +kernel
theorem dX6_thrown_0 : decode cX6_thrown 0 = .ok (.aload_n 0, 1) := by decide +kernel
theorem dX6_thrown_1 : decode cX6_thrown 1 = .ok (.getfield 46, 3) := by decide +kernel
theorem dX6_thrown_4 : decode cX6_thrown 4 = .ok (.ireturn, 1) := by decide +kernel
theorem dX6_begin_0 : decode cX6_begin 0 = .ok (.aload_n 0, 1) := by decide +kernel
theorem dX6_begin_1 : decode cX6_begin 1 = .ok (.iconst 0, 1) := by decide +kernel
theorem dX6_begin_2 : decode cX6_begin 2 = .ok (.putfield 50, 3) := by decide +kernel
theorem dX6_begin_5 : decode cX6_begin 5 = .ok (.aload_n 0, 1) := by decide +kernel
theorem dX6_begin_6 : decode cX6_begin 6 = .ok (.iconst 0, 1) := by decide +kernel
theorem dX6_begin_7 : decode cX6_begin 7 = .ok (.putfield 53, 3) := by decide +kernel
theorem dX6_begin_10 : decode cX6_begin 10 = .ok (.aload_n 0, 1) := by decide +kernel
theorem dX6_begin_11 : decode cX6_begin 11 = .ok (.iconst 0, 1) := by decide +kernel
theorem dX6_begin_12 : decode cX6_begin 12 = .ok (.putfield 56, 3) := by decide +kernel
theorem dX6_begin_15 : decode cX6_begin 15 = .ok (.aload_n 0, 1) := by decide +kernel
theorem dX6_begin_16 : decode cX6_begin 16 = .ok (.iconst 0, 1) := by decide +kernel
theorem dX6_begin_17 : decode cX6_begin 17 = .ok (.putfield 59, 3) := by decide +kernel
theorem dX6_begin_20 : decode cX6_begin 20 = .ok (.aload_n 0, 1) := by decide +kernel
theorem dX6_begin_21 : decode cX6_begin 21 = .ok (.iconst 0, 1) := by decide +kernel
theorem dX6_begin_22 : decode cX6_begin 22 = .ok (.putfield 62, 3) := by decide +kernel
theorem dX6_begin_25 : decode cX6_begin 25 = .ok (.aload_n 0, 1) := by decide +kernel
theorem dX6_begin_26 : decode cX6_begin 26 = .ok (.iconst 0, 1) := by decide +kernel
theorem dX6_begin_27 : decode cX6_begin 27 = .ok (.putfield 65, 3) := by decide +kernel
theorem dX6_begin_30 : decode cX6_begin 30 = .ok (.return_, 1) := by decide +kernel
theorem dX6_clear_0 : decode cX6_clear 0 = .ok (.aload_n 0, 1) := by decide +kernel
theorem dX6_clear_1 : decode cX6_clear 1 = .ok (.iconst 0, 1) := by decide +kernel
theorem dX6_clear_2 : decode cX6_clear 2 = .ok (.putfield 46, 3) := by decide +kernel
theorem dX6_clear_5 : decode cX6_clear 5 = .ok (.aload_n 0, 1) := by decide +kernel
theorem dX6_clear_6 : decode cX6_clear 6 = .ok (.getfield 50, 3) := by decide +kernel
theorem dX6_clear_9 : decode cX6_clear 9 = .ok (.istore_n 1, 1) := by decide +kernel
theorem dX6_clear_10 : decode cX6_clear 10 = .ok (.aload_n 0, 1) := by decide +kernel
theorem dX6_clear_11 : decode cX6_clear 11 = .ok (.invokevirtual 43, 3) := by decide +kernel
theorem dX6_clear_14 : decode cX6_clear 14 = .ok (.iload_n 1, 1) := by decide +kernel
theorem dX6_clear_15 : decode cX6_clear 15 = .ok (.ireturn, 1) := by decide +kernel
theorem dX6_isIn_0 : decode cX6_isIn 0 = .ok (.lload_n 0, 1) := by decide +kernel
theorem dX6_isIn_1 : decode cX6_isIn 1 = .ok (.lload_n 2, 1) := by decide +kernel
theorem dX6_isIn_2 : decode cX6_isIn 2 = .ok (.lcmp, 1) := by decide +kernel
theorem dX6_isIn_3 : decode cX6_isIn 3 = .ok (.ifCond .lt 14, 3) := by decide +kernel
theorem dX6_isIn_6 : decode cX6_isIn 6 = .ok (.lload_n 0, 1) := by decide +kernel
theorem dX6_isIn_7 : decode cX6_isIn 7 = .ok (.lload 4, 2) := by decide +kernel
theorem dX6_isIn_9 : decode cX6_isIn 9 = .ok (.lcmp, 1) := by decide +kernel
theorem dX6_isIn_10 : decode cX6_isIn 10 = .ok (.ifCond .gt 7, 3) := by decide +kernel
theorem dX6_isIn_13 : decode cX6_isIn 13 = .ok (.iconst 1, 1) := by decide +kernel
theorem dX6_isIn_14 : decode cX6_isIn 14 = .ok (.goto 4, 3) := by decide +kernel
theorem dX6_isIn_17 : decode cX6_isIn 17 = .ok (.iconst 0, 1) := by decide +kernel
theorem dX6_isIn_18 : decode cX6_isIn 18 = .ok (.ireturn, 1) := by decide +kernel
theorem dX6_goesOn_0 : decode cX6_goesOn 0 = .ok (.aload_n 0, 1) := by decide +kernel
theorem dX6_goesOn_1 : decode cX6_goesOn 1 = .ok (.getfield 46, 3) := by decide +kernel
theorem dX6_goesOn_4 : decode cX6_goesOn 4 = .ok (.ifCond .ne 12, 3) := by decide +kernel
theorem dX6_goesOn_7 : decode cX6_goesOn 7 = .ok (.iload_n 1, 1) := by decide +kernel
theorem dX6_goesOn_8 : decode cX6_goesOn 8 = .ok (.ifCond .ne 8, 3) := by decide +kernel
theorem dX6_goesOn_11 : decode cX6_goesOn 11 = .ok (.aload_n 0, 1) := by decide +kernel
theorem dX6_goesOn_12 : decode cX6_goesOn 12 = .ok (.iload_n 2, 1) := by decide +kernel
theorem dX6_goesOn_13 : decode cX6_goesOn 13 = .ok (.putfield 46, 3) := by decide +kernel
theorem dX6_goesOn_16 : decode cX6_goesOn 16 = .ok (.aload_n 0, 1) := by decide +kernel
theorem dX6_goesOn_17 : decode cX6_goesOn 17 = .ok (.getfield 46, 3) := by decide +kernel
theorem dX6_goesOn_20 : decode cX6_goesOn 20 = .ok (.ifCond .ne 7, 3) := by decide +kernel
theorem dX6_goesOn_23 : decode cX6_goesOn 23 = .ok (.iconst 1, 1) := by decide +kernel
theorem dX6_goesOn_24 : decode cX6_goesOn 24 = .ok (.goto 4, 3) := by decide +kernel
theorem dX6_goesOn_27 : decode cX6_goesOn 27 = .ok (.iconst 0, 1) := by decide +kernel
theorem dX6_goesOn_28 : decode cX6_goesOn 28 = .ok (.ireturn, 1) := by decide +kernel
theorem dX6_note_0 : decode cX6_note 0 = .ok (.aload_n 0, 1) := by decide +kernel
theorem dX6_note_1 : decode cX6_note 1 = .ok (.iconst 0, 1) := by decide +kernel
theorem dX6_note_2 : decode cX6_note 2 = .ok (.putfield 46, 3) := by decide +kernel
theorem dX6_note_5 : decode cX6_note 5 = .ok (.aload_n 0, 1) := by decide +kernel
theorem dX6_note_6 : decode cX6_note 6 = .ok (.iload_n 1, 1) := by decide +kernel
theorem dX6_note_7 : decode cX6_note 7 = .ok (.i2l, 1) := by decide +kernel
theorem dX6_note_8 : decode cX6_note 8 = .ok (.lconst 0, 1) := by decide +kernel
theorem dX6_note_9 : decode cX6_note 9 = .ok (.ldc2_w 68, 3) := by decide +kernel
theorem dX6_note_12 : decode cX6_note 12 = .ok (.invokestatic 70, 3) := by decide +kernel
theorem dX6_note_15 : decode cX6_note 15 = .ok (.ifCond .eq 19, 3) := by decide +kernel
theorem dX6_note_18 : decode cX6_note 18 = .ok (.iload_n 2, 1) := by decide +kernel
theorem dX6_note_19 : decode cX6_note 19 = .ok (.i2l, 1) := by decide +kernel
theorem dX6_note_20 : decode cX6_note 20 = .ok (.lconst 1, 1) := by decide +kernel
theorem dX6_note_21 : decode cX6_note 21 = .ok (.ldc2_w 74, 3) := by decide +kernel
theorem dX6_note_24 : decode cX6_note 24 = .ok (.invokestatic 70, 3) := by decide +kernel
theorem dX6_note_27 : decode cX6_note 27 = .ok (.ifCond .eq 7, 3) := by decide +kernel
theorem dX6_note_30 : decode cX6_note 30 = .ok (.iconst 1, 1) := by decide +kernel
theorem dX6_note_31 : decode cX6_note 31 = .ok (.goto 4, 3) := by decide +kernel
theorem dX6_note_34 : decode cX6_note 34 = .ok (.iconst 0, 1) := by decide +kernel
theorem dX6_note_35 : decode cX6_note 35 = .ok (.iconst 1, 1) := by decide +kernel
theorem dX6_note_36 : decode cX6_note 36 = .ok (.invokevirtual 76, 3) := by decide +kernel
theorem dX6_note_39 : decode cX6_note 39 = .ok (.ifCond .eq 29, 3) := by decide +kernel
theorem dX6_note_42 : decode cX6_note 42 = .ok (.aload_n 0, 1) := by decide +kernel
theorem dX6_note_43 : decode cX6_note 43 = .ok (.aload_n 0, 1) := by decide +kernel
theorem dX6_note_44 : decode cX6_note 44 = .ok (.getfield 50, 3) := by decide +kernel
theorem dX6_note_47 : decode cX6_note 47 = .ok (.bipush 60, 2) := by decide +kernel
theorem dX6_note_49 : decode cX6_note 49 = .ok (.if_icmp .ge 7, 3) := by decide +kernel
theorem dX6_note_52 : decode cX6_note 52 = .ok (.iconst 1, 1) := by decide +kernel
theorem dX6_note_53 : decode cX6_note 53 = .ok (.goto 4, 3) := by decide +kernel
theorem dX6_note_56 : decode cX6_note 56 = .ok (.iconst 0, 1) := by decide +kernel
theorem dX6_note_57 : decode cX6_note 57 = .ok (.iconst 2, 1) := by decide +kernel
theorem dX6_note_58 : decode cX6_note 58 = .ok (.invokevirtual 76, 3) := by decide +kernel
theorem dX6_note_61 : decode cX6_note 61 = .ok (.ifCond .eq 7, 3) := by decide +kernel
theorem dX6_note_64 : decode cX6_note 64 = .ok (.iconst 1, 1) := by decide +kernel
theorem dX6_note_65 : decode cX6_note 65 = .ok (.goto 4, 3) := by decide +kernel
theorem dX6_note_68 : decode cX6_note 68 = .ok (.iconst 0, 1) := by decide +kernel
theorem dX6_note_69 : decode cX6_note 69 = .ok (.istore_n 3, 1) := by decide +kernel
theorem dX6_note_70 : decode cX6_note 70 = .ok (.iload_n 3, 1) := by decide +kernel
theorem dX6_note_71 : decode cX6_note 71 = .ok (.ifCond .ne 5, 3) := by decide +kernel
theorem dX6_note_74 : decode cX6_note 74 = .ok (.iconst 0, 1) := by decide +kernel
theorem dX6_note_75 : decode cX6_note 75 = .ok (.ireturn, 1) := by decide +kernel
theorem dX6_note_76 : decode cX6_note 76 = .ok (.aload_n 0, 1) := by decide +kernel
theorem dX6_note_77 : decode cX6_note 77 = .ok (.getfield 7, 3) := by decide +kernel
theorem dX6_note_80 : decode cX6_note 80 = .ok (.aload_n 0, 1) := by decide +kernel
theorem dX6_note_81 : decode cX6_note 81 = .ok (.getfield 50, 3) := by decide +kernel
theorem dX6_note_84 : decode cX6_note 84 = .ok (.iload_n 1, 1) := by decide +kernel
theorem dX6_note_85 : decode cX6_note 85 = .ok (.iastore, 1) := by decide +kernel
theorem dX6_note_86 : decode cX6_note 86 = .ok (.aload_n 0, 1) := by decide +kernel
theorem dX6_note_87 : decode cX6_note 87 = .ok (.getfield 13, 3) := by decide +kernel
theorem dX6_note_90 : decode cX6_note 90 = .ok (.aload_n 0, 1) := by decide +kernel
theorem dX6_note_91 : decode cX6_note 91 = .ok (.getfield 50, 3) := by decide +kernel
theorem dX6_note_94 : decode cX6_note 94 = .ok (.iload_n 2, 1) := by decide +kernel
theorem dX6_note_95 : decode cX6_note 95 = .ok (.iastore, 1) := by decide +kernel
theorem dX6_note_96 : decode cX6_note 96 = .ok (.aload_n 0, 1) := by decide +kernel
theorem dX6_note_97 : decode cX6_note 97 = .ok (.dup, 1) := by decide +kernel
theorem dX6_note_98 : decode cX6_note 98 = .ok (.getfield 50, 3) := by decide +kernel
theorem dX6_note_101 : decode cX6_note 101 = .ok (.iconst 1, 1) := by decide +kernel
theorem dX6_note_102 : decode cX6_note 102 = .ok (.iadd, 1) := by decide +kernel
theorem dX6_note_103 : decode cX6_note 103 = .ok (.putfield 50, 3) := by decide +kernel
theorem dX6_note_106 : decode cX6_note 106 = .ok (.aload_n 0, 1) := by decide +kernel
theorem dX6_note_107 : decode cX6_note 107 = .ok (.getfield 50, 3) := by decide +kernel
theorem dX6_note_110 : decode cX6_note 110 = .ok (.iconst 1, 1) := by decide +kernel
theorem dX6_note_111 : decode cX6_note 111 = .ok (.isub, 1) := by decide +kernel
theorem dX6_note_112 : decode cX6_note 112 = .ok (.ireturn, 1) := by decide +kernel
theorem dX6_drop_0 : decode cX6_drop 0 = .ok (.aload_n 0, 1) := by decide +kernel
theorem dX6_drop_1 : decode cX6_drop 1 = .ok (.iconst 0, 1) := by decide +kernel
theorem dX6_drop_2 : decode cX6_drop 2 = .ok (.putfield 46, 3) := by decide +kernel
theorem dX6_drop_5 : decode cX6_drop 5 = .ok (.aload_n 0, 1) := by decide +kernel
theorem dX6_drop_6 : decode cX6_drop 6 = .ok (.iload_n 1, 1) := by decide +kernel
theorem dX6_drop_7 : decode cX6_drop 7 = .ok (.i2l, 1) := by decide +kernel
theorem dX6_drop_8 : decode cX6_drop 8 = .ok (.lconst 0, 1) := by decide +kernel
theorem dX6_drop_9 : decode cX6_drop 9 = .ok (.aload_n 0, 1) := by decide +kernel
theorem dX6_drop_10 : decode cX6_drop 10 = .ok (.getfield 50, 3) := by decide +kernel
theorem dX6_drop_13 : decode cX6_drop 13 = .ok (.i2l, 1) := by decide +kernel
theorem dX6_drop_14 : decode cX6_drop 14 = .ok (.invokestatic 70, 3) := by decide +kernel
theorem dX6_drop_17 : decode cX6_drop 17 = .ok (.iconst 1, 1) := by decide +kernel
theorem dX6_drop_18 : decode cX6_drop 18 = .ok (.invokevirtual 76, 3) := by decide +kernel
theorem dX6_drop_21 : decode cX6_drop 21 = .ok (.ifCond .ne 5, 3) := by decide +kernel
theorem dX6_drop_24 : decode cX6_drop 24 = .ok (.iconst 0, 1) := by decide +kernel
theorem dX6_drop_25 : decode cX6_drop 25 = .ok (.ireturn, 1) := by decide +kernel
theorem dX6_drop_26 : decode cX6_drop 26 = .ok (.aload_n 0, 1) := by decide +kernel
theorem dX6_drop_27 : decode cX6_drop 27 = .ok (.dup, 1) := by decide +kernel
theorem dX6_drop_28 : decode cX6_drop 28 = .ok (.getfield 50, 3) := by decide +kernel
theorem dX6_drop_31 : decode cX6_drop 31 = .ok (.iload_n 1, 1) := by decide +kernel
theorem dX6_drop_32 : decode cX6_drop 32 = .ok (.isub, 1) := by decide +kernel
theorem dX6_drop_33 : decode cX6_drop 33 = .ok (.putfield 50, 3) := by decide +kernel
theorem dX6_drop_36 : decode cX6_drop 36 = .ok (.aload_n 0, 1) := by decide +kernel
theorem dX6_drop_37 : decode cX6_drop 37 = .ok (.getfield 50, 3) := by decide +kernel
theorem dX6_drop_40 : decode cX6_drop 40 = .ok (.ireturn, 1) := by decide +kernel
theorem dX6_many_0 : decode cX6_many 0 = .ok (.iload_n 1, 1) := by decide +kernel
theorem dX6_many_1 : decode cX6_many 1 = .ok (.iconst 1, 1) := by decide +kernel
theorem dX6_many_2 : decode cX6_many 2 = .ok (.if_icmp .eq 8, 3) := by decide +kernel
theorem dX6_many_5 : decode cX6_many 5 = .ok (.iload_n 1, 1) := by decide +kernel
theorem dX6_many_6 : decode cX6_many 6 = .ok (.iconst 2, 1) := by decide +kernel
theorem dX6_many_7 : decode cX6_many 7 = .ok (.if_icmp .ne 23, 3) := by decide +kernel
theorem dX6_many_10 : decode cX6_many 10 = .ok (.aload_n 0, 1) := by decide +kernel
theorem dX6_many_11 : decode cX6_many 11 = .ok (.getfield 50, 3) := by decide +kernel
theorem dX6_many_14 : decode cX6_many 14 = .ok (.ifCond .le 12, 3) := by decide +kernel
theorem dX6_many_17 : decode cX6_many 17 = .ok (.aload_n 0, 1) := by decide +kernel
theorem dX6_many_18 : decode cX6_many 18 = .ok (.getfield 50, 3) := by decide +kernel
theorem dX6_many_21 : decode cX6_many 21 = .ok (.iconst 1, 1) := by decide +kernel
theorem dX6_many_22 : decode cX6_many 22 = .ok (.isub, 1) := by decide +kernel
theorem dX6_many_23 : decode cX6_many 23 = .ok (.goto 11, 3) := by decide +kernel
theorem dX6_many_26 : decode cX6_many 26 = .ok (.iconst 0, 1) := by decide +kernel
theorem dX6_many_27 : decode cX6_many 27 = .ok (.goto 7, 3) := by decide +kernel
theorem dX6_many_30 : decode cX6_many 30 = .ok (.aload_n 0, 1) := by decide +kernel
theorem dX6_many_31 : decode cX6_many 31 = .ok (.getfield 50, 3) := by decide +kernel
theorem dX6_many_34 : decode cX6_many 34 = .ok (.ireturn, 1) := by decide +kernel
theorem dX6_itemOf_0 : decode cX6_itemOf 0 = .ok (.iload_n 1, 1) := by decide +kernel
theorem dX6_itemOf_1 : decode cX6_itemOf 1 = .ok (.tableswitch 105 0 3 #[31, 38, 54, 98], 31) := by decide +kernel
theorem dX6_itemOf_32 : decode cX6_itemOf 32 = .ok (.aload_n 0, 1) := by decide +kernel
theorem dX6_itemOf_33 : decode cX6_itemOf 33 = .ok (.getfield 7, 3) := by decide +kernel
theorem dX6_itemOf_36 : decode cX6_itemOf 36 = .ok (.iload_n 2, 1) := by decide +kernel
theorem dX6_itemOf_37 : decode cX6_itemOf 37 = .ok (.iaload, 1) := by decide +kernel
theorem dX6_itemOf_38 : decode cX6_itemOf 38 = .ok (.ireturn, 1) := by decide +kernel
theorem dX6_itemOf_39 : decode cX6_itemOf 39 = .ok (.aload_n 0, 1) := by decide +kernel
theorem dX6_itemOf_40 : decode cX6_itemOf 40 = .ok (.getfield 7, 3) := by decide +kernel
theorem dX6_itemOf_43 : decode cX6_itemOf 43 = .ok (.iload_n 2, 1) := by decide +kernel
theorem dX6_itemOf_44 : decode cX6_itemOf 44 = .ok (.iconst 1, 1) := by decide +kernel
theorem dX6_itemOf_45 : decode cX6_itemOf 45 = .ok (.iadd, 1) := by decide +kernel
theorem dX6_itemOf_46 : decode cX6_itemOf 46 = .ok (.iaload, 1) := by decide +kernel
theorem dX6_itemOf_47 : decode cX6_itemOf 47 = .ok (.aload_n 0, 1) := by decide +kernel
theorem dX6_itemOf_48 : decode cX6_itemOf 48 = .ok (.getfield 7, 3) := by decide +kernel
theorem dX6_itemOf_51 : decode cX6_itemOf 51 = .ok (.iload_n 2, 1) := by decide +kernel
theorem dX6_itemOf_52 : decode cX6_itemOf 52 = .ok (.iaload, 1) := by decide +kernel
theorem dX6_itemOf_53 : decode cX6_itemOf 53 = .ok (.isub, 1) := by decide +kernel
theorem dX6_itemOf_54 : decode cX6_itemOf 54 = .ok (.ireturn, 1) := by decide +kernel
theorem dX6_itemOf_55 : decode cX6_itemOf 55 = .ok (.aload_n 0, 1) := by decide +kernel
theorem dX6_itemOf_56 : decode cX6_itemOf 56 = .ok (.getfield 7, 3) := by decide +kernel
theorem dX6_itemOf_59 : decode cX6_itemOf 59 = .ok (.iload_n 2, 1) := by decide +kernel
theorem dX6_itemOf_60 : decode cX6_itemOf 60 = .ok (.iconst 1, 1) := by decide +kernel
theorem dX6_itemOf_61 : decode cX6_itemOf 61 = .ok (.iadd, 1) := by decide +kernel
theorem dX6_itemOf_62 : decode cX6_itemOf 62 = .ok (.iaload, 1) := by decide +kernel
theorem dX6_itemOf_63 : decode cX6_itemOf 63 = .ok (.aload_n 0, 1) := by decide +kernel
theorem dX6_itemOf_64 : decode cX6_itemOf 64 = .ok (.getfield 7, 3) := by decide +kernel
theorem dX6_itemOf_67 : decode cX6_itemOf 67 = .ok (.iload_n 2, 1) := by decide +kernel
theorem dX6_itemOf_68 : decode cX6_itemOf 68 = .ok (.iaload, 1) := by decide +kernel
theorem dX6_itemOf_69 : decode cX6_itemOf 69 = .ok (.if_icmp .le 7, 3) := by decide +kernel
theorem dX6_itemOf_72 : decode cX6_itemOf 72 = .ok (.iconst 1, 1) := by decide +kernel
theorem dX6_itemOf_73 : decode cX6_itemOf 73 = .ok (.goto 25, 3) := by decide +kernel
theorem dX6_itemOf_76 : decode cX6_itemOf 76 = .ok (.aload_n 0, 1) := by decide +kernel
theorem dX6_itemOf_77 : decode cX6_itemOf 77 = .ok (.getfield 7, 3) := by decide +kernel
theorem dX6_itemOf_80 : decode cX6_itemOf 80 = .ok (.iload_n 2, 1) := by decide +kernel
theorem dX6_itemOf_81 : decode cX6_itemOf 81 = .ok (.iconst 1, 1) := by decide +kernel
theorem dX6_itemOf_82 : decode cX6_itemOf 82 = .ok (.iadd, 1) := by decide +kernel
theorem dX6_itemOf_83 : decode cX6_itemOf 83 = .ok (.iaload, 1) := by decide +kernel
theorem dX6_itemOf_84 : decode cX6_itemOf 84 = .ok (.aload_n 0, 1) := by decide +kernel
theorem dX6_itemOf_85 : decode cX6_itemOf 85 = .ok (.getfield 7, 3) := by decide +kernel
theorem dX6_itemOf_88 : decode cX6_itemOf 88 = .ok (.iload_n 2, 1) := by decide +kernel
theorem dX6_itemOf_89 : decode cX6_itemOf 89 = .ok (.iaload, 1) := by decide +kernel
theorem dX6_itemOf_90 : decode cX6_itemOf 90 = .ok (.if_icmp .ge 7, 3) := by decide +kernel
theorem dX6_itemOf_93 : decode cX6_itemOf 93 = .ok (.iconst (-1), 1) := by decide +kernel
theorem dX6_itemOf_94 : decode cX6_itemOf 94 = .ok (.goto 4, 3) := by decide +kernel
theorem dX6_itemOf_97 : decode cX6_itemOf 97 = .ok (.iconst 0, 1) := by decide +kernel
theorem dX6_itemOf_98 : decode cX6_itemOf 98 = .ok (.ireturn, 1) := by decide +kernel
theorem dX6_itemOf_99 : decode cX6_itemOf 99 = .ok (.aload_n 0, 1) := by decide +kernel
theorem dX6_itemOf_100 : decode cX6_itemOf 100 = .ok (.getfield 13, 3) := by decide +kernel
theorem dX6_itemOf_103 : decode cX6_itemOf 103 = .ok (.iload_n 2, 1) := by decide +kernel
theorem dX6_itemOf_104 : decode cX6_itemOf 104 = .ok (.iaload, 1) := by decide +kernel
theorem dX6_itemOf_105 : decode cX6_itemOf 105 = .ok (.ireturn, 1) := by decide +kernel
theorem dX6_itemOf_106 : decode cX6_itemOf 106 = .ok (.sipush 1000, 3) := by decide +kernel
theorem dX6_itemOf_109 : decode cX6_itemOf 109 = .ok (.aload_n 0, 1) := by decide +kernel
theorem dX6_itemOf_110 : decode cX6_itemOf 110 = .ok (.getfield 7, 3) := by decide +kernel
theorem dX6_itemOf_113 : decode cX6_itemOf 113 = .ok (.iload_n 2, 1) := by decide +kernel
theorem dX6_itemOf_114 : decode cX6_itemOf 114 = .ok (.iaload, 1) := by decide +kernel
theorem dX6_itemOf_115 : decode cX6_itemOf 115 = .ok (.imul, 1) := by decide +kernel
theorem dX6_itemOf_116 : decode cX6_itemOf 116 = .ok (.aload_n 0, 1) := by decide +kernel
theorem dX6_itemOf_117 : decode cX6_itemOf 117 = .ok (.getfield 13, 3) := by decide +kernel
theorem dX6_itemOf_120 : decode cX6_itemOf 120 = .ok (.iload_n 2, 1) := by decide +kernel
theorem dX6_itemOf_121 : decode cX6_itemOf 121 = .ok (.iaload, 1) := by decide +kernel
theorem dX6_itemOf_122 : decode cX6_itemOf 122 = .ok (.iadd, 1) := by decide +kernel
theorem dX6_itemOf_123 : decode cX6_itemOf 123 = .ok (.ireturn, 1) := by decide +kernel
theorem dX6_isView_0 : decode cX6_isView 0 = .ok (.iload_n 0, 1) := by decide +kernel
theorem dX6_isView_1 : decode cX6_isView 1 = .ok (.i2l, 1) := by decide +kernel
theorem dX6_isView_2 : decode cX6_isView 2 = .ok (.lconst 0, 1) := by decide +kernel
theorem dX6_isView_3 : decode cX6_isView 3 = .ok (.ldc2_w 80, 3) := by decide +kernel
theorem dX6_isView_6 : decode cX6_isView 6 = .ok (.invokestatic 70, 3) := by decide +kernel
theorem dX6_isView_9 : decode cX6_isView 9 = .ok (.ireturn, 1) := by decide +kernel
theorem dX6_items_0 : decode cX6_items 0 = .ok (.aload_n 0, 1) := by decide +kernel
theorem dX6_items_1 : decode cX6_items 1 = .ok (.iconst 0, 1) := by decide +kernel
theorem dX6_items_2 : decode cX6_items 2 = .ok (.putfield 46, 3) := by decide +kernel
theorem dX6_items_5 : decode cX6_items 5 = .ok (.aload_n 0, 1) := by decide +kernel
theorem dX6_items_6 : decode cX6_items 6 = .ok (.iload_n 1, 1) := by decide +kernel
theorem dX6_items_7 : decode cX6_items 7 = .ok (.invokestatic 82, 3) := by decide +kernel
theorem dX6_items_10 : decode cX6_items 10 = .ok (.iconst 1, 1) := by decide +kernel
theorem dX6_items_11 : decode cX6_items 11 = .ok (.invokevirtual 76, 3) := by decide +kernel
theorem dX6_items_14 : decode cX6_items 14 = .ok (.ifCond .eq 11, 3) := by decide +kernel
theorem dX6_items_17 : decode cX6_items 17 = .ok (.aload_n 0, 1) := by decide +kernel
theorem dX6_items_18 : decode cX6_items 18 = .ok (.iload_n 1, 1) := by decide +kernel
theorem dX6_items_19 : decode cX6_items 19 = .ok (.invokevirtual 86, 3) := by decide +kernel
theorem dX6_items_22 : decode cX6_items 22 = .ok (.goto 4, 3) := by decide +kernel
theorem dX6_items_25 : decode cX6_items 25 = .ok (.iconst 0, 1) := by decide +kernel
theorem dX6_items_26 : decode cX6_items 26 = .ok (.ireturn, 1) := by decide +kernel
theorem dX6_item_0 : decode cX6_item 0 = .ok (.aload_n 0, 1) := by decide +kernel
theorem dX6_item_1 : decode cX6_item 1 = .ok (.iconst 0, 1) := by decide +kernel
theorem dX6_item_2 : decode cX6_item 2 = .ok (.putfield 46, 3) := by decide +kernel
theorem dX6_item_5 : decode cX6_item 5 = .ok (.aload_n 0, 1) := by decide +kernel
theorem dX6_item_6 : decode cX6_item 6 = .ok (.iload_n 1, 1) := by decide +kernel
theorem dX6_item_7 : decode cX6_item 7 = .ok (.invokestatic 82, 3) := by decide +kernel
theorem dX6_item_10 : decode cX6_item 10 = .ok (.ifCond .eq 24, 3) := by decide +kernel
theorem dX6_item_13 : decode cX6_item 13 = .ok (.iload_n 2, 1) := by decide +kernel
theorem dX6_item_14 : decode cX6_item 14 = .ok (.i2l, 1) := by decide +kernel
theorem dX6_item_15 : decode cX6_item 15 = .ok (.lconst 0, 1) := by decide +kernel
theorem dX6_item_16 : decode cX6_item 16 = .ok (.aload_n 0, 1) := by decide +kernel
theorem dX6_item_17 : decode cX6_item 17 = .ok (.iload_n 1, 1) := by decide +kernel
theorem dX6_item_18 : decode cX6_item 18 = .ok (.invokevirtual 86, 3) := by decide +kernel
theorem dX6_item_21 : decode cX6_item 21 = .ok (.iconst 1, 1) := by decide +kernel
theorem dX6_item_22 : decode cX6_item 22 = .ok (.isub, 1) := by decide +kernel
theorem dX6_item_23 : decode cX6_item 23 = .ok (.i2l, 1) := by decide +kernel
theorem dX6_item_24 : decode cX6_item 24 = .ok (.invokestatic 70, 3) := by decide +kernel
theorem dX6_item_27 : decode cX6_item 27 = .ok (.ifCond .eq 7, 3) := by decide +kernel
theorem dX6_item_30 : decode cX6_item 30 = .ok (.iconst 1, 1) := by decide +kernel
theorem dX6_item_31 : decode cX6_item 31 = .ok (.goto 4, 3) := by decide +kernel
theorem dX6_item_34 : decode cX6_item 34 = .ok (.iconst 0, 1) := by decide +kernel
theorem dX6_item_35 : decode cX6_item 35 = .ok (.iconst 1, 1) := by decide +kernel
theorem dX6_item_36 : decode cX6_item 36 = .ok (.invokevirtual 76, 3) := by decide +kernel
theorem dX6_item_39 : decode cX6_item 39 = .ok (.ifCond .eq 12, 3) := by decide +kernel
theorem dX6_item_42 : decode cX6_item 42 = .ok (.aload_n 0, 1) := by decide +kernel
theorem dX6_item_43 : decode cX6_item 43 = .ok (.iload_n 1, 1) := by decide +kernel
theorem dX6_item_44 : decode cX6_item 44 = .ok (.iload_n 2, 1) := by decide +kernel
theorem dX6_item_45 : decode cX6_item 45 = .ok (.invokevirtual 90, 3) := by decide +kernel
theorem dX6_item_48 : decode cX6_item 48 = .ok (.goto 4, 3) := by decide +kernel
theorem dX6_item_51 : decode cX6_item 51 = .ok (.iconst 0, 1) := by decide +kernel
theorem dX6_item_52 : decode cX6_item 52 = .ok (.ireturn, 1) := by decide +kernel
theorem dX6_common_0 : decode cX6_common 0 = .ok (.iconst 0, 1) := by decide +kernel
theorem dX6_common_1 : decode cX6_common 1 = .ok (.istore 4, 2) := by decide +kernel
theorem dX6_common_3 : decode cX6_common 3 = .ok (.iload_n 3, 1) := by decide +kernel
theorem dX6_common_4 : decode cX6_common 4 = .ok (.iload 4, 2) := by decide +kernel
theorem dX6_common_6 : decode cX6_common 6 = .ok (.iadd, 1) := by decide +kernel
theorem dX6_common_7 : decode cX6_common 7 = .ok (.aload_n 0, 1) := by decide +kernel
theorem dX6_common_8 : decode cX6_common 8 = .ok (.iload_n 1, 1) := by decide +kernel
theorem dX6_common_9 : decode cX6_common 9 = .ok (.invokevirtual 86, 3) := by decide +kernel
theorem dX6_common_12 : decode cX6_common 12 = .ok (.if_icmp .ge 30, 3) := by decide +kernel
theorem dX6_common_15 : decode cX6_common 15 = .ok (.aload_n 0, 1) := by decide +kernel
theorem dX6_common_16 : decode cX6_common 16 = .ok (.iload_n 1, 1) := by decide +kernel
theorem dX6_common_17 : decode cX6_common 17 = .ok (.iload_n 2, 1) := by decide +kernel
theorem dX6_common_18 : decode cX6_common 18 = .ok (.iload 4, 2) := by decide +kernel
theorem dX6_common_20 : decode cX6_common 20 = .ok (.iadd, 1) := by decide +kernel
theorem dX6_common_21 : decode cX6_common 21 = .ok (.invokevirtual 90, 3) := by decide +kernel
theorem dX6_common_24 : decode cX6_common 24 = .ok (.aload_n 0, 1) := by decide +kernel
theorem dX6_common_25 : decode cX6_common 25 = .ok (.iload_n 1, 1) := by decide +kernel
theorem dX6_common_26 : decode cX6_common 26 = .ok (.iload_n 3, 1) := by decide +kernel
theorem dX6_common_27 : decode cX6_common 27 = .ok (.iload 4, 2) := by decide +kernel
theorem dX6_common_29 : decode cX6_common 29 = .ok (.iadd, 1) := by decide +kernel
theorem dX6_common_30 : decode cX6_common 30 = .ok (.invokevirtual 90, 3) := by decide +kernel
theorem dX6_common_33 : decode cX6_common 33 = .ok (.if_icmp .ne 9, 3) := by decide +kernel
theorem dX6_common_36 : decode cX6_common 36 = .ok (.iinc 4 1, 3) := by decide +kernel
theorem dX6_common_39 : decode cX6_common 39 = .ok (.goto (-36), 3) := by decide +kernel
theorem dX6_common_42 : decode cX6_common 42 = .ok (.iload 4, 2) := by decide +kernel
theorem dX6_common_44 : decode cX6_common 44 = .ok (.ireturn, 1) := by decide +kernel
theorem dX6_repeats_0 : decode cX6_repeats 0 = .ok (.aload_n 0, 1) := by decide +kernel
theorem dX6_repeats_1 : decode cX6_repeats 1 = .ok (.iconst 0, 1) := by decide +kernel
theorem dX6_repeats_2 : decode cX6_repeats 2 = .ok (.putfield 46, 3) := by decide +kernel
theorem dX6_repeats_5 : decode cX6_repeats 5 = .ok (.aload_n 0, 1) := by decide +kernel
theorem dX6_repeats_6 : decode cX6_repeats 6 = .ok (.iload_n 1, 1) := by decide +kernel
theorem dX6_repeats_7 : decode cX6_repeats 7 = .ok (.invokestatic 82, 3) := by decide +kernel
theorem dX6_repeats_10 : decode cX6_repeats 10 = .ok (.ifCond .eq 19, 3) := by decide +kernel
theorem dX6_repeats_13 : decode cX6_repeats 13 = .ok (.iload_n 2, 1) := by decide +kernel
theorem dX6_repeats_14 : decode cX6_repeats 14 = .ok (.i2l, 1) := by decide +kernel
theorem dX6_repeats_15 : decode cX6_repeats 15 = .ok (.lconst 1, 1) := by decide +kernel
theorem dX6_repeats_16 : decode cX6_repeats 16 = .ok (.ldc2_w 94, 3) := by decide +kernel
theorem dX6_repeats_19 : decode cX6_repeats 19 = .ok (.invokestatic 70, 3) := by decide +kernel
theorem dX6_repeats_22 : decode cX6_repeats 22 = .ok (.ifCond .eq 7, 3) := by decide +kernel
theorem dX6_repeats_25 : decode cX6_repeats 25 = .ok (.iconst 1, 1) := by decide +kernel
theorem dX6_repeats_26 : decode cX6_repeats 26 = .ok (.goto 4, 3) := by decide +kernel
theorem dX6_repeats_29 : decode cX6_repeats 29 = .ok (.iconst 0, 1) := by decide +kernel
theorem dX6_repeats_30 : decode cX6_repeats 30 = .ok (.iconst 1, 1) := by decide +kernel
theorem dX6_repeats_31 : decode cX6_repeats 31 = .ok (.invokevirtual 76, 3) := by decide +kernel
theorem dX6_repeats_34 : decode cX6_repeats 34 = .ok (.ifCond .ne 5, 3) := by decide +kernel
theorem dX6_repeats_37 : decode cX6_repeats 37 = .ok (.iconst 0, 1) := by decide +kernel
theorem dX6_repeats_38 : decode cX6_repeats 38 = .ok (.ireturn, 1) := by decide +kernel
theorem dX6_repeats_39 : decode cX6_repeats 39 = .ok (.aload_n 0, 1) := by decide +kernel
theorem dX6_repeats_40 : decode cX6_repeats 40 = .ok (.iconst 0, 1) := by decide +kernel
theorem dX6_repeats_41 : decode cX6_repeats 41 = .ok (.putfield 53, 3) := by decide +kernel
theorem dX6_repeats_44 : decode cX6_repeats 44 = .ok (.aload_n 0, 1) := by decide +kernel
theorem dX6_repeats_45 : decode cX6_repeats 45 = .ok (.iload_n 1, 1) := by decide +kernel
theorem dX6_repeats_46 : decode cX6_repeats 46 = .ok (.invokevirtual 86, 3) := by decide +kernel
theorem dX6_repeats_49 : decode cX6_repeats 49 = .ok (.istore_n 3, 1) := by decide +kernel
theorem dX6_repeats_50 : decode cX6_repeats 50 = .ok (.iload_n 3, 1) := by decide +kernel
theorem dX6_repeats_51 : decode cX6_repeats 51 = .ok (.iload_n 2, 1) := by decide +kernel
theorem dX6_repeats_52 : decode cX6_repeats 52 = .ok (.if_icmp .lt 153, 3) := by decide +kernel
theorem dX6_repeats_55 : decode cX6_repeats 55 = .ok (.iconst 0, 1) := by decide +kernel
theorem dX6_repeats_56 : decode cX6_repeats 56 = .ok (.istore 4, 2) := by decide +kernel
theorem dX6_repeats_58 : decode cX6_repeats 58 = .ok (.iload 4, 2) := by decide +kernel
theorem dX6_repeats_60 : decode cX6_repeats 60 = .ok (.aload_n 0, 1) := by decide +kernel
theorem dX6_repeats_61 : decode cX6_repeats 61 = .ok (.iload_n 1, 1) := by decide +kernel
theorem dX6_repeats_62 : decode cX6_repeats 62 = .ok (.invokevirtual 86, 3) := by decide +kernel
theorem dX6_repeats_65 : decode cX6_repeats 65 = .ok (.if_icmp .ge 134, 3) := by decide +kernel
theorem dX6_repeats_68 : decode cX6_repeats 68 = .ok (.iload 4, 2) := by decide +kernel
theorem dX6_repeats_70 : decode cX6_repeats 70 = .ok (.iconst 1, 1) := by decide +kernel
theorem dX6_repeats_71 : decode cX6_repeats 71 = .ok (.iadd, 1) := by decide +kernel
theorem dX6_repeats_72 : decode cX6_repeats 72 = .ok (.istore 5, 2) := by decide +kernel
theorem dX6_repeats_74 : decode cX6_repeats 74 = .ok (.iload 5, 2) := by decide +kernel
theorem dX6_repeats_76 : decode cX6_repeats 76 = .ok (.aload_n 0, 1) := by decide +kernel
theorem dX6_repeats_77 : decode cX6_repeats 77 = .ok (.iload_n 1, 1) := by decide +kernel
theorem dX6_repeats_78 : decode cX6_repeats 78 = .ok (.invokevirtual 86, 3) := by decide +kernel
theorem dX6_repeats_81 : decode cX6_repeats 81 = .ok (.if_icmp .ge 112, 3) := by decide +kernel
theorem dX6_repeats_84 : decode cX6_repeats 84 = .ok (.iload 4, 2) := by decide +kernel
theorem dX6_repeats_86 : decode cX6_repeats 86 = .ok (.ifCond .eq 24, 3) := by decide +kernel
theorem dX6_repeats_89 : decode cX6_repeats 89 = .ok (.aload_n 0, 1) := by decide +kernel
theorem dX6_repeats_90 : decode cX6_repeats 90 = .ok (.iload_n 1, 1) := by decide +kernel
theorem dX6_repeats_91 : decode cX6_repeats 91 = .ok (.iload 4, 2) := by decide +kernel
theorem dX6_repeats_93 : decode cX6_repeats 93 = .ok (.iconst 1, 1) := by decide +kernel
theorem dX6_repeats_94 : decode cX6_repeats 94 = .ok (.isub, 1) := by decide +kernel
theorem dX6_repeats_95 : decode cX6_repeats 95 = .ok (.invokevirtual 90, 3) := by decide +kernel
theorem dX6_repeats_98 : decode cX6_repeats 98 = .ok (.aload_n 0, 1) := by decide +kernel
theorem dX6_repeats_99 : decode cX6_repeats 99 = .ok (.iload_n 1, 1) := by decide +kernel
theorem dX6_repeats_100 : decode cX6_repeats 100 = .ok (.iload 5, 2) := by decide +kernel
theorem dX6_repeats_102 : decode cX6_repeats 102 = .ok (.iconst 1, 1) := by decide +kernel
theorem dX6_repeats_103 : decode cX6_repeats 103 = .ok (.isub, 1) := by decide +kernel
theorem dX6_repeats_104 : decode cX6_repeats 104 = .ok (.invokevirtual 90, 3) := by decide +kernel
theorem dX6_repeats_107 : decode cX6_repeats 107 = .ok (.if_icmp .eq 7, 3) := by decide +kernel
theorem dX6_repeats_110 : decode cX6_repeats 110 = .ok (.iconst 1, 1) := by decide +kernel
theorem dX6_repeats_111 : decode cX6_repeats 111 = .ok (.goto 4, 3) := by decide +kernel
theorem dX6_repeats_114 : decode cX6_repeats 114 = .ok (.iconst 0, 1) := by decide +kernel
theorem dX6_repeats_115 : decode cX6_repeats 115 = .ok (.istore 6, 2) := by decide +kernel
theorem dX6_repeats_117 : decode cX6_repeats 117 = .ok (.iload 6, 2) := by decide +kernel
theorem dX6_repeats_119 : decode cX6_repeats 119 = .ok (.ifCond .eq 68, 3) := by decide +kernel
theorem dX6_repeats_122 : decode cX6_repeats 122 = .ok (.aload_n 0, 1) := by decide +kernel
theorem dX6_repeats_123 : decode cX6_repeats 123 = .ok (.iload_n 1, 1) := by decide +kernel
theorem dX6_repeats_124 : decode cX6_repeats 124 = .ok (.iload 4, 2) := by decide +kernel
theorem dX6_repeats_126 : decode cX6_repeats 126 = .ok (.iload 5, 2) := by decide +kernel
theorem dX6_repeats_128 : decode cX6_repeats 128 = .ok (.invokevirtual 96, 3) := by decide +kernel
theorem dX6_repeats_131 : decode cX6_repeats 131 = .ok (.iload_n 3, 1) := by decide +kernel
theorem dX6_repeats_132 : decode cX6_repeats 132 = .ok (.if_icmp .ne 55, 3) := by decide +kernel
theorem dX6_repeats_135 : decode cX6_repeats 135 = .ok (.aload_n 0, 1) := by decide +kernel
theorem dX6_repeats_136 : decode cX6_repeats 136 = .ok (.getfield 16, 3) := by decide +kernel
theorem dX6_repeats_139 : decode cX6_repeats 139 = .ok (.iconst 3, 1) := by decide +kernel
theorem dX6_repeats_140 : decode cX6_repeats 140 = .ok (.aload_n 0, 1) := by decide +kernel
theorem dX6_repeats_141 : decode cX6_repeats 141 = .ok (.getfield 53, 3) := by decide +kernel
theorem dX6_repeats_144 : decode cX6_repeats 144 = .ok (.imul, 1) := by decide +kernel
theorem dX6_repeats_145 : decode cX6_repeats 145 = .ok (.iload 4, 2) := by decide +kernel
theorem dX6_repeats_147 : decode cX6_repeats 147 = .ok (.iastore, 1) := by decide +kernel
theorem dX6_repeats_148 : decode cX6_repeats 148 = .ok (.aload_n 0, 1) := by decide +kernel
theorem dX6_repeats_149 : decode cX6_repeats 149 = .ok (.getfield 16, 3) := by decide +kernel
theorem dX6_repeats_152 : decode cX6_repeats 152 = .ok (.iconst 3, 1) := by decide +kernel
theorem dX6_repeats_153 : decode cX6_repeats 153 = .ok (.aload_n 0, 1) := by decide +kernel
theorem dX6_repeats_154 : decode cX6_repeats 154 = .ok (.getfield 53, 3) := by decide +kernel
theorem dX6_repeats_157 : decode cX6_repeats 157 = .ok (.imul, 1) := by decide +kernel
theorem dX6_repeats_158 : decode cX6_repeats 158 = .ok (.iconst 1, 1) := by decide +kernel
theorem dX6_repeats_159 : decode cX6_repeats 159 = .ok (.iadd, 1) := by decide +kernel
theorem dX6_repeats_160 : decode cX6_repeats 160 = .ok (.iload 5, 2) := by decide +kernel
theorem dX6_repeats_162 : decode cX6_repeats 162 = .ok (.iastore, 1) := by decide +kernel
theorem dX6_repeats_163 : decode cX6_repeats 163 = .ok (.aload_n 0, 1) := by decide +kernel
theorem dX6_repeats_164 : decode cX6_repeats 164 = .ok (.getfield 16, 3) := by decide +kernel
theorem dX6_repeats_167 : decode cX6_repeats 167 = .ok (.iconst 3, 1) := by decide +kernel
theorem dX6_repeats_168 : decode cX6_repeats 168 = .ok (.aload_n 0, 1) := by decide +kernel
theorem dX6_repeats_169 : decode cX6_repeats 169 = .ok (.getfield 53, 3) := by decide +kernel
theorem dX6_repeats_172 : decode cX6_repeats 172 = .ok (.imul, 1) := by decide +kernel
theorem dX6_repeats_173 : decode cX6_repeats 173 = .ok (.iconst 2, 1) := by decide +kernel
theorem dX6_repeats_174 : decode cX6_repeats 174 = .ok (.iadd, 1) := by decide +kernel
theorem dX6_repeats_175 : decode cX6_repeats 175 = .ok (.iload_n 3, 1) := by decide +kernel
theorem dX6_repeats_176 : decode cX6_repeats 176 = .ok (.iastore, 1) := by decide +kernel
theorem dX6_repeats_177 : decode cX6_repeats 177 = .ok (.aload_n 0, 1) := by decide +kernel
theorem dX6_repeats_178 : decode cX6_repeats 178 = .ok (.dup, 1) := by decide +kernel
theorem dX6_repeats_179 : decode cX6_repeats 179 = .ok (.getfield 53, 3) := by decide +kernel
theorem dX6_repeats_182 : decode cX6_repeats 182 = .ok (.iconst 1, 1) := by decide +kernel
theorem dX6_repeats_183 : decode cX6_repeats 183 = .ok (.iadd, 1) := by decide +kernel
theorem dX6_repeats_184 : decode cX6_repeats 184 = .ok (.putfield 53, 3) := by decide +kernel
theorem dX6_repeats_187 : decode cX6_repeats 187 = .ok (.iinc 5 1, 3) := by decide +kernel
theorem dX6_repeats_190 : decode cX6_repeats 190 = .ok (.goto (-116), 3) := by decide +kernel
theorem dX6_repeats_193 : decode cX6_repeats 193 = .ok (.iinc 4 1, 3) := by decide +kernel
theorem dX6_repeats_196 : decode cX6_repeats 196 = .ok (.goto (-138), 3) := by decide +kernel
theorem dX6_repeats_199 : decode cX6_repeats 199 = .ok (.iinc 3 (-1), 3) := by decide +kernel
theorem dX6_repeats_202 : decode cX6_repeats 202 = .ok (.goto (-152), 3) := by decide +kernel
theorem dX6_repeats_205 : decode cX6_repeats 205 = .ok (.aload_n 0, 1) := by decide +kernel
theorem dX6_repeats_206 : decode cX6_repeats 206 = .ok (.getfield 53, 3) := by decide +kernel
theorem dX6_repeats_209 : decode cX6_repeats 209 = .ok (.ireturn, 1) := by decide +kernel
theorem dX6_repeat_0 : decode cX6_repeat 0 = .ok (.aload_n 0, 1) := by decide +kernel
theorem dX6_repeat_1 : decode cX6_repeat 1 = .ok (.iconst 0, 1) := by decide +kernel
theorem dX6_repeat_2 : decode cX6_repeat 2 = .ok (.putfield 46, 3) := by decide +kernel
theorem dX6_repeat_5 : decode cX6_repeat 5 = .ok (.aload_n 0, 1) := by decide +kernel
theorem dX6_repeat_6 : decode cX6_repeat 6 = .ok (.iload_n 1, 1) := by decide +kernel
theorem dX6_repeat_7 : decode cX6_repeat 7 = .ok (.i2l, 1) := by decide +kernel
theorem dX6_repeat_8 : decode cX6_repeat 8 = .ok (.lconst 0, 1) := by decide +kernel
theorem dX6_repeat_9 : decode cX6_repeat 9 = .ok (.aload_n 0, 1) := by decide +kernel
theorem dX6_repeat_10 : decode cX6_repeat 10 = .ok (.getfield 53, 3) := by decide +kernel
theorem dX6_repeat_13 : decode cX6_repeat 13 = .ok (.iconst 1, 1) := by decide +kernel
theorem dX6_repeat_14 : decode cX6_repeat 14 = .ok (.isub, 1) := by decide +kernel
theorem dX6_repeat_15 : decode cX6_repeat 15 = .ok (.i2l, 1) := by decide +kernel
theorem dX6_repeat_16 : decode cX6_repeat 16 = .ok (.invokestatic 70, 3) := by decide +kernel
theorem dX6_repeat_19 : decode cX6_repeat 19 = .ok (.ifCond .eq 19, 3) := by decide +kernel
theorem dX6_repeat_22 : decode cX6_repeat 22 = .ok (.iload_n 2, 1) := by decide +kernel
theorem dX6_repeat_23 : decode cX6_repeat 23 = .ok (.i2l, 1) := by decide +kernel
theorem dX6_repeat_24 : decode cX6_repeat 24 = .ok (.lconst 0, 1) := by decide +kernel
theorem dX6_repeat_25 : decode cX6_repeat 25 = .ok (.ldc2_w 100, 3) := by decide +kernel
theorem dX6_repeat_28 : decode cX6_repeat 28 = .ok (.invokestatic 70, 3) := by decide +kernel
theorem dX6_repeat_31 : decode cX6_repeat 31 = .ok (.ifCond .eq 7, 3) := by decide +kernel
theorem dX6_repeat_34 : decode cX6_repeat 34 = .ok (.iconst 1, 1) := by decide +kernel
theorem dX6_repeat_35 : decode cX6_repeat 35 = .ok (.goto 4, 3) := by decide +kernel
theorem dX6_repeat_38 : decode cX6_repeat 38 = .ok (.iconst 0, 1) := by decide +kernel
theorem dX6_repeat_39 : decode cX6_repeat 39 = .ok (.iconst 1, 1) := by decide +kernel
theorem dX6_repeat_40 : decode cX6_repeat 40 = .ok (.invokevirtual 76, 3) := by decide +kernel
theorem dX6_repeat_43 : decode cX6_repeat 43 = .ok (.ifCond .eq 16, 3) := by decide +kernel
theorem dX6_repeat_46 : decode cX6_repeat 46 = .ok (.aload_n 0, 1) := by decide +kernel
theorem dX6_repeat_47 : decode cX6_repeat 47 = .ok (.getfield 16, 3) := by decide +kernel
theorem dX6_repeat_50 : decode cX6_repeat 50 = .ok (.iconst 3, 1) := by decide +kernel
theorem dX6_repeat_51 : decode cX6_repeat 51 = .ok (.iload_n 1, 1) := by decide +kernel
theorem dX6_repeat_52 : decode cX6_repeat 52 = .ok (.imul, 1) := by decide +kernel
theorem dX6_repeat_53 : decode cX6_repeat 53 = .ok (.iload_n 2, 1) := by decide +kernel
theorem dX6_repeat_54 : decode cX6_repeat 54 = .ok (.iadd, 1) := by decide +kernel
theorem dX6_repeat_55 : decode cX6_repeat 55 = .ok (.iaload, 1) := by decide +kernel
theorem dX6_repeat_56 : decode cX6_repeat 56 = .ok (.goto 4, 3) := by decide +kernel
theorem dX6_repeat_59 : decode cX6_repeat 59 = .ok (.iconst 0, 1) := by decide +kernel
theorem dX6_repeat_60 : decode cX6_repeat 60 = .ok (.ireturn, 1) := by decide +kernel
theorem dX6_passages_0 : decode cX6_passages 0 = .ok (.aload_n 0, 1) := by decide +kernel
theorem dX6_passages_1 : decode cX6_passages 1 = .ok (.iconst 0, 1) := by decide +kernel
theorem dX6_passages_2 : decode cX6_passages 2 = .ok (.putfield 46, 3) := by decide +kernel
theorem dX6_passages_5 : decode cX6_passages 5 = .ok (.aload_n 0, 1) := by decide +kernel
theorem dX6_passages_6 : decode cX6_passages 6 = .ok (.iload_n 1, 1) := by decide +kernel
theorem dX6_passages_7 : decode cX6_passages 7 = .ok (.invokestatic 82, 3) := by decide +kernel
theorem dX6_passages_10 : decode cX6_passages 10 = .ok (.ifCond .eq 19, 3) := by decide +kernel
theorem dX6_passages_13 : decode cX6_passages 13 = .ok (.iload_n 2, 1) := by decide +kernel
theorem dX6_passages_14 : decode cX6_passages 14 = .ok (.i2l, 1) := by decide +kernel
theorem dX6_passages_15 : decode cX6_passages 15 = .ok (.lconst 1, 1) := by decide +kernel
theorem dX6_passages_16 : decode cX6_passages 16 = .ok (.ldc2_w 94, 3) := by decide +kernel
theorem dX6_passages_19 : decode cX6_passages 19 = .ok (.invokestatic 70, 3) := by decide +kernel
theorem dX6_passages_22 : decode cX6_passages 22 = .ok (.ifCond .eq 7, 3) := by decide +kernel
theorem dX6_passages_25 : decode cX6_passages 25 = .ok (.iconst 1, 1) := by decide +kernel
theorem dX6_passages_26 : decode cX6_passages 26 = .ok (.goto 4, 3) := by decide +kernel
theorem dX6_passages_29 : decode cX6_passages 29 = .ok (.iconst 0, 1) := by decide +kernel
theorem dX6_passages_30 : decode cX6_passages 30 = .ok (.iconst 1, 1) := by decide +kernel
theorem dX6_passages_31 : decode cX6_passages 31 = .ok (.invokevirtual 76, 3) := by decide +kernel
theorem dX6_passages_34 : decode cX6_passages 34 = .ok (.ifCond .ne 5, 3) := by decide +kernel
theorem dX6_passages_37 : decode cX6_passages 37 = .ok (.iconst 0, 1) := by decide +kernel
theorem dX6_passages_38 : decode cX6_passages 38 = .ok (.ireturn, 1) := by decide +kernel
theorem dX6_passages_39 : decode cX6_passages 39 = .ok (.iconst 0, 1) := by decide +kernel
theorem dX6_passages_40 : decode cX6_passages 40 = .ok (.istore_n 3, 1) := by decide +kernel
theorem dX6_passages_41 : decode cX6_passages 41 = .ok (.iconst 0, 1) := by decide +kernel
theorem dX6_passages_42 : decode cX6_passages 42 = .ok (.istore 4, 2) := by decide +kernel
theorem dX6_passages_44 : decode cX6_passages 44 = .ok (.iload 4, 2) := by decide +kernel
theorem dX6_passages_46 : decode cX6_passages 46 = .ok (.iload_n 2, 1) := by decide +kernel
theorem dX6_passages_47 : decode cX6_passages 47 = .ok (.iadd, 1) := by decide +kernel
theorem dX6_passages_48 : decode cX6_passages 48 = .ok (.aload_n 0, 1) := by decide +kernel
theorem dX6_passages_49 : decode cX6_passages 49 = .ok (.iload_n 1, 1) := by decide +kernel
theorem dX6_passages_50 : decode cX6_passages 50 = .ok (.invokevirtual 86, 3) := by decide +kernel
theorem dX6_passages_53 : decode cX6_passages 53 = .ok (.if_icmp .gt 66, 3) := by decide +kernel
theorem dX6_passages_56 : decode cX6_passages 56 = .ok (.iconst 1, 1) := by decide +kernel
theorem dX6_passages_57 : decode cX6_passages 57 = .ok (.istore 5, 2) := by decide +kernel
theorem dX6_passages_59 : decode cX6_passages 59 = .ok (.iconst 0, 1) := by decide +kernel
theorem dX6_passages_60 : decode cX6_passages 60 = .ok (.istore 6, 2) := by decide +kernel
theorem dX6_passages_62 : decode cX6_passages 62 = .ok (.iload 6, 2) := by decide +kernel
theorem dX6_passages_64 : decode cX6_passages 64 = .ok (.iload 4, 2) := by decide +kernel
theorem dX6_passages_66 : decode cX6_passages 66 = .ok (.if_icmp .ge 34, 3) := by decide +kernel
theorem dX6_passages_69 : decode cX6_passages 69 = .ok (.iload 5, 2) := by decide +kernel
theorem dX6_passages_71 : decode cX6_passages 71 = .ok (.ifCond .eq 20, 3) := by decide +kernel
theorem dX6_passages_74 : decode cX6_passages 74 = .ok (.aload_n 0, 1) := by decide +kernel
theorem dX6_passages_75 : decode cX6_passages 75 = .ok (.iload_n 1, 1) := by decide +kernel
theorem dX6_passages_76 : decode cX6_passages 76 = .ok (.iload 6, 2) := by decide +kernel
theorem dX6_passages_78 : decode cX6_passages 78 = .ok (.iload 4, 2) := by decide +kernel
theorem dX6_passages_80 : decode cX6_passages 80 = .ok (.invokevirtual 96, 3) := by decide +kernel
theorem dX6_passages_83 : decode cX6_passages 83 = .ok (.iload_n 2, 1) := by decide +kernel
theorem dX6_passages_84 : decode cX6_passages 84 = .ok (.if_icmp .ge 7, 3) := by decide +kernel
theorem dX6_passages_87 : decode cX6_passages 87 = .ok (.iconst 1, 1) := by decide +kernel
theorem dX6_passages_88 : decode cX6_passages 88 = .ok (.goto 4, 3) := by decide +kernel
theorem dX6_passages_91 : decode cX6_passages 91 = .ok (.iconst 0, 1) := by decide +kernel
theorem dX6_passages_92 : decode cX6_passages 92 = .ok (.istore 5, 2) := by decide +kernel
theorem dX6_passages_94 : decode cX6_passages 94 = .ok (.iinc 6 1, 3) := by decide +kernel
theorem dX6_passages_97 : decode cX6_passages 97 = .ok (.goto (-35), 3) := by decide +kernel
theorem dX6_passages_100 : decode cX6_passages 100 = .ok (.iload_n 3, 1) := by decide +kernel
theorem dX6_passages_101 : decode cX6_passages 101 = .ok (.iload 5, 2) := by decide +kernel
theorem dX6_passages_103 : decode cX6_passages 103 = .ok (.ifCond .eq 7, 3) := by decide +kernel
theorem dX6_passages_106 : decode cX6_passages 106 = .ok (.iconst 1, 1) := by decide +kernel
theorem dX6_passages_107 : decode cX6_passages 107 = .ok (.goto 4, 3) := by decide +kernel
theorem dX6_passages_110 : decode cX6_passages 110 = .ok (.iconst 0, 1) := by decide +kernel
theorem dX6_passages_111 : decode cX6_passages 111 = .ok (.iadd, 1) := by decide +kernel
theorem dX6_passages_112 : decode cX6_passages 112 = .ok (.istore_n 3, 1) := by decide +kernel
theorem dX6_passages_113 : decode cX6_passages 113 = .ok (.iinc 4 1, 3) := by decide +kernel
theorem dX6_passages_116 : decode cX6_passages 116 = .ok (.goto (-72), 3) := by decide +kernel
theorem dX6_passages_119 : decode cX6_passages 119 = .ok (.iload_n 3, 1) := by decide +kernel
theorem dX6_passages_120 : decode cX6_passages 120 = .ok (.ireturn, 1) := by decide +kernel
theorem dX6_period_0 : decode cX6_period 0 = .ok (.aload_n 0, 1) := by decide +kernel
theorem dX6_period_1 : decode cX6_period 1 = .ok (.iconst 0, 1) := by decide +kernel
theorem dX6_period_2 : decode cX6_period 2 = .ok (.putfield 46, 3) := by decide +kernel
theorem dX6_period_5 : decode cX6_period 5 = .ok (.aload_n 0, 1) := by decide +kernel
theorem dX6_period_6 : decode cX6_period 6 = .ok (.iload_n 1, 1) := by decide +kernel
theorem dX6_period_7 : decode cX6_period 7 = .ok (.invokestatic 82, 3) := by decide +kernel
theorem dX6_period_10 : decode cX6_period 10 = .ok (.iconst 1, 1) := by decide +kernel
theorem dX6_period_11 : decode cX6_period 11 = .ok (.invokevirtual 76, 3) := by decide +kernel
theorem dX6_period_14 : decode cX6_period 14 = .ok (.ifCond .eq 11, 3) := by decide +kernel
theorem dX6_period_17 : decode cX6_period 17 = .ok (.aload_n 0, 1) := by decide +kernel
theorem dX6_period_18 : decode cX6_period 18 = .ok (.iload_n 1, 1) := by decide +kernel
theorem dX6_period_19 : decode cX6_period 19 = .ok (.invokevirtual 86, 3) := by decide +kernel
theorem dX6_period_22 : decode cX6_period 22 = .ok (.ifCond .ne 5, 3) := by decide +kernel
theorem dX6_period_25 : decode cX6_period 25 = .ok (.iconst 0, 1) := by decide +kernel
theorem dX6_period_26 : decode cX6_period 26 = .ok (.ireturn, 1) := by decide +kernel
theorem dX6_period_27 : decode cX6_period 27 = .ok (.iconst 1, 1) := by decide +kernel
theorem dX6_period_28 : decode cX6_period 28 = .ok (.istore_n 2, 1) := by decide +kernel
theorem dX6_period_29 : decode cX6_period 29 = .ok (.aload_n 0, 1) := by decide +kernel
theorem dX6_period_30 : decode cX6_period 30 = .ok (.iload_n 1, 1) := by decide +kernel
theorem dX6_period_31 : decode cX6_period 31 = .ok (.iconst 0, 1) := by decide +kernel
theorem dX6_period_32 : decode cX6_period 32 = .ok (.iload_n 2, 1) := by decide +kernel
theorem dX6_period_33 : decode cX6_period 33 = .ok (.invokevirtual 96, 3) := by decide +kernel
theorem dX6_period_36 : decode cX6_period 36 = .ok (.aload_n 0, 1) := by decide +kernel
theorem dX6_period_37 : decode cX6_period 37 = .ok (.iload_n 1, 1) := by decide +kernel
theorem dX6_period_38 : decode cX6_period 38 = .ok (.invokevirtual 86, 3) := by decide +kernel
theorem dX6_period_41 : decode cX6_period 41 = .ok (.iload_n 2, 1) := by decide +kernel
theorem dX6_period_42 : decode cX6_period 42 = .ok (.isub, 1) := by decide +kernel
theorem dX6_period_43 : decode cX6_period 43 = .ok (.if_icmp .ge 9, 3) := by decide +kernel
theorem dX6_period_46 : decode cX6_period 46 = .ok (.iinc 2 1, 3) := by decide +kernel
theorem dX6_period_49 : decode cX6_period 49 = .ok (.goto (-20), 3) := by decide +kernel
theorem dX6_period_52 : decode cX6_period 52 = .ok (.iload_n 2, 1) := by decide +kernel
theorem dX6_period_53 : decode cX6_period 53 = .ok (.ireturn, 1) := by decide +kernel
theorem dX6_alike_0 : decode cX6_alike 0 = .ok (.aload_n 0, 1) := by decide +kernel
theorem dX6_alike_1 : decode cX6_alike 1 = .ok (.iconst 0, 1) := by decide +kernel
theorem dX6_alike_2 : decode cX6_alike 2 = .ok (.putfield 46, 3) := by decide +kernel
theorem dX6_alike_5 : decode cX6_alike 5 = .ok (.iload_n 1, 1) := by decide +kernel
theorem dX6_alike_6 : decode cX6_alike 6 = .ok (.invokestatic 82, 3) := by decide +kernel
theorem dX6_alike_9 : decode cX6_alike 9 = .ok (.ifCond .eq 52, 3) := by decide +kernel
theorem dX6_alike_12 : decode cX6_alike 12 = .ok (.iload 4, 2) := by decide +kernel
theorem dX6_alike_14 : decode cX6_alike 14 = .ok (.ifCond .lt 47, 3) := by decide +kernel
theorem dX6_alike_17 : decode cX6_alike 17 = .ok (.iload_n 2, 1) := by decide +kernel
theorem dX6_alike_18 : decode cX6_alike 18 = .ok (.ifCond .lt 43, 3) := by decide +kernel
theorem dX6_alike_21 : decode cX6_alike 21 = .ok (.iload_n 3, 1) := by decide +kernel
theorem dX6_alike_22 : decode cX6_alike 22 = .ok (.ifCond .lt 39, 3) := by decide +kernel
theorem dX6_alike_25 : decode cX6_alike 25 = .ok (.iload_n 2, 1) := by decide +kernel
theorem dX6_alike_26 : decode cX6_alike 26 = .ok (.i2l, 1) := by decide +kernel
theorem dX6_alike_27 : decode cX6_alike 27 = .ok (.iload 4, 2) := by decide +kernel
theorem dX6_alike_29 : decode cX6_alike 29 = .ok (.i2l, 1) := by decide +kernel
theorem dX6_alike_30 : decode cX6_alike 30 = .ok (.ladd, 1) := by decide +kernel
theorem dX6_alike_31 : decode cX6_alike 31 = .ok (.aload_n 0, 1) := by decide +kernel
theorem dX6_alike_32 : decode cX6_alike 32 = .ok (.iload_n 1, 1) := by decide +kernel
theorem dX6_alike_33 : decode cX6_alike 33 = .ok (.invokevirtual 86, 3) := by decide +kernel
theorem dX6_alike_36 : decode cX6_alike 36 = .ok (.i2l, 1) := by decide +kernel
theorem dX6_alike_37 : decode cX6_alike 37 = .ok (.lcmp, 1) := by decide +kernel
theorem dX6_alike_38 : decode cX6_alike 38 = .ok (.ifCond .gt 23, 3) := by decide +kernel
theorem dX6_alike_41 : decode cX6_alike 41 = .ok (.iload_n 3, 1) := by decide +kernel
theorem dX6_alike_42 : decode cX6_alike 42 = .ok (.i2l, 1) := by decide +kernel
theorem dX6_alike_43 : decode cX6_alike 43 = .ok (.iload 4, 2) := by decide +kernel
theorem dX6_alike_45 : decode cX6_alike 45 = .ok (.i2l, 1) := by decide +kernel
theorem dX6_alike_46 : decode cX6_alike 46 = .ok (.ladd, 1) := by decide +kernel
theorem dX6_alike_47 : decode cX6_alike 47 = .ok (.aload_n 0, 1) := by decide +kernel
theorem dX6_alike_48 : decode cX6_alike 48 = .ok (.iload_n 1, 1) := by decide +kernel
theorem dX6_alike_49 : decode cX6_alike 49 = .ok (.invokevirtual 86, 3) := by decide +kernel
theorem dX6_alike_52 : decode cX6_alike 52 = .ok (.i2l, 1) := by decide +kernel
theorem dX6_alike_53 : decode cX6_alike 53 = .ok (.lcmp, 1) := by decide +kernel
theorem dX6_alike_54 : decode cX6_alike 54 = .ok (.ifCond .gt 7, 3) := by decide +kernel
theorem dX6_alike_57 : decode cX6_alike 57 = .ok (.iconst 1, 1) := by decide +kernel
theorem dX6_alike_58 : decode cX6_alike 58 = .ok (.goto 4, 3) := by decide +kernel
theorem dX6_alike_61 : decode cX6_alike 61 = .ok (.iconst 0, 1) := by decide +kernel
theorem dX6_alike_62 : decode cX6_alike 62 = .ok (.istore 5, 2) := by decide +kernel
theorem dX6_alike_64 : decode cX6_alike 64 = .ok (.aload_n 0, 1) := by decide +kernel
theorem dX6_alike_65 : decode cX6_alike 65 = .ok (.iload 5, 2) := by decide +kernel
theorem dX6_alike_67 : decode cX6_alike 67 = .ok (.iconst 1, 1) := by decide +kernel
theorem dX6_alike_68 : decode cX6_alike 68 = .ok (.invokevirtual 76, 3) := by decide +kernel
theorem dX6_alike_71 : decode cX6_alike 71 = .ok (.ifCond .eq 21, 3) := by decide +kernel
theorem dX6_alike_74 : decode cX6_alike 74 = .ok (.aload_n 0, 1) := by decide +kernel
theorem dX6_alike_75 : decode cX6_alike 75 = .ok (.iload 4, 2) := by decide +kernel
theorem dX6_alike_77 : decode cX6_alike 77 = .ok (.ifCond .eq 7, 3) := by decide +kernel
theorem dX6_alike_80 : decode cX6_alike 80 = .ok (.iconst 1, 1) := by decide +kernel
theorem dX6_alike_81 : decode cX6_alike 81 = .ok (.goto 4, 3) := by decide +kernel
theorem dX6_alike_84 : decode cX6_alike 84 = .ok (.iconst 0, 1) := by decide +kernel
theorem dX6_alike_85 : decode cX6_alike 85 = .ok (.iconst 2, 1) := by decide +kernel
theorem dX6_alike_86 : decode cX6_alike 86 = .ok (.invokevirtual 76, 3) := by decide +kernel
theorem dX6_alike_89 : decode cX6_alike 89 = .ok (.ifCond .ne 5, 3) := by decide +kernel
theorem dX6_alike_92 : decode cX6_alike 92 = .ok (.iconst 0, 1) := by decide +kernel
theorem dX6_alike_93 : decode cX6_alike 93 = .ok (.ireturn, 1) := by decide +kernel
theorem dX6_alike_94 : decode cX6_alike 94 = .ok (.iconst 0, 1) := by decide +kernel
theorem dX6_alike_95 : decode cX6_alike 95 = .ok (.istore 6, 2) := by decide +kernel
theorem dX6_alike_97 : decode cX6_alike 97 = .ok (.iconst 0, 1) := by decide +kernel
theorem dX6_alike_98 : decode cX6_alike 98 = .ok (.istore 7, 2) := by decide +kernel
theorem dX6_alike_100 : decode cX6_alike 100 = .ok (.iload 7, 2) := by decide +kernel
theorem dX6_alike_102 : decode cX6_alike 102 = .ok (.iload 4, 2) := by decide +kernel
theorem dX6_alike_104 : decode cX6_alike 104 = .ok (.if_icmp .ge 40, 3) := by decide +kernel
theorem dX6_alike_107 : decode cX6_alike 107 = .ok (.iload 6, 2) := by decide +kernel
theorem dX6_alike_109 : decode cX6_alike 109 = .ok (.aload_n 0, 1) := by decide +kernel
theorem dX6_alike_110 : decode cX6_alike 110 = .ok (.iload_n 1, 1) := by decide +kernel
theorem dX6_alike_111 : decode cX6_alike 111 = .ok (.iload_n 2, 1) := by decide +kernel
theorem dX6_alike_112 : decode cX6_alike 112 = .ok (.iload 7, 2) := by decide +kernel
theorem dX6_alike_114 : decode cX6_alike 114 = .ok (.iadd, 1) := by decide +kernel
theorem dX6_alike_115 : decode cX6_alike 115 = .ok (.invokevirtual 90, 3) := by decide +kernel
theorem dX6_alike_118 : decode cX6_alike 118 = .ok (.aload_n 0, 1) := by decide +kernel
theorem dX6_alike_119 : decode cX6_alike 119 = .ok (.iload_n 1, 1) := by decide +kernel
theorem dX6_alike_120 : decode cX6_alike 120 = .ok (.iload_n 3, 1) := by decide +kernel
theorem dX6_alike_121 : decode cX6_alike 121 = .ok (.iload 7, 2) := by decide +kernel
theorem dX6_alike_123 : decode cX6_alike 123 = .ok (.iadd, 1) := by decide +kernel
theorem dX6_alike_124 : decode cX6_alike 124 = .ok (.invokevirtual 90, 3) := by decide +kernel
theorem dX6_alike_127 : decode cX6_alike 127 = .ok (.if_icmp .ne 7, 3) := by decide +kernel
theorem dX6_alike_130 : decode cX6_alike 130 = .ok (.iconst 1, 1) := by decide +kernel
theorem dX6_alike_131 : decode cX6_alike 131 = .ok (.goto 4, 3) := by decide +kernel
theorem dX6_alike_134 : decode cX6_alike 134 = .ok (.iconst 0, 1) := by decide +kernel
theorem dX6_alike_135 : decode cX6_alike 135 = .ok (.iadd, 1) := by decide +kernel
theorem dX6_alike_136 : decode cX6_alike 136 = .ok (.istore 6, 2) := by decide +kernel
theorem dX6_alike_138 : decode cX6_alike 138 = .ok (.iinc 7 1, 3) := by decide +kernel
theorem dX6_alike_141 : decode cX6_alike 141 = .ok (.goto (-41), 3) := by decide +kernel
theorem dX6_alike_144 : decode cX6_alike 144 = .ok (.bipush 100, 2) := by decide +kernel
theorem dX6_alike_146 : decode cX6_alike 146 = .ok (.iload 6, 2) := by decide +kernel
theorem dX6_alike_148 : decode cX6_alike 148 = .ok (.imul, 1) := by decide +kernel
theorem dX6_alike_149 : decode cX6_alike 149 = .ok (.iload 4, 2) := by decide +kernel
theorem dX6_alike_151 : decode cX6_alike 151 = .ok (.idiv, 1) := by decide +kernel
theorem dX6_alike_152 : decode cX6_alike 152 = .ok (.ireturn, 1) := by decide +kernel
theorem dX6_motive_0 : decode cX6_motive 0 = .ok (.aload_n 0, 1) := by decide +kernel
theorem dX6_motive_1 : decode cX6_motive 1 = .ok (.iconst 0, 1) := by decide +kernel
theorem dX6_motive_2 : decode cX6_motive 2 = .ok (.putfield 46, 3) := by decide +kernel
theorem dX6_motive_5 : decode cX6_motive 5 = .ok (.aload_n 0, 1) := by decide +kernel
theorem dX6_motive_6 : decode cX6_motive 6 = .ok (.iload_n 2, 1) := by decide +kernel
theorem dX6_motive_7 : decode cX6_motive 7 = .ok (.i2l, 1) := by decide +kernel
theorem dX6_motive_8 : decode cX6_motive 8 = .ok (.lconst 1, 1) := by decide +kernel
theorem dX6_motive_9 : decode cX6_motive 9 = .ok (.ldc2_w 102, 3) := by decide +kernel
theorem dX6_motive_12 : decode cX6_motive 12 = .ok (.invokestatic 70, 3) := by decide +kernel
theorem dX6_motive_15 : decode cX6_motive 15 = .ok (.ifCond .eq 25, 3) := by decide +kernel
theorem dX6_motive_18 : decode cX6_motive 18 = .ok (.iload_n 1, 1) := by decide +kernel
theorem dX6_motive_19 : decode cX6_motive 19 = .ok (.ifCond .lt 21, 3) := by decide +kernel
theorem dX6_motive_22 : decode cX6_motive 22 = .ok (.iload_n 1, 1) := by decide +kernel
theorem dX6_motive_23 : decode cX6_motive 23 = .ok (.i2l, 1) := by decide +kernel
theorem dX6_motive_24 : decode cX6_motive 24 = .ok (.iload_n 2, 1) := by decide +kernel
theorem dX6_motive_25 : decode cX6_motive 25 = .ok (.i2l, 1) := by decide +kernel
theorem dX6_motive_26 : decode cX6_motive 26 = .ok (.ladd, 1) := by decide +kernel
theorem dX6_motive_27 : decode cX6_motive 27 = .ok (.aload_n 0, 1) := by decide +kernel
theorem dX6_motive_28 : decode cX6_motive 28 = .ok (.getfield 50, 3) := by decide +kernel
theorem dX6_motive_31 : decode cX6_motive 31 = .ok (.i2l, 1) := by decide +kernel
theorem dX6_motive_32 : decode cX6_motive 32 = .ok (.lcmp, 1) := by decide +kernel
theorem dX6_motive_33 : decode cX6_motive 33 = .ok (.ifCond .gt 7, 3) := by decide +kernel
theorem dX6_motive_36 : decode cX6_motive 36 = .ok (.iconst 1, 1) := by decide +kernel
theorem dX6_motive_37 : decode cX6_motive 37 = .ok (.goto 4, 3) := by decide +kernel
theorem dX6_motive_40 : decode cX6_motive 40 = .ok (.iconst 0, 1) := by decide +kernel
theorem dX6_motive_41 : decode cX6_motive 41 = .ok (.iconst 1, 1) := by decide +kernel
theorem dX6_motive_42 : decode cX6_motive 42 = .ok (.invokevirtual 76, 3) := by decide +kernel
theorem dX6_motive_45 : decode cX6_motive 45 = .ok (.ifCond .ne 5, 3) := by decide +kernel
theorem dX6_motive_48 : decode cX6_motive 48 = .ok (.iconst 0, 1) := by decide +kernel
theorem dX6_motive_49 : decode cX6_motive 49 = .ok (.ireturn, 1) := by decide +kernel
theorem dX6_motive_50 : decode cX6_motive 50 = .ok (.aload_n 0, 1) := by decide +kernel
theorem dX6_motive_51 : decode cX6_motive 51 = .ok (.iload_n 2, 1) := by decide +kernel
theorem dX6_motive_52 : decode cX6_motive 52 = .ok (.putfield 56, 3) := by decide +kernel
theorem dX6_motive_55 : decode cX6_motive 55 = .ok (.iconst 0, 1) := by decide +kernel
theorem dX6_motive_56 : decode cX6_motive 56 = .ok (.istore_n 3, 1) := by decide +kernel
theorem dX6_motive_57 : decode cX6_motive 57 = .ok (.iload_n 3, 1) := by decide +kernel
theorem dX6_motive_58 : decode cX6_motive 58 = .ok (.iload_n 2, 1) := by decide +kernel
theorem dX6_motive_59 : decode cX6_motive 59 = .ok (.if_icmp .ge 37, 3) := by decide +kernel
theorem dX6_motive_62 : decode cX6_motive 62 = .ok (.aload_n 0, 1) := by decide +kernel
theorem dX6_motive_63 : decode cX6_motive 63 = .ok (.getfield 19, 3) := by decide +kernel
theorem dX6_motive_66 : decode cX6_motive 66 = .ok (.iload_n 3, 1) := by decide +kernel
theorem dX6_motive_67 : decode cX6_motive 67 = .ok (.aload_n 0, 1) := by decide +kernel
theorem dX6_motive_68 : decode cX6_motive 68 = .ok (.getfield 7, 3) := by decide +kernel
theorem dX6_motive_71 : decode cX6_motive 71 = .ok (.iload_n 1, 1) := by decide +kernel
theorem dX6_motive_72 : decode cX6_motive 72 = .ok (.iload_n 3, 1) := by decide +kernel
theorem dX6_motive_73 : decode cX6_motive 73 = .ok (.iadd, 1) := by decide +kernel
theorem dX6_motive_74 : decode cX6_motive 74 = .ok (.iaload, 1) := by decide +kernel
theorem dX6_motive_75 : decode cX6_motive 75 = .ok (.iastore, 1) := by decide +kernel
theorem dX6_motive_76 : decode cX6_motive 76 = .ok (.aload_n 0, 1) := by decide +kernel
theorem dX6_motive_77 : decode cX6_motive 77 = .ok (.getfield 22, 3) := by decide +kernel
theorem dX6_motive_80 : decode cX6_motive 80 = .ok (.iload_n 3, 1) := by decide +kernel
theorem dX6_motive_81 : decode cX6_motive 81 = .ok (.aload_n 0, 1) := by decide +kernel
theorem dX6_motive_82 : decode cX6_motive 82 = .ok (.getfield 13, 3) := by decide +kernel
theorem dX6_motive_85 : decode cX6_motive 85 = .ok (.iload_n 1, 1) := by decide +kernel
theorem dX6_motive_86 : decode cX6_motive 86 = .ok (.iload_n 3, 1) := by decide +kernel
theorem dX6_motive_87 : decode cX6_motive 87 = .ok (.iadd, 1) := by decide +kernel
theorem dX6_motive_88 : decode cX6_motive 88 = .ok (.iaload, 1) := by decide +kernel
theorem dX6_motive_89 : decode cX6_motive 89 = .ok (.iastore, 1) := by decide +kernel
theorem dX6_motive_90 : decode cX6_motive 90 = .ok (.iinc 3 1, 3) := by decide +kernel
theorem dX6_motive_93 : decode cX6_motive 93 = .ok (.goto (-36), 3) := by decide +kernel
theorem dX6_motive_96 : decode cX6_motive 96 = .ok (.aload_n 0, 1) := by decide +kernel
theorem dX6_motive_97 : decode cX6_motive 97 = .ok (.getfield 19, 3) := by decide +kernel
theorem dX6_motive_100 : decode cX6_motive 100 = .ok (.iconst 0, 1) := by decide +kernel
theorem dX6_motive_101 : decode cX6_motive 101 = .ok (.iaload, 1) := by decide +kernel
theorem dX6_motive_102 : decode cX6_motive 102 = .ok (.ireturn, 1) := by decide +kernel
theorem dX6_source_0 : decode cX6_source 0 = .ok (.iload_n 1, 1) := by decide +kernel
theorem dX6_source_1 : decode cX6_source 1 = .ok (.iconst 2, 1) := by decide +kernel
theorem dX6_source_2 : decode cX6_source 2 = .ok (.if_icmp .ge 7, 3) := by decide +kernel
theorem dX6_source_5 : decode cX6_source 5 = .ok (.iload_n 2, 1) := by decide +kernel
theorem dX6_source_6 : decode cX6_source 6 = .ok (.goto 11, 3) := by decide +kernel
theorem dX6_source_9 : decode cX6_source 9 = .ok (.aload_n 0, 1) := by decide +kernel
theorem dX6_source_10 : decode cX6_source 10 = .ok (.getfield 56, 3) := by decide +kernel
theorem dX6_source_13 : decode cX6_source 13 = .ok (.iconst 1, 1) := by decide +kernel
theorem dX6_source_14 : decode cX6_source 14 = .ok (.isub, 1) := by decide +kernel
theorem dX6_source_15 : decode cX6_source 15 = .ok (.iload_n 2, 1) := by decide +kernel
theorem dX6_source_16 : decode cX6_source 16 = .ok (.isub, 1) := by decide +kernel
theorem dX6_source_17 : decode cX6_source 17 = .ok (.ireturn, 1) := by decide +kernel
theorem dX6_formPitch_0 : decode cX6_formPitch 0 = .ok (.aload_n 0, 1) := by decide +kernel
theorem dX6_formPitch_1 : decode cX6_formPitch 1 = .ok (.getfield 19, 3) := by decide +kernel
theorem dX6_formPitch_4 : decode cX6_formPitch 4 = .ok (.aload_n 0, 1) := by decide +kernel
theorem dX6_formPitch_5 : decode cX6_formPitch 5 = .ok (.iload_n 1, 1) := by decide +kernel
theorem dX6_formPitch_6 : decode cX6_formPitch 6 = .ok (.iload_n 2, 1) := by decide +kernel
theorem dX6_formPitch_7 : decode cX6_formPitch 7 = .ok (.invokevirtual 104, 3) := by decide +kernel
theorem dX6_formPitch_10 : decode cX6_formPitch 10 = .ok (.iaload, 1) := by decide +kernel
theorem dX6_formPitch_11 : decode cX6_formPitch 11 = .ok (.istore_n 3, 1) := by decide +kernel
theorem dX6_formPitch_12 : decode cX6_formPitch 12 = .ok (.iload_n 1, 1) := by decide +kernel
theorem dX6_formPitch_13 : decode cX6_formPitch 13 = .ok (.iconst 1, 1) := by decide +kernel
theorem dX6_formPitch_14 : decode cX6_formPitch 14 = .ok (.if_icmp .eq 8, 3) := by decide +kernel
theorem dX6_formPitch_17 : decode cX6_formPitch 17 = .ok (.iload_n 1, 1) := by decide +kernel
theorem dX6_formPitch_18 : decode cX6_formPitch 18 = .ok (.iconst 3, 1) := by decide +kernel
theorem dX6_formPitch_19 : decode cX6_formPitch 19 = .ok (.if_icmp .ne 21, 3) := by decide +kernel
theorem dX6_formPitch_22 : decode cX6_formPitch 22 = .ok (.iconst 2, 1) := by decide +kernel
theorem dX6_formPitch_23 : decode cX6_formPitch 23 = .ok (.aload_n 0, 1) := by decide +kernel
theorem dX6_formPitch_24 : decode cX6_formPitch 24 = .ok (.getfield 19, 3) := by decide +kernel
theorem dX6_formPitch_27 : decode cX6_formPitch 27 = .ok (.aload_n 0, 1) := by decide +kernel
theorem dX6_formPitch_28 : decode cX6_formPitch 28 = .ok (.iload_n 1, 1) := by decide +kernel
theorem dX6_formPitch_29 : decode cX6_formPitch 29 = .ok (.iconst 0, 1) := by decide +kernel
theorem dX6_formPitch_30 : decode cX6_formPitch 30 = .ok (.invokevirtual 104, 3) := by decide +kernel
theorem dX6_formPitch_33 : decode cX6_formPitch 33 = .ok (.iaload, 1) := by decide +kernel
theorem dX6_formPitch_34 : decode cX6_formPitch 34 = .ok (.imul, 1) := by decide +kernel
theorem dX6_formPitch_35 : decode cX6_formPitch 35 = .ok (.iload_n 3, 1) := by decide +kernel
theorem dX6_formPitch_36 : decode cX6_formPitch 36 = .ok (.isub, 1) := by decide +kernel
theorem dX6_formPitch_37 : decode cX6_formPitch 37 = .ok (.goto 4, 3) := by decide +kernel
theorem dX6_formPitch_40 : decode cX6_formPitch 40 = .ok (.iload_n 3, 1) := by decide +kernel
theorem dX6_formPitch_41 : decode cX6_formPitch 41 = .ok (.ireturn, 1) := by decide +kernel
theorem dX6_form_0 : decode cX6_form 0 = .ok (.aload_n 0, 1) := by decide +kernel
theorem dX6_form_1 : decode cX6_form 1 = .ok (.iconst 0, 1) := by decide +kernel
theorem dX6_form_2 : decode cX6_form 2 = .ok (.putfield 46, 3) := by decide +kernel
theorem dX6_form_5 : decode cX6_form 5 = .ok (.aload_n 0, 1) := by decide +kernel
theorem dX6_form_6 : decode cX6_form 6 = .ok (.iload_n 1, 1) := by decide +kernel
theorem dX6_form_7 : decode cX6_form 7 = .ok (.i2l, 1) := by decide +kernel
theorem dX6_form_8 : decode cX6_form 8 = .ok (.lconst 0, 1) := by decide +kernel
theorem dX6_form_9 : decode cX6_form 9 = .ok (.ldc2_w 107, 3) := by decide +kernel
theorem dX6_form_12 : decode cX6_form 12 = .ok (.invokestatic 70, 3) := by decide +kernel
theorem dX6_form_15 : decode cX6_form 15 = .ok (.ifCond .eq 33, 3) := by decide +kernel
theorem dX6_form_18 : decode cX6_form 18 = .ok (.iload_n 2, 1) := by decide +kernel
theorem dX6_form_19 : decode cX6_form 19 = .ok (.i2l, 1) := by decide +kernel
theorem dX6_form_20 : decode cX6_form 20 = .ok (.lconst 0, 1) := by decide +kernel
theorem dX6_form_21 : decode cX6_form 21 = .ok (.aload_n 0, 1) := by decide +kernel
theorem dX6_form_22 : decode cX6_form 22 = .ok (.getfield 56, 3) := by decide +kernel
theorem dX6_form_25 : decode cX6_form 25 = .ok (.iconst 1, 1) := by decide +kernel
theorem dX6_form_26 : decode cX6_form 26 = .ok (.isub, 1) := by decide +kernel
theorem dX6_form_27 : decode cX6_form 27 = .ok (.i2l, 1) := by decide +kernel
theorem dX6_form_28 : decode cX6_form 28 = .ok (.invokestatic 70, 3) := by decide +kernel
theorem dX6_form_31 : decode cX6_form 31 = .ok (.ifCond .eq 17, 3) := by decide +kernel
theorem dX6_form_34 : decode cX6_form 34 = .ok (.iload_n 3, 1) := by decide +kernel
theorem dX6_form_35 : decode cX6_form 35 = .ok (.i2l, 1) := by decide +kernel
theorem dX6_form_36 : decode cX6_form 36 = .ok (.lconst 0, 1) := by decide +kernel
theorem dX6_form_37 : decode cX6_form 37 = .ok (.lconst 1, 1) := by decide +kernel
theorem dX6_form_38 : decode cX6_form 38 = .ok (.invokestatic 70, 3) := by decide +kernel
theorem dX6_form_41 : decode cX6_form 41 = .ok (.ifCond .eq 7, 3) := by decide +kernel
theorem dX6_form_44 : decode cX6_form 44 = .ok (.iconst 1, 1) := by decide +kernel
theorem dX6_form_45 : decode cX6_form 45 = .ok (.goto 4, 3) := by decide +kernel
theorem dX6_form_48 : decode cX6_form 48 = .ok (.iconst 0, 1) := by decide +kernel
theorem dX6_form_49 : decode cX6_form 49 = .ok (.iconst 1, 1) := by decide +kernel
theorem dX6_form_50 : decode cX6_form 50 = .ok (.invokevirtual 76, 3) := by decide +kernel
theorem dX6_form_53 : decode cX6_form 53 = .ok (.ifCond .ne 5, 3) := by decide +kernel
theorem dX6_form_56 : decode cX6_form 56 = .ok (.iconst 0, 1) := by decide +kernel
theorem dX6_form_57 : decode cX6_form 57 = .ok (.ireturn, 1) := by decide +kernel
theorem dX6_form_58 : decode cX6_form 58 = .ok (.iload_n 3, 1) := by decide +kernel
theorem dX6_form_59 : decode cX6_form 59 = .ok (.ifCond .ne 12, 3) := by decide +kernel
theorem dX6_form_62 : decode cX6_form 62 = .ok (.aload_n 0, 1) := by decide +kernel
theorem dX6_form_63 : decode cX6_form 63 = .ok (.iload_n 1, 1) := by decide +kernel
theorem dX6_form_64 : decode cX6_form 64 = .ok (.iload_n 2, 1) := by decide +kernel
theorem dX6_form_65 : decode cX6_form 65 = .ok (.invokevirtual 109, 3) := by decide +kernel
theorem dX6_form_68 : decode cX6_form 68 = .ok (.goto 14, 3) := by decide +kernel
theorem dX6_form_71 : decode cX6_form 71 = .ok (.aload_n 0, 1) := by decide +kernel
theorem dX6_form_72 : decode cX6_form 72 = .ok (.getfield 22, 3) := by decide +kernel
theorem dX6_form_75 : decode cX6_form 75 = .ok (.aload_n 0, 1) := by decide +kernel
theorem dX6_form_76 : decode cX6_form 76 = .ok (.iload_n 1, 1) := by decide +kernel
theorem dX6_form_77 : decode cX6_form 77 = .ok (.iload_n 2, 1) := by decide +kernel
theorem dX6_form_78 : decode cX6_form 78 = .ok (.invokevirtual 104, 3) := by decide +kernel
theorem dX6_form_81 : decode cX6_form 81 = .ok (.iaload, 1) := by decide +kernel
theorem dX6_form_82 : decode cX6_form 82 = .ok (.ireturn, 1) := by decide +kernel
theorem dX6_answerPitch_0 : decode cX6_answerPitch 0 = .ok (.aload_n 0, 1) := by decide +kernel
theorem dX6_answerPitch_1 : decode cX6_answerPitch 1 = .ok (.getfield 19, 3) := by decide +kernel
theorem dX6_answerPitch_4 : decode cX6_answerPitch 4 = .ok (.iload_n 3, 1) := by decide +kernel
theorem dX6_answerPitch_5 : decode cX6_answerPitch 5 = .ok (.iaload, 1) := by decide +kernel
theorem dX6_answerPitch_6 : decode cX6_answerPitch 6 = .ok (.istore 4, 2) := by decide +kernel
theorem dX6_answerPitch_8 : decode cX6_answerPitch 8 = .ok (.iload 4, 2) := by decide +kernel
theorem dX6_answerPitch_10 : decode cX6_answerPitch 10 = .ok (.bipush 120, 2) := by decide +kernel
theorem dX6_answerPitch_12 : decode cX6_answerPitch 12 = .ok (.iadd, 1) := by decide +kernel
theorem dX6_answerPitch_13 : decode cX6_answerPitch 13 = .ok (.iload_n 1, 1) := by decide +kernel
theorem dX6_answerPitch_14 : decode cX6_answerPitch 14 = .ok (.isub, 1) := by decide +kernel
theorem dX6_answerPitch_15 : decode cX6_answerPitch 15 = .ok (.bipush 7, 2) := by decide +kernel
theorem dX6_answerPitch_17 : decode cX6_answerPitch 17 = .ok (.isub, 1) := by decide +kernel
theorem dX6_answerPitch_18 : decode cX6_answerPitch 18 = .ok (.bipush 12, 2) := by decide +kernel
theorem dX6_answerPitch_20 : decode cX6_answerPitch 20 = .ok (.irem, 1) := by decide +kernel
theorem dX6_answerPitch_21 : decode cX6_answerPitch 21 = .ok (.ifCond .ne 7, 3) := by decide +kernel
theorem dX6_answerPitch_24 : decode cX6_answerPitch 24 = .ok (.iconst 1, 1) := by decide +kernel
theorem dX6_answerPitch_25 : decode cX6_answerPitch 25 = .ok (.goto 4, 3) := by decide +kernel
theorem dX6_answerPitch_28 : decode cX6_answerPitch 28 = .ok (.iconst 0, 1) := by decide +kernel
theorem dX6_answerPitch_29 : decode cX6_answerPitch 29 = .ok (.istore 5, 2) := by decide +kernel
theorem dX6_answerPitch_31 : decode cX6_answerPitch 31 = .ok (.iload 4, 2) := by decide +kernel
theorem dX6_answerPitch_33 : decode cX6_answerPitch 33 = .ok (.iload_n 3, 1) := by decide +kernel
theorem dX6_answerPitch_34 : decode cX6_answerPitch 34 = .ok (.iload_n 2, 1) := by decide +kernel
theorem dX6_answerPitch_35 : decode cX6_answerPitch 35 = .ok (.if_icmp .ge 12, 3) := by decide +kernel
theorem dX6_answerPitch_38 : decode cX6_answerPitch 38 = .ok (.iload 5, 2) := by decide +kernel
theorem dX6_answerPitch_40 : decode cX6_answerPitch 40 = .ok (.ifCond .eq 7, 3) := by decide +kernel
theorem dX6_answerPitch_43 : decode cX6_answerPitch 43 = .ok (.iconst 5, 1) := by decide +kernel
theorem dX6_answerPitch_44 : decode cX6_answerPitch 44 = .ok (.goto 5, 3) := by decide +kernel
theorem dX6_answerPitch_47 : decode cX6_answerPitch 47 = .ok (.bipush 7, 2) := by decide +kernel
theorem dX6_answerPitch_49 : decode cX6_answerPitch 49 = .ok (.iadd, 1) := by decide +kernel
theorem dX6_answerPitch_50 : decode cX6_answerPitch 50 = .ok (.ireturn, 1) := by decide +kernel
theorem dX6_goes_0 : decode cX6_goes 0 = .ok (.iload_n 1, 1) := by decide +kernel
theorem dX6_goes_1 : decode cX6_goes 1 = .ok (.aload_n 0, 1) := by decide +kernel
theorem dX6_goes_2 : decode cX6_goes 2 = .ok (.getfield 56, 3) := by decide +kernel
theorem dX6_goes_5 : decode cX6_goes 5 = .ok (.iadd, 1) := by decide +kernel
theorem dX6_goes_6 : decode cX6_goes 6 = .ok (.aload_n 0, 1) := by decide +kernel
theorem dX6_goes_7 : decode cX6_goes 7 = .ok (.getfield 50, 3) := by decide +kernel
theorem dX6_goes_10 : decode cX6_goes 10 = .ok (.if_icmp .gt 7, 3) := by decide +kernel
theorem dX6_goes_13 : decode cX6_goes 13 = .ok (.iconst 1, 1) := by decide +kernel
theorem dX6_goes_14 : decode cX6_goes 14 = .ok (.goto 4, 3) := by decide +kernel
theorem dX6_goes_17 : decode cX6_goes 17 = .ok (.iconst 0, 1) := by decide +kernel
theorem dX6_goes_18 : decode cX6_goes 18 = .ok (.istore_n 2, 1) := by decide +kernel
theorem dX6_goes_19 : decode cX6_goes 19 = .ok (.iconst 1, 1) := by decide +kernel
theorem dX6_goes_20 : decode cX6_goes 20 = .ok (.istore_n 3, 1) := by decide +kernel
theorem dX6_goes_21 : decode cX6_goes 21 = .ok (.iload_n 3, 1) := by decide +kernel
theorem dX6_goes_22 : decode cX6_goes 22 = .ok (.aload_n 0, 1) := by decide +kernel
theorem dX6_goes_23 : decode cX6_goes 23 = .ok (.getfield 56, 3) := by decide +kernel
theorem dX6_goes_26 : decode cX6_goes 26 = .ok (.if_icmp .ge 56, 3) := by decide +kernel
theorem dX6_goes_29 : decode cX6_goes 29 = .ok (.iload_n 2, 1) := by decide +kernel
theorem dX6_goes_30 : decode cX6_goes 30 = .ok (.ifCond .eq 52, 3) := by decide +kernel
theorem dX6_goes_33 : decode cX6_goes 33 = .ok (.aload_n 0, 1) := by decide +kernel
theorem dX6_goes_34 : decode cX6_goes 34 = .ok (.getfield 7, 3) := by decide +kernel
theorem dX6_goes_37 : decode cX6_goes 37 = .ok (.iload_n 1, 1) := by decide +kernel
theorem dX6_goes_38 : decode cX6_goes 38 = .ok (.iload_n 3, 1) := by decide +kernel
theorem dX6_goes_39 : decode cX6_goes 39 = .ok (.iadd, 1) := by decide +kernel
theorem dX6_goes_40 : decode cX6_goes 40 = .ok (.iaload, 1) := by decide +kernel
theorem dX6_goes_41 : decode cX6_goes 41 = .ok (.aload_n 0, 1) := by decide +kernel
theorem dX6_goes_42 : decode cX6_goes 42 = .ok (.getfield 7, 3) := by decide +kernel
theorem dX6_goes_45 : decode cX6_goes 45 = .ok (.iload_n 1, 1) := by decide +kernel
theorem dX6_goes_46 : decode cX6_goes 46 = .ok (.iload_n 3, 1) := by decide +kernel
theorem dX6_goes_47 : decode cX6_goes 47 = .ok (.iadd, 1) := by decide +kernel
theorem dX6_goes_48 : decode cX6_goes 48 = .ok (.iconst 1, 1) := by decide +kernel
theorem dX6_goes_49 : decode cX6_goes 49 = .ok (.isub, 1) := by decide +kernel
theorem dX6_goes_50 : decode cX6_goes 50 = .ok (.iaload, 1) := by decide +kernel
theorem dX6_goes_51 : decode cX6_goes 51 = .ok (.isub, 1) := by decide +kernel
theorem dX6_goes_52 : decode cX6_goes 52 = .ok (.aload_n 0, 1) := by decide +kernel
theorem dX6_goes_53 : decode cX6_goes 53 = .ok (.getfield 31, 3) := by decide +kernel
theorem dX6_goes_56 : decode cX6_goes 56 = .ok (.iload_n 3, 1) := by decide +kernel
theorem dX6_goes_57 : decode cX6_goes 57 = .ok (.iaload, 1) := by decide +kernel
theorem dX6_goes_58 : decode cX6_goes 58 = .ok (.aload_n 0, 1) := by decide +kernel
theorem dX6_goes_59 : decode cX6_goes 59 = .ok (.getfield 31, 3) := by decide +kernel
theorem dX6_goes_62 : decode cX6_goes 62 = .ok (.iload_n 3, 1) := by decide +kernel
theorem dX6_goes_63 : decode cX6_goes 63 = .ok (.iconst 1, 1) := by decide +kernel
theorem dX6_goes_64 : decode cX6_goes 64 = .ok (.isub, 1) := by decide +kernel
theorem dX6_goes_65 : decode cX6_goes 65 = .ok (.iaload, 1) := by decide +kernel
theorem dX6_goes_66 : decode cX6_goes 66 = .ok (.isub, 1) := by decide +kernel
theorem dX6_goes_67 : decode cX6_goes 67 = .ok (.if_icmp .ne 7, 3) := by decide +kernel
theorem dX6_goes_70 : decode cX6_goes 70 = .ok (.iconst 1, 1) := by decide +kernel
theorem dX6_goes_71 : decode cX6_goes 71 = .ok (.goto 4, 3) := by decide +kernel
theorem dX6_goes_74 : decode cX6_goes 74 = .ok (.iconst 0, 1) := by decide +kernel
theorem dX6_goes_75 : decode cX6_goes 75 = .ok (.istore_n 2, 1) := by decide +kernel
theorem dX6_goes_76 : decode cX6_goes 76 = .ok (.iinc 3 1, 3) := by decide +kernel
theorem dX6_goes_79 : decode cX6_goes 79 = .ok (.goto (-58), 3) := by decide +kernel
theorem dX6_goes_82 : decode cX6_goes 82 = .ok (.iload_n 2, 1) := by decide +kernel
theorem dX6_goes_83 : decode cX6_goes 83 = .ok (.ireturn, 1) := by decide +kernel
theorem dX6_find_0 : decode cX6_find 0 = .ok (.aload_n 0, 1) := by decide +kernel
theorem dX6_find_1 : decode cX6_find 1 = .ok (.iconst 0, 1) := by decide +kernel
theorem dX6_find_2 : decode cX6_find 2 = .ok (.putfield 46, 3) := by decide +kernel
theorem dX6_find_5 : decode cX6_find 5 = .ok (.iload_n 1, 1) := by decide +kernel
theorem dX6_find_6 : decode cX6_find 6 = .ok (.i2l, 1) := by decide +kernel
theorem dX6_find_7 : decode cX6_find 7 = .ok (.lconst 0, 1) := by decide +kernel
theorem dX6_find_8 : decode cX6_find 8 = .ok (.ldc2_w 107, 3) := by decide +kernel
theorem dX6_find_11 : decode cX6_find 11 = .ok (.invokestatic 70, 3) := by decide +kernel
theorem dX6_find_14 : decode cX6_find 14 = .ok (.ifCond .eq 39, 3) := by decide +kernel
theorem dX6_find_17 : decode cX6_find 17 = .ok (.iload_n 2, 1) := by decide +kernel
theorem dX6_find_18 : decode cX6_find 18 = .ok (.ifCond .ne 7, 3) := by decide +kernel
theorem dX6_find_21 : decode cX6_find 21 = .ok (.iload_n 3, 1) := by decide +kernel
theorem dX6_find_22 : decode cX6_find 22 = .ok (.ifCond .eq 27, 3) := by decide +kernel
theorem dX6_find_25 : decode cX6_find 25 = .ok (.iload_n 2, 1) := by decide +kernel
theorem dX6_find_26 : decode cX6_find 26 = .ok (.i2l, 1) := by decide +kernel
theorem dX6_find_27 : decode cX6_find 27 = .ok (.lconst 1, 1) := by decide +kernel
theorem dX6_find_28 : decode cX6_find 28 = .ok (.ldc2_w 112, 3) := by decide +kernel
theorem dX6_find_31 : decode cX6_find 31 = .ok (.invokestatic 70, 3) := by decide +kernel
theorem dX6_find_34 : decode cX6_find 34 = .ok (.ifCond .eq 19, 3) := by decide +kernel
theorem dX6_find_37 : decode cX6_find 37 = .ok (.iload_n 3, 1) := by decide +kernel
theorem dX6_find_38 : decode cX6_find 38 = .ok (.i2l, 1) := by decide +kernel
theorem dX6_find_39 : decode cX6_find 39 = .ok (.lconst 1, 1) := by decide +kernel
theorem dX6_find_40 : decode cX6_find 40 = .ok (.ldc2_w 112, 3) := by decide +kernel
theorem dX6_find_43 : decode cX6_find 43 = .ok (.invokestatic 70, 3) := by decide +kernel
theorem dX6_find_46 : decode cX6_find 46 = .ok (.ifCond .eq 7, 3) := by decide +kernel
theorem dX6_find_49 : decode cX6_find 49 = .ok (.iconst 1, 1) := by decide +kernel
theorem dX6_find_50 : decode cX6_find 50 = .ok (.goto 4, 3) := by decide +kernel
theorem dX6_find_53 : decode cX6_find 53 = .ok (.iconst 0, 1) := by decide +kernel
theorem dX6_find_54 : decode cX6_find 54 = .ok (.istore 4, 2) := by decide +kernel
theorem dX6_find_56 : decode cX6_find 56 = .ok (.aload_n 0, 1) := by decide +kernel
theorem dX6_find_57 : decode cX6_find 57 = .ok (.iload 4, 2) := by decide +kernel
theorem dX6_find_59 : decode cX6_find 59 = .ok (.iconst 1, 1) := by decide +kernel
theorem dX6_find_60 : decode cX6_find 60 = .ok (.invokevirtual 76, 3) := by decide +kernel
theorem dX6_find_63 : decode cX6_find 63 = .ok (.ifCond .eq 23, 3) := by decide +kernel
theorem dX6_find_66 : decode cX6_find 66 = .ok (.aload_n 0, 1) := by decide +kernel
theorem dX6_find_67 : decode cX6_find 67 = .ok (.aload_n 0, 1) := by decide +kernel
theorem dX6_find_68 : decode cX6_find 68 = .ok (.getfield 56, 3) := by decide +kernel
theorem dX6_find_71 : decode cX6_find 71 = .ok (.ifCond .le 7, 3) := by decide +kernel
theorem dX6_find_74 : decode cX6_find 74 = .ok (.iconst 1, 1) := by decide +kernel
theorem dX6_find_75 : decode cX6_find 75 = .ok (.goto 4, 3) := by decide +kernel
theorem dX6_find_78 : decode cX6_find 78 = .ok (.iconst 0, 1) := by decide +kernel
theorem dX6_find_79 : decode cX6_find 79 = .ok (.iconst 2, 1) := by decide +kernel
theorem dX6_find_80 : decode cX6_find 80 = .ok (.invokevirtual 76, 3) := by decide +kernel
theorem dX6_find_83 : decode cX6_find 83 = .ok (.ifCond .ne 5, 3) := by decide +kernel
theorem dX6_find_86 : decode cX6_find 86 = .ok (.iconst 0, 1) := by decide +kernel
theorem dX6_find_87 : decode cX6_find 87 = .ok (.ireturn, 1) := by decide +kernel
theorem dX6_find_88 : decode cX6_find 88 = .ok (.iconst 0, 1) := by decide +kernel
theorem dX6_find_89 : decode cX6_find 89 = .ok (.istore 5, 2) := by decide +kernel
theorem dX6_find_91 : decode cX6_find 91 = .ok (.iload 5, 2) := by decide +kernel
theorem dX6_find_93 : decode cX6_find 93 = .ok (.aload_n 0, 1) := by decide +kernel
theorem dX6_find_94 : decode cX6_find 94 = .ok (.getfield 56, 3) := by decide +kernel
theorem dX6_find_97 : decode cX6_find 97 = .ok (.if_icmp .ge 23, 3) := by decide +kernel
theorem dX6_find_100 : decode cX6_find 100 = .ok (.aload_n 0, 1) := by decide +kernel
theorem dX6_find_101 : decode cX6_find 101 = .ok (.getfield 31, 3) := by decide +kernel
theorem dX6_find_104 : decode cX6_find 104 = .ok (.iload 5, 2) := by decide +kernel
theorem dX6_find_106 : decode cX6_find 106 = .ok (.aload_n 0, 1) := by decide +kernel
theorem dX6_find_107 : decode cX6_find 107 = .ok (.iload_n 1, 1) := by decide +kernel
theorem dX6_find_108 : decode cX6_find 108 = .ok (.iload 5, 2) := by decide +kernel
theorem dX6_find_110 : decode cX6_find 110 = .ok (.invokevirtual 109, 3) := by decide +kernel
theorem dX6_find_113 : decode cX6_find 113 = .ok (.iastore, 1) := by decide +kernel
theorem dX6_find_114 : decode cX6_find 114 = .ok (.iinc 5 1, 3) := by decide +kernel
theorem dX6_find_117 : decode cX6_find 117 = .ok (.goto (-26), 3) := by decide +kernel
theorem dX6_find_120 : decode cX6_find 120 = .ok (.aload_n 0, 1) := by decide +kernel
theorem dX6_find_121 : decode cX6_find 121 = .ok (.iconst 0, 1) := by decide +kernel
theorem dX6_find_122 : decode cX6_find 122 = .ok (.putfield 59, 3) := by decide +kernel
theorem dX6_find_125 : decode cX6_find 125 = .ok (.iconst 0, 1) := by decide +kernel
theorem dX6_find_126 : decode cX6_find 126 = .ok (.istore 5, 2) := by decide +kernel
theorem dX6_find_128 : decode cX6_find 128 = .ok (.iload 5, 2) := by decide +kernel
theorem dX6_find_130 : decode cX6_find 130 = .ok (.aload_n 0, 1) := by decide +kernel
theorem dX6_find_131 : decode cX6_find 131 = .ok (.getfield 50, 3) := by decide +kernel
theorem dX6_find_134 : decode cX6_find 134 = .ok (.if_icmp .ge 102, 3) := by decide +kernel
theorem dX6_find_137 : decode cX6_find 137 = .ok (.aload_n 0, 1) := by decide +kernel
theorem dX6_find_138 : decode cX6_find 138 = .ok (.iload 5, 2) := by decide +kernel
theorem dX6_find_140 : decode cX6_find 140 = .ok (.invokevirtual 114, 3) := by decide +kernel
theorem dX6_find_143 : decode cX6_find 143 = .ok (.istore 6, 2) := by decide +kernel
theorem dX6_find_145 : decode cX6_find 145 = .ok (.iconst 0, 1) := by decide +kernel
theorem dX6_find_146 : decode cX6_find 146 = .ok (.istore 7, 2) := by decide +kernel
theorem dX6_find_148 : decode cX6_find 148 = .ok (.iload 7, 2) := by decide +kernel
theorem dX6_find_150 : decode cX6_find 150 = .ok (.aload_n 0, 1) := by decide +kernel
theorem dX6_find_151 : decode cX6_find 151 = .ok (.getfield 56, 3) := by decide +kernel
theorem dX6_find_154 : decode cX6_find 154 = .ok (.if_icmp .ge 50, 3) := by decide +kernel
theorem dX6_find_157 : decode cX6_find 157 = .ok (.iload 6, 2) := by decide +kernel
theorem dX6_find_159 : decode cX6_find 159 = .ok (.ifCond .eq 45, 3) := by decide +kernel
theorem dX6_find_162 : decode cX6_find 162 = .ok (.aload_n 0, 1) := by decide +kernel
theorem dX6_find_163 : decode cX6_find 163 = .ok (.getfield 13, 3) := by decide +kernel
theorem dX6_find_166 : decode cX6_find 166 = .ok (.iload 5, 2) := by decide +kernel
theorem dX6_find_168 : decode cX6_find 168 = .ok (.iload 7, 2) := by decide +kernel
theorem dX6_find_170 : decode cX6_find 170 = .ok (.iadd, 1) := by decide +kernel
theorem dX6_find_171 : decode cX6_find 171 = .ok (.iaload, 1) := by decide +kernel
theorem dX6_find_172 : decode cX6_find 172 = .ok (.iload_n 3, 1) := by decide +kernel
theorem dX6_find_173 : decode cX6_find 173 = .ok (.imul, 1) := by decide +kernel
theorem dX6_find_174 : decode cX6_find 174 = .ok (.aload_n 0, 1) := by decide +kernel
theorem dX6_find_175 : decode cX6_find 175 = .ok (.getfield 22, 3) := by decide +kernel
theorem dX6_find_178 : decode cX6_find 178 = .ok (.aload_n 0, 1) := by decide +kernel
theorem dX6_find_179 : decode cX6_find 179 = .ok (.iload_n 1, 1) := by decide +kernel
theorem dX6_find_180 : decode cX6_find 180 = .ok (.iload 7, 2) := by decide +kernel
theorem dX6_find_182 : decode cX6_find 182 = .ok (.invokevirtual 104, 3) := by decide +kernel
theorem dX6_find_185 : decode cX6_find 185 = .ok (.iaload, 1) := by decide +kernel
theorem dX6_find_186 : decode cX6_find 186 = .ok (.iload_n 2, 1) := by decide +kernel
theorem dX6_find_187 : decode cX6_find 187 = .ok (.imul, 1) := by decide +kernel
theorem dX6_find_188 : decode cX6_find 188 = .ok (.if_icmp .ne 7, 3) := by decide +kernel
theorem dX6_find_191 : decode cX6_find 191 = .ok (.iconst 1, 1) := by decide +kernel
theorem dX6_find_192 : decode cX6_find 192 = .ok (.goto 4, 3) := by decide +kernel
theorem dX6_find_195 : decode cX6_find 195 = .ok (.iconst 0, 1) := by decide +kernel
theorem dX6_find_196 : decode cX6_find 196 = .ok (.istore 6, 2) := by decide +kernel
theorem dX6_find_198 : decode cX6_find 198 = .ok (.iinc 7 1, 3) := by decide +kernel
theorem dX6_find_201 : decode cX6_find 201 = .ok (.goto (-53), 3) := by decide +kernel
theorem dX6_find_204 : decode cX6_find 204 = .ok (.iload 6, 2) := by decide +kernel
theorem dX6_find_206 : decode cX6_find 206 = .ok (.ifCond .eq 24, 3) := by decide +kernel
theorem dX6_find_209 : decode cX6_find 209 = .ok (.aload_n 0, 1) := by decide +kernel
theorem dX6_find_210 : decode cX6_find 210 = .ok (.getfield 25, 3) := by decide +kernel
theorem dX6_find_213 : decode cX6_find 213 = .ok (.aload_n 0, 1) := by decide +kernel
theorem dX6_find_214 : decode cX6_find 214 = .ok (.getfield 59, 3) := by decide +kernel
theorem dX6_find_217 : decode cX6_find 217 = .ok (.iload 5, 2) := by decide +kernel
theorem dX6_find_219 : decode cX6_find 219 = .ok (.iastore, 1) := by decide +kernel
theorem dX6_find_220 : decode cX6_find 220 = .ok (.aload_n 0, 1) := by decide +kernel
theorem dX6_find_221 : decode cX6_find 221 = .ok (.dup, 1) := by decide +kernel
theorem dX6_find_222 : decode cX6_find 222 = .ok (.getfield 59, 3) := by decide +kernel
theorem dX6_find_225 : decode cX6_find 225 = .ok (.iconst 1, 1) := by decide +kernel
theorem dX6_find_226 : decode cX6_find 226 = .ok (.iadd, 1) := by decide +kernel
theorem dX6_find_227 : decode cX6_find 227 = .ok (.putfield 59, 3) := by decide +kernel
theorem dX6_find_230 : decode cX6_find 230 = .ok (.iinc 5 1, 3) := by decide +kernel
theorem dX6_find_233 : decode cX6_find 233 = .ok (.goto (-105), 3) := by decide +kernel
theorem dX6_find_236 : decode cX6_find 236 = .ok (.aload_n 0, 1) := by decide +kernel
theorem dX6_find_237 : decode cX6_find 237 = .ok (.getfield 59, 3) := by decide +kernel
theorem dX6_find_240 : decode cX6_find 240 = .ok (.ireturn, 1) := by decide +kernel
theorem dX6_answer_0 : decode cX6_answer 0 = .ok (.aload_n 0, 1) := by decide +kernel
theorem dX6_answer_1 : decode cX6_answer 1 = .ok (.iconst 0, 1) := by decide +kernel
theorem dX6_answer_2 : decode cX6_answer 2 = .ok (.putfield 46, 3) := by decide +kernel
theorem dX6_answer_5 : decode cX6_answer 5 = .ok (.aload_n 0, 1) := by decide +kernel
theorem dX6_answer_6 : decode cX6_answer 6 = .ok (.iload_n 1, 1) := by decide +kernel
theorem dX6_answer_7 : decode cX6_answer 7 = .ok (.i2l, 1) := by decide +kernel
theorem dX6_answer_8 : decode cX6_answer 8 = .ok (.lconst 0, 1) := by decide +kernel
theorem dX6_answer_9 : decode cX6_answer 9 = .ok (.ldc2_w 117, 3) := by decide +kernel
theorem dX6_answer_12 : decode cX6_answer 12 = .ok (.invokestatic 70, 3) := by decide +kernel
theorem dX6_answer_15 : decode cX6_answer 15 = .ok (.ifCond .eq 35, 3) := by decide +kernel
theorem dX6_answer_18 : decode cX6_answer 18 = .ok (.iload_n 2, 1) := by decide +kernel
theorem dX6_answer_19 : decode cX6_answer 19 = .ok (.i2l, 1) := by decide +kernel
theorem dX6_answer_20 : decode cX6_answer 20 = .ok (.lconst 0, 1) := by decide +kernel
theorem dX6_answer_21 : decode cX6_answer 21 = .ok (.ldc2_w 102, 3) := by decide +kernel
theorem dX6_answer_24 : decode cX6_answer 24 = .ok (.invokestatic 70, 3) := by decide +kernel
theorem dX6_answer_27 : decode cX6_answer 27 = .ok (.ifCond .eq 23, 3) := by decide +kernel
theorem dX6_answer_30 : decode cX6_answer 30 = .ok (.iload_n 3, 1) := by decide +kernel
theorem dX6_answer_31 : decode cX6_answer 31 = .ok (.i2l, 1) := by decide +kernel
theorem dX6_answer_32 : decode cX6_answer 32 = .ok (.lconst 0, 1) := by decide +kernel
theorem dX6_answer_33 : decode cX6_answer 33 = .ok (.aload_n 0, 1) := by decide +kernel
theorem dX6_answer_34 : decode cX6_answer 34 = .ok (.getfield 56, 3) := by decide +kernel
theorem dX6_answer_37 : decode cX6_answer 37 = .ok (.iconst 1, 1) := by decide +kernel
theorem dX6_answer_38 : decode cX6_answer 38 = .ok (.isub, 1) := by decide +kernel
theorem dX6_answer_39 : decode cX6_answer 39 = .ok (.i2l, 1) := by decide +kernel
theorem dX6_answer_40 : decode cX6_answer 40 = .ok (.invokestatic 70, 3) := by decide +kernel
theorem dX6_answer_43 : decode cX6_answer 43 = .ok (.ifCond .eq 7, 3) := by decide +kernel
theorem dX6_answer_46 : decode cX6_answer 46 = .ok (.iconst 1, 1) := by decide +kernel
theorem dX6_answer_47 : decode cX6_answer 47 = .ok (.goto 4, 3) := by decide +kernel
theorem dX6_answer_50 : decode cX6_answer 50 = .ok (.iconst 0, 1) := by decide +kernel
theorem dX6_answer_51 : decode cX6_answer 51 = .ok (.iconst 1, 1) := by decide +kernel
theorem dX6_answer_52 : decode cX6_answer 52 = .ok (.invokevirtual 76, 3) := by decide +kernel
theorem dX6_answer_55 : decode cX6_answer 55 = .ok (.ifCond .eq 13, 3) := by decide +kernel
theorem dX6_answer_58 : decode cX6_answer 58 = .ok (.aload_n 0, 1) := by decide +kernel
theorem dX6_answer_59 : decode cX6_answer 59 = .ok (.iload_n 1, 1) := by decide +kernel
theorem dX6_answer_60 : decode cX6_answer 60 = .ok (.iload_n 2, 1) := by decide +kernel
theorem dX6_answer_61 : decode cX6_answer 61 = .ok (.iload_n 3, 1) := by decide +kernel
theorem dX6_answer_62 : decode cX6_answer 62 = .ok (.invokevirtual 119, 3) := by decide +kernel
theorem dX6_answer_65 : decode cX6_answer 65 = .ok (.goto 4, 3) := by decide +kernel
theorem dX6_answer_68 : decode cX6_answer 68 = .ok (.iconst 0, 1) := by decide +kernel
theorem dX6_answer_69 : decode cX6_answer 69 = .ok (.ireturn, 1) := by decide +kernel
theorem dX6_entries_0 : decode cX6_entries 0 = .ok (.aload_n 0, 1) := by decide +kernel
theorem dX6_entries_1 : decode cX6_entries 1 = .ok (.iconst 0, 1) := by decide +kernel
theorem dX6_entries_2 : decode cX6_entries 2 = .ok (.putfield 46, 3) := by decide +kernel
theorem dX6_entries_5 : decode cX6_entries 5 = .ok (.aload_n 0, 1) := by decide +kernel
theorem dX6_entries_6 : decode cX6_entries 6 = .ok (.iload_n 1, 1) := by decide +kernel
theorem dX6_entries_7 : decode cX6_entries 7 = .ok (.i2l, 1) := by decide +kernel
theorem dX6_entries_8 : decode cX6_entries 8 = .ok (.lconst 0, 1) := by decide +kernel
theorem dX6_entries_9 : decode cX6_entries 9 = .ok (.ldc2_w 117, 3) := by decide +kernel
theorem dX6_entries_12 : decode cX6_entries 12 = .ok (.invokestatic 70, 3) := by decide +kernel
theorem dX6_entries_15 : decode cX6_entries 15 = .ok (.ifCond .eq 19, 3) := by decide +kernel
theorem dX6_entries_18 : decode cX6_entries 18 = .ok (.iload_n 2, 1) := by decide +kernel
theorem dX6_entries_19 : decode cX6_entries 19 = .ok (.i2l, 1) := by decide +kernel
theorem dX6_entries_20 : decode cX6_entries 20 = .ok (.lconst 0, 1) := by decide +kernel
theorem dX6_entries_21 : decode cX6_entries 21 = .ok (.ldc2_w 102, 3) := by decide +kernel
theorem dX6_entries_24 : decode cX6_entries 24 = .ok (.invokestatic 70, 3) := by decide +kernel
theorem dX6_entries_27 : decode cX6_entries 27 = .ok (.ifCond .eq 7, 3) := by decide +kernel
theorem dX6_entries_30 : decode cX6_entries 30 = .ok (.iconst 1, 1) := by decide +kernel
theorem dX6_entries_31 : decode cX6_entries 31 = .ok (.goto 4, 3) := by decide +kernel
theorem dX6_entries_34 : decode cX6_entries 34 = .ok (.iconst 0, 1) := by decide +kernel
theorem dX6_entries_35 : decode cX6_entries 35 = .ok (.iconst 1, 1) := by decide +kernel
theorem dX6_entries_36 : decode cX6_entries 36 = .ok (.invokevirtual 76, 3) := by decide +kernel
theorem dX6_entries_39 : decode cX6_entries 39 = .ok (.ifCond .eq 23, 3) := by decide +kernel
theorem dX6_entries_42 : decode cX6_entries 42 = .ok (.aload_n 0, 1) := by decide +kernel
theorem dX6_entries_43 : decode cX6_entries 43 = .ok (.aload_n 0, 1) := by decide +kernel
theorem dX6_entries_44 : decode cX6_entries 44 = .ok (.getfield 56, 3) := by decide +kernel
theorem dX6_entries_47 : decode cX6_entries 47 = .ok (.ifCond .le 7, 3) := by decide +kernel
theorem dX6_entries_50 : decode cX6_entries 50 = .ok (.iconst 1, 1) := by decide +kernel
theorem dX6_entries_51 : decode cX6_entries 51 = .ok (.goto 4, 3) := by decide +kernel
theorem dX6_entries_54 : decode cX6_entries 54 = .ok (.iconst 0, 1) := by decide +kernel
theorem dX6_entries_55 : decode cX6_entries 55 = .ok (.iconst 2, 1) := by decide +kernel
theorem dX6_entries_56 : decode cX6_entries 56 = .ok (.invokevirtual 76, 3) := by decide +kernel
theorem dX6_entries_59 : decode cX6_entries 59 = .ok (.ifCond .ne 5, 3) := by decide +kernel
theorem dX6_entries_62 : decode cX6_entries 62 = .ok (.iconst 0, 1) := by decide +kernel
theorem dX6_entries_63 : decode cX6_entries 63 = .ok (.ireturn, 1) := by decide +kernel
theorem dX6_entries_64 : decode cX6_entries 64 = .ok (.iconst 0, 1) := by decide +kernel
theorem dX6_entries_65 : decode cX6_entries 65 = .ok (.istore_n 3, 1) := by decide +kernel
theorem dX6_entries_66 : decode cX6_entries 66 = .ok (.iload_n 3, 1) := by decide +kernel
theorem dX6_entries_67 : decode cX6_entries 67 = .ok (.aload_n 0, 1) := by decide +kernel
theorem dX6_entries_68 : decode cX6_entries 68 = .ok (.getfield 56, 3) := by decide +kernel
theorem dX6_entries_71 : decode cX6_entries 71 = .ok (.if_icmp .ge 22, 3) := by decide +kernel
theorem dX6_entries_74 : decode cX6_entries 74 = .ok (.aload_n 0, 1) := by decide +kernel
theorem dX6_entries_75 : decode cX6_entries 75 = .ok (.getfield 31, 3) := by decide +kernel
theorem dX6_entries_78 : decode cX6_entries 78 = .ok (.iload_n 3, 1) := by decide +kernel
theorem dX6_entries_79 : decode cX6_entries 79 = .ok (.aload_n 0, 1) := by decide +kernel
theorem dX6_entries_80 : decode cX6_entries 80 = .ok (.iload_n 1, 1) := by decide +kernel
theorem dX6_entries_81 : decode cX6_entries 81 = .ok (.iload_n 2, 1) := by decide +kernel
theorem dX6_entries_82 : decode cX6_entries 82 = .ok (.iload_n 3, 1) := by decide +kernel
theorem dX6_entries_83 : decode cX6_entries 83 = .ok (.invokevirtual 119, 3) := by decide +kernel
theorem dX6_entries_86 : decode cX6_entries 86 = .ok (.iastore, 1) := by decide +kernel
theorem dX6_entries_87 : decode cX6_entries 87 = .ok (.iinc 3 1, 3) := by decide +kernel
theorem dX6_entries_90 : decode cX6_entries 90 = .ok (.goto (-24), 3) := by decide +kernel
theorem dX6_entries_93 : decode cX6_entries 93 = .ok (.aload_n 0, 1) := by decide +kernel
theorem dX6_entries_94 : decode cX6_entries 94 = .ok (.iconst 0, 1) := by decide +kernel
theorem dX6_entries_95 : decode cX6_entries 95 = .ok (.putfield 59, 3) := by decide +kernel
theorem dX6_entries_98 : decode cX6_entries 98 = .ok (.iconst 0, 1) := by decide +kernel
theorem dX6_entries_99 : decode cX6_entries 99 = .ok (.istore_n 3, 1) := by decide +kernel
theorem dX6_entries_100 : decode cX6_entries 100 = .ok (.iload_n 3, 1) := by decide +kernel
theorem dX6_entries_101 : decode cX6_entries 101 = .ok (.aload_n 0, 1) := by decide +kernel
theorem dX6_entries_102 : decode cX6_entries 102 = .ok (.getfield 50, 3) := by decide +kernel
theorem dX6_entries_105 : decode cX6_entries 105 = .ok (.if_icmp .ge 37, 3) := by decide +kernel
theorem dX6_entries_108 : decode cX6_entries 108 = .ok (.aload_n 0, 1) := by decide +kernel
theorem dX6_entries_109 : decode cX6_entries 109 = .ok (.iload_n 3, 1) := by decide +kernel
theorem dX6_entries_110 : decode cX6_entries 110 = .ok (.invokevirtual 114, 3) := by decide +kernel
theorem dX6_entries_113 : decode cX6_entries 113 = .ok (.ifCond .eq 23, 3) := by decide +kernel
theorem dX6_entries_116 : decode cX6_entries 116 = .ok (.aload_n 0, 1) := by decide +kernel
theorem dX6_entries_117 : decode cX6_entries 117 = .ok (.getfield 25, 3) := by decide +kernel
theorem dX6_entries_120 : decode cX6_entries 120 = .ok (.aload_n 0, 1) := by decide +kernel
theorem dX6_entries_121 : decode cX6_entries 121 = .ok (.getfield 59, 3) := by decide +kernel
theorem dX6_entries_124 : decode cX6_entries 124 = .ok (.iload_n 3, 1) := by decide +kernel
theorem dX6_entries_125 : decode cX6_entries 125 = .ok (.iastore, 1) := by decide +kernel
theorem dX6_entries_126 : decode cX6_entries 126 = .ok (.aload_n 0, 1) := by decide +kernel
theorem dX6_entries_127 : decode cX6_entries 127 = .ok (.dup, 1) := by decide +kernel
theorem dX6_entries_128 : decode cX6_entries 128 = .ok (.getfield 59, 3) := by decide +kernel
theorem dX6_entries_131 : decode cX6_entries 131 = .ok (.iconst 1, 1) := by decide +kernel
theorem dX6_entries_132 : decode cX6_entries 132 = .ok (.iadd, 1) := by decide +kernel
theorem dX6_entries_133 : decode cX6_entries 133 = .ok (.putfield 59, 3) := by decide +kernel
theorem dX6_entries_136 : decode cX6_entries 136 = .ok (.iinc 3 1, 3) := by decide +kernel
theorem dX6_entries_139 : decode cX6_entries 139 = .ok (.goto (-39), 3) := by decide +kernel
theorem dX6_entries_142 : decode cX6_entries 142 = .ok (.aload_n 0, 1) := by decide +kernel
theorem dX6_entries_143 : decode cX6_entries 143 = .ok (.getfield 59, 3) := by decide +kernel
theorem dX6_entries_146 : decode cX6_entries 146 = .ok (.ireturn, 1) := by decide +kernel
theorem dX6_found_0 : decode cX6_found 0 = .ok (.aload_n 0, 1) := by decide +kernel
theorem dX6_found_1 : decode cX6_found 1 = .ok (.iconst 0, 1) := by decide +kernel
theorem dX6_found_2 : decode cX6_found 2 = .ok (.putfield 46, 3) := by decide +kernel
theorem dX6_found_5 : decode cX6_found 5 = .ok (.aload_n 0, 1) := by decide +kernel
theorem dX6_found_6 : decode cX6_found 6 = .ok (.iload_n 1, 1) := by decide +kernel
theorem dX6_found_7 : decode cX6_found 7 = .ok (.ifCond .lt 7, 3) := by decide +kernel
theorem dX6_found_10 : decode cX6_found 10 = .ok (.iconst 1, 1) := by decide +kernel
theorem dX6_found_11 : decode cX6_found 11 = .ok (.goto 4, 3) := by decide +kernel
theorem dX6_found_14 : decode cX6_found 14 = .ok (.iconst 0, 1) := by decide +kernel
theorem dX6_found_15 : decode cX6_found 15 = .ok (.iconst 1, 1) := by decide +kernel
theorem dX6_found_16 : decode cX6_found 16 = .ok (.invokevirtual 76, 3) := by decide +kernel
theorem dX6_found_19 : decode cX6_found 19 = .ok (.ifCond .ne 5, 3) := by decide +kernel
theorem dX6_found_22 : decode cX6_found 22 = .ok (.iconst 0, 1) := by decide +kernel
theorem dX6_found_23 : decode cX6_found 23 = .ok (.ireturn, 1) := by decide +kernel
theorem dX6_found_24 : decode cX6_found 24 = .ok (.iload_n 1, 1) := by decide +kernel
theorem dX6_found_25 : decode cX6_found 25 = .ok (.aload_n 0, 1) := by decide +kernel
theorem dX6_found_26 : decode cX6_found 26 = .ok (.getfield 59, 3) := by decide +kernel
theorem dX6_found_29 : decode cX6_found 29 = .ok (.if_icmp .ge 12, 3) := by decide +kernel
theorem dX6_found_32 : decode cX6_found 32 = .ok (.aload_n 0, 1) := by decide +kernel
theorem dX6_found_33 : decode cX6_found 33 = .ok (.getfield 25, 3) := by decide +kernel
theorem dX6_found_36 : decode cX6_found 36 = .ok (.iload_n 1, 1) := by decide +kernel
theorem dX6_found_37 : decode cX6_found 37 = .ok (.iaload, 1) := by decide +kernel
theorem dX6_found_38 : decode cX6_found 38 = .ok (.goto 4, 3) := by decide +kernel
theorem dX6_found_41 : decode cX6_found 41 = .ok (.iconst (-1), 1) := by decide +kernel
theorem dX6_found_42 : decode cX6_found 42 = .ok (.ireturn, 1) := by decide +kernel
theorem dX6_costOf_0 : decode cX6_costOf 0 = .ok (.bipush 127, 2) := by decide +kernel
theorem dX6_costOf_2 : decode cX6_costOf 2 = .ok (.istore 5, 2) := by decide +kernel
theorem dX6_costOf_4 : decode cX6_costOf 4 = .ok (.iconst 0, 1) := by decide +kernel
theorem dX6_costOf_5 : decode cX6_costOf 5 = .ok (.istore 6, 2) := by decide +kernel
theorem dX6_costOf_7 : decode cX6_costOf 7 = .ok (.iload_n 1, 1) := by decide +kernel
theorem dX6_costOf_8 : decode cX6_costOf 8 = .ok (.istore 7, 2) := by decide +kernel
theorem dX6_costOf_10 : decode cX6_costOf 10 = .ok (.iload 7, 2) := by decide +kernel
theorem dX6_costOf_12 : decode cX6_costOf 12 = .ok (.iload_n 2, 1) := by decide +kernel
theorem dX6_costOf_13 : decode cX6_costOf 13 = .ok (.if_icmp .ge 61, 3) := by decide +kernel
theorem dX6_costOf_16 : decode cX6_costOf 16 = .ok (.aload_n 0, 1) := by decide +kernel
theorem dX6_costOf_17 : decode cX6_costOf 17 = .ok (.getfield 7, 3) := by decide +kernel
theorem dX6_costOf_20 : decode cX6_costOf 20 = .ok (.iload 7, 2) := by decide +kernel
theorem dX6_costOf_22 : decode cX6_costOf 22 = .ok (.iaload, 1) := by decide +kernel
theorem dX6_costOf_23 : decode cX6_costOf 23 = .ok (.iload 5, 2) := by decide +kernel
theorem dX6_costOf_25 : decode cX6_costOf 25 = .ok (.if_icmp .ge 13, 3) := by decide +kernel
theorem dX6_costOf_28 : decode cX6_costOf 28 = .ok (.aload_n 0, 1) := by decide +kernel
theorem dX6_costOf_29 : decode cX6_costOf 29 = .ok (.getfield 7, 3) := by decide +kernel
theorem dX6_costOf_32 : decode cX6_costOf 32 = .ok (.iload 7, 2) := by decide +kernel
theorem dX6_costOf_34 : decode cX6_costOf 34 = .ok (.iaload, 1) := by decide +kernel
theorem dX6_costOf_35 : decode cX6_costOf 35 = .ok (.goto 5, 3) := by decide +kernel
theorem dX6_costOf_38 : decode cX6_costOf 38 = .ok (.iload 5, 2) := by decide +kernel
theorem dX6_costOf_40 : decode cX6_costOf 40 = .ok (.istore 5, 2) := by decide +kernel
theorem dX6_costOf_42 : decode cX6_costOf 42 = .ok (.aload_n 0, 1) := by decide +kernel
theorem dX6_costOf_43 : decode cX6_costOf 43 = .ok (.getfield 7, 3) := by decide +kernel
theorem dX6_costOf_46 : decode cX6_costOf 46 = .ok (.iload 7, 2) := by decide +kernel
theorem dX6_costOf_48 : decode cX6_costOf 48 = .ok (.iaload, 1) := by decide +kernel
theorem dX6_costOf_49 : decode cX6_costOf 49 = .ok (.iload 6, 2) := by decide +kernel
theorem dX6_costOf_51 : decode cX6_costOf 51 = .ok (.if_icmp .le 13, 3) := by decide +kernel
theorem dX6_costOf_54 : decode cX6_costOf 54 = .ok (.aload_n 0, 1) := by decide +kernel
theorem dX6_costOf_55 : decode cX6_costOf 55 = .ok (.getfield 7, 3) := by decide +kernel
theorem dX6_costOf_58 : decode cX6_costOf 58 = .ok (.iload 7, 2) := by decide +kernel
theorem dX6_costOf_60 : decode cX6_costOf 60 = .ok (.iaload, 1) := by decide +kernel
theorem dX6_costOf_61 : decode cX6_costOf 61 = .ok (.goto 5, 3) := by decide +kernel
theorem dX6_costOf_64 : decode cX6_costOf 64 = .ok (.iload 6, 2) := by decide +kernel
theorem dX6_costOf_66 : decode cX6_costOf 66 = .ok (.istore 6, 2) := by decide +kernel
theorem dX6_costOf_68 : decode cX6_costOf 68 = .ok (.iinc 7 1, 3) := by decide +kernel
theorem dX6_costOf_71 : decode cX6_costOf 71 = .ok (.goto (-61), 3) := by decide +kernel
theorem dX6_costOf_74 : decode cX6_costOf 74 = .ok (.iload_n 3, 1) := by decide +kernel
theorem dX6_costOf_75 : decode cX6_costOf 75 = .ok (.iload 4, 2) := by decide +kernel
theorem dX6_costOf_77 : decode cX6_costOf 77 = .ok (.iload 6, 2) := by decide +kernel
theorem dX6_costOf_79 : decode cX6_costOf 79 = .ok (.iload 5, 2) := by decide +kernel
theorem dX6_costOf_81 : decode cX6_costOf 81 = .ok (.isub, 1) := by decide +kernel
theorem dX6_costOf_82 : decode cX6_costOf 82 = .ok (.imul, 1) := by decide +kernel
theorem dX6_costOf_83 : decode cX6_costOf 83 = .ok (.iadd, 1) := by decide +kernel
theorem dX6_costOf_84 : decode cX6_costOf 84 = .ok (.ireturn, 1) := by decide +kernel
theorem dX6_sections_0 : decode cX6_sections 0 = .ok (.aload_n 0, 1) := by decide +kernel
theorem dX6_sections_1 : decode cX6_sections 1 = .ok (.iconst 0, 1) := by decide +kernel
theorem dX6_sections_2 : decode cX6_sections 2 = .ok (.putfield 46, 3) := by decide +kernel
theorem dX6_sections_5 : decode cX6_sections 5 = .ok (.aload_n 0, 1) := by decide +kernel
theorem dX6_sections_6 : decode cX6_sections 6 = .ok (.iload_n 1, 1) := by decide +kernel
theorem dX6_sections_7 : decode cX6_sections 7 = .ok (.i2l, 1) := by decide +kernel
theorem dX6_sections_8 : decode cX6_sections 8 = .ok (.lconst 0, 1) := by decide +kernel
theorem dX6_sections_9 : decode cX6_sections 9 = .ok (.ldc2_w 122, 3) := by decide +kernel
theorem dX6_sections_12 : decode cX6_sections 12 = .ok (.invokestatic 70, 3) := by decide +kernel
theorem dX6_sections_15 : decode cX6_sections 15 = .ok (.ifCond .eq 19, 3) := by decide +kernel
theorem dX6_sections_18 : decode cX6_sections 18 = .ok (.iload_n 2, 1) := by decide +kernel
theorem dX6_sections_19 : decode cX6_sections 19 = .ok (.i2l, 1) := by decide +kernel
theorem dX6_sections_20 : decode cX6_sections 20 = .ok (.lconst 0, 1) := by decide +kernel
theorem dX6_sections_21 : decode cX6_sections 21 = .ok (.ldc2_w 124, 3) := by decide +kernel
theorem dX6_sections_24 : decode cX6_sections 24 = .ok (.invokestatic 70, 3) := by decide +kernel
theorem dX6_sections_27 : decode cX6_sections 27 = .ok (.ifCond .eq 7, 3) := by decide +kernel
theorem dX6_sections_30 : decode cX6_sections 30 = .ok (.iconst 1, 1) := by decide +kernel
theorem dX6_sections_31 : decode cX6_sections 31 = .ok (.goto 4, 3) := by decide +kernel
theorem dX6_sections_34 : decode cX6_sections 34 = .ok (.iconst 0, 1) := by decide +kernel
theorem dX6_sections_35 : decode cX6_sections 35 = .ok (.iconst 1, 1) := by decide +kernel
theorem dX6_sections_36 : decode cX6_sections 36 = .ok (.invokevirtual 76, 3) := by decide +kernel
theorem dX6_sections_39 : decode cX6_sections 39 = .ok (.ifCond .ne 5, 3) := by decide +kernel
theorem dX6_sections_42 : decode cX6_sections 42 = .ok (.iconst 0, 1) := by decide +kernel
theorem dX6_sections_43 : decode cX6_sections 43 = .ok (.ireturn, 1) := by decide +kernel
theorem dX6_sections_44 : decode cX6_sections 44 = .ok (.aload_n 0, 1) := by decide +kernel
theorem dX6_sections_45 : decode cX6_sections 45 = .ok (.getfield 34, 3) := by decide +kernel
theorem dX6_sections_48 : decode cX6_sections 48 = .ok (.aload_n 0, 1) := by decide +kernel
theorem dX6_sections_49 : decode cX6_sections 49 = .ok (.getfield 50, 3) := by decide +kernel
theorem dX6_sections_52 : decode cX6_sections 52 = .ok (.iconst 0, 1) := by decide +kernel
theorem dX6_sections_53 : decode cX6_sections 53 = .ok (.iastore, 1) := by decide +kernel
theorem dX6_sections_54 : decode cX6_sections 54 = .ok (.aload_n 0, 1) := by decide +kernel
theorem dX6_sections_55 : decode cX6_sections 55 = .ok (.getfield 37, 3) := by decide +kernel
theorem dX6_sections_58 : decode cX6_sections 58 = .ok (.aload_n 0, 1) := by decide +kernel
theorem dX6_sections_59 : decode cX6_sections 59 = .ok (.getfield 50, 3) := by decide +kernel
theorem dX6_sections_62 : decode cX6_sections 62 = .ok (.iconst 0, 1) := by decide +kernel
theorem dX6_sections_63 : decode cX6_sections 63 = .ok (.iastore, 1) := by decide +kernel
theorem dX6_sections_64 : decode cX6_sections 64 = .ok (.aload_n 0, 1) := by decide +kernel
theorem dX6_sections_65 : decode cX6_sections 65 = .ok (.getfield 50, 3) := by decide +kernel
theorem dX6_sections_68 : decode cX6_sections 68 = .ok (.iconst 1, 1) := by decide +kernel
theorem dX6_sections_69 : decode cX6_sections 69 = .ok (.isub, 1) := by decide +kernel
theorem dX6_sections_70 : decode cX6_sections 70 = .ok (.istore_n 3, 1) := by decide +kernel
theorem dX6_sections_71 : decode cX6_sections 71 = .ok (.iload_n 3, 1) := by decide +kernel
theorem dX6_sections_72 : decode cX6_sections 72 = .ok (.ifCond .lt 173, 3) := by decide +kernel
theorem dX6_sections_75 : decode cX6_sections 75 = .ok (.iload_n 3, 1) := by decide +kernel
theorem dX6_sections_76 : decode cX6_sections 76 = .ok (.iconst 1, 1) := by decide +kernel
theorem dX6_sections_77 : decode cX6_sections 77 = .ok (.iadd, 1) := by decide +kernel
theorem dX6_sections_78 : decode cX6_sections 78 = .ok (.istore 4, 2) := by decide +kernel
theorem dX6_sections_80 : decode cX6_sections 80 = .ok (.iload 4, 2) := by decide +kernel
theorem dX6_sections_82 : decode cX6_sections 82 = .ok (.aload_n 0, 1) := by decide +kernel
theorem dX6_sections_83 : decode cX6_sections 83 = .ok (.getfield 50, 3) := by decide +kernel
theorem dX6_sections_86 : decode cX6_sections 86 = .ok (.if_icmp .gt 153, 3) := by decide +kernel
theorem dX6_sections_89 : decode cX6_sections 89 = .ok (.aload_n 0, 1) := by decide +kernel
theorem dX6_sections_90 : decode cX6_sections 90 = .ok (.iload_n 3, 1) := by decide +kernel
theorem dX6_sections_91 : decode cX6_sections 91 = .ok (.iload 4, 2) := by decide +kernel
theorem dX6_sections_93 : decode cX6_sections 93 = .ok (.iload_n 1, 1) := by decide +kernel
theorem dX6_sections_94 : decode cX6_sections 94 = .ok (.iload_n 2, 1) := by decide +kernel
theorem dX6_sections_95 : decode cX6_sections 95 = .ok (.invokevirtual 126, 3) := by decide +kernel
theorem dX6_sections_98 : decode cX6_sections 98 = .ok (.aload_n 0, 1) := by decide +kernel
theorem dX6_sections_99 : decode cX6_sections 99 = .ok (.getfield 34, 3) := by decide +kernel
theorem dX6_sections_102 : decode cX6_sections 102 = .ok (.iload 4, 2) := by decide +kernel
theorem dX6_sections_104 : decode cX6_sections 104 = .ok (.iaload, 1) := by decide +kernel
theorem dX6_sections_105 : decode cX6_sections 105 = .ok (.iadd, 1) := by decide +kernel
theorem dX6_sections_106 : decode cX6_sections 106 = .ok (.istore 5, 2) := by decide +kernel
theorem dX6_sections_108 : decode cX6_sections 108 = .ok (.aload_n 0, 1) := by decide +kernel
theorem dX6_sections_109 : decode cX6_sections 109 = .ok (.getfield 37, 3) := by decide +kernel
theorem dX6_sections_112 : decode cX6_sections 112 = .ok (.iload 4, 2) := by decide +kernel
theorem dX6_sections_114 : decode cX6_sections 114 = .ok (.iaload, 1) := by decide +kernel
theorem dX6_sections_115 : decode cX6_sections 115 = .ok (.iconst 1, 1) := by decide +kernel
theorem dX6_sections_116 : decode cX6_sections 116 = .ok (.iadd, 1) := by decide +kernel
theorem dX6_sections_117 : decode cX6_sections 117 = .ok (.istore 6, 2) := by decide +kernel
theorem dX6_sections_119 : decode cX6_sections 119 = .ok (.iload 4, 2) := by decide +kernel
theorem dX6_sections_121 : decode cX6_sections 121 = .ok (.iload_n 3, 1) := by decide +kernel
theorem dX6_sections_122 : decode cX6_sections 122 = .ok (.iconst 1, 1) := by decide +kernel
theorem dX6_sections_123 : decode cX6_sections 123 = .ok (.iadd, 1) := by decide +kernel
theorem dX6_sections_124 : decode cX6_sections 124 = .ok (.if_icmp .eq 36, 3) := by decide +kernel
theorem dX6_sections_127 : decode cX6_sections 127 = .ok (.iload 5, 2) := by decide +kernel
theorem dX6_sections_129 : decode cX6_sections 129 = .ok (.aload_n 0, 1) := by decide +kernel
theorem dX6_sections_130 : decode cX6_sections 130 = .ok (.getfield 34, 3) := by decide +kernel
theorem dX6_sections_133 : decode cX6_sections 133 = .ok (.iload_n 3, 1) := by decide +kernel
theorem dX6_sections_134 : decode cX6_sections 134 = .ok (.iaload, 1) := by decide +kernel
theorem dX6_sections_135 : decode cX6_sections 135 = .ok (.if_icmp .lt 25, 3) := by decide +kernel
theorem dX6_sections_138 : decode cX6_sections 138 = .ok (.iload 5, 2) := by decide +kernel
theorem dX6_sections_140 : decode cX6_sections 140 = .ok (.aload_n 0, 1) := by decide +kernel
theorem dX6_sections_141 : decode cX6_sections 141 = .ok (.getfield 34, 3) := by decide +kernel
theorem dX6_sections_144 : decode cX6_sections 144 = .ok (.iload_n 3, 1) := by decide +kernel
theorem dX6_sections_145 : decode cX6_sections 145 = .ok (.iaload, 1) := by decide +kernel
theorem dX6_sections_146 : decode cX6_sections 146 = .ok (.if_icmp .ne 18, 3) := by decide +kernel
theorem dX6_sections_149 : decode cX6_sections 149 = .ok (.iload 6, 2) := by decide +kernel
theorem dX6_sections_151 : decode cX6_sections 151 = .ok (.aload_n 0, 1) := by decide +kernel
theorem dX6_sections_152 : decode cX6_sections 152 = .ok (.getfield 37, 3) := by decide +kernel
theorem dX6_sections_155 : decode cX6_sections 155 = .ok (.iload_n 3, 1) := by decide +kernel
theorem dX6_sections_156 : decode cX6_sections 156 = .ok (.iaload, 1) := by decide +kernel
theorem dX6_sections_157 : decode cX6_sections 157 = .ok (.if_icmp .ge 7, 3) := by decide +kernel
theorem dX6_sections_160 : decode cX6_sections 160 = .ok (.iconst 1, 1) := by decide +kernel
theorem dX6_sections_161 : decode cX6_sections 161 = .ok (.goto 4, 3) := by decide +kernel
theorem dX6_sections_164 : decode cX6_sections 164 = .ok (.iconst 0, 1) := by decide +kernel
theorem dX6_sections_165 : decode cX6_sections 165 = .ok (.istore 7, 2) := by decide +kernel
theorem dX6_sections_167 : decode cX6_sections 167 = .ok (.aload_n 0, 1) := by decide +kernel
theorem dX6_sections_168 : decode cX6_sections 168 = .ok (.getfield 34, 3) := by decide +kernel
theorem dX6_sections_171 : decode cX6_sections 171 = .ok (.iload_n 3, 1) := by decide +kernel
theorem dX6_sections_172 : decode cX6_sections 172 = .ok (.iload 7, 2) := by decide +kernel
theorem dX6_sections_174 : decode cX6_sections 174 = .ok (.ifCond .eq 8, 3) := by decide +kernel
theorem dX6_sections_177 : decode cX6_sections 177 = .ok (.iload 5, 2) := by decide +kernel
theorem dX6_sections_179 : decode cX6_sections 179 = .ok (.goto 9, 3) := by decide +kernel
theorem dX6_sections_182 : decode cX6_sections 182 = .ok (.aload_n 0, 1) := by decide +kernel
theorem dX6_sections_183 : decode cX6_sections 183 = .ok (.getfield 34, 3) := by decide +kernel
theorem dX6_sections_186 : decode cX6_sections 186 = .ok (.iload_n 3, 1) := by decide +kernel
theorem dX6_sections_187 : decode cX6_sections 187 = .ok (.iaload, 1) := by decide +kernel
theorem dX6_sections_188 : decode cX6_sections 188 = .ok (.iastore, 1) := by decide +kernel
theorem dX6_sections_189 : decode cX6_sections 189 = .ok (.aload_n 0, 1) := by decide +kernel
theorem dX6_sections_190 : decode cX6_sections 190 = .ok (.getfield 37, 3) := by decide +kernel
theorem dX6_sections_193 : decode cX6_sections 193 = .ok (.iload_n 3, 1) := by decide +kernel
theorem dX6_sections_194 : decode cX6_sections 194 = .ok (.iload 7, 2) := by decide +kernel
theorem dX6_sections_196 : decode cX6_sections 196 = .ok (.ifCond .eq 8, 3) := by decide +kernel
theorem dX6_sections_199 : decode cX6_sections 199 = .ok (.iload 6, 2) := by decide +kernel
theorem dX6_sections_201 : decode cX6_sections 201 = .ok (.goto 9, 3) := by decide +kernel
theorem dX6_sections_204 : decode cX6_sections 204 = .ok (.aload_n 0, 1) := by decide +kernel
theorem dX6_sections_205 : decode cX6_sections 205 = .ok (.getfield 37, 3) := by decide +kernel
theorem dX6_sections_208 : decode cX6_sections 208 = .ok (.iload_n 3, 1) := by decide +kernel
theorem dX6_sections_209 : decode cX6_sections 209 = .ok (.iaload, 1) := by decide +kernel
theorem dX6_sections_210 : decode cX6_sections 210 = .ok (.iastore, 1) := by decide +kernel
theorem dX6_sections_211 : decode cX6_sections 211 = .ok (.aload_n 0, 1) := by decide +kernel
theorem dX6_sections_212 : decode cX6_sections 212 = .ok (.getfield 40, 3) := by decide +kernel
theorem dX6_sections_215 : decode cX6_sections 215 = .ok (.iload_n 3, 1) := by decide +kernel
theorem dX6_sections_216 : decode cX6_sections 216 = .ok (.iload 7, 2) := by decide +kernel
theorem dX6_sections_218 : decode cX6_sections 218 = .ok (.ifCond .eq 8, 3) := by decide +kernel
theorem dX6_sections_221 : decode cX6_sections 221 = .ok (.iload 4, 2) := by decide +kernel
theorem dX6_sections_223 : decode cX6_sections 223 = .ok (.goto 9, 3) := by decide +kernel
theorem dX6_sections_226 : decode cX6_sections 226 = .ok (.aload_n 0, 1) := by decide +kernel
theorem dX6_sections_227 : decode cX6_sections 227 = .ok (.getfield 40, 3) := by decide +kernel
theorem dX6_sections_230 : decode cX6_sections 230 = .ok (.iload_n 3, 1) := by decide +kernel
theorem dX6_sections_231 : decode cX6_sections 231 = .ok (.iaload, 1) := by decide +kernel
theorem dX6_sections_232 : decode cX6_sections 232 = .ok (.iastore, 1) := by decide +kernel
theorem dX6_sections_233 : decode cX6_sections 233 = .ok (.iinc 4 1, 3) := by decide +kernel
theorem dX6_sections_236 : decode cX6_sections 236 = .ok (.goto (-156), 3) := by decide +kernel
theorem dX6_sections_239 : decode cX6_sections 239 = .ok (.iinc 3 (-1), 3) := by decide +kernel
theorem dX6_sections_242 : decode cX6_sections 242 = .ok (.goto (-171), 3) := by decide +kernel
theorem dX6_sections_245 : decode cX6_sections 245 = .ok (.aload_n 0, 1) := by decide +kernel
theorem dX6_sections_246 : decode cX6_sections 246 = .ok (.aload_n 0, 1) := by decide +kernel
theorem dX6_sections_247 : decode cX6_sections 247 = .ok (.getfield 34, 3) := by decide +kernel
theorem dX6_sections_250 : decode cX6_sections 250 = .ok (.iconst 0, 1) := by decide +kernel
theorem dX6_sections_251 : decode cX6_sections 251 = .ok (.iaload, 1) := by decide +kernel
theorem dX6_sections_252 : decode cX6_sections 252 = .ok (.putfield 65, 3) := by decide +kernel
theorem dX6_sections_255 : decode cX6_sections 255 = .ok (.aload_n 0, 1) := by decide +kernel
theorem dX6_sections_256 : decode cX6_sections 256 = .ok (.iconst 0, 1) := by decide +kernel
theorem dX6_sections_257 : decode cX6_sections 257 = .ok (.putfield 62, 3) := by decide +kernel
theorem dX6_sections_260 : decode cX6_sections 260 = .ok (.iconst 0, 1) := by decide +kernel
theorem dX6_sections_261 : decode cX6_sections 261 = .ok (.istore_n 3, 1) := by decide +kernel
theorem dX6_sections_262 : decode cX6_sections 262 = .ok (.iload_n 3, 1) := by decide +kernel
theorem dX6_sections_263 : decode cX6_sections 263 = .ok (.aload_n 0, 1) := by decide +kernel
theorem dX6_sections_264 : decode cX6_sections 264 = .ok (.getfield 50, 3) := by decide +kernel
theorem dX6_sections_267 : decode cX6_sections 267 = .ok (.if_icmp .ge 33, 3) := by decide +kernel
theorem dX6_sections_270 : decode cX6_sections 270 = .ok (.aload_n 0, 1) := by decide +kernel
theorem dX6_sections_271 : decode cX6_sections 271 = .ok (.getfield 28, 3) := by decide +kernel
theorem dX6_sections_274 : decode cX6_sections 274 = .ok (.aload_n 0, 1) := by decide +kernel
theorem dX6_sections_275 : decode cX6_sections 275 = .ok (.getfield 62, 3) := by decide +kernel
theorem dX6_sections_278 : decode cX6_sections 278 = .ok (.iload_n 3, 1) := by decide +kernel
theorem dX6_sections_279 : decode cX6_sections 279 = .ok (.iastore, 1) := by decide +kernel
theorem dX6_sections_280 : decode cX6_sections 280 = .ok (.aload_n 0, 1) := by decide +kernel
theorem dX6_sections_281 : decode cX6_sections 281 = .ok (.dup, 1) := by decide +kernel
theorem dX6_sections_282 : decode cX6_sections 282 = .ok (.getfield 62, 3) := by decide +kernel
theorem dX6_sections_285 : decode cX6_sections 285 = .ok (.iconst 1, 1) := by decide +kernel
theorem dX6_sections_286 : decode cX6_sections 286 = .ok (.iadd, 1) := by decide +kernel
theorem dX6_sections_287 : decode cX6_sections 287 = .ok (.putfield 62, 3) := by decide +kernel
theorem dX6_sections_290 : decode cX6_sections 290 = .ok (.aload_n 0, 1) := by decide +kernel
theorem dX6_sections_291 : decode cX6_sections 291 = .ok (.getfield 40, 3) := by decide +kernel
theorem dX6_sections_294 : decode cX6_sections 294 = .ok (.iload_n 3, 1) := by decide +kernel
theorem dX6_sections_295 : decode cX6_sections 295 = .ok (.iaload, 1) := by decide +kernel
theorem dX6_sections_296 : decode cX6_sections 296 = .ok (.istore_n 3, 1) := by decide +kernel
theorem dX6_sections_297 : decode cX6_sections 297 = .ok (.goto (-35), 3) := by decide +kernel
theorem dX6_sections_300 : decode cX6_sections 300 = .ok (.aload_n 0, 1) := by decide +kernel
theorem dX6_sections_301 : decode cX6_sections 301 = .ok (.getfield 62, 3) := by decide +kernel
theorem dX6_sections_304 : decode cX6_sections 304 = .ok (.ireturn, 1) := by decide +kernel
theorem dX6_section_0 : decode cX6_section 0 = .ok (.aload_n 0, 1) := by decide +kernel
theorem dX6_section_1 : decode cX6_section 1 = .ok (.iconst 0, 1) := by decide +kernel
theorem dX6_section_2 : decode cX6_section 2 = .ok (.putfield 46, 3) := by decide +kernel
theorem dX6_section_5 : decode cX6_section 5 = .ok (.aload_n 0, 1) := by decide +kernel
theorem dX6_section_6 : decode cX6_section 6 = .ok (.iload_n 1, 1) := by decide +kernel
theorem dX6_section_7 : decode cX6_section 7 = .ok (.ifCond .lt 7, 3) := by decide +kernel
theorem dX6_section_10 : decode cX6_section 10 = .ok (.iconst 1, 1) := by decide +kernel
theorem dX6_section_11 : decode cX6_section 11 = .ok (.goto 4, 3) := by decide +kernel
theorem dX6_section_14 : decode cX6_section 14 = .ok (.iconst 0, 1) := by decide +kernel
theorem dX6_section_15 : decode cX6_section 15 = .ok (.iconst 1, 1) := by decide +kernel
theorem dX6_section_16 : decode cX6_section 16 = .ok (.invokevirtual 76, 3) := by decide +kernel
theorem dX6_section_19 : decode cX6_section 19 = .ok (.ifCond .ne 5, 3) := by decide +kernel
theorem dX6_section_22 : decode cX6_section 22 = .ok (.iconst 0, 1) := by decide +kernel
theorem dX6_section_23 : decode cX6_section 23 = .ok (.ireturn, 1) := by decide +kernel
theorem dX6_section_24 : decode cX6_section 24 = .ok (.iload_n 1, 1) := by decide +kernel
theorem dX6_section_25 : decode cX6_section 25 = .ok (.aload_n 0, 1) := by decide +kernel
theorem dX6_section_26 : decode cX6_section 26 = .ok (.getfield 62, 3) := by decide +kernel
theorem dX6_section_29 : decode cX6_section 29 = .ok (.if_icmp .ge 12, 3) := by decide +kernel
theorem dX6_section_32 : decode cX6_section 32 = .ok (.aload_n 0, 1) := by decide +kernel
theorem dX6_section_33 : decode cX6_section 33 = .ok (.getfield 28, 3) := by decide +kernel
theorem dX6_section_36 : decode cX6_section 36 = .ok (.iload_n 1, 1) := by decide +kernel
theorem dX6_section_37 : decode cX6_section 37 = .ok (.iaload, 1) := by decide +kernel
theorem dX6_section_38 : decode cX6_section 38 = .ok (.goto 4, 3) := by decide +kernel
theorem dX6_section_41 : decode cX6_section 41 = .ok (.iconst (-1), 1) := by decide +kernel
theorem dX6_section_42 : decode cX6_section 42 = .ok (.ireturn, 1) := by decide +kernel
theorem dX6_of_0 : decode cX6_of 0 = .ok (.aload_n 0, 1) := by decide +kernel
theorem dX6_of_1 : decode cX6_of 1 = .ok (.iconst 0, 1) := by decide +kernel
theorem dX6_of_2 : decode cX6_of 2 = .ok (.putfield 46, 3) := by decide +kernel
theorem dX6_of_5 : decode cX6_of 5 = .ok (.aload_n 0, 1) := by decide +kernel
theorem dX6_of_6 : decode cX6_of 6 = .ok (.iload_n 1, 1) := by decide +kernel
theorem dX6_of_7 : decode cX6_of 7 = .ok (.i2l, 1) := by decide +kernel
theorem dX6_of_8 : decode cX6_of 8 = .ok (.lconst 0, 1) := by decide +kernel
theorem dX6_of_9 : decode cX6_of 9 = .ok (.ldc2_w 80, 3) := by decide +kernel
theorem dX6_of_12 : decode cX6_of 12 = .ok (.invokestatic 70, 3) := by decide +kernel
theorem dX6_of_15 : decode cX6_of 15 = .ok (.iconst 1, 1) := by decide +kernel
theorem dX6_of_16 : decode cX6_of 16 = .ok (.invokevirtual 76, 3) := by decide +kernel
theorem dX6_of_19 : decode cX6_of 19 = .ok (.ifCond .ne 5, 3) := by decide +kernel
theorem dX6_of_22 : decode cX6_of 22 = .ok (.iconst 0, 1) := by decide +kernel
theorem dX6_of_23 : decode cX6_of 23 = .ok (.ireturn, 1) := by decide +kernel
theorem dX6_of_24 : decode cX6_of 24 = .ok (.iload_n 1, 1) := by decide +kernel
theorem dX6_of_25 : decode cX6_of 25 = .ok (.ifCond .ne 10, 3) := by decide +kernel
theorem dX6_of_28 : decode cX6_of 28 = .ok (.aload_n 0, 1) := by decide +kernel
theorem dX6_of_29 : decode cX6_of 29 = .ok (.getfield 50, 3) := by decide +kernel
theorem dX6_of_32 : decode cX6_of 32 = .ok (.goto 43, 3) := by decide +kernel
theorem dX6_of_35 : decode cX6_of 35 = .ok (.iload_n 1, 1) := by decide +kernel
theorem dX6_of_36 : decode cX6_of 36 = .ok (.iconst 1, 1) := by decide +kernel
theorem dX6_of_37 : decode cX6_of 37 = .ok (.if_icmp .ne 10, 3) := by decide +kernel
theorem dX6_of_40 : decode cX6_of 40 = .ok (.aload_n 0, 1) := by decide +kernel
theorem dX6_of_41 : decode cX6_of 41 = .ok (.getfield 56, 3) := by decide +kernel
theorem dX6_of_44 : decode cX6_of 44 = .ok (.goto 31, 3) := by decide +kernel
theorem dX6_of_47 : decode cX6_of 47 = .ok (.iload_n 1, 1) := by decide +kernel
theorem dX6_of_48 : decode cX6_of 48 = .ok (.iconst 2, 1) := by decide +kernel
theorem dX6_of_49 : decode cX6_of 49 = .ok (.if_icmp .ne 10, 3) := by decide +kernel
theorem dX6_of_52 : decode cX6_of 52 = .ok (.aload_n 0, 1) := by decide +kernel
theorem dX6_of_53 : decode cX6_of 53 = .ok (.getfield 65, 3) := by decide +kernel
theorem dX6_of_56 : decode cX6_of 56 = .ok (.goto 19, 3) := by decide +kernel
theorem dX6_of_59 : decode cX6_of 59 = .ok (.iload_n 1, 1) := by decide +kernel
theorem dX6_of_60 : decode cX6_of 60 = .ok (.iconst 3, 1) := by decide +kernel
theorem dX6_of_61 : decode cX6_of 61 = .ok (.if_icmp .ne 10, 3) := by decide +kernel
theorem dX6_of_64 : decode cX6_of 64 = .ok (.aload_n 0, 1) := by decide +kernel
theorem dX6_of_65 : decode cX6_of 65 = .ok (.getfield 59, 3) := by decide +kernel
theorem dX6_of_68 : decode cX6_of 68 = .ok (.goto 7, 3) := by decide +kernel
theorem dX6_of_71 : decode cX6_of 71 = .ok (.aload_n 0, 1) := by decide +kernel
theorem dX6_of_72 : decode cX6_of 72 = .ok (.getfield 53, 3) := by decide +kernel
theorem dX6_of_75 : decode cX6_of 75 = .ok (.ireturn, 1) := by decide +kernel
