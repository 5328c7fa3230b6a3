theorem d_Question_init_0 : decode prog_5_method_1_code 0 = .ok (.aload_n 0, 1) := by decide +kernel
theorem d_Question_init_1 : decode prog_5_method_1_code 1 = .ok (.invokespecial 3, 3) := by decide +kernel
theorem d_Question_init_4 : decode prog_5_method_1_code 4 = .ok (.aload_n 0, 1) := by decide +kernel
theorem d_Question_init_5 : decode prog_5_method_1_code 5 = .ok (.bipush 8, 2) := by decide +kernel
theorem d_Question_init_7 : decode prog_5_method_1_code 7 = .ok (.newarray .int, 2) := by decide +kernel
theorem d_Question_init_9 : decode prog_5_method_1_code 9 = .ok (.putfield 9, 3) := by decide +kernel
theorem d_Question_init_12 : decode prog_5_method_1_code 12 = .ok (.aload_n 0, 1) := by decide +kernel
theorem d_Question_init_13 : decode prog_5_method_1_code 13 = .ok (.bipush 8, 2) := by decide +kernel
theorem d_Question_init_15 : decode prog_5_method_1_code 15 = .ok (.anewarray 15, 3) := by decide +kernel
theorem d_Question_init_18 : decode prog_5_method_1_code 18 = .ok (.putfield 17, 3) := by decide +kernel
theorem d_Question_init_21 : decode prog_5_method_1_code 21 = .ok (.aload_n 0, 1) := by decide +kernel
theorem d_Question_init_22 : decode prog_5_method_1_code 22 = .ok (.new 21, 3) := by decide +kernel
theorem d_Question_init_25 : decode prog_5_method_1_code 25 = .ok (.dup, 1) := by decide +kernel
theorem d_Question_init_26 : decode prog_5_method_1_code 26 = .ok (.invokespecial 23, 3) := by decide +kernel
theorem d_Question_init_29 : decode prog_5_method_1_code 29 = .ok (.putfield 24, 3) := by decide +kernel
theorem d_Question_init_32 : decode prog_5_method_1_code 32 = .ok (.aload_n 0, 1) := by decide +kernel
theorem d_Question_init_33 : decode prog_5_method_1_code 33 = .ok (.new 28, 3) := by decide +kernel
theorem d_Question_init_36 : decode prog_5_method_1_code 36 = .ok (.dup, 1) := by decide +kernel
theorem d_Question_init_37 : decode prog_5_method_1_code 37 = .ok (.invokespecial 30, 3) := by decide +kernel
theorem d_Question_init_40 : decode prog_5_method_1_code 40 = .ok (.putfield 31, 3) := by decide +kernel
theorem d_Question_init_43 : decode prog_5_method_1_code 43 = .ok (.aload_n 0, 1) := by decide +kernel
theorem d_Question_init_44 : decode prog_5_method_1_code 44 = .ok (.iconst 3, 1) := by decide +kernel
theorem d_Question_init_45 : decode prog_5_method_1_code 45 = .ok (.newarray .int, 2) := by decide +kernel
theorem d_Question_init_47 : decode prog_5_method_1_code 47 = .ok (.putfield 35, 3) := by decide +kernel
theorem d_Question_init_50 : decode prog_5_method_1_code 50 = .ok (.iconst 0, 1) := by decide +kernel
theorem d_Question_init_51 : decode prog_5_method_1_code 51 = .ok (.istore_n 1, 1) := by decide +kernel
theorem d_Question_init_52 : decode prog_5_method_1_code 52 = .ok (.iload_n 1, 1) := by decide +kernel
theorem d_Question_init_53 : decode prog_5_method_1_code 53 = .ok (.bipush 8, 2) := by decide +kernel
theorem d_Question_init_55 : decode prog_5_method_1_code 55 = .ok (.if_icmp .ge 25, 3) := by decide +kernel
theorem d_Question_init_58 : decode prog_5_method_1_code 58 = .ok (.aload_n 0, 1) := by decide +kernel
theorem d_Question_init_59 : decode prog_5_method_1_code 59 = .ok (.getfield 17, 3) := by decide +kernel
theorem d_Question_init_62 : decode prog_5_method_1_code 62 = .ok (.iload_n 1, 1) := by decide +kernel
theorem d_Question_init_63 : decode prog_5_method_1_code 63 = .ok (.new 15, 3) := by decide +kernel
theorem d_Question_init_66 : decode prog_5_method_1_code 66 = .ok (.dup, 1) := by decide +kernel
theorem d_Question_init_67 : decode prog_5_method_1_code 67 = .ok (.sipush 500, 3) := by decide +kernel
theorem d_Question_init_70 : decode prog_5_method_1_code 70 = .ok (.invokespecial 38, 3) := by decide +kernel
theorem d_Question_init_73 : decode prog_5_method_1_code 73 = .ok (.aastore, 1) := by decide +kernel
theorem d_Question_init_74 : decode prog_5_method_1_code 74 = .ok (.iinc 1 1, 3) := by decide +kernel
theorem d_Question_init_77 : decode prog_5_method_1_code 77 = .ok (.goto (-25), 3) := by decide +kernel
theorem d_Question_init_80 : decode prog_5_method_1_code 80 = .ok (.return_, 1) := by decide +kernel
theorem d_Question_isThere_0 : decode prog_5_method_2_code 0 = .ok (.aload_n 0, 1) := by decide +kernel
theorem d_Question_isThere_1 : decode prog_5_method_2_code 1 = .ok (.getfield 41, 3) := by decide +kernel
theorem d_Question_isThere_4 : decode prog_5_method_2_code 4 = .ok (.ifCond .le 7, 3) := by decide +kernel
theorem d_Question_isThere_7 : decode prog_5_method_2_code 7 = .ok (.iconst 1, 1) := by decide +kernel
theorem d_Question_isThere_8 : decode prog_5_method_2_code 8 = .ok (.goto 4, 3) := by decide +kernel
theorem d_Question_isThere_11 : decode prog_5_method_2_code 11 = .ok (.iconst 0, 1) := by decide +kernel
theorem d_Question_isThere_12 : decode prog_5_method_2_code 12 = .ok (.ireturn, 1) := by decide +kernel
theorem d_Question_hasTwoRanks_0 : decode prog_5_method_3_code 0 = .ok (.aload_n 0, 1) := by decide +kernel
theorem d_Question_hasTwoRanks_1 : decode prog_5_method_3_code 1 = .ok (.getfield 45, 3) := by decide +kernel
theorem d_Question_hasTwoRanks_4 : decode prog_5_method_3_code 4 = .ok (.iconst 2, 1) := by decide +kernel
theorem d_Question_hasTwoRanks_5 : decode prog_5_method_3_code 5 = .ok (.if_icmp .eq 11, 3) := by decide +kernel
theorem d_Question_hasTwoRanks_8 : decode prog_5_method_3_code 8 = .ok (.aload_n 0, 1) := by decide +kernel
theorem d_Question_hasTwoRanks_9 : decode prog_5_method_3_code 9 = .ok (.getfield 45, 3) := by decide +kernel
theorem d_Question_hasTwoRanks_12 : decode prog_5_method_3_code 12 = .ok (.iconst 4, 1) := by decide +kernel
theorem d_Question_hasTwoRanks_13 : decode prog_5_method_3_code 13 = .ok (.if_icmp .ne 7, 3) := by decide +kernel
theorem d_Question_hasTwoRanks_16 : decode prog_5_method_3_code 16 = .ok (.iconst 1, 1) := by decide +kernel
theorem d_Question_hasTwoRanks_17 : decode prog_5_method_3_code 17 = .ok (.goto 4, 3) := by decide +kernel
theorem d_Question_hasTwoRanks_20 : decode prog_5_method_3_code 20 = .ok (.iconst 0, 1) := by decide +kernel
theorem d_Question_hasTwoRanks_21 : decode prog_5_method_3_code 21 = .ok (.ireturn, 1) := by decide +kernel
theorem d_Question_begin_0 : decode prog_5_method_4_code 0 = .ok (.aload_n 0, 1) := by decide +kernel
theorem d_Question_begin_1 : decode prog_5_method_4_code 1 = .ok (.iload_n 1, 1) := by decide +kernel
theorem d_Question_begin_2 : decode prog_5_method_4_code 2 = .ok (.putfield 41, 3) := by decide +kernel
theorem d_Question_begin_5 : decode prog_5_method_4_code 5 = .ok (.aload_n 0, 1) := by decide +kernel
theorem d_Question_begin_6 : decode prog_5_method_4_code 6 = .ok (.iload_n 2, 1) := by decide +kernel
theorem d_Question_begin_7 : decode prog_5_method_4_code 7 = .ok (.putfield 45, 3) := by decide +kernel
theorem d_Question_begin_10 : decode prog_5_method_4_code 10 = .ok (.aload_n 0, 1) := by decide +kernel
theorem d_Question_begin_11 : decode prog_5_method_4_code 11 = .ok (.iload_n 3, 1) := by decide +kernel
theorem d_Question_begin_12 : decode prog_5_method_4_code 12 = .ok (.putfield 48, 3) := by decide +kernel
theorem d_Question_begin_15 : decode prog_5_method_4_code 15 = .ok (.aload_n 0, 1) := by decide +kernel
theorem d_Question_begin_16 : decode prog_5_method_4_code 16 = .ok (.iload 4, 2) := by decide +kernel
theorem d_Question_begin_18 : decode prog_5_method_4_code 18 = .ok (.putfield 51, 3) := by decide +kernel
theorem d_Question_begin_21 : decode prog_5_method_4_code 21 = .ok (.aload_n 0, 1) := by decide +kernel
theorem d_Question_begin_22 : decode prog_5_method_4_code 22 = .ok (.iconst 0, 1) := by decide +kernel
theorem d_Question_begin_23 : decode prog_5_method_4_code 23 = .ok (.putfield 54, 3) := by decide +kernel
theorem d_Question_begin_26 : decode prog_5_method_4_code 26 = .ok (.iconst 0, 1) := by decide +kernel
theorem d_Question_begin_27 : decode prog_5_method_4_code 27 = .ok (.istore 5, 2) := by decide +kernel
theorem d_Question_begin_29 : decode prog_5_method_4_code 29 = .ok (.iload 5, 2) := by decide +kernel
theorem d_Question_begin_31 : decode prog_5_method_4_code 31 = .ok (.bipush 8, 2) := by decide +kernel
theorem d_Question_begin_33 : decode prog_5_method_4_code 33 = .ok (.if_icmp .ge 17, 3) := by decide +kernel
theorem d_Question_begin_36 : decode prog_5_method_4_code 36 = .ok (.aload_n 0, 1) := by decide +kernel
theorem d_Question_begin_37 : decode prog_5_method_4_code 37 = .ok (.getfield 9, 3) := by decide +kernel
theorem d_Question_begin_40 : decode prog_5_method_4_code 40 = .ok (.iload 5, 2) := by decide +kernel
theorem d_Question_begin_42 : decode prog_5_method_4_code 42 = .ok (.iconst (-1), 1) := by decide +kernel
theorem d_Question_begin_43 : decode prog_5_method_4_code 43 = .ok (.iastore, 1) := by decide +kernel
theorem d_Question_begin_44 : decode prog_5_method_4_code 44 = .ok (.iinc 5 1, 3) := by decide +kernel
theorem d_Question_begin_47 : decode prog_5_method_4_code 47 = .ok (.goto (-18), 3) := by decide +kernel
theorem d_Question_begin_50 : decode prog_5_method_4_code 50 = .ok (.return_, 1) := by decide +kernel
theorem d_Question_beginTurn_0 : decode prog_5_method_5_code 0 = .ok (.aload_n 0, 1) := by decide +kernel
theorem d_Question_beginTurn_1 : decode prog_5_method_5_code 1 = .ok (.iload_n 1, 1) := by decide +kernel
theorem d_Question_beginTurn_2 : decode prog_5_method_5_code 2 = .ok (.putfield 57, 3) := by decide +kernel
theorem d_Question_beginTurn_5 : decode prog_5_method_5_code 5 = .ok (.aload_n 0, 1) := by decide +kernel
theorem d_Question_beginTurn_6 : decode prog_5_method_5_code 6 = .ok (.dup, 1) := by decide +kernel
theorem d_Question_beginTurn_7 : decode prog_5_method_5_code 7 = .ok (.getfield 54, 3) := by decide +kernel
theorem d_Question_beginTurn_10 : decode prog_5_method_5_code 10 = .ok (.iconst 1, 1) := by decide +kernel
theorem d_Question_beginTurn_11 : decode prog_5_method_5_code 11 = .ok (.iadd, 1) := by decide +kernel
theorem d_Question_beginTurn_12 : decode prog_5_method_5_code 12 = .ok (.putfield 54, 3) := by decide +kernel
theorem d_Question_beginTurn_15 : decode prog_5_method_5_code 15 = .ok (.aload_n 0, 1) := by decide +kernel
theorem d_Question_beginTurn_16 : decode prog_5_method_5_code 16 = .ok (.iconst 0, 1) := by decide +kernel
theorem d_Question_beginTurn_17 : decode prog_5_method_5_code 17 = .ok (.putfield 60, 3) := by decide +kernel
theorem d_Question_beginTurn_20 : decode prog_5_method_5_code 20 = .ok (.aload_n 0, 1) := by decide +kernel
theorem d_Question_beginTurn_21 : decode prog_5_method_5_code 21 = .ok (.iconst 0, 1) := by decide +kernel
theorem d_Question_beginTurn_22 : decode prog_5_method_5_code 22 = .ok (.putfield 63, 3) := by decide +kernel
theorem d_Question_beginTurn_25 : decode prog_5_method_5_code 25 = .ok (.aload_n 0, 1) := by decide +kernel
theorem d_Question_beginTurn_26 : decode prog_5_method_5_code 26 = .ok (.iconst 0, 1) := by decide +kernel
theorem d_Question_beginTurn_27 : decode prog_5_method_5_code 27 = .ok (.putfield 66, 3) := by decide +kernel
theorem d_Question_beginTurn_30 : decode prog_5_method_5_code 30 = .ok (.aload_n 0, 1) := by decide +kernel
theorem d_Question_beginTurn_31 : decode prog_5_method_5_code 31 = .ok (.getfield 31, 3) := by decide +kernel
theorem d_Question_beginTurn_34 : decode prog_5_method_5_code 34 = .ok (.iconst 0, 1) := by decide +kernel
theorem d_Question_beginTurn_35 : decode prog_5_method_5_code 35 = .ok (.putfield 69, 3) := by decide +kernel
theorem d_Question_beginTurn_38 : decode prog_5_method_5_code 38 = .ok (.aload_n 0, 1) := by decide +kernel
theorem d_Question_beginTurn_39 : decode prog_5_method_5_code 39 = .ok (.iconst 0, 1) := by decide +kernel
theorem d_Question_beginTurn_40 : decode prog_5_method_5_code 40 = .ok (.putfield 72, 3) := by decide +kernel
theorem d_Question_beginTurn_43 : decode prog_5_method_5_code 43 = .ok (.aload_n 0, 1) := by decide +kernel
theorem d_Question_beginTurn_44 : decode prog_5_method_5_code 44 = .ok (.iconst 1, 1) := by decide +kernel
theorem d_Question_beginTurn_45 : decode prog_5_method_5_code 45 = .ok (.putfield 75, 3) := by decide +kernel
theorem d_Question_beginTurn_48 : decode prog_5_method_5_code 48 = .ok (.return_, 1) := by decide +kernel
theorem d_Question_beginStep_0 : decode prog_5_method_6_code 0 = .ok (.aload_n 0, 1) := by decide +kernel
theorem d_Question_beginStep_1 : decode prog_5_method_6_code 1 = .ok (.dup, 1) := by decide +kernel
theorem d_Question_beginStep_2 : decode prog_5_method_6_code 2 = .ok (.getfield 60, 3) := by decide +kernel
theorem d_Question_beginStep_5 : decode prog_5_method_6_code 5 = .ok (.iconst 1, 1) := by decide +kernel
theorem d_Question_beginStep_6 : decode prog_5_method_6_code 6 = .ok (.iadd, 1) := by decide +kernel
theorem d_Question_beginStep_7 : decode prog_5_method_6_code 7 = .ok (.putfield 60, 3) := by decide +kernel
theorem d_Question_beginStep_10 : decode prog_5_method_6_code 10 = .ok (.aload_n 0, 1) := by decide +kernel
theorem d_Question_beginStep_11 : decode prog_5_method_6_code 11 = .ok (.getfield 24, 3) := by decide +kernel
theorem d_Question_beginStep_14 : decode prog_5_method_6_code 14 = .ok (.invokevirtual 78, 3) := by decide +kernel
theorem d_Question_beginStep_17 : decode prog_5_method_6_code 17 = .ok (.return_, 1) := by decide +kernel
theorem d_Question_freeze_0 : decode prog_5_method_7_code 0 = .ok (.aload_n 0, 1) := by decide +kernel
theorem d_Question_freeze_1 : decode prog_5_method_7_code 1 = .ok (.getfield 9, 3) := by decide +kernel
theorem d_Question_freeze_4 : decode prog_5_method_7_code 4 = .ok (.iload_n 1, 1) := by decide +kernel
theorem d_Question_freeze_5 : decode prog_5_method_7_code 5 = .ok (.iaload, 1) := by decide +kernel
theorem d_Question_freeze_6 : decode prog_5_method_7_code 6 = .ok (.iconst (-1), 1) := by decide +kernel
theorem d_Question_freeze_7 : decode prog_5_method_7_code 7 = .ok (.if_icmp .ne 23, 3) := by decide +kernel
theorem d_Question_freeze_10 : decode prog_5_method_7_code 10 = .ok (.aload_n 0, 1) := by decide +kernel
theorem d_Question_freeze_11 : decode prog_5_method_7_code 11 = .ok (.getfield 9, 3) := by decide +kernel
theorem d_Question_freeze_14 : decode prog_5_method_7_code 14 = .ok (.iload_n 1, 1) := by decide +kernel
theorem d_Question_freeze_15 : decode prog_5_method_7_code 15 = .ok (.aload_n 2, 1) := by decide +kernel
theorem d_Question_freeze_16 : decode prog_5_method_7_code 16 = .ok (.getfield 81, 3) := by decide +kernel
theorem d_Question_freeze_19 : decode prog_5_method_7_code 19 = .ok (.iastore, 1) := by decide +kernel
theorem d_Question_freeze_20 : decode prog_5_method_7_code 20 = .ok (.aload_n 0, 1) := by decide +kernel
theorem d_Question_freeze_21 : decode prog_5_method_7_code 21 = .ok (.getfield 17, 3) := by decide +kernel
theorem d_Question_freeze_24 : decode prog_5_method_7_code 24 = .ok (.iload_n 1, 1) := by decide +kernel
theorem d_Question_freeze_25 : decode prog_5_method_7_code 25 = .ok (.aaload, 1) := by decide +kernel
theorem d_Question_freeze_26 : decode prog_5_method_7_code 26 = .ok (.aload_n 2, 1) := by decide +kernel
theorem d_Question_freeze_27 : decode prog_5_method_7_code 27 = .ok (.invokevirtual 84, 3) := by decide +kernel
theorem d_Question_freeze_30 : decode prog_5_method_7_code 30 = .ok (.return_, 1) := by decide +kernel
theorem d_Question_awaits_0 : decode prog_5_method_8_code 0 = .ok (.aload_n 0, 1) := by decide +kernel
theorem d_Question_awaits_1 : decode prog_5_method_8_code 1 = .ok (.getfield 72, 3) := by decide +kernel
theorem d_Question_awaits_4 : decode prog_5_method_8_code 4 = .ok (.ifCond .ne 55, 3) := by decide +kernel
theorem d_Question_awaits_7 : decode prog_5_method_8_code 7 = .ok (.aload_n 1, 1) := by decide +kernel
theorem d_Question_awaits_8 : decode prog_5_method_8_code 8 = .ok (.getfield 88, 3) := by decide +kernel
theorem d_Question_awaits_11 : decode prog_5_method_8_code 11 = .ok (.aload_n 0, 1) := by decide +kernel
theorem d_Question_awaits_12 : decode prog_5_method_8_code 12 = .ok (.getfield 57, 3) := by decide +kernel
theorem d_Question_awaits_15 : decode prog_5_method_8_code 15 = .ok (.if_icmp .ne 44, 3) := by decide +kernel
theorem d_Question_awaits_18 : decode prog_5_method_8_code 18 = .ok (.aload_n 1, 1) := by decide +kernel
theorem d_Question_awaits_19 : decode prog_5_method_8_code 19 = .ok (.getfield 93, 3) := by decide +kernel
theorem d_Question_awaits_22 : decode prog_5_method_8_code 22 = .ok (.aload_n 0, 1) := by decide +kernel
theorem d_Question_awaits_23 : decode prog_5_method_8_code 23 = .ok (.getfield 54, 3) := by decide +kernel
theorem d_Question_awaits_26 : decode prog_5_method_8_code 26 = .ok (.if_icmp .ne 33, 3) := by decide +kernel
theorem d_Question_awaits_29 : decode prog_5_method_8_code 29 = .ok (.aload_n 1, 1) := by decide +kernel
theorem d_Question_awaits_30 : decode prog_5_method_8_code 30 = .ok (.getfield 94, 3) := by decide +kernel
theorem d_Question_awaits_33 : decode prog_5_method_8_code 33 = .ok (.aload_n 0, 1) := by decide +kernel
theorem d_Question_awaits_34 : decode prog_5_method_8_code 34 = .ok (.getfield 60, 3) := by decide +kernel
theorem d_Question_awaits_37 : decode prog_5_method_8_code 37 = .ok (.if_icmp .ne 22, 3) := by decide +kernel
theorem d_Question_awaits_40 : decode prog_5_method_8_code 40 = .ok (.aload_n 0, 1) := by decide +kernel
theorem d_Question_awaits_41 : decode prog_5_method_8_code 41 = .ok (.getfield 24, 3) := by decide +kernel
theorem d_Question_awaits_44 : decode prog_5_method_8_code 44 = .ok (.getfield 95, 3) := by decide +kernel
theorem d_Question_awaits_47 : decode prog_5_method_8_code 47 = .ok (.aload_n 1, 1) := by decide +kernel
theorem d_Question_awaits_48 : decode prog_5_method_8_code 48 = .ok (.getfield 99, 3) := by decide +kernel
theorem d_Question_awaits_51 : decode prog_5_method_8_code 51 = .ok (.baload, 1) := by decide +kernel
theorem d_Question_awaits_52 : decode prog_5_method_8_code 52 = .ok (.ifCond .ne 7, 3) := by decide +kernel
theorem d_Question_awaits_55 : decode prog_5_method_8_code 55 = .ok (.iconst 1, 1) := by decide +kernel
theorem d_Question_awaits_56 : decode prog_5_method_8_code 56 = .ok (.goto 4, 3) := by decide +kernel
theorem d_Question_awaits_59 : decode prog_5_method_8_code 59 = .ok (.iconst 0, 1) := by decide +kernel
theorem d_Question_awaits_60 : decode prog_5_method_8_code 60 = .ok (.ireturn, 1) := by decide +kernel
theorem d_Question_writeAsking_0 : decode prog_5_method_9_code 0 = .ok (.aload_n 1, 1) := by decide +kernel
theorem d_Question_writeAsking_1 : decode prog_5_method_9_code 1 = .ok (.ifnonnull 4, 3) := by decide +kernel
theorem d_Question_writeAsking_4 : decode prog_5_method_9_code 4 = .ok (.return_, 1) := by decide +kernel
theorem d_Question_writeAsking_5 : decode prog_5_method_9_code 5 = .ok (.aload_n 1, 1) := by decide +kernel
theorem d_Question_writeAsking_6 : decode prog_5_method_9_code 6 = .ok (.aload_n 0, 1) := by decide +kernel
theorem d_Question_writeAsking_7 : decode prog_5_method_9_code 7 = .ok (.getfield 75, 3) := by decide +kernel
theorem d_Question_writeAsking_10 : decode prog_5_method_9_code 10 = .ok (.aload_n 0, 1) := by decide +kernel
theorem d_Question_writeAsking_11 : decode prog_5_method_9_code 11 = .ok (.getfield 41, 3) := by decide +kernel
theorem d_Question_writeAsking_14 : decode prog_5_method_9_code 14 = .ok (.aload_n 0, 1) := by decide +kernel
theorem d_Question_writeAsking_15 : decode prog_5_method_9_code 15 = .ok (.getfield 54, 3) := by decide +kernel
theorem d_Question_writeAsking_18 : decode prog_5_method_9_code 18 = .ok (.aload_n 0, 1) := by decide +kernel
theorem d_Question_writeAsking_19 : decode prog_5_method_9_code 19 = .ok (.getfield 60, 3) := by decide +kernel
theorem d_Question_writeAsking_22 : decode prog_5_method_9_code 22 = .ok (.aload_n 0, 1) := by decide +kernel
theorem d_Question_writeAsking_23 : decode prog_5_method_9_code 23 = .ok (.getfield 57, 3) := by decide +kernel
theorem d_Question_writeAsking_26 : decode prog_5_method_9_code 26 = .ok (.iload_n 2, 1) := by decide +kernel
theorem d_Question_writeAsking_27 : decode prog_5_method_9_code 27 = .ok (.invokevirtual 102, 3) := by decide +kernel
theorem d_Question_writeAsking_30 : decode prog_5_method_9_code 30 = .ok (.iconst 0, 1) := by decide +kernel
theorem d_Question_writeAsking_31 : decode prog_5_method_9_code 31 = .ok (.istore_n 3, 1) := by decide +kernel
theorem d_Question_writeAsking_32 : decode prog_5_method_9_code 32 = .ok (.iload_n 3, 1) := by decide +kernel
theorem d_Question_writeAsking_33 : decode prog_5_method_9_code 33 = .ok (.aload_n 0, 1) := by decide +kernel
theorem d_Question_writeAsking_34 : decode prog_5_method_9_code 34 = .ok (.invokevirtual 106, 3) := by decide +kernel
theorem d_Question_writeAsking_37 : decode prog_5_method_9_code 37 = .ok (.if_icmp .ge 19, 3) := by decide +kernel
theorem d_Question_writeAsking_40 : decode prog_5_method_9_code 40 = .ok (.aload_n 1, 1) := by decide +kernel
theorem d_Question_writeAsking_41 : decode prog_5_method_9_code 41 = .ok (.aload_n 0, 1) := by decide +kernel
theorem d_Question_writeAsking_42 : decode prog_5_method_9_code 42 = .ok (.getfield 35, 3) := by decide +kernel
theorem d_Question_writeAsking_45 : decode prog_5_method_9_code 45 = .ok (.iload_n 3, 1) := by decide +kernel
theorem d_Question_writeAsking_46 : decode prog_5_method_9_code 46 = .ok (.iaload, 1) := by decide +kernel
theorem d_Question_writeAsking_47 : decode prog_5_method_9_code 47 = .ok (.invokevirtual 110, 3) := by decide +kernel
theorem d_Question_writeAsking_50 : decode prog_5_method_9_code 50 = .ok (.iinc 3 1, 3) := by decide +kernel
theorem d_Question_writeAsking_53 : decode prog_5_method_9_code 53 = .ok (.goto (-21), 3) := by decide +kernel
theorem d_Question_writeAsking_56 : decode prog_5_method_9_code 56 = .ok (.return_, 1) := by decide +kernel
theorem d_Question_numbersAsked_0 : decode prog_5_method_10_code 0 = .ok (.aload_n 0, 1) := by decide +kernel
theorem d_Question_numbersAsked_1 : decode prog_5_method_10_code 1 = .ok (.getfield 75, 3) := by decide +kernel
theorem d_Question_numbersAsked_4 : decode prog_5_method_10_code 4 = .ok (.lookupswitch 32 #[(1, 28), (5, 30)], 28) := by decide +kernel
theorem d_Question_numbersAsked_32 : decode prog_5_method_10_code 32 = .ok (.iconst 0, 1) := by decide +kernel
theorem d_Question_numbersAsked_33 : decode prog_5_method_10_code 33 = .ok (.ireturn, 1) := by decide +kernel
theorem d_Question_numbersAsked_34 : decode prog_5_method_10_code 34 = .ok (.iconst 3, 1) := by decide +kernel
theorem d_Question_numbersAsked_35 : decode prog_5_method_10_code 35 = .ok (.ireturn, 1) := by decide +kernel
theorem d_Question_numbersAsked_36 : decode prog_5_method_10_code 36 = .ok (.iconst 2, 1) := by decide +kernel
theorem d_Question_numbersAsked_37 : decode prog_5_method_10_code 37 = .ok (.ireturn, 1) := by decide +kernel
theorem d_Question_goOn_0 : decode prog_5_method_11_code 0 = .ok (.aload_n 0, 1) := by decide +kernel
theorem d_Question_goOn_1 : decode prog_5_method_11_code 1 = .ok (.getfield 75, 3) := by decide +kernel
theorem d_Question_goOn_4 : decode prog_5_method_11_code 4 = .ok (.tableswitch 106 1 9 #[52, 106, 59, 106, 66, 106, 73, 106, 99], 52) := by decide +kernel
theorem d_Question_goOn_56 : decode prog_5_method_11_code 56 = .ok (.aload_n 0, 1) := by decide +kernel
theorem d_Question_goOn_57 : decode prog_5_method_11_code 57 = .ok (.invokevirtual 113, 3) := by decide +kernel
theorem d_Question_goOn_60 : decode prog_5_method_11_code 60 = .ok (.goto 54, 3) := by decide +kernel
theorem d_Question_goOn_63 : decode prog_5_method_11_code 63 = .ok (.aload_n 0, 1) := by decide +kernel
theorem d_Question_goOn_64 : decode prog_5_method_11_code 64 = .ok (.invokevirtual 116, 3) := by decide +kernel
theorem d_Question_goOn_67 : decode prog_5_method_11_code 67 = .ok (.goto 47, 3) := by decide +kernel
theorem d_Question_goOn_70 : decode prog_5_method_11_code 70 = .ok (.aload_n 0, 1) := by decide +kernel
theorem d_Question_goOn_71 : decode prog_5_method_11_code 71 = .ok (.invokevirtual 119, 3) := by decide +kernel
theorem d_Question_goOn_74 : decode prog_5_method_11_code 74 = .ok (.goto 40, 3) := by decide +kernel
theorem d_Question_goOn_77 : decode prog_5_method_11_code 77 = .ok (.aload_n 0, 1) := by decide +kernel
theorem d_Question_goOn_78 : decode prog_5_method_11_code 78 = .ok (.aload_n 0, 1) := by decide +kernel
theorem d_Question_goOn_79 : decode prog_5_method_11_code 79 = .ok (.getfield 24, 3) := by decide +kernel
theorem d_Question_goOn_82 : decode prog_5_method_11_code 82 = .ok (.getfield 122, 3) := by decide +kernel
theorem d_Question_goOn_85 : decode prog_5_method_11_code 85 = .ok (.aload_n 0, 1) := by decide +kernel
theorem d_Question_goOn_86 : decode prog_5_method_11_code 86 = .ok (.getfield 31, 3) := by decide +kernel
theorem d_Question_goOn_89 : decode prog_5_method_11_code 89 = .ok (.invokevirtual 126, 3) := by decide +kernel
theorem d_Question_goOn_92 : decode prog_5_method_11_code 92 = .ok (.iconst 1, 1) := by decide +kernel
theorem d_Question_goOn_93 : decode prog_5_method_11_code 93 = .ok (.isub, 1) := by decide +kernel
theorem d_Question_goOn_94 : decode prog_5_method_11_code 94 = .ok (.invokevirtual 129, 3) := by decide +kernel
theorem d_Question_goOn_97 : decode prog_5_method_11_code 97 = .ok (.invokevirtual 133, 3) := by decide +kernel
theorem d_Question_goOn_100 : decode prog_5_method_11_code 100 = .ok (.goto 14, 3) := by decide +kernel
theorem d_Question_goOn_103 : decode prog_5_method_11_code 103 = .ok (.aload_n 0, 1) := by decide +kernel
theorem d_Question_goOn_104 : decode prog_5_method_11_code 104 = .ok (.invokevirtual 136, 3) := by decide +kernel
theorem d_Question_goOn_107 : decode prog_5_method_11_code 107 = .ok (.goto 7, 3) := by decide +kernel
theorem d_Question_goOn_110 : decode prog_5_method_11_code 110 = .ok (.aload_n 0, 1) := by decide +kernel
theorem d_Question_goOn_111 : decode prog_5_method_11_code 111 = .ok (.invokevirtual 139, 3) := by decide +kernel
theorem d_Question_goOn_114 : decode prog_5_method_11_code 114 = .ok (.return_, 1) := by decide +kernel
theorem d_Question_afterFreeze_0 : decode prog_5_method_12_code 0 = .ok (.aload_n 0, 1) := by decide +kernel
theorem d_Question_afterFreeze_1 : decode prog_5_method_12_code 1 = .ok (.aload_n 0, 1) := by decide +kernel
theorem d_Question_afterFreeze_2 : decode prog_5_method_12_code 2 = .ok (.getfield 24, 3) := by decide +kernel
theorem d_Question_afterFreeze_5 : decode prog_5_method_12_code 5 = .ok (.iconst 0, 1) := by decide +kernel
theorem d_Question_afterFreeze_6 : decode prog_5_method_12_code 6 = .ok (.invokevirtual 142, 3) := by decide +kernel
theorem d_Question_afterFreeze_9 : decode prog_5_method_12_code 9 = .ok (.putfield 66, 3) := by decide +kernel
theorem d_Question_afterFreeze_12 : decode prog_5_method_12_code 12 = .ok (.aload_n 0, 1) := by decide +kernel
theorem d_Question_afterFreeze_13 : decode prog_5_method_12_code 13 = .ok (.getfield 66, 3) := by decide +kernel
theorem d_Question_afterFreeze_16 : decode prog_5_method_12_code 16 = .ok (.ifCond .eq 21, 3) := by decide +kernel
theorem d_Question_afterFreeze_19 : decode prog_5_method_12_code 19 = .ok (.aload_n 0, 1) := by decide +kernel
theorem d_Question_afterFreeze_20 : decode prog_5_method_12_code 20 = .ok (.getfield 45, 3) := by decide +kernel
theorem d_Question_afterFreeze_23 : decode prog_5_method_12_code 23 = .ok (.ifCond .ne 22, 3) := by decide +kernel
theorem d_Question_afterFreeze_26 : decode prog_5_method_12_code 26 = .ok (.aload_n 0, 1) := by decide +kernel
theorem d_Question_afterFreeze_27 : decode prog_5_method_12_code 27 = .ok (.getfield 48, 3) := by decide +kernel
theorem d_Question_afterFreeze_30 : decode prog_5_method_12_code 30 = .ok (.aload_n 0, 1) := by decide +kernel
theorem d_Question_afterFreeze_31 : decode prog_5_method_12_code 31 = .ok (.getfield 66, 3) := by decide +kernel
theorem d_Question_afterFreeze_34 : decode prog_5_method_12_code 34 = .ok (.if_icmp .le 11, 3) := by decide +kernel
theorem d_Question_afterFreeze_37 : decode prog_5_method_12_code 37 = .ok (.aload_n 0, 1) := by decide +kernel
theorem d_Question_afterFreeze_38 : decode prog_5_method_12_code 38 = .ok (.iconst 2, 1) := by decide +kernel
theorem d_Question_afterFreeze_39 : decode prog_5_method_12_code 39 = .ok (.putfield 72, 3) := by decide +kernel
theorem d_Question_afterFreeze_42 : decode prog_5_method_12_code 42 = .ok (.goto 60, 3) := by decide +kernel
theorem d_Question_afterFreeze_45 : decode prog_5_method_12_code 45 = .ok (.aload_n 0, 1) := by decide +kernel
theorem d_Question_afterFreeze_46 : decode prog_5_method_12_code 46 = .ok (.getfield 45, 3) := by decide +kernel
theorem d_Question_afterFreeze_49 : decode prog_5_method_12_code 49 = .ok (.iconst 1, 1) := by decide +kernel
theorem d_Question_afterFreeze_50 : decode prog_5_method_12_code 50 = .ok (.if_icmp .ne 20, 3) := by decide +kernel
theorem d_Question_afterFreeze_53 : decode prog_5_method_12_code 53 = .ok (.aload_n 0, 1) := by decide +kernel
theorem d_Question_afterFreeze_54 : decode prog_5_method_12_code 54 = .ok (.bipush 9, 2) := by decide +kernel
theorem d_Question_afterFreeze_56 : decode prog_5_method_12_code 56 = .ok (.aload_n 0, 1) := by decide +kernel
theorem d_Question_afterFreeze_57 : decode prog_5_method_12_code 57 = .ok (.getfield 48, 3) := by decide +kernel
theorem d_Question_afterFreeze_60 : decode prog_5_method_12_code 60 = .ok (.aload_n 0, 1) := by decide +kernel
theorem d_Question_afterFreeze_61 : decode prog_5_method_12_code 61 = .ok (.getfield 51, 3) := by decide +kernel
theorem d_Question_afterFreeze_64 : decode prog_5_method_12_code 64 = .ok (.invokevirtual 144, 3) := by decide +kernel
theorem d_Question_afterFreeze_67 : decode prog_5_method_12_code 67 = .ok (.goto 35, 3) := by decide +kernel
theorem d_Question_afterFreeze_70 : decode prog_5_method_12_code 70 = .ok (.aload_n 0, 1) := by decide +kernel
theorem d_Question_afterFreeze_71 : decode prog_5_method_12_code 71 = .ok (.getfield 45, 3) := by decide +kernel
theorem d_Question_afterFreeze_74 : decode prog_5_method_12_code 74 = .ok (.iconst 3, 1) := by decide +kernel
theorem d_Question_afterFreeze_75 : decode prog_5_method_12_code 75 = .ok (.if_icmp .ne 18, 3) := by decide +kernel
theorem d_Question_afterFreeze_78 : decode prog_5_method_12_code 78 = .ok (.aload_n 0, 1) := by decide +kernel
theorem d_Question_afterFreeze_79 : decode prog_5_method_12_code 79 = .ok (.bipush 9, 2) := by decide +kernel
theorem d_Question_afterFreeze_81 : decode prog_5_method_12_code 81 = .ok (.ldc 150, 2) := by decide +kernel
theorem d_Question_afterFreeze_83 : decode prog_5_method_12_code 83 = .ok (.aload_n 0, 1) := by decide +kernel
theorem d_Question_afterFreeze_84 : decode prog_5_method_12_code 84 = .ok (.getfield 48, 3) := by decide +kernel
theorem d_Question_afterFreeze_87 : decode prog_5_method_12_code 87 = .ok (.invokevirtual 144, 3) := by decide +kernel
theorem d_Question_afterFreeze_90 : decode prog_5_method_12_code 90 = .ok (.goto 12, 3) := by decide +kernel
theorem d_Question_afterFreeze_93 : decode prog_5_method_12_code 93 = .ok (.aload_n 0, 1) := by decide +kernel
theorem d_Question_afterFreeze_94 : decode prog_5_method_12_code 94 = .ok (.aload_n 0, 1) := by decide +kernel
theorem d_Question_afterFreeze_95 : decode prog_5_method_12_code 95 = .ok (.invokevirtual 151, 3) := by decide +kernel
theorem d_Question_afterFreeze_98 : decode prog_5_method_12_code 98 = .ok (.iconst 0, 1) := by decide +kernel
theorem d_Question_afterFreeze_99 : decode prog_5_method_12_code 99 = .ok (.invokevirtual 154, 3) := by decide +kernel
theorem d_Question_afterFreeze_102 : decode prog_5_method_12_code 102 = .ok (.return_, 1) := by decide +kernel
theorem d_Question_afterSplit_0 : decode prog_5_method_13_code 0 = .ok (.aload_n 0, 1) := by decide +kernel
theorem d_Question_afterSplit_1 : decode prog_5_method_13_code 1 = .ok (.getfield 31, 3) := by decide +kernel
theorem d_Question_afterSplit_4 : decode prog_5_method_13_code 4 = .ok (.aload_n 0, 1) := by decide +kernel
theorem d_Question_afterSplit_5 : decode prog_5_method_13_code 5 = .ok (.getfield 24, 3) := by decide +kernel
theorem d_Question_afterSplit_8 : decode prog_5_method_13_code 8 = .ok (.iconst 0, 1) := by decide +kernel
theorem d_Question_afterSplit_9 : decode prog_5_method_13_code 9 = .ok (.invokevirtual 142, 3) := by decide +kernel
theorem d_Question_afterSplit_12 : decode prog_5_method_13_code 12 = .ok (.putfield 69, 3) := by decide +kernel
theorem d_Question_afterSplit_15 : decode prog_5_method_13_code 15 = .ok (.aload_n 0, 1) := by decide +kernel
theorem d_Question_afterSplit_16 : decode prog_5_method_13_code 16 = .ok (.getfield 31, 3) := by decide +kernel
theorem d_Question_afterSplit_19 : decode prog_5_method_13_code 19 = .ok (.getfield 69, 3) := by decide +kernel
theorem d_Question_afterSplit_22 : decode prog_5_method_13_code 22 = .ok (.bipush 64, 2) := by decide +kernel
theorem d_Question_afterSplit_24 : decode prog_5_method_13_code 24 = .ok (.if_icmp .gt 26, 3) := by decide +kernel
theorem d_Question_afterSplit_27 : decode prog_5_method_13_code 27 = .ok (.aload_n 0, 1) := by decide +kernel
theorem d_Question_afterSplit_28 : decode prog_5_method_13_code 28 = .ok (.bipush 7, 2) := by decide +kernel
theorem d_Question_afterSplit_30 : decode prog_5_method_13_code 30 = .ok (.aload_n 0, 1) := by decide +kernel
theorem d_Question_afterSplit_31 : decode prog_5_method_13_code 31 = .ok (.getfield 31, 3) := by decide +kernel
theorem d_Question_afterSplit_34 : decode prog_5_method_13_code 34 = .ok (.getfield 158, 3) := by decide +kernel
theorem d_Question_afterSplit_37 : decode prog_5_method_13_code 37 = .ok (.aload_n 0, 1) := by decide +kernel
theorem d_Question_afterSplit_38 : decode prog_5_method_13_code 38 = .ok (.getfield 31, 3) := by decide +kernel
theorem d_Question_afterSplit_41 : decode prog_5_method_13_code 41 = .ok (.getfield 161, 3) := by decide +kernel
theorem d_Question_afterSplit_44 : decode prog_5_method_13_code 44 = .ok (.invokevirtual 144, 3) := by decide +kernel
theorem d_Question_afterSplit_47 : decode prog_5_method_13_code 47 = .ok (.goto 56, 3) := by decide +kernel
theorem d_Question_afterSplit_50 : decode prog_5_method_13_code 50 = .ok (.aload_n 0, 1) := by decide +kernel
theorem d_Question_afterSplit_51 : decode prog_5_method_13_code 51 = .ok (.getfield 31, 3) := by decide +kernel
theorem d_Question_afterSplit_54 : decode prog_5_method_13_code 54 = .ok (.aload_n 0, 1) := by decide +kernel
theorem d_Question_afterSplit_55 : decode prog_5_method_13_code 55 = .ok (.getfield 24, 3) := by decide +kernel
theorem d_Question_afterSplit_58 : decode prog_5_method_13_code 58 = .ok (.aload_n 0, 1) := by decide +kernel
theorem d_Question_afterSplit_59 : decode prog_5_method_13_code 59 = .ok (.getfield 31, 3) := by decide +kernel
theorem d_Question_afterSplit_62 : decode prog_5_method_13_code 62 = .ok (.getfield 69, 3) := by decide +kernel
theorem d_Question_afterSplit_65 : decode prog_5_method_13_code 65 = .ok (.invokevirtual 164, 3) := by decide +kernel
theorem d_Question_afterSplit_68 : decode prog_5_method_13_code 68 = .ok (.putfield 167, 3) := by decide +kernel
theorem d_Question_afterSplit_71 : decode prog_5_method_13_code 71 = .ok (.aload_n 0, 1) := by decide +kernel
theorem d_Question_afterSplit_72 : decode prog_5_method_13_code 72 = .ok (.iconst 5, 1) := by decide +kernel
theorem d_Question_afterSplit_73 : decode prog_5_method_13_code 73 = .ok (.aload_n 0, 1) := by decide +kernel
theorem d_Question_afterSplit_74 : decode prog_5_method_13_code 74 = .ok (.getfield 31, 3) := by decide +kernel
theorem d_Question_afterSplit_77 : decode prog_5_method_13_code 77 = .ok (.getfield 158, 3) := by decide +kernel
theorem d_Question_afterSplit_80 : decode prog_5_method_13_code 80 = .ok (.aload_n 0, 1) := by decide +kernel
theorem d_Question_afterSplit_81 : decode prog_5_method_13_code 81 = .ok (.getfield 31, 3) := by decide +kernel
theorem d_Question_afterSplit_84 : decode prog_5_method_13_code 84 = .ok (.getfield 161, 3) := by decide +kernel
theorem d_Question_afterSplit_87 : decode prog_5_method_13_code 87 = .ok (.invokevirtual 144, 3) := by decide +kernel
theorem d_Question_afterSplit_90 : decode prog_5_method_13_code 90 = .ok (.aload_n 0, 1) := by decide +kernel
theorem d_Question_afterSplit_91 : decode prog_5_method_13_code 91 = .ok (.getfield 35, 3) := by decide +kernel
theorem d_Question_afterSplit_94 : decode prog_5_method_13_code 94 = .ok (.iconst 2, 1) := by decide +kernel
theorem d_Question_afterSplit_95 : decode prog_5_method_13_code 95 = .ok (.aload_n 0, 1) := by decide +kernel
theorem d_Question_afterSplit_96 : decode prog_5_method_13_code 96 = .ok (.getfield 31, 3) := by decide +kernel
theorem d_Question_afterSplit_99 : decode prog_5_method_13_code 99 = .ok (.getfield 167, 3) := by decide +kernel
theorem d_Question_afterSplit_102 : decode prog_5_method_13_code 102 = .ok (.iastore, 1) := by decide +kernel
theorem d_Question_afterSplit_103 : decode prog_5_method_13_code 103 = .ok (.return_, 1) := by decide +kernel
theorem d_Question_afterCut_0 : decode prog_5_method_14_code 0 = .ok (.aload_n 0, 1) := by decide +kernel
theorem d_Question_afterCut_1 : decode prog_5_method_14_code 1 = .ok (.dup, 1) := by decide +kernel
theorem d_Question_afterCut_2 : decode prog_5_method_14_code 2 = .ok (.getfield 63, 3) := by decide +kernel
theorem d_Question_afterCut_5 : decode prog_5_method_14_code 5 = .ok (.iconst 1, 1) := by decide +kernel
theorem d_Question_afterCut_6 : decode prog_5_method_14_code 6 = .ok (.iadd, 1) := by decide +kernel
theorem d_Question_afterCut_7 : decode prog_5_method_14_code 7 = .ok (.putfield 63, 3) := by decide +kernel
theorem d_Question_afterCut_10 : decode prog_5_method_14_code 10 = .ok (.aload_n 0, 1) := by decide +kernel
theorem d_Question_afterCut_11 : decode prog_5_method_14_code 11 = .ok (.getfield 24, 3) := by decide +kernel
theorem d_Question_afterCut_14 : decode prog_5_method_14_code 14 = .ok (.iconst 0, 1) := by decide +kernel
theorem d_Question_afterCut_15 : decode prog_5_method_14_code 15 = .ok (.invokevirtual 142, 3) := by decide +kernel
theorem d_Question_afterCut_18 : decode prog_5_method_14_code 18 = .ok (.istore_n 1, 1) := by decide +kernel
theorem d_Question_afterCut_19 : decode prog_5_method_14_code 19 = .ok (.iload_n 1, 1) := by decide +kernel
theorem d_Question_afterCut_20 : decode prog_5_method_14_code 20 = .ok (.aload_n 0, 1) := by decide +kernel
theorem d_Question_afterCut_21 : decode prog_5_method_14_code 21 = .ok (.getfield 24, 3) := by decide +kernel
theorem d_Question_afterCut_24 : decode prog_5_method_14_code 24 = .ok (.iconst 1, 1) := by decide +kernel
theorem d_Question_afterCut_25 : decode prog_5_method_14_code 25 = .ok (.invokevirtual 142, 3) := by decide +kernel
theorem d_Question_afterCut_28 : decode prog_5_method_14_code 28 = .ok (.iadd, 1) := by decide +kernel
theorem d_Question_afterCut_29 : decode prog_5_method_14_code 29 = .ok (.istore_n 2, 1) := by decide +kernel
theorem d_Question_afterCut_30 : decode prog_5_method_14_code 30 = .ok (.aload_n 0, 1) := by decide +kernel
theorem d_Question_afterCut_31 : decode prog_5_method_14_code 31 = .ok (.getfield 31, 3) := by decide +kernel
theorem d_Question_afterCut_34 : decode prog_5_method_14_code 34 = .ok (.invokevirtual 126, 3) := by decide +kernel
theorem d_Question_afterCut_37 : decode prog_5_method_14_code 37 = .ok (.iload_n 1, 1) := by decide +kernel
theorem d_Question_afterCut_38 : decode prog_5_method_14_code 38 = .ok (.if_icmp .le 26, 3) := by decide +kernel
theorem d_Question_afterCut_41 : decode prog_5_method_14_code 41 = .ok (.aload_n 0, 1) := by decide +kernel
theorem d_Question_afterCut_42 : decode prog_5_method_14_code 42 = .ok (.getfield 31, 3) := by decide +kernel
theorem d_Question_afterCut_45 : decode prog_5_method_14_code 45 = .ok (.invokevirtual 126, 3) := by decide +kernel
theorem d_Question_afterCut_48 : decode prog_5_method_14_code 48 = .ok (.iload_n 2, 1) := by decide +kernel
theorem d_Question_afterCut_49 : decode prog_5_method_14_code 49 = .ok (.if_icmp .gt 15, 3) := by decide +kernel
theorem d_Question_afterCut_52 : decode prog_5_method_14_code 52 = .ok (.aload_n 0, 1) := by decide +kernel
theorem d_Question_afterCut_53 : decode prog_5_method_14_code 53 = .ok (.aload_n 0, 1) := by decide +kernel
theorem d_Question_afterCut_54 : decode prog_5_method_14_code 54 = .ok (.getfield 31, 3) := by decide +kernel
theorem d_Question_afterCut_57 : decode prog_5_method_14_code 57 = .ok (.getfield 167, 3) := by decide +kernel
theorem d_Question_afterCut_60 : decode prog_5_method_14_code 60 = .ok (.invokevirtual 133, 3) := by decide +kernel
theorem d_Question_afterCut_63 : decode prog_5_method_14_code 63 = .ok (.return_, 1) := by decide +kernel
theorem d_Question_afterCut_64 : decode prog_5_method_14_code 64 = .ok (.aload_n 0, 1) := by decide +kernel
theorem d_Question_afterCut_65 : decode prog_5_method_14_code 65 = .ok (.getfield 31, 3) := by decide +kernel
theorem d_Question_afterCut_68 : decode prog_5_method_14_code 68 = .ok (.invokevirtual 126, 3) := by decide +kernel
theorem d_Question_afterCut_71 : decode prog_5_method_14_code 71 = .ok (.iload_n 1, 1) := by decide +kernel
theorem d_Question_afterCut_72 : decode prog_5_method_14_code 72 = .ok (.if_icmp .gt 14, 3) := by decide +kernel
theorem d_Question_afterCut_75 : decode prog_5_method_14_code 75 = .ok (.aload_n 0, 1) := by decide +kernel
theorem d_Question_afterCut_76 : decode prog_5_method_14_code 76 = .ok (.getfield 31, 3) := by decide +kernel
theorem d_Question_afterCut_79 : decode prog_5_method_14_code 79 = .ok (.iload_n 1, 1) := by decide +kernel
theorem d_Question_afterCut_80 : decode prog_5_method_14_code 80 = .ok (.invokevirtual 169, 3) := by decide +kernel
theorem d_Question_afterCut_83 : decode prog_5_method_14_code 83 = .ok (.goto 11, 3) := by decide +kernel
theorem d_Question_afterCut_86 : decode prog_5_method_14_code 86 = .ok (.aload_n 0, 1) := by decide +kernel
theorem d_Question_afterCut_87 : decode prog_5_method_14_code 87 = .ok (.getfield 31, 3) := by decide +kernel
theorem d_Question_afterCut_90 : decode prog_5_method_14_code 90 = .ok (.iload_n 2, 1) := by decide +kernel
theorem d_Question_afterCut_91 : decode prog_5_method_14_code 91 = .ok (.invokevirtual 172, 3) := by decide +kernel
theorem d_Question_afterCut_94 : decode prog_5_method_14_code 94 = .ok (.aload_n 0, 1) := by decide +kernel
theorem d_Question_afterCut_95 : decode prog_5_method_14_code 95 = .ok (.iconst 3, 1) := by decide +kernel
theorem d_Question_afterCut_96 : decode prog_5_method_14_code 96 = .ok (.aload_n 0, 1) := by decide +kernel
theorem d_Question_afterCut_97 : decode prog_5_method_14_code 97 = .ok (.getfield 31, 3) := by decide +kernel
theorem d_Question_afterCut_100 : decode prog_5_method_14_code 100 = .ok (.getfield 158, 3) := by decide +kernel
theorem d_Question_afterCut_103 : decode prog_5_method_14_code 103 = .ok (.aload_n 0, 1) := by decide +kernel
theorem d_Question_afterCut_104 : decode prog_5_method_14_code 104 = .ok (.getfield 31, 3) := by decide +kernel
theorem d_Question_afterCut_107 : decode prog_5_method_14_code 107 = .ok (.getfield 161, 3) := by decide +kernel
theorem d_Question_afterCut_110 : decode prog_5_method_14_code 110 = .ok (.invokevirtual 144, 3) := by decide +kernel
theorem d_Question_afterCut_113 : decode prog_5_method_14_code 113 = .ok (.return_, 1) := by decide +kernel
theorem d_Question_afterHold_0 : decode prog_5_method_15_code 0 = .ok (.aload_n 0, 1) := by decide +kernel
theorem d_Question_afterHold_1 : decode prog_5_method_15_code 1 = .ok (.getfield 24, 3) := by decide +kernel
theorem d_Question_afterHold_4 : decode prog_5_method_15_code 4 = .ok (.iconst 0, 1) := by decide +kernel
theorem d_Question_afterHold_5 : decode prog_5_method_15_code 5 = .ok (.invokevirtual 142, 3) := by decide +kernel
theorem d_Question_afterHold_8 : decode prog_5_method_15_code 8 = .ok (.i2l, 1) := by decide +kernel
theorem d_Question_afterHold_9 : decode prog_5_method_15_code 9 = .ok (.lstore_n 1, 1) := by decide +kernel
theorem d_Question_afterHold_10 : decode prog_5_method_15_code 10 = .ok (.aload_n 0, 1) := by decide +kernel
theorem d_Question_afterHold_11 : decode prog_5_method_15_code 11 = .ok (.getfield 45, 3) := by decide +kernel
theorem d_Question_afterHold_14 : decode prog_5_method_15_code 14 = .ok (.iconst 1, 1) := by decide +kernel
theorem d_Question_afterHold_15 : decode prog_5_method_15_code 15 = .ok (.if_icmp .ne 11, 3) := by decide +kernel
theorem d_Question_afterHold_18 : decode prog_5_method_15_code 18 = .ok (.aload_n 0, 1) := by decide +kernel
theorem d_Question_afterHold_19 : decode prog_5_method_15_code 19 = .ok (.lload_n 1, 1) := by decide +kernel
theorem d_Question_afterHold_20 : decode prog_5_method_15_code 20 = .ok (.invokevirtual 175, 3) := by decide +kernel
theorem d_Question_afterHold_23 : decode prog_5_method_15_code 23 = .ok (.goto 29, 3) := by decide +kernel
theorem d_Question_afterHold_26 : decode prog_5_method_15_code 26 = .ok (.aload_n 0, 1) := by decide +kernel
theorem d_Question_afterHold_27 : decode prog_5_method_15_code 27 = .ok (.aload_n 0, 1) := by decide +kernel
theorem d_Question_afterHold_28 : decode prog_5_method_15_code 28 = .ok (.getfield 66, 3) := by decide +kernel
theorem d_Question_afterHold_31 : decode prog_5_method_15_code 31 = .ok (.ifCond .ne 7, 3) := by decide +kernel
theorem d_Question_afterHold_34 : decode prog_5_method_15_code 34 = .ok (.lconst 0, 1) := by decide +kernel
theorem d_Question_afterHold_35 : decode prog_5_method_15_code 35 = .ok (.goto 14, 3) := by decide +kernel
theorem d_Question_afterHold_38 : decode prog_5_method_15_code 38 = .ok (.ldc2_w 179, 3) := by decide +kernel
theorem d_Question_afterHold_41 : decode prog_5_method_15_code 41 = .ok (.lload_n 1, 1) := by decide +kernel
theorem d_Question_afterHold_42 : decode prog_5_method_15_code 42 = .ok (.lmul, 1) := by decide +kernel
theorem d_Question_afterHold_43 : decode prog_5_method_15_code 43 = .ok (.aload_n 0, 1) := by decide +kernel
theorem d_Question_afterHold_44 : decode prog_5_method_15_code 44 = .ok (.getfield 66, 3) := by decide +kernel
theorem d_Question_afterHold_47 : decode prog_5_method_15_code 47 = .ok (.i2l, 1) := by decide +kernel
theorem d_Question_afterHold_48 : decode prog_5_method_15_code 48 = .ok (.ldiv, 1) := by decide +kernel
theorem d_Question_afterHold_49 : decode prog_5_method_15_code 49 = .ok (.invokevirtual 175, 3) := by decide +kernel
theorem d_Question_afterHold_52 : decode prog_5_method_15_code 52 = .ok (.return_, 1) := by decide +kernel
theorem d_Question_afterAdd_0 : decode prog_5_method_16_code 0 = .ok (.aload_n 0, 1) := by decide +kernel
theorem d_Question_afterAdd_1 : decode prog_5_method_16_code 1 = .ok (.getfield 24, 3) := by decide +kernel
theorem d_Question_afterAdd_4 : decode prog_5_method_16_code 4 = .ok (.iconst 0, 1) := by decide +kernel
theorem d_Question_afterAdd_5 : decode prog_5_method_16_code 5 = .ok (.invokevirtual 142, 3) := by decide +kernel
theorem d_Question_afterAdd_8 : decode prog_5_method_16_code 8 = .ok (.aload_n 0, 1) := by decide +kernel
theorem d_Question_afterAdd_9 : decode prog_5_method_16_code 9 = .ok (.getfield 24, 3) := by decide +kernel
theorem d_Question_afterAdd_12 : decode prog_5_method_16_code 12 = .ok (.iconst 1, 1) := by decide +kernel
theorem d_Question_afterAdd_13 : decode prog_5_method_16_code 13 = .ok (.invokevirtual 142, 3) := by decide +kernel
theorem d_Question_afterAdd_16 : decode prog_5_method_16_code 16 = .ok (.iadd, 1) := by decide +kernel
theorem d_Question_afterAdd_17 : decode prog_5_method_16_code 17 = .ok (.istore_n 1, 1) := by decide +kernel
theorem d_Question_afterAdd_18 : decode prog_5_method_16_code 18 = .ok (.iload_n 1, 1) := by decide +kernel
theorem d_Question_afterAdd_19 : decode prog_5_method_16_code 19 = .ok (.aload_n 0, 1) := by decide +kernel
theorem d_Question_afterAdd_20 : decode prog_5_method_16_code 20 = .ok (.getfield 24, 3) := by decide +kernel
theorem d_Question_afterAdd_23 : decode prog_5_method_16_code 23 = .ok (.iconst 2, 1) := by decide +kernel
theorem d_Question_afterAdd_24 : decode prog_5_method_16_code 24 = .ok (.invokevirtual 142, 3) := by decide +kernel
theorem d_Question_afterAdd_27 : decode prog_5_method_16_code 27 = .ok (.iadd, 1) := by decide +kernel
theorem d_Question_afterAdd_28 : decode prog_5_method_16_code 28 = .ok (.istore_n 2, 1) := by decide +kernel
theorem d_Question_afterAdd_29 : decode prog_5_method_16_code 29 = .ok (.iload_n 1, 1) := by decide +kernel
theorem d_Question_afterAdd_30 : decode prog_5_method_16_code 30 = .ok (.aload_n 0, 1) := by decide +kernel
theorem d_Question_afterAdd_31 : decode prog_5_method_16_code 31 = .ok (.invokevirtual 151, 3) := by decide +kernel
theorem d_Question_afterAdd_34 : decode prog_5_method_16_code 34 = .ok (.isub, 1) := by decide +kernel
theorem d_Question_afterAdd_35 : decode prog_5_method_16_code 35 = .ok (.iconst 1, 1) := by decide +kernel
theorem d_Question_afterAdd_36 : decode prog_5_method_16_code 36 = .ok (.iadd, 1) := by decide +kernel
theorem d_Question_afterAdd_37 : decode prog_5_method_16_code 37 = .ok (.i2l, 1) := by decide +kernel
theorem d_Question_afterAdd_38 : decode prog_5_method_16_code 38 = .ok (.lstore_n 3, 1) := by decide +kernel
theorem d_Question_afterAdd_39 : decode prog_5_method_16_code 39 = .ok (.aload_n 0, 1) := by decide +kernel
theorem d_Question_afterAdd_40 : decode prog_5_method_16_code 40 = .ok (.invokevirtual 181, 3) := by decide +kernel
theorem d_Question_afterAdd_43 : decode prog_5_method_16_code 43 = .ok (.iload_n 2, 1) := by decide +kernel
theorem d_Question_afterAdd_44 : decode prog_5_method_16_code 44 = .ok (.isub, 1) := by decide +kernel
theorem d_Question_afterAdd_45 : decode prog_5_method_16_code 45 = .ok (.i2l, 1) := by decide +kernel
theorem d_Question_afterAdd_46 : decode prog_5_method_16_code 46 = .ok (.lstore 5, 2) := by decide +kernel
theorem d_Question_afterAdd_48 : decode prog_5_method_16_code 48 = .ok (.aload_n 0, 1) := by decide +kernel
theorem d_Question_afterAdd_49 : decode prog_5_method_16_code 49 = .ok (.lload_n 3, 1) := by decide +kernel
theorem d_Question_afterAdd_50 : decode prog_5_method_16_code 50 = .ok (.aload_n 0, 1) := by decide +kernel
theorem d_Question_afterAdd_51 : decode prog_5_method_16_code 51 = .ok (.getfield 184, 3) := by decide +kernel
theorem d_Question_afterAdd_54 : decode prog_5_method_16_code 54 = .ok (.i2l, 1) := by decide +kernel
theorem d_Question_afterAdd_55 : decode prog_5_method_16_code 55 = .ok (.lmul, 1) := by decide +kernel
theorem d_Question_afterAdd_56 : decode prog_5_method_16_code 56 = .ok (.aload_n 0, 1) := by decide +kernel
theorem d_Question_afterAdd_57 : decode prog_5_method_16_code 57 = .ok (.getfield 24, 3) := by decide +kernel
theorem d_Question_afterAdd_60 : decode prog_5_method_16_code 60 = .ok (.getfield 187, 3) := by decide +kernel
theorem d_Question_afterAdd_63 : decode prog_5_method_16_code 63 = .ok (.ladd, 1) := by decide +kernel
theorem d_Question_afterAdd_64 : decode prog_5_method_16_code 64 = .ok (.lload 5, 2) := by decide +kernel
theorem d_Question_afterAdd_66 : decode prog_5_method_16_code 66 = .ok (.aload_n 0, 1) := by decide +kernel
theorem d_Question_afterAdd_67 : decode prog_5_method_16_code 67 = .ok (.getfield 191, 3) := by decide +kernel
theorem d_Question_afterAdd_70 : decode prog_5_method_16_code 70 = .ok (.i2l, 1) := by decide +kernel
theorem d_Question_afterAdd_71 : decode prog_5_method_16_code 71 = .ok (.lmul, 1) := by decide +kernel
theorem d_Question_afterAdd_72 : decode prog_5_method_16_code 72 = .ok (.ladd, 1) := by decide +kernel
theorem d_Question_afterAdd_73 : decode prog_5_method_16_code 73 = .ok (.invokevirtual 175, 3) := by decide +kernel
theorem d_Question_afterAdd_76 : decode prog_5_method_16_code 76 = .ok (.return_, 1) := by decide +kernel
theorem d_Question_settle_0 : decode prog_5_method_17_code 0 = .ok (.aload_n 0, 1) := by decide +kernel
theorem d_Question_settle_1 : decode prog_5_method_17_code 1 = .ok (.invokevirtual 194, 3) := by decide +kernel
theorem d_Question_settle_4 : decode prog_5_method_17_code 4 = .ok (.ifCond .ne 12, 3) := by decide +kernel
theorem d_Question_settle_7 : decode prog_5_method_17_code 7 = .ok (.aload_n 0, 1) := by decide +kernel
theorem d_Question_settle_8 : decode prog_5_method_17_code 8 = .ok (.iload_n 1, 1) := by decide +kernel
theorem d_Question_settle_9 : decode prog_5_method_17_code 9 = .ok (.i2l, 1) := by decide +kernel
theorem d_Question_settle_10 : decode prog_5_method_17_code 10 = .ok (.invokevirtual 175, 3) := by decide +kernel
theorem d_Question_settle_13 : decode prog_5_method_17_code 13 = .ok (.goto 39, 3) := by decide +kernel
theorem d_Question_settle_16 : decode prog_5_method_17_code 16 = .ok (.aload_n 0, 1) := by decide +kernel
theorem d_Question_settle_17 : decode prog_5_method_17_code 17 = .ok (.getfield 31, 3) := by decide +kernel
theorem d_Question_settle_20 : decode prog_5_method_17_code 20 = .ok (.getfield 198, 3) := by decide +kernel
theorem d_Question_settle_23 : decode prog_5_method_17_code 23 = .ok (.ifCond .ne 20, 3) := by decide +kernel
theorem d_Question_settle_26 : decode prog_5_method_17_code 26 = .ok (.aload_n 0, 1) := by decide +kernel
theorem d_Question_settle_27 : decode prog_5_method_17_code 27 = .ok (.iload_n 1, 1) := by decide +kernel
theorem d_Question_settle_28 : decode prog_5_method_17_code 28 = .ok (.putfield 184, 3) := by decide +kernel
theorem d_Question_settle_31 : decode prog_5_method_17_code 31 = .ok (.aload_n 0, 1) := by decide +kernel
theorem d_Question_settle_32 : decode prog_5_method_17_code 32 = .ok (.aload_n 0, 1) := by decide +kernel
theorem d_Question_settle_33 : decode prog_5_method_17_code 33 = .ok (.invokevirtual 181, 3) := by decide +kernel
theorem d_Question_settle_36 : decode prog_5_method_17_code 36 = .ok (.iconst 1, 1) := by decide +kernel
theorem d_Question_settle_37 : decode prog_5_method_17_code 37 = .ok (.invokevirtual 154, 3) := by decide +kernel
theorem d_Question_settle_40 : decode prog_5_method_17_code 40 = .ok (.goto 12, 3) := by decide +kernel
theorem d_Question_settle_43 : decode prog_5_method_17_code 43 = .ok (.aload_n 0, 1) := by decide +kernel
theorem d_Question_settle_44 : decode prog_5_method_17_code 44 = .ok (.iload_n 1, 1) := by decide +kernel
theorem d_Question_settle_45 : decode prog_5_method_17_code 45 = .ok (.putfield 191, 3) := by decide +kernel
theorem d_Question_settle_48 : decode prog_5_method_17_code 48 = .ok (.aload_n 0, 1) := by decide +kernel
theorem d_Question_settle_49 : decode prog_5_method_17_code 49 = .ok (.invokevirtual 202, 3) := by decide +kernel
theorem d_Question_settle_52 : decode prog_5_method_17_code 52 = .ok (.return_, 1) := by decide +kernel
theorem d_Question_afterBothRanks_0 : decode prog_5_method_18_code 0 = .ok (.aload_n 0, 1) := by decide +kernel
theorem d_Question_afterBothRanks_1 : decode prog_5_method_18_code 1 = .ok (.getfield 45, 3) := by decide +kernel
theorem d_Question_afterBothRanks_4 : decode prog_5_method_18_code 4 = .ok (.iconst 4, 1) := by decide +kernel
theorem d_Question_afterBothRanks_5 : decode prog_5_method_18_code 5 = .ok (.if_icmp .ne 21, 3) := by decide +kernel
theorem d_Question_afterBothRanks_8 : decode prog_5_method_18_code 8 = .ok (.aload_n 0, 1) := by decide +kernel
theorem d_Question_afterBothRanks_9 : decode prog_5_method_18_code 9 = .ok (.aload_n 0, 1) := by decide +kernel
theorem d_Question_afterBothRanks_10 : decode prog_5_method_18_code 10 = .ok (.getfield 191, 3) := by decide +kernel
theorem d_Question_afterBothRanks_13 : decode prog_5_method_18_code 13 = .ok (.i2l, 1) := by decide +kernel
theorem d_Question_afterBothRanks_14 : decode prog_5_method_18_code 14 = .ok (.aload_n 0, 1) := by decide +kernel
theorem d_Question_afterBothRanks_15 : decode prog_5_method_18_code 15 = .ok (.getfield 184, 3) := by decide +kernel
theorem d_Question_afterBothRanks_18 : decode prog_5_method_18_code 18 = .ok (.i2l, 1) := by decide +kernel
theorem d_Question_afterBothRanks_19 : decode prog_5_method_18_code 19 = .ok (.lsub, 1) := by decide +kernel
theorem d_Question_afterBothRanks_20 : decode prog_5_method_18_code 20 = .ok (.invokevirtual 175, 3) := by decide +kernel
theorem d_Question_afterBothRanks_23 : decode prog_5_method_18_code 23 = .ok (.goto 53, 3) := by decide +kernel
theorem d_Question_afterBothRanks_26 : decode prog_5_method_18_code 26 = .ok (.aload_n 0, 1) := by decide +kernel
theorem d_Question_afterBothRanks_27 : decode prog_5_method_18_code 27 = .ok (.getfield 184, 3) := by decide +kernel
theorem d_Question_afterBothRanks_30 : decode prog_5_method_18_code 30 = .ok (.aload_n 0, 1) := by decide +kernel
theorem d_Question_afterBothRanks_31 : decode prog_5_method_18_code 31 = .ok (.getfield 191, 3) := by decide +kernel
theorem d_Question_afterBothRanks_34 : decode prog_5_method_18_code 34 = .ok (.if_icmp .ne 28, 3) := by decide +kernel
theorem d_Question_afterBothRanks_37 : decode prog_5_method_18_code 37 = .ok (.aload_n 0, 1) := by decide +kernel
theorem d_Question_afterBothRanks_38 : decode prog_5_method_18_code 38 = .ok (.aload_n 0, 1) := by decide +kernel
theorem d_Question_afterBothRanks_39 : decode prog_5_method_18_code 39 = .ok (.getfield 184, 3) := by decide +kernel
theorem d_Question_afterBothRanks_42 : decode prog_5_method_18_code 42 = .ok (.i2l, 1) := by decide +kernel
theorem d_Question_afterBothRanks_43 : decode prog_5_method_18_code 43 = .ok (.aload_n 0, 1) := by decide +kernel
theorem d_Question_afterBothRanks_44 : decode prog_5_method_18_code 44 = .ok (.invokevirtual 181, 3) := by decide +kernel
theorem d_Question_afterBothRanks_47 : decode prog_5_method_18_code 47 = .ok (.aload_n 0, 1) := by decide +kernel
theorem d_Question_afterBothRanks_48 : decode prog_5_method_18_code 48 = .ok (.invokevirtual 151, 3) := by decide +kernel
theorem d_Question_afterBothRanks_51 : decode prog_5_method_18_code 51 = .ok (.isub, 1) := by decide +kernel
theorem d_Question_afterBothRanks_52 : decode prog_5_method_18_code 52 = .ok (.iconst 1, 1) := by decide +kernel
theorem d_Question_afterBothRanks_53 : decode prog_5_method_18_code 53 = .ok (.iadd, 1) := by decide +kernel
theorem d_Question_afterBothRanks_54 : decode prog_5_method_18_code 54 = .ok (.i2l, 1) := by decide +kernel
theorem d_Question_afterBothRanks_55 : decode prog_5_method_18_code 55 = .ok (.lmul, 1) := by decide +kernel
theorem d_Question_afterBothRanks_56 : decode prog_5_method_18_code 56 = .ok (.invokevirtual 175, 3) := by decide +kernel
theorem d_Question_afterBothRanks_59 : decode prog_5_method_18_code 59 = .ok (.goto 17, 3) := by decide +kernel
theorem d_Question_afterBothRanks_62 : decode prog_5_method_18_code 62 = .ok (.aload_n 0, 1) := by decide +kernel
theorem d_Question_afterBothRanks_63 : decode prog_5_method_18_code 63 = .ok (.bipush 11, 2) := by decide +kernel
theorem d_Question_afterBothRanks_65 : decode prog_5_method_18_code 65 = .ok (.aload_n 0, 1) := by decide +kernel
theorem d_Question_afterBothRanks_66 : decode prog_5_method_18_code 66 = .ok (.getfield 184, 3) := by decide +kernel
theorem d_Question_afterBothRanks_69 : decode prog_5_method_18_code 69 = .ok (.aload_n 0, 1) := by decide +kernel
theorem d_Question_afterBothRanks_70 : decode prog_5_method_18_code 70 = .ok (.getfield 191, 3) := by decide +kernel
theorem d_Question_afterBothRanks_73 : decode prog_5_method_18_code 73 = .ok (.invokevirtual 144, 3) := by decide +kernel
theorem d_Question_afterBothRanks_76 : decode prog_5_method_18_code 76 = .ok (.return_, 1) := by decide +kernel
theorem d_Question_firstRank_0 : decode prog_5_method_19_code 0 = .ok (.aload_n 0, 1) := by decide +kernel
theorem d_Question_firstRank_1 : decode prog_5_method_19_code 1 = .ok (.getfield 45, 3) := by decide +kernel
theorem d_Question_firstRank_4 : decode prog_5_method_19_code 4 = .ok (.lookupswitch 71 #[(2, 28), (4, 44)], 28) := by decide +kernel
theorem d_Question_firstRank_32 : decode prog_5_method_19_code 32 = .ok (.aload_n 0, 1) := by decide +kernel
theorem d_Question_firstRank_33 : decode prog_5_method_19_code 33 = .ok (.getfield 66, 3) := by decide +kernel
theorem d_Question_firstRank_36 : decode prog_5_method_19_code 36 = .ok (.aload_n 0, 1) := by decide +kernel
theorem d_Question_firstRank_37 : decode prog_5_method_19_code 37 = .ok (.getfield 48, 3) := by decide +kernel
theorem d_Question_firstRank_40 : decode prog_5_method_19_code 40 = .ok (.imul, 1) := by decide +kernel
theorem d_Question_firstRank_41 : decode prog_5_method_19_code 41 = .ok (.sipush 1000, 3) := by decide +kernel
theorem d_Question_firstRank_44 : decode prog_5_method_19_code 44 = .ok (.idiv, 1) := by decide +kernel
theorem d_Question_firstRank_45 : decode prog_5_method_19_code 45 = .ok (.iconst 1, 1) := by decide +kernel
theorem d_Question_firstRank_46 : decode prog_5_method_19_code 46 = .ok (.iadd, 1) := by decide +kernel
theorem d_Question_firstRank_47 : decode prog_5_method_19_code 47 = .ok (.ireturn, 1) := by decide +kernel
theorem d_Question_firstRank_48 : decode prog_5_method_19_code 48 = .ok (.iconst 1, 1) := by decide +kernel
theorem d_Question_firstRank_49 : decode prog_5_method_19_code 49 = .ok (.aload_n 0, 1) := by decide +kernel
theorem d_Question_firstRank_50 : decode prog_5_method_19_code 50 = .ok (.getfield 66, 3) := by decide +kernel
theorem d_Question_firstRank_53 : decode prog_5_method_19_code 53 = .ok (.iconst 1, 1) := by decide +kernel
theorem d_Question_firstRank_54 : decode prog_5_method_19_code 54 = .ok (.iadd, 1) := by decide +kernel
theorem d_Question_firstRank_55 : decode prog_5_method_19_code 55 = .ok (.iconst 2, 1) := by decide +kernel
theorem d_Question_firstRank_56 : decode prog_5_method_19_code 56 = .ok (.idiv, 1) := by decide +kernel
theorem d_Question_firstRank_57 : decode prog_5_method_19_code 57 = .ok (.aload_n 0, 1) := by decide +kernel
theorem d_Question_firstRank_58 : decode prog_5_method_19_code 58 = .ok (.getfield 66, 3) := by decide +kernel
theorem d_Question_firstRank_61 : decode prog_5_method_19_code 61 = .ok (.aload_n 0, 1) := by decide +kernel
theorem d_Question_firstRank_62 : decode prog_5_method_19_code 62 = .ok (.getfield 48, 3) := by decide +kernel
theorem d_Question_firstRank_65 : decode prog_5_method_19_code 65 = .ok (.imul, 1) := by decide +kernel
theorem d_Question_firstRank_66 : decode prog_5_method_19_code 66 = .ok (.sipush 2000, 3) := by decide +kernel
theorem d_Question_firstRank_69 : decode prog_5_method_19_code 69 = .ok (.idiv, 1) := by decide +kernel
theorem d_Question_firstRank_70 : decode prog_5_method_19_code 70 = .ok (.isub, 1) := by decide +kernel
theorem d_Question_firstRank_71 : decode prog_5_method_19_code 71 = .ok (.invokestatic 205, 3) := by decide +kernel
theorem d_Question_firstRank_74 : decode prog_5_method_19_code 74 = .ok (.ireturn, 1) := by decide +kernel
theorem d_Question_firstRank_75 : decode prog_5_method_19_code 75 = .ok (.aload_n 0, 1) := by decide +kernel
theorem d_Question_firstRank_76 : decode prog_5_method_19_code 76 = .ok (.getfield 48, 3) := by decide +kernel
theorem d_Question_firstRank_79 : decode prog_5_method_19_code 79 = .ok (.ireturn, 1) := by decide +kernel
theorem d_Question_lastRank_0 : decode prog_5_method_20_code 0 = .ok (.aload_n 0, 1) := by decide +kernel
theorem d_Question_lastRank_1 : decode prog_5_method_20_code 1 = .ok (.getfield 45, 3) := by decide +kernel
theorem d_Question_lastRank_4 : decode prog_5_method_20_code 4 = .ok (.lookupswitch 77 #[(2, 28), (4, 47)], 28) := by decide +kernel
theorem d_Question_lastRank_32 : decode prog_5_method_20_code 32 = .ok (.aload_n 0, 1) := by decide +kernel
theorem d_Question_lastRank_33 : decode prog_5_method_20_code 33 = .ok (.getfield 66, 3) := by decide +kernel
theorem d_Question_lastRank_36 : decode prog_5_method_20_code 36 = .ok (.aload_n 0, 1) := by decide +kernel
theorem d_Question_lastRank_37 : decode prog_5_method_20_code 37 = .ok (.getfield 66, 3) := by decide +kernel
theorem d_Question_lastRank_40 : decode prog_5_method_20_code 40 = .ok (.aload_n 0, 1) := by decide +kernel
theorem d_Question_lastRank_41 : decode prog_5_method_20_code 41 = .ok (.getfield 48, 3) := by decide +kernel
theorem d_Question_lastRank_44 : decode prog_5_method_20_code 44 = .ok (.imul, 1) := by decide +kernel
theorem d_Question_lastRank_45 : decode prog_5_method_20_code 45 = .ok (.sipush 1000, 3) := by decide +kernel
theorem d_Question_lastRank_48 : decode prog_5_method_20_code 48 = .ok (.idiv, 1) := by decide +kernel
theorem d_Question_lastRank_49 : decode prog_5_method_20_code 49 = .ok (.isub, 1) := by decide +kernel
theorem d_Question_lastRank_50 : decode prog_5_method_20_code 50 = .ok (.ireturn, 1) := by decide +kernel
theorem d_Question_lastRank_51 : decode prog_5_method_20_code 51 = .ok (.aload_n 0, 1) := by decide +kernel
theorem d_Question_lastRank_52 : decode prog_5_method_20_code 52 = .ok (.getfield 66, 3) := by decide +kernel
theorem d_Question_lastRank_55 : decode prog_5_method_20_code 55 = .ok (.aload_n 0, 1) := by decide +kernel
theorem d_Question_lastRank_56 : decode prog_5_method_20_code 56 = .ok (.getfield 66, 3) := by decide +kernel
theorem d_Question_lastRank_59 : decode prog_5_method_20_code 59 = .ok (.iconst 1, 1) := by decide +kernel
theorem d_Question_lastRank_60 : decode prog_5_method_20_code 60 = .ok (.iadd, 1) := by decide +kernel
theorem d_Question_lastRank_61 : decode prog_5_method_20_code 61 = .ok (.iconst 2, 1) := by decide +kernel
theorem d_Question_lastRank_62 : decode prog_5_method_20_code 62 = .ok (.idiv, 1) := by decide +kernel
theorem d_Question_lastRank_63 : decode prog_5_method_20_code 63 = .ok (.aload_n 0, 1) := by decide +kernel
theorem d_Question_lastRank_64 : decode prog_5_method_20_code 64 = .ok (.getfield 66, 3) := by decide +kernel
theorem d_Question_lastRank_67 : decode prog_5_method_20_code 67 = .ok (.aload_n 0, 1) := by decide +kernel
theorem d_Question_lastRank_68 : decode prog_5_method_20_code 68 = .ok (.getfield 48, 3) := by decide +kernel
theorem d_Question_lastRank_71 : decode prog_5_method_20_code 71 = .ok (.imul, 1) := by decide +kernel
theorem d_Question_lastRank_72 : decode prog_5_method_20_code 72 = .ok (.sipush 2000, 3) := by decide +kernel
theorem d_Question_lastRank_75 : decode prog_5_method_20_code 75 = .ok (.idiv, 1) := by decide +kernel
theorem d_Question_lastRank_76 : decode prog_5_method_20_code 76 = .ok (.iadd, 1) := by decide +kernel
theorem d_Question_lastRank_77 : decode prog_5_method_20_code 77 = .ok (.invokestatic 211, 3) := by decide +kernel
theorem d_Question_lastRank_80 : decode prog_5_method_20_code 80 = .ok (.ireturn, 1) := by decide +kernel
theorem d_Question_lastRank_81 : decode prog_5_method_20_code 81 = .ok (.aload_n 0, 1) := by decide +kernel
theorem d_Question_lastRank_82 : decode prog_5_method_20_code 82 = .ok (.getfield 48, 3) := by decide +kernel
theorem d_Question_lastRank_85 : decode prog_5_method_20_code 85 = .ok (.ireturn, 1) := by decide +kernel
theorem d_Question_seekRank_0 : decode prog_5_method_21_code 0 = .ok (.aload_n 0, 1) := by decide +kernel
theorem d_Question_seekRank_1 : decode prog_5_method_21_code 1 = .ok (.getfield 31, 3) := by decide +kernel
theorem d_Question_seekRank_4 : decode prog_5_method_21_code 4 = .ok (.iload_n 1, 1) := by decide +kernel
theorem d_Question_seekRank_5 : decode prog_5_method_21_code 5 = .ok (.iload_n 2, 1) := by decide +kernel
theorem d_Question_seekRank_6 : decode prog_5_method_21_code 6 = .ok (.aload_n 0, 1) := by decide +kernel
theorem d_Question_seekRank_7 : decode prog_5_method_21_code 7 = .ok (.getfield 66, 3) := by decide +kernel
theorem d_Question_seekRank_10 : decode prog_5_method_21_code 10 = .ok (.invokevirtual 214, 3) := by decide +kernel
theorem d_Question_seekRank_13 : decode prog_5_method_21_code 13 = .ok (.aload_n 0, 1) := by decide +kernel
theorem d_Question_seekRank_14 : decode prog_5_method_21_code 14 = .ok (.iconst 3, 1) := by decide +kernel
theorem d_Question_seekRank_15 : decode prog_5_method_21_code 15 = .ok (.aload_n 0, 1) := by decide +kernel
theorem d_Question_seekRank_16 : decode prog_5_method_21_code 16 = .ok (.getfield 31, 3) := by decide +kernel
theorem d_Question_seekRank_19 : decode prog_5_method_21_code 19 = .ok (.getfield 158, 3) := by decide +kernel
theorem d_Question_seekRank_22 : decode prog_5_method_21_code 22 = .ok (.aload_n 0, 1) := by decide +kernel
theorem d_Question_seekRank_23 : decode prog_5_method_21_code 23 = .ok (.getfield 31, 3) := by decide +kernel
theorem d_Question_seekRank_26 : decode prog_5_method_21_code 26 = .ok (.getfield 161, 3) := by decide +kernel
theorem d_Question_seekRank_29 : decode prog_5_method_21_code 29 = .ok (.invokevirtual 144, 3) := by decide +kernel
theorem d_Question_seekRank_32 : decode prog_5_method_21_code 32 = .ok (.return_, 1) := by decide +kernel
theorem d_Question_next_0 : decode prog_5_method_22_code 0 = .ok (.aload_n 0, 1) := by decide +kernel
theorem d_Question_next_1 : decode prog_5_method_22_code 1 = .ok (.iload_n 1, 1) := by decide +kernel
theorem d_Question_next_2 : decode prog_5_method_22_code 2 = .ok (.putfield 75, 3) := by decide +kernel
theorem d_Question_next_5 : decode prog_5_method_22_code 5 = .ok (.aload_n 0, 1) := by decide +kernel
theorem d_Question_next_6 : decode prog_5_method_22_code 6 = .ok (.getfield 35, 3) := by decide +kernel
theorem d_Question_next_9 : decode prog_5_method_22_code 9 = .ok (.iconst 0, 1) := by decide +kernel
theorem d_Question_next_10 : decode prog_5_method_22_code 10 = .ok (.iload_n 2, 1) := by decide +kernel
theorem d_Question_next_11 : decode prog_5_method_22_code 11 = .ok (.iastore, 1) := by decide +kernel
theorem d_Question_next_12 : decode prog_5_method_22_code 12 = .ok (.aload_n 0, 1) := by decide +kernel
theorem d_Question_next_13 : decode prog_5_method_22_code 13 = .ok (.getfield 35, 3) := by decide +kernel
theorem d_Question_next_16 : decode prog_5_method_22_code 16 = .ok (.iconst 1, 1) := by decide +kernel
theorem d_Question_next_17 : decode prog_5_method_22_code 17 = .ok (.iload_n 3, 1) := by decide +kernel
theorem d_Question_next_18 : decode prog_5_method_22_code 18 = .ok (.iastore, 1) := by decide +kernel
theorem d_Question_next_19 : decode prog_5_method_22_code 19 = .ok (.return_, 1) := by decide +kernel
theorem d_Question_conclude_0 : decode prog_5_method_23_code 0 = .ok (.aload_n 0, 1) := by decide +kernel
theorem d_Question_conclude_1 : decode prog_5_method_23_code 1 = .ok (.iconst 1, 1) := by decide +kernel
theorem d_Question_conclude_2 : decode prog_5_method_23_code 2 = .ok (.putfield 72, 3) := by decide +kernel
theorem d_Question_conclude_5 : decode prog_5_method_23_code 5 = .ok (.aload_n 0, 1) := by decide +kernel
theorem d_Question_conclude_6 : decode prog_5_method_23_code 6 = .ok (.lload_n 1, 1) := by decide +kernel
theorem d_Question_conclude_7 : decode prog_5_method_23_code 7 = .ok (.putfield 218, 3) := by decide +kernel
theorem d_Question_conclude_10 : decode prog_5_method_23_code 10 = .ok (.return_, 1) := by decide +kernel
