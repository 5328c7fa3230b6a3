theorem d_Search_init_0 : decode prog_7_method_1_code 0 = .ok (.aload_n 0, 1) := by decide +kernel
theorem d_Search_init_1 : decode prog_7_method_1_code 1 = .ok (.invokespecial 1, 3) := by decide +kernel
theorem d_Search_init_4 : decode prog_7_method_1_code 4 = .ok (.return_, 1) := by decide +kernel
theorem d_Search_begin_0 : decode prog_7_method_2_code 0 = .ok (.aload_n 0, 1) := by decide +kernel
theorem d_Search_begin_1 : decode prog_7_method_2_code 1 = .ok (.iload_n 1, 1) := by decide +kernel
theorem d_Search_begin_2 : decode prog_7_method_2_code 2 = .ok (.putfield 7, 3) := by decide +kernel
theorem d_Search_begin_5 : decode prog_7_method_2_code 5 = .ok (.aload_n 0, 1) := by decide +kernel
theorem d_Search_begin_6 : decode prog_7_method_2_code 6 = .ok (.iload_n 2, 1) := by decide +kernel
theorem d_Search_begin_7 : decode prog_7_method_2_code 7 = .ok (.putfield 13, 3) := by decide +kernel
theorem d_Search_begin_10 : decode prog_7_method_2_code 10 = .ok (.aload_n 0, 1) := by decide +kernel
theorem d_Search_begin_11 : decode prog_7_method_2_code 11 = .ok (.iconst 0, 1) := by decide +kernel
theorem d_Search_begin_12 : decode prog_7_method_2_code 12 = .ok (.putfield 17, 3) := by decide +kernel
theorem d_Search_begin_15 : decode prog_7_method_2_code 15 = .ok (.aload_n 0, 1) := by decide +kernel
theorem d_Search_begin_16 : decode prog_7_method_2_code 16 = .ok (.ldc 22, 2) := by decide +kernel
theorem d_Search_begin_18 : decode prog_7_method_2_code 18 = .ok (.putfield 23, 3) := by decide +kernel
theorem d_Search_begin_21 : decode prog_7_method_2_code 21 = .ok (.aload_n 0, 1) := by decide +kernel
theorem d_Search_begin_22 : decode prog_7_method_2_code 22 = .ok (.ldc 26, 2) := by decide +kernel
theorem d_Search_begin_24 : decode prog_7_method_2_code 24 = .ok (.putfield 27, 3) := by decide +kernel
theorem d_Search_begin_27 : decode prog_7_method_2_code 27 = .ok (.aload_n 0, 1) := by decide +kernel
theorem d_Search_begin_28 : decode prog_7_method_2_code 28 = .ok (.iload_n 3, 1) := by decide +kernel
theorem d_Search_begin_29 : decode prog_7_method_2_code 29 = .ok (.putfield 30, 3) := by decide +kernel
theorem d_Search_begin_32 : decode prog_7_method_2_code 32 = .ok (.return_, 1) := by decide +kernel
theorem d_Search_rankWithin_0 : decode prog_7_method_3_code 0 = .ok (.aload_n 0, 1) := by decide +kernel
theorem d_Search_rankWithin_1 : decode prog_7_method_3_code 1 = .ok (.getfield 7, 3) := by decide +kernel
theorem d_Search_rankWithin_4 : decode prog_7_method_3_code 4 = .ok (.aload_n 0, 1) := by decide +kernel
theorem d_Search_rankWithin_5 : decode prog_7_method_3_code 5 = .ok (.getfield 17, 3) := by decide +kernel
theorem d_Search_rankWithin_8 : decode prog_7_method_3_code 8 = .ok (.isub, 1) := by decide +kernel
theorem d_Search_rankWithin_9 : decode prog_7_method_3_code 9 = .ok (.ireturn, 1) := by decide +kernel
theorem d_Search_keepBelowPivot_0 : decode prog_7_method_4_code 0 = .ok (.aload_n 0, 1) := by decide +kernel
theorem d_Search_keepBelowPivot_1 : decode prog_7_method_4_code 1 = .ok (.aload_n 0, 1) := by decide +kernel
theorem d_Search_keepBelowPivot_2 : decode prog_7_method_4_code 2 = .ok (.getfield 33, 3) := by decide +kernel
theorem d_Search_keepBelowPivot_5 : decode prog_7_method_4_code 5 = .ok (.iconst 1, 1) := by decide +kernel
theorem d_Search_keepBelowPivot_6 : decode prog_7_method_4_code 6 = .ok (.isub, 1) := by decide +kernel
theorem d_Search_keepBelowPivot_7 : decode prog_7_method_4_code 7 = .ok (.putfield 27, 3) := by decide +kernel
theorem d_Search_keepBelowPivot_10 : decode prog_7_method_4_code 10 = .ok (.aload_n 0, 1) := by decide +kernel
theorem d_Search_keepBelowPivot_11 : decode prog_7_method_4_code 11 = .ok (.iload_n 1, 1) := by decide +kernel
theorem d_Search_keepBelowPivot_12 : decode prog_7_method_4_code 12 = .ok (.putfield 30, 3) := by decide +kernel
theorem d_Search_keepBelowPivot_15 : decode prog_7_method_4_code 15 = .ok (.return_, 1) := by decide +kernel
theorem d_Search_keepAbovePivot_0 : decode prog_7_method_5_code 0 = .ok (.aload_n 0, 1) := by decide +kernel
theorem d_Search_keepAbovePivot_1 : decode prog_7_method_5_code 1 = .ok (.aload_n 0, 1) := by decide +kernel
theorem d_Search_keepAbovePivot_2 : decode prog_7_method_5_code 2 = .ok (.getfield 33, 3) := by decide +kernel
theorem d_Search_keepAbovePivot_5 : decode prog_7_method_5_code 5 = .ok (.iconst 1, 1) := by decide +kernel
theorem d_Search_keepAbovePivot_6 : decode prog_7_method_5_code 6 = .ok (.iadd, 1) := by decide +kernel
theorem d_Search_keepAbovePivot_7 : decode prog_7_method_5_code 7 = .ok (.putfield 23, 3) := by decide +kernel
theorem d_Search_keepAbovePivot_10 : decode prog_7_method_5_code 10 = .ok (.aload_n 0, 1) := by decide +kernel
theorem d_Search_keepAbovePivot_11 : decode prog_7_method_5_code 11 = .ok (.dup, 1) := by decide +kernel
theorem d_Search_keepAbovePivot_12 : decode prog_7_method_5_code 12 = .ok (.getfield 17, 3) := by decide +kernel
theorem d_Search_keepAbovePivot_15 : decode prog_7_method_5_code 15 = .ok (.iload_n 1, 1) := by decide +kernel
theorem d_Search_keepAbovePivot_16 : decode prog_7_method_5_code 16 = .ok (.iadd, 1) := by decide +kernel
theorem d_Search_keepAbovePivot_17 : decode prog_7_method_5_code 17 = .ok (.putfield 17, 3) := by decide +kernel
theorem d_Search_keepAbovePivot_20 : decode prog_7_method_5_code 20 = .ok (.aload_n 0, 1) := by decide +kernel
theorem d_Search_keepAbovePivot_21 : decode prog_7_method_5_code 21 = .ok (.dup, 1) := by decide +kernel
theorem d_Search_keepAbovePivot_22 : decode prog_7_method_5_code 22 = .ok (.getfield 30, 3) := by decide +kernel
theorem d_Search_keepAbovePivot_25 : decode prog_7_method_5_code 25 = .ok (.iload_n 1, 1) := by decide +kernel
theorem d_Search_keepAbovePivot_26 : decode prog_7_method_5_code 26 = .ok (.isub, 1) := by decide +kernel
theorem d_Search_keepAbovePivot_27 : decode prog_7_method_5_code 27 = .ok (.putfield 30, 3) := by decide +kernel
theorem d_Search_keepAbovePivot_30 : decode prog_7_method_5_code 30 = .ok (.return_, 1) := by decide +kernel
theorem d_SortedRow_init_0 : decode prog_8_method_1_code 0 = .ok (.aload_n 0, 1) := by decide +kernel
theorem d_SortedRow_init_1 : decode prog_8_method_1_code 1 = .ok (.invokespecial 1, 3) := by decide +kernel
theorem d_SortedRow_init_4 : decode prog_8_method_1_code 4 = .ok (.aload_n 0, 1) := by decide +kernel
theorem d_SortedRow_init_5 : decode prog_8_method_1_code 5 = .ok (.iload_n 1, 1) := by decide +kernel
theorem d_SortedRow_init_6 : decode prog_8_method_1_code 6 = .ok (.newarray .int, 2) := by decide +kernel
theorem d_SortedRow_init_8 : decode prog_8_method_1_code 8 = .ok (.putfield 7, 3) := by decide +kernel
theorem d_SortedRow_init_11 : decode prog_8_method_1_code 11 = .ok (.return_, 1) := by decide +kernel
theorem d_SortedRow_insert_0 : decode prog_8_method_2_code 0 = .ok (.aload_n 0, 1) := by decide +kernel
theorem d_SortedRow_insert_1 : decode prog_8_method_2_code 1 = .ok (.getfield 13, 3) := by decide +kernel
theorem d_SortedRow_insert_4 : decode prog_8_method_2_code 4 = .ok (.aload_n 0, 1) := by decide +kernel
theorem d_SortedRow_insert_5 : decode prog_8_method_2_code 5 = .ok (.getfield 7, 3) := by decide +kernel
theorem d_SortedRow_insert_8 : decode prog_8_method_2_code 8 = .ok (.arraylength, 1) := by decide +kernel
theorem d_SortedRow_insert_9 : decode prog_8_method_2_code 9 = .ok (.if_icmp .lt 4, 3) := by decide +kernel
theorem d_SortedRow_insert_12 : decode prog_8_method_2_code 12 = .ok (.return_, 1) := by decide +kernel
theorem d_SortedRow_insert_13 : decode prog_8_method_2_code 13 = .ok (.aload_n 0, 1) := by decide +kernel
theorem d_SortedRow_insert_14 : decode prog_8_method_2_code 14 = .ok (.iload_n 1, 1) := by decide +kernel
theorem d_SortedRow_insert_15 : decode prog_8_method_2_code 15 = .ok (.i2l, 1) := by decide +kernel
theorem d_SortedRow_insert_16 : decode prog_8_method_2_code 16 = .ok (.invokevirtual 17, 3) := by decide +kernel
theorem d_SortedRow_insert_19 : decode prog_8_method_2_code 19 = .ok (.istore_n 2, 1) := by decide +kernel
theorem d_SortedRow_insert_20 : decode prog_8_method_2_code 20 = .ok (.aload_n 0, 1) := by decide +kernel
theorem d_SortedRow_insert_21 : decode prog_8_method_2_code 21 = .ok (.getfield 7, 3) := by decide +kernel
theorem d_SortedRow_insert_24 : decode prog_8_method_2_code 24 = .ok (.iload_n 2, 1) := by decide +kernel
theorem d_SortedRow_insert_25 : decode prog_8_method_2_code 25 = .ok (.aload_n 0, 1) := by decide +kernel
theorem d_SortedRow_insert_26 : decode prog_8_method_2_code 26 = .ok (.getfield 7, 3) := by decide +kernel
theorem d_SortedRow_insert_29 : decode prog_8_method_2_code 29 = .ok (.iload_n 2, 1) := by decide +kernel
theorem d_SortedRow_insert_30 : decode prog_8_method_2_code 30 = .ok (.iconst 1, 1) := by decide +kernel
theorem d_SortedRow_insert_31 : decode prog_8_method_2_code 31 = .ok (.iadd, 1) := by decide +kernel
theorem d_SortedRow_insert_32 : decode prog_8_method_2_code 32 = .ok (.aload_n 0, 1) := by decide +kernel
theorem d_SortedRow_insert_33 : decode prog_8_method_2_code 33 = .ok (.getfield 13, 3) := by decide +kernel
theorem d_SortedRow_insert_36 : decode prog_8_method_2_code 36 = .ok (.iload_n 2, 1) := by decide +kernel
theorem d_SortedRow_insert_37 : decode prog_8_method_2_code 37 = .ok (.isub, 1) := by decide +kernel
theorem d_SortedRow_insert_38 : decode prog_8_method_2_code 38 = .ok (.invokestatic 21, 3) := by decide +kernel
theorem d_SortedRow_insert_41 : decode prog_8_method_2_code 41 = .ok (.aload_n 0, 1) := by decide +kernel
theorem d_SortedRow_insert_42 : decode prog_8_method_2_code 42 = .ok (.getfield 7, 3) := by decide +kernel
theorem d_SortedRow_insert_45 : decode prog_8_method_2_code 45 = .ok (.iload_n 2, 1) := by decide +kernel
theorem d_SortedRow_insert_46 : decode prog_8_method_2_code 46 = .ok (.iload_n 1, 1) := by decide +kernel
theorem d_SortedRow_insert_47 : decode prog_8_method_2_code 47 = .ok (.iastore, 1) := by decide +kernel
theorem d_SortedRow_insert_48 : decode prog_8_method_2_code 48 = .ok (.aload_n 0, 1) := by decide +kernel
theorem d_SortedRow_insert_49 : decode prog_8_method_2_code 49 = .ok (.dup, 1) := by decide +kernel
theorem d_SortedRow_insert_50 : decode prog_8_method_2_code 50 = .ok (.getfield 13, 3) := by decide +kernel
theorem d_SortedRow_insert_53 : decode prog_8_method_2_code 53 = .ok (.iconst 1, 1) := by decide +kernel
theorem d_SortedRow_insert_54 : decode prog_8_method_2_code 54 = .ok (.iadd, 1) := by decide +kernel
theorem d_SortedRow_insert_55 : decode prog_8_method_2_code 55 = .ok (.putfield 13, 3) := by decide +kernel
theorem d_SortedRow_insert_58 : decode prog_8_method_2_code 58 = .ok (.return_, 1) := by decide +kernel
theorem d_SortedRow_copy_0 : decode prog_8_method_3_code 0 = .ok (.aload_n 0, 1) := by decide +kernel
theorem d_SortedRow_copy_1 : decode prog_8_method_3_code 1 = .ok (.aload_n 1, 1) := by decide +kernel
theorem d_SortedRow_copy_2 : decode prog_8_method_3_code 2 = .ok (.getfield 13, 3) := by decide +kernel
theorem d_SortedRow_copy_5 : decode prog_8_method_3_code 5 = .ok (.aload_n 0, 1) := by decide +kernel
theorem d_SortedRow_copy_6 : decode prog_8_method_3_code 6 = .ok (.getfield 7, 3) := by decide +kernel
theorem d_SortedRow_copy_9 : decode prog_8_method_3_code 9 = .ok (.arraylength, 1) := by decide +kernel
theorem d_SortedRow_copy_10 : decode prog_8_method_3_code 10 = .ok (.invokestatic 27, 3) := by decide +kernel
theorem d_SortedRow_copy_13 : decode prog_8_method_3_code 13 = .ok (.putfield 13, 3) := by decide +kernel
theorem d_SortedRow_copy_16 : decode prog_8_method_3_code 16 = .ok (.aload_n 1, 1) := by decide +kernel
theorem d_SortedRow_copy_17 : decode prog_8_method_3_code 17 = .ok (.getfield 7, 3) := by decide +kernel
theorem d_SortedRow_copy_20 : decode prog_8_method_3_code 20 = .ok (.iconst 0, 1) := by decide +kernel
theorem d_SortedRow_copy_21 : decode prog_8_method_3_code 21 = .ok (.aload_n 0, 1) := by decide +kernel
theorem d_SortedRow_copy_22 : decode prog_8_method_3_code 22 = .ok (.getfield 7, 3) := by decide +kernel
theorem d_SortedRow_copy_25 : decode prog_8_method_3_code 25 = .ok (.iconst 0, 1) := by decide +kernel
theorem d_SortedRow_copy_26 : decode prog_8_method_3_code 26 = .ok (.aload_n 0, 1) := by decide +kernel
theorem d_SortedRow_copy_27 : decode prog_8_method_3_code 27 = .ok (.getfield 13, 3) := by decide +kernel
theorem d_SortedRow_copy_30 : decode prog_8_method_3_code 30 = .ok (.invokestatic 21, 3) := by decide +kernel
theorem d_SortedRow_copy_33 : decode prog_8_method_3_code 33 = .ok (.return_, 1) := by decide +kernel
theorem d_SortedRow_at_0 : decode prog_8_method_4_code 0 = .ok (.iload_n 1, 1) := by decide +kernel
theorem d_SortedRow_at_1 : decode prog_8_method_4_code 1 = .ok (.ifCond .lt 20, 3) := by decide +kernel
theorem d_SortedRow_at_4 : decode prog_8_method_4_code 4 = .ok (.iload_n 1, 1) := by decide +kernel
theorem d_SortedRow_at_5 : decode prog_8_method_4_code 5 = .ok (.aload_n 0, 1) := by decide +kernel
theorem d_SortedRow_at_6 : decode prog_8_method_4_code 6 = .ok (.getfield 13, 3) := by decide +kernel
theorem d_SortedRow_at_9 : decode prog_8_method_4_code 9 = .ok (.if_icmp .ge 12, 3) := by decide +kernel
theorem d_SortedRow_at_12 : decode prog_8_method_4_code 12 = .ok (.aload_n 0, 1) := by decide +kernel
theorem d_SortedRow_at_13 : decode prog_8_method_4_code 13 = .ok (.getfield 7, 3) := by decide +kernel
theorem d_SortedRow_at_16 : decode prog_8_method_4_code 16 = .ok (.iload_n 1, 1) := by decide +kernel
theorem d_SortedRow_at_17 : decode prog_8_method_4_code 17 = .ok (.iaload, 1) := by decide +kernel
theorem d_SortedRow_at_18 : decode prog_8_method_4_code 18 = .ok (.goto 4, 3) := by decide +kernel
theorem d_SortedRow_at_21 : decode prog_8_method_4_code 21 = .ok (.iconst 0, 1) := by decide +kernel
theorem d_SortedRow_at_22 : decode prog_8_method_4_code 22 = .ok (.ireturn, 1) := by decide +kernel
theorem d_SortedRow_below_0 : decode prog_8_method_5_code 0 = .ok (.iconst 0, 1) := by decide +kernel
theorem d_SortedRow_below_1 : decode prog_8_method_5_code 1 = .ok (.istore_n 3, 1) := by decide +kernel
theorem d_SortedRow_below_2 : decode prog_8_method_5_code 2 = .ok (.sipush 256, 3) := by decide +kernel
theorem d_SortedRow_below_5 : decode prog_8_method_5_code 5 = .ok (.istore 4, 2) := by decide +kernel
theorem d_SortedRow_below_7 : decode prog_8_method_5_code 7 = .ok (.iload 4, 2) := by decide +kernel
theorem d_SortedRow_below_9 : decode prog_8_method_5_code 9 = .ok (.ifCond .le 45, 3) := by decide +kernel
theorem d_SortedRow_below_12 : decode prog_8_method_5_code 12 = .ok (.iload_n 3, 1) := by decide +kernel
theorem d_SortedRow_below_13 : decode prog_8_method_5_code 13 = .ok (.iload 4, 2) := by decide +kernel
theorem d_SortedRow_below_15 : decode prog_8_method_5_code 15 = .ok (.iadd, 1) := by decide +kernel
theorem d_SortedRow_below_16 : decode prog_8_method_5_code 16 = .ok (.istore 5, 2) := by decide +kernel
theorem d_SortedRow_below_18 : decode prog_8_method_5_code 18 = .ok (.iload 5, 2) := by decide +kernel
theorem d_SortedRow_below_20 : decode prog_8_method_5_code 20 = .ok (.aload_n 0, 1) := by decide +kernel
theorem d_SortedRow_below_21 : decode prog_8_method_5_code 21 = .ok (.getfield 13, 3) := by decide +kernel
theorem d_SortedRow_below_24 : decode prog_8_method_5_code 24 = .ok (.if_icmp .gt 21, 3) := by decide +kernel
theorem d_SortedRow_below_27 : decode prog_8_method_5_code 27 = .ok (.aload_n 0, 1) := by decide +kernel
theorem d_SortedRow_below_28 : decode prog_8_method_5_code 28 = .ok (.getfield 7, 3) := by decide +kernel
theorem d_SortedRow_below_31 : decode prog_8_method_5_code 31 = .ok (.iload 5, 2) := by decide +kernel
theorem d_SortedRow_below_33 : decode prog_8_method_5_code 33 = .ok (.iconst 1, 1) := by decide +kernel
theorem d_SortedRow_below_34 : decode prog_8_method_5_code 34 = .ok (.isub, 1) := by decide +kernel
theorem d_SortedRow_below_35 : decode prog_8_method_5_code 35 = .ok (.iaload, 1) := by decide +kernel
theorem d_SortedRow_below_36 : decode prog_8_method_5_code 36 = .ok (.i2l, 1) := by decide +kernel
theorem d_SortedRow_below_37 : decode prog_8_method_5_code 37 = .ok (.lload_n 1, 1) := by decide +kernel
theorem d_SortedRow_below_38 : decode prog_8_method_5_code 38 = .ok (.lcmp, 1) := by decide +kernel
theorem d_SortedRow_below_39 : decode prog_8_method_5_code 39 = .ok (.ifCond .ge 6, 3) := by decide +kernel
theorem d_SortedRow_below_42 : decode prog_8_method_5_code 42 = .ok (.iload 5, 2) := by decide +kernel
theorem d_SortedRow_below_44 : decode prog_8_method_5_code 44 = .ok (.istore_n 3, 1) := by decide +kernel
theorem d_SortedRow_below_45 : decode prog_8_method_5_code 45 = .ok (.iload 4, 2) := by decide +kernel
theorem d_SortedRow_below_47 : decode prog_8_method_5_code 47 = .ok (.iconst 2, 1) := by decide +kernel
theorem d_SortedRow_below_48 : decode prog_8_method_5_code 48 = .ok (.idiv, 1) := by decide +kernel
theorem d_SortedRow_below_49 : decode prog_8_method_5_code 49 = .ok (.istore 4, 2) := by decide +kernel
theorem d_SortedRow_below_51 : decode prog_8_method_5_code 51 = .ok (.goto (-44), 3) := by decide +kernel
theorem d_SortedRow_below_54 : decode prog_8_method_5_code 54 = .ok (.iload_n 3, 1) := by decide +kernel
theorem d_SortedRow_below_55 : decode prog_8_method_5_code 55 = .ok (.ireturn, 1) := by decide +kernel
theorem d_SortedRow_within_0 : decode prog_8_method_6_code 0 = .ok (.iconst 0, 1) := by decide +kernel
theorem d_SortedRow_within_1 : decode prog_8_method_6_code 1 = .ok (.aload_n 0, 1) := by decide +kernel
theorem d_SortedRow_within_2 : decode prog_8_method_6_code 2 = .ok (.lload_n 3, 1) := by decide +kernel
theorem d_SortedRow_within_3 : decode prog_8_method_6_code 3 = .ok (.lconst 1, 1) := by decide +kernel
theorem d_SortedRow_within_4 : decode prog_8_method_6_code 4 = .ok (.ladd, 1) := by decide +kernel
theorem d_SortedRow_within_5 : decode prog_8_method_6_code 5 = .ok (.invokevirtual 17, 3) := by decide +kernel
theorem d_SortedRow_within_8 : decode prog_8_method_6_code 8 = .ok (.aload_n 0, 1) := by decide +kernel
theorem d_SortedRow_within_9 : decode prog_8_method_6_code 9 = .ok (.lload_n 1, 1) := by decide +kernel
theorem d_SortedRow_within_10 : decode prog_8_method_6_code 10 = .ok (.invokevirtual 17, 3) := by decide +kernel
theorem d_SortedRow_within_13 : decode prog_8_method_6_code 13 = .ok (.isub, 1) := by decide +kernel
theorem d_SortedRow_within_14 : decode prog_8_method_6_code 14 = .ok (.invokestatic 33, 3) := by decide +kernel
theorem d_SortedRow_within_17 : decode prog_8_method_6_code 17 = .ok (.ireturn, 1) := by decide +kernel
theorem d_SortedRow_sum_0 : decode prog_8_method_7_code 0 = .ok (.lconst 0, 1) := by decide +kernel
theorem d_SortedRow_sum_1 : decode prog_8_method_7_code 1 = .ok (.lstore_n 3, 1) := by decide +kernel
theorem d_SortedRow_sum_2 : decode prog_8_method_7_code 2 = .ok (.iload_n 1, 1) := by decide +kernel
theorem d_SortedRow_sum_3 : decode prog_8_method_7_code 3 = .ok (.istore 5, 2) := by decide +kernel
theorem d_SortedRow_sum_5 : decode prog_8_method_7_code 5 = .ok (.iload 5, 2) := by decide +kernel
theorem d_SortedRow_sum_7 : decode prog_8_method_7_code 7 = .ok (.iload_n 2, 1) := by decide +kernel
theorem d_SortedRow_sum_8 : decode prog_8_method_7_code 8 = .ok (.if_icmp .ge 19, 3) := by decide +kernel
theorem d_SortedRow_sum_11 : decode prog_8_method_7_code 11 = .ok (.lload_n 3, 1) := by decide +kernel
theorem d_SortedRow_sum_12 : decode prog_8_method_7_code 12 = .ok (.aload_n 0, 1) := by decide +kernel
theorem d_SortedRow_sum_13 : decode prog_8_method_7_code 13 = .ok (.iload 5, 2) := by decide +kernel
theorem d_SortedRow_sum_15 : decode prog_8_method_7_code 15 = .ok (.invokevirtual 36, 3) := by decide +kernel
theorem d_SortedRow_sum_18 : decode prog_8_method_7_code 18 = .ok (.i2l, 1) := by decide +kernel
theorem d_SortedRow_sum_19 : decode prog_8_method_7_code 19 = .ok (.ladd, 1) := by decide +kernel
theorem d_SortedRow_sum_20 : decode prog_8_method_7_code 20 = .ok (.lstore_n 3, 1) := by decide +kernel
theorem d_SortedRow_sum_21 : decode prog_8_method_7_code 21 = .ok (.iinc 5 1, 3) := by decide +kernel
theorem d_SortedRow_sum_24 : decode prog_8_method_7_code 24 = .ok (.goto (-19), 3) := by decide +kernel
theorem d_SortedRow_sum_27 : decode prog_8_method_7_code 27 = .ok (.lload_n 3, 1) := by decide +kernel
theorem d_SortedRow_sum_28 : decode prog_8_method_7_code 28 = .ok (.lreturn, 1) := by decide +kernel
