theorem d_H_init_0 : decode prog_1_method_1_code 0 = .ok (.aload_n 0, 1) := by decide +kernel
theorem d_H_init_1 : decode prog_1_method_1_code 1 = .ok (.invokespecial 3, 3) := by decide +kernel
theorem d_H_init_4 : decode prog_1_method_1_code 4 = .ok (.aload_n 0, 1) := by decide +kernel
theorem d_H_init_5 : decode prog_1_method_1_code 5 = .ok (.bipush 8, 2) := by decide +kernel
theorem d_H_init_7 : decode prog_1_method_1_code 7 = .ok (.anewarray 9, 3) := by decide +kernel
theorem d_H_init_10 : decode prog_1_method_1_code 10 = .ok (.putfield 11, 3) := by decide +kernel
theorem d_H_init_13 : decode prog_1_method_1_code 13 = .ok (.iconst 0, 1) := by decide +kernel
theorem d_H_init_14 : decode prog_1_method_1_code 14 = .ok (.istore_n 1, 1) := by decide +kernel
theorem d_H_init_15 : decode prog_1_method_1_code 15 = .ok (.iload_n 1, 1) := by decide +kernel
theorem d_H_init_16 : decode prog_1_method_1_code 16 = .ok (.bipush 8, 2) := by decide +kernel
theorem d_H_init_18 : decode prog_1_method_1_code 18 = .ok (.if_icmp .ge 22, 3) := by decide +kernel
theorem d_H_init_21 : decode prog_1_method_1_code 21 = .ok (.aload_n 0, 1) := by decide +kernel
theorem d_H_init_22 : decode prog_1_method_1_code 22 = .ok (.getfield 11, 3) := by decide +kernel
theorem d_H_init_25 : decode prog_1_method_1_code 25 = .ok (.iload_n 1, 1) := by decide +kernel
theorem d_H_init_26 : decode prog_1_method_1_code 26 = .ok (.new 9, 3) := by decide +kernel
theorem d_H_init_29 : decode prog_1_method_1_code 29 = .ok (.dup, 1) := by decide +kernel
theorem d_H_init_30 : decode prog_1_method_1_code 30 = .ok (.invokespecial 15, 3) := by decide +kernel
theorem d_H_init_33 : decode prog_1_method_1_code 33 = .ok (.aastore, 1) := by decide +kernel
theorem d_H_init_34 : decode prog_1_method_1_code 34 = .ok (.iinc 1 1, 3) := by decide +kernel
theorem d_H_init_37 : decode prog_1_method_1_code 37 = .ok (.goto (-22), 3) := by decide +kernel
theorem d_H_init_40 : decode prog_1_method_1_code 40 = .ok (.aload_n 0, 1) := by decide +kernel
theorem d_H_init_41 : decode prog_1_method_1_code 41 = .ok (.bipush 8, 2) := by decide +kernel
theorem d_H_init_43 : decode prog_1_method_1_code 43 = .ok (.anewarray 16, 3) := by decide +kernel
theorem d_H_init_46 : decode prog_1_method_1_code 46 = .ok (.putfield 18, 3) := by decide +kernel
theorem d_H_init_49 : decode prog_1_method_1_code 49 = .ok (.aload_n 0, 1) := by decide +kernel
theorem d_H_init_50 : decode prog_1_method_1_code 50 = .ok (.new 22, 3) := by decide +kernel
theorem d_H_init_53 : decode prog_1_method_1_code 53 = .ok (.dup, 1) := by decide +kernel
theorem d_H_init_54 : decode prog_1_method_1_code 54 = .ok (.invokespecial 24, 3) := by decide +kernel
theorem d_H_init_57 : decode prog_1_method_1_code 57 = .ok (.putfield 25, 3) := by decide +kernel
theorem d_H_init_60 : decode prog_1_method_1_code 60 = .ok (.return_, 1) := by decide +kernel
theorem d_H_record_0 : decode prog_1_method_2_code 0 = .ok (.aload_n 0, 1) := by decide +kernel
theorem d_H_record_1 : decode prog_1_method_2_code 1 = .ok (.iload_n 1, 1) := by decide +kernel
theorem d_H_record_2 : decode prog_1_method_2_code 2 = .ok (.invokevirtual 29, 3) := by decide +kernel
theorem d_H_record_5 : decode prog_1_method_2_code 5 = .ok (.astore_n 3, 1) := by decide +kernel
theorem d_H_record_6 : decode prog_1_method_2_code 6 = .ok (.aload_n 3, 1) := by decide +kernel
theorem d_H_record_7 : decode prog_1_method_2_code 7 = .ok (.iconst 1, 1) := by decide +kernel
theorem d_H_record_8 : decode prog_1_method_2_code 8 = .ok (.invokestatic 33, 3) := by decide +kernel
theorem d_H_record_11 : decode prog_1_method_2_code 11 = .ok (.aload_n 3, 1) := by decide +kernel
theorem d_H_record_12 : decode prog_1_method_2_code 12 = .ok (.getfield 37, 3) := by decide +kernel
theorem d_H_record_15 : decode prog_1_method_2_code 15 = .ok (.iload_n 2, 1) := by decide +kernel
theorem d_H_record_16 : decode prog_1_method_2_code 16 = .ok (.invokevirtual 41, 3) := by decide +kernel
theorem d_H_record_19 : decode prog_1_method_2_code 19 = .ok (.aload_n 3, 1) := by decide +kernel
theorem d_H_record_20 : decode prog_1_method_2_code 20 = .ok (.getfield 37, 3) := by decide +kernel
theorem d_H_record_23 : decode prog_1_method_2_code 23 = .ok (.getfield 47, 3) := by decide +kernel
theorem d_H_record_26 : decode prog_1_method_2_code 26 = .ok (.ireturn, 1) := by decide +kernel
theorem d_H_fill_0 : decode prog_1_method_3_code 0 = .ok (.aload_n 0, 1) := by decide +kernel
theorem d_H_fill_1 : decode prog_1_method_3_code 1 = .ok (.iload_n 1, 1) := by decide +kernel
theorem d_H_fill_2 : decode prog_1_method_3_code 2 = .ok (.invokevirtual 29, 3) := by decide +kernel
theorem d_H_fill_5 : decode prog_1_method_3_code 5 = .ok (.astore 6, 2) := by decide +kernel
theorem d_H_fill_7 : decode prog_1_method_3_code 7 = .ok (.iload_n 2, 1) := by decide +kernel
theorem d_H_fill_8 : decode prog_1_method_3_code 8 = .ok (.ifCond .lt 10, 3) := by decide +kernel
theorem d_H_fill_11 : decode prog_1_method_3_code 11 = .ok (.iload_n 2, 1) := by decide +kernel
theorem d_H_fill_12 : decode prog_1_method_3_code 12 = .ok (.sipush 500, 3) := by decide +kernel
theorem d_H_fill_15 : decode prog_1_method_3_code 15 = .ok (.if_icmp .le 13, 3) := by decide +kernel
theorem d_H_fill_18 : decode prog_1_method_3_code 18 = .ok (.new 51, 3) := by decide +kernel
theorem d_H_fill_21 : decode prog_1_method_3_code 21 = .ok (.dup, 1) := by decide +kernel
theorem d_H_fill_22 : decode prog_1_method_3_code 22 = .ok (.ldc 53, 2) := by decide +kernel
theorem d_H_fill_24 : decode prog_1_method_3_code 24 = .ok (.invokespecial 55, 3) := by decide +kernel
theorem d_H_fill_27 : decode prog_1_method_3_code 27 = .ok (.athrow, 1) := by decide +kernel
theorem d_H_fill_28 : decode prog_1_method_3_code 28 = .ok (.aload 6, 2) := by decide +kernel
theorem d_H_fill_30 : decode prog_1_method_3_code 30 = .ok (.iload_n 2, 1) := by decide +kernel
theorem d_H_fill_31 : decode prog_1_method_3_code 31 = .ok (.invokestatic 33, 3) := by decide +kernel
theorem d_H_fill_34 : decode prog_1_method_3_code 34 = .ok (.iconst 0, 1) := by decide +kernel
theorem d_H_fill_35 : decode prog_1_method_3_code 35 = .ok (.istore 7, 2) := by decide +kernel
theorem d_H_fill_37 : decode prog_1_method_3_code 37 = .ok (.iload 7, 2) := by decide +kernel
theorem d_H_fill_39 : decode prog_1_method_3_code 39 = .ok (.iload_n 2, 1) := by decide +kernel
theorem d_H_fill_40 : decode prog_1_method_3_code 40 = .ok (.if_icmp .ge 33, 3) := by decide +kernel
theorem d_H_fill_43 : decode prog_1_method_3_code 43 = .ok (.aload 6, 2) := by decide +kernel
theorem d_H_fill_45 : decode prog_1_method_3_code 45 = .ok (.getfield 37, 3) := by decide +kernel
theorem d_H_fill_48 : decode prog_1_method_3_code 48 = .ok (.iload_n 3, 1) := by decide +kernel
theorem d_H_fill_49 : decode prog_1_method_3_code 49 = .ok (.iload 7, 2) := by decide +kernel
theorem d_H_fill_51 : decode prog_1_method_3_code 51 = .ok (.iload 4, 2) := by decide +kernel
theorem d_H_fill_53 : decode prog_1_method_3_code 53 = .ok (.imul, 1) := by decide +kernel
theorem d_H_fill_54 : decode prog_1_method_3_code 54 = .ok (.iadd, 1) := by decide +kernel
theorem d_H_fill_55 : decode prog_1_method_3_code 55 = .ok (.iload 7, 2) := by decide +kernel
theorem d_H_fill_57 : decode prog_1_method_3_code 57 = .ok (.ldc 58, 2) := by decide +kernel
theorem d_H_fill_59 : decode prog_1_method_3_code 59 = .ok (.imul, 1) := by decide +kernel
theorem d_H_fill_60 : decode prog_1_method_3_code 60 = .ok (.iload 5, 2) := by decide +kernel
theorem d_H_fill_62 : decode prog_1_method_3_code 62 = .ok (.iand, 1) := by decide +kernel
theorem d_H_fill_63 : decode prog_1_method_3_code 63 = .ok (.ixor, 1) := by decide +kernel
theorem d_H_fill_64 : decode prog_1_method_3_code 64 = .ok (.invokevirtual 41, 3) := by decide +kernel
theorem d_H_fill_67 : decode prog_1_method_3_code 67 = .ok (.iinc 7 1, 3) := by decide +kernel
theorem d_H_fill_70 : decode prog_1_method_3_code 70 = .ok (.goto (-33), 3) := by decide +kernel
theorem d_H_fill_73 : decode prog_1_method_3_code 73 = .ok (.aload 6, 2) := by decide +kernel
theorem d_H_fill_75 : decode prog_1_method_3_code 75 = .ok (.getfield 37, 3) := by decide +kernel
theorem d_H_fill_78 : decode prog_1_method_3_code 78 = .ok (.getfield 47, 3) := by decide +kernel
theorem d_H_fill_81 : decode prog_1_method_3_code 81 = .ok (.ireturn, 1) := by decide +kernel
theorem d_H_size_0 : decode prog_1_method_4_code 0 = .ok (.aload_n 0, 1) := by decide +kernel
theorem d_H_size_1 : decode prog_1_method_4_code 1 = .ok (.iload_n 1, 1) := by decide +kernel
theorem d_H_size_2 : decode prog_1_method_4_code 2 = .ok (.invokevirtual 29, 3) := by decide +kernel
theorem d_H_size_5 : decode prog_1_method_4_code 5 = .ok (.getfield 37, 3) := by decide +kernel
theorem d_H_size_8 : decode prog_1_method_4_code 8 = .ok (.getfield 47, 3) := by decide +kernel
theorem d_H_size_11 : decode prog_1_method_4_code 11 = .ok (.ireturn, 1) := by decide +kernel
theorem d_H_ask_0 : decode prog_1_method_5_code 0 = .ok (.aload_n 0, 1) := by decide +kernel
theorem d_H_ask_1 : decode prog_1_method_5_code 1 = .ok (.iload_n 1, 1) := by decide +kernel
theorem d_H_ask_2 : decode prog_1_method_5_code 2 = .ok (.invokevirtual 29, 3) := by decide +kernel
theorem d_H_ask_5 : decode prog_1_method_5_code 5 = .ok (.astore 5, 2) := by decide +kernel
theorem d_H_ask_7 : decode prog_1_method_5_code 7 = .ok (.iload_n 2, 1) := by decide +kernel
theorem d_H_ask_8 : decode prog_1_method_5_code 8 = .ok (.iload_n 3, 1) := by decide +kernel
theorem d_H_ask_9 : decode prog_1_method_5_code 9 = .ok (.invokestatic 59, 3) := by decide +kernel
theorem d_H_ask_12 : decode prog_1_method_5_code 12 = .ok (.ifCond .ne 13, 3) := by decide +kernel
theorem d_H_ask_15 : decode prog_1_method_5_code 15 = .ok (.new 51, 3) := by decide +kernel
theorem d_H_ask_18 : decode prog_1_method_5_code 18 = .ok (.dup, 1) := by decide +kernel
theorem d_H_ask_19 : decode prog_1_method_5_code 19 = .ok (.ldc 63, 2) := by decide +kernel
theorem d_H_ask_21 : decode prog_1_method_5_code 21 = .ok (.invokespecial 55, 3) := by decide +kernel
theorem d_H_ask_24 : decode prog_1_method_5_code 24 = .ok (.athrow, 1) := by decide +kernel
theorem d_H_ask_25 : decode prog_1_method_5_code 25 = .ok (.aload 5, 2) := by decide +kernel
theorem d_H_ask_27 : decode prog_1_method_5_code 27 = .ok (.invokestatic 65, 3) := by decide +kernel
theorem d_H_ask_30 : decode prog_1_method_5_code 30 = .ok (.aload_n 0, 1) := by decide +kernel
theorem d_H_ask_31 : decode prog_1_method_5_code 31 = .ok (.invokevirtual 69, 3) := by decide +kernel
theorem d_H_ask_34 : decode prog_1_method_5_code 34 = .ok (.astore 6, 2) := by decide +kernel
theorem d_H_ask_36 : decode prog_1_method_5_code 36 = .ok (.aload_n 0, 1) := by decide +kernel
theorem d_H_ask_37 : decode prog_1_method_5_code 37 = .ok (.dup, 1) := by decide +kernel
theorem d_H_ask_38 : decode prog_1_method_5_code 38 = .ok (.getfield 73, 3) := by decide +kernel
theorem d_H_ask_41 : decode prog_1_method_5_code 41 = .ok (.iconst 1, 1) := by decide +kernel
theorem d_H_ask_42 : decode prog_1_method_5_code 42 = .ok (.iadd, 1) := by decide +kernel
theorem d_H_ask_43 : decode prog_1_method_5_code 43 = .ok (.putfield 73, 3) := by decide +kernel
theorem d_H_ask_46 : decode prog_1_method_5_code 46 = .ok (.aload 6, 2) := by decide +kernel
theorem d_H_ask_48 : decode prog_1_method_5_code 48 = .ok (.aload_n 0, 1) := by decide +kernel
theorem d_H_ask_49 : decode prog_1_method_5_code 49 = .ok (.getfield 73, 3) := by decide +kernel
theorem d_H_ask_52 : decode prog_1_method_5_code 52 = .ok (.iload_n 2, 1) := by decide +kernel
theorem d_H_ask_53 : decode prog_1_method_5_code 53 = .ok (.iload_n 3, 1) := by decide +kernel
theorem d_H_ask_54 : decode prog_1_method_5_code 54 = .ok (.iload 4, 2) := by decide +kernel
theorem d_H_ask_56 : decode prog_1_method_5_code 56 = .ok (.invokevirtual 76, 3) := by decide +kernel
theorem d_H_ask_59 : decode prog_1_method_5_code 59 = .ok (.aload 6, 2) := by decide +kernel
theorem d_H_ask_61 : decode prog_1_method_5_code 61 = .ok (.iload_n 1, 1) := by decide +kernel
theorem d_H_ask_62 : decode prog_1_method_5_code 62 = .ok (.invokevirtual 80, 3) := by decide +kernel
theorem d_H_ask_65 : decode prog_1_method_5_code 65 = .ok (.aload_n 0, 1) := by decide +kernel
theorem d_H_ask_66 : decode prog_1_method_5_code 66 = .ok (.aload 6, 2) := by decide +kernel
theorem d_H_ask_68 : decode prog_1_method_5_code 68 = .ok (.invokevirtual 83, 3) := by decide +kernel
theorem d_H_ask_71 : decode prog_1_method_5_code 71 = .ok (.aload_n 0, 1) := by decide +kernel
theorem d_H_ask_72 : decode prog_1_method_5_code 72 = .ok (.getfield 73, 3) := by decide +kernel
theorem d_H_ask_75 : decode prog_1_method_5_code 75 = .ok (.ireturn, 1) := by decide +kernel
theorem d_H_letters_0 : decode prog_1_method_6_code 0 = .ok (.aload_n 0, 1) := by decide +kernel
theorem d_H_letters_1 : decode prog_1_method_6_code 1 = .ok (.getfield 25, 3) := by decide +kernel
theorem d_H_letters_4 : decode prog_1_method_6_code 4 = .ok (.getfield 87, 3) := by decide +kernel
theorem d_H_letters_7 : decode prog_1_method_6_code 7 = .ok (.ireturn, 1) := by decide +kernel
theorem d_H_letter_0 : decode prog_1_method_7_code 0 = .ok (.aload_n 0, 1) := by decide +kernel
theorem d_H_letter_1 : decode prog_1_method_7_code 1 = .ok (.iload_n 1, 1) := by decide +kernel
theorem d_H_letter_2 : decode prog_1_method_7_code 2 = .ok (.invokevirtual 90, 3) := by decide +kernel
theorem d_H_letter_5 : decode prog_1_method_7_code 5 = .ok (.iload_n 2, 1) := by decide +kernel
theorem d_H_letter_6 : decode prog_1_method_7_code 6 = .ok (.ifCond .lt 9, 3) := by decide +kernel
theorem d_H_letter_9 : decode prog_1_method_7_code 9 = .ok (.iload_n 2, 1) := by decide +kernel
theorem d_H_letter_10 : decode prog_1_method_7_code 10 = .ok (.bipush 70, 2) := by decide +kernel
theorem d_H_letter_12 : decode prog_1_method_7_code 12 = .ok (.if_icmp .le 13, 3) := by decide +kernel
theorem d_H_letter_15 : decode prog_1_method_7_code 15 = .ok (.new 51, 3) := by decide +kernel
theorem d_H_letter_18 : decode prog_1_method_7_code 18 = .ok (.dup, 1) := by decide +kernel
theorem d_H_letter_19 : decode prog_1_method_7_code 19 = .ok (.ldc 93, 2) := by decide +kernel
theorem d_H_letter_21 : decode prog_1_method_7_code 21 = .ok (.invokespecial 55, 3) := by decide +kernel
theorem d_H_letter_24 : decode prog_1_method_7_code 24 = .ok (.athrow, 1) := by decide +kernel
theorem d_H_letter_25 : decode prog_1_method_7_code 25 = .ok (.aload_n 0, 1) := by decide +kernel
theorem d_H_letter_26 : decode prog_1_method_7_code 26 = .ok (.getfield 25, 3) := by decide +kernel
theorem d_H_letter_29 : decode prog_1_method_7_code 29 = .ok (.iload_n 1, 1) := by decide +kernel
theorem d_H_letter_30 : decode prog_1_method_7_code 30 = .ok (.invokevirtual 95, 3) := by decide +kernel
theorem d_H_letter_33 : decode prog_1_method_7_code 33 = .ok (.iload_n 2, 1) := by decide +kernel
theorem d_H_letter_34 : decode prog_1_method_7_code 34 = .ok (.invokevirtual 99, 3) := by decide +kernel
theorem d_H_letter_37 : decode prog_1_method_7_code 37 = .ok (.ireturn, 1) := by decide +kernel
theorem d_H_deliver_0 : decode prog_1_method_8_code 0 = .ok (.aload_n 0, 1) := by decide +kernel
theorem d_H_deliver_1 : decode prog_1_method_8_code 1 = .ok (.iload_n 1, 1) := by decide +kernel
theorem d_H_deliver_2 : decode prog_1_method_8_code 2 = .ok (.invokevirtual 90, 3) := by decide +kernel
theorem d_H_deliver_5 : decode prog_1_method_8_code 5 = .ok (.aload_n 0, 1) := by decide +kernel
theorem d_H_deliver_6 : decode prog_1_method_8_code 6 = .ok (.aload_n 0, 1) := by decide +kernel
theorem d_H_deliver_7 : decode prog_1_method_8_code 7 = .ok (.getfield 25, 3) := by decide +kernel
theorem d_H_deliver_10 : decode prog_1_method_8_code 10 = .ok (.iload_n 1, 1) := by decide +kernel
theorem d_H_deliver_11 : decode prog_1_method_8_code 11 = .ok (.invokevirtual 105, 3) := by decide +kernel
theorem d_H_deliver_14 : decode prog_1_method_8_code 14 = .ok (.invokevirtual 108, 3) := by decide +kernel
theorem d_H_deliver_17 : decode prog_1_method_8_code 17 = .ok (.aload_n 0, 1) := by decide +kernel
theorem d_H_deliver_18 : decode prog_1_method_8_code 18 = .ok (.getfield 25, 3) := by decide +kernel
theorem d_H_deliver_21 : decode prog_1_method_8_code 21 = .ok (.getfield 87, 3) := by decide +kernel
theorem d_H_deliver_24 : decode prog_1_method_8_code 24 = .ok (.ireturn, 1) := by decide +kernel
theorem d_H_lose_0 : decode prog_1_method_9_code 0 = .ok (.aload_n 0, 1) := by decide +kernel
theorem d_H_lose_1 : decode prog_1_method_9_code 1 = .ok (.iload_n 1, 1) := by decide +kernel
theorem d_H_lose_2 : decode prog_1_method_9_code 2 = .ok (.invokevirtual 90, 3) := by decide +kernel
theorem d_H_lose_5 : decode prog_1_method_9_code 5 = .ok (.aload_n 0, 1) := by decide +kernel
theorem d_H_lose_6 : decode prog_1_method_9_code 6 = .ok (.getfield 25, 3) := by decide +kernel
theorem d_H_lose_9 : decode prog_1_method_9_code 9 = .ok (.iload_n 1, 1) := by decide +kernel
theorem d_H_lose_10 : decode prog_1_method_9_code 10 = .ok (.invokevirtual 105, 3) := by decide +kernel
theorem d_H_lose_13 : decode prog_1_method_9_code 13 = .ok (.pop, 1) := by decide +kernel
theorem d_H_lose_14 : decode prog_1_method_9_code 14 = .ok (.aload_n 0, 1) := by decide +kernel
theorem d_H_lose_15 : decode prog_1_method_9_code 15 = .ok (.getfield 25, 3) := by decide +kernel
theorem d_H_lose_18 : decode prog_1_method_9_code 18 = .ok (.getfield 87, 3) := by decide +kernel
theorem d_H_lose_21 : decode prog_1_method_9_code 21 = .ok (.ireturn, 1) := by decide +kernel
theorem d_H_twin_0 : decode prog_1_method_10_code 0 = .ok (.aload_n 0, 1) := by decide +kernel
theorem d_H_twin_1 : decode prog_1_method_10_code 1 = .ok (.iload_n 1, 1) := by decide +kernel
theorem d_H_twin_2 : decode prog_1_method_10_code 2 = .ok (.invokevirtual 90, 3) := by decide +kernel
theorem d_H_twin_5 : decode prog_1_method_10_code 5 = .ok (.aload_n 0, 1) := by decide +kernel
theorem d_H_twin_6 : decode prog_1_method_10_code 6 = .ok (.getfield 25, 3) := by decide +kernel
theorem d_H_twin_9 : decode prog_1_method_10_code 9 = .ok (.invokevirtual 112, 3) := by decide +kernel
theorem d_H_twin_12 : decode prog_1_method_10_code 12 = .ok (.astore_n 2, 1) := by decide +kernel
theorem d_H_twin_13 : decode prog_1_method_10_code 13 = .ok (.aload_n 2, 1) := by decide +kernel
theorem d_H_twin_14 : decode prog_1_method_10_code 14 = .ok (.ifnonnull 5, 3) := by decide +kernel
theorem d_H_twin_17 : decode prog_1_method_10_code 17 = .ok (.iconst 0, 1) := by decide +kernel
theorem d_H_twin_18 : decode prog_1_method_10_code 18 = .ok (.ireturn, 1) := by decide +kernel
theorem d_H_twin_19 : decode prog_1_method_10_code 19 = .ok (.aload_n 2, 1) := by decide +kernel
theorem d_H_twin_20 : decode prog_1_method_10_code 20 = .ok (.aload_n 0, 1) := by decide +kernel
theorem d_H_twin_21 : decode prog_1_method_10_code 21 = .ok (.getfield 25, 3) := by decide +kernel
theorem d_H_twin_24 : decode prog_1_method_10_code 24 = .ok (.iload_n 1, 1) := by decide +kernel
theorem d_H_twin_25 : decode prog_1_method_10_code 25 = .ok (.invokevirtual 95, 3) := by decide +kernel
theorem d_H_twin_28 : decode prog_1_method_10_code 28 = .ok (.invokevirtual 116, 3) := by decide +kernel
theorem d_H_twin_31 : decode prog_1_method_10_code 31 = .ok (.iconst 1, 1) := by decide +kernel
theorem d_H_twin_32 : decode prog_1_method_10_code 32 = .ok (.ireturn, 1) := by decide +kernel
theorem d_H_run_0 : decode prog_1_method_11_code 0 = .ok (.iload_n 1, 1) := by decide +kernel
theorem d_H_run_1 : decode prog_1_method_11_code 1 = .ok (.ifCond .lt 10, 3) := by decide +kernel
theorem d_H_run_4 : decode prog_1_method_11_code 4 = .ok (.iload_n 1, 1) := by decide +kernel
theorem d_H_run_5 : decode prog_1_method_11_code 5 = .ok (.sipush 1000, 3) := by decide +kernel
theorem d_H_run_8 : decode prog_1_method_11_code 8 = .ok (.if_icmp .le 13, 3) := by decide +kernel
theorem d_H_run_11 : decode prog_1_method_11_code 11 = .ok (.new 51, 3) := by decide +kernel
theorem d_H_run_14 : decode prog_1_method_11_code 14 = .ok (.dup, 1) := by decide +kernel
theorem d_H_run_15 : decode prog_1_method_11_code 15 = .ok (.ldc 119, 2) := by decide +kernel
theorem d_H_run_17 : decode prog_1_method_11_code 17 = .ok (.invokespecial 55, 3) := by decide +kernel
theorem d_H_run_20 : decode prog_1_method_11_code 20 = .ok (.athrow, 1) := by decide +kernel
theorem d_H_run_21 : decode prog_1_method_11_code 21 = .ok (.iconst 0, 1) := by decide +kernel
theorem d_H_run_22 : decode prog_1_method_11_code 22 = .ok (.istore_n 2, 1) := by decide +kernel
theorem d_H_run_23 : decode prog_1_method_11_code 23 = .ok (.iload_n 2, 1) := by decide +kernel
theorem d_H_run_24 : decode prog_1_method_11_code 24 = .ok (.iload_n 1, 1) := by decide +kernel
theorem d_H_run_25 : decode prog_1_method_11_code 25 = .ok (.if_icmp .ge 31, 3) := by decide +kernel
theorem d_H_run_28 : decode prog_1_method_11_code 28 = .ok (.aload_n 0, 1) := by decide +kernel
theorem d_H_run_29 : decode prog_1_method_11_code 29 = .ok (.getfield 25, 3) := by decide +kernel
theorem d_H_run_32 : decode prog_1_method_11_code 32 = .ok (.getfield 87, 3) := by decide +kernel
theorem d_H_run_35 : decode prog_1_method_11_code 35 = .ok (.ifCond .le 21, 3) := by decide +kernel
theorem d_H_run_38 : decode prog_1_method_11_code 38 = .ok (.aload_n 0, 1) := by decide +kernel
theorem d_H_run_39 : decode prog_1_method_11_code 39 = .ok (.aload_n 0, 1) := by decide +kernel
theorem d_H_run_40 : decode prog_1_method_11_code 40 = .ok (.getfield 25, 3) := by decide +kernel
theorem d_H_run_43 : decode prog_1_method_11_code 43 = .ok (.iconst 0, 1) := by decide +kernel
theorem d_H_run_44 : decode prog_1_method_11_code 44 = .ok (.invokevirtual 105, 3) := by decide +kernel
theorem d_H_run_47 : decode prog_1_method_11_code 47 = .ok (.invokevirtual 108, 3) := by decide +kernel
theorem d_H_run_50 : decode prog_1_method_11_code 50 = .ok (.iinc 2 1, 3) := by decide +kernel
theorem d_H_run_53 : decode prog_1_method_11_code 53 = .ok (.goto (-30), 3) := by decide +kernel
theorem d_H_run_56 : decode prog_1_method_11_code 56 = .ok (.iload_n 2, 1) := by decide +kernel
theorem d_H_run_57 : decode prog_1_method_11_code 57 = .ok (.ireturn, 1) := by decide +kernel
theorem d_H_resend_0 : decode prog_1_method_12_code 0 = .ok (.aload_n 0, 1) := by decide +kernel
theorem d_H_resend_1 : decode prog_1_method_12_code 1 = .ok (.iload_n 1, 1) := by decide +kernel
theorem d_H_resend_2 : decode prog_1_method_12_code 2 = .ok (.invokevirtual 121, 3) := by decide +kernel
theorem d_H_resend_5 : decode prog_1_method_12_code 5 = .ok (.astore_n 2, 1) := by decide +kernel
theorem d_H_resend_6 : decode prog_1_method_12_code 6 = .ok (.aload_n 2, 1) := by decide +kernel
theorem d_H_resend_7 : decode prog_1_method_12_code 7 = .ok (.getfield 125, 3) := by decide +kernel
theorem d_H_resend_10 : decode prog_1_method_12_code 10 = .ok (.ifCond .eq 13, 3) := by decide +kernel
theorem d_H_resend_13 : decode prog_1_method_12_code 13 = .ok (.new 128, 3) := by decide +kernel
theorem d_H_resend_16 : decode prog_1_method_12_code 16 = .ok (.dup, 1) := by decide +kernel
theorem d_H_resend_17 : decode prog_1_method_12_code 17 = .ok (.ldc 130, 2) := by decide +kernel
theorem d_H_resend_19 : decode prog_1_method_12_code 19 = .ok (.invokespecial 132, 3) := by decide +kernel
theorem d_H_resend_22 : decode prog_1_method_12_code 22 = .ok (.athrow, 1) := by decide +kernel
theorem d_H_resend_23 : decode prog_1_method_12_code 23 = .ok (.aload_n 0, 1) := by decide +kernel
theorem d_H_resend_24 : decode prog_1_method_12_code 24 = .ok (.aload_n 2, 1) := by decide +kernel
theorem d_H_resend_25 : decode prog_1_method_12_code 25 = .ok (.invokevirtual 133, 3) := by decide +kernel
theorem d_H_resend_28 : decode prog_1_method_12_code 28 = .ok (.ireturn, 1) := by decide +kernel
theorem d_H_takeOver_0 : decode prog_1_method_13_code 0 = .ok (.aload_n 0, 1) := by decide +kernel
theorem d_H_takeOver_1 : decode prog_1_method_13_code 1 = .ok (.iload_n 1, 1) := by decide +kernel
theorem d_H_takeOver_2 : decode prog_1_method_13_code 2 = .ok (.invokevirtual 121, 3) := by decide +kernel
theorem d_H_takeOver_5 : decode prog_1_method_13_code 5 = .ok (.astore_n 3, 1) := by decide +kernel
theorem d_H_takeOver_6 : decode prog_1_method_13_code 6 = .ok (.aload_n 0, 1) := by decide +kernel
theorem d_H_takeOver_7 : decode prog_1_method_13_code 7 = .ok (.iload_n 2, 1) := by decide +kernel
theorem d_H_takeOver_8 : decode prog_1_method_13_code 8 = .ok (.invokevirtual 29, 3) := by decide +kernel
theorem d_H_takeOver_11 : decode prog_1_method_13_code 11 = .ok (.invokestatic 65, 3) := by decide +kernel
theorem d_H_takeOver_14 : decode prog_1_method_13_code 14 = .ok (.aload_n 3, 1) := by decide +kernel
theorem d_H_takeOver_15 : decode prog_1_method_13_code 15 = .ok (.getfield 125, 3) := by decide +kernel
theorem d_H_takeOver_18 : decode prog_1_method_13_code 18 = .ok (.ifCond .eq 21, 3) := by decide +kernel
theorem d_H_takeOver_21 : decode prog_1_method_13_code 21 = .ok (.aload_n 3, 1) := by decide +kernel
theorem d_H_takeOver_22 : decode prog_1_method_13_code 22 = .ok (.getfield 125, 3) := by decide +kernel
theorem d_H_takeOver_25 : decode prog_1_method_13_code 25 = .ok (.iconst 3, 1) := by decide +kernel
theorem d_H_takeOver_26 : decode prog_1_method_13_code 26 = .ok (.if_icmp .eq 13, 3) := by decide +kernel
theorem d_H_takeOver_29 : decode prog_1_method_13_code 29 = .ok (.new 128, 3) := by decide +kernel
theorem d_H_takeOver_32 : decode prog_1_method_13_code 32 = .ok (.dup, 1) := by decide +kernel
theorem d_H_takeOver_33 : decode prog_1_method_13_code 33 = .ok (.ldc 137, 2) := by decide +kernel
theorem d_H_takeOver_35 : decode prog_1_method_13_code 35 = .ok (.invokespecial 132, 3) := by decide +kernel
theorem d_H_takeOver_38 : decode prog_1_method_13_code 38 = .ok (.athrow, 1) := by decide +kernel
theorem d_H_takeOver_39 : decode prog_1_method_13_code 39 = .ok (.aload_n 3, 1) := by decide +kernel
theorem d_H_takeOver_40 : decode prog_1_method_13_code 40 = .ok (.iload_n 2, 1) := by decide +kernel
theorem d_H_takeOver_41 : decode prog_1_method_13_code 41 = .ok (.invokevirtual 80, 3) := by decide +kernel
theorem d_H_takeOver_44 : decode prog_1_method_13_code 44 = .ok (.aload_n 0, 1) := by decide +kernel
theorem d_H_takeOver_45 : decode prog_1_method_13_code 45 = .ok (.aload_n 3, 1) := by decide +kernel
theorem d_H_takeOver_46 : decode prog_1_method_13_code 46 = .ok (.invokevirtual 83, 3) := by decide +kernel
theorem d_H_takeOver_49 : decode prog_1_method_13_code 49 = .ok (.aload_n 3, 1) := by decide +kernel
theorem d_H_takeOver_50 : decode prog_1_method_13_code 50 = .ok (.getfield 139, 3) := by decide +kernel
theorem d_H_takeOver_53 : decode prog_1_method_13_code 53 = .ok (.ireturn, 1) := by decide +kernel
theorem d_H_crash_0 : decode prog_1_method_14_code 0 = .ok (.aload_n 0, 1) := by decide +kernel
theorem d_H_crash_1 : decode prog_1_method_14_code 1 = .ok (.iload_n 1, 1) := by decide +kernel
theorem d_H_crash_2 : decode prog_1_method_14_code 2 = .ok (.invokevirtual 29, 3) := by decide +kernel
theorem d_H_crash_5 : decode prog_1_method_14_code 5 = .ok (.iconst 0, 1) := by decide +kernel
theorem d_H_crash_6 : decode prog_1_method_14_code 6 = .ok (.putfield 142, 3) := by decide +kernel
theorem d_H_crash_9 : decode prog_1_method_14_code 9 = .ok (.iconst 0, 1) := by decide +kernel
theorem d_H_crash_10 : decode prog_1_method_14_code 10 = .ok (.istore_n 2, 1) := by decide +kernel
theorem d_H_crash_11 : decode prog_1_method_14_code 11 = .ok (.iconst 0, 1) := by decide +kernel
theorem d_H_crash_12 : decode prog_1_method_14_code 12 = .ok (.istore_n 3, 1) := by decide +kernel
theorem d_H_crash_13 : decode prog_1_method_14_code 13 = .ok (.iload_n 3, 1) := by decide +kernel
theorem d_H_crash_14 : decode prog_1_method_14_code 14 = .ok (.bipush 8, 2) := by decide +kernel
theorem d_H_crash_16 : decode prog_1_method_14_code 16 = .ok (.if_icmp .ge 56, 3) := by decide +kernel
theorem d_H_crash_19 : decode prog_1_method_14_code 19 = .ok (.aload_n 0, 1) := by decide +kernel
theorem d_H_crash_20 : decode prog_1_method_14_code 20 = .ok (.getfield 18, 3) := by decide +kernel
theorem d_H_crash_23 : decode prog_1_method_14_code 23 = .ok (.iload_n 3, 1) := by decide +kernel
theorem d_H_crash_24 : decode prog_1_method_14_code 24 = .ok (.aaload, 1) := by decide +kernel
theorem d_H_crash_25 : decode prog_1_method_14_code 25 = .ok (.astore 4, 2) := by decide +kernel
theorem d_H_crash_27 : decode prog_1_method_14_code 27 = .ok (.aload 4, 2) := by decide +kernel
theorem d_H_crash_29 : decode prog_1_method_14_code 29 = .ok (.ifnull 37, 3) := by decide +kernel
theorem d_H_crash_32 : decode prog_1_method_14_code 32 = .ok (.aload 4, 2) := by decide +kernel
theorem d_H_crash_34 : decode prog_1_method_14_code 34 = .ok (.invokevirtual 146, 3) := by decide +kernel
theorem d_H_crash_37 : decode prog_1_method_14_code 37 = .ok (.ifCond .eq 29, 3) := by decide +kernel
theorem d_H_crash_40 : decode prog_1_method_14_code 40 = .ok (.aload 4, 2) := by decide +kernel
theorem d_H_crash_42 : decode prog_1_method_14_code 42 = .ok (.getfield 150, 3) := by decide +kernel
theorem d_H_crash_45 : decode prog_1_method_14_code 45 = .ok (.iload_n 1, 1) := by decide +kernel
theorem d_H_crash_46 : decode prog_1_method_14_code 46 = .ok (.if_icmp .ne 20, 3) := by decide +kernel
theorem d_H_crash_49 : decode prog_1_method_14_code 49 = .ok (.aload 4, 2) := by decide +kernel
theorem d_H_crash_51 : decode prog_1_method_14_code 51 = .ok (.getfield 125, 3) := by decide +kernel
theorem d_H_crash_54 : decode prog_1_method_14_code 54 = .ok (.ifCond .ne 12, 3) := by decide +kernel
theorem d_H_crash_57 : decode prog_1_method_14_code 57 = .ok (.aload 4, 2) := by decide +kernel
theorem d_H_crash_59 : decode prog_1_method_14_code 59 = .ok (.iconst 3, 1) := by decide +kernel
theorem d_H_crash_60 : decode prog_1_method_14_code 60 = .ok (.putfield 125, 3) := by decide +kernel
theorem d_H_crash_63 : decode prog_1_method_14_code 63 = .ok (.iinc 2 1, 3) := by decide +kernel
theorem d_H_crash_66 : decode prog_1_method_14_code 66 = .ok (.iinc 3 1, 3) := by decide +kernel
theorem d_H_crash_69 : decode prog_1_method_14_code 69 = .ok (.goto (-56), 3) := by decide +kernel
theorem d_H_crash_72 : decode prog_1_method_14_code 72 = .ok (.iload_n 2, 1) := by decide +kernel
theorem d_H_crash_73 : decode prog_1_method_14_code 73 = .ok (.ireturn, 1) := by decide +kernel
theorem d_H_restart_0 : decode prog_1_method_15_code 0 = .ok (.aload_n 0, 1) := by decide +kernel
theorem d_H_restart_1 : decode prog_1_method_15_code 1 = .ok (.iload_n 1, 1) := by decide +kernel
theorem d_H_restart_2 : decode prog_1_method_15_code 2 = .ok (.invokevirtual 29, 3) := by decide +kernel
theorem d_H_restart_5 : decode prog_1_method_15_code 5 = .ok (.iconst 1, 1) := by decide +kernel
theorem d_H_restart_6 : decode prog_1_method_15_code 6 = .ok (.putfield 142, 3) := by decide +kernel
theorem d_H_restart_9 : decode prog_1_method_15_code 9 = .ok (.return_, 1) := by decide +kernel
theorem d_H_state_0 : decode prog_1_method_16_code 0 = .ok (.aload_n 0, 1) := by decide +kernel
theorem d_H_state_1 : decode prog_1_method_16_code 1 = .ok (.iload_n 1, 1) := by decide +kernel
theorem d_H_state_2 : decode prog_1_method_16_code 2 = .ok (.invokevirtual 121, 3) := by decide +kernel
theorem d_H_state_5 : decode prog_1_method_16_code 5 = .ok (.getfield 125, 3) := by decide +kernel
theorem d_H_state_8 : decode prog_1_method_16_code 8 = .ok (.ireturn, 1) := by decide +kernel
theorem d_H_answer_0 : decode prog_1_method_17_code 0 = .ok (.aload_n 0, 1) := by decide +kernel
theorem d_H_answer_1 : decode prog_1_method_17_code 1 = .ok (.iload_n 1, 1) := by decide +kernel
theorem d_H_answer_2 : decode prog_1_method_17_code 2 = .ok (.invokevirtual 121, 3) := by decide +kernel
theorem d_H_answer_5 : decode prog_1_method_17_code 5 = .ok (.astore_n 2, 1) := by decide +kernel
theorem d_H_answer_6 : decode prog_1_method_17_code 6 = .ok (.aload_n 2, 1) := by decide +kernel
theorem d_H_answer_7 : decode prog_1_method_17_code 7 = .ok (.invokestatic 153, 3) := by decide +kernel
theorem d_H_answer_10 : decode prog_1_method_17_code 10 = .ok (.aload_n 2, 1) := by decide +kernel
theorem d_H_answer_11 : decode prog_1_method_17_code 11 = .ok (.getfield 156, 3) := by decide +kernel
theorem d_H_answer_14 : decode prog_1_method_17_code 14 = .ok (.lreturn, 1) := by decide +kernel
theorem d_H_found_0 : decode prog_1_method_18_code 0 = .ok (.aload_n 0, 1) := by decide +kernel
theorem d_H_found_1 : decode prog_1_method_18_code 1 = .ok (.iload_n 1, 1) := by decide +kernel
theorem d_H_found_2 : decode prog_1_method_18_code 2 = .ok (.invokevirtual 121, 3) := by decide +kernel
theorem d_H_found_5 : decode prog_1_method_18_code 5 = .ok (.astore_n 3, 1) := by decide +kernel
theorem d_H_found_6 : decode prog_1_method_18_code 6 = .ok (.aload_n 3, 1) := by decide +kernel
theorem d_H_found_7 : decode prog_1_method_18_code 7 = .ok (.invokestatic 153, 3) := by decide +kernel
theorem d_H_found_10 : decode prog_1_method_18_code 10 = .ok (.aload_n 3, 1) := by decide +kernel
theorem d_H_found_11 : decode prog_1_method_18_code 11 = .ok (.invokevirtual 160, 3) := by decide +kernel
theorem d_H_found_14 : decode prog_1_method_18_code 14 = .ok (.ifCond .ne 13, 3) := by decide +kernel
theorem d_H_found_17 : decode prog_1_method_18_code 17 = .ok (.new 128, 3) := by decide +kernel
theorem d_H_found_20 : decode prog_1_method_18_code 20 = .ok (.dup, 1) := by decide +kernel
theorem d_H_found_21 : decode prog_1_method_18_code 21 = .ok (.ldc 163, 2) := by decide +kernel
theorem d_H_found_23 : decode prog_1_method_18_code 23 = .ok (.invokespecial 132, 3) := by decide +kernel
theorem d_H_found_26 : decode prog_1_method_18_code 26 = .ok (.athrow, 1) := by decide +kernel
theorem d_H_found_27 : decode prog_1_method_18_code 27 = .ok (.iload_n 2, 1) := by decide +kernel
theorem d_H_found_28 : decode prog_1_method_18_code 28 = .ok (.ifCond .eq 10, 3) := by decide +kernel
theorem d_H_found_31 : decode prog_1_method_18_code 31 = .ok (.aload_n 3, 1) := by decide +kernel
theorem d_H_found_32 : decode prog_1_method_18_code 32 = .ok (.getfield 165, 3) := by decide +kernel
theorem d_H_found_35 : decode prog_1_method_18_code 35 = .ok (.goto 7, 3) := by decide +kernel
theorem d_H_found_38 : decode prog_1_method_18_code 38 = .ok (.aload_n 3, 1) := by decide +kernel
theorem d_H_found_39 : decode prog_1_method_18_code 39 = .ok (.getfield 168, 3) := by decide +kernel
theorem d_H_found_42 : decode prog_1_method_18_code 42 = .ok (.ireturn, 1) := by decide +kernel
theorem d_H_about_0 : decode prog_1_method_19_code 0 = .ok (.aload_n 0, 1) := by decide +kernel
theorem d_H_about_1 : decode prog_1_method_19_code 1 = .ok (.iload_n 1, 1) := by decide +kernel
theorem d_H_about_2 : decode prog_1_method_19_code 2 = .ok (.invokevirtual 121, 3) := by decide +kernel
theorem d_H_about_5 : decode prog_1_method_19_code 5 = .ok (.astore_n 3, 1) := by decide +kernel
theorem d_H_about_6 : decode prog_1_method_19_code 6 = .ok (.iload_n 2, 1) := by decide +kernel
theorem d_H_about_7 : decode prog_1_method_19_code 7 = .ok (.tableswitch 113 0 7 #[45, 50, 55, 60, 65, 70, 78, 94], 45) := by decide +kernel
theorem d_H_about_52 : decode prog_1_method_19_code 52 = .ok (.aload_n 3, 1) := by decide +kernel
theorem d_H_about_53 : decode prog_1_method_19_code 53 = .ok (.getfield 150, 3) := by decide +kernel
theorem d_H_about_56 : decode prog_1_method_19_code 56 = .ok (.ireturn, 1) := by decide +kernel
theorem d_H_about_57 : decode prog_1_method_19_code 57 = .ok (.aload_n 3, 1) := by decide +kernel
theorem d_H_about_58 : decode prog_1_method_19_code 58 = .ok (.getfield 139, 3) := by decide +kernel
theorem d_H_about_61 : decode prog_1_method_19_code 61 = .ok (.ireturn, 1) := by decide +kernel
theorem d_H_about_62 : decode prog_1_method_19_code 62 = .ok (.aload_n 3, 1) := by decide +kernel
theorem d_H_about_63 : decode prog_1_method_19_code 63 = .ok (.getfield 171, 3) := by decide +kernel
theorem d_H_about_66 : decode prog_1_method_19_code 66 = .ok (.ireturn, 1) := by decide +kernel
theorem d_H_about_67 : decode prog_1_method_19_code 67 = .ok (.aload_n 3, 1) := by decide +kernel
theorem d_H_about_68 : decode prog_1_method_19_code 68 = .ok (.getfield 174, 3) := by decide +kernel
theorem d_H_about_71 : decode prog_1_method_19_code 71 = .ok (.ireturn, 1) := by decide +kernel
theorem d_H_about_72 : decode prog_1_method_19_code 72 = .ok (.aload_n 3, 1) := by decide +kernel
theorem d_H_about_73 : decode prog_1_method_19_code 73 = .ok (.getfield 177, 3) := by decide +kernel
theorem d_H_about_76 : decode prog_1_method_19_code 76 = .ok (.ireturn, 1) := by decide +kernel
theorem d_H_about_77 : decode prog_1_method_19_code 77 = .ok (.aload_n 3, 1) := by decide +kernel
theorem d_H_about_78 : decode prog_1_method_19_code 78 = .ok (.getfield 180, 3) := by decide +kernel
theorem d_H_about_81 : decode prog_1_method_19_code 81 = .ok (.getfield 184, 3) := by decide +kernel
theorem d_H_about_84 : decode prog_1_method_19_code 84 = .ok (.ireturn, 1) := by decide +kernel
theorem d_H_about_85 : decode prog_1_method_19_code 85 = .ok (.aload_n 3, 1) := by decide +kernel
theorem d_H_about_86 : decode prog_1_method_19_code 86 = .ok (.getfield 125, 3) := by decide +kernel
theorem d_H_about_89 : decode prog_1_method_19_code 89 = .ok (.ifCond .ne 10, 3) := by decide +kernel
theorem d_H_about_92 : decode prog_1_method_19_code 92 = .ok (.aload_n 3, 1) := by decide +kernel
theorem d_H_about_93 : decode prog_1_method_19_code 93 = .ok (.getfield 189, 3) := by decide +kernel
theorem d_H_about_96 : decode prog_1_method_19_code 96 = .ok (.goto 4, 3) := by decide +kernel
theorem d_H_about_99 : decode prog_1_method_19_code 99 = .ok (.iconst 0, 1) := by decide +kernel
theorem d_H_about_100 : decode prog_1_method_19_code 100 = .ok (.ireturn, 1) := by decide +kernel
theorem d_H_about_101 : decode prog_1_method_19_code 101 = .ok (.aload_n 3, 1) := by decide +kernel
theorem d_H_about_102 : decode prog_1_method_19_code 102 = .ok (.getfield 125, 3) := by decide +kernel
theorem d_H_about_105 : decode prog_1_method_19_code 105 = .ok (.ifCond .ne 13, 3) := by decide +kernel
theorem d_H_about_108 : decode prog_1_method_19_code 108 = .ok (.aload_n 3, 1) := by decide +kernel
theorem d_H_about_109 : decode prog_1_method_19_code 109 = .ok (.getfield 192, 3) := by decide +kernel
theorem d_H_about_112 : decode prog_1_method_19_code 112 = .ok (.getfield 196, 3) := by decide +kernel
theorem d_H_about_115 : decode prog_1_method_19_code 115 = .ok (.goto 4, 3) := by decide +kernel
theorem d_H_about_118 : decode prog_1_method_19_code 118 = .ok (.iconst 0, 1) := by decide +kernel
theorem d_H_about_119 : decode prog_1_method_19_code 119 = .ok (.ireturn, 1) := by decide +kernel
theorem d_H_about_120 : decode prog_1_method_19_code 120 = .ok (.new 51, 3) := by decide +kernel
theorem d_H_about_123 : decode prog_1_method_19_code 123 = .ok (.dup, 1) := by decide +kernel
theorem d_H_about_124 : decode prog_1_method_19_code 124 = .ok (.ldc 201, 2) := by decide +kernel
theorem d_H_about_126 : decode prog_1_method_19_code 126 = .ok (.invokespecial 55, 3) := by decide +kernel
theorem d_H_about_129 : decode prog_1_method_19_code 129 = .ok (.athrow, 1) := by decide +kernel
theorem d_H_mark_0 : decode prog_1_method_20_code 0 = .ok (.iload_n 1, 1) := by decide +kernel
theorem d_H_mark_1 : decode prog_1_method_20_code 1 = .ok (.invokestatic 203, 3) := by decide +kernel
theorem d_H_mark_4 : decode prog_1_method_20_code 4 = .ok (.aload_n 0, 1) := by decide +kernel
theorem d_H_mark_5 : decode prog_1_method_20_code 5 = .ok (.iload_n 2, 1) := by decide +kernel
theorem d_H_mark_6 : decode prog_1_method_20_code 6 = .ok (.invokevirtual 121, 3) := by decide +kernel
theorem d_H_mark_9 : decode prog_1_method_20_code 9 = .ok (.getfield 206, 3) := by decide +kernel
theorem d_H_mark_12 : decode prog_1_method_20_code 12 = .ok (.iload_n 1, 1) := by decide +kernel
theorem d_H_mark_13 : decode prog_1_method_20_code 13 = .ok (.iaload, 1) := by decide +kernel
theorem d_H_mark_14 : decode prog_1_method_20_code 14 = .ok (.ireturn, 1) := by decide +kernel
theorem d_H_forget_0 : decode prog_1_method_21_code 0 = .ok (.aload_n 0, 1) := by decide +kernel
theorem d_H_forget_1 : decode prog_1_method_21_code 1 = .ok (.iload_n 1, 1) := by decide +kernel
theorem d_H_forget_2 : decode prog_1_method_21_code 2 = .ok (.invokevirtual 121, 3) := by decide +kernel
theorem d_H_forget_5 : decode prog_1_method_21_code 5 = .ok (.iconst 0, 1) := by decide +kernel
theorem d_H_forget_6 : decode prog_1_method_21_code 6 = .ok (.putfield 210, 3) := by decide +kernel
theorem d_H_forget_9 : decode prog_1_method_21_code 9 = .ok (.aload_n 0, 1) := by decide +kernel
theorem d_H_forget_10 : decode prog_1_method_21_code 10 = .ok (.getfield 25, 3) := by decide +kernel
theorem d_H_forget_13 : decode prog_1_method_21_code 13 = .ok (.iload_n 1, 1) := by decide +kernel
theorem d_H_forget_14 : decode prog_1_method_21_code 14 = .ok (.invokevirtual 213, 3) := by decide +kernel
theorem d_H_forget_17 : decode prog_1_method_21_code 17 = .ok (.iconst 0, 1) := by decide +kernel
theorem d_H_forget_18 : decode prog_1_method_21_code 18 = .ok (.istore_n 2, 1) := by decide +kernel
theorem d_H_forget_19 : decode prog_1_method_21_code 19 = .ok (.iconst 0, 1) := by decide +kernel
theorem d_H_forget_20 : decode prog_1_method_21_code 20 = .ok (.istore_n 3, 1) := by decide +kernel
theorem d_H_forget_21 : decode prog_1_method_21_code 21 = .ok (.iload_n 3, 1) := by decide +kernel
theorem d_H_forget_22 : decode prog_1_method_21_code 22 = .ok (.bipush 8, 2) := by decide +kernel
theorem d_H_forget_24 : decode prog_1_method_21_code 24 = .ok (.if_icmp .ge 33, 3) := by decide +kernel
theorem d_H_forget_27 : decode prog_1_method_21_code 27 = .ok (.aload_n 0, 1) := by decide +kernel
theorem d_H_forget_28 : decode prog_1_method_21_code 28 = .ok (.getfield 18, 3) := by decide +kernel
theorem d_H_forget_31 : decode prog_1_method_21_code 31 = .ok (.iload_n 3, 1) := by decide +kernel
theorem d_H_forget_32 : decode prog_1_method_21_code 32 = .ok (.aaload, 1) := by decide +kernel
theorem d_H_forget_33 : decode prog_1_method_21_code 33 = .ok (.ifnull 18, 3) := by decide +kernel
theorem d_H_forget_36 : decode prog_1_method_21_code 36 = .ok (.aload_n 0, 1) := by decide +kernel
theorem d_H_forget_37 : decode prog_1_method_21_code 37 = .ok (.getfield 18, 3) := by decide +kernel
theorem d_H_forget_40 : decode prog_1_method_21_code 40 = .ok (.iload_n 3, 1) := by decide +kernel
theorem d_H_forget_41 : decode prog_1_method_21_code 41 = .ok (.aaload, 1) := by decide +kernel
theorem d_H_forget_42 : decode prog_1_method_21_code 42 = .ok (.invokevirtual 146, 3) := by decide +kernel
theorem d_H_forget_45 : decode prog_1_method_21_code 45 = .ok (.ifCond .eq 6, 3) := by decide +kernel
theorem d_H_forget_48 : decode prog_1_method_21_code 48 = .ok (.iinc 2 1, 3) := by decide +kernel
theorem d_H_forget_51 : decode prog_1_method_21_code 51 = .ok (.iinc 3 1, 3) := by decide +kernel
theorem d_H_forget_54 : decode prog_1_method_21_code 54 = .ok (.goto (-33), 3) := by decide +kernel
theorem d_H_forget_57 : decode prog_1_method_21_code 57 = .ok (.iload_n 2, 1) := by decide +kernel
theorem d_H_forget_58 : decode prog_1_method_21_code 58 = .ok (.ireturn, 1) := by decide +kernel
theorem d_H_needLogger_0 : decode prog_1_method_22_code 0 = .ok (.iload_n 0, 1) := by decide +kernel
theorem d_H_needLogger_1 : decode prog_1_method_22_code 1 = .ok (.ifCond .lt 9, 3) := by decide +kernel
theorem d_H_needLogger_4 : decode prog_1_method_22_code 4 = .ok (.iload_n 0, 1) := by decide +kernel
theorem d_H_needLogger_5 : decode prog_1_method_22_code 5 = .ok (.bipush 8, 2) := by decide +kernel
theorem d_H_needLogger_7 : decode prog_1_method_22_code 7 = .ok (.if_icmp .lt 13, 3) := by decide +kernel
theorem d_H_needLogger_10 : decode prog_1_method_22_code 10 = .ok (.new 216, 3) := by decide +kernel
theorem d_H_needLogger_13 : decode prog_1_method_22_code 13 = .ok (.dup, 1) := by decide +kernel
theorem d_H_needLogger_14 : decode prog_1_method_22_code 14 = .ok (.ldc 218, 2) := by decide +kernel
theorem d_H_needLogger_16 : decode prog_1_method_22_code 16 = .ok (.invokespecial 220, 3) := by decide +kernel
theorem d_H_needLogger_19 : decode prog_1_method_22_code 19 = .ok (.athrow, 1) := by decide +kernel
theorem d_H_needLogger_20 : decode prog_1_method_22_code 20 = .ok (.return_, 1) := by decide +kernel
theorem d_H_loggerOf_0 : decode prog_1_method_23_code 0 = .ok (.iload_n 1, 1) := by decide +kernel
theorem d_H_loggerOf_1 : decode prog_1_method_23_code 1 = .ok (.invokestatic 203, 3) := by decide +kernel
theorem d_H_loggerOf_4 : decode prog_1_method_23_code 4 = .ok (.aload_n 0, 1) := by decide +kernel
theorem d_H_loggerOf_5 : decode prog_1_method_23_code 5 = .ok (.getfield 11, 3) := by decide +kernel
theorem d_H_loggerOf_8 : decode prog_1_method_23_code 8 = .ok (.iload_n 1, 1) := by decide +kernel
theorem d_H_loggerOf_9 : decode prog_1_method_23_code 9 = .ok (.aaload, 1) := by decide +kernel
theorem d_H_loggerOf_10 : decode prog_1_method_23_code 10 = .ok (.areturn, 1) := by decide +kernel
theorem d_H_needUp_0 : decode prog_1_method_24_code 0 = .ok (.aload_n 0, 1) := by decide +kernel
theorem d_H_needUp_1 : decode prog_1_method_24_code 1 = .ok (.getfield 142, 3) := by decide +kernel
theorem d_H_needUp_4 : decode prog_1_method_24_code 4 = .ok (.ifCond .ne 13, 3) := by decide +kernel
theorem d_H_needUp_7 : decode prog_1_method_24_code 7 = .ok (.new 128, 3) := by decide +kernel
theorem d_H_needUp_10 : decode prog_1_method_24_code 10 = .ok (.dup, 1) := by decide +kernel
theorem d_H_needUp_11 : decode prog_1_method_24_code 11 = .ok (.ldc 221, 2) := by decide +kernel
theorem d_H_needUp_13 : decode prog_1_method_24_code 13 = .ok (.invokespecial 132, 3) := by decide +kernel
theorem d_H_needUp_16 : decode prog_1_method_24_code 16 = .ok (.athrow, 1) := by decide +kernel
theorem d_H_needUp_17 : decode prog_1_method_24_code 17 = .ok (.return_, 1) := by decide +kernel
theorem d_H_needRoomFor_0 : decode prog_1_method_25_code 0 = .ok (.aload_n 0, 1) := by decide +kernel
theorem d_H_needRoomFor_1 : decode prog_1_method_25_code 1 = .ok (.invokestatic 65, 3) := by decide +kernel
theorem d_H_needRoomFor_4 : decode prog_1_method_25_code 4 = .ok (.aload_n 0, 1) := by decide +kernel
theorem d_H_needRoomFor_5 : decode prog_1_method_25_code 5 = .ok (.getfield 37, 3) := by decide +kernel
theorem d_H_needRoomFor_8 : decode prog_1_method_25_code 8 = .ok (.getfield 47, 3) := by decide +kernel
theorem d_H_needRoomFor_11 : decode prog_1_method_25_code 11 = .ok (.iload_n 1, 1) := by decide +kernel
theorem d_H_needRoomFor_12 : decode prog_1_method_25_code 12 = .ok (.iadd, 1) := by decide +kernel
theorem d_H_needRoomFor_13 : decode prog_1_method_25_code 13 = .ok (.sipush 500, 3) := by decide +kernel
theorem d_H_needRoomFor_16 : decode prog_1_method_25_code 16 = .ok (.if_icmp .le 13, 3) := by decide +kernel
theorem d_H_needRoomFor_19 : decode prog_1_method_25_code 19 = .ok (.new 128, 3) := by decide +kernel
theorem d_H_needRoomFor_22 : decode prog_1_method_25_code 22 = .ok (.dup, 1) := by decide +kernel
theorem d_H_needRoomFor_23 : decode prog_1_method_25_code 23 = .ok (.ldc 223, 2) := by decide +kernel
theorem d_H_needRoomFor_25 : decode prog_1_method_25_code 25 = .ok (.invokespecial 132, 3) := by decide +kernel
theorem d_H_needRoomFor_28 : decode prog_1_method_25_code 28 = .ok (.athrow, 1) := by decide +kernel
theorem d_H_needRoomFor_29 : decode prog_1_method_25_code 29 = .ok (.return_, 1) := by decide +kernel
theorem d_H_needLetter_0 : decode prog_1_method_26_code 0 = .ok (.iload_n 1, 1) := by decide +kernel
theorem d_H_needLetter_1 : decode prog_1_method_26_code 1 = .ok (.ifCond .lt 14, 3) := by decide +kernel
theorem d_H_needLetter_4 : decode prog_1_method_26_code 4 = .ok (.iload_n 1, 1) := by decide +kernel
theorem d_H_needLetter_5 : decode prog_1_method_26_code 5 = .ok (.aload_n 0, 1) := by decide +kernel
theorem d_H_needLetter_6 : decode prog_1_method_26_code 6 = .ok (.getfield 25, 3) := by decide +kernel
theorem d_H_needLetter_9 : decode prog_1_method_26_code 9 = .ok (.getfield 87, 3) := by decide +kernel
theorem d_H_needLetter_12 : decode prog_1_method_26_code 12 = .ok (.if_icmp .lt 13, 3) := by decide +kernel
theorem d_H_needLetter_15 : decode prog_1_method_26_code 15 = .ok (.new 216, 3) := by decide +kernel
theorem d_H_needLetter_18 : decode prog_1_method_26_code 18 = .ok (.dup, 1) := by decide +kernel
theorem d_H_needLetter_19 : decode prog_1_method_26_code 19 = .ok (.ldc 225, 2) := by decide +kernel
theorem d_H_needLetter_21 : decode prog_1_method_26_code 21 = .ok (.invokespecial 220, 3) := by decide +kernel
theorem d_H_needLetter_24 : decode prog_1_method_26_code 24 = .ok (.athrow, 1) := by decide +kernel
theorem d_H_needLetter_25 : decode prog_1_method_26_code 25 = .ok (.return_, 1) := by decide +kernel
theorem d_H_needAnswered_0 : decode prog_1_method_27_code 0 = .ok (.aload_n 0, 1) := by decide +kernel
theorem d_H_needAnswered_1 : decode prog_1_method_27_code 1 = .ok (.getfield 125, 3) := by decide +kernel
theorem d_H_needAnswered_4 : decode prog_1_method_27_code 4 = .ok (.iconst 1, 1) := by decide +kernel
theorem d_H_needAnswered_5 : decode prog_1_method_27_code 5 = .ok (.if_icmp .eq 13, 3) := by decide +kernel
theorem d_H_needAnswered_8 : decode prog_1_method_27_code 8 = .ok (.new 128, 3) := by decide +kernel
theorem d_H_needAnswered_11 : decode prog_1_method_27_code 11 = .ok (.dup, 1) := by decide +kernel
theorem d_H_needAnswered_12 : decode prog_1_method_27_code 12 = .ok (.ldc 227, 2) := by decide +kernel
theorem d_H_needAnswered_14 : decode prog_1_method_27_code 14 = .ok (.invokespecial 132, 3) := by decide +kernel
theorem d_H_needAnswered_17 : decode prog_1_method_27_code 17 = .ok (.athrow, 1) := by decide +kernel
theorem d_H_needAnswered_18 : decode prog_1_method_27_code 18 = .ok (.return_, 1) := by decide +kernel
theorem d_H_isAskable_0 : decode prog_1_method_28_code 0 = .ok (.iload_n 0, 1) := by decide +kernel
theorem d_H_isAskable_1 : decode prog_1_method_28_code 1 = .ok (.tableswitch 80 0 4 #[35, 80, 46, 80, 63], 35) := by decide +kernel
theorem d_H_isAskable_36 : decode prog_1_method_28_code 36 = .ok (.iload_n 1, 1) := by decide +kernel
theorem d_H_isAskable_37 : decode prog_1_method_28_code 37 = .ok (.iconst 1, 1) := by decide +kernel
theorem d_H_isAskable_38 : decode prog_1_method_28_code 38 = .ok (.if_icmp .lt 7, 3) := by decide +kernel
theorem d_H_isAskable_41 : decode prog_1_method_28_code 41 = .ok (.iconst 1, 1) := by decide +kernel
theorem d_H_isAskable_42 : decode prog_1_method_28_code 42 = .ok (.goto 4, 3) := by decide +kernel
theorem d_H_isAskable_45 : decode prog_1_method_28_code 45 = .ok (.iconst 0, 1) := by decide +kernel
theorem d_H_isAskable_46 : decode prog_1_method_28_code 46 = .ok (.ireturn, 1) := by decide +kernel
theorem d_H_isAskable_47 : decode prog_1_method_28_code 47 = .ok (.iload_n 1, 1) := by decide +kernel
theorem d_H_isAskable_48 : decode prog_1_method_28_code 48 = .ok (.ifCond .lt 14, 3) := by decide +kernel
theorem d_H_isAskable_51 : decode prog_1_method_28_code 51 = .ok (.iload_n 1, 1) := by decide +kernel
theorem d_H_isAskable_52 : decode prog_1_method_28_code 52 = .ok (.sipush 499, 3) := by decide +kernel
theorem d_H_isAskable_55 : decode prog_1_method_28_code 55 = .ok (.if_icmp .gt 7, 3) := by decide +kernel
theorem d_H_isAskable_58 : decode prog_1_method_28_code 58 = .ok (.iconst 1, 1) := by decide +kernel
theorem d_H_isAskable_59 : decode prog_1_method_28_code 59 = .ok (.goto 4, 3) := by decide +kernel
theorem d_H_isAskable_62 : decode prog_1_method_28_code 62 = .ok (.iconst 0, 1) := by decide +kernel
theorem d_H_isAskable_63 : decode prog_1_method_28_code 63 = .ok (.ireturn, 1) := by decide +kernel
theorem d_H_isAskable_64 : decode prog_1_method_28_code 64 = .ok (.iload_n 1, 1) := by decide +kernel
theorem d_H_isAskable_65 : decode prog_1_method_28_code 65 = .ok (.ifCond .lt 14, 3) := by decide +kernel
theorem d_H_isAskable_68 : decode prog_1_method_28_code 68 = .ok (.iload_n 1, 1) := by decide +kernel
theorem d_H_isAskable_69 : decode prog_1_method_28_code 69 = .ok (.sipush 1000, 3) := by decide +kernel
theorem d_H_isAskable_72 : decode prog_1_method_28_code 72 = .ok (.if_icmp .gt 7, 3) := by decide +kernel
theorem d_H_isAskable_75 : decode prog_1_method_28_code 75 = .ok (.iconst 1, 1) := by decide +kernel
theorem d_H_isAskable_76 : decode prog_1_method_28_code 76 = .ok (.goto 4, 3) := by decide +kernel
theorem d_H_isAskable_79 : decode prog_1_method_28_code 79 = .ok (.iconst 0, 1) := by decide +kernel
theorem d_H_isAskable_80 : decode prog_1_method_28_code 80 = .ok (.ireturn, 1) := by decide +kernel
theorem d_H_isAskable_81 : decode prog_1_method_28_code 81 = .ok (.iload_n 0, 1) := by decide +kernel
theorem d_H_isAskable_82 : decode prog_1_method_28_code 82 = .ok (.iconst 1, 1) := by decide +kernel
theorem d_H_isAskable_83 : decode prog_1_method_28_code 83 = .ok (.if_icmp .eq 8, 3) := by decide +kernel
theorem d_H_isAskable_86 : decode prog_1_method_28_code 86 = .ok (.iload_n 0, 1) := by decide +kernel
theorem d_H_isAskable_87 : decode prog_1_method_28_code 87 = .ok (.iconst 3, 1) := by decide +kernel
theorem d_H_isAskable_88 : decode prog_1_method_28_code 88 = .ok (.if_icmp .ne 7, 3) := by decide +kernel
theorem d_H_isAskable_91 : decode prog_1_method_28_code 91 = .ok (.iconst 1, 1) := by decide +kernel
theorem d_H_isAskable_92 : decode prog_1_method_28_code 92 = .ok (.goto 4, 3) := by decide +kernel
theorem d_H_isAskable_95 : decode prog_1_method_28_code 95 = .ok (.iconst 0, 1) := by decide +kernel
theorem d_H_isAskable_96 : decode prog_1_method_28_code 96 = .ok (.ireturn, 1) := by decide +kernel
theorem d_H_seek_0 : decode prog_1_method_29_code 0 = .ok (.iconst 0, 1) := by decide +kernel
theorem d_H_seek_1 : decode prog_1_method_29_code 1 = .ok (.istore_n 2, 1) := by decide +kernel
theorem d_H_seek_2 : decode prog_1_method_29_code 2 = .ok (.iload_n 2, 1) := by decide +kernel
theorem d_H_seek_3 : decode prog_1_method_29_code 3 = .ok (.bipush 8, 2) := by decide +kernel
theorem d_H_seek_5 : decode prog_1_method_29_code 5 = .ok (.if_icmp .ge 37, 3) := by decide +kernel
theorem d_H_seek_8 : decode prog_1_method_29_code 8 = .ok (.aload_n 0, 1) := by decide +kernel
theorem d_H_seek_9 : decode prog_1_method_29_code 9 = .ok (.getfield 18, 3) := by decide +kernel
theorem d_H_seek_12 : decode prog_1_method_29_code 12 = .ok (.iload_n 2, 1) := by decide +kernel
theorem d_H_seek_13 : decode prog_1_method_29_code 13 = .ok (.aaload, 1) := by decide +kernel
theorem d_H_seek_14 : decode prog_1_method_29_code 14 = .ok (.astore_n 3, 1) := by decide +kernel
theorem d_H_seek_15 : decode prog_1_method_29_code 15 = .ok (.aload_n 3, 1) := by decide +kernel
theorem d_H_seek_16 : decode prog_1_method_29_code 16 = .ok (.ifnull 20, 3) := by decide +kernel
theorem d_H_seek_19 : decode prog_1_method_29_code 19 = .ok (.aload_n 3, 1) := by decide +kernel
theorem d_H_seek_20 : decode prog_1_method_29_code 20 = .ok (.invokevirtual 146, 3) := by decide +kernel
theorem d_H_seek_23 : decode prog_1_method_29_code 23 = .ok (.ifCond .eq 13, 3) := by decide +kernel
theorem d_H_seek_26 : decode prog_1_method_29_code 26 = .ok (.aload_n 3, 1) := by decide +kernel
theorem d_H_seek_27 : decode prog_1_method_29_code 27 = .ok (.getfield 210, 3) := by decide +kernel
theorem d_H_seek_30 : decode prog_1_method_29_code 30 = .ok (.iload_n 1, 1) := by decide +kernel
theorem d_H_seek_31 : decode prog_1_method_29_code 31 = .ok (.if_icmp .ne 5, 3) := by decide +kernel
theorem d_H_seek_34 : decode prog_1_method_29_code 34 = .ok (.aload_n 3, 1) := by decide +kernel
theorem d_H_seek_35 : decode prog_1_method_29_code 35 = .ok (.areturn, 1) := by decide +kernel
theorem d_H_seek_36 : decode prog_1_method_29_code 36 = .ok (.iinc 2 1, 3) := by decide +kernel
theorem d_H_seek_39 : decode prog_1_method_29_code 39 = .ok (.goto (-37), 3) := by decide +kernel
theorem d_H_seek_42 : decode prog_1_method_29_code 42 = .ok (.aconst_null, 1) := by decide +kernel
theorem d_H_seek_43 : decode prog_1_method_29_code 43 = .ok (.areturn, 1) := by decide +kernel
theorem d_H_questionOf_0 : decode prog_1_method_30_code 0 = .ok (.aload_n 0, 1) := by decide +kernel
theorem d_H_questionOf_1 : decode prog_1_method_30_code 1 = .ok (.iload_n 1, 1) := by decide +kernel
theorem d_H_questionOf_2 : decode prog_1_method_30_code 2 = .ok (.invokevirtual 229, 3) := by decide +kernel
theorem d_H_questionOf_5 : decode prog_1_method_30_code 5 = .ok (.astore_n 2, 1) := by decide +kernel
theorem d_H_questionOf_6 : decode prog_1_method_30_code 6 = .ok (.aload_n 2, 1) := by decide +kernel
theorem d_H_questionOf_7 : decode prog_1_method_30_code 7 = .ok (.ifnonnull 13, 3) := by decide +kernel
theorem d_H_questionOf_10 : decode prog_1_method_30_code 10 = .ok (.new 216, 3) := by decide +kernel
theorem d_H_questionOf_13 : decode prog_1_method_30_code 13 = .ok (.dup, 1) := by decide +kernel
theorem d_H_questionOf_14 : decode prog_1_method_30_code 14 = .ok (.ldc 232, 2) := by decide +kernel
theorem d_H_questionOf_16 : decode prog_1_method_30_code 16 = .ok (.invokespecial 220, 3) := by decide +kernel
theorem d_H_questionOf_19 : decode prog_1_method_30_code 19 = .ok (.athrow, 1) := by decide +kernel
theorem d_H_questionOf_20 : decode prog_1_method_30_code 20 = .ok (.aload_n 2, 1) := by decide +kernel
theorem d_H_questionOf_21 : decode prog_1_method_30_code 21 = .ok (.areturn, 1) := by decide +kernel
theorem d_H_freePlace_0 : decode prog_1_method_31_code 0 = .ok (.iconst 0, 1) := by decide +kernel
theorem d_H_freePlace_1 : decode prog_1_method_31_code 1 = .ok (.istore_n 1, 1) := by decide +kernel
theorem d_H_freePlace_2 : decode prog_1_method_31_code 2 = .ok (.iload_n 1, 1) := by decide +kernel
theorem d_H_freePlace_3 : decode prog_1_method_31_code 3 = .ok (.bipush 8, 2) := by decide +kernel
theorem d_H_freePlace_5 : decode prog_1_method_31_code 5 = .ok (.if_icmp .ge 50, 3) := by decide +kernel
theorem d_H_freePlace_8 : decode prog_1_method_31_code 8 = .ok (.aload_n 0, 1) := by decide +kernel
theorem d_H_freePlace_9 : decode prog_1_method_31_code 9 = .ok (.getfield 18, 3) := by decide +kernel
theorem d_H_freePlace_12 : decode prog_1_method_31_code 12 = .ok (.iload_n 1, 1) := by decide +kernel
theorem d_H_freePlace_13 : decode prog_1_method_31_code 13 = .ok (.aaload, 1) := by decide +kernel
theorem d_H_freePlace_14 : decode prog_1_method_31_code 14 = .ok (.ifnonnull 16, 3) := by decide +kernel
theorem d_H_freePlace_17 : decode prog_1_method_31_code 17 = .ok (.aload_n 0, 1) := by decide +kernel
theorem d_H_freePlace_18 : decode prog_1_method_31_code 18 = .ok (.getfield 18, 3) := by decide +kernel
theorem d_H_freePlace_21 : decode prog_1_method_31_code 21 = .ok (.iload_n 1, 1) := by decide +kernel
theorem d_H_freePlace_22 : decode prog_1_method_31_code 22 = .ok (.new 16, 3) := by decide +kernel
theorem d_H_freePlace_25 : decode prog_1_method_31_code 25 = .ok (.dup, 1) := by decide +kernel
theorem d_H_freePlace_26 : decode prog_1_method_31_code 26 = .ok (.invokespecial 234, 3) := by decide +kernel
theorem d_H_freePlace_29 : decode prog_1_method_31_code 29 = .ok (.aastore, 1) := by decide +kernel
theorem d_H_freePlace_30 : decode prog_1_method_31_code 30 = .ok (.aload_n 0, 1) := by decide +kernel
theorem d_H_freePlace_31 : decode prog_1_method_31_code 31 = .ok (.getfield 18, 3) := by decide +kernel
theorem d_H_freePlace_34 : decode prog_1_method_31_code 34 = .ok (.iload_n 1, 1) := by decide +kernel
theorem d_H_freePlace_35 : decode prog_1_method_31_code 35 = .ok (.aaload, 1) := by decide +kernel
theorem d_H_freePlace_36 : decode prog_1_method_31_code 36 = .ok (.invokevirtual 146, 3) := by decide +kernel
theorem d_H_freePlace_39 : decode prog_1_method_31_code 39 = .ok (.ifCond .ne 10, 3) := by decide +kernel
theorem d_H_freePlace_42 : decode prog_1_method_31_code 42 = .ok (.aload_n 0, 1) := by decide +kernel
theorem d_H_freePlace_43 : decode prog_1_method_31_code 43 = .ok (.getfield 18, 3) := by decide +kernel
theorem d_H_freePlace_46 : decode prog_1_method_31_code 46 = .ok (.iload_n 1, 1) := by decide +kernel
theorem d_H_freePlace_47 : decode prog_1_method_31_code 47 = .ok (.aaload, 1) := by decide +kernel
theorem d_H_freePlace_48 : decode prog_1_method_31_code 48 = .ok (.areturn, 1) := by decide +kernel
theorem d_H_freePlace_49 : decode prog_1_method_31_code 49 = .ok (.iinc 1 1, 3) := by decide +kernel
theorem d_H_freePlace_52 : decode prog_1_method_31_code 52 = .ok (.goto (-50), 3) := by decide +kernel
theorem d_H_freePlace_55 : decode prog_1_method_31_code 55 = .ok (.new 128, 3) := by decide +kernel
theorem d_H_freePlace_58 : decode prog_1_method_31_code 58 = .ok (.dup, 1) := by decide +kernel
theorem d_H_freePlace_59 : decode prog_1_method_31_code 59 = .ok (.ldc 235, 2) := by decide +kernel
theorem d_H_freePlace_61 : decode prog_1_method_31_code 61 = .ok (.invokespecial 132, 3) := by decide +kernel
theorem d_H_freePlace_64 : decode prog_1_method_31_code 64 = .ok (.athrow, 1) := by decide +kernel
theorem d_H_askUnlessDone_0 : decode prog_1_method_32_code 0 = .ok (.aload_n 1, 1) := by decide +kernel
theorem d_H_askUnlessDone_1 : decode prog_1_method_32_code 1 = .ok (.getfield 125, 3) := by decide +kernel
theorem d_H_askUnlessDone_4 : decode prog_1_method_32_code 4 = .ok (.ifCond .ne 8, 3) := by decide +kernel
theorem d_H_askUnlessDone_7 : decode prog_1_method_32_code 7 = .ok (.aload_n 0, 1) := by decide +kernel
theorem d_H_askUnlessDone_8 : decode prog_1_method_32_code 8 = .ok (.aload_n 1, 1) := by decide +kernel
theorem d_H_askUnlessDone_9 : decode prog_1_method_32_code 9 = .ok (.invokevirtual 83, 3) := by decide +kernel
theorem d_H_askUnlessDone_12 : decode prog_1_method_32_code 12 = .ok (.return_, 1) := by decide +kernel
theorem d_H_askAll_0 : decode prog_1_method_33_code 0 = .ok (.aload_n 1, 1) := by decide +kernel
theorem d_H_askAll_1 : decode prog_1_method_33_code 1 = .ok (.invokevirtual 237, 3) := by decide +kernel
theorem d_H_askAll_4 : decode prog_1_method_33_code 4 = .ok (.aload_n 0, 1) := by decide +kernel
theorem d_H_askAll_5 : decode prog_1_method_33_code 5 = .ok (.aload_n 1, 1) := by decide +kernel
theorem d_H_askAll_6 : decode prog_1_method_33_code 6 = .ok (.invokevirtual 133, 3) := by decide +kernel
theorem d_H_askAll_9 : decode prog_1_method_33_code 9 = .ok (.pop, 1) := by decide +kernel
theorem d_H_askAll_10 : decode prog_1_method_33_code 10 = .ok (.return_, 1) := by decide +kernel
theorem d_H_askThoseLeft_0 : decode prog_1_method_34_code 0 = .ok (.iconst 0, 1) := by decide +kernel
theorem d_H_askThoseLeft_1 : decode prog_1_method_34_code 1 = .ok (.istore_n 2, 1) := by decide +kernel
theorem d_H_askThoseLeft_2 : decode prog_1_method_34_code 2 = .ok (.iconst 0, 1) := by decide +kernel
theorem d_H_askThoseLeft_3 : decode prog_1_method_34_code 3 = .ok (.istore_n 3, 1) := by decide +kernel
theorem d_H_askThoseLeft_4 : decode prog_1_method_34_code 4 = .ok (.iload_n 3, 1) := by decide +kernel
theorem d_H_askThoseLeft_5 : decode prog_1_method_34_code 5 = .ok (.bipush 8, 2) := by decide +kernel
theorem d_H_askThoseLeft_7 : decode prog_1_method_34_code 7 = .ok (.if_icmp .ge 36, 3) := by decide +kernel
theorem d_H_askThoseLeft_10 : decode prog_1_method_34_code 10 = .ok (.aload_n 1, 1) := by decide +kernel
theorem d_H_askThoseLeft_11 : decode prog_1_method_34_code 11 = .ok (.getfield 192, 3) := by decide +kernel
theorem d_H_askThoseLeft_14 : decode prog_1_method_34_code 14 = .ok (.getfield 240, 3) := by decide +kernel
theorem d_H_askThoseLeft_17 : decode prog_1_method_34_code 17 = .ok (.iload_n 3, 1) := by decide +kernel
theorem d_H_askThoseLeft_18 : decode prog_1_method_34_code 18 = .ok (.baload, 1) := by decide +kernel
theorem d_H_askThoseLeft_19 : decode prog_1_method_34_code 19 = .ok (.ifCond .ne 18, 3) := by decide +kernel
theorem d_H_askThoseLeft_22 : decode prog_1_method_34_code 22 = .ok (.aload_n 1, 1) := by decide +kernel
theorem d_H_askThoseLeft_23 : decode prog_1_method_34_code 23 = .ok (.aload_n 0, 1) := by decide +kernel
theorem d_H_askThoseLeft_24 : decode prog_1_method_34_code 24 = .ok (.getfield 25, 3) := by decide +kernel
theorem d_H_askThoseLeft_27 : decode prog_1_method_34_code 27 = .ok (.invokevirtual 112, 3) := by decide +kernel
theorem d_H_askThoseLeft_30 : decode prog_1_method_34_code 30 = .ok (.iload_n 3, 1) := by decide +kernel
theorem d_H_askThoseLeft_31 : decode prog_1_method_34_code 31 = .ok (.invokevirtual 244, 3) := by decide +kernel
theorem d_H_askThoseLeft_34 : decode prog_1_method_34_code 34 = .ok (.iinc 2 1, 3) := by decide +kernel
theorem d_H_askThoseLeft_37 : decode prog_1_method_34_code 37 = .ok (.iinc 3 1, 3) := by decide +kernel
theorem d_H_askThoseLeft_40 : decode prog_1_method_34_code 40 = .ok (.goto (-36), 3) := by decide +kernel
theorem d_H_askThoseLeft_43 : decode prog_1_method_34_code 43 = .ok (.iload_n 2, 1) := by decide +kernel
theorem d_H_askThoseLeft_44 : decode prog_1_method_34_code 44 = .ok (.ireturn, 1) := by decide +kernel
theorem d_H_arrive_0 : decode prog_1_method_35_code 0 = .ok (.aload_n 0, 1) := by decide +kernel
theorem d_H_arrive_1 : decode prog_1_method_35_code 1 = .ok (.aload_n 1, 1) := by decide +kernel
theorem d_H_arrive_2 : decode prog_1_method_35_code 2 = .ok (.getfield 248, 3) := by decide +kernel
theorem d_H_arrive_5 : decode prog_1_method_35_code 5 = .ok (.invokevirtual 229, 3) := by decide +kernel
theorem d_H_arrive_8 : decode prog_1_method_35_code 8 = .ok (.astore_n 2, 1) := by decide +kernel
theorem d_H_arrive_9 : decode prog_1_method_35_code 9 = .ok (.aload_n 2, 1) := by decide +kernel
theorem d_H_arrive_10 : decode prog_1_method_35_code 10 = .ok (.ifnull 18, 3) := by decide +kernel
theorem d_H_arrive_13 : decode prog_1_method_35_code 13 = .ok (.aload_n 0, 1) := by decide +kernel
theorem d_H_arrive_14 : decode prog_1_method_35_code 14 = .ok (.getfield 11, 3) := by decide +kernel
theorem d_H_arrive_17 : decode prog_1_method_35_code 17 = .ok (.aload_n 1, 1) := by decide +kernel
theorem d_H_arrive_18 : decode prog_1_method_35_code 18 = .ok (.getfield 251, 3) := by decide +kernel
theorem d_H_arrive_21 : decode prog_1_method_35_code 21 = .ok (.aaload, 1) := by decide +kernel
theorem d_H_arrive_22 : decode prog_1_method_35_code 22 = .ok (.getfield 142, 3) := by decide +kernel
theorem d_H_arrive_25 : decode prog_1_method_35_code 25 = .ok (.ifCond .ne 4, 3) := by decide +kernel
theorem d_H_arrive_28 : decode prog_1_method_35_code 28 = .ok (.return_, 1) := by decide +kernel
theorem d_H_arrive_29 : decode prog_1_method_35_code 29 = .ok (.aload_n 1, 1) := by decide +kernel
theorem d_H_arrive_30 : decode prog_1_method_35_code 30 = .ok (.invokevirtual 254, 3) := by decide +kernel
theorem d_H_arrive_33 : decode prog_1_method_35_code 33 = .ok (.ifCond .eq 12, 3) := by decide +kernel
theorem d_H_arrive_36 : decode prog_1_method_35_code 36 = .ok (.aload_n 0, 1) := by decide +kernel
theorem d_H_arrive_37 : decode prog_1_method_35_code 37 = .ok (.aload_n 1, 1) := by decide +kernel
theorem d_H_arrive_38 : decode prog_1_method_35_code 38 = .ok (.aload_n 2, 1) := by decide +kernel
theorem d_H_arrive_39 : decode prog_1_method_35_code 39 = .ok (.invokevirtual 257, 3) := by decide +kernel
theorem d_H_arrive_42 : decode prog_1_method_35_code 42 = .ok (.goto 40, 3) := by decide +kernel
theorem d_H_arrive_45 : decode prog_1_method_35_code 45 = .ok (.aload_n 2, 1) := by decide +kernel
theorem d_H_arrive_46 : decode prog_1_method_35_code 46 = .ok (.aload_n 1, 1) := by decide +kernel
theorem d_H_arrive_47 : decode prog_1_method_35_code 47 = .ok (.invokevirtual 261, 3) := by decide +kernel
theorem d_H_arrive_50 : decode prog_1_method_35_code 50 = .ok (.ifCond .eq 32, 3) := by decide +kernel
theorem d_H_arrive_53 : decode prog_1_method_35_code 53 = .ok (.aload_n 2, 1) := by decide +kernel
theorem d_H_arrive_54 : decode prog_1_method_35_code 54 = .ok (.getfield 192, 3) := by decide +kernel
theorem d_H_arrive_57 : decode prog_1_method_35_code 57 = .ok (.aload_n 1, 1) := by decide +kernel
theorem d_H_arrive_58 : decode prog_1_method_35_code 58 = .ok (.invokevirtual 265, 3) := by decide +kernel
theorem d_H_arrive_61 : decode prog_1_method_35_code 61 = .ok (.aload_n 2, 1) := by decide +kernel
theorem d_H_arrive_62 : decode prog_1_method_35_code 62 = .ok (.getfield 192, 3) := by decide +kernel
theorem d_H_arrive_65 : decode prog_1_method_35_code 65 = .ok (.getfield 196, 3) := by decide +kernel
theorem d_H_arrive_68 : decode prog_1_method_35_code 68 = .ok (.bipush 8, 2) := by decide +kernel
theorem d_H_arrive_70 : decode prog_1_method_35_code 70 = .ok (.if_icmp .ne 12, 3) := by decide +kernel
theorem d_H_arrive_73 : decode prog_1_method_35_code 73 = .ok (.aload_n 2, 1) := by decide +kernel
theorem d_H_arrive_74 : decode prog_1_method_35_code 74 = .ok (.invokevirtual 268, 3) := by decide +kernel
theorem d_H_arrive_77 : decode prog_1_method_35_code 77 = .ok (.aload_n 0, 1) := by decide +kernel
theorem d_H_arrive_78 : decode prog_1_method_35_code 78 = .ok (.aload_n 2, 1) := by decide +kernel
theorem d_H_arrive_79 : decode prog_1_method_35_code 79 = .ok (.invokevirtual 271, 3) := by decide +kernel
theorem d_H_arrive_82 : decode prog_1_method_35_code 82 = .ok (.return_, 1) := by decide +kernel
theorem d_H_reply_0 : decode prog_1_method_36_code 0 = .ok (.aload_n 1, 1) := by decide +kernel
theorem d_H_reply_1 : decode prog_1_method_36_code 1 = .ok (.getfield 251, 3) := by decide +kernel
theorem d_H_reply_4 : decode prog_1_method_36_code 4 = .ok (.istore_n 3, 1) := by decide +kernel
theorem d_H_reply_5 : decode prog_1_method_36_code 5 = .ok (.aload_n 1, 1) := by decide +kernel
theorem d_H_reply_6 : decode prog_1_method_36_code 6 = .ok (.getfield 274, 3) := by decide +kernel
theorem d_H_reply_9 : decode prog_1_method_36_code 9 = .ok (.iconst 1, 1) := by decide +kernel
theorem d_H_reply_10 : decode prog_1_method_36_code 10 = .ok (.if_icmp .ne 17, 3) := by decide +kernel
theorem d_H_reply_13 : decode prog_1_method_36_code 13 = .ok (.aload_n 2, 1) := by decide +kernel
theorem d_H_reply_14 : decode prog_1_method_36_code 14 = .ok (.iload_n 3, 1) := by decide +kernel
theorem d_H_reply_15 : decode prog_1_method_36_code 15 = .ok (.aload_n 0, 1) := by decide +kernel
theorem d_H_reply_16 : decode prog_1_method_36_code 16 = .ok (.getfield 11, 3) := by decide +kernel
theorem d_H_reply_19 : decode prog_1_method_36_code 19 = .ok (.iload_n 3, 1) := by decide +kernel
theorem d_H_reply_20 : decode prog_1_method_36_code 20 = .ok (.aaload, 1) := by decide +kernel
theorem d_H_reply_21 : decode prog_1_method_36_code 21 = .ok (.getfield 37, 3) := by decide +kernel
theorem d_H_reply_24 : decode prog_1_method_36_code 24 = .ok (.invokevirtual 277, 3) := by decide +kernel
theorem d_H_reply_27 : decode prog_1_method_36_code 27 = .ok (.aload_n 2, 1) := by decide +kernel
theorem d_H_reply_28 : decode prog_1_method_36_code 28 = .ok (.getfield 206, 3) := by decide +kernel
theorem d_H_reply_31 : decode prog_1_method_36_code 31 = .ok (.iload_n 3, 1) := by decide +kernel
theorem d_H_reply_32 : decode prog_1_method_36_code 32 = .ok (.iaload, 1) := by decide +kernel
theorem d_H_reply_33 : decode prog_1_method_36_code 33 = .ok (.iconst (-1), 1) := by decide +kernel
theorem d_H_reply_34 : decode prog_1_method_36_code 34 = .ok (.if_icmp .ne 4, 3) := by decide +kernel
theorem d_H_reply_37 : decode prog_1_method_36_code 37 = .ok (.return_, 1) := by decide +kernel
theorem d_H_reply_38 : decode prog_1_method_36_code 38 = .ok (.aload_n 0, 1) := by decide +kernel
theorem d_H_reply_39 : decode prog_1_method_36_code 39 = .ok (.getfield 25, 3) := by decide +kernel
theorem d_H_reply_42 : decode prog_1_method_36_code 42 = .ok (.invokevirtual 112, 3) := by decide +kernel
theorem d_H_reply_45 : decode prog_1_method_36_code 45 = .ok (.astore 4, 2) := by decide +kernel
theorem d_H_reply_47 : decode prog_1_method_36_code 47 = .ok (.aload 4, 2) := by decide +kernel
theorem d_H_reply_49 : decode prog_1_method_36_code 49 = .ok (.ifnull 21, 3) := by decide +kernel
theorem d_H_reply_52 : decode prog_1_method_36_code 52 = .ok (.aload 4, 2) := by decide +kernel
theorem d_H_reply_54 : decode prog_1_method_36_code 54 = .ok (.aload_n 1, 1) := by decide +kernel
theorem d_H_reply_55 : decode prog_1_method_36_code 55 = .ok (.invokevirtual 281, 3) := by decide +kernel
theorem d_H_reply_58 : decode prog_1_method_36_code 58 = .ok (.aload 4, 2) := by decide +kernel
theorem d_H_reply_60 : decode prog_1_method_36_code 60 = .ok (.aload_n 1, 1) := by decide +kernel
theorem d_H_reply_61 : decode prog_1_method_36_code 61 = .ok (.aload_n 2, 1) := by decide +kernel
theorem d_H_reply_62 : decode prog_1_method_36_code 62 = .ok (.getfield 284, 3) := by decide +kernel
theorem d_H_reply_65 : decode prog_1_method_36_code 65 = .ok (.iload_n 3, 1) := by decide +kernel
theorem d_H_reply_66 : decode prog_1_method_36_code 66 = .ok (.aaload, 1) := by decide +kernel
theorem d_H_reply_67 : decode prog_1_method_36_code 67 = .ok (.invokevirtual 288, 3) := by decide +kernel
theorem d_H_reply_70 : decode prog_1_method_36_code 70 = .ok (.return_, 1) := by decide +kernel
