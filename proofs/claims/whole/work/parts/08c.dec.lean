theorem d_L_record_0 : decode method_3_code 0 = .ok (.aload_n 3, 1) := by decide +kernel
theorem d_L_record_1 : decode method_3_code 1 = .ok (.iconst 0, 1) := by decide +kernel
theorem d_L_record_2 : decode method_3_code 2 = .ok (.aload_n 0, 1) := by decide +kernel
theorem d_L_record_3 : decode method_3_code 3 = .ok (.iload_n 1, 1) := by decide +kernel
theorem d_L_record_4 : decode method_3_code 4 = .ok (.iload_n 2, 1) := by decide +kernel
theorem d_L_record_5 : decode method_3_code 5 = .ok (.invokevirtual 7, 3) := by decide +kernel
theorem d_L_record_8 : decode method_3_code 8 = .ok (.i2l, 1) := by decide +kernel
theorem d_L_record_9 : decode method_3_code 9 = .ok (.lastore, 1) := by decide +kernel
theorem d_L_record_10 : decode method_3_code 10 = .ok (.goto 11, 3) := by decide +kernel
theorem d_L_record_13 : decode method_3_code 13 = .ok (.astore 4, 2) := by decide +kernel
theorem d_L_record_15 : decode method_3_code 15 = .ok (.iconst 1, 1) := by decide +kernel
theorem d_L_record_16 : decode method_3_code 16 = .ok (.ireturn, 1) := by decide +kernel
theorem d_L_record_17 : decode method_3_code 17 = .ok (.astore 4, 2) := by decide +kernel
theorem d_L_record_19 : decode method_3_code 19 = .ok (.iconst 2, 1) := by decide +kernel
theorem d_L_record_20 : decode method_3_code 20 = .ok (.ireturn, 1) := by decide +kernel
theorem d_L_record_21 : decode method_3_code 21 = .ok (.iconst 0, 1) := by decide +kernel
theorem d_L_record_22 : decode method_3_code 22 = .ok (.ireturn, 1) := by decide +kernel
theorem d_L_fill_0 : decode method_4_code 0 = .ok (.aload 6, 2) := by decide +kernel
theorem d_L_fill_2 : decode method_4_code 2 = .ok (.iconst 0, 1) := by decide +kernel
theorem d_L_fill_3 : decode method_4_code 3 = .ok (.aload_n 0, 1) := by decide +kernel
theorem d_L_fill_4 : decode method_4_code 4 = .ok (.iload_n 1, 1) := by decide +kernel
theorem d_L_fill_5 : decode method_4_code 5 = .ok (.iload_n 2, 1) := by decide +kernel
theorem d_L_fill_6 : decode method_4_code 6 = .ok (.iload_n 3, 1) := by decide +kernel
theorem d_L_fill_7 : decode method_4_code 7 = .ok (.iload 4, 2) := by decide +kernel
theorem d_L_fill_9 : decode method_4_code 9 = .ok (.iload 5, 2) := by decide +kernel
theorem d_L_fill_11 : decode method_4_code 11 = .ok (.invokevirtual 17, 3) := by decide +kernel
theorem d_L_fill_14 : decode method_4_code 14 = .ok (.i2l, 1) := by decide +kernel
theorem d_L_fill_15 : decode method_4_code 15 = .ok (.lastore, 1) := by decide +kernel
theorem d_L_fill_16 : decode method_4_code 16 = .ok (.goto 15, 3) := by decide +kernel
theorem d_L_fill_19 : decode method_4_code 19 = .ok (.astore 7, 2) := by decide +kernel
theorem d_L_fill_21 : decode method_4_code 21 = .ok (.iconst 1, 1) := by decide +kernel
theorem d_L_fill_22 : decode method_4_code 22 = .ok (.ireturn, 1) := by decide +kernel
theorem d_L_fill_23 : decode method_4_code 23 = .ok (.astore 7, 2) := by decide +kernel
theorem d_L_fill_25 : decode method_4_code 25 = .ok (.iconst 2, 1) := by decide +kernel
theorem d_L_fill_26 : decode method_4_code 26 = .ok (.ireturn, 1) := by decide +kernel
theorem d_L_fill_27 : decode method_4_code 27 = .ok (.astore 7, 2) := by decide +kernel
theorem d_L_fill_29 : decode method_4_code 29 = .ok (.iconst 3, 1) := by decide +kernel
theorem d_L_fill_30 : decode method_4_code 30 = .ok (.ireturn, 1) := by decide +kernel
theorem d_L_fill_31 : decode method_4_code 31 = .ok (.iconst 0, 1) := by decide +kernel
theorem d_L_fill_32 : decode method_4_code 32 = .ok (.ireturn, 1) := by decide +kernel
theorem d_L_size_0 : decode method_5_code 0 = .ok (.aload_n 2, 1) := by decide +kernel
theorem d_L_size_1 : decode method_5_code 1 = .ok (.iconst 0, 1) := by decide +kernel
theorem d_L_size_2 : decode method_5_code 2 = .ok (.aload_n 0, 1) := by decide +kernel
theorem d_L_size_3 : decode method_5_code 3 = .ok (.iload_n 1, 1) := by decide +kernel
theorem d_L_size_4 : decode method_5_code 4 = .ok (.invokevirtual 23, 3) := by decide +kernel
theorem d_L_size_7 : decode method_5_code 7 = .ok (.i2l, 1) := by decide +kernel
theorem d_L_size_8 : decode method_5_code 8 = .ok (.lastore, 1) := by decide +kernel
theorem d_L_size_9 : decode method_5_code 9 = .ok (.goto 6, 3) := by decide +kernel
theorem d_L_size_12 : decode method_5_code 12 = .ok (.astore_n 3, 1) := by decide +kernel
theorem d_L_size_13 : decode method_5_code 13 = .ok (.iconst 1, 1) := by decide +kernel
theorem d_L_size_14 : decode method_5_code 14 = .ok (.ireturn, 1) := by decide +kernel
theorem d_L_size_15 : decode method_5_code 15 = .ok (.iconst 0, 1) := by decide +kernel
theorem d_L_size_16 : decode method_5_code 16 = .ok (.ireturn, 1) := by decide +kernel
theorem d_L_ask_0 : decode method_6_code 0 = .ok (.aload 5, 2) := by decide +kernel
theorem d_L_ask_2 : decode method_6_code 2 = .ok (.iconst 0, 1) := by decide +kernel
theorem d_L_ask_3 : decode method_6_code 3 = .ok (.aload_n 0, 1) := by decide +kernel
theorem d_L_ask_4 : decode method_6_code 4 = .ok (.iload_n 1, 1) := by decide +kernel
theorem d_L_ask_5 : decode method_6_code 5 = .ok (.iload_n 2, 1) := by decide +kernel
theorem d_L_ask_6 : decode method_6_code 6 = .ok (.iload_n 3, 1) := by decide +kernel
theorem d_L_ask_7 : decode method_6_code 7 = .ok (.iload 4, 2) := by decide +kernel
theorem d_L_ask_9 : decode method_6_code 9 = .ok (.invokevirtual 27, 3) := by decide +kernel
theorem d_L_ask_12 : decode method_6_code 12 = .ok (.i2l, 1) := by decide +kernel
theorem d_L_ask_13 : decode method_6_code 13 = .ok (.lastore, 1) := by decide +kernel
theorem d_L_ask_14 : decode method_6_code 14 = .ok (.goto 15, 3) := by decide +kernel
theorem d_L_ask_17 : decode method_6_code 17 = .ok (.astore 6, 2) := by decide +kernel
theorem d_L_ask_19 : decode method_6_code 19 = .ok (.iconst 1, 1) := by decide +kernel
theorem d_L_ask_20 : decode method_6_code 20 = .ok (.ireturn, 1) := by decide +kernel
theorem d_L_ask_21 : decode method_6_code 21 = .ok (.astore 6, 2) := by decide +kernel
theorem d_L_ask_23 : decode method_6_code 23 = .ok (.iconst 2, 1) := by decide +kernel
theorem d_L_ask_24 : decode method_6_code 24 = .ok (.ireturn, 1) := by decide +kernel
theorem d_L_ask_25 : decode method_6_code 25 = .ok (.astore 6, 2) := by decide +kernel
theorem d_L_ask_27 : decode method_6_code 27 = .ok (.iconst 3, 1) := by decide +kernel
theorem d_L_ask_28 : decode method_6_code 28 = .ok (.ireturn, 1) := by decide +kernel
theorem d_L_ask_29 : decode method_6_code 29 = .ok (.iconst 0, 1) := by decide +kernel
theorem d_L_ask_30 : decode method_6_code 30 = .ok (.ireturn, 1) := by decide +kernel
theorem d_L_letter_0 : decode method_7_code 0 = .ok (.aload_n 3, 1) := by decide +kernel
theorem d_L_letter_1 : decode method_7_code 1 = .ok (.iconst 0, 1) := by decide +kernel
theorem d_L_letter_2 : decode method_7_code 2 = .ok (.aload_n 0, 1) := by decide +kernel
theorem d_L_letter_3 : decode method_7_code 3 = .ok (.iload_n 1, 1) := by decide +kernel
theorem d_L_letter_4 : decode method_7_code 4 = .ok (.iload_n 2, 1) := by decide +kernel
theorem d_L_letter_5 : decode method_7_code 5 = .ok (.invokevirtual 31, 3) := by decide +kernel
theorem d_L_letter_8 : decode method_7_code 8 = .ok (.i2l, 1) := by decide +kernel
theorem d_L_letter_9 : decode method_7_code 9 = .ok (.lastore, 1) := by decide +kernel
theorem d_L_letter_10 : decode method_7_code 10 = .ok (.goto 11, 3) := by decide +kernel
theorem d_L_letter_13 : decode method_7_code 13 = .ok (.astore 4, 2) := by decide +kernel
theorem d_L_letter_15 : decode method_7_code 15 = .ok (.iconst 1, 1) := by decide +kernel
theorem d_L_letter_16 : decode method_7_code 16 = .ok (.ireturn, 1) := by decide +kernel
theorem d_L_letter_17 : decode method_7_code 17 = .ok (.astore 4, 2) := by decide +kernel
theorem d_L_letter_19 : decode method_7_code 19 = .ok (.iconst 2, 1) := by decide +kernel
theorem d_L_letter_20 : decode method_7_code 20 = .ok (.ireturn, 1) := by decide +kernel
theorem d_L_letter_21 : decode method_7_code 21 = .ok (.iconst 0, 1) := by decide +kernel
theorem d_L_letter_22 : decode method_7_code 22 = .ok (.ireturn, 1) := by decide +kernel
theorem d_L_deliver_0 : decode method_8_code 0 = .ok (.aload_n 2, 1) := by decide +kernel
theorem d_L_deliver_1 : decode method_8_code 1 = .ok (.iconst 0, 1) := by decide +kernel
theorem d_L_deliver_2 : decode method_8_code 2 = .ok (.aload_n 0, 1) := by decide +kernel
theorem d_L_deliver_3 : decode method_8_code 3 = .ok (.iload_n 1, 1) := by decide +kernel
theorem d_L_deliver_4 : decode method_8_code 4 = .ok (.invokevirtual 34, 3) := by decide +kernel
theorem d_L_deliver_7 : decode method_8_code 7 = .ok (.i2l, 1) := by decide +kernel
theorem d_L_deliver_8 : decode method_8_code 8 = .ok (.lastore, 1) := by decide +kernel
theorem d_L_deliver_9 : decode method_8_code 9 = .ok (.goto 6, 3) := by decide +kernel
theorem d_L_deliver_12 : decode method_8_code 12 = .ok (.astore_n 3, 1) := by decide +kernel
theorem d_L_deliver_13 : decode method_8_code 13 = .ok (.iconst 1, 1) := by decide +kernel
theorem d_L_deliver_14 : decode method_8_code 14 = .ok (.ireturn, 1) := by decide +kernel
theorem d_L_deliver_15 : decode method_8_code 15 = .ok (.iconst 0, 1) := by decide +kernel
theorem d_L_deliver_16 : decode method_8_code 16 = .ok (.ireturn, 1) := by decide +kernel
theorem d_L_lose_0 : decode method_9_code 0 = .ok (.aload_n 2, 1) := by decide +kernel
theorem d_L_lose_1 : decode method_9_code 1 = .ok (.iconst 0, 1) := by decide +kernel
theorem d_L_lose_2 : decode method_9_code 2 = .ok (.aload_n 0, 1) := by decide +kernel
theorem d_L_lose_3 : decode method_9_code 3 = .ok (.iload_n 1, 1) := by decide +kernel
theorem d_L_lose_4 : decode method_9_code 4 = .ok (.invokevirtual 37, 3) := by decide +kernel
theorem d_L_lose_7 : decode method_9_code 7 = .ok (.i2l, 1) := by decide +kernel
theorem d_L_lose_8 : decode method_9_code 8 = .ok (.lastore, 1) := by decide +kernel
theorem d_L_lose_9 : decode method_9_code 9 = .ok (.goto 6, 3) := by decide +kernel
theorem d_L_lose_12 : decode method_9_code 12 = .ok (.astore_n 3, 1) := by decide +kernel
theorem d_L_lose_13 : decode method_9_code 13 = .ok (.iconst 1, 1) := by decide +kernel
theorem d_L_lose_14 : decode method_9_code 14 = .ok (.ireturn, 1) := by decide +kernel
theorem d_L_lose_15 : decode method_9_code 15 = .ok (.iconst 0, 1) := by decide +kernel
theorem d_L_lose_16 : decode method_9_code 16 = .ok (.ireturn, 1) := by decide +kernel
theorem d_L_twin_0 : decode method_10_code 0 = .ok (.aload_n 2, 1) := by decide +kernel
theorem d_L_twin_1 : decode method_10_code 1 = .ok (.iconst 0, 1) := by decide +kernel
theorem d_L_twin_2 : decode method_10_code 2 = .ok (.aload_n 0, 1) := by decide +kernel
theorem d_L_twin_3 : decode method_10_code 3 = .ok (.iload_n 1, 1) := by decide +kernel
theorem d_L_twin_4 : decode method_10_code 4 = .ok (.invokevirtual 40, 3) := by decide +kernel
theorem d_L_twin_7 : decode method_10_code 7 = .ok (.ifCond .eq 7, 3) := by decide +kernel
theorem d_L_twin_10 : decode method_10_code 10 = .ok (.lconst 1, 1) := by decide +kernel
theorem d_L_twin_11 : decode method_10_code 11 = .ok (.goto 4, 3) := by decide +kernel
theorem d_L_twin_14 : decode method_10_code 14 = .ok (.lconst 0, 1) := by decide +kernel
theorem d_L_twin_15 : decode method_10_code 15 = .ok (.lastore, 1) := by decide +kernel
theorem d_L_twin_16 : decode method_10_code 16 = .ok (.goto 6, 3) := by decide +kernel
theorem d_L_twin_19 : decode method_10_code 19 = .ok (.astore_n 3, 1) := by decide +kernel
theorem d_L_twin_20 : decode method_10_code 20 = .ok (.iconst 1, 1) := by decide +kernel
theorem d_L_twin_21 : decode method_10_code 21 = .ok (.ireturn, 1) := by decide +kernel
theorem d_L_twin_22 : decode method_10_code 22 = .ok (.iconst 0, 1) := by decide +kernel
theorem d_L_twin_23 : decode method_10_code 23 = .ok (.ireturn, 1) := by decide +kernel
theorem d_L_run_0 : decode method_11_code 0 = .ok (.aload_n 2, 1) := by decide +kernel
theorem d_L_run_1 : decode method_11_code 1 = .ok (.iconst 0, 1) := by decide +kernel
theorem d_L_run_2 : decode method_11_code 2 = .ok (.aload_n 0, 1) := by decide +kernel
theorem d_L_run_3 : decode method_11_code 3 = .ok (.iload_n 1, 1) := by decide +kernel
theorem d_L_run_4 : decode method_11_code 4 = .ok (.invokevirtual 44, 3) := by decide +kernel
theorem d_L_run_7 : decode method_11_code 7 = .ok (.i2l, 1) := by decide +kernel
theorem d_L_run_8 : decode method_11_code 8 = .ok (.lastore, 1) := by decide +kernel
theorem d_L_run_9 : decode method_11_code 9 = .ok (.goto 6, 3) := by decide +kernel
theorem d_L_run_12 : decode method_11_code 12 = .ok (.astore_n 3, 1) := by decide +kernel
theorem d_L_run_13 : decode method_11_code 13 = .ok (.iconst 1, 1) := by decide +kernel
theorem d_L_run_14 : decode method_11_code 14 = .ok (.ireturn, 1) := by decide +kernel
theorem d_L_run_15 : decode method_11_code 15 = .ok (.iconst 0, 1) := by decide +kernel
theorem d_L_run_16 : decode method_11_code 16 = .ok (.ireturn, 1) := by decide +kernel
theorem d_L_resend_0 : decode method_12_code 0 = .ok (.aload_n 2, 1) := by decide +kernel
theorem d_L_resend_1 : decode method_12_code 1 = .ok (.iconst 0, 1) := by decide +kernel
theorem d_L_resend_2 : decode method_12_code 2 = .ok (.aload_n 0, 1) := by decide +kernel
theorem d_L_resend_3 : decode method_12_code 3 = .ok (.iload_n 1, 1) := by decide +kernel
theorem d_L_resend_4 : decode method_12_code 4 = .ok (.invokevirtual 47, 3) := by decide +kernel
theorem d_L_resend_7 : decode method_12_code 7 = .ok (.i2l, 1) := by decide +kernel
theorem d_L_resend_8 : decode method_12_code 8 = .ok (.lastore, 1) := by decide +kernel
theorem d_L_resend_9 : decode method_12_code 9 = .ok (.goto 9, 3) := by decide +kernel
theorem d_L_resend_12 : decode method_12_code 12 = .ok (.astore_n 3, 1) := by decide +kernel
theorem d_L_resend_13 : decode method_12_code 13 = .ok (.iconst 1, 1) := by decide +kernel
theorem d_L_resend_14 : decode method_12_code 14 = .ok (.ireturn, 1) := by decide +kernel
theorem d_L_resend_15 : decode method_12_code 15 = .ok (.astore_n 3, 1) := by decide +kernel
theorem d_L_resend_16 : decode method_12_code 16 = .ok (.iconst 2, 1) := by decide +kernel
theorem d_L_resend_17 : decode method_12_code 17 = .ok (.ireturn, 1) := by decide +kernel
theorem d_L_resend_18 : decode method_12_code 18 = .ok (.iconst 0, 1) := by decide +kernel
theorem d_L_resend_19 : decode method_12_code 19 = .ok (.ireturn, 1) := by decide +kernel
theorem d_L_takeOver_0 : decode method_13_code 0 = .ok (.aload_n 3, 1) := by decide +kernel
theorem d_L_takeOver_1 : decode method_13_code 1 = .ok (.iconst 0, 1) := by decide +kernel
theorem d_L_takeOver_2 : decode method_13_code 2 = .ok (.aload_n 0, 1) := by decide +kernel
theorem d_L_takeOver_3 : decode method_13_code 3 = .ok (.iload_n 1, 1) := by decide +kernel
theorem d_L_takeOver_4 : decode method_13_code 4 = .ok (.iload_n 2, 1) := by decide +kernel
theorem d_L_takeOver_5 : decode method_13_code 5 = .ok (.invokevirtual 50, 3) := by decide +kernel
theorem d_L_takeOver_8 : decode method_13_code 8 = .ok (.i2l, 1) := by decide +kernel
theorem d_L_takeOver_9 : decode method_13_code 9 = .ok (.lastore, 1) := by decide +kernel
theorem d_L_takeOver_10 : decode method_13_code 10 = .ok (.goto 11, 3) := by decide +kernel
theorem d_L_takeOver_13 : decode method_13_code 13 = .ok (.astore 4, 2) := by decide +kernel
theorem d_L_takeOver_15 : decode method_13_code 15 = .ok (.iconst 1, 1) := by decide +kernel
theorem d_L_takeOver_16 : decode method_13_code 16 = .ok (.ireturn, 1) := by decide +kernel
theorem d_L_takeOver_17 : decode method_13_code 17 = .ok (.astore 4, 2) := by decide +kernel
theorem d_L_takeOver_19 : decode method_13_code 19 = .ok (.iconst 2, 1) := by decide +kernel
theorem d_L_takeOver_20 : decode method_13_code 20 = .ok (.ireturn, 1) := by decide +kernel
theorem d_L_takeOver_21 : decode method_13_code 21 = .ok (.iconst 0, 1) := by decide +kernel
theorem d_L_takeOver_22 : decode method_13_code 22 = .ok (.ireturn, 1) := by decide +kernel
theorem d_L_crash_0 : decode method_14_code 0 = .ok (.aload_n 2, 1) := by decide +kernel
theorem d_L_crash_1 : decode method_14_code 1 = .ok (.iconst 0, 1) := by decide +kernel
theorem d_L_crash_2 : decode method_14_code 2 = .ok (.aload_n 0, 1) := by decide +kernel
theorem d_L_crash_3 : decode method_14_code 3 = .ok (.iload_n 1, 1) := by decide +kernel
theorem d_L_crash_4 : decode method_14_code 4 = .ok (.invokevirtual 53, 3) := by decide +kernel
theorem d_L_crash_7 : decode method_14_code 7 = .ok (.i2l, 1) := by decide +kernel
theorem d_L_crash_8 : decode method_14_code 8 = .ok (.lastore, 1) := by decide +kernel
theorem d_L_crash_9 : decode method_14_code 9 = .ok (.goto 6, 3) := by decide +kernel
theorem d_L_crash_12 : decode method_14_code 12 = .ok (.astore_n 3, 1) := by decide +kernel
theorem d_L_crash_13 : decode method_14_code 13 = .ok (.iconst 1, 1) := by decide +kernel
theorem d_L_crash_14 : decode method_14_code 14 = .ok (.ireturn, 1) := by decide +kernel
theorem d_L_crash_15 : decode method_14_code 15 = .ok (.iconst 0, 1) := by decide +kernel
theorem d_L_crash_16 : decode method_14_code 16 = .ok (.ireturn, 1) := by decide +kernel
theorem d_L_restart_0 : decode method_15_code 0 = .ok (.aload_n 0, 1) := by decide +kernel
theorem d_L_restart_1 : decode method_15_code 1 = .ok (.iload_n 1, 1) := by decide +kernel
theorem d_L_restart_2 : decode method_15_code 2 = .ok (.invokevirtual 56, 3) := by decide +kernel
theorem d_L_restart_5 : decode method_15_code 5 = .ok (.goto 6, 3) := by decide +kernel
theorem d_L_restart_8 : decode method_15_code 8 = .ok (.astore_n 2, 1) := by decide +kernel
theorem d_L_restart_9 : decode method_15_code 9 = .ok (.iconst 1, 1) := by decide +kernel
theorem d_L_restart_10 : decode method_15_code 10 = .ok (.ireturn, 1) := by decide +kernel
theorem d_L_restart_11 : decode method_15_code 11 = .ok (.iconst 0, 1) := by decide +kernel
theorem d_L_restart_12 : decode method_15_code 12 = .ok (.ireturn, 1) := by decide +kernel
theorem d_L_state_0 : decode method_16_code 0 = .ok (.aload_n 2, 1) := by decide +kernel
theorem d_L_state_1 : decode method_16_code 1 = .ok (.iconst 0, 1) := by decide +kernel
theorem d_L_state_2 : decode method_16_code 2 = .ok (.aload_n 0, 1) := by decide +kernel
theorem d_L_state_3 : decode method_16_code 3 = .ok (.iload_n 1, 1) := by decide +kernel
theorem d_L_state_4 : decode method_16_code 4 = .ok (.invokevirtual 60, 3) := by decide +kernel
theorem d_L_state_7 : decode method_16_code 7 = .ok (.i2l, 1) := by decide +kernel
theorem d_L_state_8 : decode method_16_code 8 = .ok (.lastore, 1) := by decide +kernel
theorem d_L_state_9 : decode method_16_code 9 = .ok (.goto 6, 3) := by decide +kernel
theorem d_L_state_12 : decode method_16_code 12 = .ok (.astore_n 3, 1) := by decide +kernel
theorem d_L_state_13 : decode method_16_code 13 = .ok (.iconst 1, 1) := by decide +kernel
theorem d_L_state_14 : decode method_16_code 14 = .ok (.ireturn, 1) := by decide +kernel
theorem d_L_state_15 : decode method_16_code 15 = .ok (.iconst 0, 1) := by decide +kernel
theorem d_L_state_16 : decode method_16_code 16 = .ok (.ireturn, 1) := by decide +kernel
theorem d_L_answer_0 : decode method_17_code 0 = .ok (.aload_n 2, 1) := by decide +kernel
theorem d_L_answer_1 : decode method_17_code 1 = .ok (.iconst 0, 1) := by decide +kernel
theorem d_L_answer_2 : decode method_17_code 2 = .ok (.aload_n 0, 1) := by decide +kernel
theorem d_L_answer_3 : decode method_17_code 3 = .ok (.iload_n 1, 1) := by decide +kernel
theorem d_L_answer_4 : decode method_17_code 4 = .ok (.invokevirtual 63, 3) := by decide +kernel
theorem d_L_answer_7 : decode method_17_code 7 = .ok (.lastore, 1) := by decide +kernel
theorem d_L_answer_8 : decode method_17_code 8 = .ok (.goto 9, 3) := by decide +kernel
theorem d_L_answer_11 : decode method_17_code 11 = .ok (.astore_n 3, 1) := by decide +kernel
theorem d_L_answer_12 : decode method_17_code 12 = .ok (.iconst 1, 1) := by decide +kernel
theorem d_L_answer_13 : decode method_17_code 13 = .ok (.ireturn, 1) := by decide +kernel
theorem d_L_answer_14 : decode method_17_code 14 = .ok (.astore_n 3, 1) := by decide +kernel
theorem d_L_answer_15 : decode method_17_code 15 = .ok (.iconst 2, 1) := by decide +kernel
theorem d_L_answer_16 : decode method_17_code 16 = .ok (.ireturn, 1) := by decide +kernel
theorem d_L_answer_17 : decode method_17_code 17 = .ok (.iconst 0, 1) := by decide +kernel
theorem d_L_answer_18 : decode method_17_code 18 = .ok (.ireturn, 1) := by decide +kernel
theorem d_L_found_0 : decode method_18_code 0 = .ok (.aload_n 3, 1) := by decide +kernel
theorem d_L_found_1 : decode method_18_code 1 = .ok (.iconst 0, 1) := by decide +kernel
theorem d_L_found_2 : decode method_18_code 2 = .ok (.aload_n 0, 1) := by decide +kernel
theorem d_L_found_3 : decode method_18_code 3 = .ok (.iload_n 1, 1) := by decide +kernel
theorem d_L_found_4 : decode method_18_code 4 = .ok (.iload_n 2, 1) := by decide +kernel
theorem d_L_found_5 : decode method_18_code 5 = .ok (.invokevirtual 67, 3) := by decide +kernel
theorem d_L_found_8 : decode method_18_code 8 = .ok (.i2l, 1) := by decide +kernel
theorem d_L_found_9 : decode method_18_code 9 = .ok (.lastore, 1) := by decide +kernel
theorem d_L_found_10 : decode method_18_code 10 = .ok (.goto 11, 3) := by decide +kernel
theorem d_L_found_13 : decode method_18_code 13 = .ok (.astore 4, 2) := by decide +kernel
theorem d_L_found_15 : decode method_18_code 15 = .ok (.iconst 1, 1) := by decide +kernel
theorem d_L_found_16 : decode method_18_code 16 = .ok (.ireturn, 1) := by decide +kernel
theorem d_L_found_17 : decode method_18_code 17 = .ok (.astore 4, 2) := by decide +kernel
theorem d_L_found_19 : decode method_18_code 19 = .ok (.iconst 2, 1) := by decide +kernel
theorem d_L_found_20 : decode method_18_code 20 = .ok (.ireturn, 1) := by decide +kernel
theorem d_L_found_21 : decode method_18_code 21 = .ok (.iconst 0, 1) := by decide +kernel
theorem d_L_found_22 : decode method_18_code 22 = .ok (.ireturn, 1) := by decide +kernel
theorem d_L_about_0 : decode method_19_code 0 = .ok (.aload_n 3, 1) := by decide +kernel
theorem d_L_about_1 : decode method_19_code 1 = .ok (.iconst 0, 1) := by decide +kernel
theorem d_L_about_2 : decode method_19_code 2 = .ok (.aload_n 0, 1) := by decide +kernel
theorem d_L_about_3 : decode method_19_code 3 = .ok (.iload_n 1, 1) := by decide +kernel
theorem d_L_about_4 : decode method_19_code 4 = .ok (.iload_n 2, 1) := by decide +kernel
theorem d_L_about_5 : decode method_19_code 5 = .ok (.invokevirtual 71, 3) := by decide +kernel
theorem d_L_about_8 : decode method_19_code 8 = .ok (.i2l, 1) := by decide +kernel
theorem d_L_about_9 : decode method_19_code 9 = .ok (.lastore, 1) := by decide +kernel
theorem d_L_about_10 : decode method_19_code 10 = .ok (.goto 11, 3) := by decide +kernel
theorem d_L_about_13 : decode method_19_code 13 = .ok (.astore 4, 2) := by decide +kernel
theorem d_L_about_15 : decode method_19_code 15 = .ok (.iconst 1, 1) := by decide +kernel
theorem d_L_about_16 : decode method_19_code 16 = .ok (.ireturn, 1) := by decide +kernel
theorem d_L_about_17 : decode method_19_code 17 = .ok (.astore 4, 2) := by decide +kernel
theorem d_L_about_19 : decode method_19_code 19 = .ok (.iconst 2, 1) := by decide +kernel
theorem d_L_about_20 : decode method_19_code 20 = .ok (.ireturn, 1) := by decide +kernel
theorem d_L_about_21 : decode method_19_code 21 = .ok (.iconst 0, 1) := by decide +kernel
theorem d_L_about_22 : decode method_19_code 22 = .ok (.ireturn, 1) := by decide +kernel
theorem d_L_mark_0 : decode method_20_code 0 = .ok (.aload_n 3, 1) := by decide +kernel
theorem d_L_mark_1 : decode method_20_code 1 = .ok (.iconst 0, 1) := by decide +kernel
theorem d_L_mark_2 : decode method_20_code 2 = .ok (.aload_n 0, 1) := by decide +kernel
theorem d_L_mark_3 : decode method_20_code 3 = .ok (.iload_n 1, 1) := by decide +kernel
theorem d_L_mark_4 : decode method_20_code 4 = .ok (.iload_n 2, 1) := by decide +kernel
theorem d_L_mark_5 : decode method_20_code 5 = .ok (.invokevirtual 74, 3) := by decide +kernel
theorem d_L_mark_8 : decode method_20_code 8 = .ok (.i2l, 1) := by decide +kernel
theorem d_L_mark_9 : decode method_20_code 9 = .ok (.lastore, 1) := by decide +kernel
theorem d_L_mark_10 : decode method_20_code 10 = .ok (.goto 7, 3) := by decide +kernel
theorem d_L_mark_13 : decode method_20_code 13 = .ok (.astore 4, 2) := by decide +kernel
theorem d_L_mark_15 : decode method_20_code 15 = .ok (.iconst 1, 1) := by decide +kernel
theorem d_L_mark_16 : decode method_20_code 16 = .ok (.ireturn, 1) := by decide +kernel
theorem d_L_mark_17 : decode method_20_code 17 = .ok (.iconst 0, 1) := by decide +kernel
theorem d_L_mark_18 : decode method_20_code 18 = .ok (.ireturn, 1) := by decide +kernel
theorem d_L_forget_0 : decode method_21_code 0 = .ok (.aload_n 2, 1) := by decide +kernel
theorem d_L_forget_1 : decode method_21_code 1 = .ok (.iconst 0, 1) := by decide +kernel
theorem d_L_forget_2 : decode method_21_code 2 = .ok (.aload_n 0, 1) := by decide +kernel
theorem d_L_forget_3 : decode method_21_code 3 = .ok (.iload_n 1, 1) := by decide +kernel
theorem d_L_forget_4 : decode method_21_code 4 = .ok (.invokevirtual 77, 3) := by decide +kernel
theorem d_L_forget_7 : decode method_21_code 7 = .ok (.i2l, 1) := by decide +kernel
theorem d_L_forget_8 : decode method_21_code 8 = .ok (.lastore, 1) := by decide +kernel
theorem d_L_forget_9 : decode method_21_code 9 = .ok (.goto 6, 3) := by decide +kernel
theorem d_L_forget_12 : decode method_21_code 12 = .ok (.astore_n 3, 1) := by decide +kernel
theorem d_L_forget_13 : decode method_21_code 13 = .ok (.iconst 1, 1) := by decide +kernel
theorem d_L_forget_14 : decode method_21_code 14 = .ok (.ireturn, 1) := by decide +kernel
theorem d_L_forget_15 : decode method_21_code 15 = .ok (.iconst 0, 1) := by decide +kernel
theorem d_L_forget_16 : decode method_21_code 16 = .ok (.ireturn, 1) := by decide +kernel
