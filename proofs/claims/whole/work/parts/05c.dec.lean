theorem d_Post_init_0 : decode prog_4_method_1_code 0 = .ok (.aload_n 0, 1) := by decide +kernel
theorem d_Post_init_1 : decode prog_4_method_1_code 1 = .ok (.invokespecial 3, 3) := by decide +kernel
theorem d_Post_init_4 : decode prog_4_method_1_code 4 = .ok (.aload_n 0, 1) := by decide +kernel
theorem d_Post_init_5 : decode prog_4_method_1_code 5 = .ok (.bipush 97, 2) := by decide +kernel
theorem d_Post_init_7 : decode prog_4_method_1_code 7 = .ok (.anewarray 9, 3) := by decide +kernel
theorem d_Post_init_10 : decode prog_4_method_1_code 10 = .ok (.putfield 11, 3) := by decide +kernel
theorem d_Post_init_13 : decode prog_4_method_1_code 13 = .ok (.aload_n 0, 1) := by decide +kernel
theorem d_Post_init_14 : decode prog_4_method_1_code 14 = .ok (.bipush 97, 2) := by decide +kernel
theorem d_Post_init_16 : decode prog_4_method_1_code 16 = .ok (.newarray .int, 2) := by decide +kernel
theorem d_Post_init_18 : decode prog_4_method_1_code 18 = .ok (.putfield 17, 3) := by decide +kernel
theorem d_Post_init_21 : decode prog_4_method_1_code 21 = .ok (.iconst 0, 1) := by decide +kernel
theorem d_Post_init_22 : decode prog_4_method_1_code 22 = .ok (.istore_n 1, 1) := by decide +kernel
theorem d_Post_init_23 : decode prog_4_method_1_code 23 = .ok (.iload_n 1, 1) := by decide +kernel
theorem d_Post_init_24 : decode prog_4_method_1_code 24 = .ok (.bipush 96, 2) := by decide +kernel
theorem d_Post_init_26 : decode prog_4_method_1_code 26 = .ok (.if_icmp .gt 29, 3) := by decide +kernel
theorem d_Post_init_29 : decode prog_4_method_1_code 29 = .ok (.aload_n 0, 1) := by decide +kernel
theorem d_Post_init_30 : decode prog_4_method_1_code 30 = .ok (.getfield 11, 3) := by decide +kernel
theorem d_Post_init_33 : decode prog_4_method_1_code 33 = .ok (.iload_n 1, 1) := by decide +kernel
theorem d_Post_init_34 : decode prog_4_method_1_code 34 = .ok (.new 9, 3) := by decide +kernel
theorem d_Post_init_37 : decode prog_4_method_1_code 37 = .ok (.dup, 1) := by decide +kernel
theorem d_Post_init_38 : decode prog_4_method_1_code 38 = .ok (.invokespecial 21, 3) := by decide +kernel
theorem d_Post_init_41 : decode prog_4_method_1_code 41 = .ok (.aastore, 1) := by decide +kernel
theorem d_Post_init_42 : decode prog_4_method_1_code 42 = .ok (.aload_n 0, 1) := by decide +kernel
theorem d_Post_init_43 : decode prog_4_method_1_code 43 = .ok (.getfield 17, 3) := by decide +kernel
theorem d_Post_init_46 : decode prog_4_method_1_code 46 = .ok (.iload_n 1, 1) := by decide +kernel
theorem d_Post_init_47 : decode prog_4_method_1_code 47 = .ok (.iload_n 1, 1) := by decide +kernel
theorem d_Post_init_48 : decode prog_4_method_1_code 48 = .ok (.iastore, 1) := by decide +kernel
theorem d_Post_init_49 : decode prog_4_method_1_code 49 = .ok (.iinc 1 1, 3) := by decide +kernel
theorem d_Post_init_52 : decode prog_4_method_1_code 52 = .ok (.goto (-29), 3) := by decide +kernel
theorem d_Post_init_55 : decode prog_4_method_1_code 55 = .ok (.return_, 1) := by decide +kernel
theorem d_Post_at_0 : decode prog_4_method_2_code 0 = .ok (.aload_n 0, 1) := by decide +kernel
theorem d_Post_at_1 : decode prog_4_method_2_code 1 = .ok (.getfield 11, 3) := by decide +kernel
theorem d_Post_at_4 : decode prog_4_method_2_code 4 = .ok (.aload_n 0, 1) := by decide +kernel
theorem d_Post_at_5 : decode prog_4_method_2_code 5 = .ok (.getfield 17, 3) := by decide +kernel
theorem d_Post_at_8 : decode prog_4_method_2_code 8 = .ok (.iload_n 1, 1) := by decide +kernel
theorem d_Post_at_9 : decode prog_4_method_2_code 9 = .ok (.iaload, 1) := by decide +kernel
theorem d_Post_at_10 : decode prog_4_method_2_code 10 = .ok (.aaload, 1) := by decide +kernel
theorem d_Post_at_11 : decode prog_4_method_2_code 11 = .ok (.areturn, 1) := by decide +kernel
theorem d_Post_send_0 : decode prog_4_method_3_code 0 = .ok (.aload_n 0, 1) := by decide +kernel
theorem d_Post_send_1 : decode prog_4_method_3_code 1 = .ok (.getfield 22, 3) := by decide +kernel
theorem d_Post_send_4 : decode prog_4_method_3_code 4 = .ok (.bipush 96, 2) := by decide +kernel
theorem d_Post_send_6 : decode prog_4_method_3_code 6 = .ok (.if_icmp .lt 5, 3) := by decide +kernel
theorem d_Post_send_9 : decode prog_4_method_3_code 9 = .ok (.aconst_null, 1) := by decide +kernel
theorem d_Post_send_10 : decode prog_4_method_3_code 10 = .ok (.areturn, 1) := by decide +kernel
theorem d_Post_send_11 : decode prog_4_method_3_code 11 = .ok (.aload_n 0, 1) := by decide +kernel
theorem d_Post_send_12 : decode prog_4_method_3_code 12 = .ok (.dup, 1) := by decide +kernel
theorem d_Post_send_13 : decode prog_4_method_3_code 13 = .ok (.getfield 22, 3) := by decide +kernel
theorem d_Post_send_16 : decode prog_4_method_3_code 16 = .ok (.iconst 1, 1) := by decide +kernel
theorem d_Post_send_17 : decode prog_4_method_3_code 17 = .ok (.iadd, 1) := by decide +kernel
theorem d_Post_send_18 : decode prog_4_method_3_code 18 = .ok (.putfield 22, 3) := by decide +kernel
theorem d_Post_send_21 : decode prog_4_method_3_code 21 = .ok (.aload_n 0, 1) := by decide +kernel
theorem d_Post_send_22 : decode prog_4_method_3_code 22 = .ok (.aload_n 0, 1) := by decide +kernel
theorem d_Post_send_23 : decode prog_4_method_3_code 23 = .ok (.getfield 22, 3) := by decide +kernel
theorem d_Post_send_26 : decode prog_4_method_3_code 26 = .ok (.iconst 1, 1) := by decide +kernel
theorem d_Post_send_27 : decode prog_4_method_3_code 27 = .ok (.isub, 1) := by decide +kernel
theorem d_Post_send_28 : decode prog_4_method_3_code 28 = .ok (.invokevirtual 26, 3) := by decide +kernel
theorem d_Post_send_31 : decode prog_4_method_3_code 31 = .ok (.areturn, 1) := by decide +kernel
theorem d_Post_takeOut_0 : decode prog_4_method_4_code 0 = .ok (.aload_n 0, 1) := by decide +kernel
theorem d_Post_takeOut_1 : decode prog_4_method_4_code 1 = .ok (.getfield 17, 3) := by decide +kernel
theorem d_Post_takeOut_4 : decode prog_4_method_4_code 4 = .ok (.iload_n 1, 1) := by decide +kernel
theorem d_Post_takeOut_5 : decode prog_4_method_4_code 5 = .ok (.iaload, 1) := by decide +kernel
theorem d_Post_takeOut_6 : decode prog_4_method_4_code 6 = .ok (.istore_n 2, 1) := by decide +kernel
theorem d_Post_takeOut_7 : decode prog_4_method_4_code 7 = .ok (.aload_n 0, 1) := by decide +kernel
theorem d_Post_takeOut_8 : decode prog_4_method_4_code 8 = .ok (.getfield 17, 3) := by decide +kernel
theorem d_Post_takeOut_11 : decode prog_4_method_4_code 11 = .ok (.iload_n 1, 1) := by decide +kernel
theorem d_Post_takeOut_12 : decode prog_4_method_4_code 12 = .ok (.iconst 1, 1) := by decide +kernel
theorem d_Post_takeOut_13 : decode prog_4_method_4_code 13 = .ok (.iadd, 1) := by decide +kernel
theorem d_Post_takeOut_14 : decode prog_4_method_4_code 14 = .ok (.aload_n 0, 1) := by decide +kernel
theorem d_Post_takeOut_15 : decode prog_4_method_4_code 15 = .ok (.getfield 17, 3) := by decide +kernel
theorem d_Post_takeOut_18 : decode prog_4_method_4_code 18 = .ok (.iload_n 1, 1) := by decide +kernel
theorem d_Post_takeOut_19 : decode prog_4_method_4_code 19 = .ok (.bipush 96, 2) := by decide +kernel
theorem d_Post_takeOut_21 : decode prog_4_method_4_code 21 = .ok (.iload_n 1, 1) := by decide +kernel
theorem d_Post_takeOut_22 : decode prog_4_method_4_code 22 = .ok (.isub, 1) := by decide +kernel
theorem d_Post_takeOut_23 : decode prog_4_method_4_code 23 = .ok (.invokestatic 30, 3) := by decide +kernel
theorem d_Post_takeOut_26 : decode prog_4_method_4_code 26 = .ok (.aload_n 0, 1) := by decide +kernel
theorem d_Post_takeOut_27 : decode prog_4_method_4_code 27 = .ok (.getfield 17, 3) := by decide +kernel
theorem d_Post_takeOut_30 : decode prog_4_method_4_code 30 = .ok (.bipush 96, 2) := by decide +kernel
theorem d_Post_takeOut_32 : decode prog_4_method_4_code 32 = .ok (.iload_n 2, 1) := by decide +kernel
theorem d_Post_takeOut_33 : decode prog_4_method_4_code 33 = .ok (.iastore, 1) := by decide +kernel
theorem d_Post_takeOut_34 : decode prog_4_method_4_code 34 = .ok (.aload_n 0, 1) := by decide +kernel
theorem d_Post_takeOut_35 : decode prog_4_method_4_code 35 = .ok (.dup, 1) := by decide +kernel
theorem d_Post_takeOut_36 : decode prog_4_method_4_code 36 = .ok (.getfield 22, 3) := by decide +kernel
theorem d_Post_takeOut_39 : decode prog_4_method_4_code 39 = .ok (.iconst 1, 1) := by decide +kernel
theorem d_Post_takeOut_40 : decode prog_4_method_4_code 40 = .ok (.isub, 1) := by decide +kernel
theorem d_Post_takeOut_41 : decode prog_4_method_4_code 41 = .ok (.putfield 22, 3) := by decide +kernel
theorem d_Post_takeOut_44 : decode prog_4_method_4_code 44 = .ok (.aload_n 0, 1) := by decide +kernel
theorem d_Post_takeOut_45 : decode prog_4_method_4_code 45 = .ok (.getfield 11, 3) := by decide +kernel
theorem d_Post_takeOut_48 : decode prog_4_method_4_code 48 = .ok (.iload_n 2, 1) := by decide +kernel
theorem d_Post_takeOut_49 : decode prog_4_method_4_code 49 = .ok (.aaload, 1) := by decide +kernel
theorem d_Post_takeOut_50 : decode prog_4_method_4_code 50 = .ok (.areturn, 1) := by decide +kernel
theorem d_Post_loseAllOf_0 : decode prog_4_method_5_code 0 = .ok (.aload_n 0, 1) := by decide +kernel
theorem d_Post_loseAllOf_1 : decode prog_4_method_5_code 1 = .ok (.getfield 22, 3) := by decide +kernel
theorem d_Post_loseAllOf_4 : decode prog_4_method_5_code 4 = .ok (.iconst 1, 1) := by decide +kernel
theorem d_Post_loseAllOf_5 : decode prog_4_method_5_code 5 = .ok (.isub, 1) := by decide +kernel
theorem d_Post_loseAllOf_6 : decode prog_4_method_5_code 6 = .ok (.istore_n 2, 1) := by decide +kernel
theorem d_Post_loseAllOf_7 : decode prog_4_method_5_code 7 = .ok (.iload_n 2, 1) := by decide +kernel
theorem d_Post_loseAllOf_8 : decode prog_4_method_5_code 8 = .ok (.ifCond .lt 27, 3) := by decide +kernel
theorem d_Post_loseAllOf_11 : decode prog_4_method_5_code 11 = .ok (.aload_n 0, 1) := by decide +kernel
theorem d_Post_loseAllOf_12 : decode prog_4_method_5_code 12 = .ok (.iload_n 2, 1) := by decide +kernel
theorem d_Post_loseAllOf_13 : decode prog_4_method_5_code 13 = .ok (.invokevirtual 26, 3) := by decide +kernel
theorem d_Post_loseAllOf_16 : decode prog_4_method_5_code 16 = .ok (.getfield 36, 3) := by decide +kernel
theorem d_Post_loseAllOf_19 : decode prog_4_method_5_code 19 = .ok (.iload_n 1, 1) := by decide +kernel
theorem d_Post_loseAllOf_20 : decode prog_4_method_5_code 20 = .ok (.if_icmp .ne 9, 3) := by decide +kernel
theorem d_Post_loseAllOf_23 : decode prog_4_method_5_code 23 = .ok (.aload_n 0, 1) := by decide +kernel
theorem d_Post_loseAllOf_24 : decode prog_4_method_5_code 24 = .ok (.iload_n 2, 1) := by decide +kernel
theorem d_Post_loseAllOf_25 : decode prog_4_method_5_code 25 = .ok (.invokevirtual 39, 3) := by decide +kernel
theorem d_Post_loseAllOf_28 : decode prog_4_method_5_code 28 = .ok (.pop, 1) := by decide +kernel
theorem d_Post_loseAllOf_29 : decode prog_4_method_5_code 29 = .ok (.iinc 2 (-1), 3) := by decide +kernel
theorem d_Post_loseAllOf_32 : decode prog_4_method_5_code 32 = .ok (.goto (-25), 3) := by decide +kernel
theorem d_Post_loseAllOf_35 : decode prog_4_method_5_code 35 = .ok (.return_, 1) := by decide +kernel
theorem d_Replies_init_0 : decode prog_6_method_1_code 0 = .ok (.aload_n 0, 1) := by decide +kernel
theorem d_Replies_init_1 : decode prog_6_method_1_code 1 = .ok (.invokespecial 3, 3) := by decide +kernel
theorem d_Replies_init_4 : decode prog_6_method_1_code 4 = .ok (.aload_n 0, 1) := by decide +kernel
theorem d_Replies_init_5 : decode prog_6_method_1_code 5 = .ok (.bipush 8, 2) := by decide +kernel
theorem d_Replies_init_7 : decode prog_6_method_1_code 7 = .ok (.newarray .boolean, 2) := by decide +kernel
theorem d_Replies_init_9 : decode prog_6_method_1_code 9 = .ok (.putfield 9, 3) := by decide +kernel
theorem d_Replies_init_12 : decode prog_6_method_1_code 12 = .ok (.aload_n 0, 1) := by decide +kernel
theorem d_Replies_init_13 : decode prog_6_method_1_code 13 = .ok (.bipush 8, 2) := by decide +kernel
theorem d_Replies_init_15 : decode prog_6_method_1_code 15 = .ok (.iconst 3, 1) := by decide +kernel
theorem d_Replies_init_16 : decode prog_6_method_1_code 16 = .ok (.multianewarray 15 2, 4) := by decide +kernel
theorem d_Replies_init_20 : decode prog_6_method_1_code 20 = .ok (.putfield 17, 3) := by decide +kernel
theorem d_Replies_init_23 : decode prog_6_method_1_code 23 = .ok (.aload_n 0, 1) := by decide +kernel
theorem d_Replies_init_24 : decode prog_6_method_1_code 24 = .ok (.new 20, 3) := by decide +kernel
theorem d_Replies_init_27 : decode prog_6_method_1_code 27 = .ok (.dup, 1) := by decide +kernel
theorem d_Replies_init_28 : decode prog_6_method_1_code 28 = .ok (.bipush 64, 2) := by decide +kernel
theorem d_Replies_init_30 : decode prog_6_method_1_code 30 = .ok (.invokespecial 22, 3) := by decide +kernel
theorem d_Replies_init_33 : decode prog_6_method_1_code 33 = .ok (.putfield 25, 3) := by decide +kernel
theorem d_Replies_init_36 : decode prog_6_method_1_code 36 = .ok (.return_, 1) := by decide +kernel
theorem d_Replies_clear_0 : decode prog_6_method_2_code 0 = .ok (.iconst 0, 1) := by decide +kernel
theorem d_Replies_clear_1 : decode prog_6_method_2_code 1 = .ok (.istore_n 1, 1) := by decide +kernel
theorem d_Replies_clear_2 : decode prog_6_method_2_code 2 = .ok (.iload_n 1, 1) := by decide +kernel
theorem d_Replies_clear_3 : decode prog_6_method_2_code 3 = .ok (.bipush 8, 2) := by decide +kernel
theorem d_Replies_clear_5 : decode prog_6_method_2_code 5 = .ok (.if_icmp .ge 16, 3) := by decide +kernel
theorem d_Replies_clear_8 : decode prog_6_method_2_code 8 = .ok (.aload_n 0, 1) := by decide +kernel
theorem d_Replies_clear_9 : decode prog_6_method_2_code 9 = .ok (.getfield 9, 3) := by decide +kernel
theorem d_Replies_clear_12 : decode prog_6_method_2_code 12 = .ok (.iload_n 1, 1) := by decide +kernel
theorem d_Replies_clear_13 : decode prog_6_method_2_code 13 = .ok (.iconst 0, 1) := by decide +kernel
theorem d_Replies_clear_14 : decode prog_6_method_2_code 14 = .ok (.bastore, 1) := by decide +kernel
theorem d_Replies_clear_15 : decode prog_6_method_2_code 15 = .ok (.iinc 1 1, 3) := by decide +kernel
theorem d_Replies_clear_18 : decode prog_6_method_2_code 18 = .ok (.goto (-16), 3) := by decide +kernel
theorem d_Replies_clear_21 : decode prog_6_method_2_code 21 = .ok (.aload_n 0, 1) := by decide +kernel
theorem d_Replies_clear_22 : decode prog_6_method_2_code 22 = .ok (.getfield 25, 3) := by decide +kernel
theorem d_Replies_clear_25 : decode prog_6_method_2_code 25 = .ok (.iconst 0, 1) := by decide +kernel
theorem d_Replies_clear_26 : decode prog_6_method_2_code 26 = .ok (.putfield 29, 3) := by decide +kernel
theorem d_Replies_clear_29 : decode prog_6_method_2_code 29 = .ok (.aload_n 0, 1) := by decide +kernel
theorem d_Replies_clear_30 : decode prog_6_method_2_code 30 = .ok (.lconst 0, 1) := by decide +kernel
theorem d_Replies_clear_31 : decode prog_6_method_2_code 31 = .ok (.putfield 33, 3) := by decide +kernel
theorem d_Replies_clear_34 : decode prog_6_method_2_code 34 = .ok (.aload_n 0, 1) := by decide +kernel
theorem d_Replies_clear_35 : decode prog_6_method_2_code 35 = .ok (.iconst 0, 1) := by decide +kernel
theorem d_Replies_clear_36 : decode prog_6_method_2_code 36 = .ok (.putfield 37, 3) := by decide +kernel
theorem d_Replies_clear_39 : decode prog_6_method_2_code 39 = .ok (.return_, 1) := by decide +kernel
theorem d_Replies_hear_0 : decode prog_6_method_3_code 0 = .ok (.aload_n 0, 1) := by decide +kernel
theorem d_Replies_hear_1 : decode prog_6_method_3_code 1 = .ok (.getfield 9, 3) := by decide +kernel
theorem d_Replies_hear_4 : decode prog_6_method_3_code 4 = .ok (.aload_n 1, 1) := by decide +kernel
theorem d_Replies_hear_5 : decode prog_6_method_3_code 5 = .ok (.getfield 40, 3) := by decide +kernel
theorem d_Replies_hear_8 : decode prog_6_method_3_code 8 = .ok (.iconst 1, 1) := by decide +kernel
theorem d_Replies_hear_9 : decode prog_6_method_3_code 9 = .ok (.bastore, 1) := by decide +kernel
theorem d_Replies_hear_10 : decode prog_6_method_3_code 10 = .ok (.aload_n 0, 1) := by decide +kernel
theorem d_Replies_hear_11 : decode prog_6_method_3_code 11 = .ok (.dup, 1) := by decide +kernel
theorem d_Replies_hear_12 : decode prog_6_method_3_code 12 = .ok (.getfield 37, 3) := by decide +kernel
theorem d_Replies_hear_15 : decode prog_6_method_3_code 15 = .ok (.iconst 1, 1) := by decide +kernel
theorem d_Replies_hear_16 : decode prog_6_method_3_code 16 = .ok (.iadd, 1) := by decide +kernel
theorem d_Replies_hear_17 : decode prog_6_method_3_code 17 = .ok (.putfield 37, 3) := by decide +kernel
theorem d_Replies_hear_20 : decode prog_6_method_3_code 20 = .ok (.aload_n 0, 1) := by decide +kernel
theorem d_Replies_hear_21 : decode prog_6_method_3_code 21 = .ok (.dup, 1) := by decide +kernel
theorem d_Replies_hear_22 : decode prog_6_method_3_code 22 = .ok (.getfield 33, 3) := by decide +kernel
theorem d_Replies_hear_25 : decode prog_6_method_3_code 25 = .ok (.aload_n 1, 1) := by decide +kernel
theorem d_Replies_hear_26 : decode prog_6_method_3_code 26 = .ok (.getfield 45, 3) := by decide +kernel
theorem d_Replies_hear_29 : decode prog_6_method_3_code 29 = .ok (.ladd, 1) := by decide +kernel
theorem d_Replies_hear_30 : decode prog_6_method_3_code 30 = .ok (.putfield 33, 3) := by decide +kernel
theorem d_Replies_hear_33 : decode prog_6_method_3_code 33 = .ok (.iconst 0, 1) := by decide +kernel
theorem d_Replies_hear_34 : decode prog_6_method_3_code 34 = .ok (.istore_n 2, 1) := by decide +kernel
theorem d_Replies_hear_35 : decode prog_6_method_3_code 35 = .ok (.iload_n 2, 1) := by decide +kernel
theorem d_Replies_hear_36 : decode prog_6_method_3_code 36 = .ok (.iconst 3, 1) := by decide +kernel
theorem d_Replies_hear_37 : decode prog_6_method_3_code 37 = .ok (.if_icmp .ge 25, 3) := by decide +kernel
theorem d_Replies_hear_40 : decode prog_6_method_3_code 40 = .ok (.aload_n 0, 1) := by decide +kernel
theorem d_Replies_hear_41 : decode prog_6_method_3_code 41 = .ok (.getfield 17, 3) := by decide +kernel
theorem d_Replies_hear_44 : decode prog_6_method_3_code 44 = .ok (.aload_n 1, 1) := by decide +kernel
theorem d_Replies_hear_45 : decode prog_6_method_3_code 45 = .ok (.getfield 40, 3) := by decide +kernel
theorem d_Replies_hear_48 : decode prog_6_method_3_code 48 = .ok (.aaload, 1) := by decide +kernel
theorem d_Replies_hear_49 : decode prog_6_method_3_code 49 = .ok (.iload_n 2, 1) := by decide +kernel
theorem d_Replies_hear_50 : decode prog_6_method_3_code 50 = .ok (.aload_n 1, 1) := by decide +kernel
theorem d_Replies_hear_51 : decode prog_6_method_3_code 51 = .ok (.iload_n 2, 1) := by decide +kernel
theorem d_Replies_hear_52 : decode prog_6_method_3_code 52 = .ok (.invokevirtual 46, 3) := by decide +kernel
theorem d_Replies_hear_55 : decode prog_6_method_3_code 55 = .ok (.iastore, 1) := by decide +kernel
theorem d_Replies_hear_56 : decode prog_6_method_3_code 56 = .ok (.iinc 2 1, 3) := by decide +kernel
theorem d_Replies_hear_59 : decode prog_6_method_3_code 59 = .ok (.goto (-24), 3) := by decide +kernel
theorem d_Replies_hear_62 : decode prog_6_method_3_code 62 = .ok (.aload_n 1, 1) := by decide +kernel
theorem d_Replies_hear_63 : decode prog_6_method_3_code 63 = .ok (.getfield 50, 3) := by decide +kernel
theorem d_Replies_hear_66 : decode prog_6_method_3_code 66 = .ok (.bipush 8, 2) := by decide +kernel
theorem d_Replies_hear_68 : decode prog_6_method_3_code 68 = .ok (.if_icmp .ne 31, 3) := by decide +kernel
theorem d_Replies_hear_71 : decode prog_6_method_3_code 71 = .ok (.iconst 0, 1) := by decide +kernel
theorem d_Replies_hear_72 : decode prog_6_method_3_code 72 = .ok (.istore_n 2, 1) := by decide +kernel
theorem d_Replies_hear_73 : decode prog_6_method_3_code 73 = .ok (.iload_n 2, 1) := by decide +kernel
theorem d_Replies_hear_74 : decode prog_6_method_3_code 74 = .ok (.aload_n 1, 1) := by decide +kernel
theorem d_Replies_hear_75 : decode prog_6_method_3_code 75 = .ok (.getfield 53, 3) := by decide +kernel
theorem d_Replies_hear_78 : decode prog_6_method_3_code 78 = .ok (.if_icmp .ge 21, 3) := by decide +kernel
theorem d_Replies_hear_81 : decode prog_6_method_3_code 81 = .ok (.aload_n 0, 1) := by decide +kernel
theorem d_Replies_hear_82 : decode prog_6_method_3_code 82 = .ok (.getfield 25, 3) := by decide +kernel
theorem d_Replies_hear_85 : decode prog_6_method_3_code 85 = .ok (.aload_n 1, 1) := by decide +kernel
theorem d_Replies_hear_86 : decode prog_6_method_3_code 86 = .ok (.iload_n 2, 1) := by decide +kernel
theorem d_Replies_hear_87 : decode prog_6_method_3_code 87 = .ok (.invokevirtual 46, 3) := by decide +kernel
theorem d_Replies_hear_90 : decode prog_6_method_3_code 90 = .ok (.invokevirtual 56, 3) := by decide +kernel
theorem d_Replies_hear_93 : decode prog_6_method_3_code 93 = .ok (.iinc 2 1, 3) := by decide +kernel
theorem d_Replies_hear_96 : decode prog_6_method_3_code 96 = .ok (.goto (-23), 3) := by decide +kernel
theorem d_Replies_hear_99 : decode prog_6_method_3_code 99 = .ok (.return_, 1) := by decide +kernel
theorem d_Replies_total_0 : decode prog_6_method_4_code 0 = .ok (.iconst 0, 1) := by decide +kernel
theorem d_Replies_total_1 : decode prog_6_method_4_code 1 = .ok (.istore_n 2, 1) := by decide +kernel
theorem d_Replies_total_2 : decode prog_6_method_4_code 2 = .ok (.iconst 0, 1) := by decide +kernel
theorem d_Replies_total_3 : decode prog_6_method_4_code 3 = .ok (.istore_n 3, 1) := by decide +kernel
theorem d_Replies_total_4 : decode prog_6_method_4_code 4 = .ok (.iload_n 3, 1) := by decide +kernel
theorem d_Replies_total_5 : decode prog_6_method_4_code 5 = .ok (.bipush 8, 2) := by decide +kernel
theorem d_Replies_total_7 : decode prog_6_method_4_code 7 = .ok (.if_icmp .ge 20, 3) := by decide +kernel
theorem d_Replies_total_10 : decode prog_6_method_4_code 10 = .ok (.iload_n 2, 1) := by decide +kernel
theorem d_Replies_total_11 : decode prog_6_method_4_code 11 = .ok (.aload_n 0, 1) := by decide +kernel
theorem d_Replies_total_12 : decode prog_6_method_4_code 12 = .ok (.getfield 17, 3) := by decide +kernel
theorem d_Replies_total_15 : decode prog_6_method_4_code 15 = .ok (.iload_n 3, 1) := by decide +kernel
theorem d_Replies_total_16 : decode prog_6_method_4_code 16 = .ok (.aaload, 1) := by decide +kernel
theorem d_Replies_total_17 : decode prog_6_method_4_code 17 = .ok (.iload_n 1, 1) := by decide +kernel
theorem d_Replies_total_18 : decode prog_6_method_4_code 18 = .ok (.iaload, 1) := by decide +kernel
theorem d_Replies_total_19 : decode prog_6_method_4_code 19 = .ok (.iadd, 1) := by decide +kernel
theorem d_Replies_total_20 : decode prog_6_method_4_code 20 = .ok (.istore_n 2, 1) := by decide +kernel
theorem d_Replies_total_21 : decode prog_6_method_4_code 21 = .ok (.iinc 3 1, 3) := by decide +kernel
theorem d_Replies_total_24 : decode prog_6_method_4_code 24 = .ok (.goto (-20), 3) := by decide +kernel
theorem d_Replies_total_27 : decode prog_6_method_4_code 27 = .ok (.iload_n 2, 1) := by decide +kernel
theorem d_Replies_total_28 : decode prog_6_method_4_code 28 = .ok (.ireturn, 1) := by decide +kernel
theorem d_Replies_pivot_0 : decode prog_6_method_5_code 0 = .ok (.ldc 61, 2) := by decide +kernel
theorem d_Replies_pivot_2 : decode prog_6_method_5_code 2 = .ok (.istore_n 2, 1) := by decide +kernel
theorem d_Replies_pivot_3 : decode prog_6_method_5_code 3 = .ok (.iconst 0, 1) := by decide +kernel
theorem d_Replies_pivot_4 : decode prog_6_method_5_code 4 = .ok (.istore_n 3, 1) := by decide +kernel
theorem d_Replies_pivot_5 : decode prog_6_method_5_code 5 = .ok (.iload_n 3, 1) := by decide +kernel
theorem d_Replies_pivot_6 : decode prog_6_method_5_code 6 = .ok (.bipush 8, 2) := by decide +kernel
theorem d_Replies_pivot_8 : decode prog_6_method_5_code 8 = .ok (.if_icmp .ge 48, 3) := by decide +kernel
theorem d_Replies_pivot_11 : decode prog_6_method_5_code 11 = .ok (.aload_n 0, 1) := by decide +kernel
theorem d_Replies_pivot_12 : decode prog_6_method_5_code 12 = .ok (.getfield 17, 3) := by decide +kernel
theorem d_Replies_pivot_15 : decode prog_6_method_5_code 15 = .ok (.iload_n 3, 1) := by decide +kernel
theorem d_Replies_pivot_16 : decode prog_6_method_5_code 16 = .ok (.aaload, 1) := by decide +kernel
theorem d_Replies_pivot_17 : decode prog_6_method_5_code 17 = .ok (.iconst 1, 1) := by decide +kernel
theorem d_Replies_pivot_18 : decode prog_6_method_5_code 18 = .ok (.iaload, 1) := by decide +kernel
theorem d_Replies_pivot_19 : decode prog_6_method_5_code 19 = .ok (.iload_n 2, 1) := by decide +kernel
theorem d_Replies_pivot_20 : decode prog_6_method_5_code 20 = .ok (.if_icmp .ge 30, 3) := by decide +kernel
theorem d_Replies_pivot_23 : decode prog_6_method_5_code 23 = .ok (.iconst 2, 1) := by decide +kernel
theorem d_Replies_pivot_24 : decode prog_6_method_5_code 24 = .ok (.aload_n 0, 1) := by decide +kernel
theorem d_Replies_pivot_25 : decode prog_6_method_5_code 25 = .ok (.aload_n 0, 1) := by decide +kernel
theorem d_Replies_pivot_26 : decode prog_6_method_5_code 26 = .ok (.getfield 17, 3) := by decide +kernel
theorem d_Replies_pivot_29 : decode prog_6_method_5_code 29 = .ok (.iload_n 3, 1) := by decide +kernel
theorem d_Replies_pivot_30 : decode prog_6_method_5_code 30 = .ok (.aaload, 1) := by decide +kernel
theorem d_Replies_pivot_31 : decode prog_6_method_5_code 31 = .ok (.iconst 1, 1) := by decide +kernel
theorem d_Replies_pivot_32 : decode prog_6_method_5_code 32 = .ok (.iaload, 1) := by decide +kernel
theorem d_Replies_pivot_33 : decode prog_6_method_5_code 33 = .ok (.invokevirtual 62, 3) := by decide +kernel
theorem d_Replies_pivot_36 : decode prog_6_method_5_code 36 = .ok (.imul, 1) := by decide +kernel
theorem d_Replies_pivot_37 : decode prog_6_method_5_code 37 = .ok (.iload_n 1, 1) := by decide +kernel
theorem d_Replies_pivot_38 : decode prog_6_method_5_code 38 = .ok (.if_icmp .lt 12, 3) := by decide +kernel
theorem d_Replies_pivot_41 : decode prog_6_method_5_code 41 = .ok (.aload_n 0, 1) := by decide +kernel
theorem d_Replies_pivot_42 : decode prog_6_method_5_code 42 = .ok (.getfield 17, 3) := by decide +kernel
theorem d_Replies_pivot_45 : decode prog_6_method_5_code 45 = .ok (.iload_n 3, 1) := by decide +kernel
theorem d_Replies_pivot_46 : decode prog_6_method_5_code 46 = .ok (.aaload, 1) := by decide +kernel
theorem d_Replies_pivot_47 : decode prog_6_method_5_code 47 = .ok (.iconst 1, 1) := by decide +kernel
theorem d_Replies_pivot_48 : decode prog_6_method_5_code 48 = .ok (.iaload, 1) := by decide +kernel
theorem d_Replies_pivot_49 : decode prog_6_method_5_code 49 = .ok (.istore_n 2, 1) := by decide +kernel
theorem d_Replies_pivot_50 : decode prog_6_method_5_code 50 = .ok (.iinc 3 1, 3) := by decide +kernel
theorem d_Replies_pivot_53 : decode prog_6_method_5_code 53 = .ok (.goto (-48), 3) := by decide +kernel
theorem d_Replies_pivot_56 : decode prog_6_method_5_code 56 = .ok (.iload_n 2, 1) := by decide +kernel
theorem d_Replies_pivot_57 : decode prog_6_method_5_code 57 = .ok (.ireturn, 1) := by decide +kernel
theorem d_Replies_countUpTo_0 : decode prog_6_method_6_code 0 = .ok (.iconst 0, 1) := by decide +kernel
theorem d_Replies_countUpTo_1 : decode prog_6_method_6_code 1 = .ok (.istore_n 2, 1) := by decide +kernel
theorem d_Replies_countUpTo_2 : decode prog_6_method_6_code 2 = .ok (.iconst 0, 1) := by decide +kernel
theorem d_Replies_countUpTo_3 : decode prog_6_method_6_code 3 = .ok (.istore_n 3, 1) := by decide +kernel
theorem d_Replies_countUpTo_4 : decode prog_6_method_6_code 4 = .ok (.iload_n 3, 1) := by decide +kernel
theorem d_Replies_countUpTo_5 : decode prog_6_method_6_code 5 = .ok (.bipush 8, 2) := by decide +kernel
theorem d_Replies_countUpTo_7 : decode prog_6_method_6_code 7 = .ok (.if_icmp .ge 32, 3) := by decide +kernel
theorem d_Replies_countUpTo_10 : decode prog_6_method_6_code 10 = .ok (.aload_n 0, 1) := by decide +kernel
theorem d_Replies_countUpTo_11 : decode prog_6_method_6_code 11 = .ok (.getfield 17, 3) := by decide +kernel
theorem d_Replies_countUpTo_14 : decode prog_6_method_6_code 14 = .ok (.iload_n 3, 1) := by decide +kernel
theorem d_Replies_countUpTo_15 : decode prog_6_method_6_code 15 = .ok (.aaload, 1) := by decide +kernel
theorem d_Replies_countUpTo_16 : decode prog_6_method_6_code 16 = .ok (.iconst 1, 1) := by decide +kernel
theorem d_Replies_countUpTo_17 : decode prog_6_method_6_code 17 = .ok (.iaload, 1) := by decide +kernel
theorem d_Replies_countUpTo_18 : decode prog_6_method_6_code 18 = .ok (.iload_n 1, 1) := by decide +kernel
theorem d_Replies_countUpTo_19 : decode prog_6_method_6_code 19 = .ok (.if_icmp .gt 14, 3) := by decide +kernel
theorem d_Replies_countUpTo_22 : decode prog_6_method_6_code 22 = .ok (.iload_n 2, 1) := by decide +kernel
theorem d_Replies_countUpTo_23 : decode prog_6_method_6_code 23 = .ok (.aload_n 0, 1) := by decide +kernel
theorem d_Replies_countUpTo_24 : decode prog_6_method_6_code 24 = .ok (.getfield 17, 3) := by decide +kernel
theorem d_Replies_countUpTo_27 : decode prog_6_method_6_code 27 = .ok (.iload_n 3, 1) := by decide +kernel
theorem d_Replies_countUpTo_28 : decode prog_6_method_6_code 28 = .ok (.aaload, 1) := by decide +kernel
theorem d_Replies_countUpTo_29 : decode prog_6_method_6_code 29 = .ok (.iconst 0, 1) := by decide +kernel
theorem d_Replies_countUpTo_30 : decode prog_6_method_6_code 30 = .ok (.iaload, 1) := by decide +kernel
theorem d_Replies_countUpTo_31 : decode prog_6_method_6_code 31 = .ok (.iadd, 1) := by decide +kernel
theorem d_Replies_countUpTo_32 : decode prog_6_method_6_code 32 = .ok (.istore_n 2, 1) := by decide +kernel
theorem d_Replies_countUpTo_33 : decode prog_6_method_6_code 33 = .ok (.iinc 3 1, 3) := by decide +kernel
theorem d_Replies_countUpTo_36 : decode prog_6_method_6_code 36 = .ok (.goto (-32), 3) := by decide +kernel
theorem d_Replies_countUpTo_39 : decode prog_6_method_6_code 39 = .ok (.iload_n 2, 1) := by decide +kernel
theorem d_Replies_countUpTo_40 : decode prog_6_method_6_code 40 = .ok (.ireturn, 1) := by decide +kernel
