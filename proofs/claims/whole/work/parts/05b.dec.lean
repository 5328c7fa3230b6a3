theorem d_Letter_init_0 : decode prog_2_method_1_code 0 = .ok (.aload_n 0, 1) := by decide +kernel
theorem d_Letter_init_1 : decode prog_2_method_1_code 1 = .ok (.invokespecial 3, 3) := by decide +kernel
theorem d_Letter_init_4 : decode prog_2_method_1_code 4 = .ok (.aload_n 0, 1) := by decide +kernel
theorem d_Letter_init_5 : decode prog_2_method_1_code 5 = .ok (.bipush 64, 2) := by decide +kernel
theorem d_Letter_init_7 : decode prog_2_method_1_code 7 = .ok (.newarray .int, 2) := by decide +kernel
theorem d_Letter_init_9 : decode prog_2_method_1_code 9 = .ok (.putfield 9, 3) := by decide +kernel
theorem d_Letter_init_12 : decode prog_2_method_1_code 12 = .ok (.return_, 1) := by decide +kernel
theorem d_Letter_isAsking_0 : decode prog_2_method_2_code 0 = .ok (.aload_n 0, 1) := by decide +kernel
theorem d_Letter_isAsking_1 : decode prog_2_method_2_code 1 = .ok (.getfield 15, 3) := by decide +kernel
theorem d_Letter_isAsking_4 : decode prog_2_method_2_code 4 = .ok (.iconst 2, 1) := by decide +kernel
theorem d_Letter_isAsking_5 : decode prog_2_method_2_code 5 = .ok (.irem, 1) := by decide +kernel
theorem d_Letter_isAsking_6 : decode prog_2_method_2_code 6 = .ok (.iconst 1, 1) := by decide +kernel
theorem d_Letter_isAsking_7 : decode prog_2_method_2_code 7 = .ok (.if_icmp .ne 7, 3) := by decide +kernel
theorem d_Letter_isAsking_10 : decode prog_2_method_2_code 10 = .ok (.iconst 1, 1) := by decide +kernel
theorem d_Letter_isAsking_11 : decode prog_2_method_2_code 11 = .ok (.goto 4, 3) := by decide +kernel
theorem d_Letter_isAsking_14 : decode prog_2_method_2_code 14 = .ok (.iconst 0, 1) := by decide +kernel
theorem d_Letter_isAsking_15 : decode prog_2_method_2_code 15 = .ok (.ireturn, 1) := by decide +kernel
theorem d_Letter_address_0 : decode prog_2_method_3_code 0 = .ok (.aload_n 0, 1) := by decide +kernel
theorem d_Letter_address_1 : decode prog_2_method_3_code 1 = .ok (.iload_n 1, 1) := by decide +kernel
theorem d_Letter_address_2 : decode prog_2_method_3_code 2 = .ok (.putfield 15, 3) := by decide +kernel
theorem d_Letter_address_5 : decode prog_2_method_3_code 5 = .ok (.aload_n 0, 1) := by decide +kernel
theorem d_Letter_address_6 : decode prog_2_method_3_code 6 = .ok (.iload_n 2, 1) := by decide +kernel
theorem d_Letter_address_7 : decode prog_2_method_3_code 7 = .ok (.putfield 19, 3) := by decide +kernel
theorem d_Letter_address_10 : decode prog_2_method_3_code 10 = .ok (.aload_n 0, 1) := by decide +kernel
theorem d_Letter_address_11 : decode prog_2_method_3_code 11 = .ok (.iload_n 3, 1) := by decide +kernel
theorem d_Letter_address_12 : decode prog_2_method_3_code 12 = .ok (.putfield 22, 3) := by decide +kernel
theorem d_Letter_address_15 : decode prog_2_method_3_code 15 = .ok (.aload_n 0, 1) := by decide +kernel
theorem d_Letter_address_16 : decode prog_2_method_3_code 16 = .ok (.iload 4, 2) := by decide +kernel
theorem d_Letter_address_18 : decode prog_2_method_3_code 18 = .ok (.putfield 25, 3) := by decide +kernel
theorem d_Letter_address_21 : decode prog_2_method_3_code 21 = .ok (.aload_n 0, 1) := by decide +kernel
theorem d_Letter_address_22 : decode prog_2_method_3_code 22 = .ok (.iload 5, 2) := by decide +kernel
theorem d_Letter_address_24 : decode prog_2_method_3_code 24 = .ok (.putfield 28, 3) := by decide +kernel
theorem d_Letter_address_27 : decode prog_2_method_3_code 27 = .ok (.aload_n 0, 1) := by decide +kernel
theorem d_Letter_address_28 : decode prog_2_method_3_code 28 = .ok (.iload 6, 2) := by decide +kernel
theorem d_Letter_address_30 : decode prog_2_method_3_code 30 = .ok (.putfield 31, 3) := by decide +kernel
theorem d_Letter_address_33 : decode prog_2_method_3_code 33 = .ok (.aload_n 0, 1) := by decide +kernel
theorem d_Letter_address_34 : decode prog_2_method_3_code 34 = .ok (.iconst 0, 1) := by decide +kernel
theorem d_Letter_address_35 : decode prog_2_method_3_code 35 = .ok (.putfield 34, 3) := by decide +kernel
theorem d_Letter_address_38 : decode prog_2_method_3_code 38 = .ok (.aload_n 0, 1) := by decide +kernel
theorem d_Letter_address_39 : decode prog_2_method_3_code 39 = .ok (.lconst 0, 1) := by decide +kernel
theorem d_Letter_address_40 : decode prog_2_method_3_code 40 = .ok (.putfield 37, 3) := by decide +kernel
theorem d_Letter_address_43 : decode prog_2_method_3_code 43 = .ok (.return_, 1) := by decide +kernel
theorem d_Letter_copy_0 : decode prog_2_method_4_code 0 = .ok (.aload_n 0, 1) := by decide +kernel
theorem d_Letter_copy_1 : decode prog_2_method_4_code 1 = .ok (.aload_n 1, 1) := by decide +kernel
theorem d_Letter_copy_2 : decode prog_2_method_4_code 2 = .ok (.getfield 15, 3) := by decide +kernel
theorem d_Letter_copy_5 : decode prog_2_method_4_code 5 = .ok (.aload_n 1, 1) := by decide +kernel
theorem d_Letter_copy_6 : decode prog_2_method_4_code 6 = .ok (.getfield 19, 3) := by decide +kernel
theorem d_Letter_copy_9 : decode prog_2_method_4_code 9 = .ok (.aload_n 1, 1) := by decide +kernel
theorem d_Letter_copy_10 : decode prog_2_method_4_code 10 = .ok (.getfield 22, 3) := by decide +kernel
theorem d_Letter_copy_13 : decode prog_2_method_4_code 13 = .ok (.aload_n 1, 1) := by decide +kernel
theorem d_Letter_copy_14 : decode prog_2_method_4_code 14 = .ok (.getfield 25, 3) := by decide +kernel
theorem d_Letter_copy_17 : decode prog_2_method_4_code 17 = .ok (.aload_n 1, 1) := by decide +kernel
theorem d_Letter_copy_18 : decode prog_2_method_4_code 18 = .ok (.getfield 28, 3) := by decide +kernel
theorem d_Letter_copy_21 : decode prog_2_method_4_code 21 = .ok (.aload_n 1, 1) := by decide +kernel
theorem d_Letter_copy_22 : decode prog_2_method_4_code 22 = .ok (.getfield 31, 3) := by decide +kernel
theorem d_Letter_copy_25 : decode prog_2_method_4_code 25 = .ok (.invokevirtual 41, 3) := by decide +kernel
theorem d_Letter_copy_28 : decode prog_2_method_4_code 28 = .ok (.aload_n 0, 1) := by decide +kernel
theorem d_Letter_copy_29 : decode prog_2_method_4_code 29 = .ok (.aload_n 1, 1) := by decide +kernel
theorem d_Letter_copy_30 : decode prog_2_method_4_code 30 = .ok (.getfield 34, 3) := by decide +kernel
theorem d_Letter_copy_33 : decode prog_2_method_4_code 33 = .ok (.putfield 34, 3) := by decide +kernel
theorem d_Letter_copy_36 : decode prog_2_method_4_code 36 = .ok (.aload_n 1, 1) := by decide +kernel
theorem d_Letter_copy_37 : decode prog_2_method_4_code 37 = .ok (.getfield 9, 3) := by decide +kernel
theorem d_Letter_copy_40 : decode prog_2_method_4_code 40 = .ok (.iconst 0, 1) := by decide +kernel
theorem d_Letter_copy_41 : decode prog_2_method_4_code 41 = .ok (.aload_n 0, 1) := by decide +kernel
theorem d_Letter_copy_42 : decode prog_2_method_4_code 42 = .ok (.getfield 9, 3) := by decide +kernel
theorem d_Letter_copy_45 : decode prog_2_method_4_code 45 = .ok (.iconst 0, 1) := by decide +kernel
theorem d_Letter_copy_46 : decode prog_2_method_4_code 46 = .ok (.aload_n 0, 1) := by decide +kernel
theorem d_Letter_copy_47 : decode prog_2_method_4_code 47 = .ok (.getfield 34, 3) := by decide +kernel
theorem d_Letter_copy_50 : decode prog_2_method_4_code 50 = .ok (.invokestatic 45, 3) := by decide +kernel
theorem d_Letter_copy_53 : decode prog_2_method_4_code 53 = .ok (.aload_n 0, 1) := by decide +kernel
theorem d_Letter_copy_54 : decode prog_2_method_4_code 54 = .ok (.aload_n 1, 1) := by decide +kernel
theorem d_Letter_copy_55 : decode prog_2_method_4_code 55 = .ok (.getfield 37, 3) := by decide +kernel
theorem d_Letter_copy_58 : decode prog_2_method_4_code 58 = .ok (.putfield 37, 3) := by decide +kernel
theorem d_Letter_copy_61 : decode prog_2_method_4_code 61 = .ok (.return_, 1) := by decide +kernel
theorem d_Letter_replyTo_0 : decode prog_2_method_5_code 0 = .ok (.aload_n 0, 1) := by decide +kernel
theorem d_Letter_replyTo_1 : decode prog_2_method_5_code 1 = .ok (.aload_n 1, 1) := by decide +kernel
theorem d_Letter_replyTo_2 : decode prog_2_method_5_code 2 = .ok (.getfield 15, 3) := by decide +kernel
theorem d_Letter_replyTo_5 : decode prog_2_method_5_code 5 = .ok (.iconst 1, 1) := by decide +kernel
theorem d_Letter_replyTo_6 : decode prog_2_method_5_code 6 = .ok (.iadd, 1) := by decide +kernel
theorem d_Letter_replyTo_7 : decode prog_2_method_5_code 7 = .ok (.aload_n 1, 1) := by decide +kernel
theorem d_Letter_replyTo_8 : decode prog_2_method_5_code 8 = .ok (.getfield 19, 3) := by decide +kernel
theorem d_Letter_replyTo_11 : decode prog_2_method_5_code 11 = .ok (.aload_n 1, 1) := by decide +kernel
theorem d_Letter_replyTo_12 : decode prog_2_method_5_code 12 = .ok (.getfield 22, 3) := by decide +kernel
theorem d_Letter_replyTo_15 : decode prog_2_method_5_code 15 = .ok (.aload_n 1, 1) := by decide +kernel
theorem d_Letter_replyTo_16 : decode prog_2_method_5_code 16 = .ok (.getfield 25, 3) := by decide +kernel
theorem d_Letter_replyTo_19 : decode prog_2_method_5_code 19 = .ok (.aload_n 1, 1) := by decide +kernel
theorem d_Letter_replyTo_20 : decode prog_2_method_5_code 20 = .ok (.getfield 31, 3) := by decide +kernel
theorem d_Letter_replyTo_23 : decode prog_2_method_5_code 23 = .ok (.aload_n 1, 1) := by decide +kernel
theorem d_Letter_replyTo_24 : decode prog_2_method_5_code 24 = .ok (.getfield 28, 3) := by decide +kernel
theorem d_Letter_replyTo_27 : decode prog_2_method_5_code 27 = .ok (.invokevirtual 41, 3) := by decide +kernel
theorem d_Letter_replyTo_30 : decode prog_2_method_5_code 30 = .ok (.return_, 1) := by decide +kernel
theorem d_Letter_put_0 : decode prog_2_method_6_code 0 = .ok (.aload_n 0, 1) := by decide +kernel
theorem d_Letter_put_1 : decode prog_2_method_6_code 1 = .ok (.getfield 34, 3) := by decide +kernel
theorem d_Letter_put_4 : decode prog_2_method_6_code 4 = .ok (.bipush 64, 2) := by decide +kernel
theorem d_Letter_put_6 : decode prog_2_method_6_code 6 = .ok (.if_icmp .ge 23, 3) := by decide +kernel
theorem d_Letter_put_9 : decode prog_2_method_6_code 9 = .ok (.aload_n 0, 1) := by decide +kernel
theorem d_Letter_put_10 : decode prog_2_method_6_code 10 = .ok (.getfield 9, 3) := by decide +kernel
theorem d_Letter_put_13 : decode prog_2_method_6_code 13 = .ok (.aload_n 0, 1) := by decide +kernel
theorem d_Letter_put_14 : decode prog_2_method_6_code 14 = .ok (.getfield 34, 3) := by decide +kernel
theorem d_Letter_put_17 : decode prog_2_method_6_code 17 = .ok (.iload_n 1, 1) := by decide +kernel
theorem d_Letter_put_18 : decode prog_2_method_6_code 18 = .ok (.iastore, 1) := by decide +kernel
theorem d_Letter_put_19 : decode prog_2_method_6_code 19 = .ok (.aload_n 0, 1) := by decide +kernel
theorem d_Letter_put_20 : decode prog_2_method_6_code 20 = .ok (.dup, 1) := by decide +kernel
theorem d_Letter_put_21 : decode prog_2_method_6_code 21 = .ok (.getfield 34, 3) := by decide +kernel
theorem d_Letter_put_24 : decode prog_2_method_6_code 24 = .ok (.iconst 1, 1) := by decide +kernel
theorem d_Letter_put_25 : decode prog_2_method_6_code 25 = .ok (.iadd, 1) := by decide +kernel
theorem d_Letter_put_26 : decode prog_2_method_6_code 26 = .ok (.putfield 34, 3) := by decide +kernel
theorem d_Letter_put_29 : decode prog_2_method_6_code 29 = .ok (.return_, 1) := by decide +kernel
theorem d_Letter_number_0 : decode prog_2_method_7_code 0 = .ok (.iload_n 1, 1) := by decide +kernel
theorem d_Letter_number_1 : decode prog_2_method_7_code 1 = .ok (.ifCond .lt 20, 3) := by decide +kernel
theorem d_Letter_number_4 : decode prog_2_method_7_code 4 = .ok (.iload_n 1, 1) := by decide +kernel
theorem d_Letter_number_5 : decode prog_2_method_7_code 5 = .ok (.aload_n 0, 1) := by decide +kernel
theorem d_Letter_number_6 : decode prog_2_method_7_code 6 = .ok (.getfield 34, 3) := by decide +kernel
theorem d_Letter_number_9 : decode prog_2_method_7_code 9 = .ok (.if_icmp .ge 12, 3) := by decide +kernel
theorem d_Letter_number_12 : decode prog_2_method_7_code 12 = .ok (.aload_n 0, 1) := by decide +kernel
theorem d_Letter_number_13 : decode prog_2_method_7_code 13 = .ok (.getfield 9, 3) := by decide +kernel
theorem d_Letter_number_16 : decode prog_2_method_7_code 16 = .ok (.iload_n 1, 1) := by decide +kernel
theorem d_Letter_number_17 : decode prog_2_method_7_code 17 = .ok (.iaload, 1) := by decide +kernel
theorem d_Letter_number_18 : decode prog_2_method_7_code 18 = .ok (.goto 4, 3) := by decide +kernel
theorem d_Letter_number_21 : decode prog_2_method_7_code 21 = .ok (.iconst 0, 1) := by decide +kernel
theorem d_Letter_number_22 : decode prog_2_method_7_code 22 = .ok (.ireturn, 1) := by decide +kernel
theorem d_Letter_tell_0 : decode prog_2_method_8_code 0 = .ok (.iload_n 1, 1) := by decide +kernel
theorem d_Letter_tell_1 : decode prog_2_method_8_code 1 = .ok (.tableswitch 78 0 6 #[43, 48, 53, 58, 63, 68, 73], 43) := by decide +kernel
theorem d_Letter_tell_44 : decode prog_2_method_8_code 44 = .ok (.aload_n 0, 1) := by decide +kernel
theorem d_Letter_tell_45 : decode prog_2_method_8_code 45 = .ok (.getfield 15, 3) := by decide +kernel
theorem d_Letter_tell_48 : decode prog_2_method_8_code 48 = .ok (.ireturn, 1) := by decide +kernel
theorem d_Letter_tell_49 : decode prog_2_method_8_code 49 = .ok (.aload_n 0, 1) := by decide +kernel
theorem d_Letter_tell_50 : decode prog_2_method_8_code 50 = .ok (.getfield 19, 3) := by decide +kernel
theorem d_Letter_tell_53 : decode prog_2_method_8_code 53 = .ok (.ireturn, 1) := by decide +kernel
theorem d_Letter_tell_54 : decode prog_2_method_8_code 54 = .ok (.aload_n 0, 1) := by decide +kernel
theorem d_Letter_tell_55 : decode prog_2_method_8_code 55 = .ok (.getfield 25, 3) := by decide +kernel
theorem d_Letter_tell_58 : decode prog_2_method_8_code 58 = .ok (.ireturn, 1) := by decide +kernel
theorem d_Letter_tell_59 : decode prog_2_method_8_code 59 = .ok (.aload_n 0, 1) := by decide +kernel
theorem d_Letter_tell_60 : decode prog_2_method_8_code 60 = .ok (.getfield 28, 3) := by decide +kernel
theorem d_Letter_tell_63 : decode prog_2_method_8_code 63 = .ok (.ireturn, 1) := by decide +kernel
theorem d_Letter_tell_64 : decode prog_2_method_8_code 64 = .ok (.aload_n 0, 1) := by decide +kernel
theorem d_Letter_tell_65 : decode prog_2_method_8_code 65 = .ok (.getfield 31, 3) := by decide +kernel
theorem d_Letter_tell_68 : decode prog_2_method_8_code 68 = .ok (.ireturn, 1) := by decide +kernel
theorem d_Letter_tell_69 : decode prog_2_method_8_code 69 = .ok (.aload_n 0, 1) := by decide +kernel
theorem d_Letter_tell_70 : decode prog_2_method_8_code 70 = .ok (.getfield 22, 3) := by decide +kernel
theorem d_Letter_tell_73 : decode prog_2_method_8_code 73 = .ok (.ireturn, 1) := by decide +kernel
theorem d_Letter_tell_74 : decode prog_2_method_8_code 74 = .ok (.aload_n 0, 1) := by decide +kernel
theorem d_Letter_tell_75 : decode prog_2_method_8_code 75 = .ok (.getfield 34, 3) := by decide +kernel
theorem d_Letter_tell_78 : decode prog_2_method_8_code 78 = .ok (.ireturn, 1) := by decide +kernel
theorem d_Letter_tell_79 : decode prog_2_method_8_code 79 = .ok (.aload_n 0, 1) := by decide +kernel
theorem d_Letter_tell_80 : decode prog_2_method_8_code 80 = .ok (.iload_n 1, 1) := by decide +kernel
theorem d_Letter_tell_81 : decode prog_2_method_8_code 81 = .ok (.bipush 7, 2) := by decide +kernel
theorem d_Letter_tell_83 : decode prog_2_method_8_code 83 = .ok (.isub, 1) := by decide +kernel
theorem d_Letter_tell_84 : decode prog_2_method_8_code 84 = .ok (.invokevirtual 51, 3) := by decide +kernel
theorem d_Letter_tell_87 : decode prog_2_method_8_code 87 = .ok (.ireturn, 1) := by decide +kernel
theorem d_Letter_fillIn_0 : decode prog_2_method_9_code 0 = .ok (.aload_n 1, 1) := by decide +kernel
theorem d_Letter_fillIn_1 : decode prog_2_method_9_code 1 = .ok (.iconst 0, 1) := by decide +kernel
theorem d_Letter_fillIn_2 : decode prog_2_method_9_code 2 = .ok (.invokevirtual 51, 3) := by decide +kernel
theorem d_Letter_fillIn_5 : decode prog_2_method_9_code 5 = .ok (.istore_n 3, 1) := by decide +kernel
theorem d_Letter_fillIn_6 : decode prog_2_method_9_code 6 = .ok (.aload_n 1, 1) := by decide +kernel
theorem d_Letter_fillIn_7 : decode prog_2_method_9_code 7 = .ok (.iconst 1, 1) := by decide +kernel
theorem d_Letter_fillIn_8 : decode prog_2_method_9_code 8 = .ok (.invokevirtual 51, 3) := by decide +kernel
theorem d_Letter_fillIn_11 : decode prog_2_method_9_code 11 = .ok (.istore 4, 2) := by decide +kernel
theorem d_Letter_fillIn_13 : decode prog_2_method_9_code 13 = .ok (.aload_n 1, 1) := by decide +kernel
theorem d_Letter_fillIn_14 : decode prog_2_method_9_code 14 = .ok (.getfield 15, 3) := by decide +kernel
theorem d_Letter_fillIn_17 : decode prog_2_method_9_code 17 = .ok (.tableswitch 114 1 9 #[51, 114, 62, 114, 73, 114, 87, 114, 98], 51) := by decide +kernel
theorem d_Letter_fillIn_68 : decode prog_2_method_9_code 68 = .ok (.aload_n 0, 1) := by decide +kernel
theorem d_Letter_fillIn_69 : decode prog_2_method_9_code 69 = .ok (.aload_n 2, 1) := by decide +kernel
theorem d_Letter_fillIn_70 : decode prog_2_method_9_code 70 = .ok (.getfield 55, 3) := by decide +kernel
theorem d_Letter_fillIn_73 : decode prog_2_method_9_code 73 = .ok (.invokevirtual 60, 3) := by decide +kernel
theorem d_Letter_fillIn_76 : decode prog_2_method_9_code 76 = .ok (.goto 63, 3) := by decide +kernel
theorem d_Letter_fillIn_79 : decode prog_2_method_9_code 79 = .ok (.aload_n 0, 1) := by decide +kernel
theorem d_Letter_fillIn_80 : decode prog_2_method_9_code 80 = .ok (.aload_n 2, 1) := by decide +kernel
theorem d_Letter_fillIn_81 : decode prog_2_method_9_code 81 = .ok (.iload_n 3, 1) := by decide +kernel
theorem d_Letter_fillIn_82 : decode prog_2_method_9_code 82 = .ok (.iload 4, 2) := by decide +kernel
theorem d_Letter_fillIn_84 : decode prog_2_method_9_code 84 = .ok (.invokevirtual 64, 3) := by decide +kernel
theorem d_Letter_fillIn_87 : decode prog_2_method_9_code 87 = .ok (.goto 52, 3) := by decide +kernel
theorem d_Letter_fillIn_90 : decode prog_2_method_9_code 90 = .ok (.aload_n 0, 1) := by decide +kernel
theorem d_Letter_fillIn_91 : decode prog_2_method_9_code 91 = .ok (.aload_n 2, 1) := by decide +kernel
theorem d_Letter_fillIn_92 : decode prog_2_method_9_code 92 = .ok (.iload_n 3, 1) := by decide +kernel
theorem d_Letter_fillIn_93 : decode prog_2_method_9_code 93 = .ok (.aload_n 1, 1) := by decide +kernel
theorem d_Letter_fillIn_94 : decode prog_2_method_9_code 94 = .ok (.iconst 2, 1) := by decide +kernel
theorem d_Letter_fillIn_95 : decode prog_2_method_9_code 95 = .ok (.invokevirtual 51, 3) := by decide +kernel
theorem d_Letter_fillIn_98 : decode prog_2_method_9_code 98 = .ok (.invokevirtual 68, 3) := by decide +kernel
theorem d_Letter_fillIn_101 : decode prog_2_method_9_code 101 = .ok (.goto 38, 3) := by decide +kernel
theorem d_Letter_fillIn_104 : decode prog_2_method_9_code 104 = .ok (.aload_n 0, 1) := by decide +kernel
theorem d_Letter_fillIn_105 : decode prog_2_method_9_code 105 = .ok (.aload_n 2, 1) := by decide +kernel
theorem d_Letter_fillIn_106 : decode prog_2_method_9_code 106 = .ok (.iload_n 3, 1) := by decide +kernel
theorem d_Letter_fillIn_107 : decode prog_2_method_9_code 107 = .ok (.iload 4, 2) := by decide +kernel
theorem d_Letter_fillIn_109 : decode prog_2_method_9_code 109 = .ok (.invokevirtual 71, 3) := by decide +kernel
theorem d_Letter_fillIn_112 : decode prog_2_method_9_code 112 = .ok (.goto 27, 3) := by decide +kernel
theorem d_Letter_fillIn_115 : decode prog_2_method_9_code 115 = .ok (.aload_n 0, 1) := by decide +kernel
theorem d_Letter_fillIn_116 : decode prog_2_method_9_code 116 = .ok (.aload_n 2, 1) := by decide +kernel
theorem d_Letter_fillIn_117 : decode prog_2_method_9_code 117 = .ok (.iload_n 3, 1) := by decide +kernel
theorem d_Letter_fillIn_118 : decode prog_2_method_9_code 118 = .ok (.i2l, 1) := by decide +kernel
theorem d_Letter_fillIn_119 : decode prog_2_method_9_code 119 = .ok (.iload 4, 2) := by decide +kernel
theorem d_Letter_fillIn_121 : decode prog_2_method_9_code 121 = .ok (.i2l, 1) := by decide +kernel
theorem d_Letter_fillIn_122 : decode prog_2_method_9_code 122 = .ok (.invokevirtual 74, 3) := by decide +kernel
theorem d_Letter_fillIn_125 : decode prog_2_method_9_code 125 = .ok (.invokevirtual 60, 3) := by decide +kernel
theorem d_Letter_fillIn_128 : decode prog_2_method_9_code 128 = .ok (.goto 11, 3) := by decide +kernel
theorem d_Letter_fillIn_131 : decode prog_2_method_9_code 131 = .ok (.aload_n 0, 1) := by decide +kernel
theorem d_Letter_fillIn_132 : decode prog_2_method_9_code 132 = .ok (.aload_n 2, 1) := by decide +kernel
theorem d_Letter_fillIn_133 : decode prog_2_method_9_code 133 = .ok (.iload_n 3, 1) := by decide +kernel
theorem d_Letter_fillIn_134 : decode prog_2_method_9_code 134 = .ok (.iload 4, 2) := by decide +kernel
theorem d_Letter_fillIn_136 : decode prog_2_method_9_code 136 = .ok (.invokevirtual 78, 3) := by decide +kernel
theorem d_Letter_fillIn_139 : decode prog_2_method_9_code 139 = .ok (.return_, 1) := by decide +kernel
theorem d_Letter_putPart_0 : decode prog_2_method_10_code 0 = .ok (.aload_n 1, 1) := by decide +kernel
theorem d_Letter_putPart_1 : decode prog_2_method_10_code 1 = .ok (.iload_n 2, 1) := by decide +kernel
theorem d_Letter_putPart_2 : decode prog_2_method_10_code 2 = .ok (.i2l, 1) := by decide +kernel
theorem d_Letter_putPart_3 : decode prog_2_method_10_code 3 = .ok (.iload_n 3, 1) := by decide +kernel
theorem d_Letter_putPart_4 : decode prog_2_method_10_code 4 = .ok (.i2l, 1) := by decide +kernel
theorem d_Letter_putPart_5 : decode prog_2_method_10_code 5 = .ok (.invokevirtual 74, 3) := by decide +kernel
theorem d_Letter_putPart_8 : decode prog_2_method_10_code 8 = .ok (.istore 4, 2) := by decide +kernel
theorem d_Letter_putPart_10 : decode prog_2_method_10_code 10 = .ok (.aload_n 0, 1) := by decide +kernel
theorem d_Letter_putPart_11 : decode prog_2_method_10_code 11 = .ok (.iload 4, 2) := by decide +kernel
theorem d_Letter_putPart_13 : decode prog_2_method_10_code 13 = .ok (.invokevirtual 60, 3) := by decide +kernel
theorem d_Letter_putPart_16 : decode prog_2_method_10_code 16 = .ok (.aload_n 0, 1) := by decide +kernel
theorem d_Letter_putPart_17 : decode prog_2_method_10_code 17 = .ok (.iload 4, 2) := by decide +kernel
theorem d_Letter_putPart_19 : decode prog_2_method_10_code 19 = .ok (.ifCond .ne 7, 3) := by decide +kernel
theorem d_Letter_putPart_22 : decode prog_2_method_10_code 22 = .ok (.iconst 0, 1) := by decide +kernel
theorem d_Letter_putPart_23 : decode prog_2_method_10_code 23 = .ok (.goto 22, 3) := by decide +kernel
theorem d_Letter_putPart_26 : decode prog_2_method_10_code 26 = .ok (.aload_n 1, 1) := by decide +kernel
theorem d_Letter_putPart_27 : decode prog_2_method_10_code 27 = .ok (.aload_n 1, 1) := by decide +kernel
theorem d_Letter_putPart_28 : decode prog_2_method_10_code 28 = .ok (.iload_n 2, 1) := by decide +kernel
theorem d_Letter_putPart_29 : decode prog_2_method_10_code 29 = .ok (.i2l, 1) := by decide +kernel
theorem d_Letter_putPart_30 : decode prog_2_method_10_code 30 = .ok (.invokevirtual 81, 3) := by decide +kernel
theorem d_Letter_putPart_33 : decode prog_2_method_10_code 33 = .ok (.iload 4, 2) := by decide +kernel
theorem d_Letter_putPart_35 : decode prog_2_method_10_code 35 = .ok (.iconst 1, 1) := by decide +kernel
theorem d_Letter_putPart_36 : decode prog_2_method_10_code 36 = .ok (.iadd, 1) := by decide +kernel
theorem d_Letter_putPart_37 : decode prog_2_method_10_code 37 = .ok (.iconst 2, 1) := by decide +kernel
theorem d_Letter_putPart_38 : decode prog_2_method_10_code 38 = .ok (.idiv, 1) := by decide +kernel
theorem d_Letter_putPart_39 : decode prog_2_method_10_code 39 = .ok (.iadd, 1) := by decide +kernel
theorem d_Letter_putPart_40 : decode prog_2_method_10_code 40 = .ok (.iconst 1, 1) := by decide +kernel
theorem d_Letter_putPart_41 : decode prog_2_method_10_code 41 = .ok (.isub, 1) := by decide +kernel
theorem d_Letter_putPart_42 : decode prog_2_method_10_code 42 = .ok (.invokevirtual 85, 3) := by decide +kernel
theorem d_Letter_putPart_45 : decode prog_2_method_10_code 45 = .ok (.invokevirtual 60, 3) := by decide +kernel
theorem d_Letter_putPart_48 : decode prog_2_method_10_code 48 = .ok (.return_, 1) := by decide +kernel
theorem d_Letter_putSides_0 : decode prog_2_method_11_code 0 = .ok (.aload_n 0, 1) := by decide +kernel
theorem d_Letter_putSides_1 : decode prog_2_method_11_code 1 = .ok (.aload_n 1, 1) := by decide +kernel
theorem d_Letter_putSides_2 : decode prog_2_method_11_code 2 = .ok (.iload_n 2, 1) := by decide +kernel
theorem d_Letter_putSides_3 : decode prog_2_method_11_code 3 = .ok (.i2l, 1) := by decide +kernel
theorem d_Letter_putSides_4 : decode prog_2_method_11_code 4 = .ok (.iload_n 3, 1) := by decide +kernel
theorem d_Letter_putSides_5 : decode prog_2_method_11_code 5 = .ok (.i2l, 1) := by decide +kernel
theorem d_Letter_putSides_6 : decode prog_2_method_11_code 6 = .ok (.lconst 1, 1) := by decide +kernel
theorem d_Letter_putSides_7 : decode prog_2_method_11_code 7 = .ok (.lsub, 1) := by decide +kernel
theorem d_Letter_putSides_8 : decode prog_2_method_11_code 8 = .ok (.invokevirtual 74, 3) := by decide +kernel
theorem d_Letter_putSides_11 : decode prog_2_method_11_code 11 = .ok (.invokevirtual 60, 3) := by decide +kernel
theorem d_Letter_putSides_14 : decode prog_2_method_11_code 14 = .ok (.aload_n 0, 1) := by decide +kernel
theorem d_Letter_putSides_15 : decode prog_2_method_11_code 15 = .ok (.aload_n 1, 1) := by decide +kernel
theorem d_Letter_putSides_16 : decode prog_2_method_11_code 16 = .ok (.iload_n 3, 1) := by decide +kernel
theorem d_Letter_putSides_17 : decode prog_2_method_11_code 17 = .ok (.i2l, 1) := by decide +kernel
theorem d_Letter_putSides_18 : decode prog_2_method_11_code 18 = .ok (.iload_n 3, 1) := by decide +kernel
theorem d_Letter_putSides_19 : decode prog_2_method_11_code 19 = .ok (.i2l, 1) := by decide +kernel
theorem d_Letter_putSides_20 : decode prog_2_method_11_code 20 = .ok (.invokevirtual 74, 3) := by decide +kernel
theorem d_Letter_putSides_23 : decode prog_2_method_11_code 23 = .ok (.invokevirtual 60, 3) := by decide +kernel
theorem d_Letter_putSides_26 : decode prog_2_method_11_code 26 = .ok (.return_, 1) := by decide +kernel
theorem d_Letter_putGiven_0 : decode prog_2_method_12_code 0 = .ok (.aload_n 1, 1) := by decide +kernel
theorem d_Letter_putGiven_1 : decode prog_2_method_12_code 1 = .ok (.iload_n 2, 1) := by decide +kernel
theorem d_Letter_putGiven_2 : decode prog_2_method_12_code 2 = .ok (.i2l, 1) := by decide +kernel
theorem d_Letter_putGiven_3 : decode prog_2_method_12_code 3 = .ok (.iload_n 3, 1) := by decide +kernel
theorem d_Letter_putGiven_4 : decode prog_2_method_12_code 4 = .ok (.i2l, 1) := by decide +kernel
theorem d_Letter_putGiven_5 : decode prog_2_method_12_code 5 = .ok (.invokevirtual 74, 3) := by decide +kernel
theorem d_Letter_putGiven_8 : decode prog_2_method_12_code 8 = .ok (.istore 4, 2) := by decide +kernel
theorem d_Letter_putGiven_10 : decode prog_2_method_12_code 10 = .ok (.aload_n 1, 1) := by decide +kernel
theorem d_Letter_putGiven_11 : decode prog_2_method_12_code 11 = .ok (.iload_n 2, 1) := by decide +kernel
theorem d_Letter_putGiven_12 : decode prog_2_method_12_code 12 = .ok (.i2l, 1) := by decide +kernel
theorem d_Letter_putGiven_13 : decode prog_2_method_12_code 13 = .ok (.invokevirtual 81, 3) := by decide +kernel
theorem d_Letter_putGiven_16 : decode prog_2_method_12_code 16 = .ok (.istore 5, 2) := by decide +kernel
theorem d_Letter_putGiven_18 : decode prog_2_method_12_code 18 = .ok (.iconst 0, 1) := by decide +kernel
theorem d_Letter_putGiven_19 : decode prog_2_method_12_code 19 = .ok (.istore 6, 2) := by decide +kernel
theorem d_Letter_putGiven_21 : decode prog_2_method_12_code 21 = .ok (.iload 6, 2) := by decide +kernel
theorem d_Letter_putGiven_23 : decode prog_2_method_12_code 23 = .ok (.iload 4, 2) := by decide +kernel
theorem d_Letter_putGiven_25 : decode prog_2_method_12_code 25 = .ok (.if_icmp .ge 22, 3) := by decide +kernel
theorem d_Letter_putGiven_28 : decode prog_2_method_12_code 28 = .ok (.aload_n 0, 1) := by decide +kernel
theorem d_Letter_putGiven_29 : decode prog_2_method_12_code 29 = .ok (.aload_n 1, 1) := by decide +kernel
theorem d_Letter_putGiven_30 : decode prog_2_method_12_code 30 = .ok (.iload 5, 2) := by decide +kernel
theorem d_Letter_putGiven_32 : decode prog_2_method_12_code 32 = .ok (.iload 6, 2) := by decide +kernel
theorem d_Letter_putGiven_34 : decode prog_2_method_12_code 34 = .ok (.iadd, 1) := by decide +kernel
theorem d_Letter_putGiven_35 : decode prog_2_method_12_code 35 = .ok (.invokevirtual 85, 3) := by decide +kernel
theorem d_Letter_putGiven_38 : decode prog_2_method_12_code 38 = .ok (.invokevirtual 60, 3) := by decide +kernel
theorem d_Letter_putGiven_41 : decode prog_2_method_12_code 41 = .ok (.iinc 6 1, 3) := by decide +kernel
theorem d_Letter_putGiven_44 : decode prog_2_method_12_code 44 = .ok (.goto (-23), 3) := by decide +kernel
theorem d_Letter_putGiven_47 : decode prog_2_method_12_code 47 = .ok (.return_, 1) := by decide +kernel
theorem d_Letter_putAdded_0 : decode prog_2_method_13_code 0 = .ok (.aload_n 1, 1) := by decide +kernel
theorem d_Letter_putAdded_1 : decode prog_2_method_13_code 1 = .ok (.iload_n 2, 1) := by decide +kernel
theorem d_Letter_putAdded_2 : decode prog_2_method_13_code 2 = .ok (.i2l, 1) := by decide +kernel
theorem d_Letter_putAdded_3 : decode prog_2_method_13_code 3 = .ok (.lconst 1, 1) := by decide +kernel
theorem d_Letter_putAdded_4 : decode prog_2_method_13_code 4 = .ok (.ladd, 1) := by decide +kernel
theorem d_Letter_putAdded_5 : decode prog_2_method_13_code 5 = .ok (.invokevirtual 81, 3) := by decide +kernel
theorem d_Letter_putAdded_8 : decode prog_2_method_13_code 8 = .ok (.istore 4, 2) := by decide +kernel
theorem d_Letter_putAdded_10 : decode prog_2_method_13_code 10 = .ok (.aload_n 1, 1) := by decide +kernel
theorem d_Letter_putAdded_11 : decode prog_2_method_13_code 11 = .ok (.iload_n 3, 1) := by decide +kernel
theorem d_Letter_putAdded_12 : decode prog_2_method_13_code 12 = .ok (.i2l, 1) := by decide +kernel
theorem d_Letter_putAdded_13 : decode prog_2_method_13_code 13 = .ok (.invokevirtual 81, 3) := by decide +kernel
theorem d_Letter_putAdded_16 : decode prog_2_method_13_code 16 = .ok (.istore 5, 2) := by decide +kernel
theorem d_Letter_putAdded_18 : decode prog_2_method_13_code 18 = .ok (.aload_n 0, 1) := by decide +kernel
theorem d_Letter_putAdded_19 : decode prog_2_method_13_code 19 = .ok (.aload_n 1, 1) := by decide +kernel
theorem d_Letter_putAdded_20 : decode prog_2_method_13_code 20 = .ok (.iload 4, 2) := by decide +kernel
theorem d_Letter_putAdded_22 : decode prog_2_method_13_code 22 = .ok (.iload 5, 2) := by decide +kernel
theorem d_Letter_putAdded_24 : decode prog_2_method_13_code 24 = .ok (.invokevirtual 88, 3) := by decide +kernel
theorem d_Letter_putAdded_27 : decode prog_2_method_13_code 27 = .ok (.putfield 37, 3) := by decide +kernel
theorem d_Letter_putAdded_30 : decode prog_2_method_13_code 30 = .ok (.aload_n 0, 1) := by decide +kernel
theorem d_Letter_putAdded_31 : decode prog_2_method_13_code 31 = .ok (.aload_n 1, 1) := by decide +kernel
theorem d_Letter_putAdded_32 : decode prog_2_method_13_code 32 = .ok (.iload_n 2, 1) := by decide +kernel
theorem d_Letter_putAdded_33 : decode prog_2_method_13_code 33 = .ok (.i2l, 1) := by decide +kernel
theorem d_Letter_putAdded_34 : decode prog_2_method_13_code 34 = .ok (.invokevirtual 81, 3) := by decide +kernel
theorem d_Letter_putAdded_37 : decode prog_2_method_13_code 37 = .ok (.invokevirtual 60, 3) := by decide +kernel
theorem d_Letter_putAdded_40 : decode prog_2_method_13_code 40 = .ok (.aload_n 0, 1) := by decide +kernel
theorem d_Letter_putAdded_41 : decode prog_2_method_13_code 41 = .ok (.aload_n 1, 1) := by decide +kernel
theorem d_Letter_putAdded_42 : decode prog_2_method_13_code 42 = .ok (.iload_n 2, 1) := by decide +kernel
theorem d_Letter_putAdded_43 : decode prog_2_method_13_code 43 = .ok (.i2l, 1) := by decide +kernel
theorem d_Letter_putAdded_44 : decode prog_2_method_13_code 44 = .ok (.iload_n 2, 1) := by decide +kernel
theorem d_Letter_putAdded_45 : decode prog_2_method_13_code 45 = .ok (.i2l, 1) := by decide +kernel
theorem d_Letter_putAdded_46 : decode prog_2_method_13_code 46 = .ok (.invokevirtual 74, 3) := by decide +kernel
theorem d_Letter_putAdded_49 : decode prog_2_method_13_code 49 = .ok (.invokevirtual 60, 3) := by decide +kernel
theorem d_Letter_putAdded_52 : decode prog_2_method_13_code 52 = .ok (.aload_n 0, 1) := by decide +kernel
theorem d_Letter_putAdded_53 : decode prog_2_method_13_code 53 = .ok (.iconst 0, 1) := by decide +kernel
theorem d_Letter_putAdded_54 : decode prog_2_method_13_code 54 = .ok (.iload 5, 2) := by decide +kernel
theorem d_Letter_putAdded_56 : decode prog_2_method_13_code 56 = .ok (.iload 4, 2) := by decide +kernel
theorem d_Letter_putAdded_58 : decode prog_2_method_13_code 58 = .ok (.isub, 1) := by decide +kernel
theorem d_Letter_putAdded_59 : decode prog_2_method_13_code 59 = .ok (.invokestatic 91, 3) := by decide +kernel
theorem d_Letter_putAdded_62 : decode prog_2_method_13_code 62 = .ok (.invokevirtual 60, 3) := by decide +kernel
theorem d_Letter_putAdded_65 : decode prog_2_method_13_code 65 = .ok (.aload_n 0, 1) := by decide +kernel
theorem d_Letter_putAdded_66 : decode prog_2_method_13_code 66 = .ok (.aload_n 0, 1) := by decide +kernel
theorem d_Letter_putAdded_67 : decode prog_2_method_13_code 67 = .ok (.getfield 37, 3) := by decide +kernel
theorem d_Letter_putAdded_70 : decode prog_2_method_13_code 70 = .ok (.l2i, 1) := by decide +kernel
theorem d_Letter_putAdded_71 : decode prog_2_method_13_code 71 = .ok (.invokevirtual 60, 3) := by decide +kernel
theorem d_Letter_putAdded_74 : decode prog_2_method_13_code 74 = .ok (.return_, 1) := by decide +kernel
