theorem d_M_init_0 : decode prog_10_method_1_code 0 = .ok (.aload_n 0, 1) := by decide +kernel
theorem d_M_init_1 : decode prog_10_method_1_code 1 = .ok (.invokespecial 1, 3) := by decide +kernel
theorem d_M_init_4 : decode prog_10_method_1_code 4 = .ok (.aload_n 0, 1) := by decide +kernel
theorem d_M_init_5 : decode prog_10_method_1_code 5 = .ok (.bipush 8, 2) := by decide +kernel
theorem d_M_init_7 : decode prog_10_method_1_code 7 = .ok (.newarray .boolean, 2) := by decide +kernel
theorem d_M_init_9 : decode prog_10_method_1_code 9 = .ok (.putfield 7, 3) := by decide +kernel
theorem d_M_init_12 : decode prog_10_method_1_code 12 = .ok (.aload_n 0, 1) := by decide +kernel
theorem d_M_init_13 : decode prog_10_method_1_code 13 = .ok (.bipush 8, 2) := by decide +kernel
theorem d_M_init_15 : decode prog_10_method_1_code 15 = .ok (.newarray .int, 2) := by decide +kernel
theorem d_M_init_17 : decode prog_10_method_1_code 17 = .ok (.putfield 13, 3) := by decide +kernel
theorem d_M_init_20 : decode prog_10_method_1_code 20 = .ok (.aload_n 0, 1) := by decide +kernel
theorem d_M_init_21 : decode prog_10_method_1_code 21 = .ok (.sipush 4000, 3) := by decide +kernel
theorem d_M_init_24 : decode prog_10_method_1_code 24 = .ok (.newarray .int, 2) := by decide +kernel
theorem d_M_init_26 : decode prog_10_method_1_code 26 = .ok (.putfield 17, 3) := by decide +kernel
theorem d_M_init_29 : decode prog_10_method_1_code 29 = .ok (.aload_n 0, 1) := by decide +kernel
theorem d_M_init_30 : decode prog_10_method_1_code 30 = .ok (.bipush 8, 2) := by decide +kernel
theorem d_M_init_32 : decode prog_10_method_1_code 32 = .ok (.newarray .int, 2) := by decide +kernel
theorem d_M_init_34 : decode prog_10_method_1_code 34 = .ok (.putfield 20, 3) := by decide +kernel
theorem d_M_init_37 : decode prog_10_method_1_code 37 = .ok (.aload_n 0, 1) := by decide +kernel
theorem d_M_init_38 : decode prog_10_method_1_code 38 = .ok (.bipush 8, 2) := by decide +kernel
theorem d_M_init_40 : decode prog_10_method_1_code 40 = .ok (.newarray .int, 2) := by decide +kernel
theorem d_M_init_42 : decode prog_10_method_1_code 42 = .ok (.putfield 23, 3) := by decide +kernel
theorem d_M_init_45 : decode prog_10_method_1_code 45 = .ok (.aload_n 0, 1) := by decide +kernel
theorem d_M_init_46 : decode prog_10_method_1_code 46 = .ok (.bipush 8, 2) := by decide +kernel
theorem d_M_init_48 : decode prog_10_method_1_code 48 = .ok (.newarray .int, 2) := by decide +kernel
theorem d_M_init_50 : decode prog_10_method_1_code 50 = .ok (.putfield 26, 3) := by decide +kernel
theorem d_M_init_53 : decode prog_10_method_1_code 53 = .ok (.aload_n 0, 1) := by decide +kernel
theorem d_M_init_54 : decode prog_10_method_1_code 54 = .ok (.bipush 8, 2) := by decide +kernel
theorem d_M_init_56 : decode prog_10_method_1_code 56 = .ok (.newarray .int, 2) := by decide +kernel
theorem d_M_init_58 : decode prog_10_method_1_code 58 = .ok (.putfield 29, 3) := by decide +kernel
theorem d_M_init_61 : decode prog_10_method_1_code 61 = .ok (.aload_n 0, 1) := by decide +kernel
theorem d_M_init_62 : decode prog_10_method_1_code 62 = .ok (.bipush 8, 2) := by decide +kernel
theorem d_M_init_64 : decode prog_10_method_1_code 64 = .ok (.newarray .int, 2) := by decide +kernel
theorem d_M_init_66 : decode prog_10_method_1_code 66 = .ok (.putfield 32, 3) := by decide +kernel
theorem d_M_init_69 : decode prog_10_method_1_code 69 = .ok (.aload_n 0, 1) := by decide +kernel
theorem d_M_init_70 : decode prog_10_method_1_code 70 = .ok (.bipush 8, 2) := by decide +kernel
theorem d_M_init_72 : decode prog_10_method_1_code 72 = .ok (.newarray .int, 2) := by decide +kernel
theorem d_M_init_74 : decode prog_10_method_1_code 74 = .ok (.putfield 35, 3) := by decide +kernel
theorem d_M_init_77 : decode prog_10_method_1_code 77 = .ok (.aload_n 0, 1) := by decide +kernel
theorem d_M_init_78 : decode prog_10_method_1_code 78 = .ok (.bipush 8, 2) := by decide +kernel
theorem d_M_init_80 : decode prog_10_method_1_code 80 = .ok (.newarray .int, 2) := by decide +kernel
theorem d_M_init_82 : decode prog_10_method_1_code 82 = .ok (.putfield 38, 3) := by decide +kernel
theorem d_M_init_85 : decode prog_10_method_1_code 85 = .ok (.aload_n 0, 1) := by decide +kernel
theorem d_M_init_86 : decode prog_10_method_1_code 86 = .ok (.bipush 8, 2) := by decide +kernel
theorem d_M_init_88 : decode prog_10_method_1_code 88 = .ok (.newarray .int, 2) := by decide +kernel
theorem d_M_init_90 : decode prog_10_method_1_code 90 = .ok (.putfield 41, 3) := by decide +kernel
theorem d_M_init_93 : decode prog_10_method_1_code 93 = .ok (.aload_n 0, 1) := by decide +kernel
theorem d_M_init_94 : decode prog_10_method_1_code 94 = .ok (.bipush 8, 2) := by decide +kernel
theorem d_M_init_96 : decode prog_10_method_1_code 96 = .ok (.newarray .int, 2) := by decide +kernel
theorem d_M_init_98 : decode prog_10_method_1_code 98 = .ok (.putfield 44, 3) := by decide +kernel
theorem d_M_init_101 : decode prog_10_method_1_code 101 = .ok (.aload_n 0, 1) := by decide +kernel
theorem d_M_init_102 : decode prog_10_method_1_code 102 = .ok (.bipush 8, 2) := by decide +kernel
theorem d_M_init_104 : decode prog_10_method_1_code 104 = .ok (.newarray .int, 2) := by decide +kernel
theorem d_M_init_106 : decode prog_10_method_1_code 106 = .ok (.putfield 47, 3) := by decide +kernel
theorem d_M_init_109 : decode prog_10_method_1_code 109 = .ok (.aload_n 0, 1) := by decide +kernel
theorem d_M_init_110 : decode prog_10_method_1_code 110 = .ok (.bipush 8, 2) := by decide +kernel
theorem d_M_init_112 : decode prog_10_method_1_code 112 = .ok (.newarray .int, 2) := by decide +kernel
theorem d_M_init_114 : decode prog_10_method_1_code 114 = .ok (.putfield 50, 3) := by decide +kernel
theorem d_M_init_117 : decode prog_10_method_1_code 117 = .ok (.aload_n 0, 1) := by decide +kernel
theorem d_M_init_118 : decode prog_10_method_1_code 118 = .ok (.bipush 8, 2) := by decide +kernel
theorem d_M_init_120 : decode prog_10_method_1_code 120 = .ok (.newarray .int, 2) := by decide +kernel
theorem d_M_init_122 : decode prog_10_method_1_code 122 = .ok (.putfield 53, 3) := by decide +kernel
theorem d_M_init_125 : decode prog_10_method_1_code 125 = .ok (.aload_n 0, 1) := by decide +kernel
theorem d_M_init_126 : decode prog_10_method_1_code 126 = .ok (.bipush 64, 2) := by decide +kernel
theorem d_M_init_128 : decode prog_10_method_1_code 128 = .ok (.newarray .int, 2) := by decide +kernel
theorem d_M_init_130 : decode prog_10_method_1_code 130 = .ok (.putfield 56, 3) := by decide +kernel
theorem d_M_init_133 : decode prog_10_method_1_code 133 = .ok (.aload_n 0, 1) := by decide +kernel
theorem d_M_init_134 : decode prog_10_method_1_code 134 = .ok (.bipush 8, 2) := by decide +kernel
theorem d_M_init_136 : decode prog_10_method_1_code 136 = .ok (.newarray .int, 2) := by decide +kernel
theorem d_M_init_138 : decode prog_10_method_1_code 138 = .ok (.putfield 59, 3) := by decide +kernel
theorem d_M_init_141 : decode prog_10_method_1_code 141 = .ok (.aload_n 0, 1) := by decide +kernel
theorem d_M_init_142 : decode prog_10_method_1_code 142 = .ok (.bipush 8, 2) := by decide +kernel
theorem d_M_init_144 : decode prog_10_method_1_code 144 = .ok (.newarray .int, 2) := by decide +kernel
theorem d_M_init_146 : decode prog_10_method_1_code 146 = .ok (.putfield 62, 3) := by decide +kernel
theorem d_M_init_149 : decode prog_10_method_1_code 149 = .ok (.aload_n 0, 1) := by decide +kernel
theorem d_M_init_150 : decode prog_10_method_1_code 150 = .ok (.bipush 8, 2) := by decide +kernel
theorem d_M_init_152 : decode prog_10_method_1_code 152 = .ok (.newarray .int, 2) := by decide +kernel
theorem d_M_init_154 : decode prog_10_method_1_code 154 = .ok (.putfield 65, 3) := by decide +kernel
theorem d_M_init_157 : decode prog_10_method_1_code 157 = .ok (.aload_n 0, 1) := by decide +kernel
theorem d_M_init_158 : decode prog_10_method_1_code 158 = .ok (.bipush 8, 2) := by decide +kernel
theorem d_M_init_160 : decode prog_10_method_1_code 160 = .ok (.newarray .int, 2) := by decide +kernel
theorem d_M_init_162 : decode prog_10_method_1_code 162 = .ok (.putfield 68, 3) := by decide +kernel
theorem d_M_init_165 : decode prog_10_method_1_code 165 = .ok (.aload_n 0, 1) := by decide +kernel
theorem d_M_init_166 : decode prog_10_method_1_code 166 = .ok (.bipush 8, 2) := by decide +kernel
theorem d_M_init_168 : decode prog_10_method_1_code 168 = .ok (.newarray .boolean, 2) := by decide +kernel
theorem d_M_init_170 : decode prog_10_method_1_code 170 = .ok (.putfield 71, 3) := by decide +kernel
theorem d_M_init_173 : decode prog_10_method_1_code 173 = .ok (.aload_n 0, 1) := by decide +kernel
theorem d_M_init_174 : decode prog_10_method_1_code 174 = .ok (.bipush 8, 2) := by decide +kernel
theorem d_M_init_176 : decode prog_10_method_1_code 176 = .ok (.newarray .int, 2) := by decide +kernel
theorem d_M_init_178 : decode prog_10_method_1_code 178 = .ok (.putfield 74, 3) := by decide +kernel
theorem d_M_init_181 : decode prog_10_method_1_code 181 = .ok (.aload_n 0, 1) := by decide +kernel
theorem d_M_init_182 : decode prog_10_method_1_code 182 = .ok (.bipush 8, 2) := by decide +kernel
theorem d_M_init_184 : decode prog_10_method_1_code 184 = .ok (.newarray .int, 2) := by decide +kernel
theorem d_M_init_186 : decode prog_10_method_1_code 186 = .ok (.putfield 77, 3) := by decide +kernel
theorem d_M_init_189 : decode prog_10_method_1_code 189 = .ok (.aload_n 0, 1) := by decide +kernel
theorem d_M_init_190 : decode prog_10_method_1_code 190 = .ok (.bipush 8, 2) := by decide +kernel
theorem d_M_init_192 : decode prog_10_method_1_code 192 = .ok (.newarray .int, 2) := by decide +kernel
theorem d_M_init_194 : decode prog_10_method_1_code 194 = .ok (.putfield 80, 3) := by decide +kernel
theorem d_M_init_197 : decode prog_10_method_1_code 197 = .ok (.aload_n 0, 1) := by decide +kernel
theorem d_M_init_198 : decode prog_10_method_1_code 198 = .ok (.bipush 8, 2) := by decide +kernel
theorem d_M_init_200 : decode prog_10_method_1_code 200 = .ok (.newarray .long, 2) := by decide +kernel
theorem d_M_init_202 : decode prog_10_method_1_code 202 = .ok (.putfield 83, 3) := by decide +kernel
theorem d_M_init_205 : decode prog_10_method_1_code 205 = .ok (.aload_n 0, 1) := by decide +kernel
theorem d_M_init_206 : decode prog_10_method_1_code 206 = .ok (.bipush 64, 2) := by decide +kernel
theorem d_M_init_208 : decode prog_10_method_1_code 208 = .ok (.newarray .boolean, 2) := by decide +kernel
theorem d_M_init_210 : decode prog_10_method_1_code 210 = .ok (.putfield 87, 3) := by decide +kernel
theorem d_M_init_213 : decode prog_10_method_1_code 213 = .ok (.aload_n 0, 1) := by decide +kernel
theorem d_M_init_214 : decode prog_10_method_1_code 214 = .ok (.sipush 256, 3) := by decide +kernel
theorem d_M_init_217 : decode prog_10_method_1_code 217 = .ok (.newarray .int, 2) := by decide +kernel
theorem d_M_init_219 : decode prog_10_method_1_code 219 = .ok (.putfield 90, 3) := by decide +kernel
theorem d_M_init_222 : decode prog_10_method_1_code 222 = .ok (.aload_n 0, 1) := by decide +kernel
theorem d_M_init_223 : decode prog_10_method_1_code 223 = .ok (.bipush 64, 2) := by decide +kernel
theorem d_M_init_225 : decode prog_10_method_1_code 225 = .ok (.newarray .long, 2) := by decide +kernel
theorem d_M_init_227 : decode prog_10_method_1_code 227 = .ok (.putfield 93, 3) := by decide +kernel
theorem d_M_init_230 : decode prog_10_method_1_code 230 = .ok (.aload_n 0, 1) := by decide +kernel
theorem d_M_init_231 : decode prog_10_method_1_code 231 = .ok (.bipush 64, 2) := by decide +kernel
theorem d_M_init_233 : decode prog_10_method_1_code 233 = .ok (.newarray .int, 2) := by decide +kernel
theorem d_M_init_235 : decode prog_10_method_1_code 235 = .ok (.putfield 96, 3) := by decide +kernel
theorem d_M_init_238 : decode prog_10_method_1_code 238 = .ok (.aload_n 0, 1) := by decide +kernel
theorem d_M_init_239 : decode prog_10_method_1_code 239 = .ok (.sipush 4096, 3) := by decide +kernel
theorem d_M_init_242 : decode prog_10_method_1_code 242 = .ok (.newarray .int, 2) := by decide +kernel
theorem d_M_init_244 : decode prog_10_method_1_code 244 = .ok (.putfield 99, 3) := by decide +kernel
theorem d_M_init_247 : decode prog_10_method_1_code 247 = .ok (.aload_n 0, 1) := by decide +kernel
theorem d_M_init_248 : decode prog_10_method_1_code 248 = .ok (.sipush 672, 3) := by decide +kernel
theorem d_M_init_251 : decode prog_10_method_1_code 251 = .ok (.newarray .int, 2) := by decide +kernel
theorem d_M_init_253 : decode prog_10_method_1_code 253 = .ok (.putfield 102, 3) := by decide +kernel
theorem d_M_init_256 : decode prog_10_method_1_code 256 = .ok (.aload_n 0, 1) := by decide +kernel
theorem d_M_init_257 : decode prog_10_method_1_code 257 = .ok (.sipush 6144, 3) := by decide +kernel
theorem d_M_init_260 : decode prog_10_method_1_code 260 = .ok (.newarray .int, 2) := by decide +kernel
theorem d_M_init_262 : decode prog_10_method_1_code 262 = .ok (.putfield 105, 3) := by decide +kernel
theorem d_M_init_265 : decode prog_10_method_1_code 265 = .ok (.aload_n 0, 1) := by decide +kernel
theorem d_M_init_266 : decode prog_10_method_1_code 266 = .ok (.bipush 96, 2) := by decide +kernel
theorem d_M_init_268 : decode prog_10_method_1_code 268 = .ok (.newarray .long, 2) := by decide +kernel
theorem d_M_init_270 : decode prog_10_method_1_code 270 = .ok (.putfield 108, 3) := by decide +kernel
theorem d_M_init_273 : decode prog_10_method_1_code 273 = .ok (.aload_n 0, 1) := by decide +kernel
theorem d_M_init_274 : decode prog_10_method_1_code 274 = .ok (.bipush 64, 2) := by decide +kernel
theorem d_M_init_276 : decode prog_10_method_1_code 276 = .ok (.newarray .int, 2) := by decide +kernel
theorem d_M_init_278 : decode prog_10_method_1_code 278 = .ok (.putfield 111, 3) := by decide +kernel
theorem d_M_init_281 : decode prog_10_method_1_code 281 = .ok (.return_, 1) := by decide +kernel
theorem d_M_thrown_0 : decode prog_10_method_2_code 0 = .ok (.aload_n 0, 1) := by decide +kernel
theorem d_M_thrown_1 : decode prog_10_method_2_code 1 = .ok (.getfield 114, 3) := by decide +kernel
theorem d_M_thrown_4 : decode prog_10_method_2_code 4 = .ok (.ireturn, 1) := by decide +kernel
theorem d_M_isLogger_0 : decode prog_10_method_3_code 0 = .ok (.iload_n 0, 1) := by decide +kernel
theorem d_M_isLogger_1 : decode prog_10_method_3_code 1 = .ok (.ifCond .lt 13, 3) := by decide +kernel
theorem d_M_isLogger_4 : decode prog_10_method_3_code 4 = .ok (.iload_n 0, 1) := by decide +kernel
theorem d_M_isLogger_5 : decode prog_10_method_3_code 5 = .ok (.bipush 8, 2) := by decide +kernel
theorem d_M_isLogger_7 : decode prog_10_method_3_code 7 = .ok (.if_icmp .ge 7, 3) := by decide +kernel
theorem d_M_isLogger_10 : decode prog_10_method_3_code 10 = .ok (.iconst 1, 1) := by decide +kernel
theorem d_M_isLogger_11 : decode prog_10_method_3_code 11 = .ok (.goto 4, 3) := by decide +kernel
theorem d_M_isLogger_14 : decode prog_10_method_3_code 14 = .ok (.iconst 0, 1) := by decide +kernel
theorem d_M_isLogger_15 : decode prog_10_method_3_code 15 = .ok (.ireturn, 1) := by decide +kernel
theorem d_M_placeOf_0 : decode prog_10_method_4_code 0 = .ok (.iconst (-1), 1) := by decide +kernel
theorem d_M_placeOf_1 : decode prog_10_method_4_code 1 = .ok (.istore_n 2, 1) := by decide +kernel
theorem d_M_placeOf_2 : decode prog_10_method_4_code 2 = .ok (.iconst 0, 1) := by decide +kernel
theorem d_M_placeOf_3 : decode prog_10_method_4_code 3 = .ok (.istore_n 3, 1) := by decide +kernel
theorem d_M_placeOf_4 : decode prog_10_method_4_code 4 = .ok (.iload_n 3, 1) := by decide +kernel
theorem d_M_placeOf_5 : decode prog_10_method_4_code 5 = .ok (.bipush 8, 2) := by decide +kernel
theorem d_M_placeOf_7 : decode prog_10_method_4_code 7 = .ok (.if_icmp .ge 29, 3) := by decide +kernel
theorem d_M_placeOf_10 : decode prog_10_method_4_code 10 = .ok (.iload_n 1, 1) := by decide +kernel
theorem d_M_placeOf_11 : decode prog_10_method_4_code 11 = .ok (.ifCond .le 17, 3) := by decide +kernel
theorem d_M_placeOf_14 : decode prog_10_method_4_code 14 = .ok (.aload_n 0, 1) := by decide +kernel
theorem d_M_placeOf_15 : decode prog_10_method_4_code 15 = .ok (.getfield 20, 3) := by decide +kernel
theorem d_M_placeOf_18 : decode prog_10_method_4_code 18 = .ok (.iload_n 3, 1) := by decide +kernel
theorem d_M_placeOf_19 : decode prog_10_method_4_code 19 = .ok (.iaload, 1) := by decide +kernel
theorem d_M_placeOf_20 : decode prog_10_method_4_code 20 = .ok (.iload_n 1, 1) := by decide +kernel
theorem d_M_placeOf_21 : decode prog_10_method_4_code 21 = .ok (.if_icmp .ne 7, 3) := by decide +kernel
theorem d_M_placeOf_24 : decode prog_10_method_4_code 24 = .ok (.iload_n 3, 1) := by decide +kernel
theorem d_M_placeOf_25 : decode prog_10_method_4_code 25 = .ok (.goto 4, 3) := by decide +kernel
theorem d_M_placeOf_28 : decode prog_10_method_4_code 28 = .ok (.iload_n 2, 1) := by decide +kernel
theorem d_M_placeOf_29 : decode prog_10_method_4_code 29 = .ok (.istore_n 2, 1) := by decide +kernel
theorem d_M_placeOf_30 : decode prog_10_method_4_code 30 = .ok (.iinc 3 1, 3) := by decide +kernel
theorem d_M_placeOf_33 : decode prog_10_method_4_code 33 = .ok (.goto (-29), 3) := by decide +kernel
theorem d_M_placeOf_36 : decode prog_10_method_4_code 36 = .ok (.iload_n 2, 1) := by decide +kernel
theorem d_M_placeOf_37 : decode prog_10_method_4_code 37 = .ok (.ireturn, 1) := by decide +kernel
theorem d_M_record_0 : decode prog_10_method_5_code 0 = .ok (.aload_n 0, 1) := by decide +kernel
theorem d_M_record_1 : decode prog_10_method_5_code 1 = .ok (.iload_n 1, 1) := by decide +kernel
theorem d_M_record_2 : decode prog_10_method_5_code 2 = .ok (.invokestatic 118, 3) := by decide +kernel
theorem d_M_record_5 : decode prog_10_method_5_code 5 = .ok (.ifCond .ne 7, 3) := by decide +kernel
theorem d_M_record_8 : decode prog_10_method_5_code 8 = .ok (.iconst 1, 1) := by decide +kernel
theorem d_M_record_9 : decode prog_10_method_5_code 9 = .ok (.goto 29, 3) := by decide +kernel
theorem d_M_record_12 : decode prog_10_method_5_code 12 = .ok (.aload_n 0, 1) := by decide +kernel
theorem d_M_record_13 : decode prog_10_method_5_code 13 = .ok (.getfield 7, 3) := by decide +kernel
theorem d_M_record_16 : decode prog_10_method_5_code 16 = .ok (.iload_n 1, 1) := by decide +kernel
theorem d_M_record_17 : decode prog_10_method_5_code 17 = .ok (.baload, 1) := by decide +kernel
theorem d_M_record_18 : decode prog_10_method_5_code 18 = .ok (.ifCond .ne 15, 3) := by decide +kernel
theorem d_M_record_21 : decode prog_10_method_5_code 21 = .ok (.aload_n 0, 1) := by decide +kernel
theorem d_M_record_22 : decode prog_10_method_5_code 22 = .ok (.getfield 13, 3) := by decide +kernel
theorem d_M_record_25 : decode prog_10_method_5_code 25 = .ok (.iload_n 1, 1) := by decide +kernel
theorem d_M_record_26 : decode prog_10_method_5_code 26 = .ok (.iaload, 1) := by decide +kernel
theorem d_M_record_27 : decode prog_10_method_5_code 27 = .ok (.sipush 500, 3) := by decide +kernel
theorem d_M_record_30 : decode prog_10_method_5_code 30 = .ok (.if_icmp .ne 7, 3) := by decide +kernel
theorem d_M_record_33 : decode prog_10_method_5_code 33 = .ok (.iconst 2, 1) := by decide +kernel
theorem d_M_record_34 : decode prog_10_method_5_code 34 = .ok (.goto 4, 3) := by decide +kernel
theorem d_M_record_37 : decode prog_10_method_5_code 37 = .ok (.iconst 0, 1) := by decide +kernel
theorem d_M_record_38 : decode prog_10_method_5_code 38 = .ok (.putfield 114, 3) := by decide +kernel
theorem d_M_record_41 : decode prog_10_method_5_code 41 = .ok (.aload_n 0, 1) := by decide +kernel
theorem d_M_record_42 : decode prog_10_method_5_code 42 = .ok (.getfield 114, 3) := by decide +kernel
theorem d_M_record_45 : decode prog_10_method_5_code 45 = .ok (.ifCond .le 5, 3) := by decide +kernel
theorem d_M_record_48 : decode prog_10_method_5_code 48 = .ok (.iconst 0, 1) := by decide +kernel
theorem d_M_record_49 : decode prog_10_method_5_code 49 = .ok (.ireturn, 1) := by decide +kernel
theorem d_M_record_50 : decode prog_10_method_5_code 50 = .ok (.aload_n 0, 1) := by decide +kernel
theorem d_M_record_51 : decode prog_10_method_5_code 51 = .ok (.getfield 17, 3) := by decide +kernel
theorem d_M_record_54 : decode prog_10_method_5_code 54 = .ok (.sipush 500, 3) := by decide +kernel
theorem d_M_record_57 : decode prog_10_method_5_code 57 = .ok (.iload_n 1, 1) := by decide +kernel
theorem d_M_record_58 : decode prog_10_method_5_code 58 = .ok (.imul, 1) := by decide +kernel
theorem d_M_record_59 : decode prog_10_method_5_code 59 = .ok (.aload_n 0, 1) := by decide +kernel
theorem d_M_record_60 : decode prog_10_method_5_code 60 = .ok (.getfield 13, 3) := by decide +kernel
theorem d_M_record_63 : decode prog_10_method_5_code 63 = .ok (.iload_n 1, 1) := by decide +kernel
theorem d_M_record_64 : decode prog_10_method_5_code 64 = .ok (.iaload, 1) := by decide +kernel
theorem d_M_record_65 : decode prog_10_method_5_code 65 = .ok (.iadd, 1) := by decide +kernel
theorem d_M_record_66 : decode prog_10_method_5_code 66 = .ok (.iload_n 2, 1) := by decide +kernel
theorem d_M_record_67 : decode prog_10_method_5_code 67 = .ok (.iastore, 1) := by decide +kernel
theorem d_M_record_68 : decode prog_10_method_5_code 68 = .ok (.aload_n 0, 1) := by decide +kernel
theorem d_M_record_69 : decode prog_10_method_5_code 69 = .ok (.getfield 13, 3) := by decide +kernel
theorem d_M_record_72 : decode prog_10_method_5_code 72 = .ok (.iload_n 1, 1) := by decide +kernel
theorem d_M_record_73 : decode prog_10_method_5_code 73 = .ok (.dup2, 1) := by decide +kernel
theorem d_M_record_74 : decode prog_10_method_5_code 74 = .ok (.iaload, 1) := by decide +kernel
theorem d_M_record_75 : decode prog_10_method_5_code 75 = .ok (.iconst 1, 1) := by decide +kernel
theorem d_M_record_76 : decode prog_10_method_5_code 76 = .ok (.iadd, 1) := by decide +kernel
theorem d_M_record_77 : decode prog_10_method_5_code 77 = .ok (.iastore, 1) := by decide +kernel
theorem d_M_record_78 : decode prog_10_method_5_code 78 = .ok (.aload_n 0, 1) := by decide +kernel
theorem d_M_record_79 : decode prog_10_method_5_code 79 = .ok (.getfield 13, 3) := by decide +kernel
theorem d_M_record_82 : decode prog_10_method_5_code 82 = .ok (.iload_n 1, 1) := by decide +kernel
theorem d_M_record_83 : decode prog_10_method_5_code 83 = .ok (.iaload, 1) := by decide +kernel
theorem d_M_record_84 : decode prog_10_method_5_code 84 = .ok (.ireturn, 1) := by decide +kernel
theorem d_M_fill_0 : decode prog_10_method_6_code 0 = .ok (.aload_n 0, 1) := by decide +kernel
theorem d_M_fill_1 : decode prog_10_method_6_code 1 = .ok (.iload_n 1, 1) := by decide +kernel
theorem d_M_fill_2 : decode prog_10_method_6_code 2 = .ok (.invokestatic 118, 3) := by decide +kernel
theorem d_M_fill_5 : decode prog_10_method_6_code 5 = .ok (.ifCond .ne 7, 3) := by decide +kernel
theorem d_M_fill_8 : decode prog_10_method_6_code 8 = .ok (.iconst 1, 1) := by decide +kernel
theorem d_M_fill_9 : decode prog_10_method_6_code 9 = .ok (.goto 46, 3) := by decide +kernel
theorem d_M_fill_12 : decode prog_10_method_6_code 12 = .ok (.iload_n 2, 1) := by decide +kernel
theorem d_M_fill_13 : decode prog_10_method_6_code 13 = .ok (.ifCond .lt 10, 3) := by decide +kernel
theorem d_M_fill_16 : decode prog_10_method_6_code 16 = .ok (.iload_n 2, 1) := by decide +kernel
theorem d_M_fill_17 : decode prog_10_method_6_code 17 = .ok (.sipush 500, 3) := by decide +kernel
theorem d_M_fill_20 : decode prog_10_method_6_code 20 = .ok (.if_icmp .le 7, 3) := by decide +kernel
theorem d_M_fill_23 : decode prog_10_method_6_code 23 = .ok (.iconst 2, 1) := by decide +kernel
theorem d_M_fill_24 : decode prog_10_method_6_code 24 = .ok (.goto 31, 3) := by decide +kernel
theorem d_M_fill_27 : decode prog_10_method_6_code 27 = .ok (.aload_n 0, 1) := by decide +kernel
theorem d_M_fill_28 : decode prog_10_method_6_code 28 = .ok (.getfield 7, 3) := by decide +kernel
theorem d_M_fill_31 : decode prog_10_method_6_code 31 = .ok (.iload_n 1, 1) := by decide +kernel
theorem d_M_fill_32 : decode prog_10_method_6_code 32 = .ok (.baload, 1) := by decide +kernel
theorem d_M_fill_33 : decode prog_10_method_6_code 33 = .ok (.ifCond .ne 17, 3) := by decide +kernel
theorem d_M_fill_36 : decode prog_10_method_6_code 36 = .ok (.aload_n 0, 1) := by decide +kernel
theorem d_M_fill_37 : decode prog_10_method_6_code 37 = .ok (.getfield 13, 3) := by decide +kernel
theorem d_M_fill_40 : decode prog_10_method_6_code 40 = .ok (.iload_n 1, 1) := by decide +kernel
theorem d_M_fill_41 : decode prog_10_method_6_code 41 = .ok (.iaload, 1) := by decide +kernel
theorem d_M_fill_42 : decode prog_10_method_6_code 42 = .ok (.iload_n 2, 1) := by decide +kernel
theorem d_M_fill_43 : decode prog_10_method_6_code 43 = .ok (.iadd, 1) := by decide +kernel
theorem d_M_fill_44 : decode prog_10_method_6_code 44 = .ok (.sipush 500, 3) := by decide +kernel
theorem d_M_fill_47 : decode prog_10_method_6_code 47 = .ok (.if_icmp .le 7, 3) := by decide +kernel
theorem d_M_fill_50 : decode prog_10_method_6_code 50 = .ok (.iconst 3, 1) := by decide +kernel
theorem d_M_fill_51 : decode prog_10_method_6_code 51 = .ok (.goto 4, 3) := by decide +kernel
theorem d_M_fill_54 : decode prog_10_method_6_code 54 = .ok (.iconst 0, 1) := by decide +kernel
theorem d_M_fill_55 : decode prog_10_method_6_code 55 = .ok (.putfield 114, 3) := by decide +kernel
theorem d_M_fill_58 : decode prog_10_method_6_code 58 = .ok (.aload_n 0, 1) := by decide +kernel
theorem d_M_fill_59 : decode prog_10_method_6_code 59 = .ok (.getfield 114, 3) := by decide +kernel
theorem d_M_fill_62 : decode prog_10_method_6_code 62 = .ok (.ifCond .le 5, 3) := by decide +kernel
theorem d_M_fill_65 : decode prog_10_method_6_code 65 = .ok (.iconst 0, 1) := by decide +kernel
theorem d_M_fill_66 : decode prog_10_method_6_code 66 = .ok (.ireturn, 1) := by decide +kernel
theorem d_M_fill_67 : decode prog_10_method_6_code 67 = .ok (.iconst 0, 1) := by decide +kernel
theorem d_M_fill_68 : decode prog_10_method_6_code 68 = .ok (.istore 6, 2) := by decide +kernel
theorem d_M_fill_70 : decode prog_10_method_6_code 70 = .ok (.iload 6, 2) := by decide +kernel
theorem d_M_fill_72 : decode prog_10_method_6_code 72 = .ok (.iload_n 2, 1) := by decide +kernel
theorem d_M_fill_73 : decode prog_10_method_6_code 73 = .ok (.if_icmp .ge 45, 3) := by decide +kernel
theorem d_M_fill_76 : decode prog_10_method_6_code 76 = .ok (.aload_n 0, 1) := by decide +kernel
theorem d_M_fill_77 : decode prog_10_method_6_code 77 = .ok (.getfield 17, 3) := by decide +kernel
theorem d_M_fill_80 : decode prog_10_method_6_code 80 = .ok (.sipush 500, 3) := by decide +kernel
theorem d_M_fill_83 : decode prog_10_method_6_code 83 = .ok (.iload_n 1, 1) := by decide +kernel
theorem d_M_fill_84 : decode prog_10_method_6_code 84 = .ok (.imul, 1) := by decide +kernel
theorem d_M_fill_85 : decode prog_10_method_6_code 85 = .ok (.aload_n 0, 1) := by decide +kernel
theorem d_M_fill_86 : decode prog_10_method_6_code 86 = .ok (.getfield 13, 3) := by decide +kernel
theorem d_M_fill_89 : decode prog_10_method_6_code 89 = .ok (.iload_n 1, 1) := by decide +kernel
theorem d_M_fill_90 : decode prog_10_method_6_code 90 = .ok (.iaload, 1) := by decide +kernel
theorem d_M_fill_91 : decode prog_10_method_6_code 91 = .ok (.iadd, 1) := by decide +kernel
theorem d_M_fill_92 : decode prog_10_method_6_code 92 = .ok (.iload 6, 2) := by decide +kernel
theorem d_M_fill_94 : decode prog_10_method_6_code 94 = .ok (.iadd, 1) := by decide +kernel
theorem d_M_fill_95 : decode prog_10_method_6_code 95 = .ok (.iload_n 3, 1) := by decide +kernel
theorem d_M_fill_96 : decode prog_10_method_6_code 96 = .ok (.iload 4, 2) := by decide +kernel
theorem d_M_fill_98 : decode prog_10_method_6_code 98 = .ok (.iload 6, 2) := by decide +kernel
theorem d_M_fill_100 : decode prog_10_method_6_code 100 = .ok (.imul, 1) := by decide +kernel
theorem d_M_fill_101 : decode prog_10_method_6_code 101 = .ok (.iadd, 1) := by decide +kernel
theorem d_M_fill_102 : decode prog_10_method_6_code 102 = .ok (.iload 6, 2) := by decide +kernel
theorem d_M_fill_104 : decode prog_10_method_6_code 104 = .ok (.ldc 122, 2) := by decide +kernel
theorem d_M_fill_106 : decode prog_10_method_6_code 106 = .ok (.imul, 1) := by decide +kernel
theorem d_M_fill_107 : decode prog_10_method_6_code 107 = .ok (.iload 5, 2) := by decide +kernel
theorem d_M_fill_109 : decode prog_10_method_6_code 109 = .ok (.iand, 1) := by decide +kernel
theorem d_M_fill_110 : decode prog_10_method_6_code 110 = .ok (.ixor, 1) := by decide +kernel
theorem d_M_fill_111 : decode prog_10_method_6_code 111 = .ok (.iastore, 1) := by decide +kernel
theorem d_M_fill_112 : decode prog_10_method_6_code 112 = .ok (.iinc 6 1, 3) := by decide +kernel
theorem d_M_fill_115 : decode prog_10_method_6_code 115 = .ok (.goto (-45), 3) := by decide +kernel
theorem d_M_fill_118 : decode prog_10_method_6_code 118 = .ok (.aload_n 0, 1) := by decide +kernel
theorem d_M_fill_119 : decode prog_10_method_6_code 119 = .ok (.getfield 13, 3) := by decide +kernel
theorem d_M_fill_122 : decode prog_10_method_6_code 122 = .ok (.iload_n 1, 1) := by decide +kernel
theorem d_M_fill_123 : decode prog_10_method_6_code 123 = .ok (.aload_n 0, 1) := by decide +kernel
theorem d_M_fill_124 : decode prog_10_method_6_code 124 = .ok (.getfield 13, 3) := by decide +kernel
theorem d_M_fill_127 : decode prog_10_method_6_code 127 = .ok (.iload_n 1, 1) := by decide +kernel
theorem d_M_fill_128 : decode prog_10_method_6_code 128 = .ok (.iaload, 1) := by decide +kernel
theorem d_M_fill_129 : decode prog_10_method_6_code 129 = .ok (.iload_n 2, 1) := by decide +kernel
theorem d_M_fill_130 : decode prog_10_method_6_code 130 = .ok (.iadd, 1) := by decide +kernel
theorem d_M_fill_131 : decode prog_10_method_6_code 131 = .ok (.iastore, 1) := by decide +kernel
theorem d_M_fill_132 : decode prog_10_method_6_code 132 = .ok (.aload_n 0, 1) := by decide +kernel
theorem d_M_fill_133 : decode prog_10_method_6_code 133 = .ok (.getfield 13, 3) := by decide +kernel
theorem d_M_fill_136 : decode prog_10_method_6_code 136 = .ok (.iload_n 1, 1) := by decide +kernel
theorem d_M_fill_137 : decode prog_10_method_6_code 137 = .ok (.iaload, 1) := by decide +kernel
theorem d_M_fill_138 : decode prog_10_method_6_code 138 = .ok (.ireturn, 1) := by decide +kernel
theorem d_M_size_0 : decode prog_10_method_7_code 0 = .ok (.aload_n 0, 1) := by decide +kernel
theorem d_M_size_1 : decode prog_10_method_7_code 1 = .ok (.iload_n 1, 1) := by decide +kernel
theorem d_M_size_2 : decode prog_10_method_7_code 2 = .ok (.invokestatic 118, 3) := by decide +kernel
theorem d_M_size_5 : decode prog_10_method_7_code 5 = .ok (.ifCond .eq 7, 3) := by decide +kernel
theorem d_M_size_8 : decode prog_10_method_7_code 8 = .ok (.iconst 0, 1) := by decide +kernel
theorem d_M_size_9 : decode prog_10_method_7_code 9 = .ok (.goto 4, 3) := by decide +kernel
theorem d_M_size_12 : decode prog_10_method_7_code 12 = .ok (.iconst 1, 1) := by decide +kernel
theorem d_M_size_13 : decode prog_10_method_7_code 13 = .ok (.putfield 114, 3) := by decide +kernel
theorem d_M_size_16 : decode prog_10_method_7_code 16 = .ok (.aload_n 0, 1) := by decide +kernel
theorem d_M_size_17 : decode prog_10_method_7_code 17 = .ok (.getfield 114, 3) := by decide +kernel
theorem d_M_size_20 : decode prog_10_method_7_code 20 = .ok (.ifCond .le 7, 3) := by decide +kernel
theorem d_M_size_23 : decode prog_10_method_7_code 23 = .ok (.iconst 0, 1) := by decide +kernel
theorem d_M_size_24 : decode prog_10_method_7_code 24 = .ok (.goto 9, 3) := by decide +kernel
theorem d_M_size_27 : decode prog_10_method_7_code 27 = .ok (.aload_n 0, 1) := by decide +kernel
theorem d_M_size_28 : decode prog_10_method_7_code 28 = .ok (.getfield 13, 3) := by decide +kernel
theorem d_M_size_31 : decode prog_10_method_7_code 31 = .ok (.iload_n 1, 1) := by decide +kernel
theorem d_M_size_32 : decode prog_10_method_7_code 32 = .ok (.iaload, 1) := by decide +kernel
theorem d_M_size_33 : decode prog_10_method_7_code 33 = .ok (.ireturn, 1) := by decide +kernel
theorem d_M_countOf_0 : decode prog_10_method_8_code 0 = .ok (.iconst 0, 1) := by decide +kernel
theorem d_M_countOf_1 : decode prog_10_method_8_code 1 = .ok (.istore 7, 2) := by decide +kernel
theorem d_M_countOf_3 : decode prog_10_method_8_code 3 = .ok (.iconst 0, 1) := by decide +kernel
theorem d_M_countOf_4 : decode prog_10_method_8_code 4 = .ok (.istore 8, 2) := by decide +kernel
theorem d_M_countOf_6 : decode prog_10_method_8_code 6 = .ok (.iload 8, 2) := by decide +kernel
theorem d_M_countOf_8 : decode prog_10_method_8_code 8 = .ok (.aload_n 0, 1) := by decide +kernel
theorem d_M_countOf_9 : decode prog_10_method_8_code 9 = .ok (.getfield 56, 3) := by decide +kernel
theorem d_M_countOf_12 : decode prog_10_method_8_code 12 = .ok (.bipush 8, 2) := by decide +kernel
theorem d_M_countOf_14 : decode prog_10_method_8_code 14 = .ok (.iload_n 2, 1) := by decide +kernel
theorem d_M_countOf_15 : decode prog_10_method_8_code 15 = .ok (.imul, 1) := by decide +kernel
theorem d_M_countOf_16 : decode prog_10_method_8_code 16 = .ok (.iload_n 1, 1) := by decide +kernel
theorem d_M_countOf_17 : decode prog_10_method_8_code 17 = .ok (.iadd, 1) := by decide +kernel
theorem d_M_countOf_18 : decode prog_10_method_8_code 18 = .ok (.iaload, 1) := by decide +kernel
theorem d_M_countOf_19 : decode prog_10_method_8_code 19 = .ok (.if_icmp .ge 51, 3) := by decide +kernel
theorem d_M_countOf_22 : decode prog_10_method_8_code 22 = .ok (.aload_n 0, 1) := by decide +kernel
theorem d_M_countOf_23 : decode prog_10_method_8_code 23 = .ok (.getfield 17, 3) := by decide +kernel
theorem d_M_countOf_26 : decode prog_10_method_8_code 26 = .ok (.sipush 500, 3) := by decide +kernel
theorem d_M_countOf_29 : decode prog_10_method_8_code 29 = .ok (.iload_n 1, 1) := by decide +kernel
theorem d_M_countOf_30 : decode prog_10_method_8_code 30 = .ok (.imul, 1) := by decide +kernel
theorem d_M_countOf_31 : decode prog_10_method_8_code 31 = .ok (.iload 8, 2) := by decide +kernel
theorem d_M_countOf_33 : decode prog_10_method_8_code 33 = .ok (.iadd, 1) := by decide +kernel
theorem d_M_countOf_34 : decode prog_10_method_8_code 34 = .ok (.iaload, 1) := by decide +kernel
theorem d_M_countOf_35 : decode prog_10_method_8_code 35 = .ok (.istore 9, 2) := by decide +kernel
theorem d_M_countOf_37 : decode prog_10_method_8_code 37 = .ok (.iload 7, 2) := by decide +kernel
theorem d_M_countOf_39 : decode prog_10_method_8_code 39 = .ok (.iload 9, 2) := by decide +kernel
theorem d_M_countOf_41 : decode prog_10_method_8_code 41 = .ok (.i2l, 1) := by decide +kernel
theorem d_M_countOf_42 : decode prog_10_method_8_code 42 = .ok (.lload_n 3, 1) := by decide +kernel
theorem d_M_countOf_43 : decode prog_10_method_8_code 43 = .ok (.lcmp, 1) := by decide +kernel
theorem d_M_countOf_44 : decode prog_10_method_8_code 44 = .ok (.ifCond .lt 16, 3) := by decide +kernel
theorem d_M_countOf_47 : decode prog_10_method_8_code 47 = .ok (.iload 9, 2) := by decide +kernel
theorem d_M_countOf_49 : decode prog_10_method_8_code 49 = .ok (.i2l, 1) := by decide +kernel
theorem d_M_countOf_50 : decode prog_10_method_8_code 50 = .ok (.lload 5, 2) := by decide +kernel
theorem d_M_countOf_52 : decode prog_10_method_8_code 52 = .ok (.lcmp, 1) := by decide +kernel
theorem d_M_countOf_53 : decode prog_10_method_8_code 53 = .ok (.ifCond .gt 7, 3) := by decide +kernel
theorem d_M_countOf_56 : decode prog_10_method_8_code 56 = .ok (.iconst 1, 1) := by decide +kernel
theorem d_M_countOf_57 : decode prog_10_method_8_code 57 = .ok (.goto 4, 3) := by decide +kernel
theorem d_M_countOf_60 : decode prog_10_method_8_code 60 = .ok (.iconst 0, 1) := by decide +kernel
theorem d_M_countOf_61 : decode prog_10_method_8_code 61 = .ok (.iadd, 1) := by decide +kernel
theorem d_M_countOf_62 : decode prog_10_method_8_code 62 = .ok (.istore 7, 2) := by decide +kernel
theorem d_M_countOf_64 : decode prog_10_method_8_code 64 = .ok (.iinc 8 1, 3) := by decide +kernel
theorem d_M_countOf_67 : decode prog_10_method_8_code 67 = .ok (.goto (-61), 3) := by decide +kernel
theorem d_M_countOf_70 : decode prog_10_method_8_code 70 = .ok (.iload 7, 2) := by decide +kernel
theorem d_M_countOf_72 : decode prog_10_method_8_code 72 = .ok (.ireturn, 1) := by decide +kernel
theorem d_M_sumOf_0 : decode prog_10_method_9_code 0 = .ok (.lconst 0, 1) := by decide +kernel
theorem d_M_sumOf_1 : decode prog_10_method_9_code 1 = .ok (.lstore 7, 2) := by decide +kernel
theorem d_M_sumOf_3 : decode prog_10_method_9_code 3 = .ok (.iconst 0, 1) := by decide +kernel
theorem d_M_sumOf_4 : decode prog_10_method_9_code 4 = .ok (.istore 9, 2) := by decide +kernel
theorem d_M_sumOf_6 : decode prog_10_method_9_code 6 = .ok (.iload 9, 2) := by decide +kernel
theorem d_M_sumOf_8 : decode prog_10_method_9_code 8 = .ok (.aload_n 0, 1) := by decide +kernel
theorem d_M_sumOf_9 : decode prog_10_method_9_code 9 = .ok (.getfield 56, 3) := by decide +kernel
theorem d_M_sumOf_12 : decode prog_10_method_9_code 12 = .ok (.bipush 8, 2) := by decide +kernel
theorem d_M_sumOf_14 : decode prog_10_method_9_code 14 = .ok (.iload_n 2, 1) := by decide +kernel
theorem d_M_sumOf_15 : decode prog_10_method_9_code 15 = .ok (.imul, 1) := by decide +kernel
theorem d_M_sumOf_16 : decode prog_10_method_9_code 16 = .ok (.iload_n 1, 1) := by decide +kernel
theorem d_M_sumOf_17 : decode prog_10_method_9_code 17 = .ok (.iadd, 1) := by decide +kernel
theorem d_M_sumOf_18 : decode prog_10_method_9_code 18 = .ok (.iaload, 1) := by decide +kernel
theorem d_M_sumOf_19 : decode prog_10_method_9_code 19 = .ok (.if_icmp .ge 53, 3) := by decide +kernel
theorem d_M_sumOf_22 : decode prog_10_method_9_code 22 = .ok (.aload_n 0, 1) := by decide +kernel
theorem d_M_sumOf_23 : decode prog_10_method_9_code 23 = .ok (.getfield 17, 3) := by decide +kernel
theorem d_M_sumOf_26 : decode prog_10_method_9_code 26 = .ok (.sipush 500, 3) := by decide +kernel
theorem d_M_sumOf_29 : decode prog_10_method_9_code 29 = .ok (.iload_n 1, 1) := by decide +kernel
theorem d_M_sumOf_30 : decode prog_10_method_9_code 30 = .ok (.imul, 1) := by decide +kernel
theorem d_M_sumOf_31 : decode prog_10_method_9_code 31 = .ok (.iload 9, 2) := by decide +kernel
theorem d_M_sumOf_33 : decode prog_10_method_9_code 33 = .ok (.iadd, 1) := by decide +kernel
theorem d_M_sumOf_34 : decode prog_10_method_9_code 34 = .ok (.iaload, 1) := by decide +kernel
theorem d_M_sumOf_35 : decode prog_10_method_9_code 35 = .ok (.istore 10, 2) := by decide +kernel
theorem d_M_sumOf_37 : decode prog_10_method_9_code 37 = .ok (.lload 7, 2) := by decide +kernel
theorem d_M_sumOf_39 : decode prog_10_method_9_code 39 = .ok (.iload 10, 2) := by decide +kernel
theorem d_M_sumOf_41 : decode prog_10_method_9_code 41 = .ok (.i2l, 1) := by decide +kernel
theorem d_M_sumOf_42 : decode prog_10_method_9_code 42 = .ok (.lload_n 3, 1) := by decide +kernel
theorem d_M_sumOf_43 : decode prog_10_method_9_code 43 = .ok (.lcmp, 1) := by decide +kernel
theorem d_M_sumOf_44 : decode prog_10_method_9_code 44 = .ok (.ifCond .lt 18, 3) := by decide +kernel
theorem d_M_sumOf_47 : decode prog_10_method_9_code 47 = .ok (.iload 10, 2) := by decide +kernel
theorem d_M_sumOf_49 : decode prog_10_method_9_code 49 = .ok (.i2l, 1) := by decide +kernel
theorem d_M_sumOf_50 : decode prog_10_method_9_code 50 = .ok (.lload 5, 2) := by decide +kernel
theorem d_M_sumOf_52 : decode prog_10_method_9_code 52 = .ok (.lcmp, 1) := by decide +kernel
theorem d_M_sumOf_53 : decode prog_10_method_9_code 53 = .ok (.ifCond .gt 9, 3) := by decide +kernel
theorem d_M_sumOf_56 : decode prog_10_method_9_code 56 = .ok (.iload 10, 2) := by decide +kernel
theorem d_M_sumOf_58 : decode prog_10_method_9_code 58 = .ok (.i2l, 1) := by decide +kernel
theorem d_M_sumOf_59 : decode prog_10_method_9_code 59 = .ok (.goto 4, 3) := by decide +kernel
theorem d_M_sumOf_62 : decode prog_10_method_9_code 62 = .ok (.lconst 0, 1) := by decide +kernel
theorem d_M_sumOf_63 : decode prog_10_method_9_code 63 = .ok (.ladd, 1) := by decide +kernel
theorem d_M_sumOf_64 : decode prog_10_method_9_code 64 = .ok (.lstore 7, 2) := by decide +kernel
theorem d_M_sumOf_66 : decode prog_10_method_9_code 66 = .ok (.iinc 9 1, 3) := by decide +kernel
theorem d_M_sumOf_69 : decode prog_10_method_9_code 69 = .ok (.goto (-63), 3) := by decide +kernel
theorem d_M_sumOf_72 : decode prog_10_method_9_code 72 = .ok (.lload 7, 2) := by decide +kernel
theorem d_M_sumOf_74 : decode prog_10_method_9_code 74 = .ok (.lreturn, 1) := by decide +kernel
theorem d_M_leastOf_0 : decode prog_10_method_10_code 0 = .ok (.iconst 0, 1) := by decide +kernel
theorem d_M_leastOf_1 : decode prog_10_method_10_code 1 = .ok (.istore 6, 2) := by decide +kernel
theorem d_M_leastOf_3 : decode prog_10_method_10_code 3 = .ok (.iconst 0, 1) := by decide +kernel
theorem d_M_leastOf_4 : decode prog_10_method_10_code 4 = .ok (.istore 7, 2) := by decide +kernel
theorem d_M_leastOf_6 : decode prog_10_method_10_code 6 = .ok (.iload 7, 2) := by decide +kernel
theorem d_M_leastOf_8 : decode prog_10_method_10_code 8 = .ok (.aload_n 0, 1) := by decide +kernel
theorem d_M_leastOf_9 : decode prog_10_method_10_code 9 = .ok (.getfield 56, 3) := by decide +kernel
theorem d_M_leastOf_12 : decode prog_10_method_10_code 12 = .ok (.bipush 8, 2) := by decide +kernel
theorem d_M_leastOf_14 : decode prog_10_method_10_code 14 = .ok (.iload_n 2, 1) := by decide +kernel
theorem d_M_leastOf_15 : decode prog_10_method_10_code 15 = .ok (.imul, 1) := by decide +kernel
theorem d_M_leastOf_16 : decode prog_10_method_10_code 16 = .ok (.iload_n 1, 1) := by decide +kernel
theorem d_M_leastOf_17 : decode prog_10_method_10_code 17 = .ok (.iadd, 1) := by decide +kernel
theorem d_M_leastOf_18 : decode prog_10_method_10_code 18 = .ok (.iaload, 1) := by decide +kernel
theorem d_M_leastOf_19 : decode prog_10_method_10_code 19 = .ok (.if_icmp .ge 75, 3) := by decide +kernel
theorem d_M_leastOf_22 : decode prog_10_method_10_code 22 = .ok (.aload_n 0, 1) := by decide +kernel
theorem d_M_leastOf_23 : decode prog_10_method_10_code 23 = .ok (.getfield 17, 3) := by decide +kernel
theorem d_M_leastOf_26 : decode prog_10_method_10_code 26 = .ok (.sipush 500, 3) := by decide +kernel
theorem d_M_leastOf_29 : decode prog_10_method_10_code 29 = .ok (.iload_n 1, 1) := by decide +kernel
theorem d_M_leastOf_30 : decode prog_10_method_10_code 30 = .ok (.imul, 1) := by decide +kernel
theorem d_M_leastOf_31 : decode prog_10_method_10_code 31 = .ok (.iload 7, 2) := by decide +kernel
theorem d_M_leastOf_33 : decode prog_10_method_10_code 33 = .ok (.iadd, 1) := by decide +kernel
theorem d_M_leastOf_34 : decode prog_10_method_10_code 34 = .ok (.iaload, 1) := by decide +kernel
theorem d_M_leastOf_35 : decode prog_10_method_10_code 35 = .ok (.istore 8, 2) := by decide +kernel
theorem d_M_leastOf_37 : decode prog_10_method_10_code 37 = .ok (.iload 8, 2) := by decide +kernel
theorem d_M_leastOf_39 : decode prog_10_method_10_code 39 = .ok (.iload_n 3, 1) := by decide +kernel
theorem d_M_leastOf_40 : decode prog_10_method_10_code 40 = .ok (.if_icmp .lt 48, 3) := by decide +kernel
theorem d_M_leastOf_43 : decode prog_10_method_10_code 43 = .ok (.iload 8, 2) := by decide +kernel
theorem d_M_leastOf_45 : decode prog_10_method_10_code 45 = .ok (.iload 4, 2) := by decide +kernel
theorem d_M_leastOf_47 : decode prog_10_method_10_code 47 = .ok (.if_icmp .gt 41, 3) := by decide +kernel
theorem d_M_leastOf_50 : decode prog_10_method_10_code 50 = .ok (.aload_n 0, 1) := by decide +kernel
theorem d_M_leastOf_51 : decode prog_10_method_10_code 51 = .ok (.iload_n 1, 1) := by decide +kernel
theorem d_M_leastOf_52 : decode prog_10_method_10_code 52 = .ok (.iload_n 2, 1) := by decide +kernel
theorem d_M_leastOf_53 : decode prog_10_method_10_code 53 = .ok (.iload_n 3, 1) := by decide +kernel
theorem d_M_leastOf_54 : decode prog_10_method_10_code 54 = .ok (.i2l, 1) := by decide +kernel
theorem d_M_leastOf_55 : decode prog_10_method_10_code 55 = .ok (.iload 8, 2) := by decide +kernel
theorem d_M_leastOf_57 : decode prog_10_method_10_code 57 = .ok (.i2l, 1) := by decide +kernel
theorem d_M_leastOf_58 : decode prog_10_method_10_code 58 = .ok (.lconst 1, 1) := by decide +kernel
theorem d_M_leastOf_59 : decode prog_10_method_10_code 59 = .ok (.lsub, 1) := by decide +kernel
theorem d_M_leastOf_60 : decode prog_10_method_10_code 60 = .ok (.invokevirtual 123, 3) := by decide +kernel
theorem d_M_leastOf_63 : decode prog_10_method_10_code 63 = .ok (.iload 5, 2) := by decide +kernel
theorem d_M_leastOf_65 : decode prog_10_method_10_code 65 = .ok (.if_icmp .ge 23, 3) := by decide +kernel
theorem d_M_leastOf_68 : decode prog_10_method_10_code 68 = .ok (.aload_n 0, 1) := by decide +kernel
theorem d_M_leastOf_69 : decode prog_10_method_10_code 69 = .ok (.iload_n 1, 1) := by decide +kernel
theorem d_M_leastOf_70 : decode prog_10_method_10_code 70 = .ok (.iload_n 2, 1) := by decide +kernel
theorem d_M_leastOf_71 : decode prog_10_method_10_code 71 = .ok (.iload_n 3, 1) := by decide +kernel
theorem d_M_leastOf_72 : decode prog_10_method_10_code 72 = .ok (.i2l, 1) := by decide +kernel
theorem d_M_leastOf_73 : decode prog_10_method_10_code 73 = .ok (.iload 8, 2) := by decide +kernel
theorem d_M_leastOf_75 : decode prog_10_method_10_code 75 = .ok (.i2l, 1) := by decide +kernel
theorem d_M_leastOf_76 : decode prog_10_method_10_code 76 = .ok (.invokevirtual 123, 3) := by decide +kernel
theorem d_M_leastOf_79 : decode prog_10_method_10_code 79 = .ok (.iload 5, 2) := by decide +kernel
theorem d_M_leastOf_81 : decode prog_10_method_10_code 81 = .ok (.if_icmp .lt 7, 3) := by decide +kernel
theorem d_M_leastOf_84 : decode prog_10_method_10_code 84 = .ok (.iload 8, 2) := by decide +kernel
theorem d_M_leastOf_86 : decode prog_10_method_10_code 86 = .ok (.istore 6, 2) := by decide +kernel
theorem d_M_leastOf_88 : decode prog_10_method_10_code 88 = .ok (.iinc 7 1, 3) := by decide +kernel
theorem d_M_leastOf_91 : decode prog_10_method_10_code 91 = .ok (.goto (-85), 3) := by decide +kernel
theorem d_M_leastOf_94 : decode prog_10_method_10_code 94 = .ok (.iload 6, 2) := by decide +kernel
theorem d_M_leastOf_96 : decode prog_10_method_10_code 96 = .ok (.ireturn, 1) := by decide +kernel
theorem d_M_send_0 : decode prog_10_method_11_code 0 = .ok (.aload_n 0, 1) := by decide +kernel
theorem d_M_send_1 : decode prog_10_method_11_code 1 = .ok (.getfield 127, 3) := by decide +kernel
theorem d_M_send_4 : decode prog_10_method_11_code 4 = .ok (.bipush 96, 2) := by decide +kernel
theorem d_M_send_6 : decode prog_10_method_11_code 6 = .ok (.if_icmp .ne 4, 3) := by decide +kernel
theorem d_M_send_9 : decode prog_10_method_11_code 9 = .ok (.return_, 1) := by decide +kernel
theorem d_M_send_10 : decode prog_10_method_11_code 10 = .ok (.bipush 7, 2) := by decide +kernel
theorem d_M_send_12 : decode prog_10_method_11_code 12 = .ok (.aload_n 0, 1) := by decide +kernel
theorem d_M_send_13 : decode prog_10_method_11_code 13 = .ok (.getfield 127, 3) := by decide +kernel
theorem d_M_send_16 : decode prog_10_method_11_code 16 = .ok (.imul, 1) := by decide +kernel
theorem d_M_send_17 : decode prog_10_method_11_code 17 = .ok (.istore 7, 2) := by decide +kernel
theorem d_M_send_19 : decode prog_10_method_11_code 19 = .ok (.aload_n 0, 1) := by decide +kernel
theorem d_M_send_20 : decode prog_10_method_11_code 20 = .ok (.getfield 102, 3) := by decide +kernel
theorem d_M_send_23 : decode prog_10_method_11_code 23 = .ok (.iload 7, 2) := by decide +kernel
theorem d_M_send_25 : decode prog_10_method_11_code 25 = .ok (.iload_n 1, 1) := by decide +kernel
theorem d_M_send_26 : decode prog_10_method_11_code 26 = .ok (.iastore, 1) := by decide +kernel
theorem d_M_send_27 : decode prog_10_method_11_code 27 = .ok (.aload_n 0, 1) := by decide +kernel
theorem d_M_send_28 : decode prog_10_method_11_code 28 = .ok (.getfield 102, 3) := by decide +kernel
theorem d_M_send_31 : decode prog_10_method_11_code 31 = .ok (.iload 7, 2) := by decide +kernel
theorem d_M_send_33 : decode prog_10_method_11_code 33 = .ok (.iconst 1, 1) := by decide +kernel
theorem d_M_send_34 : decode prog_10_method_11_code 34 = .ok (.iadd, 1) := by decide +kernel
theorem d_M_send_35 : decode prog_10_method_11_code 35 = .ok (.iload_n 2, 1) := by decide +kernel
theorem d_M_send_36 : decode prog_10_method_11_code 36 = .ok (.iastore, 1) := by decide +kernel
theorem d_M_send_37 : decode prog_10_method_11_code 37 = .ok (.aload_n 0, 1) := by decide +kernel
theorem d_M_send_38 : decode prog_10_method_11_code 38 = .ok (.getfield 102, 3) := by decide +kernel
theorem d_M_send_41 : decode prog_10_method_11_code 41 = .ok (.iload 7, 2) := by decide +kernel
theorem d_M_send_43 : decode prog_10_method_11_code 43 = .ok (.iconst 2, 1) := by decide +kernel
theorem d_M_send_44 : decode prog_10_method_11_code 44 = .ok (.iadd, 1) := by decide +kernel
theorem d_M_send_45 : decode prog_10_method_11_code 45 = .ok (.iload_n 3, 1) := by decide +kernel
theorem d_M_send_46 : decode prog_10_method_11_code 46 = .ok (.iastore, 1) := by decide +kernel
theorem d_M_send_47 : decode prog_10_method_11_code 47 = .ok (.aload_n 0, 1) := by decide +kernel
theorem d_M_send_48 : decode prog_10_method_11_code 48 = .ok (.getfield 102, 3) := by decide +kernel
theorem d_M_send_51 : decode prog_10_method_11_code 51 = .ok (.iload 7, 2) := by decide +kernel
theorem d_M_send_53 : decode prog_10_method_11_code 53 = .ok (.iconst 3, 1) := by decide +kernel
theorem d_M_send_54 : decode prog_10_method_11_code 54 = .ok (.iadd, 1) := by decide +kernel
theorem d_M_send_55 : decode prog_10_method_11_code 55 = .ok (.iload 4, 2) := by decide +kernel
theorem d_M_send_57 : decode prog_10_method_11_code 57 = .ok (.iastore, 1) := by decide +kernel
theorem d_M_send_58 : decode prog_10_method_11_code 58 = .ok (.aload_n 0, 1) := by decide +kernel
theorem d_M_send_59 : decode prog_10_method_11_code 59 = .ok (.getfield 102, 3) := by decide +kernel
theorem d_M_send_62 : decode prog_10_method_11_code 62 = .ok (.iload 7, 2) := by decide +kernel
theorem d_M_send_64 : decode prog_10_method_11_code 64 = .ok (.iconst 4, 1) := by decide +kernel
theorem d_M_send_65 : decode prog_10_method_11_code 65 = .ok (.iadd, 1) := by decide +kernel
theorem d_M_send_66 : decode prog_10_method_11_code 66 = .ok (.iload 5, 2) := by decide +kernel
theorem d_M_send_68 : decode prog_10_method_11_code 68 = .ok (.iastore, 1) := by decide +kernel
theorem d_M_send_69 : decode prog_10_method_11_code 69 = .ok (.aload_n 0, 1) := by decide +kernel
theorem d_M_send_70 : decode prog_10_method_11_code 70 = .ok (.getfield 102, 3) := by decide +kernel
theorem d_M_send_73 : decode prog_10_method_11_code 73 = .ok (.iload 7, 2) := by decide +kernel
theorem d_M_send_75 : decode prog_10_method_11_code 75 = .ok (.iconst 5, 1) := by decide +kernel
theorem d_M_send_76 : decode prog_10_method_11_code 76 = .ok (.iadd, 1) := by decide +kernel
theorem d_M_send_77 : decode prog_10_method_11_code 77 = .ok (.iload 6, 2) := by decide +kernel
theorem d_M_send_79 : decode prog_10_method_11_code 79 = .ok (.iastore, 1) := by decide +kernel
theorem d_M_send_80 : decode prog_10_method_11_code 80 = .ok (.aload_n 0, 1) := by decide +kernel
theorem d_M_send_81 : decode prog_10_method_11_code 81 = .ok (.getfield 102, 3) := by decide +kernel
theorem d_M_send_84 : decode prog_10_method_11_code 84 = .ok (.iload 7, 2) := by decide +kernel
theorem d_M_send_86 : decode prog_10_method_11_code 86 = .ok (.bipush 6, 2) := by decide +kernel
theorem d_M_send_88 : decode prog_10_method_11_code 88 = .ok (.iadd, 1) := by decide +kernel
theorem d_M_send_89 : decode prog_10_method_11_code 89 = .ok (.aload_n 0, 1) := by decide +kernel
theorem d_M_send_90 : decode prog_10_method_11_code 90 = .ok (.getfield 130, 3) := by decide +kernel
theorem d_M_send_93 : decode prog_10_method_11_code 93 = .ok (.iastore, 1) := by decide +kernel
theorem d_M_send_94 : decode prog_10_method_11_code 94 = .ok (.iconst 0, 1) := by decide +kernel
theorem d_M_send_95 : decode prog_10_method_11_code 95 = .ok (.istore 8, 2) := by decide +kernel
theorem d_M_send_97 : decode prog_10_method_11_code 97 = .ok (.iload 8, 2) := by decide +kernel
theorem d_M_send_99 : decode prog_10_method_11_code 99 = .ok (.bipush 64, 2) := by decide +kernel
theorem d_M_send_101 : decode prog_10_method_11_code 101 = .ok (.if_icmp .ge 44, 3) := by decide +kernel
theorem d_M_send_104 : decode prog_10_method_11_code 104 = .ok (.aload_n 0, 1) := by decide +kernel
theorem d_M_send_105 : decode prog_10_method_11_code 105 = .ok (.getfield 105, 3) := by decide +kernel
theorem d_M_send_108 : decode prog_10_method_11_code 108 = .ok (.bipush 64, 2) := by decide +kernel
theorem d_M_send_110 : decode prog_10_method_11_code 110 = .ok (.aload_n 0, 1) := by decide +kernel
theorem d_M_send_111 : decode prog_10_method_11_code 111 = .ok (.getfield 127, 3) := by decide +kernel
theorem d_M_send_114 : decode prog_10_method_11_code 114 = .ok (.imul, 1) := by decide +kernel
theorem d_M_send_115 : decode prog_10_method_11_code 115 = .ok (.iload 8, 2) := by decide +kernel
theorem d_M_send_117 : decode prog_10_method_11_code 117 = .ok (.iadd, 1) := by decide +kernel
theorem d_M_send_118 : decode prog_10_method_11_code 118 = .ok (.iload 8, 2) := by decide +kernel
theorem d_M_send_120 : decode prog_10_method_11_code 120 = .ok (.aload_n 0, 1) := by decide +kernel
theorem d_M_send_121 : decode prog_10_method_11_code 121 = .ok (.getfield 130, 3) := by decide +kernel
theorem d_M_send_124 : decode prog_10_method_11_code 124 = .ok (.if_icmp .ge 13, 3) := by decide +kernel
theorem d_M_send_127 : decode prog_10_method_11_code 127 = .ok (.aload_n 0, 1) := by decide +kernel
theorem d_M_send_128 : decode prog_10_method_11_code 128 = .ok (.getfield 111, 3) := by decide +kernel
theorem d_M_send_131 : decode prog_10_method_11_code 131 = .ok (.iload 8, 2) := by decide +kernel
theorem d_M_send_133 : decode prog_10_method_11_code 133 = .ok (.iaload, 1) := by decide +kernel
theorem d_M_send_134 : decode prog_10_method_11_code 134 = .ok (.goto 4, 3) := by decide +kernel
theorem d_M_send_137 : decode prog_10_method_11_code 137 = .ok (.iconst 0, 1) := by decide +kernel
theorem d_M_send_138 : decode prog_10_method_11_code 138 = .ok (.iastore, 1) := by decide +kernel
theorem d_M_send_139 : decode prog_10_method_11_code 139 = .ok (.iinc 8 1, 3) := by decide +kernel
theorem d_M_send_142 : decode prog_10_method_11_code 142 = .ok (.goto (-45), 3) := by decide +kernel
theorem d_M_send_145 : decode prog_10_method_11_code 145 = .ok (.aload_n 0, 1) := by decide +kernel
theorem d_M_send_146 : decode prog_10_method_11_code 146 = .ok (.getfield 108, 3) := by decide +kernel
theorem d_M_send_149 : decode prog_10_method_11_code 149 = .ok (.aload_n 0, 1) := by decide +kernel
theorem d_M_send_150 : decode prog_10_method_11_code 150 = .ok (.getfield 127, 3) := by decide +kernel
theorem d_M_send_153 : decode prog_10_method_11_code 153 = .ok (.aload_n 0, 1) := by decide +kernel
theorem d_M_send_154 : decode prog_10_method_11_code 154 = .ok (.getfield 133, 3) := by decide +kernel
theorem d_M_send_157 : decode prog_10_method_11_code 157 = .ok (.lastore, 1) := by decide +kernel
theorem d_M_send_158 : decode prog_10_method_11_code 158 = .ok (.aload_n 0, 1) := by decide +kernel
theorem d_M_send_159 : decode prog_10_method_11_code 159 = .ok (.dup, 1) := by decide +kernel
theorem d_M_send_160 : decode prog_10_method_11_code 160 = .ok (.getfield 127, 3) := by decide +kernel
theorem d_M_send_163 : decode prog_10_method_11_code 163 = .ok (.iconst 1, 1) := by decide +kernel
theorem d_M_send_164 : decode prog_10_method_11_code 164 = .ok (.iadd, 1) := by decide +kernel
theorem d_M_send_165 : decode prog_10_method_11_code 165 = .ok (.putfield 127, 3) := by decide +kernel
theorem d_M_send_168 : decode prog_10_method_11_code 168 = .ok (.return_, 1) := by decide +kernel
theorem d_M_ready_0 : decode prog_10_method_12_code 0 = .ok (.aload_n 0, 1) := by decide +kernel
theorem d_M_ready_1 : decode prog_10_method_12_code 1 = .ok (.iload_n 1, 1) := by decide +kernel
theorem d_M_ready_2 : decode prog_10_method_12_code 2 = .ok (.putfield 130, 3) := by decide +kernel
theorem d_M_ready_5 : decode prog_10_method_12_code 5 = .ok (.aload_n 0, 1) := by decide +kernel
theorem d_M_ready_6 : decode prog_10_method_12_code 6 = .ok (.getfield 111, 3) := by decide +kernel
theorem d_M_ready_9 : decode prog_10_method_12_code 9 = .ok (.iconst 0, 1) := by decide +kernel
theorem d_M_ready_10 : decode prog_10_method_12_code 10 = .ok (.iload_n 2, 1) := by decide +kernel
theorem d_M_ready_11 : decode prog_10_method_12_code 11 = .ok (.iastore, 1) := by decide +kernel
theorem d_M_ready_12 : decode prog_10_method_12_code 12 = .ok (.aload_n 0, 1) := by decide +kernel
theorem d_M_ready_13 : decode prog_10_method_12_code 13 = .ok (.getfield 111, 3) := by decide +kernel
theorem d_M_ready_16 : decode prog_10_method_12_code 16 = .ok (.iconst 1, 1) := by decide +kernel
theorem d_M_ready_17 : decode prog_10_method_12_code 17 = .ok (.iload_n 3, 1) := by decide +kernel
theorem d_M_ready_18 : decode prog_10_method_12_code 18 = .ok (.iastore, 1) := by decide +kernel
theorem d_M_ready_19 : decode prog_10_method_12_code 19 = .ok (.aload_n 0, 1) := by decide +kernel
theorem d_M_ready_20 : decode prog_10_method_12_code 20 = .ok (.getfield 111, 3) := by decide +kernel
theorem d_M_ready_23 : decode prog_10_method_12_code 23 = .ok (.iconst 2, 1) := by decide +kernel
theorem d_M_ready_24 : decode prog_10_method_12_code 24 = .ok (.iload 4, 2) := by decide +kernel
theorem d_M_ready_26 : decode prog_10_method_12_code 26 = .ok (.iastore, 1) := by decide +kernel
theorem d_M_ready_27 : decode prog_10_method_12_code 27 = .ok (.aload_n 0, 1) := by decide +kernel
theorem d_M_ready_28 : decode prog_10_method_12_code 28 = .ok (.lconst 0, 1) := by decide +kernel
theorem d_M_ready_29 : decode prog_10_method_12_code 29 = .ok (.putfield 133, 3) := by decide +kernel
theorem d_M_ready_32 : decode prog_10_method_12_code 32 = .ok (.return_, 1) := by decide +kernel
theorem d_M_readyAsk_0 : decode prog_10_method_13_code 0 = .ok (.aload_n 0, 1) := by decide +kernel
theorem d_M_readyAsk_1 : decode prog_10_method_13_code 1 = .ok (.getfield 53, 3) := by decide +kernel
theorem d_M_readyAsk_4 : decode prog_10_method_13_code 4 = .ok (.iload_n 1, 1) := by decide +kernel
theorem d_M_readyAsk_5 : decode prog_10_method_13_code 5 = .ok (.iaload, 1) := by decide +kernel
theorem d_M_readyAsk_6 : decode prog_10_method_13_code 6 = .ok (.istore_n 2, 1) := by decide +kernel
theorem d_M_readyAsk_7 : decode prog_10_method_13_code 7 = .ok (.iload_n 2, 1) := by decide +kernel
theorem d_M_readyAsk_8 : decode prog_10_method_13_code 8 = .ok (.iconst 1, 1) := by decide +kernel
theorem d_M_readyAsk_9 : decode prog_10_method_13_code 9 = .ok (.if_icmp .ne 14, 3) := by decide +kernel
theorem d_M_readyAsk_12 : decode prog_10_method_13_code 12 = .ok (.aload_n 0, 1) := by decide +kernel
theorem d_M_readyAsk_13 : decode prog_10_method_13_code 13 = .ok (.iconst 0, 1) := by decide +kernel
theorem d_M_readyAsk_14 : decode prog_10_method_13_code 14 = .ok (.iconst 0, 1) := by decide +kernel
theorem d_M_readyAsk_15 : decode prog_10_method_13_code 15 = .ok (.iconst 0, 1) := by decide +kernel
theorem d_M_readyAsk_16 : decode prog_10_method_13_code 16 = .ok (.iconst 0, 1) := by decide +kernel
theorem d_M_readyAsk_17 : decode prog_10_method_13_code 17 = .ok (.invokevirtual 137, 3) := by decide +kernel
theorem d_M_readyAsk_20 : decode prog_10_method_13_code 20 = .ok (.goto 123, 3) := by decide +kernel
theorem d_M_readyAsk_23 : decode prog_10_method_13_code 23 = .ok (.iload_n 2, 1) := by decide +kernel
theorem d_M_readyAsk_24 : decode prog_10_method_13_code 24 = .ok (.bipush 9, 2) := by decide +kernel
theorem d_M_readyAsk_26 : decode prog_10_method_13_code 26 = .ok (.if_icmp .ne 58, 3) := by decide +kernel
theorem d_M_readyAsk_29 : decode prog_10_method_13_code 29 = .ok (.aload_n 0, 1) := by decide +kernel
theorem d_M_readyAsk_30 : decode prog_10_method_13_code 30 = .ok (.iconst 2, 1) := by decide +kernel
theorem d_M_readyAsk_31 : decode prog_10_method_13_code 31 = .ok (.aload_n 0, 1) := by decide +kernel
theorem d_M_readyAsk_32 : decode prog_10_method_13_code 32 = .ok (.getfield 23, 3) := by decide +kernel
theorem d_M_readyAsk_35 : decode prog_10_method_13_code 35 = .ok (.iload_n 1, 1) := by decide +kernel
theorem d_M_readyAsk_36 : decode prog_10_method_13_code 36 = .ok (.iaload, 1) := by decide +kernel
theorem d_M_readyAsk_37 : decode prog_10_method_13_code 37 = .ok (.iconst 1, 1) := by decide +kernel
theorem d_M_readyAsk_38 : decode prog_10_method_13_code 38 = .ok (.if_icmp .ne 12, 3) := by decide +kernel
theorem d_M_readyAsk_41 : decode prog_10_method_13_code 41 = .ok (.aload_n 0, 1) := by decide +kernel
theorem d_M_readyAsk_42 : decode prog_10_method_13_code 42 = .ok (.getfield 26, 3) := by decide +kernel
theorem d_M_readyAsk_45 : decode prog_10_method_13_code 45 = .ok (.iload_n 1, 1) := by decide +kernel
theorem d_M_readyAsk_46 : decode prog_10_method_13_code 46 = .ok (.iaload, 1) := by decide +kernel
theorem d_M_readyAsk_47 : decode prog_10_method_13_code 47 = .ok (.goto 5, 3) := by decide +kernel
theorem d_M_readyAsk_50 : decode prog_10_method_13_code 50 = .ok (.ldc 141, 2) := by decide +kernel
theorem d_M_readyAsk_52 : decode prog_10_method_13_code 52 = .ok (.aload_n 0, 1) := by decide +kernel
theorem d_M_readyAsk_53 : decode prog_10_method_13_code 53 = .ok (.getfield 23, 3) := by decide +kernel
theorem d_M_readyAsk_56 : decode prog_10_method_13_code 56 = .ok (.iload_n 1, 1) := by decide +kernel
theorem d_M_readyAsk_57 : decode prog_10_method_13_code 57 = .ok (.iaload, 1) := by decide +kernel
theorem d_M_readyAsk_58 : decode prog_10_method_13_code 58 = .ok (.iconst 1, 1) := by decide +kernel
theorem d_M_readyAsk_59 : decode prog_10_method_13_code 59 = .ok (.if_icmp .ne 12, 3) := by decide +kernel
theorem d_M_readyAsk_62 : decode prog_10_method_13_code 62 = .ok (.aload_n 0, 1) := by decide +kernel
theorem d_M_readyAsk_63 : decode prog_10_method_13_code 63 = .ok (.getfield 29, 3) := by decide +kernel
theorem d_M_readyAsk_66 : decode prog_10_method_13_code 66 = .ok (.iload_n 1, 1) := by decide +kernel
theorem d_M_readyAsk_67 : decode prog_10_method_13_code 67 = .ok (.iaload, 1) := by decide +kernel
theorem d_M_readyAsk_68 : decode prog_10_method_13_code 68 = .ok (.goto 9, 3) := by decide +kernel
theorem d_M_readyAsk_71 : decode prog_10_method_13_code 71 = .ok (.aload_n 0, 1) := by decide +kernel
theorem d_M_readyAsk_72 : decode prog_10_method_13_code 72 = .ok (.getfield 26, 3) := by decide +kernel
theorem d_M_readyAsk_75 : decode prog_10_method_13_code 75 = .ok (.iload_n 1, 1) := by decide +kernel
theorem d_M_readyAsk_76 : decode prog_10_method_13_code 76 = .ok (.iaload, 1) := by decide +kernel
theorem d_M_readyAsk_77 : decode prog_10_method_13_code 77 = .ok (.iconst 0, 1) := by decide +kernel
theorem d_M_readyAsk_78 : decode prog_10_method_13_code 78 = .ok (.invokevirtual 137, 3) := by decide +kernel
theorem d_M_readyAsk_81 : decode prog_10_method_13_code 81 = .ok (.goto 62, 3) := by decide +kernel
theorem d_M_readyAsk_84 : decode prog_10_method_13_code 84 = .ok (.iload_n 2, 1) := by decide +kernel
theorem d_M_readyAsk_85 : decode prog_10_method_13_code 85 = .ok (.bipush 11, 2) := by decide +kernel
theorem d_M_readyAsk_87 : decode prog_10_method_13_code 87 = .ok (.if_icmp .ne 24, 3) := by decide +kernel
theorem d_M_readyAsk_90 : decode prog_10_method_13_code 90 = .ok (.aload_n 0, 1) := by decide +kernel
theorem d_M_readyAsk_91 : decode prog_10_method_13_code 91 = .ok (.iconst 2, 1) := by decide +kernel
theorem d_M_readyAsk_92 : decode prog_10_method_13_code 92 = .ok (.aload_n 0, 1) := by decide +kernel
theorem d_M_readyAsk_93 : decode prog_10_method_13_code 93 = .ok (.getfield 77, 3) := by decide +kernel
theorem d_M_readyAsk_96 : decode prog_10_method_13_code 96 = .ok (.iload_n 1, 1) := by decide +kernel
theorem d_M_readyAsk_97 : decode prog_10_method_13_code 97 = .ok (.iaload, 1) := by decide +kernel
theorem d_M_readyAsk_98 : decode prog_10_method_13_code 98 = .ok (.aload_n 0, 1) := by decide +kernel
theorem d_M_readyAsk_99 : decode prog_10_method_13_code 99 = .ok (.getfield 80, 3) := by decide +kernel
theorem d_M_readyAsk_102 : decode prog_10_method_13_code 102 = .ok (.iload_n 1, 1) := by decide +kernel
theorem d_M_readyAsk_103 : decode prog_10_method_13_code 103 = .ok (.iaload, 1) := by decide +kernel
theorem d_M_readyAsk_104 : decode prog_10_method_13_code 104 = .ok (.iconst 0, 1) := by decide +kernel
theorem d_M_readyAsk_105 : decode prog_10_method_13_code 105 = .ok (.invokevirtual 137, 3) := by decide +kernel
theorem d_M_readyAsk_108 : decode prog_10_method_13_code 108 = .ok (.goto 35, 3) := by decide +kernel
theorem d_M_readyAsk_111 : decode prog_10_method_13_code 111 = .ok (.aload_n 0, 1) := by decide +kernel
theorem d_M_readyAsk_112 : decode prog_10_method_13_code 112 = .ok (.iload_n 2, 1) := by decide +kernel
theorem d_M_readyAsk_113 : decode prog_10_method_13_code 113 = .ok (.iconst 5, 1) := by decide +kernel
theorem d_M_readyAsk_114 : decode prog_10_method_13_code 114 = .ok (.if_icmp .ne 7, 3) := by decide +kernel
theorem d_M_readyAsk_117 : decode prog_10_method_13_code 117 = .ok (.iconst 3, 1) := by decide +kernel
theorem d_M_readyAsk_118 : decode prog_10_method_13_code 118 = .ok (.goto 4, 3) := by decide +kernel
theorem d_M_readyAsk_121 : decode prog_10_method_13_code 121 = .ok (.iconst 2, 1) := by decide +kernel
theorem d_M_readyAsk_122 : decode prog_10_method_13_code 122 = .ok (.aload_n 0, 1) := by decide +kernel
theorem d_M_readyAsk_123 : decode prog_10_method_13_code 123 = .ok (.getfield 59, 3) := by decide +kernel
theorem d_M_readyAsk_126 : decode prog_10_method_13_code 126 = .ok (.iload_n 1, 1) := by decide +kernel
theorem d_M_readyAsk_127 : decode prog_10_method_13_code 127 = .ok (.iaload, 1) := by decide +kernel
theorem d_M_readyAsk_128 : decode prog_10_method_13_code 128 = .ok (.aload_n 0, 1) := by decide +kernel
theorem d_M_readyAsk_129 : decode prog_10_method_13_code 129 = .ok (.getfield 62, 3) := by decide +kernel
theorem d_M_readyAsk_132 : decode prog_10_method_13_code 132 = .ok (.iload_n 1, 1) := by decide +kernel
theorem d_M_readyAsk_133 : decode prog_10_method_13_code 133 = .ok (.iaload, 1) := by decide +kernel
theorem d_M_readyAsk_134 : decode prog_10_method_13_code 134 = .ok (.aload_n 0, 1) := by decide +kernel
theorem d_M_readyAsk_135 : decode prog_10_method_13_code 135 = .ok (.getfield 74, 3) := by decide +kernel
theorem d_M_readyAsk_138 : decode prog_10_method_13_code 138 = .ok (.iload_n 1, 1) := by decide +kernel
theorem d_M_readyAsk_139 : decode prog_10_method_13_code 139 = .ok (.iaload, 1) := by decide +kernel
theorem d_M_readyAsk_140 : decode prog_10_method_13_code 140 = .ok (.invokevirtual 137, 3) := by decide +kernel
theorem d_M_readyAsk_143 : decode prog_10_method_13_code 143 = .ok (.return_, 1) := by decide +kernel
theorem d_M_askAll_0 : decode prog_10_method_14_code 0 = .ok (.aload_n 0, 1) := by decide +kernel
theorem d_M_askAll_1 : decode prog_10_method_14_code 1 = .ok (.getfield 53, 3) := by decide +kernel
theorem d_M_askAll_4 : decode prog_10_method_14_code 4 = .ok (.iload_n 1, 1) := by decide +kernel
theorem d_M_askAll_5 : decode prog_10_method_14_code 5 = .ok (.iload_n 2, 1) := by decide +kernel
theorem d_M_askAll_6 : decode prog_10_method_14_code 6 = .ok (.iastore, 1) := by decide +kernel
theorem d_M_askAll_7 : decode prog_10_method_14_code 7 = .ok (.aload_n 0, 1) := by decide +kernel
theorem d_M_askAll_8 : decode prog_10_method_14_code 8 = .ok (.getfield 38, 3) := by decide +kernel
theorem d_M_askAll_11 : decode prog_10_method_14_code 11 = .ok (.iload_n 1, 1) := by decide +kernel
theorem d_M_askAll_12 : decode prog_10_method_14_code 12 = .ok (.dup2, 1) := by decide +kernel
theorem d_M_askAll_13 : decode prog_10_method_14_code 13 = .ok (.iaload, 1) := by decide +kernel
theorem d_M_askAll_14 : decode prog_10_method_14_code 14 = .ok (.iconst 1, 1) := by decide +kernel
theorem d_M_askAll_15 : decode prog_10_method_14_code 15 = .ok (.iadd, 1) := by decide +kernel
theorem d_M_askAll_16 : decode prog_10_method_14_code 16 = .ok (.iastore, 1) := by decide +kernel
theorem d_M_askAll_17 : decode prog_10_method_14_code 17 = .ok (.iconst 0, 1) := by decide +kernel
theorem d_M_askAll_18 : decode prog_10_method_14_code 18 = .ok (.istore_n 3, 1) := by decide +kernel
theorem d_M_askAll_19 : decode prog_10_method_14_code 19 = .ok (.iload_n 3, 1) := by decide +kernel
theorem d_M_askAll_20 : decode prog_10_method_14_code 20 = .ok (.bipush 8, 2) := by decide +kernel
theorem d_M_askAll_22 : decode prog_10_method_14_code 22 = .ok (.if_icmp .ge 21, 3) := by decide +kernel
theorem d_M_askAll_25 : decode prog_10_method_14_code 25 = .ok (.aload_n 0, 1) := by decide +kernel
theorem d_M_askAll_26 : decode prog_10_method_14_code 26 = .ok (.getfield 87, 3) := by decide +kernel
theorem d_M_askAll_29 : decode prog_10_method_14_code 29 = .ok (.bipush 8, 2) := by decide +kernel
theorem d_M_askAll_31 : decode prog_10_method_14_code 31 = .ok (.iload_n 1, 1) := by decide +kernel
theorem d_M_askAll_32 : decode prog_10_method_14_code 32 = .ok (.imul, 1) := by decide +kernel
theorem d_M_askAll_33 : decode prog_10_method_14_code 33 = .ok (.iload_n 3, 1) := by decide +kernel
theorem d_M_askAll_34 : decode prog_10_method_14_code 34 = .ok (.iadd, 1) := by decide +kernel
theorem d_M_askAll_35 : decode prog_10_method_14_code 35 = .ok (.iconst 0, 1) := by decide +kernel
theorem d_M_askAll_36 : decode prog_10_method_14_code 36 = .ok (.bastore, 1) := by decide +kernel
theorem d_M_askAll_37 : decode prog_10_method_14_code 37 = .ok (.iinc 3 1, 3) := by decide +kernel
theorem d_M_askAll_40 : decode prog_10_method_14_code 40 = .ok (.goto (-21), 3) := by decide +kernel
theorem d_M_askAll_43 : decode prog_10_method_14_code 43 = .ok (.aload_n 0, 1) := by decide +kernel
theorem d_M_askAll_44 : decode prog_10_method_14_code 44 = .ok (.iload_n 1, 1) := by decide +kernel
theorem d_M_askAll_45 : decode prog_10_method_14_code 45 = .ok (.invokevirtual 142, 3) := by decide +kernel
theorem d_M_askAll_48 : decode prog_10_method_14_code 48 = .ok (.iconst 0, 1) := by decide +kernel
theorem d_M_askAll_49 : decode prog_10_method_14_code 49 = .ok (.istore_n 3, 1) := by decide +kernel
theorem d_M_askAll_50 : decode prog_10_method_14_code 50 = .ok (.iload_n 3, 1) := by decide +kernel
theorem d_M_askAll_51 : decode prog_10_method_14_code 51 = .ok (.bipush 8, 2) := by decide +kernel
theorem d_M_askAll_53 : decode prog_10_method_14_code 53 = .ok (.if_icmp .ge 39, 3) := by decide +kernel
theorem d_M_askAll_56 : decode prog_10_method_14_code 56 = .ok (.aload_n 0, 1) := by decide +kernel
theorem d_M_askAll_57 : decode prog_10_method_14_code 57 = .ok (.iload_n 2, 1) := by decide +kernel
theorem d_M_askAll_58 : decode prog_10_method_14_code 58 = .ok (.aload_n 0, 1) := by decide +kernel
theorem d_M_askAll_59 : decode prog_10_method_14_code 59 = .ok (.getfield 20, 3) := by decide +kernel
theorem d_M_askAll_62 : decode prog_10_method_14_code 62 = .ok (.iload_n 1, 1) := by decide +kernel
theorem d_M_askAll_63 : decode prog_10_method_14_code 63 = .ok (.iaload, 1) := by decide +kernel
theorem d_M_askAll_64 : decode prog_10_method_14_code 64 = .ok (.aload_n 0, 1) := by decide +kernel
theorem d_M_askAll_65 : decode prog_10_method_14_code 65 = .ok (.getfield 35, 3) := by decide +kernel
theorem d_M_askAll_68 : decode prog_10_method_14_code 68 = .ok (.iload_n 1, 1) := by decide +kernel
theorem d_M_askAll_69 : decode prog_10_method_14_code 69 = .ok (.iaload, 1) := by decide +kernel
theorem d_M_askAll_70 : decode prog_10_method_14_code 70 = .ok (.aload_n 0, 1) := by decide +kernel
theorem d_M_askAll_71 : decode prog_10_method_14_code 71 = .ok (.getfield 38, 3) := by decide +kernel
theorem d_M_askAll_74 : decode prog_10_method_14_code 74 = .ok (.iload_n 1, 1) := by decide +kernel
theorem d_M_askAll_75 : decode prog_10_method_14_code 75 = .ok (.iaload, 1) := by decide +kernel
theorem d_M_askAll_76 : decode prog_10_method_14_code 76 = .ok (.aload_n 0, 1) := by decide +kernel
theorem d_M_askAll_77 : decode prog_10_method_14_code 77 = .ok (.getfield 32, 3) := by decide +kernel
theorem d_M_askAll_80 : decode prog_10_method_14_code 80 = .ok (.iload_n 1, 1) := by decide +kernel
theorem d_M_askAll_81 : decode prog_10_method_14_code 81 = .ok (.iaload, 1) := by decide +kernel
theorem d_M_askAll_82 : decode prog_10_method_14_code 82 = .ok (.iload_n 3, 1) := by decide +kernel
theorem d_M_askAll_83 : decode prog_10_method_14_code 83 = .ok (.invokevirtual 146, 3) := by decide +kernel
theorem d_M_askAll_86 : decode prog_10_method_14_code 86 = .ok (.iinc 3 1, 3) := by decide +kernel
theorem d_M_askAll_89 : decode prog_10_method_14_code 89 = .ok (.goto (-39), 3) := by decide +kernel
theorem d_M_askAll_92 : decode prog_10_method_14_code 92 = .ok (.return_, 1) := by decide +kernel
theorem d_M_readyAnswer_0 : decode prog_10_method_15_code 0 = .ok (.aload_n 0, 1) := by decide +kernel
theorem d_M_readyAnswer_1 : decode prog_10_method_15_code 1 = .ok (.getfield 111, 3) := by decide +kernel
theorem d_M_readyAnswer_4 : decode prog_10_method_15_code 4 = .ok (.iconst 0, 1) := by decide +kernel
theorem d_M_readyAnswer_5 : decode prog_10_method_15_code 5 = .ok (.iaload, 1) := by decide +kernel
theorem d_M_readyAnswer_6 : decode prog_10_method_15_code 6 = .ok (.istore 4, 2) := by decide +kernel
theorem d_M_readyAnswer_8 : decode prog_10_method_15_code 8 = .ok (.aload_n 0, 1) := by decide +kernel
theorem d_M_readyAnswer_9 : decode prog_10_method_15_code 9 = .ok (.getfield 111, 3) := by decide +kernel
theorem d_M_readyAnswer_12 : decode prog_10_method_15_code 12 = .ok (.iconst 1, 1) := by decide +kernel
theorem d_M_readyAnswer_13 : decode prog_10_method_15_code 13 = .ok (.iaload, 1) := by decide +kernel
theorem d_M_readyAnswer_14 : decode prog_10_method_15_code 14 = .ok (.istore 5, 2) := by decide +kernel
theorem d_M_readyAnswer_16 : decode prog_10_method_15_code 16 = .ok (.iload_n 1, 1) := by decide +kernel
theorem d_M_readyAnswer_17 : decode prog_10_method_15_code 17 = .ok (.iconst 1, 1) := by decide +kernel
theorem d_M_readyAnswer_18 : decode prog_10_method_15_code 18 = .ok (.if_icmp .ne 24, 3) := by decide +kernel
theorem d_M_readyAnswer_21 : decode prog_10_method_15_code 21 = .ok (.aload_n 0, 1) := by decide +kernel
theorem d_M_readyAnswer_22 : decode prog_10_method_15_code 22 = .ok (.iconst 1, 1) := by decide +kernel
theorem d_M_readyAnswer_23 : decode prog_10_method_15_code 23 = .ok (.aload_n 0, 1) := by decide +kernel
theorem d_M_readyAnswer_24 : decode prog_10_method_15_code 24 = .ok (.getfield 56, 3) := by decide +kernel
theorem d_M_readyAnswer_27 : decode prog_10_method_15_code 27 = .ok (.bipush 8, 2) := by decide +kernel
theorem d_M_readyAnswer_29 : decode prog_10_method_15_code 29 = .ok (.iload_n 3, 1) := by decide +kernel
theorem d_M_readyAnswer_30 : decode prog_10_method_15_code 30 = .ok (.imul, 1) := by decide +kernel
theorem d_M_readyAnswer_31 : decode prog_10_method_15_code 31 = .ok (.iload_n 2, 1) := by decide +kernel
theorem d_M_readyAnswer_32 : decode prog_10_method_15_code 32 = .ok (.iadd, 1) := by decide +kernel
theorem d_M_readyAnswer_33 : decode prog_10_method_15_code 33 = .ok (.iaload, 1) := by decide +kernel
theorem d_M_readyAnswer_34 : decode prog_10_method_15_code 34 = .ok (.iconst 0, 1) := by decide +kernel
theorem d_M_readyAnswer_35 : decode prog_10_method_15_code 35 = .ok (.iconst 0, 1) := by decide +kernel
theorem d_M_readyAnswer_36 : decode prog_10_method_15_code 36 = .ok (.invokevirtual 137, 3) := by decide +kernel
theorem d_M_readyAnswer_39 : decode prog_10_method_15_code 39 = .ok (.goto 290, 3) := by decide +kernel
theorem d_M_readyAnswer_42 : decode prog_10_method_15_code 42 = .ok (.iload_n 1, 1) := by decide +kernel
theorem d_M_readyAnswer_43 : decode prog_10_method_15_code 43 = .ok (.iconst 3, 1) := by decide +kernel
theorem d_M_readyAnswer_44 : decode prog_10_method_15_code 44 = .ok (.if_icmp .ne 53, 3) := by decide +kernel
theorem d_M_readyAnswer_47 : decode prog_10_method_15_code 47 = .ok (.aload_n 0, 1) := by decide +kernel
theorem d_M_readyAnswer_48 : decode prog_10_method_15_code 48 = .ok (.iload_n 2, 1) := by decide +kernel
theorem d_M_readyAnswer_49 : decode prog_10_method_15_code 49 = .ok (.iload_n 3, 1) := by decide +kernel
theorem d_M_readyAnswer_50 : decode prog_10_method_15_code 50 = .ok (.iload 4, 2) := by decide +kernel
theorem d_M_readyAnswer_52 : decode prog_10_method_15_code 52 = .ok (.i2l, 1) := by decide +kernel
theorem d_M_readyAnswer_53 : decode prog_10_method_15_code 53 = .ok (.iload 5, 2) := by decide +kernel
theorem d_M_readyAnswer_55 : decode prog_10_method_15_code 55 = .ok (.i2l, 1) := by decide +kernel
theorem d_M_readyAnswer_56 : decode prog_10_method_15_code 56 = .ok (.invokevirtual 123, 3) := by decide +kernel
theorem d_M_readyAnswer_59 : decode prog_10_method_15_code 59 = .ok (.istore 6, 2) := by decide +kernel
theorem d_M_readyAnswer_61 : decode prog_10_method_15_code 61 = .ok (.aload_n 0, 1) := by decide +kernel
theorem d_M_readyAnswer_62 : decode prog_10_method_15_code 62 = .ok (.iconst 2, 1) := by decide +kernel
theorem d_M_readyAnswer_63 : decode prog_10_method_15_code 63 = .ok (.iload 6, 2) := by decide +kernel
theorem d_M_readyAnswer_65 : decode prog_10_method_15_code 65 = .ok (.iload 6, 2) := by decide +kernel
theorem d_M_readyAnswer_67 : decode prog_10_method_15_code 67 = .ok (.ifCond .ne 7, 3) := by decide +kernel
theorem d_M_readyAnswer_70 : decode prog_10_method_15_code 70 = .ok (.iconst 0, 1) := by decide +kernel
theorem d_M_readyAnswer_71 : decode prog_10_method_15_code 71 = .ok (.goto 19, 3) := by decide +kernel
theorem d_M_readyAnswer_74 : decode prog_10_method_15_code 74 = .ok (.aload_n 0, 1) := by decide +kernel
theorem d_M_readyAnswer_75 : decode prog_10_method_15_code 75 = .ok (.iload_n 2, 1) := by decide +kernel
theorem d_M_readyAnswer_76 : decode prog_10_method_15_code 76 = .ok (.iload_n 3, 1) := by decide +kernel
theorem d_M_readyAnswer_77 : decode prog_10_method_15_code 77 = .ok (.iload 4, 2) := by decide +kernel
theorem d_M_readyAnswer_79 : decode prog_10_method_15_code 79 = .ok (.iload 5, 2) := by decide +kernel
theorem d_M_readyAnswer_81 : decode prog_10_method_15_code 81 = .ok (.iload 6, 2) := by decide +kernel
theorem d_M_readyAnswer_83 : decode prog_10_method_15_code 83 = .ok (.iconst 1, 1) := by decide +kernel
theorem d_M_readyAnswer_84 : decode prog_10_method_15_code 84 = .ok (.iadd, 1) := by decide +kernel
theorem d_M_readyAnswer_85 : decode prog_10_method_15_code 85 = .ok (.iconst 2, 1) := by decide +kernel
theorem d_M_readyAnswer_86 : decode prog_10_method_15_code 86 = .ok (.idiv, 1) := by decide +kernel
theorem d_M_readyAnswer_87 : decode prog_10_method_15_code 87 = .ok (.invokevirtual 150, 3) := by decide +kernel
theorem d_M_readyAnswer_90 : decode prog_10_method_15_code 90 = .ok (.iconst 0, 1) := by decide +kernel
theorem d_M_readyAnswer_91 : decode prog_10_method_15_code 91 = .ok (.invokevirtual 137, 3) := by decide +kernel
theorem d_M_readyAnswer_94 : decode prog_10_method_15_code 94 = .ok (.goto 235, 3) := by decide +kernel
theorem d_M_readyAnswer_97 : decode prog_10_method_15_code 97 = .ok (.iload_n 1, 1) := by decide +kernel
theorem d_M_readyAnswer_98 : decode prog_10_method_15_code 98 = .ok (.iconst 5, 1) := by decide +kernel
theorem d_M_readyAnswer_99 : decode prog_10_method_15_code 99 = .ok (.if_icmp .ne 46, 3) := by decide +kernel
theorem d_M_readyAnswer_102 : decode prog_10_method_15_code 102 = .ok (.aload_n 0, 1) := by decide +kernel
theorem d_M_readyAnswer_103 : decode prog_10_method_15_code 103 = .ok (.getfield 111, 3) := by decide +kernel
theorem d_M_readyAnswer_106 : decode prog_10_method_15_code 106 = .ok (.iconst 2, 1) := by decide +kernel
theorem d_M_readyAnswer_107 : decode prog_10_method_15_code 107 = .ok (.iaload, 1) := by decide +kernel
theorem d_M_readyAnswer_108 : decode prog_10_method_15_code 108 = .ok (.istore 6, 2) := by decide +kernel
theorem d_M_readyAnswer_110 : decode prog_10_method_15_code 110 = .ok (.aload_n 0, 1) := by decide +kernel
theorem d_M_readyAnswer_111 : decode prog_10_method_15_code 111 = .ok (.iconst 2, 1) := by decide +kernel
theorem d_M_readyAnswer_112 : decode prog_10_method_15_code 112 = .ok (.aload_n 0, 1) := by decide +kernel
theorem d_M_readyAnswer_113 : decode prog_10_method_15_code 113 = .ok (.iload_n 2, 1) := by decide +kernel
theorem d_M_readyAnswer_114 : decode prog_10_method_15_code 114 = .ok (.iload_n 3, 1) := by decide +kernel
theorem d_M_readyAnswer_115 : decode prog_10_method_15_code 115 = .ok (.iload 4, 2) := by decide +kernel
theorem d_M_readyAnswer_117 : decode prog_10_method_15_code 117 = .ok (.i2l, 1) := by decide +kernel
theorem d_M_readyAnswer_118 : decode prog_10_method_15_code 118 = .ok (.iload 6, 2) := by decide +kernel
theorem d_M_readyAnswer_120 : decode prog_10_method_15_code 120 = .ok (.i2l, 1) := by decide +kernel
theorem d_M_readyAnswer_121 : decode prog_10_method_15_code 121 = .ok (.lconst 1, 1) := by decide +kernel
theorem d_M_readyAnswer_122 : decode prog_10_method_15_code 122 = .ok (.lsub, 1) := by decide +kernel
theorem d_M_readyAnswer_123 : decode prog_10_method_15_code 123 = .ok (.invokevirtual 123, 3) := by decide +kernel
theorem d_M_readyAnswer_126 : decode prog_10_method_15_code 126 = .ok (.aload_n 0, 1) := by decide +kernel
theorem d_M_readyAnswer_127 : decode prog_10_method_15_code 127 = .ok (.iload_n 2, 1) := by decide +kernel
theorem d_M_readyAnswer_128 : decode prog_10_method_15_code 128 = .ok (.iload_n 3, 1) := by decide +kernel
theorem d_M_readyAnswer_129 : decode prog_10_method_15_code 129 = .ok (.iload 6, 2) := by decide +kernel
theorem d_M_readyAnswer_131 : decode prog_10_method_15_code 131 = .ok (.i2l, 1) := by decide +kernel
theorem d_M_readyAnswer_132 : decode prog_10_method_15_code 132 = .ok (.iload 6, 2) := by decide +kernel
theorem d_M_readyAnswer_134 : decode prog_10_method_15_code 134 = .ok (.i2l, 1) := by decide +kernel
theorem d_M_readyAnswer_135 : decode prog_10_method_15_code 135 = .ok (.invokevirtual 123, 3) := by decide +kernel
theorem d_M_readyAnswer_138 : decode prog_10_method_15_code 138 = .ok (.iconst 0, 1) := by decide +kernel
theorem d_M_readyAnswer_139 : decode prog_10_method_15_code 139 = .ok (.invokevirtual 137, 3) := by decide +kernel
theorem d_M_readyAnswer_142 : decode prog_10_method_15_code 142 = .ok (.goto 187, 3) := by decide +kernel
theorem d_M_readyAnswer_145 : decode prog_10_method_15_code 145 = .ok (.iload_n 1, 1) := by decide +kernel
theorem d_M_readyAnswer_146 : decode prog_10_method_15_code 146 = .ok (.bipush 7, 2) := by decide +kernel
theorem d_M_readyAnswer_148 : decode prog_10_method_15_code 148 = .ok (.if_icmp .ne 75, 3) := by decide +kernel
theorem d_M_readyAnswer_151 : decode prog_10_method_15_code 151 = .ok (.aload_n 0, 1) := by decide +kernel
theorem d_M_readyAnswer_152 : decode prog_10_method_15_code 152 = .ok (.iload_n 2, 1) := by decide +kernel
theorem d_M_readyAnswer_153 : decode prog_10_method_15_code 153 = .ok (.iload_n 3, 1) := by decide +kernel
theorem d_M_readyAnswer_154 : decode prog_10_method_15_code 154 = .ok (.iload 4, 2) := by decide +kernel
theorem d_M_readyAnswer_156 : decode prog_10_method_15_code 156 = .ok (.i2l, 1) := by decide +kernel
theorem d_M_readyAnswer_157 : decode prog_10_method_15_code 157 = .ok (.iload 5, 2) := by decide +kernel
theorem d_M_readyAnswer_159 : decode prog_10_method_15_code 159 = .ok (.i2l, 1) := by decide +kernel
theorem d_M_readyAnswer_160 : decode prog_10_method_15_code 160 = .ok (.invokevirtual 123, 3) := by decide +kernel
theorem d_M_readyAnswer_163 : decode prog_10_method_15_code 163 = .ok (.istore 6, 2) := by decide +kernel
theorem d_M_readyAnswer_165 : decode prog_10_method_15_code 165 = .ok (.iconst 0, 1) := by decide +kernel
theorem d_M_readyAnswer_166 : decode prog_10_method_15_code 166 = .ok (.istore 7, 2) := by decide +kernel
theorem d_M_readyAnswer_168 : decode prog_10_method_15_code 168 = .ok (.iload 7, 2) := by decide +kernel
theorem d_M_readyAnswer_170 : decode prog_10_method_15_code 170 = .ok (.iload 6, 2) := by decide +kernel
theorem d_M_readyAnswer_172 : decode prog_10_method_15_code 172 = .ok (.if_icmp .ge 37, 3) := by decide +kernel
theorem d_M_readyAnswer_175 : decode prog_10_method_15_code 175 = .ok (.iload 7, 2) := by decide +kernel
theorem d_M_readyAnswer_177 : decode prog_10_method_15_code 177 = .ok (.bipush 64, 2) := by decide +kernel
theorem d_M_readyAnswer_179 : decode prog_10_method_15_code 179 = .ok (.if_icmp .ge 30, 3) := by decide +kernel
theorem d_M_readyAnswer_182 : decode prog_10_method_15_code 182 = .ok (.aload_n 0, 1) := by decide +kernel
theorem d_M_readyAnswer_183 : decode prog_10_method_15_code 183 = .ok (.getfield 111, 3) := by decide +kernel
theorem d_M_readyAnswer_186 : decode prog_10_method_15_code 186 = .ok (.iload 7, 2) := by decide +kernel
theorem d_M_readyAnswer_188 : decode prog_10_method_15_code 188 = .ok (.aload_n 0, 1) := by decide +kernel
theorem d_M_readyAnswer_189 : decode prog_10_method_15_code 189 = .ok (.iload_n 2, 1) := by decide +kernel
theorem d_M_readyAnswer_190 : decode prog_10_method_15_code 190 = .ok (.iload_n 3, 1) := by decide +kernel
theorem d_M_readyAnswer_191 : decode prog_10_method_15_code 191 = .ok (.iload 4, 2) := by decide +kernel
theorem d_M_readyAnswer_193 : decode prog_10_method_15_code 193 = .ok (.iload 5, 2) := by decide +kernel
theorem d_M_readyAnswer_195 : decode prog_10_method_15_code 195 = .ok (.iload 7, 2) := by decide +kernel
theorem d_M_readyAnswer_197 : decode prog_10_method_15_code 197 = .ok (.iconst 1, 1) := by decide +kernel
theorem d_M_readyAnswer_198 : decode prog_10_method_15_code 198 = .ok (.iadd, 1) := by decide +kernel
theorem d_M_readyAnswer_199 : decode prog_10_method_15_code 199 = .ok (.invokevirtual 150, 3) := by decide +kernel
theorem d_M_readyAnswer_202 : decode prog_10_method_15_code 202 = .ok (.iastore, 1) := by decide +kernel
theorem d_M_readyAnswer_203 : decode prog_10_method_15_code 203 = .ok (.iinc 7 1, 3) := by decide +kernel
theorem d_M_readyAnswer_206 : decode prog_10_method_15_code 206 = .ok (.goto (-38), 3) := by decide +kernel
theorem d_M_readyAnswer_209 : decode prog_10_method_15_code 209 = .ok (.aload_n 0, 1) := by decide +kernel
theorem d_M_readyAnswer_210 : decode prog_10_method_15_code 210 = .ok (.iload 6, 2) := by decide +kernel
theorem d_M_readyAnswer_212 : decode prog_10_method_15_code 212 = .ok (.putfield 130, 3) := by decide +kernel
theorem d_M_readyAnswer_215 : decode prog_10_method_15_code 215 = .ok (.aload_n 0, 1) := by decide +kernel
theorem d_M_readyAnswer_216 : decode prog_10_method_15_code 216 = .ok (.lconst 0, 1) := by decide +kernel
theorem d_M_readyAnswer_217 : decode prog_10_method_15_code 217 = .ok (.putfield 133, 3) := by decide +kernel
theorem d_M_readyAnswer_220 : decode prog_10_method_15_code 220 = .ok (.goto 109, 3) := by decide +kernel
theorem d_M_readyAnswer_223 : decode prog_10_method_15_code 223 = .ok (.iload_n 1, 1) := by decide +kernel
theorem d_M_readyAnswer_224 : decode prog_10_method_15_code 224 = .ok (.bipush 9, 2) := by decide +kernel
theorem d_M_readyAnswer_226 : decode prog_10_method_15_code 226 = .ok (.if_icmp .ne 25, 3) := by decide +kernel
theorem d_M_readyAnswer_229 : decode prog_10_method_15_code 229 = .ok (.aload_n 0, 1) := by decide +kernel
theorem d_M_readyAnswer_230 : decode prog_10_method_15_code 230 = .ok (.iconst 1, 1) := by decide +kernel
theorem d_M_readyAnswer_231 : decode prog_10_method_15_code 231 = .ok (.aload_n 0, 1) := by decide +kernel
theorem d_M_readyAnswer_232 : decode prog_10_method_15_code 232 = .ok (.iload_n 2, 1) := by decide +kernel
theorem d_M_readyAnswer_233 : decode prog_10_method_15_code 233 = .ok (.iload_n 3, 1) := by decide +kernel
theorem d_M_readyAnswer_234 : decode prog_10_method_15_code 234 = .ok (.iload 4, 2) := by decide +kernel
theorem d_M_readyAnswer_236 : decode prog_10_method_15_code 236 = .ok (.i2l, 1) := by decide +kernel
theorem d_M_readyAnswer_237 : decode prog_10_method_15_code 237 = .ok (.iload 5, 2) := by decide +kernel
theorem d_M_readyAnswer_239 : decode prog_10_method_15_code 239 = .ok (.i2l, 1) := by decide +kernel
theorem d_M_readyAnswer_240 : decode prog_10_method_15_code 240 = .ok (.invokevirtual 123, 3) := by decide +kernel
theorem d_M_readyAnswer_243 : decode prog_10_method_15_code 243 = .ok (.iconst 0, 1) := by decide +kernel
theorem d_M_readyAnswer_244 : decode prog_10_method_15_code 244 = .ok (.iconst 0, 1) := by decide +kernel
theorem d_M_readyAnswer_245 : decode prog_10_method_15_code 245 = .ok (.invokevirtual 137, 3) := by decide +kernel
theorem d_M_readyAnswer_248 : decode prog_10_method_15_code 248 = .ok (.goto 81, 3) := by decide +kernel
theorem d_M_readyAnswer_251 : decode prog_10_method_15_code 251 = .ok (.aload_n 0, 1) := by decide +kernel
theorem d_M_readyAnswer_252 : decode prog_10_method_15_code 252 = .ok (.iconst 4, 1) := by decide +kernel
theorem d_M_readyAnswer_253 : decode prog_10_method_15_code 253 = .ok (.aload_n 0, 1) := by decide +kernel
theorem d_M_readyAnswer_254 : decode prog_10_method_15_code 254 = .ok (.iload_n 2, 1) := by decide +kernel
theorem d_M_readyAnswer_255 : decode prog_10_method_15_code 255 = .ok (.iload_n 3, 1) := by decide +kernel
theorem d_M_readyAnswer_256 : decode prog_10_method_15_code 256 = .ok (.ldc2_w 154, 3) := by decide +kernel
theorem d_M_readyAnswer_259 : decode prog_10_method_15_code 259 = .ok (.iload 4, 2) := by decide +kernel
theorem d_M_readyAnswer_261 : decode prog_10_method_15_code 261 = .ok (.i2l, 1) := by decide +kernel
theorem d_M_readyAnswer_262 : decode prog_10_method_15_code 262 = .ok (.lconst 1, 1) := by decide +kernel
theorem d_M_readyAnswer_263 : decode prog_10_method_15_code 263 = .ok (.lsub, 1) := by decide +kernel
theorem d_M_readyAnswer_264 : decode prog_10_method_15_code 264 = .ok (.invokevirtual 123, 3) := by decide +kernel
theorem d_M_readyAnswer_267 : decode prog_10_method_15_code 267 = .ok (.aload_n 0, 1) := by decide +kernel
theorem d_M_readyAnswer_268 : decode prog_10_method_15_code 268 = .ok (.iload_n 2, 1) := by decide +kernel
theorem d_M_readyAnswer_269 : decode prog_10_method_15_code 269 = .ok (.iload_n 3, 1) := by decide +kernel
theorem d_M_readyAnswer_270 : decode prog_10_method_15_code 270 = .ok (.iload 4, 2) := by decide +kernel
theorem d_M_readyAnswer_272 : decode prog_10_method_15_code 272 = .ok (.i2l, 1) := by decide +kernel
theorem d_M_readyAnswer_273 : decode prog_10_method_15_code 273 = .ok (.iload 4, 2) := by decide +kernel
theorem d_M_readyAnswer_275 : decode prog_10_method_15_code 275 = .ok (.i2l, 1) := by decide +kernel
theorem d_M_readyAnswer_276 : decode prog_10_method_15_code 276 = .ok (.invokevirtual 123, 3) := by decide +kernel
theorem d_M_readyAnswer_279 : decode prog_10_method_15_code 279 = .ok (.aload_n 0, 1) := by decide +kernel
theorem d_M_readyAnswer_280 : decode prog_10_method_15_code 280 = .ok (.iload_n 2, 1) := by decide +kernel
theorem d_M_readyAnswer_281 : decode prog_10_method_15_code 281 = .ok (.iload_n 3, 1) := by decide +kernel
theorem d_M_readyAnswer_282 : decode prog_10_method_15_code 282 = .ok (.iload 4, 2) := by decide +kernel
theorem d_M_readyAnswer_284 : decode prog_10_method_15_code 284 = .ok (.i2l, 1) := by decide +kernel
theorem d_M_readyAnswer_285 : decode prog_10_method_15_code 285 = .ok (.lconst 1, 1) := by decide +kernel
theorem d_M_readyAnswer_286 : decode prog_10_method_15_code 286 = .ok (.ladd, 1) := by decide +kernel
theorem d_M_readyAnswer_287 : decode prog_10_method_15_code 287 = .ok (.iload 5, 2) := by decide +kernel
theorem d_M_readyAnswer_289 : decode prog_10_method_15_code 289 = .ok (.i2l, 1) := by decide +kernel
theorem d_M_readyAnswer_290 : decode prog_10_method_15_code 290 = .ok (.lconst 1, 1) := by decide +kernel
theorem d_M_readyAnswer_291 : decode prog_10_method_15_code 291 = .ok (.lsub, 1) := by decide +kernel
theorem d_M_readyAnswer_292 : decode prog_10_method_15_code 292 = .ok (.invokevirtual 123, 3) := by decide +kernel
theorem d_M_readyAnswer_295 : decode prog_10_method_15_code 295 = .ok (.invokevirtual 137, 3) := by decide +kernel
theorem d_M_readyAnswer_298 : decode prog_10_method_15_code 298 = .ok (.aload_n 0, 1) := by decide +kernel
theorem d_M_readyAnswer_299 : decode prog_10_method_15_code 299 = .ok (.aload_n 0, 1) := by decide +kernel
theorem d_M_readyAnswer_300 : decode prog_10_method_15_code 300 = .ok (.iload_n 2, 1) := by decide +kernel
theorem d_M_readyAnswer_301 : decode prog_10_method_15_code 301 = .ok (.iload_n 3, 1) := by decide +kernel
theorem d_M_readyAnswer_302 : decode prog_10_method_15_code 302 = .ok (.iload 4, 2) := by decide +kernel
theorem d_M_readyAnswer_304 : decode prog_10_method_15_code 304 = .ok (.i2l, 1) := by decide +kernel
theorem d_M_readyAnswer_305 : decode prog_10_method_15_code 305 = .ok (.lconst 1, 1) := by decide +kernel
theorem d_M_readyAnswer_306 : decode prog_10_method_15_code 306 = .ok (.ladd, 1) := by decide +kernel
theorem d_M_readyAnswer_307 : decode prog_10_method_15_code 307 = .ok (.iload 5, 2) := by decide +kernel
theorem d_M_readyAnswer_309 : decode prog_10_method_15_code 309 = .ok (.i2l, 1) := by decide +kernel
theorem d_M_readyAnswer_310 : decode prog_10_method_15_code 310 = .ok (.lconst 1, 1) := by decide +kernel
theorem d_M_readyAnswer_311 : decode prog_10_method_15_code 311 = .ok (.lsub, 1) := by decide +kernel
theorem d_M_readyAnswer_312 : decode prog_10_method_15_code 312 = .ok (.invokevirtual 156, 3) := by decide +kernel
theorem d_M_readyAnswer_315 : decode prog_10_method_15_code 315 = .ok (.putfield 133, 3) := by decide +kernel
theorem d_M_readyAnswer_318 : decode prog_10_method_15_code 318 = .ok (.aload_n 0, 1) := by decide +kernel
theorem d_M_readyAnswer_319 : decode prog_10_method_15_code 319 = .ok (.getfield 111, 3) := by decide +kernel
theorem d_M_readyAnswer_322 : decode prog_10_method_15_code 322 = .ok (.iconst 3, 1) := by decide +kernel
theorem d_M_readyAnswer_323 : decode prog_10_method_15_code 323 = .ok (.aload_n 0, 1) := by decide +kernel
theorem d_M_readyAnswer_324 : decode prog_10_method_15_code 324 = .ok (.getfield 133, 3) := by decide +kernel
theorem d_M_readyAnswer_327 : decode prog_10_method_15_code 327 = .ok (.l2i, 1) := by decide +kernel
theorem d_M_readyAnswer_328 : decode prog_10_method_15_code 328 = .ok (.iastore, 1) := by decide +kernel
theorem d_M_readyAnswer_329 : decode prog_10_method_15_code 329 = .ok (.return_, 1) := by decide +kernel
theorem d_M_answered_0 : decode prog_10_method_16_code 0 = .ok (.aload_n 0, 1) := by decide +kernel
theorem d_M_answered_1 : decode prog_10_method_16_code 1 = .ok (.getfield 41, 3) := by decide +kernel
theorem d_M_answered_4 : decode prog_10_method_16_code 4 = .ok (.iload_n 1, 1) := by decide +kernel
theorem d_M_answered_5 : decode prog_10_method_16_code 5 = .ok (.iconst 1, 1) := by decide +kernel
theorem d_M_answered_6 : decode prog_10_method_16_code 6 = .ok (.iastore, 1) := by decide +kernel
theorem d_M_answered_7 : decode prog_10_method_16_code 7 = .ok (.aload_n 0, 1) := by decide +kernel
theorem d_M_answered_8 : decode prog_10_method_16_code 8 = .ok (.getfield 83, 3) := by decide +kernel
theorem d_M_answered_11 : decode prog_10_method_16_code 11 = .ok (.iload_n 1, 1) := by decide +kernel
theorem d_M_answered_12 : decode prog_10_method_16_code 12 = .ok (.lload_n 2, 1) := by decide +kernel
theorem d_M_answered_13 : decode prog_10_method_16_code 13 = .ok (.lastore, 1) := by decide +kernel
theorem d_M_answered_14 : decode prog_10_method_16_code 14 = .ok (.return_, 1) := by decide +kernel
theorem d_M_total_0 : decode prog_10_method_17_code 0 = .ok (.iconst 0, 1) := by decide +kernel
theorem d_M_total_1 : decode prog_10_method_17_code 1 = .ok (.istore_n 3, 1) := by decide +kernel
theorem d_M_total_2 : decode prog_10_method_17_code 2 = .ok (.iconst 0, 1) := by decide +kernel
theorem d_M_total_3 : decode prog_10_method_17_code 3 = .ok (.istore 4, 2) := by decide +kernel
theorem d_M_total_5 : decode prog_10_method_17_code 5 = .ok (.iload 4, 2) := by decide +kernel
theorem d_M_total_7 : decode prog_10_method_17_code 7 = .ok (.bipush 8, 2) := by decide +kernel
theorem d_M_total_9 : decode prog_10_method_17_code 9 = .ok (.if_icmp .ge 28, 3) := by decide +kernel
theorem d_M_total_12 : decode prog_10_method_17_code 12 = .ok (.iload_n 3, 1) := by decide +kernel
theorem d_M_total_13 : decode prog_10_method_17_code 13 = .ok (.aload_n 0, 1) := by decide +kernel
theorem d_M_total_14 : decode prog_10_method_17_code 14 = .ok (.getfield 90, 3) := by decide +kernel
theorem d_M_total_17 : decode prog_10_method_17_code 17 = .ok (.iconst 4, 1) := by decide +kernel
theorem d_M_total_18 : decode prog_10_method_17_code 18 = .ok (.bipush 8, 2) := by decide +kernel
theorem d_M_total_20 : decode prog_10_method_17_code 20 = .ok (.iload_n 1, 1) := by decide +kernel
theorem d_M_total_21 : decode prog_10_method_17_code 21 = .ok (.imul, 1) := by decide +kernel
theorem d_M_total_22 : decode prog_10_method_17_code 22 = .ok (.iload 4, 2) := by decide +kernel
theorem d_M_total_24 : decode prog_10_method_17_code 24 = .ok (.iadd, 1) := by decide +kernel
theorem d_M_total_25 : decode prog_10_method_17_code 25 = .ok (.imul, 1) := by decide +kernel
theorem d_M_total_26 : decode prog_10_method_17_code 26 = .ok (.iload_n 2, 1) := by decide +kernel
theorem d_M_total_27 : decode prog_10_method_17_code 27 = .ok (.iadd, 1) := by decide +kernel
theorem d_M_total_28 : decode prog_10_method_17_code 28 = .ok (.iaload, 1) := by decide +kernel
theorem d_M_total_29 : decode prog_10_method_17_code 29 = .ok (.iadd, 1) := by decide +kernel
theorem d_M_total_30 : decode prog_10_method_17_code 30 = .ok (.istore_n 3, 1) := by decide +kernel
theorem d_M_total_31 : decode prog_10_method_17_code 31 = .ok (.iinc 4 1, 3) := by decide +kernel
theorem d_M_total_34 : decode prog_10_method_17_code 34 = .ok (.goto (-29), 3) := by decide +kernel
theorem d_M_total_37 : decode prog_10_method_17_code 37 = .ok (.iload_n 3, 1) := by decide +kernel
theorem d_M_total_38 : decode prog_10_method_17_code 38 = .ok (.ireturn, 1) := by decide +kernel
theorem d_M_firstRank_0 : decode prog_10_method_18_code 0 = .ok (.aload_n 0, 1) := by decide +kernel
theorem d_M_firstRank_1 : decode prog_10_method_18_code 1 = .ok (.getfield 47, 3) := by decide +kernel
theorem d_M_firstRank_4 : decode prog_10_method_18_code 4 = .ok (.iload_n 1, 1) := by decide +kernel
theorem d_M_firstRank_5 : decode prog_10_method_18_code 5 = .ok (.iaload, 1) := by decide +kernel
theorem d_M_firstRank_6 : decode prog_10_method_18_code 6 = .ok (.iconst 1, 1) := by decide +kernel
theorem d_M_firstRank_7 : decode prog_10_method_18_code 7 = .ok (.iadd, 1) := by decide +kernel
theorem d_M_firstRank_8 : decode prog_10_method_18_code 8 = .ok (.iconst 2, 1) := by decide +kernel
theorem d_M_firstRank_9 : decode prog_10_method_18_code 9 = .ok (.idiv, 1) := by decide +kernel
theorem d_M_firstRank_10 : decode prog_10_method_18_code 10 = .ok (.istore_n 2, 1) := by decide +kernel
theorem d_M_firstRank_11 : decode prog_10_method_18_code 11 = .ok (.aload_n 0, 1) := by decide +kernel
theorem d_M_firstRank_12 : decode prog_10_method_18_code 12 = .ok (.getfield 47, 3) := by decide +kernel
theorem d_M_firstRank_15 : decode prog_10_method_18_code 15 = .ok (.iload_n 1, 1) := by decide +kernel
theorem d_M_firstRank_16 : decode prog_10_method_18_code 16 = .ok (.iaload, 1) := by decide +kernel
theorem d_M_firstRank_17 : decode prog_10_method_18_code 17 = .ok (.aload_n 0, 1) := by decide +kernel
theorem d_M_firstRank_18 : decode prog_10_method_18_code 18 = .ok (.getfield 26, 3) := by decide +kernel
theorem d_M_firstRank_21 : decode prog_10_method_18_code 21 = .ok (.iload_n 1, 1) := by decide +kernel
theorem d_M_firstRank_22 : decode prog_10_method_18_code 22 = .ok (.iaload, 1) := by decide +kernel
theorem d_M_firstRank_23 : decode prog_10_method_18_code 23 = .ok (.imul, 1) := by decide +kernel
theorem d_M_firstRank_24 : decode prog_10_method_18_code 24 = .ok (.sipush 2000, 3) := by decide +kernel
theorem d_M_firstRank_27 : decode prog_10_method_18_code 27 = .ok (.idiv, 1) := by decide +kernel
theorem d_M_firstRank_28 : decode prog_10_method_18_code 28 = .ok (.istore_n 3, 1) := by decide +kernel
theorem d_M_firstRank_29 : decode prog_10_method_18_code 29 = .ok (.aload_n 0, 1) := by decide +kernel
theorem d_M_firstRank_30 : decode prog_10_method_18_code 30 = .ok (.getfield 23, 3) := by decide +kernel
theorem d_M_firstRank_33 : decode prog_10_method_18_code 33 = .ok (.iload_n 1, 1) := by decide +kernel
theorem d_M_firstRank_34 : decode prog_10_method_18_code 34 = .ok (.iaload, 1) := by decide +kernel
theorem d_M_firstRank_35 : decode prog_10_method_18_code 35 = .ok (.ifCond .ne 12, 3) := by decide +kernel
theorem d_M_firstRank_38 : decode prog_10_method_18_code 38 = .ok (.aload_n 0, 1) := by decide +kernel
theorem d_M_firstRank_39 : decode prog_10_method_18_code 39 = .ok (.getfield 26, 3) := by decide +kernel
theorem d_M_firstRank_42 : decode prog_10_method_18_code 42 = .ok (.iload_n 1, 1) := by decide +kernel
theorem d_M_firstRank_43 : decode prog_10_method_18_code 43 = .ok (.iaload, 1) := by decide +kernel
theorem d_M_firstRank_44 : decode prog_10_method_18_code 44 = .ok (.goto 49, 3) := by decide +kernel
theorem d_M_firstRank_47 : decode prog_10_method_18_code 47 = .ok (.aload_n 0, 1) := by decide +kernel
theorem d_M_firstRank_48 : decode prog_10_method_18_code 48 = .ok (.getfield 23, 3) := by decide +kernel
theorem d_M_firstRank_51 : decode prog_10_method_18_code 51 = .ok (.iload_n 1, 1) := by decide +kernel
theorem d_M_firstRank_52 : decode prog_10_method_18_code 52 = .ok (.iaload, 1) := by decide +kernel
theorem d_M_firstRank_53 : decode prog_10_method_18_code 53 = .ok (.iconst 2, 1) := by decide +kernel
theorem d_M_firstRank_54 : decode prog_10_method_18_code 54 = .ok (.if_icmp .ne 25, 3) := by decide +kernel
theorem d_M_firstRank_57 : decode prog_10_method_18_code 57 = .ok (.aload_n 0, 1) := by decide +kernel
theorem d_M_firstRank_58 : decode prog_10_method_18_code 58 = .ok (.getfield 47, 3) := by decide +kernel
theorem d_M_firstRank_61 : decode prog_10_method_18_code 61 = .ok (.iload_n 1, 1) := by decide +kernel
theorem d_M_firstRank_62 : decode prog_10_method_18_code 62 = .ok (.iaload, 1) := by decide +kernel
theorem d_M_firstRank_63 : decode prog_10_method_18_code 63 = .ok (.aload_n 0, 1) := by decide +kernel
theorem d_M_firstRank_64 : decode prog_10_method_18_code 64 = .ok (.getfield 26, 3) := by decide +kernel
theorem d_M_firstRank_67 : decode prog_10_method_18_code 67 = .ok (.iload_n 1, 1) := by decide +kernel
theorem d_M_firstRank_68 : decode prog_10_method_18_code 68 = .ok (.iaload, 1) := by decide +kernel
theorem d_M_firstRank_69 : decode prog_10_method_18_code 69 = .ok (.imul, 1) := by decide +kernel
theorem d_M_firstRank_70 : decode prog_10_method_18_code 70 = .ok (.sipush 1000, 3) := by decide +kernel
theorem d_M_firstRank_73 : decode prog_10_method_18_code 73 = .ok (.idiv, 1) := by decide +kernel
theorem d_M_firstRank_74 : decode prog_10_method_18_code 74 = .ok (.iconst 1, 1) := by decide +kernel
theorem d_M_firstRank_75 : decode prog_10_method_18_code 75 = .ok (.iadd, 1) := by decide +kernel
theorem d_M_firstRank_76 : decode prog_10_method_18_code 76 = .ok (.goto 17, 3) := by decide +kernel
theorem d_M_firstRank_79 : decode prog_10_method_18_code 79 = .ok (.iload_n 2, 1) := by decide +kernel
theorem d_M_firstRank_80 : decode prog_10_method_18_code 80 = .ok (.iload_n 3, 1) := by decide +kernel
theorem d_M_firstRank_81 : decode prog_10_method_18_code 81 = .ok (.isub, 1) := by decide +kernel
theorem d_M_firstRank_82 : decode prog_10_method_18_code 82 = .ok (.iconst 1, 1) := by decide +kernel
theorem d_M_firstRank_83 : decode prog_10_method_18_code 83 = .ok (.if_icmp .le 9, 3) := by decide +kernel
theorem d_M_firstRank_86 : decode prog_10_method_18_code 86 = .ok (.iload_n 2, 1) := by decide +kernel
theorem d_M_firstRank_87 : decode prog_10_method_18_code 87 = .ok (.iload_n 3, 1) := by decide +kernel
theorem d_M_firstRank_88 : decode prog_10_method_18_code 88 = .ok (.isub, 1) := by decide +kernel
theorem d_M_firstRank_89 : decode prog_10_method_18_code 89 = .ok (.goto 4, 3) := by decide +kernel
theorem d_M_firstRank_92 : decode prog_10_method_18_code 92 = .ok (.iconst 1, 1) := by decide +kernel
theorem d_M_firstRank_93 : decode prog_10_method_18_code 93 = .ok (.ireturn, 1) := by decide +kernel
theorem d_M_lastRank_0 : decode prog_10_method_19_code 0 = .ok (.aload_n 0, 1) := by decide +kernel
theorem d_M_lastRank_1 : decode prog_10_method_19_code 1 = .ok (.getfield 47, 3) := by decide +kernel
theorem d_M_lastRank_4 : decode prog_10_method_19_code 4 = .ok (.iload_n 1, 1) := by decide +kernel
theorem d_M_lastRank_5 : decode prog_10_method_19_code 5 = .ok (.iaload, 1) := by decide +kernel
theorem d_M_lastRank_6 : decode prog_10_method_19_code 6 = .ok (.iconst 1, 1) := by decide +kernel
theorem d_M_lastRank_7 : decode prog_10_method_19_code 7 = .ok (.iadd, 1) := by decide +kernel
theorem d_M_lastRank_8 : decode prog_10_method_19_code 8 = .ok (.iconst 2, 1) := by decide +kernel
theorem d_M_lastRank_9 : decode prog_10_method_19_code 9 = .ok (.idiv, 1) := by decide +kernel
theorem d_M_lastRank_10 : decode prog_10_method_19_code 10 = .ok (.istore_n 2, 1) := by decide +kernel
theorem d_M_lastRank_11 : decode prog_10_method_19_code 11 = .ok (.aload_n 0, 1) := by decide +kernel
theorem d_M_lastRank_12 : decode prog_10_method_19_code 12 = .ok (.getfield 47, 3) := by decide +kernel
theorem d_M_lastRank_15 : decode prog_10_method_19_code 15 = .ok (.iload_n 1, 1) := by decide +kernel
theorem d_M_lastRank_16 : decode prog_10_method_19_code 16 = .ok (.iaload, 1) := by decide +kernel
theorem d_M_lastRank_17 : decode prog_10_method_19_code 17 = .ok (.aload_n 0, 1) := by decide +kernel
theorem d_M_lastRank_18 : decode prog_10_method_19_code 18 = .ok (.getfield 26, 3) := by decide +kernel
theorem d_M_lastRank_21 : decode prog_10_method_19_code 21 = .ok (.iload_n 1, 1) := by decide +kernel
theorem d_M_lastRank_22 : decode prog_10_method_19_code 22 = .ok (.iaload, 1) := by decide +kernel
theorem d_M_lastRank_23 : decode prog_10_method_19_code 23 = .ok (.imul, 1) := by decide +kernel
theorem d_M_lastRank_24 : decode prog_10_method_19_code 24 = .ok (.sipush 2000, 3) := by decide +kernel
theorem d_M_lastRank_27 : decode prog_10_method_19_code 27 = .ok (.idiv, 1) := by decide +kernel
theorem d_M_lastRank_28 : decode prog_10_method_19_code 28 = .ok (.istore_n 3, 1) := by decide +kernel
theorem d_M_lastRank_29 : decode prog_10_method_19_code 29 = .ok (.aload_n 0, 1) := by decide +kernel
theorem d_M_lastRank_30 : decode prog_10_method_19_code 30 = .ok (.getfield 23, 3) := by decide +kernel
theorem d_M_lastRank_33 : decode prog_10_method_19_code 33 = .ok (.iload_n 1, 1) := by decide +kernel
theorem d_M_lastRank_34 : decode prog_10_method_19_code 34 = .ok (.iaload, 1) := by decide +kernel
theorem d_M_lastRank_35 : decode prog_10_method_19_code 35 = .ok (.iconst 2, 1) := by decide +kernel
theorem d_M_lastRank_36 : decode prog_10_method_19_code 36 = .ok (.if_icmp .ne 30, 3) := by decide +kernel
theorem d_M_lastRank_39 : decode prog_10_method_19_code 39 = .ok (.aload_n 0, 1) := by decide +kernel
theorem d_M_lastRank_40 : decode prog_10_method_19_code 40 = .ok (.getfield 47, 3) := by decide +kernel
theorem d_M_lastRank_43 : decode prog_10_method_19_code 43 = .ok (.iload_n 1, 1) := by decide +kernel
theorem d_M_lastRank_44 : decode prog_10_method_19_code 44 = .ok (.iaload, 1) := by decide +kernel
theorem d_M_lastRank_45 : decode prog_10_method_19_code 45 = .ok (.aload_n 0, 1) := by decide +kernel
theorem d_M_lastRank_46 : decode prog_10_method_19_code 46 = .ok (.getfield 47, 3) := by decide +kernel
theorem d_M_lastRank_49 : decode prog_10_method_19_code 49 = .ok (.iload_n 1, 1) := by decide +kernel
theorem d_M_lastRank_50 : decode prog_10_method_19_code 50 = .ok (.iaload, 1) := by decide +kernel
theorem d_M_lastRank_51 : decode prog_10_method_19_code 51 = .ok (.aload_n 0, 1) := by decide +kernel
theorem d_M_lastRank_52 : decode prog_10_method_19_code 52 = .ok (.getfield 26, 3) := by decide +kernel
theorem d_M_lastRank_55 : decode prog_10_method_19_code 55 = .ok (.iload_n 1, 1) := by decide +kernel
theorem d_M_lastRank_56 : decode prog_10_method_19_code 56 = .ok (.iaload, 1) := by decide +kernel
theorem d_M_lastRank_57 : decode prog_10_method_19_code 57 = .ok (.imul, 1) := by decide +kernel
theorem d_M_lastRank_58 : decode prog_10_method_19_code 58 = .ok (.sipush 1000, 3) := by decide +kernel
theorem d_M_lastRank_61 : decode prog_10_method_19_code 61 = .ok (.idiv, 1) := by decide +kernel
theorem d_M_lastRank_62 : decode prog_10_method_19_code 62 = .ok (.isub, 1) := by decide +kernel
theorem d_M_lastRank_63 : decode prog_10_method_19_code 63 = .ok (.goto 27, 3) := by decide +kernel
theorem d_M_lastRank_66 : decode prog_10_method_19_code 66 = .ok (.iload_n 2, 1) := by decide +kernel
theorem d_M_lastRank_67 : decode prog_10_method_19_code 67 = .ok (.iload_n 3, 1) := by decide +kernel
theorem d_M_lastRank_68 : decode prog_10_method_19_code 68 = .ok (.iadd, 1) := by decide +kernel
theorem d_M_lastRank_69 : decode prog_10_method_19_code 69 = .ok (.aload_n 0, 1) := by decide +kernel
theorem d_M_lastRank_70 : decode prog_10_method_19_code 70 = .ok (.getfield 47, 3) := by decide +kernel
theorem d_M_lastRank_73 : decode prog_10_method_19_code 73 = .ok (.iload_n 1, 1) := by decide +kernel
theorem d_M_lastRank_74 : decode prog_10_method_19_code 74 = .ok (.iaload, 1) := by decide +kernel
theorem d_M_lastRank_75 : decode prog_10_method_19_code 75 = .ok (.if_icmp .ge 9, 3) := by decide +kernel
theorem d_M_lastRank_78 : decode prog_10_method_19_code 78 = .ok (.iload_n 2, 1) := by decide +kernel
theorem d_M_lastRank_79 : decode prog_10_method_19_code 79 = .ok (.iload_n 3, 1) := by decide +kernel
theorem d_M_lastRank_80 : decode prog_10_method_19_code 80 = .ok (.iadd, 1) := by decide +kernel
theorem d_M_lastRank_81 : decode prog_10_method_19_code 81 = .ok (.goto 9, 3) := by decide +kernel
theorem d_M_lastRank_84 : decode prog_10_method_19_code 84 = .ok (.aload_n 0, 1) := by decide +kernel
theorem d_M_lastRank_85 : decode prog_10_method_19_code 85 = .ok (.getfield 47, 3) := by decide +kernel
theorem d_M_lastRank_88 : decode prog_10_method_19_code 88 = .ok (.iload_n 1, 1) := by decide +kernel
theorem d_M_lastRank_89 : decode prog_10_method_19_code 89 = .ok (.iaload, 1) := by decide +kernel
theorem d_M_lastRank_90 : decode prog_10_method_19_code 90 = .ok (.ireturn, 1) := by decide +kernel
theorem d_M_search_0 : decode prog_10_method_20_code 0 = .ok (.aload_n 0, 1) := by decide +kernel
theorem d_M_search_1 : decode prog_10_method_20_code 1 = .ok (.getfield 71, 3) := by decide +kernel
theorem d_M_search_4 : decode prog_10_method_20_code 4 = .ok (.iload_n 1, 1) := by decide +kernel
theorem d_M_search_5 : decode prog_10_method_20_code 5 = .ok (.iload_n 2, 1) := by decide +kernel
theorem d_M_search_6 : decode prog_10_method_20_code 6 = .ok (.bastore, 1) := by decide +kernel
theorem d_M_search_7 : decode prog_10_method_20_code 7 = .ok (.aload_n 0, 1) := by decide +kernel
theorem d_M_search_8 : decode prog_10_method_20_code 8 = .ok (.getfield 68, 3) := by decide +kernel
theorem d_M_search_11 : decode prog_10_method_20_code 11 = .ok (.iload_n 1, 1) := by decide +kernel
theorem d_M_search_12 : decode prog_10_method_20_code 12 = .ok (.iload_n 2, 1) := by decide +kernel
theorem d_M_search_13 : decode prog_10_method_20_code 13 = .ok (.ifCond .eq 11, 3) := by decide +kernel
theorem d_M_search_16 : decode prog_10_method_20_code 16 = .ok (.aload_n 0, 1) := by decide +kernel
theorem d_M_search_17 : decode prog_10_method_20_code 17 = .ok (.iload_n 1, 1) := by decide +kernel
theorem d_M_search_18 : decode prog_10_method_20_code 18 = .ok (.invokevirtual 160, 3) := by decide +kernel
theorem d_M_search_21 : decode prog_10_method_20_code 21 = .ok (.goto 8, 3) := by decide +kernel
theorem d_M_search_24 : decode prog_10_method_20_code 24 = .ok (.aload_n 0, 1) := by decide +kernel
theorem d_M_search_25 : decode prog_10_method_20_code 25 = .ok (.iload_n 1, 1) := by decide +kernel
theorem d_M_search_26 : decode prog_10_method_20_code 26 = .ok (.invokevirtual 164, 3) := by decide +kernel
theorem d_M_search_29 : decode prog_10_method_20_code 29 = .ok (.iastore, 1) := by decide +kernel
theorem d_M_search_30 : decode prog_10_method_20_code 30 = .ok (.aload_n 0, 1) := by decide +kernel
theorem d_M_search_31 : decode prog_10_method_20_code 31 = .ok (.getfield 59, 3) := by decide +kernel
theorem d_M_search_34 : decode prog_10_method_20_code 34 = .ok (.iload_n 1, 1) := by decide +kernel
theorem d_M_search_35 : decode prog_10_method_20_code 35 = .ok (.ldc 141, 2) := by decide +kernel
theorem d_M_search_37 : decode prog_10_method_20_code 37 = .ok (.iastore, 1) := by decide +kernel
theorem d_M_search_38 : decode prog_10_method_20_code 38 = .ok (.aload_n 0, 1) := by decide +kernel
theorem d_M_search_39 : decode prog_10_method_20_code 39 = .ok (.getfield 62, 3) := by decide +kernel
theorem d_M_search_42 : decode prog_10_method_20_code 42 = .ok (.iload_n 1, 1) := by decide +kernel
theorem d_M_search_43 : decode prog_10_method_20_code 43 = .ok (.ldc 167, 2) := by decide +kernel
theorem d_M_search_45 : decode prog_10_method_20_code 45 = .ok (.iastore, 1) := by decide +kernel
theorem d_M_search_46 : decode prog_10_method_20_code 46 = .ok (.aload_n 0, 1) := by decide +kernel
theorem d_M_search_47 : decode prog_10_method_20_code 47 = .ok (.getfield 65, 3) := by decide +kernel
theorem d_M_search_50 : decode prog_10_method_20_code 50 = .ok (.iload_n 1, 1) := by decide +kernel
theorem d_M_search_51 : decode prog_10_method_20_code 51 = .ok (.iconst 0, 1) := by decide +kernel
theorem d_M_search_52 : decode prog_10_method_20_code 52 = .ok (.iastore, 1) := by decide +kernel
theorem d_M_search_53 : decode prog_10_method_20_code 53 = .ok (.aload_n 0, 1) := by decide +kernel
theorem d_M_search_54 : decode prog_10_method_20_code 54 = .ok (.getfield 50, 3) := by decide +kernel
theorem d_M_search_57 : decode prog_10_method_20_code 57 = .ok (.iload_n 1, 1) := by decide +kernel
theorem d_M_search_58 : decode prog_10_method_20_code 58 = .ok (.aload_n 0, 1) := by decide +kernel
theorem d_M_search_59 : decode prog_10_method_20_code 59 = .ok (.getfield 47, 3) := by decide +kernel
theorem d_M_search_62 : decode prog_10_method_20_code 62 = .ok (.iload_n 1, 1) := by decide +kernel
theorem d_M_search_63 : decode prog_10_method_20_code 63 = .ok (.iaload, 1) := by decide +kernel
theorem d_M_search_64 : decode prog_10_method_20_code 64 = .ok (.iastore, 1) := by decide +kernel
theorem d_M_search_65 : decode prog_10_method_20_code 65 = .ok (.aload_n 0, 1) := by decide +kernel
theorem d_M_search_66 : decode prog_10_method_20_code 66 = .ok (.iload_n 1, 1) := by decide +kernel
theorem d_M_search_67 : decode prog_10_method_20_code 67 = .ok (.iconst 3, 1) := by decide +kernel
theorem d_M_search_68 : decode prog_10_method_20_code 68 = .ok (.invokevirtual 168, 3) := by decide +kernel
theorem d_M_search_71 : decode prog_10_method_20_code 71 = .ok (.return_, 1) := by decide +kernel
theorem d_M_afterFreeze_0 : decode prog_10_method_21_code 0 = .ok (.aload_n 0, 1) := by decide +kernel
theorem d_M_afterFreeze_1 : decode prog_10_method_21_code 1 = .ok (.getfield 47, 3) := by decide +kernel
theorem d_M_afterFreeze_4 : decode prog_10_method_21_code 4 = .ok (.iload_n 1, 1) := by decide +kernel
theorem d_M_afterFreeze_5 : decode prog_10_method_21_code 5 = .ok (.aload_n 0, 1) := by decide +kernel
theorem d_M_afterFreeze_6 : decode prog_10_method_21_code 6 = .ok (.iload_n 1, 1) := by decide +kernel
theorem d_M_afterFreeze_7 : decode prog_10_method_21_code 7 = .ok (.iconst 0, 1) := by decide +kernel
theorem d_M_afterFreeze_8 : decode prog_10_method_21_code 8 = .ok (.invokevirtual 172, 3) := by decide +kernel
theorem d_M_afterFreeze_11 : decode prog_10_method_21_code 11 = .ok (.iastore, 1) := by decide +kernel
theorem d_M_afterFreeze_12 : decode prog_10_method_21_code 12 = .ok (.aload_n 0, 1) := by decide +kernel
theorem d_M_afterFreeze_13 : decode prog_10_method_21_code 13 = .ok (.getfield 47, 3) := by decide +kernel
theorem d_M_afterFreeze_16 : decode prog_10_method_21_code 16 = .ok (.iload_n 1, 1) := by decide +kernel
theorem d_M_afterFreeze_17 : decode prog_10_method_21_code 17 = .ok (.iaload, 1) := by decide +kernel
theorem d_M_afterFreeze_18 : decode prog_10_method_21_code 18 = .ok (.ifCond .eq 27, 3) := by decide +kernel
theorem d_M_afterFreeze_21 : decode prog_10_method_21_code 21 = .ok (.aload_n 0, 1) := by decide +kernel
theorem d_M_afterFreeze_22 : decode prog_10_method_21_code 22 = .ok (.getfield 23, 3) := by decide +kernel
theorem d_M_afterFreeze_25 : decode prog_10_method_21_code 25 = .ok (.iload_n 1, 1) := by decide +kernel
theorem d_M_afterFreeze_26 : decode prog_10_method_21_code 26 = .ok (.iaload, 1) := by decide +kernel
theorem d_M_afterFreeze_27 : decode prog_10_method_21_code 27 = .ok (.ifCond .ne 28, 3) := by decide +kernel
theorem d_M_afterFreeze_30 : decode prog_10_method_21_code 30 = .ok (.aload_n 0, 1) := by decide +kernel
theorem d_M_afterFreeze_31 : decode prog_10_method_21_code 31 = .ok (.getfield 26, 3) := by decide +kernel
theorem d_M_afterFreeze_34 : decode prog_10_method_21_code 34 = .ok (.iload_n 1, 1) := by decide +kernel
theorem d_M_afterFreeze_35 : decode prog_10_method_21_code 35 = .ok (.iaload, 1) := by decide +kernel
theorem d_M_afterFreeze_36 : decode prog_10_method_21_code 36 = .ok (.aload_n 0, 1) := by decide +kernel
theorem d_M_afterFreeze_37 : decode prog_10_method_21_code 37 = .ok (.getfield 47, 3) := by decide +kernel
theorem d_M_afterFreeze_40 : decode prog_10_method_21_code 40 = .ok (.iload_n 1, 1) := by decide +kernel
theorem d_M_afterFreeze_41 : decode prog_10_method_21_code 41 = .ok (.iaload, 1) := by decide +kernel
theorem d_M_afterFreeze_42 : decode prog_10_method_21_code 42 = .ok (.if_icmp .le 13, 3) := by decide +kernel
theorem d_M_afterFreeze_45 : decode prog_10_method_21_code 45 = .ok (.aload_n 0, 1) := by decide +kernel
theorem d_M_afterFreeze_46 : decode prog_10_method_21_code 46 = .ok (.getfield 41, 3) := by decide +kernel
theorem d_M_afterFreeze_49 : decode prog_10_method_21_code 49 = .ok (.iload_n 1, 1) := by decide +kernel
theorem d_M_afterFreeze_50 : decode prog_10_method_21_code 50 = .ok (.iconst 2, 1) := by decide +kernel
theorem d_M_afterFreeze_51 : decode prog_10_method_21_code 51 = .ok (.iastore, 1) := by decide +kernel
theorem d_M_afterFreeze_52 : decode prog_10_method_21_code 52 = .ok (.goto 39, 3) := by decide +kernel
theorem d_M_afterFreeze_55 : decode prog_10_method_21_code 55 = .ok (.aload_n 0, 1) := by decide +kernel
theorem d_M_afterFreeze_56 : decode prog_10_method_21_code 56 = .ok (.getfield 23, 3) := by decide +kernel
theorem d_M_afterFreeze_59 : decode prog_10_method_21_code 59 = .ok (.iload_n 1, 1) := by decide +kernel
theorem d_M_afterFreeze_60 : decode prog_10_method_21_code 60 = .ok (.iaload, 1) := by decide +kernel
theorem d_M_afterFreeze_61 : decode prog_10_method_21_code 61 = .ok (.iconst 1, 1) := by decide +kernel
theorem d_M_afterFreeze_62 : decode prog_10_method_21_code 62 = .ok (.if_icmp .eq 13, 3) := by decide +kernel
theorem d_M_afterFreeze_65 : decode prog_10_method_21_code 65 = .ok (.aload_n 0, 1) := by decide +kernel
theorem d_M_afterFreeze_66 : decode prog_10_method_21_code 66 = .ok (.getfield 23, 3) := by decide +kernel
theorem d_M_afterFreeze_69 : decode prog_10_method_21_code 69 = .ok (.iload_n 1, 1) := by decide +kernel
theorem d_M_afterFreeze_70 : decode prog_10_method_21_code 70 = .ok (.iaload, 1) := by decide +kernel
theorem d_M_afterFreeze_71 : decode prog_10_method_21_code 71 = .ok (.iconst 3, 1) := by decide +kernel
theorem d_M_afterFreeze_72 : decode prog_10_method_21_code 72 = .ok (.if_icmp .ne 13, 3) := by decide +kernel
theorem d_M_afterFreeze_75 : decode prog_10_method_21_code 75 = .ok (.aload_n 0, 1) := by decide +kernel
theorem d_M_afterFreeze_76 : decode prog_10_method_21_code 76 = .ok (.iload_n 1, 1) := by decide +kernel
theorem d_M_afterFreeze_77 : decode prog_10_method_21_code 77 = .ok (.bipush 9, 2) := by decide +kernel
theorem d_M_afterFreeze_79 : decode prog_10_method_21_code 79 = .ok (.invokevirtual 168, 3) := by decide +kernel
theorem d_M_afterFreeze_82 : decode prog_10_method_21_code 82 = .ok (.goto 9, 3) := by decide +kernel
theorem d_M_afterFreeze_85 : decode prog_10_method_21_code 85 = .ok (.aload_n 0, 1) := by decide +kernel
theorem d_M_afterFreeze_86 : decode prog_10_method_21_code 86 = .ok (.iload_n 1, 1) := by decide +kernel
theorem d_M_afterFreeze_87 : decode prog_10_method_21_code 87 = .ok (.iconst 0, 1) := by decide +kernel
theorem d_M_afterFreeze_88 : decode prog_10_method_21_code 88 = .ok (.invokevirtual 176, 3) := by decide +kernel
theorem d_M_afterFreeze_91 : decode prog_10_method_21_code 91 = .ok (.return_, 1) := by decide +kernel
theorem d_M_pivotOf_0 : decode prog_10_method_22_code 0 = .ok (.iconst 0, 1) := by decide +kernel
theorem d_M_pivotOf_1 : decode prog_10_method_22_code 1 = .ok (.istore_n 2, 1) := by decide +kernel
theorem d_M_pivotOf_2 : decode prog_10_method_22_code 2 = .ok (.iconst 0, 1) := by decide +kernel
theorem d_M_pivotOf_3 : decode prog_10_method_22_code 3 = .ok (.istore_n 3, 1) := by decide +kernel
theorem d_M_pivotOf_4 : decode prog_10_method_22_code 4 = .ok (.iconst 0, 1) := by decide +kernel
theorem d_M_pivotOf_5 : decode prog_10_method_22_code 5 = .ok (.istore 4, 2) := by decide +kernel
theorem d_M_pivotOf_7 : decode prog_10_method_22_code 7 = .ok (.iload 4, 2) := by decide +kernel
theorem d_M_pivotOf_9 : decode prog_10_method_22_code 9 = .ok (.bipush 8, 2) := by decide +kernel
theorem d_M_pivotOf_11 : decode prog_10_method_22_code 11 = .ok (.if_icmp .ge 147, 3) := by decide +kernel
theorem d_M_pivotOf_14 : decode prog_10_method_22_code 14 = .ok (.aload_n 0, 1) := by decide +kernel
theorem d_M_pivotOf_15 : decode prog_10_method_22_code 15 = .ok (.getfield 90, 3) := by decide +kernel
theorem d_M_pivotOf_18 : decode prog_10_method_22_code 18 = .ok (.iconst 4, 1) := by decide +kernel
theorem d_M_pivotOf_19 : decode prog_10_method_22_code 19 = .ok (.bipush 8, 2) := by decide +kernel
theorem d_M_pivotOf_21 : decode prog_10_method_22_code 21 = .ok (.iload_n 1, 1) := by decide +kernel
theorem d_M_pivotOf_22 : decode prog_10_method_22_code 22 = .ok (.imul, 1) := by decide +kernel
theorem d_M_pivotOf_23 : decode prog_10_method_22_code 23 = .ok (.iload 4, 2) := by decide +kernel
theorem d_M_pivotOf_25 : decode prog_10_method_22_code 25 = .ok (.iadd, 1) := by decide +kernel
theorem d_M_pivotOf_26 : decode prog_10_method_22_code 26 = .ok (.imul, 1) := by decide +kernel
theorem d_M_pivotOf_27 : decode prog_10_method_22_code 27 = .ok (.iconst 1, 1) := by decide +kernel
theorem d_M_pivotOf_28 : decode prog_10_method_22_code 28 = .ok (.iadd, 1) := by decide +kernel
theorem d_M_pivotOf_29 : decode prog_10_method_22_code 29 = .ok (.iaload, 1) := by decide +kernel
theorem d_M_pivotOf_30 : decode prog_10_method_22_code 30 = .ok (.istore 5, 2) := by decide +kernel
theorem d_M_pivotOf_32 : decode prog_10_method_22_code 32 = .ok (.iconst 0, 1) := by decide +kernel
theorem d_M_pivotOf_33 : decode prog_10_method_22_code 33 = .ok (.istore 6, 2) := by decide +kernel
theorem d_M_pivotOf_35 : decode prog_10_method_22_code 35 = .ok (.iconst 0, 1) := by decide +kernel
theorem d_M_pivotOf_36 : decode prog_10_method_22_code 36 = .ok (.istore 7, 2) := by decide +kernel
theorem d_M_pivotOf_38 : decode prog_10_method_22_code 38 = .ok (.iload 7, 2) := by decide +kernel
theorem d_M_pivotOf_40 : decode prog_10_method_22_code 40 = .ok (.bipush 8, 2) := by decide +kernel
theorem d_M_pivotOf_42 : decode prog_10_method_22_code 42 = .ok (.if_icmp .ge 53, 3) := by decide +kernel
theorem d_M_pivotOf_45 : decode prog_10_method_22_code 45 = .ok (.iload 6, 2) := by decide +kernel
theorem d_M_pivotOf_47 : decode prog_10_method_22_code 47 = .ok (.aload_n 0, 1) := by decide +kernel
theorem d_M_pivotOf_48 : decode prog_10_method_22_code 48 = .ok (.getfield 90, 3) := by decide +kernel
theorem d_M_pivotOf_51 : decode prog_10_method_22_code 51 = .ok (.iconst 4, 1) := by decide +kernel
theorem d_M_pivotOf_52 : decode prog_10_method_22_code 52 = .ok (.bipush 8, 2) := by decide +kernel
theorem d_M_pivotOf_54 : decode prog_10_method_22_code 54 = .ok (.iload_n 1, 1) := by decide +kernel
theorem d_M_pivotOf_55 : decode prog_10_method_22_code 55 = .ok (.imul, 1) := by decide +kernel
theorem d_M_pivotOf_56 : decode prog_10_method_22_code 56 = .ok (.iload 7, 2) := by decide +kernel
theorem d_M_pivotOf_58 : decode prog_10_method_22_code 58 = .ok (.iadd, 1) := by decide +kernel
theorem d_M_pivotOf_59 : decode prog_10_method_22_code 59 = .ok (.imul, 1) := by decide +kernel
theorem d_M_pivotOf_60 : decode prog_10_method_22_code 60 = .ok (.iconst 1, 1) := by decide +kernel
theorem d_M_pivotOf_61 : decode prog_10_method_22_code 61 = .ok (.iadd, 1) := by decide +kernel
theorem d_M_pivotOf_62 : decode prog_10_method_22_code 62 = .ok (.iaload, 1) := by decide +kernel
theorem d_M_pivotOf_63 : decode prog_10_method_22_code 63 = .ok (.iload 5, 2) := by decide +kernel
theorem d_M_pivotOf_65 : decode prog_10_method_22_code 65 = .ok (.if_icmp .gt 20, 3) := by decide +kernel
theorem d_M_pivotOf_68 : decode prog_10_method_22_code 68 = .ok (.aload_n 0, 1) := by decide +kernel
theorem d_M_pivotOf_69 : decode prog_10_method_22_code 69 = .ok (.getfield 90, 3) := by decide +kernel
theorem d_M_pivotOf_72 : decode prog_10_method_22_code 72 = .ok (.iconst 4, 1) := by decide +kernel
theorem d_M_pivotOf_73 : decode prog_10_method_22_code 73 = .ok (.bipush 8, 2) := by decide +kernel
theorem d_M_pivotOf_75 : decode prog_10_method_22_code 75 = .ok (.iload_n 1, 1) := by decide +kernel
theorem d_M_pivotOf_76 : decode prog_10_method_22_code 76 = .ok (.imul, 1) := by decide +kernel
theorem d_M_pivotOf_77 : decode prog_10_method_22_code 77 = .ok (.iload 7, 2) := by decide +kernel
theorem d_M_pivotOf_79 : decode prog_10_method_22_code 79 = .ok (.iadd, 1) := by decide +kernel
theorem d_M_pivotOf_80 : decode prog_10_method_22_code 80 = .ok (.imul, 1) := by decide +kernel
theorem d_M_pivotOf_81 : decode prog_10_method_22_code 81 = .ok (.iaload, 1) := by decide +kernel
theorem d_M_pivotOf_82 : decode prog_10_method_22_code 82 = .ok (.goto 4, 3) := by decide +kernel
theorem d_M_pivotOf_85 : decode prog_10_method_22_code 85 = .ok (.iconst 0, 1) := by decide +kernel
theorem d_M_pivotOf_86 : decode prog_10_method_22_code 86 = .ok (.iadd, 1) := by decide +kernel
theorem d_M_pivotOf_87 : decode prog_10_method_22_code 87 = .ok (.istore 6, 2) := by decide +kernel
theorem d_M_pivotOf_89 : decode prog_10_method_22_code 89 = .ok (.iinc 7 1, 3) := by decide +kernel
theorem d_M_pivotOf_92 : decode prog_10_method_22_code 92 = .ok (.goto (-54), 3) := by decide +kernel
theorem d_M_pivotOf_95 : decode prog_10_method_22_code 95 = .ok (.aload_n 0, 1) := by decide +kernel
theorem d_M_pivotOf_96 : decode prog_10_method_22_code 96 = .ok (.getfield 90, 3) := by decide +kernel
theorem d_M_pivotOf_99 : decode prog_10_method_22_code 99 = .ok (.iconst 4, 1) := by decide +kernel
theorem d_M_pivotOf_100 : decode prog_10_method_22_code 100 = .ok (.bipush 8, 2) := by decide +kernel
theorem d_M_pivotOf_102 : decode prog_10_method_22_code 102 = .ok (.iload_n 1, 1) := by decide +kernel
theorem d_M_pivotOf_103 : decode prog_10_method_22_code 103 = .ok (.imul, 1) := by decide +kernel
theorem d_M_pivotOf_104 : decode prog_10_method_22_code 104 = .ok (.iload 4, 2) := by decide +kernel
theorem d_M_pivotOf_106 : decode prog_10_method_22_code 106 = .ok (.iadd, 1) := by decide +kernel
theorem d_M_pivotOf_107 : decode prog_10_method_22_code 107 = .ok (.imul, 1) := by decide +kernel
theorem d_M_pivotOf_108 : decode prog_10_method_22_code 108 = .ok (.iaload, 1) := by decide +kernel
theorem d_M_pivotOf_109 : decode prog_10_method_22_code 109 = .ok (.ifCond .le 20, 3) := by decide +kernel
theorem d_M_pivotOf_112 : decode prog_10_method_22_code 112 = .ok (.iconst 2, 1) := by decide +kernel
theorem d_M_pivotOf_113 : decode prog_10_method_22_code 113 = .ok (.iload 6, 2) := by decide +kernel
theorem d_M_pivotOf_115 : decode prog_10_method_22_code 115 = .ok (.imul, 1) := by decide +kernel
theorem d_M_pivotOf_116 : decode prog_10_method_22_code 116 = .ok (.aload_n 0, 1) := by decide +kernel
theorem d_M_pivotOf_117 : decode prog_10_method_22_code 117 = .ok (.getfield 50, 3) := by decide +kernel
theorem d_M_pivotOf_120 : decode prog_10_method_22_code 120 = .ok (.iload_n 1, 1) := by decide +kernel
theorem d_M_pivotOf_121 : decode prog_10_method_22_code 121 = .ok (.iaload, 1) := by decide +kernel
theorem d_M_pivotOf_122 : decode prog_10_method_22_code 122 = .ok (.if_icmp .lt 7, 3) := by decide +kernel
theorem d_M_pivotOf_125 : decode prog_10_method_22_code 125 = .ok (.iconst 1, 1) := by decide +kernel
theorem d_M_pivotOf_126 : decode prog_10_method_22_code 126 = .ok (.goto 4, 3) := by decide +kernel
theorem d_M_pivotOf_129 : decode prog_10_method_22_code 129 = .ok (.iconst 0, 1) := by decide +kernel
theorem d_M_pivotOf_130 : decode prog_10_method_22_code 130 = .ok (.istore 7, 2) := by decide +kernel
theorem d_M_pivotOf_132 : decode prog_10_method_22_code 132 = .ok (.iload 7, 2) := by decide +kernel
theorem d_M_pivotOf_134 : decode prog_10_method_22_code 134 = .ok (.ifCond .eq 18, 3) := by decide +kernel
theorem d_M_pivotOf_137 : decode prog_10_method_22_code 137 = .ok (.iload_n 3, 1) := by decide +kernel
theorem d_M_pivotOf_138 : decode prog_10_method_22_code 138 = .ok (.ifCond .eq 9, 3) := by decide +kernel
theorem d_M_pivotOf_141 : decode prog_10_method_22_code 141 = .ok (.iload 5, 2) := by decide +kernel
theorem d_M_pivotOf_143 : decode prog_10_method_22_code 143 = .ok (.iload_n 2, 1) := by decide +kernel
theorem d_M_pivotOf_144 : decode prog_10_method_22_code 144 = .ok (.if_icmp .ge 8, 3) := by decide +kernel
theorem d_M_pivotOf_147 : decode prog_10_method_22_code 147 = .ok (.iload 5, 2) := by decide +kernel
theorem d_M_pivotOf_149 : decode prog_10_method_22_code 149 = .ok (.istore_n 2, 1) := by decide +kernel
theorem d_M_pivotOf_150 : decode prog_10_method_22_code 150 = .ok (.iconst 1, 1) := by decide +kernel
theorem d_M_pivotOf_151 : decode prog_10_method_22_code 151 = .ok (.istore_n 3, 1) := by decide +kernel
theorem d_M_pivotOf_152 : decode prog_10_method_22_code 152 = .ok (.iinc 4 1, 3) := by decide +kernel
theorem d_M_pivotOf_155 : decode prog_10_method_22_code 155 = .ok (.goto (-148), 3) := by decide +kernel
theorem d_M_pivotOf_158 : decode prog_10_method_22_code 158 = .ok (.iload_n 2, 1) := by decide +kernel
theorem d_M_pivotOf_159 : decode prog_10_method_22_code 159 = .ok (.ireturn, 1) := by decide +kernel
theorem d_M_afterSplit_0 : decode prog_10_method_23_code 0 = .ok (.aload_n 0, 1) := by decide +kernel
theorem d_M_afterSplit_1 : decode prog_10_method_23_code 1 = .ok (.getfield 50, 3) := by decide +kernel
theorem d_M_afterSplit_4 : decode prog_10_method_23_code 4 = .ok (.iload_n 1, 1) := by decide +kernel
theorem d_M_afterSplit_5 : decode prog_10_method_23_code 5 = .ok (.aload_n 0, 1) := by decide +kernel
theorem d_M_afterSplit_6 : decode prog_10_method_23_code 6 = .ok (.iload_n 1, 1) := by decide +kernel
theorem d_M_afterSplit_7 : decode prog_10_method_23_code 7 = .ok (.iconst 0, 1) := by decide +kernel
theorem d_M_afterSplit_8 : decode prog_10_method_23_code 8 = .ok (.invokevirtual 172, 3) := by decide +kernel
theorem d_M_afterSplit_11 : decode prog_10_method_23_code 11 = .ok (.iastore, 1) := by decide +kernel
theorem d_M_afterSplit_12 : decode prog_10_method_23_code 12 = .ok (.aload_n 0, 1) := by decide +kernel
theorem d_M_afterSplit_13 : decode prog_10_method_23_code 13 = .ok (.getfield 50, 3) := by decide +kernel
theorem d_M_afterSplit_16 : decode prog_10_method_23_code 16 = .ok (.iload_n 1, 1) := by decide +kernel
theorem d_M_afterSplit_17 : decode prog_10_method_23_code 17 = .ok (.iaload, 1) := by decide +kernel
theorem d_M_afterSplit_18 : decode prog_10_method_23_code 18 = .ok (.bipush 64, 2) := by decide +kernel
theorem d_M_afterSplit_20 : decode prog_10_method_23_code 20 = .ok (.if_icmp .gt 13, 3) := by decide +kernel
theorem d_M_afterSplit_23 : decode prog_10_method_23_code 23 = .ok (.aload_n 0, 1) := by decide +kernel
theorem d_M_afterSplit_24 : decode prog_10_method_23_code 24 = .ok (.iload_n 1, 1) := by decide +kernel
theorem d_M_afterSplit_25 : decode prog_10_method_23_code 25 = .ok (.bipush 7, 2) := by decide +kernel
theorem d_M_afterSplit_27 : decode prog_10_method_23_code 27 = .ok (.invokevirtual 168, 3) := by decide +kernel
theorem d_M_afterSplit_30 : decode prog_10_method_23_code 30 = .ok (.goto 20, 3) := by decide +kernel
theorem d_M_afterSplit_33 : decode prog_10_method_23_code 33 = .ok (.aload_n 0, 1) := by decide +kernel
theorem d_M_afterSplit_34 : decode prog_10_method_23_code 34 = .ok (.getfield 74, 3) := by decide +kernel
theorem d_M_afterSplit_37 : decode prog_10_method_23_code 37 = .ok (.iload_n 1, 1) := by decide +kernel
theorem d_M_afterSplit_38 : decode prog_10_method_23_code 38 = .ok (.aload_n 0, 1) := by decide +kernel
theorem d_M_afterSplit_39 : decode prog_10_method_23_code 39 = .ok (.iload_n 1, 1) := by decide +kernel
theorem d_M_afterSplit_40 : decode prog_10_method_23_code 40 = .ok (.invokevirtual 180, 3) := by decide +kernel
theorem d_M_afterSplit_43 : decode prog_10_method_23_code 43 = .ok (.iastore, 1) := by decide +kernel
theorem d_M_afterSplit_44 : decode prog_10_method_23_code 44 = .ok (.aload_n 0, 1) := by decide +kernel
theorem d_M_afterSplit_45 : decode prog_10_method_23_code 45 = .ok (.iload_n 1, 1) := by decide +kernel
theorem d_M_afterSplit_46 : decode prog_10_method_23_code 46 = .ok (.iconst 5, 1) := by decide +kernel
theorem d_M_afterSplit_47 : decode prog_10_method_23_code 47 = .ok (.invokevirtual 168, 3) := by decide +kernel
theorem d_M_afterSplit_50 : decode prog_10_method_23_code 50 = .ok (.return_, 1) := by decide +kernel
theorem d_M_afterCut_0 : decode prog_10_method_24_code 0 = .ok (.aload_n 0, 1) := by decide +kernel
theorem d_M_afterCut_1 : decode prog_10_method_24_code 1 = .ok (.iload_n 1, 1) := by decide +kernel
theorem d_M_afterCut_2 : decode prog_10_method_24_code 2 = .ok (.iconst 0, 1) := by decide +kernel
theorem d_M_afterCut_3 : decode prog_10_method_24_code 3 = .ok (.invokevirtual 172, 3) := by decide +kernel
theorem d_M_afterCut_6 : decode prog_10_method_24_code 6 = .ok (.istore_n 2, 1) := by decide +kernel
theorem d_M_afterCut_7 : decode prog_10_method_24_code 7 = .ok (.aload_n 0, 1) := by decide +kernel
theorem d_M_afterCut_8 : decode prog_10_method_24_code 8 = .ok (.iload_n 1, 1) := by decide +kernel
theorem d_M_afterCut_9 : decode prog_10_method_24_code 9 = .ok (.iconst 1, 1) := by decide +kernel
theorem d_M_afterCut_10 : decode prog_10_method_24_code 10 = .ok (.invokevirtual 172, 3) := by decide +kernel
theorem d_M_afterCut_13 : decode prog_10_method_24_code 13 = .ok (.istore_n 3, 1) := by decide +kernel
theorem d_M_afterCut_14 : decode prog_10_method_24_code 14 = .ok (.aload_n 0, 1) := by decide +kernel
theorem d_M_afterCut_15 : decode prog_10_method_24_code 15 = .ok (.getfield 68, 3) := by decide +kernel
theorem d_M_afterCut_18 : decode prog_10_method_24_code 18 = .ok (.iload_n 1, 1) := by decide +kernel
theorem d_M_afterCut_19 : decode prog_10_method_24_code 19 = .ok (.iaload, 1) := by decide +kernel
theorem d_M_afterCut_20 : decode prog_10_method_24_code 20 = .ok (.aload_n 0, 1) := by decide +kernel
theorem d_M_afterCut_21 : decode prog_10_method_24_code 21 = .ok (.getfield 65, 3) := by decide +kernel
theorem d_M_afterCut_24 : decode prog_10_method_24_code 24 = .ok (.iload_n 1, 1) := by decide +kernel
theorem d_M_afterCut_25 : decode prog_10_method_24_code 25 = .ok (.iaload, 1) := by decide +kernel
theorem d_M_afterCut_26 : decode prog_10_method_24_code 26 = .ok (.isub, 1) := by decide +kernel
theorem d_M_afterCut_27 : decode prog_10_method_24_code 27 = .ok (.istore 4, 2) := by decide +kernel
theorem d_M_afterCut_29 : decode prog_10_method_24_code 29 = .ok (.aload_n 0, 1) := by decide +kernel
theorem d_M_afterCut_30 : decode prog_10_method_24_code 30 = .ok (.getfield 44, 3) := by decide +kernel
theorem d_M_afterCut_33 : decode prog_10_method_24_code 33 = .ok (.iload_n 1, 1) := by decide +kernel
theorem d_M_afterCut_34 : decode prog_10_method_24_code 34 = .ok (.dup2, 1) := by decide +kernel
theorem d_M_afterCut_35 : decode prog_10_method_24_code 35 = .ok (.iaload, 1) := by decide +kernel
theorem d_M_afterCut_36 : decode prog_10_method_24_code 36 = .ok (.iconst 1, 1) := by decide +kernel
theorem d_M_afterCut_37 : decode prog_10_method_24_code 37 = .ok (.iadd, 1) := by decide +kernel
theorem d_M_afterCut_38 : decode prog_10_method_24_code 38 = .ok (.iastore, 1) := by decide +kernel
theorem d_M_afterCut_39 : decode prog_10_method_24_code 39 = .ok (.iload 4, 2) := by decide +kernel
theorem d_M_afterCut_41 : decode prog_10_method_24_code 41 = .ok (.iload_n 2, 1) := by decide +kernel
theorem d_M_afterCut_42 : decode prog_10_method_24_code 42 = .ok (.if_icmp .gt 33, 3) := by decide +kernel
theorem d_M_afterCut_45 : decode prog_10_method_24_code 45 = .ok (.aload_n 0, 1) := by decide +kernel
theorem d_M_afterCut_46 : decode prog_10_method_24_code 46 = .ok (.getfield 62, 3) := by decide +kernel
theorem d_M_afterCut_49 : decode prog_10_method_24_code 49 = .ok (.iload_n 1, 1) := by decide +kernel
theorem d_M_afterCut_50 : decode prog_10_method_24_code 50 = .ok (.aload_n 0, 1) := by decide +kernel
theorem d_M_afterCut_51 : decode prog_10_method_24_code 51 = .ok (.getfield 74, 3) := by decide +kernel
theorem d_M_afterCut_54 : decode prog_10_method_24_code 54 = .ok (.iload_n 1, 1) := by decide +kernel
theorem d_M_afterCut_55 : decode prog_10_method_24_code 55 = .ok (.iaload, 1) := by decide +kernel
theorem d_M_afterCut_56 : decode prog_10_method_24_code 56 = .ok (.iconst 1, 1) := by decide +kernel
theorem d_M_afterCut_57 : decode prog_10_method_24_code 57 = .ok (.isub, 1) := by decide +kernel
theorem d_M_afterCut_58 : decode prog_10_method_24_code 58 = .ok (.iastore, 1) := by decide +kernel
theorem d_M_afterCut_59 : decode prog_10_method_24_code 59 = .ok (.aload_n 0, 1) := by decide +kernel
theorem d_M_afterCut_60 : decode prog_10_method_24_code 60 = .ok (.getfield 50, 3) := by decide +kernel
theorem d_M_afterCut_63 : decode prog_10_method_24_code 63 = .ok (.iload_n 1, 1) := by decide +kernel
theorem d_M_afterCut_64 : decode prog_10_method_24_code 64 = .ok (.iload_n 2, 1) := by decide +kernel
theorem d_M_afterCut_65 : decode prog_10_method_24_code 65 = .ok (.iastore, 1) := by decide +kernel
theorem d_M_afterCut_66 : decode prog_10_method_24_code 66 = .ok (.aload_n 0, 1) := by decide +kernel
theorem d_M_afterCut_67 : decode prog_10_method_24_code 67 = .ok (.iload_n 1, 1) := by decide +kernel
theorem d_M_afterCut_68 : decode prog_10_method_24_code 68 = .ok (.iconst 3, 1) := by decide +kernel
theorem d_M_afterCut_69 : decode prog_10_method_24_code 69 = .ok (.invokevirtual 168, 3) := by decide +kernel
theorem d_M_afterCut_72 : decode prog_10_method_24_code 72 = .ok (.goto 77, 3) := by decide +kernel
theorem d_M_afterCut_75 : decode prog_10_method_24_code 75 = .ok (.iload 4, 2) := by decide +kernel
theorem d_M_afterCut_77 : decode prog_10_method_24_code 77 = .ok (.iload_n 2, 1) := by decide +kernel
theorem d_M_afterCut_78 : decode prog_10_method_24_code 78 = .ok (.iload_n 3, 1) := by decide +kernel
theorem d_M_afterCut_79 : decode prog_10_method_24_code 79 = .ok (.iadd, 1) := by decide +kernel
theorem d_M_afterCut_80 : decode prog_10_method_24_code 80 = .ok (.if_icmp .gt 17, 3) := by decide +kernel
theorem d_M_afterCut_83 : decode prog_10_method_24_code 83 = .ok (.aload_n 0, 1) := by decide +kernel
theorem d_M_afterCut_84 : decode prog_10_method_24_code 84 = .ok (.iload_n 1, 1) := by decide +kernel
theorem d_M_afterCut_85 : decode prog_10_method_24_code 85 = .ok (.aload_n 0, 1) := by decide +kernel
theorem d_M_afterCut_86 : decode prog_10_method_24_code 86 = .ok (.getfield 74, 3) := by decide +kernel
theorem d_M_afterCut_89 : decode prog_10_method_24_code 89 = .ok (.iload_n 1, 1) := by decide +kernel
theorem d_M_afterCut_90 : decode prog_10_method_24_code 90 = .ok (.iaload, 1) := by decide +kernel
theorem d_M_afterCut_91 : decode prog_10_method_24_code 91 = .ok (.invokevirtual 183, 3) := by decide +kernel
theorem d_M_afterCut_94 : decode prog_10_method_24_code 94 = .ok (.goto 55, 3) := by decide +kernel
theorem d_M_afterCut_97 : decode prog_10_method_24_code 97 = .ok (.aload_n 0, 1) := by decide +kernel
theorem d_M_afterCut_98 : decode prog_10_method_24_code 98 = .ok (.getfield 59, 3) := by decide +kernel
theorem d_M_afterCut_101 : decode prog_10_method_24_code 101 = .ok (.iload_n 1, 1) := by decide +kernel
theorem d_M_afterCut_102 : decode prog_10_method_24_code 102 = .ok (.aload_n 0, 1) := by decide +kernel
theorem d_M_afterCut_103 : decode prog_10_method_24_code 103 = .ok (.getfield 74, 3) := by decide +kernel
theorem d_M_afterCut_106 : decode prog_10_method_24_code 106 = .ok (.iload_n 1, 1) := by decide +kernel
theorem d_M_afterCut_107 : decode prog_10_method_24_code 107 = .ok (.iaload, 1) := by decide +kernel
theorem d_M_afterCut_108 : decode prog_10_method_24_code 108 = .ok (.iconst 1, 1) := by decide +kernel
theorem d_M_afterCut_109 : decode prog_10_method_24_code 109 = .ok (.iadd, 1) := by decide +kernel
theorem d_M_afterCut_110 : decode prog_10_method_24_code 110 = .ok (.iastore, 1) := by decide +kernel
theorem d_M_afterCut_111 : decode prog_10_method_24_code 111 = .ok (.aload_n 0, 1) := by decide +kernel
theorem d_M_afterCut_112 : decode prog_10_method_24_code 112 = .ok (.getfield 65, 3) := by decide +kernel
theorem d_M_afterCut_115 : decode prog_10_method_24_code 115 = .ok (.iload_n 1, 1) := by decide +kernel
theorem d_M_afterCut_116 : decode prog_10_method_24_code 116 = .ok (.aload_n 0, 1) := by decide +kernel
theorem d_M_afterCut_117 : decode prog_10_method_24_code 117 = .ok (.getfield 65, 3) := by decide +kernel
theorem d_M_afterCut_120 : decode prog_10_method_24_code 120 = .ok (.iload_n 1, 1) := by decide +kernel
theorem d_M_afterCut_121 : decode prog_10_method_24_code 121 = .ok (.iaload, 1) := by decide +kernel
theorem d_M_afterCut_122 : decode prog_10_method_24_code 122 = .ok (.iload_n 2, 1) := by decide +kernel
theorem d_M_afterCut_123 : decode prog_10_method_24_code 123 = .ok (.iadd, 1) := by decide +kernel
theorem d_M_afterCut_124 : decode prog_10_method_24_code 124 = .ok (.iload_n 3, 1) := by decide +kernel
theorem d_M_afterCut_125 : decode prog_10_method_24_code 125 = .ok (.iadd, 1) := by decide +kernel
theorem d_M_afterCut_126 : decode prog_10_method_24_code 126 = .ok (.iastore, 1) := by decide +kernel
theorem d_M_afterCut_127 : decode prog_10_method_24_code 127 = .ok (.aload_n 0, 1) := by decide +kernel
theorem d_M_afterCut_128 : decode prog_10_method_24_code 128 = .ok (.getfield 50, 3) := by decide +kernel
theorem d_M_afterCut_131 : decode prog_10_method_24_code 131 = .ok (.iload_n 1, 1) := by decide +kernel
theorem d_M_afterCut_132 : decode prog_10_method_24_code 132 = .ok (.aload_n 0, 1) := by decide +kernel
theorem d_M_afterCut_133 : decode prog_10_method_24_code 133 = .ok (.getfield 50, 3) := by decide +kernel
theorem d_M_afterCut_136 : decode prog_10_method_24_code 136 = .ok (.iload_n 1, 1) := by decide +kernel
theorem d_M_afterCut_137 : decode prog_10_method_24_code 137 = .ok (.iaload, 1) := by decide +kernel
theorem d_M_afterCut_138 : decode prog_10_method_24_code 138 = .ok (.iload_n 2, 1) := by decide +kernel
theorem d_M_afterCut_139 : decode prog_10_method_24_code 139 = .ok (.isub, 1) := by decide +kernel
theorem d_M_afterCut_140 : decode prog_10_method_24_code 140 = .ok (.iload_n 3, 1) := by decide +kernel
theorem d_M_afterCut_141 : decode prog_10_method_24_code 141 = .ok (.isub, 1) := by decide +kernel
theorem d_M_afterCut_142 : decode prog_10_method_24_code 142 = .ok (.iastore, 1) := by decide +kernel
theorem d_M_afterCut_143 : decode prog_10_method_24_code 143 = .ok (.aload_n 0, 1) := by decide +kernel
theorem d_M_afterCut_144 : decode prog_10_method_24_code 144 = .ok (.iload_n 1, 1) := by decide +kernel
theorem d_M_afterCut_145 : decode prog_10_method_24_code 145 = .ok (.iconst 3, 1) := by decide +kernel
theorem d_M_afterCut_146 : decode prog_10_method_24_code 146 = .ok (.invokevirtual 168, 3) := by decide +kernel
theorem d_M_afterCut_149 : decode prog_10_method_24_code 149 = .ok (.return_, 1) := by decide +kernel
theorem d_M_givenUpTo_0 : decode prog_10_method_25_code 0 = .ok (.iconst 0, 1) := by decide +kernel
theorem d_M_givenUpTo_1 : decode prog_10_method_25_code 1 = .ok (.istore 4, 2) := by decide +kernel
theorem d_M_givenUpTo_3 : decode prog_10_method_25_code 3 = .ok (.iconst 0, 1) := by decide +kernel
theorem d_M_givenUpTo_4 : decode prog_10_method_25_code 4 = .ok (.istore 5, 2) := by decide +kernel
theorem d_M_givenUpTo_6 : decode prog_10_method_25_code 6 = .ok (.iload 5, 2) := by decide +kernel
theorem d_M_givenUpTo_8 : decode prog_10_method_25_code 8 = .ok (.bipush 8, 2) := by decide +kernel
theorem d_M_givenUpTo_10 : decode prog_10_method_25_code 10 = .ok (.if_icmp .ge 68, 3) := by decide +kernel
theorem d_M_givenUpTo_13 : decode prog_10_method_25_code 13 = .ok (.bipush 8, 2) := by decide +kernel
theorem d_M_givenUpTo_15 : decode prog_10_method_25_code 15 = .ok (.iload_n 1, 1) := by decide +kernel
theorem d_M_givenUpTo_16 : decode prog_10_method_25_code 16 = .ok (.imul, 1) := by decide +kernel
theorem d_M_givenUpTo_17 : decode prog_10_method_25_code 17 = .ok (.iload 5, 2) := by decide +kernel
theorem d_M_givenUpTo_19 : decode prog_10_method_25_code 19 = .ok (.iadd, 1) := by decide +kernel
theorem d_M_givenUpTo_20 : decode prog_10_method_25_code 20 = .ok (.istore 6, 2) := by decide +kernel
theorem d_M_givenUpTo_22 : decode prog_10_method_25_code 22 = .ok (.iconst 0, 1) := by decide +kernel
theorem d_M_givenUpTo_23 : decode prog_10_method_25_code 23 = .ok (.istore 7, 2) := by decide +kernel
theorem d_M_givenUpTo_25 : decode prog_10_method_25_code 25 = .ok (.iload 7, 2) := by decide +kernel
theorem d_M_givenUpTo_27 : decode prog_10_method_25_code 27 = .ok (.aload_n 0, 1) := by decide +kernel
theorem d_M_givenUpTo_28 : decode prog_10_method_25_code 28 = .ok (.getfield 96, 3) := by decide +kernel
theorem d_M_givenUpTo_31 : decode prog_10_method_25_code 31 = .ok (.iload 6, 2) := by decide +kernel
theorem d_M_givenUpTo_33 : decode prog_10_method_25_code 33 = .ok (.iaload, 1) := by decide +kernel
theorem d_M_givenUpTo_34 : decode prog_10_method_25_code 34 = .ok (.if_icmp .ge 38, 3) := by decide +kernel
theorem d_M_givenUpTo_37 : decode prog_10_method_25_code 37 = .ok (.iload 4, 2) := by decide +kernel
theorem d_M_givenUpTo_39 : decode prog_10_method_25_code 39 = .ok (.aload_n 0, 1) := by decide +kernel
theorem d_M_givenUpTo_40 : decode prog_10_method_25_code 40 = .ok (.getfield 99, 3) := by decide +kernel
theorem d_M_givenUpTo_43 : decode prog_10_method_25_code 43 = .ok (.bipush 64, 2) := by decide +kernel
theorem d_M_givenUpTo_45 : decode prog_10_method_25_code 45 = .ok (.iload 6, 2) := by decide +kernel
theorem d_M_givenUpTo_47 : decode prog_10_method_25_code 47 = .ok (.imul, 1) := by decide +kernel
theorem d_M_givenUpTo_48 : decode prog_10_method_25_code 48 = .ok (.iload 7, 2) := by decide +kernel
theorem d_M_givenUpTo_50 : decode prog_10_method_25_code 50 = .ok (.iadd, 1) := by decide +kernel
theorem d_M_givenUpTo_51 : decode prog_10_method_25_code 51 = .ok (.iaload, 1) := by decide +kernel
theorem d_M_givenUpTo_52 : decode prog_10_method_25_code 52 = .ok (.i2l, 1) := by decide +kernel
theorem d_M_givenUpTo_53 : decode prog_10_method_25_code 53 = .ok (.lload_n 2, 1) := by decide +kernel
theorem d_M_givenUpTo_54 : decode prog_10_method_25_code 54 = .ok (.lcmp, 1) := by decide +kernel
theorem d_M_givenUpTo_55 : decode prog_10_method_25_code 55 = .ok (.ifCond .gt 7, 3) := by decide +kernel
theorem d_M_givenUpTo_58 : decode prog_10_method_25_code 58 = .ok (.iconst 1, 1) := by decide +kernel
theorem d_M_givenUpTo_59 : decode prog_10_method_25_code 59 = .ok (.goto 4, 3) := by decide +kernel
theorem d_M_givenUpTo_62 : decode prog_10_method_25_code 62 = .ok (.iconst 0, 1) := by decide +kernel
theorem d_M_givenUpTo_63 : decode prog_10_method_25_code 63 = .ok (.iadd, 1) := by decide +kernel
theorem d_M_givenUpTo_64 : decode prog_10_method_25_code 64 = .ok (.istore 4, 2) := by decide +kernel
theorem d_M_givenUpTo_66 : decode prog_10_method_25_code 66 = .ok (.iinc 7 1, 3) := by decide +kernel
theorem d_M_givenUpTo_69 : decode prog_10_method_25_code 69 = .ok (.goto (-44), 3) := by decide +kernel
theorem d_M_givenUpTo_72 : decode prog_10_method_25_code 72 = .ok (.iinc 5 1, 3) := by decide +kernel
theorem d_M_givenUpTo_75 : decode prog_10_method_25_code 75 = .ok (.goto (-69), 3) := by decide +kernel
theorem d_M_givenUpTo_78 : decode prog_10_method_25_code 78 = .ok (.iload 4, 2) := by decide +kernel
theorem d_M_givenUpTo_80 : decode prog_10_method_25_code 80 = .ok (.ireturn, 1) := by decide +kernel
theorem d_M_afterGive_0 : decode prog_10_method_26_code 0 = .ok (.aload_n 0, 1) := by decide +kernel
theorem d_M_afterGive_1 : decode prog_10_method_26_code 1 = .ok (.getfield 68, 3) := by decide +kernel
theorem d_M_afterGive_4 : decode prog_10_method_26_code 4 = .ok (.iload_n 1, 1) := by decide +kernel
theorem d_M_afterGive_5 : decode prog_10_method_26_code 5 = .ok (.iaload, 1) := by decide +kernel
theorem d_M_afterGive_6 : decode prog_10_method_26_code 6 = .ok (.aload_n 0, 1) := by decide +kernel
theorem d_M_afterGive_7 : decode prog_10_method_26_code 7 = .ok (.getfield 65, 3) := by decide +kernel
theorem d_M_afterGive_10 : decode prog_10_method_26_code 10 = .ok (.iload_n 1, 1) := by decide +kernel
theorem d_M_afterGive_11 : decode prog_10_method_26_code 11 = .ok (.iaload, 1) := by decide +kernel
theorem d_M_afterGive_12 : decode prog_10_method_26_code 12 = .ok (.isub, 1) := by decide +kernel
theorem d_M_afterGive_13 : decode prog_10_method_26_code 13 = .ok (.istore_n 2, 1) := by decide +kernel
theorem d_M_afterGive_14 : decode prog_10_method_26_code 14 = .ok (.iconst 0, 1) := by decide +kernel
theorem d_M_afterGive_15 : decode prog_10_method_26_code 15 = .ok (.istore_n 3, 1) := by decide +kernel
theorem d_M_afterGive_16 : decode prog_10_method_26_code 16 = .ok (.iconst 0, 1) := by decide +kernel
theorem d_M_afterGive_17 : decode prog_10_method_26_code 17 = .ok (.istore 4, 2) := by decide +kernel
theorem d_M_afterGive_19 : decode prog_10_method_26_code 19 = .ok (.iload 4, 2) := by decide +kernel
theorem d_M_afterGive_21 : decode prog_10_method_26_code 21 = .ok (.bipush 8, 2) := by decide +kernel
theorem d_M_afterGive_23 : decode prog_10_method_26_code 23 = .ok (.if_icmp .ge 87, 3) := by decide +kernel
theorem d_M_afterGive_26 : decode prog_10_method_26_code 26 = .ok (.bipush 8, 2) := by decide +kernel
theorem d_M_afterGive_28 : decode prog_10_method_26_code 28 = .ok (.iload_n 1, 1) := by decide +kernel
theorem d_M_afterGive_29 : decode prog_10_method_26_code 29 = .ok (.imul, 1) := by decide +kernel
theorem d_M_afterGive_30 : decode prog_10_method_26_code 30 = .ok (.iload 4, 2) := by decide +kernel
theorem d_M_afterGive_32 : decode prog_10_method_26_code 32 = .ok (.iadd, 1) := by decide +kernel
theorem d_M_afterGive_33 : decode prog_10_method_26_code 33 = .ok (.istore 5, 2) := by decide +kernel
theorem d_M_afterGive_35 : decode prog_10_method_26_code 35 = .ok (.iconst 0, 1) := by decide +kernel
theorem d_M_afterGive_36 : decode prog_10_method_26_code 36 = .ok (.istore 6, 2) := by decide +kernel
theorem d_M_afterGive_38 : decode prog_10_method_26_code 38 = .ok (.iload 6, 2) := by decide +kernel
theorem d_M_afterGive_40 : decode prog_10_method_26_code 40 = .ok (.aload_n 0, 1) := by decide +kernel
theorem d_M_afterGive_41 : decode prog_10_method_26_code 41 = .ok (.getfield 96, 3) := by decide +kernel
theorem d_M_afterGive_44 : decode prog_10_method_26_code 44 = .ok (.iload 5, 2) := by decide +kernel
theorem d_M_afterGive_46 : decode prog_10_method_26_code 46 = .ok (.iaload, 1) := by decide +kernel
theorem d_M_afterGive_47 : decode prog_10_method_26_code 47 = .ok (.if_icmp .ge 57, 3) := by decide +kernel
theorem d_M_afterGive_50 : decode prog_10_method_26_code 50 = .ok (.aload_n 0, 1) := by decide +kernel
theorem d_M_afterGive_51 : decode prog_10_method_26_code 51 = .ok (.getfield 99, 3) := by decide +kernel
theorem d_M_afterGive_54 : decode prog_10_method_26_code 54 = .ok (.bipush 64, 2) := by decide +kernel
theorem d_M_afterGive_56 : decode prog_10_method_26_code 56 = .ok (.iload 5, 2) := by decide +kernel
theorem d_M_afterGive_58 : decode prog_10_method_26_code 58 = .ok (.imul, 1) := by decide +kernel
theorem d_M_afterGive_59 : decode prog_10_method_26_code 59 = .ok (.iload 6, 2) := by decide +kernel
theorem d_M_afterGive_61 : decode prog_10_method_26_code 61 = .ok (.iadd, 1) := by decide +kernel
theorem d_M_afterGive_62 : decode prog_10_method_26_code 62 = .ok (.iaload, 1) := by decide +kernel
theorem d_M_afterGive_63 : decode prog_10_method_26_code 63 = .ok (.istore 7, 2) := by decide +kernel
theorem d_M_afterGive_65 : decode prog_10_method_26_code 65 = .ok (.aload_n 0, 1) := by decide +kernel
theorem d_M_afterGive_66 : decode prog_10_method_26_code 66 = .ok (.iload_n 1, 1) := by decide +kernel
theorem d_M_afterGive_67 : decode prog_10_method_26_code 67 = .ok (.iload 7, 2) := by decide +kernel
theorem d_M_afterGive_69 : decode prog_10_method_26_code 69 = .ok (.i2l, 1) := by decide +kernel
theorem d_M_afterGive_70 : decode prog_10_method_26_code 70 = .ok (.lconst 1, 1) := by decide +kernel
theorem d_M_afterGive_71 : decode prog_10_method_26_code 71 = .ok (.lsub, 1) := by decide +kernel
theorem d_M_afterGive_72 : decode prog_10_method_26_code 72 = .ok (.invokevirtual 186, 3) := by decide +kernel
theorem d_M_afterGive_75 : decode prog_10_method_26_code 75 = .ok (.iload_n 2, 1) := by decide +kernel
theorem d_M_afterGive_76 : decode prog_10_method_26_code 76 = .ok (.if_icmp .ge 20, 3) := by decide +kernel
theorem d_M_afterGive_79 : decode prog_10_method_26_code 79 = .ok (.aload_n 0, 1) := by decide +kernel
theorem d_M_afterGive_80 : decode prog_10_method_26_code 80 = .ok (.iload_n 1, 1) := by decide +kernel
theorem d_M_afterGive_81 : decode prog_10_method_26_code 81 = .ok (.iload 7, 2) := by decide +kernel
theorem d_M_afterGive_83 : decode prog_10_method_26_code 83 = .ok (.i2l, 1) := by decide +kernel
theorem d_M_afterGive_84 : decode prog_10_method_26_code 84 = .ok (.invokevirtual 186, 3) := by decide +kernel
theorem d_M_afterGive_87 : decode prog_10_method_26_code 87 = .ok (.iload_n 2, 1) := by decide +kernel
theorem d_M_afterGive_88 : decode prog_10_method_26_code 88 = .ok (.if_icmp .lt 8, 3) := by decide +kernel
theorem d_M_afterGive_91 : decode prog_10_method_26_code 91 = .ok (.iload 7, 2) := by decide +kernel
theorem d_M_afterGive_93 : decode prog_10_method_26_code 93 = .ok (.goto 4, 3) := by decide +kernel
theorem d_M_afterGive_96 : decode prog_10_method_26_code 96 = .ok (.iload_n 3, 1) := by decide +kernel
theorem d_M_afterGive_97 : decode prog_10_method_26_code 97 = .ok (.istore_n 3, 1) := by decide +kernel
theorem d_M_afterGive_98 : decode prog_10_method_26_code 98 = .ok (.iinc 6 1, 3) := by decide +kernel
theorem d_M_afterGive_101 : decode prog_10_method_26_code 101 = .ok (.goto (-63), 3) := by decide +kernel
theorem d_M_afterGive_104 : decode prog_10_method_26_code 104 = .ok (.iinc 4 1, 3) := by decide +kernel
theorem d_M_afterGive_107 : decode prog_10_method_26_code 107 = .ok (.goto (-88), 3) := by decide +kernel
theorem d_M_afterGive_110 : decode prog_10_method_26_code 110 = .ok (.aload_n 0, 1) := by decide +kernel
theorem d_M_afterGive_111 : decode prog_10_method_26_code 111 = .ok (.iload_n 1, 1) := by decide +kernel
theorem d_M_afterGive_112 : decode prog_10_method_26_code 112 = .ok (.iload_n 3, 1) := by decide +kernel
theorem d_M_afterGive_113 : decode prog_10_method_26_code 113 = .ok (.invokevirtual 183, 3) := by decide +kernel
theorem d_M_afterGive_116 : decode prog_10_method_26_code 116 = .ok (.return_, 1) := by decide +kernel
theorem d_M_isFound_0 : decode prog_10_method_27_code 0 = .ok (.aload_n 0, 1) := by decide +kernel
theorem d_M_isFound_1 : decode prog_10_method_27_code 1 = .ok (.getfield 71, 3) := by decide +kernel
theorem d_M_isFound_4 : decode prog_10_method_27_code 4 = .ok (.iload_n 1, 1) := by decide +kernel
theorem d_M_isFound_5 : decode prog_10_method_27_code 5 = .ok (.baload, 1) := by decide +kernel
theorem d_M_isFound_6 : decode prog_10_method_27_code 6 = .ok (.ifCond .eq 13, 3) := by decide +kernel
theorem d_M_isFound_9 : decode prog_10_method_27_code 9 = .ok (.aload_n 0, 1) := by decide +kernel
theorem d_M_isFound_10 : decode prog_10_method_27_code 10 = .ok (.getfield 80, 3) := by decide +kernel
theorem d_M_isFound_13 : decode prog_10_method_27_code 13 = .ok (.iload_n 1, 1) := by decide +kernel
theorem d_M_isFound_14 : decode prog_10_method_27_code 14 = .ok (.iload_n 2, 1) := by decide +kernel
theorem d_M_isFound_15 : decode prog_10_method_27_code 15 = .ok (.iastore, 1) := by decide +kernel
theorem d_M_isFound_16 : decode prog_10_method_27_code 16 = .ok (.goto 10, 3) := by decide +kernel
theorem d_M_isFound_19 : decode prog_10_method_27_code 19 = .ok (.aload_n 0, 1) := by decide +kernel
theorem d_M_isFound_20 : decode prog_10_method_27_code 20 = .ok (.getfield 77, 3) := by decide +kernel
theorem d_M_isFound_23 : decode prog_10_method_27_code 23 = .ok (.iload_n 1, 1) := by decide +kernel
theorem d_M_isFound_24 : decode prog_10_method_27_code 24 = .ok (.iload_n 2, 1) := by decide +kernel
theorem d_M_isFound_25 : decode prog_10_method_27_code 25 = .ok (.iastore, 1) := by decide +kernel
theorem d_M_isFound_26 : decode prog_10_method_27_code 26 = .ok (.aload_n 0, 1) := by decide +kernel
theorem d_M_isFound_27 : decode prog_10_method_27_code 27 = .ok (.getfield 23, 3) := by decide +kernel
theorem d_M_isFound_30 : decode prog_10_method_27_code 30 = .ok (.iload_n 1, 1) := by decide +kernel
theorem d_M_isFound_31 : decode prog_10_method_27_code 31 = .ok (.iaload, 1) := by decide +kernel
theorem d_M_isFound_32 : decode prog_10_method_27_code 32 = .ok (.ifCond .ne 13, 3) := by decide +kernel
theorem d_M_isFound_35 : decode prog_10_method_27_code 35 = .ok (.aload_n 0, 1) := by decide +kernel
theorem d_M_isFound_36 : decode prog_10_method_27_code 36 = .ok (.iload_n 1, 1) := by decide +kernel
theorem d_M_isFound_37 : decode prog_10_method_27_code 37 = .ok (.iload_n 2, 1) := by decide +kernel
theorem d_M_isFound_38 : decode prog_10_method_27_code 38 = .ok (.i2l, 1) := by decide +kernel
theorem d_M_isFound_39 : decode prog_10_method_27_code 39 = .ok (.invokevirtual 190, 3) := by decide +kernel
theorem d_M_isFound_42 : decode prog_10_method_27_code 42 = .ok (.goto 101, 3) := by decide +kernel
theorem d_M_isFound_45 : decode prog_10_method_27_code 45 = .ok (.aload_n 0, 1) := by decide +kernel
theorem d_M_isFound_46 : decode prog_10_method_27_code 46 = .ok (.getfield 71, 3) := by decide +kernel
theorem d_M_isFound_49 : decode prog_10_method_27_code 49 = .ok (.iload_n 1, 1) := by decide +kernel
theorem d_M_isFound_50 : decode prog_10_method_27_code 50 = .ok (.baload, 1) := by decide +kernel
theorem d_M_isFound_51 : decode prog_10_method_27_code 51 = .ok (.ifCond .ne 12, 3) := by decide +kernel
theorem d_M_isFound_54 : decode prog_10_method_27_code 54 = .ok (.aload_n 0, 1) := by decide +kernel
theorem d_M_isFound_55 : decode prog_10_method_27_code 55 = .ok (.iload_n 1, 1) := by decide +kernel
theorem d_M_isFound_56 : decode prog_10_method_27_code 56 = .ok (.iconst 1, 1) := by decide +kernel
theorem d_M_isFound_57 : decode prog_10_method_27_code 57 = .ok (.invokevirtual 176, 3) := by decide +kernel
theorem d_M_isFound_60 : decode prog_10_method_27_code 60 = .ok (.goto 83, 3) := by decide +kernel
theorem d_M_isFound_63 : decode prog_10_method_27_code 63 = .ok (.aload_n 0, 1) := by decide +kernel
theorem d_M_isFound_64 : decode prog_10_method_27_code 64 = .ok (.getfield 23, 3) := by decide +kernel
theorem d_M_isFound_67 : decode prog_10_method_27_code 67 = .ok (.iload_n 1, 1) := by decide +kernel
theorem d_M_isFound_68 : decode prog_10_method_27_code 68 = .ok (.iaload, 1) := by decide +kernel
theorem d_M_isFound_69 : decode prog_10_method_27_code 69 = .ok (.iconst 4, 1) := by decide +kernel
theorem d_M_isFound_70 : decode prog_10_method_27_code 70 = .ok (.if_icmp .ne 26, 3) := by decide +kernel
theorem d_M_isFound_73 : decode prog_10_method_27_code 73 = .ok (.aload_n 0, 1) := by decide +kernel
theorem d_M_isFound_74 : decode prog_10_method_27_code 74 = .ok (.iload_n 1, 1) := by decide +kernel
theorem d_M_isFound_75 : decode prog_10_method_27_code 75 = .ok (.aload_n 0, 1) := by decide +kernel
theorem d_M_isFound_76 : decode prog_10_method_27_code 76 = .ok (.getfield 80, 3) := by decide +kernel
theorem d_M_isFound_79 : decode prog_10_method_27_code 79 = .ok (.iload_n 1, 1) := by decide +kernel
theorem d_M_isFound_80 : decode prog_10_method_27_code 80 = .ok (.iaload, 1) := by decide +kernel
theorem d_M_isFound_81 : decode prog_10_method_27_code 81 = .ok (.i2l, 1) := by decide +kernel
theorem d_M_isFound_82 : decode prog_10_method_27_code 82 = .ok (.aload_n 0, 1) := by decide +kernel
theorem d_M_isFound_83 : decode prog_10_method_27_code 83 = .ok (.getfield 77, 3) := by decide +kernel
theorem d_M_isFound_86 : decode prog_10_method_27_code 86 = .ok (.iload_n 1, 1) := by decide +kernel
theorem d_M_isFound_87 : decode prog_10_method_27_code 87 = .ok (.iaload, 1) := by decide +kernel
theorem d_M_isFound_88 : decode prog_10_method_27_code 88 = .ok (.i2l, 1) := by decide +kernel
theorem d_M_isFound_89 : decode prog_10_method_27_code 89 = .ok (.lsub, 1) := by decide +kernel
theorem d_M_isFound_90 : decode prog_10_method_27_code 90 = .ok (.invokevirtual 190, 3) := by decide +kernel
theorem d_M_isFound_93 : decode prog_10_method_27_code 93 = .ok (.goto 50, 3) := by decide +kernel
theorem d_M_isFound_96 : decode prog_10_method_27_code 96 = .ok (.aload_n 0, 1) := by decide +kernel
theorem d_M_isFound_97 : decode prog_10_method_27_code 97 = .ok (.getfield 77, 3) := by decide +kernel
theorem d_M_isFound_100 : decode prog_10_method_27_code 100 = .ok (.iload_n 1, 1) := by decide +kernel
theorem d_M_isFound_101 : decode prog_10_method_27_code 101 = .ok (.iaload, 1) := by decide +kernel
theorem d_M_isFound_102 : decode prog_10_method_27_code 102 = .ok (.aload_n 0, 1) := by decide +kernel
theorem d_M_isFound_103 : decode prog_10_method_27_code 103 = .ok (.getfield 80, 3) := by decide +kernel
theorem d_M_isFound_106 : decode prog_10_method_27_code 106 = .ok (.iload_n 1, 1) := by decide +kernel
theorem d_M_isFound_107 : decode prog_10_method_27_code 107 = .ok (.iaload, 1) := by decide +kernel
theorem d_M_isFound_108 : decode prog_10_method_27_code 108 = .ok (.if_icmp .ne 28, 3) := by decide +kernel
theorem d_M_isFound_111 : decode prog_10_method_27_code 111 = .ok (.aload_n 0, 1) := by decide +kernel
theorem d_M_isFound_112 : decode prog_10_method_27_code 112 = .ok (.iload_n 1, 1) := by decide +kernel
theorem d_M_isFound_113 : decode prog_10_method_27_code 113 = .ok (.iload_n 2, 1) := by decide +kernel
theorem d_M_isFound_114 : decode prog_10_method_27_code 114 = .ok (.i2l, 1) := by decide +kernel
theorem d_M_isFound_115 : decode prog_10_method_27_code 115 = .ok (.aload_n 0, 1) := by decide +kernel
theorem d_M_isFound_116 : decode prog_10_method_27_code 116 = .ok (.iload_n 1, 1) := by decide +kernel
theorem d_M_isFound_117 : decode prog_10_method_27_code 117 = .ok (.invokevirtual 160, 3) := by decide +kernel
theorem d_M_isFound_120 : decode prog_10_method_27_code 120 = .ok (.aload_n 0, 1) := by decide +kernel
theorem d_M_isFound_121 : decode prog_10_method_27_code 121 = .ok (.iload_n 1, 1) := by decide +kernel
theorem d_M_isFound_122 : decode prog_10_method_27_code 122 = .ok (.invokevirtual 164, 3) := by decide +kernel
theorem d_M_isFound_125 : decode prog_10_method_27_code 125 = .ok (.isub, 1) := by decide +kernel
theorem d_M_isFound_126 : decode prog_10_method_27_code 126 = .ok (.iconst 1, 1) := by decide +kernel
theorem d_M_isFound_127 : decode prog_10_method_27_code 127 = .ok (.iadd, 1) := by decide +kernel
theorem d_M_isFound_128 : decode prog_10_method_27_code 128 = .ok (.i2l, 1) := by decide +kernel
theorem d_M_isFound_129 : decode prog_10_method_27_code 129 = .ok (.lmul, 1) := by decide +kernel
theorem d_M_isFound_130 : decode prog_10_method_27_code 130 = .ok (.invokevirtual 190, 3) := by decide +kernel
theorem d_M_isFound_133 : decode prog_10_method_27_code 133 = .ok (.goto 10, 3) := by decide +kernel
theorem d_M_isFound_136 : decode prog_10_method_27_code 136 = .ok (.aload_n 0, 1) := by decide +kernel
theorem d_M_isFound_137 : decode prog_10_method_27_code 137 = .ok (.iload_n 1, 1) := by decide +kernel
theorem d_M_isFound_138 : decode prog_10_method_27_code 138 = .ok (.bipush 11, 2) := by decide +kernel
theorem d_M_isFound_140 : decode prog_10_method_27_code 140 = .ok (.invokevirtual 168, 3) := by decide +kernel
theorem d_M_isFound_143 : decode prog_10_method_27_code 143 = .ok (.return_, 1) := by decide +kernel
theorem d_M_afterAdd_0 : decode prog_10_method_28_code 0 = .ok (.lconst 0, 1) := by decide +kernel
theorem d_M_afterAdd_1 : decode prog_10_method_28_code 1 = .ok (.lstore_n 2, 1) := by decide +kernel
theorem d_M_afterAdd_2 : decode prog_10_method_28_code 2 = .ok (.iconst 0, 1) := by decide +kernel
theorem d_M_afterAdd_3 : decode prog_10_method_28_code 3 = .ok (.istore 4, 2) := by decide +kernel
theorem d_M_afterAdd_5 : decode prog_10_method_28_code 5 = .ok (.iload 4, 2) := by decide +kernel
theorem d_M_afterAdd_7 : decode prog_10_method_28_code 7 = .ok (.bipush 8, 2) := by decide +kernel
theorem d_M_afterAdd_9 : decode prog_10_method_28_code 9 = .ok (.if_icmp .ge 24, 3) := by decide +kernel
theorem d_M_afterAdd_12 : decode prog_10_method_28_code 12 = .ok (.lload_n 2, 1) := by decide +kernel
theorem d_M_afterAdd_13 : decode prog_10_method_28_code 13 = .ok (.aload_n 0, 1) := by decide +kernel
theorem d_M_afterAdd_14 : decode prog_10_method_28_code 14 = .ok (.getfield 93, 3) := by decide +kernel
theorem d_M_afterAdd_17 : decode prog_10_method_28_code 17 = .ok (.bipush 8, 2) := by decide +kernel
theorem d_M_afterAdd_19 : decode prog_10_method_28_code 19 = .ok (.iload_n 1, 1) := by decide +kernel
theorem d_M_afterAdd_20 : decode prog_10_method_28_code 20 = .ok (.imul, 1) := by decide +kernel
theorem d_M_afterAdd_21 : decode prog_10_method_28_code 21 = .ok (.iload 4, 2) := by decide +kernel
theorem d_M_afterAdd_23 : decode prog_10_method_28_code 23 = .ok (.iadd, 1) := by decide +kernel
theorem d_M_afterAdd_24 : decode prog_10_method_28_code 24 = .ok (.laload, 1) := by decide +kernel
theorem d_M_afterAdd_25 : decode prog_10_method_28_code 25 = .ok (.ladd, 1) := by decide +kernel
theorem d_M_afterAdd_26 : decode prog_10_method_28_code 26 = .ok (.lstore_n 2, 1) := by decide +kernel
theorem d_M_afterAdd_27 : decode prog_10_method_28_code 27 = .ok (.iinc 4 1, 3) := by decide +kernel
theorem d_M_afterAdd_30 : decode prog_10_method_28_code 30 = .ok (.goto (-25), 3) := by decide +kernel
theorem d_M_afterAdd_33 : decode prog_10_method_28_code 33 = .ok (.aload_n 0, 1) := by decide +kernel
theorem d_M_afterAdd_34 : decode prog_10_method_28_code 34 = .ok (.iload_n 1, 1) := by decide +kernel
theorem d_M_afterAdd_35 : decode prog_10_method_28_code 35 = .ok (.iconst 0, 1) := by decide +kernel
theorem d_M_afterAdd_36 : decode prog_10_method_28_code 36 = .ok (.invokevirtual 172, 3) := by decide +kernel
theorem d_M_afterAdd_39 : decode prog_10_method_28_code 39 = .ok (.aload_n 0, 1) := by decide +kernel
theorem d_M_afterAdd_40 : decode prog_10_method_28_code 40 = .ok (.iload_n 1, 1) := by decide +kernel
theorem d_M_afterAdd_41 : decode prog_10_method_28_code 41 = .ok (.iconst 1, 1) := by decide +kernel
theorem d_M_afterAdd_42 : decode prog_10_method_28_code 42 = .ok (.invokevirtual 172, 3) := by decide +kernel
theorem d_M_afterAdd_45 : decode prog_10_method_28_code 45 = .ok (.iadd, 1) := by decide +kernel
theorem d_M_afterAdd_46 : decode prog_10_method_28_code 46 = .ok (.istore 4, 2) := by decide +kernel
theorem d_M_afterAdd_48 : decode prog_10_method_28_code 48 = .ok (.aload_n 0, 1) := by decide +kernel
theorem d_M_afterAdd_49 : decode prog_10_method_28_code 49 = .ok (.getfield 77, 3) := by decide +kernel
theorem d_M_afterAdd_52 : decode prog_10_method_28_code 52 = .ok (.iload_n 1, 1) := by decide +kernel
theorem d_M_afterAdd_53 : decode prog_10_method_28_code 53 = .ok (.iaload, 1) := by decide +kernel
theorem d_M_afterAdd_54 : decode prog_10_method_28_code 54 = .ok (.i2l, 1) := by decide +kernel
theorem d_M_afterAdd_55 : decode prog_10_method_28_code 55 = .ok (.iload 4, 2) := by decide +kernel
theorem d_M_afterAdd_57 : decode prog_10_method_28_code 57 = .ok (.aload_n 0, 1) := by decide +kernel
theorem d_M_afterAdd_58 : decode prog_10_method_28_code 58 = .ok (.iload_n 1, 1) := by decide +kernel
theorem d_M_afterAdd_59 : decode prog_10_method_28_code 59 = .ok (.invokevirtual 164, 3) := by decide +kernel
theorem d_M_afterAdd_62 : decode prog_10_method_28_code 62 = .ok (.isub, 1) := by decide +kernel
theorem d_M_afterAdd_63 : decode prog_10_method_28_code 63 = .ok (.iconst 1, 1) := by decide +kernel
theorem d_M_afterAdd_64 : decode prog_10_method_28_code 64 = .ok (.iadd, 1) := by decide +kernel
theorem d_M_afterAdd_65 : decode prog_10_method_28_code 65 = .ok (.i2l, 1) := by decide +kernel
theorem d_M_afterAdd_66 : decode prog_10_method_28_code 66 = .ok (.lmul, 1) := by decide +kernel
theorem d_M_afterAdd_67 : decode prog_10_method_28_code 67 = .ok (.lstore 5, 2) := by decide +kernel
theorem d_M_afterAdd_69 : decode prog_10_method_28_code 69 = .ok (.aload_n 0, 1) := by decide +kernel
theorem d_M_afterAdd_70 : decode prog_10_method_28_code 70 = .ok (.getfield 80, 3) := by decide +kernel
theorem d_M_afterAdd_73 : decode prog_10_method_28_code 73 = .ok (.iload_n 1, 1) := by decide +kernel
theorem d_M_afterAdd_74 : decode prog_10_method_28_code 74 = .ok (.iaload, 1) := by decide +kernel
theorem d_M_afterAdd_75 : decode prog_10_method_28_code 75 = .ok (.i2l, 1) := by decide +kernel
theorem d_M_afterAdd_76 : decode prog_10_method_28_code 76 = .ok (.aload_n 0, 1) := by decide +kernel
theorem d_M_afterAdd_77 : decode prog_10_method_28_code 77 = .ok (.iload_n 1, 1) := by decide +kernel
theorem d_M_afterAdd_78 : decode prog_10_method_28_code 78 = .ok (.invokevirtual 160, 3) := by decide +kernel
theorem d_M_afterAdd_81 : decode prog_10_method_28_code 81 = .ok (.iload 4, 2) := by decide +kernel
theorem d_M_afterAdd_83 : decode prog_10_method_28_code 83 = .ok (.isub, 1) := by decide +kernel
theorem d_M_afterAdd_84 : decode prog_10_method_28_code 84 = .ok (.aload_n 0, 1) := by decide +kernel
theorem d_M_afterAdd_85 : decode prog_10_method_28_code 85 = .ok (.iload_n 1, 1) := by decide +kernel
theorem d_M_afterAdd_86 : decode prog_10_method_28_code 86 = .ok (.iconst 2, 1) := by decide +kernel
theorem d_M_afterAdd_87 : decode prog_10_method_28_code 87 = .ok (.invokevirtual 172, 3) := by decide +kernel
theorem d_M_afterAdd_90 : decode prog_10_method_28_code 90 = .ok (.isub, 1) := by decide +kernel
theorem d_M_afterAdd_91 : decode prog_10_method_28_code 91 = .ok (.i2l, 1) := by decide +kernel
theorem d_M_afterAdd_92 : decode prog_10_method_28_code 92 = .ok (.lmul, 1) := by decide +kernel
theorem d_M_afterAdd_93 : decode prog_10_method_28_code 93 = .ok (.lstore 7, 2) := by decide +kernel
theorem d_M_afterAdd_95 : decode prog_10_method_28_code 95 = .ok (.aload_n 0, 1) := by decide +kernel
theorem d_M_afterAdd_96 : decode prog_10_method_28_code 96 = .ok (.iload_n 1, 1) := by decide +kernel
theorem d_M_afterAdd_97 : decode prog_10_method_28_code 97 = .ok (.lload 5, 2) := by decide +kernel
theorem d_M_afterAdd_99 : decode prog_10_method_28_code 99 = .ok (.lload_n 2, 1) := by decide +kernel
theorem d_M_afterAdd_100 : decode prog_10_method_28_code 100 = .ok (.ladd, 1) := by decide +kernel
theorem d_M_afterAdd_101 : decode prog_10_method_28_code 101 = .ok (.lload 7, 2) := by decide +kernel
theorem d_M_afterAdd_103 : decode prog_10_method_28_code 103 = .ok (.ladd, 1) := by decide +kernel
theorem d_M_afterAdd_104 : decode prog_10_method_28_code 104 = .ok (.invokevirtual 190, 3) := by decide +kernel
theorem d_M_afterAdd_107 : decode prog_10_method_28_code 107 = .ok (.return_, 1) := by decide +kernel
theorem d_M_goOn_0 : decode prog_10_method_29_code 0 = .ok (.aload_n 0, 1) := by decide +kernel
theorem d_M_goOn_1 : decode prog_10_method_29_code 1 = .ok (.getfield 53, 3) := by decide +kernel
theorem d_M_goOn_4 : decode prog_10_method_29_code 4 = .ok (.iload_n 1, 1) := by decide +kernel
theorem d_M_goOn_5 : decode prog_10_method_29_code 5 = .ok (.iaload, 1) := by decide +kernel
theorem d_M_goOn_6 : decode prog_10_method_29_code 6 = .ok (.istore_n 2, 1) := by decide +kernel
theorem d_M_goOn_7 : decode prog_10_method_29_code 7 = .ok (.iload_n 2, 1) := by decide +kernel
theorem d_M_goOn_8 : decode prog_10_method_29_code 8 = .ok (.iconst 1, 1) := by decide +kernel
theorem d_M_goOn_9 : decode prog_10_method_29_code 9 = .ok (.if_icmp .ne 11, 3) := by decide +kernel
theorem d_M_goOn_12 : decode prog_10_method_29_code 12 = .ok (.aload_n 0, 1) := by decide +kernel
theorem d_M_goOn_13 : decode prog_10_method_29_code 13 = .ok (.iload_n 1, 1) := by decide +kernel
theorem d_M_goOn_14 : decode prog_10_method_29_code 14 = .ok (.invokevirtual 194, 3) := by decide +kernel
theorem d_M_goOn_17 : decode prog_10_method_29_code 17 = .ok (.goto 97, 3) := by decide +kernel
theorem d_M_goOn_20 : decode prog_10_method_29_code 20 = .ok (.iload_n 2, 1) := by decide +kernel
theorem d_M_goOn_21 : decode prog_10_method_29_code 21 = .ok (.iconst 3, 1) := by decide +kernel
theorem d_M_goOn_22 : decode prog_10_method_29_code 22 = .ok (.if_icmp .ne 11, 3) := by decide +kernel
theorem d_M_goOn_25 : decode prog_10_method_29_code 25 = .ok (.aload_n 0, 1) := by decide +kernel
theorem d_M_goOn_26 : decode prog_10_method_29_code 26 = .ok (.iload_n 1, 1) := by decide +kernel
theorem d_M_goOn_27 : decode prog_10_method_29_code 27 = .ok (.invokevirtual 197, 3) := by decide +kernel
theorem d_M_goOn_30 : decode prog_10_method_29_code 30 = .ok (.goto 84, 3) := by decide +kernel
theorem d_M_goOn_33 : decode prog_10_method_29_code 33 = .ok (.iload_n 2, 1) := by decide +kernel
theorem d_M_goOn_34 : decode prog_10_method_29_code 34 = .ok (.iconst 5, 1) := by decide +kernel
theorem d_M_goOn_35 : decode prog_10_method_29_code 35 = .ok (.if_icmp .ne 11, 3) := by decide +kernel
theorem d_M_goOn_38 : decode prog_10_method_29_code 38 = .ok (.aload_n 0, 1) := by decide +kernel
theorem d_M_goOn_39 : decode prog_10_method_29_code 39 = .ok (.iload_n 1, 1) := by decide +kernel
theorem d_M_goOn_40 : decode prog_10_method_29_code 40 = .ok (.invokevirtual 200, 3) := by decide +kernel
theorem d_M_goOn_43 : decode prog_10_method_29_code 43 = .ok (.goto 71, 3) := by decide +kernel
theorem d_M_goOn_46 : decode prog_10_method_29_code 46 = .ok (.iload_n 2, 1) := by decide +kernel
theorem d_M_goOn_47 : decode prog_10_method_29_code 47 = .ok (.bipush 7, 2) := by decide +kernel
theorem d_M_goOn_49 : decode prog_10_method_29_code 49 = .ok (.if_icmp .ne 11, 3) := by decide +kernel
theorem d_M_goOn_52 : decode prog_10_method_29_code 52 = .ok (.aload_n 0, 1) := by decide +kernel
theorem d_M_goOn_53 : decode prog_10_method_29_code 53 = .ok (.iload_n 1, 1) := by decide +kernel
theorem d_M_goOn_54 : decode prog_10_method_29_code 54 = .ok (.invokevirtual 203, 3) := by decide +kernel
theorem d_M_goOn_57 : decode prog_10_method_29_code 57 = .ok (.goto 57, 3) := by decide +kernel
theorem d_M_goOn_60 : decode prog_10_method_29_code 60 = .ok (.iload_n 2, 1) := by decide +kernel
theorem d_M_goOn_61 : decode prog_10_method_29_code 61 = .ok (.bipush 9, 2) := by decide +kernel
theorem d_M_goOn_63 : decode prog_10_method_29_code 63 = .ok (.if_icmp .ne 46, 3) := by decide +kernel
theorem d_M_goOn_66 : decode prog_10_method_29_code 66 = .ok (.aload_n 0, 1) := by decide +kernel
theorem d_M_goOn_67 : decode prog_10_method_29_code 67 = .ok (.iload_n 1, 1) := by decide +kernel
theorem d_M_goOn_68 : decode prog_10_method_29_code 68 = .ok (.iconst 0, 1) := by decide +kernel
theorem d_M_goOn_69 : decode prog_10_method_29_code 69 = .ok (.invokevirtual 172, 3) := by decide +kernel
theorem d_M_goOn_72 : decode prog_10_method_29_code 72 = .ok (.i2l, 1) := by decide +kernel
theorem d_M_goOn_73 : decode prog_10_method_29_code 73 = .ok (.lstore_n 3, 1) := by decide +kernel
theorem d_M_goOn_74 : decode prog_10_method_29_code 74 = .ok (.aload_n 0, 1) := by decide +kernel
theorem d_M_goOn_75 : decode prog_10_method_29_code 75 = .ok (.iload_n 1, 1) := by decide +kernel
theorem d_M_goOn_76 : decode prog_10_method_29_code 76 = .ok (.aload_n 0, 1) := by decide +kernel
theorem d_M_goOn_77 : decode prog_10_method_29_code 77 = .ok (.getfield 23, 3) := by decide +kernel
theorem d_M_goOn_80 : decode prog_10_method_29_code 80 = .ok (.iload_n 1, 1) := by decide +kernel
theorem d_M_goOn_81 : decode prog_10_method_29_code 81 = .ok (.iaload, 1) := by decide +kernel
theorem d_M_goOn_82 : decode prog_10_method_29_code 82 = .ok (.iconst 1, 1) := by decide +kernel
theorem d_M_goOn_83 : decode prog_10_method_29_code 83 = .ok (.if_icmp .ne 7, 3) := by decide +kernel
theorem d_M_goOn_86 : decode prog_10_method_29_code 86 = .ok (.lload_n 3, 1) := by decide +kernel
theorem d_M_goOn_87 : decode prog_10_method_29_code 87 = .ok (.goto 16, 3) := by decide +kernel
theorem d_M_goOn_90 : decode prog_10_method_29_code 90 = .ok (.ldc2_w 206, 3) := by decide +kernel
theorem d_M_goOn_93 : decode prog_10_method_29_code 93 = .ok (.lload_n 3, 1) := by decide +kernel
theorem d_M_goOn_94 : decode prog_10_method_29_code 94 = .ok (.lmul, 1) := by decide +kernel
theorem d_M_goOn_95 : decode prog_10_method_29_code 95 = .ok (.aload_n 0, 1) := by decide +kernel
theorem d_M_goOn_96 : decode prog_10_method_29_code 96 = .ok (.getfield 47, 3) := by decide +kernel
theorem d_M_goOn_99 : decode prog_10_method_29_code 99 = .ok (.iload_n 1, 1) := by decide +kernel
theorem d_M_goOn_100 : decode prog_10_method_29_code 100 = .ok (.iaload, 1) := by decide +kernel
theorem d_M_goOn_101 : decode prog_10_method_29_code 101 = .ok (.i2l, 1) := by decide +kernel
theorem d_M_goOn_102 : decode prog_10_method_29_code 102 = .ok (.ldiv, 1) := by decide +kernel
theorem d_M_goOn_103 : decode prog_10_method_29_code 103 = .ok (.invokevirtual 190, 3) := by decide +kernel
theorem d_M_goOn_106 : decode prog_10_method_29_code 106 = .ok (.goto 8, 3) := by decide +kernel
theorem d_M_goOn_109 : decode prog_10_method_29_code 109 = .ok (.aload_n 0, 1) := by decide +kernel
theorem d_M_goOn_110 : decode prog_10_method_29_code 110 = .ok (.iload_n 1, 1) := by decide +kernel
theorem d_M_goOn_111 : decode prog_10_method_29_code 111 = .ok (.invokevirtual 208, 3) := by decide +kernel
theorem d_M_goOn_114 : decode prog_10_method_29_code 114 = .ok (.return_, 1) := by decide +kernel
theorem d_M_take_0 : decode prog_10_method_30_code 0 = .ok (.bipush 8, 2) := by decide +kernel
theorem d_M_take_2 : decode prog_10_method_30_code 2 = .ok (.iload_n 1, 1) := by decide +kernel
theorem d_M_take_3 : decode prog_10_method_30_code 3 = .ok (.imul, 1) := by decide +kernel
theorem d_M_take_4 : decode prog_10_method_30_code 4 = .ok (.iload_n 2, 1) := by decide +kernel
theorem d_M_take_5 : decode prog_10_method_30_code 5 = .ok (.iadd, 1) := by decide +kernel
theorem d_M_take_6 : decode prog_10_method_30_code 6 = .ok (.istore_n 3, 1) := by decide +kernel
theorem d_M_take_7 : decode prog_10_method_30_code 7 = .ok (.aload_n 0, 1) := by decide +kernel
theorem d_M_take_8 : decode prog_10_method_30_code 8 = .ok (.getfield 87, 3) := by decide +kernel
theorem d_M_take_11 : decode prog_10_method_30_code 11 = .ok (.iload_n 3, 1) := by decide +kernel
theorem d_M_take_12 : decode prog_10_method_30_code 12 = .ok (.iconst 1, 1) := by decide +kernel
theorem d_M_take_13 : decode prog_10_method_30_code 13 = .ok (.bastore, 1) := by decide +kernel
theorem d_M_take_14 : decode prog_10_method_30_code 14 = .ok (.iconst 0, 1) := by decide +kernel
theorem d_M_take_15 : decode prog_10_method_30_code 15 = .ok (.istore 4, 2) := by decide +kernel
theorem d_M_take_17 : decode prog_10_method_30_code 17 = .ok (.iload 4, 2) := by decide +kernel
theorem d_M_take_19 : decode prog_10_method_30_code 19 = .ok (.iconst 4, 1) := by decide +kernel
theorem d_M_take_20 : decode prog_10_method_30_code 20 = .ok (.if_icmp .ge 40, 3) := by decide +kernel
theorem d_M_take_23 : decode prog_10_method_30_code 23 = .ok (.aload_n 0, 1) := by decide +kernel
theorem d_M_take_24 : decode prog_10_method_30_code 24 = .ok (.getfield 90, 3) := by decide +kernel
theorem d_M_take_27 : decode prog_10_method_30_code 27 = .ok (.iconst 4, 1) := by decide +kernel
theorem d_M_take_28 : decode prog_10_method_30_code 28 = .ok (.iload_n 3, 1) := by decide +kernel
theorem d_M_take_29 : decode prog_10_method_30_code 29 = .ok (.imul, 1) := by decide +kernel
theorem d_M_take_30 : decode prog_10_method_30_code 30 = .ok (.iload 4, 2) := by decide +kernel
theorem d_M_take_32 : decode prog_10_method_30_code 32 = .ok (.iadd, 1) := by decide +kernel
theorem d_M_take_33 : decode prog_10_method_30_code 33 = .ok (.iload 4, 2) := by decide +kernel
theorem d_M_take_35 : decode prog_10_method_30_code 35 = .ok (.aload_n 0, 1) := by decide +kernel
theorem d_M_take_36 : decode prog_10_method_30_code 36 = .ok (.getfield 130, 3) := by decide +kernel
theorem d_M_take_39 : decode prog_10_method_30_code 39 = .ok (.if_icmp .ge 13, 3) := by decide +kernel
theorem d_M_take_42 : decode prog_10_method_30_code 42 = .ok (.aload_n 0, 1) := by decide +kernel
theorem d_M_take_43 : decode prog_10_method_30_code 43 = .ok (.getfield 111, 3) := by decide +kernel
theorem d_M_take_46 : decode prog_10_method_30_code 46 = .ok (.iload 4, 2) := by decide +kernel
theorem d_M_take_48 : decode prog_10_method_30_code 48 = .ok (.iaload, 1) := by decide +kernel
theorem d_M_take_49 : decode prog_10_method_30_code 49 = .ok (.goto 4, 3) := by decide +kernel
theorem d_M_take_52 : decode prog_10_method_30_code 52 = .ok (.iconst 0, 1) := by decide +kernel
theorem d_M_take_53 : decode prog_10_method_30_code 53 = .ok (.iastore, 1) := by decide +kernel
theorem d_M_take_54 : decode prog_10_method_30_code 54 = .ok (.iinc 4 1, 3) := by decide +kernel
theorem d_M_take_57 : decode prog_10_method_30_code 57 = .ok (.goto (-40), 3) := by decide +kernel
theorem d_M_take_60 : decode prog_10_method_30_code 60 = .ok (.aload_n 0, 1) := by decide +kernel
theorem d_M_take_61 : decode prog_10_method_30_code 61 = .ok (.getfield 93, 3) := by decide +kernel
theorem d_M_take_64 : decode prog_10_method_30_code 64 = .ok (.iload_n 3, 1) := by decide +kernel
theorem d_M_take_65 : decode prog_10_method_30_code 65 = .ok (.aload_n 0, 1) := by decide +kernel
theorem d_M_take_66 : decode prog_10_method_30_code 66 = .ok (.getfield 133, 3) := by decide +kernel
theorem d_M_take_69 : decode prog_10_method_30_code 69 = .ok (.lastore, 1) := by decide +kernel
theorem d_M_take_70 : decode prog_10_method_30_code 70 = .ok (.aload_n 0, 1) := by decide +kernel
theorem d_M_take_71 : decode prog_10_method_30_code 71 = .ok (.getfield 96, 3) := by decide +kernel
theorem d_M_take_74 : decode prog_10_method_30_code 74 = .ok (.iload_n 3, 1) := by decide +kernel
theorem d_M_take_75 : decode prog_10_method_30_code 75 = .ok (.aload_n 0, 1) := by decide +kernel
theorem d_M_take_76 : decode prog_10_method_30_code 76 = .ok (.getfield 130, 3) := by decide +kernel
theorem d_M_take_79 : decode prog_10_method_30_code 79 = .ok (.iastore, 1) := by decide +kernel
theorem d_M_take_80 : decode prog_10_method_30_code 80 = .ok (.iconst 0, 1) := by decide +kernel
theorem d_M_take_81 : decode prog_10_method_30_code 81 = .ok (.istore 4, 2) := by decide +kernel
theorem d_M_take_83 : decode prog_10_method_30_code 83 = .ok (.iload 4, 2) := by decide +kernel
theorem d_M_take_85 : decode prog_10_method_30_code 85 = .ok (.bipush 64, 2) := by decide +kernel
theorem d_M_take_87 : decode prog_10_method_30_code 87 = .ok (.if_icmp .ge 28, 3) := by decide +kernel
theorem d_M_take_90 : decode prog_10_method_30_code 90 = .ok (.aload_n 0, 1) := by decide +kernel
theorem d_M_take_91 : decode prog_10_method_30_code 91 = .ok (.getfield 99, 3) := by decide +kernel
theorem d_M_take_94 : decode prog_10_method_30_code 94 = .ok (.bipush 64, 2) := by decide +kernel
theorem d_M_take_96 : decode prog_10_method_30_code 96 = .ok (.iload_n 3, 1) := by decide +kernel
theorem d_M_take_97 : decode prog_10_method_30_code 97 = .ok (.imul, 1) := by decide +kernel
theorem d_M_take_98 : decode prog_10_method_30_code 98 = .ok (.iload 4, 2) := by decide +kernel
theorem d_M_take_100 : decode prog_10_method_30_code 100 = .ok (.iadd, 1) := by decide +kernel
theorem d_M_take_101 : decode prog_10_method_30_code 101 = .ok (.aload_n 0, 1) := by decide +kernel
theorem d_M_take_102 : decode prog_10_method_30_code 102 = .ok (.getfield 111, 3) := by decide +kernel
theorem d_M_take_105 : decode prog_10_method_30_code 105 = .ok (.iload 4, 2) := by decide +kernel
theorem d_M_take_107 : decode prog_10_method_30_code 107 = .ok (.iaload, 1) := by decide +kernel
theorem d_M_take_108 : decode prog_10_method_30_code 108 = .ok (.iastore, 1) := by decide +kernel
theorem d_M_take_109 : decode prog_10_method_30_code 109 = .ok (.iinc 4 1, 3) := by decide +kernel
theorem d_M_take_112 : decode prog_10_method_30_code 112 = .ok (.goto (-29), 3) := by decide +kernel
theorem d_M_take_115 : decode prog_10_method_30_code 115 = .ok (.iconst 1, 1) := by decide +kernel
theorem d_M_take_116 : decode prog_10_method_30_code 116 = .ok (.istore 4, 2) := by decide +kernel
theorem d_M_take_118 : decode prog_10_method_30_code 118 = .ok (.iconst 0, 1) := by decide +kernel
theorem d_M_take_119 : decode prog_10_method_30_code 119 = .ok (.istore 5, 2) := by decide +kernel
theorem d_M_take_121 : decode prog_10_method_30_code 121 = .ok (.iload 5, 2) := by decide +kernel
theorem d_M_take_123 : decode prog_10_method_30_code 123 = .ok (.bipush 8, 2) := by decide +kernel
theorem d_M_take_125 : decode prog_10_method_30_code 125 = .ok (.if_icmp .ge 36, 3) := by decide +kernel
theorem d_M_take_128 : decode prog_10_method_30_code 128 = .ok (.iload 4, 2) := by decide +kernel
theorem d_M_take_130 : decode prog_10_method_30_code 130 = .ok (.ifCond .eq 22, 3) := by decide +kernel
theorem d_M_take_133 : decode prog_10_method_30_code 133 = .ok (.aload_n 0, 1) := by decide +kernel
theorem d_M_take_134 : decode prog_10_method_30_code 134 = .ok (.getfield 87, 3) := by decide +kernel
theorem d_M_take_137 : decode prog_10_method_30_code 137 = .ok (.bipush 8, 2) := by decide +kernel
theorem d_M_take_139 : decode prog_10_method_30_code 139 = .ok (.iload_n 1, 1) := by decide +kernel
theorem d_M_take_140 : decode prog_10_method_30_code 140 = .ok (.imul, 1) := by decide +kernel
theorem d_M_take_141 : decode prog_10_method_30_code 141 = .ok (.iload 5, 2) := by decide +kernel
theorem d_M_take_143 : decode prog_10_method_30_code 143 = .ok (.iadd, 1) := by decide +kernel
theorem d_M_take_144 : decode prog_10_method_30_code 144 = .ok (.baload, 1) := by decide +kernel
theorem d_M_take_145 : decode prog_10_method_30_code 145 = .ok (.ifCond .eq 7, 3) := by decide +kernel
theorem d_M_take_148 : decode prog_10_method_30_code 148 = .ok (.iconst 1, 1) := by decide +kernel
theorem d_M_take_149 : decode prog_10_method_30_code 149 = .ok (.goto 4, 3) := by decide +kernel
theorem d_M_take_152 : decode prog_10_method_30_code 152 = .ok (.iconst 0, 1) := by decide +kernel
theorem d_M_take_153 : decode prog_10_method_30_code 153 = .ok (.istore 4, 2) := by decide +kernel
theorem d_M_take_155 : decode prog_10_method_30_code 155 = .ok (.iinc 5 1, 3) := by decide +kernel
theorem d_M_take_158 : decode prog_10_method_30_code 158 = .ok (.goto (-37), 3) := by decide +kernel
theorem d_M_take_161 : decode prog_10_method_30_code 161 = .ok (.iload 4, 2) := by decide +kernel
theorem d_M_take_163 : decode prog_10_method_30_code 163 = .ok (.ifCond .eq 8, 3) := by decide +kernel
theorem d_M_take_166 : decode prog_10_method_30_code 166 = .ok (.aload_n 0, 1) := by decide +kernel
theorem d_M_take_167 : decode prog_10_method_30_code 167 = .ok (.iload_n 1, 1) := by decide +kernel
theorem d_M_take_168 : decode prog_10_method_30_code 168 = .ok (.invokevirtual 211, 3) := by decide +kernel
theorem d_M_take_171 : decode prog_10_method_30_code 171 = .ok (.return_, 1) := by decide +kernel
theorem d_M_remove_0 : decode prog_10_method_31_code 0 = .ok (.aload_n 0, 1) := by decide +kernel
theorem d_M_remove_1 : decode prog_10_method_31_code 1 = .ok (.dup, 1) := by decide +kernel
theorem d_M_remove_2 : decode prog_10_method_31_code 2 = .ok (.getfield 127, 3) := by decide +kernel
theorem d_M_remove_5 : decode prog_10_method_31_code 5 = .ok (.iconst 1, 1) := by decide +kernel
theorem d_M_remove_6 : decode prog_10_method_31_code 6 = .ok (.isub, 1) := by decide +kernel
theorem d_M_remove_7 : decode prog_10_method_31_code 7 = .ok (.putfield 127, 3) := by decide +kernel
theorem d_M_remove_10 : decode prog_10_method_31_code 10 = .ok (.bipush 7, 2) := by decide +kernel
theorem d_M_remove_12 : decode prog_10_method_31_code 12 = .ok (.iload_n 1, 1) := by decide +kernel
theorem d_M_remove_13 : decode prog_10_method_31_code 13 = .ok (.imul, 1) := by decide +kernel
theorem d_M_remove_14 : decode prog_10_method_31_code 14 = .ok (.istore_n 2, 1) := by decide +kernel
theorem d_M_remove_15 : decode prog_10_method_31_code 15 = .ok (.iload_n 2, 1) := by decide +kernel
theorem d_M_remove_16 : decode prog_10_method_31_code 16 = .ok (.bipush 7, 2) := by decide +kernel
theorem d_M_remove_18 : decode prog_10_method_31_code 18 = .ok (.aload_n 0, 1) := by decide +kernel
theorem d_M_remove_19 : decode prog_10_method_31_code 19 = .ok (.getfield 127, 3) := by decide +kernel
theorem d_M_remove_22 : decode prog_10_method_31_code 22 = .ok (.imul, 1) := by decide +kernel
theorem d_M_remove_23 : decode prog_10_method_31_code 23 = .ok (.if_icmp .ge 24, 3) := by decide +kernel
theorem d_M_remove_26 : decode prog_10_method_31_code 26 = .ok (.aload_n 0, 1) := by decide +kernel
theorem d_M_remove_27 : decode prog_10_method_31_code 27 = .ok (.getfield 102, 3) := by decide +kernel
theorem d_M_remove_30 : decode prog_10_method_31_code 30 = .ok (.iload_n 2, 1) := by decide +kernel
theorem d_M_remove_31 : decode prog_10_method_31_code 31 = .ok (.aload_n 0, 1) := by decide +kernel
theorem d_M_remove_32 : decode prog_10_method_31_code 32 = .ok (.getfield 102, 3) := by decide +kernel
theorem d_M_remove_35 : decode prog_10_method_31_code 35 = .ok (.iload_n 2, 1) := by decide +kernel
theorem d_M_remove_36 : decode prog_10_method_31_code 36 = .ok (.bipush 7, 2) := by decide +kernel
theorem d_M_remove_38 : decode prog_10_method_31_code 38 = .ok (.iadd, 1) := by decide +kernel
theorem d_M_remove_39 : decode prog_10_method_31_code 39 = .ok (.iaload, 1) := by decide +kernel
theorem d_M_remove_40 : decode prog_10_method_31_code 40 = .ok (.iastore, 1) := by decide +kernel
theorem d_M_remove_41 : decode prog_10_method_31_code 41 = .ok (.iinc 2 1, 3) := by decide +kernel
theorem d_M_remove_44 : decode prog_10_method_31_code 44 = .ok (.goto (-29), 3) := by decide +kernel
theorem d_M_remove_47 : decode prog_10_method_31_code 47 = .ok (.bipush 64, 2) := by decide +kernel
theorem d_M_remove_49 : decode prog_10_method_31_code 49 = .ok (.iload_n 1, 1) := by decide +kernel
theorem d_M_remove_50 : decode prog_10_method_31_code 50 = .ok (.imul, 1) := by decide +kernel
theorem d_M_remove_51 : decode prog_10_method_31_code 51 = .ok (.istore_n 2, 1) := by decide +kernel
theorem d_M_remove_52 : decode prog_10_method_31_code 52 = .ok (.iload_n 2, 1) := by decide +kernel
theorem d_M_remove_53 : decode prog_10_method_31_code 53 = .ok (.bipush 64, 2) := by decide +kernel
theorem d_M_remove_55 : decode prog_10_method_31_code 55 = .ok (.aload_n 0, 1) := by decide +kernel
theorem d_M_remove_56 : decode prog_10_method_31_code 56 = .ok (.getfield 127, 3) := by decide +kernel
theorem d_M_remove_59 : decode prog_10_method_31_code 59 = .ok (.imul, 1) := by decide +kernel
theorem d_M_remove_60 : decode prog_10_method_31_code 60 = .ok (.if_icmp .ge 24, 3) := by decide +kernel
theorem d_M_remove_63 : decode prog_10_method_31_code 63 = .ok (.aload_n 0, 1) := by decide +kernel
theorem d_M_remove_64 : decode prog_10_method_31_code 64 = .ok (.getfield 105, 3) := by decide +kernel
theorem d_M_remove_67 : decode prog_10_method_31_code 67 = .ok (.iload_n 2, 1) := by decide +kernel
theorem d_M_remove_68 : decode prog_10_method_31_code 68 = .ok (.aload_n 0, 1) := by decide +kernel
theorem d_M_remove_69 : decode prog_10_method_31_code 69 = .ok (.getfield 105, 3) := by decide +kernel
theorem d_M_remove_72 : decode prog_10_method_31_code 72 = .ok (.iload_n 2, 1) := by decide +kernel
theorem d_M_remove_73 : decode prog_10_method_31_code 73 = .ok (.bipush 64, 2) := by decide +kernel
theorem d_M_remove_75 : decode prog_10_method_31_code 75 = .ok (.iadd, 1) := by decide +kernel
theorem d_M_remove_76 : decode prog_10_method_31_code 76 = .ok (.iaload, 1) := by decide +kernel
theorem d_M_remove_77 : decode prog_10_method_31_code 77 = .ok (.iastore, 1) := by decide +kernel
theorem d_M_remove_78 : decode prog_10_method_31_code 78 = .ok (.iinc 2 1, 3) := by decide +kernel
theorem d_M_remove_81 : decode prog_10_method_31_code 81 = .ok (.goto (-29), 3) := by decide +kernel
theorem d_M_remove_84 : decode prog_10_method_31_code 84 = .ok (.iload_n 1, 1) := by decide +kernel
theorem d_M_remove_85 : decode prog_10_method_31_code 85 = .ok (.istore_n 2, 1) := by decide +kernel
theorem d_M_remove_86 : decode prog_10_method_31_code 86 = .ok (.iload_n 2, 1) := by decide +kernel
theorem d_M_remove_87 : decode prog_10_method_31_code 87 = .ok (.aload_n 0, 1) := by decide +kernel
theorem d_M_remove_88 : decode prog_10_method_31_code 88 = .ok (.getfield 127, 3) := by decide +kernel
theorem d_M_remove_91 : decode prog_10_method_31_code 91 = .ok (.if_icmp .ge 23, 3) := by decide +kernel
theorem d_M_remove_94 : decode prog_10_method_31_code 94 = .ok (.aload_n 0, 1) := by decide +kernel
theorem d_M_remove_95 : decode prog_10_method_31_code 95 = .ok (.getfield 108, 3) := by decide +kernel
theorem d_M_remove_98 : decode prog_10_method_31_code 98 = .ok (.iload_n 2, 1) := by decide +kernel
theorem d_M_remove_99 : decode prog_10_method_31_code 99 = .ok (.aload_n 0, 1) := by decide +kernel
theorem d_M_remove_100 : decode prog_10_method_31_code 100 = .ok (.getfield 108, 3) := by decide +kernel
theorem d_M_remove_103 : decode prog_10_method_31_code 103 = .ok (.iload_n 2, 1) := by decide +kernel
theorem d_M_remove_104 : decode prog_10_method_31_code 104 = .ok (.iconst 1, 1) := by decide +kernel
theorem d_M_remove_105 : decode prog_10_method_31_code 105 = .ok (.iadd, 1) := by decide +kernel
theorem d_M_remove_106 : decode prog_10_method_31_code 106 = .ok (.laload, 1) := by decide +kernel
theorem d_M_remove_107 : decode prog_10_method_31_code 107 = .ok (.lastore, 1) := by decide +kernel
theorem d_M_remove_108 : decode prog_10_method_31_code 108 = .ok (.iinc 2 1, 3) := by decide +kernel
theorem d_M_remove_111 : decode prog_10_method_31_code 111 = .ok (.goto (-25), 3) := by decide +kernel
theorem d_M_remove_114 : decode prog_10_method_31_code 114 = .ok (.return_, 1) := by decide +kernel
theorem d_M_bring_0 : decode prog_10_method_32_code 0 = .ok (.aload_n 0, 1) := by decide +kernel
theorem d_M_bring_1 : decode prog_10_method_32_code 1 = .ok (.getfield 102, 3) := by decide +kernel
theorem d_M_bring_4 : decode prog_10_method_32_code 4 = .ok (.bipush 7, 2) := by decide +kernel
theorem d_M_bring_6 : decode prog_10_method_32_code 6 = .ok (.iload_n 1, 1) := by decide +kernel
theorem d_M_bring_7 : decode prog_10_method_32_code 7 = .ok (.imul, 1) := by decide +kernel
theorem d_M_bring_8 : decode prog_10_method_32_code 8 = .ok (.iaload, 1) := by decide +kernel
theorem d_M_bring_9 : decode prog_10_method_32_code 9 = .ok (.istore_n 2, 1) := by decide +kernel
theorem d_M_bring_10 : decode prog_10_method_32_code 10 = .ok (.aload_n 0, 1) := by decide +kernel
theorem d_M_bring_11 : decode prog_10_method_32_code 11 = .ok (.getfield 102, 3) := by decide +kernel
theorem d_M_bring_14 : decode prog_10_method_32_code 14 = .ok (.bipush 7, 2) := by decide +kernel
theorem d_M_bring_16 : decode prog_10_method_32_code 16 = .ok (.iload_n 1, 1) := by decide +kernel
theorem d_M_bring_17 : decode prog_10_method_32_code 17 = .ok (.imul, 1) := by decide +kernel
theorem d_M_bring_18 : decode prog_10_method_32_code 18 = .ok (.iconst 1, 1) := by decide +kernel
theorem d_M_bring_19 : decode prog_10_method_32_code 19 = .ok (.iadd, 1) := by decide +kernel
theorem d_M_bring_20 : decode prog_10_method_32_code 20 = .ok (.iaload, 1) := by decide +kernel
theorem d_M_bring_21 : decode prog_10_method_32_code 21 = .ok (.istore_n 3, 1) := by decide +kernel
theorem d_M_bring_22 : decode prog_10_method_32_code 22 = .ok (.aload_n 0, 1) := by decide +kernel
theorem d_M_bring_23 : decode prog_10_method_32_code 23 = .ok (.getfield 102, 3) := by decide +kernel
theorem d_M_bring_26 : decode prog_10_method_32_code 26 = .ok (.bipush 7, 2) := by decide +kernel
theorem d_M_bring_28 : decode prog_10_method_32_code 28 = .ok (.iload_n 1, 1) := by decide +kernel
theorem d_M_bring_29 : decode prog_10_method_32_code 29 = .ok (.imul, 1) := by decide +kernel
theorem d_M_bring_30 : decode prog_10_method_32_code 30 = .ok (.iconst 2, 1) := by decide +kernel
theorem d_M_bring_31 : decode prog_10_method_32_code 31 = .ok (.iadd, 1) := by decide +kernel
theorem d_M_bring_32 : decode prog_10_method_32_code 32 = .ok (.iaload, 1) := by decide +kernel
theorem d_M_bring_33 : decode prog_10_method_32_code 33 = .ok (.istore 4, 2) := by decide +kernel
theorem d_M_bring_35 : decode prog_10_method_32_code 35 = .ok (.aload_n 0, 1) := by decide +kernel
theorem d_M_bring_36 : decode prog_10_method_32_code 36 = .ok (.getfield 102, 3) := by decide +kernel
theorem d_M_bring_39 : decode prog_10_method_32_code 39 = .ok (.bipush 7, 2) := by decide +kernel
theorem d_M_bring_41 : decode prog_10_method_32_code 41 = .ok (.iload_n 1, 1) := by decide +kernel
theorem d_M_bring_42 : decode prog_10_method_32_code 42 = .ok (.imul, 1) := by decide +kernel
theorem d_M_bring_43 : decode prog_10_method_32_code 43 = .ok (.iconst 3, 1) := by decide +kernel
theorem d_M_bring_44 : decode prog_10_method_32_code 44 = .ok (.iadd, 1) := by decide +kernel
theorem d_M_bring_45 : decode prog_10_method_32_code 45 = .ok (.iaload, 1) := by decide +kernel
theorem d_M_bring_46 : decode prog_10_method_32_code 46 = .ok (.istore 5, 2) := by decide +kernel
theorem d_M_bring_48 : decode prog_10_method_32_code 48 = .ok (.aload_n 0, 1) := by decide +kernel
theorem d_M_bring_49 : decode prog_10_method_32_code 49 = .ok (.getfield 102, 3) := by decide +kernel
theorem d_M_bring_52 : decode prog_10_method_32_code 52 = .ok (.bipush 7, 2) := by decide +kernel
theorem d_M_bring_54 : decode prog_10_method_32_code 54 = .ok (.iload_n 1, 1) := by decide +kernel
theorem d_M_bring_55 : decode prog_10_method_32_code 55 = .ok (.imul, 1) := by decide +kernel
theorem d_M_bring_56 : decode prog_10_method_32_code 56 = .ok (.iconst 4, 1) := by decide +kernel
theorem d_M_bring_57 : decode prog_10_method_32_code 57 = .ok (.iadd, 1) := by decide +kernel
theorem d_M_bring_58 : decode prog_10_method_32_code 58 = .ok (.iaload, 1) := by decide +kernel
theorem d_M_bring_59 : decode prog_10_method_32_code 59 = .ok (.istore 6, 2) := by decide +kernel
theorem d_M_bring_61 : decode prog_10_method_32_code 61 = .ok (.aload_n 0, 1) := by decide +kernel
theorem d_M_bring_62 : decode prog_10_method_32_code 62 = .ok (.getfield 102, 3) := by decide +kernel
theorem d_M_bring_65 : decode prog_10_method_32_code 65 = .ok (.bipush 7, 2) := by decide +kernel
theorem d_M_bring_67 : decode prog_10_method_32_code 67 = .ok (.iload_n 1, 1) := by decide +kernel
theorem d_M_bring_68 : decode prog_10_method_32_code 68 = .ok (.imul, 1) := by decide +kernel
theorem d_M_bring_69 : decode prog_10_method_32_code 69 = .ok (.iconst 5, 1) := by decide +kernel
theorem d_M_bring_70 : decode prog_10_method_32_code 70 = .ok (.iadd, 1) := by decide +kernel
theorem d_M_bring_71 : decode prog_10_method_32_code 71 = .ok (.iaload, 1) := by decide +kernel
theorem d_M_bring_72 : decode prog_10_method_32_code 72 = .ok (.istore 7, 2) := by decide +kernel
theorem d_M_bring_74 : decode prog_10_method_32_code 74 = .ok (.aload_n 0, 1) := by decide +kernel
theorem d_M_bring_75 : decode prog_10_method_32_code 75 = .ok (.aload_n 0, 1) := by decide +kernel
theorem d_M_bring_76 : decode prog_10_method_32_code 76 = .ok (.getfield 102, 3) := by decide +kernel
theorem d_M_bring_79 : decode prog_10_method_32_code 79 = .ok (.bipush 7, 2) := by decide +kernel
theorem d_M_bring_81 : decode prog_10_method_32_code 81 = .ok (.iload_n 1, 1) := by decide +kernel
theorem d_M_bring_82 : decode prog_10_method_32_code 82 = .ok (.imul, 1) := by decide +kernel
theorem d_M_bring_83 : decode prog_10_method_32_code 83 = .ok (.bipush 6, 2) := by decide +kernel
theorem d_M_bring_85 : decode prog_10_method_32_code 85 = .ok (.iadd, 1) := by decide +kernel
theorem d_M_bring_86 : decode prog_10_method_32_code 86 = .ok (.iaload, 1) := by decide +kernel
theorem d_M_bring_87 : decode prog_10_method_32_code 87 = .ok (.putfield 130, 3) := by decide +kernel
theorem d_M_bring_90 : decode prog_10_method_32_code 90 = .ok (.iconst 0, 1) := by decide +kernel
theorem d_M_bring_91 : decode prog_10_method_32_code 91 = .ok (.istore 8, 2) := by decide +kernel
theorem d_M_bring_93 : decode prog_10_method_32_code 93 = .ok (.iload 8, 2) := by decide +kernel
theorem d_M_bring_95 : decode prog_10_method_32_code 95 = .ok (.bipush 64, 2) := by decide +kernel
theorem d_M_bring_97 : decode prog_10_method_32_code 97 = .ok (.if_icmp .ge 28, 3) := by decide +kernel
theorem d_M_bring_100 : decode prog_10_method_32_code 100 = .ok (.aload_n 0, 1) := by decide +kernel
theorem d_M_bring_101 : decode prog_10_method_32_code 101 = .ok (.getfield 111, 3) := by decide +kernel
theorem d_M_bring_104 : decode prog_10_method_32_code 104 = .ok (.iload 8, 2) := by decide +kernel
theorem d_M_bring_106 : decode prog_10_method_32_code 106 = .ok (.aload_n 0, 1) := by decide +kernel
theorem d_M_bring_107 : decode prog_10_method_32_code 107 = .ok (.getfield 105, 3) := by decide +kernel
theorem d_M_bring_110 : decode prog_10_method_32_code 110 = .ok (.bipush 64, 2) := by decide +kernel
theorem d_M_bring_112 : decode prog_10_method_32_code 112 = .ok (.iload_n 1, 1) := by decide +kernel
theorem d_M_bring_113 : decode prog_10_method_32_code 113 = .ok (.imul, 1) := by decide +kernel
theorem d_M_bring_114 : decode prog_10_method_32_code 114 = .ok (.iload 8, 2) := by decide +kernel
theorem d_M_bring_116 : decode prog_10_method_32_code 116 = .ok (.iadd, 1) := by decide +kernel
theorem d_M_bring_117 : decode prog_10_method_32_code 117 = .ok (.iaload, 1) := by decide +kernel
theorem d_M_bring_118 : decode prog_10_method_32_code 118 = .ok (.iastore, 1) := by decide +kernel
theorem d_M_bring_119 : decode prog_10_method_32_code 119 = .ok (.iinc 8 1, 3) := by decide +kernel
theorem d_M_bring_122 : decode prog_10_method_32_code 122 = .ok (.goto (-29), 3) := by decide +kernel
theorem d_M_bring_125 : decode prog_10_method_32_code 125 = .ok (.aload_n 0, 1) := by decide +kernel
theorem d_M_bring_126 : decode prog_10_method_32_code 126 = .ok (.aload_n 0, 1) := by decide +kernel
theorem d_M_bring_127 : decode prog_10_method_32_code 127 = .ok (.getfield 108, 3) := by decide +kernel
theorem d_M_bring_130 : decode prog_10_method_32_code 130 = .ok (.iload_n 1, 1) := by decide +kernel
theorem d_M_bring_131 : decode prog_10_method_32_code 131 = .ok (.laload, 1) := by decide +kernel
theorem d_M_bring_132 : decode prog_10_method_32_code 132 = .ok (.putfield 133, 3) := by decide +kernel
theorem d_M_bring_135 : decode prog_10_method_32_code 135 = .ok (.aload_n 0, 1) := by decide +kernel
theorem d_M_bring_136 : decode prog_10_method_32_code 136 = .ok (.iload_n 1, 1) := by decide +kernel
theorem d_M_bring_137 : decode prog_10_method_32_code 137 = .ok (.invokevirtual 214, 3) := by decide +kernel
theorem d_M_bring_140 : decode prog_10_method_32_code 140 = .ok (.aload_n 0, 1) := by decide +kernel
theorem d_M_bring_141 : decode prog_10_method_32_code 141 = .ok (.iload_n 3, 1) := by decide +kernel
theorem d_M_bring_142 : decode prog_10_method_32_code 142 = .ok (.invokevirtual 217, 3) := by decide +kernel
theorem d_M_bring_145 : decode prog_10_method_32_code 145 = .ok (.istore 8, 2) := by decide +kernel
theorem d_M_bring_147 : decode prog_10_method_32_code 147 = .ok (.iload 8, 2) := by decide +kernel
theorem d_M_bring_149 : decode prog_10_method_32_code 149 = .ok (.iconst (-1), 1) := by decide +kernel
theorem d_M_bring_150 : decode prog_10_method_32_code 150 = .ok (.if_icmp .eq 13, 3) := by decide +kernel
theorem d_M_bring_153 : decode prog_10_method_32_code 153 = .ok (.aload_n 0, 1) := by decide +kernel
theorem d_M_bring_154 : decode prog_10_method_32_code 154 = .ok (.getfield 7, 3) := by decide +kernel
theorem d_M_bring_157 : decode prog_10_method_32_code 157 = .ok (.iload 7, 2) := by decide +kernel
theorem d_M_bring_159 : decode prog_10_method_32_code 159 = .ok (.baload, 1) := by decide +kernel
theorem d_M_bring_160 : decode prog_10_method_32_code 160 = .ok (.ifCond .eq 4, 3) := by decide +kernel
theorem d_M_bring_163 : decode prog_10_method_32_code 163 = .ok (.return_, 1) := by decide +kernel
theorem d_M_bring_164 : decode prog_10_method_32_code 164 = .ok (.iload_n 2, 1) := by decide +kernel
theorem d_M_bring_165 : decode prog_10_method_32_code 165 = .ok (.iconst 2, 1) := by decide +kernel
theorem d_M_bring_166 : decode prog_10_method_32_code 166 = .ok (.irem, 1) := by decide +kernel
theorem d_M_bring_167 : decode prog_10_method_32_code 167 = .ok (.ifCond .ne 86, 3) := by decide +kernel
theorem d_M_bring_170 : decode prog_10_method_32_code 170 = .ok (.aload_n 0, 1) := by decide +kernel
theorem d_M_bring_171 : decode prog_10_method_32_code 171 = .ok (.getfield 32, 3) := by decide +kernel
theorem d_M_bring_174 : decode prog_10_method_32_code 174 = .ok (.iload 8, 2) := by decide +kernel
theorem d_M_bring_176 : decode prog_10_method_32_code 176 = .ok (.iaload, 1) := by decide +kernel
theorem d_M_bring_177 : decode prog_10_method_32_code 177 = .ok (.iload 7, 2) := by decide +kernel
theorem d_M_bring_179 : decode prog_10_method_32_code 179 = .ok (.if_icmp .ne 57, 3) := by decide +kernel
theorem d_M_bring_182 : decode prog_10_method_32_code 182 = .ok (.aload_n 0, 1) := by decide +kernel
theorem d_M_bring_183 : decode prog_10_method_32_code 183 = .ok (.getfield 41, 3) := by decide +kernel
theorem d_M_bring_186 : decode prog_10_method_32_code 186 = .ok (.iload 8, 2) := by decide +kernel
theorem d_M_bring_188 : decode prog_10_method_32_code 188 = .ok (.iaload, 1) := by decide +kernel
theorem d_M_bring_189 : decode prog_10_method_32_code 189 = .ok (.ifCond .ne 47, 3) := by decide +kernel
theorem d_M_bring_192 : decode prog_10_method_32_code 192 = .ok (.aload_n 0, 1) := by decide +kernel
theorem d_M_bring_193 : decode prog_10_method_32_code 193 = .ok (.getfield 35, 3) := by decide +kernel
theorem d_M_bring_196 : decode prog_10_method_32_code 196 = .ok (.iload 8, 2) := by decide +kernel
theorem d_M_bring_198 : decode prog_10_method_32_code 198 = .ok (.iaload, 1) := by decide +kernel
theorem d_M_bring_199 : decode prog_10_method_32_code 199 = .ok (.iload 4, 2) := by decide +kernel
theorem d_M_bring_201 : decode prog_10_method_32_code 201 = .ok (.if_icmp .ne 35, 3) := by decide +kernel
theorem d_M_bring_204 : decode prog_10_method_32_code 204 = .ok (.aload_n 0, 1) := by decide +kernel
theorem d_M_bring_205 : decode prog_10_method_32_code 205 = .ok (.getfield 38, 3) := by decide +kernel
theorem d_M_bring_208 : decode prog_10_method_32_code 208 = .ok (.iload 8, 2) := by decide +kernel
theorem d_M_bring_210 : decode prog_10_method_32_code 210 = .ok (.iaload, 1) := by decide +kernel
theorem d_M_bring_211 : decode prog_10_method_32_code 211 = .ok (.iload 5, 2) := by decide +kernel
theorem d_M_bring_213 : decode prog_10_method_32_code 213 = .ok (.if_icmp .ne 23, 3) := by decide +kernel
theorem d_M_bring_216 : decode prog_10_method_32_code 216 = .ok (.aload_n 0, 1) := by decide +kernel
theorem d_M_bring_217 : decode prog_10_method_32_code 217 = .ok (.getfield 87, 3) := by decide +kernel
theorem d_M_bring_220 : decode prog_10_method_32_code 220 = .ok (.bipush 8, 2) := by decide +kernel
theorem d_M_bring_222 : decode prog_10_method_32_code 222 = .ok (.iload 8, 2) := by decide +kernel
theorem d_M_bring_224 : decode prog_10_method_32_code 224 = .ok (.imul, 1) := by decide +kernel
theorem d_M_bring_225 : decode prog_10_method_32_code 225 = .ok (.iload 6, 2) := by decide +kernel
theorem d_M_bring_227 : decode prog_10_method_32_code 227 = .ok (.iadd, 1) := by decide +kernel
theorem d_M_bring_228 : decode prog_10_method_32_code 228 = .ok (.baload, 1) := by decide +kernel
theorem d_M_bring_229 : decode prog_10_method_32_code 229 = .ok (.ifCond .ne 7, 3) := by decide +kernel
theorem d_M_bring_232 : decode prog_10_method_32_code 232 = .ok (.iconst 1, 1) := by decide +kernel
theorem d_M_bring_233 : decode prog_10_method_32_code 233 = .ok (.goto 4, 3) := by decide +kernel
theorem d_M_bring_236 : decode prog_10_method_32_code 236 = .ok (.iconst 0, 1) := by decide +kernel
theorem d_M_bring_237 : decode prog_10_method_32_code 237 = .ok (.istore 9, 2) := by decide +kernel
theorem d_M_bring_239 : decode prog_10_method_32_code 239 = .ok (.iload 9, 2) := by decide +kernel
theorem d_M_bring_241 : decode prog_10_method_32_code 241 = .ok (.ifCond .eq 11, 3) := by decide +kernel
theorem d_M_bring_244 : decode prog_10_method_32_code 244 = .ok (.aload_n 0, 1) := by decide +kernel
theorem d_M_bring_245 : decode prog_10_method_32_code 245 = .ok (.iload 8, 2) := by decide +kernel
theorem d_M_bring_247 : decode prog_10_method_32_code 247 = .ok (.iload 6, 2) := by decide +kernel
theorem d_M_bring_249 : decode prog_10_method_32_code 249 = .ok (.invokevirtual 220, 3) := by decide +kernel
theorem d_M_bring_252 : decode prog_10_method_32_code 252 = .ok (.return_, 1) := by decide +kernel
theorem d_M_bring_253 : decode prog_10_method_32_code 253 = .ok (.iload_n 2, 1) := by decide +kernel
theorem d_M_bring_254 : decode prog_10_method_32_code 254 = .ok (.iconst 1, 1) := by decide +kernel
theorem d_M_bring_255 : decode prog_10_method_32_code 255 = .ok (.if_icmp .ne 40, 3) := by decide +kernel
theorem d_M_bring_258 : decode prog_10_method_32_code 258 = .ok (.aload_n 0, 1) := by decide +kernel
theorem d_M_bring_259 : decode prog_10_method_32_code 259 = .ok (.getfield 56, 3) := by decide +kernel
theorem d_M_bring_262 : decode prog_10_method_32_code 262 = .ok (.bipush 8, 2) := by decide +kernel
theorem d_M_bring_264 : decode prog_10_method_32_code 264 = .ok (.iload 8, 2) := by decide +kernel
theorem d_M_bring_266 : decode prog_10_method_32_code 266 = .ok (.imul, 1) := by decide +kernel
theorem d_M_bring_267 : decode prog_10_method_32_code 267 = .ok (.iload 7, 2) := by decide +kernel
theorem d_M_bring_269 : decode prog_10_method_32_code 269 = .ok (.iadd, 1) := by decide +kernel
theorem d_M_bring_270 : decode prog_10_method_32_code 270 = .ok (.iaload, 1) := by decide +kernel
theorem d_M_bring_271 : decode prog_10_method_32_code 271 = .ok (.iconst (-1), 1) := by decide +kernel
theorem d_M_bring_272 : decode prog_10_method_32_code 272 = .ok (.if_icmp .ne 23, 3) := by decide +kernel
theorem d_M_bring_275 : decode prog_10_method_32_code 275 = .ok (.aload_n 0, 1) := by decide +kernel
theorem d_M_bring_276 : decode prog_10_method_32_code 276 = .ok (.getfield 56, 3) := by decide +kernel
theorem d_M_bring_279 : decode prog_10_method_32_code 279 = .ok (.bipush 8, 2) := by decide +kernel
theorem d_M_bring_281 : decode prog_10_method_32_code 281 = .ok (.iload 8, 2) := by decide +kernel
theorem d_M_bring_283 : decode prog_10_method_32_code 283 = .ok (.imul, 1) := by decide +kernel
theorem d_M_bring_284 : decode prog_10_method_32_code 284 = .ok (.iload 7, 2) := by decide +kernel
theorem d_M_bring_286 : decode prog_10_method_32_code 286 = .ok (.iadd, 1) := by decide +kernel
theorem d_M_bring_287 : decode prog_10_method_32_code 287 = .ok (.aload_n 0, 1) := by decide +kernel
theorem d_M_bring_288 : decode prog_10_method_32_code 288 = .ok (.getfield 13, 3) := by decide +kernel
theorem d_M_bring_291 : decode prog_10_method_32_code 291 = .ok (.iload 7, 2) := by decide +kernel
theorem d_M_bring_293 : decode prog_10_method_32_code 293 = .ok (.iaload, 1) := by decide +kernel
theorem d_M_bring_294 : decode prog_10_method_32_code 294 = .ok (.iastore, 1) := by decide +kernel
theorem d_M_bring_295 : decode prog_10_method_32_code 295 = .ok (.aload_n 0, 1) := by decide +kernel
theorem d_M_bring_296 : decode prog_10_method_32_code 296 = .ok (.getfield 56, 3) := by decide +kernel
theorem d_M_bring_299 : decode prog_10_method_32_code 299 = .ok (.bipush 8, 2) := by decide +kernel
theorem d_M_bring_301 : decode prog_10_method_32_code 301 = .ok (.iload 8, 2) := by decide +kernel
theorem d_M_bring_303 : decode prog_10_method_32_code 303 = .ok (.imul, 1) := by decide +kernel
theorem d_M_bring_304 : decode prog_10_method_32_code 304 = .ok (.iload 7, 2) := by decide +kernel
theorem d_M_bring_306 : decode prog_10_method_32_code 306 = .ok (.iadd, 1) := by decide +kernel
theorem d_M_bring_307 : decode prog_10_method_32_code 307 = .ok (.iaload, 1) := by decide +kernel
theorem d_M_bring_308 : decode prog_10_method_32_code 308 = .ok (.iconst (-1), 1) := by decide +kernel
theorem d_M_bring_309 : decode prog_10_method_32_code 309 = .ok (.if_icmp .eq 28, 3) := by decide +kernel
theorem d_M_bring_312 : decode prog_10_method_32_code 312 = .ok (.aload_n 0, 1) := by decide +kernel
theorem d_M_bring_313 : decode prog_10_method_32_code 313 = .ok (.iload_n 2, 1) := by decide +kernel
theorem d_M_bring_314 : decode prog_10_method_32_code 314 = .ok (.iload 7, 2) := by decide +kernel
theorem d_M_bring_316 : decode prog_10_method_32_code 316 = .ok (.iload 8, 2) := by decide +kernel
theorem d_M_bring_318 : decode prog_10_method_32_code 318 = .ok (.invokevirtual 223, 3) := by decide +kernel
theorem d_M_bring_321 : decode prog_10_method_32_code 321 = .ok (.aload_n 0, 1) := by decide +kernel
theorem d_M_bring_322 : decode prog_10_method_32_code 322 = .ok (.iload_n 2, 1) := by decide +kernel
theorem d_M_bring_323 : decode prog_10_method_32_code 323 = .ok (.iconst 1, 1) := by decide +kernel
theorem d_M_bring_324 : decode prog_10_method_32_code 324 = .ok (.iadd, 1) := by decide +kernel
theorem d_M_bring_325 : decode prog_10_method_32_code 325 = .ok (.iload_n 3, 1) := by decide +kernel
theorem d_M_bring_326 : decode prog_10_method_32_code 326 = .ok (.iload 4, 2) := by decide +kernel
theorem d_M_bring_328 : decode prog_10_method_32_code 328 = .ok (.iload 5, 2) := by decide +kernel
theorem d_M_bring_330 : decode prog_10_method_32_code 330 = .ok (.iload 7, 2) := by decide +kernel
theorem d_M_bring_332 : decode prog_10_method_32_code 332 = .ok (.iload 6, 2) := by decide +kernel
theorem d_M_bring_334 : decode prog_10_method_32_code 334 = .ok (.invokevirtual 146, 3) := by decide +kernel
theorem d_M_bring_337 : decode prog_10_method_32_code 337 = .ok (.return_, 1) := by decide +kernel
theorem d_M_isLetter_0 : decode prog_10_method_33_code 0 = .ok (.iload_n 1, 1) := by decide +kernel
theorem d_M_isLetter_1 : decode prog_10_method_33_code 1 = .ok (.ifCond .lt 15, 3) := by decide +kernel
theorem d_M_isLetter_4 : decode prog_10_method_33_code 4 = .ok (.iload_n 1, 1) := by decide +kernel
theorem d_M_isLetter_5 : decode prog_10_method_33_code 5 = .ok (.aload_n 0, 1) := by decide +kernel
theorem d_M_isLetter_6 : decode prog_10_method_33_code 6 = .ok (.getfield 127, 3) := by decide +kernel
theorem d_M_isLetter_9 : decode prog_10_method_33_code 9 = .ok (.if_icmp .ge 7, 3) := by decide +kernel
theorem d_M_isLetter_12 : decode prog_10_method_33_code 12 = .ok (.iconst 1, 1) := by decide +kernel
theorem d_M_isLetter_13 : decode prog_10_method_33_code 13 = .ok (.goto 4, 3) := by decide +kernel
theorem d_M_isLetter_16 : decode prog_10_method_33_code 16 = .ok (.iconst 0, 1) := by decide +kernel
theorem d_M_isLetter_17 : decode prog_10_method_33_code 17 = .ok (.ireturn, 1) := by decide +kernel
theorem d_M_letters_0 : decode prog_10_method_34_code 0 = .ok (.aload_n 0, 1) := by decide +kernel
theorem d_M_letters_1 : decode prog_10_method_34_code 1 = .ok (.iconst 0, 1) := by decide +kernel
theorem d_M_letters_2 : decode prog_10_method_34_code 2 = .ok (.putfield 114, 3) := by decide +kernel
theorem d_M_letters_5 : decode prog_10_method_34_code 5 = .ok (.aload_n 0, 1) := by decide +kernel
theorem d_M_letters_6 : decode prog_10_method_34_code 6 = .ok (.getfield 127, 3) := by decide +kernel
theorem d_M_letters_9 : decode prog_10_method_34_code 9 = .ok (.ireturn, 1) := by decide +kernel
theorem d_M_letter_0 : decode prog_10_method_35_code 0 = .ok (.aload_n 0, 1) := by decide +kernel
theorem d_M_letter_1 : decode prog_10_method_35_code 1 = .ok (.aload_n 0, 1) := by decide +kernel
theorem d_M_letter_2 : decode prog_10_method_35_code 2 = .ok (.iload_n 1, 1) := by decide +kernel
theorem d_M_letter_3 : decode prog_10_method_35_code 3 = .ok (.invokevirtual 227, 3) := by decide +kernel
theorem d_M_letter_6 : decode prog_10_method_35_code 6 = .ok (.ifCond .ne 7, 3) := by decide +kernel
theorem d_M_letter_9 : decode prog_10_method_35_code 9 = .ok (.iconst 1, 1) := by decide +kernel
theorem d_M_letter_10 : decode prog_10_method_35_code 10 = .ok (.goto 18, 3) := by decide +kernel
theorem d_M_letter_13 : decode prog_10_method_35_code 13 = .ok (.iload_n 2, 1) := by decide +kernel
theorem d_M_letter_14 : decode prog_10_method_35_code 14 = .ok (.ifCond .lt 9, 3) := by decide +kernel
theorem d_M_letter_17 : decode prog_10_method_35_code 17 = .ok (.iload_n 2, 1) := by decide +kernel
theorem d_M_letter_18 : decode prog_10_method_35_code 18 = .ok (.bipush 70, 2) := by decide +kernel
theorem d_M_letter_20 : decode prog_10_method_35_code 20 = .ok (.if_icmp .le 7, 3) := by decide +kernel
theorem d_M_letter_23 : decode prog_10_method_35_code 23 = .ok (.iconst 2, 1) := by decide +kernel
theorem d_M_letter_24 : decode prog_10_method_35_code 24 = .ok (.goto 4, 3) := by decide +kernel
theorem d_M_letter_27 : decode prog_10_method_35_code 27 = .ok (.iconst 0, 1) := by decide +kernel
theorem d_M_letter_28 : decode prog_10_method_35_code 28 = .ok (.putfield 114, 3) := by decide +kernel
theorem d_M_letter_31 : decode prog_10_method_35_code 31 = .ok (.aload_n 0, 1) := by decide +kernel
theorem d_M_letter_32 : decode prog_10_method_35_code 32 = .ok (.getfield 114, 3) := by decide +kernel
theorem d_M_letter_35 : decode prog_10_method_35_code 35 = .ok (.ifCond .le 5, 3) := by decide +kernel
theorem d_M_letter_38 : decode prog_10_method_35_code 38 = .ok (.iconst 0, 1) := by decide +kernel
theorem d_M_letter_39 : decode prog_10_method_35_code 39 = .ok (.ireturn, 1) := by decide +kernel
theorem d_M_letter_40 : decode prog_10_method_35_code 40 = .ok (.iload_n 2, 1) := by decide +kernel
theorem d_M_letter_41 : decode prog_10_method_35_code 41 = .ok (.bipush 6, 2) := by decide +kernel
theorem d_M_letter_43 : decode prog_10_method_35_code 43 = .ok (.if_icmp .le 18, 3) := by decide +kernel
theorem d_M_letter_46 : decode prog_10_method_35_code 46 = .ok (.aload_n 0, 1) := by decide +kernel
theorem d_M_letter_47 : decode prog_10_method_35_code 47 = .ok (.getfield 105, 3) := by decide +kernel
theorem d_M_letter_50 : decode prog_10_method_35_code 50 = .ok (.bipush 64, 2) := by decide +kernel
theorem d_M_letter_52 : decode prog_10_method_35_code 52 = .ok (.iload_n 1, 1) := by decide +kernel
theorem d_M_letter_53 : decode prog_10_method_35_code 53 = .ok (.imul, 1) := by decide +kernel
theorem d_M_letter_54 : decode prog_10_method_35_code 54 = .ok (.iload_n 2, 1) := by decide +kernel
theorem d_M_letter_55 : decode prog_10_method_35_code 55 = .ok (.iadd, 1) := by decide +kernel
theorem d_M_letter_56 : decode prog_10_method_35_code 56 = .ok (.bipush 7, 2) := by decide +kernel
theorem d_M_letter_58 : decode prog_10_method_35_code 58 = .ok (.isub, 1) := by decide +kernel
theorem d_M_letter_59 : decode prog_10_method_35_code 59 = .ok (.iaload, 1) := by decide +kernel
theorem d_M_letter_60 : decode prog_10_method_35_code 60 = .ok (.ireturn, 1) := by decide +kernel
theorem d_M_letter_61 : decode prog_10_method_35_code 61 = .ok (.bipush 7, 2) := by decide +kernel
theorem d_M_letter_63 : decode prog_10_method_35_code 63 = .ok (.iload_n 1, 1) := by decide +kernel
theorem d_M_letter_64 : decode prog_10_method_35_code 64 = .ok (.imul, 1) := by decide +kernel
theorem d_M_letter_65 : decode prog_10_method_35_code 65 = .ok (.istore_n 3, 1) := by decide +kernel
theorem d_M_letter_66 : decode prog_10_method_35_code 66 = .ok (.iload_n 2, 1) := by decide +kernel
theorem d_M_letter_67 : decode prog_10_method_35_code 67 = .ok (.ifCond .ne 12, 3) := by decide +kernel
theorem d_M_letter_70 : decode prog_10_method_35_code 70 = .ok (.aload_n 0, 1) := by decide +kernel
theorem d_M_letter_71 : decode prog_10_method_35_code 71 = .ok (.getfield 102, 3) := by decide +kernel
theorem d_M_letter_74 : decode prog_10_method_35_code 74 = .ok (.iload_n 3, 1) := by decide +kernel
theorem d_M_letter_75 : decode prog_10_method_35_code 75 = .ok (.iaload, 1) := by decide +kernel
theorem d_M_letter_76 : decode prog_10_method_35_code 76 = .ok (.goto 92, 3) := by decide +kernel
theorem d_M_letter_79 : decode prog_10_method_35_code 79 = .ok (.iload_n 2, 1) := by decide +kernel
theorem d_M_letter_80 : decode prog_10_method_35_code 80 = .ok (.iconst 1, 1) := by decide +kernel
theorem d_M_letter_81 : decode prog_10_method_35_code 81 = .ok (.if_icmp .ne 14, 3) := by decide +kernel
theorem d_M_letter_84 : decode prog_10_method_35_code 84 = .ok (.aload_n 0, 1) := by decide +kernel
theorem d_M_letter_85 : decode prog_10_method_35_code 85 = .ok (.getfield 102, 3) := by decide +kernel
theorem d_M_letter_88 : decode prog_10_method_35_code 88 = .ok (.iload_n 3, 1) := by decide +kernel
theorem d_M_letter_89 : decode prog_10_method_35_code 89 = .ok (.iconst 1, 1) := by decide +kernel
theorem d_M_letter_90 : decode prog_10_method_35_code 90 = .ok (.iadd, 1) := by decide +kernel
theorem d_M_letter_91 : decode prog_10_method_35_code 91 = .ok (.iaload, 1) := by decide +kernel
theorem d_M_letter_92 : decode prog_10_method_35_code 92 = .ok (.goto 76, 3) := by decide +kernel
theorem d_M_letter_95 : decode prog_10_method_35_code 95 = .ok (.iload_n 2, 1) := by decide +kernel
theorem d_M_letter_96 : decode prog_10_method_35_code 96 = .ok (.iconst 2, 1) := by decide +kernel
theorem d_M_letter_97 : decode prog_10_method_35_code 97 = .ok (.if_icmp .ne 14, 3) := by decide +kernel
theorem d_M_letter_100 : decode prog_10_method_35_code 100 = .ok (.aload_n 0, 1) := by decide +kernel
theorem d_M_letter_101 : decode prog_10_method_35_code 101 = .ok (.getfield 102, 3) := by decide +kernel
theorem d_M_letter_104 : decode prog_10_method_35_code 104 = .ok (.iload_n 3, 1) := by decide +kernel
theorem d_M_letter_105 : decode prog_10_method_35_code 105 = .ok (.iconst 3, 1) := by decide +kernel
theorem d_M_letter_106 : decode prog_10_method_35_code 106 = .ok (.iadd, 1) := by decide +kernel
theorem d_M_letter_107 : decode prog_10_method_35_code 107 = .ok (.iaload, 1) := by decide +kernel
theorem d_M_letter_108 : decode prog_10_method_35_code 108 = .ok (.goto 60, 3) := by decide +kernel
theorem d_M_letter_111 : decode prog_10_method_35_code 111 = .ok (.iload_n 2, 1) := by decide +kernel
theorem d_M_letter_112 : decode prog_10_method_35_code 112 = .ok (.iconst 3, 1) := by decide +kernel
theorem d_M_letter_113 : decode prog_10_method_35_code 113 = .ok (.if_icmp .ne 14, 3) := by decide +kernel
theorem d_M_letter_116 : decode prog_10_method_35_code 116 = .ok (.aload_n 0, 1) := by decide +kernel
theorem d_M_letter_117 : decode prog_10_method_35_code 117 = .ok (.getfield 102, 3) := by decide +kernel
theorem d_M_letter_120 : decode prog_10_method_35_code 120 = .ok (.iload_n 3, 1) := by decide +kernel
theorem d_M_letter_121 : decode prog_10_method_35_code 121 = .ok (.iconst 4, 1) := by decide +kernel
theorem d_M_letter_122 : decode prog_10_method_35_code 122 = .ok (.iadd, 1) := by decide +kernel
theorem d_M_letter_123 : decode prog_10_method_35_code 123 = .ok (.iaload, 1) := by decide +kernel
theorem d_M_letter_124 : decode prog_10_method_35_code 124 = .ok (.goto 44, 3) := by decide +kernel
theorem d_M_letter_127 : decode prog_10_method_35_code 127 = .ok (.iload_n 2, 1) := by decide +kernel
theorem d_M_letter_128 : decode prog_10_method_35_code 128 = .ok (.iconst 4, 1) := by decide +kernel
theorem d_M_letter_129 : decode prog_10_method_35_code 129 = .ok (.if_icmp .ne 14, 3) := by decide +kernel
theorem d_M_letter_132 : decode prog_10_method_35_code 132 = .ok (.aload_n 0, 1) := by decide +kernel
theorem d_M_letter_133 : decode prog_10_method_35_code 133 = .ok (.getfield 102, 3) := by decide +kernel
theorem d_M_letter_136 : decode prog_10_method_35_code 136 = .ok (.iload_n 3, 1) := by decide +kernel
theorem d_M_letter_137 : decode prog_10_method_35_code 137 = .ok (.iconst 5, 1) := by decide +kernel
theorem d_M_letter_138 : decode prog_10_method_35_code 138 = .ok (.iadd, 1) := by decide +kernel
theorem d_M_letter_139 : decode prog_10_method_35_code 139 = .ok (.iaload, 1) := by decide +kernel
theorem d_M_letter_140 : decode prog_10_method_35_code 140 = .ok (.goto 28, 3) := by decide +kernel
theorem d_M_letter_143 : decode prog_10_method_35_code 143 = .ok (.iload_n 2, 1) := by decide +kernel
theorem d_M_letter_144 : decode prog_10_method_35_code 144 = .ok (.iconst 5, 1) := by decide +kernel
theorem d_M_letter_145 : decode prog_10_method_35_code 145 = .ok (.if_icmp .ne 14, 3) := by decide +kernel
theorem d_M_letter_148 : decode prog_10_method_35_code 148 = .ok (.aload_n 0, 1) := by decide +kernel
theorem d_M_letter_149 : decode prog_10_method_35_code 149 = .ok (.getfield 102, 3) := by decide +kernel
theorem d_M_letter_152 : decode prog_10_method_35_code 152 = .ok (.iload_n 3, 1) := by decide +kernel
theorem d_M_letter_153 : decode prog_10_method_35_code 153 = .ok (.iconst 2, 1) := by decide +kernel
theorem d_M_letter_154 : decode prog_10_method_35_code 154 = .ok (.iadd, 1) := by decide +kernel
theorem d_M_letter_155 : decode prog_10_method_35_code 155 = .ok (.iaload, 1) := by decide +kernel
theorem d_M_letter_156 : decode prog_10_method_35_code 156 = .ok (.goto 12, 3) := by decide +kernel
theorem d_M_letter_159 : decode prog_10_method_35_code 159 = .ok (.aload_n 0, 1) := by decide +kernel
theorem d_M_letter_160 : decode prog_10_method_35_code 160 = .ok (.getfield 102, 3) := by decide +kernel
theorem d_M_letter_163 : decode prog_10_method_35_code 163 = .ok (.iload_n 3, 1) := by decide +kernel
theorem d_M_letter_164 : decode prog_10_method_35_code 164 = .ok (.bipush 6, 2) := by decide +kernel
theorem d_M_letter_166 : decode prog_10_method_35_code 166 = .ok (.iadd, 1) := by decide +kernel
theorem d_M_letter_167 : decode prog_10_method_35_code 167 = .ok (.iaload, 1) := by decide +kernel
theorem d_M_letter_168 : decode prog_10_method_35_code 168 = .ok (.ireturn, 1) := by decide +kernel
theorem d_M_deliver_0 : decode prog_10_method_36_code 0 = .ok (.aload_n 0, 1) := by decide +kernel
theorem d_M_deliver_1 : decode prog_10_method_36_code 1 = .ok (.aload_n 0, 1) := by decide +kernel
theorem d_M_deliver_2 : decode prog_10_method_36_code 2 = .ok (.iload_n 1, 1) := by decide +kernel
theorem d_M_deliver_3 : decode prog_10_method_36_code 3 = .ok (.invokevirtual 227, 3) := by decide +kernel
theorem d_M_deliver_6 : decode prog_10_method_36_code 6 = .ok (.ifCond .eq 7, 3) := by decide +kernel
theorem d_M_deliver_9 : decode prog_10_method_36_code 9 = .ok (.iconst 0, 1) := by decide +kernel
theorem d_M_deliver_10 : decode prog_10_method_36_code 10 = .ok (.goto 4, 3) := by decide +kernel
theorem d_M_deliver_13 : decode prog_10_method_36_code 13 = .ok (.iconst 1, 1) := by decide +kernel
theorem d_M_deliver_14 : decode prog_10_method_36_code 14 = .ok (.putfield 114, 3) := by decide +kernel
theorem d_M_deliver_17 : decode prog_10_method_36_code 17 = .ok (.aload_n 0, 1) := by decide +kernel
theorem d_M_deliver_18 : decode prog_10_method_36_code 18 = .ok (.getfield 114, 3) := by decide +kernel
theorem d_M_deliver_21 : decode prog_10_method_36_code 21 = .ok (.ifCond .ne 8, 3) := by decide +kernel
theorem d_M_deliver_24 : decode prog_10_method_36_code 24 = .ok (.aload_n 0, 1) := by decide +kernel
theorem d_M_deliver_25 : decode prog_10_method_36_code 25 = .ok (.iload_n 1, 1) := by decide +kernel
theorem d_M_deliver_26 : decode prog_10_method_36_code 26 = .ok (.invokevirtual 230, 3) := by decide +kernel
theorem d_M_deliver_29 : decode prog_10_method_36_code 29 = .ok (.aload_n 0, 1) := by decide +kernel
theorem d_M_deliver_30 : decode prog_10_method_36_code 30 = .ok (.getfield 114, 3) := by decide +kernel
theorem d_M_deliver_33 : decode prog_10_method_36_code 33 = .ok (.ifCond .le 7, 3) := by decide +kernel
theorem d_M_deliver_36 : decode prog_10_method_36_code 36 = .ok (.iconst 0, 1) := by decide +kernel
theorem d_M_deliver_37 : decode prog_10_method_36_code 37 = .ok (.goto 7, 3) := by decide +kernel
theorem d_M_deliver_40 : decode prog_10_method_36_code 40 = .ok (.aload_n 0, 1) := by decide +kernel
theorem d_M_deliver_41 : decode prog_10_method_36_code 41 = .ok (.getfield 127, 3) := by decide +kernel
theorem d_M_deliver_44 : decode prog_10_method_36_code 44 = .ok (.ireturn, 1) := by decide +kernel
theorem d_M_lose_0 : decode prog_10_method_37_code 0 = .ok (.aload_n 0, 1) := by decide +kernel
theorem d_M_lose_1 : decode prog_10_method_37_code 1 = .ok (.aload_n 0, 1) := by decide +kernel
theorem d_M_lose_2 : decode prog_10_method_37_code 2 = .ok (.iload_n 1, 1) := by decide +kernel
theorem d_M_lose_3 : decode prog_10_method_37_code 3 = .ok (.invokevirtual 227, 3) := by decide +kernel
theorem d_M_lose_6 : decode prog_10_method_37_code 6 = .ok (.ifCond .eq 7, 3) := by decide +kernel
theorem d_M_lose_9 : decode prog_10_method_37_code 9 = .ok (.iconst 0, 1) := by decide +kernel
theorem d_M_lose_10 : decode prog_10_method_37_code 10 = .ok (.goto 4, 3) := by decide +kernel
theorem d_M_lose_13 : decode prog_10_method_37_code 13 = .ok (.iconst 1, 1) := by decide +kernel
theorem d_M_lose_14 : decode prog_10_method_37_code 14 = .ok (.putfield 114, 3) := by decide +kernel
theorem d_M_lose_17 : decode prog_10_method_37_code 17 = .ok (.aload_n 0, 1) := by decide +kernel
theorem d_M_lose_18 : decode prog_10_method_37_code 18 = .ok (.getfield 114, 3) := by decide +kernel
theorem d_M_lose_21 : decode prog_10_method_37_code 21 = .ok (.ifCond .ne 8, 3) := by decide +kernel
theorem d_M_lose_24 : decode prog_10_method_37_code 24 = .ok (.aload_n 0, 1) := by decide +kernel
theorem d_M_lose_25 : decode prog_10_method_37_code 25 = .ok (.iload_n 1, 1) := by decide +kernel
theorem d_M_lose_26 : decode prog_10_method_37_code 26 = .ok (.invokevirtual 214, 3) := by decide +kernel
theorem d_M_lose_29 : decode prog_10_method_37_code 29 = .ok (.aload_n 0, 1) := by decide +kernel
theorem d_M_lose_30 : decode prog_10_method_37_code 30 = .ok (.getfield 114, 3) := by decide +kernel
theorem d_M_lose_33 : decode prog_10_method_37_code 33 = .ok (.ifCond .le 7, 3) := by decide +kernel
theorem d_M_lose_36 : decode prog_10_method_37_code 36 = .ok (.iconst 0, 1) := by decide +kernel
theorem d_M_lose_37 : decode prog_10_method_37_code 37 = .ok (.goto 7, 3) := by decide +kernel
theorem d_M_lose_40 : decode prog_10_method_37_code 40 = .ok (.aload_n 0, 1) := by decide +kernel
theorem d_M_lose_41 : decode prog_10_method_37_code 41 = .ok (.getfield 127, 3) := by decide +kernel
theorem d_M_lose_44 : decode prog_10_method_37_code 44 = .ok (.ireturn, 1) := by decide +kernel
theorem d_M_twin_0 : decode prog_10_method_38_code 0 = .ok (.aload_n 0, 1) := by decide +kernel
theorem d_M_twin_1 : decode prog_10_method_38_code 1 = .ok (.aload_n 0, 1) := by decide +kernel
theorem d_M_twin_2 : decode prog_10_method_38_code 2 = .ok (.iload_n 1, 1) := by decide +kernel
theorem d_M_twin_3 : decode prog_10_method_38_code 3 = .ok (.invokevirtual 227, 3) := by decide +kernel
theorem d_M_twin_6 : decode prog_10_method_38_code 6 = .ok (.ifCond .eq 7, 3) := by decide +kernel
theorem d_M_twin_9 : decode prog_10_method_38_code 9 = .ok (.iconst 0, 1) := by decide +kernel
theorem d_M_twin_10 : decode prog_10_method_38_code 10 = .ok (.goto 4, 3) := by decide +kernel
theorem d_M_twin_13 : decode prog_10_method_38_code 13 = .ok (.iconst 1, 1) := by decide +kernel
theorem d_M_twin_14 : decode prog_10_method_38_code 14 = .ok (.putfield 114, 3) := by decide +kernel
theorem d_M_twin_17 : decode prog_10_method_38_code 17 = .ok (.aload_n 0, 1) := by decide +kernel
theorem d_M_twin_18 : decode prog_10_method_38_code 18 = .ok (.getfield 114, 3) := by decide +kernel
theorem d_M_twin_21 : decode prog_10_method_38_code 21 = .ok (.ifCond .gt 12, 3) := by decide +kernel
theorem d_M_twin_24 : decode prog_10_method_38_code 24 = .ok (.aload_n 0, 1) := by decide +kernel
theorem d_M_twin_25 : decode prog_10_method_38_code 25 = .ok (.getfield 127, 3) := by decide +kernel
theorem d_M_twin_28 : decode prog_10_method_38_code 28 = .ok (.bipush 96, 2) := by decide +kernel
theorem d_M_twin_30 : decode prog_10_method_38_code 30 = .ok (.if_icmp .ne 5, 3) := by decide +kernel
theorem d_M_twin_33 : decode prog_10_method_38_code 33 = .ok (.iconst 0, 1) := by decide +kernel
theorem d_M_twin_34 : decode prog_10_method_38_code 34 = .ok (.ireturn, 1) := by decide +kernel
theorem d_M_twin_35 : decode prog_10_method_38_code 35 = .ok (.iconst 0, 1) := by decide +kernel
theorem d_M_twin_36 : decode prog_10_method_38_code 36 = .ok (.istore_n 2, 1) := by decide +kernel
theorem d_M_twin_37 : decode prog_10_method_38_code 37 = .ok (.iload_n 2, 1) := by decide +kernel
theorem d_M_twin_38 : decode prog_10_method_38_code 38 = .ok (.bipush 7, 2) := by decide +kernel
theorem d_M_twin_40 : decode prog_10_method_38_code 40 = .ok (.if_icmp .ge 34, 3) := by decide +kernel
theorem d_M_twin_43 : decode prog_10_method_38_code 43 = .ok (.aload_n 0, 1) := by decide +kernel
theorem d_M_twin_44 : decode prog_10_method_38_code 44 = .ok (.getfield 102, 3) := by decide +kernel
theorem d_M_twin_47 : decode prog_10_method_38_code 47 = .ok (.bipush 7, 2) := by decide +kernel
theorem d_M_twin_49 : decode prog_10_method_38_code 49 = .ok (.aload_n 0, 1) := by decide +kernel
theorem d_M_twin_50 : decode prog_10_method_38_code 50 = .ok (.getfield 127, 3) := by decide +kernel
theorem d_M_twin_53 : decode prog_10_method_38_code 53 = .ok (.imul, 1) := by decide +kernel
theorem d_M_twin_54 : decode prog_10_method_38_code 54 = .ok (.iload_n 2, 1) := by decide +kernel
theorem d_M_twin_55 : decode prog_10_method_38_code 55 = .ok (.iadd, 1) := by decide +kernel
theorem d_M_twin_56 : decode prog_10_method_38_code 56 = .ok (.aload_n 0, 1) := by decide +kernel
theorem d_M_twin_57 : decode prog_10_method_38_code 57 = .ok (.getfield 102, 3) := by decide +kernel
theorem d_M_twin_60 : decode prog_10_method_38_code 60 = .ok (.bipush 7, 2) := by decide +kernel
theorem d_M_twin_62 : decode prog_10_method_38_code 62 = .ok (.iload_n 1, 1) := by decide +kernel
theorem d_M_twin_63 : decode prog_10_method_38_code 63 = .ok (.imul, 1) := by decide +kernel
theorem d_M_twin_64 : decode prog_10_method_38_code 64 = .ok (.iload_n 2, 1) := by decide +kernel
theorem d_M_twin_65 : decode prog_10_method_38_code 65 = .ok (.iadd, 1) := by decide +kernel
theorem d_M_twin_66 : decode prog_10_method_38_code 66 = .ok (.iaload, 1) := by decide +kernel
theorem d_M_twin_67 : decode prog_10_method_38_code 67 = .ok (.iastore, 1) := by decide +kernel
theorem d_M_twin_68 : decode prog_10_method_38_code 68 = .ok (.iinc 2 1, 3) := by decide +kernel
theorem d_M_twin_71 : decode prog_10_method_38_code 71 = .ok (.goto (-34), 3) := by decide +kernel
theorem d_M_twin_74 : decode prog_10_method_38_code 74 = .ok (.iconst 0, 1) := by decide +kernel
theorem d_M_twin_75 : decode prog_10_method_38_code 75 = .ok (.istore_n 2, 1) := by decide +kernel
theorem d_M_twin_76 : decode prog_10_method_38_code 76 = .ok (.iload_n 2, 1) := by decide +kernel
theorem d_M_twin_77 : decode prog_10_method_38_code 77 = .ok (.bipush 64, 2) := by decide +kernel
theorem d_M_twin_79 : decode prog_10_method_38_code 79 = .ok (.if_icmp .ge 34, 3) := by decide +kernel
theorem d_M_twin_82 : decode prog_10_method_38_code 82 = .ok (.aload_n 0, 1) := by decide +kernel
theorem d_M_twin_83 : decode prog_10_method_38_code 83 = .ok (.getfield 105, 3) := by decide +kernel
theorem d_M_twin_86 : decode prog_10_method_38_code 86 = .ok (.bipush 64, 2) := by decide +kernel
theorem d_M_twin_88 : decode prog_10_method_38_code 88 = .ok (.aload_n 0, 1) := by decide +kernel
theorem d_M_twin_89 : decode prog_10_method_38_code 89 = .ok (.getfield 127, 3) := by decide +kernel
theorem d_M_twin_92 : decode prog_10_method_38_code 92 = .ok (.imul, 1) := by decide +kernel
theorem d_M_twin_93 : decode prog_10_method_38_code 93 = .ok (.iload_n 2, 1) := by decide +kernel
theorem d_M_twin_94 : decode prog_10_method_38_code 94 = .ok (.iadd, 1) := by decide +kernel
theorem d_M_twin_95 : decode prog_10_method_38_code 95 = .ok (.aload_n 0, 1) := by decide +kernel
theorem d_M_twin_96 : decode prog_10_method_38_code 96 = .ok (.getfield 105, 3) := by decide +kernel
theorem d_M_twin_99 : decode prog_10_method_38_code 99 = .ok (.bipush 64, 2) := by decide +kernel
theorem d_M_twin_101 : decode prog_10_method_38_code 101 = .ok (.iload_n 1, 1) := by decide +kernel
theorem d_M_twin_102 : decode prog_10_method_38_code 102 = .ok (.imul, 1) := by decide +kernel
theorem d_M_twin_103 : decode prog_10_method_38_code 103 = .ok (.iload_n 2, 1) := by decide +kernel
theorem d_M_twin_104 : decode prog_10_method_38_code 104 = .ok (.iadd, 1) := by decide +kernel
theorem d_M_twin_105 : decode prog_10_method_38_code 105 = .ok (.iaload, 1) := by decide +kernel
theorem d_M_twin_106 : decode prog_10_method_38_code 106 = .ok (.iastore, 1) := by decide +kernel
theorem d_M_twin_107 : decode prog_10_method_38_code 107 = .ok (.iinc 2 1, 3) := by decide +kernel
theorem d_M_twin_110 : decode prog_10_method_38_code 110 = .ok (.goto (-34), 3) := by decide +kernel
theorem d_M_twin_113 : decode prog_10_method_38_code 113 = .ok (.aload_n 0, 1) := by decide +kernel
theorem d_M_twin_114 : decode prog_10_method_38_code 114 = .ok (.getfield 108, 3) := by decide +kernel
theorem d_M_twin_117 : decode prog_10_method_38_code 117 = .ok (.aload_n 0, 1) := by decide +kernel
theorem d_M_twin_118 : decode prog_10_method_38_code 118 = .ok (.getfield 127, 3) := by decide +kernel
theorem d_M_twin_121 : decode prog_10_method_38_code 121 = .ok (.aload_n 0, 1) := by decide +kernel
theorem d_M_twin_122 : decode prog_10_method_38_code 122 = .ok (.getfield 108, 3) := by decide +kernel
theorem d_M_twin_125 : decode prog_10_method_38_code 125 = .ok (.iload_n 1, 1) := by decide +kernel
theorem d_M_twin_126 : decode prog_10_method_38_code 126 = .ok (.laload, 1) := by decide +kernel
theorem d_M_twin_127 : decode prog_10_method_38_code 127 = .ok (.lastore, 1) := by decide +kernel
theorem d_M_twin_128 : decode prog_10_method_38_code 128 = .ok (.aload_n 0, 1) := by decide +kernel
theorem d_M_twin_129 : decode prog_10_method_38_code 129 = .ok (.dup, 1) := by decide +kernel
theorem d_M_twin_130 : decode prog_10_method_38_code 130 = .ok (.getfield 127, 3) := by decide +kernel
theorem d_M_twin_133 : decode prog_10_method_38_code 133 = .ok (.iconst 1, 1) := by decide +kernel
theorem d_M_twin_134 : decode prog_10_method_38_code 134 = .ok (.iadd, 1) := by decide +kernel
theorem d_M_twin_135 : decode prog_10_method_38_code 135 = .ok (.putfield 127, 3) := by decide +kernel
theorem d_M_twin_138 : decode prog_10_method_38_code 138 = .ok (.iconst 1, 1) := by decide +kernel
theorem d_M_twin_139 : decode prog_10_method_38_code 139 = .ok (.ireturn, 1) := by decide +kernel
theorem d_M_run_0 : decode prog_10_method_39_code 0 = .ok (.aload_n 0, 1) := by decide +kernel
theorem d_M_run_1 : decode prog_10_method_39_code 1 = .ok (.iload_n 1, 1) := by decide +kernel
theorem d_M_run_2 : decode prog_10_method_39_code 2 = .ok (.ifCond .lt 10, 3) := by decide +kernel
theorem d_M_run_5 : decode prog_10_method_39_code 5 = .ok (.iload_n 1, 1) := by decide +kernel
theorem d_M_run_6 : decode prog_10_method_39_code 6 = .ok (.sipush 1000, 3) := by decide +kernel
theorem d_M_run_9 : decode prog_10_method_39_code 9 = .ok (.if_icmp .le 7, 3) := by decide +kernel
theorem d_M_run_12 : decode prog_10_method_39_code 12 = .ok (.iconst 1, 1) := by decide +kernel
theorem d_M_run_13 : decode prog_10_method_39_code 13 = .ok (.goto 4, 3) := by decide +kernel
theorem d_M_run_16 : decode prog_10_method_39_code 16 = .ok (.iconst 0, 1) := by decide +kernel
theorem d_M_run_17 : decode prog_10_method_39_code 17 = .ok (.putfield 114, 3) := by decide +kernel
theorem d_M_run_20 : decode prog_10_method_39_code 20 = .ok (.iconst 0, 1) := by decide +kernel
theorem d_M_run_21 : decode prog_10_method_39_code 21 = .ok (.istore_n 2, 1) := by decide +kernel
theorem d_M_run_22 : decode prog_10_method_39_code 22 = .ok (.aload_n 0, 1) := by decide +kernel
theorem d_M_run_23 : decode prog_10_method_39_code 23 = .ok (.getfield 114, 3) := by decide +kernel
theorem d_M_run_26 : decode prog_10_method_39_code 26 = .ok (.ifCond .ne 26, 3) := by decide +kernel
theorem d_M_run_29 : decode prog_10_method_39_code 29 = .ok (.iload_n 2, 1) := by decide +kernel
theorem d_M_run_30 : decode prog_10_method_39_code 30 = .ok (.iload_n 1, 1) := by decide +kernel
theorem d_M_run_31 : decode prog_10_method_39_code 31 = .ok (.if_icmp .ge 21, 3) := by decide +kernel
theorem d_M_run_34 : decode prog_10_method_39_code 34 = .ok (.aload_n 0, 1) := by decide +kernel
theorem d_M_run_35 : decode prog_10_method_39_code 35 = .ok (.getfield 127, 3) := by decide +kernel
theorem d_M_run_38 : decode prog_10_method_39_code 38 = .ok (.ifCond .le 14, 3) := by decide +kernel
theorem d_M_run_41 : decode prog_10_method_39_code 41 = .ok (.aload_n 0, 1) := by decide +kernel
theorem d_M_run_42 : decode prog_10_method_39_code 42 = .ok (.iconst 0, 1) := by decide +kernel
theorem d_M_run_43 : decode prog_10_method_39_code 43 = .ok (.invokevirtual 230, 3) := by decide +kernel
theorem d_M_run_46 : decode prog_10_method_39_code 46 = .ok (.iinc 2 1, 3) := by decide +kernel
theorem d_M_run_49 : decode prog_10_method_39_code 49 = .ok (.goto (-27), 3) := by decide +kernel
theorem d_M_run_52 : decode prog_10_method_39_code 52 = .ok (.iload_n 2, 1) := by decide +kernel
theorem d_M_run_53 : decode prog_10_method_39_code 53 = .ok (.ireturn, 1) := by decide +kernel
theorem d_M_ask_0 : decode prog_10_method_40_code 0 = .ok (.iload_n 2, 1) := by decide +kernel
theorem d_M_ask_1 : decode prog_10_method_40_code 1 = .ok (.ifCond .lt 53, 3) := by decide +kernel
theorem d_M_ask_4 : decode prog_10_method_40_code 4 = .ok (.iload_n 2, 1) := by decide +kernel
theorem d_M_ask_5 : decode prog_10_method_40_code 5 = .ok (.iconst 4, 1) := by decide +kernel
theorem d_M_ask_6 : decode prog_10_method_40_code 6 = .ok (.if_icmp .gt 48, 3) := by decide +kernel
theorem d_M_ask_9 : decode prog_10_method_40_code 9 = .ok (.iload_n 2, 1) := by decide +kernel
theorem d_M_ask_10 : decode prog_10_method_40_code 10 = .ok (.ifCond .ne 8, 3) := by decide +kernel
theorem d_M_ask_13 : decode prog_10_method_40_code 13 = .ok (.iload_n 3, 1) := by decide +kernel
theorem d_M_ask_14 : decode prog_10_method_40_code 14 = .ok (.iconst 1, 1) := by decide +kernel
theorem d_M_ask_15 : decode prog_10_method_40_code 15 = .ok (.if_icmp .lt 39, 3) := by decide +kernel
theorem d_M_ask_18 : decode prog_10_method_40_code 18 = .ok (.iload_n 2, 1) := by decide +kernel
theorem d_M_ask_19 : decode prog_10_method_40_code 19 = .ok (.iconst 2, 1) := by decide +kernel
theorem d_M_ask_20 : decode prog_10_method_40_code 20 = .ok (.if_icmp .ne 14, 3) := by decide +kernel
theorem d_M_ask_23 : decode prog_10_method_40_code 23 = .ok (.iload_n 3, 1) := by decide +kernel
theorem d_M_ask_24 : decode prog_10_method_40_code 24 = .ok (.ifCond .lt 30, 3) := by decide +kernel
theorem d_M_ask_27 : decode prog_10_method_40_code 27 = .ok (.iload_n 3, 1) := by decide +kernel
theorem d_M_ask_28 : decode prog_10_method_40_code 28 = .ok (.sipush 499, 3) := by decide +kernel
theorem d_M_ask_31 : decode prog_10_method_40_code 31 = .ok (.if_icmp .gt 23, 3) := by decide +kernel
theorem d_M_ask_34 : decode prog_10_method_40_code 34 = .ok (.iload_n 2, 1) := by decide +kernel
theorem d_M_ask_35 : decode prog_10_method_40_code 35 = .ok (.iconst 4, 1) := by decide +kernel
theorem d_M_ask_36 : decode prog_10_method_40_code 36 = .ok (.if_icmp .ne 14, 3) := by decide +kernel
theorem d_M_ask_39 : decode prog_10_method_40_code 39 = .ok (.iload_n 3, 1) := by decide +kernel
theorem d_M_ask_40 : decode prog_10_method_40_code 40 = .ok (.ifCond .lt 14, 3) := by decide +kernel
theorem d_M_ask_43 : decode prog_10_method_40_code 43 = .ok (.iload_n 3, 1) := by decide +kernel
theorem d_M_ask_44 : decode prog_10_method_40_code 44 = .ok (.sipush 1000, 3) := by decide +kernel
theorem d_M_ask_47 : decode prog_10_method_40_code 47 = .ok (.if_icmp .gt 7, 3) := by decide +kernel
theorem d_M_ask_50 : decode prog_10_method_40_code 50 = .ok (.iconst 1, 1) := by decide +kernel
theorem d_M_ask_51 : decode prog_10_method_40_code 51 = .ok (.goto 4, 3) := by decide +kernel
theorem d_M_ask_54 : decode prog_10_method_40_code 54 = .ok (.iconst 0, 1) := by decide +kernel
theorem d_M_ask_55 : decode prog_10_method_40_code 55 = .ok (.istore 5, 2) := by decide +kernel
theorem d_M_ask_57 : decode prog_10_method_40_code 57 = .ok (.iconst (-1), 1) := by decide +kernel
theorem d_M_ask_58 : decode prog_10_method_40_code 58 = .ok (.istore 6, 2) := by decide +kernel
theorem d_M_ask_60 : decode prog_10_method_40_code 60 = .ok (.bipush 7, 2) := by decide +kernel
theorem d_M_ask_62 : decode prog_10_method_40_code 62 = .ok (.istore 7, 2) := by decide +kernel
theorem d_M_ask_64 : decode prog_10_method_40_code 64 = .ok (.iload 7, 2) := by decide +kernel
theorem d_M_ask_66 : decode prog_10_method_40_code 66 = .ok (.ifCond .lt 28, 3) := by decide +kernel
theorem d_M_ask_69 : decode prog_10_method_40_code 69 = .ok (.aload_n 0, 1) := by decide +kernel
theorem d_M_ask_70 : decode prog_10_method_40_code 70 = .ok (.getfield 20, 3) := by decide +kernel
theorem d_M_ask_73 : decode prog_10_method_40_code 73 = .ok (.iload 7, 2) := by decide +kernel
theorem d_M_ask_75 : decode prog_10_method_40_code 75 = .ok (.iaload, 1) := by decide +kernel
theorem d_M_ask_76 : decode prog_10_method_40_code 76 = .ok (.ifCond .ne 8, 3) := by decide +kernel
theorem d_M_ask_79 : decode prog_10_method_40_code 79 = .ok (.iload 7, 2) := by decide +kernel
theorem d_M_ask_81 : decode prog_10_method_40_code 81 = .ok (.goto 5, 3) := by decide +kernel
theorem d_M_ask_84 : decode prog_10_method_40_code 84 = .ok (.iload 6, 2) := by decide +kernel
theorem d_M_ask_86 : decode prog_10_method_40_code 86 = .ok (.istore 6, 2) := by decide +kernel
theorem d_M_ask_88 : decode prog_10_method_40_code 88 = .ok (.iinc 7 (-1), 3) := by decide +kernel
theorem d_M_ask_91 : decode prog_10_method_40_code 91 = .ok (.goto (-27), 3) := by decide +kernel
theorem d_M_ask_94 : decode prog_10_method_40_code 94 = .ok (.aload_n 0, 1) := by decide +kernel
theorem d_M_ask_95 : decode prog_10_method_40_code 95 = .ok (.iload_n 1, 1) := by decide +kernel
theorem d_M_ask_96 : decode prog_10_method_40_code 96 = .ok (.invokestatic 118, 3) := by decide +kernel
theorem d_M_ask_99 : decode prog_10_method_40_code 99 = .ok (.ifCond .ne 7, 3) := by decide +kernel
theorem d_M_ask_102 : decode prog_10_method_40_code 102 = .ok (.iconst 1, 1) := by decide +kernel
theorem d_M_ask_103 : decode prog_10_method_40_code 103 = .ok (.goto 32, 3) := by decide +kernel
theorem d_M_ask_106 : decode prog_10_method_40_code 106 = .ok (.iload 5, 2) := by decide +kernel
theorem d_M_ask_108 : decode prog_10_method_40_code 108 = .ok (.ifCond .ne 7, 3) := by decide +kernel
theorem d_M_ask_111 : decode prog_10_method_40_code 111 = .ok (.iconst 2, 1) := by decide +kernel
theorem d_M_ask_112 : decode prog_10_method_40_code 112 = .ok (.goto 23, 3) := by decide +kernel
theorem d_M_ask_115 : decode prog_10_method_40_code 115 = .ok (.aload_n 0, 1) := by decide +kernel
theorem d_M_ask_116 : decode prog_10_method_40_code 116 = .ok (.getfield 7, 3) := by decide +kernel
theorem d_M_ask_119 : decode prog_10_method_40_code 119 = .ok (.iload_n 1, 1) := by decide +kernel
theorem d_M_ask_120 : decode prog_10_method_40_code 120 = .ok (.baload, 1) := by decide +kernel
theorem d_M_ask_121 : decode prog_10_method_40_code 121 = .ok (.ifCond .ne 9, 3) := by decide +kernel
theorem d_M_ask_124 : decode prog_10_method_40_code 124 = .ok (.iload 6, 2) := by decide +kernel
theorem d_M_ask_126 : decode prog_10_method_40_code 126 = .ok (.iconst (-1), 1) := by decide +kernel
theorem d_M_ask_127 : decode prog_10_method_40_code 127 = .ok (.if_icmp .ne 7, 3) := by decide +kernel
theorem d_M_ask_130 : decode prog_10_method_40_code 130 = .ok (.iconst 3, 1) := by decide +kernel
theorem d_M_ask_131 : decode prog_10_method_40_code 131 = .ok (.goto 4, 3) := by decide +kernel
theorem d_M_ask_134 : decode prog_10_method_40_code 134 = .ok (.iconst 0, 1) := by decide +kernel
theorem d_M_ask_135 : decode prog_10_method_40_code 135 = .ok (.putfield 114, 3) := by decide +kernel
theorem d_M_ask_138 : decode prog_10_method_40_code 138 = .ok (.aload_n 0, 1) := by decide +kernel
theorem d_M_ask_139 : decode prog_10_method_40_code 139 = .ok (.getfield 114, 3) := by decide +kernel
theorem d_M_ask_142 : decode prog_10_method_40_code 142 = .ok (.ifCond .le 5, 3) := by decide +kernel
theorem d_M_ask_145 : decode prog_10_method_40_code 145 = .ok (.iconst 0, 1) := by decide +kernel
theorem d_M_ask_146 : decode prog_10_method_40_code 146 = .ok (.ireturn, 1) := by decide +kernel
theorem d_M_ask_147 : decode prog_10_method_40_code 147 = .ok (.aload_n 0, 1) := by decide +kernel
theorem d_M_ask_148 : decode prog_10_method_40_code 148 = .ok (.dup, 1) := by decide +kernel
theorem d_M_ask_149 : decode prog_10_method_40_code 149 = .ok (.getfield 233, 3) := by decide +kernel
theorem d_M_ask_152 : decode prog_10_method_40_code 152 = .ok (.iconst 1, 1) := by decide +kernel
theorem d_M_ask_153 : decode prog_10_method_40_code 153 = .ok (.iadd, 1) := by decide +kernel
theorem d_M_ask_154 : decode prog_10_method_40_code 154 = .ok (.putfield 233, 3) := by decide +kernel
theorem d_M_ask_157 : decode prog_10_method_40_code 157 = .ok (.aload_n 0, 1) := by decide +kernel
theorem d_M_ask_158 : decode prog_10_method_40_code 158 = .ok (.getfield 20, 3) := by decide +kernel
theorem d_M_ask_161 : decode prog_10_method_40_code 161 = .ok (.iload 6, 2) := by decide +kernel
theorem d_M_ask_163 : decode prog_10_method_40_code 163 = .ok (.aload_n 0, 1) := by decide +kernel
theorem d_M_ask_164 : decode prog_10_method_40_code 164 = .ok (.getfield 233, 3) := by decide +kernel
theorem d_M_ask_167 : decode prog_10_method_40_code 167 = .ok (.iastore, 1) := by decide +kernel
theorem d_M_ask_168 : decode prog_10_method_40_code 168 = .ok (.aload_n 0, 1) := by decide +kernel
theorem d_M_ask_169 : decode prog_10_method_40_code 169 = .ok (.getfield 23, 3) := by decide +kernel
theorem d_M_ask_172 : decode prog_10_method_40_code 172 = .ok (.iload 6, 2) := by decide +kernel
theorem d_M_ask_174 : decode prog_10_method_40_code 174 = .ok (.iload_n 2, 1) := by decide +kernel
theorem d_M_ask_175 : decode prog_10_method_40_code 175 = .ok (.iastore, 1) := by decide +kernel
theorem d_M_ask_176 : decode prog_10_method_40_code 176 = .ok (.aload_n 0, 1) := by decide +kernel
theorem d_M_ask_177 : decode prog_10_method_40_code 177 = .ok (.getfield 26, 3) := by decide +kernel
theorem d_M_ask_180 : decode prog_10_method_40_code 180 = .ok (.iload 6, 2) := by decide +kernel
theorem d_M_ask_182 : decode prog_10_method_40_code 182 = .ok (.iload_n 3, 1) := by decide +kernel
theorem d_M_ask_183 : decode prog_10_method_40_code 183 = .ok (.iastore, 1) := by decide +kernel
theorem d_M_ask_184 : decode prog_10_method_40_code 184 = .ok (.aload_n 0, 1) := by decide +kernel
theorem d_M_ask_185 : decode prog_10_method_40_code 185 = .ok (.getfield 29, 3) := by decide +kernel
theorem d_M_ask_188 : decode prog_10_method_40_code 188 = .ok (.iload 6, 2) := by decide +kernel
theorem d_M_ask_190 : decode prog_10_method_40_code 190 = .ok (.iload 4, 2) := by decide +kernel
theorem d_M_ask_192 : decode prog_10_method_40_code 192 = .ok (.iastore, 1) := by decide +kernel
theorem d_M_ask_193 : decode prog_10_method_40_code 193 = .ok (.iconst 0, 1) := by decide +kernel
theorem d_M_ask_194 : decode prog_10_method_40_code 194 = .ok (.istore 7, 2) := by decide +kernel
theorem d_M_ask_196 : decode prog_10_method_40_code 196 = .ok (.iload 7, 2) := by decide +kernel
theorem d_M_ask_198 : decode prog_10_method_40_code 198 = .ok (.bipush 8, 2) := by decide +kernel
theorem d_M_ask_200 : decode prog_10_method_40_code 200 = .ok (.if_icmp .ge 23, 3) := by decide +kernel
theorem d_M_ask_203 : decode prog_10_method_40_code 203 = .ok (.aload_n 0, 1) := by decide +kernel
theorem d_M_ask_204 : decode prog_10_method_40_code 204 = .ok (.getfield 56, 3) := by decide +kernel
theorem d_M_ask_207 : decode prog_10_method_40_code 207 = .ok (.bipush 8, 2) := by decide +kernel
theorem d_M_ask_209 : decode prog_10_method_40_code 209 = .ok (.iload 6, 2) := by decide +kernel
theorem d_M_ask_211 : decode prog_10_method_40_code 211 = .ok (.imul, 1) := by decide +kernel
theorem d_M_ask_212 : decode prog_10_method_40_code 212 = .ok (.iload 7, 2) := by decide +kernel
theorem d_M_ask_214 : decode prog_10_method_40_code 214 = .ok (.iadd, 1) := by decide +kernel
theorem d_M_ask_215 : decode prog_10_method_40_code 215 = .ok (.iconst (-1), 1) := by decide +kernel
theorem d_M_ask_216 : decode prog_10_method_40_code 216 = .ok (.iastore, 1) := by decide +kernel
theorem d_M_ask_217 : decode prog_10_method_40_code 217 = .ok (.iinc 7 1, 3) := by decide +kernel
theorem d_M_ask_220 : decode prog_10_method_40_code 220 = .ok (.goto (-24), 3) := by decide +kernel
theorem d_M_ask_223 : decode prog_10_method_40_code 223 = .ok (.aload_n 0, 1) := by decide +kernel
theorem d_M_ask_224 : decode prog_10_method_40_code 224 = .ok (.getfield 35, 3) := by decide +kernel
theorem d_M_ask_227 : decode prog_10_method_40_code 227 = .ok (.iload 6, 2) := by decide +kernel
theorem d_M_ask_229 : decode prog_10_method_40_code 229 = .ok (.iconst 0, 1) := by decide +kernel
theorem d_M_ask_230 : decode prog_10_method_40_code 230 = .ok (.iastore, 1) := by decide +kernel
theorem d_M_ask_231 : decode prog_10_method_40_code 231 = .ok (.aload_n 0, 1) := by decide +kernel
theorem d_M_ask_232 : decode prog_10_method_40_code 232 = .ok (.iload 6, 2) := by decide +kernel
theorem d_M_ask_234 : decode prog_10_method_40_code 234 = .ok (.iload_n 1, 1) := by decide +kernel
theorem d_M_ask_235 : decode prog_10_method_40_code 235 = .ok (.invokevirtual 236, 3) := by decide +kernel
theorem d_M_ask_238 : decode prog_10_method_40_code 238 = .ok (.aload_n 0, 1) := by decide +kernel
theorem d_M_ask_239 : decode prog_10_method_40_code 239 = .ok (.getfield 233, 3) := by decide +kernel
theorem d_M_ask_242 : decode prog_10_method_40_code 242 = .ok (.ireturn, 1) := by decide +kernel
theorem d_M_begin_0 : decode prog_10_method_41_code 0 = .ok (.aload_n 0, 1) := by decide +kernel
theorem d_M_begin_1 : decode prog_10_method_41_code 1 = .ok (.getfield 32, 3) := by decide +kernel
theorem d_M_begin_4 : decode prog_10_method_41_code 4 = .ok (.iload_n 1, 1) := by decide +kernel
theorem d_M_begin_5 : decode prog_10_method_41_code 5 = .ok (.iload_n 2, 1) := by decide +kernel
theorem d_M_begin_6 : decode prog_10_method_41_code 6 = .ok (.iastore, 1) := by decide +kernel
theorem d_M_begin_7 : decode prog_10_method_41_code 7 = .ok (.aload_n 0, 1) := by decide +kernel
theorem d_M_begin_8 : decode prog_10_method_41_code 8 = .ok (.getfield 35, 3) := by decide +kernel
theorem d_M_begin_11 : decode prog_10_method_41_code 11 = .ok (.iload_n 1, 1) := by decide +kernel
theorem d_M_begin_12 : decode prog_10_method_41_code 12 = .ok (.dup2, 1) := by decide +kernel
theorem d_M_begin_13 : decode prog_10_method_41_code 13 = .ok (.iaload, 1) := by decide +kernel
theorem d_M_begin_14 : decode prog_10_method_41_code 14 = .ok (.iconst 1, 1) := by decide +kernel
theorem d_M_begin_15 : decode prog_10_method_41_code 15 = .ok (.iadd, 1) := by decide +kernel
theorem d_M_begin_16 : decode prog_10_method_41_code 16 = .ok (.iastore, 1) := by decide +kernel
theorem d_M_begin_17 : decode prog_10_method_41_code 17 = .ok (.aload_n 0, 1) := by decide +kernel
theorem d_M_begin_18 : decode prog_10_method_41_code 18 = .ok (.getfield 38, 3) := by decide +kernel
theorem d_M_begin_21 : decode prog_10_method_41_code 21 = .ok (.iload_n 1, 1) := by decide +kernel
theorem d_M_begin_22 : decode prog_10_method_41_code 22 = .ok (.iconst 0, 1) := by decide +kernel
theorem d_M_begin_23 : decode prog_10_method_41_code 23 = .ok (.iastore, 1) := by decide +kernel
theorem d_M_begin_24 : decode prog_10_method_41_code 24 = .ok (.aload_n 0, 1) := by decide +kernel
theorem d_M_begin_25 : decode prog_10_method_41_code 25 = .ok (.getfield 41, 3) := by decide +kernel
theorem d_M_begin_28 : decode prog_10_method_41_code 28 = .ok (.iload_n 1, 1) := by decide +kernel
theorem d_M_begin_29 : decode prog_10_method_41_code 29 = .ok (.iconst 0, 1) := by decide +kernel
theorem d_M_begin_30 : decode prog_10_method_41_code 30 = .ok (.iastore, 1) := by decide +kernel
theorem d_M_begin_31 : decode prog_10_method_41_code 31 = .ok (.aload_n 0, 1) := by decide +kernel
theorem d_M_begin_32 : decode prog_10_method_41_code 32 = .ok (.getfield 44, 3) := by decide +kernel
theorem d_M_begin_35 : decode prog_10_method_41_code 35 = .ok (.iload_n 1, 1) := by decide +kernel
theorem d_M_begin_36 : decode prog_10_method_41_code 36 = .ok (.iconst 0, 1) := by decide +kernel
theorem d_M_begin_37 : decode prog_10_method_41_code 37 = .ok (.iastore, 1) := by decide +kernel
theorem d_M_begin_38 : decode prog_10_method_41_code 38 = .ok (.aload_n 0, 1) := by decide +kernel
theorem d_M_begin_39 : decode prog_10_method_41_code 39 = .ok (.getfield 47, 3) := by decide +kernel
theorem d_M_begin_42 : decode prog_10_method_41_code 42 = .ok (.iload_n 1, 1) := by decide +kernel
theorem d_M_begin_43 : decode prog_10_method_41_code 43 = .ok (.iconst 0, 1) := by decide +kernel
theorem d_M_begin_44 : decode prog_10_method_41_code 44 = .ok (.iastore, 1) := by decide +kernel
theorem d_M_begin_45 : decode prog_10_method_41_code 45 = .ok (.aload_n 0, 1) := by decide +kernel
theorem d_M_begin_46 : decode prog_10_method_41_code 46 = .ok (.getfield 50, 3) := by decide +kernel
theorem d_M_begin_49 : decode prog_10_method_41_code 49 = .ok (.iload_n 1, 1) := by decide +kernel
theorem d_M_begin_50 : decode prog_10_method_41_code 50 = .ok (.iconst 0, 1) := by decide +kernel
theorem d_M_begin_51 : decode prog_10_method_41_code 51 = .ok (.iastore, 1) := by decide +kernel
theorem d_M_begin_52 : decode prog_10_method_41_code 52 = .ok (.aload_n 0, 1) := by decide +kernel
theorem d_M_begin_53 : decode prog_10_method_41_code 53 = .ok (.iload_n 1, 1) := by decide +kernel
theorem d_M_begin_54 : decode prog_10_method_41_code 54 = .ok (.iconst 1, 1) := by decide +kernel
theorem d_M_begin_55 : decode prog_10_method_41_code 55 = .ok (.invokevirtual 168, 3) := by decide +kernel
theorem d_M_begin_58 : decode prog_10_method_41_code 58 = .ok (.return_, 1) := by decide +kernel
theorem d_M_resend_0 : decode prog_10_method_42_code 0 = .ok (.aload_n 0, 1) := by decide +kernel
theorem d_M_resend_1 : decode prog_10_method_42_code 1 = .ok (.iload_n 1, 1) := by decide +kernel
theorem d_M_resend_2 : decode prog_10_method_42_code 2 = .ok (.invokevirtual 217, 3) := by decide +kernel
theorem d_M_resend_5 : decode prog_10_method_42_code 5 = .ok (.istore_n 2, 1) := by decide +kernel
theorem d_M_resend_6 : decode prog_10_method_42_code 6 = .ok (.aload_n 0, 1) := by decide +kernel
theorem d_M_resend_7 : decode prog_10_method_42_code 7 = .ok (.iload_n 2, 1) := by decide +kernel
theorem d_M_resend_8 : decode prog_10_method_42_code 8 = .ok (.iconst (-1), 1) := by decide +kernel
theorem d_M_resend_9 : decode prog_10_method_42_code 9 = .ok (.if_icmp .ne 7, 3) := by decide +kernel
theorem d_M_resend_12 : decode prog_10_method_42_code 12 = .ok (.iconst 1, 1) := by decide +kernel
theorem d_M_resend_13 : decode prog_10_method_42_code 13 = .ok (.goto 17, 3) := by decide +kernel
theorem d_M_resend_16 : decode prog_10_method_42_code 16 = .ok (.aload_n 0, 1) := by decide +kernel
theorem d_M_resend_17 : decode prog_10_method_42_code 17 = .ok (.getfield 41, 3) := by decide +kernel
theorem d_M_resend_20 : decode prog_10_method_42_code 20 = .ok (.iload_n 2, 1) := by decide +kernel
theorem d_M_resend_21 : decode prog_10_method_42_code 21 = .ok (.iaload, 1) := by decide +kernel
theorem d_M_resend_22 : decode prog_10_method_42_code 22 = .ok (.ifCond .eq 7, 3) := by decide +kernel
theorem d_M_resend_25 : decode prog_10_method_42_code 25 = .ok (.iconst 2, 1) := by decide +kernel
theorem d_M_resend_26 : decode prog_10_method_42_code 26 = .ok (.goto 4, 3) := by decide +kernel
theorem d_M_resend_29 : decode prog_10_method_42_code 29 = .ok (.iconst 0, 1) := by decide +kernel
theorem d_M_resend_30 : decode prog_10_method_42_code 30 = .ok (.putfield 114, 3) := by decide +kernel
theorem d_M_resend_33 : decode prog_10_method_42_code 33 = .ok (.aload_n 0, 1) := by decide +kernel
theorem d_M_resend_34 : decode prog_10_method_42_code 34 = .ok (.getfield 114, 3) := by decide +kernel
theorem d_M_resend_37 : decode prog_10_method_42_code 37 = .ok (.ifCond .le 5, 3) := by decide +kernel
theorem d_M_resend_40 : decode prog_10_method_42_code 40 = .ok (.iconst 0, 1) := by decide +kernel
theorem d_M_resend_41 : decode prog_10_method_42_code 41 = .ok (.ireturn, 1) := by decide +kernel
theorem d_M_resend_42 : decode prog_10_method_42_code 42 = .ok (.iconst 0, 1) := by decide +kernel
theorem d_M_resend_43 : decode prog_10_method_42_code 43 = .ok (.istore_n 3, 1) := by decide +kernel
theorem d_M_resend_44 : decode prog_10_method_42_code 44 = .ok (.aload_n 0, 1) := by decide +kernel
theorem d_M_resend_45 : decode prog_10_method_42_code 45 = .ok (.iload_n 2, 1) := by decide +kernel
theorem d_M_resend_46 : decode prog_10_method_42_code 46 = .ok (.invokevirtual 142, 3) := by decide +kernel
theorem d_M_resend_49 : decode prog_10_method_42_code 49 = .ok (.iconst 0, 1) := by decide +kernel
theorem d_M_resend_50 : decode prog_10_method_42_code 50 = .ok (.istore 4, 2) := by decide +kernel
theorem d_M_resend_52 : decode prog_10_method_42_code 52 = .ok (.iload 4, 2) := by decide +kernel
theorem d_M_resend_54 : decode prog_10_method_42_code 54 = .ok (.bipush 8, 2) := by decide +kernel
theorem d_M_resend_56 : decode prog_10_method_42_code 56 = .ok (.if_icmp .ge 58, 3) := by decide +kernel
theorem d_M_resend_59 : decode prog_10_method_42_code 59 = .ok (.aload_n 0, 1) := by decide +kernel
theorem d_M_resend_60 : decode prog_10_method_42_code 60 = .ok (.getfield 87, 3) := by decide +kernel
theorem d_M_resend_63 : decode prog_10_method_42_code 63 = .ok (.bipush 8, 2) := by decide +kernel
theorem d_M_resend_65 : decode prog_10_method_42_code 65 = .ok (.iload_n 2, 1) := by decide +kernel
theorem d_M_resend_66 : decode prog_10_method_42_code 66 = .ok (.imul, 1) := by decide +kernel
theorem d_M_resend_67 : decode prog_10_method_42_code 67 = .ok (.iload 4, 2) := by decide +kernel
theorem d_M_resend_69 : decode prog_10_method_42_code 69 = .ok (.iadd, 1) := by decide +kernel
theorem d_M_resend_70 : decode prog_10_method_42_code 70 = .ok (.baload, 1) := by decide +kernel
theorem d_M_resend_71 : decode prog_10_method_42_code 71 = .ok (.ifCond .ne 37, 3) := by decide +kernel
theorem d_M_resend_74 : decode prog_10_method_42_code 74 = .ok (.aload_n 0, 1) := by decide +kernel
theorem d_M_resend_75 : decode prog_10_method_42_code 75 = .ok (.aload_n 0, 1) := by decide +kernel
theorem d_M_resend_76 : decode prog_10_method_42_code 76 = .ok (.getfield 53, 3) := by decide +kernel
theorem d_M_resend_79 : decode prog_10_method_42_code 79 = .ok (.iload_n 2, 1) := by decide +kernel
theorem d_M_resend_80 : decode prog_10_method_42_code 80 = .ok (.iaload, 1) := by decide +kernel
theorem d_M_resend_81 : decode prog_10_method_42_code 81 = .ok (.iload_n 1, 1) := by decide +kernel
theorem d_M_resend_82 : decode prog_10_method_42_code 82 = .ok (.aload_n 0, 1) := by decide +kernel
theorem d_M_resend_83 : decode prog_10_method_42_code 83 = .ok (.getfield 35, 3) := by decide +kernel
theorem d_M_resend_86 : decode prog_10_method_42_code 86 = .ok (.iload_n 2, 1) := by decide +kernel
theorem d_M_resend_87 : decode prog_10_method_42_code 87 = .ok (.iaload, 1) := by decide +kernel
theorem d_M_resend_88 : decode prog_10_method_42_code 88 = .ok (.aload_n 0, 1) := by decide +kernel
theorem d_M_resend_89 : decode prog_10_method_42_code 89 = .ok (.getfield 38, 3) := by decide +kernel
theorem d_M_resend_92 : decode prog_10_method_42_code 92 = .ok (.iload_n 2, 1) := by decide +kernel
theorem d_M_resend_93 : decode prog_10_method_42_code 93 = .ok (.iaload, 1) := by decide +kernel
theorem d_M_resend_94 : decode prog_10_method_42_code 94 = .ok (.aload_n 0, 1) := by decide +kernel
theorem d_M_resend_95 : decode prog_10_method_42_code 95 = .ok (.getfield 32, 3) := by decide +kernel
theorem d_M_resend_98 : decode prog_10_method_42_code 98 = .ok (.iload_n 2, 1) := by decide +kernel
theorem d_M_resend_99 : decode prog_10_method_42_code 99 = .ok (.iaload, 1) := by decide +kernel
theorem d_M_resend_100 : decode prog_10_method_42_code 100 = .ok (.iload 4, 2) := by decide +kernel
theorem d_M_resend_102 : decode prog_10_method_42_code 102 = .ok (.invokevirtual 146, 3) := by decide +kernel
theorem d_M_resend_105 : decode prog_10_method_42_code 105 = .ok (.iinc 3 1, 3) := by decide +kernel
theorem d_M_resend_108 : decode prog_10_method_42_code 108 = .ok (.iinc 4 1, 3) := by decide +kernel
theorem d_M_resend_111 : decode prog_10_method_42_code 111 = .ok (.goto (-59), 3) := by decide +kernel
theorem d_M_resend_114 : decode prog_10_method_42_code 114 = .ok (.iload_n 3, 1) := by decide +kernel
theorem d_M_resend_115 : decode prog_10_method_42_code 115 = .ok (.ireturn, 1) := by decide +kernel
theorem d_M_takeOver_0 : decode prog_10_method_43_code 0 = .ok (.aload_n 0, 1) := by decide +kernel
theorem d_M_takeOver_1 : decode prog_10_method_43_code 1 = .ok (.iload_n 1, 1) := by decide +kernel
theorem d_M_takeOver_2 : decode prog_10_method_43_code 2 = .ok (.invokevirtual 217, 3) := by decide +kernel
theorem d_M_takeOver_5 : decode prog_10_method_43_code 5 = .ok (.istore_n 3, 1) := by decide +kernel
theorem d_M_takeOver_6 : decode prog_10_method_43_code 6 = .ok (.aload_n 0, 1) := by decide +kernel
theorem d_M_takeOver_7 : decode prog_10_method_43_code 7 = .ok (.iload_n 3, 1) := by decide +kernel
theorem d_M_takeOver_8 : decode prog_10_method_43_code 8 = .ok (.iconst (-1), 1) := by decide +kernel
theorem d_M_takeOver_9 : decode prog_10_method_43_code 9 = .ok (.if_icmp .eq 10, 3) := by decide +kernel
theorem d_M_takeOver_12 : decode prog_10_method_43_code 12 = .ok (.iload_n 2, 1) := by decide +kernel
theorem d_M_takeOver_13 : decode prog_10_method_43_code 13 = .ok (.invokestatic 118, 3) := by decide +kernel
theorem d_M_takeOver_16 : decode prog_10_method_43_code 16 = .ok (.ifCond .ne 7, 3) := by decide +kernel
theorem d_M_takeOver_19 : decode prog_10_method_43_code 19 = .ok (.iconst 1, 1) := by decide +kernel
theorem d_M_takeOver_20 : decode prog_10_method_43_code 20 = .ok (.goto 36, 3) := by decide +kernel
theorem d_M_takeOver_23 : decode prog_10_method_43_code 23 = .ok (.aload_n 0, 1) := by decide +kernel
theorem d_M_takeOver_24 : decode prog_10_method_43_code 24 = .ok (.getfield 7, 3) := by decide +kernel
theorem d_M_takeOver_27 : decode prog_10_method_43_code 27 = .ok (.iload_n 2, 1) := by decide +kernel
theorem d_M_takeOver_28 : decode prog_10_method_43_code 28 = .ok (.baload, 1) := by decide +kernel
theorem d_M_takeOver_29 : decode prog_10_method_43_code 29 = .ok (.ifCond .ne 22, 3) := by decide +kernel
theorem d_M_takeOver_32 : decode prog_10_method_43_code 32 = .ok (.aload_n 0, 1) := by decide +kernel
theorem d_M_takeOver_33 : decode prog_10_method_43_code 33 = .ok (.getfield 41, 3) := by decide +kernel
theorem d_M_takeOver_36 : decode prog_10_method_43_code 36 = .ok (.iload_n 3, 1) := by decide +kernel
theorem d_M_takeOver_37 : decode prog_10_method_43_code 37 = .ok (.iaload, 1) := by decide +kernel
theorem d_M_takeOver_38 : decode prog_10_method_43_code 38 = .ok (.ifCond .eq 17, 3) := by decide +kernel
theorem d_M_takeOver_41 : decode prog_10_method_43_code 41 = .ok (.aload_n 0, 1) := by decide +kernel
theorem d_M_takeOver_42 : decode prog_10_method_43_code 42 = .ok (.getfield 41, 3) := by decide +kernel
theorem d_M_takeOver_45 : decode prog_10_method_43_code 45 = .ok (.iload_n 3, 1) := by decide +kernel
theorem d_M_takeOver_46 : decode prog_10_method_43_code 46 = .ok (.iaload, 1) := by decide +kernel
theorem d_M_takeOver_47 : decode prog_10_method_43_code 47 = .ok (.iconst 3, 1) := by decide +kernel
theorem d_M_takeOver_48 : decode prog_10_method_43_code 48 = .ok (.if_icmp .eq 7, 3) := by decide +kernel
theorem d_M_takeOver_51 : decode prog_10_method_43_code 51 = .ok (.iconst 2, 1) := by decide +kernel
theorem d_M_takeOver_52 : decode prog_10_method_43_code 52 = .ok (.goto 4, 3) := by decide +kernel
theorem d_M_takeOver_55 : decode prog_10_method_43_code 55 = .ok (.iconst 0, 1) := by decide +kernel
theorem d_M_takeOver_56 : decode prog_10_method_43_code 56 = .ok (.putfield 114, 3) := by decide +kernel
theorem d_M_takeOver_59 : decode prog_10_method_43_code 59 = .ok (.aload_n 0, 1) := by decide +kernel
theorem d_M_takeOver_60 : decode prog_10_method_43_code 60 = .ok (.getfield 114, 3) := by decide +kernel
theorem d_M_takeOver_63 : decode prog_10_method_43_code 63 = .ok (.ifCond .le 5, 3) := by decide +kernel
theorem d_M_takeOver_66 : decode prog_10_method_43_code 66 = .ok (.iconst 0, 1) := by decide +kernel
theorem d_M_takeOver_67 : decode prog_10_method_43_code 67 = .ok (.ireturn, 1) := by decide +kernel
theorem d_M_takeOver_68 : decode prog_10_method_43_code 68 = .ok (.aload_n 0, 1) := by decide +kernel
theorem d_M_takeOver_69 : decode prog_10_method_43_code 69 = .ok (.iload_n 3, 1) := by decide +kernel
theorem d_M_takeOver_70 : decode prog_10_method_43_code 70 = .ok (.iload_n 2, 1) := by decide +kernel
theorem d_M_takeOver_71 : decode prog_10_method_43_code 71 = .ok (.invokevirtual 236, 3) := by decide +kernel
theorem d_M_takeOver_74 : decode prog_10_method_43_code 74 = .ok (.aload_n 0, 1) := by decide +kernel
theorem d_M_takeOver_75 : decode prog_10_method_43_code 75 = .ok (.getfield 35, 3) := by decide +kernel
theorem d_M_takeOver_78 : decode prog_10_method_43_code 78 = .ok (.iload_n 3, 1) := by decide +kernel
theorem d_M_takeOver_79 : decode prog_10_method_43_code 79 = .ok (.iaload, 1) := by decide +kernel
theorem d_M_takeOver_80 : decode prog_10_method_43_code 80 = .ok (.ireturn, 1) := by decide +kernel
theorem d_M_crash_0 : decode prog_10_method_44_code 0 = .ok (.aload_n 0, 1) := by decide +kernel
theorem d_M_crash_1 : decode prog_10_method_44_code 1 = .ok (.iload_n 1, 1) := by decide +kernel
theorem d_M_crash_2 : decode prog_10_method_44_code 2 = .ok (.invokestatic 118, 3) := by decide +kernel
theorem d_M_crash_5 : decode prog_10_method_44_code 5 = .ok (.ifCond .eq 7, 3) := by decide +kernel
theorem d_M_crash_8 : decode prog_10_method_44_code 8 = .ok (.iconst 0, 1) := by decide +kernel
theorem d_M_crash_9 : decode prog_10_method_44_code 9 = .ok (.goto 4, 3) := by decide +kernel
theorem d_M_crash_12 : decode prog_10_method_44_code 12 = .ok (.iconst 1, 1) := by decide +kernel
theorem d_M_crash_13 : decode prog_10_method_44_code 13 = .ok (.putfield 114, 3) := by decide +kernel
theorem d_M_crash_16 : decode prog_10_method_44_code 16 = .ok (.aload_n 0, 1) := by decide +kernel
theorem d_M_crash_17 : decode prog_10_method_44_code 17 = .ok (.getfield 114, 3) := by decide +kernel
theorem d_M_crash_20 : decode prog_10_method_44_code 20 = .ok (.ifCond .le 5, 3) := by decide +kernel
theorem d_M_crash_23 : decode prog_10_method_44_code 23 = .ok (.iconst 0, 1) := by decide +kernel
theorem d_M_crash_24 : decode prog_10_method_44_code 24 = .ok (.ireturn, 1) := by decide +kernel
theorem d_M_crash_25 : decode prog_10_method_44_code 25 = .ok (.aload_n 0, 1) := by decide +kernel
theorem d_M_crash_26 : decode prog_10_method_44_code 26 = .ok (.getfield 7, 3) := by decide +kernel
theorem d_M_crash_29 : decode prog_10_method_44_code 29 = .ok (.iload_n 1, 1) := by decide +kernel
theorem d_M_crash_30 : decode prog_10_method_44_code 30 = .ok (.iconst 1, 1) := by decide +kernel
theorem d_M_crash_31 : decode prog_10_method_44_code 31 = .ok (.bastore, 1) := by decide +kernel
theorem d_M_crash_32 : decode prog_10_method_44_code 32 = .ok (.iconst 0, 1) := by decide +kernel
theorem d_M_crash_33 : decode prog_10_method_44_code 33 = .ok (.istore_n 2, 1) := by decide +kernel
theorem d_M_crash_34 : decode prog_10_method_44_code 34 = .ok (.iconst 0, 1) := by decide +kernel
theorem d_M_crash_35 : decode prog_10_method_44_code 35 = .ok (.istore_n 3, 1) := by decide +kernel
theorem d_M_crash_36 : decode prog_10_method_44_code 36 = .ok (.iload_n 3, 1) := by decide +kernel
theorem d_M_crash_37 : decode prog_10_method_44_code 37 = .ok (.bipush 8, 2) := by decide +kernel
theorem d_M_crash_39 : decode prog_10_method_44_code 39 = .ok (.if_icmp .ge 47, 3) := by decide +kernel
theorem d_M_crash_42 : decode prog_10_method_44_code 42 = .ok (.aload_n 0, 1) := by decide +kernel
theorem d_M_crash_43 : decode prog_10_method_44_code 43 = .ok (.getfield 20, 3) := by decide +kernel
theorem d_M_crash_46 : decode prog_10_method_44_code 46 = .ok (.iload_n 3, 1) := by decide +kernel
theorem d_M_crash_47 : decode prog_10_method_44_code 47 = .ok (.iaload, 1) := by decide +kernel
theorem d_M_crash_48 : decode prog_10_method_44_code 48 = .ok (.ifCond .le 32, 3) := by decide +kernel
theorem d_M_crash_51 : decode prog_10_method_44_code 51 = .ok (.aload_n 0, 1) := by decide +kernel
theorem d_M_crash_52 : decode prog_10_method_44_code 52 = .ok (.getfield 32, 3) := by decide +kernel
theorem d_M_crash_55 : decode prog_10_method_44_code 55 = .ok (.iload_n 3, 1) := by decide +kernel
theorem d_M_crash_56 : decode prog_10_method_44_code 56 = .ok (.iaload, 1) := by decide +kernel
theorem d_M_crash_57 : decode prog_10_method_44_code 57 = .ok (.iload_n 1, 1) := by decide +kernel
theorem d_M_crash_58 : decode prog_10_method_44_code 58 = .ok (.if_icmp .ne 22, 3) := by decide +kernel
theorem d_M_crash_61 : decode prog_10_method_44_code 61 = .ok (.aload_n 0, 1) := by decide +kernel
theorem d_M_crash_62 : decode prog_10_method_44_code 62 = .ok (.getfield 41, 3) := by decide +kernel
theorem d_M_crash_65 : decode prog_10_method_44_code 65 = .ok (.iload_n 3, 1) := by decide +kernel
theorem d_M_crash_66 : decode prog_10_method_44_code 66 = .ok (.iaload, 1) := by decide +kernel
theorem d_M_crash_67 : decode prog_10_method_44_code 67 = .ok (.ifCond .ne 13, 3) := by decide +kernel
theorem d_M_crash_70 : decode prog_10_method_44_code 70 = .ok (.aload_n 0, 1) := by decide +kernel
theorem d_M_crash_71 : decode prog_10_method_44_code 71 = .ok (.getfield 41, 3) := by decide +kernel
theorem d_M_crash_74 : decode prog_10_method_44_code 74 = .ok (.iload_n 3, 1) := by decide +kernel
theorem d_M_crash_75 : decode prog_10_method_44_code 75 = .ok (.iconst 3, 1) := by decide +kernel
theorem d_M_crash_76 : decode prog_10_method_44_code 76 = .ok (.iastore, 1) := by decide +kernel
theorem d_M_crash_77 : decode prog_10_method_44_code 77 = .ok (.iinc 2 1, 3) := by decide +kernel
theorem d_M_crash_80 : decode prog_10_method_44_code 80 = .ok (.iinc 3 1, 3) := by decide +kernel
theorem d_M_crash_83 : decode prog_10_method_44_code 83 = .ok (.goto (-47), 3) := by decide +kernel
theorem d_M_crash_86 : decode prog_10_method_44_code 86 = .ok (.iload_n 2, 1) := by decide +kernel
theorem d_M_crash_87 : decode prog_10_method_44_code 87 = .ok (.ireturn, 1) := by decide +kernel
theorem d_M_restart_0 : decode prog_10_method_45_code 0 = .ok (.aload_n 0, 1) := by decide +kernel
theorem d_M_restart_1 : decode prog_10_method_45_code 1 = .ok (.iload_n 1, 1) := by decide +kernel
theorem d_M_restart_2 : decode prog_10_method_45_code 2 = .ok (.invokestatic 118, 3) := by decide +kernel
theorem d_M_restart_5 : decode prog_10_method_45_code 5 = .ok (.ifCond .eq 7, 3) := by decide +kernel
theorem d_M_restart_8 : decode prog_10_method_45_code 8 = .ok (.iconst 0, 1) := by decide +kernel
theorem d_M_restart_9 : decode prog_10_method_45_code 9 = .ok (.goto 4, 3) := by decide +kernel
theorem d_M_restart_12 : decode prog_10_method_45_code 12 = .ok (.iconst 1, 1) := by decide +kernel
theorem d_M_restart_13 : decode prog_10_method_45_code 13 = .ok (.putfield 114, 3) := by decide +kernel
theorem d_M_restart_16 : decode prog_10_method_45_code 16 = .ok (.aload_n 0, 1) := by decide +kernel
theorem d_M_restart_17 : decode prog_10_method_45_code 17 = .ok (.getfield 114, 3) := by decide +kernel
theorem d_M_restart_20 : decode prog_10_method_45_code 20 = .ok (.ifCond .ne 10, 3) := by decide +kernel
theorem d_M_restart_23 : decode prog_10_method_45_code 23 = .ok (.aload_n 0, 1) := by decide +kernel
theorem d_M_restart_24 : decode prog_10_method_45_code 24 = .ok (.getfield 7, 3) := by decide +kernel
theorem d_M_restart_27 : decode prog_10_method_45_code 27 = .ok (.iload_n 1, 1) := by decide +kernel
theorem d_M_restart_28 : decode prog_10_method_45_code 28 = .ok (.iconst 0, 1) := by decide +kernel
theorem d_M_restart_29 : decode prog_10_method_45_code 29 = .ok (.bastore, 1) := by decide +kernel
theorem d_M_restart_30 : decode prog_10_method_45_code 30 = .ok (.return_, 1) := by decide +kernel
theorem d_M_state_0 : decode prog_10_method_46_code 0 = .ok (.aload_n 0, 1) := by decide +kernel
theorem d_M_state_1 : decode prog_10_method_46_code 1 = .ok (.iload_n 1, 1) := by decide +kernel
theorem d_M_state_2 : decode prog_10_method_46_code 2 = .ok (.invokevirtual 217, 3) := by decide +kernel
theorem d_M_state_5 : decode prog_10_method_46_code 5 = .ok (.istore_n 2, 1) := by decide +kernel
theorem d_M_state_6 : decode prog_10_method_46_code 6 = .ok (.aload_n 0, 1) := by decide +kernel
theorem d_M_state_7 : decode prog_10_method_46_code 7 = .ok (.iload_n 2, 1) := by decide +kernel
theorem d_M_state_8 : decode prog_10_method_46_code 8 = .ok (.iconst (-1), 1) := by decide +kernel
theorem d_M_state_9 : decode prog_10_method_46_code 9 = .ok (.if_icmp .ne 7, 3) := by decide +kernel
theorem d_M_state_12 : decode prog_10_method_46_code 12 = .ok (.iconst 1, 1) := by decide +kernel
theorem d_M_state_13 : decode prog_10_method_46_code 13 = .ok (.goto 4, 3) := by decide +kernel
theorem d_M_state_16 : decode prog_10_method_46_code 16 = .ok (.iconst 0, 1) := by decide +kernel
theorem d_M_state_17 : decode prog_10_method_46_code 17 = .ok (.putfield 114, 3) := by decide +kernel
theorem d_M_state_20 : decode prog_10_method_46_code 20 = .ok (.aload_n 0, 1) := by decide +kernel
theorem d_M_state_21 : decode prog_10_method_46_code 21 = .ok (.getfield 114, 3) := by decide +kernel
theorem d_M_state_24 : decode prog_10_method_46_code 24 = .ok (.ifCond .le 7, 3) := by decide +kernel
theorem d_M_state_27 : decode prog_10_method_46_code 27 = .ok (.iconst 0, 1) := by decide +kernel
theorem d_M_state_28 : decode prog_10_method_46_code 28 = .ok (.goto 9, 3) := by decide +kernel
theorem d_M_state_31 : decode prog_10_method_46_code 31 = .ok (.aload_n 0, 1) := by decide +kernel
theorem d_M_state_32 : decode prog_10_method_46_code 32 = .ok (.getfield 41, 3) := by decide +kernel
theorem d_M_state_35 : decode prog_10_method_46_code 35 = .ok (.iload_n 2, 1) := by decide +kernel
theorem d_M_state_36 : decode prog_10_method_46_code 36 = .ok (.iaload, 1) := by decide +kernel
theorem d_M_state_37 : decode prog_10_method_46_code 37 = .ok (.ireturn, 1) := by decide +kernel
theorem d_M_answer_0 : decode prog_10_method_47_code 0 = .ok (.aload_n 0, 1) := by decide +kernel
theorem d_M_answer_1 : decode prog_10_method_47_code 1 = .ok (.iload_n 1, 1) := by decide +kernel
theorem d_M_answer_2 : decode prog_10_method_47_code 2 = .ok (.invokevirtual 217, 3) := by decide +kernel
theorem d_M_answer_5 : decode prog_10_method_47_code 5 = .ok (.istore_n 2, 1) := by decide +kernel
theorem d_M_answer_6 : decode prog_10_method_47_code 6 = .ok (.aload_n 0, 1) := by decide +kernel
theorem d_M_answer_7 : decode prog_10_method_47_code 7 = .ok (.iload_n 2, 1) := by decide +kernel
theorem d_M_answer_8 : decode prog_10_method_47_code 8 = .ok (.iconst (-1), 1) := by decide +kernel
theorem d_M_answer_9 : decode prog_10_method_47_code 9 = .ok (.if_icmp .ne 7, 3) := by decide +kernel
theorem d_M_answer_12 : decode prog_10_method_47_code 12 = .ok (.iconst 1, 1) := by decide +kernel
theorem d_M_answer_13 : decode prog_10_method_47_code 13 = .ok (.goto 18, 3) := by decide +kernel
theorem d_M_answer_16 : decode prog_10_method_47_code 16 = .ok (.aload_n 0, 1) := by decide +kernel
theorem d_M_answer_17 : decode prog_10_method_47_code 17 = .ok (.getfield 41, 3) := by decide +kernel
theorem d_M_answer_20 : decode prog_10_method_47_code 20 = .ok (.iload_n 2, 1) := by decide +kernel
theorem d_M_answer_21 : decode prog_10_method_47_code 21 = .ok (.iaload, 1) := by decide +kernel
theorem d_M_answer_22 : decode prog_10_method_47_code 22 = .ok (.iconst 1, 1) := by decide +kernel
theorem d_M_answer_23 : decode prog_10_method_47_code 23 = .ok (.if_icmp .eq 7, 3) := by decide +kernel
theorem d_M_answer_26 : decode prog_10_method_47_code 26 = .ok (.iconst 2, 1) := by decide +kernel
theorem d_M_answer_27 : decode prog_10_method_47_code 27 = .ok (.goto 4, 3) := by decide +kernel
theorem d_M_answer_30 : decode prog_10_method_47_code 30 = .ok (.iconst 0, 1) := by decide +kernel
theorem d_M_answer_31 : decode prog_10_method_47_code 31 = .ok (.putfield 114, 3) := by decide +kernel
theorem d_M_answer_34 : decode prog_10_method_47_code 34 = .ok (.aload_n 0, 1) := by decide +kernel
theorem d_M_answer_35 : decode prog_10_method_47_code 35 = .ok (.getfield 114, 3) := by decide +kernel
theorem d_M_answer_38 : decode prog_10_method_47_code 38 = .ok (.ifCond .le 7, 3) := by decide +kernel
theorem d_M_answer_41 : decode prog_10_method_47_code 41 = .ok (.lconst 0, 1) := by decide +kernel
theorem d_M_answer_42 : decode prog_10_method_47_code 42 = .ok (.goto 9, 3) := by decide +kernel
theorem d_M_answer_45 : decode prog_10_method_47_code 45 = .ok (.aload_n 0, 1) := by decide +kernel
theorem d_M_answer_46 : decode prog_10_method_47_code 46 = .ok (.getfield 83, 3) := by decide +kernel
theorem d_M_answer_49 : decode prog_10_method_47_code 49 = .ok (.iload_n 2, 1) := by decide +kernel
theorem d_M_answer_50 : decode prog_10_method_47_code 50 = .ok (.laload, 1) := by decide +kernel
theorem d_M_answer_51 : decode prog_10_method_47_code 51 = .ok (.lreturn, 1) := by decide +kernel
theorem d_M_found_0 : decode prog_10_method_48_code 0 = .ok (.aload_n 0, 1) := by decide +kernel
theorem d_M_found_1 : decode prog_10_method_48_code 1 = .ok (.iload_n 1, 1) := by decide +kernel
theorem d_M_found_2 : decode prog_10_method_48_code 2 = .ok (.invokevirtual 217, 3) := by decide +kernel
theorem d_M_found_5 : decode prog_10_method_48_code 5 = .ok (.istore_n 3, 1) := by decide +kernel
theorem d_M_found_6 : decode prog_10_method_48_code 6 = .ok (.aload_n 0, 1) := by decide +kernel
theorem d_M_found_7 : decode prog_10_method_48_code 7 = .ok (.iload_n 3, 1) := by decide +kernel
theorem d_M_found_8 : decode prog_10_method_48_code 8 = .ok (.iconst (-1), 1) := by decide +kernel
theorem d_M_found_9 : decode prog_10_method_48_code 9 = .ok (.if_icmp .ne 7, 3) := by decide +kernel
theorem d_M_found_12 : decode prog_10_method_48_code 12 = .ok (.iconst 1, 1) := by decide +kernel
theorem d_M_found_13 : decode prog_10_method_48_code 13 = .ok (.goto 38, 3) := by decide +kernel
theorem d_M_found_16 : decode prog_10_method_48_code 16 = .ok (.aload_n 0, 1) := by decide +kernel
theorem d_M_found_17 : decode prog_10_method_48_code 17 = .ok (.getfield 41, 3) := by decide +kernel
theorem d_M_found_20 : decode prog_10_method_48_code 20 = .ok (.iload_n 3, 1) := by decide +kernel
theorem d_M_found_21 : decode prog_10_method_48_code 21 = .ok (.iaload, 1) := by decide +kernel
theorem d_M_found_22 : decode prog_10_method_48_code 22 = .ok (.iconst 1, 1) := by decide +kernel
theorem d_M_found_23 : decode prog_10_method_48_code 23 = .ok (.if_icmp .ne 23, 3) := by decide +kernel
theorem d_M_found_26 : decode prog_10_method_48_code 26 = .ok (.aload_n 0, 1) := by decide +kernel
theorem d_M_found_27 : decode prog_10_method_48_code 27 = .ok (.getfield 23, 3) := by decide +kernel
theorem d_M_found_30 : decode prog_10_method_48_code 30 = .ok (.iload_n 3, 1) := by decide +kernel
theorem d_M_found_31 : decode prog_10_method_48_code 31 = .ok (.iaload, 1) := by decide +kernel
theorem d_M_found_32 : decode prog_10_method_48_code 32 = .ok (.iconst 2, 1) := by decide +kernel
theorem d_M_found_33 : decode prog_10_method_48_code 33 = .ok (.if_icmp .eq 17, 3) := by decide +kernel
theorem d_M_found_36 : decode prog_10_method_48_code 36 = .ok (.aload_n 0, 1) := by decide +kernel
theorem d_M_found_37 : decode prog_10_method_48_code 37 = .ok (.getfield 23, 3) := by decide +kernel
theorem d_M_found_40 : decode prog_10_method_48_code 40 = .ok (.iload_n 3, 1) := by decide +kernel
theorem d_M_found_41 : decode prog_10_method_48_code 41 = .ok (.iaload, 1) := by decide +kernel
theorem d_M_found_42 : decode prog_10_method_48_code 42 = .ok (.iconst 4, 1) := by decide +kernel
theorem d_M_found_43 : decode prog_10_method_48_code 43 = .ok (.if_icmp .eq 7, 3) := by decide +kernel
theorem d_M_found_46 : decode prog_10_method_48_code 46 = .ok (.iconst 2, 1) := by decide +kernel
theorem d_M_found_47 : decode prog_10_method_48_code 47 = .ok (.goto 4, 3) := by decide +kernel
theorem d_M_found_50 : decode prog_10_method_48_code 50 = .ok (.iconst 0, 1) := by decide +kernel
theorem d_M_found_51 : decode prog_10_method_48_code 51 = .ok (.putfield 114, 3) := by decide +kernel
theorem d_M_found_54 : decode prog_10_method_48_code 54 = .ok (.aload_n 0, 1) := by decide +kernel
theorem d_M_found_55 : decode prog_10_method_48_code 55 = .ok (.getfield 114, 3) := by decide +kernel
theorem d_M_found_58 : decode prog_10_method_48_code 58 = .ok (.ifCond .le 7, 3) := by decide +kernel
theorem d_M_found_61 : decode prog_10_method_48_code 61 = .ok (.iconst 0, 1) := by decide +kernel
theorem d_M_found_62 : decode prog_10_method_48_code 62 = .ok (.goto 22, 3) := by decide +kernel
theorem d_M_found_65 : decode prog_10_method_48_code 65 = .ok (.iload_n 2, 1) := by decide +kernel
theorem d_M_found_66 : decode prog_10_method_48_code 66 = .ok (.ifCond .eq 12, 3) := by decide +kernel
theorem d_M_found_69 : decode prog_10_method_48_code 69 = .ok (.aload_n 0, 1) := by decide +kernel
theorem d_M_found_70 : decode prog_10_method_48_code 70 = .ok (.getfield 80, 3) := by decide +kernel
theorem d_M_found_73 : decode prog_10_method_48_code 73 = .ok (.iload_n 3, 1) := by decide +kernel
theorem d_M_found_74 : decode prog_10_method_48_code 74 = .ok (.iaload, 1) := by decide +kernel
theorem d_M_found_75 : decode prog_10_method_48_code 75 = .ok (.goto 9, 3) := by decide +kernel
theorem d_M_found_78 : decode prog_10_method_48_code 78 = .ok (.aload_n 0, 1) := by decide +kernel
theorem d_M_found_79 : decode prog_10_method_48_code 79 = .ok (.getfield 77, 3) := by decide +kernel
theorem d_M_found_82 : decode prog_10_method_48_code 82 = .ok (.iload_n 3, 1) := by decide +kernel
theorem d_M_found_83 : decode prog_10_method_48_code 83 = .ok (.iaload, 1) := by decide +kernel
theorem d_M_found_84 : decode prog_10_method_48_code 84 = .ok (.ireturn, 1) := by decide +kernel
theorem d_M_about_0 : decode prog_10_method_49_code 0 = .ok (.aload_n 0, 1) := by decide +kernel
theorem d_M_about_1 : decode prog_10_method_49_code 1 = .ok (.iload_n 1, 1) := by decide +kernel
theorem d_M_about_2 : decode prog_10_method_49_code 2 = .ok (.invokevirtual 217, 3) := by decide +kernel
theorem d_M_about_5 : decode prog_10_method_49_code 5 = .ok (.istore_n 3, 1) := by decide +kernel
theorem d_M_about_6 : decode prog_10_method_49_code 6 = .ok (.aload_n 0, 1) := by decide +kernel
theorem d_M_about_7 : decode prog_10_method_49_code 7 = .ok (.iload_n 3, 1) := by decide +kernel
theorem d_M_about_8 : decode prog_10_method_49_code 8 = .ok (.iconst (-1), 1) := by decide +kernel
theorem d_M_about_9 : decode prog_10_method_49_code 9 = .ok (.if_icmp .ne 7, 3) := by decide +kernel
theorem d_M_about_12 : decode prog_10_method_49_code 12 = .ok (.iconst 1, 1) := by decide +kernel
theorem d_M_about_13 : decode prog_10_method_49_code 13 = .ok (.goto 18, 3) := by decide +kernel
theorem d_M_about_16 : decode prog_10_method_49_code 16 = .ok (.iload_n 2, 1) := by decide +kernel
theorem d_M_about_17 : decode prog_10_method_49_code 17 = .ok (.ifCond .lt 9, 3) := by decide +kernel
theorem d_M_about_20 : decode prog_10_method_49_code 20 = .ok (.iload_n 2, 1) := by decide +kernel
theorem d_M_about_21 : decode prog_10_method_49_code 21 = .ok (.bipush 7, 2) := by decide +kernel
theorem d_M_about_23 : decode prog_10_method_49_code 23 = .ok (.if_icmp .le 7, 3) := by decide +kernel
theorem d_M_about_26 : decode prog_10_method_49_code 26 = .ok (.iconst 2, 1) := by decide +kernel
theorem d_M_about_27 : decode prog_10_method_49_code 27 = .ok (.goto 4, 3) := by decide +kernel
theorem d_M_about_30 : decode prog_10_method_49_code 30 = .ok (.iconst 0, 1) := by decide +kernel
theorem d_M_about_31 : decode prog_10_method_49_code 31 = .ok (.putfield 114, 3) := by decide +kernel
theorem d_M_about_34 : decode prog_10_method_49_code 34 = .ok (.aload_n 0, 1) := by decide +kernel
theorem d_M_about_35 : decode prog_10_method_49_code 35 = .ok (.getfield 114, 3) := by decide +kernel
theorem d_M_about_38 : decode prog_10_method_49_code 38 = .ok (.ifCond .le 5, 3) := by decide +kernel
theorem d_M_about_41 : decode prog_10_method_49_code 41 = .ok (.iconst 0, 1) := by decide +kernel
theorem d_M_about_42 : decode prog_10_method_49_code 42 = .ok (.ireturn, 1) := by decide +kernel
theorem d_M_about_43 : decode prog_10_method_49_code 43 = .ok (.iload_n 2, 1) := by decide +kernel
theorem d_M_about_44 : decode prog_10_method_49_code 44 = .ok (.iconst 4, 1) := by decide +kernel
theorem d_M_about_45 : decode prog_10_method_49_code 45 = .ok (.if_icmp .ge 51, 3) := by decide +kernel
theorem d_M_about_48 : decode prog_10_method_49_code 48 = .ok (.iload_n 2, 1) := by decide +kernel
theorem d_M_about_49 : decode prog_10_method_49_code 49 = .ok (.ifCond .ne 12, 3) := by decide +kernel
theorem d_M_about_52 : decode prog_10_method_49_code 52 = .ok (.aload_n 0, 1) := by decide +kernel
theorem d_M_about_53 : decode prog_10_method_49_code 53 = .ok (.getfield 32, 3) := by decide +kernel
theorem d_M_about_56 : decode prog_10_method_49_code 56 = .ok (.iload_n 3, 1) := by decide +kernel
theorem d_M_about_57 : decode prog_10_method_49_code 57 = .ok (.iaload, 1) := by decide +kernel
theorem d_M_about_58 : decode prog_10_method_49_code 58 = .ok (.goto 37, 3) := by decide +kernel
theorem d_M_about_61 : decode prog_10_method_49_code 61 = .ok (.iload_n 2, 1) := by decide +kernel
theorem d_M_about_62 : decode prog_10_method_49_code 62 = .ok (.iconst 1, 1) := by decide +kernel
theorem d_M_about_63 : decode prog_10_method_49_code 63 = .ok (.if_icmp .ne 12, 3) := by decide +kernel
theorem d_M_about_66 : decode prog_10_method_49_code 66 = .ok (.aload_n 0, 1) := by decide +kernel
theorem d_M_about_67 : decode prog_10_method_49_code 67 = .ok (.getfield 35, 3) := by decide +kernel
theorem d_M_about_70 : decode prog_10_method_49_code 70 = .ok (.iload_n 3, 1) := by decide +kernel
theorem d_M_about_71 : decode prog_10_method_49_code 71 = .ok (.iaload, 1) := by decide +kernel
theorem d_M_about_72 : decode prog_10_method_49_code 72 = .ok (.goto 23, 3) := by decide +kernel
theorem d_M_about_75 : decode prog_10_method_49_code 75 = .ok (.iload_n 2, 1) := by decide +kernel
theorem d_M_about_76 : decode prog_10_method_49_code 76 = .ok (.iconst 2, 1) := by decide +kernel
theorem d_M_about_77 : decode prog_10_method_49_code 77 = .ok (.if_icmp .ne 12, 3) := by decide +kernel
theorem d_M_about_80 : decode prog_10_method_49_code 80 = .ok (.aload_n 0, 1) := by decide +kernel
theorem d_M_about_81 : decode prog_10_method_49_code 81 = .ok (.getfield 38, 3) := by decide +kernel
theorem d_M_about_84 : decode prog_10_method_49_code 84 = .ok (.iload_n 3, 1) := by decide +kernel
theorem d_M_about_85 : decode prog_10_method_49_code 85 = .ok (.iaload, 1) := by decide +kernel
theorem d_M_about_86 : decode prog_10_method_49_code 86 = .ok (.goto 9, 3) := by decide +kernel
theorem d_M_about_89 : decode prog_10_method_49_code 89 = .ok (.aload_n 0, 1) := by decide +kernel
theorem d_M_about_90 : decode prog_10_method_49_code 90 = .ok (.getfield 44, 3) := by decide +kernel
theorem d_M_about_93 : decode prog_10_method_49_code 93 = .ok (.iload_n 3, 1) := by decide +kernel
theorem d_M_about_94 : decode prog_10_method_49_code 94 = .ok (.iaload, 1) := by decide +kernel
theorem d_M_about_95 : decode prog_10_method_49_code 95 = .ok (.ireturn, 1) := by decide +kernel
theorem d_M_about_96 : decode prog_10_method_49_code 96 = .ok (.iload_n 2, 1) := by decide +kernel
theorem d_M_about_97 : decode prog_10_method_49_code 97 = .ok (.bipush 6, 2) := by decide +kernel
theorem d_M_about_99 : decode prog_10_method_49_code 99 = .ok (.if_icmp .ge 24, 3) := by decide +kernel
theorem d_M_about_102 : decode prog_10_method_49_code 102 = .ok (.iload_n 2, 1) := by decide +kernel
theorem d_M_about_103 : decode prog_10_method_49_code 103 = .ok (.iconst 4, 1) := by decide +kernel
theorem d_M_about_104 : decode prog_10_method_49_code 104 = .ok (.if_icmp .ne 12, 3) := by decide +kernel
theorem d_M_about_107 : decode prog_10_method_49_code 107 = .ok (.aload_n 0, 1) := by decide +kernel
theorem d_M_about_108 : decode prog_10_method_49_code 108 = .ok (.getfield 47, 3) := by decide +kernel
theorem d_M_about_111 : decode prog_10_method_49_code 111 = .ok (.iload_n 3, 1) := by decide +kernel
theorem d_M_about_112 : decode prog_10_method_49_code 112 = .ok (.iaload, 1) := by decide +kernel
theorem d_M_about_113 : decode prog_10_method_49_code 113 = .ok (.goto 9, 3) := by decide +kernel
theorem d_M_about_116 : decode prog_10_method_49_code 116 = .ok (.aload_n 0, 1) := by decide +kernel
theorem d_M_about_117 : decode prog_10_method_49_code 117 = .ok (.getfield 50, 3) := by decide +kernel
theorem d_M_about_120 : decode prog_10_method_49_code 120 = .ok (.iload_n 3, 1) := by decide +kernel
theorem d_M_about_121 : decode prog_10_method_49_code 121 = .ok (.iaload, 1) := by decide +kernel
theorem d_M_about_122 : decode prog_10_method_49_code 122 = .ok (.ireturn, 1) := by decide +kernel
theorem d_M_about_123 : decode prog_10_method_49_code 123 = .ok (.iconst 0, 1) := by decide +kernel
theorem d_M_about_124 : decode prog_10_method_49_code 124 = .ok (.istore 4, 2) := by decide +kernel
theorem d_M_about_126 : decode prog_10_method_49_code 126 = .ok (.iconst 0, 1) := by decide +kernel
theorem d_M_about_127 : decode prog_10_method_49_code 127 = .ok (.istore 5, 2) := by decide +kernel
theorem d_M_about_129 : decode prog_10_method_49_code 129 = .ok (.iload 5, 2) := by decide +kernel
theorem d_M_about_131 : decode prog_10_method_49_code 131 = .ok (.bipush 8, 2) := by decide +kernel
theorem d_M_about_133 : decode prog_10_method_49_code 133 = .ok (.if_icmp .ge 34, 3) := by decide +kernel
theorem d_M_about_136 : decode prog_10_method_49_code 136 = .ok (.iload 4, 2) := by decide +kernel
theorem d_M_about_138 : decode prog_10_method_49_code 138 = .ok (.aload_n 0, 1) := by decide +kernel
theorem d_M_about_139 : decode prog_10_method_49_code 139 = .ok (.getfield 87, 3) := by decide +kernel
theorem d_M_about_142 : decode prog_10_method_49_code 142 = .ok (.bipush 8, 2) := by decide +kernel
theorem d_M_about_144 : decode prog_10_method_49_code 144 = .ok (.iload_n 3, 1) := by decide +kernel
theorem d_M_about_145 : decode prog_10_method_49_code 145 = .ok (.imul, 1) := by decide +kernel
theorem d_M_about_146 : decode prog_10_method_49_code 146 = .ok (.iload 5, 2) := by decide +kernel
theorem d_M_about_148 : decode prog_10_method_49_code 148 = .ok (.iadd, 1) := by decide +kernel
theorem d_M_about_149 : decode prog_10_method_49_code 149 = .ok (.baload, 1) := by decide +kernel
theorem d_M_about_150 : decode prog_10_method_49_code 150 = .ok (.ifCond .eq 7, 3) := by decide +kernel
theorem d_M_about_153 : decode prog_10_method_49_code 153 = .ok (.iconst 1, 1) := by decide +kernel
theorem d_M_about_154 : decode prog_10_method_49_code 154 = .ok (.goto 4, 3) := by decide +kernel
theorem d_M_about_157 : decode prog_10_method_49_code 157 = .ok (.iconst 0, 1) := by decide +kernel
theorem d_M_about_158 : decode prog_10_method_49_code 158 = .ok (.iadd, 1) := by decide +kernel
theorem d_M_about_159 : decode prog_10_method_49_code 159 = .ok (.istore 4, 2) := by decide +kernel
theorem d_M_about_161 : decode prog_10_method_49_code 161 = .ok (.iinc 5 1, 3) := by decide +kernel
theorem d_M_about_164 : decode prog_10_method_49_code 164 = .ok (.goto (-35), 3) := by decide +kernel
theorem d_M_about_167 : decode prog_10_method_49_code 167 = .ok (.aload_n 0, 1) := by decide +kernel
theorem d_M_about_168 : decode prog_10_method_49_code 168 = .ok (.getfield 41, 3) := by decide +kernel
theorem d_M_about_171 : decode prog_10_method_49_code 171 = .ok (.iload_n 3, 1) := by decide +kernel
theorem d_M_about_172 : decode prog_10_method_49_code 172 = .ok (.iaload, 1) := by decide +kernel
theorem d_M_about_173 : decode prog_10_method_49_code 173 = .ok (.ifCond .eq 7, 3) := by decide +kernel
theorem d_M_about_176 : decode prog_10_method_49_code 176 = .ok (.iconst 0, 1) := by decide +kernel
theorem d_M_about_177 : decode prog_10_method_49_code 177 = .ok (.goto 20, 3) := by decide +kernel
theorem d_M_about_180 : decode prog_10_method_49_code 180 = .ok (.iload_n 2, 1) := by decide +kernel
theorem d_M_about_181 : decode prog_10_method_49_code 181 = .ok (.bipush 6, 2) := by decide +kernel
theorem d_M_about_183 : decode prog_10_method_49_code 183 = .ok (.if_icmp .ne 12, 3) := by decide +kernel
theorem d_M_about_186 : decode prog_10_method_49_code 186 = .ok (.aload_n 0, 1) := by decide +kernel
theorem d_M_about_187 : decode prog_10_method_49_code 187 = .ok (.getfield 53, 3) := by decide +kernel
theorem d_M_about_190 : decode prog_10_method_49_code 190 = .ok (.iload_n 3, 1) := by decide +kernel
theorem d_M_about_191 : decode prog_10_method_49_code 191 = .ok (.iaload, 1) := by decide +kernel
theorem d_M_about_192 : decode prog_10_method_49_code 192 = .ok (.goto 5, 3) := by decide +kernel
theorem d_M_about_195 : decode prog_10_method_49_code 195 = .ok (.iload 4, 2) := by decide +kernel
theorem d_M_about_197 : decode prog_10_method_49_code 197 = .ok (.ireturn, 1) := by decide +kernel
theorem d_M_mark_0 : decode prog_10_method_50_code 0 = .ok (.aload_n 0, 1) := by decide +kernel
theorem d_M_mark_1 : decode prog_10_method_50_code 1 = .ok (.iload_n 2, 1) := by decide +kernel
theorem d_M_mark_2 : decode prog_10_method_50_code 2 = .ok (.invokevirtual 217, 3) := by decide +kernel
theorem d_M_mark_5 : decode prog_10_method_50_code 5 = .ok (.istore_n 3, 1) := by decide +kernel
theorem d_M_mark_6 : decode prog_10_method_50_code 6 = .ok (.aload_n 0, 1) := by decide +kernel
theorem d_M_mark_7 : decode prog_10_method_50_code 7 = .ok (.iload_n 1, 1) := by decide +kernel
theorem d_M_mark_8 : decode prog_10_method_50_code 8 = .ok (.invokestatic 118, 3) := by decide +kernel
theorem d_M_mark_11 : decode prog_10_method_50_code 11 = .ok (.ifCond .eq 8, 3) := by decide +kernel
theorem d_M_mark_14 : decode prog_10_method_50_code 14 = .ok (.iload_n 3, 1) := by decide +kernel
theorem d_M_mark_15 : decode prog_10_method_50_code 15 = .ok (.iconst (-1), 1) := by decide +kernel
theorem d_M_mark_16 : decode prog_10_method_50_code 16 = .ok (.if_icmp .ne 7, 3) := by decide +kernel
theorem d_M_mark_19 : decode prog_10_method_50_code 19 = .ok (.iconst 1, 1) := by decide +kernel
theorem d_M_mark_20 : decode prog_10_method_50_code 20 = .ok (.goto 4, 3) := by decide +kernel
theorem d_M_mark_23 : decode prog_10_method_50_code 23 = .ok (.iconst 0, 1) := by decide +kernel
theorem d_M_mark_24 : decode prog_10_method_50_code 24 = .ok (.putfield 114, 3) := by decide +kernel
theorem d_M_mark_27 : decode prog_10_method_50_code 27 = .ok (.aload_n 0, 1) := by decide +kernel
theorem d_M_mark_28 : decode prog_10_method_50_code 28 = .ok (.getfield 114, 3) := by decide +kernel
theorem d_M_mark_31 : decode prog_10_method_50_code 31 = .ok (.ifCond .le 7, 3) := by decide +kernel
theorem d_M_mark_34 : decode prog_10_method_50_code 34 = .ok (.iconst 0, 1) := by decide +kernel
theorem d_M_mark_35 : decode prog_10_method_50_code 35 = .ok (.goto 14, 3) := by decide +kernel
theorem d_M_mark_38 : decode prog_10_method_50_code 38 = .ok (.aload_n 0, 1) := by decide +kernel
theorem d_M_mark_39 : decode prog_10_method_50_code 39 = .ok (.getfield 56, 3) := by decide +kernel
theorem d_M_mark_42 : decode prog_10_method_50_code 42 = .ok (.bipush 8, 2) := by decide +kernel
theorem d_M_mark_44 : decode prog_10_method_50_code 44 = .ok (.iload_n 3, 1) := by decide +kernel
theorem d_M_mark_45 : decode prog_10_method_50_code 45 = .ok (.imul, 1) := by decide +kernel
theorem d_M_mark_46 : decode prog_10_method_50_code 46 = .ok (.iload_n 1, 1) := by decide +kernel
theorem d_M_mark_47 : decode prog_10_method_50_code 47 = .ok (.iadd, 1) := by decide +kernel
theorem d_M_mark_48 : decode prog_10_method_50_code 48 = .ok (.iaload, 1) := by decide +kernel
theorem d_M_mark_49 : decode prog_10_method_50_code 49 = .ok (.ireturn, 1) := by decide +kernel
theorem d_M_forget_0 : decode prog_10_method_51_code 0 = .ok (.aload_n 0, 1) := by decide +kernel
theorem d_M_forget_1 : decode prog_10_method_51_code 1 = .ok (.iload_n 1, 1) := by decide +kernel
theorem d_M_forget_2 : decode prog_10_method_51_code 2 = .ok (.invokevirtual 217, 3) := by decide +kernel
theorem d_M_forget_5 : decode prog_10_method_51_code 5 = .ok (.istore_n 2, 1) := by decide +kernel
theorem d_M_forget_6 : decode prog_10_method_51_code 6 = .ok (.aload_n 0, 1) := by decide +kernel
theorem d_M_forget_7 : decode prog_10_method_51_code 7 = .ok (.iload_n 2, 1) := by decide +kernel
theorem d_M_forget_8 : decode prog_10_method_51_code 8 = .ok (.iconst (-1), 1) := by decide +kernel
theorem d_M_forget_9 : decode prog_10_method_51_code 9 = .ok (.if_icmp .ne 7, 3) := by decide +kernel
theorem d_M_forget_12 : decode prog_10_method_51_code 12 = .ok (.iconst 1, 1) := by decide +kernel
theorem d_M_forget_13 : decode prog_10_method_51_code 13 = .ok (.goto 4, 3) := by decide +kernel
theorem d_M_forget_16 : decode prog_10_method_51_code 16 = .ok (.iconst 0, 1) := by decide +kernel
theorem d_M_forget_17 : decode prog_10_method_51_code 17 = .ok (.putfield 114, 3) := by decide +kernel
theorem d_M_forget_20 : decode prog_10_method_51_code 20 = .ok (.aload_n 0, 1) := by decide +kernel
theorem d_M_forget_21 : decode prog_10_method_51_code 21 = .ok (.getfield 114, 3) := by decide +kernel
theorem d_M_forget_24 : decode prog_10_method_51_code 24 = .ok (.ifCond .le 5, 3) := by decide +kernel
theorem d_M_forget_27 : decode prog_10_method_51_code 27 = .ok (.iconst 0, 1) := by decide +kernel
theorem d_M_forget_28 : decode prog_10_method_51_code 28 = .ok (.ireturn, 1) := by decide +kernel
theorem d_M_forget_29 : decode prog_10_method_51_code 29 = .ok (.aload_n 0, 1) := by decide +kernel
theorem d_M_forget_30 : decode prog_10_method_51_code 30 = .ok (.getfield 127, 3) := by decide +kernel
theorem d_M_forget_33 : decode prog_10_method_51_code 33 = .ok (.iconst 1, 1) := by decide +kernel
theorem d_M_forget_34 : decode prog_10_method_51_code 34 = .ok (.isub, 1) := by decide +kernel
theorem d_M_forget_35 : decode prog_10_method_51_code 35 = .ok (.istore_n 3, 1) := by decide +kernel
theorem d_M_forget_36 : decode prog_10_method_51_code 36 = .ok (.iload_n 3, 1) := by decide +kernel
theorem d_M_forget_37 : decode prog_10_method_51_code 37 = .ok (.ifCond .lt 29, 3) := by decide +kernel
theorem d_M_forget_40 : decode prog_10_method_51_code 40 = .ok (.aload_n 0, 1) := by decide +kernel
theorem d_M_forget_41 : decode prog_10_method_51_code 41 = .ok (.getfield 102, 3) := by decide +kernel
theorem d_M_forget_44 : decode prog_10_method_51_code 44 = .ok (.bipush 7, 2) := by decide +kernel
theorem d_M_forget_46 : decode prog_10_method_51_code 46 = .ok (.iload_n 3, 1) := by decide +kernel
theorem d_M_forget_47 : decode prog_10_method_51_code 47 = .ok (.imul, 1) := by decide +kernel
theorem d_M_forget_48 : decode prog_10_method_51_code 48 = .ok (.iconst 1, 1) := by decide +kernel
theorem d_M_forget_49 : decode prog_10_method_51_code 49 = .ok (.iadd, 1) := by decide +kernel
theorem d_M_forget_50 : decode prog_10_method_51_code 50 = .ok (.iaload, 1) := by decide +kernel
theorem d_M_forget_51 : decode prog_10_method_51_code 51 = .ok (.iload_n 1, 1) := by decide +kernel
theorem d_M_forget_52 : decode prog_10_method_51_code 52 = .ok (.if_icmp .ne 8, 3) := by decide +kernel
theorem d_M_forget_55 : decode prog_10_method_51_code 55 = .ok (.aload_n 0, 1) := by decide +kernel
theorem d_M_forget_56 : decode prog_10_method_51_code 56 = .ok (.iload_n 3, 1) := by decide +kernel
theorem d_M_forget_57 : decode prog_10_method_51_code 57 = .ok (.invokevirtual 214, 3) := by decide +kernel
theorem d_M_forget_60 : decode prog_10_method_51_code 60 = .ok (.iinc 3 (-1), 3) := by decide +kernel
theorem d_M_forget_63 : decode prog_10_method_51_code 63 = .ok (.goto (-27), 3) := by decide +kernel
theorem d_M_forget_66 : decode prog_10_method_51_code 66 = .ok (.aload_n 0, 1) := by decide +kernel
theorem d_M_forget_67 : decode prog_10_method_51_code 67 = .ok (.getfield 20, 3) := by decide +kernel
theorem d_M_forget_70 : decode prog_10_method_51_code 70 = .ok (.iload_n 2, 1) := by decide +kernel
theorem d_M_forget_71 : decode prog_10_method_51_code 71 = .ok (.iconst 0, 1) := by decide +kernel
theorem d_M_forget_72 : decode prog_10_method_51_code 72 = .ok (.iastore, 1) := by decide +kernel
theorem d_M_forget_73 : decode prog_10_method_51_code 73 = .ok (.iconst 0, 1) := by decide +kernel
theorem d_M_forget_74 : decode prog_10_method_51_code 74 = .ok (.istore_n 3, 1) := by decide +kernel
theorem d_M_forget_75 : decode prog_10_method_51_code 75 = .ok (.iconst 0, 1) := by decide +kernel
theorem d_M_forget_76 : decode prog_10_method_51_code 76 = .ok (.istore 4, 2) := by decide +kernel
theorem d_M_forget_78 : decode prog_10_method_51_code 78 = .ok (.iload 4, 2) := by decide +kernel
theorem d_M_forget_80 : decode prog_10_method_51_code 80 = .ok (.bipush 8, 2) := by decide +kernel
theorem d_M_forget_82 : decode prog_10_method_51_code 82 = .ok (.if_icmp .ge 27, 3) := by decide +kernel
theorem d_M_forget_85 : decode prog_10_method_51_code 85 = .ok (.iload_n 3, 1) := by decide +kernel
theorem d_M_forget_86 : decode prog_10_method_51_code 86 = .ok (.aload_n 0, 1) := by decide +kernel
theorem d_M_forget_87 : decode prog_10_method_51_code 87 = .ok (.getfield 20, 3) := by decide +kernel
theorem d_M_forget_90 : decode prog_10_method_51_code 90 = .ok (.iload 4, 2) := by decide +kernel
theorem d_M_forget_92 : decode prog_10_method_51_code 92 = .ok (.iaload, 1) := by decide +kernel
theorem d_M_forget_93 : decode prog_10_method_51_code 93 = .ok (.ifCond .le 7, 3) := by decide +kernel
theorem d_M_forget_96 : decode prog_10_method_51_code 96 = .ok (.iconst 1, 1) := by decide +kernel
theorem d_M_forget_97 : decode prog_10_method_51_code 97 = .ok (.goto 4, 3) := by decide +kernel
theorem d_M_forget_100 : decode prog_10_method_51_code 100 = .ok (.iconst 0, 1) := by decide +kernel
theorem d_M_forget_101 : decode prog_10_method_51_code 101 = .ok (.iadd, 1) := by decide +kernel
theorem d_M_forget_102 : decode prog_10_method_51_code 102 = .ok (.istore_n 3, 1) := by decide +kernel
theorem d_M_forget_103 : decode prog_10_method_51_code 103 = .ok (.iinc 4 1, 3) := by decide +kernel
theorem d_M_forget_106 : decode prog_10_method_51_code 106 = .ok (.goto (-28), 3) := by decide +kernel
theorem d_M_forget_109 : decode prog_10_method_51_code 109 = .ok (.iload_n 3, 1) := by decide +kernel
theorem d_M_forget_110 : decode prog_10_method_51_code 110 = .ok (.ireturn, 1) := by decide +kernel
