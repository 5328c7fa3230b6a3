def rm_SortedRow_below : Room := { frames := 0, locals := 0, cells := 0, slots := 0 }
def rm_H_isAskable : Room := { frames := 0, locals := 0, cells := 0, slots := 0 }
def rm_Question_isThere : Room := { frames := 0, locals := 0, cells := 0, slots := 0 }
def rm_Question_begin : Room := { frames := 0, locals := 0, cells := 0, slots := 0 }
def rm_Question_beginTurn : Room := { frames := 0, locals := 0, cells := 0, slots := 0 }
def rm_Replies_clear : Room := { frames := 0, locals := 0, cells := 0, slots := 0 }
def rm_Post_at : Room := { frames := 0, locals := 0, cells := 0, slots := 0 }
def rm_Letter_address : Room := { frames := 0, locals := 0, cells := 0, slots := 0 }
def rm_Question_numbersAsked : Room := { frames := 0, locals := 0, cells := 0, slots := 0 }
def rm_Letter_put : Room := { frames := 0, locals := 0, cells := 0, slots := 0 }
def rm_H_letters : Room := { frames := 0, locals := 0, cells := 0, slots := 0 }
def rm_Letter_number : Room := { frames := 0, locals := 0, cells := 0, slots := 0 }
def rm_Letter_isAsking : Room := { frames := 0, locals := 0, cells := 0, slots := 0 }
def rm_SortedRow_at : Room := { frames := 0, locals := 0, cells := 0, slots := 0 }
def rm_Question_awaits : Room := { frames := 0, locals := 0, cells := 0, slots := 0 }
def rm_Replies_total : Room := { frames := 0, locals := 0, cells := 0, slots := 0 }
def rm_Question_next : Room := { frames := 0, locals := 0, cells := 0, slots := 0 }
def rm_Search_begin : Room := { frames := 0, locals := 0, cells := 0, slots := 0 }
def rm_Replies_countUpTo : Room := { frames := 0, locals := 0, cells := 0, slots := 0 }
def rm_Search_rankWithin : Room := { frames := 0, locals := 0, cells := 0, slots := 0 }
def rm_Question_hasTwoRanks : Room := { frames := 0, locals := 0, cells := 0, slots := 0 }
def rm_Question_conclude : Room := { frames := 0, locals := 0, cells := 0, slots := 0 }
def rm_Search_keepBelowPivot : Room := { frames := 0, locals := 0, cells := 0, slots := 0 }
def rm_Search_keepAbovePivot : Room := { frames := 0, locals := 0, cells := 0, slots := 0 }
def rm_M_thrown : Room := { frames := 0, locals := 0, cells := 0, slots := 0 }
def rm_M_isLogger : Room := { frames := 0, locals := 0, cells := 0, slots := 0 }
def rm_M_placeOf : Room := { frames := 0, locals := 0, cells := 0, slots := 0 }
def rm_M_countOf : Room := { frames := 0, locals := 0, cells := 0, slots := 0 }
def rm_M_sumOf : Room := { frames := 0, locals := 0, cells := 0, slots := 0 }
def rm_M_send : Room := { frames := 0, locals := 0, cells := 0, slots := 0 }
def rm_M_ready : Room := { frames := 0, locals := 0, cells := 0, slots := 0 }
def rm_M_answered : Room := { frames := 0, locals := 0, cells := 0, slots := 0 }
def rm_M_total : Room := { frames := 0, locals := 0, cells := 0, slots := 0 }
def rm_M_firstRank : Room := { frames := 0, locals := 0, cells := 0, slots := 0 }
def rm_M_lastRank : Room := { frames := 0, locals := 0, cells := 0, slots := 0 }
def rm_M_pivotOf : Room := { frames := 0, locals := 0, cells := 0, slots := 0 }
def rm_M_givenUpTo : Room := { frames := 0, locals := 0, cells := 0, slots := 0 }
def rm_M_remove : Room := { frames := 0, locals := 0, cells := 0, slots := 0 }
def rm_M_isLetter : Room := { frames := 0, locals := 0, cells := 0, slots := 0 }
def rm_M_letters : Room := { frames := 0, locals := 0, cells := 0, slots := 0 }
def rm_H_seek : Room := { frames := 1, locals := 20, cells := 0, slots := 0 }
def rm_M_record : Room := { frames := 1, locals := 20, cells := 0, slots := 0 }
def rm_M_fill : Room := { frames := 1, locals := 20, cells := 0, slots := 0 }
def rm_M_size : Room := { frames := 1, locals := 20, cells := 0, slots := 0 }
def rm_M_crash : Room := { frames := 1, locals := 20, cells := 0, slots := 0 }
def rm_M_restart : Room := { frames := 1, locals := 20, cells := 0, slots := 0 }
def rm_Question_beginStep : Room := { frames := 1, locals := 21, cells := 0, slots := 0 }
def rm_Post_send : Room := { frames := 1, locals := 21, cells := 0, slots := 0 }
def rm_Letter_tell : Room := { frames := 1, locals := 21, cells := 0, slots := 0 }
def rm_SortedRow_sum : Room := { frames := 1, locals := 21, cells := 0, slots := 0 }
def rm_Question_firstRank : Room := { frames := 1, locals := 21, cells := 0, slots := 0 }
def rm_Question_lastRank : Room := { frames := 1, locals := 21, cells := 0, slots := 0 }
def rm_M_letter : Room := { frames := 1, locals := 21, cells := 0, slots := 0 }
def rm_M_twin : Room := { frames := 1, locals := 21, cells := 0, slots := 0 }
def rm_M_lose : Room := { frames := 1, locals := 22, cells := 0, slots := 0 }
def rm_Question_seekRank : Room := { frames := 1, locals := 23, cells := 0, slots := 0 }
def rm_Replies_pivot : Room := { frames := 1, locals := 23, cells := 0, slots := 0 }
def rm_Question_afterHold : Room := { frames := 1, locals := 23, cells := 0, slots := 0 }
def rm_M_state : Room := { frames := 1, locals := 23, cells := 0, slots := 0 }
def rm_M_answer : Room := { frames := 1, locals := 23, cells := 0, slots := 0 }
def rm_M_found : Room := { frames := 1, locals := 23, cells := 0, slots := 0 }
def rm_M_about : Room := { frames := 1, locals := 23, cells := 0, slots := 0 }
def rm_M_mark : Room := { frames := 1, locals := 23, cells := 0, slots := 0 }
def rm_M_forget : Room := { frames := 1, locals := 23, cells := 0, slots := 0 }
def rm_M_readyAsk : Room := { frames := 1, locals := 24, cells := 0, slots := 0 }
def rm_M_afterAdd : Room := { frames := 1, locals := 24, cells := 0, slots := 0 }
def rm_SortedRow_within : Room := { frames := 1, locals := 25, cells := 0, slots := 0 }
def rm_Question_writeAsking : Room := { frames := 1, locals := 26, cells := 0, slots := 0 }
def rm_Letter_replyTo : Room := { frames := 1, locals := 26, cells := 0, slots := 0 }
def rm_M_leastOf : Room := { frames := 1, locals := 29, cells := 0, slots := 0 }
def rm_SortedRow_insert : Room := { frames := 1, locals := 32, cells := 0, slots := 0 }
def rm_Post_takeOut : Room := { frames := 1, locals := 32, cells := 0, slots := 0 }
def rm_SortedRow_copy : Room := { frames := 1, locals := 32, cells := 0, slots := 0 }
def rm_Letter_copy : Room := { frames := 1, locals := 32, cells := 0, slots := 0 }
def rm_Question_afterBothRanks : Room := { frames := 2, locals := 41, cells := 0, slots := 0 }
def rm_Question_afterAdd : Room := { frames := 2, locals := 41, cells := 0, slots := 0 }
def rm_Question_afterFreeze : Room := { frames := 2, locals := 45, cells := 0, slots := 0 }
def rm_Question_afterSplit : Room := { frames := 2, locals := 46, cells := 0, slots := 0 }
def rm_M_askAll : Room := { frames := 2, locals := 46, cells := 0, slots := 0 }
def rm_M_resend : Room := { frames := 2, locals := 46, cells := 0, slots := 0 }
def rm_H_askThoseLeft : Room := { frames := 2, locals := 49, cells := 0, slots := 0 }
def rm_Letter_putPart : Room := { frames := 2, locals := 49, cells := 0, slots := 0 }
def rm_Letter_putSides : Room := { frames := 2, locals := 49, cells := 0, slots := 0 }
def rm_Letter_putGiven : Room := { frames := 2, locals := 49, cells := 0, slots := 0 }
def rm_Letter_putAdded : Room := { frames := 2, locals := 49, cells := 0, slots := 0 }
def rm_Question_freeze : Room := { frames := 2, locals := 53, cells := 0, slots := 0 }
def rm_Replies_hear : Room := { frames := 2, locals := 54, cells := 0, slots := 0 }
def rm_Post_loseAllOf : Room := { frames := 2, locals := 54, cells := 0, slots := 0 }
def rm_M_readyAnswer : Room := { frames := 2, locals := 57, cells := 0, slots := 0 }
def rm_Question_settle : Room := { frames := 3, locals := 61, cells := 0, slots := 0 }
def rm_M_search : Room := { frames := 3, locals := 69, cells := 0, slots := 0 }
def rm_M_afterSplit : Room := { frames := 3, locals := 69, cells := 0, slots := 0 }
def rm_M_begin : Room := { frames := 3, locals := 69, cells := 0, slots := 0 }
def rm_H_askAll : Room := { frames := 3, locals := 72, cells := 0, slots := 0 }
def rm_Letter_fillIn : Room := { frames := 3, locals := 75, cells := 0, slots := 0 }
def rm_Question_afterCut : Room := { frames := 4, locals := 82, cells := 0, slots := 0 }
def rm_M_afterFreeze : Room := { frames := 4, locals := 91, cells := 0, slots := 0 }
def rm_M_isFound : Room := { frames := 4, locals := 91, cells := 0, slots := 0 }
def rm_M_ask : Room := { frames := 4, locals := 91, cells := 0, slots := 0 }
def rm_M_takeOver : Room := { frames := 4, locals := 91, cells := 0, slots := 0 }
def rm_H_askUnlessDone : Room := { frames := 4, locals := 93, cells := 0, slots := 0 }
def rm_H_reply : Room := { frames := 4, locals := 99, cells := 0, slots := 0 }
def rm_Question_goOn : Room := { frames := 5, locals := 104, cells := 0, slots := 0 }
def rm_M_afterCut : Room := { frames := 5, locals := 113, cells := 0, slots := 0 }
def rm_M_afterGive : Room := { frames := 5, locals := 113, cells := 0, slots := 0 }
def rm_H_needLogger : Room := { frames := 6, locals := 90, cells := 1, slots := 6 }
def rm_H_needUp : Room := { frames := 6, locals := 90, cells := 1, slots := 6 }
def rm_H_needLetter : Room := { frames := 6, locals := 90, cells := 1, slots := 6 }
def rm_H_questionOf : Room := { frames := 6, locals := 90, cells := 1, slots := 6 }
def rm_H_needAnswered : Room := { frames := 6, locals := 90, cells := 1, slots := 6 }
def rm_H_arrive : Room := { frames := 6, locals := 124, cells := 0, slots := 0 }
def rm_M_goOn : Room := { frames := 6, locals := 140, cells := 0, slots := 0 }
def rm_H_loggerOf : Room := { frames := 7, locals := 110, cells := 1, slots := 6 }
def rm_H_needRoomFor : Room := { frames := 7, locals := 110, cells := 2, slots := 12 }
def rm_H_letter : Room := { frames := 7, locals := 111, cells := 2, slots := 12 }
def rm_H_lose : Room := { frames := 7, locals := 111, cells := 1, slots := 6 }
def rm_H_twin : Room := { frames := 7, locals := 111, cells := 1, slots := 6 }
def rm_H_resend : Room := { frames := 7, locals := 112, cells := 2, slots := 12 }
def rm_H_state : Room := { frames := 7, locals := 112, cells := 1, slots := 6 }
def rm_H_answer : Room := { frames := 7, locals := 112, cells := 2, slots := 12 }
def rm_H_found : Room := { frames := 7, locals := 112, cells := 3, slots := 18 }
def rm_H_about : Room := { frames := 7, locals := 112, cells := 2, slots := 12 }
def rm_H_mark : Room := { frames := 7, locals := 112, cells := 2, slots := 12 }
def rm_H_forget : Room := { frames := 7, locals := 112, cells := 1, slots := 6 }
def rm_H_deliver : Room := { frames := 7, locals := 146, cells := 1, slots := 6 }
def rm_H_run : Room := { frames := 7, locals := 146, cells := 1, slots := 6 }
def rm_M_take : Room := { frames := 7, locals := 164, cells := 0, slots := 0 }
def rm_H_record : Room := { frames := 8, locals := 131, cells := 3, slots := 18 }
def rm_H_fill : Room := { frames := 8, locals := 131, cells := 4, slots := 24 }
def rm_H_size : Room := { frames := 8, locals := 131, cells := 1, slots := 6 }
def rm_H_takeOver : Room := { frames := 8, locals := 131, cells := 4, slots := 24 }
def rm_H_crash : Room := { frames := 8, locals := 131, cells := 1, slots := 6 }
def rm_H_restart : Room := { frames := 8, locals := 131, cells := 1, slots := 6 }
def rm_L_lose : Room := { frames := 8, locals := 132, cells := 1, slots := 6 }
def rm_L_letter : Room := { frames := 8, locals := 133, cells := 2, slots := 12 }
def rm_L_twin : Room := { frames := 8, locals := 133, cells := 1, slots := 6 }
def rm_L_state : Room := { frames := 8, locals := 133, cells := 1, slots := 6 }
def rm_L_resend : Room := { frames := 8, locals := 134, cells := 2, slots := 12 }
def rm_L_answer : Room := { frames := 8, locals := 134, cells := 2, slots := 12 }
def rm_L_mark : Room := { frames := 8, locals := 134, cells := 2, slots := 12 }
def rm_L_found : Room := { frames := 8, locals := 135, cells := 3, slots := 18 }
def rm_L_about : Room := { frames := 8, locals := 135, cells := 2, slots := 12 }
def rm_L_forget : Room := { frames := 8, locals := 135, cells := 1, slots := 6 }
def rm_L_deliver : Room := { frames := 8, locals := 167, cells := 1, slots := 6 }
def rm_L_run : Room := { frames := 8, locals := 168, cells := 1, slots := 6 }
def rm_M_bring : Room := { frames := 8, locals := 189, cells := 0, slots := 0 }
def rm_L_size : Room := { frames := 9, locals := 152, cells := 1, slots := 6 }
def rm_L_restart : Room := { frames := 9, locals := 152, cells := 1, slots := 6 }
def rm_L_record : Room := { frames := 9, locals := 154, cells := 3, slots := 18 }
def rm_L_takeOver : Room := { frames := 9, locals := 154, cells := 4, slots := 24 }
def rm_L_crash : Room := { frames := 9, locals := 155, cells := 1, slots := 6 }
def rm_L_fill : Room := { frames := 9, locals := 158, cells := 4, slots := 24 }
def rm_M_deliver : Room := { frames := 9, locals := 218, cells := 0, slots := 0 }
def rm_M_run : Room := { frames := 9, locals := 218, cells := 0, slots := 0 }
theorem gf_H_11 : ga_F "RankHouse" 11 7 0 2 := ⟨by decide, rfl, R_7, F_7, 4, rfl, by decide, rfl, gl_7, gw_126⟩
theorem gy_H_29 : ga_Y "RankHouse" 29 7 y_H_loggerOf prog_1_method_23_code 2 ((Option.some (Jvm.ClassFile.FieldType.object "RankHouse$Logger"))) 1 := ⟨by decide, ⟨F_7, 4, rfl⟩, gw_152, gw_154, ga_ms (List.mem_of_getElem? (i := 0) rfl) (by decide +kernel), gw_1, gw_155, by decide, by decide, by decide +kernel⟩
theorem gs_H_33 : ga_YS "RankHouse" 33 y_H_needRoomFor prog_1_method_25_code 2 ((Option.none : Option Jvm.ClassFile.FieldType)) 2 := ⟨gw_227, gw_228, gw_1, gw_229, by decide, by decide, by decide +kernel⟩
theorem gf_H_37 : ga_F "RankHouse" 37 1 0 2 := ⟨by decide, rfl, R_1, F_1, 2, rfl, by decide, rfl, gl_1, gw_52⟩
theorem gy_H_41 : ga_Y "RankHouse" 41 6 y_SortedRow_insert prog_8_method_2_code 3 ((Option.none : Option Jvm.ClassFile.FieldType)) 1 := ⟨by decide, ⟨F_6, 2, rfl⟩, gw_250, gw_251, gw_252, gw_3, gw_253, by decide, by decide, by decide +kernel⟩
theorem gf_H_47 : ga_F "RankHouse" 47 6 1 0 := ⟨by decide, rfl, R_6, F_6, 2, rfl, by decide, rfl, gl_6, gw_41⟩
theorem gk_H_58 : Cond.constant "RankHouse" 58 (40503 : Int32) ∈ ga_ws := gw_285
theorem gs_H_59 : ga_YS "RankHouse" 59 y_H_isAskable prog_1_method_28_code 2 ((Option.some Jvm.ClassFile.FieldType.boolean)) 2 := ⟨gw_300, gw_301, gw_1, gw_302, by decide, by decide, by decide +kernel⟩
theorem gs_H_65 : ga_YS "RankHouse" 65 y_H_needUp prog_1_method_24_code 1 ((Option.none : Option Jvm.ClassFile.FieldType)) 1 := ⟨gw_230, gw_231, gw_1, gw_232, by decide, by decide, by decide +kernel⟩
theorem gy_H_69 : ga_Y "RankHouse" 69 7 y_H_freePlace prog_1_method_31_code 2 ((Option.some (Jvm.ClassFile.FieldType.object "RankHouse$Question"))) 0 := ⟨by decide, ⟨F_7, 4, rfl⟩, gw_304, gw_306, ga_ms (List.mem_of_getElem? (i := 2) rfl) (by decide +kernel), gw_1, gw_307, by decide, by decide, by decide +kernel⟩
theorem gf_H_73 : ga_F "RankHouse" 73 7 3 0 := ⟨by decide, rfl, R_7, F_7, 4, rfl, by decide, rfl, gl_7, gw_129⟩
theorem gp_H_73 : ga_P "RankHouse" 73 7 3 0 .int := ⟨by decide, rfl, R_7, F_7, 4, t_7, rfl, by decide, rfl, gl_7, gw_129, t_7_ok, nm_7, rfl, t_7_ok 3 (by decide)⟩
theorem gy_H_76 : ga_Y "RankHouse" 76 3 y_Question_begin prog_5_method_4_code 6 ((Option.none : Option Jvm.ClassFile.FieldType)) 4 := ⟨by decide, ⟨F_3, 19, rfl⟩, gw_460, gw_461, gw_462, gw_14, gw_463, by decide, by decide, by decide +kernel⟩
theorem gy_H_80 : ga_Y "RankHouse" 80 3 y_Question_beginTurn prog_5_method_5_code 2 ((Option.none : Option Jvm.ClassFile.FieldType)) 1 := ⟨by decide, ⟨F_3, 19, rfl⟩, gw_464, gw_465, gw_466, gw_14, gw_467, by decide, by decide, by decide +kernel⟩
theorem gy_H_83 : ga_Y "RankHouse" 83 7 y_H_askAll prog_1_method_33_code 2 ((Option.none : Option Jvm.ClassFile.FieldType)) 1 := ⟨by decide, ⟨F_7, 4, rfl⟩, gw_468, gw_470, ga_ms (List.mem_of_getElem? (i := 3) rfl) (by decide +kernel), gw_1, gw_471, by decide, by decide, by decide +kernel⟩
theorem gf_H_25 : ga_F "RankHouse" 25 7 2 2 := ⟨by decide, rfl, R_7, F_7, 4, rfl, by decide, rfl, gl_7, gw_128⟩
theorem gf_H_87 : ga_F "RankHouse" 87 2 2 0 := ⟨by decide, rfl, R_2, F_2, 3, rfl, by decide, rfl, gl_2, gw_118⟩
theorem gy_H_90 : ga_Y "RankHouse" 90 7 y_H_needLetter prog_1_method_26_code 2 ((Option.none : Option Jvm.ClassFile.FieldType)) 1 := ⟨by decide, ⟨F_7, 4, rfl⟩, gw_515, gw_517, ga_ms (List.mem_of_getElem? (i := 6) rfl) (by decide +kernel), gw_1, gw_518, by decide, by decide, by decide +kernel⟩
theorem gy_H_95 : ga_Y "RankHouse" 95 2 y_Post_at prog_4_method_2_code 2 ((Option.some (Jvm.ClassFile.FieldType.object "RankHouse$Letter"))) 1 := ⟨by decide, ⟨F_2, 3, rfl⟩, gw_521, gw_489, gw_490, gw_4, gw_491, by decide, by decide, by decide +kernel⟩
theorem gy_H_99 : ga_Y "RankHouse" 99 0 y_Letter_tell prog_2_method_8_code 2 ((Option.some Jvm.ClassFile.FieldType.int)) 1 := ⟨by decide, ⟨F_0, 9, rfl⟩, gw_522, gw_523, gw_524, gw_5, gw_525, by decide, by decide, by decide +kernel⟩
theorem gy_H_105 : ga_Y "RankHouse" 105 2 y_Post_takeOut prog_4_method_4_code 3 ((Option.some (Jvm.ClassFile.FieldType.object "RankHouse$Letter"))) 1 := ⟨by decide, ⟨F_2, 3, rfl⟩, gw_537, gw_538, gw_539, gw_4, gw_540, by decide, by decide, by decide +kernel⟩
theorem gy_H_108 : ga_Y "RankHouse" 108 7 y_H_arrive prog_1_method_35_code 3 ((Option.none : Option Jvm.ClassFile.FieldType)) 1 := ⟨by decide, ⟨F_7, 4, rfl⟩, gw_542, gw_544, ga_ms (List.mem_of_getElem? (i := 7) rfl) (by decide +kernel), gw_1, gw_545, by decide, by decide, by decide +kernel⟩
theorem gy_H_112 : ga_Y "RankHouse" 112 2 y_Post_send prog_4_method_3_code 1 ((Option.some (Jvm.ClassFile.FieldType.object "RankHouse$Letter"))) 0 := ⟨by decide, ⟨F_2, 3, rfl⟩, gw_484, gw_485, gw_486, gw_4, gw_487, by decide, by decide, by decide +kernel⟩
theorem gy_H_116 : ga_Y "RankHouse" 116 0 y_Letter_copy prog_2_method_4_code 2 ((Option.none : Option Jvm.ClassFile.FieldType)) 1 := ⟨by decide, ⟨F_0, 9, rfl⟩, gw_733, gw_734, gw_735, gw_5, gw_736, by decide, by decide, by decide +kernel⟩
theorem gy_H_121 : ga_Y "RankHouse" 121 7 y_H_questionOf prog_1_method_30_code 3 ((Option.some (Jvm.ClassFile.FieldType.object "RankHouse$Question"))) 1 := ⟨by decide, ⟨F_7, 4, rfl⟩, gw_753, gw_755, ga_ms (List.mem_of_getElem? (i := 28) rfl) (by decide +kernel), gw_1, gw_756, by decide, by decide, by decide +kernel⟩
theorem gf_H_125 : ga_F "RankHouse" 125 3 14 0 := ⟨by decide, rfl, R_3, F_3, 19, rfl, by decide, rfl, gl_3, gw_407⟩
theorem gy_H_133 : ga_Y "RankHouse" 133 7 y_H_askThoseLeft prog_1_method_34_code 4 ((Option.some Jvm.ClassFile.FieldType.int)) 1 := ⟨by decide, ⟨F_7, 4, rfl⟩, gw_480, gw_482, ga_ms (List.mem_of_getElem? (i := 4) rfl) (by decide +kernel), gw_1, gw_483, by decide, by decide, by decide +kernel⟩
theorem gf_H_139 : ga_F "RankHouse" 139 3 11 0 := ⟨by decide, rfl, R_3, F_3, 19, rfl, by decide, rfl, gl_3, gw_401⟩
theorem gp_H_142 : ga_P "RankHouse" 142 1 1 0 .boolean := ⟨by decide, rfl, R_1, F_1, 2, t_1, rfl, by decide, rfl, gl_1, gw_54, t_1_ok, nm_1, rfl, t_1_ok 1 (by decide)⟩
theorem gf_H_18 : ga_F "RankHouse" 18 7 1 2 := ⟨by decide, rfl, R_7, F_7, 4, rfl, by decide, rfl, gl_7, gw_127⟩
theorem gy_H_146 : ga_Y "RankHouse" 146 3 y_Question_isThere prog_5_method_2_code 1 ((Option.some Jvm.ClassFile.FieldType.boolean)) 0 := ⟨by decide, ⟨F_3, 19, rfl⟩, gw_455, gw_456, gw_457, gw_14, gw_458, by decide, by decide, by decide +kernel⟩
theorem gf_H_150 : ga_F "RankHouse" 150 3 10 0 := ⟨by decide, rfl, R_3, F_3, 19, rfl, by decide, rfl, gl_3, gw_399⟩
theorem gp_H_125 : ga_P "RankHouse" 125 3 14 0 .int := ⟨by decide, rfl, R_3, F_3, 19, t_3, rfl, by decide, rfl, gl_3, gw_407, t_3_ok, nm_3, rfl, t_3_ok 14 (by decide)⟩
theorem gs_H_153 : ga_YS "RankHouse" 153 y_H_needAnswered prog_1_method_27_code 1 ((Option.none : Option Jvm.ClassFile.FieldType)) 1 := ⟨gw_795, gw_796, gw_1, gw_797, by decide, by decide, by decide +kernel⟩
theorem gf_H_156 : ga_F "RankHouse" 156 3 18 1 := ⟨by decide, rfl, R_3, F_3, 19, rfl, by decide, rfl, gl_3, gw_414⟩
theorem gy_H_160 : ga_Y "RankHouse" 160 3 y_Question_hasTwoRanks prog_5_method_3_code 1 ((Option.some Jvm.ClassFile.FieldType.boolean)) 0 := ⟨by decide, ⟨F_3, 19, rfl⟩, gw_806, gw_681, gw_682, gw_14, gw_683, by decide, by decide, by decide +kernel⟩
theorem gf_H_165 : ga_F "RankHouse" 165 3 17 0 := ⟨by decide, rfl, R_3, F_3, 19, rfl, by decide, rfl, gl_3, gw_413⟩
theorem gf_H_168 : ga_F "RankHouse" 168 3 16 0 := ⟨by decide, rfl, R_3, F_3, 19, rfl, by decide, rfl, gl_3, gw_411⟩
theorem gf_H_171 : ga_F "RankHouse" 171 3 12 0 := ⟨by decide, rfl, R_3, F_3, 19, rfl, by decide, rfl, gl_3, gw_403⟩
theorem gf_H_174 : ga_F "RankHouse" 174 3 13 0 := ⟨by decide, rfl, R_3, F_3, 19, rfl, by decide, rfl, gl_3, gw_405⟩
theorem gf_H_177 : ga_F "RankHouse" 177 3 15 0 := ⟨by decide, rfl, R_3, F_3, 19, rfl, by decide, rfl, gl_3, gw_409⟩
theorem gf_H_180 : ga_F "RankHouse" 180 3 3 2 := ⟨by decide, rfl, R_3, F_3, 19, rfl, by decide, rfl, gl_3, gw_389⟩
theorem gf_H_184 : ga_F "RankHouse" 184 5 6 0 := ⟨by decide, rfl, R_5, F_5, 7, rfl, by decide, rfl, gl_5, gw_365⟩
theorem gf_H_189 : ga_F "RankHouse" 189 3 5 0 := ⟨by decide, rfl, R_3, F_3, 19, rfl, by decide, rfl, gl_3, gw_392⟩
theorem gf_H_192 : ga_F "RankHouse" 192 3 2 2 := ⟨by decide, rfl, R_3, F_3, 19, rfl, by decide, rfl, gl_3, gw_387⟩
theorem gf_H_196 : ga_F "RankHouse" 196 4 4 0 := ⟨by decide, rfl, R_4, F_4, 5, rfl, by decide, rfl, gl_4, gw_334⟩
theorem gs_H_203 : ga_YS "RankHouse" 203 y_H_needLogger prog_1_method_22_code 1 ((Option.none : Option Jvm.ClassFile.FieldType)) 1 := ⟨gw_156, gw_157, gw_1, gw_158, by decide, by decide, by decide +kernel⟩
theorem gf_H_206 : ga_F "RankHouse" 206 3 0 2 := ⟨by decide, rfl, R_3, F_3, 19, rfl, by decide, rfl, gl_3, gw_383⟩
theorem gp_H_210 : ga_P "RankHouse" 210 3 6 0 .int := ⟨by decide, rfl, R_3, F_3, 19, t_3, rfl, by decide, rfl, gl_3, gw_394, t_3_ok, nm_3, rfl, t_3_ok 6 (by decide)⟩
theorem gy_H_213 : ga_Y "RankHouse" 213 2 y_Post_loseAllOf prog_4_method_5_code 3 ((Option.none : Option Jvm.ClassFile.FieldType)) 1 := ⟨by decide, ⟨F_2, 3, rfl⟩, gw_830, gw_831, gw_832, gw_4, gw_833, by decide, by decide, by decide +kernel⟩
theorem gf_H_142 : ga_F "RankHouse" 142 1 1 0 := ⟨by decide, rfl, R_1, F_1, 2, rfl, by decide, rfl, gl_1, gw_54⟩
theorem gf_H_210 : ga_F "RankHouse" 210 3 6 0 := ⟨by decide, rfl, R_3, F_3, 19, rfl, by decide, rfl, gl_3, gw_394⟩
theorem gy_H_229 : ga_Y "RankHouse" 229 7 y_H_seek prog_1_method_29_code 4 ((Option.some (Jvm.ClassFile.FieldType.object "RankHouse$Question"))) 1 := ⟨by decide, ⟨F_7, 4, rfl⟩, gw_546, gw_548, ga_ms (List.mem_of_getElem? (i := 8) rfl) (by decide +kernel), gw_1, gw_549, by decide, by decide, by decide +kernel⟩
theorem gy_H_237 : ga_Y "RankHouse" 237 3 y_Question_beginStep prog_5_method_6_code 1 ((Option.none : Option Jvm.ClassFile.FieldType)) 0 := ⟨by decide, ⟨F_3, 19, rfl⟩, gw_472, gw_473, gw_474, gw_14, gw_475, by decide, by decide, by decide +kernel⟩
theorem gf_H_240 : ga_F "RankHouse" 240 4 0 2 := ⟨by decide, rfl, R_4, F_4, 5, rfl, by decide, rfl, gl_4, gw_327⟩
theorem gy_H_244 : ga_Y "RankHouse" 244 3 y_Question_writeAsking prog_5_method_9_code 4 ((Option.none : Option Jvm.ClassFile.FieldType)) 2 := ⟨by decide, ⟨F_3, 19, rfl⟩, gw_492, gw_493, gw_494, gw_14, gw_495, by decide, by decide, by decide +kernel⟩
theorem gf_H_248 : ga_F "RankHouse" 248 0 4 0 := ⟨by decide, rfl, R_0, F_0, 9, rfl, by decide, rfl, gl_0, gw_85⟩
theorem gf_H_251 : ga_F "RankHouse" 251 0 8 0 := ⟨by decide, rfl, R_0, F_0, 9, rfl, by decide, rfl, gl_0, gw_95⟩
theorem gy_H_254 : ga_Y "RankHouse" 254 0 y_Letter_isAsking prog_2_method_2_code 1 ((Option.some Jvm.ClassFile.FieldType.boolean)) 0 := ⟨by decide, ⟨F_0, 9, rfl⟩, gw_550, gw_551, gw_552, gw_5, gw_553, by decide, by decide, by decide +kernel⟩
theorem gy_H_257 : ga_Y "RankHouse" 257 7 y_H_reply prog_1_method_36_code 5 ((Option.none : Option Jvm.ClassFile.FieldType)) 2 := ⟨by decide, ⟨F_7, 4, rfl⟩, gw_554, gw_556, ga_ms (List.mem_of_getElem? (i := 9) rfl) (by decide +kernel), gw_1, gw_557, by decide, by decide, by decide +kernel⟩
theorem gy_H_261 : ga_Y "RankHouse" 261 3 y_Question_awaits prog_5_method_8_code 2 ((Option.some Jvm.ClassFile.FieldType.boolean)) 1 := ⟨by decide, ⟨F_3, 19, rfl⟩, gw_613, gw_614, gw_615, gw_14, gw_616, by decide, by decide, by decide +kernel⟩
theorem gy_H_265 : ga_Y "RankHouse" 265 4 y_Replies_hear prog_6_method_3_code 3 ((Option.none : Option Jvm.ClassFile.FieldType)) 1 := ⟨by decide, ⟨F_4, 5, rfl⟩, gw_617, gw_618, gw_619, gw_15, gw_620, by decide, by decide, by decide +kernel⟩
theorem gy_H_268 : ga_Y "RankHouse" 268 3 y_Question_goOn prog_5_method_11_code 1 ((Option.none : Option Jvm.ClassFile.FieldType)) 0 := ⟨by decide, ⟨F_3, 19, rfl⟩, gw_623, gw_624, gw_625, gw_14, gw_626, by decide, by decide, by decide +kernel⟩
theorem gy_H_271 : ga_Y "RankHouse" 271 7 y_H_askUnlessDone prog_1_method_32_code 2 ((Option.none : Option Jvm.ClassFile.FieldType)) 1 := ⟨by decide, ⟨F_7, 4, rfl⟩, gw_715, gw_717, ga_ms (List.mem_of_getElem? (i := 27) rfl) (by decide +kernel), gw_1, gw_718, by decide, by decide, by decide +kernel⟩
theorem gf_H_274 : ga_F "RankHouse" 274 0 3 0 := ⟨by decide, rfl, R_0, F_0, 9, rfl, by decide, rfl, gl_0, gw_82⟩
theorem gy_H_277 : ga_Y "RankHouse" 277 3 y_Question_freeze prog_5_method_7_code 3 ((Option.none : Option Jvm.ClassFile.FieldType)) 2 := ⟨by decide, ⟨F_3, 19, rfl⟩, gw_558, gw_559, gw_560, gw_14, gw_561, by decide, by decide, by decide +kernel⟩
theorem gy_H_281 : ga_Y "RankHouse" 281 0 y_Letter_replyTo prog_2_method_5_code 2 ((Option.none : Option Jvm.ClassFile.FieldType)) 1 := ⟨by decide, ⟨F_0, 9, rfl⟩, gw_569, gw_570, gw_571, gw_5, gw_572, by decide, by decide, by decide +kernel⟩
theorem gf_H_284 : ga_F "RankHouse" 284 3 1 2 := ⟨by decide, rfl, R_3, F_3, 19, rfl, by decide, rfl, gl_3, gw_385⟩
theorem gy_H_288 : ga_Y "RankHouse" 288 0 y_Letter_fillIn prog_2_method_9_code 5 ((Option.none : Option Jvm.ClassFile.FieldType)) 2 := ⟨by decide, ⟨F_0, 9, rfl⟩, gw_574, gw_575, gw_576, gw_5, gw_577, by decide, by decide, by decide +kernel⟩
theorem gf_M_114 : ga_F "RankHouseModel" 114 8 0 0 := ⟨by decide, rfl, R_8, F_8, 39, rfl, by decide, rfl, gl_8, gw_841⟩
theorem gf_M_20 : ga_F "RankHouseModel" 20 8 5 2 := ⟨by decide, rfl, R_8, F_8, 39, rfl, by decide, rfl, gl_8, gw_846⟩
theorem gs_M_118 : ga_YS "RankHouseModel" 118 y_M_isLogger prog_10_method_3_code 1 ((Option.some Jvm.ClassFile.FieldType.boolean)) 1 := ⟨gw_968, gw_969, gw_6, gw_970, by decide, by decide, by decide +kernel⟩
theorem gf_M_7 : ga_F "RankHouseModel" 7 8 1 2 := ⟨by decide, rfl, R_8, F_8, 39, rfl, by decide, rfl, gl_8, gw_842⟩
theorem gf_M_13 : ga_F "RankHouseModel" 13 8 2 2 := ⟨by decide, rfl, R_8, F_8, 39, rfl, by decide, rfl, gl_8, gw_843⟩
theorem gp_M_114 : ga_P "RankHouseModel" 114 8 0 0 .int := ⟨by decide, rfl, R_8, F_8, 39, t_8, rfl, by decide, rfl, gl_8, gw_841, t_8_ok, nm_8, rfl, t_8_ok 0 (by decide)⟩
theorem gf_M_17 : ga_F "RankHouseModel" 17 8 3 2 := ⟨by decide, rfl, R_8, F_8, 39, rfl, by decide, rfl, gl_8, gw_844⟩
theorem gk_M_122 : Cond.constant "RankHouseModel" 122 (40503 : Int32) ∈ ga_ws := gw_975
theorem gf_M_56 : ga_F "RankHouseModel" 56 8 17 2 := ⟨by decide, rfl, R_8, F_8, 39, rfl, by decide, rfl, gl_8, gw_858⟩
theorem gy_M_123 : ga_Y "RankHouseModel" 123 8 y_M_countOf prog_10_method_8_code 10 ((Option.some Jvm.ClassFile.FieldType.int)) 4 := ⟨by decide, ⟨F_8, 39, rfl⟩, gw_1091, gw_1093, ga_ms (List.mem_of_getElem? (i := 53) rfl) (by decide +kernel), gw_6, gw_1094, by decide, by decide, by decide +kernel⟩
theorem gf_M_127 : ga_F "RankHouseModel" 127 8 32 0 := ⟨by decide, rfl, R_8, F_8, 39, rfl, by decide, rfl, gl_8, gw_873⟩
theorem gf_M_102 : ga_F "RankHouseModel" 102 8 33 2 := ⟨by decide, rfl, R_8, F_8, 39, rfl, by decide, rfl, gl_8, gw_874⟩
theorem gf_M_130 : ga_F "RankHouseModel" 130 8 37 0 := ⟨by decide, rfl, R_8, F_8, 39, rfl, by decide, rfl, gl_8, gw_878⟩
theorem gf_M_105 : ga_F "RankHouseModel" 105 8 34 2 := ⟨by decide, rfl, R_8, F_8, 39, rfl, by decide, rfl, gl_8, gw_875⟩
theorem gf_M_111 : ga_F "RankHouseModel" 111 8 36 2 := ⟨by decide, rfl, R_8, F_8, 39, rfl, by decide, rfl, gl_8, gw_877⟩
theorem gf_M_108 : ga_F "RankHouseModel" 108 8 35 2 := ⟨by decide, rfl, R_8, F_8, 39, rfl, by decide, rfl, gl_8, gw_876⟩
theorem gf_M_133 : ga_F "RankHouseModel" 133 8 38 1 := ⟨by decide, rfl, R_8, F_8, 39, rfl, by decide, rfl, gl_8, gw_879⟩
theorem gp_M_127 : ga_P "RankHouseModel" 127 8 32 0 .int := ⟨by decide, rfl, R_8, F_8, 39, t_8, rfl, by decide, rfl, gl_8, gw_873, t_8_ok, nm_8, rfl, t_8_ok 32 (by decide)⟩
theorem gp_M_130 : ga_P "RankHouseModel" 130 8 37 0 .int := ⟨by decide, rfl, R_8, F_8, 39, t_8, rfl, by decide, rfl, gl_8, gw_878, t_8_ok, nm_8, rfl, t_8_ok 37 (by decide)⟩
theorem gp_M_133 : ga_P "RankHouseModel" 133 8 38 1 .long := ⟨by decide, rfl, R_8, F_8, 39, t_8, rfl, by decide, rfl, gl_8, gw_879, t_8_ok, nm_8, rfl, t_8_ok 38 (by decide)⟩
theorem gf_M_53 : ga_F "RankHouseModel" 53 8 16 2 := ⟨by decide, rfl, R_8, F_8, 39, rfl, by decide, rfl, gl_8, gw_857⟩
theorem gy_M_137 : ga_Y "RankHouseModel" 137 8 y_M_ready prog_10_method_12_code 5 ((Option.none : Option Jvm.ClassFile.FieldType)) 4 := ⟨by decide, ⟨F_8, 39, rfl⟩, gw_1032, gw_1034, ga_ms (List.mem_of_getElem? (i := 39) rfl) (by decide +kernel), gw_6, gw_1035, by decide, by decide, by decide +kernel⟩
theorem gf_M_23 : ga_F "RankHouseModel" 23 8 6 2 := ⟨by decide, rfl, R_8, F_8, 39, rfl, by decide, rfl, gl_8, gw_847⟩
theorem gf_M_26 : ga_F "RankHouseModel" 26 8 7 2 := ⟨by decide, rfl, R_8, F_8, 39, rfl, by decide, rfl, gl_8, gw_848⟩
theorem gk_M_141 : Cond.constant "RankHouseModel" 141 (-2147483648 : Int32) ∈ ga_ws := gw_1036
theorem gf_M_29 : ga_F "RankHouseModel" 29 8 8 2 := ⟨by decide, rfl, R_8, F_8, 39, rfl, by decide, rfl, gl_8, gw_849⟩
theorem gf_M_77 : ga_F "RankHouseModel" 77 8 24 2 := ⟨by decide, rfl, R_8, F_8, 39, rfl, by decide, rfl, gl_8, gw_865⟩
theorem gf_M_80 : ga_F "RankHouseModel" 80 8 25 2 := ⟨by decide, rfl, R_8, F_8, 39, rfl, by decide, rfl, gl_8, gw_866⟩
theorem gf_M_59 : ga_F "RankHouseModel" 59 8 18 2 := ⟨by decide, rfl, R_8, F_8, 39, rfl, by decide, rfl, gl_8, gw_859⟩
theorem gf_M_62 : ga_F "RankHouseModel" 62 8 19 2 := ⟨by decide, rfl, R_8, F_8, 39, rfl, by decide, rfl, gl_8, gw_860⟩
theorem gf_M_74 : ga_F "RankHouseModel" 74 8 23 2 := ⟨by decide, rfl, R_8, F_8, 39, rfl, by decide, rfl, gl_8, gw_864⟩
theorem gf_M_38 : ga_F "RankHouseModel" 38 8 11 2 := ⟨by decide, rfl, R_8, F_8, 39, rfl, by decide, rfl, gl_8, gw_852⟩
theorem gf_M_87 : ga_F "RankHouseModel" 87 8 27 2 := ⟨by decide, rfl, R_8, F_8, 39, rfl, by decide, rfl, gl_8, gw_868⟩
theorem gy_M_142 : ga_Y "RankHouseModel" 142 8 y_M_readyAsk prog_10_method_13_code 3 ((Option.none : Option Jvm.ClassFile.FieldType)) 1 := ⟨by decide, ⟨F_8, 39, rfl⟩, gw_1028, gw_1030, ga_ms (List.mem_of_getElem? (i := 38) rfl) (by decide +kernel), gw_6, gw_1031, by decide, by decide, by decide +kernel⟩
theorem gf_M_35 : ga_F "RankHouseModel" 35 8 10 2 := ⟨by decide, rfl, R_8, F_8, 39, rfl, by decide, rfl, gl_8, gw_851⟩
theorem gf_M_32 : ga_F "RankHouseModel" 32 8 9 2 := ⟨by decide, rfl, R_8, F_8, 39, rfl, by decide, rfl, gl_8, gw_850⟩
theorem gy_M_146 : ga_Y "RankHouseModel" 146 8 y_M_send prog_10_method_11_code 9 ((Option.none : Option Jvm.ClassFile.FieldType)) 6 := ⟨by decide, ⟨F_8, 39, rfl⟩, gw_1037, gw_1039, ga_ms (List.mem_of_getElem? (i := 40) rfl) (by decide +kernel), gw_6, gw_1040, by decide, by decide, by decide +kernel⟩
theorem gy_M_150 : ga_Y "RankHouseModel" 150 8 y_M_leastOf prog_10_method_10_code 9 ((Option.some Jvm.ClassFile.FieldType.int)) 5 := ⟨by decide, ⟨F_8, 39, rfl⟩, gw_1095, gw_1097, ga_ms (List.mem_of_getElem? (i := 54) rfl) (by decide +kernel), gw_6, gw_1098, by decide, by decide, by decide +kernel⟩
theorem gk_M_154 : Cond.constantLong "RankHouseModel" 154 (-2147483648 : Int64) ∈ ga_ws := gw_1099
theorem gy_M_156 : ga_Y "RankHouseModel" 156 8 y_M_sumOf prog_10_method_9_code 11 ((Option.some Jvm.ClassFile.FieldType.long)) 4 := ⟨by decide, ⟨F_8, 39, rfl⟩, gw_1100, gw_1102, ga_ms (List.mem_of_getElem? (i := 55) rfl) (by decide +kernel), gw_6, gw_1103, by decide, by decide, by decide +kernel⟩
theorem gf_M_41 : ga_F "RankHouseModel" 41 8 12 2 := ⟨by decide, rfl, R_8, F_8, 39, rfl, by decide, rfl, gl_8, gw_853⟩
theorem gf_M_83 : ga_F "RankHouseModel" 83 8 26 2 := ⟨by decide, rfl, R_8, F_8, 39, rfl, by decide, rfl, gl_8, gw_867⟩
theorem gf_M_90 : ga_F "RankHouseModel" 90 8 28 2 := ⟨by decide, rfl, R_8, F_8, 39, rfl, by decide, rfl, gl_8, gw_869⟩
theorem gf_M_47 : ga_F "RankHouseModel" 47 8 14 2 := ⟨by decide, rfl, R_8, F_8, 39, rfl, by decide, rfl, gl_8, gw_855⟩
theorem gf_M_71 : ga_F "RankHouseModel" 71 8 22 2 := ⟨by decide, rfl, R_8, F_8, 39, rfl, by decide, rfl, gl_8, gw_863⟩
theorem gf_M_68 : ga_F "RankHouseModel" 68 8 21 2 := ⟨by decide, rfl, R_8, F_8, 39, rfl, by decide, rfl, gl_8, gw_862⟩
theorem gy_M_160 : ga_Y "RankHouseModel" 160 8 y_M_lastRank prog_10_method_19_code 4 ((Option.some Jvm.ClassFile.FieldType.int)) 1 := ⟨by decide, ⟨F_8, 39, rfl⟩, gw_1045, gw_1047, ga_ms (List.mem_of_getElem? (i := 42) rfl) (by decide +kernel), gw_6, gw_1048, by decide, by decide, by decide +kernel⟩
theorem gy_M_164 : ga_Y "RankHouseModel" 164 8 y_M_firstRank prog_10_method_18_code 4 ((Option.some Jvm.ClassFile.FieldType.int)) 1 := ⟨by decide, ⟨F_8, 39, rfl⟩, gw_1049, gw_1051, ga_ms (List.mem_of_getElem? (i := 43) rfl) (by decide +kernel), gw_6, gw_1052, by decide, by decide, by decide +kernel⟩
theorem gk_M_167 : Cond.constant "RankHouseModel" 167 (2147483647 : Int32) ∈ ga_ws := gw_1053
theorem gf_M_65 : ga_F "RankHouseModel" 65 8 20 2 := ⟨by decide, rfl, R_8, F_8, 39, rfl, by decide, rfl, gl_8, gw_861⟩
theorem gf_M_50 : ga_F "RankHouseModel" 50 8 15 2 := ⟨by decide, rfl, R_8, F_8, 39, rfl, by decide, rfl, gl_8, gw_856⟩
theorem gy_M_168 : ga_Y "RankHouseModel" 168 8 y_M_askAll prog_10_method_14_code 4 ((Option.none : Option Jvm.ClassFile.FieldType)) 2 := ⟨by decide, ⟨F_8, 39, rfl⟩, gw_1024, gw_1026, ga_ms (List.mem_of_getElem? (i := 37) rfl) (by decide +kernel), gw_6, gw_1027, by decide, by decide, by decide +kernel⟩
theorem gy_M_172 : ga_Y "RankHouseModel" 172 8 y_M_total prog_10_method_17_code 5 ((Option.some Jvm.ClassFile.FieldType.int)) 2 := ⟨by decide, ⟨F_8, 39, rfl⟩, gw_1020, gw_1022, ga_ms (List.mem_of_getElem? (i := 36) rfl) (by decide +kernel), gw_6, gw_1023, by decide, by decide, by decide +kernel⟩
theorem gy_M_176 : ga_Y "RankHouseModel" 176 8 y_M_search prog_10_method_20_code 3 ((Option.none : Option Jvm.ClassFile.FieldType)) 2 := ⟨by decide, ⟨F_8, 39, rfl⟩, gw_1041, gw_1043, ga_ms (List.mem_of_getElem? (i := 41) rfl) (by decide +kernel), gw_6, gw_1044, by decide, by decide, by decide +kernel⟩
theorem gy_M_180 : ga_Y "RankHouseModel" 180 8 y_M_pivotOf prog_10_method_22_code 8 ((Option.some Jvm.ClassFile.FieldType.int)) 1 := ⟨by decide, ⟨F_8, 39, rfl⟩, gw_1058, gw_1060, ga_ms (List.mem_of_getElem? (i := 45) rfl) (by decide +kernel), gw_6, gw_1061, by decide, by decide, by decide +kernel⟩
theorem gf_M_44 : ga_F "RankHouseModel" 44 8 13 2 := ⟨by decide, rfl, R_8, F_8, 39, rfl, by decide, rfl, gl_8, gw_854⟩
theorem gy_M_183 : ga_Y "RankHouseModel" 183 8 y_M_isFound prog_10_method_27_code 3 ((Option.none : Option Jvm.ClassFile.FieldType)) 2 := ⟨by decide, ⟨F_8, 39, rfl⟩, gw_1066, gw_1068, ga_ms (List.mem_of_getElem? (i := 47) rfl) (by decide +kernel), gw_6, gw_1069, by decide, by decide, by decide +kernel⟩
theorem gf_M_96 : ga_F "RankHouseModel" 96 8 30 2 := ⟨by decide, rfl, R_8, F_8, 39, rfl, by decide, rfl, gl_8, gw_871⟩
theorem gf_M_99 : ga_F "RankHouseModel" 99 8 31 2 := ⟨by decide, rfl, R_8, F_8, 39, rfl, by decide, rfl, gl_8, gw_872⟩
theorem gy_M_186 : ga_Y "RankHouseModel" 186 8 y_M_givenUpTo prog_10_method_25_code 8 ((Option.some Jvm.ClassFile.FieldType.int)) 2 := ⟨by decide, ⟨F_8, 39, rfl⟩, gw_1078, gw_1080, ga_ms (List.mem_of_getElem? (i := 50) rfl) (by decide +kernel), gw_6, gw_1081, by decide, by decide, by decide +kernel⟩
theorem gy_M_190 : ga_Y "RankHouseModel" 190 8 y_M_answered prog_10_method_16_code 4 ((Option.none : Option Jvm.ClassFile.FieldType)) 2 := ⟨by decide, ⟨F_8, 39, rfl⟩, gw_1070, gw_1072, ga_ms (List.mem_of_getElem? (i := 48) rfl) (by decide +kernel), gw_6, gw_1073, by decide, by decide, by decide +kernel⟩
theorem gf_M_93 : ga_F "RankHouseModel" 93 8 29 2 := ⟨by decide, rfl, R_8, F_8, 39, rfl, by decide, rfl, gl_8, gw_870⟩
theorem gy_M_194 : ga_Y "RankHouseModel" 194 8 y_M_afterFreeze prog_10_method_21_code 2 ((Option.none : Option Jvm.ClassFile.FieldType)) 1 := ⟨by decide, ⟨F_8, 39, rfl⟩, gw_1016, gw_1018, ga_ms (List.mem_of_getElem? (i := 35) rfl) (by decide +kernel), gw_6, gw_1019, by decide, by decide, by decide +kernel⟩
theorem gy_M_197 : ga_Y "RankHouseModel" 197 8 y_M_afterSplit prog_10_method_23_code 2 ((Option.none : Option Jvm.ClassFile.FieldType)) 1 := ⟨by decide, ⟨F_8, 39, rfl⟩, gw_1054, gw_1056, ga_ms (List.mem_of_getElem? (i := 44) rfl) (by decide +kernel), gw_6, gw_1057, by decide, by decide, by decide +kernel⟩
theorem gy_M_200 : ga_Y "RankHouseModel" 200 8 y_M_afterCut prog_10_method_24_code 5 ((Option.none : Option Jvm.ClassFile.FieldType)) 1 := ⟨by decide, ⟨F_8, 39, rfl⟩, gw_1062, gw_1064, ga_ms (List.mem_of_getElem? (i := 46) rfl) (by decide +kernel), gw_6, gw_1065, by decide, by decide, by decide +kernel⟩
theorem gy_M_203 : ga_Y "RankHouseModel" 203 8 y_M_afterGive prog_10_method_26_code 8 ((Option.none : Option Jvm.ClassFile.FieldType)) 1 := ⟨by decide, ⟨F_8, 39, rfl⟩, gw_1074, gw_1076, ga_ms (List.mem_of_getElem? (i := 49) rfl) (by decide +kernel), gw_6, gw_1077, by decide, by decide, by decide +kernel⟩
theorem gk_M_206 : Cond.constantLong "RankHouseModel" 206 (1000000 : Int64) ∈ ga_ws := gw_1082
theorem gy_M_208 : ga_Y "RankHouseModel" 208 8 y_M_afterAdd prog_10_method_28_code 9 ((Option.none : Option Jvm.ClassFile.FieldType)) 1 := ⟨by decide, ⟨F_8, 39, rfl⟩, gw_1083, gw_1085, ga_ms (List.mem_of_getElem? (i := 51) rfl) (by decide +kernel), gw_6, gw_1086, by decide, by decide, by decide +kernel⟩
theorem gy_M_211 : ga_Y "RankHouseModel" 211 8 y_M_goOn prog_10_method_29_code 5 ((Option.none : Option Jvm.ClassFile.FieldType)) 1 := ⟨by decide, ⟨F_8, 39, rfl⟩, gw_1012, gw_1014, ga_ms (List.mem_of_getElem? (i := 34) rfl) (by decide +kernel), gw_6, gw_1015, by decide, by decide, by decide +kernel⟩
theorem gy_M_214 : ga_Y "RankHouseModel" 214 8 y_M_remove prog_10_method_31_code 3 ((Option.none : Option Jvm.ClassFile.FieldType)) 1 := ⟨by decide, ⟨F_8, 39, rfl⟩, gw_1000, gw_1002, ga_ms (List.mem_of_getElem? (i := 31) rfl) (by decide +kernel), gw_6, gw_1003, by decide, by decide, by decide +kernel⟩
theorem gy_M_217 : ga_Y "RankHouseModel" 217 8 y_M_placeOf prog_10_method_4_code 4 ((Option.some Jvm.ClassFile.FieldType.int)) 1 := ⟨by decide, ⟨F_8, 39, rfl⟩, gw_1004, gw_1006, ga_ms (List.mem_of_getElem? (i := 32) rfl) (by decide +kernel), gw_6, gw_1007, by decide, by decide, by decide +kernel⟩
theorem gy_M_220 : ga_Y "RankHouseModel" 220 8 y_M_take prog_10_method_30_code 6 ((Option.none : Option Jvm.ClassFile.FieldType)) 2 := ⟨by decide, ⟨F_8, 39, rfl⟩, gw_1008, gw_1010, ga_ms (List.mem_of_getElem? (i := 33) rfl) (by decide +kernel), gw_6, gw_1011, by decide, by decide, by decide +kernel⟩
theorem gy_M_223 : ga_Y "RankHouseModel" 223 8 y_M_readyAnswer prog_10_method_15_code 8 ((Option.none : Option Jvm.ClassFile.FieldType)) 3 := ⟨by decide, ⟨F_8, 39, rfl⟩, gw_1087, gw_1089, ga_ms (List.mem_of_getElem? (i := 52) rfl) (by decide +kernel), gw_6, gw_1090, by decide, by decide, by decide +kernel⟩
theorem gy_M_227 : ga_Y "RankHouseModel" 227 8 y_M_isLetter prog_10_method_33_code 2 ((Option.some Jvm.ClassFile.FieldType.boolean)) 1 := ⟨by decide, ⟨F_8, 39, rfl⟩, gw_988, gw_990, ga_ms (List.mem_of_getElem? (i := 29) rfl) (by decide +kernel), gw_6, gw_991, by decide, by decide, by decide +kernel⟩
theorem gy_M_230 : ga_Y "RankHouseModel" 230 8 y_M_bring prog_10_method_32_code 10 ((Option.none : Option Jvm.ClassFile.FieldType)) 1 := ⟨by decide, ⟨F_8, 39, rfl⟩, gw_996, gw_998, ga_ms (List.mem_of_getElem? (i := 30) rfl) (by decide +kernel), gw_6, gw_999, by decide, by decide, by decide +kernel⟩
theorem gf_M_233 : ga_F "RankHouseModel" 233 8 4 0 := ⟨by decide, rfl, R_8, F_8, 39, rfl, by decide, rfl, gl_8, gw_845⟩
theorem gp_M_233 : ga_P "RankHouseModel" 233 8 4 0 .int := ⟨by decide, rfl, R_8, F_8, 39, t_8, rfl, by decide, rfl, gl_8, gw_845, t_8_ok, nm_8, rfl, t_8_ok 4 (by decide)⟩
theorem gy_M_236 : ga_Y "RankHouseModel" 236 8 y_M_begin prog_10_method_41_code 3 ((Option.none : Option Jvm.ClassFile.FieldType)) 2 := ⟨by decide, ⟨F_8, 39, rfl⟩, gw_1120, gw_1122, ga_ms (List.mem_of_getElem? (i := 56) rfl) (by decide +kernel), gw_6, gw_1123, by decide, by decide, by decide +kernel⟩
theorem gf_Letter_15 : ga_F "RankHouse$Letter" 15 0 3 0 := ⟨by decide, rfl, R_0, F_0, 9, rfl, by decide, rfl, gl_0, gw_80⟩
theorem gp_Letter_15 : ga_P "RankHouse$Letter" 15 0 3 0 .int := ⟨by decide, rfl, R_0, F_0, 9, t_0, rfl, by decide, rfl, gl_0, gw_80, t_0_ok, nm_0, rfl, t_0_ok 3 (by decide)⟩
theorem gp_Letter_19 : ga_P "RankHouse$Letter" 19 0 4 0 .int := ⟨by decide, rfl, R_0, F_0, 9, t_0, rfl, by decide, rfl, gl_0, gw_83, t_0_ok, nm_0, rfl, t_0_ok 4 (by decide)⟩
theorem gp_Letter_22 : ga_P "RankHouse$Letter" 22 0 5 0 .int := ⟨by decide, rfl, R_0, F_0, 9, t_0, rfl, by decide, rfl, gl_0, gw_86, t_0_ok, nm_0, rfl, t_0_ok 5 (by decide)⟩
theorem gp_Letter_25 : ga_P "RankHouse$Letter" 25 0 6 0 .int := ⟨by decide, rfl, R_0, F_0, 9, t_0, rfl, by decide, rfl, gl_0, gw_88, t_0_ok, nm_0, rfl, t_0_ok 6 (by decide)⟩
theorem gp_Letter_28 : ga_P "RankHouse$Letter" 28 0 7 0 .int := ⟨by decide, rfl, R_0, F_0, 9, t_0, rfl, by decide, rfl, gl_0, gw_91, t_0_ok, nm_0, rfl, t_0_ok 7 (by decide)⟩
theorem gp_Letter_31 : ga_P "RankHouse$Letter" 31 0 8 0 .int := ⟨by decide, rfl, R_0, F_0, 9, t_0, rfl, by decide, rfl, gl_0, gw_93, t_0_ok, nm_0, rfl, t_0_ok 8 (by decide)⟩
theorem gp_Letter_34 : ga_P "RankHouse$Letter" 34 0 1 0 .int := ⟨by decide, rfl, R_0, F_0, 9, t_0, rfl, by decide, rfl, gl_0, gw_76, t_0_ok, nm_0, rfl, t_0_ok 1 (by decide)⟩
theorem gp_Letter_37 : ga_P "RankHouse$Letter" 37 0 2 1 .long := ⟨by decide, rfl, R_0, F_0, 9, t_0, rfl, by decide, rfl, gl_0, gw_79, t_0_ok, nm_0, rfl, t_0_ok 2 (by decide)⟩
theorem gf_Letter_19 : ga_F "RankHouse$Letter" 19 0 4 0 := ⟨by decide, rfl, R_0, F_0, 9, rfl, by decide, rfl, gl_0, gw_83⟩
theorem gf_Letter_22 : ga_F "RankHouse$Letter" 22 0 5 0 := ⟨by decide, rfl, R_0, F_0, 9, rfl, by decide, rfl, gl_0, gw_86⟩
theorem gf_Letter_25 : ga_F "RankHouse$Letter" 25 0 6 0 := ⟨by decide, rfl, R_0, F_0, 9, rfl, by decide, rfl, gl_0, gw_88⟩
theorem gf_Letter_28 : ga_F "RankHouse$Letter" 28 0 7 0 := ⟨by decide, rfl, R_0, F_0, 9, rfl, by decide, rfl, gl_0, gw_91⟩
theorem gf_Letter_31 : ga_F "RankHouse$Letter" 31 0 8 0 := ⟨by decide, rfl, R_0, F_0, 9, rfl, by decide, rfl, gl_0, gw_93⟩
theorem gy_Letter_41 : ga_Y "RankHouse$Letter" 41 0 y_Letter_address prog_2_method_3_code 7 ((Option.none : Option Jvm.ClassFile.FieldType)) 6 := ⟨by decide, ⟨F_0, 9, rfl⟩, gw_573, gw_497, gw_498, gw_5, gw_499, by decide, by decide, by decide +kernel⟩
theorem gf_Letter_34 : ga_F "RankHouse$Letter" 34 0 1 0 := ⟨by decide, rfl, R_0, F_0, 9, rfl, by decide, rfl, gl_0, gw_76⟩
theorem gf_Letter_9 : ga_F "RankHouse$Letter" 9 0 0 2 := ⟨by decide, rfl, R_0, F_0, 9, rfl, by decide, rfl, gl_0, gw_75⟩
theorem gj_Letter_45 : Cond.methodLink "RankHouse$Letter" 45 arraycopyName ∈ ga_ws := gw_737
theorem gf_Letter_37 : ga_F "RankHouse$Letter" 37 0 2 1 := ⟨by decide, rfl, R_0, F_0, 9, rfl, by decide, rfl, gl_0, gw_79⟩
theorem gy_Letter_51 : ga_Y "RankHouse$Letter" 51 0 y_Letter_number prog_2_method_7_code 2 ((Option.some Jvm.ClassFile.FieldType.int)) 1 := ⟨by decide, ⟨F_0, 9, rfl⟩, gw_526, gw_527, gw_528, gw_5, gw_529, by decide, by decide, by decide +kernel⟩
theorem gf_Letter_55 : ga_F "RankHouse$Letter" 55 6 1 0 := ⟨by decide, rfl, R_6, F_6, 2, rfl, by decide, rfl, gl_6, gw_44⟩
theorem gy_Letter_60 : ga_Y "RankHouse$Letter" 60 0 y_Letter_put prog_2_method_6_code 2 ((Option.none : Option Jvm.ClassFile.FieldType)) 1 := ⟨by decide, ⟨F_0, 9, rfl⟩, gw_578, gw_505, gw_506, gw_5, gw_507, by decide, by decide, by decide +kernel⟩
theorem gy_Letter_64 : ga_Y "RankHouse$Letter" 64 0 y_Letter_putPart prog_2_method_10_code 5 ((Option.none : Option Jvm.ClassFile.FieldType)) 3 := ⟨by decide, ⟨F_0, 9, rfl⟩, gw_579, gw_581, ga_ms (List.mem_of_getElem? (i := 10) rfl) (by decide +kernel), gw_5, gw_582, by decide, by decide, by decide +kernel⟩
theorem gy_Letter_68 : ga_Y "RankHouse$Letter" 68 0 y_Letter_putSides prog_2_method_11_code 4 ((Option.none : Option Jvm.ClassFile.FieldType)) 3 := ⟨by decide, ⟨F_0, 9, rfl⟩, gw_595, gw_597, ga_ms (List.mem_of_getElem? (i := 11) rfl) (by decide +kernel), gw_5, gw_598, by decide, by decide, by decide +kernel⟩
theorem gy_Letter_71 : ga_Y "RankHouse$Letter" 71 0 y_Letter_putGiven prog_2_method_12_code 7 ((Option.none : Option Jvm.ClassFile.FieldType)) 3 := ⟨by decide, ⟨F_0, 9, rfl⟩, gw_599, gw_601, ga_ms (List.mem_of_getElem? (i := 12) rfl) (by decide +kernel), gw_5, gw_602, by decide, by decide, by decide +kernel⟩
theorem gy_Letter_74 : ga_Y "RankHouse$Letter" 74 6 y_SortedRow_within prog_8_method_6_code 5 ((Option.some Jvm.ClassFile.FieldType.int)) 2 := ⟨by decide, ⟨F_6, 2, rfl⟩, gw_583, gw_584, gw_585, gw_3, gw_586, by decide, by decide, by decide +kernel⟩
theorem gy_Letter_78 : ga_Y "RankHouse$Letter" 78 0 y_Letter_putAdded prog_2_method_13_code 6 ((Option.none : Option Jvm.ClassFile.FieldType)) 3 := ⟨by decide, ⟨F_0, 9, rfl⟩, gw_603, gw_605, ga_ms (List.mem_of_getElem? (i := 13) rfl) (by decide +kernel), gw_5, gw_606, by decide, by decide, by decide +kernel⟩
theorem gy_Letter_81 : ga_Y "RankHouse$Letter" 81 6 y_SortedRow_below prog_8_method_5_code 6 ((Option.some Jvm.ClassFile.FieldType.int)) 1 := ⟨by decide, ⟨F_6, 2, rfl⟩, gw_590, gw_255, gw_256, gw_3, gw_257, by decide, by decide, by decide +kernel⟩
theorem gy_Letter_85 : ga_Y "RankHouse$Letter" 85 6 y_SortedRow_at prog_8_method_4_code 2 ((Option.some Jvm.ClassFile.FieldType.int)) 1 := ⟨by decide, ⟨F_6, 2, rfl⟩, gw_591, gw_592, gw_593, gw_3, gw_594, by decide, by decide, by decide +kernel⟩
theorem gy_Letter_88 : ga_Y "RankHouse$Letter" 88 6 y_SortedRow_sum prog_8_method_7_code 6 ((Option.some Jvm.ClassFile.FieldType.long)) 2 := ⟨by decide, ⟨F_6, 2, rfl⟩, gw_607, gw_608, gw_609, gw_3, gw_610, by decide, by decide, by decide +kernel⟩
theorem gj_Letter_91 : Cond.methodLink "RankHouse$Letter" 91 Lib.Math.max.name ∈ ga_ws := gw_612
theorem gp_Logger_20 : ga_P "RankHouse$Logger" 20 1 1 0 .boolean := ⟨by decide, rfl, R_1, F_1, 2, t_1, rfl, by decide, rfl, gl_1, gw_53, t_1_ok, nm_1, rfl, t_1_ok 1 (by decide)⟩
theorem gf_Post_11 : ga_F "RankHouse$Post" 11 2 0 2 := ⟨by decide, rfl, R_2, F_2, 3, rfl, by decide, rfl, gl_2, gw_115⟩
theorem gf_Post_17 : ga_F "RankHouse$Post" 17 2 1 2 := ⟨by decide, rfl, R_2, F_2, 3, rfl, by decide, rfl, gl_2, gw_116⟩
theorem gf_Post_22 : ga_F "RankHouse$Post" 22 2 2 0 := ⟨by decide, rfl, R_2, F_2, 3, rfl, by decide, rfl, gl_2, gw_117⟩
theorem gp_Post_22 : ga_P "RankHouse$Post" 22 2 2 0 .int := ⟨by decide, rfl, R_2, F_2, 3, t_2, rfl, by decide, rfl, gl_2, gw_117, t_2_ok, nm_2, rfl, t_2_ok 2 (by decide)⟩
theorem gy_Post_26 : ga_Y "RankHouse$Post" 26 2 y_Post_at prog_4_method_2_code 2 ((Option.some (Jvm.ClassFile.FieldType.object "RankHouse$Letter"))) 1 := ⟨by decide, ⟨F_2, 3, rfl⟩, gw_488, gw_489, gw_490, gw_4, gw_491, by decide, by decide, by decide +kernel⟩
theorem gj_Post_30 : Cond.methodLink "RankHouse$Post" 30 arraycopyName ∈ ga_ws := gw_541
theorem gf_Post_36 : ga_F "RankHouse$Post" 36 0 4 0 := ⟨by decide, rfl, R_0, F_0, 9, rfl, by decide, rfl, gl_0, gw_84⟩
theorem gy_Post_39 : ga_Y "RankHouse$Post" 39 2 y_Post_takeOut prog_4_method_4_code 3 ((Option.some (Jvm.ClassFile.FieldType.object "RankHouse$Letter"))) 1 := ⟨by decide, ⟨F_2, 3, rfl⟩, gw_834, gw_538, gw_539, gw_4, gw_540, by decide, by decide, by decide +kernel⟩
theorem gf_Question_17 : ga_F "RankHouse$Question" 17 3 1 2 := ⟨by decide, rfl, R_3, F_3, 19, rfl, by decide, rfl, gl_3, gw_384⟩
theorem gf_Question_41 : ga_F "RankHouse$Question" 41 3 6 0 := ⟨by decide, rfl, R_3, F_3, 19, rfl, by decide, rfl, gl_3, gw_393⟩
theorem gf_Question_45 : ga_F "RankHouse$Question" 45 3 7 0 := ⟨by decide, rfl, R_3, F_3, 19, rfl, by decide, rfl, gl_3, gw_395⟩
theorem gp_Question_41 : ga_P "RankHouse$Question" 41 3 6 0 .int := ⟨by decide, rfl, R_3, F_3, 19, t_3, rfl, by decide, rfl, gl_3, gw_393, t_3_ok, nm_3, rfl, t_3_ok 6 (by decide)⟩
theorem gp_Question_45 : ga_P "RankHouse$Question" 45 3 7 0 .int := ⟨by decide, rfl, R_3, F_3, 19, t_3, rfl, by decide, rfl, gl_3, gw_395, t_3_ok, nm_3, rfl, t_3_ok 7 (by decide)⟩
theorem gp_Question_48 : ga_P "RankHouse$Question" 48 3 8 0 .int := ⟨by decide, rfl, R_3, F_3, 19, t_3, rfl, by decide, rfl, gl_3, gw_396, t_3_ok, nm_3, rfl, t_3_ok 8 (by decide)⟩
theorem gp_Question_51 : ga_P "RankHouse$Question" 51 3 9 0 .int := ⟨by decide, rfl, R_3, F_3, 19, t_3, rfl, by decide, rfl, gl_3, gw_397, t_3_ok, nm_3, rfl, t_3_ok 9 (by decide)⟩
theorem gp_Question_54 : ga_P "RankHouse$Question" 54 3 11 0 .int := ⟨by decide, rfl, R_3, F_3, 19, t_3, rfl, by decide, rfl, gl_3, gw_400, t_3_ok, nm_3, rfl, t_3_ok 11 (by decide)⟩
theorem gf_Question_9 : ga_F "RankHouse$Question" 9 3 0 2 := ⟨by decide, rfl, R_3, F_3, 19, rfl, by decide, rfl, gl_3, gw_382⟩
theorem gp_Question_57 : ga_P "RankHouse$Question" 57 3 10 0 .int := ⟨by decide, rfl, R_3, F_3, 19, t_3, rfl, by decide, rfl, gl_3, gw_398, t_3_ok, nm_3, rfl, t_3_ok 10 (by decide)⟩
theorem gf_Question_54 : ga_F "RankHouse$Question" 54 3 11 0 := ⟨by decide, rfl, R_3, F_3, 19, rfl, by decide, rfl, gl_3, gw_400⟩
theorem gp_Question_60 : ga_P "RankHouse$Question" 60 3 12 0 .int := ⟨by decide, rfl, R_3, F_3, 19, t_3, rfl, by decide, rfl, gl_3, gw_402, t_3_ok, nm_3, rfl, t_3_ok 12 (by decide)⟩
theorem gp_Question_63 : ga_P "RankHouse$Question" 63 3 13 0 .int := ⟨by decide, rfl, R_3, F_3, 19, t_3, rfl, by decide, rfl, gl_3, gw_404, t_3_ok, nm_3, rfl, t_3_ok 13 (by decide)⟩
theorem gp_Question_66 : ga_P "RankHouse$Question" 66 3 15 0 .int := ⟨by decide, rfl, R_3, F_3, 19, t_3, rfl, by decide, rfl, gl_3, gw_408, t_3_ok, nm_3, rfl, t_3_ok 15 (by decide)⟩
theorem gf_Question_31 : ga_F "RankHouse$Question" 31 3 3 2 := ⟨by decide, rfl, R_3, F_3, 19, rfl, by decide, rfl, gl_3, gw_388⟩
theorem gp_Question_69 : ga_P "RankHouse$Question" 69 5 6 0 .int := ⟨by decide, rfl, R_5, F_5, 7, t_5, rfl, by decide, rfl, gl_5, gw_364, t_5_ok, nm_5, rfl, t_5_ok 6 (by decide)⟩
theorem gp_Question_72 : ga_P "RankHouse$Question" 72 3 14 0 .int := ⟨by decide, rfl, R_3, F_3, 19, t_3, rfl, by decide, rfl, gl_3, gw_406, t_3_ok, nm_3, rfl, t_3_ok 14 (by decide)⟩
theorem gp_Question_75 : ga_P "RankHouse$Question" 75 3 5 0 .int := ⟨by decide, rfl, R_3, F_3, 19, t_3, rfl, by decide, rfl, gl_3, gw_391, t_3_ok, nm_3, rfl, t_3_ok 5 (by decide)⟩
theorem gf_Question_60 : ga_F "RankHouse$Question" 60 3 12 0 := ⟨by decide, rfl, R_3, F_3, 19, rfl, by decide, rfl, gl_3, gw_402⟩
theorem gf_Question_24 : ga_F "RankHouse$Question" 24 3 2 2 := ⟨by decide, rfl, R_3, F_3, 19, rfl, by decide, rfl, gl_3, gw_386⟩
theorem gy_Question_78 : ga_Y "RankHouse$Question" 78 4 y_Replies_clear prog_6_method_2_code 2 ((Option.none : Option Jvm.ClassFile.FieldType)) 0 := ⟨by decide, ⟨F_4, 5, rfl⟩, gw_476, gw_477, gw_478, gw_15, gw_479, by decide, by decide, by decide +kernel⟩
theorem gf_Question_81 : ga_F "RankHouse$Question" 81 6 1 0 := ⟨by decide, rfl, R_6, F_6, 2, rfl, by decide, rfl, gl_6, gw_43⟩
theorem gy_Question_84 : ga_Y "RankHouse$Question" 84 6 y_SortedRow_copy prog_8_method_3_code 2 ((Option.none : Option Jvm.ClassFile.FieldType)) 1 := ⟨by decide, ⟨F_6, 2, rfl⟩, gw_562, gw_563, gw_564, gw_3, gw_565, by decide, by decide, by decide +kernel⟩
theorem gf_Question_72 : ga_F "RankHouse$Question" 72 3 14 0 := ⟨by decide, rfl, R_3, F_3, 19, rfl, by decide, rfl, gl_3, gw_406⟩
theorem gf_Question_88 : ga_F "RankHouse$Question" 88 0 8 0 := ⟨by decide, rfl, R_0, F_0, 9, rfl, by decide, rfl, gl_0, gw_94⟩
theorem gf_Question_57 : ga_F "RankHouse$Question" 57 3 10 0 := ⟨by decide, rfl, R_3, F_3, 19, rfl, by decide, rfl, gl_3, gw_398⟩
theorem gf_Question_93 : ga_F "RankHouse$Question" 93 0 5 0 := ⟨by decide, rfl, R_0, F_0, 9, rfl, by decide, rfl, gl_0, gw_87⟩
theorem gf_Question_94 : ga_F "RankHouse$Question" 94 0 6 0 := ⟨by decide, rfl, R_0, F_0, 9, rfl, by decide, rfl, gl_0, gw_89⟩
theorem gf_Question_95 : ga_F "RankHouse$Question" 95 4 0 2 := ⟨by decide, rfl, R_4, F_4, 5, rfl, by decide, rfl, gl_4, gw_326⟩
theorem gf_Question_99 : ga_F "RankHouse$Question" 99 0 7 0 := ⟨by decide, rfl, R_0, F_0, 9, rfl, by decide, rfl, gl_0, gw_92⟩
theorem gf_Question_75 : ga_F "RankHouse$Question" 75 3 5 0 := ⟨by decide, rfl, R_3, F_3, 19, rfl, by decide, rfl, gl_3, gw_391⟩
theorem gy_Question_102 : ga_Y "RankHouse$Question" 102 0 y_Letter_address prog_2_method_3_code 7 ((Option.none : Option Jvm.ClassFile.FieldType)) 6 := ⟨by decide, ⟨F_0, 9, rfl⟩, gw_496, gw_497, gw_498, gw_5, gw_499, by decide, by decide, by decide +kernel⟩
theorem gy_Question_106 : ga_Y "RankHouse$Question" 106 3 y_Question_numbersAsked prog_5_method_10_code 1 ((Option.some Jvm.ClassFile.FieldType.int)) 0 := ⟨by decide, ⟨F_3, 19, rfl⟩, gw_500, gw_502, ga_ms (List.mem_of_getElem? (i := 5) rfl) (by decide +kernel), gw_14, gw_503, by decide, by decide, by decide +kernel⟩
theorem gf_Question_35 : ga_F "RankHouse$Question" 35 3 4 2 := ⟨by decide, rfl, R_3, F_3, 19, rfl, by decide, rfl, gl_3, gw_390⟩
theorem gy_Question_110 : ga_Y "RankHouse$Question" 110 0 y_Letter_put prog_2_method_6_code 2 ((Option.none : Option Jvm.ClassFile.FieldType)) 1 := ⟨by decide, ⟨F_0, 9, rfl⟩, gw_504, gw_505, gw_506, gw_5, gw_507, by decide, by decide, by decide +kernel⟩
theorem gy_Question_113 : ga_Y "RankHouse$Question" 113 3 y_Question_afterFreeze prog_5_method_12_code 1 ((Option.none : Option Jvm.ClassFile.FieldType)) 0 := ⟨by decide, ⟨F_3, 19, rfl⟩, gw_627, gw_629, ga_ms (List.mem_of_getElem? (i := 14) rfl) (by decide +kernel), gw_14, gw_630, by decide, by decide, by decide +kernel⟩
theorem gy_Question_116 : ga_Y "RankHouse$Question" 116 3 y_Question_afterSplit prog_5_method_13_code 1 ((Option.none : Option Jvm.ClassFile.FieldType)) 0 := ⟨by decide, ⟨F_3, 19, rfl⟩, gw_655, gw_657, ga_ms (List.mem_of_getElem? (i := 18) rfl) (by decide +kernel), gw_14, gw_658, by decide, by decide, by decide +kernel⟩
theorem gy_Question_119 : ga_Y "RankHouse$Question" 119 3 y_Question_afterCut prog_5_method_14_code 3 ((Option.none : Option Jvm.ClassFile.FieldType)) 0 := ⟨by decide, ⟨F_3, 19, rfl⟩, gw_668, gw_670, ga_ms (List.mem_of_getElem? (i := 20) rfl) (by decide +kernel), gw_14, gw_671, by decide, by decide, by decide +kernel⟩
theorem gf_Question_122 : ga_F "RankHouse$Question" 122 4 2 2 := ⟨by decide, rfl, R_4, F_4, 5, rfl, by decide, rfl, gl_4, gw_330⟩
theorem gy_Question_126 : ga_Y "RankHouse$Question" 126 5 y_Search_rankWithin prog_7_method_3_code 1 ((Option.some Jvm.ClassFile.FieldType.int)) 0 := ⟨by decide, ⟨F_5, 7, rfl⟩, gw_672, gw_673, gw_674, gw_16, gw_675, by decide, by decide, by decide +kernel⟩
theorem gy_Question_129 : ga_Y "RankHouse$Question" 129 6 y_SortedRow_at prog_8_method_4_code 2 ((Option.some Jvm.ClassFile.FieldType.int)) 1 := ⟨by decide, ⟨F_6, 2, rfl⟩, gw_705, gw_592, gw_593, gw_3, gw_594, by decide, by decide, by decide +kernel⟩
theorem gy_Question_133 : ga_Y "RankHouse$Question" 133 3 y_Question_settle prog_5_method_17_code 2 ((Option.none : Option Jvm.ClassFile.FieldType)) 1 := ⟨by decide, ⟨F_3, 19, rfl⟩, gw_676, gw_678, ga_ms (List.mem_of_getElem? (i := 21) rfl) (by decide +kernel), gw_14, gw_679, by decide, by decide, by decide +kernel⟩
theorem gy_Question_136 : ga_Y "RankHouse$Question" 136 3 y_Question_afterHold prog_5_method_15_code 3 ((Option.none : Option Jvm.ClassFile.FieldType)) 0 := ⟨by decide, ⟨F_3, 19, rfl⟩, gw_706, gw_708, ga_ms (List.mem_of_getElem? (i := 25) rfl) (by decide +kernel), gw_14, gw_709, by decide, by decide, by decide +kernel⟩
theorem gy_Question_139 : ga_Y "RankHouse$Question" 139 3 y_Question_afterAdd prog_5_method_16_code 7 ((Option.none : Option Jvm.ClassFile.FieldType)) 0 := ⟨by decide, ⟨F_3, 19, rfl⟩, gw_711, gw_713, ga_ms (List.mem_of_getElem? (i := 26) rfl) (by decide +kernel), gw_14, gw_714, by decide, by decide, by decide +kernel⟩
theorem gy_Question_142 : ga_Y "RankHouse$Question" 142 4 y_Replies_total prog_6_method_4_code 4 ((Option.some Jvm.ClassFile.FieldType.int)) 1 := ⟨by decide, ⟨F_4, 5, rfl⟩, gw_631, gw_632, gw_633, gw_15, gw_634, by decide, by decide, by decide +kernel⟩
theorem gf_Question_66 : ga_F "RankHouse$Question" 66 3 15 0 := ⟨by decide, rfl, R_3, F_3, 19, rfl, by decide, rfl, gl_3, gw_408⟩
theorem gf_Question_48 : ga_F "RankHouse$Question" 48 3 8 0 := ⟨by decide, rfl, R_3, F_3, 19, rfl, by decide, rfl, gl_3, gw_396⟩
theorem gf_Question_51 : ga_F "RankHouse$Question" 51 3 9 0 := ⟨by decide, rfl, R_3, F_3, 19, rfl, by decide, rfl, gl_3, gw_397⟩
theorem gy_Question_144 : ga_Y "RankHouse$Question" 144 3 y_Question_next prog_5_method_22_code 4 ((Option.none : Option Jvm.ClassFile.FieldType)) 3 := ⟨by decide, ⟨F_3, 19, rfl⟩, gw_635, gw_637, ga_ms (List.mem_of_getElem? (i := 15) rfl) (by decide +kernel), gw_14, gw_638, by decide, by decide, by decide +kernel⟩
theorem gk_Question_150 : Cond.constant "RankHouse$Question" 150 (-2147483648 : Int32) ∈ ga_ws := gw_639
theorem gy_Question_151 : ga_Y "RankHouse$Question" 151 3 y_Question_firstRank prog_5_method_19_code 1 ((Option.some Jvm.ClassFile.FieldType.int)) 0 := ⟨by decide, ⟨F_3, 19, rfl⟩, gw_640, gw_642, ga_ms (List.mem_of_getElem? (i := 16) rfl) (by decide +kernel), gw_14, gw_643, by decide, by decide, by decide +kernel⟩
theorem gy_Question_154 : ga_Y "RankHouse$Question" 154 3 y_Question_seekRank prog_5_method_21_code 3 ((Option.none : Option Jvm.ClassFile.FieldType)) 2 := ⟨by decide, ⟨F_3, 19, rfl⟩, gw_645, gw_647, ga_ms (List.mem_of_getElem? (i := 17) rfl) (by decide +kernel), gw_14, gw_648, by decide, by decide, by decide +kernel⟩
theorem gf_Question_69 : ga_F "RankHouse$Question" 69 5 6 0 := ⟨by decide, rfl, R_5, F_5, 7, rfl, by decide, rfl, gl_5, gw_364⟩
theorem gf_Question_158 : ga_F "RankHouse$Question" 158 5 3 0 := ⟨by decide, rfl, R_5, F_5, 7, rfl, by decide, rfl, gl_5, gw_358⟩
theorem gf_Question_161 : ga_F "RankHouse$Question" 161 5 4 0 := ⟨by decide, rfl, R_5, F_5, 7, rfl, by decide, rfl, gl_5, gw_360⟩
theorem gy_Question_164 : ga_Y "RankHouse$Question" 164 4 y_Replies_pivot prog_6_method_5_code 4 ((Option.some Jvm.ClassFile.FieldType.int)) 1 := ⟨by decide, ⟨F_4, 5, rfl⟩, gw_659, gw_660, gw_661, gw_15, gw_662, by decide, by decide, by decide +kernel⟩
theorem gp_Question_167 : ga_P "RankHouse$Question" 167 5 5 0 .int := ⟨by decide, rfl, R_5, F_5, 7, t_5, rfl, by decide, rfl, gl_5, gw_362, t_5_ok, nm_5, rfl, t_5_ok 5 (by decide)⟩
theorem gf_Question_167 : ga_F "RankHouse$Question" 167 5 5 0 := ⟨by decide, rfl, R_5, F_5, 7, rfl, by decide, rfl, gl_5, gw_362⟩
theorem gf_Question_63 : ga_F "RankHouse$Question" 63 3 13 0 := ⟨by decide, rfl, R_3, F_3, 19, rfl, by decide, rfl, gl_3, gw_404⟩
theorem gy_Question_169 : ga_Y "RankHouse$Question" 169 5 y_Search_keepBelowPivot prog_7_method_4_code 2 ((Option.none : Option Jvm.ClassFile.FieldType)) 1 := ⟨by decide, ⟨F_5, 7, rfl⟩, gw_697, gw_698, gw_699, gw_16, gw_700, by decide, by decide, by decide +kernel⟩
theorem gy_Question_172 : ga_Y "RankHouse$Question" 172 5 y_Search_keepAbovePivot prog_7_method_5_code 2 ((Option.none : Option Jvm.ClassFile.FieldType)) 1 := ⟨by decide, ⟨F_5, 7, rfl⟩, gw_701, gw_702, gw_703, gw_16, gw_704, by decide, by decide, by decide +kernel⟩
theorem gy_Question_175 : ga_Y "RankHouse$Question" 175 3 y_Question_conclude prog_5_method_23_code 3 ((Option.none : Option Jvm.ClassFile.FieldType)) 1 := ⟨by decide, ⟨F_3, 19, rfl⟩, gw_684, gw_686, ga_ms (List.mem_of_getElem? (i := 22) rfl) (by decide +kernel), gw_14, gw_687, by decide, by decide, by decide +kernel⟩
theorem gk_Question_179 : Cond.constantLong "RankHouse$Question" 179 (1000000 : Int64) ∈ ga_ws := gw_710
theorem gy_Question_181 : ga_Y "RankHouse$Question" 181 3 y_Question_lastRank prog_5_method_20_code 1 ((Option.some Jvm.ClassFile.FieldType.int)) 0 := ⟨by decide, ⟨F_3, 19, rfl⟩, gw_688, gw_690, ga_ms (List.mem_of_getElem? (i := 23) rfl) (by decide +kernel), gw_14, gw_691, by decide, by decide, by decide +kernel⟩
theorem gf_Question_184 : ga_F "RankHouse$Question" 184 3 16 0 := ⟨by decide, rfl, R_3, F_3, 19, rfl, by decide, rfl, gl_3, gw_410⟩
theorem gf_Question_187 : ga_F "RankHouse$Question" 187 4 3 1 := ⟨by decide, rfl, R_4, F_4, 5, rfl, by decide, rfl, gl_4, gw_332⟩
theorem gf_Question_191 : ga_F "RankHouse$Question" 191 3 17 0 := ⟨by decide, rfl, R_3, F_3, 19, rfl, by decide, rfl, gl_3, gw_412⟩
theorem gy_Question_194 : ga_Y "RankHouse$Question" 194 3 y_Question_hasTwoRanks prog_5_method_3_code 1 ((Option.some Jvm.ClassFile.FieldType.boolean)) 0 := ⟨by decide, ⟨F_3, 19, rfl⟩, gw_680, gw_681, gw_682, gw_14, gw_683, by decide, by decide, by decide +kernel⟩
theorem gf_Question_198 : ga_F "RankHouse$Question" 198 5 0 0 := ⟨by decide, rfl, R_5, F_5, 7, rfl, by decide, rfl, gl_5, gw_354⟩
theorem gp_Question_184 : ga_P "RankHouse$Question" 184 3 16 0 .int := ⟨by decide, rfl, R_3, F_3, 19, t_3, rfl, by decide, rfl, gl_3, gw_410, t_3_ok, nm_3, rfl, t_3_ok 16 (by decide)⟩
theorem gp_Question_191 : ga_P "RankHouse$Question" 191 3 17 0 .int := ⟨by decide, rfl, R_3, F_3, 19, t_3, rfl, by decide, rfl, gl_3, gw_412, t_3_ok, nm_3, rfl, t_3_ok 17 (by decide)⟩
theorem gy_Question_202 : ga_Y "RankHouse$Question" 202 3 y_Question_afterBothRanks prog_5_method_18_code 1 ((Option.none : Option Jvm.ClassFile.FieldType)) 0 := ⟨by decide, ⟨F_3, 19, rfl⟩, gw_693, gw_695, ga_ms (List.mem_of_getElem? (i := 24) rfl) (by decide +kernel), gw_14, gw_696, by decide, by decide, by decide +kernel⟩
theorem gj_Question_205 : Cond.methodLink "RankHouse$Question" 205 Lib.Math.max.name ∈ ga_ws := gw_644
theorem gj_Question_211 : Cond.methodLink "RankHouse$Question" 211 Lib.Math.min.name ∈ ga_ws := gw_692
theorem gy_Question_214 : ga_Y "RankHouse$Question" 214 5 y_Search_begin prog_7_method_2_code 4 ((Option.none : Option Jvm.ClassFile.FieldType)) 3 := ⟨by decide, ⟨F_5, 7, rfl⟩, gw_649, gw_650, gw_651, gw_16, gw_652, by decide, by decide, by decide +kernel⟩
theorem gp_Question_218 : ga_P "RankHouse$Question" 218 3 18 1 .long := ⟨by decide, rfl, R_3, F_3, 19, t_3, rfl, by decide, rfl, gl_3, gw_415, t_3_ok, nm_3, rfl, t_3_ok 18 (by decide)⟩
theorem gf_Replies_9 : ga_F "RankHouse$Replies" 9 4 0 2 := ⟨by decide, rfl, R_4, F_4, 5, rfl, by decide, rfl, gl_4, gw_325⟩
theorem gf_Replies_25 : ga_F "RankHouse$Replies" 25 4 2 2 := ⟨by decide, rfl, R_4, F_4, 5, rfl, by decide, rfl, gl_4, gw_329⟩
theorem gp_Replies_29 : ga_P "RankHouse$Replies" 29 6 1 0 .int := ⟨by decide, rfl, R_6, F_6, 2, t_6, rfl, by decide, rfl, gl_6, gw_42, t_6_ok, nm_6, rfl, t_6_ok 1 (by decide)⟩
theorem gp_Replies_33 : ga_P "RankHouse$Replies" 33 4 3 1 .long := ⟨by decide, rfl, R_4, F_4, 5, t_4, rfl, by decide, rfl, gl_4, gw_331, t_4_ok, nm_4, rfl, t_4_ok 3 (by decide)⟩
theorem gp_Replies_37 : ga_P "RankHouse$Replies" 37 4 4 0 .int := ⟨by decide, rfl, R_4, F_4, 5, t_4, rfl, by decide, rfl, gl_4, gw_333, t_4_ok, nm_4, rfl, t_4_ok 4 (by decide)⟩
theorem gf_Replies_40 : ga_F "RankHouse$Replies" 40 0 7 0 := ⟨by decide, rfl, R_0, F_0, 9, rfl, by decide, rfl, gl_0, gw_90⟩
theorem gf_Replies_37 : ga_F "RankHouse$Replies" 37 4 4 0 := ⟨by decide, rfl, R_4, F_4, 5, rfl, by decide, rfl, gl_4, gw_333⟩
theorem gf_Replies_33 : ga_F "RankHouse$Replies" 33 4 3 1 := ⟨by decide, rfl, R_4, F_4, 5, rfl, by decide, rfl, gl_4, gw_331⟩
theorem gf_Replies_45 : ga_F "RankHouse$Replies" 45 0 2 1 := ⟨by decide, rfl, R_0, F_0, 9, rfl, by decide, rfl, gl_0, gw_78⟩
theorem gf_Replies_17 : ga_F "RankHouse$Replies" 17 4 1 2 := ⟨by decide, rfl, R_4, F_4, 5, rfl, by decide, rfl, gl_4, gw_328⟩
theorem gy_Replies_46 : ga_Y "RankHouse$Replies" 46 0 y_Letter_number prog_2_method_7_code 2 ((Option.some Jvm.ClassFile.FieldType.int)) 1 := ⟨by decide, ⟨F_0, 9, rfl⟩, gw_621, gw_527, gw_528, gw_5, gw_529, by decide, by decide, by decide +kernel⟩
theorem gf_Replies_50 : ga_F "RankHouse$Replies" 50 0 3 0 := ⟨by decide, rfl, R_0, F_0, 9, rfl, by decide, rfl, gl_0, gw_81⟩
theorem gf_Replies_53 : ga_F "RankHouse$Replies" 53 0 1 0 := ⟨by decide, rfl, R_0, F_0, 9, rfl, by decide, rfl, gl_0, gw_77⟩
theorem gy_Replies_56 : ga_Y "RankHouse$Replies" 56 6 y_SortedRow_insert prog_8_method_2_code 3 ((Option.none : Option Jvm.ClassFile.FieldType)) 1 := ⟨by decide, ⟨F_6, 2, rfl⟩, gw_622, gw_251, gw_252, gw_3, gw_253, by decide, by decide, by decide +kernel⟩
theorem gk_Replies_61 : Cond.constant "RankHouse$Replies" 61 (2147483647 : Int32) ∈ ga_ws := gw_663
theorem gy_Replies_62 : ga_Y "RankHouse$Replies" 62 4 y_Replies_countUpTo prog_6_method_6_code 4 ((Option.some Jvm.ClassFile.FieldType.int)) 1 := ⟨by decide, ⟨F_4, 5, rfl⟩, gw_664, gw_666, ga_ms (List.mem_of_getElem? (i := 19) rfl) (by decide +kernel), gw_15, gw_667, by decide, by decide, by decide +kernel⟩
theorem gp_Search_7 : ga_P "RankHouse$Search" 7 5 1 0 .int := ⟨by decide, rfl, R_5, F_5, 7, t_5, rfl, by decide, rfl, gl_5, gw_355, t_5_ok, nm_5, rfl, t_5_ok 1 (by decide)⟩
theorem gp_Search_13 : ga_P "RankHouse$Search" 13 5 0 0 .boolean := ⟨by decide, rfl, R_5, F_5, 7, t_5, rfl, by decide, rfl, gl_5, gw_353, t_5_ok, nm_5, rfl, t_5_ok 0 (by decide)⟩
theorem gp_Search_17 : ga_P "RankHouse$Search" 17 5 2 0 .int := ⟨by decide, rfl, R_5, F_5, 7, t_5, rfl, by decide, rfl, gl_5, gw_356, t_5_ok, nm_5, rfl, t_5_ok 2 (by decide)⟩
theorem gk_Search_22 : Cond.constant "RankHouse$Search" 22 (-2147483648 : Int32) ∈ ga_ws := gw_653
theorem gp_Search_23 : ga_P "RankHouse$Search" 23 5 3 0 .int := ⟨by decide, rfl, R_5, F_5, 7, t_5, rfl, by decide, rfl, gl_5, gw_357, t_5_ok, nm_5, rfl, t_5_ok 3 (by decide)⟩
theorem gk_Search_26 : Cond.constant "RankHouse$Search" 26 (2147483647 : Int32) ∈ ga_ws := gw_654
theorem gp_Search_27 : ga_P "RankHouse$Search" 27 5 4 0 .int := ⟨by decide, rfl, R_5, F_5, 7, t_5, rfl, by decide, rfl, gl_5, gw_359, t_5_ok, nm_5, rfl, t_5_ok 4 (by decide)⟩
theorem gp_Search_30 : ga_P "RankHouse$Search" 30 5 6 0 .int := ⟨by decide, rfl, R_5, F_5, 7, t_5, rfl, by decide, rfl, gl_5, gw_363, t_5_ok, nm_5, rfl, t_5_ok 6 (by decide)⟩
theorem gf_Search_7 : ga_F "RankHouse$Search" 7 5 1 0 := ⟨by decide, rfl, R_5, F_5, 7, rfl, by decide, rfl, gl_5, gw_355⟩
theorem gf_Search_17 : ga_F "RankHouse$Search" 17 5 2 0 := ⟨by decide, rfl, R_5, F_5, 7, rfl, by decide, rfl, gl_5, gw_356⟩
theorem gf_Search_33 : ga_F "RankHouse$Search" 33 5 5 0 := ⟨by decide, rfl, R_5, F_5, 7, rfl, by decide, rfl, gl_5, gw_361⟩
theorem gf_Search_30 : ga_F "RankHouse$Search" 30 5 6 0 := ⟨by decide, rfl, R_5, F_5, 7, rfl, by decide, rfl, gl_5, gw_363⟩
theorem gf_SortedRow_13 : ga_F "RankHouse$SortedRow" 13 6 1 0 := ⟨by decide, rfl, R_6, F_6, 2, rfl, by decide, rfl, gl_6, gw_40⟩
theorem gf_SortedRow_7 : ga_F "RankHouse$SortedRow" 7 6 0 2 := ⟨by decide, rfl, R_6, F_6, 2, rfl, by decide, rfl, gl_6, gw_39⟩
theorem gy_SortedRow_17 : ga_Y "RankHouse$SortedRow" 17 6 y_SortedRow_below prog_8_method_5_code 6 ((Option.some Jvm.ClassFile.FieldType.int)) 1 := ⟨by decide, ⟨F_6, 2, rfl⟩, gw_254, gw_255, gw_256, gw_3, gw_257, by decide, by decide, by decide +kernel⟩
theorem gj_SortedRow_21 : Cond.methodLink "RankHouse$SortedRow" 21 arraycopyName ∈ ga_ws := gw_258
theorem gp_SortedRow_13 : ga_P "RankHouse$SortedRow" 13 6 1 0 .int := ⟨by decide, rfl, R_6, F_6, 2, t_6, rfl, by decide, rfl, gl_6, gw_40, t_6_ok, nm_6, rfl, t_6_ok 1 (by decide)⟩
theorem gj_SortedRow_27 : Cond.methodLink "RankHouse$SortedRow" 27 Lib.Math.min.name ∈ ga_ws := gw_566
theorem gj_SortedRow_33 : Cond.methodLink "RankHouse$SortedRow" 33 Lib.Math.max.name ∈ ga_ws := gw_587
theorem gy_SortedRow_36 : ga_Y "RankHouse$SortedRow" 36 6 y_SortedRow_at prog_8_method_4_code 2 ((Option.some Jvm.ClassFile.FieldType.int)) 1 := ⟨by decide, ⟨F_6, 2, rfl⟩, gw_611, gw_592, gw_593, gw_3, gw_594, by decide, by decide, by decide +kernel⟩
theorem gy_L_7 : ga_Y "RankHouseLaw" 7 7 y_H_record prog_1_method_2_code 4 ((Option.some Jvm.ClassFile.FieldType.int)) 2 := ⟨by decide, ⟨F_7, 4, rfl⟩, gw_148, gw_149, gw_150, gw_1, gw_151, by decide, by decide, by decide +kernel⟩
theorem gy_L_17 : ga_Y "RankHouseLaw" 17 7 y_H_fill prog_1_method_3_code 8 ((Option.some Jvm.ClassFile.FieldType.int)) 5 := ⟨by decide, ⟨F_7, 4, rfl⟩, gw_265, gw_266, gw_267, gw_1, gw_268, by decide, by decide, by decide +kernel⟩
theorem gy_L_23 : ga_Y "RankHouseLaw" 23 7 y_H_size prog_1_method_4_code 2 ((Option.some Jvm.ClassFile.FieldType.int)) 1 := ⟨by decide, ⟨F_7, 4, rfl⟩, gw_289, gw_290, gw_291, gw_1, gw_292, by decide, by decide, by decide +kernel⟩
theorem gy_L_27 : ga_Y "RankHouseLaw" 27 7 y_H_ask prog_1_method_5_code 7 ((Option.some Jvm.ClassFile.FieldType.int)) 4 := ⟨by decide, ⟨F_7, 4, rfl⟩, gw_296, gw_297, gw_298, gw_1, gw_299, by decide, by decide, by decide +kernel⟩
theorem gy_L_31 : ga_Y "RankHouseLaw" 31 7 y_H_letter prog_1_method_7_code 3 ((Option.some Jvm.ClassFile.FieldType.int)) 2 := ⟨by decide, ⟨F_7, 4, rfl⟩, gw_511, gw_512, gw_513, gw_1, gw_514, by decide, by decide, by decide +kernel⟩
theorem gy_L_34 : ga_Y "RankHouseLaw" 34 7 y_H_deliver prog_1_method_8_code 2 ((Option.some Jvm.ClassFile.FieldType.int)) 1 := ⟨by decide, ⟨F_7, 4, rfl⟩, gw_533, gw_534, gw_535, gw_1, gw_536, by decide, by decide, by decide +kernel⟩
theorem gy_L_37 : ga_Y "RankHouseLaw" 37 7 y_H_lose prog_1_method_9_code 2 ((Option.some Jvm.ClassFile.FieldType.int)) 1 := ⟨by decide, ⟨F_7, 4, rfl⟩, gw_722, gw_723, gw_724, gw_1, gw_725, by decide, by decide, by decide +kernel⟩
theorem gy_L_40 : ga_Y "RankHouseLaw" 40 7 y_H_twin prog_1_method_10_code 3 ((Option.some Jvm.ClassFile.FieldType.boolean)) 1 := ⟨by decide, ⟨F_7, 4, rfl⟩, gw_729, gw_730, gw_731, gw_1, gw_732, by decide, by decide, by decide +kernel⟩
theorem gy_L_44 : ga_Y "RankHouseLaw" 44 7 y_H_run prog_1_method_11_code 3 ((Option.some Jvm.ClassFile.FieldType.int)) 1 := ⟨by decide, ⟨F_7, 4, rfl⟩, gw_741, gw_742, gw_743, gw_1, gw_744, by decide, by decide, by decide +kernel⟩
theorem gy_L_47 : ga_Y "RankHouseLaw" 47 7 y_H_resend prog_1_method_12_code 3 ((Option.some Jvm.ClassFile.FieldType.int)) 1 := ⟨by decide, ⟨F_7, 4, rfl⟩, gw_749, gw_750, gw_751, gw_1, gw_752, by decide, by decide, by decide +kernel⟩
theorem gy_L_50 : ga_Y "RankHouseLaw" 50 7 y_H_takeOver prog_1_method_13_code 4 ((Option.some Jvm.ClassFile.FieldType.int)) 2 := ⟨by decide, ⟨F_7, 4, rfl⟩, gw_762, gw_763, gw_764, gw_1, gw_765, by decide, by decide, by decide +kernel⟩
theorem gy_L_53 : ga_Y "RankHouseLaw" 53 7 y_H_crash prog_1_method_14_code 5 ((Option.some Jvm.ClassFile.FieldType.int)) 1 := ⟨by decide, ⟨F_7, 4, rfl⟩, gw_770, gw_771, gw_772, gw_1, gw_773, by decide, by decide, by decide +kernel⟩
theorem gy_L_56 : ga_Y "RankHouseLaw" 56 7 y_H_restart prog_1_method_15_code 2 ((Option.none : Option Jvm.ClassFile.FieldType)) 1 := ⟨by decide, ⟨F_7, 4, rfl⟩, gw_777, gw_778, gw_779, gw_1, gw_780, by decide, by decide, by decide +kernel⟩
theorem gy_L_60 : ga_Y "RankHouseLaw" 60 7 y_H_state prog_1_method_16_code 2 ((Option.some Jvm.ClassFile.FieldType.int)) 1 := ⟨by decide, ⟨F_7, 4, rfl⟩, gw_784, gw_785, gw_786, gw_1, gw_787, by decide, by decide, by decide +kernel⟩
theorem gy_L_63 : ga_Y "RankHouseLaw" 63 7 y_H_answer prog_1_method_17_code 3 ((Option.some Jvm.ClassFile.FieldType.long)) 1 := ⟨by decide, ⟨F_7, 4, rfl⟩, gw_791, gw_792, gw_793, gw_1, gw_794, by decide, by decide, by decide +kernel⟩
theorem gy_L_67 : ga_Y "RankHouseLaw" 67 7 y_H_found prog_1_method_18_code 4 ((Option.some Jvm.ClassFile.FieldType.int)) 2 := ⟨by decide, ⟨F_7, 4, rfl⟩, gw_802, gw_803, gw_804, gw_1, gw_805, by decide, by decide, by decide +kernel⟩
theorem gy_L_71 : ga_Y "RankHouseLaw" 71 7 y_H_about prog_1_method_19_code 4 ((Option.some Jvm.ClassFile.FieldType.int)) 2 := ⟨by decide, ⟨F_7, 4, rfl⟩, gw_811, gw_812, gw_813, gw_1, gw_814, by decide, by decide, by decide +kernel⟩
theorem gy_L_74 : ga_Y "RankHouseLaw" 74 7 y_H_mark prog_1_method_20_code 3 ((Option.some Jvm.ClassFile.FieldType.int)) 2 := ⟨by decide, ⟨F_7, 4, rfl⟩, gw_819, gw_820, gw_821, gw_1, gw_822, by decide, by decide, by decide +kernel⟩
theorem gy_L_77 : ga_Y "RankHouseLaw" 77 7 y_H_forget prog_1_method_21_code 4 ((Option.some Jvm.ClassFile.FieldType.int)) 1 := ⟨by decide, ⟨F_7, 4, rfl⟩, gw_826, gw_827, gw_828, gw_1, gw_829, by decide, by decide, by decide +kernel⟩
-- RankHouseLaw #84 calls RankHouseLaw.record (codeWith)
theorem gy_L_89 : ga_Y "RankHouseLaw" 89 8 y_M_record prog_10_method_5_code 3 ((Option.some Jvm.ClassFile.FieldType.int)) 2 := ⟨by decide, ⟨F_8, 39, rfl⟩, gw_964, gw_965, gw_966, gw_6, gw_967, by decide, by decide, by decide +kernel⟩
theorem gy_L_90 : ga_Y "RankHouseLaw" 90 8 y_M_thrown prog_10_method_2_code 1 ((Option.some Jvm.ClassFile.FieldType.int)) 0 := ⟨by decide, ⟨F_8, 39, rfl⟩, gw_960, gw_961, gw_962, gw_6, gw_963, by decide, by decide, by decide +kernel⟩
-- RankHouseLaw #94 calls RankHouseLaw.fill (codeWith)
theorem gy_L_97 : ga_Y "RankHouseLaw" 97 8 y_M_fill prog_10_method_6_code 7 ((Option.some Jvm.ClassFile.FieldType.int)) 5 := ⟨by decide, ⟨F_8, 39, rfl⟩, gw_971, gw_972, gw_973, gw_6, gw_974, by decide, by decide, by decide +kernel⟩
-- RankHouseLaw #98 calls RankHouseLaw.size (codeWith)
theorem gy_L_101 : ga_Y "RankHouseLaw" 101 8 y_M_size prog_10_method_7_code 2 ((Option.some Jvm.ClassFile.FieldType.int)) 1 := ⟨by decide, ⟨F_8, 39, rfl⟩, gw_976, gw_977, gw_978, gw_6, gw_979, by decide, by decide, by decide +kernel⟩
-- RankHouseLaw #102 calls RankHouseLaw.ask (codeWith)
theorem gy_L_105 : ga_Y "RankHouseLaw" 105 8 y_M_ask prog_10_method_40_code 8 ((Option.some Jvm.ClassFile.FieldType.int)) 4 := ⟨by decide, ⟨F_8, 39, rfl⟩, gw_1116, gw_1117, gw_1118, gw_6, gw_1119, by decide, by decide, by decide +kernel⟩
theorem gy_L_106 : ga_Y "RankHouseLaw" 106 7 y_H_letters prog_1_method_6_code 1 ((Option.some Jvm.ClassFile.FieldType.int)) 0 := ⟨by decide, ⟨F_7, 4, rfl⟩, gw_139, gw_140, gw_141, gw_1, gw_142, by decide, by decide, by decide +kernel⟩
theorem gy_L_109 : ga_Y "RankHouseLaw" 109 8 y_M_letters prog_10_method_34_code 1 ((Option.some Jvm.ClassFile.FieldType.int)) 0 := ⟨by decide, ⟨F_8, 39, rfl⟩, gw_980, gw_981, gw_982, gw_6, gw_983, by decide, by decide, by decide +kernel⟩
-- RankHouseLaw #110 calls RankHouseLaw.letter (codeWith)
theorem gy_L_112 : ga_Y "RankHouseLaw" 112 8 y_M_letter prog_10_method_35_code 4 ((Option.some Jvm.ClassFile.FieldType.int)) 2 := ⟨by decide, ⟨F_8, 39, rfl⟩, gw_984, gw_985, gw_986, gw_6, gw_987, by decide, by decide, by decide +kernel⟩
-- RankHouseLaw #113 calls RankHouseLaw.deliver (codeWith)
theorem gy_L_115 : ga_Y "RankHouseLaw" 115 8 y_M_deliver prog_10_method_36_code 2 ((Option.some Jvm.ClassFile.FieldType.int)) 1 := ⟨by decide, ⟨F_8, 39, rfl⟩, gw_992, gw_993, gw_994, gw_6, gw_995, by decide, by decide, by decide +kernel⟩
-- RankHouseLaw #116 calls RankHouseLaw.lose (codeWith)
theorem gy_L_118 : ga_Y "RankHouseLaw" 118 8 y_M_lose prog_10_method_37_code 2 ((Option.some Jvm.ClassFile.FieldType.int)) 1 := ⟨by decide, ⟨F_8, 39, rfl⟩, gw_1104, gw_1105, gw_1106, gw_6, gw_1107, by decide, by decide, by decide +kernel⟩
-- RankHouseLaw #119 calls RankHouseLaw.twin (codeWith)
theorem gy_L_121 : ga_Y "RankHouseLaw" 121 8 y_M_twin prog_10_method_38_code 3 ((Option.some Jvm.ClassFile.FieldType.boolean)) 1 := ⟨by decide, ⟨F_8, 39, rfl⟩, gw_1108, gw_1109, gw_1110, gw_6, gw_1111, by decide, by decide, by decide +kernel⟩
-- RankHouseLaw #122 calls RankHouseLaw.run (codeWith)
theorem gy_L_124 : ga_Y "RankHouseLaw" 124 8 y_M_run prog_10_method_39_code 3 ((Option.some Jvm.ClassFile.FieldType.int)) 1 := ⟨by decide, ⟨F_8, 39, rfl⟩, gw_1112, gw_1113, gw_1114, gw_6, gw_1115, by decide, by decide, by decide +kernel⟩
-- RankHouseLaw #125 calls RankHouseLaw.resend (codeWith)
theorem gy_L_127 : ga_Y "RankHouseLaw" 127 8 y_M_resend prog_10_method_42_code 5 ((Option.some Jvm.ClassFile.FieldType.int)) 1 := ⟨by decide, ⟨F_8, 39, rfl⟩, gw_1124, gw_1125, gw_1126, gw_6, gw_1127, by decide, by decide, by decide +kernel⟩
-- RankHouseLaw #128 calls RankHouseLaw.takeOver (codeWith)
theorem gy_L_130 : ga_Y "RankHouseLaw" 130 8 y_M_takeOver prog_10_method_43_code 4 ((Option.some Jvm.ClassFile.FieldType.int)) 2 := ⟨by decide, ⟨F_8, 39, rfl⟩, gw_1128, gw_1129, gw_1130, gw_6, gw_1131, by decide, by decide, by decide +kernel⟩
-- RankHouseLaw #131 calls RankHouseLaw.crash (codeWith)
theorem gy_L_133 : ga_Y "RankHouseLaw" 133 8 y_M_crash prog_10_method_44_code 4 ((Option.some Jvm.ClassFile.FieldType.int)) 1 := ⟨by decide, ⟨F_8, 39, rfl⟩, gw_1132, gw_1133, gw_1134, gw_6, gw_1135, by decide, by decide, by decide +kernel⟩
-- RankHouseLaw #134 calls RankHouseLaw.restart (codeWith)
theorem gy_L_137 : ga_Y "RankHouseLaw" 137 8 y_M_restart prog_10_method_45_code 2 ((Option.none : Option Jvm.ClassFile.FieldType)) 1 := ⟨by decide, ⟨F_8, 39, rfl⟩, gw_1136, gw_1137, gw_1138, gw_6, gw_1139, by decide, by decide, by decide +kernel⟩
-- RankHouseLaw #138 calls RankHouseLaw.state (codeWith)
theorem gy_L_140 : ga_Y "RankHouseLaw" 140 8 y_M_state prog_10_method_46_code 3 ((Option.some Jvm.ClassFile.FieldType.int)) 1 := ⟨by decide, ⟨F_8, 39, rfl⟩, gw_1140, gw_1141, gw_1142, gw_6, gw_1143, by decide, by decide, by decide +kernel⟩
-- RankHouseLaw #141 calls RankHouseLaw.answer (codeWith)
theorem gy_L_143 : ga_Y "RankHouseLaw" 143 8 y_M_answer prog_10_method_47_code 3 ((Option.some Jvm.ClassFile.FieldType.long)) 1 := ⟨by decide, ⟨F_8, 39, rfl⟩, gw_1144, gw_1145, gw_1146, gw_6, gw_1147, by decide, by decide, by decide +kernel⟩
-- RankHouseLaw #144 calls RankHouseLaw.found (codeWith)
theorem gy_L_147 : ga_Y "RankHouseLaw" 147 8 y_M_found prog_10_method_48_code 4 ((Option.some Jvm.ClassFile.FieldType.int)) 2 := ⟨by decide, ⟨F_8, 39, rfl⟩, gw_1148, gw_1149, gw_1150, gw_6, gw_1151, by decide, by decide, by decide +kernel⟩
-- RankHouseLaw #148 calls RankHouseLaw.about (codeWith)
theorem gy_L_150 : ga_Y "RankHouseLaw" 150 8 y_M_about prog_10_method_49_code 6 ((Option.some Jvm.ClassFile.FieldType.int)) 2 := ⟨by decide, ⟨F_8, 39, rfl⟩, gw_1152, gw_1153, gw_1154, gw_6, gw_1155, by decide, by decide, by decide +kernel⟩
-- RankHouseLaw #151 calls RankHouseLaw.mark (codeWith)
theorem gy_L_153 : ga_Y "RankHouseLaw" 153 8 y_M_mark prog_10_method_50_code 4 ((Option.some Jvm.ClassFile.FieldType.int)) 2 := ⟨by decide, ⟨F_8, 39, rfl⟩, gw_1156, gw_1157, gw_1158, gw_6, gw_1159, by decide, by decide, by decide +kernel⟩
-- RankHouseLaw #154 calls RankHouseLaw.forget (codeWith)
theorem gy_L_156 : ga_Y "RankHouseLaw" 156 8 y_M_forget prog_10_method_51_code 5 ((Option.some Jvm.ClassFile.FieldType.int)) 1 := ⟨by decide, ⟨F_8, 39, rfl⟩, gw_1160, gw_1161, gw_1162, gw_6, gw_1163, by decide, by decide, by decide +kernel⟩
