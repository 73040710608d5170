theorem kj_min_s : Cond.static Lib.Math.min.name ∈ lw_g := (ss_in 721 (by decide +kernel) (by decide +kernel))
theorem kj_max_s : Cond.static Lib.Math.max.name ∈ lw_g := (ss_in 969 (by decide +kernel) (by decide +kernel))
theorem kj_min_c : Cond.code Lib.Math.min.name Lib.Math.min.code 2 (some .int) ∈ lw_g := (ss_in 722 (by decide +kernel) (by decide +kernel))
theorem kj_max_c : Cond.code Lib.Math.max.name Lib.Math.max.code 2 (some .int) ∈ lw_g := (ss_in 970 (by decide +kernel) (by decide +kernel))
theorem kj_math : Cond.initialized "java/lang/Math" ∈ lw_g := (ss_in 19 (by decide +kernel) (by decide +kernel))
theorem kj_sys : Cond.initialized "java/lang/System" ∈ lw_g := (ss_in 13 (by decide +kernel) (by decide +kernel))
theorem kj_oi : Cond.instanceMethod objectInit ∈ lw_g := (ss_in 27 (by decide +kernel) (by decide +kernel))
theorem kj_oc : Cond.code objectInit ⟨#[0xb1]⟩ 1 none ∈ lw_g := (ss_in 28 (by decide +kernel) (by decide +kernel))
theorem kj_ac_n : Cond.native arraycopyName ∈ lw_g := (ss_in 434 (by decide +kernel) (by decide +kernel))
theorem kj_ac_s : Cond.static arraycopyName ∈ lw_g := (ss_in 433 (by decide +kernel) (by decide +kernel))
theorem kt_int : Cond.arrayClass .int ∈ lw_g := (ss_in 56 (by decide +kernel) (by decide +kernel))
theorem kt_byte : Cond.arrayClass .byte ∈ lw_g := (ss_in 586 (by decide +kernel) (by decide +kernel))
theorem kt_boolean : Cond.arrayClass .boolean ∈ lw_g := (ss_in 351 (by decide +kernel) (by decide +kernel))
theorem kt_long : Cond.arrayClass .long ∈ lw_g := (ss_in 328 (by decide +kernel) (by decide +kernel))
abbrev bb_S_init : ByteArray := prog_1_method_1_code
def yy_S_init : MethodName := ⟨sR_11, "<init>", "()V"⟩
abbrev bb_T_init : ByteArray := prog_8_method_1_code
def yy_T_init : MethodName := ⟨sR_2, "<init>", "()V"⟩
abbrev bb_VR_init : ByteArray := prog_10_method_1_code
def yy_VR_init : MethodName := ⟨sR_6, "<init>", "(LSweptSnow$Tape;)V"⟩
abbrev bb_V_init : ByteArray := prog_9_method_1_code
def yy_V_init : MethodName := ⟨sR_5, "<init>", "()V"⟩
abbrev bb_G_init : ByteArray := prog_4_method_1_code
def yy_G_init : MethodName := ⟨sR_0, "<init>", "()V"⟩
abbrev bb_RR_init : ByteArray := prog_7_method_1_code
def yy_RR_init : MethodName := ⟨sR_4, "<init>", "(LSweptSnow$Tape;)V"⟩
abbrev bb_Wo_init : ByteArray := prog_12_method_1_code
def yy_Wo_init : MethodName := ⟨sR_8, "<init>", "()V"⟩
abbrev bb_A_init : ByteArray := prog_2_method_1_code
def yy_A_init : MethodName := ⟨sR_3, "<init>", "()V"⟩
abbrev bb_Wi_init : ByteArray := prog_11_method_1_code
def yy_Wi_init : MethodName := ⟨sR_7, "<init>", "(LSweptSnow$Valley;)V"⟩
abbrev bb_F_init : ByteArray := prog_3_method_1_code
def yy_F_init : MethodName := ⟨sR_9, "<init>", "(LSweptSnow$World;[LSweptSnow$Rule;LSweptSnow$Winter;)V"⟩
abbrev bb_P_init : ByteArray := prog_5_method_1_code
def yy_P_init : MethodName := ⟨sR_10, "<init>", "(LSweptSnow$World;LSweptSnow$Winter;)V"⟩
abbrev bb_S_feed : ByteArray := prog_1_method_2_code
def yy_S_feed : MethodName := ⟨sR_11, "feed", "(IIIII)I"⟩
abbrev bb_T_put : ByteArray := prog_8_method_2_code
def yy_T_put : MethodName := ⟨sR_2, "put", "(I)V"⟩
abbrev bb_S_end : ByteArray := prog_1_method_3_code
def yy_S_end : MethodName := ⟨sR_11, "end", "(I)I"⟩
abbrev bb_S_valley : ByteArray := prog_1_method_4_code
def yy_S_valley : MethodName := ⟨sR_11, "valley", "()I"⟩
abbrev bb_VR_readValley : ByteArray := prog_10_method_2_code
def yy_VR_readValley : MethodName := ⟨sR_6, "readValley", "()LSweptSnow$Valley;"⟩
abbrev bb_V_copyFrom : ByteArray := prog_9_method_2_code
def yy_V_copyFrom : MethodName := ⟨sR_5, "copyFrom", "(LSweptSnow$Valley;)V"⟩
abbrev bb_G_copyFrom : ByteArray := prog_4_method_2_code
def yy_G_copyFrom : MethodName := ⟨sR_0, "copyFrom", "(LSweptSnow$Ground;)V"⟩
abbrev bb_T_open : ByteArray := prog_8_method_3_code
def yy_T_open : MethodName := ⟨sR_2, "open", "()V"⟩
abbrev bb_T_advance : ByteArray := prog_8_method_6_code
def yy_T_advance : MethodName := ⟨sR_2, "advance", "()V"⟩
abbrev bb_T_isLetter : ByteArray := prog_8_method_7_code
def yy_T_isLetter : MethodName := ⟨sR_2, "isLetter", "(I)Z"⟩
abbrev bb_T_isDigit : ByteArray := prog_8_method_8_code
def yy_T_isDigit : MethodName := ⟨sR_2, "isDigit", "(I)Z"⟩
abbrev bb_VR_readClause : ByteArray := prog_10_method_3_code
def yy_VR_readClause : MethodName := ⟨sR_6, "readClause", "(I)V"⟩
abbrev bb_T_wordIn : ByteArray := prog_8_method_13_code
def yy_T_wordIn : MethodName := ⟨sR_2, "wordIn", "(Ljava/lang/String;)I"⟩
abbrev bb_T_fail : ByteArray := prog_8_method_4_code
def yy_T_fail : MethodName := ⟨sR_2, "fail", "(I)V"⟩
abbrev bb_VR_mayStand : ByteArray := prog_10_method_4_code
def yy_VR_mayStand : MethodName := ⟨sR_6, "mayStand", "(II)Z"⟩
abbrev bb_VR_readMeasures : ByteArray := prog_10_method_5_code
def yy_VR_readMeasures : MethodName := ⟨sR_6, "readMeasures", "()V"⟩
abbrev bb_T_number : ByteArray := prog_8_method_16_code
def yy_T_number : MethodName := ⟨sR_2, "number", "(III)I"⟩
abbrev bb_T_isDigits : ByteArray := prog_8_method_9_code
def yy_T_isDigits : MethodName := ⟨sR_2, "isDigits", "()Z"⟩
abbrev bb_T_digits : ByteArray := prog_8_method_15_code
def yy_T_digits : MethodName := ⟨sR_2, "digits", "()I"⟩
abbrev bb_T_isWell : ByteArray := prog_8_method_5_code
def yy_T_isWell : MethodName := ⟨sR_2, "isWell", "()Z"⟩
abbrev bb_VR_readStep : ByteArray := prog_10_method_6_code
def yy_VR_readStep : MethodName := ⟨sR_6, "readStep", "()V"⟩
abbrev bb_VR_readHouse : ByteArray := prog_10_method_8_code
def yy_VR_readHouse : MethodName := ⟨sR_6, "readHouse", "()V"⟩
abbrev bb_VR_readToldStep : ByteArray := prog_10_method_7_code
def yy_VR_readToldStep : MethodName := ⟨sR_6, "readToldStep", "(I)I"⟩
abbrev bb_VR_readPath : ByteArray := prog_10_method_9_code
def yy_VR_readPath : MethodName := ⟨sR_6, "readPath", "()V"⟩
abbrev bb_VR_readWall : ByteArray := prog_10_method_10_code
def yy_VR_readWall : MethodName := ⟨sR_6, "readWall", "()V"⟩
abbrev bb_VR_readNeed : ByteArray := prog_10_method_11_code
def yy_VR_readNeed : MethodName := ⟨sR_6, "readNeed", "()V"⟩
abbrev bb_T_goesOn : ByteArray := prog_8_method_17_code
def yy_T_goesOn : MethodName := ⟨sR_2, "goesOn", "()Z"⟩
abbrev bb_T_isSign : ByteArray := prog_8_method_10_code
def yy_T_isSign : MethodName := ⟨sR_2, "isSign", "(C)Z"⟩
abbrev bb_Wo_settle : ByteArray := prog_12_method_2_code
def yy_Wo_settle : MethodName := ⟨sR_8, "settle", "(LSweptSnow$Valley;)V"⟩
abbrev bb_A_forget : ByteArray := prog_2_method_3_code
def yy_A_forget : MethodName := ⟨sR_3, "forget", "()V"⟩
abbrev bb_S_rule : ByteArray := prog_1_method_5_code
def yy_S_rule : MethodName := ⟨sR_11, "rule", "()I"⟩
abbrev bb_RR_readRule : ByteArray := prog_7_method_2_code
def yy_RR_readRule : MethodName := ⟨sR_4, "readRule", "()LSweptSnow$Rule;"⟩
abbrev bb_RR_begins : ByteArray := prog_7_method_3_code
def yy_RR_begins : MethodName := ⟨sR_4, "begins", "()Z"⟩
abbrev bb_T_isWord : ByteArray := prog_8_method_14_code
def yy_T_isWord : MethodName := ⟨sR_2, "isWord", "(Ljava/lang/String;)Z"⟩
abbrev bb_RR_readSum : ByteArray := prog_7_method_7_code
def yy_RR_readSum : MethodName := ⟨sR_4, "readSum", "()V"⟩
abbrev bb_RR_readValue : ByteArray := prog_7_method_8_code
def yy_RR_readValue : MethodName := ⟨sR_4, "readValue", "()V"⟩
abbrev bb_RR_countPart : ByteArray := prog_7_method_9_code
def yy_RR_countPart : MethodName := ⟨sR_4, "countPart", "()V"⟩
abbrev bb_RR_emit : ByteArray := prog_7_method_10_code
def yy_RR_emit : MethodName := ⟨sR_4, "emit", "(I)V"⟩
abbrev bb_T_signIn : ByteArray := prog_8_method_11_code
def yy_T_signIn : MethodName := ⟨sR_2, "signIn", "(Ljava/lang/String;)I"⟩
abbrev bb_RR_readTest : ByteArray := prog_7_method_4_code
def yy_RR_readTest : MethodName := ⟨sR_4, "readTest", "(I)V"⟩
abbrev bb_RR_readFact : ByteArray := prog_7_method_5_code
def yy_RR_readFact : MethodName := ⟨sR_4, "readFact", "(I)V"⟩
abbrev bb_RR_readWithin : ByteArray := prog_7_method_6_code
def yy_RR_readWithin : MethodName := ⟨sR_4, "readWithin", "(IZ)V"⟩
abbrev bb_T_comparison : ByteArray := prog_8_method_12_code
def yy_T_comparison : MethodName := ⟨sR_2, "comparison", "()I"⟩
abbrev bb_Ru_init : ByteArray := prog_6_method_1_code
def yy_Ru_init : MethodName := ⟨sR_1, "<init>", "([II[II)V"⟩
abbrev bb_S_force : ByteArray := prog_1_method_6_code
def yy_S_force : MethodName := ⟨sR_11, "force", "(I)I"⟩
abbrev bb_S_step : ByteArray := prog_1_method_7_code
def yy_S_step : MethodName := ⟨sR_11, "step", "(II)I"⟩
abbrev bb_S_isStep : ByteArray := prog_1_method_34_code
def yy_S_isStep : MethodName := ⟨sR_11, "isStep", "(I)Z"⟩
abbrev bb_Wo_closedBits : ByteArray := prog_12_method_5_code
def yy_Wo_closedBits : MethodName := ⟨sR_8, "closedBits", "()I"⟩
abbrev bb_V_closedBits : ByteArray := prog_9_method_6_code
def yy_V_closedBits : MethodName := ⟨sR_5, "closedBits", "(LSweptSnow$Ground;)I"⟩
abbrev bb_V_neededBits : ByteArray := prog_9_method_4_code
def yy_V_neededBits : MethodName := ⟨sR_5, "neededBits", "(I)I"⟩
abbrev bb_V_isNeeded : ByteArray := prog_9_method_3_code
def yy_V_isNeeded : MethodName := ⟨sR_5, "isNeeded", "(II)Z"⟩
abbrev bb_S_house : ByteArray := prog_1_method_8_code
def yy_S_house : MethodName := ⟨sR_11, "house", "(II)I"⟩
abbrev bb_S_isHouse : ByteArray := prog_1_method_35_code
def yy_S_isHouse : MethodName := ⟨sR_11, "isHouse", "(I)Z"⟩
abbrev bb_S_day : ByteArray := prog_1_method_9_code
def yy_S_day : MethodName := ⟨sR_11, "day", "()I"⟩
abbrev bb_A_keep : ByteArray := prog_2_method_2_code
def yy_A_keep : MethodName := ⟨sR_3, "keep", "(LSweptSnow$Ground;)V"⟩
abbrev bb_F_start : ByteArray := prog_3_method_3_code
def yy_F_start : MethodName := ⟨sR_9, "start", "()V"⟩
abbrev bb_F_ruleAt : ByteArray := prog_3_method_2_code
def yy_F_ruleAt : MethodName := ⟨sR_9, "ruleAt", "(I)LSweptSnow$Rule;"⟩
abbrev bb_Wi_begin : ByteArray := prog_11_method_2_code
def yy_Wi_begin : MethodName := ⟨sR_7, "begin", "(LSweptSnow$Rule;LSweptSnow$Ground;)V"⟩
abbrev bb_Wi_passDay : ByteArray := prog_11_method_5_code
def yy_Wi_passDay : MethodName := ⟨sR_7, "passDay", "()I"⟩
abbrev bb_Wi_choice : ByteArray := prog_11_method_7_code
def yy_Wi_choice : MethodName := ⟨sR_7, "choice", "(I)I"⟩
abbrev bb_Wi_closedBits : ByteArray := prog_11_method_3_code
def yy_Wi_closedBits : MethodName := ⟨sR_7, "closedBits", "()I"⟩
abbrev bb_Wi_lookAt : ByteArray := prog_11_method_8_code
def yy_Wi_lookAt : MethodName := ⟨sR_7, "lookAt", "(III)V"⟩
abbrev bb_JI_bitCount : ByteArray := prog_15_method_49_code
def yy_JI_bitCount : MethodName := ⟨"java/lang/Integer", "bitCount", "(I)I"⟩
abbrev bb_V_daysToNeed : ByteArray := prog_9_method_5_code
def yy_V_daysToNeed : MethodName := ⟨sR_5, "daysToNeed", "(II)I"⟩
abbrev bb_Ru_worth : ByteArray := prog_6_method_2_code
def yy_Ru_worth : MethodName := ⟨sR_1, "worth", "([J[J)J"⟩
abbrev bb_Ru_run : ByteArray := prog_6_method_3_code
def yy_Ru_run : MethodName := ⟨sR_1, "run", "(II[J[J)J"⟩
abbrev bb_Ru_join : ByteArray := prog_6_method_4_code
def yy_Ru_join : MethodName := ⟨sR_1, "join", "(IJJ)J"⟩
abbrev bb_Wi_sweepBy : ByteArray := prog_11_method_4_code
def yy_Wi_sweepBy : MethodName := ⟨sR_7, "sweepBy", "(II)I"⟩
abbrev bb_G_lay : ByteArray := prog_4_method_3_code
def yy_G_lay : MethodName := ⟨sR_0, "lay", "(II)V"⟩
abbrev bb_Wi_passNight : ByteArray := prog_11_method_6_code
def yy_Wi_passNight : MethodName := ⟨sR_7, "passNight", "()I"⟩
abbrev bb_S_sweep : ByteArray := prog_1_method_10_code
def yy_S_sweep : MethodName := ⟨sR_11, "sweep", "(II)I"⟩
abbrev bb_S_isFree : ByteArray := prog_1_method_36_code
def yy_S_isFree : MethodName := ⟨sR_11, "isFree", "(I)Z"⟩
abbrev bb_S_toss : ByteArray := prog_1_method_11_code
def yy_S_toss : MethodName := ⟨sR_11, "toss", "(II)I"⟩
abbrev bb_S_isWithin : ByteArray := prog_1_method_37_code
def yy_S_isWithin : MethodName := ⟨sR_11, "isWithin", "(III)Z"⟩
abbrev bb_S_pull : ByteArray := prog_1_method_12_code
def yy_S_pull : MethodName := ⟨sR_11, "pull", "(I)I"⟩
abbrev bb_S_thaw : ByteArray := prog_1_method_13_code
def yy_S_thaw : MethodName := ⟨sR_11, "thaw", "()I"⟩
abbrev bb_G_snowOfAll : ByteArray := prog_4_method_5_code
def yy_G_snowOfAll : MethodName := ⟨sR_0, "snowOfAll", "()I"⟩
abbrev bb_G_halve : ByteArray := prog_4_method_4_code
def yy_G_halve : MethodName := ⟨sR_0, "halve", "()V"⟩
abbrev bb_S_undo : ByteArray := prog_1_method_14_code
def yy_S_undo : MethodName := ⟨sR_11, "undo", "()I"⟩
abbrev bb_A_takeBack : ByteArray := prog_2_method_4_code
def yy_A_takeBack : MethodName := ⟨sR_3, "takeBack", "(LSweptSnow$Ground;)I"⟩
abbrev bb_S_ahead : ByteArray := prog_1_method_15_code
def yy_S_ahead : MethodName := ⟨sR_11, "ahead", "(III)I"⟩
abbrev bb_F_closedAfter : ByteArray := prog_3_method_6_code
def yy_F_closedAfter : MethodName := ⟨sR_9, "closedAfter", "(I)I"⟩
abbrev bb_F_go : ByteArray := prog_3_method_4_code
def yy_F_go : MethodName := ⟨sR_9, "go", "(I)V"⟩
abbrev bb_F_snowAfter : ByteArray := prog_3_method_5_code
def yy_F_snowAfter : MethodName := ⟨sR_9, "snowAfter", "(II)I"⟩
abbrev bb_S_stays : ByteArray := prog_1_method_16_code
def yy_S_stays : MethodName := ⟨sR_11, "stays", "(I)I"⟩
abbrev bb_F_openThrough : ByteArray := prog_3_method_7_code
def yy_F_openThrough : MethodName := ⟨sR_9, "openThrough", "(I)I"⟩
abbrev bb_S_closes : ByteArray := prog_1_method_17_code
def yy_S_closes : MethodName := ⟨sR_11, "closes", "(I)I"⟩
abbrev bb_F_firstClosed : ByteArray := prog_3_method_8_code
def yy_F_firstClosed : MethodName := ⟨sR_9, "firstClosed", "(I)I"⟩
abbrev bb_S_ring : ByteArray := prog_1_method_18_code
def yy_S_ring : MethodName := ⟨sR_11, "ring", "(I)I"⟩
abbrev bb_F_ringOf : ByteArray := prog_3_method_9_code
def yy_F_ringOf : MethodName := ⟨sR_9, "ringOf", "(Z)I"⟩
abbrev bb_F_isSameRow : ByteArray := prog_3_method_10_code
def yy_F_isSameRow : MethodName := ⟨sR_9, "isSameRow", "(II)Z"⟩
abbrev bb_S_spare : ByteArray := prog_1_method_19_code
def yy_S_spare : MethodName := ⟨sR_11, "spare", "(III)I"⟩
abbrev bb_P_fewestSweepings : ByteArray := prog_5_method_2_code
def yy_P_fewestSweepings : MethodName := ⟨sR_10, "fewestSweepings", "(II)I"⟩
abbrev bb_P_isOpenByNeed : ByteArray := prog_5_method_3_code
def yy_P_isOpenByNeed : MethodName := ⟨sR_10, "isOpenByNeed", "(III)Z"⟩
abbrev bb_S_figure : ByteArray := prog_1_method_20_code
def yy_S_figure : MethodName := ⟨sR_11, "figure", "(II)I"⟩
abbrev bb_P_fewestSwept : ByteArray := prog_5_method_4_code
def yy_P_fewestSwept : MethodName := ⟨sR_10, "fewestSwept", "(I)I"⟩
abbrev bb_P_closedBySweeping : ByteArray := prog_5_method_5_code
def yy_P_closedBySweeping : MethodName := ⟨sR_10, "closedBySweeping", "(I)I"⟩
abbrev bb_S_way : ByteArray := prog_1_method_21_code
def yy_S_way : MethodName := ⟨sR_11, "way", "(III)I"⟩
abbrev bb_P_wayOf : ByteArray := prog_5_method_6_code
def yy_P_wayOf : MethodName := ⟨sR_10, "wayOf", "(III)I"⟩
abbrev bb_P_spreadCosts : ByteArray := prog_5_method_8_code
def yy_P_spreadCosts : MethodName := ⟨sR_10, "spreadCosts", "(I)V"⟩
abbrev bb_P_weight : ByteArray := prog_5_method_7_code
def yy_P_weight : MethodName := ⟨sR_10, "weight", "(I)I"⟩
abbrev bb_P_cheapestBeside : ByteArray := prog_5_method_9_code
def yy_P_cheapestBeside : MethodName := ⟨sR_10, "cheapestBeside", "(I)I"⟩
abbrev bb_P_nextOnWay : ByteArray := prog_5_method_10_code
def yy_P_nextOnWay : MethodName := ⟨sR_10, "nextOnWay", "(I)I"⟩
abbrev bb_S_pacts : ByteArray := prog_1_method_22_code
def yy_S_pacts : MethodName := ⟨sR_11, "pacts", "(II)I"⟩
abbrev bb_P_weighSets : ByteArray := prog_5_method_12_code
def yy_P_weighSets : MethodName := ⟨sR_10, "weighSets", "(I)V"⟩
abbrev bb_P_setCount : ByteArray := prog_5_method_11_code
def yy_P_setCount : MethodName := ⟨sR_10, "setCount", "()I"⟩
abbrev bb_P_sweepAsAgreed : ByteArray := prog_5_method_13_code
def yy_P_sweepAsAgreed : MethodName := ⟨sR_10, "sweepAsAgreed", "(I)V"⟩
abbrev bb_P_addOpen : ByteArray := prog_5_method_14_code
def yy_P_addOpen : MethodName := ⟨sR_10, "addOpen", "(I)V"⟩
abbrev bb_P_spread : ByteArray := prog_5_method_18_code
def yy_P_spread : MethodName := ⟨sR_10, "spread", "()I"⟩
abbrev bb_P_sumOf : ByteArray := prog_5_method_19_code
def yy_P_sumOf : MethodName := ⟨sR_10, "sumOf", "(I)I"⟩
abbrev bb_P_pactCount : ByteArray := prog_5_method_16_code
def yy_P_pactCount : MethodName := ⟨sR_10, "pactCount", "()I"⟩
abbrev bb_P_isPact : ByteArray := prog_5_method_15_code
def yy_P_isPact : MethodName := ⟨sR_10, "isPact", "(I)Z"⟩
abbrev bb_P_leastPact : ByteArray := prog_5_method_17_code
def yy_P_leastPact : MethodName := ⟨sR_10, "leastPact", "()I"⟩
abbrev bb_S_thrownOn : ByteArray := prog_1_method_23_code
def yy_S_thrownOn : MethodName := ⟨sR_11, "thrownOn", "(III)I"⟩
abbrev bb_S_best : ByteArray := prog_1_method_24_code
def yy_S_best : MethodName := ⟨sR_11, "best", "(III)I"⟩
abbrev bb_F_bestSweep : ByteArray := prog_3_method_11_code
def yy_F_bestSweep : MethodName := ⟨sR_9, "bestSweep", "(IIZ)I"⟩
abbrev bb_F_closedBy : ByteArray := prog_3_method_12_code
def yy_F_closedBy : MethodName := ⟨sR_9, "closedBy", "(III)I"⟩
abbrev bb_S_might : ByteArray := prog_1_method_25_code
def yy_S_might : MethodName := ⟨sR_11, "might", "(II)I"⟩
abbrev bb_F_leastStrength : ByteArray := prog_3_method_13_code
def yy_F_leastStrength : MethodName := ⟨sR_9, "leastStrength", "(II)I"⟩
abbrev bb_F_keepsOpen : ByteArray := prog_3_method_14_code
def yy_F_keepsOpen : MethodName := ⟨sR_9, "keepsOpen", "(III)Z"⟩
abbrev bb_S_note : ByteArray := prog_1_method_26_code
def yy_S_note : MethodName := ⟨sR_11, "note", "(III)I"⟩
abbrev bb_Wo_addNote : ByteArray := prog_12_method_4_code
def yy_Wo_addNote : MethodName := ⟨sR_8, "addNote", "(III)I"⟩
abbrev bb_S_ruled : ByteArray := prog_1_method_27_code
def yy_S_ruled : MethodName := ⟨sR_11, "ruled", "(I)I"⟩
abbrev bb_F_judge : ByteArray := prog_3_method_15_code
def yy_F_judge : MethodName := ⟨sR_9, "judge", "(II)V"⟩
abbrev bb_F_agrees : ByteArray := prog_3_method_16_code
def yy_F_agrees : MethodName := ⟨sR_9, "agrees", "(II)Z"⟩
abbrev bb_F_lastNoted : ByteArray := prog_3_method_17_code
def yy_F_lastNoted : MethodName := ⟨sR_9, "lastNoted", "(I)I"⟩
abbrev bb_F_isAsNoted : ByteArray := prog_3_method_18_code
def yy_F_isAsNoted : MethodName := ⟨sR_9, "isAsNoted", "(I)Z"⟩
abbrev bb_F_rightCount : ByteArray := prog_3_method_19_code
def yy_F_rightCount : MethodName := ⟨sR_9, "rightCount", "()I"⟩
abbrev bb_F_firstRight : ByteArray := prog_3_method_20_code
def yy_F_firstRight : MethodName := ⟨sR_9, "firstRight", "()I"⟩
abbrev bb_S_look : ByteArray := prog_1_method_28_code
def yy_S_look : MethodName := ⟨sR_11, "look", "(II)I"⟩
abbrev bb_F_partingStep : ByteArray := prog_3_method_21_code
def yy_F_partingStep : MethodName := ⟨sR_9, "partingStep", "(Z)I"⟩
abbrev bb_F_mostAlike : ByteArray := prog_3_method_22_code
def yy_F_mostAlike : MethodName := ⟨sR_9, "mostAlike", "(I)I"⟩
abbrev bb_S_seed : ByteArray := prog_1_method_29_code
def yy_S_seed : MethodName := ⟨sR_11, "seed", "(I)I"⟩
abbrev bb_S_storms : ByteArray := prog_1_method_30_code
def yy_S_storms : MethodName := ⟨sR_11, "storms", "(IIII)I"⟩
abbrev bb_F_afterStorms : ByteArray := prog_3_method_23_code
def yy_F_afterStorms : MethodName := ⟨sR_9, "afterStorms", "(IIIZ)I"⟩
abbrev bb_F_blow : ByteArray := prog_3_method_24_code
def yy_F_blow : MethodName := ⟨sR_9, "blow", "(I)V"⟩
abbrev bb_F_draw : ByteArray := prog_3_method_25_code
def yy_F_draw : MethodName := ⟨sR_9, "draw", "()I"⟩
abbrev bb_S_count : ByteArray := prog_1_method_31_code
def yy_S_count : MethodName := ⟨sR_11, "count", "(I)I"⟩
abbrev bb_S_image : ByteArray := prog_1_method_32_code
def yy_S_image : MethodName := ⟨sR_11, "image", "(I)I"⟩
abbrev bb_Wo_copyFrom : ByteArray := prog_12_method_3_code
def yy_Wo_copyFrom : MethodName := ⟨sR_8, "copyFrom", "(LSweptSnow$World;)V"⟩
abbrev bb_S_back : ByteArray := prog_1_method_33_code
def yy_S_back : MethodName := ⟨sR_11, "back", "(I)I"⟩
abbrev bb_M_init : ByteArray := prog_14_method_1_code
def yy_M_init : MethodName := ⟨sR_12, "<init>", "()V"⟩
abbrev bb_M_feed : ByteArray := prog_14_method_7_code
def yy_M_feed : MethodName := ⟨sR_12, "feed", "(IIIII)I"⟩
abbrev bb_M_four : ByteArray := prog_14_method_6_code
def yy_M_four : MethodName := ⟨sR_12, "four", "(I)V"⟩
abbrev bb_M_end : ByteArray := prog_14_method_8_code
def yy_M_end : MethodName := ⟨sR_12, "end", "(I)I"⟩
abbrev bb_M_rule : ByteArray := prog_14_method_44_code
def yy_M_rule : MethodName := ⟨sR_12, "rule", "()I"⟩
abbrev bb_M_readsAll : ByteArray := prog_14_method_43_code
def yy_M_readsAll : MethodName := ⟨sR_12, "readsAll", "()Z"⟩
abbrev bb_M_clauseHere : ByteArray := prog_14_method_42_code
def yy_M_clauseHere : MethodName := ⟨sR_12, "clauseHere", "()Z"⟩
abbrev bb_M_see : ByteArray := prog_14_method_10_code
def yy_M_see : MethodName := ⟨sR_12, "see", "()I"⟩
abbrev bb_M_isValleyWord : ByteArray := prog_14_method_41_code
def yy_M_isValleyWord : MethodName := ⟨sR_12, "isValleyWord", "()Z"⟩
abbrev bb_M_isWord : ByteArray := prog_14_method_13_code
def yy_M_isWord : MethodName := ⟨sR_12, "isWord", "(J)Z"⟩
abbrev bb_M_isLetter : ByteArray := prog_14_method_12_code
def yy_M_isLetter : MethodName := ⟨sR_12, "isLetter", "(I)Z"⟩
abbrev bb_M_fails : ByteArray := prog_14_method_9_code
def yy_M_fails : MethodName := ⟨sR_12, "fails", "(II)Z"⟩
abbrev bb_M_valleyLineHere : ByteArray := prog_14_method_40_code
def yy_M_valleyLineHere : MethodName := ⟨sR_12, "valleyLineHere", "(I)Z"⟩
abbrev bb_M_isValleyHere : ByteArray := prog_14_method_33_code
def yy_M_isValleyHere : MethodName := ⟨sR_12, "isValleyHere", "(I)Z"⟩
abbrev bb_M_passWord : ByteArray := prog_14_method_14_code
def yy_M_passWord : MethodName := ⟨sR_12, "passWord", "()V"⟩
abbrev bb_M_cellHere : ByteArray := prog_14_method_32_code
def yy_M_cellHere : MethodName := ⟨sR_12, "cellHere", "(III)Z"⟩
abbrev bb_M_numberHere : ByteArray := prog_14_method_16_code
def yy_M_numberHere : MethodName := ⟨sR_12, "numberHere", "(II)Z"⟩
abbrev bb_M_isDigit : ByteArray := prog_14_method_11_code
def yy_M_isDigit : MethodName := ⟨sR_12, "isDigit", "(I)Z"⟩
abbrev bb_M_in : ByteArray := prog_14_method_2_code
def yy_M_in : MethodName := ⟨sR_12, "in", "(JJJ)Z"⟩
abbrev bb_M_isStepHere : ByteArray := prog_14_method_34_code
def yy_M_isStepHere : MethodName := ⟨sR_12, "isStepHere", "(I)Z"⟩
abbrev bb_M_isHouseHere : ByteArray := prog_14_method_35_code
def yy_M_isHouseHere : MethodName := ⟨sR_12, "isHouseHere", "(I)Z"⟩
abbrev bb_M_isPathHere : ByteArray := prog_14_method_37_code
def yy_M_isPathHere : MethodName := ⟨sR_12, "isPathHere", "()Z"⟩
abbrev bb_M_areStepsHere : ByteArray := prog_14_method_36_code
def yy_M_areStepsHere : MethodName := ⟨sR_12, "areStepsHere", "()Z"⟩
abbrev bb_M_isWallHere : ByteArray := prog_14_method_38_code
def yy_M_isWallHere : MethodName := ⟨sR_12, "isWallHere", "()Z"⟩
abbrev bb_M_isNeedHere : ByteArray := prog_14_method_39_code
def yy_M_isNeedHere : MethodName := ⟨sR_12, "isNeedHere", "()Z"⟩
abbrev bb_M_isSweepHere : ByteArray := prog_14_method_31_code
def yy_M_isSweepHere : MethodName := ⟨sR_12, "isSweepHere", "()Z"⟩
abbrev bb_M_sum : ByteArray := prog_14_method_25_code
def yy_M_sum : MethodName := ⟨sR_12, "sum", "()Z"⟩
abbrev bb_M_term : ByteArray := prog_14_method_24_code
def yy_M_term : MethodName := ⟨sR_12, "term", "()Z"⟩
abbrev bb_M_value : ByteArray := prog_14_method_23_code
def yy_M_value : MethodName := ⟨sR_12, "value", "()Z"⟩
abbrev bb_M_makes : ByteArray := prog_14_method_19_code
def yy_M_makes : MethodName := ⟨sR_12, "makes", "(I)Z"⟩
abbrev bb_M_puts : ByteArray := prog_14_method_18_code
def yy_M_puts : MethodName := ⟨sR_12, "puts", "(II)V"⟩
abbrev bb_M_wordHere : ByteArray := prog_14_method_17_code
def yy_M_wordHere : MethodName := ⟨sR_12, "wordHere", "()I"⟩
abbrev bb_M_takesWord : ByteArray := prog_14_method_15_code
def yy_M_takesWord : MethodName := ⟨sR_12, "takesWord", "(J)Z"⟩
abbrev bb_M_tested : ByteArray := prog_14_method_30_code
def yy_M_tested : MethodName := ⟨sR_12, "tested", "()Z"⟩
abbrev bb_M_fact : ByteArray := prog_14_method_27_code
def yy_M_fact : MethodName := ⟨sR_12, "fact", "()Z"⟩
abbrev bb_M_opens : ByteArray := prog_14_method_20_code
def yy_M_opens : MethodName := ⟨sR_12, "opens", "(I)Z"⟩
abbrev bb_M_compare : ByteArray := prog_14_method_26_code
def yy_M_compare : MethodName := ⟨sR_12, "compare", "()Z"⟩
abbrev bb_M_closes0 : ByteArray := prog_14_method_29_code
def yy_M_closes0 : MethodName := ⟨sR_12, "closes", "()V"⟩
abbrev bb_M_settles : ByteArray := prog_14_method_22_code
def yy_M_settles : MethodName := ⟨sR_12, "settles", "(I)V"⟩
abbrev bb_M_strength : ByteArray := prog_14_method_21_code
def yy_M_strength : MethodName := ⟨sR_12, "strength", "(I)I"⟩
abbrev bb_M_isInside : ByteArray := prog_14_method_28_code
def yy_M_isInside : MethodName := ⟨sR_12, "isInside", "()Z"⟩
abbrev bb_M_valley : ByteArray := prog_14_method_45_code
def yy_M_valley : MethodName := ⟨sR_12, "valley", "()I"⟩
abbrev bb_M_begins : ByteArray := prog_14_method_60_code
def yy_M_begins : MethodName := ⟨sR_12, "begins", "()V"⟩
abbrev bb_M_force : ByteArray := prog_14_method_61_code
def yy_M_force : MethodName := ⟨sR_12, "force", "(I)I"⟩
abbrev bb_M_isRule : ByteArray := prog_14_method_46_code
def yy_M_isRule : MethodName := ⟨sR_12, "isRule", "(I)Z"⟩
abbrev bb_M_step : ByteArray := prog_14_method_62_code
def yy_M_step : MethodName := ⟨sR_12, "step", "(II)I"⟩
abbrev bb_M_isStep : ByteArray := prog_14_method_52_code
def yy_M_isStep : MethodName := ⟨sR_12, "isStep", "(I)Z"⟩
abbrev bb_M_isClosed : ByteArray := prog_14_method_54_code
def yy_M_isClosed : MethodName := ⟨sR_12, "isClosed", "(I)Z"⟩
abbrev bb_M_isOf : ByteArray := prog_14_method_3_code
def yy_M_isOf : MethodName := ⟨sR_12, "isOf", "(II)Z"⟩
abbrev bb_M_neededOn : ByteArray := prog_14_method_57_code
def yy_M_neededOn : MethodName := ⟨sR_12, "neededOn", "(I)I"⟩
abbrev bb_M_house : ByteArray := prog_14_method_63_code
def yy_M_house : MethodName := ⟨sR_12, "house", "(II)I"⟩
abbrev bb_M_isHouse : ByteArray := prog_14_method_53_code
def yy_M_isHouse : MethodName := ⟨sR_12, "isHouse", "(I)Z"⟩
abbrev bb_M_ownOf : ByteArray := prog_14_method_58_code
def yy_M_ownOf : MethodName := ⟨sR_12, "ownOf", "(I)I"⟩
abbrev bb_M_strengthOf : ByteArray := prog_14_method_59_code
def yy_M_strengthOf : MethodName := ⟨sR_12, "strengthOf", "(I)I"⟩
abbrev bb_M_undo : ByteArray := prog_14_method_72_code
def yy_M_undo : MethodName := ⟨sR_12, "undo", "()I"⟩
abbrev bb_M_day : ByteArray := prog_14_method_73_code
def yy_M_day : MethodName := ⟨sR_12, "day", "()I"⟩
abbrev bb_M_isValley : ByteArray := prog_14_method_51_code
def yy_M_isValley : MethodName := ⟨sR_12, "isValley", "()Z"⟩
abbrev bb_M_keepsAct : ByteArray := prog_14_method_71_code
def yy_M_keepsAct : MethodName := ⟨sR_12, "keepsAct", "()V"⟩
abbrev bb_M_passes : ByteArray := prog_14_method_70_code
def yy_M_passes : MethodName := ⟨sR_12, "passes", "()I"⟩
abbrev bb_M_choice : ByteArray := prog_14_method_68_code
def yy_M_choice : MethodName := ⟨sR_12, "choice", "(I)I"⟩
abbrev bb_M_words : ByteArray := prog_14_method_67_code
def yy_M_words : MethodName := ⟨sR_12, "words", "(II)V"⟩
abbrev bb_M_closed : ByteArray := prog_14_method_55_code
def yy_M_closed : MethodName := ⟨sR_12, "closed", "()I"⟩
abbrev bb_M_bits : ByteArray := prog_14_method_4_code
def yy_M_bits : MethodName := ⟨sR_12, "bits", "(I)I"⟩
abbrev bb_M_nextNeed : ByteArray := prog_14_method_66_code
def yy_M_nextNeed : MethodName := ⟨sR_12, "nextNeed", "(I)I"⟩
abbrev bb_M_summedBy : ByteArray := prog_14_method_65_code
def yy_M_summedBy : MethodName := ⟨sR_12, "summedBy", "(I)J"⟩
abbrev bb_M_reckons : ByteArray := prog_14_method_50_code
def yy_M_reckons : MethodName := ⟨sR_12, "reckons", "(III)J"⟩
abbrev bb_M_push : ByteArray := prog_14_method_47_code
def yy_M_push : MethodName := ⟨sR_12, "push", "(J)V"⟩
abbrev bb_M_pop : ByteArray := prog_14_method_48_code
def yy_M_pop : MethodName := ⟨sR_12, "pop", "()J"⟩
abbrev bb_M_one : ByteArray := prog_14_method_49_code
def yy_M_one : MethodName := ⟨sR_12, "one", "(IJJ)J"⟩
abbrev bb_M_takes : ByteArray := prog_14_method_64_code
def yy_M_takes : MethodName := ⟨sR_12, "takes", "(II)I"⟩
abbrev bb_M_held : ByteArray := prog_14_method_5_code
def yy_M_held : MethodName := ⟨sR_12, "held", "(I)I"⟩
abbrev bb_M_snows : ByteArray := prog_14_method_69_code
def yy_M_snows : MethodName := ⟨sR_12, "snows", "()I"⟩
abbrev bb_M_sweep : ByteArray := prog_14_method_75_code
def yy_M_sweep : MethodName := ⟨sR_12, "sweep", "(II)I"⟩
abbrev bb_M_canSweep : ByteArray := prog_14_method_74_code
def yy_M_canSweep : MethodName := ⟨sR_12, "canSweep", "(II)Z"⟩
abbrev bb_M_toss : ByteArray := prog_14_method_76_code
def yy_M_toss : MethodName := ⟨sR_12, "toss", "(II)I"⟩
abbrev bb_M_pull : ByteArray := prog_14_method_77_code
def yy_M_pull : MethodName := ⟨sR_12, "pull", "(I)I"⟩
abbrev bb_M_thaw : ByteArray := prog_14_method_78_code
def yy_M_thaw : MethodName := ⟨sR_12, "thaw", "()I"⟩
abbrev bb_M_snowAll : ByteArray := prog_14_method_56_code
def yy_M_snowAll : MethodName := ⟨sR_12, "snowAll", "()I"⟩
abbrev bb_M_ahead : ByteArray := prog_14_method_81_code
def yy_M_ahead : MethodName := ⟨sR_12, "ahead", "(III)I"⟩
abbrev bb_M_keeps : ByteArray := prog_14_method_79_code
def yy_M_keeps : MethodName := ⟨sR_12, "keeps", "()V"⟩
abbrev bb_M_laysBack : ByteArray := prog_14_method_80_code
def yy_M_laysBack : MethodName := ⟨sR_12, "laysBack", "()V"⟩
abbrev bb_M_stays : ByteArray := prog_14_method_82_code
def yy_M_stays : MethodName := ⟨sR_12, "stays", "(I)I"⟩
abbrev bb_M_closes1 : ByteArray := prog_14_method_83_code
def yy_M_closes1 : MethodName := ⟨sR_12, "closes", "(I)I"⟩
abbrev bb_M_ring : ByteArray := prog_14_method_85_code
def yy_M_ring : MethodName := ⟨sR_12, "ring", "(I)I"⟩
abbrev bb_M_areAlike : ByteArray := prog_14_method_84_code
def yy_M_areAlike : MethodName := ⟨sR_12, "areAlike", "(II)Z"⟩
abbrev bb_M_spare : ByteArray := prog_14_method_87_code
def yy_M_spare : MethodName := ⟨sR_12, "spare", "(III)I"⟩
abbrev bb_M_isSpared : ByteArray := prog_14_method_86_code
def yy_M_isSpared : MethodName := ⟨sR_12, "isSpared", "(III)Z"⟩
abbrev bb_M_figure : ByteArray := prog_14_method_89_code
def yy_M_figure : MethodName := ⟨sR_12, "figure", "(II)I"⟩
abbrev bb_M_closedBy : ByteArray := prog_14_method_88_code
def yy_M_closedBy : MethodName := ⟨sR_12, "closedBy", "(I)I"⟩
abbrev bb_M_way : ByteArray := prog_14_method_93_code
def yy_M_way : MethodName := ⟨sR_12, "way", "(III)I"⟩
abbrev bb_M_fillsPrices : ByteArray := prog_14_method_92_code
def yy_M_fillsPrices : MethodName := ⟨sR_12, "fillsPrices", "(I)V"⟩
abbrev bb_M_priceOf : ByteArray := prog_14_method_90_code
def yy_M_priceOf : MethodName := ⟨sR_12, "priceOf", "(I)I"⟩
abbrev bb_M_nextTo : ByteArray := prog_14_method_91_code
def yy_M_nextTo : MethodName := ⟨sR_12, "nextTo", "(I)I"⟩
abbrev bb_M_pacts : ByteArray := prog_14_method_97_code
def yy_M_pacts : MethodName := ⟨sR_12, "pacts", "(II)I"⟩
abbrev bb_M_fillsPact : ByteArray := prog_14_method_94_code
def yy_M_fillsPact : MethodName := ⟨sR_12, "fillsPact", "(II)V"⟩
abbrev bb_M_allBy : ByteArray := prog_14_method_95_code
def yy_M_allBy : MethodName := ⟨sR_12, "allBy", "(I)I"⟩
abbrev bb_M_isPact : ByteArray := prog_14_method_96_code
def yy_M_isPact : MethodName := ⟨sR_12, "isPact", "(I)Z"⟩
abbrev bb_M_thrownOn : ByteArray := prog_14_method_98_code
def yy_M_thrownOn : MethodName := ⟨sR_12, "thrownOn", "(III)I"⟩
abbrev bb_M_best : ByteArray := prog_14_method_100_code
def yy_M_best : MethodName := ⟨sR_12, "best", "(III)I"⟩
abbrev bb_M_closedIn : ByteArray := prog_14_method_99_code
def yy_M_closedIn : MethodName := ⟨sR_12, "closedIn", "(I)I"⟩
abbrev bb_M_might : ByteArray := prog_14_method_102_code
def yy_M_might : MethodName := ⟨sR_12, "might", "(II)I"⟩
abbrev bb_M_staysOpen : ByteArray := prog_14_method_101_code
def yy_M_staysOpen : MethodName := ⟨sR_12, "staysOpen", "(II)Z"⟩
abbrev bb_M_note : ByteArray := prog_14_method_103_code
def yy_M_note : MethodName := ⟨sR_12, "note", "(III)I"⟩
abbrev bb_M_ruled : ByteArray := prog_14_method_106_code
def yy_M_ruled : MethodName := ⟨sR_12, "ruled", "(I)I"⟩
abbrev bb_M_fillsFits : ByteArray := prog_14_method_105_code
def yy_M_fillsFits : MethodName := ⟨sR_12, "fillsFits", "(I)V"⟩
abbrev bb_M_areNotesSo : ByteArray := prog_14_method_104_code
def yy_M_areNotesSo : MethodName := ⟨sR_12, "areNotesSo", "(I)Z"⟩
abbrev bb_M_look : ByteArray := prog_14_method_108_code
def yy_M_look : MethodName := ⟨sR_12, "look", "(II)I"⟩
abbrev bb_M_alikeAt : ByteArray := prog_14_method_107_code
def yy_M_alikeAt : MethodName := ⟨sR_12, "alikeAt", "(I)I"⟩
abbrev bb_M_seed : ByteArray := prog_14_method_109_code
def yy_M_seed : MethodName := ⟨sR_12, "seed", "(I)I"⟩
abbrev bb_M_storms : ByteArray := prog_14_method_111_code
def yy_M_storms : MethodName := ⟨sR_12, "storms", "(IIII)I"⟩
abbrev bb_M_draw : ByteArray := prog_14_method_110_code
def yy_M_draw : MethodName := ⟨sR_12, "draw", "(I)I"⟩
abbrev bb_M_count : ByteArray := prog_14_method_112_code
def yy_M_count : MethodName := ⟨sR_12, "count", "(I)I"⟩
abbrev bb_M_image : ByteArray := prog_14_method_113_code
def yy_M_image : MethodName := ⟨sR_12, "image", "(I)I"⟩
abbrev bb_M_back : ByteArray := prog_14_method_114_code
def yy_M_back : MethodName := ⟨sR_12, "back", "(I)I"⟩
theorem ka_S_32 : Cond.classLink sR_11 32 ss_n25 ∈ lw_g := (ss_in 216 (by decide +kernel) (by decide +kernel))
theorem ka_S_38 : Cond.classLink sR_11 38 ss_n26 ∈ lw_g := (ss_in 218 (by decide +kernel) (by decide +kernel))
theorem ka_A_11 : Cond.classLink sR_3 11 ss_n24 ∈ lw_g := (ss_in 275 (by decide +kernel) (by decide +kernel))
theorem kc_F_181 : Jvm.Cond.constant sR_9 181 (65536 : Int32) ∈ lw_g := (ss_in 1086 (by decide +kernel) (by decide +kernel))
theorem kc_P_86 : Jvm.Cond.constant sR_10 86 (1000000 : Int32) ∈ lw_g := (ss_in 926 (by decide +kernel) (by decide +kernel))
theorem kc_M_172 : Jvm.Cond.constant sR_12 172 (99999 : Int32) ∈ lw_g := (ss_in 1351 (by decide +kernel) (by decide +kernel))
theorem kc_JI_265 : Jvm.Cond.constant "java/lang/Integer" 265 (1431655765 : Int32) ∈ lw_g := (ss_in 757 (by decide +kernel) (by decide +kernel))
theorem kc_JI_266 : Jvm.Cond.constant "java/lang/Integer" 266 (858993459 : Int32) ∈ lw_g := (ss_in 758 (by decide +kernel) (by decide +kernel))
theorem kc_JI_267 : Jvm.Cond.constant "java/lang/Integer" 267 (252645135 : Int32) ∈ lw_g := (ss_in 759 (by decide +kernel) (by decide +kernel))
theorem kf_S_10 : ss_fl sR_11 10 11 1 := ⟨_, _, _, rfl, by decide, (ss_in 374 (by decide +kernel) (by decide +kernel)), si_11⟩
theorem kf_S_21 : ss_fl sR_11 21 11 2 := ⟨_, _, _, rfl, by decide, (ss_in 375 (by decide +kernel) (by decide +kernel)), si_11⟩
theorem kf_S_28 : ss_fl sR_11 28 11 3 := ⟨_, _, _, rfl, by decide, (ss_in 376 (by decide +kernel) (by decide +kernel)), si_11⟩
theorem kf_S_34 : ss_fl sR_11 34 11 4 := ⟨_, _, _, rfl, by decide, (ss_in 377 (by decide +kernel) (by decide +kernel)), si_11⟩
theorem kf_S_41 : ss_fl sR_11 41 11 5 := ⟨_, _, _, rfl, by decide, (ss_in 379 (by decide +kernel) (by decide +kernel)), si_11⟩
theorem kf_S_45 : ss_fl sR_11 45 11 6 := ⟨_, _, _, rfl, by decide, (ss_in 380 (by decide +kernel) (by decide +kernel)), si_11⟩
theorem kf_S_52 : ss_fl sR_11 52 11 7 := ⟨_, _, _, rfl, by decide, (ss_in 381 (by decide +kernel) (by decide +kernel)), si_11⟩
theorem kf_S_58 : ss_fl sR_11 58 8 3 := ⟨_, _, _, rfl, by decide, (ss_in 229 (by decide +kernel) (by decide +kernel)), si_8⟩
theorem kf_S_65 : ss_fl sR_11 65 11 8 := ⟨_, _, _, rfl, by decide, (ss_in 382 (by decide +kernel) (by decide +kernel)), si_11⟩
theorem kf_S_74 : ss_fl sR_11 74 11 9 := ⟨_, _, _, rfl, by decide, (ss_in 383 (by decide +kernel) (by decide +kernel)), si_11⟩
theorem kf_S_83 : ss_fl sR_11 83 11 10 := ⟨_, _, _, rfl, by decide, (ss_in 384 (by decide +kernel) (by decide +kernel)), si_11⟩
theorem kf_S_87 : ss_fl sR_11 87 2 0 := ⟨_, _, _, rfl, by decide, (ss_in 36 (by decide +kernel) (by decide +kernel)), si_2⟩
theorem kf_S_99 : ss_fl sR_11 99 2 1 := ⟨_, _, _, rfl, by decide, (ss_in 39 (by decide +kernel) (by decide +kernel)), si_2⟩
theorem kf_S_108 : ss_fl sR_11 108 5 3 := ⟨_, _, _, rfl, by decide, (ss_in 131 (by decide +kernel) (by decide +kernel)), si_5⟩
theorem kf_S_113 : ss_fl sR_11 113 11 0 := ⟨_, _, _, rfl, by decide, (ss_in 378 (by decide +kernel) (by decide +kernel)), si_11⟩
theorem kf_S_120 : ss_fl sR_11 120 8 0 := ⟨_, _, _, rfl, by decide, (ss_in 238 (by decide +kernel) (by decide +kernel)), si_8⟩
theorem kf_S_127 : ss_fl sR_11 127 8 4 := ⟨_, _, _, rfl, by decide, (ss_in 235 (by decide +kernel) (by decide +kernel)), si_8⟩
theorem kf_S_131 : ss_fl sR_11 131 0 4 := ⟨_, _, _, rfl, by decide, (ss_in 81 (by decide +kernel) (by decide +kernel)), si_0⟩
theorem kf_S_141 : ss_fl sR_11 141 0 0 := ⟨_, _, _, rfl, by decide, (ss_in 90 (by decide +kernel) (by decide +kernel)), si_0⟩
theorem kf_S_144 : ss_fl sR_11 144 0 5 := ⟨_, _, _, rfl, by decide, (ss_in 85 (by decide +kernel) (by decide +kernel)), si_0⟩
theorem kf_S_147 : ss_fl sR_11 147 5 7 := ⟨_, _, _, rfl, by decide, (ss_in 150 (by decide +kernel) (by decide +kernel)), si_5⟩
theorem kf_S_150 : ss_fl sR_11 150 0 3 := ⟨_, _, _, rfl, by decide, (ss_in 99 (by decide +kernel) (by decide +kernel)), si_0⟩
theorem kf_S_160 : ss_fl sR_11 160 5 5 := ⟨_, _, _, rfl, by decide, (ss_in 141 (by decide +kernel) (by decide +kernel)), si_5⟩
theorem kf_S_163 : ss_fl sR_11 163 5 6 := ⟨_, _, _, rfl, by decide, (ss_in 147 (by decide +kernel) (by decide +kernel)), si_5⟩
theorem kf_S_166 : ss_fl sR_11 166 0 2 := ⟨_, _, _, rfl, by decide, (ss_in 95 (by decide +kernel) (by decide +kernel)), si_0⟩
theorem kf_S_169 : ss_fl sR_11 169 5 0 := ⟨_, _, _, rfl, by decide, (ss_in 116 (by decide +kernel) (by decide +kernel)), si_5⟩
theorem kf_S_183 : ss_fl sR_11 183 7 0 := ⟨_, _, _, rfl, by decide, (ss_in 299 (by decide +kernel) (by decide +kernel)), si_7⟩
theorem kf_S_258 : ss_fl sR_11 258 7 2 := ⟨_, _, _, rfl, by decide, (ss_in 304 (by decide +kernel) (by decide +kernel)), si_7⟩
theorem kf_S_261 : ss_fl sR_11 261 7 3 := ⟨_, _, _, rfl, by decide, (ss_in 306 (by decide +kernel) (by decide +kernel)), si_7⟩
theorem kf_S_271 : ss_fl sR_11 271 8 2 := ⟨_, _, _, rfl, by decide, (ss_in 244 (by decide +kernel) (by decide +kernel)), si_8⟩
theorem kf_S_289 : ss_fl sR_11 289 8 1 := ⟨_, _, _, rfl, by decide, (ss_in 241 (by decide +kernel) (by decide +kernel)), si_8⟩
theorem kf_S_296 : ss_fl sR_11 296 5 1 := ⟨_, _, _, rfl, by decide, (ss_in 122 (by decide +kernel) (by decide +kernel)), si_5⟩
theorem kf_S_299 : ss_fl sR_11 299 5 2 := ⟨_, _, _, rfl, by decide, (ss_in 127 (by decide +kernel) (by decide +kernel)), si_5⟩
theorem kf_S_302 : ss_fl sR_11 302 5 4 := ⟨_, _, _, rfl, by decide, (ss_in 138 (by decide +kernel) (by decide +kernel)), si_5⟩
theorem kf_S_305 : ss_fl sR_11 305 3 1 := ⟨_, _, _, rfl, by decide, (ss_in 281 (by decide +kernel) (by decide +kernel)), si_3⟩
theorem kf_A_13 : ss_fl sR_3 13 3 2 := ⟨_, _, _, rfl, by decide, (ss_in 278 (by decide +kernel) (by decide +kernel)), si_3⟩
theorem kf_A_18 : ss_fl sR_3 18 3 0 := ⟨_, _, _, rfl, by decide, (ss_in 279 (by decide +kernel) (by decide +kernel)), si_3⟩
theorem kf_A_26 : ss_fl sR_3 26 3 1 := ⟨_, _, _, rfl, by decide, (ss_in 280 (by decide +kernel) (by decide +kernel)), si_3⟩
theorem kf_F_11 : ss_fl sR_9 11 9 3 := ⟨_, _, _, rfl, by decide, (ss_in 338 (by decide +kernel) (by decide +kernel)), si_9⟩
theorem kf_F_15 : ss_fl sR_9 15 9 4 := ⟨_, _, _, rfl, by decide, (ss_in 339 (by decide +kernel) (by decide +kernel)), si_9⟩
theorem kf_F_19 : ss_fl sR_9 19 9 0 := ⟨_, _, _, rfl, by decide, (ss_in 335 (by decide +kernel) (by decide +kernel)), si_9⟩
theorem kf_F_23 : ss_fl sR_9 23 9 1 := ⟨_, _, _, rfl, by decide, (ss_in 336 (by decide +kernel) (by decide +kernel)), si_9⟩
theorem kf_F_27 : ss_fl sR_9 27 9 2 := ⟨_, _, _, rfl, by decide, (ss_in 337 (by decide +kernel) (by decide +kernel)), si_9⟩
theorem kf_F_31 : ss_fl sR_9 31 8 0 := ⟨_, _, _, rfl, by decide, (ss_in 237 (by decide +kernel) (by decide +kernel)), si_8⟩
theorem kf_F_41 : ss_fl sR_9 41 8 4 := ⟨_, _, _, rfl, by decide, (ss_in 234 (by decide +kernel) (by decide +kernel)), si_8⟩
theorem kf_F_62 : ss_fl sR_9 62 7 0 := ⟨_, _, _, rfl, by decide, (ss_in 298 (by decide +kernel) (by decide +kernel)), si_7⟩
theorem kf_F_63 : ss_fl sR_9 63 0 4 := ⟨_, _, _, rfl, by decide, (ss_in 78 (by decide +kernel) (by decide +kernel)), si_0⟩
theorem kf_F_77 : ss_fl sR_9 77 8 3 := ⟨_, _, _, rfl, by decide, (ss_in 231 (by decide +kernel) (by decide +kernel)), si_8⟩
theorem kf_F_81 : ss_fl sR_9 81 5 3 := ⟨_, _, _, rfl, by decide, (ss_in 133 (by decide +kernel) (by decide +kernel)), si_5⟩
theorem kf_F_86 : ss_fl sR_9 86 0 3 := ⟨_, _, _, rfl, by decide, (ss_in 100 (by decide +kernel) (by decide +kernel)), si_0⟩
theorem kf_F_111 : ss_fl sR_9 111 7 1 := ⟨_, _, _, rfl, by decide, (ss_in 302 (by decide +kernel) (by decide +kernel)), si_7⟩
theorem kf_F_114 : ss_fl sR_9 114 5 5 := ⟨_, _, _, rfl, by decide, (ss_in 144 (by decide +kernel) (by decide +kernel)), si_5⟩
theorem kf_F_117 : ss_fl sR_9 117 5 2 := ⟨_, _, _, rfl, by decide, (ss_in 126 (by decide +kernel) (by decide +kernel)), si_5⟩
theorem kf_F_123 : ss_fl sR_9 123 5 9 := ⟨_, _, _, rfl, by decide, (ss_in 159 (by decide +kernel) (by decide +kernel)), si_5⟩
theorem kf_F_133 : ss_fl sR_9 133 8 2 := ⟨_, _, _, rfl, by decide, (ss_in 243 (by decide +kernel) (by decide +kernel)), si_8⟩
theorem kf_F_136 : ss_fl sR_9 136 8 5 := ⟨_, _, _, rfl, by decide, (ss_in 246 (by decide +kernel) (by decide +kernel)), si_8⟩
theorem kf_F_144 : ss_fl sR_9 144 8 6 := ⟨_, _, _, rfl, by decide, (ss_in 248 (by decide +kernel) (by decide +kernel)), si_8⟩
theorem kf_F_147 : ss_fl sR_9 147 8 7 := ⟨_, _, _, rfl, by decide, (ss_in 250 (by decide +kernel) (by decide +kernel)), si_8⟩
theorem kf_F_156 : ss_fl sR_9 156 8 1 := ⟨_, _, _, rfl, by decide, (ss_in 240 (by decide +kernel) (by decide +kernel)), si_8⟩
theorem kf_F_168 : ss_fl sR_9 168 5 1 := ⟨_, _, _, rfl, by decide, (ss_in 121 (by decide +kernel) (by decide +kernel)), si_5⟩
theorem kf_G_9 : ss_fl sR_0 9 0 4 := ⟨_, _, _, rfl, by decide, (ss_in 75 (by decide +kernel) (by decide +kernel)), si_0⟩
theorem kf_G_15 : ss_fl sR_0 15 0 5 := ⟨_, _, _, rfl, by decide, (ss_in 82 (by decide +kernel) (by decide +kernel)), si_0⟩
theorem kf_G_24 : ss_fl sR_0 24 0 0 := ⟨_, _, _, rfl, by decide, (ss_in 87 (by decide +kernel) (by decide +kernel)), si_0⟩
theorem kf_G_28 : ss_fl sR_0 28 0 1 := ⟨_, _, _, rfl, by decide, (ss_in 91 (by decide +kernel) (by decide +kernel)), si_0⟩
theorem kf_G_31 : ss_fl sR_0 31 0 2 := ⟨_, _, _, rfl, by decide, (ss_in 93 (by decide +kernel) (by decide +kernel)), si_0⟩
theorem kf_G_34 : ss_fl sR_0 34 0 3 := ⟨_, _, _, rfl, by decide, (ss_in 96 (by decide +kernel) (by decide +kernel)), si_0⟩
theorem kf_P_9 : ss_fl sR_10 9 10 2 := ⟨_, _, _, rfl, by decide, (ss_in 360 (by decide +kernel) (by decide +kernel)), si_10⟩
theorem kf_P_15 : ss_fl sR_10 15 10 3 := ⟨_, _, _, rfl, by decide, (ss_in 361 (by decide +kernel) (by decide +kernel)), si_10⟩
theorem kf_P_18 : ss_fl sR_10 18 10 4 := ⟨_, _, _, rfl, by decide, (ss_in 362 (by decide +kernel) (by decide +kernel)), si_10⟩
theorem kf_P_21 : ss_fl sR_10 21 10 0 := ⟨_, _, _, rfl, by decide, (ss_in 358 (by decide +kernel) (by decide +kernel)), si_10⟩
theorem kf_P_25 : ss_fl sR_10 25 10 1 := ⟨_, _, _, rfl, by decide, (ss_in 359 (by decide +kernel) (by decide +kernel)), si_10⟩
theorem kf_P_39 : ss_fl sR_10 39 8 4 := ⟨_, _, _, rfl, by decide, (ss_in 233 (by decide +kernel) (by decide +kernel)), si_8⟩
theorem kf_P_45 : ss_fl sR_10 45 0 4 := ⟨_, _, _, rfl, by decide, (ss_in 76 (by decide +kernel) (by decide +kernel)), si_0⟩
theorem kf_P_50 : ss_fl sR_10 50 8 3 := ⟨_, _, _, rfl, by decide, (ss_in 230 (by decide +kernel) (by decide +kernel)), si_8⟩
theorem kf_P_54 : ss_fl sR_10 54 5 2 := ⟨_, _, _, rfl, by decide, (ss_in 124 (by decide +kernel) (by decide +kernel)), si_5⟩
theorem kf_P_60 : ss_fl sR_10 60 0 3 := ⟨_, _, _, rfl, by decide, (ss_in 97 (by decide +kernel) (by decide +kernel)), si_0⟩
theorem kf_P_67 : ss_fl sR_10 67 5 1 := ⟨_, _, _, rfl, by decide, (ss_in 118 (by decide +kernel) (by decide +kernel)), si_5⟩
theorem kf_P_70 : ss_fl sR_10 70 5 3 := ⟨_, _, _, rfl, by decide, (ss_in 129 (by decide +kernel) (by decide +kernel)), si_5⟩
theorem kf_P_76 : ss_fl sR_10 76 0 5 := ⟨_, _, _, rfl, by decide, (ss_in 84 (by decide +kernel) (by decide +kernel)), si_0⟩
theorem kf_P_79 : ss_fl sR_10 79 0 0 := ⟨_, _, _, rfl, by decide, (ss_in 89 (by decide +kernel) (by decide +kernel)), si_0⟩
theorem kf_P_106 : ss_fl sR_10 106 5 7 := ⟨_, _, _, rfl, by decide, (ss_in 152 (by decide +kernel) (by decide +kernel)), si_5⟩
theorem kf_P_109 : ss_fl sR_10 109 5 4 := ⟨_, _, _, rfl, by decide, (ss_in 137 (by decide +kernel) (by decide +kernel)), si_5⟩
theorem kf_P_130 : ss_fl sR_10 130 5 5 := ⟨_, _, _, rfl, by decide, (ss_in 143 (by decide +kernel) (by decide +kernel)), si_5⟩
theorem kf_P_133 : ss_fl sR_10 133 7 0 := ⟨_, _, _, rfl, by decide, (ss_in 300 (by decide +kernel) (by decide +kernel)), si_7⟩
theorem kf_Ru_7 : ss_fl sR_1 7 1 1 := ⟨_, _, _, rfl, by decide, (ss_in 665 (by decide +kernel) (by decide +kernel)), si_1⟩
theorem kf_Ru_13 : ss_fl sR_1 13 1 2 := ⟨_, _, _, rfl, by decide, (ss_in 666 (by decide +kernel) (by decide +kernel)), si_1⟩
theorem kf_Ru_16 : ss_fl sR_1 16 1 0 := ⟨_, _, _, rfl, by decide, (ss_in 667 (by decide +kernel) (by decide +kernel)), si_1⟩
theorem kf_RR_11 : ss_fl sR_4 11 4 4 := ⟨_, _, _, rfl, by decide, (ss_in 198 (by decide +kernel) (by decide +kernel)), si_4⟩
theorem kf_RR_17 : ss_fl sR_4 17 4 5 := ⟨_, _, _, rfl, by decide, (ss_in 199 (by decide +kernel) (by decide +kernel)), si_4⟩
theorem kf_RR_20 : ss_fl sR_4 20 4 3 := ⟨_, _, _, rfl, by decide, (ss_in 197 (by decide +kernel) (by decide +kernel)), si_4⟩
theorem kf_RR_24 : ss_fl sR_4 24 4 0 := ⟨_, _, _, rfl, by decide, (ss_in 200 (by decide +kernel) (by decide +kernel)), si_4⟩
theorem kf_RR_28 : ss_fl sR_4 28 4 1 := ⟨_, _, _, rfl, by decide, (ss_in 201 (by decide +kernel) (by decide +kernel)), si_4⟩
theorem kf_RR_31 : ss_fl sR_4 31 4 2 := ⟨_, _, _, rfl, by decide, (ss_in 202 (by decide +kernel) (by decide +kernel)), si_4⟩
theorem kf_T_11 : ss_fl sR_2 11 2 5 := ⟨_, _, _, rfl, by decide, (ss_in 35 (by decide +kernel) (by decide +kernel)), si_2⟩
theorem kf_T_15 : ss_fl sR_2 15 2 0 := ⟨_, _, _, rfl, by decide, (ss_in 37 (by decide +kernel) (by decide +kernel)), si_2⟩
theorem kf_T_19 : ss_fl sR_2 19 2 1 := ⟨_, _, _, rfl, by decide, (ss_in 38 (by decide +kernel) (by decide +kernel)), si_2⟩
theorem kf_T_22 : ss_fl sR_2 22 2 4 := ⟨_, _, _, rfl, by decide, (ss_in 42 (by decide +kernel) (by decide +kernel)), si_2⟩
theorem kf_T_28 : ss_fl sR_2 28 2 3 := ⟨_, _, _, rfl, by decide, (ss_in 41 (by decide +kernel) (by decide +kernel)), si_2⟩
theorem kf_T_31 : ss_fl sR_2 31 2 2 := ⟨_, _, _, rfl, by decide, (ss_in 40 (by decide +kernel) (by decide +kernel)), si_2⟩
theorem kf_V_9 : ss_fl sR_5 9 5 5 := ⟨_, _, _, rfl, by decide, (ss_in 139 (by decide +kernel) (by decide +kernel)), si_5⟩
theorem kf_V_15 : ss_fl sR_5 15 5 6 := ⟨_, _, _, rfl, by decide, (ss_in 145 (by decide +kernel) (by decide +kernel)), si_5⟩
theorem kf_V_18 : ss_fl sR_5 18 5 7 := ⟨_, _, _, rfl, by decide, (ss_in 149 (by decide +kernel) (by decide +kernel)), si_5⟩
theorem kf_V_21 : ss_fl sR_5 21 5 8 := ⟨_, _, _, rfl, by decide, (ss_in 154 (by decide +kernel) (by decide +kernel)), si_5⟩
theorem kf_V_27 : ss_fl sR_5 27 5 9 := ⟨_, _, _, rfl, by decide, (ss_in 156 (by decide +kernel) (by decide +kernel)), si_5⟩
theorem kf_V_31 : ss_fl sR_5 31 5 0 := ⟨_, _, _, rfl, by decide, (ss_in 114 (by decide +kernel) (by decide +kernel)), si_5⟩
theorem kf_V_35 : ss_fl sR_5 35 5 1 := ⟨_, _, _, rfl, by decide, (ss_in 117 (by decide +kernel) (by decide +kernel)), si_5⟩
theorem kf_V_39 : ss_fl sR_5 39 5 2 := ⟨_, _, _, rfl, by decide, (ss_in 123 (by decide +kernel) (by decide +kernel)), si_5⟩
theorem kf_V_42 : ss_fl sR_5 42 5 3 := ⟨_, _, _, rfl, by decide, (ss_in 128 (by decide +kernel) (by decide +kernel)), si_5⟩
theorem kf_V_45 : ss_fl sR_5 45 5 4 := ⟨_, _, _, rfl, by decide, (ss_in 134 (by decide +kernel) (by decide +kernel)), si_5⟩
theorem kf_V_68 : ss_fl sR_5 68 0 4 := ⟨_, _, _, rfl, by decide, (ss_in 79 (by decide +kernel) (by decide +kernel)), si_0⟩
theorem kf_VR_12 : ss_fl sR_6 12 6 1 := ⟨_, _, _, rfl, by decide, (ss_in 182 (by decide +kernel) (by decide +kernel)), si_6⟩
theorem kf_VR_18 : ss_fl sR_6 18 6 2 := ⟨_, _, _, rfl, by decide, (ss_in 183 (by decide +kernel) (by decide +kernel)), si_6⟩
theorem kf_VR_21 : ss_fl sR_6 21 6 0 := ⟨_, _, _, rfl, by decide, (ss_in 181 (by decide +kernel) (by decide +kernel)), si_6⟩
theorem kf_VR_82 : ss_fl sR_6 82 5 3 := ⟨_, _, _, rfl, by decide, (ss_in 130 (by decide +kernel) (by decide +kernel)), si_5⟩
theorem kf_VR_86 : ss_fl sR_6 86 5 4 := ⟨_, _, _, rfl, by decide, (ss_in 135 (by decide +kernel) (by decide +kernel)), si_5⟩
theorem kf_VR_99 : ss_fl sR_6 99 5 9 := ⟨_, _, _, rfl, by decide, (ss_in 158 (by decide +kernel) (by decide +kernel)), si_5⟩
theorem kf_VR_103 : ss_fl sR_6 103 0 4 := ⟨_, _, _, rfl, by decide, (ss_in 80 (by decide +kernel) (by decide +kernel)), si_0⟩
theorem kf_VR_113 : ss_fl sR_6 113 5 5 := ⟨_, _, _, rfl, by decide, (ss_in 142 (by decide +kernel) (by decide +kernel)), si_5⟩
theorem kf_VR_116 : ss_fl sR_6 116 5 6 := ⟨_, _, _, rfl, by decide, (ss_in 148 (by decide +kernel) (by decide +kernel)), si_5⟩
theorem kf_VR_119 : ss_fl sR_6 119 5 7 := ⟨_, _, _, rfl, by decide, (ss_in 153 (by decide +kernel) (by decide +kernel)), si_5⟩
theorem kf_VR_122 : ss_fl sR_6 122 0 5 := ⟨_, _, _, rfl, by decide, (ss_in 86 (by decide +kernel) (by decide +kernel)), si_0⟩
theorem kf_VR_125 : ss_fl sR_6 125 5 8 := ⟨_, _, _, rfl, by decide, (ss_in 155 (by decide +kernel) (by decide +kernel)), si_5⟩
theorem kf_Wi_12 : ss_fl sR_7 12 7 0 := ⟨_, _, _, rfl, by decide, (ss_in 297 (by decide +kernel) (by decide +kernel)), si_7⟩
theorem kf_Wi_18 : ss_fl sR_7 18 7 1 := ⟨_, _, _, rfl, by decide, (ss_in 301 (by decide +kernel) (by decide +kernel)), si_7⟩
theorem kf_Wi_22 : ss_fl sR_7 22 7 2 := ⟨_, _, _, rfl, by decide, (ss_in 303 (by decide +kernel) (by decide +kernel)), si_7⟩
theorem kf_Wi_25 : ss_fl sR_7 25 7 3 := ⟨_, _, _, rfl, by decide, (ss_in 305 (by decide +kernel) (by decide +kernel)), si_7⟩
theorem kf_Wi_30 : ss_fl sR_7 30 7 4 := ⟨_, _, _, rfl, by decide, (ss_in 307 (by decide +kernel) (by decide +kernel)), si_7⟩
theorem kf_Wi_34 : ss_fl sR_7 34 7 5 := ⟨_, _, _, rfl, by decide, (ss_in 308 (by decide +kernel) (by decide +kernel)), si_7⟩
theorem kf_Wi_37 : ss_fl sR_7 37 7 6 := ⟨_, _, _, rfl, by decide, (ss_in 309 (by decide +kernel) (by decide +kernel)), si_7⟩
theorem kf_Wi_41 : ss_fl sR_7 41 7 7 := ⟨_, _, _, rfl, by decide, (ss_in 310 (by decide +kernel) (by decide +kernel)), si_7⟩
theorem kf_Wi_49 : ss_fl sR_7 49 5 6 := ⟨_, _, _, rfl, by decide, (ss_in 146 (by decide +kernel) (by decide +kernel)), si_5⟩
theorem kf_Wi_62 : ss_fl sR_7 62 0 4 := ⟨_, _, _, rfl, by decide, (ss_in 77 (by decide +kernel) (by decide +kernel)), si_0⟩
theorem kf_Wi_71 : ss_fl sR_7 71 0 0 := ⟨_, _, _, rfl, by decide, (ss_in 88 (by decide +kernel) (by decide +kernel)), si_0⟩
theorem kf_Wi_75 : ss_fl sR_7 75 0 2 := ⟨_, _, _, rfl, by decide, (ss_in 94 (by decide +kernel) (by decide +kernel)), si_0⟩
theorem kf_Wi_78 : ss_fl sR_7 78 0 5 := ⟨_, _, _, rfl, by decide, (ss_in 83 (by decide +kernel) (by decide +kernel)), si_0⟩
theorem kf_Wi_85 : ss_fl sR_7 85 5 4 := ⟨_, _, _, rfl, by decide, (ss_in 136 (by decide +kernel) (by decide +kernel)), si_5⟩
theorem kf_Wi_99 : ss_fl sR_7 99 5 3 := ⟨_, _, _, rfl, by decide, (ss_in 132 (by decide +kernel) (by decide +kernel)), si_5⟩
theorem kf_Wi_102 : ss_fl sR_7 102 5 1 := ⟨_, _, _, rfl, by decide, (ss_in 120 (by decide +kernel) (by decide +kernel)), si_5⟩
theorem kf_Wi_105 : ss_fl sR_7 105 0 1 := ⟨_, _, _, rfl, by decide, (ss_in 92 (by decide +kernel) (by decide +kernel)), si_0⟩
theorem kf_Wi_108 : ss_fl sR_7 108 0 3 := ⟨_, _, _, rfl, by decide, (ss_in 98 (by decide +kernel) (by decide +kernel)), si_0⟩
theorem kf_Wi_113 : ss_fl sR_7 113 5 5 := ⟨_, _, _, rfl, by decide, (ss_in 140 (by decide +kernel) (by decide +kernel)), si_5⟩
theorem kf_Wi_136 : ss_fl sR_7 136 5 7 := ⟨_, _, _, rfl, by decide, (ss_in 151 (by decide +kernel) (by decide +kernel)), si_5⟩
theorem kf_Wo_12 : ss_fl sR_8 12 8 3 := ⟨_, _, _, rfl, by decide, (ss_in 228 (by decide +kernel) (by decide +kernel)), si_8⟩
theorem kf_Wo_21 : ss_fl sR_8 21 8 4 := ⟨_, _, _, rfl, by decide, (ss_in 232 (by decide +kernel) (by decide +kernel)), si_8⟩
theorem kf_Wo_25 : ss_fl sR_8 25 8 0 := ⟨_, _, _, rfl, by decide, (ss_in 236 (by decide +kernel) (by decide +kernel)), si_8⟩
theorem kf_Wo_29 : ss_fl sR_8 29 8 5 := ⟨_, _, _, rfl, by decide, (ss_in 245 (by decide +kernel) (by decide +kernel)), si_8⟩
theorem kf_Wo_33 : ss_fl sR_8 33 8 6 := ⟨_, _, _, rfl, by decide, (ss_in 247 (by decide +kernel) (by decide +kernel)), si_8⟩
theorem kf_Wo_36 : ss_fl sR_8 36 8 7 := ⟨_, _, _, rfl, by decide, (ss_in 249 (by decide +kernel) (by decide +kernel)), si_8⟩
theorem kf_Wo_43 : ss_fl sR_8 43 5 9 := ⟨_, _, _, rfl, by decide, (ss_in 157 (by decide +kernel) (by decide +kernel)), si_5⟩
theorem kf_Wo_49 : ss_fl sR_8 49 8 2 := ⟨_, _, _, rfl, by decide, (ss_in 242 (by decide +kernel) (by decide +kernel)), si_8⟩
theorem kf_Wo_52 : ss_fl sR_8 52 8 1 := ⟨_, _, _, rfl, by decide, (ss_in 239 (by decide +kernel) (by decide +kernel)), si_8⟩
theorem kf_M_7 : ss_fl sR_12 7 12 17 := ⟨_, _, _, rfl, by decide, (ss_in 1112 (by decide +kernel) (by decide +kernel)), si_12⟩
theorem kf_M_13 : ss_fl sR_12 13 12 18 := ⟨_, _, _, rfl, by decide, (ss_in 1115 (by decide +kernel) (by decide +kernel)), si_12⟩
theorem kf_M_17 : ss_fl sR_12 17 12 19 := ⟨_, _, _, rfl, by decide, (ss_in 1116 (by decide +kernel) (by decide +kernel)), si_12⟩
theorem kf_M_20 : ss_fl sR_12 20 12 20 := ⟨_, _, _, rfl, by decide, (ss_in 1117 (by decide +kernel) (by decide +kernel)), si_12⟩
theorem kf_M_23 : ss_fl sR_12 23 12 21 := ⟨_, _, _, rfl, by decide, (ss_in 1118 (by decide +kernel) (by decide +kernel)), si_12⟩
theorem kf_M_26 : ss_fl sR_12 26 12 22 := ⟨_, _, _, rfl, by decide, (ss_in 1119 (by decide +kernel) (by decide +kernel)), si_12⟩
theorem kf_M_29 : ss_fl sR_12 29 12 23 := ⟨_, _, _, rfl, by decide, (ss_in 1127 (by decide +kernel) (by decide +kernel)), si_12⟩
theorem kf_M_32 : ss_fl sR_12 32 12 24 := ⟨_, _, _, rfl, by decide, (ss_in 1131 (by decide +kernel) (by decide +kernel)), si_12⟩
theorem kf_M_36 : ss_fl sR_12 36 12 25 := ⟨_, _, _, rfl, by decide, (ss_in 1133 (by decide +kernel) (by decide +kernel)), si_12⟩
theorem kf_M_39 : ss_fl sR_12 39 12 26 := ⟨_, _, _, rfl, by decide, (ss_in 1134 (by decide +kernel) (by decide +kernel)), si_12⟩
theorem kf_M_42 : ss_fl sR_12 42 12 13 := ⟨_, _, _, rfl, by decide, (ss_in 1135 (by decide +kernel) (by decide +kernel)), si_12⟩
theorem kf_M_46 : ss_fl sR_12 46 12 27 := ⟨_, _, _, rfl, by decide, (ss_in 1137 (by decide +kernel) (by decide +kernel)), si_12⟩
theorem kf_M_49 : ss_fl sR_12 49 12 28 := ⟨_, _, _, rfl, by decide, (ss_in 1138 (by decide +kernel) (by decide +kernel)), si_12⟩
theorem kf_M_52 : ss_fl sR_12 52 12 29 := ⟨_, _, _, rfl, by decide, (ss_in 1139 (by decide +kernel) (by decide +kernel)), si_12⟩
theorem kf_M_55 : ss_fl sR_12 55 12 30 := ⟨_, _, _, rfl, by decide, (ss_in 1141 (by decide +kernel) (by decide +kernel)), si_12⟩
theorem kf_M_58 : ss_fl sR_12 58 12 31 := ⟨_, _, _, rfl, by decide, (ss_in 1142 (by decide +kernel) (by decide +kernel)), si_12⟩
theorem kf_M_61 : ss_fl sR_12 61 12 32 := ⟨_, _, _, rfl, by decide, (ss_in 1143 (by decide +kernel) (by decide +kernel)), si_12⟩
theorem kf_M_64 : ss_fl sR_12 64 12 33 := ⟨_, _, _, rfl, by decide, (ss_in 1144 (by decide +kernel) (by decide +kernel)), si_12⟩
theorem kf_M_67 : ss_fl sR_12 67 12 34 := ⟨_, _, _, rfl, by decide, (ss_in 1145 (by decide +kernel) (by decide +kernel)), si_12⟩
theorem kf_M_71 : ss_fl sR_12 71 12 35 := ⟨_, _, _, rfl, by decide, (ss_in 1146 (by decide +kernel) (by decide +kernel)), si_12⟩
theorem kf_M_74 : ss_fl sR_12 74 12 36 := ⟨_, _, _, rfl, by decide, (ss_in 1148 (by decide +kernel) (by decide +kernel)), si_12⟩
theorem kf_M_77 : ss_fl sR_12 77 12 37 := ⟨_, _, _, rfl, by decide, (ss_in 1149 (by decide +kernel) (by decide +kernel)), si_12⟩
theorem kf_M_80 : ss_fl sR_12 80 12 38 := ⟨_, _, _, rfl, by decide, (ss_in 1150 (by decide +kernel) (by decide +kernel)), si_12⟩
theorem kf_M_83 : ss_fl sR_12 83 12 39 := ⟨_, _, _, rfl, by decide, (ss_in 1151 (by decide +kernel) (by decide +kernel)), si_12⟩
theorem kf_M_86 : ss_fl sR_12 86 12 0 := ⟨_, _, _, rfl, by decide, (ss_in 1113 (by decide +kernel) (by decide +kernel)), si_12⟩
theorem kf_M_93 : ss_fl sR_12 93 12 3 := ⟨_, _, _, rfl, by decide, (ss_in 1121 (by decide +kernel) (by decide +kernel)), si_12⟩
theorem kf_M_96 : ss_fl sR_12 96 12 2 := ⟨_, _, _, rfl, by decide, (ss_in 1120 (by decide +kernel) (by decide +kernel)), si_12⟩
theorem kf_M_121 : ss_fl sR_12 121 12 4 := ⟨_, _, _, rfl, by decide, (ss_in 1122 (by decide +kernel) (by decide +kernel)), si_12⟩
theorem kf_M_152 : ss_fl sR_12 152 12 5 := ⟨_, _, _, rfl, by decide, (ss_in 1123 (by decide +kernel) (by decide +kernel)), si_12⟩
theorem kf_M_155 : ss_fl sR_12 155 12 6 := ⟨_, _, _, rfl, by decide, (ss_in 1124 (by decide +kernel) (by decide +kernel)), si_12⟩
theorem kf_M_158 : ss_fl sR_12 158 12 7 := ⟨_, _, _, rfl, by decide, (ss_in 1125 (by decide +kernel) (by decide +kernel)), si_12⟩
theorem kf_M_161 : ss_fl sR_12 161 12 9 := ⟨_, _, _, rfl, by decide, (ss_in 1128 (by decide +kernel) (by decide +kernel)), si_12⟩
theorem kf_M_228 : ss_fl sR_12 228 12 10 := ⟨_, _, _, rfl, by decide, (ss_in 1129 (by decide +kernel) (by decide +kernel)), si_12⟩
theorem kf_M_231 : ss_fl sR_12 231 12 11 := ⟨_, _, _, rfl, by decide, (ss_in 1130 (by decide +kernel) (by decide +kernel)), si_12⟩
theorem kf_M_268 : ss_fl sR_12 268 12 8 := ⟨_, _, _, rfl, by decide, (ss_in 1126 (by decide +kernel) (by decide +kernel)), si_12⟩
theorem kf_M_280 : ss_fl sR_12 280 12 1 := ⟨_, _, _, rfl, by decide, (ss_in 1114 (by decide +kernel) (by decide +kernel)), si_12⟩
theorem kf_M_289 : ss_fl sR_12 289 12 15 := ⟨_, _, _, rfl, by decide, (ss_in 1140 (by decide +kernel) (by decide +kernel)), si_12⟩
theorem kf_M_292 : ss_fl sR_12 292 12 12 := ⟨_, _, _, rfl, by decide, (ss_in 1132 (by decide +kernel) (by decide +kernel)), si_12⟩
theorem kf_M_441 : ss_fl sR_12 441 12 14 := ⟨_, _, _, rfl, by decide, (ss_in 1136 (by decide +kernel) (by decide +kernel)), si_12⟩
theorem kf_M_444 : ss_fl sR_12 444 12 16 := ⟨_, _, _, rfl, by decide, (ss_in 1147 (by decide +kernel) (by decide +kernel)), si_12⟩
theorem kj_S_1 : Cond.methodLink sR_11 1 objectInit ∈ lw_g := (ss_in 26 (by decide +kernel) (by decide +kernel))
theorem kj_A_3 : Cond.methodLink sR_3 3 objectInit ∈ lw_g := (ss_in 274 (by decide +kernel) (by decide +kernel))
theorem kj_A_29 : Cond.methodLink sR_3 29 Lib.Math.min.name ∈ lw_g := (ss_in 720 (by decide +kernel) (by decide +kernel))
theorem kj_F_3 : Cond.methodLink sR_9 3 objectInit ∈ lw_g := (ss_in 334 (by decide +kernel) (by decide +kernel))
theorem kj_F_89 : Cond.methodLink sR_9 89 arraycopyName ∈ lw_g := (ss_in 877 (by decide +kernel) (by decide +kernel))
theorem kj_F_139 : Cond.methodLink sR_9 139 Lib.Math.max.name ∈ lw_g := (ss_in 1037 (by decide +kernel) (by decide +kernel))
theorem kj_G_3 : Cond.methodLink sR_0 3 objectInit ∈ lw_g := (ss_in 74 (by decide +kernel) (by decide +kernel))
theorem kj_G_18 : Cond.methodLink sR_0 18 arraycopyName ∈ lw_g := (ss_in 439 (by decide +kernel) (by decide +kernel))
theorem kj_G_37 : Cond.methodLink sR_0 37 Lib.Math.min.name ∈ lw_g := (ss_in 786 (by decide +kernel) (by decide +kernel))
theorem kj_P_3 : Cond.methodLink sR_10 3 objectInit ∈ lw_g := (ss_in 357 (by decide +kernel) (by decide +kernel))
theorem kj_P_100 : Cond.methodLink sR_10 100 Lib.Math.min.name ∈ lw_g := (ss_in 931 (by decide +kernel) (by decide +kernel))
theorem kj_P_145 : Cond.methodLink sR_10 145 Lib.Math.max.name ∈ lw_g := (ss_in 968 (by decide +kernel) (by decide +kernel))
theorem kj_Ru_1 : Cond.methodLink sR_1 1 objectInit ∈ lw_g := (ss_in 663 (by decide +kernel) (by decide +kernel))
theorem kj_Ru_20 : Cond.methodLink sR_1 20 arraycopyName ∈ lw_g := (ss_in 664 (by decide +kernel) (by decide +kernel))
theorem kj_RR_3 : Cond.methodLink sR_4 3 objectInit ∈ lw_g := (ss_in 196 (by decide +kernel) (by decide +kernel))
theorem kj_T_3 : Cond.methodLink sR_2 3 objectInit ∈ lw_g := (ss_in 34 (by decide +kernel) (by decide +kernel))
theorem kj_V_3 : Cond.methodLink sR_5 3 objectInit ∈ lw_g := (ss_in 68 (by decide +kernel) (by decide +kernel))
theorem kj_V_48 : Cond.methodLink sR_5 48 arraycopyName ∈ lw_g := (ss_in 432 (by decide +kernel) (by decide +kernel))
theorem kj_VR_3 : Cond.methodLink sR_6 3 objectInit ∈ lw_g := (ss_in 62 (by decide +kernel) (by decide +kernel))
theorem kj_Wi_3 : Cond.methodLink sR_7 3 objectInit ∈ lw_g := (ss_in 294 (by decide +kernel) (by decide +kernel))
theorem kj_Wi_52 : Cond.methodLink sR_7 52 arraycopyName ∈ lw_g := (ss_in 736 (by decide +kernel) (by decide +kernel))
theorem kj_Wi_65 : Cond.methodLink sR_7 65 Lib.Math.min.name ∈ lw_g := (ss_in 781 (by decide +kernel) (by decide +kernel))
theorem kj_Wo_3 : Cond.methodLink sR_8 3 objectInit ∈ lw_g := (ss_in 223 (by decide +kernel) (by decide +kernel))
theorem kj_Wo_55 : Cond.methodLink sR_8 55 arraycopyName ∈ lw_g := (ss_in 1101 (by decide +kernel) (by decide +kernel))
theorem kj_M_1 : Cond.methodLink sR_12 1 objectInit ∈ lw_g := (ss_in 1111 (by decide +kernel) (by decide +kernel))
theorem kl_F_175 : Jvm.Cond.constantLong sR_9 175 (1103515245 : Int64) ∈ lw_g := (ss_in 1083 (by decide +kernel) (by decide +kernel))
theorem kl_F_177 : Jvm.Cond.constantLong sR_9 177 (12345 : Int64) ∈ lw_g := (ss_in 1084 (by decide +kernel) (by decide +kernel))
theorem kl_F_179 : Jvm.Cond.constantLong sR_9 179 (2147483647 : Int64) ∈ lw_g := (ss_in 1085 (by decide +kernel) (by decide +kernel))
theorem kl_M_128 : Jvm.Cond.constantLong sR_12 128 (448546567013 : Int64) ∈ lw_g := (ss_in 1275 (by decide +kernel) (by decide +kernel))
theorem kl_M_130 : Jvm.Cond.constantLong sR_12 130 (1937007984 : Int64) ∈ lw_g := (ss_in 1274 (by decide +kernel) (by decide +kernel))
theorem kl_M_132 : Jvm.Cond.constantLong sR_12 132 (7305070 : Int64) ∈ lw_g := (ss_in 1364 (by decide +kernel) (by decide +kernel))
theorem kl_M_134 : Jvm.Cond.constantLong sR_12 134 (1936617335 : Int64) ∈ lw_g := (ss_in 1365 (by decide +kernel) (by decide +kernel))
theorem kl_M_136 : Jvm.Cond.constantLong sR_12 136 (8319400191629685864 : Int64) ∈ lw_g := (ss_in 1366 (by decide +kernel) (by decide +kernel))
theorem kl_M_138 : Jvm.Cond.constantLong sR_12 138 (495924375668 : Int64) ∈ lw_g := (ss_in 1367 (by decide +kernel) (by decide +kernel))
theorem kl_M_140 : Jvm.Cond.constantLong sR_12 140 (108187649798757 : Int64) ∈ lw_g := (ss_in 1368 (by decide +kernel) (by decide +kernel))
theorem kl_M_142 : Jvm.Cond.constantLong sR_12 142 (109317377451364 : Int64) ∈ lw_g := (ss_in 1369 (by decide +kernel) (by decide +kernel))
theorem kl_M_144 : Jvm.Cond.constantLong sR_12 144 (121381771830628 : Int64) ∈ lw_g := (ss_in 1370 (by decide +kernel) (by decide +kernel))
theorem kl_M_146 : Jvm.Cond.constantLong sR_12 146 (1852143732 : Int64) ∈ lw_g := (ss_in 1371 (by decide +kernel) (by decide +kernel))
theorem kl_M_148 : Jvm.Cond.constantLong sR_12 148 (108187867505765 : Int64) ∈ lw_g := (ss_in 1372 (by decide +kernel) (by decide +kernel))
theorem kl_M_150 : Jvm.Cond.constantLong sR_12 150 (6578553 : Int64) ∈ lw_g := (ss_in 1373 (by decide +kernel) (by decide +kernel))
theorem kl_M_192 : Jvm.Cond.constantLong sR_12 192 (7237492 : Int64) ∈ lw_g := (ss_in 1387 (by decide +kernel) (by decide +kernel))
theorem kl_M_212 : Jvm.Cond.constantLong sR_12 212 (6385252 : Int64) ∈ lw_g := (ss_in 1411 (by decide +kernel) (by decide +kernel))
theorem kl_M_214 : Jvm.Cond.constantLong sR_12 214 (28530 : Int64) ∈ lw_g := (ss_in 1412 (by decide +kernel) (by decide +kernel))
theorem kl_M_216 : Jvm.Cond.constantLong sR_12 216 (26982 : Int64) ∈ lw_g := (ss_in 1374 (by decide +kernel) (by decide +kernel))
theorem kl_M_237 : Jvm.Cond.constantLong sR_12 237 (130160802948473 : Int64) ∈ lw_g := (ss_in 1265 (by decide +kernel) (by decide +kernel))
theorem kl_M_248 : Jvm.Cond.constantLong sR_12 248 (1885434984 : Int64) ∈ lw_g := (ss_in 1276 (by decide +kernel) (by decide +kernel))
theorem kl_M_253 : Jvm.Cond.constantLong sR_12 253 (2002873452 : Int64) ∈ lw_g := (ss_in 1277 (by decide +kernel) (by decide +kernel))
theorem kl_M_261 : Jvm.Cond.constantLong sR_12 261 (1852138852 : Int64) ∈ lw_g := (ss_in 1278 (by decide +kernel) (by decide +kernel))
theorem kl_M_266 : Jvm.Cond.constantLong sR_12 266 (495924372848 : Int64) ∈ lw_g := (ss_in 1279 (by decide +kernel) (by decide +kernel))
theorem kl_M_325 : Jvm.Cond.constantLong sR_12 325 (2 : Int64) ∈ lw_g := (ss_in 1456 (by decide +kernel) (by decide +kernel))
theorem kl_M_378 : Jvm.Cond.constantLong sR_12 378 (99 : Int64) ∈ lw_g := (ss_in 1546 (by decide +kernel) (by decide +kernel))
theorem kl_M_383 : Jvm.Cond.constantLong sR_12 383 (100 : Int64) ∈ lw_g := (ss_in 1563 (by decide +kernel) (by decide +kernel))
theorem kl_M_391 : Jvm.Cond.constantLong sR_12 391 (60 : Int64) ∈ lw_g := (ss_in 1576 (by decide +kernel) (by decide +kernel))
theorem kl_M_396 : Jvm.Cond.constantLong sR_12 396 (10 : Int64) ∈ lw_g := (ss_in 1593 (by decide +kernel) (by decide +kernel))
theorem kl_M_413 : Jvm.Cond.constantLong sR_12 413 (30 : Int64) ∈ lw_g := (ss_in 1626 (by decide +kernel) (by decide +kernel))
theorem kl_M_430 : Jvm.Cond.constantLong sR_12 430 (999 : Int64) ∈ lw_g := (ss_in 1663 (by decide +kernel) (by decide +kernel))
theorem kl_M_448 : Jvm.Cond.constantLong sR_12 448 (1103515245 : Int64) ∈ lw_g := (ss_in 1696 (by decide +kernel) (by decide +kernel))
theorem kl_M_450 : Jvm.Cond.constantLong sR_12 450 (12345 : Int64) ∈ lw_g := (ss_in 1697 (by decide +kernel) (by decide +kernel))
theorem kl_M_452 : Jvm.Cond.constantLong sR_12 452 (2147483648 : Int64) ∈ lw_g := (ss_in 1698 (by decide +kernel) (by decide +kernel))
theorem kl_M_454 : Jvm.Cond.constantLong sR_12 454 (65536 : Int64) ∈ lw_g := (ss_in 1699 (by decide +kernel) (by decide +kernel))
theorem kl_M_459 : Jvm.Cond.constantLong sR_12 459 (3 : Int64) ∈ lw_g := (ss_in 1708 (by decide +kernel) (by decide +kernel))
theorem km_S_9 : ss_mn sR_11 9 yy_T_init "SweptSnow" bb_T_init 1 0 := ⟨(ss_in 33 (by decide +kernel) (by decide +kernel)), (ss_in 2 (by decide +kernel) (by decide +kernel)), fun U h => h.1, by decide +kernel, rfl, (ss_in 32 (by decide +kernel) (by decide +kernel))⟩
theorem km_S_18 : ss_mi sR_11 18 yy_VR_init bb_VR_init 2 1 := ⟨⟨(ss_in 61 (by decide +kernel) (by decide +kernel)), (ss_in 3 (by decide +kernel) (by decide +kernel)), (ss_in 59 (by decide +kernel) (by decide +kernel)), by decide +kernel⟩, rfl, (ss_in 60 (by decide +kernel) (by decide +kernel))⟩
theorem km_S_27 : ss_mi sR_11 27 yy_RR_init bb_RR_init 2 1 := ⟨⟨(ss_in 195 (by decide +kernel) (by decide +kernel)), (ss_in 6 (by decide +kernel) (by decide +kernel)), (ss_in 193 (by decide +kernel) (by decide +kernel)), by decide +kernel⟩, rfl, (ss_in 194 (by decide +kernel) (by decide +kernel))⟩
theorem km_S_40 : ss_mn sR_11 40 yy_Wo_init "SweptSnow" bb_Wo_init 1 0 := ⟨(ss_in 222 (by decide +kernel) (by decide +kernel)), (ss_in 7 (by decide +kernel) (by decide +kernel)), fun U h => h.2.2.1, by decide +kernel, rfl, (ss_in 221 (by decide +kernel) (by decide +kernel))⟩
theorem km_S_51 : ss_mi sR_11 51 yy_A_init bb_A_init 2 0 := ⟨⟨(ss_in 273 (by decide +kernel) (by decide +kernel)), (ss_in 8 (by decide +kernel) (by decide +kernel)), (ss_in 271 (by decide +kernel) (by decide +kernel)), by decide +kernel⟩, rfl, (ss_in 272 (by decide +kernel) (by decide +kernel))⟩
theorem km_S_62 : ss_mi sR_11 62 yy_Wi_init bb_Wi_init 2 1 := ⟨⟨(ss_in 293 (by decide +kernel) (by decide +kernel)), (ss_in 9 (by decide +kernel) (by decide +kernel)), (ss_in 291 (by decide +kernel) (by decide +kernel)), by decide +kernel⟩, rfl, (ss_in 292 (by decide +kernel) (by decide +kernel))⟩
theorem km_S_71 : ss_mi sR_11 71 yy_F_init bb_F_init 4 3 := ⟨⟨(ss_in 333 (by decide +kernel) (by decide +kernel)), (ss_in 10 (by decide +kernel) (by decide +kernel)), (ss_in 331 (by decide +kernel) (by decide +kernel)), by decide +kernel⟩, rfl, (ss_in 332 (by decide +kernel) (by decide +kernel))⟩
theorem km_S_80 : ss_mi sR_11 80 yy_P_init bb_P_init 3 2 := ⟨⟨(ss_in 356 (by decide +kernel) (by decide +kernel)), (ss_in 11 (by decide +kernel) (by decide +kernel)), (ss_in 354 (by decide +kernel) (by decide +kernel)), by decide +kernel⟩, rfl, (ss_in 355 (by decide +kernel) (by decide +kernel))⟩
theorem km_S_91 : ss_mv sR_11 91 yy_T_put bb_T_put 3 none 1 2 := ⟨⟨(ss_in 415 (by decide +kernel) (by decide +kernel)), (ss_in 2 (by decide +kernel) (by decide +kernel)), (ss_in 412 (by decide +kernel) (by decide +kernel)), by decide +kernel⟩, (ss_in 413 (by decide +kernel) (by decide +kernel)), (ss_in 414 (by decide +kernel) (by decide +kernel)), rfl⟩
theorem km_S_95 : ss_mv sR_11 95 yy_VR_readValley bb_VR_readValley 3 (some (.object "SweptSnow$Valley")) 0 6 := ⟨⟨(ss_in 427 (by decide +kernel) (by decide +kernel)), (ss_in 3 (by decide +kernel) (by decide +kernel)), (ss_in 424 (by decide +kernel) (by decide +kernel)), by decide +kernel⟩, (ss_in 425 (by decide +kernel) (by decide +kernel)), (ss_in 426 (by decide +kernel) (by decide +kernel)), rfl⟩
theorem km_S_102 : ss_mv sR_11 102 yy_Wo_settle bb_Wo_settle 2 none 1 8 := ⟨⟨(ss_in 579 (by decide +kernel) (by decide +kernel)), (ss_in 7 (by decide +kernel) (by decide +kernel)), (ss_in 576 (by decide +kernel) (by decide +kernel)), by decide +kernel⟩, (ss_in 577 (by decide +kernel) (by decide +kernel)), (ss_in 578 (by decide +kernel) (by decide +kernel)), rfl⟩
theorem km_S_105 : ss_mv sR_11 105 yy_A_forget bb_A_forget 1 none 0 3 := ⟨⟨(ss_in 585 (by decide +kernel) (by decide +kernel)), (ss_in 8 (by decide +kernel) (by decide +kernel)), (ss_in 582 (by decide +kernel) (by decide +kernel)), by decide +kernel⟩, (ss_in 583 (by decide +kernel) (by decide +kernel)), (ss_in 584 (by decide +kernel) (by decide +kernel)), rfl⟩
theorem km_S_116 : ss_mv sR_11 116 yy_RR_readRule bb_RR_readRule 3 (some (.object "SweptSnow$Rule")) 0 4 := ⟨⟨(ss_in 594 (by decide +kernel) (by decide +kernel)), (ss_in 6 (by decide +kernel) (by decide +kernel)), (ss_in 591 (by decide +kernel) (by decide +kernel)), by decide +kernel⟩, (ss_in 592 (by decide +kernel) (by decide +kernel)), (ss_in 593 (by decide +kernel) (by decide +kernel)), rfl⟩
theorem km_S_123 : ss_mv sR_11 123 yy_S_isStep bb_S_isStep 2 (some .boolean) 1 11 := ⟨⟨(ss_in 686 (by decide +kernel) (by decide +kernel)), (ss_in 1 (by decide +kernel) (by decide +kernel)), (ss_in 683 (by decide +kernel) (by decide +kernel)), by decide +kernel⟩, (ss_in 685 (by decide +kernel) (by decide +kernel)), (ss_inP (q := (yy_S_isStep, 11)) 19 (by decide +kernel) (by decide +kernel)), rfl⟩
theorem km_S_137 : ss_mv sR_11 137 yy_Wo_closedBits bb_Wo_closedBits 1 (some (.int)) 0 8 := ⟨⟨(ss_in 690 (by decide +kernel) (by decide +kernel)), (ss_in 7 (by decide +kernel) (by decide +kernel)), (ss_in 687 (by decide +kernel) (by decide +kernel)), by decide +kernel⟩, (ss_in 688 (by decide +kernel) (by decide +kernel)), (ss_in 689 (by decide +kernel) (by decide +kernel)), rfl⟩
theorem km_S_153 : ss_mv sR_11 153 yy_V_neededBits bb_V_neededBits 4 (some (.int)) 1 5 := ⟨⟨(ss_in 698 (by decide +kernel) (by decide +kernel)), (ss_in 4 (by decide +kernel) (by decide +kernel)), (ss_in 695 (by decide +kernel) (by decide +kernel)), by decide +kernel⟩, (ss_in 696 (by decide +kernel) (by decide +kernel)), (ss_in 697 (by decide +kernel) (by decide +kernel)), rfl⟩
theorem km_S_157 : ss_mv sR_11 157 yy_S_isHouse bb_S_isHouse 2 (some .boolean) 1 11 := ⟨⟨(ss_in 710 (by decide +kernel) (by decide +kernel)), (ss_in 1 (by decide +kernel) (by decide +kernel)), (ss_in 707 (by decide +kernel) (by decide +kernel)), by decide +kernel⟩, (ss_in 709 (by decide +kernel) (by decide +kernel)), (ss_inP (q := (yy_S_isHouse, 11)) 20 (by decide +kernel) (by decide +kernel)), rfl⟩
theorem km_S_173 : ss_mv sR_11 173 yy_A_keep bb_A_keep 2 none 1 3 := ⟨⟨(ss_in 718 (by decide +kernel) (by decide +kernel)), (ss_in 8 (by decide +kernel) (by decide +kernel)), (ss_in 715 (by decide +kernel) (by decide +kernel)), by decide +kernel⟩, (ss_in 716 (by decide +kernel) (by decide +kernel)), (ss_in 717 (by decide +kernel) (by decide +kernel)), rfl⟩
theorem km_S_177 : ss_mv sR_11 177 yy_F_start bb_F_start 1 none 0 9 := ⟨⟨(ss_in 726 (by decide +kernel) (by decide +kernel)), (ss_in 10 (by decide +kernel) (by decide +kernel)), (ss_in 723 (by decide +kernel) (by decide +kernel)), by decide +kernel⟩, (ss_in 724 (by decide +kernel) (by decide +kernel)), (ss_in 725 (by decide +kernel) (by decide +kernel)), rfl⟩
theorem km_S_180 : ss_mv sR_11 180 yy_Wi_passDay bb_Wi_passDay 3 (some (.int)) 0 7 := ⟨⟨(ss_in 740 (by decide +kernel) (by decide +kernel)), (ss_in 9 (by decide +kernel) (by decide +kernel)), (ss_in 737 (by decide +kernel) (by decide +kernel)), by decide +kernel⟩, (ss_in 738 (by decide +kernel) (by decide +kernel)), (ss_in 739 (by decide +kernel) (by decide +kernel)), rfl⟩
theorem km_S_184 : ss_mv sR_11 184 yy_G_copyFrom bb_G_copyFrom 2 none 1 0 := ⟨⟨(ss_in 438 (by decide +kernel) (by decide +kernel)), (ss_in 5 (by decide +kernel) (by decide +kernel)), (ss_in 791 (by decide +kernel) (by decide +kernel)), by decide +kernel⟩, (ss_in 436 (by decide +kernel) (by decide +kernel)), (ss_in 437 (by decide +kernel) (by decide +kernel)), rfl⟩
theorem km_S_187 : ss_mv sR_11 187 yy_S_isFree bb_S_isFree 2 (some .boolean) 1 11 := ⟨⟨(ss_in 799 (by decide +kernel) (by decide +kernel)), (ss_in 1 (by decide +kernel) (by decide +kernel)), (ss_in 796 (by decide +kernel) (by decide +kernel)), by decide +kernel⟩, (ss_in 798 (by decide +kernel) (by decide +kernel)), (ss_inP (q := (yy_S_isFree, 11)) 25 (by decide +kernel) (by decide +kernel)), rfl⟩
theorem km_S_190 : ss_mv sR_11 190 yy_Wi_sweepBy bb_Wi_sweepBy 5 (some (.int)) 2 7 := ⟨⟨(ss_in 780 (by decide +kernel) (by decide +kernel)), (ss_in 9 (by decide +kernel) (by decide +kernel)), (ss_in 800 (by decide +kernel) (by decide +kernel)), by decide +kernel⟩, (ss_in 778 (by decide +kernel) (by decide +kernel)), (ss_in 779 (by decide +kernel) (by decide +kernel)), rfl⟩
theorem km_S_194 : ss_ms sR_11 194 yy_S_isWithin bb_S_isWithin 3 (some .boolean) 3 := ⟨⟨(ss_in 807 (by decide +kernel) (by decide +kernel)), (ss_in 1 (by decide +kernel) (by decide +kernel)), (ss_in 805 (by decide +kernel) (by decide +kernel)), by decide +kernel⟩, (ss_in 806 (by decide +kernel) (by decide +kernel))⟩
theorem km_S_198 : ss_mv sR_11 198 yy_G_lay bb_G_lay 3 none 2 0 := ⟨⟨(ss_in 785 (by decide +kernel) (by decide +kernel)), (ss_in 5 (by decide +kernel) (by decide +kernel)), (ss_in 808 (by decide +kernel) (by decide +kernel)), by decide +kernel⟩, (ss_in 783 (by decide +kernel) (by decide +kernel)), (ss_in 784 (by decide +kernel) (by decide +kernel)), rfl⟩
theorem km_S_202 : ss_mv sR_11 202 yy_G_snowOfAll bb_G_snowOfAll 3 (some (.int)) 0 0 := ⟨⟨(ss_in 820 (by decide +kernel) (by decide +kernel)), (ss_in 5 (by decide +kernel) (by decide +kernel)), (ss_in 817 (by decide +kernel) (by decide +kernel)), by decide +kernel⟩, (ss_in 818 (by decide +kernel) (by decide +kernel)), (ss_in 819 (by decide +kernel) (by decide +kernel)), rfl⟩
theorem km_S_205 : ss_mv sR_11 205 yy_G_halve bb_G_halve 2 none 0 0 := ⟨⟨(ss_in 824 (by decide +kernel) (by decide +kernel)), (ss_in 5 (by decide +kernel) (by decide +kernel)), (ss_in 821 (by decide +kernel) (by decide +kernel)), by decide +kernel⟩, (ss_in 822 (by decide +kernel) (by decide +kernel)), (ss_in 823 (by decide +kernel) (by decide +kernel)), rfl⟩
theorem km_S_208 : ss_mv sR_11 208 yy_A_takeBack bb_A_takeBack 2 (some (.int)) 1 3 := ⟨⟨(ss_in 832 (by decide +kernel) (by decide +kernel)), (ss_in 8 (by decide +kernel) (by decide +kernel)), (ss_in 829 (by decide +kernel) (by decide +kernel)), by decide +kernel⟩, (ss_in 830 (by decide +kernel) (by decide +kernel)), (ss_in 831 (by decide +kernel) (by decide +kernel)), rfl⟩
theorem km_S_212 : ss_mv sR_11 212 yy_F_closedAfter bb_F_closedAfter 2 (some (.int)) 1 9 := ⟨⟨(ss_in 840 (by decide +kernel) (by decide +kernel)), (ss_in 10 (by decide +kernel) (by decide +kernel)), (ss_in 837 (by decide +kernel) (by decide +kernel)), by decide +kernel⟩, (ss_in 838 (by decide +kernel) (by decide +kernel)), (ss_in 839 (by decide +kernel) (by decide +kernel)), rfl⟩
theorem km_S_215 : ss_mv sR_11 215 yy_F_snowAfter bb_F_snowAfter 3 (some (.int)) 2 9 := ⟨⟨(ss_in 852 (by decide +kernel) (by decide +kernel)), (ss_in 10 (by decide +kernel) (by decide +kernel)), (ss_in 849 (by decide +kernel) (by decide +kernel)), by decide +kernel⟩, (ss_in 850 (by decide +kernel) (by decide +kernel)), (ss_in 851 (by decide +kernel) (by decide +kernel)), rfl⟩
theorem km_S_218 : ss_mv sR_11 218 yy_F_openThrough bb_F_openThrough 4 (some (.int)) 1 9 := ⟨⟨(ss_in 860 (by decide +kernel) (by decide +kernel)), (ss_in 10 (by decide +kernel) (by decide +kernel)), (ss_in 857 (by decide +kernel) (by decide +kernel)), by decide +kernel⟩, (ss_in 858 (by decide +kernel) (by decide +kernel)), (ss_in 859 (by decide +kernel) (by decide +kernel)), rfl⟩
theorem km_S_221 : ss_mv sR_11 221 yy_F_firstClosed bb_F_firstClosed 3 (some (.int)) 1 9 := ⟨⟨(ss_in 868 (by decide +kernel) (by decide +kernel)), (ss_in 10 (by decide +kernel) (by decide +kernel)), (ss_in 865 (by decide +kernel) (by decide +kernel)), by decide +kernel⟩, (ss_in 866 (by decide +kernel) (by decide +kernel)), (ss_in 867 (by decide +kernel) (by decide +kernel)), rfl⟩
theorem km_S_224 : ss_mv sR_11 224 yy_F_ringOf bb_F_ringOf 4 (some (.int)) 1 9 := ⟨⟨(ss_in 876 (by decide +kernel) (by decide +kernel)), (ss_in 10 (by decide +kernel) (by decide +kernel)), (ss_in 873 (by decide +kernel) (by decide +kernel)), by decide +kernel⟩, (ss_in 874 (by decide +kernel) (by decide +kernel)), (ss_in 875 (by decide +kernel) (by decide +kernel)), rfl⟩
theorem km_S_228 : ss_mv sR_11 228 yy_P_fewestSweepings bb_P_fewestSweepings 5 (some (.int)) 2 10 := ⟨⟨(ss_in 889 (by decide +kernel) (by decide +kernel)), (ss_in 11 (by decide +kernel) (by decide +kernel)), (ss_in 886 (by decide +kernel) (by decide +kernel)), by decide +kernel⟩, (ss_in 887 (by decide +kernel) (by decide +kernel)), (ss_in 888 (by decide +kernel) (by decide +kernel)), rfl⟩
theorem km_S_231 : ss_ms sR_11 231 yy_JI_bitCount bb_JI_bitCount 1 (some (.int)) 1 := ⟨⟨(ss_in 756 (by decide +kernel) (by decide +kernel)), (ss_in 20 (by decide +kernel) (by decide +kernel)), (ss_in 896 (by decide +kernel) (by decide +kernel)), by decide +kernel⟩, (ss_in 755 (by decide +kernel) (by decide +kernel))⟩
theorem km_S_236 : ss_mv sR_11 236 yy_P_fewestSwept bb_P_fewestSwept 5 (some (.int)) 1 10 := ⟨⟨(ss_in 904 (by decide +kernel) (by decide +kernel)), (ss_in 11 (by decide +kernel) (by decide +kernel)), (ss_in 901 (by decide +kernel) (by decide +kernel)), by decide +kernel⟩, (ss_in 902 (by decide +kernel) (by decide +kernel)), (ss_in 903 (by decide +kernel) (by decide +kernel)), rfl⟩
theorem km_S_239 : ss_mv sR_11 239 yy_P_wayOf bb_P_wayOf 4 (some (.int)) 3 10 := ⟨⟨(ss_in 916 (by decide +kernel) (by decide +kernel)), (ss_in 11 (by decide +kernel) (by decide +kernel)), (ss_in 913 (by decide +kernel) (by decide +kernel)), by decide +kernel⟩, (ss_in 914 (by decide +kernel) (by decide +kernel)), (ss_in 915 (by decide +kernel) (by decide +kernel)), rfl⟩
theorem km_S_243 : ss_mv sR_11 243 yy_P_weighSets bb_P_weighSets 4 none 1 10 := ⟨⟨(ss_in 943 (by decide +kernel) (by decide +kernel)), (ss_in 11 (by decide +kernel) (by decide +kernel)), (ss_in 940 (by decide +kernel) (by decide +kernel)), by decide +kernel⟩, (ss_in 941 (by decide +kernel) (by decide +kernel)), (ss_in 942 (by decide +kernel) (by decide +kernel)), rfl⟩
theorem km_S_246 : ss_mv sR_11 246 yy_P_spread bb_P_spread 5 (some (.int)) 0 10 := ⟨⟨(ss_in 963 (by decide +kernel) (by decide +kernel)), (ss_in 11 (by decide +kernel) (by decide +kernel)), (ss_in 960 (by decide +kernel) (by decide +kernel)), by decide +kernel⟩, (ss_in 961 (by decide +kernel) (by decide +kernel)), (ss_in 962 (by decide +kernel) (by decide +kernel)), rfl⟩
theorem km_S_249 : ss_mv sR_11 249 yy_P_pactCount bb_P_pactCount 3 (some (.int)) 0 10 := ⟨⟨(ss_in 974 (by decide +kernel) (by decide +kernel)), (ss_in 11 (by decide +kernel) (by decide +kernel)), (ss_in 971 (by decide +kernel) (by decide +kernel)), by decide +kernel⟩, (ss_in 972 (by decide +kernel) (by decide +kernel)), (ss_in 973 (by decide +kernel) (by decide +kernel)), rfl⟩
theorem km_S_252 : ss_mv sR_11 252 yy_P_leastPact bb_P_leastPact 2 (some (.int)) 0 10 := ⟨⟨(ss_in 982 (by decide +kernel) (by decide +kernel)), (ss_in 11 (by decide +kernel) (by decide +kernel)), (ss_in 979 (by decide +kernel) (by decide +kernel)), by decide +kernel⟩, (ss_in 980 (by decide +kernel) (by decide +kernel)), (ss_in 981 (by decide +kernel) (by decide +kernel)), rfl⟩
theorem km_S_255 : ss_mv sR_11 255 yy_F_go bb_F_go 3 none 1 9 := ⟨⟨(ss_in 844 (by decide +kernel) (by decide +kernel)), (ss_in 10 (by decide +kernel) (by decide +kernel)), (ss_in 987 (by decide +kernel) (by decide +kernel)), by decide +kernel⟩, (ss_in 842 (by decide +kernel) (by decide +kernel)), (ss_in 843 (by decide +kernel) (by decide +kernel)), rfl⟩
theorem km_S_264 : ss_mv sR_11 264 yy_F_bestSweep bb_F_bestSweep 8 (some (.int)) 3 9 := ⟨⟨(ss_in 995 (by decide +kernel) (by decide +kernel)), (ss_in 10 (by decide +kernel) (by decide +kernel)), (ss_in 992 (by decide +kernel) (by decide +kernel)), by decide +kernel⟩, (ss_in 993 (by decide +kernel) (by decide +kernel)), (ss_in 994 (by decide +kernel) (by decide +kernel)), rfl⟩
theorem km_S_268 : ss_mv sR_11 268 yy_F_leastStrength bb_F_leastStrength 4 (some (.int)) 2 9 := ⟨⟨(ss_in 1008 (by decide +kernel) (by decide +kernel)), (ss_in 10 (by decide +kernel) (by decide +kernel)), (ss_in 1005 (by decide +kernel) (by decide +kernel)), by decide +kernel⟩, (ss_in 1006 (by decide +kernel) (by decide +kernel)), (ss_in 1007 (by decide +kernel) (by decide +kernel)), rfl⟩
theorem km_S_274 : ss_mv sR_11 274 yy_Wo_addNote bb_Wo_addNote 4 (some (.int)) 3 8 := ⟨⟨(ss_in 1020 (by decide +kernel) (by decide +kernel)), (ss_in 7 (by decide +kernel) (by decide +kernel)), (ss_in 1017 (by decide +kernel) (by decide +kernel)), by decide +kernel⟩, (ss_in 1018 (by decide +kernel) (by decide +kernel)), (ss_in 1019 (by decide +kernel) (by decide +kernel)), rfl⟩
theorem km_S_277 : ss_mv sR_11 277 yy_F_judge bb_F_judge 4 none 2 9 := ⟨⟨(ss_in 1028 (by decide +kernel) (by decide +kernel)), (ss_in 10 (by decide +kernel) (by decide +kernel)), (ss_in 1025 (by decide +kernel) (by decide +kernel)), by decide +kernel⟩, (ss_in 1026 (by decide +kernel) (by decide +kernel)), (ss_in 1027 (by decide +kernel) (by decide +kernel)), rfl⟩
theorem km_S_280 : ss_mv sR_11 280 yy_F_rightCount bb_F_rightCount 3 (some (.int)) 0 9 := ⟨⟨(ss_in 1045 (by decide +kernel) (by decide +kernel)), (ss_in 10 (by decide +kernel) (by decide +kernel)), (ss_in 1042 (by decide +kernel) (by decide +kernel)), by decide +kernel⟩, (ss_in 1043 (by decide +kernel) (by decide +kernel)), (ss_in 1044 (by decide +kernel) (by decide +kernel)), rfl⟩
theorem km_S_283 : ss_mv sR_11 283 yy_F_firstRight bb_F_firstRight 2 (some (.int)) 0 9 := ⟨⟨(ss_in 1049 (by decide +kernel) (by decide +kernel)), (ss_in 10 (by decide +kernel) (by decide +kernel)), (ss_in 1046 (by decide +kernel) (by decide +kernel)), by decide +kernel⟩, (ss_in 1047 (by decide +kernel) (by decide +kernel)), (ss_in 1048 (by decide +kernel) (by decide +kernel)), rfl⟩
theorem km_S_286 : ss_mv sR_11 286 yy_F_partingStep bb_F_partingStep 6 (some (.int)) 1 9 := ⟨⟨(ss_in 1057 (by decide +kernel) (by decide +kernel)), (ss_in 10 (by decide +kernel) (by decide +kernel)), (ss_in 1054 (by decide +kernel) (by decide +kernel)), by decide +kernel⟩, (ss_in 1055 (by decide +kernel) (by decide +kernel)), (ss_in 1056 (by decide +kernel) (by decide +kernel)), rfl⟩
theorem km_S_292 : ss_mv sR_11 292 yy_F_afterStorms bb_F_afterStorms 9 (some (.int)) 4 9 := ⟨⟨(ss_in 1074 (by decide +kernel) (by decide +kernel)), (ss_in 10 (by decide +kernel) (by decide +kernel)), (ss_in 1071 (by decide +kernel) (by decide +kernel)), by decide +kernel⟩, (ss_in 1072 (by decide +kernel) (by decide +kernel)), (ss_in 1073 (by decide +kernel) (by decide +kernel)), rfl⟩
theorem km_S_308 : ss_mv sR_11 308 yy_Wo_copyFrom bb_Wo_copyFrom 2 none 1 8 := ⟨⟨(ss_in 1100 (by decide +kernel) (by decide +kernel)), (ss_in 7 (by decide +kernel) (by decide +kernel)), (ss_in 1097 (by decide +kernel) (by decide +kernel)), by decide +kernel⟩, (ss_in 1098 (by decide +kernel) (by decide +kernel)), (ss_in 1099 (by decide +kernel) (by decide +kernel)), rfl⟩
theorem km_A_17 : ss_mi sR_3 17 yy_G_init bb_G_init 2 0 := ⟨⟨(ss_in 73 (by decide +kernel) (by decide +kernel)), (ss_in 5 (by decide +kernel) (by decide +kernel)), (ss_in 277 (by decide +kernel) (by decide +kernel)), by decide +kernel⟩, rfl, (ss_in 72 (by decide +kernel) (by decide +kernel))⟩
theorem km_A_22 : ss_mv sR_3 22 yy_G_copyFrom bb_G_copyFrom 2 none 1 0 := ⟨⟨(ss_in 438 (by decide +kernel) (by decide +kernel)), (ss_in 5 (by decide +kernel) (by decide +kernel)), (ss_in 719 (by decide +kernel) (by decide +kernel)), by decide +kernel⟩, (ss_in 436 (by decide +kernel) (by decide +kernel)), (ss_in 437 (by decide +kernel) (by decide +kernel)), rfl⟩
theorem km_F_37 : ss_mv sR_9 37 yy_F_ruleAt bb_F_ruleAt 2 (some (.object "SweptSnow$Rule")) 1 9 := ⟨⟨(ss_in 730 (by decide +kernel) (by decide +kernel)), (ss_in 10 (by decide +kernel) (by decide +kernel)), (ss_in 727 (by decide +kernel) (by decide +kernel)), by decide +kernel⟩, (ss_in 729 (by decide +kernel) (by decide +kernel)), (ss_inP (q := (yy_F_ruleAt, 5)) 21 (by decide +kernel) (by decide +kernel)), rfl⟩
theorem km_F_45 : ss_mv sR_9 45 yy_Wi_begin bb_Wi_begin 4 none 2 7 := ⟨⟨(ss_in 734 (by decide +kernel) (by decide +kernel)), (ss_in 9 (by decide +kernel) (by decide +kernel)), (ss_in 731 (by decide +kernel) (by decide +kernel)), by decide +kernel⟩, (ss_in 732 (by decide +kernel) (by decide +kernel)), (ss_in 733 (by decide +kernel) (by decide +kernel)), rfl⟩
theorem km_F_51 : ss_mv sR_9 51 yy_F_start bb_F_start 1 none 0 9 := ⟨⟨(ss_in 726 (by decide +kernel) (by decide +kernel)), (ss_in 10 (by decide +kernel) (by decide +kernel)), (ss_in 845 (by decide +kernel) (by decide +kernel)), by decide +kernel⟩, (ss_in 724 (by decide +kernel) (by decide +kernel)), (ss_in 725 (by decide +kernel) (by decide +kernel)), rfl⟩
theorem km_F_54 : ss_mv sR_9 54 yy_Wi_passDay bb_Wi_passDay 3 (some (.int)) 0 7 := ⟨⟨(ss_in 740 (by decide +kernel) (by decide +kernel)), (ss_in 9 (by decide +kernel) (by decide +kernel)), (ss_in 846 (by decide +kernel) (by decide +kernel)), by decide +kernel⟩, (ss_in 738 (by decide +kernel) (by decide +kernel)), (ss_in 739 (by decide +kernel) (by decide +kernel)), rfl⟩
theorem km_F_58 : ss_mv sR_9 58 yy_F_go bb_F_go 3 none 1 9 := ⟨⟨(ss_in 844 (by decide +kernel) (by decide +kernel)), (ss_in 10 (by decide +kernel) (by decide +kernel)), (ss_in 841 (by decide +kernel) (by decide +kernel)), by decide +kernel⟩, (ss_in 842 (by decide +kernel) (by decide +kernel)), (ss_in 843 (by decide +kernel) (by decide +kernel)), rfl⟩
theorem km_F_68 : ss_mv sR_9 68 yy_Wi_closedBits bb_Wi_closedBits 1 (some (.int)) 0 7 := ⟨⟨(ss_in 748 (by decide +kernel) (by decide +kernel)), (ss_in 9 (by decide +kernel) (by decide +kernel)), (ss_in 847 (by decide +kernel) (by decide +kernel)), by decide +kernel⟩, (ss_in 746 (by decide +kernel) (by decide +kernel)), (ss_in 747 (by decide +kernel) (by decide +kernel)), rfl⟩
theorem km_F_71 : ss_ms sR_9 71 yy_JI_bitCount bb_JI_bitCount 1 (some (.int)) 1 := ⟨⟨(ss_in 756 (by decide +kernel) (by decide +kernel)), (ss_in 20 (by decide +kernel) (by decide +kernel)), (ss_in 848 (by decide +kernel) (by decide +kernel)), by decide +kernel⟩, (ss_in 755 (by decide +kernel) (by decide +kernel))⟩
theorem km_F_95 : ss_mv sR_9 95 yy_F_isSameRow bb_F_isSameRow 4 (some .boolean) 2 9 := ⟨⟨(ss_in 881 (by decide +kernel) (by decide +kernel)), (ss_in 10 (by decide +kernel) (by decide +kernel)), (ss_in 878 (by decide +kernel) (by decide +kernel)), by decide +kernel⟩, (ss_in 880 (by decide +kernel) (by decide +kernel)), (ss_inP (q := (yy_F_isSameRow, 5)) 26 (by decide +kernel) (by decide +kernel)), rfl⟩
theorem km_F_99 : ss_mv sR_9 99 yy_F_closedBy bb_F_closedBy 5 (some (.int)) 3 9 := ⟨⟨(ss_in 999 (by decide +kernel) (by decide +kernel)), (ss_in 10 (by decide +kernel) (by decide +kernel)), (ss_in 996 (by decide +kernel) (by decide +kernel)), by decide +kernel⟩, (ss_in 998 (by decide +kernel) (by decide +kernel)), (ss_inP (q := (yy_F_closedBy, 5)) 38 (by decide +kernel) (by decide +kernel)), rfl⟩
theorem km_F_103 : ss_mv sR_9 103 yy_Wi_sweepBy bb_Wi_sweepBy 5 (some (.int)) 2 7 := ⟨⟨(ss_in 780 (by decide +kernel) (by decide +kernel)), (ss_in 9 (by decide +kernel) (by decide +kernel)), (ss_in 1000 (by decide +kernel) (by decide +kernel)), by decide +kernel⟩, (ss_in 778 (by decide +kernel) (by decide +kernel)), (ss_in 779 (by decide +kernel) (by decide +kernel)), rfl⟩
theorem km_F_107 : ss_mv sR_9 107 yy_F_keepsOpen bb_F_keepsOpen 6 (some .boolean) 3 9 := ⟨⟨(ss_in 1012 (by decide +kernel) (by decide +kernel)), (ss_in 10 (by decide +kernel) (by decide +kernel)), (ss_in 1009 (by decide +kernel) (by decide +kernel)), by decide +kernel⟩, (ss_in 1011 (by decide +kernel) (by decide +kernel)), (ss_inP (q := (yy_F_keepsOpen, 5)) 39 (by decide +kernel) (by decide +kernel)), rfl⟩
theorem km_F_120 : ss_mv sR_9 120 yy_F_agrees bb_F_agrees 5 (some .boolean) 2 9 := ⟨⟨(ss_in 1032 (by decide +kernel) (by decide +kernel)), (ss_in 10 (by decide +kernel) (by decide +kernel)), (ss_in 1029 (by decide +kernel) (by decide +kernel)), by decide +kernel⟩, (ss_in 1031 (by decide +kernel) (by decide +kernel)), (ss_inP (q := (yy_F_agrees, 5)) 40 (by decide +kernel) (by decide +kernel)), rfl⟩
theorem km_F_126 : ss_mv sR_9 126 yy_F_lastNoted bb_F_lastNoted 4 (some (.int)) 1 9 := ⟨⟨(ss_in 1036 (by decide +kernel) (by decide +kernel)), (ss_in 10 (by decide +kernel) (by decide +kernel)), (ss_in 1033 (by decide +kernel) (by decide +kernel)), by decide +kernel⟩, (ss_in 1035 (by decide +kernel) (by decide +kernel)), (ss_inP (q := (yy_F_lastNoted, 5)) 41 (by decide +kernel) (by decide +kernel)), rfl⟩
theorem km_F_129 : ss_mv sR_9 129 yy_F_isAsNoted bb_F_isAsNoted 3 (some .boolean) 1 9 := ⟨⟨(ss_in 1041 (by decide +kernel) (by decide +kernel)), (ss_in 10 (by decide +kernel) (by decide +kernel)), (ss_in 1038 (by decide +kernel) (by decide +kernel)), by decide +kernel⟩, (ss_in 1040 (by decide +kernel) (by decide +kernel)), (ss_inP (q := (yy_F_isAsNoted, 5)) 42 (by decide +kernel) (by decide +kernel)), rfl⟩
theorem km_F_150 : ss_mv sR_9 150 yy_F_rightCount bb_F_rightCount 3 (some (.int)) 0 9 := ⟨⟨(ss_in 1045 (by decide +kernel) (by decide +kernel)), (ss_in 10 (by decide +kernel) (by decide +kernel)), (ss_in 1058 (by decide +kernel) (by decide +kernel)), by decide +kernel⟩, (ss_in 1043 (by decide +kernel) (by decide +kernel)), (ss_in 1044 (by decide +kernel) (by decide +kernel)), rfl⟩
theorem km_F_153 : ss_mv sR_9 153 yy_F_mostAlike bb_F_mostAlike 6 (some (.int)) 1 9 := ⟨⟨(ss_in 1062 (by decide +kernel) (by decide +kernel)), (ss_in 10 (by decide +kernel) (by decide +kernel)), (ss_in 1059 (by decide +kernel) (by decide +kernel)), by decide +kernel⟩, (ss_in 1061 (by decide +kernel) (by decide +kernel)), (ss_inP (q := (yy_F_mostAlike, 5)) 43 (by decide +kernel) (by decide +kernel)), rfl⟩
theorem km_F_159 : ss_mv sR_9 159 yy_F_blow bb_F_blow 4 none 1 9 := ⟨⟨(ss_in 1078 (by decide +kernel) (by decide +kernel)), (ss_in 10 (by decide +kernel) (by decide +kernel)), (ss_in 1075 (by decide +kernel) (by decide +kernel)), by decide +kernel⟩, (ss_in 1077 (by decide +kernel) (by decide +kernel)), (ss_inP (q := (yy_F_blow, 5)) 44 (by decide +kernel) (by decide +kernel)), rfl⟩
theorem km_F_162 : ss_mv sR_9 162 yy_G_snowOfAll bb_G_snowOfAll 3 (some (.int)) 0 0 := ⟨⟨(ss_in 820 (by decide +kernel) (by decide +kernel)), (ss_in 5 (by decide +kernel) (by decide +kernel)), (ss_in 1088 (by decide +kernel) (by decide +kernel)), by decide +kernel⟩, (ss_in 818 (by decide +kernel) (by decide +kernel)), (ss_in 819 (by decide +kernel) (by decide +kernel)), rfl⟩
theorem km_F_165 : ss_mv sR_9 165 yy_F_draw bb_F_draw 1 (some (.int)) 0 9 := ⟨⟨(ss_in 1082 (by decide +kernel) (by decide +kernel)), (ss_in 10 (by decide +kernel) (by decide +kernel)), (ss_in 1079 (by decide +kernel) (by decide +kernel)), by decide +kernel⟩, (ss_in 1081 (by decide +kernel) (by decide +kernel)), (ss_inP (q := (yy_F_draw, 5)) 45 (by decide +kernel) (by decide +kernel)), rfl⟩
theorem km_F_171 : ss_mv sR_9 171 yy_G_lay bb_G_lay 3 none 2 0 := ⟨⟨(ss_in 785 (by decide +kernel) (by decide +kernel)), (ss_in 5 (by decide +kernel) (by decide +kernel)), (ss_in 1087 (by decide +kernel) (by decide +kernel)), by decide +kernel⟩, (ss_in 783 (by decide +kernel) (by decide +kernel)), (ss_in 784 (by decide +kernel) (by decide +kernel)), rfl⟩
theorem km_P_29 : ss_ms sR_10 29 yy_JI_bitCount bb_JI_bitCount 1 (some (.int)) 1 := ⟨⟨(ss_in 756 (by decide +kernel) (by decide +kernel)), (ss_in 20 (by decide +kernel) (by decide +kernel)), (ss_in 890 (by decide +kernel) (by decide +kernel)), by decide +kernel⟩, (ss_in 755 (by decide +kernel) (by decide +kernel))⟩
theorem km_P_35 : ss_mv sR_10 35 yy_P_isOpenByNeed bb_P_isOpenByNeed 7 (some .boolean) 3 10 := ⟨⟨(ss_in 894 (by decide +kernel) (by decide +kernel)), (ss_in 11 (by decide +kernel) (by decide +kernel)), (ss_in 891 (by decide +kernel) (by decide +kernel)), by decide +kernel⟩, (ss_in 893 (by decide +kernel) (by decide +kernel)), (ss_inP (q := (yy_P_isOpenByNeed, 5)) 27 (by decide +kernel) (by decide +kernel)), rfl⟩
theorem km_P_63 : ss_mv sR_10 63 yy_V_isNeeded bb_V_isNeeded 3 (some .boolean) 2 5 := ⟨⟨(ss_in 702 (by decide +kernel) (by decide +kernel)), (ss_in 4 (by decide +kernel) (by decide +kernel)), (ss_in 895 (by decide +kernel) (by decide +kernel)), by decide +kernel⟩, (ss_in 700 (by decide +kernel) (by decide +kernel)), (ss_in 701 (by decide +kernel) (by decide +kernel)), rfl⟩
theorem km_P_73 : ss_mv sR_10 73 yy_P_closedBySweeping bb_P_closedBySweeping 7 (some (.int)) 1 10 := ⟨⟨(ss_in 908 (by decide +kernel) (by decide +kernel)), (ss_in 11 (by decide +kernel) (by decide +kernel)), (ss_in 905 (by decide +kernel) (by decide +kernel)), by decide +kernel⟩, (ss_in 907 (by decide +kernel) (by decide +kernel)), (ss_inP (q := (yy_P_closedBySweeping, 5)) 28 (by decide +kernel) (by decide +kernel)), rfl⟩
theorem km_P_82 : ss_mv sR_10 82 yy_P_spreadCosts bb_P_spreadCosts 5 none 1 10 := ⟨⟨(ss_in 920 (by decide +kernel) (by decide +kernel)), (ss_in 11 (by decide +kernel) (by decide +kernel)), (ss_in 917 (by decide +kernel) (by decide +kernel)), by decide +kernel⟩, (ss_in 919 (by decide +kernel) (by decide +kernel)), (ss_inP (q := (yy_P_spreadCosts, 5)) 29 (by decide +kernel) (by decide +kernel)), rfl⟩
theorem km_P_87 : ss_mv sR_10 87 yy_P_nextOnWay bb_P_nextOnWay 4 (some (.int)) 1 10 := ⟨⟨(ss_in 935 (by decide +kernel) (by decide +kernel)), (ss_in 11 (by decide +kernel) (by decide +kernel)), (ss_in 932 (by decide +kernel) (by decide +kernel)), by decide +kernel⟩, (ss_in 934 (by decide +kernel) (by decide +kernel)), (ss_inP (q := (yy_P_nextOnWay, 5)) 32 (by decide +kernel) (by decide +kernel)), rfl⟩
theorem km_P_90 : ss_mv sR_10 90 yy_Wo_closedBits bb_Wo_closedBits 1 (some (.int)) 0 8 := ⟨⟨(ss_in 690 (by decide +kernel) (by decide +kernel)), (ss_in 7 (by decide +kernel) (by decide +kernel)), (ss_in 925 (by decide +kernel) (by decide +kernel)), by decide +kernel⟩, (ss_in 688 (by decide +kernel) (by decide +kernel)), (ss_in 689 (by decide +kernel) (by decide +kernel)), rfl⟩
theorem km_P_94 : ss_mv sR_10 94 yy_P_weight bb_P_weight 2 (some (.int)) 1 10 := ⟨⟨(ss_in 924 (by decide +kernel) (by decide +kernel)), (ss_in 11 (by decide +kernel) (by decide +kernel)), (ss_in 921 (by decide +kernel) (by decide +kernel)), by decide +kernel⟩, (ss_in 923 (by decide +kernel) (by decide +kernel)), (ss_inP (q := (yy_P_weight, 5)) 30 (by decide +kernel) (by decide +kernel)), rfl⟩
theorem km_P_97 : ss_mv sR_10 97 yy_P_cheapestBeside bb_P_cheapestBeside 4 (some (.int)) 1 10 := ⟨⟨(ss_in 930 (by decide +kernel) (by decide +kernel)), (ss_in 11 (by decide +kernel) (by decide +kernel)), (ss_in 927 (by decide +kernel) (by decide +kernel)), by decide +kernel⟩, (ss_in 929 (by decide +kernel) (by decide +kernel)), (ss_inP (q := (yy_P_cheapestBeside, 5)) 31 (by decide +kernel) (by decide +kernel)), rfl⟩
theorem km_P_112 : ss_mv sR_10 112 yy_P_setCount bb_P_setCount 1 (some (.int)) 0 10 := ⟨⟨(ss_in 947 (by decide +kernel) (by decide +kernel)), (ss_in 11 (by decide +kernel) (by decide +kernel)), (ss_in 944 (by decide +kernel) (by decide +kernel)), by decide +kernel⟩, (ss_in 946 (by decide +kernel) (by decide +kernel)), (ss_inP (q := (yy_P_setCount, 5)) 33 (by decide +kernel) (by decide +kernel)), rfl⟩
theorem km_P_115 : ss_mv sR_10 115 yy_Wi_begin bb_Wi_begin 4 none 2 7 := ⟨⟨(ss_in 734 (by decide +kernel) (by decide +kernel)), (ss_in 9 (by decide +kernel) (by decide +kernel)), (ss_in 948 (by decide +kernel) (by decide +kernel)), by decide +kernel⟩, (ss_in 732 (by decide +kernel) (by decide +kernel)), (ss_in 733 (by decide +kernel) (by decide +kernel)), rfl⟩
theorem km_P_121 : ss_mv sR_10 121 yy_P_sweepAsAgreed bb_P_sweepAsAgreed 4 none 1 10 := ⟨⟨(ss_in 952 (by decide +kernel) (by decide +kernel)), (ss_in 11 (by decide +kernel) (by decide +kernel)), (ss_in 949 (by decide +kernel) (by decide +kernel)), by decide +kernel⟩, (ss_in 951 (by decide +kernel) (by decide +kernel)), (ss_inP (q := (yy_P_sweepAsAgreed, 5)) 34 (by decide +kernel) (by decide +kernel)), rfl⟩
theorem km_P_124 : ss_mv sR_10 124 yy_Wi_passNight bb_Wi_passNight 3 (some (.int)) 0 7 := ⟨⟨(ss_in 790 (by decide +kernel) (by decide +kernel)), (ss_in 9 (by decide +kernel) (by decide +kernel)), (ss_in 954 (by decide +kernel) (by decide +kernel)), by decide +kernel⟩, (ss_in 788 (by decide +kernel) (by decide +kernel)), (ss_in 789 (by decide +kernel) (by decide +kernel)), rfl⟩
theorem km_P_127 : ss_mv sR_10 127 yy_P_addOpen bb_P_addOpen 4 none 1 10 := ⟨⟨(ss_in 958 (by decide +kernel) (by decide +kernel)), (ss_in 11 (by decide +kernel) (by decide +kernel)), (ss_in 955 (by decide +kernel) (by decide +kernel)), by decide +kernel⟩, (ss_in 957 (by decide +kernel) (by decide +kernel)), (ss_inP (q := (yy_P_addOpen, 5)) 35 (by decide +kernel) (by decide +kernel)), rfl⟩
theorem km_P_134 : ss_mv sR_10 134 yy_Wi_sweepBy bb_Wi_sweepBy 5 (some (.int)) 2 7 := ⟨⟨(ss_in 780 (by decide +kernel) (by decide +kernel)), (ss_in 9 (by decide +kernel) (by decide +kernel)), (ss_in 953 (by decide +kernel) (by decide +kernel)), by decide +kernel⟩, (ss_in 778 (by decide +kernel) (by decide +kernel)), (ss_in 779 (by decide +kernel) (by decide +kernel)), rfl⟩
theorem km_P_137 : ss_mv sR_10 137 yy_Wi_closedBits bb_Wi_closedBits 1 (some (.int)) 0 7 := ⟨⟨(ss_in 748 (by decide +kernel) (by decide +kernel)), (ss_in 9 (by decide +kernel) (by decide +kernel)), (ss_in 959 (by decide +kernel) (by decide +kernel)), by decide +kernel⟩, (ss_in 746 (by decide +kernel) (by decide +kernel)), (ss_in 747 (by decide +kernel) (by decide +kernel)), rfl⟩
theorem km_P_138 : ss_mv sR_10 138 yy_P_isPact bb_P_isPact 4 (some .boolean) 1 10 := ⟨⟨(ss_in 978 (by decide +kernel) (by decide +kernel)), (ss_in 11 (by decide +kernel) (by decide +kernel)), (ss_in 975 (by decide +kernel) (by decide +kernel)), by decide +kernel⟩, (ss_in 977 (by decide +kernel) (by decide +kernel)), (ss_inP (q := (yy_P_isPact, 5)) 37 (by decide +kernel) (by decide +kernel)), rfl⟩
theorem km_P_142 : ss_mv sR_10 142 yy_P_sumOf bb_P_sumOf 4 (some (.int)) 1 10 := ⟨⟨(ss_in 967 (by decide +kernel) (by decide +kernel)), (ss_in 11 (by decide +kernel) (by decide +kernel)), (ss_in 964 (by decide +kernel) (by decide +kernel)), by decide +kernel⟩, (ss_in 966 (by decide +kernel) (by decide +kernel)), (ss_inP (q := (yy_P_sumOf, 5)) 36 (by decide +kernel) (by decide +kernel)), rfl⟩
theorem km_Ru_26 : ss_mv sR_1 26 yy_Ru_run bb_Ru_run 9 (some .long) 4 1 := ⟨⟨(ss_in 773 (by decide +kernel) (by decide +kernel)), (ss_in 18 (by decide +kernel) (by decide +kernel)), (ss_in 770 (by decide +kernel) (by decide +kernel)), by decide +kernel⟩, (ss_in 772 (by decide +kernel) (by decide +kernel)), (ss_inP (q := (yy_Ru_run, 3)) 24 (by decide +kernel) (by decide +kernel)), rfl⟩
theorem km_Ru_30 : ss_ms sR_1 30 yy_Ru_join bb_Ru_join 5 (some .long) 3 := ⟨⟨(ss_in 776 (by decide +kernel) (by decide +kernel)), (ss_in 18 (by decide +kernel) (by decide +kernel)), (ss_in 774 (by decide +kernel) (by decide +kernel)), by decide +kernel⟩, (ss_in 775 (by decide +kernel) (by decide +kernel))⟩
theorem km_RR_34 : ss_mv sR_4 34 yy_T_open bb_T_open 1 none 0 2 := ⟨⟨(ss_in 443 (by decide +kernel) (by decide +kernel)), (ss_in 2 (by decide +kernel) (by decide +kernel)), (ss_in 595 (by decide +kernel) (by decide +kernel)), by decide +kernel⟩, (ss_in 441 (by decide +kernel) (by decide +kernel)), (ss_in 442 (by decide +kernel) (by decide +kernel)), rfl⟩
theorem km_RR_37 : ss_mv sR_4 37 yy_RR_begins bb_RR_begins 1 (some .boolean) 0 4 := ⟨⟨(ss_in 599 (by decide +kernel) (by decide +kernel)), (ss_in 6 (by decide +kernel) (by decide +kernel)), (ss_in 596 (by decide +kernel) (by decide +kernel)), by decide +kernel⟩, (ss_in 598 (by decide +kernel) (by decide +kernel)), (ss_inP (q := (yy_RR_begins, 6)) 11 (by decide +kernel) (by decide +kernel)), rfl⟩
theorem km_RR_41 : ss_mv sR_4 41 yy_T_advance bb_T_advance 2 none 0 2 := ⟨⟨(ss_in 447 (by decide +kernel) (by decide +kernel)), (ss_in 2 (by decide +kernel) (by decide +kernel)), (ss_in 608 (by decide +kernel) (by decide +kernel)), by decide +kernel⟩, (ss_in 445 (by decide +kernel) (by decide +kernel)), (ss_in 446 (by decide +kernel) (by decide +kernel)), rfl⟩
theorem km_RR_44 : ss_mv sR_4 44 yy_RR_readSum bb_RR_readSum 5 none 0 4 := ⟨⟨(ss_in 612 (by decide +kernel) (by decide +kernel)), (ss_in 6 (by decide +kernel) (by decide +kernel)), (ss_in 609 (by decide +kernel) (by decide +kernel)), by decide +kernel⟩, (ss_in 611 (by decide +kernel) (by decide +kernel)), (ss_inP (q := (yy_RR_readSum, 6)) 12 (by decide +kernel) (by decide +kernel)), rfl⟩
theorem km_RR_47 : ss_mv sR_4 47 yy_T_isWell bb_T_isWell 1 (some .boolean) 0 2 := ⟨⟨(ss_in 542 (by decide +kernel) (by decide +kernel)), (ss_in 2 (by decide +kernel) (by decide +kernel)), (ss_in 607 (by decide +kernel) (by decide +kernel)), by decide +kernel⟩, (ss_in 540 (by decide +kernel) (by decide +kernel)), (ss_in 541 (by decide +kernel) (by decide +kernel)), rfl⟩
theorem km_RR_52 : ss_mv sR_4 52 yy_T_isWord bb_T_isWord 2 (some .boolean) 1 2 := ⟨⟨(ss_in 604 (by decide +kernel) (by decide +kernel)), (ss_in 2 (by decide +kernel) (by decide +kernel)), (ss_in 601 (by decide +kernel) (by decide +kernel)), by decide +kernel⟩, (ss_in 602 (by decide +kernel) (by decide +kernel)), (ss_in 603 (by decide +kernel) (by decide +kernel)), rfl⟩
theorem km_RR_56 : ss_mv sR_4 56 yy_RR_readTest bb_RR_readTest 5 none 1 4 := ⟨⟨(ss_in 638 (by decide +kernel) (by decide +kernel)), (ss_in 6 (by decide +kernel) (by decide +kernel)), (ss_in 635 (by decide +kernel) (by decide +kernel)), by decide +kernel⟩, (ss_in 637 (by decide +kernel) (by decide +kernel)), (ss_inP (q := (yy_RR_readTest, 6)) 16 (by decide +kernel) (by decide +kernel)), rfl⟩
theorem km_RR_60 : ss_mv sR_4 60 yy_T_goesOn bb_T_goesOn 1 (some .boolean) 0 2 := ⟨⟨(ss_in 570 (by decide +kernel) (by decide +kernel)), (ss_in 2 (by decide +kernel) (by decide +kernel)), (ss_in 657 (by decide +kernel) (by decide +kernel)), by decide +kernel⟩, (ss_in 568 (by decide +kernel) (by decide +kernel)), (ss_in 569 (by decide +kernel) (by decide +kernel)), rfl⟩
theorem km_RR_65 : ss_mi sR_4 65 yy_Ru_init bb_Ru_init 5 4 := ⟨⟨(ss_in 662 (by decide +kernel) (by decide +kernel)), (ss_in 18 (by decide +kernel) (by decide +kernel)), (ss_in 660 (by decide +kernel) (by decide +kernel)), by decide +kernel⟩, rfl, (ss_in 661 (by decide +kernel) (by decide +kernel))⟩
theorem km_RR_70 : ss_mv sR_4 70 yy_T_fail bb_T_fail 2 none 1 2 := ⟨⟨(ss_in 516 (by decide +kernel) (by decide +kernel)), (ss_in 2 (by decide +kernel) (by decide +kernel)), (ss_in 606 (by decide +kernel) (by decide +kernel)), by decide +kernel⟩, (ss_in 514 (by decide +kernel) (by decide +kernel)), (ss_in 515 (by decide +kernel) (by decide +kernel)), rfl⟩
theorem km_RR_73 : ss_mv sR_4 73 yy_RR_readFact bb_RR_readFact 4 none 1 4 := ⟨⟨(ss_in 642 (by decide +kernel) (by decide +kernel)), (ss_in 6 (by decide +kernel) (by decide +kernel)), (ss_in 639 (by decide +kernel) (by decide +kernel)), by decide +kernel⟩, (ss_in 641 (by decide +kernel) (by decide +kernel)), (ss_inP (q := (yy_RR_readFact, 6)) 17 (by decide +kernel) (by decide +kernel)), rfl⟩
theorem km_RR_76 : ss_mv sR_4 76 yy_RR_emit bb_RR_emit 2 none 1 4 := ⟨⟨(ss_in 628 (by decide +kernel) (by decide +kernel)), (ss_in 6 (by decide +kernel) (by decide +kernel)), (ss_in 625 (by decide +kernel) (by decide +kernel)), by decide +kernel⟩, (ss_in 627 (by decide +kernel) (by decide +kernel)), (ss_inP (q := (yy_RR_emit, 6)) 15 (by decide +kernel) (by decide +kernel)), rfl⟩
theorem km_RR_85 : ss_mv sR_4 85 yy_T_isSign bb_T_isSign 2 (some .boolean) 1 2 := ⟨⟨(ss_in 575 (by decide +kernel) (by decide +kernel)), (ss_in 2 (by decide +kernel) (by decide +kernel)), (ss_in 644 (by decide +kernel) (by decide +kernel)), by decide +kernel⟩, (ss_in 573 (by decide +kernel) (by decide +kernel)), (ss_in 574 (by decide +kernel) (by decide +kernel)), rfl⟩
theorem km_RR_89 : ss_mv sR_4 89 yy_RR_readWithin bb_RR_readWithin 3 none 2 4 := ⟨⟨(ss_in 648 (by decide +kernel) (by decide +kernel)), (ss_in 6 (by decide +kernel) (by decide +kernel)), (ss_in 645 (by decide +kernel) (by decide +kernel)), by decide +kernel⟩, (ss_in 647 (by decide +kernel) (by decide +kernel)), (ss_inP (q := (yy_RR_readWithin, 6)) 18 (by decide +kernel) (by decide +kernel)), rfl⟩
theorem km_RR_93 : ss_mv sR_4 93 yy_T_comparison bb_T_comparison 2 (some (.int)) 0 2 := ⟨⟨(ss_in 652 (by decide +kernel) (by decide +kernel)), (ss_in 2 (by decide +kernel) (by decide +kernel)), (ss_in 649 (by decide +kernel) (by decide +kernel)), by decide +kernel⟩, (ss_in 650 (by decide +kernel) (by decide +kernel)), (ss_in 651 (by decide +kernel) (by decide +kernel)), rfl⟩
theorem km_RR_97 : ss_mv sR_4 97 yy_RR_countPart bb_RR_countPart 1 none 0 4 := ⟨⟨(ss_in 624 (by decide +kernel) (by decide +kernel)), (ss_in 6 (by decide +kernel) (by decide +kernel)), (ss_in 621 (by decide +kernel) (by decide +kernel)), by decide +kernel⟩, (ss_in 623 (by decide +kernel) (by decide +kernel)), (ss_inP (q := (yy_RR_countPart, 6)) 14 (by decide +kernel) (by decide +kernel)), rfl⟩
theorem km_RR_100 : ss_mv sR_4 100 yy_RR_readValue bb_RR_readValue 3 none 0 4 := ⟨⟨(ss_in 616 (by decide +kernel) (by decide +kernel)), (ss_in 6 (by decide +kernel) (by decide +kernel)), (ss_in 613 (by decide +kernel) (by decide +kernel)), by decide +kernel⟩, (ss_in 615 (by decide +kernel) (by decide +kernel)), (ss_inP (q := (yy_RR_readValue, 6)) 13 (by decide +kernel) (by decide +kernel)), rfl⟩
theorem km_RR_105 : ss_mv sR_4 105 yy_T_signIn bb_T_signIn 3 (some (.int)) 1 2 := ⟨⟨(ss_in 633 (by decide +kernel) (by decide +kernel)), (ss_in 2 (by decide +kernel) (by decide +kernel)), (ss_in 630 (by decide +kernel) (by decide +kernel)), by decide +kernel⟩, (ss_in 631 (by decide +kernel) (by decide +kernel)), (ss_in 632 (by decide +kernel) (by decide +kernel)), rfl⟩
theorem km_RR_109 : ss_mv sR_4 109 yy_T_isDigits bb_T_isDigits 1 (some .boolean) 0 2 := ⟨⟨(ss_in 533 (by decide +kernel) (by decide +kernel)), (ss_in 2 (by decide +kernel) (by decide +kernel)), (ss_in 617 (by decide +kernel) (by decide +kernel)), by decide +kernel⟩, (ss_in 531 (by decide +kernel) (by decide +kernel)), (ss_in 532 (by decide +kernel) (by decide +kernel)), rfl⟩
theorem km_RR_112 : ss_mv sR_4 112 yy_T_digits bb_T_digits 3 (some (.int)) 0 2 := ⟨⟨(ss_in 538 (by decide +kernel) (by decide +kernel)), (ss_in 2 (by decide +kernel) (by decide +kernel)), (ss_in 618 (by decide +kernel) (by decide +kernel)), by decide +kernel⟩, (ss_in 536 (by decide +kernel) (by decide +kernel)), (ss_in 537 (by decide +kernel) (by decide +kernel)), rfl⟩
theorem km_RR_117 : ss_mv sR_4 117 yy_T_wordIn bb_T_wordIn 7 (some (.int)) 1 2 := ⟨⟨(ss_in 464 (by decide +kernel) (by decide +kernel)), (ss_in 2 (by decide +kernel) (by decide +kernel)), (ss_in 620 (by decide +kernel) (by decide +kernel)), by decide +kernel⟩, (ss_in 462 (by decide +kernel) (by decide +kernel)), (ss_in 463 (by decide +kernel) (by decide +kernel)), rfl⟩
theorem km_T_25 : ss_mv sR_2 25 yy_T_advance bb_T_advance 2 none 0 2 := ⟨⟨(ss_in 447 (by decide +kernel) (by decide +kernel)), (ss_in 2 (by decide +kernel) (by decide +kernel)), (ss_in 444 (by decide +kernel) (by decide +kernel)), by decide +kernel⟩, (ss_in 445 (by decide +kernel) (by decide +kernel)), (ss_in 446 (by decide +kernel) (by decide +kernel)), rfl⟩
theorem km_T_34 : ss_mv sR_2 34 yy_T_isLetter bb_T_isLetter 2 (some .boolean) 1 2 := ⟨⟨(ss_in 451 (by decide +kernel) (by decide +kernel)), (ss_in 2 (by decide +kernel) (by decide +kernel)), (ss_in 448 (by decide +kernel) (by decide +kernel)), by decide +kernel⟩, (ss_in 450 (by decide +kernel) (by decide +kernel)), (ss_inP (q := (yy_T_isLetter, 6)) 0 (by decide +kernel) (by decide +kernel)), rfl⟩
theorem km_T_38 : ss_mv sR_2 38 yy_T_isDigit bb_T_isDigit 2 (some .boolean) 1 2 := ⟨⟨(ss_in 455 (by decide +kernel) (by decide +kernel)), (ss_in 2 (by decide +kernel) (by decide +kernel)), (ss_in 452 (by decide +kernel) (by decide +kernel)), by decide +kernel⟩, (ss_in 454 (by decide +kernel) (by decide +kernel)), (ss_inP (q := (yy_T_isDigit, 6)) 1 (by decide +kernel) (by decide +kernel)), rfl⟩
theorem km_T_50 : ss_mv sR_2 50 yy_T_isSign bb_T_isSign 2 (some .boolean) 1 2 := ⟨⟨(ss_in 575 (by decide +kernel) (by decide +kernel)), (ss_in 2 (by decide +kernel) (by decide +kernel)), (ss_in 572 (by decide +kernel) (by decide +kernel)), by decide +kernel⟩, (ss_in 573 (by decide +kernel) (by decide +kernel)), (ss_in 574 (by decide +kernel) (by decide +kernel)), rfl⟩
theorem km_T_56 : ss_mv sR_2 56 yy_T_signIn bb_T_signIn 3 (some (.int)) 1 2 := ⟨⟨(ss_in 633 (by decide +kernel) (by decide +kernel)), (ss_in 2 (by decide +kernel) (by decide +kernel)), (ss_in 654 (by decide +kernel) (by decide +kernel)), by decide +kernel⟩, (ss_in 631 (by decide +kernel) (by decide +kernel)), (ss_in 632 (by decide +kernel) (by decide +kernel)), rfl⟩
theorem km_T_60 : ss_mv sR_2 60 yy_T_wordIn bb_T_wordIn 7 (some (.int)) 1 2 := ⟨⟨(ss_in 464 (by decide +kernel) (by decide +kernel)), (ss_in 2 (by decide +kernel) (by decide +kernel)), (ss_in 605 (by decide +kernel) (by decide +kernel)), by decide +kernel⟩, (ss_in 462 (by decide +kernel) (by decide +kernel)), (ss_in 463 (by decide +kernel) (by decide +kernel)), rfl⟩
theorem km_T_63 : ss_mv sR_2 63 yy_T_isDigits bb_T_isDigits 1 (some .boolean) 0 2 := ⟨⟨(ss_in 533 (by decide +kernel) (by decide +kernel)), (ss_in 2 (by decide +kernel) (by decide +kernel)), (ss_in 530 (by decide +kernel) (by decide +kernel)), by decide +kernel⟩, (ss_in 531 (by decide +kernel) (by decide +kernel)), (ss_in 532 (by decide +kernel) (by decide +kernel)), rfl⟩
theorem km_T_67 : ss_mv sR_2 67 yy_T_fail bb_T_fail 2 none 1 2 := ⟨⟨(ss_in 516 (by decide +kernel) (by decide +kernel)), (ss_in 2 (by decide +kernel) (by decide +kernel)), (ss_in 534 (by decide +kernel) (by decide +kernel)), by decide +kernel⟩, (ss_in 514 (by decide +kernel) (by decide +kernel)), (ss_in 515 (by decide +kernel) (by decide +kernel)), rfl⟩
theorem km_T_71 : ss_mv sR_2 71 yy_T_digits bb_T_digits 3 (some (.int)) 0 2 := ⟨⟨(ss_in 538 (by decide +kernel) (by decide +kernel)), (ss_in 2 (by decide +kernel) (by decide +kernel)), (ss_in 535 (by decide +kernel) (by decide +kernel)), by decide +kernel⟩, (ss_in 536 (by decide +kernel) (by decide +kernel)), (ss_in 537 (by decide +kernel) (by decide +kernel)), rfl⟩
theorem km_T_74 : ss_mv sR_2 74 yy_T_isWell bb_T_isWell 1 (some .boolean) 0 2 := ⟨⟨(ss_in 542 (by decide +kernel) (by decide +kernel)), (ss_in 2 (by decide +kernel) (by decide +kernel)), (ss_in 571 (by decide +kernel) (by decide +kernel)), by decide +kernel⟩, (ss_in 540 (by decide +kernel) (by decide +kernel)), (ss_in 541 (by decide +kernel) (by decide +kernel)), rfl⟩
theorem km_V_26 : ss_mi sR_5 26 yy_G_init bb_G_init 2 0 := ⟨⟨(ss_in 73 (by decide +kernel) (by decide +kernel)), (ss_in 5 (by decide +kernel) (by decide +kernel)), (ss_in 71 (by decide +kernel) (by decide +kernel)), by decide +kernel⟩, rfl, (ss_in 72 (by decide +kernel) (by decide +kernel))⟩
theorem km_V_54 : ss_mv sR_5 54 yy_G_copyFrom bb_G_copyFrom 2 none 1 0 := ⟨⟨(ss_in 438 (by decide +kernel) (by decide +kernel)), (ss_in 5 (by decide +kernel) (by decide +kernel)), (ss_in 435 (by decide +kernel) (by decide +kernel)), by decide +kernel⟩, (ss_in 436 (by decide +kernel) (by decide +kernel)), (ss_in 437 (by decide +kernel) (by decide +kernel)), rfl⟩
theorem km_V_58 : ss_mv sR_5 58 yy_V_isNeeded bb_V_isNeeded 3 (some .boolean) 2 5 := ⟨⟨(ss_in 702 (by decide +kernel) (by decide +kernel)), (ss_in 4 (by decide +kernel) (by decide +kernel)), (ss_in 699 (by decide +kernel) (by decide +kernel)), by decide +kernel⟩, (ss_in 700 (by decide +kernel) (by decide +kernel)), (ss_in 701 (by decide +kernel) (by decide +kernel)), rfl⟩
theorem km_V_62 : ss_ms sR_5 62 yy_JI_bitCount bb_JI_bitCount 1 (some (.int)) 1 := ⟨⟨(ss_in 756 (by decide +kernel) (by decide +kernel)), (ss_in 20 (by decide +kernel) (by decide +kernel)), (ss_in 765 (by decide +kernel) (by decide +kernel)), by decide +kernel⟩, (ss_in 755 (by decide +kernel) (by decide +kernel))⟩
theorem km_VR_11 : ss_mn sR_6 11 yy_V_init "SweptSnow" bb_V_init 1 0 := ⟨(ss_in 67 (by decide +kernel) (by decide +kernel)), (ss_in 4 (by decide +kernel) (by decide +kernel)), fun U h => h.2.1, by decide +kernel, rfl, (ss_in 66 (by decide +kernel) (by decide +kernel))⟩
theorem km_VR_25 : ss_mv sR_6 25 yy_V_copyFrom bb_V_copyFrom 2 none 1 5 := ⟨⟨(ss_in 431 (by decide +kernel) (by decide +kernel)), (ss_in 4 (by decide +kernel) (by decide +kernel)), (ss_in 428 (by decide +kernel) (by decide +kernel)), by decide +kernel⟩, (ss_in 429 (by decide +kernel) (by decide +kernel)), (ss_in 430 (by decide +kernel) (by decide +kernel)), rfl⟩
theorem km_VR_32 : ss_mv sR_6 32 yy_T_open bb_T_open 1 none 0 2 := ⟨⟨(ss_in 443 (by decide +kernel) (by decide +kernel)), (ss_in 2 (by decide +kernel) (by decide +kernel)), (ss_in 440 (by decide +kernel) (by decide +kernel)), by decide +kernel⟩, (ss_in 441 (by decide +kernel) (by decide +kernel)), (ss_in 442 (by decide +kernel) (by decide +kernel)), rfl⟩
theorem km_VR_37 : ss_mv sR_6 37 yy_VR_readClause bb_VR_readClause 3 none 1 6 := ⟨⟨(ss_in 459 (by decide +kernel) (by decide +kernel)), (ss_in 3 (by decide +kernel) (by decide +kernel)), (ss_in 456 (by decide +kernel) (by decide +kernel)), by decide +kernel⟩, (ss_in 458 (by decide +kernel) (by decide +kernel)), (ss_inP (q := (yy_VR_readClause, 3)) 2 (by decide +kernel) (by decide +kernel)), rfl⟩
theorem km_VR_41 : ss_mv sR_6 41 yy_T_goesOn bb_T_goesOn 1 (some .boolean) 0 2 := ⟨⟨(ss_in 570 (by decide +kernel) (by decide +kernel)), (ss_in 2 (by decide +kernel) (by decide +kernel)), (ss_in 567 (by decide +kernel) (by decide +kernel)), by decide +kernel⟩, (ss_in 568 (by decide +kernel) (by decide +kernel)), (ss_in 569 (by decide +kernel) (by decide +kernel)), rfl⟩
theorem km_VR_45 : ss_mv sR_6 45 yy_T_isWell bb_T_isWell 1 (some .boolean) 0 2 := ⟨⟨(ss_in 542 (by decide +kernel) (by decide +kernel)), (ss_in 2 (by decide +kernel) (by decide +kernel)), (ss_in 539 (by decide +kernel) (by decide +kernel)), by decide +kernel⟩, (ss_in 540 (by decide +kernel) (by decide +kernel)), (ss_in 541 (by decide +kernel) (by decide +kernel)), rfl⟩
theorem km_VR_50 : ss_mv sR_6 50 yy_T_wordIn bb_T_wordIn 7 (some (.int)) 1 2 := ⟨⟨(ss_in 464 (by decide +kernel) (by decide +kernel)), (ss_in 2 (by decide +kernel) (by decide +kernel)), (ss_in 461 (by decide +kernel) (by decide +kernel)), by decide +kernel⟩, (ss_in 462 (by decide +kernel) (by decide +kernel)), (ss_in 463 (by decide +kernel) (by decide +kernel)), rfl⟩
theorem km_VR_54 : ss_mv sR_6 54 yy_T_fail bb_T_fail 2 none 1 2 := ⟨⟨(ss_in 516 (by decide +kernel) (by decide +kernel)), (ss_in 2 (by decide +kernel) (by decide +kernel)), (ss_in 513 (by decide +kernel) (by decide +kernel)), by decide +kernel⟩, (ss_in 514 (by decide +kernel) (by decide +kernel)), (ss_in 515 (by decide +kernel) (by decide +kernel)), rfl⟩
theorem km_VR_57 : ss_mv sR_6 57 yy_VR_mayStand bb_VR_mayStand 3 (some .boolean) 2 6 := ⟨⟨(ss_in 520 (by decide +kernel) (by decide +kernel)), (ss_in 3 (by decide +kernel) (by decide +kernel)), (ss_in 517 (by decide +kernel) (by decide +kernel)), by decide +kernel⟩, (ss_in 519 (by decide +kernel) (by decide +kernel)), (ss_inP (q := (yy_VR_mayStand, 3)) 3 (by decide +kernel) (by decide +kernel)), rfl⟩
theorem km_VR_61 : ss_mv sR_6 61 yy_T_advance bb_T_advance 2 none 0 2 := ⟨⟨(ss_in 447 (by decide +kernel) (by decide +kernel)), (ss_in 2 (by decide +kernel) (by decide +kernel)), (ss_in 521 (by decide +kernel) (by decide +kernel)), by decide +kernel⟩, (ss_in 445 (by decide +kernel) (by decide +kernel)), (ss_in 446 (by decide +kernel) (by decide +kernel)), rfl⟩
theorem km_VR_64 : ss_mv sR_6 64 yy_VR_readMeasures bb_VR_readMeasures 1 none 0 6 := ⟨⟨(ss_in 525 (by decide +kernel) (by decide +kernel)), (ss_in 3 (by decide +kernel) (by decide +kernel)), (ss_in 522 (by decide +kernel) (by decide +kernel)), by decide +kernel⟩, (ss_in 524 (by decide +kernel) (by decide +kernel)), (ss_inP (q := (yy_VR_readMeasures, 3)) 4 (by decide +kernel) (by decide +kernel)), rfl⟩
theorem km_VR_67 : ss_mv sR_6 67 yy_VR_readStep bb_VR_readStep 2 none 0 6 := ⟨⟨(ss_in 546 (by decide +kernel) (by decide +kernel)), (ss_in 3 (by decide +kernel) (by decide +kernel)), (ss_in 543 (by decide +kernel) (by decide +kernel)), by decide +kernel⟩, (ss_in 545 (by decide +kernel) (by decide +kernel)), (ss_inP (q := (yy_VR_readStep, 3)) 5 (by decide +kernel) (by decide +kernel)), rfl⟩
theorem km_VR_70 : ss_mv sR_6 70 yy_VR_readHouse bb_VR_readHouse 3 none 0 6 := ⟨⟨(ss_in 550 (by decide +kernel) (by decide +kernel)), (ss_in 3 (by decide +kernel) (by decide +kernel)), (ss_in 547 (by decide +kernel) (by decide +kernel)), by decide +kernel⟩, (ss_in 549 (by decide +kernel) (by decide +kernel)), (ss_inP (q := (yy_VR_readHouse, 3)) 6 (by decide +kernel) (by decide +kernel)), rfl⟩
theorem km_VR_73 : ss_mv sR_6 73 yy_VR_readPath bb_VR_readPath 3 none 0 6 := ⟨⟨(ss_in 558 (by decide +kernel) (by decide +kernel)), (ss_in 3 (by decide +kernel) (by decide +kernel)), (ss_in 555 (by decide +kernel) (by decide +kernel)), by decide +kernel⟩, (ss_in 557 (by decide +kernel) (by decide +kernel)), (ss_inP (q := (yy_VR_readPath, 3)) 8 (by decide +kernel) (by decide +kernel)), rfl⟩
theorem km_VR_76 : ss_mv sR_6 76 yy_VR_readWall bb_VR_readWall 3 none 0 6 := ⟨⟨(ss_in 562 (by decide +kernel) (by decide +kernel)), (ss_in 3 (by decide +kernel) (by decide +kernel)), (ss_in 559 (by decide +kernel) (by decide +kernel)), by decide +kernel⟩, (ss_in 561 (by decide +kernel) (by decide +kernel)), (ss_inP (q := (yy_VR_readWall, 3)) 9 (by decide +kernel) (by decide +kernel)), rfl⟩
theorem km_VR_79 : ss_mv sR_6 79 yy_VR_readNeed bb_VR_readNeed 3 none 0 6 := ⟨⟨(ss_in 566 (by decide +kernel) (by decide +kernel)), (ss_in 3 (by decide +kernel) (by decide +kernel)), (ss_in 563 (by decide +kernel) (by decide +kernel)), by decide +kernel⟩, (ss_in 565 (by decide +kernel) (by decide +kernel)), (ss_inP (q := (yy_VR_readNeed, 3)) 10 (by decide +kernel) (by decide +kernel)), rfl⟩
theorem km_VR_89 : ss_mv sR_6 89 yy_T_number bb_T_number 5 (some (.int)) 3 2 := ⟨⟨(ss_in 529 (by decide +kernel) (by decide +kernel)), (ss_in 2 (by decide +kernel) (by decide +kernel)), (ss_in 526 (by decide +kernel) (by decide +kernel)), by decide +kernel⟩, (ss_in 527 (by decide +kernel) (by decide +kernel)), (ss_in 528 (by decide +kernel) (by decide +kernel)), rfl⟩
theorem km_VR_109 : ss_mv sR_6 109 yy_VR_readToldStep bb_VR_readToldStep 2 (some (.int)) 1 6 := ⟨⟨(ss_in 554 (by decide +kernel) (by decide +kernel)), (ss_in 3 (by decide +kernel) (by decide +kernel)), (ss_in 551 (by decide +kernel) (by decide +kernel)), by decide +kernel⟩, (ss_in 553 (by decide +kernel) (by decide +kernel)), (ss_inP (q := (yy_VR_readToldStep, 3)) 7 (by decide +kernel) (by decide +kernel)), rfl⟩
theorem km_Wi_11 : ss_mi sR_7 11 yy_G_init bb_G_init 2 0 := ⟨⟨(ss_in 73 (by decide +kernel) (by decide +kernel)), (ss_in 5 (by decide +kernel) (by decide +kernel)), (ss_in 296 (by decide +kernel) (by decide +kernel)), by decide +kernel⟩, rfl, (ss_in 72 (by decide +kernel) (by decide +kernel))⟩
theorem km_Wi_45 : ss_mv sR_7 45 yy_G_copyFrom bb_G_copyFrom 2 none 1 0 := ⟨⟨(ss_in 438 (by decide +kernel) (by decide +kernel)), (ss_in 5 (by decide +kernel) (by decide +kernel)), (ss_in 735 (by decide +kernel) (by decide +kernel)), by decide +kernel⟩, (ss_in 436 (by decide +kernel) (by decide +kernel)), (ss_in 437 (by decide +kernel) (by decide +kernel)), rfl⟩
theorem km_Wi_58 : ss_mv sR_7 58 yy_V_closedBits bb_V_closedBits 4 (some (.int)) 1 5 := ⟨⟨(ss_in 694 (by decide +kernel) (by decide +kernel)), (ss_in 4 (by decide +kernel) (by decide +kernel)), (ss_in 749 (by decide +kernel) (by decide +kernel)), by decide +kernel⟩, (ss_in 692 (by decide +kernel) (by decide +kernel)), (ss_in 693 (by decide +kernel) (by decide +kernel)), rfl⟩
theorem km_Wi_81 : ss_mv sR_7 81 yy_G_lay bb_G_lay 3 none 2 0 := ⟨⟨(ss_in 785 (by decide +kernel) (by decide +kernel)), (ss_in 5 (by decide +kernel) (by decide +kernel)), (ss_in 782 (by decide +kernel) (by decide +kernel)), by decide +kernel⟩, (ss_in 783 (by decide +kernel) (by decide +kernel)), (ss_in 784 (by decide +kernel) (by decide +kernel)), rfl⟩
theorem km_Wi_88 : ss_mv sR_7 88 yy_Wi_choice bb_Wi_choice 9 (some (.int)) 1 7 := ⟨⟨(ss_in 744 (by decide +kernel) (by decide +kernel)), (ss_in 9 (by decide +kernel) (by decide +kernel)), (ss_in 741 (by decide +kernel) (by decide +kernel)), by decide +kernel⟩, (ss_in 743 (by decide +kernel) (by decide +kernel)), (ss_inP (q := (yy_Wi_choice, 8)) 22 (by decide +kernel) (by decide +kernel)), rfl⟩
theorem km_Wi_92 : ss_mv sR_7 92 yy_Wi_sweepBy bb_Wi_sweepBy 5 (some (.int)) 2 7 := ⟨⟨(ss_in 780 (by decide +kernel) (by decide +kernel)), (ss_in 9 (by decide +kernel) (by decide +kernel)), (ss_in 777 (by decide +kernel) (by decide +kernel)), by decide +kernel⟩, (ss_in 778 (by decide +kernel) (by decide +kernel)), (ss_in 779 (by decide +kernel) (by decide +kernel)), rfl⟩
theorem km_Wi_95 : ss_mv sR_7 95 yy_Wi_passNight bb_Wi_passNight 3 (some (.int)) 0 7 := ⟨⟨(ss_in 790 (by decide +kernel) (by decide +kernel)), (ss_in 9 (by decide +kernel) (by decide +kernel)), (ss_in 787 (by decide +kernel) (by decide +kernel)), by decide +kernel⟩, (ss_in 788 (by decide +kernel) (by decide +kernel)), (ss_in 789 (by decide +kernel) (by decide +kernel)), rfl⟩
theorem km_Wi_111 : ss_mv sR_7 111 yy_Wi_closedBits bb_Wi_closedBits 1 (some (.int)) 0 7 := ⟨⟨(ss_in 748 (by decide +kernel) (by decide +kernel)), (ss_in 9 (by decide +kernel) (by decide +kernel)), (ss_in 745 (by decide +kernel) (by decide +kernel)), by decide +kernel⟩, (ss_in 746 (by decide +kernel) (by decide +kernel)), (ss_in 747 (by decide +kernel) (by decide +kernel)), rfl⟩
theorem km_Wi_116 : ss_mv sR_7 116 yy_Wi_lookAt bb_Wi_lookAt 4 none 3 7 := ⟨⟨(ss_in 753 (by decide +kernel) (by decide +kernel)), (ss_in 9 (by decide +kernel) (by decide +kernel)), (ss_in 750 (by decide +kernel) (by decide +kernel)), by decide +kernel⟩, (ss_in 752 (by decide +kernel) (by decide +kernel)), (ss_inP (q := (yy_Wi_lookAt, 8)) 23 (by decide +kernel) (by decide +kernel)), rfl⟩
theorem km_Wi_120 : ss_mv sR_7 120 yy_Ru_worth bb_Ru_worth 7 (some .long) 2 1 := ⟨⟨(ss_in 769 (by decide +kernel) (by decide +kernel)), (ss_in 18 (by decide +kernel) (by decide +kernel)), (ss_in 766 (by decide +kernel) (by decide +kernel)), by decide +kernel⟩, (ss_in 767 (by decide +kernel) (by decide +kernel)), (ss_in 768 (by decide +kernel) (by decide +kernel)), rfl⟩
theorem km_Wi_124 : ss_ms sR_7 124 yy_JI_bitCount bb_JI_bitCount 1 (some (.int)) 1 := ⟨⟨(ss_in 756 (by decide +kernel) (by decide +kernel)), (ss_in 20 (by decide +kernel) (by decide +kernel)), (ss_in 754 (by decide +kernel) (by decide +kernel)), by decide +kernel⟩, (ss_in 755 (by decide +kernel) (by decide +kernel))⟩
theorem km_Wi_129 : ss_mv sR_7 129 yy_V_isNeeded bb_V_isNeeded 3 (some .boolean) 2 5 := ⟨⟨(ss_in 702 (by decide +kernel) (by decide +kernel)), (ss_in 4 (by decide +kernel) (by decide +kernel)), (ss_in 760 (by decide +kernel) (by decide +kernel)), by decide +kernel⟩, (ss_in 700 (by decide +kernel) (by decide +kernel)), (ss_in 701 (by decide +kernel) (by decide +kernel)), rfl⟩
theorem km_Wi_133 : ss_mv sR_7 133 yy_V_daysToNeed bb_V_daysToNeed 4 (some (.int)) 2 5 := ⟨⟨(ss_in 764 (by decide +kernel) (by decide +kernel)), (ss_in 4 (by decide +kernel) (by decide +kernel)), (ss_in 761 (by decide +kernel) (by decide +kernel)), by decide +kernel⟩, (ss_in 762 (by decide +kernel) (by decide +kernel)), (ss_in 763 (by decide +kernel) (by decide +kernel)), rfl⟩
theorem km_Wo_11 : ss_mn sR_8 11 yy_V_init "SweptSnow" bb_V_init 1 0 := ⟨(ss_in 67 (by decide +kernel) (by decide +kernel)), (ss_in 4 (by decide +kernel) (by decide +kernel)), fun U h => h.2.2.2, by decide +kernel, rfl, (ss_in 66 (by decide +kernel) (by decide +kernel))⟩
theorem km_Wo_20 : ss_mi sR_8 20 yy_G_init bb_G_init 2 0 := ⟨⟨(ss_in 73 (by decide +kernel) (by decide +kernel)), (ss_in 5 (by decide +kernel) (by decide +kernel)), (ss_in 227 (by decide +kernel) (by decide +kernel)), by decide +kernel⟩, rfl, (ss_in 72 (by decide +kernel) (by decide +kernel))⟩
theorem km_Wo_39 : ss_mv sR_8 39 yy_V_copyFrom bb_V_copyFrom 2 none 1 5 := ⟨⟨(ss_in 431 (by decide +kernel) (by decide +kernel)), (ss_in 4 (by decide +kernel) (by decide +kernel)), (ss_in 580 (by decide +kernel) (by decide +kernel)), by decide +kernel⟩, (ss_in 429 (by decide +kernel) (by decide +kernel)), (ss_in 430 (by decide +kernel) (by decide +kernel)), rfl⟩
theorem km_Wo_46 : ss_mv sR_8 46 yy_G_copyFrom bb_G_copyFrom 2 none 1 0 := ⟨⟨(ss_in 438 (by decide +kernel) (by decide +kernel)), (ss_in 5 (by decide +kernel) (by decide +kernel)), (ss_in 581 (by decide +kernel) (by decide +kernel)), by decide +kernel⟩, (ss_in 436 (by decide +kernel) (by decide +kernel)), (ss_in 437 (by decide +kernel) (by decide +kernel)), rfl⟩
theorem km_Wo_61 : ss_mv sR_8 61 yy_V_closedBits bb_V_closedBits 4 (some (.int)) 1 5 := ⟨⟨(ss_in 694 (by decide +kernel) (by decide +kernel)), (ss_in 4 (by decide +kernel) (by decide +kernel)), (ss_in 691 (by decide +kernel) (by decide +kernel)), by decide +kernel⟩, (ss_in 692 (by decide +kernel) (by decide +kernel)), (ss_in 693 (by decide +kernel) (by decide +kernel)), rfl⟩
theorem km_M_89 : ss_mv sR_12 89 yy_M_four bb_M_four 3 none 1 12 := ⟨⟨(ss_in 1240 (by decide +kernel) (by decide +kernel)), (ss_in 12 (by decide +kernel) (by decide +kernel)), (ss_in 1237 (by decide +kernel) (by decide +kernel)), by decide +kernel⟩, (ss_in 1239 (by decide +kernel) (by decide +kernel)), (ss_inP (q := (yy_M_four, 40)) 46 (by decide +kernel) (by decide +kernel)), rfl⟩
theorem km_M_99 : ss_mv sR_12 99 yy_M_see bb_M_see 1 (some (.int)) 0 12 := ⟨⟨(ss_in 1260 (by decide +kernel) (by decide +kernel)), (ss_in 12 (by decide +kernel) (by decide +kernel)), (ss_in 1257 (by decide +kernel) (by decide +kernel)), by decide +kernel⟩, (ss_in 1259 (by decide +kernel) (by decide +kernel)), (ss_inP (q := (yy_M_see, 40)) 49 (by decide +kernel) (by decide +kernel)), rfl⟩
theorem km_M_103 : ss_mv sR_12 103 yy_M_isLetter bb_M_isLetter 2 (some .boolean) 1 12 := ⟨⟨(ss_in 1273 (by decide +kernel) (by decide +kernel)), (ss_in 12 (by decide +kernel) (by decide +kernel)), (ss_in 1270 (by decide +kernel) (by decide +kernel)), by decide +kernel⟩, (ss_in 1272 (by decide +kernel) (by decide +kernel)), (ss_inP (q := (yy_M_isLetter, 40)) 52 (by decide +kernel) (by decide +kernel)), rfl⟩
theorem km_M_107 : ss_mv sR_12 107 yy_M_isWord bb_M_isWord 6 (some .boolean) 1 12 := ⟨⟨(ss_in 1269 (by decide +kernel) (by decide +kernel)), (ss_in 12 (by decide +kernel) (by decide +kernel)), (ss_in 1266 (by decide +kernel) (by decide +kernel)), by decide +kernel⟩, (ss_in 1268 (by decide +kernel) (by decide +kernel)), (ss_inP (q := (yy_M_isWord, 40)) 51 (by decide +kernel) (by decide +kernel)), rfl⟩
theorem km_M_111 : ss_mv sR_12 111 yy_M_passWord bb_M_passWord 1 none 0 12 := ⟨⟨(ss_in 1295 (by decide +kernel) (by decide +kernel)), (ss_in 12 (by decide +kernel) (by decide +kernel)), (ss_in 1292 (by decide +kernel) (by decide +kernel)), by decide +kernel⟩, (ss_in 1294 (by decide +kernel) (by decide +kernel)), (ss_inP (q := (yy_M_passWord, 40)) 56 (by decide +kernel) (by decide +kernel)), rfl⟩
theorem km_M_114 : ss_mv sR_12 114 yy_M_isDigit bb_M_isDigit 2 (some .boolean) 1 12 := ⟨⟨(ss_in 1307 (by decide +kernel) (by decide +kernel)), (ss_in 12 (by decide +kernel) (by decide +kernel)), (ss_in 1304 (by decide +kernel) (by decide +kernel)), by decide +kernel⟩, (ss_in 1306 (by decide +kernel) (by decide +kernel)), (ss_inP (q := (yy_M_isDigit, 40)) 59 (by decide +kernel) (by decide +kernel)), rfl⟩
theorem km_M_117 : ss_mv sR_12 117 yy_M_fails bb_M_fails 3 (some .boolean) 2 12 := ⟨⟨(ss_in 1283 (by decide +kernel) (by decide +kernel)), (ss_in 12 (by decide +kernel) (by decide +kernel)), (ss_in 1280 (by decide +kernel) (by decide +kernel)), by decide +kernel⟩, (ss_in 1282 (by decide +kernel) (by decide +kernel)), (ss_inP (q := (yy_M_fails, 40)) 53 (by decide +kernel) (by decide +kernel)), rfl⟩
theorem km_M_124 : ss_ms sR_12 124 yy_M_in bb_M_in 6 (some .boolean) 3 := ⟨⟨(ss_in 1310 (by decide +kernel) (by decide +kernel)), (ss_in 12 (by decide +kernel) (by decide +kernel)), (ss_in 1308 (by decide +kernel) (by decide +kernel)), by decide +kernel⟩, (ss_in 1309 (by decide +kernel) (by decide +kernel))⟩
theorem km_M_164 : ss_ms sR_12 164 yy_M_strength bb_M_strength 1 (some (.int)) 1 := ⟨⟨(ss_in 1406 (by decide +kernel) (by decide +kernel)), (ss_in 12 (by decide +kernel) (by decide +kernel)), (ss_in 1404 (by decide +kernel) (by decide +kernel)), by decide +kernel⟩, (ss_in 1405 (by decide +kernel) (by decide +kernel))⟩
theorem km_M_168 : ss_mv sR_12 168 yy_M_puts bb_M_puts 3 none 2 12 := ⟨⟨(ss_in 1359 (by decide +kernel) (by decide +kernel)), (ss_in 12 (by decide +kernel) (by decide +kernel)), (ss_in 1356 (by decide +kernel) (by decide +kernel)), by decide +kernel⟩, (ss_in 1358 (by decide +kernel) (by decide +kernel)), (ss_inP (q := (yy_M_puts, 40)) 71 (by decide +kernel) (by decide +kernel)), rfl⟩
theorem km_M_173 : ss_mv sR_12 173 yy_M_numberHere bb_M_numberHere 5 (some .boolean) 2 12 := ⟨⟨(ss_in 1303 (by decide +kernel) (by decide +kernel)), (ss_in 12 (by decide +kernel) (by decide +kernel)), (ss_in 1300 (by decide +kernel) (by decide +kernel)), by decide +kernel⟩, (ss_in 1302 (by decide +kernel) (by decide +kernel)), (ss_inP (q := (yy_M_numberHere, 40)) 58 (by decide +kernel) (by decide +kernel)), rfl⟩
theorem km_M_176 : ss_mv sR_12 176 yy_M_makes bb_M_makes 2 (some .boolean) 1 12 := ⟨⟨(ss_in 1355 (by decide +kernel) (by decide +kernel)), (ss_in 12 (by decide +kernel) (by decide +kernel)), (ss_in 1352 (by decide +kernel) (by decide +kernel)), by decide +kernel⟩, (ss_in 1354 (by decide +kernel) (by decide +kernel)), (ss_inP (q := (yy_M_makes, 40)) 70 (by decide +kernel) (by decide +kernel)), rfl⟩
theorem km_M_179 : ss_mv sR_12 179 yy_M_wordHere bb_M_wordHere 1 (some (.int)) 0 12 := ⟨⟨(ss_in 1363 (by decide +kernel) (by decide +kernel)), (ss_in 12 (by decide +kernel) (by decide +kernel)), (ss_in 1360 (by decide +kernel) (by decide +kernel)), by decide +kernel⟩, (ss_in 1362 (by decide +kernel) (by decide +kernel)), (ss_inP (q := (yy_M_wordHere, 40)) 72 (by decide +kernel) (by decide +kernel)), rfl⟩
theorem km_M_182 : ss_mv sR_12 182 yy_M_value bb_M_value 3 (some .boolean) 0 12 := ⟨⟨(ss_in 1350 (by decide +kernel) (by decide +kernel)), (ss_in 12 (by decide +kernel) (by decide +kernel)), (ss_in 1347 (by decide +kernel) (by decide +kernel)), by decide +kernel⟩, (ss_in 1349 (by decide +kernel) (by decide +kernel)), (ss_inP (q := (yy_M_value, 40)) 69 (by decide +kernel) (by decide +kernel)), rfl⟩
theorem km_M_186 : ss_mv sR_12 186 yy_M_term bb_M_term 2 (some .boolean) 0 12 := ⟨⟨(ss_in 1346 (by decide +kernel) (by decide +kernel)), (ss_in 12 (by decide +kernel) (by decide +kernel)), (ss_in 1343 (by decide +kernel) (by decide +kernel)), by decide +kernel⟩, (ss_in 1345 (by decide +kernel) (by decide +kernel)), (ss_inP (q := (yy_M_term, 40)) 68 (by decide +kernel) (by decide +kernel)), rfl⟩
theorem km_M_189 : ss_mv sR_12 189 yy_M_sum bb_M_sum 2 (some .boolean) 0 12 := ⟨⟨(ss_in 1342 (by decide +kernel) (by decide +kernel)), (ss_in 12 (by decide +kernel) (by decide +kernel)), (ss_in 1339 (by decide +kernel) (by decide +kernel)), by decide +kernel⟩, (ss_in 1341 (by decide +kernel) (by decide +kernel)), (ss_inP (q := (yy_M_sum, 40)) 67 (by decide +kernel) (by decide +kernel)), rfl⟩
theorem km_M_194 : ss_mv sR_12 194 yy_M_opens bb_M_opens 2 (some .boolean) 1 12 := ⟨⟨(ss_in 1391 (by decide +kernel) (by decide +kernel)), (ss_in 12 (by decide +kernel) (by decide +kernel)), (ss_in 1388 (by decide +kernel) (by decide +kernel)), by decide +kernel⟩, (ss_in 1390 (by decide +kernel) (by decide +kernel)), (ss_inP (q := (yy_M_opens, 40)) 76 (by decide +kernel) (by decide +kernel)), rfl⟩
theorem km_M_197 : ss_mv sR_12 197 yy_M_compare bb_M_compare 5 (some .boolean) 0 12 := ⟨⟨(ss_in 1395 (by decide +kernel) (by decide +kernel)), (ss_in 12 (by decide +kernel) (by decide +kernel)), (ss_in 1392 (by decide +kernel) (by decide +kernel)), by decide +kernel⟩, (ss_in 1394 (by decide +kernel) (by decide +kernel)), (ss_inP (q := (yy_M_compare, 40)) 77 (by decide +kernel) (by decide +kernel)), rfl⟩
theorem km_M_200 : ss_mv sR_12 200 yy_M_settles bb_M_settles 2 none 1 12 := ⟨⟨(ss_in 1403 (by decide +kernel) (by decide +kernel)), (ss_in 12 (by decide +kernel) (by decide +kernel)), (ss_in 1400 (by decide +kernel) (by decide +kernel)), by decide +kernel⟩, (ss_in 1402 (by decide +kernel) (by decide +kernel)), (ss_inP (q := (yy_M_settles, 40)) 79 (by decide +kernel) (by decide +kernel)), rfl⟩
theorem km_M_203 : ss_mv sR_12 203 yy_M_isInside bb_M_isInside 2 (some .boolean) 0 12 := ⟨⟨(ss_in 1410 (by decide +kernel) (by decide +kernel)), (ss_in 12 (by decide +kernel) (by decide +kernel)), (ss_in 1407 (by decide +kernel) (by decide +kernel)), by decide +kernel⟩, (ss_in 1409 (by decide +kernel) (by decide +kernel)), (ss_inP (q := (yy_M_isInside, 40)) 80 (by decide +kernel) (by decide +kernel)), rfl⟩
theorem km_M_206 : ss_mv sR_12 206 yy_M_fact bb_M_fact 3 (some .boolean) 0 12 := ⟨⟨(ss_in 1386 (by decide +kernel) (by decide +kernel)), (ss_in 12 (by decide +kernel) (by decide +kernel)), (ss_in 1383 (by decide +kernel) (by decide +kernel)), by decide +kernel⟩, (ss_in 1385 (by decide +kernel) (by decide +kernel)), (ss_inP (q := (yy_M_fact, 40)) 75 (by decide +kernel) (by decide +kernel)), rfl⟩
theorem km_M_209 : ss_mv sR_12 209 yy_M_closes0 bb_M_closes0 1 none 0 12 := ⟨⟨(ss_in 1399 (by decide +kernel) (by decide +kernel)), (ss_in 12 (by decide +kernel) (by decide +kernel)), (ss_in 1396 (by decide +kernel) (by decide +kernel)), by decide +kernel⟩, (ss_in 1398 (by decide +kernel) (by decide +kernel)), (ss_inP (q := (yy_M_closes0, 40)) 78 (by decide +kernel) (by decide +kernel)), rfl⟩
theorem km_M_218 : ss_mv sR_12 218 yy_M_takesWord bb_M_takesWord 3 (some .boolean) 1 12 := ⟨⟨(ss_in 1378 (by decide +kernel) (by decide +kernel)), (ss_in 12 (by decide +kernel) (by decide +kernel)), (ss_in 1375 (by decide +kernel) (by decide +kernel)), by decide +kernel⟩, (ss_in 1377 (by decide +kernel) (by decide +kernel)), (ss_inP (q := (yy_M_takesWord, 40)) 73 (by decide +kernel) (by decide +kernel)), rfl⟩
theorem km_M_221 : ss_mv sR_12 221 yy_M_tested bb_M_tested 3 (some .boolean) 0 12 := ⟨⟨(ss_in 1382 (by decide +kernel) (by decide +kernel)), (ss_in 12 (by decide +kernel) (by decide +kernel)), (ss_in 1379 (by decide +kernel) (by decide +kernel)), by decide +kernel⟩, (ss_in 1381 (by decide +kernel) (by decide +kernel)), (ss_inP (q := (yy_M_tested, 40)) 74 (by decide +kernel) (by decide +kernel)), rfl⟩
theorem km_M_224 : ss_mv sR_12 224 yy_M_cellHere bb_M_cellHere 4 (some .boolean) 3 12 := ⟨⟨(ss_in 1299 (by decide +kernel) (by decide +kernel)), (ss_in 12 (by decide +kernel) (by decide +kernel)), (ss_in 1296 (by decide +kernel) (by decide +kernel)), by decide +kernel⟩, (ss_in 1298 (by decide +kernel) (by decide +kernel)), (ss_inP (q := (yy_M_cellHere, 40)) 57 (by decide +kernel) (by decide +kernel)), rfl⟩
theorem km_M_234 : ss_mv sR_12 234 yy_M_areStepsHere bb_M_areStepsHere 2 (some .boolean) 0 12 := ⟨⟨(ss_in 1326 (by decide +kernel) (by decide +kernel)), (ss_in 12 (by decide +kernel) (by decide +kernel)), (ss_in 1323 (by decide +kernel) (by decide +kernel)), by decide +kernel⟩, (ss_in 1325 (by decide +kernel) (by decide +kernel)), (ss_inP (q := (yy_M_areStepsHere, 40)) 63 (by decide +kernel) (by decide +kernel)), rfl⟩
theorem km_M_239 : ss_mv sR_12 239 yy_M_isValleyHere bb_M_isValleyHere 3 (some .boolean) 1 12 := ⟨⟨(ss_in 1291 (by decide +kernel) (by decide +kernel)), (ss_in 12 (by decide +kernel) (by decide +kernel)), (ss_in 1288 (by decide +kernel) (by decide +kernel)), by decide +kernel⟩, (ss_in 1290 (by decide +kernel) (by decide +kernel)), (ss_inP (q := (yy_M_isValleyHere, 40)) 55 (by decide +kernel) (by decide +kernel)), rfl⟩
theorem km_M_242 : ss_mv sR_12 242 yy_M_isStepHere bb_M_isStepHere 2 (some .boolean) 1 12 := ⟨⟨(ss_in 1314 (by decide +kernel) (by decide +kernel)), (ss_in 12 (by decide +kernel) (by decide +kernel)), (ss_in 1311 (by decide +kernel) (by decide +kernel)), by decide +kernel⟩, (ss_in 1313 (by decide +kernel) (by decide +kernel)), (ss_inP (q := (yy_M_isStepHere, 40)) 60 (by decide +kernel) (by decide +kernel)), rfl⟩
theorem km_M_245 : ss_mv sR_12 245 yy_M_isHouseHere bb_M_isHouseHere 3 (some .boolean) 1 12 := ⟨⟨(ss_in 1318 (by decide +kernel) (by decide +kernel)), (ss_in 12 (by decide +kernel) (by decide +kernel)), (ss_in 1315 (by decide +kernel) (by decide +kernel)), by decide +kernel⟩, (ss_in 1317 (by decide +kernel) (by decide +kernel)), (ss_inP (q := (yy_M_isHouseHere, 40)) 61 (by decide +kernel) (by decide +kernel)), rfl⟩
theorem km_M_250 : ss_mv sR_12 250 yy_M_isPathHere bb_M_isPathHere 1 (some .boolean) 0 12 := ⟨⟨(ss_in 1322 (by decide +kernel) (by decide +kernel)), (ss_in 12 (by decide +kernel) (by decide +kernel)), (ss_in 1319 (by decide +kernel) (by decide +kernel)), by decide +kernel⟩, (ss_in 1321 (by decide +kernel) (by decide +kernel)), (ss_inP (q := (yy_M_isPathHere, 40)) 62 (by decide +kernel) (by decide +kernel)), rfl⟩
theorem km_M_255 : ss_mv sR_12 255 yy_M_isWallHere bb_M_isWallHere 1 (some .boolean) 0 12 := ⟨⟨(ss_in 1330 (by decide +kernel) (by decide +kernel)), (ss_in 12 (by decide +kernel) (by decide +kernel)), (ss_in 1327 (by decide +kernel) (by decide +kernel)), by decide +kernel⟩, (ss_in 1329 (by decide +kernel) (by decide +kernel)), (ss_inP (q := (yy_M_isWallHere, 40)) 64 (by decide +kernel) (by decide +kernel)), rfl⟩
theorem km_M_258 : ss_mv sR_12 258 yy_M_isNeedHere bb_M_isNeedHere 2 (some .boolean) 0 12 := ⟨⟨(ss_in 1334 (by decide +kernel) (by decide +kernel)), (ss_in 12 (by decide +kernel) (by decide +kernel)), (ss_in 1331 (by decide +kernel) (by decide +kernel)), by decide +kernel⟩, (ss_in 1333 (by decide +kernel) (by decide +kernel)), (ss_inP (q := (yy_M_isNeedHere, 40)) 65 (by decide +kernel) (by decide +kernel)), rfl⟩
theorem km_M_263 : ss_mv sR_12 263 yy_M_isValleyWord bb_M_isValleyWord 1 (some .boolean) 0 12 := ⟨⟨(ss_in 1264 (by decide +kernel) (by decide +kernel)), (ss_in 12 (by decide +kernel) (by decide +kernel)), (ss_in 1261 (by decide +kernel) (by decide +kernel)), by decide +kernel⟩, (ss_in 1263 (by decide +kernel) (by decide +kernel)), (ss_inP (q := (yy_M_isValleyWord, 40)) 50 (by decide +kernel) (by decide +kernel)), rfl⟩
theorem km_M_271 : ss_mv sR_12 271 yy_M_valleyLineHere bb_M_valleyLineHere 2 (some .boolean) 1 12 := ⟨⟨(ss_in 1287 (by decide +kernel) (by decide +kernel)), (ss_in 12 (by decide +kernel) (by decide +kernel)), (ss_in 1284 (by decide +kernel) (by decide +kernel)), by decide +kernel⟩, (ss_in 1286 (by decide +kernel) (by decide +kernel)), (ss_inP (q := (yy_M_valleyLineHere, 40)) 54 (by decide +kernel) (by decide +kernel)), rfl⟩
theorem km_M_274 : ss_mv sR_12 274 yy_M_isSweepHere bb_M_isSweepHere 2 (some .boolean) 0 12 := ⟨⟨(ss_in 1338 (by decide +kernel) (by decide +kernel)), (ss_in 12 (by decide +kernel) (by decide +kernel)), (ss_in 1335 (by decide +kernel) (by decide +kernel)), by decide +kernel⟩, (ss_in 1337 (by decide +kernel) (by decide +kernel)), (ss_inP (q := (yy_M_isSweepHere, 40)) 66 (by decide +kernel) (by decide +kernel)), rfl⟩
theorem km_M_277 : ss_mv sR_12 277 yy_M_clauseHere bb_M_clauseHere 3 (some .boolean) 0 12 := ⟨⟨(ss_in 1256 (by decide +kernel) (by decide +kernel)), (ss_in 12 (by decide +kernel) (by decide +kernel)), (ss_in 1253 (by decide +kernel) (by decide +kernel)), by decide +kernel⟩, (ss_in 1255 (by decide +kernel) (by decide +kernel)), (ss_inP (q := (yy_M_clauseHere, 40)) 48 (by decide +kernel) (by decide +kernel)), rfl⟩
theorem km_M_283 : ss_mv sR_12 283 yy_M_readsAll bb_M_readsAll 2 (some .boolean) 0 12 := ⟨⟨(ss_in 1252 (by decide +kernel) (by decide +kernel)), (ss_in 12 (by decide +kernel) (by decide +kernel)), (ss_in 1249 (by decide +kernel) (by decide +kernel)), by decide +kernel⟩, (ss_in 1251 (by decide +kernel) (by decide +kernel)), (ss_inP (q := (yy_M_readsAll, 40)) 47 (by decide +kernel) (by decide +kernel)), rfl⟩
theorem km_M_286 : ss_mv sR_12 286 yy_M_begins bb_M_begins 2 none 0 12 := ⟨⟨(ss_in 1420 (by decide +kernel) (by decide +kernel)), (ss_in 12 (by decide +kernel) (by decide +kernel)), (ss_in 1417 (by decide +kernel) (by decide +kernel)), by decide +kernel⟩, (ss_in 1419 (by decide +kernel) (by decide +kernel)), (ss_inP (q := (yy_M_begins, 40)) 81 (by decide +kernel) (by decide +kernel)), rfl⟩
theorem km_M_295 : ss_mv sR_12 295 yy_M_push bb_M_push 3 none 1 12 := ⟨⟨(ss_in 1515 (by decide +kernel) (by decide +kernel)), (ss_in 12 (by decide +kernel) (by decide +kernel)), (ss_in 1512 (by decide +kernel) (by decide +kernel)), by decide +kernel⟩, (ss_in 1514 (by decide +kernel) (by decide +kernel)), (ss_inP (q := (yy_M_push, 40)) 98 (by decide +kernel) (by decide +kernel)), rfl⟩
theorem km_M_299 : ss_mv sR_12 299 yy_M_pop bb_M_pop 1 (some .long) 0 12 := ⟨⟨(ss_in 1519 (by decide +kernel) (by decide +kernel)), (ss_in 12 (by decide +kernel) (by decide +kernel)), (ss_in 1516 (by decide +kernel) (by decide +kernel)), by decide +kernel⟩, (ss_in 1518 (by decide +kernel) (by decide +kernel)), (ss_inP (q := (yy_M_pop, 40)) 99 (by decide +kernel) (by decide +kernel)), rfl⟩
theorem km_M_303 : ss_ms sR_12 303 yy_M_one bb_M_one 5 (some .long) 3 := ⟨⟨(ss_in 1522 (by decide +kernel) (by decide +kernel)), (ss_in 12 (by decide +kernel) (by decide +kernel)), (ss_in 1520 (by decide +kernel) (by decide +kernel)), by decide +kernel⟩, (ss_in 1521 (by decide +kernel) (by decide +kernel))⟩
theorem km_M_307 : ss_mv sR_12 307 yy_M_isClosed bb_M_isClosed 2 (some .boolean) 1 12 := ⟨⟨(ss_in 1440 (by decide +kernel) (by decide +kernel)), (ss_in 12 (by decide +kernel) (by decide +kernel)), (ss_in 1437 (by decide +kernel) (by decide +kernel)), by decide +kernel⟩, (ss_in 1439 (by decide +kernel) (by decide +kernel)), (ss_inP (q := (yy_M_isClosed, 40)) 84 (by decide +kernel) (by decide +kernel)), rfl⟩
theorem km_M_310 : ss_mv sR_12 310 yy_M_isRule bb_M_isRule 2 (some .boolean) 1 12 := ⟨⟨(ss_in 1428 (by decide +kernel) (by decide +kernel)), (ss_in 12 (by decide +kernel) (by decide +kernel)), (ss_in 1425 (by decide +kernel) (by decide +kernel)), by decide +kernel⟩, (ss_in 1427 (by decide +kernel) (by decide +kernel)), (ss_inP (q := (yy_M_isRule, 40)) 82 (by decide +kernel) (by decide +kernel)), rfl⟩
theorem km_M_313 : ss_mv sR_12 313 yy_M_isStep bb_M_isStep 2 (some .boolean) 1 12 := ⟨⟨(ss_in 1436 (by decide +kernel) (by decide +kernel)), (ss_in 12 (by decide +kernel) (by decide +kernel)), (ss_in 1433 (by decide +kernel) (by decide +kernel)), by decide +kernel⟩, (ss_in 1435 (by decide +kernel) (by decide +kernel)), (ss_inP (q := (yy_M_isStep, 40)) 83 (by decide +kernel) (by decide +kernel)), rfl⟩
theorem km_M_316 : ss_ms sR_12 316 yy_M_isOf bb_M_isOf 2 (some .boolean) 2 := ⟨⟨(ss_in 1443 (by decide +kernel) (by decide +kernel)), (ss_in 12 (by decide +kernel) (by decide +kernel)), (ss_in 1441 (by decide +kernel) (by decide +kernel)), by decide +kernel⟩, (ss_in 1442 (by decide +kernel) (by decide +kernel))⟩
theorem km_M_319 : ss_mv sR_12 319 yy_M_neededOn bb_M_neededOn 2 (some (.int)) 1 12 := ⟨⟨(ss_in 1447 (by decide +kernel) (by decide +kernel)), (ss_in 12 (by decide +kernel) (by decide +kernel)), (ss_in 1444 (by decide +kernel) (by decide +kernel)), by decide +kernel⟩, (ss_in 1446 (by decide +kernel) (by decide +kernel)), (ss_inP (q := (yy_M_neededOn, 40)) 85 (by decide +kernel) (by decide +kernel)), rfl⟩
theorem km_M_322 : ss_mv sR_12 322 yy_M_isHouse bb_M_isHouse 2 (some .boolean) 1 12 := ⟨⟨(ss_in 1455 (by decide +kernel) (by decide +kernel)), (ss_in 12 (by decide +kernel) (by decide +kernel)), (ss_in 1452 (by decide +kernel) (by decide +kernel)), by decide +kernel⟩, (ss_in 1454 (by decide +kernel) (by decide +kernel)), (ss_inP (q := (yy_M_isHouse, 40)) 86 (by decide +kernel) (by decide +kernel)), rfl⟩
theorem km_M_327 : ss_mv sR_12 327 yy_M_ownOf bb_M_ownOf 2 (some (.int)) 1 12 := ⟨⟨(ss_in 1460 (by decide +kernel) (by decide +kernel)), (ss_in 12 (by decide +kernel) (by decide +kernel)), (ss_in 1457 (by decide +kernel) (by decide +kernel)), by decide +kernel⟩, (ss_in 1459 (by decide +kernel) (by decide +kernel)), (ss_inP (q := (yy_M_ownOf, 40)) 87 (by decide +kernel) (by decide +kernel)), rfl⟩
theorem km_M_330 : ss_mv sR_12 330 yy_M_strengthOf bb_M_strengthOf 2 (some (.int)) 1 12 := ⟨⟨(ss_in 1464 (by decide +kernel) (by decide +kernel)), (ss_in 12 (by decide +kernel) (by decide +kernel)), (ss_in 1461 (by decide +kernel) (by decide +kernel)), by decide +kernel⟩, (ss_in 1463 (by decide +kernel) (by decide +kernel)), (ss_inP (q := (yy_M_strengthOf, 40)) 88 (by decide +kernel) (by decide +kernel)), rfl⟩
theorem km_M_333 : ss_ms sR_12 333 yy_M_held bb_M_held 1 (some (.int)) 1 := ⟨⟨(ss_in 1529 (by decide +kernel) (by decide +kernel)), (ss_in 12 (by decide +kernel) (by decide +kernel)), (ss_in 1527 (by decide +kernel) (by decide +kernel)), by decide +kernel⟩, (ss_in 1528 (by decide +kernel) (by decide +kernel))⟩
theorem km_M_336 : ss_mv sR_12 336 yy_M_reckons bb_M_reckons 11 (some .long) 3 12 := ⟨⟨(ss_in 1511 (by decide +kernel) (by decide +kernel)), (ss_in 12 (by decide +kernel) (by decide +kernel)), (ss_in 1508 (by decide +kernel) (by decide +kernel)), by decide +kernel⟩, (ss_in 1510 (by decide +kernel) (by decide +kernel)), (ss_inP (q := (yy_M_reckons, 40)) 97 (by decide +kernel) (by decide +kernel)), rfl⟩
theorem km_M_340 : ss_mv sR_12 340 yy_M_closed bb_M_closed 3 (some (.int)) 0 12 := ⟨⟨(ss_in 1496 (by decide +kernel) (by decide +kernel)), (ss_in 12 (by decide +kernel) (by decide +kernel)), (ss_in 1493 (by decide +kernel) (by decide +kernel)), by decide +kernel⟩, (ss_in 1495 (by decide +kernel) (by decide +kernel)), (ss_inP (q := (yy_M_closed, 40)) 94 (by decide +kernel) (by decide +kernel)), rfl⟩
theorem km_M_343 : ss_ms sR_12 343 yy_M_bits bb_M_bits 3 (some (.int)) 1 := ⟨⟨(ss_in 1499 (by decide +kernel) (by decide +kernel)), (ss_in 12 (by decide +kernel) (by decide +kernel)), (ss_in 1497 (by decide +kernel) (by decide +kernel)), by decide +kernel⟩, (ss_in 1498 (by decide +kernel) (by decide +kernel))⟩
theorem km_M_346 : ss_mv sR_12 346 yy_M_nextNeed bb_M_nextNeed 3 (some (.int)) 1 12 := ⟨⟨(ss_in 1503 (by decide +kernel) (by decide +kernel)), (ss_in 12 (by decide +kernel) (by decide +kernel)), (ss_in 1500 (by decide +kernel) (by decide +kernel)), by decide +kernel⟩, (ss_in 1502 (by decide +kernel) (by decide +kernel)), (ss_inP (q := (yy_M_nextNeed, 40)) 95 (by decide +kernel) (by decide +kernel)), rfl⟩
theorem km_M_349 : ss_mv sR_12 349 yy_M_words bb_M_words 3 none 2 12 := ⟨⟨(ss_in 1492 (by decide +kernel) (by decide +kernel)), (ss_in 12 (by decide +kernel) (by decide +kernel)), (ss_in 1489 (by decide +kernel) (by decide +kernel)), by decide +kernel⟩, (ss_in 1491 (by decide +kernel) (by decide +kernel)), (ss_inP (q := (yy_M_words, 40)) 93 (by decide +kernel) (by decide +kernel)), rfl⟩
theorem km_M_352 : ss_mv sR_12 352 yy_M_summedBy bb_M_summedBy 4 (some .long) 1 12 := ⟨⟨(ss_in 1507 (by decide +kernel) (by decide +kernel)), (ss_in 12 (by decide +kernel) (by decide +kernel)), (ss_in 1504 (by decide +kernel) (by decide +kernel)), by decide +kernel⟩, (ss_in 1506 (by decide +kernel) (by decide +kernel)), (ss_inP (q := (yy_M_summedBy, 40)) 96 (by decide +kernel) (by decide +kernel)), rfl⟩
theorem km_M_356 : ss_mv sR_12 356 yy_M_choice bb_M_choice 8 (some (.int)) 1 12 := ⟨⟨(ss_in 1488 (by decide +kernel) (by decide +kernel)), (ss_in 12 (by decide +kernel) (by decide +kernel)), (ss_in 1485 (by decide +kernel) (by decide +kernel)), by decide +kernel⟩, (ss_in 1487 (by decide +kernel) (by decide +kernel)), (ss_inP (q := (yy_M_choice, 40)) 92 (by decide +kernel) (by decide +kernel)), rfl⟩
theorem km_M_359 : ss_mv sR_12 359 yy_M_takes bb_M_takes 5 (some (.int)) 2 12 := ⟨⟨(ss_in 1526 (by decide +kernel) (by decide +kernel)), (ss_in 12 (by decide +kernel) (by decide +kernel)), (ss_in 1523 (by decide +kernel) (by decide +kernel)), by decide +kernel⟩, (ss_in 1525 (by decide +kernel) (by decide +kernel)), (ss_inP (q := (yy_M_takes, 40)) 100 (by decide +kernel) (by decide +kernel)), rfl⟩
theorem km_M_363 : ss_mv sR_12 363 yy_M_snows bb_M_snows 3 (some (.int)) 0 12 := ⟨⟨(ss_in 1533 (by decide +kernel) (by decide +kernel)), (ss_in 12 (by decide +kernel) (by decide +kernel)), (ss_in 1530 (by decide +kernel) (by decide +kernel)), by decide +kernel⟩, (ss_in 1532 (by decide +kernel) (by decide +kernel)), (ss_inP (q := (yy_M_snows, 40)) 101 (by decide +kernel) (by decide +kernel)), rfl⟩
theorem km_M_366 : ss_mv sR_12 366 yy_M_isValley bb_M_isValley 1 (some .boolean) 0 12 := ⟨⟨(ss_in 1476 (by decide +kernel) (by decide +kernel)), (ss_in 12 (by decide +kernel) (by decide +kernel)), (ss_in 1473 (by decide +kernel) (by decide +kernel)), by decide +kernel⟩, (ss_in 1475 (by decide +kernel) (by decide +kernel)), (ss_inP (q := (yy_M_isValley, 40)) 89 (by decide +kernel) (by decide +kernel)), rfl⟩
theorem km_M_369 : ss_mv sR_12 369 yy_M_keepsAct bb_M_keepsAct 2 none 0 12 := ⟨⟨(ss_in 1480 (by decide +kernel) (by decide +kernel)), (ss_in 12 (by decide +kernel) (by decide +kernel)), (ss_in 1477 (by decide +kernel) (by decide +kernel)), by decide +kernel⟩, (ss_in 1479 (by decide +kernel) (by decide +kernel)), (ss_inP (q := (yy_M_keepsAct, 40)) 90 (by decide +kernel) (by decide +kernel)), rfl⟩
theorem km_M_372 : ss_mv sR_12 372 yy_M_passes bb_M_passes 3 (some (.int)) 0 12 := ⟨⟨(ss_in 1484 (by decide +kernel) (by decide +kernel)), (ss_in 12 (by decide +kernel) (by decide +kernel)), (ss_in 1481 (by decide +kernel) (by decide +kernel)), by decide +kernel⟩, (ss_in 1483 (by decide +kernel) (by decide +kernel)), (ss_inP (q := (yy_M_passes, 40)) 91 (by decide +kernel) (by decide +kernel)), rfl⟩
theorem km_M_375 : ss_mv sR_12 375 yy_M_canSweep bb_M_canSweep 3 (some .boolean) 2 12 := ⟨⟨(ss_in 1541 (by decide +kernel) (by decide +kernel)), (ss_in 12 (by decide +kernel) (by decide +kernel)), (ss_in 1538 (by decide +kernel) (by decide +kernel)), by decide +kernel⟩, (ss_in 1540 (by decide +kernel) (by decide +kernel)), (ss_inP (q := (yy_M_canSweep, 40)) 102 (by decide +kernel) (by decide +kernel)), rfl⟩
theorem km_M_380 : ss_mv sR_12 380 yy_M_snowAll bb_M_snowAll 3 (some (.int)) 0 12 := ⟨⟨(ss_in 1558 (by decide +kernel) (by decide +kernel)), (ss_in 12 (by decide +kernel) (by decide +kernel)), (ss_in 1555 (by decide +kernel) (by decide +kernel)), by decide +kernel⟩, (ss_in 1557 (by decide +kernel) (by decide +kernel)), (ss_inP (q := (yy_M_snowAll, 40)) 103 (by decide +kernel) (by decide +kernel)), rfl⟩
theorem km_M_385 : ss_mv sR_12 385 yy_M_keeps bb_M_keeps 2 none 0 12 := ⟨⟨(ss_in 1567 (by decide +kernel) (by decide +kernel)), (ss_in 12 (by decide +kernel) (by decide +kernel)), (ss_in 1564 (by decide +kernel) (by decide +kernel)), by decide +kernel⟩, (ss_in 1566 (by decide +kernel) (by decide +kernel)), (ss_inP (q := (yy_M_keeps, 40)) 104 (by decide +kernel) (by decide +kernel)), rfl⟩
theorem km_M_388 : ss_mv sR_12 388 yy_M_laysBack bb_M_laysBack 2 none 0 12 := ⟨⟨(ss_in 1571 (by decide +kernel) (by decide +kernel)), (ss_in 12 (by decide +kernel) (by decide +kernel)), (ss_in 1568 (by decide +kernel) (by decide +kernel)), by decide +kernel⟩, (ss_in 1570 (by decide +kernel) (by decide +kernel)), (ss_inP (q := (yy_M_laysBack, 40)) 105 (by decide +kernel) (by decide +kernel)), rfl⟩
theorem km_M_393 : ss_mv sR_12 393 yy_M_areAlike bb_M_areAlike 4 (some .boolean) 2 12 := ⟨⟨(ss_in 1588 (by decide +kernel) (by decide +kernel)), (ss_in 12 (by decide +kernel) (by decide +kernel)), (ss_in 1585 (by decide +kernel) (by decide +kernel)), by decide +kernel⟩, (ss_in 1587 (by decide +kernel) (by decide +kernel)), (ss_inP (q := (yy_M_areAlike, 40)) 106 (by decide +kernel) (by decide +kernel)), rfl⟩
theorem km_M_398 : ss_mv sR_12 398 yy_M_isSpared bb_M_isSpared 6 (some .boolean) 3 12 := ⟨⟨(ss_in 1597 (by decide +kernel) (by decide +kernel)), (ss_in 12 (by decide +kernel) (by decide +kernel)), (ss_in 1594 (by decide +kernel) (by decide +kernel)), by decide +kernel⟩, (ss_in 1596 (by decide +kernel) (by decide +kernel)), (ss_inP (q := (yy_M_isSpared, 40)) 107 (by decide +kernel) (by decide +kernel)), rfl⟩
theorem km_M_401 : ss_mv sR_12 401 yy_M_closedBy bb_M_closedBy 6 (some (.int)) 1 12 := ⟨⟨(ss_in 1605 (by decide +kernel) (by decide +kernel)), (ss_in 12 (by decide +kernel) (by decide +kernel)), (ss_in 1602 (by decide +kernel) (by decide +kernel)), by decide +kernel⟩, (ss_in 1604 (by decide +kernel) (by decide +kernel)), (ss_inP (q := (yy_M_closedBy, 40)) 108 (by decide +kernel) (by decide +kernel)), rfl⟩
theorem km_M_404 : ss_mv sR_12 404 yy_M_priceOf bb_M_priceOf 2 (some (.int)) 1 12 := ⟨⟨(ss_in 1617 (by decide +kernel) (by decide +kernel)), (ss_in 12 (by decide +kernel) (by decide +kernel)), (ss_in 1614 (by decide +kernel) (by decide +kernel)), by decide +kernel⟩, (ss_in 1616 (by decide +kernel) (by decide +kernel)), (ss_inP (q := (yy_M_priceOf, 40)) 110 (by decide +kernel) (by decide +kernel)), rfl⟩
theorem km_M_407 : ss_mv sR_12 407 yy_M_nextTo bb_M_nextTo 4 (some (.int)) 1 12 := ⟨⟨(ss_in 1621 (by decide +kernel) (by decide +kernel)), (ss_in 12 (by decide +kernel) (by decide +kernel)), (ss_in 1618 (by decide +kernel) (by decide +kernel)), by decide +kernel⟩, (ss_in 1620 (by decide +kernel) (by decide +kernel)), (ss_inP (q := (yy_M_nextTo, 40)) 111 (by decide +kernel) (by decide +kernel)), rfl⟩
theorem km_M_410 : ss_mv sR_12 410 yy_M_fillsPrices bb_M_fillsPrices 5 none 1 12 := ⟨⟨(ss_in 1613 (by decide +kernel) (by decide +kernel)), (ss_in 12 (by decide +kernel) (by decide +kernel)), (ss_in 1610 (by decide +kernel) (by decide +kernel)), by decide +kernel⟩, (ss_in 1612 (by decide +kernel) (by decide +kernel)), (ss_inP (q := (yy_M_fillsPrices, 40)) 109 (by decide +kernel) (by decide +kernel)), rfl⟩
theorem km_M_415 : ss_mv sR_12 415 yy_M_fillsPact bb_M_fillsPact 5 none 2 12 := ⟨⟨(ss_in 1630 (by decide +kernel) (by decide +kernel)), (ss_in 12 (by decide +kernel) (by decide +kernel)), (ss_in 1627 (by decide +kernel) (by decide +kernel)), by decide +kernel⟩, (ss_in 1629 (by decide +kernel) (by decide +kernel)), (ss_inP (q := (yy_M_fillsPact, 40)) 112 (by decide +kernel) (by decide +kernel)), rfl⟩
theorem km_M_418 : ss_mv sR_12 418 yy_M_allBy bb_M_allBy 4 (some (.int)) 1 12 := ⟨⟨(ss_in 1634 (by decide +kernel) (by decide +kernel)), (ss_in 12 (by decide +kernel) (by decide +kernel)), (ss_in 1631 (by decide +kernel) (by decide +kernel)), by decide +kernel⟩, (ss_in 1633 (by decide +kernel) (by decide +kernel)), (ss_inP (q := (yy_M_allBy, 40)) 113 (by decide +kernel) (by decide +kernel)), rfl⟩
theorem km_M_421 : ss_mv sR_12 421 yy_M_isPact bb_M_isPact 3 (some .boolean) 1 12 := ⟨⟨(ss_in 1638 (by decide +kernel) (by decide +kernel)), (ss_in 12 (by decide +kernel) (by decide +kernel)), (ss_in 1635 (by decide +kernel) (by decide +kernel)), by decide +kernel⟩, (ss_in 1637 (by decide +kernel) (by decide +kernel)), (ss_inP (q := (yy_M_isPact, 40)) 114 (by decide +kernel) (by decide +kernel)), rfl⟩
theorem km_M_424 : ss_mv sR_12 424 yy_M_closedIn bb_M_closedIn 3 (some (.int)) 1 12 := ⟨⟨(ss_in 1650 (by decide +kernel) (by decide +kernel)), (ss_in 12 (by decide +kernel) (by decide +kernel)), (ss_in 1647 (by decide +kernel) (by decide +kernel)), by decide +kernel⟩, (ss_in 1649 (by decide +kernel) (by decide +kernel)), (ss_inP (q := (yy_M_closedIn, 40)) 115 (by decide +kernel) (by decide +kernel)), rfl⟩
theorem km_M_427 : ss_mv sR_12 427 yy_M_staysOpen bb_M_staysOpen 5 (some .boolean) 2 12 := ⟨⟨(ss_in 1658 (by decide +kernel) (by decide +kernel)), (ss_in 12 (by decide +kernel) (by decide +kernel)), (ss_in 1655 (by decide +kernel) (by decide +kernel)), by decide +kernel⟩, (ss_in 1657 (by decide +kernel) (by decide +kernel)), (ss_inP (q := (yy_M_staysOpen, 40)) 116 (by decide +kernel) (by decide +kernel)), rfl⟩
theorem km_M_432 : ss_mv sR_12 432 yy_M_areNotesSo bb_M_areNotesSo 3 (some .boolean) 1 12 := ⟨⟨(ss_in 1675 (by decide +kernel) (by decide +kernel)), (ss_in 12 (by decide +kernel) (by decide +kernel)), (ss_in 1672 (by decide +kernel) (by decide +kernel)), by decide +kernel⟩, (ss_in 1674 (by decide +kernel) (by decide +kernel)), (ss_inP (q := (yy_M_areNotesSo, 40)) 118 (by decide +kernel) (by decide +kernel)), rfl⟩
theorem km_M_435 : ss_mv sR_12 435 yy_M_fillsFits bb_M_fillsFits 7 none 1 12 := ⟨⟨(ss_in 1671 (by decide +kernel) (by decide +kernel)), (ss_in 12 (by decide +kernel) (by decide +kernel)), (ss_in 1668 (by decide +kernel) (by decide +kernel)), by decide +kernel⟩, (ss_in 1670 (by decide +kernel) (by decide +kernel)), (ss_inP (q := (yy_M_fillsFits, 40)) 117 (by decide +kernel) (by decide +kernel)), rfl⟩
theorem km_M_438 : ss_mv sR_12 438 yy_M_alikeAt bb_M_alikeAt 6 (some (.int)) 1 12 := ⟨⟨(ss_in 1683 (by decide +kernel) (by decide +kernel)), (ss_in 12 (by decide +kernel) (by decide +kernel)), (ss_in 1680 (by decide +kernel) (by decide +kernel)), by decide +kernel⟩, (ss_in 1682 (by decide +kernel) (by decide +kernel)), (ss_inP (q := (yy_M_alikeAt, 40)) 119 (by decide +kernel) (by decide +kernel)), rfl⟩
theorem km_M_456 : ss_mv sR_12 456 yy_M_draw bb_M_draw 2 (some (.int)) 1 12 := ⟨⟨(ss_in 1695 (by decide +kernel) (by decide +kernel)), (ss_in 12 (by decide +kernel) (by decide +kernel)), (ss_in 1692 (by decide +kernel) (by decide +kernel)), by decide +kernel⟩, (ss_in 1694 (by decide +kernel) (by decide +kernel)), (ss_inP (q := (yy_M_draw, 40)) 120 (by decide +kernel) (by decide +kernel)), rfl⟩
theorem kn_S_7 : ss_nw sR_11 7 2 (ss_fs 0 (2, List.replicate 5 0, List.replicate 0 0, List.replicate 1 none)) := ⟨_, _, _, st_2, rfl, si_2, st_2_ok, (ss_in 29 (by decide +kernel) (by decide +kernel)), (ss_in 30 (by decide +kernel) (by decide +kernel)), (ss_in 2 (by decide +kernel) (by decide +kernel)), by decide +kernel⟩
theorem kn_S_16 : ss_nw sR_11 16 6 (ss_fs 0 (6, List.replicate 0 0, List.replicate 0 0, List.replicate 3 none)) := ⟨_, _, _, st_6, rfl, si_6, st_6_ok, (ss_in 57 (by decide +kernel) (by decide +kernel)), (ss_in 58 (by decide +kernel) (by decide +kernel)), (ss_in 3 (by decide +kernel) (by decide +kernel)), by decide +kernel⟩
theorem kn_S_25 : ss_nw sR_11 25 4 (ss_fs 0 (4, List.replicate 3 0, List.replicate 0 0, List.replicate 3 none)) := ⟨_, _, _, st_4, rfl, si_4, st_4_ok, (ss_in 191 (by decide +kernel) (by decide +kernel)), (ss_in 192 (by decide +kernel) (by decide +kernel)), (ss_in 6 (by decide +kernel) (by decide +kernel)), by decide +kernel⟩
theorem kn_S_38 : ss_nw sR_11 38 8 (ss_fs 0 (8, List.replicate 3 0, List.replicate 0 0, List.replicate 5 none)) := ⟨_, _, _, st_8, rfl, si_8, st_8_ok, (ss_in 218 (by decide +kernel) (by decide +kernel)), (ss_in 219 (by decide +kernel) (by decide +kernel)), (ss_in 7 (by decide +kernel) (by decide +kernel)), by decide +kernel⟩
theorem kn_S_49 : ss_nw sR_11 49 3 (ss_fs 0 (3, List.replicate 2 0, List.replicate 0 0, List.replicate 1 none)) := ⟨_, _, _, st_3, rfl, si_3, st_3_ok, (ss_in 269 (by decide +kernel) (by decide +kernel)), (ss_in 270 (by decide +kernel) (by decide +kernel)), (ss_in 8 (by decide +kernel) (by decide +kernel)), by decide +kernel⟩
theorem kn_S_56 : ss_nw sR_11 56 7 (ss_fs 0 (7, List.replicate 0 0, List.replicate 0 0, List.replicate 8 none)) := ⟨_, _, _, st_7, rfl, si_7, st_7_ok, (ss_in 289 (by decide +kernel) (by decide +kernel)), (ss_in 290 (by decide +kernel) (by decide +kernel)), (ss_in 9 (by decide +kernel) (by decide +kernel)), by decide +kernel⟩
theorem kn_S_69 : ss_nw sR_11 69 9 (ss_fs 0 (9, List.replicate 0 0, List.replicate 0 0, List.replicate 5 none)) := ⟨_, _, _, st_9, rfl, si_9, st_9_ok, (ss_in 329 (by decide +kernel) (by decide +kernel)), (ss_in 330 (by decide +kernel) (by decide +kernel)), (ss_in 10 (by decide +kernel) (by decide +kernel)), by decide +kernel⟩
theorem kn_S_78 : ss_nw sR_11 78 10 (ss_fs 0 (10, List.replicate 0 0, List.replicate 0 0, List.replicate 5 none)) := ⟨_, _, _, st_10, rfl, si_10, st_10_ok, (ss_in 352 (by decide +kernel) (by decide +kernel)), (ss_in 353 (by decide +kernel) (by decide +kernel)), (ss_in 11 (by decide +kernel) (by decide +kernel)), by decide +kernel⟩
theorem kn_A_11 : ss_nw sR_3 11 0 (ss_fs 0 (0, List.replicate 4 0, List.replicate 0 0, List.replicate 2 none)) := ⟨_, _, _, st_0, rfl, si_0, st_0_ok, (ss_in 275 (by decide +kernel) (by decide +kernel)), (ss_in 70 (by decide +kernel) (by decide +kernel)), (ss_in 5 (by decide +kernel) (by decide +kernel)), by decide +kernel⟩
theorem kn_RR_63 : ss_nw sR_4 63 1 (ss_fs 0 (1, List.replicate 1 0, List.replicate 0 0, List.replicate 2 none)) := ⟨_, _, _, st_1, rfl, si_1, st_1_ok, (ss_in 658 (by decide +kernel) (by decide +kernel)), (ss_in 659 (by decide +kernel) (by decide +kernel)), (ss_in 18 (by decide +kernel) (by decide +kernel)), by decide +kernel⟩
theorem kn_V_24 : ss_nw sR_5 24 0 (ss_fs 0 (0, List.replicate 4 0, List.replicate 0 0, List.replicate 2 none)) := ⟨_, _, _, st_0, rfl, si_0, st_0_ok, (ss_in 69 (by decide +kernel) (by decide +kernel)), (ss_in 70 (by decide +kernel) (by decide +kernel)), (ss_in 5 (by decide +kernel) (by decide +kernel)), by decide +kernel⟩
theorem kn_VR_9 : ss_nw sR_6 9 5 (ss_fs 0 (5, List.replicate 5 0, List.replicate 0 0, List.replicate 5 none)) := ⟨_, _, _, st_5, rfl, si_5, st_5_ok, (ss_in 63 (by decide +kernel) (by decide +kernel)), (ss_in 64 (by decide +kernel) (by decide +kernel)), (ss_in 4 (by decide +kernel) (by decide +kernel)), by decide +kernel⟩
theorem kn_Wi_9 : ss_nw sR_7 9 0 (ss_fs 0 (0, List.replicate 4 0, List.replicate 0 0, List.replicate 2 none)) := ⟨_, _, _, st_0, rfl, si_0, st_0_ok, (ss_in 295 (by decide +kernel) (by decide +kernel)), (ss_in 70 (by decide +kernel) (by decide +kernel)), (ss_in 5 (by decide +kernel) (by decide +kernel)), by decide +kernel⟩
theorem kn_Wo_9 : ss_nw sR_8 9 5 (ss_fs 0 (5, List.replicate 5 0, List.replicate 0 0, List.replicate 5 none)) := ⟨_, _, _, st_5, rfl, si_5, st_5_ok, (ss_in 224 (by decide +kernel) (by decide +kernel)), (ss_in 64 (by decide +kernel) (by decide +kernel)), (ss_in 4 (by decide +kernel) (by decide +kernel)), by decide +kernel⟩
theorem kn_Wo_18 : ss_nw sR_8 18 0 (ss_fs 0 (0, List.replicate 4 0, List.replicate 0 0, List.replicate 2 none)) := ⟨_, _, _, st_0, rfl, si_0, st_0_ok, (ss_in 226 (by decide +kernel) (by decide +kernel)), (ss_in 70 (by decide +kernel) (by decide +kernel)), (ss_in 5 (by decide +kernel) (by decide +kernel)), by decide +kernel⟩
theorem kp_S_87 : ss_fp sR_11 87 2 0 (.int) := ⟨_, _, _, st_2, rfl, by decide, (ss_in 36 (by decide +kernel) (by decide +kernel)), si_2, st_2_ok, sn_2, rfl, by decide +kernel⟩
theorem kp_S_113 : ss_fp sR_11 113 11 0 (.int) := ⟨_, _, _, st_11, rfl, by decide, (ss_in 378 (by decide +kernel) (by decide +kernel)), si_11, st_11_ok, sn_11, rfl, by decide +kernel⟩
theorem kp_S_120 : ss_fp sR_11 120 8 0 (.int) := ⟨_, _, _, st_8, rfl, by decide, (ss_in 238 (by decide +kernel) (by decide +kernel)), si_8, st_8_ok, sn_8, rfl, by decide +kernel⟩
theorem kp_S_271 : ss_fp sR_11 271 8 2 (.int) := ⟨_, _, _, st_8, rfl, by decide, (ss_in 244 (by decide +kernel) (by decide +kernel)), si_8, st_8_ok, sn_8, rfl, by decide +kernel⟩
theorem kp_S_289 : ss_fp sR_11 289 8 1 (.int) := ⟨_, _, _, st_8, rfl, by decide, (ss_in 241 (by decide +kernel) (by decide +kernel)), si_8, st_8_ok, sn_8, rfl, by decide +kernel⟩
theorem kp_A_18 : ss_fp sR_3 18 3 0 (.int) := ⟨_, _, _, st_3, rfl, by decide, (ss_in 279 (by decide +kernel) (by decide +kernel)), si_3, st_3_ok, sn_3, rfl, by decide +kernel⟩
theorem kp_A_26 : ss_fp sR_3 26 3 1 (.int) := ⟨_, _, _, st_3, rfl, by decide, (ss_in 280 (by decide +kernel) (by decide +kernel)), si_3, st_3_ok, sn_3, rfl, by decide +kernel⟩
theorem kp_F_156 : ss_fp sR_9 156 8 1 (.int) := ⟨_, _, _, st_8, rfl, by decide, (ss_in 240 (by decide +kernel) (by decide +kernel)), si_8, st_8_ok, sn_8, rfl, by decide +kernel⟩
theorem kp_G_24 : ss_fp sR_0 24 0 0 (.int) := ⟨_, _, _, st_0, rfl, by decide, (ss_in 87 (by decide +kernel) (by decide +kernel)), si_0, st_0_ok, sn_0, rfl, by decide +kernel⟩
theorem kp_G_28 : ss_fp sR_0 28 0 1 (.int) := ⟨_, _, _, st_0, rfl, by decide, (ss_in 91 (by decide +kernel) (by decide +kernel)), si_0, st_0_ok, sn_0, rfl, by decide +kernel⟩
theorem kp_G_31 : ss_fp sR_0 31 0 2 (.int) := ⟨_, _, _, st_0, rfl, by decide, (ss_in 93 (by decide +kernel) (by decide +kernel)), si_0, st_0_ok, sn_0, rfl, by decide +kernel⟩
theorem kp_G_34 : ss_fp sR_0 34 0 3 (.int) := ⟨_, _, _, st_0, rfl, by decide, (ss_in 96 (by decide +kernel) (by decide +kernel)), si_0, st_0_ok, sn_0, rfl, by decide +kernel⟩
theorem kp_RR_24 : ss_fp sR_4 24 4 0 (.int) := ⟨_, _, _, st_4, rfl, by decide, (ss_in 200 (by decide +kernel) (by decide +kernel)), si_4, st_4_ok, sn_4, rfl, by decide +kernel⟩
theorem kp_RR_28 : ss_fp sR_4 28 4 1 (.int) := ⟨_, _, _, st_4, rfl, by decide, (ss_in 201 (by decide +kernel) (by decide +kernel)), si_4, st_4_ok, sn_4, rfl, by decide +kernel⟩
theorem kp_RR_31 : ss_fp sR_4 31 4 2 (.int) := ⟨_, _, _, st_4, rfl, by decide, (ss_in 202 (by decide +kernel) (by decide +kernel)), si_4, st_4_ok, sn_4, rfl, by decide +kernel⟩
theorem kp_T_15 : ss_fp sR_2 15 2 0 (.int) := ⟨_, _, _, st_2, rfl, by decide, (ss_in 37 (by decide +kernel) (by decide +kernel)), si_2, st_2_ok, sn_2, rfl, by decide +kernel⟩
theorem kp_T_19 : ss_fp sR_2 19 2 1 (.int) := ⟨_, _, _, st_2, rfl, by decide, (ss_in 38 (by decide +kernel) (by decide +kernel)), si_2, st_2_ok, sn_2, rfl, by decide +kernel⟩
theorem kp_T_22 : ss_fp sR_2 22 2 4 (.int) := ⟨_, _, _, st_2, rfl, by decide, (ss_in 42 (by decide +kernel) (by decide +kernel)), si_2, st_2_ok, sn_2, rfl, by decide +kernel⟩
theorem kp_T_28 : ss_fp sR_2 28 2 3 (.int) := ⟨_, _, _, st_2, rfl, by decide, (ss_in 41 (by decide +kernel) (by decide +kernel)), si_2, st_2_ok, sn_2, rfl, by decide +kernel⟩
theorem kp_T_31 : ss_fp sR_2 31 2 2 (.int) := ⟨_, _, _, st_2, rfl, by decide, (ss_in 40 (by decide +kernel) (by decide +kernel)), si_2, st_2_ok, sn_2, rfl, by decide +kernel⟩
theorem kp_V_31 : ss_fp sR_5 31 5 0 (.boolean) := ⟨_, _, _, st_5, rfl, by decide, (ss_in 114 (by decide +kernel) (by decide +kernel)), si_5, st_5_ok, sn_5, rfl, by decide +kernel⟩
theorem kp_V_35 : ss_fp sR_5 35 5 1 (.int) := ⟨_, _, _, st_5, rfl, by decide, (ss_in 117 (by decide +kernel) (by decide +kernel)), si_5, st_5_ok, sn_5, rfl, by decide +kernel⟩
theorem kp_V_39 : ss_fp sR_5 39 5 2 (.int) := ⟨_, _, _, st_5, rfl, by decide, (ss_in 123 (by decide +kernel) (by decide +kernel)), si_5, st_5_ok, sn_5, rfl, by decide +kernel⟩
theorem kp_V_42 : ss_fp sR_5 42 5 3 (.int) := ⟨_, _, _, st_5, rfl, by decide, (ss_in 128 (by decide +kernel) (by decide +kernel)), si_5, st_5_ok, sn_5, rfl, by decide +kernel⟩
theorem kp_V_45 : ss_fp sR_5 45 5 4 (.int) := ⟨_, _, _, st_5, rfl, by decide, (ss_in 134 (by decide +kernel) (by decide +kernel)), si_5, st_5_ok, sn_5, rfl, by decide +kernel⟩
theorem kp_VR_29 : ss_fp sR_6 29 5 0 (.boolean) := ⟨_, _, _, st_5, rfl, by decide, (ss_in 115 (by decide +kernel) (by decide +kernel)), si_5, st_5_ok, sn_5, rfl, by decide +kernel⟩
theorem kp_VR_82 : ss_fp sR_6 82 5 3 (.int) := ⟨_, _, _, st_5, rfl, by decide, (ss_in 130 (by decide +kernel) (by decide +kernel)), si_5, st_5_ok, sn_5, rfl, by decide +kernel⟩
theorem kp_VR_86 : ss_fp sR_6 86 5 4 (.int) := ⟨_, _, _, st_5, rfl, by decide, (ss_in 135 (by decide +kernel) (by decide +kernel)), si_5, st_5_ok, sn_5, rfl, by decide +kernel⟩
theorem kp_VR_93 : ss_fp sR_6 93 5 1 (.int) := ⟨_, _, _, st_5, rfl, by decide, (ss_in 119 (by decide +kernel) (by decide +kernel)), si_5, st_5_ok, sn_5, rfl, by decide +kernel⟩
theorem kp_VR_96 : ss_fp sR_6 96 5 2 (.int) := ⟨_, _, _, st_5, rfl, by decide, (ss_in 125 (by decide +kernel) (by decide +kernel)), si_5, st_5_ok, sn_5, rfl, by decide +kernel⟩
theorem kp_Wi_41 : ss_fp sR_7 41 7 7 (.object "SweptSnow$Rule") := ⟨_, _, _, st_7, rfl, by decide, (ss_in 310 (by decide +kernel) (by decide +kernel)), si_7, st_7_ok, sn_7, rfl, by decide +kernel⟩
theorem kp_Wi_71 : ss_fp sR_7 71 0 0 (.int) := ⟨_, _, _, st_0, rfl, by decide, (ss_in 88 (by decide +kernel) (by decide +kernel)), si_0, st_0_ok, sn_0, rfl, by decide +kernel⟩
theorem kp_Wi_75 : ss_fp sR_7 75 0 2 (.int) := ⟨_, _, _, st_0, rfl, by decide, (ss_in 94 (by decide +kernel) (by decide +kernel)), si_0, st_0_ok, sn_0, rfl, by decide +kernel⟩
theorem kp_Wi_105 : ss_fp sR_7 105 0 1 (.int) := ⟨_, _, _, st_0, rfl, by decide, (ss_in 92 (by decide +kernel) (by decide +kernel)), si_0, st_0_ok, sn_0, rfl, by decide +kernel⟩
theorem kp_Wi_108 : ss_fp sR_7 108 0 3 (.int) := ⟨_, _, _, st_0, rfl, by decide, (ss_in 98 (by decide +kernel) (by decide +kernel)), si_0, st_0_ok, sn_0, rfl, by decide +kernel⟩
theorem kp_Wo_25 : ss_fp sR_8 25 8 0 (.int) := ⟨_, _, _, st_8, rfl, by decide, (ss_in 236 (by decide +kernel) (by decide +kernel)), si_8, st_8_ok, sn_8, rfl, by decide +kernel⟩
theorem kp_Wo_49 : ss_fp sR_8 49 8 2 (.int) := ⟨_, _, _, st_8, rfl, by decide, (ss_in 242 (by decide +kernel) (by decide +kernel)), si_8, st_8_ok, sn_8, rfl, by decide +kernel⟩
theorem kp_Wo_52 : ss_fp sR_8 52 8 1 (.int) := ⟨_, _, _, st_8, rfl, by decide, (ss_in 239 (by decide +kernel) (by decide +kernel)), si_8, st_8_ok, sn_8, rfl, by decide +kernel⟩
theorem kp_M_42 : ss_fp sR_12 42 12 13 (.int) := ⟨_, _, _, st_12, rfl, by decide, (ss_in 1135 (by decide +kernel) (by decide +kernel)), si_12, st_12_ok, sn_12, rfl, by decide +kernel⟩
theorem kp_M_86 : ss_fp sR_12 86 12 0 (.int) := ⟨_, _, _, st_12, rfl, by decide, (ss_in 1113 (by decide +kernel) (by decide +kernel)), si_12, st_12_ok, sn_12, rfl, by decide +kernel⟩
theorem kp_M_93 : ss_fp sR_12 93 12 3 (.int) := ⟨_, _, _, st_12, rfl, by decide, (ss_in 1121 (by decide +kernel) (by decide +kernel)), si_12, st_12_ok, sn_12, rfl, by decide +kernel⟩
theorem kp_M_96 : ss_fp sR_12 96 12 2 (.int) := ⟨_, _, _, st_12, rfl, by decide, (ss_in 1120 (by decide +kernel) (by decide +kernel)), si_12, st_12_ok, sn_12, rfl, by decide +kernel⟩
theorem kp_M_121 : ss_fp sR_12 121 12 4 (.int) := ⟨_, _, _, st_12, rfl, by decide, (ss_in 1122 (by decide +kernel) (by decide +kernel)), si_12, st_12_ok, sn_12, rfl, by decide +kernel⟩
theorem kp_M_152 : ss_fp sR_12 152 12 5 (.int) := ⟨_, _, _, st_12, rfl, by decide, (ss_in 1123 (by decide +kernel) (by decide +kernel)), si_12, st_12_ok, sn_12, rfl, by decide +kernel⟩
theorem kp_M_155 : ss_fp sR_12 155 12 6 (.int) := ⟨_, _, _, st_12, rfl, by decide, (ss_in 1124 (by decide +kernel) (by decide +kernel)), si_12, st_12_ok, sn_12, rfl, by decide +kernel⟩
theorem kp_M_158 : ss_fp sR_12 158 12 7 (.int) := ⟨_, _, _, st_12, rfl, by decide, (ss_in 1125 (by decide +kernel) (by decide +kernel)), si_12, st_12_ok, sn_12, rfl, by decide +kernel⟩
theorem kp_M_161 : ss_fp sR_12 161 12 9 (.int) := ⟨_, _, _, st_12, rfl, by decide, (ss_in 1128 (by decide +kernel) (by decide +kernel)), si_12, st_12_ok, sn_12, rfl, by decide +kernel⟩
theorem kp_M_228 : ss_fp sR_12 228 12 10 (.int) := ⟨_, _, _, st_12, rfl, by decide, (ss_in 1129 (by decide +kernel) (by decide +kernel)), si_12, st_12_ok, sn_12, rfl, by decide +kernel⟩
theorem kp_M_231 : ss_fp sR_12 231 12 11 (.int) := ⟨_, _, _, st_12, rfl, by decide, (ss_in 1130 (by decide +kernel) (by decide +kernel)), si_12, st_12_ok, sn_12, rfl, by decide +kernel⟩
theorem kp_M_268 : ss_fp sR_12 268 12 8 (.int) := ⟨_, _, _, st_12, rfl, by decide, (ss_in 1126 (by decide +kernel) (by decide +kernel)), si_12, st_12_ok, sn_12, rfl, by decide +kernel⟩
theorem kp_M_280 : ss_fp sR_12 280 12 1 (.int) := ⟨_, _, _, st_12, rfl, by decide, (ss_in 1114 (by decide +kernel) (by decide +kernel)), si_12, st_12_ok, sn_12, rfl, by decide +kernel⟩
theorem kp_M_289 : ss_fp sR_12 289 12 15 (.int) := ⟨_, _, _, st_12, rfl, by decide, (ss_in 1140 (by decide +kernel) (by decide +kernel)), si_12, st_12_ok, sn_12, rfl, by decide +kernel⟩
theorem kp_M_292 : ss_fp sR_12 292 12 12 (.int) := ⟨_, _, _, st_12, rfl, by decide, (ss_in 1132 (by decide +kernel) (by decide +kernel)), si_12, st_12_ok, sn_12, rfl, by decide +kernel⟩
theorem kp_M_441 : ss_fp sR_12 441 12 14 (.int) := ⟨_, _, _, st_12, rfl, by decide, (ss_in 1136 (by decide +kernel) (by decide +kernel)), si_12, st_12_ok, sn_12, rfl, by decide +kernel⟩
theorem kp_M_444 : ss_fp sR_12 444 12 16 (.long) := ⟨_, _, _, st_12, rfl, by decide, (ss_in 1147 (by decide +kernel) (by decide +kernel)), si_12, st_12_ok, sn_12, rfl, by decide +kernel⟩
theorem kq_S_10 : ss_fq sR_11 10 11 1 (.object "SweptSnow$Tape") := ⟨_, _, _, st_11, rfl, by decide, (ss_in 374 (by decide +kernel) (by decide +kernel)), si_11, st_11_ok, sn_11, rfl, rfl, by decide +kernel⟩
theorem kq_S_21 : ss_fq sR_11 21 11 2 (.object "SweptSnow$ValleyReader") := ⟨_, _, _, st_11, rfl, by decide, (ss_in 375 (by decide +kernel) (by decide +kernel)), si_11, st_11_ok, sn_11, rfl, rfl, by decide +kernel⟩
theorem kq_S_28 : ss_fq sR_11 28 11 3 (.object "SweptSnow$RuleReader") := ⟨_, _, _, st_11, rfl, by decide, (ss_in 376 (by decide +kernel) (by decide +kernel)), si_11, st_11_ok, sn_11, rfl, rfl, by decide +kernel⟩
theorem kq_S_34 : ss_fq sR_11 34 11 4 (.array (.object "SweptSnow$Rule")) := ⟨_, _, _, st_11, rfl, by decide, (ss_in 377 (by decide +kernel) (by decide +kernel)), si_11, st_11_ok, sn_11, rfl, rfl, by decide +kernel⟩
theorem kq_S_41 : ss_fq sR_11 41 11 5 (.object "SweptSnow$World") := ⟨_, _, _, st_11, rfl, by decide, (ss_in 379 (by decide +kernel) (by decide +kernel)), si_11, st_11_ok, sn_11, rfl, rfl, by decide +kernel⟩
theorem kq_S_45 : ss_fq sR_11 45 11 6 (.array (.object "SweptSnow$World")) := ⟨_, _, _, st_11, rfl, by decide, (ss_in 380 (by decide +kernel) (by decide +kernel)), si_11, st_11_ok, sn_11, rfl, rfl, by decide +kernel⟩
theorem kq_S_52 : ss_fq sR_11 52 11 7 (.object "SweptSnow$Acts") := ⟨_, _, _, st_11, rfl, by decide, (ss_in 381 (by decide +kernel) (by decide +kernel)), si_11, st_11_ok, sn_11, rfl, rfl, by decide +kernel⟩
theorem kq_S_65 : ss_fq sR_11 65 11 8 (.object "SweptSnow$Winter") := ⟨_, _, _, st_11, rfl, by decide, (ss_in 382 (by decide +kernel) (by decide +kernel)), si_11, st_11_ok, sn_11, rfl, rfl, by decide +kernel⟩
theorem kq_S_74 : ss_fq sR_11 74 11 9 (.object "SweptSnow$Forecast") := ⟨_, _, _, st_11, rfl, by decide, (ss_in 383 (by decide +kernel) (by decide +kernel)), si_11, st_11_ok, sn_11, rfl, rfl, by decide +kernel⟩
theorem kq_S_83 : ss_fq sR_11 83 11 10 (.object "SweptSnow$Plans") := ⟨_, _, _, st_11, rfl, by decide, (ss_in 384 (by decide +kernel) (by decide +kernel)), si_11, st_11_ok, sn_11, rfl, rfl, by decide +kernel⟩
theorem kq_A_13 : ss_fq sR_3 13 3 2 (.array (.object "SweptSnow$Ground")) := ⟨_, _, _, st_3, rfl, by decide, (ss_in 278 (by decide +kernel) (by decide +kernel)), si_3, st_3_ok, sn_3, rfl, rfl, by decide +kernel⟩
theorem kq_F_11 : ss_fq sR_9 11 9 3 (.array .int) := ⟨_, _, _, st_9, rfl, by decide, (ss_in 338 (by decide +kernel) (by decide +kernel)), si_9, st_9_ok, sn_9, rfl, rfl, by decide +kernel⟩
theorem kq_F_15 : ss_fq sR_9 15 9 4 (.array .boolean) := ⟨_, _, _, st_9, rfl, by decide, (ss_in 339 (by decide +kernel) (by decide +kernel)), si_9, st_9_ok, sn_9, rfl, rfl, by decide +kernel⟩
theorem kq_F_19 : ss_fq sR_9 19 9 0 (.object "SweptSnow$World") := ⟨_, _, _, st_9, rfl, by decide, (ss_in 335 (by decide +kernel) (by decide +kernel)), si_9, st_9_ok, sn_9, rfl, rfl, by decide +kernel⟩
theorem kq_F_23 : ss_fq sR_9 23 9 1 (.array (.object "SweptSnow$Rule")) := ⟨_, _, _, st_9, rfl, by decide, (ss_in 336 (by decide +kernel) (by decide +kernel)), si_9, st_9_ok, sn_9, rfl, rfl, by decide +kernel⟩
theorem kq_F_27 : ss_fq sR_9 27 9 2 (.object "SweptSnow$Winter") := ⟨_, _, _, st_9, rfl, by decide, (ss_in 337 (by decide +kernel) (by decide +kernel)), si_9, st_9_ok, sn_9, rfl, rfl, by decide +kernel⟩
theorem kq_G_9 : ss_fq sR_0 9 0 4 (.array .int) := ⟨_, _, _, st_0, rfl, by decide, (ss_in 75 (by decide +kernel) (by decide +kernel)), si_0, st_0_ok, sn_0, rfl, rfl, by decide +kernel⟩
theorem kq_G_15 : ss_fq sR_0 15 0 5 (.array .int) := ⟨_, _, _, st_0, rfl, by decide, (ss_in 82 (by decide +kernel) (by decide +kernel)), si_0, st_0_ok, sn_0, rfl, rfl, by decide +kernel⟩
theorem kq_P_9 : ss_fq sR_10 9 10 2 (.array .int) := ⟨_, _, _, st_10, rfl, by decide, (ss_in 360 (by decide +kernel) (by decide +kernel)), si_10, st_10_ok, sn_10, rfl, rfl, by decide +kernel⟩
theorem kq_P_15 : ss_fq sR_10 15 10 3 (.array .int) := ⟨_, _, _, st_10, rfl, by decide, (ss_in 361 (by decide +kernel) (by decide +kernel)), si_10, st_10_ok, sn_10, rfl, rfl, by decide +kernel⟩
theorem kq_P_18 : ss_fq sR_10 18 10 4 (.array .int) := ⟨_, _, _, st_10, rfl, by decide, (ss_in 362 (by decide +kernel) (by decide +kernel)), si_10, st_10_ok, sn_10, rfl, rfl, by decide +kernel⟩
theorem kq_P_21 : ss_fq sR_10 21 10 0 (.object "SweptSnow$World") := ⟨_, _, _, st_10, rfl, by decide, (ss_in 358 (by decide +kernel) (by decide +kernel)), si_10, st_10_ok, sn_10, rfl, rfl, by decide +kernel⟩
theorem kq_P_25 : ss_fq sR_10 25 10 1 (.object "SweptSnow$Winter") := ⟨_, _, _, st_10, rfl, by decide, (ss_in 359 (by decide +kernel) (by decide +kernel)), si_10, st_10_ok, sn_10, rfl, rfl, by decide +kernel⟩
theorem kq_Ru_7 : ss_fq sR_1 7 1 1 (.array .int) := ⟨_, _, _, st_1, rfl, by decide, (ss_in 665 (by decide +kernel) (by decide +kernel)), si_1, st_1_ok, sn_1, rfl, rfl, by decide +kernel⟩
theorem kq_Ru_13 : ss_fq sR_1 13 1 2 (.array .int) := ⟨_, _, _, st_1, rfl, by decide, (ss_in 666 (by decide +kernel) (by decide +kernel)), si_1, st_1_ok, sn_1, rfl, rfl, by decide +kernel⟩
theorem kq_Ru_16 : ss_fq sR_1 16 1 0 (.int) := ⟨_, _, _, st_1, rfl, by decide, (ss_in 667 (by decide +kernel) (by decide +kernel)), si_1, st_1_ok, sn_1, rfl, rfl, by decide +kernel⟩
theorem kq_RR_11 : ss_fq sR_4 11 4 4 (.array .int) := ⟨_, _, _, st_4, rfl, by decide, (ss_in 198 (by decide +kernel) (by decide +kernel)), si_4, st_4_ok, sn_4, rfl, rfl, by decide +kernel⟩
theorem kq_RR_17 : ss_fq sR_4 17 4 5 (.array .int) := ⟨_, _, _, st_4, rfl, by decide, (ss_in 199 (by decide +kernel) (by decide +kernel)), si_4, st_4_ok, sn_4, rfl, rfl, by decide +kernel⟩
theorem kq_RR_20 : ss_fq sR_4 20 4 3 (.object "SweptSnow$Tape") := ⟨_, _, _, st_4, rfl, by decide, (ss_in 197 (by decide +kernel) (by decide +kernel)), si_4, st_4_ok, sn_4, rfl, rfl, by decide +kernel⟩
theorem kq_T_11 : ss_fq sR_2 11 2 5 (.array .int) := ⟨_, _, _, st_2, rfl, by decide, (ss_in 35 (by decide +kernel) (by decide +kernel)), si_2, st_2_ok, sn_2, rfl, rfl, by decide +kernel⟩
theorem kq_V_9 : ss_fq sR_5 9 5 5 (.array .int) := ⟨_, _, _, st_5, rfl, by decide, (ss_in 139 (by decide +kernel) (by decide +kernel)), si_5, st_5_ok, sn_5, rfl, rfl, by decide +kernel⟩
theorem kq_V_15 : ss_fq sR_5 15 5 6 (.array .int) := ⟨_, _, _, st_5, rfl, by decide, (ss_in 145 (by decide +kernel) (by decide +kernel)), si_5, st_5_ok, sn_5, rfl, rfl, by decide +kernel⟩
theorem kq_V_18 : ss_fq sR_5 18 5 7 (.array .int) := ⟨_, _, _, st_5, rfl, by decide, (ss_in 149 (by decide +kernel) (by decide +kernel)), si_5, st_5_ok, sn_5, rfl, rfl, by decide +kernel⟩
theorem kq_V_21 : ss_fq sR_5 21 5 8 (.array .int) := ⟨_, _, _, st_5, rfl, by decide, (ss_in 154 (by decide +kernel) (by decide +kernel)), si_5, st_5_ok, sn_5, rfl, rfl, by decide +kernel⟩
theorem kq_V_27 : ss_fq sR_5 27 5 9 (.object "SweptSnow$Ground") := ⟨_, _, _, st_5, rfl, by decide, (ss_in 156 (by decide +kernel) (by decide +kernel)), si_5, st_5_ok, sn_5, rfl, rfl, by decide +kernel⟩
theorem kq_VR_12 : ss_fq sR_6 12 6 1 (.object "SweptSnow$Valley") := ⟨_, _, _, st_6, rfl, by decide, (ss_in 182 (by decide +kernel) (by decide +kernel)), si_6, st_6_ok, sn_6, rfl, rfl, by decide +kernel⟩
theorem kq_VR_18 : ss_fq sR_6 18 6 2 (.object "SweptSnow$Valley") := ⟨_, _, _, st_6, rfl, by decide, (ss_in 183 (by decide +kernel) (by decide +kernel)), si_6, st_6_ok, sn_6, rfl, rfl, by decide +kernel⟩
theorem kq_VR_21 : ss_fq sR_6 21 6 0 (.object "SweptSnow$Tape") := ⟨_, _, _, st_6, rfl, by decide, (ss_in 181 (by decide +kernel) (by decide +kernel)), si_6, st_6_ok, sn_6, rfl, rfl, by decide +kernel⟩
theorem kq_Wi_12 : ss_fq sR_7 12 7 0 (.object "SweptSnow$Ground") := ⟨_, _, _, st_7, rfl, by decide, (ss_in 297 (by decide +kernel) (by decide +kernel)), si_7, st_7_ok, sn_7, rfl, rfl, by decide +kernel⟩
theorem kq_Wi_18 : ss_fq sR_7 18 7 1 (.array .int) := ⟨_, _, _, st_7, rfl, by decide, (ss_in 301 (by decide +kernel) (by decide +kernel)), si_7, st_7_ok, sn_7, rfl, rfl, by decide +kernel⟩
theorem kq_Wi_22 : ss_fq sR_7 22 7 2 (.array .int) := ⟨_, _, _, st_7, rfl, by decide, (ss_in 303 (by decide +kernel) (by decide +kernel)), si_7, st_7_ok, sn_7, rfl, rfl, by decide +kernel⟩
theorem kq_Wi_25 : ss_fq sR_7 25 7 3 (.array .int) := ⟨_, _, _, st_7, rfl, by decide, (ss_in 305 (by decide +kernel) (by decide +kernel)), si_7, st_7_ok, sn_7, rfl, rfl, by decide +kernel⟩
theorem kq_Wi_30 : ss_fq sR_7 30 7 4 (.array .long) := ⟨_, _, _, st_7, rfl, by decide, (ss_in 307 (by decide +kernel) (by decide +kernel)), si_7, st_7_ok, sn_7, rfl, rfl, by decide +kernel⟩
theorem kq_Wi_34 : ss_fq sR_7 34 7 5 (.array .long) := ⟨_, _, _, st_7, rfl, by decide, (ss_in 308 (by decide +kernel) (by decide +kernel)), si_7, st_7_ok, sn_7, rfl, rfl, by decide +kernel⟩
theorem kq_Wi_37 : ss_fq sR_7 37 7 6 (.object "SweptSnow$Valley") := ⟨_, _, _, st_7, rfl, by decide, (ss_in 309 (by decide +kernel) (by decide +kernel)), si_7, st_7_ok, sn_7, rfl, rfl, by decide +kernel⟩
theorem kq_Wo_12 : ss_fq sR_8 12 8 3 (.object "SweptSnow$Valley") := ⟨_, _, _, st_8, rfl, by decide, (ss_in 228 (by decide +kernel) (by decide +kernel)), si_8, st_8_ok, sn_8, rfl, rfl, by decide +kernel⟩
theorem kq_Wo_21 : ss_fq sR_8 21 8 4 (.object "SweptSnow$Ground") := ⟨_, _, _, st_8, rfl, by decide, (ss_in 232 (by decide +kernel) (by decide +kernel)), si_8, st_8_ok, sn_8, rfl, rfl, by decide +kernel⟩
theorem kq_Wo_29 : ss_fq sR_8 29 8 5 (.array .int) := ⟨_, _, _, st_8, rfl, by decide, (ss_in 245 (by decide +kernel) (by decide +kernel)), si_8, st_8_ok, sn_8, rfl, rfl, by decide +kernel⟩
theorem kq_Wo_33 : ss_fq sR_8 33 8 6 (.array .int) := ⟨_, _, _, st_8, rfl, by decide, (ss_in 247 (by decide +kernel) (by decide +kernel)), si_8, st_8_ok, sn_8, rfl, rfl, by decide +kernel⟩
theorem kq_Wo_36 : ss_fq sR_8 36 8 7 (.array .int) := ⟨_, _, _, st_8, rfl, by decide, (ss_in 249 (by decide +kernel) (by decide +kernel)), si_8, st_8_ok, sn_8, rfl, rfl, by decide +kernel⟩
theorem kq_M_7 : ss_fq sR_12 7 12 17 (.array .byte) := ⟨_, _, _, st_12, rfl, by decide, (ss_in 1112 (by decide +kernel) (by decide +kernel)), si_12, st_12_ok, sn_12, rfl, rfl, by decide +kernel⟩
theorem kq_M_13 : ss_fq sR_12 13 12 18 (.array .int) := ⟨_, _, _, st_12, rfl, by decide, (ss_in 1115 (by decide +kernel) (by decide +kernel)), si_12, st_12_ok, sn_12, rfl, rfl, by decide +kernel⟩
theorem kq_M_17 : ss_fq sR_12 17 12 19 (.array .int) := ⟨_, _, _, st_12, rfl, by decide, (ss_in 1116 (by decide +kernel) (by decide +kernel)), si_12, st_12_ok, sn_12, rfl, rfl, by decide +kernel⟩
theorem kq_M_20 : ss_fq sR_12 20 12 20 (.array .int) := ⟨_, _, _, st_12, rfl, by decide, (ss_in 1117 (by decide +kernel) (by decide +kernel)), si_12, st_12_ok, sn_12, rfl, rfl, by decide +kernel⟩
theorem kq_M_23 : ss_fq sR_12 23 12 21 (.array .int) := ⟨_, _, _, st_12, rfl, by decide, (ss_in 1118 (by decide +kernel) (by decide +kernel)), si_12, st_12_ok, sn_12, rfl, rfl, by decide +kernel⟩
theorem kq_M_26 : ss_fq sR_12 26 12 22 (.array .int) := ⟨_, _, _, st_12, rfl, by decide, (ss_in 1119 (by decide +kernel) (by decide +kernel)), si_12, st_12_ok, sn_12, rfl, rfl, by decide +kernel⟩
theorem kq_M_29 : ss_fq sR_12 29 12 23 (.array .int) := ⟨_, _, _, st_12, rfl, by decide, (ss_in 1127 (by decide +kernel) (by decide +kernel)), si_12, st_12_ok, sn_12, rfl, rfl, by decide +kernel⟩
theorem kq_M_32 : ss_fq sR_12 32 12 24 (.array .long) := ⟨_, _, _, st_12, rfl, by decide, (ss_in 1131 (by decide +kernel) (by decide +kernel)), si_12, st_12_ok, sn_12, rfl, rfl, by decide +kernel⟩
theorem kq_M_36 : ss_fq sR_12 36 12 25 (.array .long) := ⟨_, _, _, st_12, rfl, by decide, (ss_in 1133 (by decide +kernel) (by decide +kernel)), si_12, st_12_ok, sn_12, rfl, rfl, by decide +kernel⟩
theorem kq_M_39 : ss_fq sR_12 39 12 26 (.array .int) := ⟨_, _, _, st_12, rfl, by decide, (ss_in 1134 (by decide +kernel) (by decide +kernel)), si_12, st_12_ok, sn_12, rfl, rfl, by decide +kernel⟩
theorem kq_M_46 : ss_fq sR_12 46 12 27 (.array .int) := ⟨_, _, _, st_12, rfl, by decide, (ss_in 1137 (by decide +kernel) (by decide +kernel)), si_12, st_12_ok, sn_12, rfl, rfl, by decide +kernel⟩
theorem kq_M_49 : ss_fq sR_12 49 12 28 (.array .int) := ⟨_, _, _, st_12, rfl, by decide, (ss_in 1138 (by decide +kernel) (by decide +kernel)), si_12, st_12_ok, sn_12, rfl, rfl, by decide +kernel⟩
theorem kq_M_52 : ss_fq sR_12 52 12 29 (.array .int) := ⟨_, _, _, st_12, rfl, by decide, (ss_in 1139 (by decide +kernel) (by decide +kernel)), si_12, st_12_ok, sn_12, rfl, rfl, by decide +kernel⟩
theorem kq_M_55 : ss_fq sR_12 55 12 30 (.array .int) := ⟨_, _, _, st_12, rfl, by decide, (ss_in 1141 (by decide +kernel) (by decide +kernel)), si_12, st_12_ok, sn_12, rfl, rfl, by decide +kernel⟩
theorem kq_M_58 : ss_fq sR_12 58 12 31 (.array .int) := ⟨_, _, _, st_12, rfl, by decide, (ss_in 1142 (by decide +kernel) (by decide +kernel)), si_12, st_12_ok, sn_12, rfl, rfl, by decide +kernel⟩
theorem kq_M_61 : ss_fq sR_12 61 12 32 (.array .int) := ⟨_, _, _, st_12, rfl, by decide, (ss_in 1143 (by decide +kernel) (by decide +kernel)), si_12, st_12_ok, sn_12, rfl, rfl, by decide +kernel⟩
theorem kq_M_64 : ss_fq sR_12 64 12 33 (.array .int) := ⟨_, _, _, st_12, rfl, by decide, (ss_in 1144 (by decide +kernel) (by decide +kernel)), si_12, st_12_ok, sn_12, rfl, rfl, by decide +kernel⟩
theorem kq_M_67 : ss_fq sR_12 67 12 34 (.array .boolean) := ⟨_, _, _, st_12, rfl, by decide, (ss_in 1145 (by decide +kernel) (by decide +kernel)), si_12, st_12_ok, sn_12, rfl, rfl, by decide +kernel⟩
theorem kq_M_71 : ss_fq sR_12 71 12 35 (.array .int) := ⟨_, _, _, st_12, rfl, by decide, (ss_in 1146 (by decide +kernel) (by decide +kernel)), si_12, st_12_ok, sn_12, rfl, rfl, by decide +kernel⟩
theorem kq_M_74 : ss_fq sR_12 74 12 36 (.array .int) := ⟨_, _, _, st_12, rfl, by decide, (ss_in 1148 (by decide +kernel) (by decide +kernel)), si_12, st_12_ok, sn_12, rfl, rfl, by decide +kernel⟩
theorem kq_M_77 : ss_fq sR_12 77 12 37 (.array .int) := ⟨_, _, _, st_12, rfl, by decide, (ss_in 1149 (by decide +kernel) (by decide +kernel)), si_12, st_12_ok, sn_12, rfl, rfl, by decide +kernel⟩
theorem kq_M_80 : ss_fq sR_12 80 12 38 (.array .int) := ⟨_, _, _, st_12, rfl, by decide, (ss_in 1150 (by decide +kernel) (by decide +kernel)), si_12, st_12_ok, sn_12, rfl, rfl, by decide +kernel⟩
theorem kq_M_83 : ss_fq sR_12 83 12 39 (.array .boolean) := ⟨_, _, _, st_12, rfl, by decide, (ss_in 1151 (by decide +kernel) (by decide +kernel)), si_12, st_12_ok, sn_12, rfl, rfl, by decide +kernel⟩
theorem ks_T_41 : ss_ks sR_2 41 := ⟨(ss_in 468 (by decide +kernel) (by decide +kernel)), (ss_in 14 (by decide +kernel) (by decide +kernel)), (ss_in 465 (by decide +kernel) (by decide +kernel)), by decide +kernel⟩
theorem ks_T_46 : ss_kc sR_2 46 := ⟨(ss_in 478 (by decide +kernel) (by decide +kernel)), (ss_in 14 (by decide +kernel) (by decide +kernel)), (ss_in 475 (by decide +kernel) (by decide +kernel)), by decide +kernel⟩
