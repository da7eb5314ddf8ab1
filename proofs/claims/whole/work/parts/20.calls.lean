abbrev cX2_allPlain : ByteArray := prog_4_method_23_code
def yX2_allPlain : MethodName := ⟨RX2, "allPlain", "()Z"⟩
abbrev cX4_isGoalWithin : ByteArray := prog_6_method_6_code
def yX4_isGoalWithin : MethodName := ⟨RX4, "isGoalWithin", "(II)Z"⟩
abbrev cX5_isTold : ByteArray := prog_7_method_2_code
def yX5_isTold : MethodName := ⟨RX5, "isTold", "(II)Z"⟩
abbrev cX5_toldHalf : ByteArray := prog_7_method_3_code
def yX5_toldHalf : MethodName := ⟨RX5, "toldHalf", "(II)I"⟩
abbrev cX5_toldTakes : ByteArray := prog_7_method_4_code
def yX5_toldTakes : MethodName := ⟨RX5, "toldTakes", "(II)I"⟩
abbrev cX8_readTerm : ByteArray := prog_10_method_6_code
def yX8_readTerm : MethodName := ⟨RX8, "readTerm", "([BI)Z"⟩
abbrev cX9_load : ByteArray := prog_11_method_2_code
def yX9_load : MethodName := ⟨RX9, "load", "(LIntegerHouse$House;[J)Z"⟩
abbrev cX9_takeAtom : ByteArray := prog_11_method_3_code
def yX9_takeAtom : MethodName := ⟨RX9, "takeAtom", "(LIntegerHouse$House;I)Z"⟩
abbrev cX9_isLike : ByteArray := prog_11_method_4_code
def yX9_isLike : MethodName := ⟨RX9, "isLike", "(II)Z"⟩
abbrev cX9_rowNumber : ByteArray := prog_11_method_5_code
def yX9_rowNumber : MethodName := ⟨RX9, "rowNumber", "(II)J"⟩
abbrev cX9_setRow : ByteArray := prog_11_method_6_code
def yX9_setRow : MethodName := ⟨RX9, "setRow", "(IIJ)V"⟩
abbrev cX9_clearRow : ByteArray := prog_11_method_7_code
def yX9_clearRow : MethodName := ⟨RX9, "clearRow", "(I)V"⟩
abbrev cX9_addLimit : ByteArray := prog_11_method_8_code
def yX9_addLimit : MethodName := ⟨RX9, "addLimit", "(IIJ)V"⟩
abbrev cX9_tell : ByteArray := prog_11_method_9_code
def yX9_tell : MethodName := ⟨RX9, "tell", "()I"⟩
abbrev cX9_tellOne : ByteArray := prog_11_method_10_code
def yX9_tellOne : MethodName := ⟨RX9, "tellOne", "(IJ)V"⟩
abbrev cX9_isTold : ByteArray := prog_11_method_11_code
def yX9_isTold : MethodName := ⟨RX9, "isTold", "(I)Z"⟩
abbrev cX9_toldFraction : ByteArray := prog_11_method_12_code
def yX9_toldFraction : MethodName := ⟨RX9, "toldFraction", "(I)J"⟩
abbrev cX9_solve : ByteArray := prog_11_method_13_code
def yX9_solve : MethodName := ⟨RX9, "solve", "()I"⟩
abbrev cX9_verdict : ByteArray := prog_11_method_14_code
def yX9_verdict : MethodName := ⟨RX9, "verdict", "()I"⟩
abbrev cX9_beginEndless : ByteArray := prog_11_method_15_code
def yX9_beginEndless : MethodName := ⟨RX9, "beginEndless", "()V"⟩
abbrev cX9_locate : ByteArray := prog_11_method_16_code
def yX9_locate : MethodName := ⟨RX9, "locate", "()V"⟩
abbrev cX9_brokenRow : ByteArray := prog_11_method_17_code
def yX9_brokenRow : MethodName := ⟨RX9, "brokenRow", "()I"⟩
abbrev cX9_slackSign : ByteArray := prog_11_method_18_code
def yX9_slackSign : MethodName := ⟨RX9, "slackSign", "(I)I"⟩
abbrev cX9_signOf : ByteArray := prog_11_method_19_code
def yX9_signOf : MethodName := ⟨RX9, "signOf", "(JJ)I"⟩
abbrev cX9_crossSign : ByteArray := prog_11_method_20_code
def yX9_crossSign : MethodName := ⟨RX9, "crossSign", "(JJJJ)I"⟩
abbrev cX9_mixOf : ByteArray := prog_11_method_21_code
def yX9_mixOf : MethodName := ⟨RX9, "mixOf", "(I)V"⟩
abbrev cX9_leaving : ByteArray := prog_11_method_22_code
def yX9_leaving : MethodName := ⟨RX9, "leaving", "()I"⟩
abbrev cX9_isBefore : ByteArray := prog_11_method_23_code
def yX9_isBefore : MethodName := ⟨RX9, "isBefore", "(II)Z"⟩
abbrev cX9_goalOf : ByteArray := prog_11_method_24_code
def yX9_goalOf : MethodName := ⟨RX9, "goalOf", "(I)J"⟩
abbrev cX9_exchange : ByteArray := prog_11_method_25_code
def yX9_exchange : MethodName := ⟨RX9, "exchange", "(II)V"⟩
abbrev cX9_goalAtPoint : ByteArray := prog_11_method_26_code
def yX9_goalAtPoint : MethodName := ⟨RX9, "goalAtPoint", "()J"⟩
abbrev cX9_goalDown : ByteArray := prog_11_method_27_code
def yX9_goalDown : MethodName := ⟨RX9, "goalDown", "()J"⟩
abbrev cX9_firstBroken : ByteArray := prog_11_method_28_code
def yX9_firstBroken : MethodName := ⟨RX9, "firstBroken", "()I"⟩
abbrev cX9_down : ByteArray := prog_11_method_29_code
def yX9_down : MethodName := ⟨RX9, "down", "(I)J"⟩
abbrev cX9_isLimit : ByteArray := prog_11_method_30_code
def yX9_isLimit : MethodName := ⟨RX9, "isLimit", "(J)Z"⟩
abbrev cX9_addCut : ByteArray := prog_11_method_31_code
def yX9_addCut : MethodName := ⟨RX9, "addCut", "(I)Z"⟩
abbrev cX9_finishCut : ByteArray := prog_11_method_32_code
def yX9_finishCut : MethodName := ⟨RX9, "finishCut", "(JJ)Z"⟩
abbrev cX9_findBasis : ByteArray := prog_11_method_33_code
def yX9_findBasis : MethodName := ⟨RX9, "findBasis", "()V"⟩
abbrev cX10_isTold : ByteArray := prog_12_method_2_code
def yX10_isTold : MethodName := ⟨RX10, "isTold", "(I)Z"⟩
abbrev cX10_toldBest : ByteArray := prog_12_method_3_code
def yX10_toldBest : MethodName := ⟨RX10, "toldBest", "(I)J"⟩
abbrev cX10_run : ByteArray := prog_12_method_4_code
def yX10_run : MethodName := ⟨RX10, "run", "(II)I"⟩
abbrev cX10_lay : ByteArray := prog_12_method_5_code
def yX10_lay : MethodName := ⟨RX10, "lay", "(IIIJ)V"⟩
abbrev cX10_take : ByteArray := prog_12_method_6_code
def yX10_take : MethodName := ⟨RX10, "take", "()V"⟩
abbrev cX10_look : ByteArray := prog_12_method_7_code
def yX10_look : MethodName := ⟨RX10, "look", "(I)Z"⟩
abbrev cX10_keepBest : ByteArray := prog_12_method_8_code
def yX10_keepBest : MethodName := ⟨RX10, "keepBest", "()V"⟩
abbrev cX10_halve : ByteArray := prog_12_method_9_code
def yX10_halve : MethodName := ⟨RX10, "halve", "(I)Z"⟩
abbrev cX11_half : ByteArray := prog_1_method_39_code
def yX11_half : MethodName := ⟨RX11, "half", "(II)I"⟩
abbrev cX11_takes : ByteArray := prog_1_method_40_code
def yX11_takes : MethodName := ⟨RX11, "takes", "(II)I"⟩
abbrev cX11_relaxed : ByteArray := prog_1_method_41_code
def yX11_relaxed : MethodName := ⟨RX11, "relaxed", "()I"⟩
abbrev cX11_fraction : ByteArray := prog_1_method_42_code
def yX11_fraction : MethodName := ⟨RX11, "fraction", "(I)J"⟩
abbrev cX11_search : ByteArray := prog_1_method_43_code
def yX11_search : MethodName := ⟨RX11, "search", "(II)I"⟩
abbrev cX11_best : ByteArray := prog_1_method_44_code
def yX11_best : MethodName := ⟨RX11, "best", "(I)J"⟩
abbrev cX12_half : ByteArray := prog_14_method_157_code
def yX12_half : MethodName := ⟨RX12, "half", "(II)I"⟩
abbrev cX12_takes : ByteArray := prog_14_method_158_code
def yX12_takes : MethodName := ⟨RX12, "takes", "(II)I"⟩
abbrev cX12_isRow : ByteArray := prog_14_method_159_code
def yX12_isRow : MethodName := ⟨RX12, "isRow", "(I)Z"⟩
abbrev cX12_addRow : ByteArray := prog_14_method_160_code
def yX12_addRow : MethodName := ⟨RX12, "addRow", "()V"⟩
abbrev cX12_addNewRow : ByteArray := prog_14_method_161_code
def yX12_addNewRow : MethodName := ⟨RX12, "addNewRow", "()V"⟩
abbrev cX12_isAllPlain : ByteArray := prog_14_method_162_code
def yX12_isAllPlain : MethodName := ⟨RX12, "isAllPlain", "()Z"⟩
abbrev cX12_collectRows : ByteArray := prog_14_method_163_code
def yX12_collectRows : MethodName := ⟨RX12, "collectRows", "()V"⟩
abbrev cX12_factor : ByteArray := prog_14_method_164_code
def yX12_factor : MethodName := ⟨RX12, "factor", "(II)J"⟩
abbrev cX12_two : ByteArray := prog_14_method_165_code
def yX12_two : MethodName := ⟨RX12, "two", "(JJJJ)J"⟩
abbrev cX12_three : ByteArray := prog_14_method_166_code
def yX12_three : MethodName := ⟨RX12, "three", "(IIIIII)J"⟩
abbrev cX12_determinant : ByteArray := prog_14_method_167_code
def yX12_determinant : MethodName := ⟨RX12, "determinant", "()J"⟩
abbrev cX12_layBasis : ByteArray := prog_14_method_168_code
def yX12_layBasis : MethodName := ⟨RX12, "layBasis", "()V"⟩
abbrev cX12_shareOf : ByteArray := prog_14_method_169_code
def yX12_shareOf : MethodName := ⟨RX12, "shareOf", "(II)J"⟩
abbrev cX12_partOf : ByteArray := prog_14_method_170_code
def yX12_partOf : MethodName := ⟨RX12, "partOf", "(II)J"⟩
abbrev cX12_solve : ByteArray := prog_14_method_171_code
def yX12_solve : MethodName := ⟨RX12, "solve", "()V"⟩
abbrev cX12_multiply : ByteArray := prog_14_method_172_code
def yX12_multiply : MethodName := ⟨RX12, "multiply", "(JJ)V"⟩
abbrev cX12_compare : ByteArray := prog_14_method_173_code
def yX12_compare : MethodName := ⟨RX12, "compare", "(JJJJ)I"⟩
abbrev cX12_compareRow : ByteArray := prog_14_method_174_code
def yX12_compareRow : MethodName := ⟨RX12, "compareRow", "(IZJ)I"⟩
abbrev cX12_isBeyond : ByteArray := prog_14_method_175_code
def yX12_isBeyond : MethodName := ⟨RX12, "isBeyond", "(I)Z"⟩
abbrev cX12_goesRather : ByteArray := prog_14_method_176_code
def yX12_goesRather : MethodName := ⟨RX12, "goesRather", "(IJIJ)Z"⟩
abbrev cX12_findVertex : ByteArray := prog_14_method_177_code
def yX12_findVertex : MethodName := ⟨RX12, "findVertex", "()Z"⟩
abbrev cX12_valueOf : ByteArray := prog_14_method_178_code
def yX12_valueOf : MethodName := ⟨RX12, "valueOf", "(Z)J"⟩
abbrev cX12_isWild : ByteArray := prog_14_method_179_code
def yX12_isWild : MethodName := ⟨RX12, "isWild", "()Z"⟩
abbrev cX12_tellFraction : ByteArray := prog_14_method_180_code
def yX12_tellFraction : MethodName := ⟨RX12, "tellFraction", "(IJ)V"⟩
abbrev cX12_readsLineTerm : ByteArray := prog_14_method_181_code
def yX12_readsLineTerm : MethodName := ⟨RX12, "readsLineTerm", "()Z"⟩
abbrev cX12_relaxed : ByteArray := prog_14_method_182_code
def yX12_relaxed : MethodName := ⟨RX12, "relaxed", "()I"⟩
abbrev cX12_fraction : ByteArray := prog_14_method_183_code
def yX12_fraction : MethodName := ⟨RX12, "fraction", "(I)J"⟩
abbrev cX12_pile : ByteArray := prog_14_method_184_code
def yX12_pile : MethodName := ⟨RX12, "pile", "()V"⟩
abbrev cX12_takeNode : ByteArray := prog_14_method_185_code
def yX12_takeNode : MethodName := ⟨RX12, "takeNode", "()V"⟩
abbrev cX12_floor : ByteArray := prog_14_method_186_code
def yX12_floor : MethodName := ⟨RX12, "floor", "(JJ)J"⟩
abbrev cX12_firstBroken : ByteArray := prog_14_method_187_code
def yX12_firstBroken : MethodName := ⟨RX12, "firstBroken", "()I"⟩
abbrev cX12_isTight : ByteArray := prog_14_method_188_code
def yX12_isTight : MethodName := ⟨RX12, "isTight", "(I)Z"⟩
abbrev cX12_isFree : ByteArray := prog_14_method_189_code
def yX12_isFree : MethodName := ⟨RX12, "isFree", "(II)Z"⟩
abbrev cX12_chooseBasis : ByteArray := prog_14_method_190_code
def yX12_chooseBasis : MethodName := ⟨RX12, "chooseBasis", "()V"⟩
abbrev cX12_cutRow : ByteArray := prog_14_method_191_code
def yX12_cutRow : MethodName := ⟨RX12, "cutRow", "(I)Z"⟩
abbrev cX12_isSmall : ByteArray := prog_14_method_192_code
def yX12_isSmall : MethodName := ⟨RX12, "isSmall", "(J)Z"⟩
abbrev cX12_lookAtNode : ByteArray := prog_14_method_193_code
def yX12_lookAtNode : MethodName := ⟨RX12, "lookAtNode", "(I)I"⟩
abbrev cX12_halves : ByteArray := prog_14_method_194_code
def yX12_halves : MethodName := ⟨RX12, "halves", "(I)I"⟩
abbrev cX12_search : ByteArray := prog_14_method_195_code
def yX12_search : MethodName := ⟨RX12, "search", "(II)I"⟩
abbrev cX12_best : ByteArray := prog_14_method_196_code
def yX12_best : MethodName := ⟨RX12, "best", "(I)J"⟩
abbrev cJ9_floorDiv_f86c9 : ByteArray := prog_20_method_49_code
def yJ9_floorDiv_f86c9 : MethodName := ⟨RJ9, "floorDiv", "(JJ)J"⟩
abbrev cL_half : ByteArray := method_8_code
def yL_half : MethodName := ⟨RL, "half", "(LIntegerHouse;II[J)I"⟩
abbrev cL_takes : ByteArray := method_9_code
def yL_takes : MethodName := ⟨RL, "takes", "(LIntegerHouse;II[J)I"⟩
abbrev cL_fraction : ByteArray := method_10_code
def yL_fraction : MethodName := ⟨RL, "fraction", "(LIntegerHouse;I[J)I"⟩
abbrev cL_best : ByteArray := method_11_code
def yL_best : MethodName := ⟨RL, "best", "(LIntegerHouse;I[J)I"⟩
def wsX2_allPlain : List Cond := .code yX2_allPlain cX2_allPlain 2 (some .boolean) :: ([.fieldLink RX2 55 "IntegerHouse$House" "claims" "I", .fieldLink RX2 61 "IntegerHouse$House" "on" "I", .methodLink RX2 67 yX2_fact, .instanceMethod yX2_fact, .selects RX2 yX2_fact yX2_fact, .initialized RX2, .code yX2_fact cX2_fact 3 (some .int), .fieldLink RX2 28 "IntegerHouse$House" "facts" "[I"] ++ wsX20)
def wsX5_isTold : List Cond := .code yX5_isTold cX5_isTold 3 (some .boolean) :: ([.fieldLink RX5 41 "IntegerHouse$OwnForm" "toldStates" "I", .fieldLink RX5 45 "IntegerHouse$OwnForm" "toldLetters" "I"] ++ wsX50)
def wsX8_readTerm_r1 : List Cond := [Cond.fieldLink RX8 62 "IntegerHouse$Reader" "faultKind" "I", Cond.fieldLink RX8 19 "IntegerHouse$Reader" "maker" "LIntegerHouse$Maker;", Cond.constant RX8 114 (99999), Cond.methodLink RX8 23 yX8_begin, Cond.instanceMethod yX8_begin, Cond.selects RX8 yX8_begin yX8_begin, Cond.initialized RX8, Cond.code yX8_begin cX8_begin 4 none, Cond.fieldLink RX8 9 "IntegerHouse$Reader" "lexer" "LIntegerHouse$Lexer;", Cond.fieldLink RX8 123 "IntegerHouse$Reader" "faultPlace" "I", Cond.fieldLink RX8 101 "IntegerHouse$Reader" "hasFormula" "Z", Cond.fieldLink RX8 79 "IntegerHouse$Reader" "at" "I", Cond.methodLink RX8 119 yX3_scan, Cond.instanceMethod yX3_scan, Cond.selects RX3 yX3_scan yX3_scan, Cond.initialized RX3, Cond.code yX3_scan cX3_scan 9 none, Cond.fieldLink RX3 28 "IntegerHouse$Lexer" "source" "[B", Cond.fieldLink RX3 55 "IntegerHouse$Lexer" "begin" "I", Cond.fieldLink RX3 52 "IntegerHouse$Lexer" "stop" "I", Cond.fieldLink RX3 48 "IntegerHouse$Lexer" "size" "I", Cond.fieldLink RX3 19 "IntegerHouse$Lexer" "spots" "[I", Cond.fieldLink RX3 15 "IntegerHouse$Lexer" "kinds" "[I", Cond.methodLink RX3 59 yX3_behindBlanks]
def wsX8_readTerm_r2 : List Cond := [Cond.instanceMethod yX3_behindBlanks, Cond.selects RX3 yX3_behindBlanks yX3_behindBlanks, Cond.code yX3_behindBlanks cX3_behindBlanks 3 (some .int), Cond.methodLink RX3 63 yX3_byteAt, Cond.instanceMethod yX3_byteAt, Cond.selects RX3 yX3_byteAt yX3_byteAt, Cond.code yX3_byteAt cX3_byteAt 2 (some .int), Cond.methodLink RX3 66 yX3_isLetter, Cond.static yX3_isLetter, Cond.code yX3_isLetter cX3_isLetter 1 (some .boolean), Cond.methodLink RX3 70 yX3_word, Cond.instanceMethod yX3_word, Cond.selects RX3 yX3_word yX3_word, Cond.code yX3_word cX3_word 9 (some .int), Cond.fieldLink RX3 11 "IntegerHouse$Lexer" "words" "[J", Cond.fieldLink RX3 25 "IntegerHouse$Lexer" "names" "[J", Cond.methodLink RX3 74 yX3_isDigit, Cond.static yX3_isDigit, Cond.code yX3_isDigit cX3_isDigit 1 (some .boolean), Cond.methodLink RX3 77 yX3_digits, Cond.instanceMethod yX3_digits, Cond.selects RX3 yX3_digits yX3_digits, Cond.code yX3_digits cX3_digits 6 (some .int), Cond.fieldLink RX3 22 "IntegerHouse$Lexer" "numbers" "[I"]
def wsX8_readTerm_r3 : List Cond := [Cond.methodLink RX3 81 yX3_sign, Cond.instanceMethod yX3_sign, Cond.selects RX3 yX3_sign yX3_sign, Cond.code yX3_sign cX3_sign 6 (some .int), Cond.methodLink RX3 44 yJ0_charAt_5068e, Cond.instanceMethod yJ0_charAt_5068e, Cond.selects RJ0 yJ0_charAt_5068e yJ0_charAt_5068e, Cond.initialized RJ0, Cond.code yJ0_charAt_5068e cJ0_charAt_5068e 2 (some .char), Cond.fieldLink RJ0 9 "java/lang/String" "value" "[B", Cond.methodLink RJ0 492 yJ0_isLatin1_aae02, Cond.instanceMethod yJ0_isLatin1_aae02, Cond.selects RJ0 yJ0_isLatin1_aae02 yJ0_isLatin1_aae02, Cond.code yJ0_isLatin1_aae02 cJ0_isLatin1_aae02 1 (some .boolean), Cond.fieldLink RJ0 38 "java/lang/String" "COMPACT_STRINGS" "Z", Cond.fieldLink RJ0 15 "java/lang/String" "coder" "B", Cond.methodLink RJ0 495 yJ1_charAt_3b067, Cond.static yJ1_charAt_3b067, Cond.initialized RJ1, Cond.code yJ1_charAt_3b067 cJ1_charAt_3b067 2 (some .char), Cond.methodLink RJ1 9 yJ0_checkIndex_df160, Cond.static yJ0_checkIndex_df160, Cond.code yJ0_checkIndex_df160 cJ0_checkIndex_df160 2 none, Cond.fieldLink RJ0 1053 "jdk/internal/util/Preconditions" "SIOOBE_FORMATTER" "Ljava/util/function/BiFunction;"]
def wsX8_readTerm_r4 : List Cond := [Cond.methodLink RJ0 1059 yJ3_checkIndex_8e157, Cond.static yJ3_checkIndex_8e157, Cond.initialized RJ3, Cond.code yJ3_checkIndex_8e157 cJ3_checkIndex_8e157 3 (some .int), Cond.methodLink RJ0 498 yJ2_charAt_3b067, Cond.static yJ2_charAt_3b067, Cond.initialized RJ2, Cond.code yJ2_charAt_3b067 cJ2_charAt_3b067 2 (some .char), Cond.methodLink RJ2 67 yJ2_checkIndex_2214a, Cond.static yJ2_checkIndex_2214a, Cond.code yJ2_checkIndex_2214a cJ2_checkIndex_2214a 2 none, Cond.methodLink RJ2 48 yJ2_length_9d52b, Cond.static yJ2_length_9d52b, Cond.code yJ2_length_9d52b cJ2_length_9d52b 1 (some .int), Cond.methodLink RJ2 414 yJ0_checkIndex_df160, Cond.methodLink RJ2 71 yJ2_getChar_3b067, Cond.static yJ2_getChar_3b067, Cond.code yJ2_getChar_3b067 cJ2_getChar_3b067 2 (some .char), Cond.fieldLink RJ2 44 "java/lang/StringUTF16" "$assertionsDisabled" "Z", Cond.fieldLink RJ2 59 "java/lang/StringUTF16" "HI_BYTE_SHIFT" "I", Cond.fieldLink RJ2 63 "java/lang/StringUTF16" "LO_BYTE_SHIFT" "I", Cond.methodLink RX8 98 yX8_next, Cond.instanceMethod yX8_next, Cond.selects RX8 yX8_next yX8_next]
def wsX8_readTerm_r5 : List Cond := [Cond.code yX8_next cX8_next 1 none, Cond.fieldLink RX8 39 "IntegerHouse$Reader" "kind" "I", Cond.fieldLink RX8 136 "IntegerHouse$Reader" "place" "I", Cond.methodLink RX8 49 yX8_readInto, Cond.instanceMethod yX8_readInto, Cond.selects RX8 yX8_readInto yX8_readInto, Cond.code yX8_readInto cX8_readInto 2 none, Cond.fieldLink RX8 164 "IntegerHouse$Reader" "slot" "I", Cond.fieldLink RX8 167 "IntegerHouse$Reader" "tokens" "I", Cond.fieldLink RX8 170 "IntegerHouse$Reader" "steps" "I", Cond.fieldLink RX8 173 "IntegerHouse$Reader" "open" "I", Cond.fieldLink RX8 15 "IntegerHouse$Reader" "house" "LIntegerHouse$House;", Cond.methodLink RX8 157 yX2_setFact, Cond.instanceMethod yX2_setFact, Cond.selects RX2 yX2_setFact yX2_setFact, Cond.initialized RX2, Cond.code yX2_setFact cX2_setFact 4 none, Cond.fieldLink RX2 28 "IntegerHouse$House" "facts" "[I", Cond.methodLink RX8 176 yX8_term, Cond.instanceMethod yX8_term, Cond.selects RX8 yX8_term yX8_term, Cond.code yX8_term cX8_term 3 none, Cond.methodLink RX8 191 yX8_accept, Cond.instanceMethod yX8_accept]
def wsX8_readTerm_r6 : List Cond := [Cond.selects RX8 yX8_accept yX8_accept, Cond.code yX8_accept cX8_accept 4 none, Cond.methodLink RX8 95 yX8_fail, Cond.instanceMethod yX8_fail, Cond.selects RX8 yX8_fail yX8_fail, Cond.code yX8_fail cX8_fail 2 none, Cond.methodLink RX8 185 yX2_setToken, Cond.instanceMethod yX2_setToken, Cond.selects RX2 yX2_setToken yX2_setToken, Cond.code yX2_setToken cX2_setToken 4 none, Cond.fieldLink RX2 18 "IntegerHouse$House" "tokens" "[I", Cond.methodLink RX8 219 yX8_part, Cond.instanceMethod yX8_part, Cond.selects RX8 yX8_part yX8_part, Cond.methodLink RX8 194 yX8_step, Cond.instanceMethod yX8_step, Cond.selects RX8 yX8_step yX8_step, Cond.code yX8_step cX8_step 2 none, Cond.methodLink RX8 182 yX2_setStep, Cond.instanceMethod yX2_setStep, Cond.selects RX2 yX2_setStep yX2_setStep, Cond.code yX2_setStep cX2_setStep 4 none, Cond.fieldLink RX2 22 "IntegerHouse$House" "steps" "[I", Cond.code yX8_bracketed cX8_bracketed 3 none]
def wsX8_readTerm_r7 : List Cond := [Cond.methodLink RX8 206 yX3_numberAt, Cond.instanceMethod yX3_numberAt, Cond.selects RX3 yX3_numberAt yX3_numberAt, Cond.code yX3_numberAt cX3_numberAt 2 (some .int), Cond.constant RX3 58 (1048575), Cond.methodLink RX8 209 yX8_checkDivisor, Cond.instanceMethod yX8_checkDivisor, Cond.selects RX8 yX8_checkDivisor yX8_checkDivisor, Cond.code yX8_checkDivisor cX8_checkDivisor 2 none, Cond.methodLink RX8 212 yX3_writtenAt, Cond.instanceMethod yX3_writtenAt, Cond.selects RX3 yX3_writtenAt yX3_writtenAt, Cond.code yX3_writtenAt cX3_writtenAt 2 (some .int), Cond.code yX8_factor cX8_factor 3 none, Cond.methodLink RX8 82 yX3_nameAt, Cond.instanceMethod yX3_nameAt, Cond.selects RX3 yX3_nameAt yX3_nameAt, Cond.code yX3_nameAt cX3_nameAt 2 (some .long), Cond.methodLink RX8 92 yX2_variableOf, Cond.instanceMethod yX2_variableOf, Cond.selects RX2 yX2_variableOf yX2_variableOf, Cond.code yX2_variableOf cX2_variableOf 4 (some .int), Cond.fieldLink RX2 52 "IntegerHouse$House" "variables" "I", Cond.fieldLink RX2 9 "IntegerHouse$House" "variableNames" "[J"]
def wsX8_readTerm_r8 : List Cond := [Cond.methodLink RX8 88 yX2_claimOf, Cond.instanceMethod yX2_claimOf, Cond.selects RX2 yX2_claimOf yX2_claimOf, Cond.code yX2_claimOf cX2_claimOf 4 (some .int), Cond.fieldLink RX2 55 "IntegerHouse$House" "claims" "I", Cond.fieldLink RX2 15 "IntegerHouse$House" "claimNames" "[J", Cond.methodLink RX8 226 yX8_bracketed, Cond.instanceMethod yX8_bracketed, Cond.selects RX8 yX8_bracketed yX8_bracketed, Cond.code yX8_part cX8_part 5 none, Cond.methodLink RX8 223 yX8_factor, Cond.instanceMethod yX8_factor, Cond.selects RX8 yX8_factor yX8_factor, Cond.methodLink RX8 179 yX8_formula, Cond.instanceMethod yX8_formula, Cond.selects RX8 yX8_formula yX8_formula, Cond.code yX8_formula cX8_formula 2 none, Cond.methodLink RX8 188 yX8_side, Cond.instanceMethod yX8_side, Cond.selects RX8 yX8_side yX8_side, Cond.code yX8_both cX8_both 2 none, Cond.methodLink RX8 200 yX8_one, Cond.instanceMethod yX8_one, Cond.selects RX8 yX8_one yX8_one]
def wsX8_readTerm_r9 : List Cond := [Cond.code yX8_one cX8_one 4 none, Cond.methodLink RX8 203 yX3_kindAt, Cond.instanceMethod yX3_kindAt, Cond.selects RX3 yX3_kindAt yX3_kindAt, Cond.code yX3_kindAt cX3_kindAt 2 (some .int), Cond.static yX11_isComparison, Cond.initialized RX11, Cond.code yX11_isComparison cX11_isComparison 1 (some .boolean), Cond.code yX8_side cX8_side 2 none, Cond.methodLink RX8 197 yX8_both, Cond.instanceMethod yX8_both, Cond.selects RX8 yX8_both yX8_both, Cond.methodLink RX8 59 yX8_expectEnd, Cond.instanceMethod yX8_expectEnd, Cond.selects RX8 yX8_expectEnd yX8_expectEnd, Cond.code yX8_expectEnd cX8_expectEnd 1 none, Cond.methodLink RX8 105 yX4_makeGoal, Cond.instanceMethod yX4_makeGoal, Cond.selects RX4 yX4_makeGoal yX4_makeGoal, Cond.initialized RX4, Cond.code yX4_makeGoal cX4_makeGoal 4 (some .boolean), Cond.fieldLink RX4 25 "IntegerHouse$Maker" "house" "LIntegerHouse$House;", Cond.fieldLink RX4 61 "IntegerHouse$Maker" "great" "Z", Cond.fieldLink RX4 22 "IntegerHouse$Maker" "goal" "[J"]
def wsX8_readTerm_r10 : List Cond := [Cond.fieldLink RX4 11 "IntegerHouse$Maker" "forms" "[J", Cond.methodLink RX4 29 yX4_begin, Cond.instanceMethod yX4_begin, Cond.selects RX4 yX4_begin yX4_begin, Cond.code yX4_begin cX4_begin 2 none, Cond.fieldLink RX4 33 "IntegerHouse$Maker" "slot" "I", Cond.fieldLink RX4 86 "IntegerHouse$Maker" "codeSize" "I", Cond.fieldLink RX4 89 "IntegerHouse$Maker" "crowded" "Z", Cond.fieldLink RX4 83 "IntegerHouse$Maker" "falsehood" "I", Cond.fieldLink RX4 15 "IntegerHouse$Maker" "tops" "[I", Cond.methodLink RX4 79 yX2_setFact, Cond.methodLink RX4 39 yX2_fact, Cond.instanceMethod yX2_fact, Cond.selects RX2 yX2_fact yX2_fact, Cond.code yX2_fact cX2_fact 3 (some .int), Cond.methodLink RX4 43 yX2_step, Cond.instanceMethod yX2_step, Cond.selects RX2 yX2_step yX2_step, Cond.code yX2_step cX2_step 3 (some .int), Cond.methodLink RX4 92 yX4_work, Cond.instanceMethod yX4_work, Cond.selects RX4 yX4_work yX4_work, Cond.code yX4_work cX4_work 5 none, Cond.methodLink RX4 137 yX4_top]
def wsX8_readTerm_r11 : List Cond := [Cond.instanceMethod yX4_top, Cond.selects RX4 yX4_top yX4_top, Cond.code yX4_top cX4_top 2 (some .int), Cond.methodLink RX4 169 yX4_pushForm, Cond.instanceMethod yX4_pushForm, Cond.selects RX4 yX4_pushForm yX4_pushForm, Cond.code yX4_pushForm cX4_pushForm 6 none, Cond.methodLink RX4 95 yX4_form, Cond.static yX4_form, Cond.code yX4_form cX4_form 2 (some .int), Cond.methodLink RX4 160 yX4_setTop, Cond.instanceMethod yX4_setTop, Cond.selects RX4 yX4_setTop yX4_setTop, Cond.code yX4_setTop cX4_setTop 3 none, Cond.methodLink RX4 150 yX4_multiply, Cond.instanceMethod yX4_multiply, Cond.selects RX4 yX4_multiply yX4_multiply, Cond.code yX4_multiply cX4_multiply 4 none, Cond.methodLink RX4 153 yX4_combine, Cond.instanceMethod yX4_combine, Cond.selects RX4 yX4_combine yX4_combine, Cond.code yX4_combine cX4_combine 12 none, Cond.methodLink RX4 172 Lib.MathLoose.max_long.x, Cond.static Lib.MathLoose.max_long.x]
def wsX8_readTerm_r12 : List Cond := [Cond.initialized "java/lang/Math", Cond.code Lib.MathLoose.max_long.x Lib.MathLoose.max_long.code 4 (some .long), Cond.static yX11_commonDivisor, Cond.code yX11_commonDivisor cX11_commonDivisor 11 (some .long), Cond.methodLink RX4 157 yX4_check, Cond.instanceMethod yX4_check, Cond.selects RX4 yX4_check yX4_check, Cond.code yX4_check cX4_check 3 none, Cond.methodLink RX4 98 Lib.MathLoose.abs_long.x, Cond.static Lib.MathLoose.abs_long.x, Cond.code Lib.MathLoose.abs_long.x Lib.MathLoose.abs_long.code 2 (some .long), Cond.constantLong RX4 179 (1000000), Cond.methodLink RX8 115 yX4_isGoalWithin, Cond.instanceMethod yX4_isGoalWithin, Cond.selects RX4 yX4_isGoalWithin yX4_isGoalWithin, Cond.code yX4_isGoalWithin cX4_isGoalWithin 5 (some .boolean), Cond.methodLink RX8 71 yX8_failIf, Cond.instanceMethod yX8_failIf, Cond.selects RX8 yX8_failIf yX8_failIf, Cond.code yX8_failIf cX8_failIf 3 none, Cond.methodLink RX8 139 yX2_fact]
def wsX8_readTerm : List Cond := .code yX8_readTerm cX8_readTerm 3 (some .boolean) :: ((wsX8_readTerm_r1 ++ (wsX8_readTerm_r2 ++ (wsX8_readTerm_r3 ++ (wsX8_readTerm_r4 ++ (wsX8_readTerm_r5 ++ (wsX8_readTerm_r6 ++ (wsX8_readTerm_r7 ++ (wsX8_readTerm_r8 ++ (wsX8_readTerm_r9 ++ (wsX8_readTerm_r10 ++ (wsX8_readTerm_r11 ++ wsX8_readTerm_r12))))))))))) ++ wsX80 ++ wsX30 ++ wsX20 ++ wsX40)
def wsX9_isTold : List Cond := .code yX9_isTold cX9_isTold 2 (some .boolean) :: ([.fieldLink RX9 107 "IntegerHouse$Relaxer" "toldSize" "I"] ++ wsX90)
def wsX10_isTold : List Cond := .code yX10_isTold cX10_isTold 2 (some .boolean) :: ([.fieldLink RX10 32 "IntegerHouse$Searcher" "told" "Z"] ++ wsX100)
def wsX11_half : List Cond := .code yX11_half cX11_half 3 (some .int) :: ([.classLink RX11 197 "java/lang/IndexOutOfBoundsException", .initialized "java/lang/IndexOutOfBoundsException", .fieldLink RX11 73 "IntegerHouse" "ownForm" "LIntegerHouse$OwnForm;", .methodLink RX11 360 yX5_isTold, .instanceMethod yX5_isTold, .selects RX5 yX5_isTold yX5_isTold, .initialized RX5, .code yX5_isTold cX5_isTold 3 (some .boolean), .fieldLink RX5 41 "IntegerHouse$OwnForm" "toldStates" "I", .fieldLink RX5 45 "IntegerHouse$OwnForm" "toldLetters" "I", .methodLink RX11 364 yX5_toldHalf, .instanceMethod yX5_toldHalf, .selects RX5 yX5_toldHalf yX5_toldHalf, .code yX5_toldHalf cX5_toldHalf 3 (some .int), .fieldLink RX5 31 "IntegerHouse$OwnForm" "halves" "[I", .methodLink RX5 48 yX5_isTold] ++ wsX110 ++ wsX50 ++ (vx_atS RX11 201 "java/lang/IndexOutOfBoundsException" ["java/lang/RuntimeException", "java/lang/Exception"]).filter goodWord)
def wsX11_takes : List Cond := .code yX11_takes cX11_takes 3 (some .int) :: ([.classLink RX11 197 "java/lang/IndexOutOfBoundsException", .initialized "java/lang/IndexOutOfBoundsException", .fieldLink RX11 73 "IntegerHouse" "ownForm" "LIntegerHouse$OwnForm;", .methodLink RX11 360 yX5_isTold, .instanceMethod yX5_isTold, .selects RX5 yX5_isTold yX5_isTold, .initialized RX5, .code yX5_isTold cX5_isTold 3 (some .boolean), .fieldLink RX5 41 "IntegerHouse$OwnForm" "toldStates" "I", .fieldLink RX5 45 "IntegerHouse$OwnForm" "toldLetters" "I", .methodLink RX11 367 yX5_toldTakes, .instanceMethod yX5_toldTakes, .selects RX5 yX5_toldTakes yX5_toldTakes, .code yX5_toldTakes cX5_toldTakes 3 (some .int), .fieldLink RX5 34 "IntegerHouse$OwnForm" "taken" "[I", .methodLink RX5 48 yX5_isTold] ++ wsX110 ++ wsX50 ++ (vx_atS RX11 201 "java/lang/IndexOutOfBoundsException" ["java/lang/RuntimeException", "java/lang/Exception"]).filter goodWord)
def wsX11_relaxed_r1 : List Cond := [Cond.fieldLink RX11 16 "IntegerHouse" "disk" "LIntegerHouse$Disk;", Cond.fieldLink RX11 23 "IntegerHouse" "house" "LIntegerHouse$House;", Cond.fieldLink RX11 48 "IntegerHouse" "reader" "LIntegerHouse$Reader;", Cond.fieldLink RX11 9 "IntegerHouse" "tape" "[B", Cond.fieldLink RX11 80 "IntegerHouse" "relaxer" "LIntegerHouse$Relaxer;", Cond.fieldLink RX11 39 "IntegerHouse" "maker" "LIntegerHouse$Maker;", Cond.methodLink RX11 230 yX11_useTape, Cond.instanceMethod yX11_useTape, Cond.selects RX11 yX11_useTape yX11_useTape, Cond.initialized RX11, Cond.code yX11_useTape cX11_useTape 2 (some .int), Cond.fieldLink RX11 102 "IntegerHouse" "tapeLength" "I", Cond.methodLink RX11 370 yX2_allPlain, Cond.instanceMethod yX2_allPlain, Cond.selects RX2 yX2_allPlain yX2_allPlain, Cond.initialized RX2, Cond.code yX2_allPlain cX2_allPlain 2 (some .boolean), Cond.fieldLink RX2 55 "IntegerHouse$House" "claims" "I", Cond.fieldLink RX2 61 "IntegerHouse$House" "on" "I", Cond.methodLink RX2 67 yX2_fact, Cond.instanceMethod yX2_fact, Cond.selects RX2 yX2_fact yX2_fact, Cond.code yX2_fact cX2_fact 3 (some .int), Cond.fieldLink RX2 28 "IntegerHouse$House" "facts" "[I"]
def wsX11_relaxed_r2 : List Cond := [Cond.methodLink RX11 373 yX8_readTerm, Cond.instanceMethod yX8_readTerm, Cond.selects RX8 yX8_readTerm yX8_readTerm, Cond.initialized RX8, Cond.code yX8_readTerm cX8_readTerm 3 (some .boolean), Cond.fieldLink RX8 62 "IntegerHouse$Reader" "faultKind" "I", Cond.fieldLink RX8 19 "IntegerHouse$Reader" "maker" "LIntegerHouse$Maker;", Cond.constant RX8 114 (99999), Cond.methodLink RX8 23 yX8_begin, Cond.instanceMethod yX8_begin, Cond.selects RX8 yX8_begin yX8_begin, Cond.code yX8_begin cX8_begin 4 none, Cond.fieldLink RX8 9 "IntegerHouse$Reader" "lexer" "LIntegerHouse$Lexer;", Cond.fieldLink RX8 123 "IntegerHouse$Reader" "faultPlace" "I", Cond.fieldLink RX8 101 "IntegerHouse$Reader" "hasFormula" "Z", Cond.fieldLink RX8 79 "IntegerHouse$Reader" "at" "I", Cond.methodLink RX8 119 yX3_scan, Cond.instanceMethod yX3_scan, Cond.selects RX3 yX3_scan yX3_scan, Cond.initialized RX3, Cond.code yX3_scan cX3_scan 9 none, Cond.fieldLink RX3 28 "IntegerHouse$Lexer" "source" "[B", Cond.fieldLink RX3 55 "IntegerHouse$Lexer" "begin" "I", Cond.fieldLink RX3 52 "IntegerHouse$Lexer" "stop" "I"]
def wsX11_relaxed_r3 : List Cond := [Cond.fieldLink RX3 48 "IntegerHouse$Lexer" "size" "I", Cond.fieldLink RX3 19 "IntegerHouse$Lexer" "spots" "[I", Cond.fieldLink RX3 15 "IntegerHouse$Lexer" "kinds" "[I", Cond.methodLink RX3 59 yX3_behindBlanks, Cond.instanceMethod yX3_behindBlanks, Cond.selects RX3 yX3_behindBlanks yX3_behindBlanks, Cond.code yX3_behindBlanks cX3_behindBlanks 3 (some .int), Cond.methodLink RX3 63 yX3_byteAt, Cond.instanceMethod yX3_byteAt, Cond.selects RX3 yX3_byteAt yX3_byteAt, Cond.code yX3_byteAt cX3_byteAt 2 (some .int), Cond.methodLink RX3 66 yX3_isLetter, Cond.static yX3_isLetter, Cond.code yX3_isLetter cX3_isLetter 1 (some .boolean), Cond.methodLink RX3 70 yX3_word, Cond.instanceMethod yX3_word, Cond.selects RX3 yX3_word yX3_word, Cond.code yX3_word cX3_word 9 (some .int), Cond.fieldLink RX3 11 "IntegerHouse$Lexer" "words" "[J", Cond.fieldLink RX3 25 "IntegerHouse$Lexer" "names" "[J", Cond.methodLink RX3 74 yX3_isDigit, Cond.static yX3_isDigit, Cond.code yX3_isDigit cX3_isDigit 1 (some .boolean), Cond.methodLink RX3 77 yX3_digits]
def wsX11_relaxed_r4 : List Cond := [Cond.instanceMethod yX3_digits, Cond.selects RX3 yX3_digits yX3_digits, Cond.code yX3_digits cX3_digits 6 (some .int), Cond.fieldLink RX3 22 "IntegerHouse$Lexer" "numbers" "[I", Cond.methodLink RX3 81 yX3_sign, Cond.instanceMethod yX3_sign, Cond.selects RX3 yX3_sign yX3_sign, Cond.code yX3_sign cX3_sign 6 (some .int), Cond.methodLink RX3 44 yJ0_charAt_5068e, Cond.instanceMethod yJ0_charAt_5068e, Cond.selects RJ0 yJ0_charAt_5068e yJ0_charAt_5068e, Cond.initialized RJ0, Cond.code yJ0_charAt_5068e cJ0_charAt_5068e 2 (some .char), Cond.fieldLink RJ0 9 "java/lang/String" "value" "[B", Cond.methodLink RJ0 492 yJ0_isLatin1_aae02, Cond.instanceMethod yJ0_isLatin1_aae02, Cond.selects RJ0 yJ0_isLatin1_aae02 yJ0_isLatin1_aae02, Cond.code yJ0_isLatin1_aae02 cJ0_isLatin1_aae02 1 (some .boolean), Cond.fieldLink RJ0 38 "java/lang/String" "COMPACT_STRINGS" "Z", Cond.fieldLink RJ0 15 "java/lang/String" "coder" "B", Cond.methodLink RJ0 495 yJ1_charAt_3b067, Cond.static yJ1_charAt_3b067, Cond.initialized RJ1, Cond.code yJ1_charAt_3b067 cJ1_charAt_3b067 2 (some .char)]
def wsX11_relaxed_r5 : List Cond := [Cond.methodLink RJ1 9 yJ0_checkIndex_df160, Cond.static yJ0_checkIndex_df160, Cond.code yJ0_checkIndex_df160 cJ0_checkIndex_df160 2 none, Cond.fieldLink RJ0 1053 "jdk/internal/util/Preconditions" "SIOOBE_FORMATTER" "Ljava/util/function/BiFunction;", Cond.methodLink RJ0 1059 yJ3_checkIndex_8e157, Cond.static yJ3_checkIndex_8e157, Cond.initialized RJ3, Cond.code yJ3_checkIndex_8e157 cJ3_checkIndex_8e157 3 (some .int), Cond.methodLink RJ0 498 yJ2_charAt_3b067, Cond.static yJ2_charAt_3b067, Cond.initialized RJ2, Cond.code yJ2_charAt_3b067 cJ2_charAt_3b067 2 (some .char), Cond.methodLink RJ2 67 yJ2_checkIndex_2214a, Cond.static yJ2_checkIndex_2214a, Cond.code yJ2_checkIndex_2214a cJ2_checkIndex_2214a 2 none, Cond.methodLink RJ2 48 yJ2_length_9d52b, Cond.static yJ2_length_9d52b, Cond.code yJ2_length_9d52b cJ2_length_9d52b 1 (some .int), Cond.methodLink RJ2 414 yJ0_checkIndex_df160, Cond.methodLink RJ2 71 yJ2_getChar_3b067, Cond.static yJ2_getChar_3b067, Cond.code yJ2_getChar_3b067 cJ2_getChar_3b067 2 (some .char), Cond.fieldLink RJ2 44 "java/lang/StringUTF16" "$assertionsDisabled" "Z", Cond.fieldLink RJ2 59 "java/lang/StringUTF16" "HI_BYTE_SHIFT" "I"]
def wsX11_relaxed_r6 : List Cond := [Cond.fieldLink RJ2 63 "java/lang/StringUTF16" "LO_BYTE_SHIFT" "I", Cond.methodLink RX8 98 yX8_next, Cond.instanceMethod yX8_next, Cond.selects RX8 yX8_next yX8_next, Cond.code yX8_next cX8_next 1 none, Cond.fieldLink RX8 39 "IntegerHouse$Reader" "kind" "I", Cond.fieldLink RX8 136 "IntegerHouse$Reader" "place" "I", Cond.methodLink RX8 49 yX8_readInto, Cond.instanceMethod yX8_readInto, Cond.selects RX8 yX8_readInto yX8_readInto, Cond.code yX8_readInto cX8_readInto 2 none, Cond.fieldLink RX8 164 "IntegerHouse$Reader" "slot" "I", Cond.fieldLink RX8 167 "IntegerHouse$Reader" "tokens" "I", Cond.fieldLink RX8 170 "IntegerHouse$Reader" "steps" "I", Cond.fieldLink RX8 173 "IntegerHouse$Reader" "open" "I", Cond.fieldLink RX8 15 "IntegerHouse$Reader" "house" "LIntegerHouse$House;", Cond.methodLink RX8 157 yX2_setFact, Cond.instanceMethod yX2_setFact, Cond.selects RX2 yX2_setFact yX2_setFact, Cond.code yX2_setFact cX2_setFact 4 none, Cond.methodLink RX8 176 yX8_term, Cond.instanceMethod yX8_term, Cond.selects RX8 yX8_term yX8_term, Cond.code yX8_term cX8_term 3 none]
def wsX11_relaxed_r7 : List Cond := [Cond.methodLink RX8 191 yX8_accept, Cond.instanceMethod yX8_accept, Cond.selects RX8 yX8_accept yX8_accept, Cond.code yX8_accept cX8_accept 4 none, Cond.methodLink RX8 95 yX8_fail, Cond.instanceMethod yX8_fail, Cond.selects RX8 yX8_fail yX8_fail, Cond.code yX8_fail cX8_fail 2 none, Cond.methodLink RX8 185 yX2_setToken, Cond.instanceMethod yX2_setToken, Cond.selects RX2 yX2_setToken yX2_setToken, Cond.code yX2_setToken cX2_setToken 4 none, Cond.fieldLink RX2 18 "IntegerHouse$House" "tokens" "[I", Cond.methodLink RX8 219 yX8_part, Cond.instanceMethod yX8_part, Cond.selects RX8 yX8_part yX8_part, Cond.methodLink RX8 194 yX8_step, Cond.instanceMethod yX8_step, Cond.selects RX8 yX8_step yX8_step, Cond.code yX8_step cX8_step 2 none, Cond.methodLink RX8 182 yX2_setStep, Cond.instanceMethod yX2_setStep, Cond.selects RX2 yX2_setStep yX2_setStep, Cond.code yX2_setStep cX2_setStep 4 none]
def wsX11_relaxed_r8 : List Cond := [Cond.fieldLink RX2 22 "IntegerHouse$House" "steps" "[I", Cond.code yX8_bracketed cX8_bracketed 3 none, Cond.methodLink RX8 206 yX3_numberAt, Cond.instanceMethod yX3_numberAt, Cond.selects RX3 yX3_numberAt yX3_numberAt, Cond.code yX3_numberAt cX3_numberAt 2 (some .int), Cond.constant RX3 58 (1048575), Cond.methodLink RX8 209 yX8_checkDivisor, Cond.instanceMethod yX8_checkDivisor, Cond.selects RX8 yX8_checkDivisor yX8_checkDivisor, Cond.code yX8_checkDivisor cX8_checkDivisor 2 none, Cond.methodLink RX8 212 yX3_writtenAt, Cond.instanceMethod yX3_writtenAt, Cond.selects RX3 yX3_writtenAt yX3_writtenAt, Cond.code yX3_writtenAt cX3_writtenAt 2 (some .int), Cond.code yX8_factor cX8_factor 3 none, Cond.methodLink RX8 82 yX3_nameAt, Cond.instanceMethod yX3_nameAt, Cond.selects RX3 yX3_nameAt yX3_nameAt, Cond.code yX3_nameAt cX3_nameAt 2 (some .long), Cond.methodLink RX8 92 yX2_variableOf, Cond.instanceMethod yX2_variableOf, Cond.selects RX2 yX2_variableOf yX2_variableOf, Cond.code yX2_variableOf cX2_variableOf 4 (some .int)]
def wsX11_relaxed_r9 : List Cond := [Cond.fieldLink RX2 52 "IntegerHouse$House" "variables" "I", Cond.fieldLink RX2 9 "IntegerHouse$House" "variableNames" "[J", Cond.methodLink RX8 88 yX2_claimOf, Cond.instanceMethod yX2_claimOf, Cond.selects RX2 yX2_claimOf yX2_claimOf, Cond.code yX2_claimOf cX2_claimOf 4 (some .int), Cond.fieldLink RX2 15 "IntegerHouse$House" "claimNames" "[J", Cond.methodLink RX8 226 yX8_bracketed, Cond.instanceMethod yX8_bracketed, Cond.selects RX8 yX8_bracketed yX8_bracketed, Cond.code yX8_part cX8_part 5 none, Cond.methodLink RX8 223 yX8_factor, Cond.instanceMethod yX8_factor, Cond.selects RX8 yX8_factor yX8_factor, Cond.methodLink RX8 179 yX8_formula, Cond.instanceMethod yX8_formula, Cond.selects RX8 yX8_formula yX8_formula, Cond.code yX8_formula cX8_formula 2 none, Cond.methodLink RX8 188 yX8_side, Cond.instanceMethod yX8_side, Cond.selects RX8 yX8_side yX8_side, Cond.code yX8_both cX8_both 2 none, Cond.methodLink RX8 200 yX8_one, Cond.instanceMethod yX8_one]
def wsX11_relaxed_r10 : List Cond := [Cond.selects RX8 yX8_one yX8_one, Cond.code yX8_one cX8_one 4 none, Cond.methodLink RX8 203 yX3_kindAt, Cond.instanceMethod yX3_kindAt, Cond.selects RX3 yX3_kindAt yX3_kindAt, Cond.code yX3_kindAt cX3_kindAt 2 (some .int), Cond.static yX11_isComparison, Cond.code yX11_isComparison cX11_isComparison 1 (some .boolean), Cond.code yX8_side cX8_side 2 none, Cond.methodLink RX8 197 yX8_both, Cond.instanceMethod yX8_both, Cond.selects RX8 yX8_both yX8_both, Cond.methodLink RX8 59 yX8_expectEnd, Cond.instanceMethod yX8_expectEnd, Cond.selects RX8 yX8_expectEnd yX8_expectEnd, Cond.code yX8_expectEnd cX8_expectEnd 1 none, Cond.methodLink RX8 105 yX4_makeGoal, Cond.instanceMethod yX4_makeGoal, Cond.selects RX4 yX4_makeGoal yX4_makeGoal, Cond.initialized RX4, Cond.code yX4_makeGoal cX4_makeGoal 4 (some .boolean), Cond.fieldLink RX4 25 "IntegerHouse$Maker" "house" "LIntegerHouse$House;", Cond.fieldLink RX4 61 "IntegerHouse$Maker" "great" "Z", Cond.fieldLink RX4 22 "IntegerHouse$Maker" "goal" "[J"]
def wsX11_relaxed_r11 : List Cond := [Cond.fieldLink RX4 11 "IntegerHouse$Maker" "forms" "[J", Cond.methodLink RX4 29 yX4_begin, Cond.instanceMethod yX4_begin, Cond.selects RX4 yX4_begin yX4_begin, Cond.code yX4_begin cX4_begin 2 none, Cond.fieldLink RX4 33 "IntegerHouse$Maker" "slot" "I", Cond.fieldLink RX4 86 "IntegerHouse$Maker" "codeSize" "I", Cond.fieldLink RX4 89 "IntegerHouse$Maker" "crowded" "Z", Cond.fieldLink RX4 83 "IntegerHouse$Maker" "falsehood" "I", Cond.fieldLink RX4 15 "IntegerHouse$Maker" "tops" "[I", Cond.methodLink RX4 79 yX2_setFact, Cond.methodLink RX4 39 yX2_fact, Cond.methodLink RX4 43 yX2_step, Cond.instanceMethod yX2_step, Cond.selects RX2 yX2_step yX2_step, Cond.code yX2_step cX2_step 3 (some .int), Cond.methodLink RX4 92 yX4_work, Cond.instanceMethod yX4_work, Cond.selects RX4 yX4_work yX4_work, Cond.code yX4_work cX4_work 5 none, Cond.methodLink RX4 137 yX4_top, Cond.instanceMethod yX4_top, Cond.selects RX4 yX4_top yX4_top, Cond.code yX4_top cX4_top 2 (some .int)]
def wsX11_relaxed_r12 : List Cond := [Cond.methodLink RX4 169 yX4_pushForm, Cond.instanceMethod yX4_pushForm, Cond.selects RX4 yX4_pushForm yX4_pushForm, Cond.code yX4_pushForm cX4_pushForm 6 none, Cond.methodLink RX4 95 yX4_form, Cond.static yX4_form, Cond.code yX4_form cX4_form 2 (some .int), Cond.methodLink RX4 160 yX4_setTop, Cond.instanceMethod yX4_setTop, Cond.selects RX4 yX4_setTop yX4_setTop, Cond.code yX4_setTop cX4_setTop 3 none, Cond.methodLink RX4 150 yX4_multiply, Cond.instanceMethod yX4_multiply, Cond.selects RX4 yX4_multiply yX4_multiply, Cond.code yX4_multiply cX4_multiply 4 none, Cond.methodLink RX4 153 yX4_combine, Cond.instanceMethod yX4_combine, Cond.selects RX4 yX4_combine yX4_combine, Cond.code yX4_combine cX4_combine 12 none, Cond.methodLink RX4 172 Lib.MathLoose.max_long.x, Cond.static Lib.MathLoose.max_long.x, Cond.initialized "java/lang/Math", Cond.code Lib.MathLoose.max_long.x Lib.MathLoose.max_long.code 4 (some .long), Cond.static yX11_commonDivisor]
def wsX11_relaxed_r13 : List Cond := [Cond.code yX11_commonDivisor cX11_commonDivisor 11 (some .long), Cond.methodLink RX4 157 yX4_check, Cond.instanceMethod yX4_check, Cond.selects RX4 yX4_check yX4_check, Cond.code yX4_check cX4_check 3 none, Cond.methodLink RX4 98 Lib.MathLoose.abs_long.x, Cond.static Lib.MathLoose.abs_long.x, Cond.code Lib.MathLoose.abs_long.x Lib.MathLoose.abs_long.code 2 (some .long), Cond.constantLong RX4 179 (1000000), Cond.methodLink RX8 115 yX4_isGoalWithin, Cond.instanceMethod yX4_isGoalWithin, Cond.selects RX4 yX4_isGoalWithin yX4_isGoalWithin, Cond.code yX4_isGoalWithin cX4_isGoalWithin 5 (some .boolean), Cond.methodLink RX8 71 yX8_failIf, Cond.instanceMethod yX8_failIf, Cond.selects RX8 yX8_failIf yX8_failIf, Cond.code yX8_failIf cX8_failIf 3 none, Cond.methodLink RX8 139 yX2_fact, Cond.methodLink RX11 236 yX11_faulted, Cond.instanceMethod yX11_faulted, Cond.selects RX11 yX11_faulted yX11_faulted, Cond.code yX11_faulted cX11_faulted 1 (some .int), Cond.fieldLink RX11 253 "IntegerHouse" "latestFault" "I", Cond.methodLink RX11 376 yX9_load]
def wsX11_relaxed_r14 : List Cond := [Cond.instanceMethod yX9_load, Cond.selects RX9 yX9_load yX9_load, Cond.initialized RX9, Cond.code yX9_load cX9_load 7 (some .boolean), Cond.fieldLink RX9 44 "IntegerHouse$Relaxer" "size" "I", Cond.methodLink RX9 53 Lib.Math.min.name, Cond.static Lib.Math.min.name, Cond.code Lib.Math.min.name Lib.Math.min.code 2 (some .int), Cond.methodLink RX9 59 Lib.Math.max.name, Cond.static Lib.Math.max.name, Cond.code Lib.Math.max.name Lib.Math.max.code 2 (some .int), Cond.fieldLink RX9 62 "IntegerHouse$Relaxer" "variables" "I", Cond.fieldLink RX9 15 "IntegerHouse$Relaxer" "goal" "[J", Cond.fieldLink RX9 63 "IntegerHouse$Relaxer" "goalNumber" "J", Cond.methodLink RX9 72 yX2_fact, Cond.methodLink RX9 75 yX2_atomOf, Cond.instanceMethod yX2_atomOf, Cond.selects RX2 yX2_atomOf yX2_atomOf, Cond.code yX2_atomOf cX2_atomOf 3 (some .int), Cond.fieldLink RX2 31 "IntegerHouse$House" "atoms" "[I", Cond.methodLink RX9 78 yX9_takeAtom, Cond.instanceMethod yX9_takeAtom, Cond.selects RX9 yX9_takeAtom yX9_takeAtom, Cond.code yX9_takeAtom cX9_takeAtom 4 (some .boolean)]
def wsX11_relaxed_r15 : List Cond := [Cond.constantLong RX9 89 (-1), Cond.methodLink RX9 82 yX9_clearRow, Cond.instanceMethod yX9_clearRow, Cond.selects RX9 yX9_clearRow yX9_clearRow, Cond.code yX9_clearRow cX9_clearRow 3 none, Cond.methodLink RX9 91 yX9_setRow, Cond.instanceMethod yX9_setRow, Cond.selects RX9 yX9_setRow yX9_setRow, Cond.code yX9_setRow cX9_setRow 5 none, Cond.fieldLink RX9 11 "IntegerHouse$Relaxer" "rows" "[J", Cond.methodLink RX9 86 yX2_pooled, Cond.instanceMethod yX2_pooled, Cond.selects RX2 yX2_pooled yX2_pooled, Cond.code yX2_pooled cX2_pooled 3 (some .int), Cond.fieldLink RX2 34 "IntegerHouse$House" "pool" "[I", Cond.methodLink RX9 95 yX9_isLike, Cond.instanceMethod yX9_isLike, Cond.selects RX9 yX9_isLike yX9_isLike, Cond.code yX9_isLike cX9_isLike 5 (some .boolean), Cond.methodLink RX9 99 yX9_rowNumber, Cond.instanceMethod yX9_rowNumber, Cond.selects RX9 yX9_rowNumber yX9_rowNumber, Cond.code yX9_rowNumber cX9_rowNumber 3 (some .long), Cond.methodLink RX11 380 yX9_tell]
def wsX11_relaxed_r16 : List Cond := [Cond.instanceMethod yX9_tell, Cond.selects RX9 yX9_tell yX9_tell, Cond.code yX9_tell cX9_tell 3 (some .int), Cond.fieldLink RX9 107 "IntegerHouse$Relaxer" "toldSize" "I", Cond.fieldLink RX9 41 "IntegerHouse$Relaxer" "pointBelow" "J", Cond.fieldLink RX9 28 "IntegerHouse$Relaxer" "point" "[J", Cond.methodLink RX9 103 yX9_solve, Cond.instanceMethod yX9_solve, Cond.selects RX9 yX9_solve yX9_solve, Cond.code yX9_solve cX9_solve 4 (some .int), Cond.constant RX9 127 (1000000), Cond.methodLink RX9 124 yX9_beginEndless, Cond.instanceMethod yX9_beginEndless, Cond.selects RX9 yX9_beginEndless yX9_beginEndless, Cond.code yX9_beginEndless cX9_beginEndless 2 none, Cond.fieldLink RX9 22 "IntegerHouse$Relaxer" "columns" "[J", Cond.fieldLink RX9 37 "IntegerHouse$Relaxer" "below" "J", Cond.fieldLink RX9 18 "IntegerHouse$Relaxer" "basis" "[I", Cond.methodLink RX9 147 yJ7_fill_d0a16, Cond.static yJ7_fill_d0a16, Cond.initialized RJ7, Cond.code yJ7_fill_d0a16 cJ7_fill_d0a16 5 none, Cond.methodLink RX9 128 yX9_locate, Cond.instanceMethod yX9_locate]
def wsX11_relaxed_r17 : List Cond := [Cond.selects RX9 yX9_locate yX9_locate, Cond.code yX9_locate cX9_locate 5 none, Cond.fieldLink RX9 31 "IntegerHouse$Relaxer" "endless" "[J", Cond.methodLink RX9 131 yX9_brokenRow, Cond.instanceMethod yX9_brokenRow, Cond.selects RX9 yX9_brokenRow yX9_brokenRow, Cond.code yX9_brokenRow cX9_brokenRow 5 (some .int), Cond.methodLink RX9 153 yX9_slackSign, Cond.instanceMethod yX9_slackSign, Cond.selects RX9 yX9_slackSign yX9_slackSign, Cond.code yX9_slackSign cX9_slackSign 11 (some .int), Cond.constantLong RX9 157 (1073741823), Cond.methodLink RX9 159 yX9_signOf, Cond.static yX9_signOf, Cond.code yX9_signOf cX9_signOf 4 (some .int), Cond.methodLink RX9 134 yX9_verdict, Cond.instanceMethod yX9_verdict, Cond.selects RX9 yX9_verdict yX9_verdict, Cond.code yX9_verdict cX9_verdict 5 (some .int), Cond.methodLink RX9 137 yX9_mixOf, Cond.instanceMethod yX9_mixOf, Cond.selects RX9 yX9_mixOf yX9_mixOf, Cond.code yX9_mixOf cX9_mixOf 4 none, Cond.fieldLink RX9 25 "IntegerHouse$Relaxer" "mix" "[J"]
def wsX11_relaxed_r18 : List Cond := [Cond.methodLink RX9 140 yX9_leaving, Cond.instanceMethod yX9_leaving, Cond.selects RX9 yX9_leaving yX9_leaving, Cond.code yX9_leaving cX9_leaving 3 (some .int), Cond.methodLink RX9 165 yX9_isBefore, Cond.instanceMethod yX9_isBefore, Cond.selects RX9 yX9_isBefore yX9_isBefore, Cond.code yX9_isBefore cX9_isBefore 5 (some .boolean), Cond.methodLink RX9 168 yX9_goalOf, Cond.instanceMethod yX9_goalOf, Cond.selects RX9 yX9_goalOf yX9_goalOf, Cond.code yX9_goalOf cX9_goalOf 5 (some .long), Cond.methodLink RX9 172 yX9_crossSign, Cond.static yX9_crossSign, Cond.code yX9_crossSign cX9_crossSign 14 (some .int), Cond.constantLong RX9 163 (1048575), Cond.methodLink RX9 143 yX9_exchange, Cond.instanceMethod yX9_exchange, Cond.selects RX9 yX9_exchange yX9_exchange, Cond.code yX9_exchange cX9_exchange 11 none, Cond.methodLink RX9 110 yX9_goalAtPoint, Cond.instanceMethod yX9_goalAtPoint, Cond.selects RX9 yX9_goalAtPoint yX9_goalAtPoint, Cond.code yX9_goalAtPoint cX9_goalAtPoint 4 (some .long)]
def wsX11_relaxed_r19 : List Cond := [Cond.methodLink RX9 114 yX9_tellOne, Cond.instanceMethod yX9_tellOne, Cond.selects RX9 yX9_tellOne yX9_tellOne, Cond.code yX9_tellOne cX9_tellOne 6 none, Cond.methodLink RX9 122 Lib.MathLoose.max_long.x, Cond.fieldLink RX9 34 "IntegerHouse$Relaxer" "fractions" "[J"]
def wsX11_relaxed : List Cond := .code yX11_relaxed cX11_relaxed 2 (some .int) :: ((wsX11_relaxed_r1 ++ (wsX11_relaxed_r2 ++ (wsX11_relaxed_r3 ++ (wsX11_relaxed_r4 ++ (wsX11_relaxed_r5 ++ (wsX11_relaxed_r6 ++ (wsX11_relaxed_r7 ++ (wsX11_relaxed_r8 ++ (wsX11_relaxed_r9 ++ (wsX11_relaxed_r10 ++ (wsX11_relaxed_r11 ++ (wsX11_relaxed_r12 ++ (wsX11_relaxed_r13 ++ (wsX11_relaxed_r14 ++ (wsX11_relaxed_r15 ++ (wsX11_relaxed_r16 ++ (wsX11_relaxed_r17 ++ (wsX11_relaxed_r18 ++ wsX11_relaxed_r19)))))))))))))))))) ++ wsX110 ++ wsX10 ++ wsX40 ++ wsX20 ++ wsX80 ++ wsX30 ++ wsX90)
def wsX11_fraction : List Cond := .code yX11_fraction cX11_fraction 2 (some .long) :: ([.classLink RX11 197 "java/lang/IndexOutOfBoundsException", .initialized "java/lang/IndexOutOfBoundsException", .fieldLink RX11 80 "IntegerHouse" "relaxer" "LIntegerHouse$Relaxer;", .methodLink RX11 382 yX9_isTold, .instanceMethod yX9_isTold, .selects RX9 yX9_isTold yX9_isTold, .initialized RX9, .code yX9_isTold cX9_isTold 2 (some .boolean), .fieldLink RX9 107 "IntegerHouse$Relaxer" "toldSize" "I", .methodLink RX11 385 yX9_toldFraction, .instanceMethod yX9_toldFraction, .selects RX9 yX9_toldFraction yX9_toldFraction, .code yX9_toldFraction cX9_toldFraction 2 (some .long), .fieldLink RX9 34 "IntegerHouse$Relaxer" "fractions" "[J"] ++ wsX110 ++ wsX90 ++ (vx_atS RX11 201 "java/lang/IndexOutOfBoundsException" ["java/lang/RuntimeException", "java/lang/Exception"]).filter goodWord)
def wsX11_search_r1 : List Cond := [Cond.fieldLink RX11 16 "IntegerHouse" "disk" "LIntegerHouse$Disk;", Cond.fieldLink RX11 23 "IntegerHouse" "house" "LIntegerHouse$House;", Cond.fieldLink RX11 48 "IntegerHouse" "reader" "LIntegerHouse$Reader;", Cond.fieldLink RX11 9 "IntegerHouse" "tape" "[B", Cond.fieldLink RX11 80 "IntegerHouse" "relaxer" "LIntegerHouse$Relaxer;", Cond.fieldLink RX11 39 "IntegerHouse" "maker" "LIntegerHouse$Maker;", Cond.fieldLink RX11 89 "IntegerHouse" "searcher" "LIntegerHouse$Searcher;", Cond.methodLink RX11 230 yX11_useTape, Cond.instanceMethod yX11_useTape, Cond.selects RX11 yX11_useTape yX11_useTape, Cond.initialized RX11, Cond.code yX11_useTape cX11_useTape 2 (some .int), Cond.fieldLink RX11 102 "IntegerHouse" "tapeLength" "I", Cond.methodLink RX11 370 yX2_allPlain, Cond.instanceMethod yX2_allPlain, Cond.selects RX2 yX2_allPlain yX2_allPlain, Cond.initialized RX2, Cond.code yX2_allPlain cX2_allPlain 2 (some .boolean), Cond.fieldLink RX2 55 "IntegerHouse$House" "claims" "I", Cond.fieldLink RX2 61 "IntegerHouse$House" "on" "I", Cond.methodLink RX2 67 yX2_fact, Cond.instanceMethod yX2_fact, Cond.selects RX2 yX2_fact yX2_fact, Cond.code yX2_fact cX2_fact 3 (some .int)]
def wsX11_search_r2 : List Cond := [Cond.fieldLink RX2 28 "IntegerHouse$House" "facts" "[I", Cond.methodLink RX11 373 yX8_readTerm, Cond.instanceMethod yX8_readTerm, Cond.selects RX8 yX8_readTerm yX8_readTerm, Cond.initialized RX8, Cond.code yX8_readTerm cX8_readTerm 3 (some .boolean), Cond.fieldLink RX8 62 "IntegerHouse$Reader" "faultKind" "I", Cond.fieldLink RX8 19 "IntegerHouse$Reader" "maker" "LIntegerHouse$Maker;", Cond.constant RX8 114 (99999), Cond.methodLink RX8 23 yX8_begin, Cond.instanceMethod yX8_begin, Cond.selects RX8 yX8_begin yX8_begin, Cond.code yX8_begin cX8_begin 4 none, Cond.fieldLink RX8 9 "IntegerHouse$Reader" "lexer" "LIntegerHouse$Lexer;", Cond.fieldLink RX8 123 "IntegerHouse$Reader" "faultPlace" "I", Cond.fieldLink RX8 101 "IntegerHouse$Reader" "hasFormula" "Z", Cond.fieldLink RX8 79 "IntegerHouse$Reader" "at" "I", Cond.methodLink RX8 119 yX3_scan, Cond.instanceMethod yX3_scan, Cond.selects RX3 yX3_scan yX3_scan, Cond.initialized RX3, Cond.code yX3_scan cX3_scan 9 none, Cond.fieldLink RX3 28 "IntegerHouse$Lexer" "source" "[B", Cond.fieldLink RX3 55 "IntegerHouse$Lexer" "begin" "I"]
def wsX11_search_r3 : List Cond := [Cond.fieldLink RX3 52 "IntegerHouse$Lexer" "stop" "I", Cond.fieldLink RX3 48 "IntegerHouse$Lexer" "size" "I", Cond.fieldLink RX3 19 "IntegerHouse$Lexer" "spots" "[I", Cond.fieldLink RX3 15 "IntegerHouse$Lexer" "kinds" "[I", Cond.methodLink RX3 59 yX3_behindBlanks, Cond.instanceMethod yX3_behindBlanks, Cond.selects RX3 yX3_behindBlanks yX3_behindBlanks, Cond.code yX3_behindBlanks cX3_behindBlanks 3 (some .int), Cond.methodLink RX3 63 yX3_byteAt, Cond.instanceMethod yX3_byteAt, Cond.selects RX3 yX3_byteAt yX3_byteAt, Cond.code yX3_byteAt cX3_byteAt 2 (some .int), Cond.methodLink RX3 66 yX3_isLetter, Cond.static yX3_isLetter, Cond.code yX3_isLetter cX3_isLetter 1 (some .boolean), Cond.methodLink RX3 70 yX3_word, Cond.instanceMethod yX3_word, Cond.selects RX3 yX3_word yX3_word, Cond.code yX3_word cX3_word 9 (some .int), Cond.fieldLink RX3 11 "IntegerHouse$Lexer" "words" "[J", Cond.fieldLink RX3 25 "IntegerHouse$Lexer" "names" "[J", Cond.methodLink RX3 74 yX3_isDigit, Cond.static yX3_isDigit, Cond.code yX3_isDigit cX3_isDigit 1 (some .boolean)]
def wsX11_search_r4 : List Cond := [Cond.methodLink RX3 77 yX3_digits, Cond.instanceMethod yX3_digits, Cond.selects RX3 yX3_digits yX3_digits, Cond.code yX3_digits cX3_digits 6 (some .int), Cond.fieldLink RX3 22 "IntegerHouse$Lexer" "numbers" "[I", Cond.methodLink RX3 81 yX3_sign, Cond.instanceMethod yX3_sign, Cond.selects RX3 yX3_sign yX3_sign, Cond.code yX3_sign cX3_sign 6 (some .int), Cond.methodLink RX3 44 yJ0_charAt_5068e, Cond.instanceMethod yJ0_charAt_5068e, Cond.selects RJ0 yJ0_charAt_5068e yJ0_charAt_5068e, Cond.initialized RJ0, Cond.code yJ0_charAt_5068e cJ0_charAt_5068e 2 (some .char), Cond.fieldLink RJ0 9 "java/lang/String" "value" "[B", Cond.methodLink RJ0 492 yJ0_isLatin1_aae02, Cond.instanceMethod yJ0_isLatin1_aae02, Cond.selects RJ0 yJ0_isLatin1_aae02 yJ0_isLatin1_aae02, Cond.code yJ0_isLatin1_aae02 cJ0_isLatin1_aae02 1 (some .boolean), Cond.fieldLink RJ0 38 "java/lang/String" "COMPACT_STRINGS" "Z", Cond.fieldLink RJ0 15 "java/lang/String" "coder" "B", Cond.methodLink RJ0 495 yJ1_charAt_3b067, Cond.static yJ1_charAt_3b067, Cond.initialized RJ1]
def wsX11_search_r5 : List Cond := [Cond.code yJ1_charAt_3b067 cJ1_charAt_3b067 2 (some .char), Cond.methodLink RJ1 9 yJ0_checkIndex_df160, Cond.static yJ0_checkIndex_df160, Cond.code yJ0_checkIndex_df160 cJ0_checkIndex_df160 2 none, Cond.fieldLink RJ0 1053 "jdk/internal/util/Preconditions" "SIOOBE_FORMATTER" "Ljava/util/function/BiFunction;", Cond.methodLink RJ0 1059 yJ3_checkIndex_8e157, Cond.static yJ3_checkIndex_8e157, Cond.initialized RJ3, Cond.code yJ3_checkIndex_8e157 cJ3_checkIndex_8e157 3 (some .int), Cond.methodLink RJ0 498 yJ2_charAt_3b067, Cond.static yJ2_charAt_3b067, Cond.initialized RJ2, Cond.code yJ2_charAt_3b067 cJ2_charAt_3b067 2 (some .char), Cond.methodLink RJ2 67 yJ2_checkIndex_2214a, Cond.static yJ2_checkIndex_2214a, Cond.code yJ2_checkIndex_2214a cJ2_checkIndex_2214a 2 none, Cond.methodLink RJ2 48 yJ2_length_9d52b, Cond.static yJ2_length_9d52b, Cond.code yJ2_length_9d52b cJ2_length_9d52b 1 (some .int), Cond.methodLink RJ2 414 yJ0_checkIndex_df160, Cond.methodLink RJ2 71 yJ2_getChar_3b067, Cond.static yJ2_getChar_3b067, Cond.code yJ2_getChar_3b067 cJ2_getChar_3b067 2 (some .char), Cond.fieldLink RJ2 44 "java/lang/StringUTF16" "$assertionsDisabled" "Z"]
def wsX11_search_r6 : List Cond := [Cond.fieldLink RJ2 59 "java/lang/StringUTF16" "HI_BYTE_SHIFT" "I", Cond.fieldLink RJ2 63 "java/lang/StringUTF16" "LO_BYTE_SHIFT" "I", Cond.methodLink RX8 98 yX8_next, Cond.instanceMethod yX8_next, Cond.selects RX8 yX8_next yX8_next, Cond.code yX8_next cX8_next 1 none, Cond.fieldLink RX8 39 "IntegerHouse$Reader" "kind" "I", Cond.fieldLink RX8 136 "IntegerHouse$Reader" "place" "I", Cond.methodLink RX8 49 yX8_readInto, Cond.instanceMethod yX8_readInto, Cond.selects RX8 yX8_readInto yX8_readInto, Cond.code yX8_readInto cX8_readInto 2 none, Cond.fieldLink RX8 164 "IntegerHouse$Reader" "slot" "I", Cond.fieldLink RX8 167 "IntegerHouse$Reader" "tokens" "I", Cond.fieldLink RX8 170 "IntegerHouse$Reader" "steps" "I", Cond.fieldLink RX8 173 "IntegerHouse$Reader" "open" "I", Cond.fieldLink RX8 15 "IntegerHouse$Reader" "house" "LIntegerHouse$House;", Cond.methodLink RX8 157 yX2_setFact, Cond.instanceMethod yX2_setFact, Cond.selects RX2 yX2_setFact yX2_setFact, Cond.code yX2_setFact cX2_setFact 4 none, Cond.methodLink RX8 176 yX8_term, Cond.instanceMethod yX8_term, Cond.selects RX8 yX8_term yX8_term]
def wsX11_search_r7 : List Cond := [Cond.code yX8_term cX8_term 3 none, Cond.methodLink RX8 191 yX8_accept, Cond.instanceMethod yX8_accept, Cond.selects RX8 yX8_accept yX8_accept, Cond.code yX8_accept cX8_accept 4 none, Cond.methodLink RX8 95 yX8_fail, Cond.instanceMethod yX8_fail, Cond.selects RX8 yX8_fail yX8_fail, Cond.code yX8_fail cX8_fail 2 none, Cond.methodLink RX8 185 yX2_setToken, Cond.instanceMethod yX2_setToken, Cond.selects RX2 yX2_setToken yX2_setToken, Cond.code yX2_setToken cX2_setToken 4 none, Cond.fieldLink RX2 18 "IntegerHouse$House" "tokens" "[I", Cond.methodLink RX8 219 yX8_part, Cond.instanceMethod yX8_part, Cond.selects RX8 yX8_part yX8_part, Cond.methodLink RX8 194 yX8_step, Cond.instanceMethod yX8_step, Cond.selects RX8 yX8_step yX8_step, Cond.code yX8_step cX8_step 2 none, Cond.methodLink RX8 182 yX2_setStep, Cond.instanceMethod yX2_setStep, Cond.selects RX2 yX2_setStep yX2_setStep]
def wsX11_search_r8 : List Cond := [Cond.code yX2_setStep cX2_setStep 4 none, Cond.fieldLink RX2 22 "IntegerHouse$House" "steps" "[I", Cond.code yX8_bracketed cX8_bracketed 3 none, Cond.methodLink RX8 206 yX3_numberAt, Cond.instanceMethod yX3_numberAt, Cond.selects RX3 yX3_numberAt yX3_numberAt, Cond.code yX3_numberAt cX3_numberAt 2 (some .int), Cond.constant RX3 58 (1048575), Cond.methodLink RX8 209 yX8_checkDivisor, Cond.instanceMethod yX8_checkDivisor, Cond.selects RX8 yX8_checkDivisor yX8_checkDivisor, Cond.code yX8_checkDivisor cX8_checkDivisor 2 none, Cond.methodLink RX8 212 yX3_writtenAt, Cond.instanceMethod yX3_writtenAt, Cond.selects RX3 yX3_writtenAt yX3_writtenAt, Cond.code yX3_writtenAt cX3_writtenAt 2 (some .int), Cond.code yX8_factor cX8_factor 3 none, Cond.methodLink RX8 82 yX3_nameAt, Cond.instanceMethod yX3_nameAt, Cond.selects RX3 yX3_nameAt yX3_nameAt, Cond.code yX3_nameAt cX3_nameAt 2 (some .long), Cond.methodLink RX8 92 yX2_variableOf, Cond.instanceMethod yX2_variableOf, Cond.selects RX2 yX2_variableOf yX2_variableOf]
def wsX11_search_r9 : List Cond := [Cond.code yX2_variableOf cX2_variableOf 4 (some .int), Cond.fieldLink RX2 52 "IntegerHouse$House" "variables" "I", Cond.fieldLink RX2 9 "IntegerHouse$House" "variableNames" "[J", Cond.methodLink RX8 88 yX2_claimOf, Cond.instanceMethod yX2_claimOf, Cond.selects RX2 yX2_claimOf yX2_claimOf, Cond.code yX2_claimOf cX2_claimOf 4 (some .int), Cond.fieldLink RX2 15 "IntegerHouse$House" "claimNames" "[J", Cond.methodLink RX8 226 yX8_bracketed, Cond.instanceMethod yX8_bracketed, Cond.selects RX8 yX8_bracketed yX8_bracketed, Cond.code yX8_part cX8_part 5 none, Cond.methodLink RX8 223 yX8_factor, Cond.instanceMethod yX8_factor, Cond.selects RX8 yX8_factor yX8_factor, Cond.methodLink RX8 179 yX8_formula, Cond.instanceMethod yX8_formula, Cond.selects RX8 yX8_formula yX8_formula, Cond.code yX8_formula cX8_formula 2 none, Cond.methodLink RX8 188 yX8_side, Cond.instanceMethod yX8_side, Cond.selects RX8 yX8_side yX8_side, Cond.code yX8_both cX8_both 2 none, Cond.methodLink RX8 200 yX8_one]
def wsX11_search_r10 : List Cond := [Cond.instanceMethod yX8_one, Cond.selects RX8 yX8_one yX8_one, Cond.code yX8_one cX8_one 4 none, Cond.methodLink RX8 203 yX3_kindAt, Cond.instanceMethod yX3_kindAt, Cond.selects RX3 yX3_kindAt yX3_kindAt, Cond.code yX3_kindAt cX3_kindAt 2 (some .int), Cond.static yX11_isComparison, Cond.code yX11_isComparison cX11_isComparison 1 (some .boolean), Cond.code yX8_side cX8_side 2 none, Cond.methodLink RX8 197 yX8_both, Cond.instanceMethod yX8_both, Cond.selects RX8 yX8_both yX8_both, Cond.methodLink RX8 59 yX8_expectEnd, Cond.instanceMethod yX8_expectEnd, Cond.selects RX8 yX8_expectEnd yX8_expectEnd, Cond.code yX8_expectEnd cX8_expectEnd 1 none, Cond.methodLink RX8 105 yX4_makeGoal, Cond.instanceMethod yX4_makeGoal, Cond.selects RX4 yX4_makeGoal yX4_makeGoal, Cond.initialized RX4, Cond.code yX4_makeGoal cX4_makeGoal 4 (some .boolean), Cond.fieldLink RX4 25 "IntegerHouse$Maker" "house" "LIntegerHouse$House;", Cond.fieldLink RX4 61 "IntegerHouse$Maker" "great" "Z"]
def wsX11_search_r11 : List Cond := [Cond.fieldLink RX4 22 "IntegerHouse$Maker" "goal" "[J", Cond.fieldLink RX4 11 "IntegerHouse$Maker" "forms" "[J", Cond.methodLink RX4 29 yX4_begin, Cond.instanceMethod yX4_begin, Cond.selects RX4 yX4_begin yX4_begin, Cond.code yX4_begin cX4_begin 2 none, Cond.fieldLink RX4 33 "IntegerHouse$Maker" "slot" "I", Cond.fieldLink RX4 86 "IntegerHouse$Maker" "codeSize" "I", Cond.fieldLink RX4 89 "IntegerHouse$Maker" "crowded" "Z", Cond.fieldLink RX4 83 "IntegerHouse$Maker" "falsehood" "I", Cond.fieldLink RX4 15 "IntegerHouse$Maker" "tops" "[I", Cond.methodLink RX4 79 yX2_setFact, Cond.methodLink RX4 39 yX2_fact, Cond.methodLink RX4 43 yX2_step, Cond.instanceMethod yX2_step, Cond.selects RX2 yX2_step yX2_step, Cond.code yX2_step cX2_step 3 (some .int), Cond.methodLink RX4 92 yX4_work, Cond.instanceMethod yX4_work, Cond.selects RX4 yX4_work yX4_work, Cond.code yX4_work cX4_work 5 none, Cond.methodLink RX4 137 yX4_top, Cond.instanceMethod yX4_top, Cond.selects RX4 yX4_top yX4_top]
def wsX11_search_r12 : List Cond := [Cond.code yX4_top cX4_top 2 (some .int), Cond.methodLink RX4 169 yX4_pushForm, Cond.instanceMethod yX4_pushForm, Cond.selects RX4 yX4_pushForm yX4_pushForm, Cond.code yX4_pushForm cX4_pushForm 6 none, Cond.methodLink RX4 95 yX4_form, Cond.static yX4_form, Cond.code yX4_form cX4_form 2 (some .int), Cond.methodLink RX4 160 yX4_setTop, Cond.instanceMethod yX4_setTop, Cond.selects RX4 yX4_setTop yX4_setTop, Cond.code yX4_setTop cX4_setTop 3 none, Cond.methodLink RX4 150 yX4_multiply, Cond.instanceMethod yX4_multiply, Cond.selects RX4 yX4_multiply yX4_multiply, Cond.code yX4_multiply cX4_multiply 4 none, Cond.methodLink RX4 153 yX4_combine, Cond.instanceMethod yX4_combine, Cond.selects RX4 yX4_combine yX4_combine, Cond.code yX4_combine cX4_combine 12 none, Cond.methodLink RX4 172 Lib.MathLoose.max_long.x, Cond.static Lib.MathLoose.max_long.x, Cond.initialized "java/lang/Math", Cond.code Lib.MathLoose.max_long.x Lib.MathLoose.max_long.code 4 (some .long)]
def wsX11_search_r13 : List Cond := [Cond.static yX11_commonDivisor, Cond.code yX11_commonDivisor cX11_commonDivisor 11 (some .long), Cond.methodLink RX4 157 yX4_check, Cond.instanceMethod yX4_check, Cond.selects RX4 yX4_check yX4_check, Cond.code yX4_check cX4_check 3 none, Cond.methodLink RX4 98 Lib.MathLoose.abs_long.x, Cond.static Lib.MathLoose.abs_long.x, Cond.code Lib.MathLoose.abs_long.x Lib.MathLoose.abs_long.code 2 (some .long), Cond.constantLong RX4 179 (1000000), Cond.methodLink RX8 115 yX4_isGoalWithin, Cond.instanceMethod yX4_isGoalWithin, Cond.selects RX4 yX4_isGoalWithin yX4_isGoalWithin, Cond.code yX4_isGoalWithin cX4_isGoalWithin 5 (some .boolean), Cond.methodLink RX8 71 yX8_failIf, Cond.instanceMethod yX8_failIf, Cond.selects RX8 yX8_failIf yX8_failIf, Cond.code yX8_failIf cX8_failIf 3 none, Cond.methodLink RX8 139 yX2_fact, Cond.methodLink RX11 236 yX11_faulted, Cond.instanceMethod yX11_faulted, Cond.selects RX11 yX11_faulted yX11_faulted, Cond.code yX11_faulted cX11_faulted 1 (some .int), Cond.fieldLink RX11 253 "IntegerHouse" "latestFault" "I"]
def wsX11_search_r14 : List Cond := [Cond.methodLink RX11 376 yX9_load, Cond.instanceMethod yX9_load, Cond.selects RX9 yX9_load yX9_load, Cond.initialized RX9, Cond.code yX9_load cX9_load 7 (some .boolean), Cond.fieldLink RX9 44 "IntegerHouse$Relaxer" "size" "I", Cond.methodLink RX9 53 Lib.Math.min.name, Cond.static Lib.Math.min.name, Cond.code Lib.Math.min.name Lib.Math.min.code 2 (some .int), Cond.methodLink RX9 59 Lib.Math.max.name, Cond.static Lib.Math.max.name, Cond.code Lib.Math.max.name Lib.Math.max.code 2 (some .int), Cond.fieldLink RX9 62 "IntegerHouse$Relaxer" "variables" "I", Cond.fieldLink RX9 15 "IntegerHouse$Relaxer" "goal" "[J", Cond.fieldLink RX9 63 "IntegerHouse$Relaxer" "goalNumber" "J", Cond.methodLink RX9 72 yX2_fact, Cond.methodLink RX9 75 yX2_atomOf, Cond.instanceMethod yX2_atomOf, Cond.selects RX2 yX2_atomOf yX2_atomOf, Cond.code yX2_atomOf cX2_atomOf 3 (some .int), Cond.fieldLink RX2 31 "IntegerHouse$House" "atoms" "[I", Cond.methodLink RX9 78 yX9_takeAtom, Cond.instanceMethod yX9_takeAtom, Cond.selects RX9 yX9_takeAtom yX9_takeAtom]
def wsX11_search_r15 : List Cond := [Cond.code yX9_takeAtom cX9_takeAtom 4 (some .boolean), Cond.constantLong RX9 89 (-1), Cond.methodLink RX9 82 yX9_clearRow, Cond.instanceMethod yX9_clearRow, Cond.selects RX9 yX9_clearRow yX9_clearRow, Cond.code yX9_clearRow cX9_clearRow 3 none, Cond.methodLink RX9 91 yX9_setRow, Cond.instanceMethod yX9_setRow, Cond.selects RX9 yX9_setRow yX9_setRow, Cond.code yX9_setRow cX9_setRow 5 none, Cond.fieldLink RX9 11 "IntegerHouse$Relaxer" "rows" "[J", Cond.methodLink RX9 86 yX2_pooled, Cond.instanceMethod yX2_pooled, Cond.selects RX2 yX2_pooled yX2_pooled, Cond.code yX2_pooled cX2_pooled 3 (some .int), Cond.fieldLink RX2 34 "IntegerHouse$House" "pool" "[I", Cond.methodLink RX9 95 yX9_isLike, Cond.instanceMethod yX9_isLike, Cond.selects RX9 yX9_isLike yX9_isLike, Cond.code yX9_isLike cX9_isLike 5 (some .boolean), Cond.methodLink RX9 99 yX9_rowNumber, Cond.instanceMethod yX9_rowNumber, Cond.selects RX9 yX9_rowNumber yX9_rowNumber, Cond.code yX9_rowNumber cX9_rowNumber 3 (some .long)]
def wsX11_search_r16 : List Cond := [Cond.methodLink RX11 388 yX10_run, Cond.instanceMethod yX10_run, Cond.selects RX10 yX10_run yX10_run, Cond.initialized RX10, Cond.code yX10_run cX10_run 4 (some .int), Cond.fieldLink RX10 32 "IntegerHouse$Searcher" "told" "Z", Cond.fieldLink RX10 36 "IntegerHouse$Searcher" "taken" "I", Cond.fieldLink RX10 40 "IntegerHouse$Searcher" "cuts" "I", Cond.fieldLink RX10 43 "IntegerHouse$Searcher" "bestValue" "J", Cond.fieldLink RX10 47 "IntegerHouse$Searcher" "hasBest" "Z", Cond.fieldLink RX10 25 "IntegerHouse$Searcher" "values" "[J", Cond.fieldLink RX10 56 "IntegerHouse$Searcher" "pile" "I", Cond.fieldLink RX10 28 "IntegerHouse$Searcher" "relaxer" "LIntegerHouse$Relaxer;", Cond.methodLink RX10 50 yJ7_fill_d0a16, Cond.static yJ7_fill_d0a16, Cond.initialized RJ7, Cond.code yJ7_fill_d0a16 cJ7_fill_d0a16 5 none, Cond.methodLink RX10 64 yX10_lay, Cond.instanceMethod yX10_lay, Cond.selects RX10 yX10_lay yX10_lay, Cond.code yX10_lay cX10_lay 6 none, Cond.fieldLink RX10 11 "IntegerHouse$Searcher" "rowsBefore" "[I", Cond.fieldLink RX10 15 "IntegerHouse$Searcher" "variableOf" "[I", Cond.fieldLink RX10 18 "IntegerHouse$Searcher" "signOf" "[I"]
def wsX11_search_r17 : List Cond := [Cond.fieldLink RX10 21 "IntegerHouse$Searcher" "limitOf" "[J", Cond.methodLink RX10 68 yX10_take, Cond.instanceMethod yX10_take, Cond.selects RX10 yX10_take yX10_take, Cond.code yX10_take cX10_take 1 none, Cond.methodLink RX10 75 yX9_addLimit, Cond.instanceMethod yX9_addLimit, Cond.selects RX9 yX9_addLimit yX9_addLimit, Cond.code yX9_addLimit cX9_addLimit 5 none, Cond.methodLink RX10 71 yX10_look, Cond.instanceMethod yX10_look, Cond.selects RX10 yX10_look yX10_look, Cond.code yX10_look cX10_look 5 (some .boolean), Cond.methodLink RX10 79 yX9_solve, Cond.instanceMethod yX9_solve, Cond.selects RX9 yX9_solve yX9_solve, Cond.code yX9_solve cX9_solve 4 (some .int), Cond.constant RX9 127 (1000000), Cond.methodLink RX9 124 yX9_beginEndless, Cond.instanceMethod yX9_beginEndless, Cond.selects RX9 yX9_beginEndless yX9_beginEndless, Cond.code yX9_beginEndless cX9_beginEndless 2 none, Cond.fieldLink RX9 22 "IntegerHouse$Relaxer" "columns" "[J", Cond.fieldLink RX9 37 "IntegerHouse$Relaxer" "below" "J"]
def wsX11_search_r18 : List Cond := [Cond.fieldLink RX9 18 "IntegerHouse$Relaxer" "basis" "[I", Cond.methodLink RX9 147 yJ7_fill_d0a16, Cond.methodLink RX9 128 yX9_locate, Cond.instanceMethod yX9_locate, Cond.selects RX9 yX9_locate yX9_locate, Cond.code yX9_locate cX9_locate 5 none, Cond.fieldLink RX9 41 "IntegerHouse$Relaxer" "pointBelow" "J", Cond.fieldLink RX9 28 "IntegerHouse$Relaxer" "point" "[J", Cond.fieldLink RX9 31 "IntegerHouse$Relaxer" "endless" "[J", Cond.methodLink RX9 131 yX9_brokenRow, Cond.instanceMethod yX9_brokenRow, Cond.selects RX9 yX9_brokenRow yX9_brokenRow, Cond.code yX9_brokenRow cX9_brokenRow 5 (some .int), Cond.methodLink RX9 153 yX9_slackSign, Cond.instanceMethod yX9_slackSign, Cond.selects RX9 yX9_slackSign yX9_slackSign, Cond.code yX9_slackSign cX9_slackSign 11 (some .int), Cond.constantLong RX9 157 (1073741823), Cond.methodLink RX9 159 yX9_signOf, Cond.static yX9_signOf, Cond.code yX9_signOf cX9_signOf 4 (some .int), Cond.methodLink RX9 134 yX9_verdict, Cond.instanceMethod yX9_verdict, Cond.selects RX9 yX9_verdict yX9_verdict]
def wsX11_search_r19 : List Cond := [Cond.code yX9_verdict cX9_verdict 5 (some .int), Cond.methodLink RX9 137 yX9_mixOf, Cond.instanceMethod yX9_mixOf, Cond.selects RX9 yX9_mixOf yX9_mixOf, Cond.code yX9_mixOf cX9_mixOf 4 none, Cond.fieldLink RX9 25 "IntegerHouse$Relaxer" "mix" "[J", Cond.methodLink RX9 140 yX9_leaving, Cond.instanceMethod yX9_leaving, Cond.selects RX9 yX9_leaving yX9_leaving, Cond.code yX9_leaving cX9_leaving 3 (some .int), Cond.methodLink RX9 165 yX9_isBefore, Cond.instanceMethod yX9_isBefore, Cond.selects RX9 yX9_isBefore yX9_isBefore, Cond.code yX9_isBefore cX9_isBefore 5 (some .boolean), Cond.methodLink RX9 168 yX9_goalOf, Cond.instanceMethod yX9_goalOf, Cond.selects RX9 yX9_goalOf yX9_goalOf, Cond.code yX9_goalOf cX9_goalOf 5 (some .long), Cond.methodLink RX9 172 yX9_crossSign, Cond.static yX9_crossSign, Cond.code yX9_crossSign cX9_crossSign 14 (some .int), Cond.constantLong RX9 163 (1048575), Cond.methodLink RX9 143 yX9_exchange, Cond.instanceMethod yX9_exchange]
def wsX11_search_r20 : List Cond := [Cond.selects RX9 yX9_exchange yX9_exchange, Cond.code yX9_exchange cX9_exchange 11 none, Cond.methodLink RX10 83 yX9_goalDown, Cond.instanceMethod yX9_goalDown, Cond.selects RX9 yX9_goalDown yX9_goalDown, Cond.code yX9_goalDown cX9_goalDown 1 (some .long), Cond.methodLink RX9 122 Lib.MathLoose.max_long.x, Cond.methodLink RX9 110 yX9_goalAtPoint, Cond.instanceMethod yX9_goalAtPoint, Cond.selects RX9 yX9_goalAtPoint yX9_goalAtPoint, Cond.code yX9_goalAtPoint cX9_goalAtPoint 4 (some .long), Cond.methodLink RX9 176 yJ9_floorDiv_f86c9, Cond.static yJ9_floorDiv_f86c9, Cond.initialized RJ9, Cond.code yJ9_floorDiv_f86c9 cJ9_floorDiv_f86c9 6 (some .long), Cond.methodLink RX10 87 yX9_firstBroken, Cond.instanceMethod yX9_firstBroken, Cond.selects RX9 yX9_firstBroken yX9_firstBroken, Cond.code yX9_firstBroken cX9_firstBroken 2 (some .int), Cond.methodLink RX9 179 yJ9_floorMod_f86c9, Cond.static yJ9_floorMod_f86c9, Cond.code yJ9_floorMod_f86c9 cJ9_floorMod_f86c9 6 (some .long), Cond.methodLink RX10 90 yX10_keepBest, Cond.instanceMethod yX10_keepBest]
def wsX11_search_r21 : List Cond := [Cond.selects RX10 yX10_keepBest yX10_keepBest, Cond.code yX10_keepBest cX10_keepBest 2 none, Cond.methodLink RX10 102 yX9_down, Cond.instanceMethod yX9_down, Cond.selects RX9 yX9_down yX9_down, Cond.code yX9_down cX9_down 4 (some .long), Cond.methodLink RX10 93 yX10_halve, Cond.instanceMethod yX10_halve, Cond.selects RX10 yX10_halve yX10_halve, Cond.code yX10_halve cX10_halve 4 (some .boolean), Cond.methodLink RX10 106 yX9_isLimit, Cond.static yX9_isLimit, Cond.code yX9_isLimit cX9_isLimit 2 (some .boolean), Cond.methodLink RX9 182 Lib.MathLoose.abs_long.x, Cond.constantLong RX9 186 (100000000), Cond.methodLink RX10 96 yX9_addCut, Cond.instanceMethod yX9_addCut, Cond.selects RX9 yX9_addCut yX9_addCut, Cond.code yX9_addCut cX9_addCut 13 (some .boolean), Cond.methodLink RX9 188 yX9_findBasis, Cond.instanceMethod yX9_findBasis, Cond.selects RX9 yX9_findBasis yX9_findBasis, Cond.code yX9_findBasis cX9_findBasis 4 none, Cond.methodLink RX9 191 yX9_finishCut]
def wsX11_search_r22 : List Cond := [Cond.instanceMethod yX9_finishCut, Cond.selects RX9 yX9_finishCut yX9_finishCut, Cond.code yX9_finishCut cX9_finishCut 9 (some .boolean), Cond.constantLong RX9 199 (200), Cond.methodLink RX9 195 yX9_isLimit]
def wsX11_search : List Cond := .code yX11_search cX11_search 4 (some .int) :: ((wsX11_search_r1 ++ (wsX11_search_r2 ++ (wsX11_search_r3 ++ (wsX11_search_r4 ++ (wsX11_search_r5 ++ (wsX11_search_r6 ++ (wsX11_search_r7 ++ (wsX11_search_r8 ++ (wsX11_search_r9 ++ (wsX11_search_r10 ++ (wsX11_search_r11 ++ (wsX11_search_r12 ++ (wsX11_search_r13 ++ (wsX11_search_r14 ++ (wsX11_search_r15 ++ (wsX11_search_r16 ++ (wsX11_search_r17 ++ (wsX11_search_r18 ++ (wsX11_search_r19 ++ (wsX11_search_r20 ++ (wsX11_search_r21 ++ wsX11_search_r22))))))))))))))))))))) ++ wsX110 ++ wsX10 ++ wsX40 ++ wsX20 ++ wsX80 ++ wsX30 ++ wsX90 ++ wsX100)
def wsX11_best : List Cond := .code yX11_best cX11_best 2 (some .long) :: ([.classLink RX11 197 "java/lang/IndexOutOfBoundsException", .initialized "java/lang/IndexOutOfBoundsException", .fieldLink RX11 89 "IntegerHouse" "searcher" "LIntegerHouse$Searcher;", .methodLink RX11 391 yX10_isTold, .instanceMethod yX10_isTold, .selects RX10 yX10_isTold yX10_isTold, .initialized RX10, .code yX10_isTold cX10_isTold 2 (some .boolean), .fieldLink RX10 32 "IntegerHouse$Searcher" "told" "Z", .methodLink RX11 392 yX10_toldBest, .instanceMethod yX10_toldBest, .selects RX10 yX10_toldBest yX10_toldBest, .code yX10_toldBest cX10_toldBest 3 (some .long), .fieldLink RX10 36 "IntegerHouse$Searcher" "taken" "I", .fieldLink RX10 40 "IntegerHouse$Searcher" "cuts" "I", .fieldLink RX10 43 "IntegerHouse$Searcher" "bestValue" "J", .fieldLink RX10 25 "IntegerHouse$Searcher" "values" "[J"] ++ wsX110 ++ wsX100 ++ (vx_atS RX11 201 "java/lang/IndexOutOfBoundsException" ["java/lang/RuntimeException", "java/lang/Exception"]).filter goodWord)
def wsX12_half : List Cond := .code yX12_half cX12_half 3 (some .int) :: ([.fieldLink RX12 1061 "IntegerHouseModel" "ownStates" "I", .fieldLink RX12 1064 "IntegerHouseModel" "ownLetters" "I", .fieldLink RX12 3 "IntegerHouseModel" "thrown" "I", .fieldLink RX12 388 "IntegerHouseModel" "ownBehind" "[I", .methodLink RX12 504 yX12_in, .static yX12_in, .initialized RX12, .code yX12_in cX12_in 6 (some .boolean)] ++ wsX120)
def wsX12_takes : List Cond := .code yX12_takes cX12_takes 3 (some .int) :: ([.fieldLink RX12 1061 "IntegerHouseModel" "ownStates" "I", .fieldLink RX12 1064 "IntegerHouseModel" "ownLetters" "I", .fieldLink RX12 3 "IntegerHouseModel" "thrown" "I", .fieldLink RX12 391 "IntegerHouseModel" "ownTakes" "[I", .methodLink RX12 504 yX12_in, .static yX12_in, .initialized RX12, .code yX12_in cX12_in 6 (some .boolean)] ++ wsX120)
def wsX12_isAllPlain : List Cond := .code yX12_isAllPlain cX12_isAllPlain 3 (some .boolean) :: ([.fieldLink RX12 818 "IntegerHouseModel" "claims" "I", .fieldLink RX12 265 "IntegerHouseModel" "isOn" "[Z", .fieldLink RX12 244 "IntegerHouseModel" "isPlain" "[Z"] ++ wsX120)
def wsX12_readsLineTerm_r1 : List Cond := [Cond.fieldLink RX12 562 "IntegerHouseModel" "faulty" "Z", Cond.fieldLink RX12 87 "IntegerHouseModel" "tokenKind" "[I", Cond.fieldLink RX12 597 "IntegerHouseModel" "now" "I", Cond.constantLong RX12 750 (20), Cond.constantLong RX12 754 (99999), Cond.methodLink RX12 842 yX12_beginSlot, Cond.instanceMethod yX12_beginSlot, Cond.selects RX12 yX12_beginSlot yX12_beginSlot, Cond.initialized RX12, Cond.code yX12_beginSlot cX12_beginSlot 2 none, Cond.fieldLink RX12 630 "IntegerHouseModel" "slot" "I", Cond.fieldLink RX12 633 "IntegerHouseModel" "open" "I", Cond.fieldLink RX12 105 "IntegerHouseModel" "textCount" "[I", Cond.fieldLink RX12 120 "IntegerHouseModel" "nodeCount" "[I", Cond.fieldLink RX12 153 "IntegerHouseModel" "leafCount" "[I", Cond.fieldLink RX12 165 "IntegerHouseModel" "termCount" "[I", Cond.fieldLink RX12 181 "IntegerHouseModel" "partCount" "[I", Cond.methodLink RX12 1020 yX12_readTerm, Cond.instanceMethod yX12_readTerm, Cond.selects RX12 yX12_readTerm yX12_readTerm, Cond.code yX12_readTerm cX12_readTerm 1 (some .int), Cond.fieldLink RX12 639 "IntegerHouseModel" "formulas" "I", Cond.fieldLink RX12 642 "IntegerHouseModel" "terms" "I", Cond.fieldLink RX12 648 "IntegerHouseModel" "state" "I"]
def wsX12_readsLineTerm_r2 : List Cond := [Cond.fieldLink RX12 660 "IntegerHouseModel" "current" "I", Cond.methodLink RX12 663 yX12_openTerm, Cond.instanceMethod yX12_openTerm, Cond.selects RX12 yX12_openTerm yX12_openTerm, Cond.code yX12_openTerm cX12_openTerm 2 none, Cond.fieldLink RX12 208 "IntegerHouseModel" "inKind" "[I", Cond.fieldLink RX12 211 "IntegerHouseModel" "inFirst" "[I", Cond.fieldLink RX12 217 "IntegerHouseModel" "inSign" "[I", Cond.fieldLink RX12 220 "IntegerHouseModel" "inTimes" "[J", Cond.fieldLink RX12 223 "IntegerHouseModel" "inOne" "[I", Cond.methodLink RX12 657 yX12_readInTerm, Cond.instanceMethod yX12_readInTerm, Cond.selects RX12 yX12_readInTerm yX12_readInTerm, Cond.code yX12_readInTerm cX12_readInTerm 1 none, Cond.fieldLink RX12 90 "IntegerHouseModel" "tokenValue" "[I", Cond.methodLink RX12 672 yX12_isSign, Cond.instanceMethod yX12_isSign, Cond.selects RX12 yX12_isSign yX12_isSign, Cond.code yX12_isSign cX12_isSign 2 (some .boolean), Cond.methodLink RX12 636 yX12_take, Cond.instanceMethod yX12_take, Cond.selects RX12 yX12_take yX12_take, Cond.code yX12_take cX12_take 3 none, Cond.fieldLink RX12 102 "IntegerHouseModel" "textSize" "[I"]
def wsX12_readsLineTerm_r3 : List Cond := [Cond.fieldLink RX12 84 "IntegerHouseModel" "tokenSize" "[I", Cond.fieldLink RX12 99 "IntegerHouseModel" "textBytes" "[B", Cond.fieldLink RX12 32 "IntegerHouseModel" "doc" "[B", Cond.fieldLink RX12 81 "IntegerHouseModel" "tokenAt" "[I", Cond.methodLink RX12 616 yX12_fail, Cond.instanceMethod yX12_fail, Cond.selects RX12 yX12_fail yX12_fail, Cond.code yX12_fail cX12_fail 3 none, Cond.fieldLink RX12 565 "IntegerHouseModel" "faultKind" "I", Cond.fieldLink RX12 568 "IntegerHouseModel" "faultPlace" "I", Cond.methodLink RX12 706 yX12_addPart, Cond.instanceMethod yX12_addPart, Cond.selects RX12 yX12_addPart yX12_addPart, Cond.code yX12_addPart cX12_addPart 3 none, Cond.fieldLink RX12 168 "IntegerHouseModel" "partSign" "[I", Cond.fieldLink RX12 171 "IntegerHouseModel" "partTimes" "[J", Cond.fieldLink RX12 175 "IntegerHouseModel" "partOf" "[I", Cond.fieldLink RX12 178 "IntegerHouseModel" "partNext" "[I", Cond.fieldLink RX12 214 "IntegerHouseModel" "inLast" "[I", Cond.methodLink RX12 709 yX12_readAtom, Cond.instanceMethod yX12_readAtom, Cond.selects RX12 yX12_readAtom yX12_readAtom, Cond.code yX12_readAtom cX12_readAtom 3 none, Cond.constantLong RX12 694 (8)]
def wsX12_readsLineTerm_r4 : List Cond := [Cond.constantLong RX12 696 (12), Cond.methodLink RX12 685 yX12_variableAt, Cond.instanceMethod yX12_variableAt, Cond.selects RX12 yX12_variableAt yX12_variableAt, Cond.code yX12_variableAt cX12_variableAt 3 (some .int), Cond.fieldLink RX12 620 "IntegerHouseModel" "knownVariables" "I", Cond.methodLink RX12 623 yX12_isCalled, Cond.instanceMethod yX12_isCalled, Cond.selects RX12 yX12_isCalled yX12_isCalled, Cond.code yX12_isCalled cX12_isCalled 4 (some .boolean), Cond.fieldLink RX12 96 "IntegerHouseModel" "nameSize" "[I", Cond.fieldLink RX12 93 "IntegerHouseModel" "nameText" "[B", Cond.methodLink RX12 715 yX12_newTerm, Cond.instanceMethod yX12_newTerm, Cond.selects RX12 yX12_newTerm yX12_newTerm, Cond.code yX12_newTerm cX12_newTerm 5 (some .int), Cond.fieldLink RX12 156 "IntegerHouseModel" "termKind" "[I", Cond.fieldLink RX12 159 "IntegerHouseModel" "termA" "[I", Cond.fieldLink RX12 162 "IntegerHouseModel" "termB" "[I", Cond.methodLink RX12 682 yX12_claimAt, Cond.instanceMethod yX12_claimAt, Cond.selects RX12 yX12_claimAt yX12_claimAt, Cond.code yX12_claimAt cX12_claimAt 3 (some .int), Cond.fieldLink RX12 627 "IntegerHouseModel" "knownClaims" "I"]
def wsX12_readsLineTerm_r5 : List Cond := [Cond.methodLink RX12 669 yX12_takeOpen, Cond.instanceMethod yX12_takeOpen, Cond.selects RX12 yX12_takeOpen yX12_takeOpen, Cond.code yX12_takeOpen cX12_takeOpen 1 none, Cond.methodLink RX12 504 yX12_in, Cond.static yX12_in, Cond.code yX12_in cX12_in 6 (some .boolean), Cond.methodLink RX12 698 yX12_cannot, Cond.instanceMethod yX12_cannot, Cond.selects RX12 yX12_cannot yX12_cannot, Cond.code yX12_cannot cX12_cannot 1 none, Cond.methodLink RX12 712 yX12_endTerm, Cond.instanceMethod yX12_endTerm, Cond.selects RX12 yX12_endTerm yX12_endTerm, Cond.code yX12_endTerm cX12_endTerm 7 none, Cond.methodLink RX12 718 yX12_endSide, Cond.instanceMethod yX12_endSide, Cond.selects RX12 yX12_endSide yX12_endSide, Cond.code yX12_endSide cX12_endSide 5 none, Cond.constantLong RX12 721 (11), Cond.constantLong RX12 723 (15), Cond.fieldLink RX12 123 "IntegerHouseModel" "leafOp" "[I", Cond.fieldLink RX12 129 "IntegerHouseModel" "leafLeft" "[I", Cond.fieldLink RX12 132 "IntegerHouseModel" "leafRight" "[I"]
def wsX12_readsLineTerm_r6 : List Cond := [Cond.fieldLink RX12 138 "IntegerHouseModel" "leafTo" "[I", Cond.fieldLink RX12 144 "IntegerHouseModel" "leafTermsTo" "[I", Cond.methodLink RX12 675 yX12_newNode, Cond.instanceMethod yX12_newNode, Cond.selects RX12 yX12_newNode yX12_newNode, Cond.code yX12_newNode cX12_newNode 5 (some .int), Cond.fieldLink RX12 108 "IntegerHouseModel" "nodeKind" "[I", Cond.fieldLink RX12 111 "IntegerHouseModel" "nodeA" "[I", Cond.fieldLink RX12 114 "IntegerHouseModel" "nodeB" "[I", Cond.fieldLink RX12 117 "IntegerHouseModel" "nodeNext" "[I", Cond.methodLink RX12 679 yX12_endOne, Cond.instanceMethod yX12_endOne, Cond.selects RX12 yX12_endOne yX12_endOne, Cond.code yX12_endOne cX12_endOne 2 none, Cond.fieldLink RX12 205 "IntegerHouseModel" "openNots" "[I", Cond.fieldLink RX12 199 "IntegerHouseModel" "openAnd" "[I", Cond.fieldLink RX12 202 "IntegerHouseModel" "openAndLast" "[I", Cond.methodLink RX12 691 yX12_takeNumber, Cond.instanceMethod yX12_takeNumber, Cond.selects RX12 yX12_takeNumber yX12_takeNumber, Cond.code yX12_takeNumber cX12_takeNumber 1 none, Cond.constantLong RX12 701 (2), Cond.methodLink RX12 1023 yX12_collects, Cond.instanceMethod yX12_collects]
def wsX12_readsLineTerm_r7 : List Cond := [Cond.selects RX12 yX12_collects yX12_collects, Cond.code yX12_collects cX12_collects 11 (some .boolean), Cond.fieldLink RX12 725 "IntegerHouseModel" "great" "Z", Cond.fieldLink RX12 259 "IntegerHouseModel" "chosen" "[I", Cond.fieldLink RX12 358 "IntegerHouseModel" "termF" "[J", Cond.fieldLink RX12 250 "IntegerHouseModel" "formF" "[J", Cond.fieldLink RX12 253 "IntegerHouseModel" "formC" "[J", Cond.fieldLink RX12 1000 "IntegerHouseModel" "termC" "J", Cond.methodLink RX12 797 yX12_shape, Cond.instanceMethod yX12_shape, Cond.selects RX12 yX12_shape yX12_shape, Cond.code yX12_shape cX12_shape 8 (some .int), Cond.fieldLink RX12 262 "IntegerHouseModel" "hereF" "[J", Cond.constantLong RX12 526 (-1), Cond.fieldLink RX12 736 "IntegerHouseModel" "hereC" "J", Cond.fieldLink RX12 740 "IntegerHouseModel" "hereD" "J", Cond.methodLink RX12 771 yX12_clearHere, Cond.instanceMethod yX12_clearHere, Cond.selects RX12 yX12_clearHere yX12_clearHere, Cond.code yX12_clearHere cX12_clearHere 4 none, Cond.methodLink RX12 774 yX12_total, Cond.instanceMethod yX12_total, Cond.selects RX12 yX12_total yX12_total, Cond.code yX12_total cX12_total 22 none]
def wsX12_readsLineTerm_r8 : List Cond := [Cond.methodLink RX12 783 yX12_add, Cond.instanceMethod yX12_add, Cond.selects RX12 yX12_add yX12_add, Cond.code yX12_add cX12_add 7 none, Cond.fieldLink RX12 256 "IntegerHouseModel" "formD" "[J", Cond.methodLink RX12 743 yX12_divisor, Cond.static yX12_divisor, Cond.code yX12_divisor cX12_divisor 10 (some .long), Cond.methodLink RX12 787 yX12_lookHere, Cond.instanceMethod yX12_lookHere, Cond.selects RX12 yX12_lookHere yX12_lookHere, Cond.code yX12_lookHere cX12_lookHere 2 none, Cond.methodLink RX12 732 yX12_look, Cond.instanceMethod yX12_look, Cond.selects RX12 yX12_look yX12_look, Cond.code yX12_look cX12_look 3 none, Cond.constantLong RX12 728 (1000000), Cond.constantLong RX12 730 (-1000000), Cond.methodLink RX12 777 yX12_hereIs, Cond.instanceMethod yX12_hereIs, Cond.selects RX12 yX12_hereIs yX12_hereIs, Cond.code yX12_hereIs cX12_hereIs 4 none, Cond.methodLink RX12 780 yX12_lineOf, Cond.instanceMethod yX12_lineOf]
def wsX12_readsLineTerm_r9 : List Cond := [Cond.selects RX12 yX12_lineOf yX12_lineOf, Cond.code yX12_lineOf cX12_lineOf 7 (some .int), Cond.constantLong RX12 752 (-20), Cond.constantLong RX12 756 (-99999), Cond.methodLink RX12 758 yX12_isFlat, Cond.instanceMethod yX12_isFlat, Cond.selects RX12 yX12_isFlat yX12_isFlat, Cond.code yX12_isFlat cX12_isFlat 1 (some .boolean), Cond.methodLink RX12 761 yX12_isFalseHere, Cond.instanceMethod yX12_isFalseHere, Cond.selects RX12 yX12_isFalseHere yX12_isFalseHere, Cond.code yX12_isFalseHere cX12_isFalseHere 1 none, Cond.fieldLink RX12 247 "IntegerHouseModel" "falseAt" "[I", Cond.fieldLink RX12 235 "IntegerHouseModel" "atomCount" "[I", Cond.methodLink RX12 764 yX12_atomOf, Cond.instanceMethod yX12_atomOf, Cond.selects RX12 yX12_atomOf yX12_atomOf, Cond.code yX12_atomOf cX12_atomOf 8 (some .int), Cond.fieldLink RX12 232 "IntegerHouseModel" "atomN" "[I", Cond.fieldLink RX12 229 "IntegerHouseModel" "atomC" "[I", Cond.fieldLink RX12 226 "IntegerHouseModel" "atomF" "[I", Cond.fieldLink RX12 747 "IntegerHouseModel" "crowded" "Z", Cond.methodLink RX12 790 yX12_divides, Cond.instanceMethod yX12_divides]
def wsX12_readsLineTerm_r10 : List Cond := [Cond.selects RX12 yX12_divides yX12_divides, Cond.code yX12_divides cX12_divides 6 (some .int), Cond.methodLink RX12 768 yX12_rest, Cond.static yX12_rest, Cond.code yX12_rest cX12_rest 6 (some .long), Cond.methodLink RX12 792 yX12_keep, Cond.instanceMethod yX12_keep, Cond.selects RX12 yX12_keep yX12_keep, Cond.code yX12_keep cX12_keep 3 none, Cond.methodLink RX12 795 yX12_not, Cond.static yX12_not, Cond.code yX12_not cX12_not 1 (some .int)]
def wsX12_readsLineTerm : List Cond := .code yX12_readsLineTerm cX12_readsLineTerm 2 (some .boolean) :: ((wsX12_readsLineTerm_r1 ++ (wsX12_readsLineTerm_r2 ++ (wsX12_readsLineTerm_r3 ++ (wsX12_readsLineTerm_r4 ++ (wsX12_readsLineTerm_r5 ++ (wsX12_readsLineTerm_r6 ++ (wsX12_readsLineTerm_r7 ++ (wsX12_readsLineTerm_r8 ++ (wsX12_readsLineTerm_r9 ++ wsX12_readsLineTerm_r10))))))))) ++ wsX120)
def wsX12_relaxed_r1 : List Cond := [Cond.fieldLink RX12 1067 "IntegerHouseModel" "rows" "I", Cond.fieldLink RX12 1160 "IntegerHouseModel" "fractionCount" "I", Cond.fieldLink RX12 815 "IntegerHouseModel" "variables" "I", Cond.fieldLink RX12 406 "IntegerHouseModel" "pointA" "[J", Cond.methodLink RX12 871 yX12_asks, Cond.instanceMethod yX12_asks, Cond.selects RX12 yX12_asks yX12_asks, Cond.initialized RX12, Cond.code yX12_asks cX12_asks 1 (some .boolean), Cond.fieldLink RX12 3 "IntegerHouseModel" "thrown" "I", Cond.fieldLink RX12 488 "IntegerHouseModel" "down" "Z", Cond.methodLink RX12 874 yX12_begin, Cond.instanceMethod yX12_begin, Cond.selects RX12 yX12_begin yX12_begin, Cond.code yX12_begin cX12_begin 1 none, Cond.fieldLink RX12 620 "IntegerHouseModel" "knownVariables" "I", Cond.fieldLink RX12 818 "IntegerHouseModel" "claims" "I", Cond.fieldLink RX12 627 "IntegerHouseModel" "knownClaims" "I", Cond.methodLink RX12 491 yX12_takeTape, Cond.instanceMethod yX12_takeTape, Cond.selects RX12 yX12_takeTape yX12_takeTape, Cond.code yX12_takeTape cX12_takeTape 2 none, Cond.fieldLink RX12 485 "IntegerHouseModel" "taped" "I", Cond.fieldLink RX12 469 "IntegerHouseModel" "docSize" "I"]
def wsX12_relaxed_r2 : List Cond := [Cond.fieldLink RX12 32 "IntegerHouseModel" "doc" "[B", Cond.fieldLink RX12 15 "IntegerHouseModel" "tape" "[B", Cond.methodLink RX12 848 yX12_scan, Cond.instanceMethod yX12_scan, Cond.selects RX12 yX12_scan yX12_scan, Cond.code yX12_scan cX12_scan 8 none, Cond.fieldLink RX12 594 "IntegerHouseModel" "tokens" "I", Cond.fieldLink RX12 562 "IntegerHouseModel" "faulty" "Z", Cond.fieldLink RX12 597 "IntegerHouseModel" "now" "I", Cond.fieldLink RX12 81 "IntegerHouseModel" "tokenAt" "[I", Cond.fieldLink RX12 84 "IntegerHouseModel" "tokenSize" "[I", Cond.fieldLink RX12 87 "IntegerHouseModel" "tokenKind" "[I", Cond.fieldLink RX12 90 "IntegerHouseModel" "tokenValue" "[I", Cond.fieldLink RX12 77 "IntegerHouseModel" "words" "[Ljava/lang/String;", Cond.methodLink RX12 586 yX12_char1, Cond.instanceMethod yX12_char1, Cond.selects RX12 yX12_char1 yX12_char1, Cond.code yX12_char1 cX12_char1 2 (some .int), Cond.methodLink RX12 600 yX12_isLetter, Cond.static yX12_isLetter, Cond.code yX12_isLetter cX12_isLetter 1 (some .boolean), Cond.constantLong RX12 571 (97), Cond.constantLong RX12 573 (122), Cond.constantLong RX12 575 (65)]
def wsX12_relaxed_r3 : List Cond := [Cond.constantLong RX12 577 (90), Cond.methodLink RX12 504 yX12_in, Cond.static yX12_in, Cond.code yX12_in cX12_in 6 (some .boolean), Cond.methodLink RX12 603 yX12_isDigit, Cond.static yX12_isDigit, Cond.code yX12_isDigit cX12_isDigit 1 (some .boolean), Cond.constantLong RX12 579 (48), Cond.constantLong RX12 581 (57), Cond.methodLink RX12 606 yX12_longSign, Cond.static yX12_longSign, Cond.code yX12_longSign cX12_longSign 2 (some .int), Cond.methodLink RX12 609 yX12_signOf, Cond.static yX12_signOf, Cond.code yX12_signOf cX12_signOf 1 (some .int), Cond.methodLink RX12 612 yX12_isText, Cond.instanceMethod yX12_isText, Cond.selects RX12 yX12_isText yX12_isText, Cond.code yX12_isText cX12_isText 4 (some .boolean), Cond.methodLink RX12 583 yJ0_length_8abf5, Cond.instanceMethod yJ0_length_8abf5, Cond.selects RJ0 yJ0_length_8abf5 yJ0_length_8abf5, Cond.initialized RJ0, Cond.code yJ0_length_8abf5 cJ0_length_8abf5 1 (some .int)]
def wsX12_relaxed_r4 : List Cond := [Cond.fieldLink RJ0 9 "java/lang/String" "value" "[B", Cond.methodLink RJ0 335 yJ0_coder_7d493, Cond.instanceMethod yJ0_coder_7d493, Cond.selects RJ0 yJ0_coder_7d493 yJ0_coder_7d493, Cond.code yJ0_coder_7d493 cJ0_coder_7d493 1 (some .byte), Cond.fieldLink RJ0 38 "java/lang/String" "COMPACT_STRINGS" "Z", Cond.fieldLink RJ0 15 "java/lang/String" "coder" "B", Cond.methodLink RX12 590 yJ0_charAt_5068e, Cond.instanceMethod yJ0_charAt_5068e, Cond.selects RJ0 yJ0_charAt_5068e yJ0_charAt_5068e, Cond.code yJ0_charAt_5068e cJ0_charAt_5068e 2 (some .char), Cond.methodLink RJ0 492 yJ0_isLatin1_aae02, Cond.instanceMethod yJ0_isLatin1_aae02, Cond.selects RJ0 yJ0_isLatin1_aae02 yJ0_isLatin1_aae02, Cond.code yJ0_isLatin1_aae02 cJ0_isLatin1_aae02 1 (some .boolean), Cond.methodLink RJ0 495 yJ1_charAt_3b067, Cond.static yJ1_charAt_3b067, Cond.initialized RJ1, Cond.code yJ1_charAt_3b067 cJ1_charAt_3b067 2 (some .char), Cond.methodLink RJ1 9 yJ0_checkIndex_df160, Cond.static yJ0_checkIndex_df160, Cond.code yJ0_checkIndex_df160 cJ0_checkIndex_df160 2 none, Cond.fieldLink RJ0 1053 "jdk/internal/util/Preconditions" "SIOOBE_FORMATTER" "Ljava/util/function/BiFunction;", Cond.methodLink RJ0 1059 yJ3_checkIndex_8e157]
def wsX12_relaxed_r5 : List Cond := [Cond.static yJ3_checkIndex_8e157, Cond.initialized RJ3, Cond.code yJ3_checkIndex_8e157 cJ3_checkIndex_8e157 3 (some .int), Cond.methodLink RJ0 498 yJ2_charAt_3b067, Cond.static yJ2_charAt_3b067, Cond.initialized RJ2, Cond.code yJ2_charAt_3b067 cJ2_charAt_3b067 2 (some .char), Cond.methodLink RJ2 67 yJ2_checkIndex_2214a, Cond.static yJ2_checkIndex_2214a, Cond.code yJ2_checkIndex_2214a cJ2_checkIndex_2214a 2 none, Cond.methodLink RJ2 48 yJ2_length_9d52b, Cond.static yJ2_length_9d52b, Cond.code yJ2_length_9d52b cJ2_length_9d52b 1 (some .int), Cond.methodLink RJ2 414 yJ0_checkIndex_df160, Cond.methodLink RJ2 71 yJ2_getChar_3b067, Cond.static yJ2_getChar_3b067, Cond.code yJ2_getChar_3b067 cJ2_getChar_3b067 2 (some .char), Cond.fieldLink RJ2 44 "java/lang/StringUTF16" "$assertionsDisabled" "Z", Cond.fieldLink RJ2 59 "java/lang/StringUTF16" "HI_BYTE_SHIFT" "I", Cond.fieldLink RJ2 63 "java/lang/StringUTF16" "LO_BYTE_SHIFT" "I", Cond.methodLink RX12 1141 yX12_isAllPlain, Cond.instanceMethod yX12_isAllPlain, Cond.selects RX12 yX12_isAllPlain yX12_isAllPlain, Cond.code yX12_isAllPlain cX12_isAllPlain 3 (some .boolean)]
def wsX12_relaxed_r6 : List Cond := [Cond.fieldLink RX12 265 "IntegerHouseModel" "isOn" "[Z", Cond.fieldLink RX12 244 "IntegerHouseModel" "isPlain" "[Z", Cond.methodLink RX12 1144 yX12_readsLineTerm, Cond.instanceMethod yX12_readsLineTerm, Cond.selects RX12 yX12_readsLineTerm yX12_readsLineTerm, Cond.code yX12_readsLineTerm cX12_readsLineTerm 2 (some .boolean), Cond.constantLong RX12 750 (20), Cond.constantLong RX12 754 (99999), Cond.methodLink RX12 842 yX12_beginSlot, Cond.instanceMethod yX12_beginSlot, Cond.selects RX12 yX12_beginSlot yX12_beginSlot, Cond.code yX12_beginSlot cX12_beginSlot 2 none, Cond.fieldLink RX12 630 "IntegerHouseModel" "slot" "I", Cond.fieldLink RX12 633 "IntegerHouseModel" "open" "I", Cond.fieldLink RX12 105 "IntegerHouseModel" "textCount" "[I", Cond.fieldLink RX12 120 "IntegerHouseModel" "nodeCount" "[I", Cond.fieldLink RX12 153 "IntegerHouseModel" "leafCount" "[I", Cond.fieldLink RX12 165 "IntegerHouseModel" "termCount" "[I", Cond.fieldLink RX12 181 "IntegerHouseModel" "partCount" "[I", Cond.methodLink RX12 1020 yX12_readTerm, Cond.instanceMethod yX12_readTerm, Cond.selects RX12 yX12_readTerm yX12_readTerm, Cond.code yX12_readTerm cX12_readTerm 1 (some .int), Cond.fieldLink RX12 639 "IntegerHouseModel" "formulas" "I"]
def wsX12_relaxed_r7 : List Cond := [Cond.fieldLink RX12 642 "IntegerHouseModel" "terms" "I", Cond.fieldLink RX12 648 "IntegerHouseModel" "state" "I", Cond.fieldLink RX12 660 "IntegerHouseModel" "current" "I", Cond.methodLink RX12 663 yX12_openTerm, Cond.instanceMethod yX12_openTerm, Cond.selects RX12 yX12_openTerm yX12_openTerm, Cond.code yX12_openTerm cX12_openTerm 2 none, Cond.fieldLink RX12 208 "IntegerHouseModel" "inKind" "[I", Cond.fieldLink RX12 211 "IntegerHouseModel" "inFirst" "[I", Cond.fieldLink RX12 217 "IntegerHouseModel" "inSign" "[I", Cond.fieldLink RX12 220 "IntegerHouseModel" "inTimes" "[J", Cond.fieldLink RX12 223 "IntegerHouseModel" "inOne" "[I", Cond.methodLink RX12 657 yX12_readInTerm, Cond.instanceMethod yX12_readInTerm, Cond.selects RX12 yX12_readInTerm yX12_readInTerm, Cond.code yX12_readInTerm cX12_readInTerm 1 none, Cond.methodLink RX12 672 yX12_isSign, Cond.instanceMethod yX12_isSign, Cond.selects RX12 yX12_isSign yX12_isSign, Cond.code yX12_isSign cX12_isSign 2 (some .boolean), Cond.methodLink RX12 636 yX12_take, Cond.instanceMethod yX12_take, Cond.selects RX12 yX12_take yX12_take, Cond.code yX12_take cX12_take 3 none]
def wsX12_relaxed_r8 : List Cond := [Cond.fieldLink RX12 102 "IntegerHouseModel" "textSize" "[I", Cond.fieldLink RX12 99 "IntegerHouseModel" "textBytes" "[B", Cond.methodLink RX12 616 yX12_fail, Cond.instanceMethod yX12_fail, Cond.selects RX12 yX12_fail yX12_fail, Cond.code yX12_fail cX12_fail 3 none, Cond.fieldLink RX12 565 "IntegerHouseModel" "faultKind" "I", Cond.fieldLink RX12 568 "IntegerHouseModel" "faultPlace" "I", Cond.methodLink RX12 706 yX12_addPart, Cond.instanceMethod yX12_addPart, Cond.selects RX12 yX12_addPart yX12_addPart, Cond.code yX12_addPart cX12_addPart 3 none, Cond.fieldLink RX12 168 "IntegerHouseModel" "partSign" "[I", Cond.fieldLink RX12 171 "IntegerHouseModel" "partTimes" "[J", Cond.fieldLink RX12 175 "IntegerHouseModel" "partOf" "[I", Cond.fieldLink RX12 178 "IntegerHouseModel" "partNext" "[I", Cond.fieldLink RX12 214 "IntegerHouseModel" "inLast" "[I", Cond.methodLink RX12 709 yX12_readAtom, Cond.instanceMethod yX12_readAtom, Cond.selects RX12 yX12_readAtom yX12_readAtom, Cond.code yX12_readAtom cX12_readAtom 3 none, Cond.constantLong RX12 694 (8), Cond.constantLong RX12 696 (12), Cond.methodLink RX12 685 yX12_variableAt]
def wsX12_relaxed_r9 : List Cond := [Cond.instanceMethod yX12_variableAt, Cond.selects RX12 yX12_variableAt yX12_variableAt, Cond.code yX12_variableAt cX12_variableAt 3 (some .int), Cond.methodLink RX12 623 yX12_isCalled, Cond.instanceMethod yX12_isCalled, Cond.selects RX12 yX12_isCalled yX12_isCalled, Cond.code yX12_isCalled cX12_isCalled 4 (some .boolean), Cond.fieldLink RX12 96 "IntegerHouseModel" "nameSize" "[I", Cond.fieldLink RX12 93 "IntegerHouseModel" "nameText" "[B", Cond.methodLink RX12 715 yX12_newTerm, Cond.instanceMethod yX12_newTerm, Cond.selects RX12 yX12_newTerm yX12_newTerm, Cond.code yX12_newTerm cX12_newTerm 5 (some .int), Cond.fieldLink RX12 156 "IntegerHouseModel" "termKind" "[I", Cond.fieldLink RX12 159 "IntegerHouseModel" "termA" "[I", Cond.fieldLink RX12 162 "IntegerHouseModel" "termB" "[I", Cond.methodLink RX12 682 yX12_claimAt, Cond.instanceMethod yX12_claimAt, Cond.selects RX12 yX12_claimAt yX12_claimAt, Cond.code yX12_claimAt cX12_claimAt 3 (some .int), Cond.methodLink RX12 669 yX12_takeOpen, Cond.instanceMethod yX12_takeOpen, Cond.selects RX12 yX12_takeOpen yX12_takeOpen, Cond.code yX12_takeOpen cX12_takeOpen 1 none]
def wsX12_relaxed_r10 : List Cond := [Cond.methodLink RX12 698 yX12_cannot, Cond.instanceMethod yX12_cannot, Cond.selects RX12 yX12_cannot yX12_cannot, Cond.code yX12_cannot cX12_cannot 1 none, Cond.methodLink RX12 712 yX12_endTerm, Cond.instanceMethod yX12_endTerm, Cond.selects RX12 yX12_endTerm yX12_endTerm, Cond.code yX12_endTerm cX12_endTerm 7 none, Cond.methodLink RX12 718 yX12_endSide, Cond.instanceMethod yX12_endSide, Cond.selects RX12 yX12_endSide yX12_endSide, Cond.code yX12_endSide cX12_endSide 5 none, Cond.constantLong RX12 721 (11), Cond.constantLong RX12 723 (15), Cond.fieldLink RX12 123 "IntegerHouseModel" "leafOp" "[I", Cond.fieldLink RX12 129 "IntegerHouseModel" "leafLeft" "[I", Cond.fieldLink RX12 132 "IntegerHouseModel" "leafRight" "[I", Cond.fieldLink RX12 138 "IntegerHouseModel" "leafTo" "[I", Cond.fieldLink RX12 144 "IntegerHouseModel" "leafTermsTo" "[I", Cond.methodLink RX12 675 yX12_newNode, Cond.instanceMethod yX12_newNode, Cond.selects RX12 yX12_newNode yX12_newNode, Cond.code yX12_newNode cX12_newNode 5 (some .int), Cond.fieldLink RX12 108 "IntegerHouseModel" "nodeKind" "[I"]
def wsX12_relaxed_r11 : List Cond := [Cond.fieldLink RX12 111 "IntegerHouseModel" "nodeA" "[I", Cond.fieldLink RX12 114 "IntegerHouseModel" "nodeB" "[I", Cond.fieldLink RX12 117 "IntegerHouseModel" "nodeNext" "[I", Cond.methodLink RX12 679 yX12_endOne, Cond.instanceMethod yX12_endOne, Cond.selects RX12 yX12_endOne yX12_endOne, Cond.code yX12_endOne cX12_endOne 2 none, Cond.fieldLink RX12 205 "IntegerHouseModel" "openNots" "[I", Cond.fieldLink RX12 199 "IntegerHouseModel" "openAnd" "[I", Cond.fieldLink RX12 202 "IntegerHouseModel" "openAndLast" "[I", Cond.methodLink RX12 691 yX12_takeNumber, Cond.instanceMethod yX12_takeNumber, Cond.selects RX12 yX12_takeNumber yX12_takeNumber, Cond.code yX12_takeNumber cX12_takeNumber 1 none, Cond.constantLong RX12 701 (2), Cond.methodLink RX12 1023 yX12_collects, Cond.instanceMethod yX12_collects, Cond.selects RX12 yX12_collects yX12_collects, Cond.code yX12_collects cX12_collects 11 (some .boolean), Cond.fieldLink RX12 725 "IntegerHouseModel" "great" "Z", Cond.fieldLink RX12 259 "IntegerHouseModel" "chosen" "[I", Cond.fieldLink RX12 358 "IntegerHouseModel" "termF" "[J", Cond.fieldLink RX12 250 "IntegerHouseModel" "formF" "[J", Cond.fieldLink RX12 253 "IntegerHouseModel" "formC" "[J"]
def wsX12_relaxed_r12 : List Cond := [Cond.fieldLink RX12 1000 "IntegerHouseModel" "termC" "J", Cond.methodLink RX12 797 yX12_shape, Cond.instanceMethod yX12_shape, Cond.selects RX12 yX12_shape yX12_shape, Cond.code yX12_shape cX12_shape 8 (some .int), Cond.fieldLink RX12 262 "IntegerHouseModel" "hereF" "[J", Cond.constantLong RX12 526 (-1), Cond.fieldLink RX12 736 "IntegerHouseModel" "hereC" "J", Cond.fieldLink RX12 740 "IntegerHouseModel" "hereD" "J", Cond.methodLink RX12 771 yX12_clearHere, Cond.instanceMethod yX12_clearHere, Cond.selects RX12 yX12_clearHere yX12_clearHere, Cond.code yX12_clearHere cX12_clearHere 4 none, Cond.methodLink RX12 774 yX12_total, Cond.instanceMethod yX12_total, Cond.selects RX12 yX12_total yX12_total, Cond.code yX12_total cX12_total 22 none, Cond.methodLink RX12 783 yX12_add, Cond.instanceMethod yX12_add, Cond.selects RX12 yX12_add yX12_add, Cond.code yX12_add cX12_add 7 none, Cond.fieldLink RX12 256 "IntegerHouseModel" "formD" "[J", Cond.methodLink RX12 743 yX12_divisor, Cond.static yX12_divisor]
def wsX12_relaxed_r13 : List Cond := [Cond.code yX12_divisor cX12_divisor 10 (some .long), Cond.methodLink RX12 787 yX12_lookHere, Cond.instanceMethod yX12_lookHere, Cond.selects RX12 yX12_lookHere yX12_lookHere, Cond.code yX12_lookHere cX12_lookHere 2 none, Cond.methodLink RX12 732 yX12_look, Cond.instanceMethod yX12_look, Cond.selects RX12 yX12_look yX12_look, Cond.code yX12_look cX12_look 3 none, Cond.constantLong RX12 728 (1000000), Cond.constantLong RX12 730 (-1000000), Cond.methodLink RX12 777 yX12_hereIs, Cond.instanceMethod yX12_hereIs, Cond.selects RX12 yX12_hereIs yX12_hereIs, Cond.code yX12_hereIs cX12_hereIs 4 none, Cond.methodLink RX12 780 yX12_lineOf, Cond.instanceMethod yX12_lineOf, Cond.selects RX12 yX12_lineOf yX12_lineOf, Cond.code yX12_lineOf cX12_lineOf 7 (some .int), Cond.constantLong RX12 752 (-20), Cond.constantLong RX12 756 (-99999), Cond.methodLink RX12 758 yX12_isFlat, Cond.instanceMethod yX12_isFlat, Cond.selects RX12 yX12_isFlat yX12_isFlat]
def wsX12_relaxed_r14 : List Cond := [Cond.code yX12_isFlat cX12_isFlat 1 (some .boolean), Cond.methodLink RX12 761 yX12_isFalseHere, Cond.instanceMethod yX12_isFalseHere, Cond.selects RX12 yX12_isFalseHere yX12_isFalseHere, Cond.code yX12_isFalseHere cX12_isFalseHere 1 none, Cond.fieldLink RX12 247 "IntegerHouseModel" "falseAt" "[I", Cond.fieldLink RX12 235 "IntegerHouseModel" "atomCount" "[I", Cond.methodLink RX12 764 yX12_atomOf, Cond.instanceMethod yX12_atomOf, Cond.selects RX12 yX12_atomOf yX12_atomOf, Cond.code yX12_atomOf cX12_atomOf 8 (some .int), Cond.fieldLink RX12 232 "IntegerHouseModel" "atomN" "[I", Cond.fieldLink RX12 229 "IntegerHouseModel" "atomC" "[I", Cond.fieldLink RX12 226 "IntegerHouseModel" "atomF" "[I", Cond.fieldLink RX12 747 "IntegerHouseModel" "crowded" "Z", Cond.methodLink RX12 790 yX12_divides, Cond.instanceMethod yX12_divides, Cond.selects RX12 yX12_divides yX12_divides, Cond.code yX12_divides cX12_divides 6 (some .int), Cond.methodLink RX12 768 yX12_rest, Cond.static yX12_rest, Cond.code yX12_rest cX12_rest 6 (some .long), Cond.methodLink RX12 792 yX12_keep, Cond.instanceMethod yX12_keep]
def wsX12_relaxed_r15 : List Cond := [Cond.selects RX12 yX12_keep yX12_keep, Cond.code yX12_keep cX12_keep 3 none, Cond.methodLink RX12 795 yX12_not, Cond.static yX12_not, Cond.code yX12_not cX12_not 1 (some .int), Cond.methodLink RX12 860 yX12_told, Cond.instanceMethod yX12_told, Cond.selects RX12 yX12_told yX12_told, Cond.code yX12_told cX12_told 1 (some .int), Cond.fieldLink RX12 472 "IntegerHouseModel" "replay" "Z", Cond.fieldLink RX12 836 "IntegerHouseModel" "latestFault" "I", Cond.methodLink RX12 1147 yX12_collectRows, Cond.instanceMethod yX12_collectRows, Cond.selects RX12 yX12_collectRows yX12_collectRows, Cond.code yX12_collectRows cX12_collectRows 5 none, Cond.methodLink RX12 1076 yX12_addNewRow, Cond.instanceMethod yX12_addNewRow, Cond.selects RX12 yX12_addNewRow yX12_addNewRow, Cond.code yX12_addNewRow cX12_addNewRow 2 none, Cond.methodLink RX12 1070 yX12_isRow, Cond.instanceMethod yX12_isRow, Cond.selects RX12 yX12_isRow yX12_isRow, Cond.code yX12_isRow cX12_isRow 4 (some .boolean), Cond.fieldLink RX12 397 "IntegerHouseModel" "rowC" "[J"]
def wsX12_relaxed_r16 : List Cond := [Cond.fieldLink RX12 394 "IntegerHouseModel" "rowF" "[J", Cond.methodLink RX12 1073 yX12_addRow, Cond.instanceMethod yX12_addRow, Cond.selects RX12 yX12_addRow yX12_addRow, Cond.code yX12_addRow cX12_addRow 2 none, Cond.methodLink RX12 1150 yX12_findVertex, Cond.instanceMethod yX12_findVertex, Cond.selects RX12 yX12_findVertex yX12_findVertex, Cond.code yX12_findVertex cX12_findVertex 9 (some .boolean), Cond.fieldLink RX12 400 "IntegerHouseModel" "basis" "[I", Cond.fieldLink RX12 1126 "IntegerHouseModel" "sides" "I", Cond.fieldLink RX12 1123 "IntegerHouseModel" "baseSign" "I", Cond.methodLink RX12 1129 yX12_solve, Cond.instanceMethod yX12_solve, Cond.selects RX12 yX12_solve yX12_solve, Cond.code yX12_solve cX12_solve 3 none, Cond.fieldLink RX12 1097 "IntegerHouseModel" "base" "J", Cond.fieldLink RX12 403 "IntegerHouseModel" "grid" "[J", Cond.fieldLink RX12 409 "IntegerHouseModel" "pointB" "[J", Cond.methodLink RX12 1090 yX12_layBasis, Cond.instanceMethod yX12_layBasis, Cond.selects RX12 yX12_layBasis yX12_layBasis, Cond.code yX12_layBasis cX12_layBasis 3 none, Cond.methodLink RX12 1087 yX12_factor]
def wsX12_relaxed_r17 : List Cond := [Cond.instanceMethod yX12_factor, Cond.selects RX12 yX12_factor yX12_factor, Cond.code yX12_factor cX12_factor 4 (some .long), Cond.methodLink RX12 1093 yX12_determinant, Cond.instanceMethod yX12_determinant, Cond.selects RX12 yX12_determinant yX12_determinant, Cond.code yX12_determinant cX12_determinant 1 (some .long), Cond.methodLink RX12 1079 yX12_two, Cond.static yX12_two, Cond.code yX12_two cX12_two 8 (some .long), Cond.methodLink RX12 1083 yX12_three, Cond.instanceMethod yX12_three, Cond.selects RX12 yX12_three yX12_three, Cond.code yX12_three cX12_three 13 (some .long), Cond.methodLink RX12 1132 yX12_isBeyond, Cond.instanceMethod yX12_isBeyond, Cond.selects RX12 yX12_isBeyond yX12_isBeyond, Cond.code yX12_isBeyond cX12_isBeyond 3 (some .boolean), Cond.methodLink RX12 1112 yX12_compareRow, Cond.instanceMethod yX12_compareRow, Cond.selects RX12 yX12_compareRow yX12_compareRow, Cond.code yX12_compareRow cX12_compareRow 12 (some .int), Cond.constantLong RX12 1100 (4294967295), Cond.methodLink RX12 1135 yX12_partOf]
def wsX12_relaxed_r18 : List Cond := [Cond.instanceMethod yX12_partOf, Cond.selects RX12 yX12_partOf yX12_partOf, Cond.code yX12_partOf cX12_partOf 4 (some .long), Cond.methodLink RX12 1137 yX12_goesRather, Cond.instanceMethod yX12_goesRather, Cond.selects RX12 yX12_goesRather yX12_goesRather, Cond.code yX12_goesRather cX12_goesRather 9 (some .boolean), Cond.methodLink RX12 1116 yX12_shareOf, Cond.instanceMethod yX12_shareOf, Cond.selects RX12 yX12_shareOf yX12_shareOf, Cond.code yX12_shareOf cX12_shareOf 4 (some .long), Cond.methodLink RX12 1119 yX12_compare, Cond.instanceMethod yX12_compare, Cond.selects RX12 yX12_compare yX12_compare, Cond.code yX12_compare cX12_compare 13 (some .int), Cond.fieldLink RX12 1102 "IntegerHouseModel" "high" "J", Cond.fieldLink RX12 1105 "IntegerHouseModel" "low" "J", Cond.constantLong RX12 1003 (-9223372036854775808), Cond.methodLink RX12 1108 yX12_multiply, Cond.instanceMethod yX12_multiply, Cond.selects RX12 yX12_multiply yX12_multiply, Cond.code yX12_multiply cX12_multiply 19 none, Cond.methodLink RX12 1153 yX12_valueOf, Cond.instanceMethod yX12_valueOf]
def wsX12_relaxed_r19 : List Cond := [Cond.selects RX12 yX12_valueOf yX12_valueOf, Cond.code yX12_valueOf cX12_valueOf 5 (some .long), Cond.methodLink RX12 1157 yX12_tellFraction, Cond.instanceMethod yX12_tellFraction, Cond.selects RX12 yX12_tellFraction yX12_tellFraction, Cond.code yX12_tellFraction cX12_tellFraction 6 none, Cond.fieldLink RX12 412 "IntegerHouseModel" "fractions" "[J", Cond.methodLink RX12 1163 yX12_isWild, Cond.instanceMethod yX12_isWild, Cond.selects RX12 yX12_isWild yX12_isWild, Cond.code yX12_isWild cX12_isWild 3 (some .boolean)]
def wsX12_relaxed : List Cond := .code yX12_relaxed cX12_relaxed 2 (some .int) :: ((wsX12_relaxed_r1 ++ (wsX12_relaxed_r2 ++ (wsX12_relaxed_r3 ++ (wsX12_relaxed_r4 ++ (wsX12_relaxed_r5 ++ (wsX12_relaxed_r6 ++ (wsX12_relaxed_r7 ++ (wsX12_relaxed_r8 ++ (wsX12_relaxed_r9 ++ (wsX12_relaxed_r10 ++ (wsX12_relaxed_r11 ++ (wsX12_relaxed_r12 ++ (wsX12_relaxed_r13 ++ (wsX12_relaxed_r14 ++ (wsX12_relaxed_r15 ++ (wsX12_relaxed_r16 ++ (wsX12_relaxed_r17 ++ (wsX12_relaxed_r18 ++ wsX12_relaxed_r19)))))))))))))))))) ++ wsX120)
def wsX12_fraction : List Cond := .code yX12_fraction cX12_fraction 2 (some .long) :: ([.fieldLink RX12 1160 "IntegerHouseModel" "fractionCount" "I", .fieldLink RX12 3 "IntegerHouseModel" "thrown" "I", .fieldLink RX12 412 "IntegerHouseModel" "fractions" "[J", .methodLink RX12 504 yX12_in, .static yX12_in, .initialized RX12, .code yX12_in cX12_in 6 (some .boolean)] ++ wsX120)
def wsX12_search_r1 : List Cond := [Cond.constantLong RX12 560 (100), Cond.fieldLink RX12 1067 "IntegerHouseModel" "rows" "I", Cond.fieldLink RX12 1214 "IntegerHouseModel" "searched" "Z", Cond.fieldLink RX12 1193 "IntegerHouseModel" "hasBest" "Z", Cond.fieldLink RX12 1217 "IntegerHouseModel" "nodesTaken" "I", Cond.fieldLink RX12 1205 "IntegerHouseModel" "cutsMade" "I", Cond.fieldLink RX12 1166 "IntegerHouseModel" "piled" "I", Cond.methodLink RX12 871 yX12_asks, Cond.instanceMethod yX12_asks, Cond.selects RX12 yX12_asks yX12_asks, Cond.initialized RX12, Cond.code yX12_asks cX12_asks 1 (some .boolean), Cond.fieldLink RX12 3 "IntegerHouseModel" "thrown" "I", Cond.fieldLink RX12 488 "IntegerHouseModel" "down" "Z", Cond.methodLink RX12 874 yX12_begin, Cond.instanceMethod yX12_begin, Cond.selects RX12 yX12_begin yX12_begin, Cond.code yX12_begin cX12_begin 1 none, Cond.fieldLink RX12 815 "IntegerHouseModel" "variables" "I", Cond.fieldLink RX12 620 "IntegerHouseModel" "knownVariables" "I", Cond.fieldLink RX12 818 "IntegerHouseModel" "claims" "I", Cond.fieldLink RX12 627 "IntegerHouseModel" "knownClaims" "I", Cond.methodLink RX12 491 yX12_takeTape, Cond.instanceMethod yX12_takeTape]
def wsX12_search_r2 : List Cond := [Cond.selects RX12 yX12_takeTape yX12_takeTape, Cond.code yX12_takeTape cX12_takeTape 2 none, Cond.fieldLink RX12 485 "IntegerHouseModel" "taped" "I", Cond.fieldLink RX12 469 "IntegerHouseModel" "docSize" "I", Cond.fieldLink RX12 32 "IntegerHouseModel" "doc" "[B", Cond.fieldLink RX12 15 "IntegerHouseModel" "tape" "[B", Cond.methodLink RX12 848 yX12_scan, Cond.instanceMethod yX12_scan, Cond.selects RX12 yX12_scan yX12_scan, Cond.code yX12_scan cX12_scan 8 none, Cond.fieldLink RX12 594 "IntegerHouseModel" "tokens" "I", Cond.fieldLink RX12 562 "IntegerHouseModel" "faulty" "Z", Cond.fieldLink RX12 597 "IntegerHouseModel" "now" "I", Cond.fieldLink RX12 81 "IntegerHouseModel" "tokenAt" "[I", Cond.fieldLink RX12 84 "IntegerHouseModel" "tokenSize" "[I", Cond.fieldLink RX12 87 "IntegerHouseModel" "tokenKind" "[I", Cond.fieldLink RX12 90 "IntegerHouseModel" "tokenValue" "[I", Cond.fieldLink RX12 77 "IntegerHouseModel" "words" "[Ljava/lang/String;", Cond.methodLink RX12 586 yX12_char1, Cond.instanceMethod yX12_char1, Cond.selects RX12 yX12_char1 yX12_char1, Cond.code yX12_char1 cX12_char1 2 (some .int), Cond.methodLink RX12 600 yX12_isLetter, Cond.static yX12_isLetter]
def wsX12_search_r3 : List Cond := [Cond.code yX12_isLetter cX12_isLetter 1 (some .boolean), Cond.constantLong RX12 571 (97), Cond.constantLong RX12 573 (122), Cond.constantLong RX12 575 (65), Cond.constantLong RX12 577 (90), Cond.methodLink RX12 504 yX12_in, Cond.static yX12_in, Cond.code yX12_in cX12_in 6 (some .boolean), Cond.methodLink RX12 603 yX12_isDigit, Cond.static yX12_isDigit, Cond.code yX12_isDigit cX12_isDigit 1 (some .boolean), Cond.constantLong RX12 579 (48), Cond.constantLong RX12 581 (57), Cond.methodLink RX12 606 yX12_longSign, Cond.static yX12_longSign, Cond.code yX12_longSign cX12_longSign 2 (some .int), Cond.methodLink RX12 609 yX12_signOf, Cond.static yX12_signOf, Cond.code yX12_signOf cX12_signOf 1 (some .int), Cond.methodLink RX12 612 yX12_isText, Cond.instanceMethod yX12_isText, Cond.selects RX12 yX12_isText yX12_isText, Cond.code yX12_isText cX12_isText 4 (some .boolean), Cond.methodLink RX12 583 yJ0_length_8abf5]
def wsX12_search_r4 : List Cond := [Cond.instanceMethod yJ0_length_8abf5, Cond.selects RJ0 yJ0_length_8abf5 yJ0_length_8abf5, Cond.initialized RJ0, Cond.code yJ0_length_8abf5 cJ0_length_8abf5 1 (some .int), Cond.fieldLink RJ0 9 "java/lang/String" "value" "[B", Cond.methodLink RJ0 335 yJ0_coder_7d493, Cond.instanceMethod yJ0_coder_7d493, Cond.selects RJ0 yJ0_coder_7d493 yJ0_coder_7d493, Cond.code yJ0_coder_7d493 cJ0_coder_7d493 1 (some .byte), Cond.fieldLink RJ0 38 "java/lang/String" "COMPACT_STRINGS" "Z", Cond.fieldLink RJ0 15 "java/lang/String" "coder" "B", Cond.methodLink RX12 590 yJ0_charAt_5068e, Cond.instanceMethod yJ0_charAt_5068e, Cond.selects RJ0 yJ0_charAt_5068e yJ0_charAt_5068e, Cond.code yJ0_charAt_5068e cJ0_charAt_5068e 2 (some .char), Cond.methodLink RJ0 492 yJ0_isLatin1_aae02, Cond.instanceMethod yJ0_isLatin1_aae02, Cond.selects RJ0 yJ0_isLatin1_aae02 yJ0_isLatin1_aae02, Cond.code yJ0_isLatin1_aae02 cJ0_isLatin1_aae02 1 (some .boolean), Cond.methodLink RJ0 495 yJ1_charAt_3b067, Cond.static yJ1_charAt_3b067, Cond.initialized RJ1, Cond.code yJ1_charAt_3b067 cJ1_charAt_3b067 2 (some .char), Cond.methodLink RJ1 9 yJ0_checkIndex_df160]
def wsX12_search_r5 : List Cond := [Cond.static yJ0_checkIndex_df160, Cond.code yJ0_checkIndex_df160 cJ0_checkIndex_df160 2 none, Cond.fieldLink RJ0 1053 "jdk/internal/util/Preconditions" "SIOOBE_FORMATTER" "Ljava/util/function/BiFunction;", Cond.methodLink RJ0 1059 yJ3_checkIndex_8e157, Cond.static yJ3_checkIndex_8e157, Cond.initialized RJ3, Cond.code yJ3_checkIndex_8e157 cJ3_checkIndex_8e157 3 (some .int), Cond.methodLink RJ0 498 yJ2_charAt_3b067, Cond.static yJ2_charAt_3b067, Cond.initialized RJ2, Cond.code yJ2_charAt_3b067 cJ2_charAt_3b067 2 (some .char), Cond.methodLink RJ2 67 yJ2_checkIndex_2214a, Cond.static yJ2_checkIndex_2214a, Cond.code yJ2_checkIndex_2214a cJ2_checkIndex_2214a 2 none, Cond.methodLink RJ2 48 yJ2_length_9d52b, Cond.static yJ2_length_9d52b, Cond.code yJ2_length_9d52b cJ2_length_9d52b 1 (some .int), Cond.methodLink RJ2 414 yJ0_checkIndex_df160, Cond.methodLink RJ2 71 yJ2_getChar_3b067, Cond.static yJ2_getChar_3b067, Cond.code yJ2_getChar_3b067 cJ2_getChar_3b067 2 (some .char), Cond.fieldLink RJ2 44 "java/lang/StringUTF16" "$assertionsDisabled" "Z", Cond.fieldLink RJ2 59 "java/lang/StringUTF16" "HI_BYTE_SHIFT" "I", Cond.fieldLink RJ2 63 "java/lang/StringUTF16" "LO_BYTE_SHIFT" "I"]
def wsX12_search_r6 : List Cond := [Cond.methodLink RX12 1141 yX12_isAllPlain, Cond.instanceMethod yX12_isAllPlain, Cond.selects RX12 yX12_isAllPlain yX12_isAllPlain, Cond.code yX12_isAllPlain cX12_isAllPlain 3 (some .boolean), Cond.fieldLink RX12 265 "IntegerHouseModel" "isOn" "[Z", Cond.fieldLink RX12 244 "IntegerHouseModel" "isPlain" "[Z", Cond.methodLink RX12 1144 yX12_readsLineTerm, Cond.instanceMethod yX12_readsLineTerm, Cond.selects RX12 yX12_readsLineTerm yX12_readsLineTerm, Cond.code yX12_readsLineTerm cX12_readsLineTerm 2 (some .boolean), Cond.constantLong RX12 750 (20), Cond.constantLong RX12 754 (99999), Cond.methodLink RX12 842 yX12_beginSlot, Cond.instanceMethod yX12_beginSlot, Cond.selects RX12 yX12_beginSlot yX12_beginSlot, Cond.code yX12_beginSlot cX12_beginSlot 2 none, Cond.fieldLink RX12 630 "IntegerHouseModel" "slot" "I", Cond.fieldLink RX12 633 "IntegerHouseModel" "open" "I", Cond.fieldLink RX12 105 "IntegerHouseModel" "textCount" "[I", Cond.fieldLink RX12 120 "IntegerHouseModel" "nodeCount" "[I", Cond.fieldLink RX12 153 "IntegerHouseModel" "leafCount" "[I", Cond.fieldLink RX12 165 "IntegerHouseModel" "termCount" "[I", Cond.fieldLink RX12 181 "IntegerHouseModel" "partCount" "[I", Cond.methodLink RX12 1020 yX12_readTerm]
def wsX12_search_r7 : List Cond := [Cond.instanceMethod yX12_readTerm, Cond.selects RX12 yX12_readTerm yX12_readTerm, Cond.code yX12_readTerm cX12_readTerm 1 (some .int), Cond.fieldLink RX12 639 "IntegerHouseModel" "formulas" "I", Cond.fieldLink RX12 642 "IntegerHouseModel" "terms" "I", Cond.fieldLink RX12 648 "IntegerHouseModel" "state" "I", Cond.fieldLink RX12 660 "IntegerHouseModel" "current" "I", Cond.methodLink RX12 663 yX12_openTerm, Cond.instanceMethod yX12_openTerm, Cond.selects RX12 yX12_openTerm yX12_openTerm, Cond.code yX12_openTerm cX12_openTerm 2 none, Cond.fieldLink RX12 208 "IntegerHouseModel" "inKind" "[I", Cond.fieldLink RX12 211 "IntegerHouseModel" "inFirst" "[I", Cond.fieldLink RX12 217 "IntegerHouseModel" "inSign" "[I", Cond.fieldLink RX12 220 "IntegerHouseModel" "inTimes" "[J", Cond.fieldLink RX12 223 "IntegerHouseModel" "inOne" "[I", Cond.methodLink RX12 657 yX12_readInTerm, Cond.instanceMethod yX12_readInTerm, Cond.selects RX12 yX12_readInTerm yX12_readInTerm, Cond.code yX12_readInTerm cX12_readInTerm 1 none, Cond.methodLink RX12 672 yX12_isSign, Cond.instanceMethod yX12_isSign, Cond.selects RX12 yX12_isSign yX12_isSign, Cond.code yX12_isSign cX12_isSign 2 (some .boolean)]
def wsX12_search_r8 : List Cond := [Cond.methodLink RX12 636 yX12_take, Cond.instanceMethod yX12_take, Cond.selects RX12 yX12_take yX12_take, Cond.code yX12_take cX12_take 3 none, Cond.fieldLink RX12 102 "IntegerHouseModel" "textSize" "[I", Cond.fieldLink RX12 99 "IntegerHouseModel" "textBytes" "[B", Cond.methodLink RX12 616 yX12_fail, Cond.instanceMethod yX12_fail, Cond.selects RX12 yX12_fail yX12_fail, Cond.code yX12_fail cX12_fail 3 none, Cond.fieldLink RX12 565 "IntegerHouseModel" "faultKind" "I", Cond.fieldLink RX12 568 "IntegerHouseModel" "faultPlace" "I", Cond.methodLink RX12 706 yX12_addPart, Cond.instanceMethod yX12_addPart, Cond.selects RX12 yX12_addPart yX12_addPart, Cond.code yX12_addPart cX12_addPart 3 none, Cond.fieldLink RX12 168 "IntegerHouseModel" "partSign" "[I", Cond.fieldLink RX12 171 "IntegerHouseModel" "partTimes" "[J", Cond.fieldLink RX12 175 "IntegerHouseModel" "partOf" "[I", Cond.fieldLink RX12 178 "IntegerHouseModel" "partNext" "[I", Cond.fieldLink RX12 214 "IntegerHouseModel" "inLast" "[I", Cond.methodLink RX12 709 yX12_readAtom, Cond.instanceMethod yX12_readAtom, Cond.selects RX12 yX12_readAtom yX12_readAtom]
def wsX12_search_r9 : List Cond := [Cond.code yX12_readAtom cX12_readAtom 3 none, Cond.constantLong RX12 694 (8), Cond.constantLong RX12 696 (12), Cond.methodLink RX12 685 yX12_variableAt, Cond.instanceMethod yX12_variableAt, Cond.selects RX12 yX12_variableAt yX12_variableAt, Cond.code yX12_variableAt cX12_variableAt 3 (some .int), Cond.methodLink RX12 623 yX12_isCalled, Cond.instanceMethod yX12_isCalled, Cond.selects RX12 yX12_isCalled yX12_isCalled, Cond.code yX12_isCalled cX12_isCalled 4 (some .boolean), Cond.fieldLink RX12 96 "IntegerHouseModel" "nameSize" "[I", Cond.fieldLink RX12 93 "IntegerHouseModel" "nameText" "[B", Cond.methodLink RX12 715 yX12_newTerm, Cond.instanceMethod yX12_newTerm, Cond.selects RX12 yX12_newTerm yX12_newTerm, Cond.code yX12_newTerm cX12_newTerm 5 (some .int), Cond.fieldLink RX12 156 "IntegerHouseModel" "termKind" "[I", Cond.fieldLink RX12 159 "IntegerHouseModel" "termA" "[I", Cond.fieldLink RX12 162 "IntegerHouseModel" "termB" "[I", Cond.methodLink RX12 682 yX12_claimAt, Cond.instanceMethod yX12_claimAt, Cond.selects RX12 yX12_claimAt yX12_claimAt, Cond.code yX12_claimAt cX12_claimAt 3 (some .int)]
def wsX12_search_r10 : List Cond := [Cond.methodLink RX12 669 yX12_takeOpen, Cond.instanceMethod yX12_takeOpen, Cond.selects RX12 yX12_takeOpen yX12_takeOpen, Cond.code yX12_takeOpen cX12_takeOpen 1 none, Cond.methodLink RX12 698 yX12_cannot, Cond.instanceMethod yX12_cannot, Cond.selects RX12 yX12_cannot yX12_cannot, Cond.code yX12_cannot cX12_cannot 1 none, Cond.methodLink RX12 712 yX12_endTerm, Cond.instanceMethod yX12_endTerm, Cond.selects RX12 yX12_endTerm yX12_endTerm, Cond.code yX12_endTerm cX12_endTerm 7 none, Cond.methodLink RX12 718 yX12_endSide, Cond.instanceMethod yX12_endSide, Cond.selects RX12 yX12_endSide yX12_endSide, Cond.code yX12_endSide cX12_endSide 5 none, Cond.constantLong RX12 721 (11), Cond.constantLong RX12 723 (15), Cond.fieldLink RX12 123 "IntegerHouseModel" "leafOp" "[I", Cond.fieldLink RX12 129 "IntegerHouseModel" "leafLeft" "[I", Cond.fieldLink RX12 132 "IntegerHouseModel" "leafRight" "[I", Cond.fieldLink RX12 138 "IntegerHouseModel" "leafTo" "[I", Cond.fieldLink RX12 144 "IntegerHouseModel" "leafTermsTo" "[I", Cond.methodLink RX12 675 yX12_newNode]
def wsX12_search_r11 : List Cond := [Cond.instanceMethod yX12_newNode, Cond.selects RX12 yX12_newNode yX12_newNode, Cond.code yX12_newNode cX12_newNode 5 (some .int), Cond.fieldLink RX12 108 "IntegerHouseModel" "nodeKind" "[I", Cond.fieldLink RX12 111 "IntegerHouseModel" "nodeA" "[I", Cond.fieldLink RX12 114 "IntegerHouseModel" "nodeB" "[I", Cond.fieldLink RX12 117 "IntegerHouseModel" "nodeNext" "[I", Cond.methodLink RX12 679 yX12_endOne, Cond.instanceMethod yX12_endOne, Cond.selects RX12 yX12_endOne yX12_endOne, Cond.code yX12_endOne cX12_endOne 2 none, Cond.fieldLink RX12 205 "IntegerHouseModel" "openNots" "[I", Cond.fieldLink RX12 199 "IntegerHouseModel" "openAnd" "[I", Cond.fieldLink RX12 202 "IntegerHouseModel" "openAndLast" "[I", Cond.methodLink RX12 691 yX12_takeNumber, Cond.instanceMethod yX12_takeNumber, Cond.selects RX12 yX12_takeNumber yX12_takeNumber, Cond.code yX12_takeNumber cX12_takeNumber 1 none, Cond.constantLong RX12 701 (2), Cond.methodLink RX12 1023 yX12_collects, Cond.instanceMethod yX12_collects, Cond.selects RX12 yX12_collects yX12_collects, Cond.code yX12_collects cX12_collects 11 (some .boolean), Cond.fieldLink RX12 725 "IntegerHouseModel" "great" "Z"]
def wsX12_search_r12 : List Cond := [Cond.fieldLink RX12 259 "IntegerHouseModel" "chosen" "[I", Cond.fieldLink RX12 358 "IntegerHouseModel" "termF" "[J", Cond.fieldLink RX12 250 "IntegerHouseModel" "formF" "[J", Cond.fieldLink RX12 253 "IntegerHouseModel" "formC" "[J", Cond.fieldLink RX12 1000 "IntegerHouseModel" "termC" "J", Cond.methodLink RX12 797 yX12_shape, Cond.instanceMethod yX12_shape, Cond.selects RX12 yX12_shape yX12_shape, Cond.code yX12_shape cX12_shape 8 (some .int), Cond.fieldLink RX12 262 "IntegerHouseModel" "hereF" "[J", Cond.constantLong RX12 526 (-1), Cond.fieldLink RX12 736 "IntegerHouseModel" "hereC" "J", Cond.fieldLink RX12 740 "IntegerHouseModel" "hereD" "J", Cond.methodLink RX12 771 yX12_clearHere, Cond.instanceMethod yX12_clearHere, Cond.selects RX12 yX12_clearHere yX12_clearHere, Cond.code yX12_clearHere cX12_clearHere 4 none, Cond.methodLink RX12 774 yX12_total, Cond.instanceMethod yX12_total, Cond.selects RX12 yX12_total yX12_total, Cond.code yX12_total cX12_total 22 none, Cond.methodLink RX12 783 yX12_add, Cond.instanceMethod yX12_add, Cond.selects RX12 yX12_add yX12_add]
def wsX12_search_r13 : List Cond := [Cond.code yX12_add cX12_add 7 none, Cond.fieldLink RX12 256 "IntegerHouseModel" "formD" "[J", Cond.methodLink RX12 743 yX12_divisor, Cond.static yX12_divisor, Cond.code yX12_divisor cX12_divisor 10 (some .long), Cond.methodLink RX12 787 yX12_lookHere, Cond.instanceMethod yX12_lookHere, Cond.selects RX12 yX12_lookHere yX12_lookHere, Cond.code yX12_lookHere cX12_lookHere 2 none, Cond.methodLink RX12 732 yX12_look, Cond.instanceMethod yX12_look, Cond.selects RX12 yX12_look yX12_look, Cond.code yX12_look cX12_look 3 none, Cond.constantLong RX12 728 (1000000), Cond.constantLong RX12 730 (-1000000), Cond.methodLink RX12 777 yX12_hereIs, Cond.instanceMethod yX12_hereIs, Cond.selects RX12 yX12_hereIs yX12_hereIs, Cond.code yX12_hereIs cX12_hereIs 4 none, Cond.methodLink RX12 780 yX12_lineOf, Cond.instanceMethod yX12_lineOf, Cond.selects RX12 yX12_lineOf yX12_lineOf, Cond.code yX12_lineOf cX12_lineOf 7 (some .int), Cond.constantLong RX12 752 (-20)]
def wsX12_search_r14 : List Cond := [Cond.constantLong RX12 756 (-99999), Cond.methodLink RX12 758 yX12_isFlat, Cond.instanceMethod yX12_isFlat, Cond.selects RX12 yX12_isFlat yX12_isFlat, Cond.code yX12_isFlat cX12_isFlat 1 (some .boolean), Cond.methodLink RX12 761 yX12_isFalseHere, Cond.instanceMethod yX12_isFalseHere, Cond.selects RX12 yX12_isFalseHere yX12_isFalseHere, Cond.code yX12_isFalseHere cX12_isFalseHere 1 none, Cond.fieldLink RX12 247 "IntegerHouseModel" "falseAt" "[I", Cond.fieldLink RX12 235 "IntegerHouseModel" "atomCount" "[I", Cond.methodLink RX12 764 yX12_atomOf, Cond.instanceMethod yX12_atomOf, Cond.selects RX12 yX12_atomOf yX12_atomOf, Cond.code yX12_atomOf cX12_atomOf 8 (some .int), Cond.fieldLink RX12 232 "IntegerHouseModel" "atomN" "[I", Cond.fieldLink RX12 229 "IntegerHouseModel" "atomC" "[I", Cond.fieldLink RX12 226 "IntegerHouseModel" "atomF" "[I", Cond.fieldLink RX12 747 "IntegerHouseModel" "crowded" "Z", Cond.methodLink RX12 790 yX12_divides, Cond.instanceMethod yX12_divides, Cond.selects RX12 yX12_divides yX12_divides, Cond.code yX12_divides cX12_divides 6 (some .int), Cond.methodLink RX12 768 yX12_rest]
def wsX12_search_r15 : List Cond := [Cond.static yX12_rest, Cond.code yX12_rest cX12_rest 6 (some .long), Cond.methodLink RX12 792 yX12_keep, Cond.instanceMethod yX12_keep, Cond.selects RX12 yX12_keep yX12_keep, Cond.code yX12_keep cX12_keep 3 none, Cond.methodLink RX12 795 yX12_not, Cond.static yX12_not, Cond.code yX12_not cX12_not 1 (some .int), Cond.methodLink RX12 860 yX12_told, Cond.instanceMethod yX12_told, Cond.selects RX12 yX12_told yX12_told, Cond.code yX12_told cX12_told 1 (some .int), Cond.fieldLink RX12 472 "IntegerHouseModel" "replay" "Z", Cond.fieldLink RX12 836 "IntegerHouseModel" "latestFault" "I", Cond.methodLink RX12 1147 yX12_collectRows, Cond.instanceMethod yX12_collectRows, Cond.selects RX12 yX12_collectRows yX12_collectRows, Cond.code yX12_collectRows cX12_collectRows 5 none, Cond.methodLink RX12 1076 yX12_addNewRow, Cond.instanceMethod yX12_addNewRow, Cond.selects RX12 yX12_addNewRow yX12_addNewRow, Cond.code yX12_addNewRow cX12_addNewRow 2 none, Cond.methodLink RX12 1070 yX12_isRow]
def wsX12_search_r16 : List Cond := [Cond.instanceMethod yX12_isRow, Cond.selects RX12 yX12_isRow yX12_isRow, Cond.code yX12_isRow cX12_isRow 4 (some .boolean), Cond.fieldLink RX12 397 "IntegerHouseModel" "rowC" "[J", Cond.fieldLink RX12 394 "IntegerHouseModel" "rowF" "[J", Cond.methodLink RX12 1073 yX12_addRow, Cond.instanceMethod yX12_addRow, Cond.selects RX12 yX12_addRow yX12_addRow, Cond.code yX12_addRow cX12_addRow 2 none, Cond.methodLink RX12 1211 yX12_pile, Cond.instanceMethod yX12_pile, Cond.selects RX12 yX12_pile yX12_pile, Cond.code yX12_pile cX12_pile 2 none, Cond.fieldLink RX12 416 "IntegerHouseModel" "pileF" "[J", Cond.fieldLink RX12 420 "IntegerHouseModel" "pileC" "[J", Cond.fieldLink RX12 423 "IntegerHouseModel" "pileRows" "[I", Cond.methodLink RX12 1220 yX12_takeNode, Cond.instanceMethod yX12_takeNode, Cond.selects RX12 yX12_takeNode yX12_takeNode, Cond.code yX12_takeNode cX12_takeNode 2 none, Cond.methodLink RX12 1223 yX12_lookAtNode, Cond.instanceMethod yX12_lookAtNode, Cond.selects RX12 yX12_lookAtNode yX12_lookAtNode, Cond.code yX12_lookAtNode cX12_lookAtNode 8 (some .int)]
def wsX12_search_r17 : List Cond := [Cond.fieldLink RX12 1097 "IntegerHouseModel" "base" "J", Cond.fieldLink RX12 1196 "IntegerHouseModel" "best" "J", Cond.fieldLink RX12 426 "IntegerHouseModel" "bestAt" "[J", Cond.fieldLink RX12 406 "IntegerHouseModel" "pointA" "[J", Cond.methodLink RX12 1150 yX12_findVertex, Cond.instanceMethod yX12_findVertex, Cond.selects RX12 yX12_findVertex yX12_findVertex, Cond.code yX12_findVertex cX12_findVertex 9 (some .boolean), Cond.fieldLink RX12 400 "IntegerHouseModel" "basis" "[I", Cond.fieldLink RX12 1126 "IntegerHouseModel" "sides" "I", Cond.fieldLink RX12 1123 "IntegerHouseModel" "baseSign" "I", Cond.methodLink RX12 1129 yX12_solve, Cond.instanceMethod yX12_solve, Cond.selects RX12 yX12_solve yX12_solve, Cond.code yX12_solve cX12_solve 3 none, Cond.fieldLink RX12 403 "IntegerHouseModel" "grid" "[J", Cond.fieldLink RX12 409 "IntegerHouseModel" "pointB" "[J", Cond.methodLink RX12 1090 yX12_layBasis, Cond.instanceMethod yX12_layBasis, Cond.selects RX12 yX12_layBasis yX12_layBasis, Cond.code yX12_layBasis cX12_layBasis 3 none, Cond.methodLink RX12 1087 yX12_factor, Cond.instanceMethod yX12_factor, Cond.selects RX12 yX12_factor yX12_factor]
def wsX12_search_r18 : List Cond := [Cond.code yX12_factor cX12_factor 4 (some .long), Cond.methodLink RX12 1093 yX12_determinant, Cond.instanceMethod yX12_determinant, Cond.selects RX12 yX12_determinant yX12_determinant, Cond.code yX12_determinant cX12_determinant 1 (some .long), Cond.methodLink RX12 1079 yX12_two, Cond.static yX12_two, Cond.code yX12_two cX12_two 8 (some .long), Cond.methodLink RX12 1083 yX12_three, Cond.instanceMethod yX12_three, Cond.selects RX12 yX12_three yX12_three, Cond.code yX12_three cX12_three 13 (some .long), Cond.methodLink RX12 1132 yX12_isBeyond, Cond.instanceMethod yX12_isBeyond, Cond.selects RX12 yX12_isBeyond yX12_isBeyond, Cond.code yX12_isBeyond cX12_isBeyond 3 (some .boolean), Cond.methodLink RX12 1112 yX12_compareRow, Cond.instanceMethod yX12_compareRow, Cond.selects RX12 yX12_compareRow yX12_compareRow, Cond.code yX12_compareRow cX12_compareRow 12 (some .int), Cond.constantLong RX12 1100 (4294967295), Cond.methodLink RX12 1135 yX12_partOf, Cond.instanceMethod yX12_partOf, Cond.selects RX12 yX12_partOf yX12_partOf]
def wsX12_search_r19 : List Cond := [Cond.code yX12_partOf cX12_partOf 4 (some .long), Cond.methodLink RX12 1137 yX12_goesRather, Cond.instanceMethod yX12_goesRather, Cond.selects RX12 yX12_goesRather yX12_goesRather, Cond.code yX12_goesRather cX12_goesRather 9 (some .boolean), Cond.methodLink RX12 1116 yX12_shareOf, Cond.instanceMethod yX12_shareOf, Cond.selects RX12 yX12_shareOf yX12_shareOf, Cond.code yX12_shareOf cX12_shareOf 4 (some .long), Cond.methodLink RX12 1119 yX12_compare, Cond.instanceMethod yX12_compare, Cond.selects RX12 yX12_compare yX12_compare, Cond.code yX12_compare cX12_compare 13 (some .int), Cond.fieldLink RX12 1102 "IntegerHouseModel" "high" "J", Cond.fieldLink RX12 1105 "IntegerHouseModel" "low" "J", Cond.constantLong RX12 1003 (-9223372036854775808), Cond.methodLink RX12 1108 yX12_multiply, Cond.instanceMethod yX12_multiply, Cond.selects RX12 yX12_multiply yX12_multiply, Cond.code yX12_multiply cX12_multiply 19 none, Cond.methodLink RX12 1163 yX12_isWild, Cond.instanceMethod yX12_isWild, Cond.selects RX12 yX12_isWild yX12_isWild, Cond.code yX12_isWild cX12_isWild 3 (some .boolean)]
def wsX12_search_r20 : List Cond := [Cond.methodLink RX12 1153 yX12_valueOf, Cond.instanceMethod yX12_valueOf, Cond.selects RX12 yX12_valueOf yX12_valueOf, Cond.code yX12_valueOf cX12_valueOf 5 (some .long), Cond.methodLink RX12 1175 yX12_floor, Cond.static yX12_floor, Cond.code yX12_floor cX12_floor 6 (some .long), Cond.methodLink RX12 1199 yX12_firstBroken, Cond.instanceMethod yX12_firstBroken, Cond.selects RX12 yX12_firstBroken yX12_firstBroken, Cond.code yX12_firstBroken cX12_firstBroken 2 (some .int), Cond.methodLink RX12 1202 yX12_cutRow, Cond.instanceMethod yX12_cutRow, Cond.selects RX12 yX12_cutRow yX12_cutRow, Cond.code yX12_cutRow cX12_cutRow 12 (some .boolean), Cond.constantLong RX12 1181 (-200), Cond.constantLong RX12 1183 (200), Cond.methodLink RX12 1178 yX12_chooseBasis, Cond.instanceMethod yX12_chooseBasis, Cond.selects RX12 yX12_chooseBasis yX12_chooseBasis, Cond.code yX12_chooseBasis cX12_chooseBasis 3 none, Cond.methodLink RX12 1169 yX12_isTight, Cond.instanceMethod yX12_isTight, Cond.selects RX12 yX12_isTight yX12_isTight]
def wsX12_search_r21 : List Cond := [Cond.code yX12_isTight cX12_isTight 2 (some .boolean), Cond.methodLink RX12 1172 yX12_isFree, Cond.instanceMethod yX12_isFree, Cond.selects RX12 yX12_isFree yX12_isFree, Cond.code yX12_isFree cX12_isFree 13 (some .boolean), Cond.fieldLink RX12 429 "IntegerHouseModel" "steps" "[J", Cond.fieldLink RX12 432 "IntegerHouseModel" "lead" "[I", Cond.methodLink RX12 1185 yX12_isSmall, Cond.static yX12_isSmall, Cond.code yX12_isSmall cX12_isSmall 2 (some .boolean), Cond.constantLong RX12 1189 (-100000000), Cond.constantLong RX12 1191 (100000000), Cond.methodLink RX12 1208 yX12_halves, Cond.instanceMethod yX12_halves, Cond.selects RX12 yX12_halves yX12_halves, Cond.code yX12_halves cX12_halves 4 (some .int)]
def wsX12_search : List Cond := .code yX12_search cX12_search 4 (some .int) :: ((wsX12_search_r1 ++ (wsX12_search_r2 ++ (wsX12_search_r3 ++ (wsX12_search_r4 ++ (wsX12_search_r5 ++ (wsX12_search_r6 ++ (wsX12_search_r7 ++ (wsX12_search_r8 ++ (wsX12_search_r9 ++ (wsX12_search_r10 ++ (wsX12_search_r11 ++ (wsX12_search_r12 ++ (wsX12_search_r13 ++ (wsX12_search_r14 ++ (wsX12_search_r15 ++ (wsX12_search_r16 ++ (wsX12_search_r17 ++ (wsX12_search_r18 ++ (wsX12_search_r19 ++ (wsX12_search_r20 ++ wsX12_search_r21)))))))))))))))))))) ++ wsX120)
def wsX12_best : List Cond := .code yX12_best cX12_best 2 (some .long) :: ([.fieldLink RX12 1214 "IntegerHouseModel" "searched" "Z", .constantLong RX12 1226 (6), .fieldLink RX12 3 "IntegerHouseModel" "thrown" "I", .fieldLink RX12 1217 "IntegerHouseModel" "nodesTaken" "I", .fieldLink RX12 1205 "IntegerHouseModel" "cutsMade" "I", .fieldLink RX12 1193 "IntegerHouseModel" "hasBest" "Z", .fieldLink RX12 1196 "IntegerHouseModel" "best" "J", .fieldLink RX12 426 "IntegerHouseModel" "bestAt" "[J", .methodLink RX12 504 yX12_in, .static yX12_in, .initialized RX12, .code yX12_in cX12_in 6 (some .boolean)] ++ wsX120)
def wsL_half : List Cond := .codeWith yL_half cL_half 5 (some .int) [(0, 10, 13, 25)] :: ([.classLink RL 25 "java/lang/IndexOutOfBoundsException", .methodLink RL 35 yX11_half, .instanceMethod yX11_half, .selects RX11 yX11_half yX11_half, .initialized RX11, .code yX11_half cX11_half 3 (some .int), .classLink RX11 197 "java/lang/IndexOutOfBoundsException", .initialized "java/lang/IndexOutOfBoundsException", .fieldLink RX11 73 "IntegerHouse" "ownForm" "LIntegerHouse$OwnForm;", .methodLink RX11 360 yX5_isTold, .instanceMethod yX5_isTold, .selects RX5 yX5_isTold yX5_isTold, .initialized RX5, .code yX5_isTold cX5_isTold 3 (some .boolean), .fieldLink RX5 41 "IntegerHouse$OwnForm" "toldStates" "I", .fieldLink RX5 45 "IntegerHouse$OwnForm" "toldLetters" "I", .methodLink RX11 364 yX5_toldHalf, .instanceMethod yX5_toldHalf, .selects RX5 yX5_toldHalf yX5_toldHalf, .code yX5_toldHalf cX5_toldHalf 3 (some .int), .fieldLink RX5 31 "IntegerHouse$OwnForm" "halves" "[I", .methodLink RX5 48 yX5_isTold] ++ wsX110 ++ wsX50 ++ (vx_atS RX11 201 "java/lang/IndexOutOfBoundsException" ["java/lang/RuntimeException", "java/lang/Exception"]).filter goodWord)
def wsL_takes : List Cond := .codeWith yL_takes cL_takes 5 (some .int) [(0, 10, 13, 25)] :: ([.classLink RL 25 "java/lang/IndexOutOfBoundsException", .methodLink RL 38 yX11_takes, .instanceMethod yX11_takes, .selects RX11 yX11_takes yX11_takes, .initialized RX11, .code yX11_takes cX11_takes 3 (some .int), .classLink RX11 197 "java/lang/IndexOutOfBoundsException", .initialized "java/lang/IndexOutOfBoundsException", .fieldLink RX11 73 "IntegerHouse" "ownForm" "LIntegerHouse$OwnForm;", .methodLink RX11 360 yX5_isTold, .instanceMethod yX5_isTold, .selects RX5 yX5_isTold yX5_isTold, .initialized RX5, .code yX5_isTold cX5_isTold 3 (some .boolean), .fieldLink RX5 41 "IntegerHouse$OwnForm" "toldStates" "I", .fieldLink RX5 45 "IntegerHouse$OwnForm" "toldLetters" "I", .methodLink RX11 367 yX5_toldTakes, .instanceMethod yX5_toldTakes, .selects RX5 yX5_toldTakes yX5_toldTakes, .code yX5_toldTakes cX5_toldTakes 3 (some .int), .fieldLink RX5 34 "IntegerHouse$OwnForm" "taken" "[I", .methodLink RX5 48 yX5_isTold] ++ wsX110 ++ wsX50 ++ (vx_atS RX11 201 "java/lang/IndexOutOfBoundsException" ["java/lang/RuntimeException", "java/lang/Exception"]).filter goodWord)
def wsL_fraction : List Cond := .codeWith yL_fraction cL_fraction 4 (some .int) [(0, 8, 11, 25)] :: ([.classLink RL 25 "java/lang/IndexOutOfBoundsException", .methodLink RL 41 yX11_fraction, .instanceMethod yX11_fraction, .selects RX11 yX11_fraction yX11_fraction, .initialized RX11, .code yX11_fraction cX11_fraction 2 (some .long), .classLink RX11 197 "java/lang/IndexOutOfBoundsException", .initialized "java/lang/IndexOutOfBoundsException", .fieldLink RX11 80 "IntegerHouse" "relaxer" "LIntegerHouse$Relaxer;", .methodLink RX11 382 yX9_isTold, .instanceMethod yX9_isTold, .selects RX9 yX9_isTold yX9_isTold, .initialized RX9, .code yX9_isTold cX9_isTold 2 (some .boolean), .fieldLink RX9 107 "IntegerHouse$Relaxer" "toldSize" "I", .methodLink RX11 385 yX9_toldFraction, .instanceMethod yX9_toldFraction, .selects RX9 yX9_toldFraction yX9_toldFraction, .code yX9_toldFraction cX9_toldFraction 2 (some .long), .fieldLink RX9 34 "IntegerHouse$Relaxer" "fractions" "[J"] ++ wsX110 ++ wsX90 ++ (vx_atS RX11 201 "java/lang/IndexOutOfBoundsException" ["java/lang/RuntimeException", "java/lang/Exception"]).filter goodWord)
def wsL_best : List Cond := .codeWith yL_best cL_best 4 (some .int) [(0, 8, 11, 25)] :: ([.classLink RL 25 "java/lang/IndexOutOfBoundsException", .methodLink RL 44 yX11_best, .instanceMethod yX11_best, .selects RX11 yX11_best yX11_best, .initialized RX11, .code yX11_best cX11_best 2 (some .long), .classLink RX11 197 "java/lang/IndexOutOfBoundsException", .initialized "java/lang/IndexOutOfBoundsException", .fieldLink RX11 89 "IntegerHouse" "searcher" "LIntegerHouse$Searcher;", .methodLink RX11 391 yX10_isTold, .instanceMethod yX10_isTold, .selects RX10 yX10_isTold yX10_isTold, .initialized RX10, .code yX10_isTold cX10_isTold 2 (some .boolean), .fieldLink RX10 32 "IntegerHouse$Searcher" "told" "Z", .methodLink RX11 392 yX10_toldBest, .instanceMethod yX10_toldBest, .selects RX10 yX10_toldBest yX10_toldBest, .code yX10_toldBest cX10_toldBest 3 (some .long), .fieldLink RX10 36 "IntegerHouse$Searcher" "taken" "I", .fieldLink RX10 40 "IntegerHouse$Searcher" "cuts" "I", .fieldLink RX10 43 "IntegerHouse$Searcher" "bestValue" "J", .fieldLink RX10 25 "IntegerHouse$Searcher" "values" "[J"] ++ wsX110 ++ wsX100 ++ (vx_atS RX11 201 "java/lang/IndexOutOfBoundsException" ["java/lang/RuntimeException", "java/lang/Exception"]).filter goodWord)
theorem dX2_allPlain_0 : decode cX2_allPlain 0 = .ok (.iconst 0, 1) := by decide +kernel
theorem dX2_allPlain_1 : decode cX2_allPlain 1 = .ok (.istore_n 1, 1) := by decide +kernel
theorem dX2_allPlain_2 : decode cX2_allPlain 2 = .ok (.iload_n 1, 1) := by decide +kernel
theorem dX2_allPlain_3 : decode cX2_allPlain 3 = .ok (.aload_n 0, 1) := by decide +kernel
theorem dX2_allPlain_4 : decode cX2_allPlain 4 = .ok (.getfield 55, 3) := by decide +kernel
theorem dX2_allPlain_7 : decode cX2_allPlain 7 = .ok (.if_icmp .ge 32, 3) := by decide +kernel
theorem dX2_allPlain_39 : decode cX2_allPlain 39 = .ok (.iconst 1, 1) := by decide +kernel
theorem dX2_allPlain_40 : decode cX2_allPlain 40 = .ok (.ireturn, 1) := by decide +kernel
theorem dX3_scan_34 : decode cX3_scan 34 = .ok (.bipush 20, 2) := by decide +kernel
theorem dX3_scan_36 : decode cX3_scan 36 = .ok (.goto 5, 3) := by decide +kernel
theorem dX5_isTold_0 : decode cX5_isTold 0 = .ok (.iload_n 1, 1) := by decide +kernel
theorem dX5_isTold_1 : decode cX5_isTold 1 = .ok (.ifCond .lt 27, 3) := by decide +kernel
theorem dX5_isTold_4 : decode cX5_isTold 4 = .ok (.iload_n 1, 1) := by decide +kernel
theorem dX5_isTold_5 : decode cX5_isTold 5 = .ok (.aload_n 0, 1) := by decide +kernel
theorem dX5_isTold_6 : decode cX5_isTold 6 = .ok (.getfield 41, 3) := by decide +kernel
theorem dX5_isTold_9 : decode cX5_isTold 9 = .ok (.if_icmp .ge 19, 3) := by decide +kernel
theorem dX5_isTold_28 : decode cX5_isTold 28 = .ok (.iconst 0, 1) := by decide +kernel
theorem dX5_isTold_29 : decode cX5_isTold 29 = .ok (.ireturn, 1) := by decide +kernel
set_option maxRecDepth 20000 in
theorem ggX8_readTerm_X8_begin : GoodIn wsX8_readTerm wsX8_begin := goodIn_r _ [8, 9, 1, 10, 11, 12, 13, 14, 15, 16, 17, 18, 19, 20, 21, 22, 23, 24, 25, 26, 27, 28, 29, 30, 31, 32, 33, 34, 35, 36, 37, 38, 39, 40, 41, 42, 43, 44, 45, 46, 47, 48, 49, 50, 51, 52, 53, 54, 55, 56, 57, 58, 59, 60, 61, 62, 63, 64, 65, 66, 67, 68, 69, 70, 71, 72, 73, 74, 75, 76, 77, 78, 79, 80, 81, 82, 83, 84, 85, 86, 87, 88, 89, 90, 91, 92, 93, 94, 95, 96, 7, 97, 98, 99, 286, 287, 288, 289, 290, 291, 292, 293, 294, 295, 296, 297, 298, 299, 300, 301, 302, 303, 304, 305, 306, 307, 308, 309] (by decide +kernel) (by decide +kernel)
set_option maxRecDepth 20000 in
theorem gX8_readTerm_X8_begin : GoodIn wsX8_readTerm (wsV RX8 23 RX8 yX8_begin wsX8_begin) := goodIn_app (goodIn_of _ (by decide +kernel)) ggX8_readTerm_X8_begin
set_option maxRecDepth 20000 in
theorem ggX8_readTerm_X8_readInto : GoodIn wsX8_readTerm wsX8_readInto := goodIn_r _ [103, 104, 105, 106, 107, 108, 99, 109, 110, 111, 112, 113, 114, 115, 116, 117, 7, 118, 98, 119, 120, 121, 122, 123, 124, 125, 126, 1, 10, 127, 128, 129, 130, 131, 94, 95, 96, 97, 12, 9, 132, 133, 134, 135, 136, 137, 138, 139, 140, 141, 142, 143, 144, 145, 146, 147, 16, 148, 21, 48, 149, 150, 151, 152, 153, 154, 155, 156, 157, 158, 159, 160, 161, 162, 40, 163, 164, 165, 166, 167, 168, 169, 170, 171, 172, 173, 174, 175, 176, 177, 178, 179, 180, 181, 182, 183, 184, 185, 186, 187, 188, 189, 190, 191, 192, 193, 194, 195, 196, 197, 23, 198, 199, 200, 201, 202, 203, 204, 286, 287, 288, 289, 290, 291, 292, 293, 294, 295, 296, 297, 298, 299, 300, 310, 311, 312, 313, 314, 315, 316, 317, 318, 319, 320, 321, 322, 323, 324, 325, 301, 302, 303, 304, 305, 306, 307, 308, 309] (by decide +kernel) (by decide +kernel)
set_option maxRecDepth 20000 in
theorem gX8_readTerm_X8_readInto : GoodIn wsX8_readTerm (wsV RX8 49 RX8 yX8_readInto wsX8_readInto) := goodIn_app (goodIn_of _ (by decide +kernel)) ggX8_readTerm_X8_readInto
set_option maxRecDepth 20000 in
theorem ggX8_readTerm_X8_expectEnd : GoodIn wsX8_readTerm wsX8_expectEnd := goodIn_r _ [208, 98, 123, 124, 125, 7, 126, 1, 99, 10, 286, 287, 288, 289, 290, 291, 292, 293, 294, 295, 296, 297, 298, 299, 300] (by decide +kernel) (by decide +kernel)
set_option maxRecDepth 20000 in
theorem gX8_readTerm_X8_expectEnd : GoodIn wsX8_readTerm (wsV RX8 59 RX8 yX8_expectEnd wsX8_expectEnd) := goodIn_app (goodIn_of _ (by decide +kernel)) ggX8_readTerm_X8_expectEnd
theorem dX8_readTerm_0 : decode cX8_readTerm 0 = .ok (.aload_n 0, 1) := by decide +kernel
theorem dX8_readTerm_1 : decode cX8_readTerm 1 = .ok (.aload_n 1, 1) := by decide +kernel
theorem dX8_readTerm_2 : decode cX8_readTerm 2 = .ok (.iconst 0, 1) := by decide +kernel
theorem dX8_readTerm_3 : decode cX8_readTerm 3 = .ok (.iload_n 2, 1) := by decide +kernel
theorem dX8_readTerm_4 : decode cX8_readTerm 4 = .ok (.invokevirtual 23, 3) := by decide +kernel
theorem dX8_readTerm_7 : decode cX8_readTerm 7 = .ok (.aload_n 0, 1) := by decide +kernel
theorem dX8_readTerm_8 : decode cX8_readTerm 8 = .ok (.bipush 25, 2) := by decide +kernel
theorem dX8_readTerm_10 : decode cX8_readTerm 10 = .ok (.invokevirtual 49, 3) := by decide +kernel
theorem dX8_readTerm_13 : decode cX8_readTerm 13 = .ok (.aload_n 0, 1) := by decide +kernel
theorem dX8_readTerm_14 : decode cX8_readTerm 14 = .ok (.invokevirtual 59, 3) := by decide +kernel
theorem dX8_readTerm_17 : decode cX8_readTerm 17 = .ok (.aload_n 0, 1) := by decide +kernel
theorem dX8_readTerm_18 : decode cX8_readTerm 18 = .ok (.getfield 62, 3) := by decide +kernel
theorem dX8_readTerm_21 : decode cX8_readTerm 21 = .ok (.ifCond .ne 38, 3) := by decide +kernel
theorem dX8_readTerm_59 : decode cX8_readTerm 59 = .ok (.aload_n 0, 1) := by decide +kernel
theorem dX8_readTerm_60 : decode cX8_readTerm 60 = .ok (.getfield 62, 3) := by decide +kernel
theorem dX8_readTerm_63 : decode cX8_readTerm 63 = .ok (.ifCond .ne 7, 3) := by decide +kernel
theorem dX8_readTerm_70 : decode cX8_readTerm 70 = .ok (.iconst 0, 1) := by decide +kernel
theorem dX8_readTerm_71 : decode cX8_readTerm 71 = .ok (.ireturn, 1) := by decide +kernel
theorem dX9_isTold_0 : decode cX9_isTold 0 = .ok (.iload_n 1, 1) := by decide +kernel
theorem dX9_isTold_1 : decode cX9_isTold 1 = .ok (.ifCond .lt 15, 3) := by decide +kernel
theorem dX9_isTold_4 : decode cX9_isTold 4 = .ok (.iload_n 1, 1) := by decide +kernel
theorem dX9_isTold_5 : decode cX9_isTold 5 = .ok (.aload_n 0, 1) := by decide +kernel
theorem dX9_isTold_6 : decode cX9_isTold 6 = .ok (.getfield 107, 3) := by decide +kernel
theorem dX9_isTold_9 : decode cX9_isTold 9 = .ok (.if_icmp .ge 7, 3) := by decide +kernel
theorem dX9_isTold_16 : decode cX9_isTold 16 = .ok (.iconst 0, 1) := by decide +kernel
theorem dX9_isTold_17 : decode cX9_isTold 17 = .ok (.ireturn, 1) := by decide +kernel
theorem dX10_isTold_0 : decode cX10_isTold 0 = .ok (.aload_n 0, 1) := by decide +kernel
theorem dX10_isTold_1 : decode cX10_isTold 1 = .ok (.getfield 32, 3) := by decide +kernel
theorem dX10_isTold_4 : decode cX10_isTold 4 = .ok (.ifCond .eq 17, 3) := by decide +kernel
theorem dX10_isTold_21 : decode cX10_isTold 21 = .ok (.iconst 0, 1) := by decide +kernel
theorem dX10_isTold_22 : decode cX10_isTold 22 = .ok (.ireturn, 1) := by decide +kernel
set_option maxRecDepth 20000 in
theorem ggX11_half_X5_isTold : GoodIn wsX11_half wsX5_isTold := goodIn_r _ [8, 9, 10, 32, 33, 34, 35, 36, 37, 38, 39, 40, 41, 42] (by decide +kernel) (by decide +kernel)
set_option maxRecDepth 20000 in
theorem gX11_half_X5_isTold : GoodIn wsX11_half (wsV RX11 360 RX5 yX5_isTold wsX5_isTold) := goodIn_app (goodIn_of _ (by decide +kernel)) ggX11_half_X5_isTold
theorem dX11_half_0 : decode cX11_half 0 = .ok (.aload_n 0, 1) := by decide +kernel
theorem dX11_half_1 : decode cX11_half 1 = .ok (.getfield 73, 3) := by decide +kernel
theorem dX11_half_4 : decode cX11_half 4 = .ok (.iload_n 1, 1) := by decide +kernel
theorem dX11_half_5 : decode cX11_half 5 = .ok (.iload_n 2, 1) := by decide +kernel
theorem dX11_half_6 : decode cX11_half 6 = .ok (.invokevirtual 360, 3) := by decide +kernel
theorem dX11_half_9 : decode cX11_half 9 = .ok (.ifCond .ne 14, 3) := by decide +kernel
theorem dX11_half_12 : decode cX11_half 12 = .ok (.new 197, 3) := by decide +kernel
theorem dX11_half_15 : decode cX11_half 15 = .ok (.dup, 1) := by decide +kernel
theorem dX11_half_16 : decode cX11_half 16 = .ok (.ldc_w 362, 3) := by decide +kernel
theorem dX11_half_19 : decode cX11_half 19 = .ok (.invokespecial 201, 3) := by decide +kernel
theorem dX11_half_22 : decode cX11_half 22 = .ok (.athrow, 1) := by decide +kernel
set_option maxRecDepth 20000 in
theorem ggX11_takes_X5_isTold : GoodIn wsX11_takes wsX5_isTold := goodIn_r _ [8, 9, 10, 32, 33, 34, 35, 36, 37, 38, 39, 40, 41, 42] (by decide +kernel) (by decide +kernel)
set_option maxRecDepth 20000 in
theorem gX11_takes_X5_isTold : GoodIn wsX11_takes (wsV RX11 360 RX5 yX5_isTold wsX5_isTold) := goodIn_app (goodIn_of _ (by decide +kernel)) ggX11_takes_X5_isTold
theorem dX11_takes_0 : decode cX11_takes 0 = .ok (.aload_n 0, 1) := by decide +kernel
theorem dX11_takes_1 : decode cX11_takes 1 = .ok (.getfield 73, 3) := by decide +kernel
theorem dX11_takes_4 : decode cX11_takes 4 = .ok (.iload_n 1, 1) := by decide +kernel
theorem dX11_takes_5 : decode cX11_takes 5 = .ok (.iload_n 2, 1) := by decide +kernel
theorem dX11_takes_6 : decode cX11_takes 6 = .ok (.invokevirtual 360, 3) := by decide +kernel
theorem dX11_takes_9 : decode cX11_takes 9 = .ok (.ifCond .ne 14, 3) := by decide +kernel
theorem dX11_takes_12 : decode cX11_takes 12 = .ok (.new 197, 3) := by decide +kernel
theorem dX11_takes_15 : decode cX11_takes 15 = .ok (.dup, 1) := by decide +kernel
theorem dX11_takes_16 : decode cX11_takes 16 = .ok (.ldc_w 362, 3) := by decide +kernel
theorem dX11_takes_19 : decode cX11_takes 19 = .ok (.invokespecial 201, 3) := by decide +kernel
theorem dX11_takes_22 : decode cX11_takes 22 = .ok (.athrow, 1) := by decide +kernel
set_option maxRecDepth 20000 in
theorem ggX11_relaxed_X11_useTape : GoodIn wsX11_relaxed wsX11_useTape := goodIn_r _ [11, 12, 439, 440, 441, 442, 443, 444, 445, 446, 447, 448, 449, 450, 451, 452, 453] (by decide +kernel) (by decide +kernel)
set_option maxRecDepth 20000 in
theorem gX11_relaxed_X11_useTape : GoodIn wsX11_relaxed (wsV RX11 230 RX11 yX11_useTape wsX11_useTape) := goodIn_app (goodIn_of _ (by decide +kernel)) ggX11_relaxed_X11_useTape
set_option maxRecDepth 20000 in
theorem ggX11_relaxed_X2_allPlain : GoodIn wsX11_relaxed wsX2_allPlain := goodIn_r _ [17, 18, 19, 20, 21, 22, 16, 23, 24, 473, 474, 475, 476, 477, 478, 479, 480, 481, 482, 483, 484, 485, 486, 487, 488] (by decide +kernel) (by decide +kernel)
set_option maxRecDepth 20000 in
theorem gX11_relaxed_X2_allPlain : GoodIn wsX11_relaxed (wsV RX11 370 RX2 yX2_allPlain wsX2_allPlain) := goodIn_app (goodIn_of _ (by decide +kernel)) ggX11_relaxed_X2_allPlain
set_option maxRecDepth 20000 in
theorem ggX11_relaxed_X8_readTerm : GoodIn wsX11_relaxed wsX8_readTerm := goodIn_r _ [29, 30, 31, 32, 33, 34, 35, 28, 36, 37, 38, 39, 40, 41, 42, 43, 44, 45, 46, 47, 48, 49, 50, 51, 52, 53, 54, 55, 56, 57, 58, 59, 60, 61, 62, 63, 64, 65, 66, 67, 68, 69, 70, 71, 72, 73, 74, 75, 76, 77, 78, 79, 80, 81, 82, 83, 84, 85, 86, 87, 88, 89, 90, 91, 92, 93, 94, 95, 96, 97, 98, 99, 100, 101, 102, 103, 104, 105, 106, 107, 108, 109, 110, 111, 112, 113, 114, 115, 116, 117, 118, 119, 120, 121, 122, 123, 124, 125, 126, 127, 128, 129, 130, 131, 132, 133, 134, 135, 136, 137, 138, 139, 16, 140, 24, 141, 142, 143, 144, 145, 146, 147, 148, 149, 150, 151, 152, 153, 154, 155, 156, 157, 158, 159, 160, 161, 162, 163, 164, 165, 166, 167, 168, 169, 170, 171, 172, 173, 174, 175, 176, 177, 178, 179, 180, 181, 182, 183, 184, 185, 186, 187, 188, 189, 190, 191, 192, 193, 194, 195, 196, 197, 198, 18, 199, 200, 201, 202, 203, 204, 205, 206, 207, 208, 209, 210, 211, 212, 213, 214, 215, 216, 217, 218, 219, 220, 221, 222, 223, 10, 224, 225, 226, 227, 228, 229, 230, 231, 232, 233, 234, 235, 236, 237, 238, 239, 240, 241, 242, 243, 244, 245, 246, 247, 248, 249, 250, 251, 252, 21, 22, 23, 253, 254, 255, 256, 257, 258, 259, 260, 261, 262, 263, 264, 265, 266, 267, 268, 269, 270, 271, 272, 273, 274, 275, 276, 277, 278, 279, 280, 281, 282, 283, 284, 285, 286, 287, 288, 289, 290, 291, 292, 293, 294, 295, 296, 297, 298, 299, 300, 301, 302, 303, 304, 305, 306, 489, 490, 491, 492, 493, 494, 495, 496, 497, 498, 499, 500, 501, 502, 503, 504, 505, 506, 507, 508, 509, 510, 511, 512, 473, 474, 475, 476, 477, 478, 479, 480, 481, 482, 483, 484, 485, 486, 487, 488, 463, 464, 465, 466, 467, 468, 469, 470, 471, 472] (by decide +kernel) (by decide +kernel)
set_option maxRecDepth 20000 in
theorem gX11_relaxed_X8_readTerm : GoodIn wsX11_relaxed (wsV RX11 373 RX8 yX8_readTerm wsX8_readTerm) := goodIn_app (goodIn_of _ (by decide +kernel)) ggX11_relaxed_X8_readTerm
set_option maxRecDepth 20000 in
theorem ggX11_relaxed_X11_faulted : GoodIn wsX11_relaxed wsX11_faulted := goodIn_r _ [310, 3, 311, 439, 440, 441, 442, 443, 444, 445, 446, 447, 448, 449, 450, 451, 452, 453, 489, 490, 491, 492, 493, 494, 495, 496, 497, 498, 499, 500, 501, 502, 503] (by decide +kernel) (by decide +kernel)
set_option maxRecDepth 20000 in
theorem gX11_relaxed_X11_faulted : GoodIn wsX11_relaxed (wsV RX11 236 RX11 yX11_faulted wsX11_faulted) := goodIn_app (goodIn_of _ (by decide +kernel)) ggX11_relaxed_X11_faulted
theorem dX11_relaxed_0 : decode cX11_relaxed 0 = .ok (.aload_n 0, 1) := by decide +kernel
theorem dX11_relaxed_1 : decode cX11_relaxed 1 = .ok (.getfield 16, 3) := by decide +kernel
theorem dX11_relaxed_4 : decode cX11_relaxed 4 = .ok (.getfield 122, 3) := by decide +kernel
theorem dX11_relaxed_7 : decode cX11_relaxed 7 = .ok (.ifCond .eq 6, 3) := by decide +kernel
theorem dX11_relaxed_13 : decode cX11_relaxed 13 = .ok (.aload_n 0, 1) := by decide +kernel
theorem dX11_relaxed_14 : decode cX11_relaxed 14 = .ok (.invokevirtual 230, 3) := by decide +kernel
theorem dX11_relaxed_17 : decode cX11_relaxed 17 = .ok (.istore_n 1, 1) := by decide +kernel
theorem dX11_relaxed_18 : decode cX11_relaxed 18 = .ok (.aload_n 0, 1) := by decide +kernel
theorem dX11_relaxed_19 : decode cX11_relaxed 19 = .ok (.getfield 23, 3) := by decide +kernel
theorem dX11_relaxed_22 : decode cX11_relaxed 22 = .ok (.invokevirtual 370, 3) := by decide +kernel
theorem dX11_relaxed_25 : decode cX11_relaxed 25 = .ok (.ifCond .ne 6, 3) := by decide +kernel
theorem dX11_relaxed_31 : decode cX11_relaxed 31 = .ok (.aload_n 0, 1) := by decide +kernel
theorem dX11_relaxed_32 : decode cX11_relaxed 32 = .ok (.getfield 48, 3) := by decide +kernel
theorem dX11_relaxed_35 : decode cX11_relaxed 35 = .ok (.aload_n 0, 1) := by decide +kernel
theorem dX11_relaxed_36 : decode cX11_relaxed 36 = .ok (.getfield 9, 3) := by decide +kernel
theorem dX11_relaxed_39 : decode cX11_relaxed 39 = .ok (.iload_n 1, 1) := by decide +kernel
theorem dX11_relaxed_40 : decode cX11_relaxed 40 = .ok (.invokevirtual 373, 3) := by decide +kernel
theorem dX11_relaxed_43 : decode cX11_relaxed 43 = .ok (.ifCond .ne 8, 3) := by decide +kernel
theorem dX11_relaxed_46 : decode cX11_relaxed 46 = .ok (.aload_n 0, 1) := by decide +kernel
theorem dX11_relaxed_47 : decode cX11_relaxed 47 = .ok (.invokevirtual 236, 3) := by decide +kernel
theorem dX11_relaxed_50 : decode cX11_relaxed 50 = .ok (.ireturn, 1) := by decide +kernel
set_option maxRecDepth 20000 in
theorem ggX11_fraction_X9_isTold : GoodIn wsX11_fraction wsX9_isTold := goodIn_r _ [8, 9, 30, 31, 32, 33, 34, 35, 36, 37, 38, 39, 40, 41, 42, 43] (by decide +kernel) (by decide +kernel)
set_option maxRecDepth 20000 in
theorem gX11_fraction_X9_isTold : GoodIn wsX11_fraction (wsV RX11 382 RX9 yX9_isTold wsX9_isTold) := goodIn_app (goodIn_of _ (by decide +kernel)) ggX11_fraction_X9_isTold
theorem dX11_fraction_0 : decode cX11_fraction 0 = .ok (.aload_n 0, 1) := by decide +kernel
theorem dX11_fraction_1 : decode cX11_fraction 1 = .ok (.getfield 80, 3) := by decide +kernel
theorem dX11_fraction_4 : decode cX11_fraction 4 = .ok (.iload_n 1, 1) := by decide +kernel
theorem dX11_fraction_5 : decode cX11_fraction 5 = .ok (.invokevirtual 382, 3) := by decide +kernel
theorem dX11_fraction_8 : decode cX11_fraction 8 = .ok (.ifCond .ne 14, 3) := by decide +kernel
theorem dX11_fraction_11 : decode cX11_fraction 11 = .ok (.new 197, 3) := by decide +kernel
theorem dX11_fraction_14 : decode cX11_fraction 14 = .ok (.dup, 1) := by decide +kernel
theorem dX11_fraction_15 : decode cX11_fraction 15 = .ok (.ldc_w 383, 3) := by decide +kernel
theorem dX11_fraction_18 : decode cX11_fraction 18 = .ok (.invokespecial 201, 3) := by decide +kernel
theorem dX11_fraction_21 : decode cX11_fraction 21 = .ok (.athrow, 1) := by decide +kernel
set_option maxRecDepth 20000 in
theorem ggX11_search_X11_useTape : GoodIn wsX11_search wsX11_useTape := goodIn_r _ [12, 13, 510, 511, 512, 513, 514, 515, 516, 517, 518, 519, 520, 521, 522, 523, 524] (by decide +kernel) (by decide +kernel)
set_option maxRecDepth 20000 in
theorem gX11_search_X11_useTape : GoodIn wsX11_search (wsV RX11 230 RX11 yX11_useTape wsX11_useTape) := goodIn_app (goodIn_of _ (by decide +kernel)) ggX11_search_X11_useTape
set_option maxRecDepth 20000 in
theorem ggX11_search_X2_allPlain : GoodIn wsX11_search wsX2_allPlain := goodIn_r _ [18, 19, 20, 21, 22, 23, 17, 24, 25, 544, 545, 546, 547, 548, 549, 550, 551, 552, 553, 554, 555, 556, 557, 558, 559] (by decide +kernel) (by decide +kernel)
set_option maxRecDepth 20000 in
theorem gX11_search_X2_allPlain : GoodIn wsX11_search (wsV RX11 370 RX2 yX2_allPlain wsX2_allPlain) := goodIn_app (goodIn_of _ (by decide +kernel)) ggX11_search_X2_allPlain
set_option maxRecDepth 20000 in
theorem ggX11_search_X8_readTerm : GoodIn wsX11_search wsX8_readTerm := goodIn_r _ [30, 31, 32, 33, 34, 35, 36, 29, 37, 38, 39, 40, 41, 42, 43, 44, 45, 46, 47, 48, 49, 50, 51, 52, 53, 54, 55, 56, 57, 58, 59, 60, 61, 62, 63, 64, 65, 66, 67, 68, 69, 70, 71, 72, 73, 74, 75, 76, 77, 78, 79, 80, 81, 82, 83, 84, 85, 86, 87, 88, 89, 90, 91, 92, 93, 94, 95, 96, 97, 98, 99, 100, 101, 102, 103, 104, 105, 106, 107, 108, 109, 110, 111, 112, 113, 114, 115, 116, 117, 118, 119, 120, 121, 122, 123, 124, 125, 126, 127, 128, 129, 130, 131, 132, 133, 134, 135, 136, 137, 138, 139, 140, 17, 141, 25, 142, 143, 144, 145, 146, 147, 148, 149, 150, 151, 152, 153, 154, 155, 156, 157, 158, 159, 160, 161, 162, 163, 164, 165, 166, 167, 168, 169, 170, 171, 172, 173, 174, 175, 176, 177, 178, 179, 180, 181, 182, 183, 184, 185, 186, 187, 188, 189, 190, 191, 192, 193, 194, 195, 196, 197, 198, 199, 19, 200, 201, 202, 203, 204, 205, 206, 207, 208, 209, 210, 211, 212, 213, 214, 215, 216, 217, 218, 219, 220, 221, 222, 223, 224, 11, 225, 226, 227, 228, 229, 230, 231, 232, 233, 234, 235, 236, 237, 238, 239, 240, 241, 242, 243, 244, 245, 246, 247, 248, 249, 250, 251, 252, 253, 22, 23, 24, 254, 255, 256, 257, 258, 259, 260, 261, 262, 263, 264, 265, 266, 267, 268, 269, 270, 271, 272, 273, 274, 275, 276, 277, 278, 279, 280, 281, 282, 283, 284, 285, 286, 287, 288, 289, 290, 291, 292, 293, 294, 295, 296, 297, 298, 299, 300, 301, 302, 303, 304, 305, 306, 307, 560, 561, 562, 563, 564, 565, 566, 567, 568, 569, 570, 571, 572, 573, 574, 575, 576, 577, 578, 579, 580, 581, 582, 583, 544, 545, 546, 547, 548, 549, 550, 551, 552, 553, 554, 555, 556, 557, 558, 559, 534, 535, 536, 537, 538, 539, 540, 541, 542, 543] (by decide +kernel) (by decide +kernel)
set_option maxRecDepth 20000 in
theorem gX11_search_X8_readTerm : GoodIn wsX11_search (wsV RX11 373 RX8 yX8_readTerm wsX8_readTerm) := goodIn_app (goodIn_of _ (by decide +kernel)) ggX11_search_X8_readTerm
set_option maxRecDepth 20000 in
theorem ggX11_search_X11_faulted : GoodIn wsX11_search wsX11_faulted := goodIn_r _ [311, 3, 312, 510, 511, 512, 513, 514, 515, 516, 517, 518, 519, 520, 521, 522, 523, 524, 560, 561, 562, 563, 564, 565, 566, 567, 568, 569, 570, 571, 572, 573, 574] (by decide +kernel) (by decide +kernel)
set_option maxRecDepth 20000 in
theorem gX11_search_X11_faulted : GoodIn wsX11_search (wsV RX11 236 RX11 yX11_faulted wsX11_faulted) := goodIn_app (goodIn_of _ (by decide +kernel)) ggX11_search_X11_faulted
theorem dX11_search_0 : decode cX11_search 0 = .ok (.aload_n 0, 1) := by decide +kernel
theorem dX11_search_1 : decode cX11_search 1 = .ok (.getfield 16, 3) := by decide +kernel
theorem dX11_search_4 : decode cX11_search 4 = .ok (.getfield 122, 3) := by decide +kernel
theorem dX11_search_7 : decode cX11_search 7 = .ok (.ifCond .eq 6, 3) := by decide +kernel
theorem dX11_search_13 : decode cX11_search 13 = .ok (.aload_n 0, 1) := by decide +kernel
theorem dX11_search_14 : decode cX11_search 14 = .ok (.invokevirtual 230, 3) := by decide +kernel
theorem dX11_search_17 : decode cX11_search 17 = .ok (.istore_n 3, 1) := by decide +kernel
theorem dX11_search_18 : decode cX11_search 18 = .ok (.iload_n 1, 1) := by decide +kernel
theorem dX11_search_19 : decode cX11_search 19 = .ok (.ifCond .lt 19, 3) := by decide +kernel
theorem dX11_search_22 : decode cX11_search 22 = .ok (.iload_n 1, 1) := by decide +kernel
theorem dX11_search_23 : decode cX11_search 23 = .ok (.iconst 1, 1) := by decide +kernel
theorem dX11_search_24 : decode cX11_search 24 = .ok (.if_icmp .gt 14, 3) := by decide +kernel
theorem dX11_search_27 : decode cX11_search 27 = .ok (.iload_n 2, 1) := by decide +kernel
theorem dX11_search_28 : decode cX11_search 28 = .ok (.iconst 1, 1) := by decide +kernel
theorem dX11_search_29 : decode cX11_search 29 = .ok (.if_icmp .lt 9, 3) := by decide +kernel
theorem dX11_search_32 : decode cX11_search 32 = .ok (.iload_n 2, 1) := by decide +kernel
theorem dX11_search_33 : decode cX11_search 33 = .ok (.bipush 100, 2) := by decide +kernel
theorem dX11_search_35 : decode cX11_search 35 = .ok (.if_icmp .le 6, 3) := by decide +kernel
theorem dX11_search_38 : decode cX11_search 38 = .ok (.bipush (-102), 2) := by decide +kernel
theorem dX11_search_40 : decode cX11_search 40 = .ok (.ireturn, 1) := by decide +kernel
theorem dX11_search_41 : decode cX11_search 41 = .ok (.aload_n 0, 1) := by decide +kernel
theorem dX11_search_42 : decode cX11_search 42 = .ok (.getfield 23, 3) := by decide +kernel
theorem dX11_search_45 : decode cX11_search 45 = .ok (.invokevirtual 370, 3) := by decide +kernel
theorem dX11_search_48 : decode cX11_search 48 = .ok (.ifCond .ne 6, 3) := by decide +kernel
theorem dX11_search_54 : decode cX11_search 54 = .ok (.aload_n 0, 1) := by decide +kernel
theorem dX11_search_55 : decode cX11_search 55 = .ok (.getfield 48, 3) := by decide +kernel
theorem dX11_search_58 : decode cX11_search 58 = .ok (.aload_n 0, 1) := by decide +kernel
theorem dX11_search_59 : decode cX11_search 59 = .ok (.getfield 9, 3) := by decide +kernel
theorem dX11_search_62 : decode cX11_search 62 = .ok (.iload_n 3, 1) := by decide +kernel
theorem dX11_search_63 : decode cX11_search 63 = .ok (.invokevirtual 373, 3) := by decide +kernel
theorem dX11_search_66 : decode cX11_search 66 = .ok (.ifCond .ne 8, 3) := by decide +kernel
theorem dX11_search_69 : decode cX11_search 69 = .ok (.aload_n 0, 1) := by decide +kernel
theorem dX11_search_70 : decode cX11_search 70 = .ok (.invokevirtual 236, 3) := by decide +kernel
theorem dX11_search_73 : decode cX11_search 73 = .ok (.ireturn, 1) := by decide +kernel
set_option maxRecDepth 20000 in
theorem ggX11_best_X10_isTold : GoodIn wsX11_best wsX10_isTold := goodIn_r _ [8, 9, 33, 34, 35, 36, 37, 38, 39, 40, 41, 42, 43, 44] (by decide +kernel) (by decide +kernel)
set_option maxRecDepth 20000 in
theorem gX11_best_X10_isTold : GoodIn wsX11_best (wsV RX11 391 RX10 yX10_isTold wsX10_isTold) := goodIn_app (goodIn_of _ (by decide +kernel)) ggX11_best_X10_isTold
theorem dX11_best_0 : decode cX11_best 0 = .ok (.aload_n 0, 1) := by decide +kernel
theorem dX11_best_1 : decode cX11_best 1 = .ok (.getfield 89, 3) := by decide +kernel
theorem dX11_best_4 : decode cX11_best 4 = .ok (.iload_n 1, 1) := by decide +kernel
theorem dX11_best_5 : decode cX11_best 5 = .ok (.invokevirtual 391, 3) := by decide +kernel
theorem dX11_best_8 : decode cX11_best 8 = .ok (.ifCond .ne 14, 3) := by decide +kernel
theorem dX11_best_11 : decode cX11_best 11 = .ok (.new 197, 3) := by decide +kernel
theorem dX11_best_14 : decode cX11_best 14 = .ok (.dup, 1) := by decide +kernel
theorem dX11_best_15 : decode cX11_best 15 = .ok (.ldc_w 383, 3) := by decide +kernel
theorem dX11_best_18 : decode cX11_best 18 = .ok (.invokespecial 201, 3) := by decide +kernel
theorem dX11_best_21 : decode cX11_best 21 = .ok (.athrow, 1) := by decide +kernel
set_option maxRecDepth 20000 in
theorem ggX12_half_X12_in : GoodIn wsX12_half wsX12_in := goodIn_r _ [8] (by decide +kernel) (by decide +kernel)
set_option maxRecDepth 20000 in
theorem gX12_half_X12_in : GoodIn wsX12_half (va_wsS RX12 504 yX12_in wsX12_in) := goodIn_app (goodIn_of _ (by decide +kernel)) ggX12_half_X12_in
theorem dX12_half_0 : decode cX12_half 0 = .ok (.aload_n 0, 1) := by decide +kernel
theorem dX12_half_1 : decode cX12_half 1 = .ok (.iload_n 1, 1) := by decide +kernel
theorem dX12_half_2 : decode cX12_half 2 = .ok (.i2l, 1) := by decide +kernel
theorem dX12_half_3 : decode cX12_half 3 = .ok (.lconst 0, 1) := by decide +kernel
theorem dX12_half_4 : decode cX12_half 4 = .ok (.aload_n 0, 1) := by decide +kernel
theorem dX12_half_5 : decode cX12_half 5 = .ok (.getfield 1061, 3) := by decide +kernel
theorem dX12_half_8 : decode cX12_half 8 = .ok (.iconst 1, 1) := by decide +kernel
theorem dX12_half_9 : decode cX12_half 9 = .ok (.isub, 1) := by decide +kernel
theorem dX12_half_10 : decode cX12_half 10 = .ok (.i2l, 1) := by decide +kernel
theorem dX12_half_11 : decode cX12_half 11 = .ok (.invokestatic 504, 3) := by decide +kernel
theorem dX12_half_14 : decode cX12_half 14 = .ok (.ifCond .eq 23, 3) := by decide +kernel
theorem dX12_half_37 : decode cX12_half 37 = .ok (.iconst 1, 1) := by decide +kernel
theorem dX12_half_38 : decode cX12_half 38 = .ok (.putfield 3, 3) := by decide +kernel
theorem dX12_half_41 : decode cX12_half 41 = .ok (.aload_n 0, 1) := by decide +kernel
theorem dX12_half_42 : decode cX12_half 42 = .ok (.getfield 3, 3) := by decide +kernel
theorem dX12_half_45 : decode cX12_half 45 = .ok (.ifCond .le 7, 3) := by decide +kernel
theorem dX12_half_48 : decode cX12_half 48 = .ok (.iconst 0, 1) := by decide +kernel
theorem dX12_half_49 : decode cX12_half 49 = .ok (.goto 14, 3) := by decide +kernel
theorem dX12_half_63 : decode cX12_half 63 = .ok (.ireturn, 1) := by decide +kernel
set_option maxRecDepth 20000 in
theorem ggX12_takes_X12_in : GoodIn wsX12_takes wsX12_in := goodIn_r _ [8] (by decide +kernel) (by decide +kernel)
set_option maxRecDepth 20000 in
theorem gX12_takes_X12_in : GoodIn wsX12_takes (va_wsS RX12 504 yX12_in wsX12_in) := goodIn_app (goodIn_of _ (by decide +kernel)) ggX12_takes_X12_in
theorem dX12_takes_0 : decode cX12_takes 0 = .ok (.aload_n 0, 1) := by decide +kernel
theorem dX12_takes_1 : decode cX12_takes 1 = .ok (.iload_n 1, 1) := by decide +kernel
theorem dX12_takes_2 : decode cX12_takes 2 = .ok (.i2l, 1) := by decide +kernel
theorem dX12_takes_3 : decode cX12_takes 3 = .ok (.lconst 0, 1) := by decide +kernel
theorem dX12_takes_4 : decode cX12_takes 4 = .ok (.aload_n 0, 1) := by decide +kernel
theorem dX12_takes_5 : decode cX12_takes 5 = .ok (.getfield 1061, 3) := by decide +kernel
theorem dX12_takes_8 : decode cX12_takes 8 = .ok (.iconst 1, 1) := by decide +kernel
theorem dX12_takes_9 : decode cX12_takes 9 = .ok (.isub, 1) := by decide +kernel
theorem dX12_takes_10 : decode cX12_takes 10 = .ok (.i2l, 1) := by decide +kernel
theorem dX12_takes_11 : decode cX12_takes 11 = .ok (.invokestatic 504, 3) := by decide +kernel
theorem dX12_takes_14 : decode cX12_takes 14 = .ok (.ifCond .eq 23, 3) := by decide +kernel
theorem dX12_takes_37 : decode cX12_takes 37 = .ok (.iconst 1, 1) := by decide +kernel
theorem dX12_takes_38 : decode cX12_takes 38 = .ok (.putfield 3, 3) := by decide +kernel
theorem dX12_takes_41 : decode cX12_takes 41 = .ok (.aload_n 0, 1) := by decide +kernel
theorem dX12_takes_42 : decode cX12_takes 42 = .ok (.getfield 3, 3) := by decide +kernel
theorem dX12_takes_45 : decode cX12_takes 45 = .ok (.ifCond .le 7, 3) := by decide +kernel
theorem dX12_takes_48 : decode cX12_takes 48 = .ok (.iconst 0, 1) := by decide +kernel
theorem dX12_takes_49 : decode cX12_takes 49 = .ok (.goto 13, 3) := by decide +kernel
theorem dX12_takes_62 : decode cX12_takes 62 = .ok (.ireturn, 1) := by decide +kernel
theorem dX12_isAllPlain_0 : decode cX12_isAllPlain 0 = .ok (.iconst 1, 1) := by decide +kernel
theorem dX12_isAllPlain_1 : decode cX12_isAllPlain 1 = .ok (.istore_n 1, 1) := by decide +kernel
theorem dX12_isAllPlain_2 : decode cX12_isAllPlain 2 = .ok (.iconst 0, 1) := by decide +kernel
theorem dX12_isAllPlain_3 : decode cX12_isAllPlain 3 = .ok (.istore_n 2, 1) := by decide +kernel
theorem dX12_isAllPlain_4 : decode cX12_isAllPlain 4 = .ok (.iload_n 2, 1) := by decide +kernel
theorem dX12_isAllPlain_5 : decode cX12_isAllPlain 5 = .ok (.aload_n 0, 1) := by decide +kernel
theorem dX12_isAllPlain_6 : decode cX12_isAllPlain 6 = .ok (.getfield 818, 3) := by decide +kernel
theorem dX12_isAllPlain_9 : decode cX12_isAllPlain 9 = .ok (.if_icmp .ge 37, 3) := by decide +kernel
theorem dX12_isAllPlain_46 : decode cX12_isAllPlain 46 = .ok (.iload_n 1, 1) := by decide +kernel
theorem dX12_isAllPlain_47 : decode cX12_isAllPlain 47 = .ok (.ireturn, 1) := by decide +kernel
set_option maxRecDepth 20000 in
theorem ggX12_readsLineTerm_X12_beginSlot : GoodIn wsX12_readsLineTerm wsX12_beginSlot := goodIn_r _ [10, 11, 12, 13, 14, 15, 16, 17, 229, 230, 231, 232, 233, 234, 235, 236, 237, 238, 239, 240, 241, 242, 243, 244, 245, 246, 247, 248, 249, 250, 251, 252, 253, 254, 255, 256, 257, 258, 259, 260, 261, 262, 263, 264, 265, 266, 267, 268, 269, 270, 271, 272, 273, 274, 275, 276, 277, 278, 279, 280, 281, 282, 283, 284, 285, 286, 287, 288, 289, 290, 291, 292, 293, 294, 295, 296, 297, 298, 299, 300, 301, 302, 303, 304, 305, 306, 307, 308, 309, 310, 311, 312, 313, 314, 315, 316, 317, 318, 319, 320, 321, 322, 323, 324, 325, 326, 327, 328, 329, 330, 331, 332, 333, 334, 335, 336, 337, 338, 339, 340, 341, 342, 343, 344, 345, 346, 347, 348, 349, 350, 351, 352, 353, 354, 355, 356, 357, 358, 359, 360, 361, 362, 363, 364, 365, 366, 367, 368, 369, 370, 371, 372, 373, 374, 375, 376, 377, 378, 379, 380, 381, 382, 383, 384, 385, 386, 387, 388, 389, 390, 391, 392, 393, 394, 395, 396, 397, 398, 399, 400, 401, 402, 403, 404, 405, 406, 407, 408, 409, 410, 411, 412, 413, 414, 415, 416, 417, 418, 419, 420, 421, 422, 423] (by decide +kernel) (by decide +kernel)
set_option maxRecDepth 20000 in
theorem gX12_readsLineTerm_X12_beginSlot : GoodIn wsX12_readsLineTerm (wsV RX12 842 RX12 yX12_beginSlot wsX12_beginSlot) := goodIn_app (goodIn_of _ (by decide +kernel)) ggX12_readsLineTerm_X12_beginSlot
set_option maxRecDepth 20000 in
theorem ggX12_readsLineTerm_X12_readTerm : GoodIn wsX12_readsLineTerm wsX12_readTerm := goodIn_r _ [21, 22, 23, 24, 1, 25, 26, 27, 28, 9, 29, 30, 31, 32, 33, 34, 35, 36, 37, 38, 2, 3, 39, 40, 41, 42, 43, 44, 45, 46, 47, 13, 11, 48, 49, 50, 51, 52, 53, 54, 55, 56, 57, 58, 59, 60, 61, 62, 17, 63, 64, 65, 66, 67, 68, 69, 70, 71, 72, 73, 74, 75, 76, 77, 78, 79, 80, 81, 82, 83, 84, 85, 86, 87, 88, 16, 89, 90, 91, 92, 93, 94, 95, 96, 97, 98, 99, 100, 12, 101, 102, 103, 104, 105, 106, 107, 108, 109, 110, 111, 112, 113, 114, 115, 15, 116, 117, 118, 119, 120, 121, 122, 123, 124, 125, 126, 14, 127, 128, 129, 130, 131, 132, 133, 134, 135, 136, 137, 138, 139, 140, 141, 142, 229, 230, 231, 232, 233, 234, 235, 236, 237, 238, 239, 240, 241, 242, 243, 244, 245, 246, 247, 248, 249, 250, 251, 252, 253, 254, 255, 256, 257, 258, 259, 260, 261, 262, 263, 264, 265, 266, 267, 268, 269, 270, 271, 272, 273, 274, 275, 276, 277, 278, 279, 280, 281, 282, 283, 284, 285, 286, 287, 288, 289, 290, 291, 292, 293, 294, 295, 296, 297, 298, 299, 300, 301, 302, 303, 304, 305, 306, 307, 308, 309, 310, 311, 312, 313, 314, 315, 316, 317, 318, 319, 320, 321, 322, 323, 324, 325, 326, 327, 328, 329, 330, 331, 332, 333, 334, 335, 336, 337, 338, 339, 340, 341, 342, 343, 344, 345, 346, 347, 348, 349, 350, 351, 352, 353, 354, 355, 356, 357, 358, 359, 360, 361, 362, 363, 364, 365, 366, 367, 368, 369, 370, 371, 372, 373, 374, 375, 376, 377, 378, 379, 380, 381, 382, 383, 384, 385, 386, 387, 388, 389, 390, 391, 392, 393, 394, 395, 396, 397, 398, 399, 400, 401, 402, 403, 404, 405, 406, 407, 408, 409, 410, 411, 412, 413, 414, 415, 416, 417, 418, 419, 420, 421, 422, 423] (by decide +kernel) (by decide +kernel)
set_option maxRecDepth 20000 in
theorem gX12_readsLineTerm_X12_readTerm : GoodIn wsX12_readsLineTerm (wsV RX12 1020 RX12 yX12_readTerm wsX12_readTerm) := goodIn_app (goodIn_of _ (by decide +kernel)) ggX12_readsLineTerm_X12_readTerm
theorem dX12_readsLineTerm_0 : decode cX12_readsLineTerm 0 = .ok (.aload_n 0, 1) := by decide +kernel
theorem dX12_readsLineTerm_1 : decode cX12_readsLineTerm 1 = .ok (.bipush 25, 2) := by decide +kernel
theorem dX12_readsLineTerm_3 : decode cX12_readsLineTerm 3 = .ok (.invokevirtual 842, 3) := by decide +kernel
theorem dX12_readsLineTerm_6 : decode cX12_readsLineTerm 6 = .ok (.aload_n 0, 1) := by decide +kernel
theorem dX12_readsLineTerm_7 : decode cX12_readsLineTerm 7 = .ok (.invokevirtual 1020, 3) := by decide +kernel
theorem dX12_readsLineTerm_10 : decode cX12_readsLineTerm 10 = .ok (.istore_n 1, 1) := by decide +kernel
theorem dX12_readsLineTerm_11 : decode cX12_readsLineTerm 11 = .ok (.aload_n 0, 1) := by decide +kernel
theorem dX12_readsLineTerm_12 : decode cX12_readsLineTerm 12 = .ok (.getfield 562, 3) := by decide +kernel
theorem dX12_readsLineTerm_15 : decode cX12_readsLineTerm 15 = .ok (.ifCond .ne 19, 3) := by decide +kernel
theorem dX12_readsLineTerm_34 : decode cX12_readsLineTerm 34 = .ok (.aload_n 0, 1) := by decide +kernel
theorem dX12_readsLineTerm_35 : decode cX12_readsLineTerm 35 = .ok (.getfield 562, 3) := by decide +kernel
theorem dX12_readsLineTerm_38 : decode cX12_readsLineTerm 38 = .ok (.ifCond .ne 21, 3) := by decide +kernel
theorem dX12_readsLineTerm_59 : decode cX12_readsLineTerm 59 = .ok (.iconst 0, 1) := by decide +kernel
theorem dX12_readsLineTerm_60 : decode cX12_readsLineTerm 60 = .ok (.ireturn, 1) := by decide +kernel
set_option maxRecDepth 20000 in
theorem ggX12_relaxed_X12_asks : GoodIn wsX12_relaxed wsX12_asks := goodIn_r _ [9, 10, 11, 444, 445, 446, 447, 448, 449, 450, 451, 452, 453, 454, 455, 456, 457, 458, 459, 460, 461, 462, 463, 464, 465, 466, 467, 468, 469, 470, 471, 472, 473, 474, 475, 476, 477, 478, 479, 480, 481, 482, 483, 484, 485, 486, 487, 488, 489, 490, 491, 492, 493, 494, 495, 496, 497, 498, 499, 500, 501, 502, 503, 504, 505, 506, 507, 508, 509, 510, 511, 512, 513, 514, 515, 516, 517, 518, 519, 520, 521, 522, 523, 524, 525, 526, 527, 528, 529, 530, 531, 532, 533, 534, 535, 536, 537, 538, 539, 540, 541, 542, 543, 544, 545, 546, 547, 548, 549, 550, 551, 552, 553, 554, 555, 556, 557, 558, 559, 560, 561, 562, 563, 564, 565, 566, 567, 568, 569, 570, 571, 572, 573, 574, 575, 576, 577, 578, 579, 580, 581, 582, 583, 584, 585, 586, 587, 588, 589, 590, 591, 592, 593, 594, 595, 596, 597, 598, 599, 600, 601, 602, 603, 604, 605, 606, 607, 608, 609, 610, 611, 612, 613, 614, 615, 616, 617, 618, 619, 620, 621, 622, 623, 624, 625, 626, 627, 628, 629, 630, 631, 632, 633, 634, 635, 636, 637, 638] (by decide +kernel) (by decide +kernel)
set_option maxRecDepth 20000 in
theorem gX12_relaxed_X12_asks : GoodIn wsX12_relaxed (wsV RX12 871 RX12 yX12_asks wsX12_asks) := goodIn_app (goodIn_of _ (by decide +kernel)) ggX12_relaxed_X12_asks
set_option maxRecDepth 20000 in
theorem ggX12_relaxed_X12_begin : GoodIn wsX12_relaxed wsX12_begin := goodIn_r _ [15, 3, 16, 17, 18, 19, 20, 21, 8, 22, 23, 24, 25, 26, 27, 28, 29, 30, 31, 32, 33, 34, 35, 36, 37, 38, 39, 40, 41, 42, 43, 44, 45, 46, 47, 48, 49, 50, 51, 52, 53, 54, 55, 56, 57, 58, 59, 60, 61, 62, 63, 64, 65, 66, 67, 68, 69, 70, 71, 72, 73, 74, 75, 76, 77, 78, 79, 80, 81, 82, 83, 84, 85, 86, 87, 88, 89, 90, 91, 92, 93, 94, 95, 96, 97, 98, 99, 100, 101, 102, 103, 104, 105, 106, 107, 108, 109, 110, 111, 112, 113, 114, 115, 116, 444, 445, 446, 447, 448, 449, 450, 451, 452, 453, 454, 455, 456, 457, 458, 459, 460, 461, 462, 463, 464, 465, 466, 467, 468, 469, 470, 471, 472, 473, 474, 475, 476, 477, 478, 479, 480, 481, 482, 483, 484, 485, 486, 487, 488, 489, 490, 491, 492, 493, 494, 495, 496, 497, 498, 499, 500, 501, 502, 503, 504, 505, 506, 507, 508, 509, 510, 511, 512, 513, 514, 515, 516, 517, 518, 519, 520, 521, 522, 523, 524, 525, 526, 527, 528, 529, 530, 531, 532, 533, 534, 535, 536, 537, 538, 539, 540, 541, 542, 543, 544, 545, 546, 547, 548, 549, 550, 551, 552, 553, 554, 555, 556, 557, 558, 559, 560, 561, 562, 563, 564, 565, 566, 567, 568, 569, 570, 571, 572, 573, 574, 575, 576, 577, 578, 579, 580, 581, 582, 583, 584, 585, 586, 587, 588, 589, 590, 591, 592, 593, 594, 595, 596, 597, 598, 599, 600, 601, 602, 603, 604, 605, 606, 607, 608, 609, 610, 611, 612, 613, 614, 615, 616, 617, 618, 619, 620, 621, 622, 623, 624, 625, 626, 627, 628, 629, 630, 631, 632, 633, 634, 635, 636, 637, 638] (by decide +kernel) (by decide +kernel)
set_option maxRecDepth 20000 in
theorem gX12_relaxed_X12_begin : GoodIn wsX12_relaxed (wsV RX12 874 RX12 yX12_begin wsX12_begin) := goodIn_app (goodIn_of _ (by decide +kernel)) ggX12_relaxed_X12_begin
set_option maxRecDepth 20000 in
theorem ggX12_relaxed_X12_isAllPlain : GoodIn wsX12_relaxed wsX12_isAllPlain := goodIn_r _ [120, 17, 121, 122, 444, 445, 446, 447, 448, 449, 450, 451, 452, 453, 454, 455, 456, 457, 458, 459, 460, 461, 462, 463, 464, 465, 466, 467, 468, 469, 470, 471, 472, 473, 474, 475, 476, 477, 478, 479, 480, 481, 482, 483, 484, 485, 486, 487, 488, 489, 490, 491, 492, 493, 494, 495, 496, 497, 498, 499, 500, 501, 502, 503, 504, 505, 506, 507, 508, 509, 510, 511, 512, 513, 514, 515, 516, 517, 518, 519, 520, 521, 522, 523, 524, 525, 526, 527, 528, 529, 530, 531, 532, 533, 534, 535, 536, 537, 538, 539, 540, 541, 542, 543, 544, 545, 546, 547, 548, 549, 550, 551, 552, 553, 554, 555, 556, 557, 558, 559, 560, 561, 562, 563, 564, 565, 566, 567, 568, 569, 570, 571, 572, 573, 574, 575, 576, 577, 578, 579, 580, 581, 582, 583, 584, 585, 586, 587, 588, 589, 590, 591, 592, 593, 594, 595, 596, 597, 598, 599, 600, 601, 602, 603, 604, 605, 606, 607, 608, 609, 610, 611, 612, 613, 614, 615, 616, 617, 618, 619, 620, 621, 622, 623, 624, 625, 626, 627, 628, 629, 630, 631, 632, 633, 634, 635, 636, 637, 638] (by decide +kernel) (by decide +kernel)
set_option maxRecDepth 20000 in
theorem gX12_relaxed_X12_isAllPlain : GoodIn wsX12_relaxed (wsV RX12 1141 RX12 yX12_isAllPlain wsX12_isAllPlain) := goodIn_app (goodIn_of _ (by decide +kernel)) ggX12_relaxed_X12_isAllPlain
set_option maxRecDepth 20000 in
theorem ggX12_relaxed_X12_readsLineTerm : GoodIn wsX12_relaxed wsX12_readsLineTerm := goodIn_r _ [126, 32, 36, 33, 127, 128, 129, 130, 131, 8, 132, 133, 134, 135, 136, 137, 138, 139, 140, 141, 142, 143, 144, 145, 146, 147, 148, 149, 150, 151, 152, 153, 154, 155, 156, 157, 158, 159, 160, 37, 161, 162, 163, 164, 165, 166, 167, 168, 169, 35, 170, 25, 34, 171, 172, 173, 174, 175, 176, 177, 178, 179, 180, 181, 182, 183, 184, 185, 186, 187, 188, 189, 190, 191, 192, 193, 194, 195, 16, 196, 197, 198, 199, 200, 201, 202, 203, 204, 205, 206, 207, 208, 209, 210, 211, 212, 18, 213, 214, 215, 216, 50, 51, 52, 217, 218, 219, 220, 221, 222, 223, 224, 225, 226, 227, 228, 229, 230, 231, 232, 233, 234, 235, 236, 237, 238, 239, 240, 241, 242, 243, 244, 245, 246, 247, 248, 249, 250, 251, 252, 253, 254, 255, 256, 257, 258, 259, 260, 261, 262, 263, 264, 265, 266, 267, 268, 269, 270, 271, 272, 273, 274, 275, 276, 277, 278, 279, 280, 281, 282, 283, 284, 285, 286, 287, 288, 289, 290, 291, 292, 293, 294, 295, 296, 297, 298, 299, 300, 301, 302, 303, 304, 305, 306, 307, 308, 309, 310, 311, 312, 313, 314, 315, 316, 317, 318, 319, 320, 321, 322, 323, 324, 325, 326, 327, 328, 329, 330, 331, 332, 333, 334, 335, 336, 337, 338, 339, 340, 341, 444, 445, 446, 447, 448, 449, 450, 451, 452, 453, 454, 455, 456, 457, 458, 459, 460, 461, 462, 463, 464, 465, 466, 467, 468, 469, 470, 471, 472, 473, 474, 475, 476, 477, 478, 479, 480, 481, 482, 483, 484, 485, 486, 487, 488, 489, 490, 491, 492, 493, 494, 495, 496, 497, 498, 499, 500, 501, 502, 503, 504, 505, 506, 507, 508, 509, 510, 511, 512, 513, 514, 515, 516, 517, 518, 519, 520, 521, 522, 523, 524, 525, 526, 527, 528, 529, 530, 531, 532, 533, 534, 535, 536, 537, 538, 539, 540, 541, 542, 543, 544, 545, 546, 547, 548, 549, 550, 551, 552, 553, 554, 555, 556, 557, 558, 559, 560, 561, 562, 563, 564, 565, 566, 567, 568, 569, 570, 571, 572, 573, 574, 575, 576, 577, 578, 579, 580, 581, 582, 583, 584, 585, 586, 587, 588, 589, 590, 591, 592, 593, 594, 595, 596, 597, 598, 599, 600, 601, 602, 603, 604, 605, 606, 607, 608, 609, 610, 611, 612, 613, 614, 615, 616, 617, 618, 619, 620, 621, 622, 623, 624, 625, 626, 627, 628, 629, 630, 631, 632, 633, 634, 635, 636, 637, 638] (by decide +kernel) (by decide +kernel)
set_option maxRecDepth 20000 in
theorem gX12_relaxed_X12_readsLineTerm : GoodIn wsX12_relaxed (wsV RX12 1144 RX12 yX12_readsLineTerm wsX12_readsLineTerm) := goodIn_app (goodIn_of _ (by decide +kernel)) ggX12_relaxed_X12_readsLineTerm
set_option maxRecDepth 20000 in
theorem ggX12_relaxed_X12_told : GoodIn wsX12_relaxed wsX12_told := goodIn_r _ [345, 346, 347, 175, 176, 444, 445, 446, 447, 448, 449, 450, 451, 452, 453, 454, 455, 456, 457, 458, 459, 460, 461, 462, 463, 464, 465, 466, 467, 468, 469, 470, 471, 472, 473, 474, 475, 476, 477, 478, 479, 480, 481, 482, 483, 484, 485, 486, 487, 488, 489, 490, 491, 492, 493, 494, 495, 496, 497, 498, 499, 500, 501, 502, 503, 504, 505, 506, 507, 508, 509, 510, 511, 512, 513, 514, 515, 516, 517, 518, 519, 520, 521, 522, 523, 524, 525, 526, 527, 528, 529, 530, 531, 532, 533, 534, 535, 536, 537, 538, 539, 540, 541, 542, 543, 544, 545, 546, 547, 548, 549, 550, 551, 552, 553, 554, 555, 556, 557, 558, 559, 560, 561, 562, 563, 564, 565, 566, 567, 568, 569, 570, 571, 572, 573, 574, 575, 576, 577, 578, 579, 580, 581, 582, 583, 584, 585, 586, 587, 588, 589, 590, 591, 592, 593, 594, 595, 596, 597, 598, 599, 600, 601, 602, 603, 604, 605, 606, 607, 608, 609, 610, 611, 612, 613, 614, 615, 616, 617, 618, 619, 620, 621, 622, 623, 624, 625, 626, 627, 628, 629, 630, 631, 632, 633, 634, 635, 636, 637, 638] (by decide +kernel) (by decide +kernel)
set_option maxRecDepth 20000 in
theorem gX12_relaxed_X12_told : GoodIn wsX12_relaxed (wsV RX12 860 RX12 yX12_told wsX12_told) := goodIn_app (goodIn_of _ (by decide +kernel)) ggX12_relaxed_X12_told
theorem dX12_relaxed_0 : decode cX12_relaxed 0 = .ok (.aload_n 0, 1) := by decide +kernel
theorem dX12_relaxed_1 : decode cX12_relaxed 1 = .ok (.invokevirtual 871, 3) := by decide +kernel
theorem dX12_relaxed_4 : decode cX12_relaxed 4 = .ok (.ifCond .ne 6, 3) := by decide +kernel
theorem dX12_relaxed_10 : decode cX12_relaxed 10 = .ok (.aload_n 0, 1) := by decide +kernel
theorem dX12_relaxed_11 : decode cX12_relaxed 11 = .ok (.invokevirtual 874, 3) := by decide +kernel
theorem dX12_relaxed_14 : decode cX12_relaxed 14 = .ok (.aload_n 0, 1) := by decide +kernel
theorem dX12_relaxed_15 : decode cX12_relaxed 15 = .ok (.invokevirtual 1141, 3) := by decide +kernel
theorem dX12_relaxed_18 : decode cX12_relaxed 18 = .ok (.ifCond .ne 6, 3) := by decide +kernel
theorem dX12_relaxed_24 : decode cX12_relaxed 24 = .ok (.aload_n 0, 1) := by decide +kernel
theorem dX12_relaxed_25 : decode cX12_relaxed 25 = .ok (.invokevirtual 1144, 3) := by decide +kernel
theorem dX12_relaxed_28 : decode cX12_relaxed 28 = .ok (.ifCond .ne 8, 3) := by decide +kernel
theorem dX12_relaxed_31 : decode cX12_relaxed 31 = .ok (.aload_n 0, 1) := by decide +kernel
theorem dX12_relaxed_32 : decode cX12_relaxed 32 = .ok (.invokevirtual 860, 3) := by decide +kernel
theorem dX12_relaxed_35 : decode cX12_relaxed 35 = .ok (.ireturn, 1) := by decide +kernel
set_option maxRecDepth 20000 in
theorem ggX12_fraction_X12_in : GoodIn wsX12_fraction wsX12_in := goodIn_r _ [7] (by decide +kernel) (by decide +kernel)
set_option maxRecDepth 20000 in
theorem gX12_fraction_X12_in : GoodIn wsX12_fraction (va_wsS RX12 504 yX12_in wsX12_in) := goodIn_app (goodIn_of _ (by decide +kernel)) ggX12_fraction_X12_in
theorem dX12_fraction_0 : decode cX12_fraction 0 = .ok (.aload_n 0, 1) := by decide +kernel
theorem dX12_fraction_1 : decode cX12_fraction 1 = .ok (.iload_n 1, 1) := by decide +kernel
theorem dX12_fraction_2 : decode cX12_fraction 2 = .ok (.i2l, 1) := by decide +kernel
theorem dX12_fraction_3 : decode cX12_fraction 3 = .ok (.lconst 0, 1) := by decide +kernel
theorem dX12_fraction_4 : decode cX12_fraction 4 = .ok (.aload_n 0, 1) := by decide +kernel
theorem dX12_fraction_5 : decode cX12_fraction 5 = .ok (.getfield 1160, 3) := by decide +kernel
theorem dX12_fraction_8 : decode cX12_fraction 8 = .ok (.iconst 1, 1) := by decide +kernel
theorem dX12_fraction_9 : decode cX12_fraction 9 = .ok (.isub, 1) := by decide +kernel
theorem dX12_fraction_10 : decode cX12_fraction 10 = .ok (.i2l, 1) := by decide +kernel
theorem dX12_fraction_11 : decode cX12_fraction 11 = .ok (.invokestatic 504, 3) := by decide +kernel
theorem dX12_fraction_14 : decode cX12_fraction 14 = .ok (.ifCond .eq 7, 3) := by decide +kernel
theorem dX12_fraction_21 : decode cX12_fraction 21 = .ok (.iconst 1, 1) := by decide +kernel
theorem dX12_fraction_22 : decode cX12_fraction 22 = .ok (.putfield 3, 3) := by decide +kernel
theorem dX12_fraction_25 : decode cX12_fraction 25 = .ok (.aload_n 0, 1) := by decide +kernel
theorem dX12_fraction_26 : decode cX12_fraction 26 = .ok (.getfield 3, 3) := by decide +kernel
theorem dX12_fraction_29 : decode cX12_fraction 29 = .ok (.ifCond .le 7, 3) := by decide +kernel
theorem dX12_fraction_32 : decode cX12_fraction 32 = .ok (.lconst 0, 1) := by decide +kernel
theorem dX12_fraction_33 : decode cX12_fraction 33 = .ok (.goto 9, 3) := by decide +kernel
theorem dX12_fraction_42 : decode cX12_fraction 42 = .ok (.lreturn, 1) := by decide +kernel
set_option maxRecDepth 20000 in
theorem ggX12_search_X12_asks : GoodIn wsX12_search wsX12_asks := goodIn_r _ [12, 13, 14, 497, 498, 499, 500, 501, 502, 503, 504, 505, 506, 507, 508, 509, 510, 511, 512, 513, 514, 515, 516, 517, 518, 519, 520, 521, 522, 523, 524, 525, 526, 527, 528, 529, 530, 531, 532, 533, 534, 535, 536, 537, 538, 539, 540, 541, 542, 543, 544, 545, 546, 547, 548, 549, 550, 551, 552, 553, 554, 555, 556, 557, 558, 559, 560, 561, 562, 563, 564, 565, 566, 567, 568, 569, 570, 571, 572, 573, 574, 575, 576, 577, 578, 579, 580, 581, 582, 583, 584, 585, 586, 587, 588, 589, 590, 591, 592, 593, 594, 595, 596, 597, 598, 599, 600, 601, 602, 603, 604, 605, 606, 607, 608, 609, 610, 611, 612, 613, 614, 615, 616, 617, 618, 619, 620, 621, 622, 623, 624, 625, 626, 627, 628, 629, 630, 631, 632, 633, 634, 635, 636, 637, 638, 639, 640, 641, 642, 643, 644, 645, 646, 647, 648, 649, 650, 651, 652, 653, 654, 655, 656, 657, 658, 659, 660, 661, 662, 663, 664, 665, 666, 667, 668, 669, 670, 671, 672, 673, 674, 675, 676, 677, 678, 679, 680, 681, 682, 683, 684, 685, 686, 687, 688, 689, 690, 691] (by decide +kernel) (by decide +kernel)
set_option maxRecDepth 20000 in
theorem gX12_search_X12_asks : GoodIn wsX12_search (wsV RX12 871 RX12 yX12_asks wsX12_asks) := goodIn_app (goodIn_of _ (by decide +kernel)) ggX12_search_X12_asks
set_option maxRecDepth 20000 in
theorem ggX12_search_X12_begin : GoodIn wsX12_search wsX12_begin := goodIn_r _ [18, 19, 20, 21, 22, 23, 24, 25, 11, 26, 27, 28, 29, 30, 31, 32, 33, 34, 35, 36, 37, 38, 39, 40, 41, 42, 43, 44, 45, 46, 47, 48, 49, 50, 51, 52, 53, 54, 55, 56, 57, 58, 59, 60, 61, 62, 63, 64, 65, 66, 67, 68, 69, 70, 71, 72, 73, 74, 75, 76, 77, 78, 79, 80, 81, 82, 83, 84, 85, 86, 87, 88, 89, 90, 91, 92, 93, 94, 95, 96, 97, 98, 99, 100, 101, 102, 103, 104, 105, 106, 107, 108, 109, 110, 111, 112, 113, 114, 115, 116, 117, 118, 119, 120, 497, 498, 499, 500, 501, 502, 503, 504, 505, 506, 507, 508, 509, 510, 511, 512, 513, 514, 515, 516, 517, 518, 519, 520, 521, 522, 523, 524, 525, 526, 527, 528, 529, 530, 531, 532, 533, 534, 535, 536, 537, 538, 539, 540, 541, 542, 543, 544, 545, 546, 547, 548, 549, 550, 551, 552, 553, 554, 555, 556, 557, 558, 559, 560, 561, 562, 563, 564, 565, 566, 567, 568, 569, 570, 571, 572, 573, 574, 575, 576, 577, 578, 579, 580, 581, 582, 583, 584, 585, 586, 587, 588, 589, 590, 591, 592, 593, 594, 595, 596, 597, 598, 599, 600, 601, 602, 603, 604, 605, 606, 607, 608, 609, 610, 611, 612, 613, 614, 615, 616, 617, 618, 619, 620, 621, 622, 623, 624, 625, 626, 627, 628, 629, 630, 631, 632, 633, 634, 635, 636, 637, 638, 639, 640, 641, 642, 643, 644, 645, 646, 647, 648, 649, 650, 651, 652, 653, 654, 655, 656, 657, 658, 659, 660, 661, 662, 663, 664, 665, 666, 667, 668, 669, 670, 671, 672, 673, 674, 675, 676, 677, 678, 679, 680, 681, 682, 683, 684, 685, 686, 687, 688, 689, 690, 691] (by decide +kernel) (by decide +kernel)
set_option maxRecDepth 20000 in
theorem gX12_search_X12_begin : GoodIn wsX12_search (wsV RX12 874 RX12 yX12_begin wsX12_begin) := goodIn_app (goodIn_of _ (by decide +kernel)) ggX12_search_X12_begin
set_option maxRecDepth 20000 in
theorem ggX12_search_X12_in : GoodIn wsX12_search wsX12_in := goodIn_r _ [56] (by decide +kernel) (by decide +kernel)
set_option maxRecDepth 20000 in
theorem gX12_search_X12_in : GoodIn wsX12_search (va_wsS RX12 504 yX12_in wsX12_in) := goodIn_app (goodIn_of _ (by decide +kernel)) ggX12_search_X12_in
set_option maxRecDepth 20000 in
theorem ggX12_search_X12_isAllPlain : GoodIn wsX12_search wsX12_isAllPlain := goodIn_r _ [124, 21, 125, 126, 497, 498, 499, 500, 501, 502, 503, 504, 505, 506, 507, 508, 509, 510, 511, 512, 513, 514, 515, 516, 517, 518, 519, 520, 521, 522, 523, 524, 525, 526, 527, 528, 529, 530, 531, 532, 533, 534, 535, 536, 537, 538, 539, 540, 541, 542, 543, 544, 545, 546, 547, 548, 549, 550, 551, 552, 553, 554, 555, 556, 557, 558, 559, 560, 561, 562, 563, 564, 565, 566, 567, 568, 569, 570, 571, 572, 573, 574, 575, 576, 577, 578, 579, 580, 581, 582, 583, 584, 585, 586, 587, 588, 589, 590, 591, 592, 593, 594, 595, 596, 597, 598, 599, 600, 601, 602, 603, 604, 605, 606, 607, 608, 609, 610, 611, 612, 613, 614, 615, 616, 617, 618, 619, 620, 621, 622, 623, 624, 625, 626, 627, 628, 629, 630, 631, 632, 633, 634, 635, 636, 637, 638, 639, 640, 641, 642, 643, 644, 645, 646, 647, 648, 649, 650, 651, 652, 653, 654, 655, 656, 657, 658, 659, 660, 661, 662, 663, 664, 665, 666, 667, 668, 669, 670, 671, 672, 673, 674, 675, 676, 677, 678, 679, 680, 681, 682, 683, 684, 685, 686, 687, 688, 689, 690, 691] (by decide +kernel) (by decide +kernel)
set_option maxRecDepth 20000 in
theorem gX12_search_X12_isAllPlain : GoodIn wsX12_search (wsV RX12 1141 RX12 yX12_isAllPlain wsX12_isAllPlain) := goodIn_app (goodIn_of _ (by decide +kernel)) ggX12_search_X12_isAllPlain
set_option maxRecDepth 20000 in
theorem ggX12_search_X12_readsLineTerm : GoodIn wsX12_search wsX12_readsLineTerm := goodIn_r _ [130, 36, 40, 37, 131, 132, 133, 134, 135, 11, 136, 137, 138, 139, 140, 141, 142, 143, 144, 145, 146, 147, 148, 149, 150, 151, 152, 153, 154, 155, 156, 157, 158, 159, 160, 161, 162, 163, 164, 41, 165, 166, 167, 168, 169, 170, 171, 172, 173, 39, 174, 29, 38, 175, 176, 177, 178, 179, 180, 181, 182, 183, 184, 185, 186, 187, 188, 189, 190, 191, 192, 193, 194, 195, 196, 197, 198, 199, 20, 200, 201, 202, 203, 204, 205, 206, 207, 208, 209, 210, 211, 212, 213, 214, 215, 216, 22, 217, 218, 219, 220, 54, 55, 56, 221, 222, 223, 224, 225, 226, 227, 228, 229, 230, 231, 232, 233, 234, 235, 236, 237, 238, 239, 240, 241, 242, 243, 244, 245, 246, 247, 248, 249, 250, 251, 252, 253, 254, 255, 256, 257, 258, 259, 260, 261, 262, 263, 264, 265, 266, 267, 268, 269, 270, 271, 272, 273, 274, 275, 276, 277, 278, 279, 280, 281, 282, 283, 284, 285, 286, 287, 288, 289, 290, 291, 292, 293, 294, 295, 296, 297, 298, 299, 300, 301, 302, 303, 304, 305, 306, 307, 308, 309, 310, 311, 312, 313, 314, 315, 316, 317, 318, 319, 320, 321, 322, 323, 324, 325, 326, 327, 328, 329, 330, 331, 332, 333, 334, 335, 336, 337, 338, 339, 340, 341, 342, 343, 344, 345, 497, 498, 499, 500, 501, 502, 503, 504, 505, 506, 507, 508, 509, 510, 511, 512, 513, 514, 515, 516, 517, 518, 519, 520, 521, 522, 523, 524, 525, 526, 527, 528, 529, 530, 531, 532, 533, 534, 535, 536, 537, 538, 539, 540, 541, 542, 543, 544, 545, 546, 547, 548, 549, 550, 551, 552, 553, 554, 555, 556, 557, 558, 559, 560, 561, 562, 563, 564, 565, 566, 567, 568, 569, 570, 571, 572, 573, 574, 575, 576, 577, 578, 579, 580, 581, 582, 583, 584, 585, 586, 587, 588, 589, 590, 591, 592, 593, 594, 595, 596, 597, 598, 599, 600, 601, 602, 603, 604, 605, 606, 607, 608, 609, 610, 611, 612, 613, 614, 615, 616, 617, 618, 619, 620, 621, 622, 623, 624, 625, 626, 627, 628, 629, 630, 631, 632, 633, 634, 635, 636, 637, 638, 639, 640, 641, 642, 643, 644, 645, 646, 647, 648, 649, 650, 651, 652, 653, 654, 655, 656, 657, 658, 659, 660, 661, 662, 663, 664, 665, 666, 667, 668, 669, 670, 671, 672, 673, 674, 675, 676, 677, 678, 679, 680, 681, 682, 683, 684, 685, 686, 687, 688, 689, 690, 691] (by decide +kernel) (by decide +kernel)
set_option maxRecDepth 20000 in
theorem gX12_search_X12_readsLineTerm : GoodIn wsX12_search (wsV RX12 1144 RX12 yX12_readsLineTerm wsX12_readsLineTerm) := goodIn_app (goodIn_of _ (by decide +kernel)) ggX12_search_X12_readsLineTerm
set_option maxRecDepth 20000 in
theorem ggX12_search_X12_told : GoodIn wsX12_search wsX12_told := goodIn_r _ [349, 350, 351, 179, 180, 497, 498, 499, 500, 501, 502, 503, 504, 505, 506, 507, 508, 509, 510, 511, 512, 513, 514, 515, 516, 517, 518, 519, 520, 521, 522, 523, 524, 525, 526, 527, 528, 529, 530, 531, 532, 533, 534, 535, 536, 537, 538, 539, 540, 541, 542, 543, 544, 545, 546, 547, 548, 549, 550, 551, 552, 553, 554, 555, 556, 557, 558, 559, 560, 561, 562, 563, 564, 565, 566, 567, 568, 569, 570, 571, 572, 573, 574, 575, 576, 577, 578, 579, 580, 581, 582, 583, 584, 585, 586, 587, 588, 589, 590, 591, 592, 593, 594, 595, 596, 597, 598, 599, 600, 601, 602, 603, 604, 605, 606, 607, 608, 609, 610, 611, 612, 613, 614, 615, 616, 617, 618, 619, 620, 621, 622, 623, 624, 625, 626, 627, 628, 629, 630, 631, 632, 633, 634, 635, 636, 637, 638, 639, 640, 641, 642, 643, 644, 645, 646, 647, 648, 649, 650, 651, 652, 653, 654, 655, 656, 657, 658, 659, 660, 661, 662, 663, 664, 665, 666, 667, 668, 669, 670, 671, 672, 673, 674, 675, 676, 677, 678, 679, 680, 681, 682, 683, 684, 685, 686, 687, 688, 689, 690, 691] (by decide +kernel) (by decide +kernel)
set_option maxRecDepth 20000 in
theorem gX12_search_X12_told : GoodIn wsX12_search (wsV RX12 860 RX12 yX12_told wsX12_told) := goodIn_app (goodIn_of _ (by decide +kernel)) ggX12_search_X12_told
theorem dX12_search_0 : decode cX12_search 0 = .ok (.aload_n 0, 1) := by decide +kernel
theorem dX12_search_1 : decode cX12_search 1 = .ok (.invokevirtual 871, 3) := by decide +kernel
theorem dX12_search_4 : decode cX12_search 4 = .ok (.ifCond .ne 6, 3) := by decide +kernel
theorem dX12_search_10 : decode cX12_search 10 = .ok (.aload_n 0, 1) := by decide +kernel
theorem dX12_search_11 : decode cX12_search 11 = .ok (.invokevirtual 874, 3) := by decide +kernel
theorem dX12_search_14 : decode cX12_search 14 = .ok (.iload_n 1, 1) := by decide +kernel
theorem dX12_search_15 : decode cX12_search 15 = .ok (.i2l, 1) := by decide +kernel
theorem dX12_search_16 : decode cX12_search 16 = .ok (.lconst 0, 1) := by decide +kernel
theorem dX12_search_17 : decode cX12_search 17 = .ok (.lconst 1, 1) := by decide +kernel
theorem dX12_search_18 : decode cX12_search 18 = .ok (.invokestatic 504, 3) := by decide +kernel
theorem dX12_search_21 : decode cX12_search 21 = .ok (.ifCond .eq 15, 3) := by decide +kernel
theorem dX12_search_24 : decode cX12_search 24 = .ok (.iload_n 2, 1) := by decide +kernel
theorem dX12_search_25 : decode cX12_search 25 = .ok (.i2l, 1) := by decide +kernel
theorem dX12_search_26 : decode cX12_search 26 = .ok (.lconst 1, 1) := by decide +kernel
theorem dX12_search_27 : decode cX12_search 27 = .ok (.ldc2_w 560, 3) := by decide +kernel
theorem dX12_search_30 : decode cX12_search 30 = .ok (.invokestatic 504, 3) := by decide +kernel
theorem dX12_search_33 : decode cX12_search 33 = .ok (.ifCond .ne 6, 3) := by decide +kernel
theorem dX12_search_36 : decode cX12_search 36 = .ok (.bipush (-102), 2) := by decide +kernel
theorem dX12_search_38 : decode cX12_search 38 = .ok (.ireturn, 1) := by decide +kernel
theorem dX12_search_39 : decode cX12_search 39 = .ok (.aload_n 0, 1) := by decide +kernel
theorem dX12_search_40 : decode cX12_search 40 = .ok (.invokevirtual 1141, 3) := by decide +kernel
theorem dX12_search_43 : decode cX12_search 43 = .ok (.ifCond .ne 6, 3) := by decide +kernel
theorem dX12_search_49 : decode cX12_search 49 = .ok (.aload_n 0, 1) := by decide +kernel
theorem dX12_search_50 : decode cX12_search 50 = .ok (.invokevirtual 1144, 3) := by decide +kernel
theorem dX12_search_53 : decode cX12_search 53 = .ok (.ifCond .ne 8, 3) := by decide +kernel
theorem dX12_search_56 : decode cX12_search 56 = .ok (.aload_n 0, 1) := by decide +kernel
theorem dX12_search_57 : decode cX12_search 57 = .ok (.invokevirtual 860, 3) := by decide +kernel
theorem dX12_search_60 : decode cX12_search 60 = .ok (.ireturn, 1) := by decide +kernel
theorem dX12_best_0 : decode cX12_best 0 = .ok (.aload_n 0, 1) := by decide +kernel
theorem dX12_best_1 : decode cX12_best 1 = .ok (.aload_n 0, 1) := by decide +kernel
theorem dX12_best_2 : decode cX12_best 2 = .ok (.getfield 1214, 3) := by decide +kernel
theorem dX12_best_5 : decode cX12_best 5 = .ok (.ifCond .eq 19, 3) := by decide +kernel
theorem dX12_best_24 : decode cX12_best 24 = .ok (.iconst 1, 1) := by decide +kernel
theorem dX12_best_25 : decode cX12_best 25 = .ok (.putfield 3, 3) := by decide +kernel
theorem dX12_best_28 : decode cX12_best 28 = .ok (.aload_n 0, 1) := by decide +kernel
theorem dX12_best_29 : decode cX12_best 29 = .ok (.getfield 3, 3) := by decide +kernel
theorem dX12_best_32 : decode cX12_best 32 = .ok (.ifCond .le 5, 3) := by decide +kernel
theorem dX12_best_35 : decode cX12_best 35 = .ok (.lconst 0, 1) := by decide +kernel
theorem dX12_best_36 : decode cX12_best 36 = .ok (.lreturn, 1) := by decide +kernel
set_option maxRecDepth 20000 in
theorem ggL_half_X11_half : GoodIn wsL_half wsX11_half := goodIn_ca (goodIn_r _ [6, 7, 8, 9, 10, 11, 12, 13, 14, 15, 16, 17, 18, 19, 20, 21, 22, 23, 24, 25, 26, 27, 28, 29, 30, 31, 32, 33, 34, 35, 36, 37, 38, 39, 40, 41, 42, 43, 44, 45, 46, 47, 48] (by decide +kernel) (by decide +kernel)) (goodIn_sub (fun _ h => List.mem_cons_of_mem _ (List.mem_append_right _ h)) (by decide +kernel))
set_option maxRecDepth 20000 in
theorem gL_half_X11_half : GoodIn wsL_half (wsV RL 35 RX11 yX11_half wsX11_half) := goodIn_app (goodIn_of _ (by decide +kernel)) ggL_half_X11_half
theorem dL_half_0 : decode cL_half 0 = .ok (.aload_n 3, 1) := by decide +kernel
theorem dL_half_1 : decode cL_half 1 = .ok (.iconst 0, 1) := by decide +kernel
theorem dL_half_2 : decode cL_half 2 = .ok (.aload_n 0, 1) := by decide +kernel
theorem dL_half_3 : decode cL_half 3 = .ok (.iload_n 1, 1) := by decide +kernel
theorem dL_half_4 : decode cL_half 4 = .ok (.iload_n 2, 1) := by decide +kernel
theorem dL_half_5 : decode cL_half 5 = .ok (.invokevirtual 35, 3) := by decide +kernel
theorem dL_half_13 : decode cL_half 13 = .ok (.astore 4, 2) := by decide +kernel
theorem dL_half_15 : decode cL_half 15 = .ok (.iconst 1, 1) := by decide +kernel
theorem dL_half_16 : decode cL_half 16 = .ok (.ireturn, 1) := by decide +kernel
set_option maxRecDepth 20000 in
theorem ggL_takes_X11_takes : GoodIn wsL_takes wsX11_takes := goodIn_ca (goodIn_r _ [6, 7, 8, 9, 10, 11, 12, 13, 14, 15, 16, 17, 18, 19, 20, 21, 22, 23, 24, 25, 26, 27, 28, 29, 30, 31, 32, 33, 34, 35, 36, 37, 38, 39, 40, 41, 42, 43, 44, 45, 46, 47, 48] (by decide +kernel) (by decide +kernel)) (goodIn_sub (fun _ h => List.mem_cons_of_mem _ (List.mem_append_right _ h)) (by decide +kernel))
set_option maxRecDepth 20000 in
theorem gL_takes_X11_takes : GoodIn wsL_takes (wsV RL 38 RX11 yX11_takes wsX11_takes) := goodIn_app (goodIn_of _ (by decide +kernel)) ggL_takes_X11_takes
theorem dL_takes_0 : decode cL_takes 0 = .ok (.aload_n 3, 1) := by decide +kernel
theorem dL_takes_1 : decode cL_takes 1 = .ok (.iconst 0, 1) := by decide +kernel
theorem dL_takes_2 : decode cL_takes 2 = .ok (.aload_n 0, 1) := by decide +kernel
theorem dL_takes_3 : decode cL_takes 3 = .ok (.iload_n 1, 1) := by decide +kernel
theorem dL_takes_4 : decode cL_takes 4 = .ok (.iload_n 2, 1) := by decide +kernel
theorem dL_takes_5 : decode cL_takes 5 = .ok (.invokevirtual 38, 3) := by decide +kernel
theorem dL_takes_13 : decode cL_takes 13 = .ok (.astore 4, 2) := by decide +kernel
theorem dL_takes_15 : decode cL_takes 15 = .ok (.iconst 1, 1) := by decide +kernel
theorem dL_takes_16 : decode cL_takes 16 = .ok (.ireturn, 1) := by decide +kernel
set_option maxRecDepth 20000 in
theorem ggL_fraction_X11_fraction : GoodIn wsL_fraction wsX11_fraction := goodIn_ca (goodIn_r _ [6, 7, 8, 9, 10, 11, 12, 13, 14, 15, 16, 17, 18, 19, 20, 21, 22, 23, 24, 25, 26, 27, 28, 29, 30, 31, 32, 33, 34, 35, 36, 37, 38, 39, 40, 41, 42, 43, 44, 45, 46, 47, 48, 49] (by decide +kernel) (by decide +kernel)) (goodIn_sub (fun _ h => List.mem_cons_of_mem _ (List.mem_append_right _ h)) (by decide +kernel))
set_option maxRecDepth 20000 in
theorem gL_fraction_X11_fraction : GoodIn wsL_fraction (wsV RL 41 RX11 yX11_fraction wsX11_fraction) := goodIn_app (goodIn_of _ (by decide +kernel)) ggL_fraction_X11_fraction
theorem dL_fraction_0 : decode cL_fraction 0 = .ok (.aload_n 2, 1) := by decide +kernel
theorem dL_fraction_1 : decode cL_fraction 1 = .ok (.iconst 0, 1) := by decide +kernel
theorem dL_fraction_2 : decode cL_fraction 2 = .ok (.aload_n 0, 1) := by decide +kernel
theorem dL_fraction_3 : decode cL_fraction 3 = .ok (.iload_n 1, 1) := by decide +kernel
theorem dL_fraction_4 : decode cL_fraction 4 = .ok (.invokevirtual 41, 3) := by decide +kernel
theorem dL_fraction_11 : decode cL_fraction 11 = .ok (.astore_n 3, 1) := by decide +kernel
theorem dL_fraction_12 : decode cL_fraction 12 = .ok (.iconst 1, 1) := by decide +kernel
theorem dL_fraction_13 : decode cL_fraction 13 = .ok (.ireturn, 1) := by decide +kernel
set_option maxRecDepth 20000 in
theorem ggL_best_X11_best : GoodIn wsL_best wsX11_best := goodIn_ca (goodIn_r _ [6, 7, 8, 9, 10, 11, 12, 13, 14, 15, 16, 17, 18, 19, 20, 21, 22, 23, 24, 25, 26, 27, 28, 29, 30, 31, 32, 33, 34, 35, 36, 37, 38, 39, 40, 41, 42, 43, 44, 45, 46, 47, 48, 49, 50] (by decide +kernel) (by decide +kernel)) (goodIn_sub (fun _ h => List.mem_cons_of_mem _ (List.mem_append_right _ h)) (by decide +kernel))
set_option maxRecDepth 20000 in
theorem gL_best_X11_best : GoodIn wsL_best (wsV RL 44 RX11 yX11_best wsX11_best) := goodIn_app (goodIn_of _ (by decide +kernel)) ggL_best_X11_best
theorem dL_best_0 : decode cL_best 0 = .ok (.aload_n 2, 1) := by decide +kernel
theorem dL_best_1 : decode cL_best 1 = .ok (.iconst 0, 1) := by decide +kernel
theorem dL_best_2 : decode cL_best 2 = .ok (.aload_n 0, 1) := by decide +kernel
theorem dL_best_3 : decode cL_best 3 = .ok (.iload_n 1, 1) := by decide +kernel
theorem dL_best_4 : decode cL_best 4 = .ok (.invokevirtual 44, 3) := by decide +kernel
theorem dL_best_11 : decode cL_best 11 = .ok (.astore_n 3, 1) := by decide +kernel
theorem dL_best_12 : decode cL_best 12 = .ok (.iconst 1, 1) := by decide +kernel
theorem dL_best_13 : decode cL_best 13 = .ok (.ireturn, 1) := by decide +kernel
set_option maxHeartbeats 400000000 in
set_option maxRecDepth 100000 in
theorem c_X11_own_1 (l : Launch) (E : kE) (D : va_G) (cI cJ cB cZ : ClassId) (h0 : Nat) (x0 : Int32) (f0 : List Value) (h1 : Nat) (f1 : List Value) (h2 : Nat) (e0 : f0[1]? = some (.ref h1)) (e1 : f1[8]? = some (.int 0)) (e2 : f0[2]? = some (.ref h2)) (e3 : (x0 : Int32) < 0) : kI l E D (kT cI cJ cB cZ) yX11_own wsX11_own ({ frames := 1, cells := 0, slots := 0, locals := 21 }) [.ref h0, .int x0] [(h0, .inr (11, f0)), (h1, .inr (1, f1))] ((-101)) [(h0, .inr (11, f0)), (h1, .inr (1, f1))] 0 0 := by
  intro sz
  refine Met.ofW (cc := cX11_own) (maxL := 2) (ret := (some .int)) (by decide) rfl ?_
  intro p e s m args below meth c s₁ B hml hv
  obtain ⟨rfl, hsz, hP, hK, hD0, hN, hX⟩ := hv
  have hx := B.exec
  have hb := B.bytes
  have hr := B.returns
  have hts := atoms_spec (ws := wsX11_own) B.pre
  have hown : s.vm.findClass RX11 = some m.cls := findClass_of_methodNamed B.named
  have hlocks := B.notSynchronized
  have hin11 : ∀ w ∈ wsX110, w ∈ wsX11_own := (fun w h => (List.mem_cons_of_mem _ (List.mem_append_left _ (List.mem_append_left _ (List.mem_append_left _ (List.mem_append_left _ (List.mem_append_right _ h)))))))
  have hin1 : ∀ w ∈ wsX10, w ∈ wsX11_own := (fun w h => (List.mem_cons_of_mem _ (List.mem_append_left _ (List.mem_append_left _ (List.mem_append_left _ (List.mem_append_right _ h))))))
  subst hsz
  have hD := hD0.self (sz := s.heap.size)
  have hAE := k_AE hD0 hX
  generalize hAe : va_A [(h0, .inr (11, f0)), (h1, .inr (1, f1))] s.heap.size = A at hD hAE ⊢
  have hA : ∀ q : Nat, s.heap.size ≤ q → A q := fun q h => by rw [← hAe]; exact Or.inr h
  have hS : va_S A s.heap s.heap [] := va_S.rf
  have hP : va_P D vwCl [(h0, .inr (11, f0)), (h1, .inr (1, f1))] s.heap := hP
  have hl := lv_entry ([.ref h0, .int x0] : List Value) (n := 2) (Nat.le_of_ble_eq_true rfl)
  rw [lg_entry_eq]
  generalize (lg_sl ([.ref h0, .int x0]) ++ List.replicate (2 - (lg_sl ([.ref h0, .int x0])).length) Slot.unset).toArray = ls at hl ⊢
  have hl : lv_has ls 2 [(0, .ref h0), (1, .int x0)] := hl
  refine lv_aload_n hx hb dX11_own_0 rfl (lv_at hl 0 rfl) ?_
  refine va_get (D := D) (ref := "IntegerHouse") (ci := 11) (v := .ref h1) (C := RX11) (T := TX11) (N := 15) hx hb hts hin11 hown hK hP 0 rfl rfl 1 (by decide) (hts (.fieldLink RX11 16 "IntegerHouse" "disk" "LIntegerHouse$Disk;") (List.mem_cons_of_mem _ (List.mem_append_left _ (List.mem_append_left _ (List.mem_append_left _ (List.mem_append_left _ (List.mem_append_left _ (List.mem_append_left _ (List.mem_of_getElem? (i := 0) rfl))))))))) (fun _ h9 => h9) e0 dX11_own_1 ?_
  refine va_getN (host := "IntegerHouse") (D := D) (ref := "IntegerHouse$Disk") (ci := 1) (v := .int 0) (C := RX1) (T := TX1) (N := 9) hx hb hts hin1 hown hK hP 1 rfl rfl 8 (by decide) (va_Nw.use rfl (hN.1 ("IntegerHouse", 122, "IntegerHouse$Disk", "down", "Z", "IntegerHouse") (List.mem_of_getElem? (i := 3) rfl))) (fun _ h9 => h9) e1 dX11_own_4 ?_
  refine lv_if_eq (tgt := 13) hx hb dX11_own_7 (by decide) (fun _ => ?_) (fun c9 => absurd (by decide) c9)
  refine lv_aload_n hx hb dX11_own_13 rfl (lv_at hl 0 rfl) ?_
  refine va_get (D := D) (ref := "IntegerHouse") (ci := 11) (v := .ref h2) (C := RX11) (T := TX11) (N := 15) hx hb hts hin11 hown hK hP 0 rfl rfl 2 (by decide) (hts (.fieldLink RX11 23 "IntegerHouse" "house" "LIntegerHouse$House;") (List.mem_cons_of_mem _ (List.mem_append_left _ (List.mem_append_left _ (List.mem_append_left _ (List.mem_append_left _ (List.mem_append_left _ (List.mem_append_left _ (List.mem_of_getElem? (i := 1) rfl))))))))) (fun _ h9 => h9) e2 dX11_own_14 ?_
  refine lv_iload_n hx hb dX11_own_17 rfl (lv_at hl 1 rfl) ?_
  refine k_cVi (As := [.int x0]) (rest := []) (wc := []) (wr := [(h0, .inr (11, f0)), (h1, .inr (1, f1))]) (w1 := []) ⟨hx, hb, hml, hown, hts⟩ hN hX hAE hK hP hD hS hA [] [0, 1] (ci := 2) rfl rfl rfl rfl (by decide +kernel) (by decide +kernel) (by decide +kernel) (c_X2_isClaim_1 l E D cI cJ cB cZ h2 x0 e3) (cwV 1 hts gX11_own_X2_isClaim rfl rfl rfl (by decide +kernel) ⟨Nat.le_of_ble_eq_true rfl, Nat.le_of_ble_eq_true rfl⟩) rfl hl.1 (Nat.le_of_ble_eq_true rfl) dX11_own_18 ⟨Nat.le_of_ble_eq_true rfl, Nat.le_of_ble_eq_true rfl⟩ (fun H locs hP hD hS => ?_)
  have hP : va_P D vwCl [(h0, .inr (11, f0)), (h1, .inr (1, f1))] H := hP
  have hD : va_D A [(h0, .inr (11, f0)), (h1, .inr (1, f1))] := hD
  refine lv_if_ne (tgt := 27) hx hb dX11_own_21 (by decide) (fun c9 => absurd (by decide) c9) (fun _ => ?_)
  refine lv_bipush (v := (-101)) hx hb dX11_own_24 (by decide) ?_
  exact W.iret (v := (-101)) hx hb hr (fun t ht hW => ⟨⟨(-101), (), rfl, rfl, kB_mk ht hW hP hK hD⟩, hS.F ht⟩) hS.2.2 dX11_own_26
set_option maxHeartbeats 400000000 in
set_option maxRecDepth 100000 in
theorem c_X12_own_1 (l : Launch) (E : kE) (D : va_G) (cI cJ cB cZ : ClassId) (h0 : Nat) (x0 : Int32) (f0 : List Value) (e0 : f0[0]? = some (.int 0)) (e1 : f0[5]? = some (.int 0)) (e2 : f0[33]? = some (.int 0)) (e3 : (x0 : Int32) < 0) : kI l E D (kT cI cJ cB cZ) yX12_own wsX12_own ({ frames := 2, cells := 0, slots := 0, locals := 46 }) [.ref h0, .int x0] [(h0, .inr (12, f0))] ((-101)) [(h0, .inr (12, (f0.set 0 (.int 0))))] 0 0 := by
  intro sz
  refine Met.ofW (cc := cX12_own) (maxL := 7) (ret := (some .int)) (by decide) rfl ?_
  intro p e s m args below meth c s₁ B hml hv
  obtain ⟨rfl, hsz, hP, hK, hD0, hN, hX⟩ := hv
  have hx := B.exec
  have hb := B.bytes
  have hr := B.returns
  have hts := atoms_spec (ws := wsX12_own) B.pre
  have hown : s.vm.findClass RX12 = some m.cls := findClass_of_methodNamed B.named
  have hlocks := B.notSynchronized
  subst hsz
  have hD := hD0.self (sz := s.heap.size)
  have hAE := k_AE hD0 hX
  generalize hAe : va_A [(h0, .inr (12, f0))] s.heap.size = A at hD hAE ⊢
  have hA : ∀ q : Nat, s.heap.size ≤ q → A q := fun q h => by rw [← hAe]; exact Or.inr h
  have hS : va_S A s.heap s.heap [] := va_S.rf
  have hP : va_P D vwCl [(h0, .inr (12, f0))] s.heap := hP
  have hl := lv_entry ([.ref h0, .int x0] : List Value) (n := 7) (Nat.le_of_ble_eq_true rfl)
  rw [lg_entry_eq]
  generalize (lg_sl ([.ref h0, .int x0]) ++ List.replicate (7 - (lg_sl ([.ref h0, .int x0])).length) Slot.unset).toArray = ls at hl ⊢
  have hl : lv_has ls 7 [(0, .ref h0), (1, .int x0)] := hl
  refine lv_aload_n hx hb dX12_own_0 rfl (lv_at hl 0 rfl) ?_
  refine k_cVi (As := []) (rest := []) (wc := [(h0, .inr (12, f0))]) (wr := []) (w1 := [(h0, .inr (12, (f0.set 0 (.int 0))))]) ⟨hx, hb, hml, hown, hts⟩ hN hX hAE hK hP hD hS hA [0] [] (ci := 12) rfl rfl rfl rfl (by decide +kernel) (by decide +kernel) (by decide +kernel) (c_X12_asks_0 l E D cI cJ cB cZ h0 f0 e0 e1) (cwV 0 hts gX12_own_X12_asks rfl rfl rfl (by decide +kernel) ⟨Nat.le_of_ble_eq_true rfl, Nat.le_of_ble_eq_true rfl⟩) rfl hl.1 (Nat.le_of_ble_eq_true rfl) dX12_own_1 ⟨Nat.le_of_ble_eq_true rfl, Nat.le_of_ble_eq_true rfl⟩ (fun H locs hP hD hS => ?_)
  have hP : va_P D vwCl [(h0, .inr (12, (f0.set 0 (.int 0))))] H := hP
  have hD : va_D A [(h0, .inr (12, (f0.set 0 (.int 0))))] := hD
  refine lv_if_ne (tgt := 10) hx hb dX12_own_4 (by decide) (fun _ => ?_) (fun c9 => absurd c9 (by decide))
  refine lv_aload_n hx hb dX12_own_10 rfl (lv_at hl 0 rfl) ?_
  refine lv_iload_n hx hb dX12_own_11 rfl (lv_at hl 1 rfl) ?_
  refine k_cVi (As := [.int x0]) (rest := []) (wc := [(h0, .inr (12, (f0.set 0 (.int 0))))]) (wr := []) (w1 := [(h0, .inr (12, (f0.set 0 (.int 0))))]) ⟨hx, hb, hml, hown, hts⟩ hN hX hAE hK hP hD hS hA [0] [] (ci := 12) rfl rfl rfl rfl (by decide +kernel) (by decide +kernel) (by decide +kernel) (c_X12_isClaim_1 l E D cI cJ cB cZ h0 x0 ((f0.set 0 (.int 0))) (k_ne (by decide) e2) e3) (cwV 1 hts gX12_own_X12_isClaim rfl rfl rfl (by decide +kernel) ⟨Nat.le_of_ble_eq_true rfl, Nat.le_of_ble_eq_true rfl⟩) rfl hl.1 (Nat.le_of_ble_eq_true rfl) dX12_own_12 ⟨Nat.le_of_ble_eq_true rfl, Nat.le_of_ble_eq_true rfl⟩ (fun H locs hP hD hS => ?_)
  have hP : va_P D vwCl [(h0, .inr (12, (f0.set 0 (.int 0))))] H := hP
  have hD : va_D A [(h0, .inr (12, (f0.set 0 (.int 0))))] := hD
  refine lv_if_ne (tgt := 21) hx hb dX12_own_15 (by decide) (fun c9 => absurd (by decide) c9) (fun _ => ?_)
  refine lv_bipush (v := (-101)) hx hb dX12_own_18 (by decide) ?_
  exact W.iret (v := (-101)) hx hb hr (fun t ht hW => ⟨⟨(-101), (), rfl, rfl, kB_mk ht hW hP hK hD⟩, hS.F ht⟩) hS.2.2 dX12_own_20
set_option maxHeartbeats 400000000 in
set_option maxRecDepth 100000 in
theorem c_X5_isTold_0 (l : Launch) (E : kE) (D : va_G) (cI cJ cB cZ : ClassId) (h0 : Nat) (x0 : Int32) (x1 : Int32) (f0 : List Value) (e0 : ¬ ((x0 : Int32) < 0)) (e1 : f0[9]? = some (.int 0)) : kI l E D (kT cI cJ cB cZ) yX5_isTold wsX5_isTold ({ frames := 0, cells := 0, slots := 0, locals := 0 }) [.ref h0, .int x0, .int x1] [(h0, .inr (5, f0))] (0) [(h0, .inr (5, f0))] 0 0 := by
  intro sz
  refine Met.ofW (cc := cX5_isTold) (maxL := 3) (ret := (some .boolean)) (by decide) rfl ?_
  intro p e s m args below meth c s₁ B hml hv
  obtain ⟨rfl, hsz, hP, hK, hD0, hN, hX⟩ := hv
  have hx := B.exec
  have hb := B.bytes
  have hr := B.returns
  have hts := atoms_spec (ws := wsX5_isTold) B.pre
  have hown : s.vm.findClass RX5 = some m.cls := findClass_of_methodNamed B.named
  have hlocks := B.notSynchronized
  have hin5 : ∀ w ∈ wsX50, w ∈ wsX5_isTold := (fun w h => (List.mem_cons_of_mem _ (List.mem_append_right _ h)))
  subst hsz
  have hD := hD0.self (sz := s.heap.size)
  have hAE := k_AE hD0 hX
  generalize hAe : va_A [(h0, .inr (5, f0))] s.heap.size = A at hD hAE ⊢
  have hA : ∀ q : Nat, s.heap.size ≤ q → A q := fun q h => by rw [← hAe]; exact Or.inr h
  have hS : va_S A s.heap s.heap [] := va_S.rf
  have hP : va_P D vwCl [(h0, .inr (5, f0))] s.heap := hP
  have hl := lv_entry ([.ref h0, .int x0, .int x1] : List Value) (n := 3) (Nat.le_of_ble_eq_true rfl)
  rw [lg_entry_eq]
  generalize (lg_sl ([.ref h0, .int x0, .int x1]) ++ List.replicate (3 - (lg_sl ([.ref h0, .int x0, .int x1])).length) Slot.unset).toArray = ls at hl ⊢
  have hl : lv_has ls 3 [(0, .ref h0), (1, .int x0), (2, .int x1)] := hl
  refine lv_iload_n hx hb dX5_isTold_0 rfl (lv_at hl 1 rfl) ?_
  refine lv_if_lt (tgt := 28) hx hb dX5_isTold_1 (by decide) (fun c9 => absurd c9 e0) (fun _ => ?_)
  refine lv_iload_n hx hb dX5_isTold_4 rfl (lv_at hl 1 rfl) ?_
  refine lv_aload_n hx hb dX5_isTold_5 rfl (lv_at hl 0 rfl) ?_
  refine va_get (D := D) (ref := "IntegerHouse$OwnForm") (ci := 5) (v := .int 0) (C := RX5) (T := TX5) (N := 11) hx hb hts hin5 hown hK hP 0 rfl rfl 9 (by decide) (hts (.fieldLink RX5 41 "IntegerHouse$OwnForm" "toldStates" "I") (List.mem_cons_of_mem _ (List.mem_append_left _ (List.mem_of_getElem? (i := 0) rfl)))) (fun _ h9 => h9) e1 dX5_isTold_6 ?_
  refine lv_icmp_ge (tgt := 28) hx hb dX5_isTold_9 (by decide) (fun _ => ?_) (fun c9 => absurd ((k_n2 (x := x0) (c := 0)).mpr e0) c9)
  refine lv_iconst (v := 0) hx hb dX5_isTold_28 (by decide) ?_
  exact W.zret (v := 0) hx hb hr rfl (fun t ht hW => ⟨⟨0, (), rfl, rfl, kB_mk ht hW hP hK hD⟩, hS.F ht⟩) hS.2.2 dX5_isTold_29
set_option maxHeartbeats 400000000 in
set_option maxRecDepth 100000 in
theorem c_X11_half_0 (l : Launch) (E : kE) (D : va_G) (cI cJ cB cZ : ClassId) (h0 : Nat) (x0 : Int32) (x1 : Int32) (f0 : List Value) (h1 : Nat) (f1 : List Value) (e0 : f0[8]? = some (.ref h1)) (e1 : f1[9]? = some (.int 0)) (e2 : ¬ ((x0 : Int32) < 0)) (hl9 : l.stackTraces = false) : kTI l E D (kT cI cJ cB cZ) yX11_half wsX11_half ({ frames := 6, cells := 1, slots := 6, locals := 82 }) [.ref h0, .int x0, .int x1] [(h0, .inr (11, f0)), (h1, .inr (5, f1))] "java/lang/IndexOutOfBoundsException" 1 6 := by
  intro sz
  refine vx_ofW (cc := cX11_half) (maxL := 3) (ret := (some .int)) (by decide) rfl ?_
  intro p e s m args below meth c s₁ B hml ht9 hv
  obtain ⟨rfl, hsz, hP, hK, hD0, hN, hX⟩ := hv
  have hx := B.exec
  have hb := B.bytes
  have hr := B.returns
  have hts := atoms_spec (ws := wsX11_half) B.pre
  have hown : s.vm.findClass RX11 = some m.cls := findClass_of_methodNamed B.named
  have hlocks := B.notSynchronized
  have hin11 : ∀ w ∈ wsX110, w ∈ wsX11_half := (fun w h => (List.mem_cons_of_mem _ (List.mem_append_left _ (List.mem_append_left _ (List.mem_append_right _ h)))))
  subst hsz
  have hD := hD0.self (sz := s.heap.size)
  have hAE := k_AE hD0 hX
  generalize hAe : va_A [(h0, .inr (11, f0)), (h1, .inr (5, f1))] s.heap.size = A at hD hAE ⊢
  have hA : ∀ q : Nat, s.heap.size ≤ q → A q := fun q h => by rw [← hAe]; exact Or.inr h
  have hS : va_S A s.heap s.heap [] := va_S.rf
  have hP : va_P D vwCl [(h0, .inr (11, f0)), (h1, .inr (5, f1))] s.heap := hP
  have hl := lv_entry ([.ref h0, .int x0, .int x1] : List Value) (n := 3) (Nat.le_of_ble_eq_true rfl)
  rw [lg_entry_eq]
  generalize (lg_sl ([.ref h0, .int x0, .int x1]) ++ List.replicate (3 - (lg_sl ([.ref h0, .int x0, .int x1])).length) Slot.unset).toArray = ls at hl ⊢
  have hl : lv_has ls 3 [(0, .ref h0), (1, .int x0), (2, .int x1)] := hl
  refine lv_aload_n hx hb dX11_half_0 rfl (lv_at hl 0 rfl) ?_
  refine va_get (D := D) (ref := "IntegerHouse") (ci := 11) (v := .ref h1) (C := RX11) (T := TX11) (N := 15) hx hb hts hin11 hown hK hP 0 rfl rfl 8 (by decide) (hts (.fieldLink RX11 73 "IntegerHouse" "ownForm" "LIntegerHouse$OwnForm;") (List.mem_cons_of_mem _ (List.mem_append_left _ (List.mem_append_left _ (List.mem_append_left _ (List.mem_of_getElem? (i := 2) rfl)))))) (fun _ h9 => h9) e0 dX11_half_1 ?_
  refine lv_iload_n hx hb dX11_half_4 rfl (lv_at hl 1 rfl) ?_
  refine lv_iload_n hx hb dX11_half_5 rfl (lv_at hl 2 rfl) ?_
  refine k_cVi (As := [.int x0, .int x1]) (rest := []) (wc := [(h1, .inr (5, f1))]) (wr := [(h0, .inr (11, f0))]) (w1 := [(h1, .inr (5, f1))]) ⟨hx, hb, hml, hown, hts⟩ hN hX hAE hK hP hD hS hA [1] [0] (ci := 5) rfl rfl rfl rfl (by decide +kernel) (by decide +kernel) (by decide +kernel) (c_X5_isTold_0 l E D cI cJ cB cZ h1 x0 x1 f1 e2 e1) (cwV 2 hts gX11_half_X5_isTold rfl rfl rfl (by decide +kernel) ⟨Nat.le_of_ble_eq_true rfl, Nat.le_of_ble_eq_true rfl⟩) rfl hl.1 (Nat.le_of_ble_eq_true rfl) dX11_half_6 ⟨Nat.le_of_ble_eq_true rfl, Nat.le_of_ble_eq_true rfl⟩ (fun H locs hP hD hS => ?_)
  have hP : va_P D vwCl [(h0, .inr (11, f0)), (h1, .inr (5, f1))] H := hP
  have hD : va_D A [(h0, .inr (11, f0)), (h1, .inr (5, f1))] := hD
  refine lv_if_ne (tgt := 23) hx hb dX11_half_9 (by decide) (fun c9 => absurd (by decide) c9) (fun _ => ?_)
  obtain ⟨a9, a9r, a9o⟩ := kX.st hX hAE ("IntegerHouse", 362, "no such state or letter was told") (List.mem_of_getElem? (i := 7) rfl)
  exact vx_throwSW (names := ["java/lang/RuntimeException", "java/lang/Exception"]) (A := A) hx hb hl9 hown (by decide +kernel) (by decide +kernel) (hts (.classLink RX11 197 "java/lang/IndexOutOfBoundsException") (List.mem_cons_of_mem _ (List.mem_append_left _ (List.mem_append_left _ (List.mem_append_left _ (List.mem_of_getElem? (i := 0) rfl)))))) (hts (.initialized "java/lang/IndexOutOfBoundsException") (List.mem_cons_of_mem _ (List.mem_append_left _ (List.mem_append_left _ (List.mem_append_left _ (List.mem_of_getElem? (i := 1) rfl)))))) a9r (vx_hat (L := vx_atS RX11 201 "java/lang/IndexOutOfBoundsException" ["java/lang/RuntimeException", "java/lang/Exception"]) (B := [.castable "java/lang/IndexOutOfBoundsException" "java/lang/IndexOutOfBoundsException", .declares (Bundle.initS "java/lang/RuntimeException"), .declares (Bundle.initS "java/lang/Exception"), .declares (Bundle.initS "java/lang/Throwable")]) (fun w h => hts w (List.mem_cons_of_mem _ (List.mem_append_right _ h))) (by decide +kernel) (vx_c (va_Nw.use rfl (kX.cast hX "java/lang/IndexOutOfBoundsException" (by decide))) (vx_c (va_Nw.use rfl (kX.decl hX "java/lang/RuntimeException" (by decide))) (vx_c (va_Nw.use rfl (kX.decl hX "java/lang/Exception" (by decide))) (vx_c (va_Nw.use rfl (kX.decl hX "java/lang/Throwable" (by decide))) vx_n))))) (by decide +kernel) (kX.us hX hAE) (kX.ss hX hAE) hS (by rw [hml]; exact hl.1) dX11_half_12 dX11_half_15 dX11_half_16 dX11_half_19 dX11_half_22 (fun x hx => (ht9 x hx).elim) (Nat.le_of_ble_eq_true rfl) (Nat.le_of_ble_eq_true rfl) (Nat.le_of_ble_eq_true rfl) (Nat.le_of_ble_eq_true rfl) hlocks (fun t h1 h2 h3 => k_tx hP hK hD hS t h1 h2 h3) hS.2.2 (Nat.le_of_ble_eq_true rfl) (Nat.le_of_ble_eq_true rfl)
set_option maxHeartbeats 400000000 in
set_option maxRecDepth 100000 in
theorem c_L_half_0 (l : Launch) (E : kE) (D : va_G) (cI cJ cB cZ : ClassId) (h0 : Nat) (x0 : Int32) (x1 : Int32) (h1 : Nat) (f0 : List Value) (h2 : Nat) (f1 : List Value) (e0 : f0[8]? = some (.ref h2)) (e1 : f1[9]? = some (.int 0)) (e2 : ¬ ((x0 : Int32) < 0)) (hl9 : l.stackTraces = false) : kI l E D (kT cI cJ cB cZ) yL_half wsL_half ({ frames := 7, cells := 1, slots := 6, locals := 104 }) [.ref h0, .int x0, .int x1, .ref h1] [(h0, .inr (11, f0)), (h2, .inr (5, f1))] (1) [(h0, .inr (11, f0)), (h2, .inr (5, f1))] 1 6 := by
  intro sz
  refine k_metH (cc := cL_half) (maxL := 5) (ret := (some .int)) (hh := [(0, 10, 13, 25)]) (by decide) rfl ?_
  intro p e s m args below meth c s₁ B hml hv
  obtain ⟨rfl, hsz, hP, hK, hD0, hN, hX⟩ := hv
  have hx := B.exec
  have hb := B.bytes
  have hr := B.returns
  have hts := atoms_spec (ws := wsL_half) B.pre
  have hown : s.vm.findClass RL = some m.cls := findClass_of_methodNamed B.named
  have hlocks := B.notSynchronized
  subst hsz
  have hD := hD0.self (sz := s.heap.size)
  have hAE := k_AE hD0 hX
  generalize hAe : va_A [(h0, .inr (11, f0)), (h2, .inr (5, f1))] s.heap.size = A at hD hAE ⊢
  have hA : ∀ q : Nat, s.heap.size ≤ q → A q := fun q h => by rw [← hAe]; exact Or.inr h
  have hS : va_S A s.heap s.heap [] := va_S.rf
  have hP : va_P D vwCl [(h0, .inr (11, f0)), (h2, .inr (5, f1))] s.heap := hP
  have hl := lv_entry ([.ref h0, .int x0, .int x1, .ref h1] : List Value) (n := 5) (Nat.le_of_ble_eq_true rfl)
  rw [lg_entry_eq]
  generalize (lg_sl ([.ref h0, .int x0, .int x1, .ref h1]) ++ List.replicate (5 - (lg_sl ([.ref h0, .int x0, .int x1, .ref h1])).length) Slot.unset).toArray = ls at hl ⊢
  have hl : lv_has ls 5 [(0, .ref h0), (1, .int x0), (2, .int x1), (3, .ref h1)] := hl
  refine lv_aload_n hx hb dL_half_0 rfl (lv_at hl 3 rfl) ?_
  refine lv_iconst (v := 0) hx hb dL_half_1 (by decide) ?_
  refine lv_aload_n hx hb dL_half_2 rfl (lv_at hl 0 rfl) ?_
  refine lv_iload_n hx hb dL_half_3 rfl (lv_at hl 1 rfl) ?_
  refine lv_iload_n hx hb dL_half_4 rfl (lv_at hl 2 rfl) ?_
  refine k_cTi (As := [.int x0, .int x1]) (rest := [.int 0, .ref h1]) (wc := [(h0, .inr (11, f0)), (h2, .inr (5, f1))]) (wr := []) ⟨hx, hb, hml, hown, hts⟩ hN hX hAE hK hP hD hS hA [0, 1] [] (ci := 11) rfl rfl rfl rfl (by decide +kernel) (by decide +kernel) (by decide +kernel) (c_X11_half_0 l E D cI cJ cB cZ h0 x0 x1 f0 h2 f1 e0 e1 e2 hl9) (cwV 2 hts gL_half_X11_half rfl rfl rfl (by decide +kernel) ⟨Nat.le_of_ble_eq_true rfl, Nat.le_of_ble_eq_true rfl⟩) rfl hl.1 (Nat.le_of_ble_eq_true rfl) dL_half_5 ⟨Nat.le_of_ble_eq_true rfl, Nat.le_of_ble_eq_true rfl⟩ (fun q9 ce H locs hP hD hS hce hcv hcl => ?_)
  have hP : va_P D vwCl [(h0, .inr (11, f0)), (h2, .inr (5, f1))] H := hP
  have hD : va_D A [(h0, .inr (11, f0)), (h2, .inr (5, f1))] := hD
  refine vx_catch (own := RL) (name := "java/lang/IndexOutOfBoundsException") hown [] ⟨0, 10, 13, 25⟩ [] (vx_table B (hts _ List.mem_cons_self)) (fun z hz => absurd hz List.not_mem_nil) (by decide) (by decide) (hts (.classLink RL 25 "java/lang/IndexOutOfBoundsException") (List.mem_cons_of_mem _ (List.mem_append_left _ (List.mem_append_left _ (List.mem_append_left _ (List.mem_of_getElem? (i := 0) rfl)))))) (va_Nw.use rfl (kX.cast hX "java/lang/IndexOutOfBoundsException" (by decide))) hce hcv hcl ?_
  refine W.eq (g2 := F0 m 13 ls [.ref q9]) rfl ?_
  refine W.widen (k := 1) (n := 6) (Nat.le_of_ble_eq_true rfl) (Nat.le_of_ble_eq_true rfl) ?_
  refine lv_astore (lv' := [(4, .ref q9), (0, .ref h0), (1, .int x0), (2, .int x1), (3, .ref h1)]) hx hb dL_half_13 hl (by decide) rfl (fun ls hl => ?_)
  refine lv_iconst (v := 1) hx hb dL_half_15 (by decide) ?_
  exact W.iret (v := 1) hx hb hr (fun t ht hW => ⟨⟨1, (), rfl, rfl, kB_mk ht hW hP hK hD⟩, hS.F ht⟩) hS.2.2 dL_half_16
set_option maxHeartbeats 400000000 in
set_option maxRecDepth 100000 in
theorem c_X12_half_0 (l : Launch) (E : kE) (D : va_G) (cI cJ cB cZ : ClassId) (h0 : Nat) (x0 : Int32) (x1 : Int32) (f0 : List Value) (e0 : f0[156]? = some (.int 0)) (e1 : ¬ ((x0 : Int32) < 0)) (e2 : f0[0]? = some (.int 0)) : kI l E D (kT cI cJ cB cZ) yX12_half wsX12_half ({ frames := 1, cells := 0, slots := 0, locals := 25 }) [.ref h0, .int x0, .int x1] [(h0, .inr (12, f0))] (0) [(h0, .inr (12, (f0.set 0 (.int 1))))] 0 0 := by
  intro sz
  refine Met.ofW (cc := cX12_half) (maxL := 3) (ret := (some .int)) (by decide) rfl ?_
  intro p e s m args below meth c s₁ B hml hv
  obtain ⟨rfl, hsz, hP, hK, hD0, hN, hX⟩ := hv
  have hx := B.exec
  have hb := B.bytes
  have hr := B.returns
  have hts := atoms_spec (ws := wsX12_half) B.pre
  have hown : s.vm.findClass RX12 = some m.cls := findClass_of_methodNamed B.named
  have hlocks := B.notSynchronized
  have hin12 : ∀ w ∈ wsX120, w ∈ wsX12_half := (fun w h => (List.mem_cons_of_mem _ (List.mem_append_right _ h)))
  subst hsz
  have hD := hD0.self (sz := s.heap.size)
  have hAE := k_AE hD0 hX
  generalize hAe : va_A [(h0, .inr (12, f0))] s.heap.size = A at hD hAE ⊢
  have hA : ∀ q : Nat, s.heap.size ≤ q → A q := fun q h => by rw [← hAe]; exact Or.inr h
  have hS : va_S A s.heap s.heap [] := va_S.rf
  have hP : va_P D vwCl [(h0, .inr (12, f0))] s.heap := hP
  have hl := lv_entry ([.ref h0, .int x0, .int x1] : List Value) (n := 3) (Nat.le_of_ble_eq_true rfl)
  rw [lg_entry_eq]
  generalize (lg_sl ([.ref h0, .int x0, .int x1]) ++ List.replicate (3 - (lg_sl ([.ref h0, .int x0, .int x1])).length) Slot.unset).toArray = ls at hl ⊢
  have hl : lv_has ls 3 [(0, .ref h0), (1, .int x0), (2, .int x1)] := hl
  refine lv_aload_n hx hb dX12_half_0 rfl (lv_at hl 0 rfl) ?_
  refine lv_iload_n hx hb dX12_half_1 rfl (lv_at hl 1 rfl) ?_
  refine lv_i2l (v := (Int32.toInt64 x0)) hx hb dX12_half_2 rfl ?_
  refine lv_lconst (v := 0) hx hb dX12_half_3 (by decide) ?_
  refine lv_aload_n hx hb dX12_half_4 rfl (lv_at hl 0 rfl) ?_
  refine va_get (D := D) (ref := "IntegerHouseModel") (ci := 12) (v := .int 0) (C := RX12) (T := TX12) (N := 195) hx hb hts hin12 hown hK hP 0 rfl rfl 156 (by decide) (hts (.fieldLink RX12 1061 "IntegerHouseModel" "ownStates" "I") (List.mem_cons_of_mem _ (List.mem_append_left _ (List.mem_of_getElem? (i := 0) rfl)))) (fun _ h9 => h9) e0 dX12_half_5 ?_
  refine lv_iconst (v := 1) hx hb dX12_half_8 (by decide) ?_
  refine lv_isub hx hb dX12_half_9 ?_
  refine k_topi (y := (-1)) (by decide) ?_
  refine lv_i2l (v := (-1)) hx hb dX12_half_10 (by decide) ?_
  refine k_cSi (As := [.long (Int32.toInt64 x0), .long 0, .long (-1)]) (rest := [.ref h0]) (wc := []) (wr := [(h0, .inr (12, f0))]) (w1 := []) ⟨hx, hb, hml, hown, hts⟩ hN hX hAE hK hP hD hS hA [] [0] rfl rfl (by decide +kernel) (by decide +kernel) (by decide +kernel) (c_X12_in_12 l E D cI cJ cB cZ (Int32.toInt64 x0) (fun z9 => e1 ((k_n4 (x := x0) (c := 0) (C := 0) (by decide)).mp z9)) ((k_n5 (x := x0) (c := (-1)) (d := 0) (C := (-1)) (by decide) (by decide)).mpr e1)) (va_cwS 3 hts gX12_half_X12_in rfl rfl rfl (by decide +kernel) ⟨Nat.le_of_ble_eq_true rfl, Nat.le_of_ble_eq_true rfl⟩) rfl hl.1 (Nat.le_of_ble_eq_true rfl) dX12_half_11 ⟨Nat.le_of_ble_eq_true rfl, Nat.le_of_ble_eq_true rfl⟩ (fun H locs hP hD hS => ?_)
  have hP : va_P D vwCl [(h0, .inr (12, f0))] H := hP
  have hD : va_D A [(h0, .inr (12, f0))] := hD
  refine lv_if_eq (tgt := 37) hx hb dX12_half_14 (by decide) (fun _ => ?_) (fun c9 => absurd (by decide) c9)
  refine lv_iconst (v := 1) hx hb dX12_half_37 (by decide) ?_
  refine va_put (D := D) (ref := "IntegerHouseModel") (ci := 12) (v := .int 1) (ty := .int) (C := RX12) (T := TX12) (N := 195) hx hb hts hin12 tyX12 tyX12_ok nmX12 hown hK hP hD hS 0 rfl rfl 0 (by decide) (hts (.fieldLink RX12 3 "IntegerHouseModel" "thrown" "I") (List.mem_cons_of_mem _ (List.mem_append_left _ (List.mem_of_getElem? (i := 2) rfl)))) (fun _ h9 => h9) rfl (by decide +kernel) rfl rfl (k_len e2) dX12_half_38 (fun H locs hP hD hS => ?_)
  have hP : va_P D vwCl [(h0, .inr (12, (f0.set 0 (.int 1))))] H := hP
  have hD : va_D A [(h0, .inr (12, (f0.set 0 (.int 1))))] := hD
  refine lv_aload_n hx hb dX12_half_41 rfl (lv_at hl 0 rfl) ?_
  refine va_get (D := D) (ref := "IntegerHouseModel") (ci := 12) (v := .int 1) (C := RX12) (T := TX12) (N := 195) hx hb hts hin12 hown hK hP 0 rfl rfl 0 (by decide) (hts (.fieldLink RX12 3 "IntegerHouseModel" "thrown" "I") (List.mem_cons_of_mem _ (List.mem_append_left _ (List.mem_of_getElem? (i := 2) rfl)))) (fun _ h9 => h9) (k_set e2) dX12_half_42 ?_
  refine lv_if_le (tgt := 52) hx hb dX12_half_45 (by decide) (fun c9 => absurd c9 (by decide)) (fun _ => ?_)
  refine lv_iconst (v := 0) hx hb dX12_half_48 (by decide) ?_
  refine lv_goto (tgt := 63) hx hb dX12_half_49 (by decide) ?_
  exact W.iret (v := 0) hx hb hr (fun t ht hW => ⟨⟨0, (), rfl, rfl, kB_mk ht hW hP hK hD⟩, hS.F ht⟩) hS.2.2 dX12_half_63
set_option maxHeartbeats 400000000 in
set_option maxRecDepth 100000 in
theorem c_X5_isTold_1 (l : Launch) (E : kE) (D : va_G) (cI cJ cB cZ : ClassId) (h0 : Nat) (x0 : Int32) (x1 : Int32) (e0 : (x0 : Int32) < 0) : kI l E D (kT cI cJ cB cZ) yX5_isTold wsX5_isTold ({ frames := 0, cells := 0, slots := 0, locals := 0 }) [.ref h0, .int x0, .int x1] [] (0) [] 0 0 := by
  intro sz
  refine Met.ofW (cc := cX5_isTold) (maxL := 3) (ret := (some .boolean)) (by decide) rfl ?_
  intro p e s m args below meth c s₁ B hml hv
  obtain ⟨rfl, hsz, hP, hK, hD0, hN, hX⟩ := hv
  have hx := B.exec
  have hb := B.bytes
  have hr := B.returns
  have hts := atoms_spec (ws := wsX5_isTold) B.pre
  have hown : s.vm.findClass RX5 = some m.cls := findClass_of_methodNamed B.named
  have hlocks := B.notSynchronized
  subst hsz
  have hD := hD0.self (sz := s.heap.size)
  have hAE := k_AE hD0 hX
  generalize hAe : va_A [] s.heap.size = A at hD hAE ⊢
  have hA : ∀ q : Nat, s.heap.size ≤ q → A q := fun q h => by rw [← hAe]; exact Or.inr h
  have hS : va_S A s.heap s.heap [] := va_S.rf
  have hP : va_P D vwCl [] s.heap := hP
  have hl := lv_entry ([.ref h0, .int x0, .int x1] : List Value) (n := 3) (Nat.le_of_ble_eq_true rfl)
  rw [lg_entry_eq]
  generalize (lg_sl ([.ref h0, .int x0, .int x1]) ++ List.replicate (3 - (lg_sl ([.ref h0, .int x0, .int x1])).length) Slot.unset).toArray = ls at hl ⊢
  have hl : lv_has ls 3 [(0, .ref h0), (1, .int x0), (2, .int x1)] := hl
  refine lv_iload_n hx hb dX5_isTold_0 rfl (lv_at hl 1 rfl) ?_
  refine lv_if_lt (tgt := 28) hx hb dX5_isTold_1 (by decide) (fun _ => ?_) (fun c9 => absurd e0 c9)
  refine lv_iconst (v := 0) hx hb dX5_isTold_28 (by decide) ?_
  exact W.zret (v := 0) hx hb hr rfl (fun t ht hW => ⟨⟨0, (), rfl, rfl, kB_mk ht hW hP hK hD⟩, hS.F ht⟩) hS.2.2 dX5_isTold_29
set_option maxHeartbeats 400000000 in
set_option maxRecDepth 100000 in
theorem c_X11_half_1 (l : Launch) (E : kE) (D : va_G) (cI cJ cB cZ : ClassId) (h0 : Nat) (x0 : Int32) (x1 : Int32) (f0 : List Value) (h1 : Nat) (e0 : f0[8]? = some (.ref h1)) (e1 : (x0 : Int32) < 0) (hl9 : l.stackTraces = false) : kTI l E D (kT cI cJ cB cZ) yX11_half wsX11_half ({ frames := 6, cells := 1, slots := 6, locals := 82 }) [.ref h0, .int x0, .int x1] [(h0, .inr (11, f0))] "java/lang/IndexOutOfBoundsException" 1 6 := by
  intro sz
  refine vx_ofW (cc := cX11_half) (maxL := 3) (ret := (some .int)) (by decide) rfl ?_
  intro p e s m args below meth c s₁ B hml ht9 hv
  obtain ⟨rfl, hsz, hP, hK, hD0, hN, hX⟩ := hv
  have hx := B.exec
  have hb := B.bytes
  have hr := B.returns
  have hts := atoms_spec (ws := wsX11_half) B.pre
  have hown : s.vm.findClass RX11 = some m.cls := findClass_of_methodNamed B.named
  have hlocks := B.notSynchronized
  have hin11 : ∀ w ∈ wsX110, w ∈ wsX11_half := (fun w h => (List.mem_cons_of_mem _ (List.mem_append_left _ (List.mem_append_left _ (List.mem_append_right _ h)))))
  subst hsz
  have hD := hD0.self (sz := s.heap.size)
  have hAE := k_AE hD0 hX
  generalize hAe : va_A [(h0, .inr (11, f0))] s.heap.size = A at hD hAE ⊢
  have hA : ∀ q : Nat, s.heap.size ≤ q → A q := fun q h => by rw [← hAe]; exact Or.inr h
  have hS : va_S A s.heap s.heap [] := va_S.rf
  have hP : va_P D vwCl [(h0, .inr (11, f0))] s.heap := hP
  have hl := lv_entry ([.ref h0, .int x0, .int x1] : List Value) (n := 3) (Nat.le_of_ble_eq_true rfl)
  rw [lg_entry_eq]
  generalize (lg_sl ([.ref h0, .int x0, .int x1]) ++ List.replicate (3 - (lg_sl ([.ref h0, .int x0, .int x1])).length) Slot.unset).toArray = ls at hl ⊢
  have hl : lv_has ls 3 [(0, .ref h0), (1, .int x0), (2, .int x1)] := hl
  refine lv_aload_n hx hb dX11_half_0 rfl (lv_at hl 0 rfl) ?_
  refine va_get (D := D) (ref := "IntegerHouse") (ci := 11) (v := .ref h1) (C := RX11) (T := TX11) (N := 15) hx hb hts hin11 hown hK hP 0 rfl rfl 8 (by decide) (hts (.fieldLink RX11 73 "IntegerHouse" "ownForm" "LIntegerHouse$OwnForm;") (List.mem_cons_of_mem _ (List.mem_append_left _ (List.mem_append_left _ (List.mem_append_left _ (List.mem_of_getElem? (i := 2) rfl)))))) (fun _ h9 => h9) e0 dX11_half_1 ?_
  refine lv_iload_n hx hb dX11_half_4 rfl (lv_at hl 1 rfl) ?_
  refine lv_iload_n hx hb dX11_half_5 rfl (lv_at hl 2 rfl) ?_
  refine k_cVi (As := [.int x0, .int x1]) (rest := []) (wc := []) (wr := [(h0, .inr (11, f0))]) (w1 := []) ⟨hx, hb, hml, hown, hts⟩ hN hX hAE hK hP hD hS hA [] [0] (ci := 5) rfl rfl rfl rfl (by decide +kernel) (by decide +kernel) (by decide +kernel) (c_X5_isTold_1 l E D cI cJ cB cZ h1 x0 x1 e1) (cwV 2 hts gX11_half_X5_isTold rfl rfl rfl (by decide +kernel) ⟨Nat.le_of_ble_eq_true rfl, Nat.le_of_ble_eq_true rfl⟩) rfl hl.1 (Nat.le_of_ble_eq_true rfl) dX11_half_6 ⟨Nat.le_of_ble_eq_true rfl, Nat.le_of_ble_eq_true rfl⟩ (fun H locs hP hD hS => ?_)
  have hP : va_P D vwCl [(h0, .inr (11, f0))] H := hP
  have hD : va_D A [(h0, .inr (11, f0))] := hD
  refine lv_if_ne (tgt := 23) hx hb dX11_half_9 (by decide) (fun c9 => absurd (by decide) c9) (fun _ => ?_)
  obtain ⟨a9, a9r, a9o⟩ := kX.st hX hAE ("IntegerHouse", 362, "no such state or letter was told") (List.mem_of_getElem? (i := 7) rfl)
  exact vx_throwSW (names := ["java/lang/RuntimeException", "java/lang/Exception"]) (A := A) hx hb hl9 hown (by decide +kernel) (by decide +kernel) (hts (.classLink RX11 197 "java/lang/IndexOutOfBoundsException") (List.mem_cons_of_mem _ (List.mem_append_left _ (List.mem_append_left _ (List.mem_append_left _ (List.mem_of_getElem? (i := 0) rfl)))))) (hts (.initialized "java/lang/IndexOutOfBoundsException") (List.mem_cons_of_mem _ (List.mem_append_left _ (List.mem_append_left _ (List.mem_append_left _ (List.mem_of_getElem? (i := 1) rfl)))))) a9r (vx_hat (L := vx_atS RX11 201 "java/lang/IndexOutOfBoundsException" ["java/lang/RuntimeException", "java/lang/Exception"]) (B := [.castable "java/lang/IndexOutOfBoundsException" "java/lang/IndexOutOfBoundsException", .declares (Bundle.initS "java/lang/RuntimeException"), .declares (Bundle.initS "java/lang/Exception"), .declares (Bundle.initS "java/lang/Throwable")]) (fun w h => hts w (List.mem_cons_of_mem _ (List.mem_append_right _ h))) (by decide +kernel) (vx_c (va_Nw.use rfl (kX.cast hX "java/lang/IndexOutOfBoundsException" (by decide))) (vx_c (va_Nw.use rfl (kX.decl hX "java/lang/RuntimeException" (by decide))) (vx_c (va_Nw.use rfl (kX.decl hX "java/lang/Exception" (by decide))) (vx_c (va_Nw.use rfl (kX.decl hX "java/lang/Throwable" (by decide))) vx_n))))) (by decide +kernel) (kX.us hX hAE) (kX.ss hX hAE) hS (by rw [hml]; exact hl.1) dX11_half_12 dX11_half_15 dX11_half_16 dX11_half_19 dX11_half_22 (fun x hx => (ht9 x hx).elim) (Nat.le_of_ble_eq_true rfl) (Nat.le_of_ble_eq_true rfl) (Nat.le_of_ble_eq_true rfl) (Nat.le_of_ble_eq_true rfl) hlocks (fun t h1 h2 h3 => k_tx hP hK hD hS t h1 h2 h3) hS.2.2 (Nat.le_of_ble_eq_true rfl) (Nat.le_of_ble_eq_true rfl)
set_option maxHeartbeats 400000000 in
set_option maxRecDepth 100000 in
theorem c_L_half_1 (l : Launch) (E : kE) (D : va_G) (cI cJ cB cZ : ClassId) (h0 : Nat) (x0 : Int32) (x1 : Int32) (h1 : Nat) (f0 : List Value) (h2 : Nat) (e0 : f0[8]? = some (.ref h2)) (e1 : (x0 : Int32) < 0) (hl9 : l.stackTraces = false) : kI l E D (kT cI cJ cB cZ) yL_half wsL_half ({ frames := 7, cells := 1, slots := 6, locals := 104 }) [.ref h0, .int x0, .int x1, .ref h1] [(h0, .inr (11, f0))] (1) [(h0, .inr (11, f0))] 1 6 := by
  intro sz
  refine k_metH (cc := cL_half) (maxL := 5) (ret := (some .int)) (hh := [(0, 10, 13, 25)]) (by decide) rfl ?_
  intro p e s m args below meth c s₁ B hml hv
  obtain ⟨rfl, hsz, hP, hK, hD0, hN, hX⟩ := hv
  have hx := B.exec
  have hb := B.bytes
  have hr := B.returns
  have hts := atoms_spec (ws := wsL_half) B.pre
  have hown : s.vm.findClass RL = some m.cls := findClass_of_methodNamed B.named
  have hlocks := B.notSynchronized
  subst hsz
  have hD := hD0.self (sz := s.heap.size)
  have hAE := k_AE hD0 hX
  generalize hAe : va_A [(h0, .inr (11, f0))] s.heap.size = A at hD hAE ⊢
  have hA : ∀ q : Nat, s.heap.size ≤ q → A q := fun q h => by rw [← hAe]; exact Or.inr h
  have hS : va_S A s.heap s.heap [] := va_S.rf
  have hP : va_P D vwCl [(h0, .inr (11, f0))] s.heap := hP
  have hl := lv_entry ([.ref h0, .int x0, .int x1, .ref h1] : List Value) (n := 5) (Nat.le_of_ble_eq_true rfl)
  rw [lg_entry_eq]
  generalize (lg_sl ([.ref h0, .int x0, .int x1, .ref h1]) ++ List.replicate (5 - (lg_sl ([.ref h0, .int x0, .int x1, .ref h1])).length) Slot.unset).toArray = ls at hl ⊢
  have hl : lv_has ls 5 [(0, .ref h0), (1, .int x0), (2, .int x1), (3, .ref h1)] := hl
  refine lv_aload_n hx hb dL_half_0 rfl (lv_at hl 3 rfl) ?_
  refine lv_iconst (v := 0) hx hb dL_half_1 (by decide) ?_
  refine lv_aload_n hx hb dL_half_2 rfl (lv_at hl 0 rfl) ?_
  refine lv_iload_n hx hb dL_half_3 rfl (lv_at hl 1 rfl) ?_
  refine lv_iload_n hx hb dL_half_4 rfl (lv_at hl 2 rfl) ?_
  refine k_cTi (As := [.int x0, .int x1]) (rest := [.int 0, .ref h1]) (wc := [(h0, .inr (11, f0))]) (wr := []) ⟨hx, hb, hml, hown, hts⟩ hN hX hAE hK hP hD hS hA [0] [] (ci := 11) rfl rfl rfl rfl (by decide +kernel) (by decide +kernel) (by decide +kernel) (c_X11_half_1 l E D cI cJ cB cZ h0 x0 x1 f0 h2 e0 e1 hl9) (cwV 2 hts gL_half_X11_half rfl rfl rfl (by decide +kernel) ⟨Nat.le_of_ble_eq_true rfl, Nat.le_of_ble_eq_true rfl⟩) rfl hl.1 (Nat.le_of_ble_eq_true rfl) dL_half_5 ⟨Nat.le_of_ble_eq_true rfl, Nat.le_of_ble_eq_true rfl⟩ (fun q9 ce H locs hP hD hS hce hcv hcl => ?_)
  have hP : va_P D vwCl [(h0, .inr (11, f0))] H := hP
  have hD : va_D A [(h0, .inr (11, f0))] := hD
  refine vx_catch (own := RL) (name := "java/lang/IndexOutOfBoundsException") hown [] ⟨0, 10, 13, 25⟩ [] (vx_table B (hts _ List.mem_cons_self)) (fun z hz => absurd hz List.not_mem_nil) (by decide) (by decide) (hts (.classLink RL 25 "java/lang/IndexOutOfBoundsException") (List.mem_cons_of_mem _ (List.mem_append_left _ (List.mem_append_left _ (List.mem_append_left _ (List.mem_of_getElem? (i := 0) rfl)))))) (va_Nw.use rfl (kX.cast hX "java/lang/IndexOutOfBoundsException" (by decide))) hce hcv hcl ?_
  refine W.eq (g2 := F0 m 13 ls [.ref q9]) rfl ?_
  refine W.widen (k := 1) (n := 6) (Nat.le_of_ble_eq_true rfl) (Nat.le_of_ble_eq_true rfl) ?_
  refine lv_astore (lv' := [(4, .ref q9), (0, .ref h0), (1, .int x0), (2, .int x1), (3, .ref h1)]) hx hb dL_half_13 hl (by decide) rfl (fun ls hl => ?_)
  refine lv_iconst (v := 1) hx hb dL_half_15 (by decide) ?_
  exact W.iret (v := 1) hx hb hr (fun t ht hW => ⟨⟨1, (), rfl, rfl, kB_mk ht hW hP hK hD⟩, hS.F ht⟩) hS.2.2 dL_half_16
set_option maxHeartbeats 400000000 in
set_option maxRecDepth 100000 in
theorem c_X12_half_1 (l : Launch) (E : kE) (D : va_G) (cI cJ cB cZ : ClassId) (h0 : Nat) (x0 : Int32) (x1 : Int32) (f0 : List Value) (e0 : f0[156]? = some (.int 0)) (e1 : (x0 : Int32) < 0) (e2 : f0[0]? = some (.int 0)) : kI l E D (kT cI cJ cB cZ) yX12_half wsX12_half ({ frames := 1, cells := 0, slots := 0, locals := 25 }) [.ref h0, .int x0, .int x1] [(h0, .inr (12, f0))] (0) [(h0, .inr (12, (f0.set 0 (.int 1))))] 0 0 := by
  intro sz
  refine Met.ofW (cc := cX12_half) (maxL := 3) (ret := (some .int)) (by decide) rfl ?_
  intro p e s m args below meth c s₁ B hml hv
  obtain ⟨rfl, hsz, hP, hK, hD0, hN, hX⟩ := hv
  have hx := B.exec
  have hb := B.bytes
  have hr := B.returns
  have hts := atoms_spec (ws := wsX12_half) B.pre
  have hown : s.vm.findClass RX12 = some m.cls := findClass_of_methodNamed B.named
  have hlocks := B.notSynchronized
  have hin12 : ∀ w ∈ wsX120, w ∈ wsX12_half := (fun w h => (List.mem_cons_of_mem _ (List.mem_append_right _ h)))
  subst hsz
  have hD := hD0.self (sz := s.heap.size)
  have hAE := k_AE hD0 hX
  generalize hAe : va_A [(h0, .inr (12, f0))] s.heap.size = A at hD hAE ⊢
  have hA : ∀ q : Nat, s.heap.size ≤ q → A q := fun q h => by rw [← hAe]; exact Or.inr h
  have hS : va_S A s.heap s.heap [] := va_S.rf
  have hP : va_P D vwCl [(h0, .inr (12, f0))] s.heap := hP
  have hl := lv_entry ([.ref h0, .int x0, .int x1] : List Value) (n := 3) (Nat.le_of_ble_eq_true rfl)
  rw [lg_entry_eq]
  generalize (lg_sl ([.ref h0, .int x0, .int x1]) ++ List.replicate (3 - (lg_sl ([.ref h0, .int x0, .int x1])).length) Slot.unset).toArray = ls at hl ⊢
  have hl : lv_has ls 3 [(0, .ref h0), (1, .int x0), (2, .int x1)] := hl
  refine lv_aload_n hx hb dX12_half_0 rfl (lv_at hl 0 rfl) ?_
  refine lv_iload_n hx hb dX12_half_1 rfl (lv_at hl 1 rfl) ?_
  refine lv_i2l (v := (Int32.toInt64 x0)) hx hb dX12_half_2 rfl ?_
  refine lv_lconst (v := 0) hx hb dX12_half_3 (by decide) ?_
  refine lv_aload_n hx hb dX12_half_4 rfl (lv_at hl 0 rfl) ?_
  refine va_get (D := D) (ref := "IntegerHouseModel") (ci := 12) (v := .int 0) (C := RX12) (T := TX12) (N := 195) hx hb hts hin12 hown hK hP 0 rfl rfl 156 (by decide) (hts (.fieldLink RX12 1061 "IntegerHouseModel" "ownStates" "I") (List.mem_cons_of_mem _ (List.mem_append_left _ (List.mem_of_getElem? (i := 0) rfl)))) (fun _ h9 => h9) e0 dX12_half_5 ?_
  refine lv_iconst (v := 1) hx hb dX12_half_8 (by decide) ?_
  refine lv_isub hx hb dX12_half_9 ?_
  refine k_topi (y := (-1)) (by decide) ?_
  refine lv_i2l (v := (-1)) hx hb dX12_half_10 (by decide) ?_
  refine k_cSi (As := [.long (Int32.toInt64 x0), .long 0, .long (-1)]) (rest := [.ref h0]) (wc := []) (wr := [(h0, .inr (12, f0))]) (w1 := []) ⟨hx, hb, hml, hown, hts⟩ hN hX hAE hK hP hD hS hA [] [0] rfl rfl (by decide +kernel) (by decide +kernel) (by decide +kernel) (c_X12_in_13 l E D cI cJ cB cZ (Int32.toInt64 x0) ((k_n4 (x := x0) (c := 0) (C := 0) (by decide)).mpr e1)) (va_cwS 3 hts gX12_half_X12_in rfl rfl rfl (by decide +kernel) ⟨Nat.le_of_ble_eq_true rfl, Nat.le_of_ble_eq_true rfl⟩) rfl hl.1 (Nat.le_of_ble_eq_true rfl) dX12_half_11 ⟨Nat.le_of_ble_eq_true rfl, Nat.le_of_ble_eq_true rfl⟩ (fun H locs hP hD hS => ?_)
  have hP : va_P D vwCl [(h0, .inr (12, f0))] H := hP
  have hD : va_D A [(h0, .inr (12, f0))] := hD
  refine lv_if_eq (tgt := 37) hx hb dX12_half_14 (by decide) (fun _ => ?_) (fun c9 => absurd (by decide) c9)
  refine lv_iconst (v := 1) hx hb dX12_half_37 (by decide) ?_
  refine va_put (D := D) (ref := "IntegerHouseModel") (ci := 12) (v := .int 1) (ty := .int) (C := RX12) (T := TX12) (N := 195) hx hb hts hin12 tyX12 tyX12_ok nmX12 hown hK hP hD hS 0 rfl rfl 0 (by decide) (hts (.fieldLink RX12 3 "IntegerHouseModel" "thrown" "I") (List.mem_cons_of_mem _ (List.mem_append_left _ (List.mem_of_getElem? (i := 2) rfl)))) (fun _ h9 => h9) rfl (by decide +kernel) rfl rfl (k_len e2) dX12_half_38 (fun H locs hP hD hS => ?_)
  have hP : va_P D vwCl [(h0, .inr (12, (f0.set 0 (.int 1))))] H := hP
  have hD : va_D A [(h0, .inr (12, (f0.set 0 (.int 1))))] := hD
  refine lv_aload_n hx hb dX12_half_41 rfl (lv_at hl 0 rfl) ?_
  refine va_get (D := D) (ref := "IntegerHouseModel") (ci := 12) (v := .int 1) (C := RX12) (T := TX12) (N := 195) hx hb hts hin12 hown hK hP 0 rfl rfl 0 (by decide) (hts (.fieldLink RX12 3 "IntegerHouseModel" "thrown" "I") (List.mem_cons_of_mem _ (List.mem_append_left _ (List.mem_of_getElem? (i := 2) rfl)))) (fun _ h9 => h9) (k_set e2) dX12_half_42 ?_
  refine lv_if_le (tgt := 52) hx hb dX12_half_45 (by decide) (fun c9 => absurd c9 (by decide)) (fun _ => ?_)
  refine lv_iconst (v := 0) hx hb dX12_half_48 (by decide) ?_
  refine lv_goto (tgt := 63) hx hb dX12_half_49 (by decide) ?_
  exact W.iret (v := 0) hx hb hr (fun t ht hW => ⟨⟨0, (), rfl, rfl, kB_mk ht hW hP hK hD⟩, hS.F ht⟩) hS.2.2 dX12_half_63
set_option maxHeartbeats 400000000 in
set_option maxRecDepth 100000 in
theorem c_X11_takes_0 (l : Launch) (E : kE) (D : va_G) (cI cJ cB cZ : ClassId) (h0 : Nat) (x0 : Int32) (x1 : Int32) (f0 : List Value) (h1 : Nat) (f1 : List Value) (e0 : f0[8]? = some (.ref h1)) (e1 : ¬ ((x0 : Int32) < 0)) (e2 : f1[9]? = some (.int 0)) (hl9 : l.stackTraces = false) : kTI l E D (kT cI cJ cB cZ) yX11_takes wsX11_takes ({ frames := 6, cells := 1, slots := 6, locals := 82 }) [.ref h0, .int x0, .int x1] [(h0, .inr (11, f0)), (h1, .inr (5, f1))] "java/lang/IndexOutOfBoundsException" 1 6 := by
  intro sz
  refine vx_ofW (cc := cX11_takes) (maxL := 3) (ret := (some .int)) (by decide) rfl ?_
  intro p e s m args below meth c s₁ B hml ht9 hv
  obtain ⟨rfl, hsz, hP, hK, hD0, hN, hX⟩ := hv
  have hx := B.exec
  have hb := B.bytes
  have hr := B.returns
  have hts := atoms_spec (ws := wsX11_takes) B.pre
  have hown : s.vm.findClass RX11 = some m.cls := findClass_of_methodNamed B.named
  have hlocks := B.notSynchronized
  have hin11 : ∀ w ∈ wsX110, w ∈ wsX11_takes := (fun w h => (List.mem_cons_of_mem _ (List.mem_append_left _ (List.mem_append_left _ (List.mem_append_right _ h)))))
  subst hsz
  have hD := hD0.self (sz := s.heap.size)
  have hAE := k_AE hD0 hX
  generalize hAe : va_A [(h0, .inr (11, f0)), (h1, .inr (5, f1))] s.heap.size = A at hD hAE ⊢
  have hA : ∀ q : Nat, s.heap.size ≤ q → A q := fun q h => by rw [← hAe]; exact Or.inr h
  have hS : va_S A s.heap s.heap [] := va_S.rf
  have hP : va_P D vwCl [(h0, .inr (11, f0)), (h1, .inr (5, f1))] s.heap := hP
  have hl := lv_entry ([.ref h0, .int x0, .int x1] : List Value) (n := 3) (Nat.le_of_ble_eq_true rfl)
  rw [lg_entry_eq]
  generalize (lg_sl ([.ref h0, .int x0, .int x1]) ++ List.replicate (3 - (lg_sl ([.ref h0, .int x0, .int x1])).length) Slot.unset).toArray = ls at hl ⊢
  have hl : lv_has ls 3 [(0, .ref h0), (1, .int x0), (2, .int x1)] := hl
  refine lv_aload_n hx hb dX11_takes_0 rfl (lv_at hl 0 rfl) ?_
  refine va_get (D := D) (ref := "IntegerHouse") (ci := 11) (v := .ref h1) (C := RX11) (T := TX11) (N := 15) hx hb hts hin11 hown hK hP 0 rfl rfl 8 (by decide) (hts (.fieldLink RX11 73 "IntegerHouse" "ownForm" "LIntegerHouse$OwnForm;") (List.mem_cons_of_mem _ (List.mem_append_left _ (List.mem_append_left _ (List.mem_append_left _ (List.mem_of_getElem? (i := 2) rfl)))))) (fun _ h9 => h9) e0 dX11_takes_1 ?_
  refine lv_iload_n hx hb dX11_takes_4 rfl (lv_at hl 1 rfl) ?_
  refine lv_iload_n hx hb dX11_takes_5 rfl (lv_at hl 2 rfl) ?_
  refine k_cVi (As := [.int x0, .int x1]) (rest := []) (wc := [(h1, .inr (5, f1))]) (wr := [(h0, .inr (11, f0))]) (w1 := [(h1, .inr (5, f1))]) ⟨hx, hb, hml, hown, hts⟩ hN hX hAE hK hP hD hS hA [1] [0] (ci := 5) rfl rfl rfl rfl (by decide +kernel) (by decide +kernel) (by decide +kernel) (c_X5_isTold_0 l E D cI cJ cB cZ h1 x0 x1 f1 e1 e2) (cwV 2 hts gX11_takes_X5_isTold rfl rfl rfl (by decide +kernel) ⟨Nat.le_of_ble_eq_true rfl, Nat.le_of_ble_eq_true rfl⟩) rfl hl.1 (Nat.le_of_ble_eq_true rfl) dX11_takes_6 ⟨Nat.le_of_ble_eq_true rfl, Nat.le_of_ble_eq_true rfl⟩ (fun H locs hP hD hS => ?_)
  have hP : va_P D vwCl [(h0, .inr (11, f0)), (h1, .inr (5, f1))] H := hP
  have hD : va_D A [(h0, .inr (11, f0)), (h1, .inr (5, f1))] := hD
  refine lv_if_ne (tgt := 23) hx hb dX11_takes_9 (by decide) (fun c9 => absurd (by decide) c9) (fun _ => ?_)
  obtain ⟨a9, a9r, a9o⟩ := kX.st hX hAE ("IntegerHouse", 362, "no such state or letter was told") (List.mem_of_getElem? (i := 7) rfl)
  exact vx_throwSW (names := ["java/lang/RuntimeException", "java/lang/Exception"]) (A := A) hx hb hl9 hown (by decide +kernel) (by decide +kernel) (hts (.classLink RX11 197 "java/lang/IndexOutOfBoundsException") (List.mem_cons_of_mem _ (List.mem_append_left _ (List.mem_append_left _ (List.mem_append_left _ (List.mem_of_getElem? (i := 0) rfl)))))) (hts (.initialized "java/lang/IndexOutOfBoundsException") (List.mem_cons_of_mem _ (List.mem_append_left _ (List.mem_append_left _ (List.mem_append_left _ (List.mem_of_getElem? (i := 1) rfl)))))) a9r (vx_hat (L := vx_atS RX11 201 "java/lang/IndexOutOfBoundsException" ["java/lang/RuntimeException", "java/lang/Exception"]) (B := [.castable "java/lang/IndexOutOfBoundsException" "java/lang/IndexOutOfBoundsException", .declares (Bundle.initS "java/lang/RuntimeException"), .declares (Bundle.initS "java/lang/Exception"), .declares (Bundle.initS "java/lang/Throwable")]) (fun w h => hts w (List.mem_cons_of_mem _ (List.mem_append_right _ h))) (by decide +kernel) (vx_c (va_Nw.use rfl (kX.cast hX "java/lang/IndexOutOfBoundsException" (by decide))) (vx_c (va_Nw.use rfl (kX.decl hX "java/lang/RuntimeException" (by decide))) (vx_c (va_Nw.use rfl (kX.decl hX "java/lang/Exception" (by decide))) (vx_c (va_Nw.use rfl (kX.decl hX "java/lang/Throwable" (by decide))) vx_n))))) (by decide +kernel) (kX.us hX hAE) (kX.ss hX hAE) hS (by rw [hml]; exact hl.1) dX11_takes_12 dX11_takes_15 dX11_takes_16 dX11_takes_19 dX11_takes_22 (fun x hx => (ht9 x hx).elim) (Nat.le_of_ble_eq_true rfl) (Nat.le_of_ble_eq_true rfl) (Nat.le_of_ble_eq_true rfl) (Nat.le_of_ble_eq_true rfl) hlocks (fun t h1 h2 h3 => k_tx hP hK hD hS t h1 h2 h3) hS.2.2 (Nat.le_of_ble_eq_true rfl) (Nat.le_of_ble_eq_true rfl)
set_option maxHeartbeats 400000000 in
set_option maxRecDepth 100000 in
theorem c_L_takes_0 (l : Launch) (E : kE) (D : va_G) (cI cJ cB cZ : ClassId) (h0 : Nat) (x0 : Int32) (x1 : Int32) (h1 : Nat) (f0 : List Value) (h2 : Nat) (f1 : List Value) (e0 : f0[8]? = some (.ref h2)) (e1 : f1[9]? = some (.int 0)) (e2 : ¬ ((x0 : Int32) < 0)) (hl9 : l.stackTraces = false) : kI l E D (kT cI cJ cB cZ) yL_takes wsL_takes ({ frames := 7, cells := 1, slots := 6, locals := 104 }) [.ref h0, .int x0, .int x1, .ref h1] [(h0, .inr (11, f0)), (h2, .inr (5, f1))] (1) [(h0, .inr (11, f0)), (h2, .inr (5, f1))] 1 6 := by
  intro sz
  refine k_metH (cc := cL_takes) (maxL := 5) (ret := (some .int)) (hh := [(0, 10, 13, 25)]) (by decide) rfl ?_
  intro p e s m args below meth c s₁ B hml hv
  obtain ⟨rfl, hsz, hP, hK, hD0, hN, hX⟩ := hv
  have hx := B.exec
  have hb := B.bytes
  have hr := B.returns
  have hts := atoms_spec (ws := wsL_takes) B.pre
  have hown : s.vm.findClass RL = some m.cls := findClass_of_methodNamed B.named
  have hlocks := B.notSynchronized
  subst hsz
  have hD := hD0.self (sz := s.heap.size)
  have hAE := k_AE hD0 hX
  generalize hAe : va_A [(h0, .inr (11, f0)), (h2, .inr (5, f1))] s.heap.size = A at hD hAE ⊢
  have hA : ∀ q : Nat, s.heap.size ≤ q → A q := fun q h => by rw [← hAe]; exact Or.inr h
  have hS : va_S A s.heap s.heap [] := va_S.rf
  have hP : va_P D vwCl [(h0, .inr (11, f0)), (h2, .inr (5, f1))] s.heap := hP
  have hl := lv_entry ([.ref h0, .int x0, .int x1, .ref h1] : List Value) (n := 5) (Nat.le_of_ble_eq_true rfl)
  rw [lg_entry_eq]
  generalize (lg_sl ([.ref h0, .int x0, .int x1, .ref h1]) ++ List.replicate (5 - (lg_sl ([.ref h0, .int x0, .int x1, .ref h1])).length) Slot.unset).toArray = ls at hl ⊢
  have hl : lv_has ls 5 [(0, .ref h0), (1, .int x0), (2, .int x1), (3, .ref h1)] := hl
  refine lv_aload_n hx hb dL_takes_0 rfl (lv_at hl 3 rfl) ?_
  refine lv_iconst (v := 0) hx hb dL_takes_1 (by decide) ?_
  refine lv_aload_n hx hb dL_takes_2 rfl (lv_at hl 0 rfl) ?_
  refine lv_iload_n hx hb dL_takes_3 rfl (lv_at hl 1 rfl) ?_
  refine lv_iload_n hx hb dL_takes_4 rfl (lv_at hl 2 rfl) ?_
  refine k_cTi (As := [.int x0, .int x1]) (rest := [.int 0, .ref h1]) (wc := [(h0, .inr (11, f0)), (h2, .inr (5, f1))]) (wr := []) ⟨hx, hb, hml, hown, hts⟩ hN hX hAE hK hP hD hS hA [0, 1] [] (ci := 11) rfl rfl rfl rfl (by decide +kernel) (by decide +kernel) (by decide +kernel) (c_X11_takes_0 l E D cI cJ cB cZ h0 x0 x1 f0 h2 f1 e0 e2 e1 hl9) (cwV 2 hts gL_takes_X11_takes rfl rfl rfl (by decide +kernel) ⟨Nat.le_of_ble_eq_true rfl, Nat.le_of_ble_eq_true rfl⟩) rfl hl.1 (Nat.le_of_ble_eq_true rfl) dL_takes_5 ⟨Nat.le_of_ble_eq_true rfl, Nat.le_of_ble_eq_true rfl⟩ (fun q9 ce H locs hP hD hS hce hcv hcl => ?_)
  have hP : va_P D vwCl [(h0, .inr (11, f0)), (h2, .inr (5, f1))] H := hP
  have hD : va_D A [(h0, .inr (11, f0)), (h2, .inr (5, f1))] := hD
  refine vx_catch (own := RL) (name := "java/lang/IndexOutOfBoundsException") hown [] ⟨0, 10, 13, 25⟩ [] (vx_table B (hts _ List.mem_cons_self)) (fun z hz => absurd hz List.not_mem_nil) (by decide) (by decide) (hts (.classLink RL 25 "java/lang/IndexOutOfBoundsException") (List.mem_cons_of_mem _ (List.mem_append_left _ (List.mem_append_left _ (List.mem_append_left _ (List.mem_of_getElem? (i := 0) rfl)))))) (va_Nw.use rfl (kX.cast hX "java/lang/IndexOutOfBoundsException" (by decide))) hce hcv hcl ?_
  refine W.eq (g2 := F0 m 13 ls [.ref q9]) rfl ?_
  refine W.widen (k := 1) (n := 6) (Nat.le_of_ble_eq_true rfl) (Nat.le_of_ble_eq_true rfl) ?_
  refine lv_astore (lv' := [(4, .ref q9), (0, .ref h0), (1, .int x0), (2, .int x1), (3, .ref h1)]) hx hb dL_takes_13 hl (by decide) rfl (fun ls hl => ?_)
  refine lv_iconst (v := 1) hx hb dL_takes_15 (by decide) ?_
  exact W.iret (v := 1) hx hb hr (fun t ht hW => ⟨⟨1, (), rfl, rfl, kB_mk ht hW hP hK hD⟩, hS.F ht⟩) hS.2.2 dL_takes_16
set_option maxHeartbeats 400000000 in
set_option maxRecDepth 100000 in
theorem c_X12_takes_0 (l : Launch) (E : kE) (D : va_G) (cI cJ cB cZ : ClassId) (h0 : Nat) (x0 : Int32) (x1 : Int32) (f0 : List Value) (e0 : f0[156]? = some (.int 0)) (e1 : ¬ ((x0 : Int32) < 0)) (e2 : f0[0]? = some (.int 0)) : kI l E D (kT cI cJ cB cZ) yX12_takes wsX12_takes ({ frames := 1, cells := 0, slots := 0, locals := 25 }) [.ref h0, .int x0, .int x1] [(h0, .inr (12, f0))] (0) [(h0, .inr (12, (f0.set 0 (.int 1))))] 0 0 := by
  intro sz
  refine Met.ofW (cc := cX12_takes) (maxL := 3) (ret := (some .int)) (by decide) rfl ?_
  intro p e s m args below meth c s₁ B hml hv
  obtain ⟨rfl, hsz, hP, hK, hD0, hN, hX⟩ := hv
  have hx := B.exec
  have hb := B.bytes
  have hr := B.returns
  have hts := atoms_spec (ws := wsX12_takes) B.pre
  have hown : s.vm.findClass RX12 = some m.cls := findClass_of_methodNamed B.named
  have hlocks := B.notSynchronized
  have hin12 : ∀ w ∈ wsX120, w ∈ wsX12_takes := (fun w h => (List.mem_cons_of_mem _ (List.mem_append_right _ h)))
  subst hsz
  have hD := hD0.self (sz := s.heap.size)
  have hAE := k_AE hD0 hX
  generalize hAe : va_A [(h0, .inr (12, f0))] s.heap.size = A at hD hAE ⊢
  have hA : ∀ q : Nat, s.heap.size ≤ q → A q := fun q h => by rw [← hAe]; exact Or.inr h
  have hS : va_S A s.heap s.heap [] := va_S.rf
  have hP : va_P D vwCl [(h0, .inr (12, f0))] s.heap := hP
  have hl := lv_entry ([.ref h0, .int x0, .int x1] : List Value) (n := 3) (Nat.le_of_ble_eq_true rfl)
  rw [lg_entry_eq]
  generalize (lg_sl ([.ref h0, .int x0, .int x1]) ++ List.replicate (3 - (lg_sl ([.ref h0, .int x0, .int x1])).length) Slot.unset).toArray = ls at hl ⊢
  have hl : lv_has ls 3 [(0, .ref h0), (1, .int x0), (2, .int x1)] := hl
  refine lv_aload_n hx hb dX12_takes_0 rfl (lv_at hl 0 rfl) ?_
  refine lv_iload_n hx hb dX12_takes_1 rfl (lv_at hl 1 rfl) ?_
  refine lv_i2l (v := (Int32.toInt64 x0)) hx hb dX12_takes_2 rfl ?_
  refine lv_lconst (v := 0) hx hb dX12_takes_3 (by decide) ?_
  refine lv_aload_n hx hb dX12_takes_4 rfl (lv_at hl 0 rfl) ?_
  refine va_get (D := D) (ref := "IntegerHouseModel") (ci := 12) (v := .int 0) (C := RX12) (T := TX12) (N := 195) hx hb hts hin12 hown hK hP 0 rfl rfl 156 (by decide) (hts (.fieldLink RX12 1061 "IntegerHouseModel" "ownStates" "I") (List.mem_cons_of_mem _ (List.mem_append_left _ (List.mem_of_getElem? (i := 0) rfl)))) (fun _ h9 => h9) e0 dX12_takes_5 ?_
  refine lv_iconst (v := 1) hx hb dX12_takes_8 (by decide) ?_
  refine lv_isub hx hb dX12_takes_9 ?_
  refine k_topi (y := (-1)) (by decide) ?_
  refine lv_i2l (v := (-1)) hx hb dX12_takes_10 (by decide) ?_
  refine k_cSi (As := [.long (Int32.toInt64 x0), .long 0, .long (-1)]) (rest := [.ref h0]) (wc := []) (wr := [(h0, .inr (12, f0))]) (w1 := []) ⟨hx, hb, hml, hown, hts⟩ hN hX hAE hK hP hD hS hA [] [0] rfl rfl (by decide +kernel) (by decide +kernel) (by decide +kernel) (c_X12_in_12 l E D cI cJ cB cZ (Int32.toInt64 x0) (fun z9 => e1 ((k_n4 (x := x0) (c := 0) (C := 0) (by decide)).mp z9)) ((k_n5 (x := x0) (c := (-1)) (d := 0) (C := (-1)) (by decide) (by decide)).mpr e1)) (va_cwS 3 hts gX12_takes_X12_in rfl rfl rfl (by decide +kernel) ⟨Nat.le_of_ble_eq_true rfl, Nat.le_of_ble_eq_true rfl⟩) rfl hl.1 (Nat.le_of_ble_eq_true rfl) dX12_takes_11 ⟨Nat.le_of_ble_eq_true rfl, Nat.le_of_ble_eq_true rfl⟩ (fun H locs hP hD hS => ?_)
  have hP : va_P D vwCl [(h0, .inr (12, f0))] H := hP
  have hD : va_D A [(h0, .inr (12, f0))] := hD
  refine lv_if_eq (tgt := 37) hx hb dX12_takes_14 (by decide) (fun _ => ?_) (fun c9 => absurd (by decide) c9)
  refine lv_iconst (v := 1) hx hb dX12_takes_37 (by decide) ?_
  refine va_put (D := D) (ref := "IntegerHouseModel") (ci := 12) (v := .int 1) (ty := .int) (C := RX12) (T := TX12) (N := 195) hx hb hts hin12 tyX12 tyX12_ok nmX12 hown hK hP hD hS 0 rfl rfl 0 (by decide) (hts (.fieldLink RX12 3 "IntegerHouseModel" "thrown" "I") (List.mem_cons_of_mem _ (List.mem_append_left _ (List.mem_of_getElem? (i := 2) rfl)))) (fun _ h9 => h9) rfl (by decide +kernel) rfl rfl (k_len e2) dX12_takes_38 (fun H locs hP hD hS => ?_)
  have hP : va_P D vwCl [(h0, .inr (12, (f0.set 0 (.int 1))))] H := hP
  have hD : va_D A [(h0, .inr (12, (f0.set 0 (.int 1))))] := hD
  refine lv_aload_n hx hb dX12_takes_41 rfl (lv_at hl 0 rfl) ?_
  refine va_get (D := D) (ref := "IntegerHouseModel") (ci := 12) (v := .int 1) (C := RX12) (T := TX12) (N := 195) hx hb hts hin12 hown hK hP 0 rfl rfl 0 (by decide) (hts (.fieldLink RX12 3 "IntegerHouseModel" "thrown" "I") (List.mem_cons_of_mem _ (List.mem_append_left _ (List.mem_of_getElem? (i := 2) rfl)))) (fun _ h9 => h9) (k_set e2) dX12_takes_42 ?_
  refine lv_if_le (tgt := 52) hx hb dX12_takes_45 (by decide) (fun c9 => absurd c9 (by decide)) (fun _ => ?_)
  refine lv_iconst (v := 0) hx hb dX12_takes_48 (by decide) ?_
  refine lv_goto (tgt := 62) hx hb dX12_takes_49 (by decide) ?_
  exact W.iret (v := 0) hx hb hr (fun t ht hW => ⟨⟨0, (), rfl, rfl, kB_mk ht hW hP hK hD⟩, hS.F ht⟩) hS.2.2 dX12_takes_62
set_option maxHeartbeats 400000000 in
set_option maxRecDepth 100000 in
theorem c_X11_takes_1 (l : Launch) (E : kE) (D : va_G) (cI cJ cB cZ : ClassId) (h0 : Nat) (x0 : Int32) (x1 : Int32) (f0 : List Value) (h1 : Nat) (e0 : f0[8]? = some (.ref h1)) (e1 : (x0 : Int32) < 0) (hl9 : l.stackTraces = false) : kTI l E D (kT cI cJ cB cZ) yX11_takes wsX11_takes ({ frames := 6, cells := 1, slots := 6, locals := 82 }) [.ref h0, .int x0, .int x1] [(h0, .inr (11, f0))] "java/lang/IndexOutOfBoundsException" 1 6 := by
  intro sz
  refine vx_ofW (cc := cX11_takes) (maxL := 3) (ret := (some .int)) (by decide) rfl ?_
  intro p e s m args below meth c s₁ B hml ht9 hv
  obtain ⟨rfl, hsz, hP, hK, hD0, hN, hX⟩ := hv
  have hx := B.exec
  have hb := B.bytes
  have hr := B.returns
  have hts := atoms_spec (ws := wsX11_takes) B.pre
  have hown : s.vm.findClass RX11 = some m.cls := findClass_of_methodNamed B.named
  have hlocks := B.notSynchronized
  have hin11 : ∀ w ∈ wsX110, w ∈ wsX11_takes := (fun w h => (List.mem_cons_of_mem _ (List.mem_append_left _ (List.mem_append_left _ (List.mem_append_right _ h)))))
  subst hsz
  have hD := hD0.self (sz := s.heap.size)
  have hAE := k_AE hD0 hX
  generalize hAe : va_A [(h0, .inr (11, f0))] s.heap.size = A at hD hAE ⊢
  have hA : ∀ q : Nat, s.heap.size ≤ q → A q := fun q h => by rw [← hAe]; exact Or.inr h
  have hS : va_S A s.heap s.heap [] := va_S.rf
  have hP : va_P D vwCl [(h0, .inr (11, f0))] s.heap := hP
  have hl := lv_entry ([.ref h0, .int x0, .int x1] : List Value) (n := 3) (Nat.le_of_ble_eq_true rfl)
  rw [lg_entry_eq]
  generalize (lg_sl ([.ref h0, .int x0, .int x1]) ++ List.replicate (3 - (lg_sl ([.ref h0, .int x0, .int x1])).length) Slot.unset).toArray = ls at hl ⊢
  have hl : lv_has ls 3 [(0, .ref h0), (1, .int x0), (2, .int x1)] := hl
  refine lv_aload_n hx hb dX11_takes_0 rfl (lv_at hl 0 rfl) ?_
  refine va_get (D := D) (ref := "IntegerHouse") (ci := 11) (v := .ref h1) (C := RX11) (T := TX11) (N := 15) hx hb hts hin11 hown hK hP 0 rfl rfl 8 (by decide) (hts (.fieldLink RX11 73 "IntegerHouse" "ownForm" "LIntegerHouse$OwnForm;") (List.mem_cons_of_mem _ (List.mem_append_left _ (List.mem_append_left _ (List.mem_append_left _ (List.mem_of_getElem? (i := 2) rfl)))))) (fun _ h9 => h9) e0 dX11_takes_1 ?_
  refine lv_iload_n hx hb dX11_takes_4 rfl (lv_at hl 1 rfl) ?_
  refine lv_iload_n hx hb dX11_takes_5 rfl (lv_at hl 2 rfl) ?_
  refine k_cVi (As := [.int x0, .int x1]) (rest := []) (wc := []) (wr := [(h0, .inr (11, f0))]) (w1 := []) ⟨hx, hb, hml, hown, hts⟩ hN hX hAE hK hP hD hS hA [] [0] (ci := 5) rfl rfl rfl rfl (by decide +kernel) (by decide +kernel) (by decide +kernel) (c_X5_isTold_1 l E D cI cJ cB cZ h1 x0 x1 e1) (cwV 2 hts gX11_takes_X5_isTold rfl rfl rfl (by decide +kernel) ⟨Nat.le_of_ble_eq_true rfl, Nat.le_of_ble_eq_true rfl⟩) rfl hl.1 (Nat.le_of_ble_eq_true rfl) dX11_takes_6 ⟨Nat.le_of_ble_eq_true rfl, Nat.le_of_ble_eq_true rfl⟩ (fun H locs hP hD hS => ?_)
  have hP : va_P D vwCl [(h0, .inr (11, f0))] H := hP
  have hD : va_D A [(h0, .inr (11, f0))] := hD
  refine lv_if_ne (tgt := 23) hx hb dX11_takes_9 (by decide) (fun c9 => absurd (by decide) c9) (fun _ => ?_)
  obtain ⟨a9, a9r, a9o⟩ := kX.st hX hAE ("IntegerHouse", 362, "no such state or letter was told") (List.mem_of_getElem? (i := 7) rfl)
  exact vx_throwSW (names := ["java/lang/RuntimeException", "java/lang/Exception"]) (A := A) hx hb hl9 hown (by decide +kernel) (by decide +kernel) (hts (.classLink RX11 197 "java/lang/IndexOutOfBoundsException") (List.mem_cons_of_mem _ (List.mem_append_left _ (List.mem_append_left _ (List.mem_append_left _ (List.mem_of_getElem? (i := 0) rfl)))))) (hts (.initialized "java/lang/IndexOutOfBoundsException") (List.mem_cons_of_mem _ (List.mem_append_left _ (List.mem_append_left _ (List.mem_append_left _ (List.mem_of_getElem? (i := 1) rfl)))))) a9r (vx_hat (L := vx_atS RX11 201 "java/lang/IndexOutOfBoundsException" ["java/lang/RuntimeException", "java/lang/Exception"]) (B := [.castable "java/lang/IndexOutOfBoundsException" "java/lang/IndexOutOfBoundsException", .declares (Bundle.initS "java/lang/RuntimeException"), .declares (Bundle.initS "java/lang/Exception"), .declares (Bundle.initS "java/lang/Throwable")]) (fun w h => hts w (List.mem_cons_of_mem _ (List.mem_append_right _ h))) (by decide +kernel) (vx_c (va_Nw.use rfl (kX.cast hX "java/lang/IndexOutOfBoundsException" (by decide))) (vx_c (va_Nw.use rfl (kX.decl hX "java/lang/RuntimeException" (by decide))) (vx_c (va_Nw.use rfl (kX.decl hX "java/lang/Exception" (by decide))) (vx_c (va_Nw.use rfl (kX.decl hX "java/lang/Throwable" (by decide))) vx_n))))) (by decide +kernel) (kX.us hX hAE) (kX.ss hX hAE) hS (by rw [hml]; exact hl.1) dX11_takes_12 dX11_takes_15 dX11_takes_16 dX11_takes_19 dX11_takes_22 (fun x hx => (ht9 x hx).elim) (Nat.le_of_ble_eq_true rfl) (Nat.le_of_ble_eq_true rfl) (Nat.le_of_ble_eq_true rfl) (Nat.le_of_ble_eq_true rfl) hlocks (fun t h1 h2 h3 => k_tx hP hK hD hS t h1 h2 h3) hS.2.2 (Nat.le_of_ble_eq_true rfl) (Nat.le_of_ble_eq_true rfl)
set_option maxHeartbeats 400000000 in
set_option maxRecDepth 100000 in
theorem c_L_takes_1 (l : Launch) (E : kE) (D : va_G) (cI cJ cB cZ : ClassId) (h0 : Nat) (x0 : Int32) (x1 : Int32) (h1 : Nat) (f0 : List Value) (h2 : Nat) (e0 : f0[8]? = some (.ref h2)) (e1 : (x0 : Int32) < 0) (hl9 : l.stackTraces = false) : kI l E D (kT cI cJ cB cZ) yL_takes wsL_takes ({ frames := 7, cells := 1, slots := 6, locals := 104 }) [.ref h0, .int x0, .int x1, .ref h1] [(h0, .inr (11, f0))] (1) [(h0, .inr (11, f0))] 1 6 := by
  intro sz
  refine k_metH (cc := cL_takes) (maxL := 5) (ret := (some .int)) (hh := [(0, 10, 13, 25)]) (by decide) rfl ?_
  intro p e s m args below meth c s₁ B hml hv
  obtain ⟨rfl, hsz, hP, hK, hD0, hN, hX⟩ := hv
  have hx := B.exec
  have hb := B.bytes
  have hr := B.returns
  have hts := atoms_spec (ws := wsL_takes) B.pre
  have hown : s.vm.findClass RL = some m.cls := findClass_of_methodNamed B.named
  have hlocks := B.notSynchronized
  subst hsz
  have hD := hD0.self (sz := s.heap.size)
  have hAE := k_AE hD0 hX
  generalize hAe : va_A [(h0, .inr (11, f0))] s.heap.size = A at hD hAE ⊢
  have hA : ∀ q : Nat, s.heap.size ≤ q → A q := fun q h => by rw [← hAe]; exact Or.inr h
  have hS : va_S A s.heap s.heap [] := va_S.rf
  have hP : va_P D vwCl [(h0, .inr (11, f0))] s.heap := hP
  have hl := lv_entry ([.ref h0, .int x0, .int x1, .ref h1] : List Value) (n := 5) (Nat.le_of_ble_eq_true rfl)
  rw [lg_entry_eq]
  generalize (lg_sl ([.ref h0, .int x0, .int x1, .ref h1]) ++ List.replicate (5 - (lg_sl ([.ref h0, .int x0, .int x1, .ref h1])).length) Slot.unset).toArray = ls at hl ⊢
  have hl : lv_has ls 5 [(0, .ref h0), (1, .int x0), (2, .int x1), (3, .ref h1)] := hl
  refine lv_aload_n hx hb dL_takes_0 rfl (lv_at hl 3 rfl) ?_
  refine lv_iconst (v := 0) hx hb dL_takes_1 (by decide) ?_
  refine lv_aload_n hx hb dL_takes_2 rfl (lv_at hl 0 rfl) ?_
  refine lv_iload_n hx hb dL_takes_3 rfl (lv_at hl 1 rfl) ?_
  refine lv_iload_n hx hb dL_takes_4 rfl (lv_at hl 2 rfl) ?_
  refine k_cTi (As := [.int x0, .int x1]) (rest := [.int 0, .ref h1]) (wc := [(h0, .inr (11, f0))]) (wr := []) ⟨hx, hb, hml, hown, hts⟩ hN hX hAE hK hP hD hS hA [0] [] (ci := 11) rfl rfl rfl rfl (by decide +kernel) (by decide +kernel) (by decide +kernel) (c_X11_takes_1 l E D cI cJ cB cZ h0 x0 x1 f0 h2 e0 e1 hl9) (cwV 2 hts gL_takes_X11_takes rfl rfl rfl (by decide +kernel) ⟨Nat.le_of_ble_eq_true rfl, Nat.le_of_ble_eq_true rfl⟩) rfl hl.1 (Nat.le_of_ble_eq_true rfl) dL_takes_5 ⟨Nat.le_of_ble_eq_true rfl, Nat.le_of_ble_eq_true rfl⟩ (fun q9 ce H locs hP hD hS hce hcv hcl => ?_)
  have hP : va_P D vwCl [(h0, .inr (11, f0))] H := hP
  have hD : va_D A [(h0, .inr (11, f0))] := hD
  refine vx_catch (own := RL) (name := "java/lang/IndexOutOfBoundsException") hown [] ⟨0, 10, 13, 25⟩ [] (vx_table B (hts _ List.mem_cons_self)) (fun z hz => absurd hz List.not_mem_nil) (by decide) (by decide) (hts (.classLink RL 25 "java/lang/IndexOutOfBoundsException") (List.mem_cons_of_mem _ (List.mem_append_left _ (List.mem_append_left _ (List.mem_append_left _ (List.mem_of_getElem? (i := 0) rfl)))))) (va_Nw.use rfl (kX.cast hX "java/lang/IndexOutOfBoundsException" (by decide))) hce hcv hcl ?_
  refine W.eq (g2 := F0 m 13 ls [.ref q9]) rfl ?_
  refine W.widen (k := 1) (n := 6) (Nat.le_of_ble_eq_true rfl) (Nat.le_of_ble_eq_true rfl) ?_
  refine lv_astore (lv' := [(4, .ref q9), (0, .ref h0), (1, .int x0), (2, .int x1), (3, .ref h1)]) hx hb dL_takes_13 hl (by decide) rfl (fun ls hl => ?_)
  refine lv_iconst (v := 1) hx hb dL_takes_15 (by decide) ?_
  exact W.iret (v := 1) hx hb hr (fun t ht hW => ⟨⟨1, (), rfl, rfl, kB_mk ht hW hP hK hD⟩, hS.F ht⟩) hS.2.2 dL_takes_16
set_option maxHeartbeats 400000000 in
set_option maxRecDepth 100000 in
theorem c_X12_takes_1 (l : Launch) (E : kE) (D : va_G) (cI cJ cB cZ : ClassId) (h0 : Nat) (x0 : Int32) (x1 : Int32) (f0 : List Value) (e0 : f0[156]? = some (.int 0)) (e1 : (x0 : Int32) < 0) (e2 : f0[0]? = some (.int 0)) : kI l E D (kT cI cJ cB cZ) yX12_takes wsX12_takes ({ frames := 1, cells := 0, slots := 0, locals := 25 }) [.ref h0, .int x0, .int x1] [(h0, .inr (12, f0))] (0) [(h0, .inr (12, (f0.set 0 (.int 1))))] 0 0 := by
  intro sz
  refine Met.ofW (cc := cX12_takes) (maxL := 3) (ret := (some .int)) (by decide) rfl ?_
  intro p e s m args below meth c s₁ B hml hv
  obtain ⟨rfl, hsz, hP, hK, hD0, hN, hX⟩ := hv
  have hx := B.exec
  have hb := B.bytes
  have hr := B.returns
  have hts := atoms_spec (ws := wsX12_takes) B.pre
  have hown : s.vm.findClass RX12 = some m.cls := findClass_of_methodNamed B.named
  have hlocks := B.notSynchronized
  have hin12 : ∀ w ∈ wsX120, w ∈ wsX12_takes := (fun w h => (List.mem_cons_of_mem _ (List.mem_append_right _ h)))
  subst hsz
  have hD := hD0.self (sz := s.heap.size)
  have hAE := k_AE hD0 hX
  generalize hAe : va_A [(h0, .inr (12, f0))] s.heap.size = A at hD hAE ⊢
  have hA : ∀ q : Nat, s.heap.size ≤ q → A q := fun q h => by rw [← hAe]; exact Or.inr h
  have hS : va_S A s.heap s.heap [] := va_S.rf
  have hP : va_P D vwCl [(h0, .inr (12, f0))] s.heap := hP
  have hl := lv_entry ([.ref h0, .int x0, .int x1] : List Value) (n := 3) (Nat.le_of_ble_eq_true rfl)
  rw [lg_entry_eq]
  generalize (lg_sl ([.ref h0, .int x0, .int x1]) ++ List.replicate (3 - (lg_sl ([.ref h0, .int x0, .int x1])).length) Slot.unset).toArray = ls at hl ⊢
  have hl : lv_has ls 3 [(0, .ref h0), (1, .int x0), (2, .int x1)] := hl
  refine lv_aload_n hx hb dX12_takes_0 rfl (lv_at hl 0 rfl) ?_
  refine lv_iload_n hx hb dX12_takes_1 rfl (lv_at hl 1 rfl) ?_
  refine lv_i2l (v := (Int32.toInt64 x0)) hx hb dX12_takes_2 rfl ?_
  refine lv_lconst (v := 0) hx hb dX12_takes_3 (by decide) ?_
  refine lv_aload_n hx hb dX12_takes_4 rfl (lv_at hl 0 rfl) ?_
  refine va_get (D := D) (ref := "IntegerHouseModel") (ci := 12) (v := .int 0) (C := RX12) (T := TX12) (N := 195) hx hb hts hin12 hown hK hP 0 rfl rfl 156 (by decide) (hts (.fieldLink RX12 1061 "IntegerHouseModel" "ownStates" "I") (List.mem_cons_of_mem _ (List.mem_append_left _ (List.mem_of_getElem? (i := 0) rfl)))) (fun _ h9 => h9) e0 dX12_takes_5 ?_
  refine lv_iconst (v := 1) hx hb dX12_takes_8 (by decide) ?_
  refine lv_isub hx hb dX12_takes_9 ?_
  refine k_topi (y := (-1)) (by decide) ?_
  refine lv_i2l (v := (-1)) hx hb dX12_takes_10 (by decide) ?_
  refine k_cSi (As := [.long (Int32.toInt64 x0), .long 0, .long (-1)]) (rest := [.ref h0]) (wc := []) (wr := [(h0, .inr (12, f0))]) (w1 := []) ⟨hx, hb, hml, hown, hts⟩ hN hX hAE hK hP hD hS hA [] [0] rfl rfl (by decide +kernel) (by decide +kernel) (by decide +kernel) (c_X12_in_13 l E D cI cJ cB cZ (Int32.toInt64 x0) ((k_n4 (x := x0) (c := 0) (C := 0) (by decide)).mpr e1)) (va_cwS 3 hts gX12_takes_X12_in rfl rfl rfl (by decide +kernel) ⟨Nat.le_of_ble_eq_true rfl, Nat.le_of_ble_eq_true rfl⟩) rfl hl.1 (Nat.le_of_ble_eq_true rfl) dX12_takes_11 ⟨Nat.le_of_ble_eq_true rfl, Nat.le_of_ble_eq_true rfl⟩ (fun H locs hP hD hS => ?_)
  have hP : va_P D vwCl [(h0, .inr (12, f0))] H := hP
  have hD : va_D A [(h0, .inr (12, f0))] := hD
  refine lv_if_eq (tgt := 37) hx hb dX12_takes_14 (by decide) (fun _ => ?_) (fun c9 => absurd (by decide) c9)
  refine lv_iconst (v := 1) hx hb dX12_takes_37 (by decide) ?_
  refine va_put (D := D) (ref := "IntegerHouseModel") (ci := 12) (v := .int 1) (ty := .int) (C := RX12) (T := TX12) (N := 195) hx hb hts hin12 tyX12 tyX12_ok nmX12 hown hK hP hD hS 0 rfl rfl 0 (by decide) (hts (.fieldLink RX12 3 "IntegerHouseModel" "thrown" "I") (List.mem_cons_of_mem _ (List.mem_append_left _ (List.mem_of_getElem? (i := 2) rfl)))) (fun _ h9 => h9) rfl (by decide +kernel) rfl rfl (k_len e2) dX12_takes_38 (fun H locs hP hD hS => ?_)
  have hP : va_P D vwCl [(h0, .inr (12, (f0.set 0 (.int 1))))] H := hP
  have hD : va_D A [(h0, .inr (12, (f0.set 0 (.int 1))))] := hD
  refine lv_aload_n hx hb dX12_takes_41 rfl (lv_at hl 0 rfl) ?_
  refine va_get (D := D) (ref := "IntegerHouseModel") (ci := 12) (v := .int 1) (C := RX12) (T := TX12) (N := 195) hx hb hts hin12 hown hK hP 0 rfl rfl 0 (by decide) (hts (.fieldLink RX12 3 "IntegerHouseModel" "thrown" "I") (List.mem_cons_of_mem _ (List.mem_append_left _ (List.mem_of_getElem? (i := 2) rfl)))) (fun _ h9 => h9) (k_set e2) dX12_takes_42 ?_
  refine lv_if_le (tgt := 52) hx hb dX12_takes_45 (by decide) (fun c9 => absurd c9 (by decide)) (fun _ => ?_)
  refine lv_iconst (v := 0) hx hb dX12_takes_48 (by decide) ?_
  refine lv_goto (tgt := 62) hx hb dX12_takes_49 (by decide) ?_
  exact W.iret (v := 0) hx hb hr (fun t ht hW => ⟨⟨0, (), rfl, rfl, kB_mk ht hW hP hK hD⟩, hS.F ht⟩) hS.2.2 dX12_takes_62
set_option maxHeartbeats 400000000 in
set_option maxRecDepth 100000 in
theorem c_X2_allPlain_0 (l : Launch) (E : kE) (D : va_G) (cI cJ cB cZ : ClassId) (h0 : Nat) (f0 : List Value) (e0 : f0[11]? = some (.int 0)) : kI l E D (kT cI cJ cB cZ) yX2_allPlain wsX2_allPlain ({ frames := 0, cells := 0, slots := 0, locals := 0 }) [.ref h0] [(h0, .inr (2, f0))] (1) [(h0, .inr (2, f0))] 0 0 := by
  intro sz
  refine Met.ofW (cc := cX2_allPlain) (maxL := 2) (ret := (some .boolean)) (by decide) rfl ?_
  intro p e s m args below meth c s₁ B hml hv
  obtain ⟨rfl, hsz, hP, hK, hD0, hN, hX⟩ := hv
  have hx := B.exec
  have hb := B.bytes
  have hr := B.returns
  have hts := atoms_spec (ws := wsX2_allPlain) B.pre
  have hown : s.vm.findClass RX2 = some m.cls := findClass_of_methodNamed B.named
  have hlocks := B.notSynchronized
  have hin2 : ∀ w ∈ wsX20, w ∈ wsX2_allPlain := (fun w h => (List.mem_cons_of_mem _ (List.mem_append_right _ h)))
  subst hsz
  have hD := hD0.self (sz := s.heap.size)
  have hAE := k_AE hD0 hX
  generalize hAe : va_A [(h0, .inr (2, f0))] s.heap.size = A at hD hAE ⊢
  have hA : ∀ q : Nat, s.heap.size ≤ q → A q := fun q h => by rw [← hAe]; exact Or.inr h
  have hS : va_S A s.heap s.heap [] := va_S.rf
  have hP : va_P D vwCl [(h0, .inr (2, f0))] s.heap := hP
  have hl := lv_entry ([.ref h0] : List Value) (n := 2) (Nat.le_of_ble_eq_true rfl)
  rw [lg_entry_eq]
  generalize (lg_sl ([.ref h0]) ++ List.replicate (2 - (lg_sl ([.ref h0])).length) Slot.unset).toArray = ls at hl ⊢
  have hl : lv_has ls 2 [(0, .ref h0)] := hl
  refine lv_iconst (v := 0) hx hb dX2_allPlain_0 (by decide) ?_
  refine lv_istore_n (lv' := [(1, .int 0), (0, .ref h0)]) hx hb dX2_allPlain_1 rfl hl (by decide) rfl (fun ls hl => ?_)
  refine lv_iload_n hx hb dX2_allPlain_2 rfl (lv_at hl 0 rfl) ?_
  refine lv_aload_n hx hb dX2_allPlain_3 rfl (lv_at hl 1 rfl) ?_
  refine va_get (D := D) (ref := "IntegerHouse$House") (ci := 2) (v := .int 0) (C := RX2) (T := TX2) (N := 16) hx hb hts hin2 hown hK hP 0 rfl rfl 11 (by decide) (hts (.fieldLink RX2 55 "IntegerHouse$House" "claims" "I") (List.mem_cons_of_mem _ (List.mem_append_left _ (List.mem_of_getElem? (i := 0) rfl)))) (fun _ h9 => h9) e0 dX2_allPlain_4 ?_
  refine lv_icmp_ge (tgt := 39) hx hb dX2_allPlain_7 (by decide) (fun _ => ?_) (fun c9 => absurd (by decide) c9)
  refine lv_iconst (v := 1) hx hb dX2_allPlain_39 (by decide) ?_
  exact W.zret (v := 1) hx hb hr rfl (fun t ht hW => ⟨⟨1, (), rfl, rfl, kB_mk ht hW hP hK hD⟩, hS.F ht⟩) hS.2.2 dX2_allPlain_40
set_option maxHeartbeats 400000000 in
set_option maxRecDepth 100000 in
theorem c_X8_readTerm_0 (l : Launch) (E : kE) (D : va_G) (cI cJ cB cZ : ClassId) (h0 : Nat) (h1 : Nat) (f0 : List Value) (h2 : Nat) (f1 : List Value) (h3 : Nat) (h4 : Nat) (h5 : Nat) (g0 : Nat → Int32) (g1 : Nat → Int32) (h6 : Nat) (f2 : List Value) (h7 : Nat) (h8 : Nat) (g2 : Nat → Int32) (g3 : Nat → Int32) (e0 : f0[0]? = some (.ref h2)) (e1 : f1[6]? = some (.ref h3)) (e2 : f1[7]? = some (.int 0)) (e3 : f1[8]? = some (.int 0)) (e4 : f1[5]? = some (.int 0)) (e5 : f1[1]? = some (.ref h4)) (e6 : f1[2]? = some (.ref h5)) (e7 : f0[3]? = some (.int 0)) (e8 : f0[4]? = some (.int 0)) (e9 : f0[5]? = some (.int 0)) (e10 : f0[6]? = some (.int 0)) (e11 : f0[7]? = some (.int 0)) (e12 : f0[8]? = some (.int 0)) (e13 : f0[11]? = some (.int 0)) (e14 : f0[12]? = some (.int 0)) (e15 : f0[13]? = some (.int 0)) (e16 : f0[14]? = some (.int 0)) (e17 : f0[1]? = some (.ref h6)) (e18 : f2[5]? = some (.ref h7)) (e19 : f2[10]? = some (.int 0)) (e20 : f2[3]? = some (.ref h8)) : kI l E D (kT cI cJ cB cZ) yX8_readTerm wsX8_readTerm ({ frames := 5, cells := 0, slots := 0, locals := 112 }) [.ref h0, .ref h1, .int 0] [(h0, .inr (8, f0)), (h2, .inr (3, f1)), (h4, .inl (cI, 2001, .inl g0)), (h5, .inl (cI, 2001, .inl g1)), (h6, .inr (2, f2)), (h7, .inl (cI, 260, .inl g2)), (h8, .inl (cI, 13312, .inl g3))] (0) [(h0, .inr (8, (((((((((((((((((f0.set 3 (.int 0)).set 4 (.int 0)).set 5 (.int 0)).set 6 (.int (-1))).set 6 (.int 0)).set 7 (.int 0)).set 8 (.int 0)).set 11 (.int 25)).set 12 (.int 0)).set 13 (.int 0)).set 14 (.int 0)).set 3 (.int 2)).set 4 (.int 0)).set 7 (.int 44)).set 13 (.int 1)).set 13 (.int 2)).set 7 (.int 44)))), (h2, .inr (3, ((((f1.set 6 (.ref h1)).set 7 (.int 0)).set 8 (.int 0)).set 5 (.int 0)))), (h4, .inl (cI, 2001, .inl (upd g0 0 0))), (h5, .inl (cI, 2001, .inl (upd g1 0 0))), (h6, .inr (2, f2)), (h7, .inl (cI, 260, .inl (upd (upd (upd g2 259 0) 250 0) 251 2))), (h8, .inl (cI, 13312, .inl (upd (upd g3 12800 43) 12801 43)))] 0 0 := by
  intro sz
  refine Met.ofW (cc := cX8_readTerm) (maxL := 3) (ret := (some .boolean)) (by decide) rfl ?_
  intro p e s m args below meth c s₁ B hml hv
  obtain ⟨rfl, hsz, hP, hK, hD0, hN, hX⟩ := hv
  have hx := B.exec
  have hb := B.bytes
  have hr := B.returns
  have hts := atoms_spec (ws := wsX8_readTerm) B.pre
  have hown : s.vm.findClass RX8 = some m.cls := findClass_of_methodNamed B.named
  have hlocks := B.notSynchronized
  have hin8 : ∀ w ∈ wsX80, w ∈ wsX8_readTerm := (fun w h => (List.mem_cons_of_mem _ (List.mem_append_left _ (List.mem_append_left _ (List.mem_append_left _ (List.mem_append_right _ h))))))
  subst hsz
  have hD := hD0.self (sz := s.heap.size)
  have hAE := k_AE hD0 hX
  generalize hAe : va_A [(h0, .inr (8, f0)), (h2, .inr (3, f1)), (h4, .inl (cI, 2001, .inl g0)), (h5, .inl (cI, 2001, .inl g1)), (h6, .inr (2, f2)), (h7, .inl (cI, 260, .inl g2)), (h8, .inl (cI, 13312, .inl g3))] s.heap.size = A at hD hAE ⊢
  have hA : ∀ q : Nat, s.heap.size ≤ q → A q := fun q h => by rw [← hAe]; exact Or.inr h
  have hS : va_S A s.heap s.heap [] := va_S.rf
  have hP : va_P D vwCl [(h0, .inr (8, f0)), (h2, .inr (3, f1)), (h4, .inl (cI, 2001, .inl g0)), (h5, .inl (cI, 2001, .inl g1)), (h6, .inr (2, f2)), (h7, .inl (cI, 260, .inl g2)), (h8, .inl (cI, 13312, .inl g3))] s.heap := hP
  have hl := lv_entry ([.ref h0, .ref h1, .int 0] : List Value) (n := 3) (Nat.le_of_ble_eq_true rfl)
  rw [lg_entry_eq]
  generalize (lg_sl ([.ref h0, .ref h1, .int 0]) ++ List.replicate (3 - (lg_sl ([.ref h0, .ref h1, .int 0])).length) Slot.unset).toArray = ls at hl ⊢
  have hl : lv_has ls 3 [(0, .ref h0), (1, .ref h1), (2, .int 0)] := hl
  refine lv_aload_n hx hb dX8_readTerm_0 rfl (lv_at hl 0 rfl) ?_
  refine lv_aload_n hx hb dX8_readTerm_1 rfl (lv_at hl 1 rfl) ?_
  refine lv_iconst (v := 0) hx hb dX8_readTerm_2 (by decide) ?_
  refine lv_iload_n hx hb dX8_readTerm_3 rfl (lv_at hl 2 rfl) ?_
  refine k_cVv (As := [.ref h1, .int 0, .int 0]) (rest := []) (wc := [(h0, .inr (8, f0)), (h2, .inr (3, f1)), (h4, .inl (cI, 2001, .inl g0)), (h5, .inl (cI, 2001, .inl g1))]) (wr := [(h6, .inr (2, f2)), (h7, .inl (cI, 260, .inl g2)), (h8, .inl (cI, 13312, .inl g3))]) (w1 := (fun _ : Unit => [(h0, .inr (8, (((((((f0.set 3 (.int 0)).set 4 (.int 0)).set 5 (.int 0)).set 6 (.int (-1))).set 6 (.int 0)).set 7 (.int 0)).set 8 (.int 0)))), (h2, .inr (3, ((((f1.set 6 (.ref h1)).set 7 (.int 0)).set 8 (.int 0)).set 5 (.int 0)))), (h4, .inl (cI, 2001, .inl (upd g0 0 0))), (h5, .inl (cI, 2001, .inl (upd g1 0 0)))])) ⟨hx, hb, hml, hown, hts⟩ hN hX hAE hK hP hD hS hA [0, 1, 2, 3] [4, 5, 6] (ci := 8) rfl rfl rfl rfl (by decide +kernel) (by decide +kernel) (by decide +kernel) (c_X8_begin_0 l E D cI cJ cB cZ h0 h1 f0 h2 f1 h3 h4 h5 g0 g1 e0 e1 e2 e3 e4 e5 e6 e7 e8 e9 e10 e11 e12) (cwV 3 hts gX8_readTerm_X8_begin rfl rfl rfl (by decide +kernel) ⟨Nat.le_of_ble_eq_true rfl, Nat.le_of_ble_eq_true rfl⟩) rfl hl.1 (Nat.le_of_ble_eq_true rfl) dX8_readTerm_4 ⟨Nat.le_of_ble_eq_true rfl, Nat.le_of_ble_eq_true rfl⟩ (fun _ H locs hP hD hS => ?_)
  have hP : va_P D vwCl [(h6, .inr (2, f2)), (h7, .inl (cI, 260, .inl g2)), (h8, .inl (cI, 13312, .inl g3)), (h0, .inr (8, (((((((f0.set 3 (.int 0)).set 4 (.int 0)).set 5 (.int 0)).set 6 (.int (-1))).set 6 (.int 0)).set 7 (.int 0)).set 8 (.int 0)))), (h2, .inr (3, ((((f1.set 6 (.ref h1)).set 7 (.int 0)).set 8 (.int 0)).set 5 (.int 0)))), (h4, .inl (cI, 2001, .inl (upd g0 0 0))), (h5, .inl (cI, 2001, .inl (upd g1 0 0)))] H := hP
  have hD : va_D A [(h6, .inr (2, f2)), (h7, .inl (cI, 260, .inl g2)), (h8, .inl (cI, 13312, .inl g3)), (h0, .inr (8, (((((((f0.set 3 (.int 0)).set 4 (.int 0)).set 5 (.int 0)).set 6 (.int (-1))).set 6 (.int 0)).set 7 (.int 0)).set 8 (.int 0)))), (h2, .inr (3, ((((f1.set 6 (.ref h1)).set 7 (.int 0)).set 8 (.int 0)).set 5 (.int 0)))), (h4, .inl (cI, 2001, .inl (upd g0 0 0))), (h5, .inl (cI, 2001, .inl (upd g1 0 0)))] := hD
  refine lv_aload_n hx hb dX8_readTerm_7 rfl (lv_at hl 0 rfl) ?_
  refine lv_bipush (v := 25) hx hb dX8_readTerm_8 (by decide) ?_
  refine k_cVv (As := [.int 25]) (rest := []) (wc := [(h0, .inr (8, (((((((f0.set 3 (.int 0)).set 4 (.int 0)).set 5 (.int 0)).set 6 (.int (-1))).set 6 (.int 0)).set 7 (.int 0)).set 8 (.int 0)))), (h6, .inr (2, f2)), (h7, .inl (cI, 260, .inl g2)), (h2, .inr (3, ((((f1.set 6 (.ref h1)).set 7 (.int 0)).set 8 (.int 0)).set 5 (.int 0)))), (h8, .inl (cI, 13312, .inl g3))]) (wr := [(h4, .inl (cI, 2001, .inl (upd g0 0 0))), (h5, .inl (cI, 2001, .inl (upd g1 0 0)))]) (w1 := (fun _ : Unit => [(h0, .inr (8, ((((((((((((((((f0.set 3 (.int 0)).set 4 (.int 0)).set 5 (.int 0)).set 6 (.int (-1))).set 6 (.int 0)).set 7 (.int 0)).set 8 (.int 0)).set 11 (.int 25)).set 12 (.int 0)).set 13 (.int 0)).set 14 (.int 0)).set 3 (.int 2)).set 4 (.int 0)).set 7 (.int 44)).set 13 (.int 1)).set 13 (.int 2)))), (h6, .inr (2, f2)), (h7, .inl (cI, 260, .inl (upd (upd (upd g2 259 0) 250 0) 251 2))), (h2, .inr (3, ((((f1.set 6 (.ref h1)).set 7 (.int 0)).set 8 (.int 0)).set 5 (.int 0)))), (h8, .inl (cI, 13312, .inl (upd (upd g3 12800 43) 12801 43)))])) ⟨hx, hb, hml, hown, hts⟩ hN hX hAE hK hP hD hS hA [3, 0, 1, 4, 2] [5, 6] (ci := 8) rfl rfl rfl rfl (by decide +kernel) (by decide +kernel) (by decide +kernel) (c_X8_readInto_1 l E D cI cJ cB cZ h0 ((((((((f0.set 3 (.int 0)).set 4 (.int 0)).set 5 (.int 0)).set 6 (.int (-1))).set 6 (.int 0)).set 7 (.int 0)).set 8 (.int 0))) h6 f2 h7 g2 h2 (((((f1.set 6 (.ref h1)).set 7 (.int 0)).set 8 (.int 0)).set 5 (.int 0))) h8 g3 (k_ne (by decide) (k_ne (by decide) (k_ne (by decide) (k_ne (by decide) (k_ne (by decide) (k_ne (by decide) (k_ne (by decide) e13))))))) (k_ne (by decide) (k_ne (by decide) (k_ne (by decide) (k_ne (by decide) (k_ne (by decide) (k_ne (by decide) (k_ne (by decide) e14))))))) (k_ne (by decide) (k_ne (by decide) (k_ne (by decide) (k_ne (by decide) (k_ne (by decide) (k_ne (by decide) (k_ne (by decide) e15))))))) (k_ne (by decide) (k_ne (by decide) (k_ne (by decide) (k_ne (by decide) (k_ne (by decide) (k_ne (by decide) (k_ne (by decide) e16))))))) (k_ne (by decide) (k_ne (by decide) (k_ne (by decide) (k_ne (by decide) (k_ne (by decide) (k_ne (by decide) (k_ne (by decide) e17))))))) (k_set (k_ne (by decide) (k_ne (by decide) (k_ne (by decide) (k_ne (by decide) (k_ne (by decide) (k_ne (by decide) e12))))))) e18 (k_ne (by decide) (k_set (k_ne (by decide) (k_ne (by decide) (k_ne (by decide) (k_ne (by decide) (k_ne (by decide) e11))))))) (k_ne (by decide) (k_ne (by decide) (k_ne (by decide) (k_ne (by decide) (k_ne (by decide) (k_ne (by decide) (k_ne (by decide) e0))))))) (k_ne (by decide) (k_ne (by decide) (k_set (k_set (k_ne (by decide) (k_ne (by decide) (k_ne (by decide) e10))))))) (k_set (k_ne (by decide) (k_ne (by decide) (k_ne (by decide) e4)))) e19 (k_ne (by decide) (k_ne (by decide) (k_ne (by decide) (k_ne (by decide) (k_ne (by decide) (k_ne (by decide) (k_set e7))))))) (k_ne (by decide) (k_ne (by decide) (k_ne (by decide) (k_ne (by decide) (k_ne (by decide) (k_set (k_ne (by decide) e8))))))) e20) (cwV 1 hts gX8_readTerm_X8_readInto rfl rfl rfl (by decide +kernel) ⟨Nat.le_of_ble_eq_true rfl, Nat.le_of_ble_eq_true rfl⟩) rfl hl.1 (Nat.le_of_ble_eq_true rfl) dX8_readTerm_10 ⟨Nat.le_of_ble_eq_true rfl, Nat.le_of_ble_eq_true rfl⟩ (fun _ H locs hP hD hS => ?_)
  have hP : va_P D vwCl [(h4, .inl (cI, 2001, .inl (upd g0 0 0))), (h5, .inl (cI, 2001, .inl (upd g1 0 0))), (h0, .inr (8, ((((((((((((((((f0.set 3 (.int 0)).set 4 (.int 0)).set 5 (.int 0)).set 6 (.int (-1))).set 6 (.int 0)).set 7 (.int 0)).set 8 (.int 0)).set 11 (.int 25)).set 12 (.int 0)).set 13 (.int 0)).set 14 (.int 0)).set 3 (.int 2)).set 4 (.int 0)).set 7 (.int 44)).set 13 (.int 1)).set 13 (.int 2)))), (h6, .inr (2, f2)), (h7, .inl (cI, 260, .inl (upd (upd (upd g2 259 0) 250 0) 251 2))), (h2, .inr (3, ((((f1.set 6 (.ref h1)).set 7 (.int 0)).set 8 (.int 0)).set 5 (.int 0)))), (h8, .inl (cI, 13312, .inl (upd (upd g3 12800 43) 12801 43)))] H := hP
  have hD : va_D A [(h4, .inl (cI, 2001, .inl (upd g0 0 0))), (h5, .inl (cI, 2001, .inl (upd g1 0 0))), (h0, .inr (8, ((((((((((((((((f0.set 3 (.int 0)).set 4 (.int 0)).set 5 (.int 0)).set 6 (.int (-1))).set 6 (.int 0)).set 7 (.int 0)).set 8 (.int 0)).set 11 (.int 25)).set 12 (.int 0)).set 13 (.int 0)).set 14 (.int 0)).set 3 (.int 2)).set 4 (.int 0)).set 7 (.int 44)).set 13 (.int 1)).set 13 (.int 2)))), (h6, .inr (2, f2)), (h7, .inl (cI, 260, .inl (upd (upd (upd g2 259 0) 250 0) 251 2))), (h2, .inr (3, ((((f1.set 6 (.ref h1)).set 7 (.int 0)).set 8 (.int 0)).set 5 (.int 0)))), (h8, .inl (cI, 13312, .inl (upd (upd g3 12800 43) 12801 43)))] := hD
  refine lv_aload_n hx hb dX8_readTerm_13 rfl (lv_at hl 0 rfl) ?_
  refine k_cVv (As := []) (rest := []) (wc := [(h0, .inr (8, ((((((((((((((((f0.set 3 (.int 0)).set 4 (.int 0)).set 5 (.int 0)).set 6 (.int (-1))).set 6 (.int 0)).set 7 (.int 0)).set 8 (.int 0)).set 11 (.int 25)).set 12 (.int 0)).set 13 (.int 0)).set 14 (.int 0)).set 3 (.int 2)).set 4 (.int 0)).set 7 (.int 44)).set 13 (.int 1)).set 13 (.int 2))))]) (wr := [(h4, .inl (cI, 2001, .inl (upd g0 0 0))), (h5, .inl (cI, 2001, .inl (upd g1 0 0))), (h6, .inr (2, f2)), (h7, .inl (cI, 260, .inl (upd (upd (upd g2 259 0) 250 0) 251 2))), (h2, .inr (3, ((((f1.set 6 (.ref h1)).set 7 (.int 0)).set 8 (.int 0)).set 5 (.int 0)))), (h8, .inl (cI, 13312, .inl (upd (upd g3 12800 43) 12801 43)))]) (w1 := (fun _ : Unit => [(h0, .inr (8, (((((((((((((((((f0.set 3 (.int 0)).set 4 (.int 0)).set 5 (.int 0)).set 6 (.int (-1))).set 6 (.int 0)).set 7 (.int 0)).set 8 (.int 0)).set 11 (.int 25)).set 12 (.int 0)).set 13 (.int 0)).set 14 (.int 0)).set 3 (.int 2)).set 4 (.int 0)).set 7 (.int 44)).set 13 (.int 1)).set 13 (.int 2)).set 7 (.int 44))))])) ⟨hx, hb, hml, hown, hts⟩ hN hX hAE hK hP hD hS hA [2] [0, 1, 3, 4, 5, 6] (ci := 8) rfl rfl rfl rfl (by decide +kernel) (by decide +kernel) (by decide +kernel) (c_X8_expectEnd_1 l E D cI cJ cB cZ h0 (((((((((((((((((f0.set 3 (.int 0)).set 4 (.int 0)).set 5 (.int 0)).set 6 (.int (-1))).set 6 (.int 0)).set 7 (.int 0)).set 8 (.int 0)).set 11 (.int 25)).set 12 (.int 0)).set 13 (.int 0)).set 14 (.int 0)).set 3 (.int 2)).set 4 (.int 0)).set 7 (.int 44)).set 13 (.int 1)).set 13 (.int 2))) (k_ne (by decide) (k_ne (by decide) (k_set (k_ne (by decide) (k_ne (by decide) (k_ne (by decide) (k_ne (by decide) (k_ne (by decide) (k_ne (by decide) (k_ne (by decide) (k_set (k_ne (by decide) (k_ne (by decide) (k_ne (by decide) (k_ne (by decide) (k_ne (by decide) e11)))))))))))))))) (k_ne (by decide) (k_ne (by decide) (k_ne (by decide) (k_ne (by decide) (k_set (k_ne (by decide) (k_ne (by decide) (k_ne (by decide) (k_ne (by decide) (k_ne (by decide) (k_ne (by decide) (k_ne (by decide) (k_ne (by decide) (k_ne (by decide) (k_ne (by decide) (k_set e7))))))))))))))))) (cwV 0 hts gX8_readTerm_X8_expectEnd rfl rfl rfl (by decide +kernel) ⟨Nat.le_of_ble_eq_true rfl, Nat.le_of_ble_eq_true rfl⟩) rfl hl.1 (Nat.le_of_ble_eq_true rfl) dX8_readTerm_14 ⟨Nat.le_of_ble_eq_true rfl, Nat.le_of_ble_eq_true rfl⟩ (fun _ H locs hP hD hS => ?_)
  have hP : va_P D vwCl [(h4, .inl (cI, 2001, .inl (upd g0 0 0))), (h5, .inl (cI, 2001, .inl (upd g1 0 0))), (h6, .inr (2, f2)), (h7, .inl (cI, 260, .inl (upd (upd (upd g2 259 0) 250 0) 251 2))), (h2, .inr (3, ((((f1.set 6 (.ref h1)).set 7 (.int 0)).set 8 (.int 0)).set 5 (.int 0)))), (h8, .inl (cI, 13312, .inl (upd (upd g3 12800 43) 12801 43))), (h0, .inr (8, (((((((((((((((((f0.set 3 (.int 0)).set 4 (.int 0)).set 5 (.int 0)).set 6 (.int (-1))).set 6 (.int 0)).set 7 (.int 0)).set 8 (.int 0)).set 11 (.int 25)).set 12 (.int 0)).set 13 (.int 0)).set 14 (.int 0)).set 3 (.int 2)).set 4 (.int 0)).set 7 (.int 44)).set 13 (.int 1)).set 13 (.int 2)).set 7 (.int 44))))] H := hP
  have hD : va_D A [(h4, .inl (cI, 2001, .inl (upd g0 0 0))), (h5, .inl (cI, 2001, .inl (upd g1 0 0))), (h6, .inr (2, f2)), (h7, .inl (cI, 260, .inl (upd (upd (upd g2 259 0) 250 0) 251 2))), (h2, .inr (3, ((((f1.set 6 (.ref h1)).set 7 (.int 0)).set 8 (.int 0)).set 5 (.int 0)))), (h8, .inl (cI, 13312, .inl (upd (upd g3 12800 43) 12801 43))), (h0, .inr (8, (((((((((((((((((f0.set 3 (.int 0)).set 4 (.int 0)).set 5 (.int 0)).set 6 (.int (-1))).set 6 (.int 0)).set 7 (.int 0)).set 8 (.int 0)).set 11 (.int 25)).set 12 (.int 0)).set 13 (.int 0)).set 14 (.int 0)).set 3 (.int 2)).set 4 (.int 0)).set 7 (.int 44)).set 13 (.int 1)).set 13 (.int 2)).set 7 (.int 44))))] := hD
  refine lv_aload_n hx hb dX8_readTerm_17 rfl (lv_at hl 0 rfl) ?_
  refine va_get (D := D) (ref := "IntegerHouse$Reader") (ci := 8) (v := .int 2) (C := RX8) (T := TX8) (N := 15) hx hb hts hin8 hown hK hP 6 rfl rfl 3 (by decide) (hts (.fieldLink RX8 62 "IntegerHouse$Reader" "faultKind" "I") (List.mem_cons_of_mem _ (List.mem_append_left _ (List.mem_append_left _ (List.mem_append_left _ (List.mem_append_left _ (List.mem_append_left _ (List.mem_of_getElem? (i := 0) rfl)))))))) (fun _ h9 => h9) (k_ne (by decide) (k_ne (by decide) (k_ne (by decide) (k_ne (by decide) (k_ne (by decide) (k_set (k_ne (by decide) (k_ne (by decide) (k_ne (by decide) (k_ne (by decide) (k_ne (by decide) (k_ne (by decide) (k_ne (by decide) (k_ne (by decide) (k_ne (by decide) (k_ne (by decide) (k_set e7))))))))))))))))) dX8_readTerm_18 ?_
  refine lv_if_ne (tgt := 59) hx hb dX8_readTerm_21 (by decide) (fun _ => ?_) (fun c9 => absurd c9 (by decide))
  refine lv_aload_n hx hb dX8_readTerm_59 rfl (lv_at hl 0 rfl) ?_
  refine va_get (D := D) (ref := "IntegerHouse$Reader") (ci := 8) (v := .int 2) (C := RX8) (T := TX8) (N := 15) hx hb hts hin8 hown hK hP 6 rfl rfl 3 (by decide) (hts (.fieldLink RX8 62 "IntegerHouse$Reader" "faultKind" "I") (List.mem_cons_of_mem _ (List.mem_append_left _ (List.mem_append_left _ (List.mem_append_left _ (List.mem_append_left _ (List.mem_append_left _ (List.mem_of_getElem? (i := 0) rfl)))))))) (fun _ h9 => h9) (k_ne (by decide) (k_ne (by decide) (k_ne (by decide) (k_ne (by decide) (k_ne (by decide) (k_set (k_ne (by decide) (k_ne (by decide) (k_ne (by decide) (k_ne (by decide) (k_ne (by decide) (k_ne (by decide) (k_ne (by decide) (k_ne (by decide) (k_ne (by decide) (k_ne (by decide) (k_set e7))))))))))))))))) dX8_readTerm_60 ?_
  refine lv_if_ne (tgt := 70) hx hb dX8_readTerm_63 (by decide) (fun _ => ?_) (fun c9 => absurd c9 (by decide))
  refine lv_iconst (v := 0) hx hb dX8_readTerm_70 (by decide) ?_
  have hP := hP.sub (ws' := [(h0, .inr (8, (((((((((((((((((f0.set 3 (.int 0)).set 4 (.int 0)).set 5 (.int 0)).set 6 (.int (-1))).set 6 (.int 0)).set 7 (.int 0)).set 8 (.int 0)).set 11 (.int 25)).set 12 (.int 0)).set 13 (.int 0)).set 14 (.int 0)).set 3 (.int 2)).set 4 (.int 0)).set 7 (.int 44)).set 13 (.int 1)).set 13 (.int 2)).set 7 (.int 44)))), (h2, .inr (3, ((((f1.set 6 (.ref h1)).set 7 (.int 0)).set 8 (.int 0)).set 5 (.int 0)))), (h4, .inl (cI, 2001, .inl (upd g0 0 0))), (h5, .inl (cI, 2001, .inl (upd g1 0 0))), (h6, .inr (2, f2)), (h7, .inl (cI, 260, .inl (upd (upd (upd g2 259 0) 250 0) 251 2))), (h8, .inl (cI, 13312, .inl (upd (upd g3 12800 43) 12801 43)))]) [6, 4, 0, 1, 2, 3, 5] rfl
  have hD := hD.sub (ws' := [(h0, .inr (8, (((((((((((((((((f0.set 3 (.int 0)).set 4 (.int 0)).set 5 (.int 0)).set 6 (.int (-1))).set 6 (.int 0)).set 7 (.int 0)).set 8 (.int 0)).set 11 (.int 25)).set 12 (.int 0)).set 13 (.int 0)).set 14 (.int 0)).set 3 (.int 2)).set 4 (.int 0)).set 7 (.int 44)).set 13 (.int 1)).set 13 (.int 2)).set 7 (.int 44)))), (h2, .inr (3, ((((f1.set 6 (.ref h1)).set 7 (.int 0)).set 8 (.int 0)).set 5 (.int 0)))), (h4, .inl (cI, 2001, .inl (upd g0 0 0))), (h5, .inl (cI, 2001, .inl (upd g1 0 0))), (h6, .inr (2, f2)), (h7, .inl (cI, 260, .inl (upd (upd (upd g2 259 0) 250 0) 251 2))), (h8, .inl (cI, 13312, .inl (upd (upd g3 12800 43) 12801 43)))]) [6, 4, 0, 1, 2, 3, 5] (by decide +kernel) rfl
  exact W.zret (v := 0) hx hb hr rfl (fun t ht hW => ⟨⟨0, (), rfl, rfl, kB_mk ht hW hP hK hD⟩, hS.F ht⟩) hS.2.2 dX8_readTerm_71
set_option maxHeartbeats 400000000 in
set_option maxRecDepth 100000 in
theorem c_X11_relaxed_0 (l : Launch) (E : kE) (D : va_G) (cI cJ cB cZ : ClassId) (h0 : Nat) (f0 : List Value) (h1 : Nat) (f1 : List Value) (h2 : Nat) (f2 : List Value) (h3 : Nat) (h4 : Nat) (f3 : List Value) (h5 : Nat) (f4 : List Value) (h6 : Nat) (h7 : Nat) (h8 : Nat) (h9 : Nat) (h10 : Nat) (g0 : Nat → Int32) (g1 : Nat → Int32) (g2 : Nat → Int32) (g3 : Nat → Int32) (e0 : f0[1]? = some (.ref h1)) (e1 : f1[8]? = some (.int 0)) (e2 : f0[12]? = some (.int 0)) (e3 : f0[2]? = some (.ref h2)) (e4 : f2[11]? = some (.int 0)) (e5 : f0[5]? = some (.ref h3)) (e6 : f0[0]? = some (.ref h4)) (e7 : f3[0]? = some (.ref h5)) (e8 : f4[6]? = some (.ref h6)) (e9 : f4[7]? = some (.int 0)) (e10 : f4[8]? = some (.int 0)) (e11 : f4[5]? = some (.int 0)) (e12 : f4[1]? = some (.ref h7)) (e13 : f4[2]? = some (.ref h8)) (e14 : f3[3]? = some (.int 0)) (e15 : f3[4]? = some (.int 0)) (e16 : f3[5]? = some (.int 0)) (e17 : f3[6]? = some (.int 0)) (e18 : f3[7]? = some (.int 0)) (e19 : f3[8]? = some (.int 0)) (e20 : f3[11]? = some (.int 0)) (e21 : f3[12]? = some (.int 0)) (e22 : f3[13]? = some (.int 0)) (e23 : f3[14]? = some (.int 0)) (e24 : f3[1]? = some (.ref h2)) (e25 : f2[5]? = some (.ref h9)) (e26 : f2[10]? = some (.int 0)) (e27 : f2[3]? = some (.ref h10)) (e28 : f0[13]? = some (.int 0)) : kI l E D (kT cI cJ cB cZ) yX11_relaxed wsX11_relaxed ({ frames := 6, cells := 0, slots := 0, locals := 134 }) [.ref h0] [(h0, .inr (11, f0)), (h1, .inr (1, f1)), (h2, .inr (2, f2)), (h3, .inr (8, f3)), (h5, .inr (3, f4)), (h7, .inl (cI, 2001, .inl g0)), (h8, .inl (cI, 2001, .inl g1)), (h9, .inl (cI, 260, .inl g2)), (h10, .inl (cI, 13312, .inl g3))] ((-1000)) [(h0, .inr (11, ((f0.set 12 (.int 0)).set 13 (.int 2)))), (h1, .inr (1, f1)), (h2, .inr (2, f2)), (h3, .inr (8, (((((((((((((((((f3.set 3 (.int 0)).set 4 (.int 0)).set 5 (.int 0)).set 6 (.int (-1))).set 6 (.int 0)).set 7 (.int 0)).set 8 (.int 0)).set 11 (.int 25)).set 12 (.int 0)).set 13 (.int 0)).set 14 (.int 0)).set 3 (.int 2)).set 4 (.int 0)).set 7 (.int 44)).set 13 (.int 1)).set 13 (.int 2)).set 7 (.int 44)))), (h5, .inr (3, ((((f4.set 6 (.ref h4)).set 7 (.int 0)).set 8 (.int 0)).set 5 (.int 0)))), (h7, .inl (cI, 2001, .inl (upd g0 0 0))), (h8, .inl (cI, 2001, .inl (upd g1 0 0))), (h9, .inl (cI, 260, .inl (upd (upd (upd g2 259 0) 250 0) 251 2))), (h10, .inl (cI, 13312, .inl (upd (upd g3 12800 43) 12801 43)))] 0 0 := by
  intro sz
  refine Met.ofW (cc := cX11_relaxed) (maxL := 2) (ret := (some .int)) (by decide) rfl ?_
  intro p e s m args below meth c s₁ B hml hv
  obtain ⟨rfl, hsz, hP, hK, hD0, hN, hX⟩ := hv
  have hx := B.exec
  have hb := B.bytes
  have hr := B.returns
  have hts := atoms_spec (ws := wsX11_relaxed) B.pre
  have hown : s.vm.findClass RX11 = some m.cls := findClass_of_methodNamed B.named
  have hlocks := B.notSynchronized
  have hin11 : ∀ w ∈ wsX110, w ∈ wsX11_relaxed := (fun w h => (List.mem_cons_of_mem _ (List.mem_append_left _ (List.mem_append_left _ (List.mem_append_left _ (List.mem_append_left _ (List.mem_append_left _ (List.mem_append_left _ (List.mem_append_right _ h)))))))))
  have hin1 : ∀ w ∈ wsX10, w ∈ wsX11_relaxed := (fun w h => (List.mem_cons_of_mem _ (List.mem_append_left _ (List.mem_append_left _ (List.mem_append_left _ (List.mem_append_left _ (List.mem_append_left _ (List.mem_append_right _ h))))))))
  subst hsz
  have hD := hD0.self (sz := s.heap.size)
  have hAE := k_AE hD0 hX
  generalize hAe : va_A [(h0, .inr (11, f0)), (h1, .inr (1, f1)), (h2, .inr (2, f2)), (h3, .inr (8, f3)), (h5, .inr (3, f4)), (h7, .inl (cI, 2001, .inl g0)), (h8, .inl (cI, 2001, .inl g1)), (h9, .inl (cI, 260, .inl g2)), (h10, .inl (cI, 13312, .inl g3))] s.heap.size = A at hD hAE ⊢
  have hA : ∀ q : Nat, s.heap.size ≤ q → A q := fun q h => by rw [← hAe]; exact Or.inr h
  have hS : va_S A s.heap s.heap [] := va_S.rf
  have hP : va_P D vwCl [(h0, .inr (11, f0)), (h1, .inr (1, f1)), (h2, .inr (2, f2)), (h3, .inr (8, f3)), (h5, .inr (3, f4)), (h7, .inl (cI, 2001, .inl g0)), (h8, .inl (cI, 2001, .inl g1)), (h9, .inl (cI, 260, .inl g2)), (h10, .inl (cI, 13312, .inl g3))] s.heap := hP
  have hl := lv_entry ([.ref h0] : List Value) (n := 2) (Nat.le_of_ble_eq_true rfl)
  rw [lg_entry_eq]
  generalize (lg_sl ([.ref h0]) ++ List.replicate (2 - (lg_sl ([.ref h0])).length) Slot.unset).toArray = ls at hl ⊢
  have hl : lv_has ls 2 [(0, .ref h0)] := hl
  refine lv_aload_n hx hb dX11_relaxed_0 rfl (lv_at hl 0 rfl) ?_
  refine va_get (D := D) (ref := "IntegerHouse") (ci := 11) (v := .ref h1) (C := RX11) (T := TX11) (N := 15) hx hb hts hin11 hown hK hP 0 rfl rfl 1 (by decide) (hts (.fieldLink RX11 16 "IntegerHouse" "disk" "LIntegerHouse$Disk;") (List.mem_cons_of_mem _ (List.mem_append_left _ (List.mem_append_left _ (List.mem_append_left _ (List.mem_append_left _ (List.mem_append_left _ (List.mem_append_left _ (List.mem_append_left _ (List.mem_append_left _ (List.mem_of_getElem? (i := 0) rfl))))))))))) (fun _ h9 => h9) e0 dX11_relaxed_1 ?_
  refine va_getN (host := "IntegerHouse") (D := D) (ref := "IntegerHouse$Disk") (ci := 1) (v := .int 0) (C := RX1) (T := TX1) (N := 9) hx hb hts hin1 hown hK hP 1 rfl rfl 8 (by decide) (va_Nw.use rfl (hN.1 ("IntegerHouse", 122, "IntegerHouse$Disk", "down", "Z", "IntegerHouse") (List.mem_of_getElem? (i := 3) rfl))) (fun _ h9 => h9) e1 dX11_relaxed_4 ?_
  refine lv_if_eq (tgt := 13) hx hb dX11_relaxed_7 (by decide) (fun _ => ?_) (fun c9 => absurd (by decide) c9)
  refine lv_aload_n hx hb dX11_relaxed_13 rfl (lv_at hl 0 rfl) ?_
  refine k_cVi (As := []) (rest := []) (wc := [(h0, .inr (11, f0))]) (wr := [(h1, .inr (1, f1)), (h2, .inr (2, f2)), (h3, .inr (8, f3)), (h5, .inr (3, f4)), (h7, .inl (cI, 2001, .inl g0)), (h8, .inl (cI, 2001, .inl g1)), (h9, .inl (cI, 260, .inl g2)), (h10, .inl (cI, 13312, .inl g3))]) (w1 := [(h0, .inr (11, (f0.set 12 (.int 0))))]) ⟨hx, hb, hml, hown, hts⟩ hN hX hAE hK hP hD hS hA [0] [1, 2, 3, 4, 5, 6, 7, 8] (ci := 11) rfl rfl rfl rfl (by decide +kernel) (by decide +kernel) (by decide +kernel) (c_X11_useTape_0 l E D cI cJ cB cZ h0 f0 e2) (cwV 0 hts gX11_relaxed_X11_useTape rfl rfl rfl (by decide +kernel) ⟨Nat.le_of_ble_eq_true rfl, Nat.le_of_ble_eq_true rfl⟩) rfl hl.1 (Nat.le_of_ble_eq_true rfl) dX11_relaxed_14 ⟨Nat.le_of_ble_eq_true rfl, Nat.le_of_ble_eq_true rfl⟩ (fun H locs hP hD hS => ?_)
  have hP : va_P D vwCl [(h1, .inr (1, f1)), (h2, .inr (2, f2)), (h3, .inr (8, f3)), (h5, .inr (3, f4)), (h7, .inl (cI, 2001, .inl g0)), (h8, .inl (cI, 2001, .inl g1)), (h9, .inl (cI, 260, .inl g2)), (h10, .inl (cI, 13312, .inl g3)), (h0, .inr (11, (f0.set 12 (.int 0))))] H := hP
  have hD : va_D A [(h1, .inr (1, f1)), (h2, .inr (2, f2)), (h3, .inr (8, f3)), (h5, .inr (3, f4)), (h7, .inl (cI, 2001, .inl g0)), (h8, .inl (cI, 2001, .inl g1)), (h9, .inl (cI, 260, .inl g2)), (h10, .inl (cI, 13312, .inl g3)), (h0, .inr (11, (f0.set 12 (.int 0))))] := hD
  refine lv_istore_n (lv' := [(1, .int 0), (0, .ref h0)]) hx hb dX11_relaxed_17 rfl hl (by decide) rfl (fun ls hl => ?_)
  refine lv_aload_n hx hb dX11_relaxed_18 rfl (lv_at hl 1 rfl) ?_
  refine va_get (D := D) (ref := "IntegerHouse") (ci := 11) (v := .ref h2) (C := RX11) (T := TX11) (N := 15) hx hb hts hin11 hown hK hP 8 rfl rfl 2 (by decide) (hts (.fieldLink RX11 23 "IntegerHouse" "house" "LIntegerHouse$House;") (List.mem_cons_of_mem _ (List.mem_append_left _ (List.mem_append_left _ (List.mem_append_left _ (List.mem_append_left _ (List.mem_append_left _ (List.mem_append_left _ (List.mem_append_left _ (List.mem_append_left _ (List.mem_of_getElem? (i := 1) rfl))))))))))) (fun _ h9 => h9) (k_ne (by decide) e3) dX11_relaxed_19 ?_
  refine k_cVi (As := []) (rest := []) (wc := [(h2, .inr (2, f2))]) (wr := [(h1, .inr (1, f1)), (h3, .inr (8, f3)), (h5, .inr (3, f4)), (h7, .inl (cI, 2001, .inl g0)), (h8, .inl (cI, 2001, .inl g1)), (h9, .inl (cI, 260, .inl g2)), (h10, .inl (cI, 13312, .inl g3)), (h0, .inr (11, (f0.set 12 (.int 0))))]) (w1 := [(h2, .inr (2, f2))]) ⟨hx, hb, hml, hown, hts⟩ hN hX hAE hK hP hD hS hA [1] [0, 2, 3, 4, 5, 6, 7, 8] (ci := 2) rfl rfl rfl rfl (by decide +kernel) (by decide +kernel) (by decide +kernel) (c_X2_allPlain_0 l E D cI cJ cB cZ h2 f2 e4) (cwV 0 hts gX11_relaxed_X2_allPlain rfl rfl rfl (by decide +kernel) ⟨Nat.le_of_ble_eq_true rfl, Nat.le_of_ble_eq_true rfl⟩) rfl hl.1 (Nat.le_of_ble_eq_true rfl) dX11_relaxed_22 ⟨Nat.le_of_ble_eq_true rfl, Nat.le_of_ble_eq_true rfl⟩ (fun H locs hP hD hS => ?_)
  have hP : va_P D vwCl [(h1, .inr (1, f1)), (h3, .inr (8, f3)), (h5, .inr (3, f4)), (h7, .inl (cI, 2001, .inl g0)), (h8, .inl (cI, 2001, .inl g1)), (h9, .inl (cI, 260, .inl g2)), (h10, .inl (cI, 13312, .inl g3)), (h0, .inr (11, (f0.set 12 (.int 0)))), (h2, .inr (2, f2))] H := hP
  have hD : va_D A [(h1, .inr (1, f1)), (h3, .inr (8, f3)), (h5, .inr (3, f4)), (h7, .inl (cI, 2001, .inl g0)), (h8, .inl (cI, 2001, .inl g1)), (h9, .inl (cI, 260, .inl g2)), (h10, .inl (cI, 13312, .inl g3)), (h0, .inr (11, (f0.set 12 (.int 0)))), (h2, .inr (2, f2))] := hD
  refine lv_if_ne (tgt := 31) hx hb dX11_relaxed_25 (by decide) (fun _ => ?_) (fun c9 => absurd c9 (by decide))
  refine lv_aload_n hx hb dX11_relaxed_31 rfl (lv_at hl 1 rfl) ?_
  refine va_get (D := D) (ref := "IntegerHouse") (ci := 11) (v := .ref h3) (C := RX11) (T := TX11) (N := 15) hx hb hts hin11 hown hK hP 7 rfl rfl 5 (by decide) (hts (.fieldLink RX11 48 "IntegerHouse" "reader" "LIntegerHouse$Reader;") (List.mem_cons_of_mem _ (List.mem_append_left _ (List.mem_append_left _ (List.mem_append_left _ (List.mem_append_left _ (List.mem_append_left _ (List.mem_append_left _ (List.mem_append_left _ (List.mem_append_left _ (List.mem_of_getElem? (i := 2) rfl))))))))))) (fun _ h9 => h9) (k_ne (by decide) e5) dX11_relaxed_32 ?_
  refine lv_aload_n hx hb dX11_relaxed_35 rfl (lv_at hl 1 rfl) ?_
  refine va_get (D := D) (ref := "IntegerHouse") (ci := 11) (v := .ref h4) (C := RX11) (T := TX11) (N := 15) hx hb hts hin11 hown hK hP 7 rfl rfl 0 (by decide) (hts (.fieldLink RX11 9 "IntegerHouse" "tape" "[B") (List.mem_cons_of_mem _ (List.mem_append_left _ (List.mem_append_left _ (List.mem_append_left _ (List.mem_append_left _ (List.mem_append_left _ (List.mem_append_left _ (List.mem_append_left _ (List.mem_append_left _ (List.mem_of_getElem? (i := 3) rfl))))))))))) (fun _ h9 => h9) (k_ne (by decide) e6) dX11_relaxed_36 ?_
  refine lv_iload_n hx hb dX11_relaxed_39 rfl (lv_at hl 0 rfl) ?_
  refine k_cVi (As := [.ref h4, .int 0]) (rest := []) (wc := [(h3, .inr (8, f3)), (h5, .inr (3, f4)), (h7, .inl (cI, 2001, .inl g0)), (h8, .inl (cI, 2001, .inl g1)), (h2, .inr (2, f2)), (h9, .inl (cI, 260, .inl g2)), (h10, .inl (cI, 13312, .inl g3))]) (wr := [(h1, .inr (1, f1)), (h0, .inr (11, (f0.set 12 (.int 0))))]) (w1 := [(h3, .inr (8, (((((((((((((((((f3.set 3 (.int 0)).set 4 (.int 0)).set 5 (.int 0)).set 6 (.int (-1))).set 6 (.int 0)).set 7 (.int 0)).set 8 (.int 0)).set 11 (.int 25)).set 12 (.int 0)).set 13 (.int 0)).set 14 (.int 0)).set 3 (.int 2)).set 4 (.int 0)).set 7 (.int 44)).set 13 (.int 1)).set 13 (.int 2)).set 7 (.int 44)))), (h5, .inr (3, ((((f4.set 6 (.ref h4)).set 7 (.int 0)).set 8 (.int 0)).set 5 (.int 0)))), (h7, .inl (cI, 2001, .inl (upd g0 0 0))), (h8, .inl (cI, 2001, .inl (upd g1 0 0))), (h2, .inr (2, f2)), (h9, .inl (cI, 260, .inl (upd (upd (upd g2 259 0) 250 0) 251 2))), (h10, .inl (cI, 13312, .inl (upd (upd g3 12800 43) 12801 43)))]) ⟨hx, hb, hml, hown, hts⟩ hN hX hAE hK hP hD hS hA [1, 2, 3, 4, 8, 5, 6] [0, 7] (ci := 8) rfl rfl rfl rfl (by decide +kernel) (by decide +kernel) (by decide +kernel) (c_X8_readTerm_0 l E D cI cJ cB cZ h3 h4 f3 h5 f4 h6 h7 h8 g0 g1 h2 f2 h9 h10 g2 g3 e7 e8 e9 e10 e11 e12 e13 e14 e15 e16 e17 e18 e19 e20 e21 e22 e23 e24 e25 e26 e27) (cwV 2 hts gX11_relaxed_X8_readTerm rfl rfl rfl (by decide +kernel) ⟨Nat.le_of_ble_eq_true rfl, Nat.le_of_ble_eq_true rfl⟩) rfl hl.1 (Nat.le_of_ble_eq_true rfl) dX11_relaxed_40 ⟨Nat.le_of_ble_eq_true rfl, Nat.le_of_ble_eq_true rfl⟩ (fun H locs hP hD hS => ?_)
  have hP : va_P D vwCl [(h1, .inr (1, f1)), (h0, .inr (11, (f0.set 12 (.int 0)))), (h3, .inr (8, (((((((((((((((((f3.set 3 (.int 0)).set 4 (.int 0)).set 5 (.int 0)).set 6 (.int (-1))).set 6 (.int 0)).set 7 (.int 0)).set 8 (.int 0)).set 11 (.int 25)).set 12 (.int 0)).set 13 (.int 0)).set 14 (.int 0)).set 3 (.int 2)).set 4 (.int 0)).set 7 (.int 44)).set 13 (.int 1)).set 13 (.int 2)).set 7 (.int 44)))), (h5, .inr (3, ((((f4.set 6 (.ref h4)).set 7 (.int 0)).set 8 (.int 0)).set 5 (.int 0)))), (h7, .inl (cI, 2001, .inl (upd g0 0 0))), (h8, .inl (cI, 2001, .inl (upd g1 0 0))), (h2, .inr (2, f2)), (h9, .inl (cI, 260, .inl (upd (upd (upd g2 259 0) 250 0) 251 2))), (h10, .inl (cI, 13312, .inl (upd (upd g3 12800 43) 12801 43)))] H := hP
  have hD : va_D A [(h1, .inr (1, f1)), (h0, .inr (11, (f0.set 12 (.int 0)))), (h3, .inr (8, (((((((((((((((((f3.set 3 (.int 0)).set 4 (.int 0)).set 5 (.int 0)).set 6 (.int (-1))).set 6 (.int 0)).set 7 (.int 0)).set 8 (.int 0)).set 11 (.int 25)).set 12 (.int 0)).set 13 (.int 0)).set 14 (.int 0)).set 3 (.int 2)).set 4 (.int 0)).set 7 (.int 44)).set 13 (.int 1)).set 13 (.int 2)).set 7 (.int 44)))), (h5, .inr (3, ((((f4.set 6 (.ref h4)).set 7 (.int 0)).set 8 (.int 0)).set 5 (.int 0)))), (h7, .inl (cI, 2001, .inl (upd g0 0 0))), (h8, .inl (cI, 2001, .inl (upd g1 0 0))), (h2, .inr (2, f2)), (h9, .inl (cI, 260, .inl (upd (upd (upd g2 259 0) 250 0) 251 2))), (h10, .inl (cI, 13312, .inl (upd (upd g3 12800 43) 12801 43)))] := hD
  refine lv_if_ne (tgt := 51) hx hb dX11_relaxed_43 (by decide) (fun c9 => absurd (by decide) c9) (fun _ => ?_)
  refine lv_aload_n hx hb dX11_relaxed_46 rfl (lv_at hl 1 rfl) ?_
  refine k_cVi (As := []) (rest := []) (wc := [(h0, .inr (11, (f0.set 12 (.int 0)))), (h3, .inr (8, (((((((((((((((((f3.set 3 (.int 0)).set 4 (.int 0)).set 5 (.int 0)).set 6 (.int (-1))).set 6 (.int 0)).set 7 (.int 0)).set 8 (.int 0)).set 11 (.int 25)).set 12 (.int 0)).set 13 (.int 0)).set 14 (.int 0)).set 3 (.int 2)).set 4 (.int 0)).set 7 (.int 44)).set 13 (.int 1)).set 13 (.int 2)).set 7 (.int 44))))]) (wr := [(h1, .inr (1, f1)), (h5, .inr (3, ((((f4.set 6 (.ref h4)).set 7 (.int 0)).set 8 (.int 0)).set 5 (.int 0)))), (h7, .inl (cI, 2001, .inl (upd g0 0 0))), (h8, .inl (cI, 2001, .inl (upd g1 0 0))), (h2, .inr (2, f2)), (h9, .inl (cI, 260, .inl (upd (upd (upd g2 259 0) 250 0) 251 2))), (h10, .inl (cI, 13312, .inl (upd (upd g3 12800 43) 12801 43)))]) (w1 := [(h0, .inr (11, ((f0.set 12 (.int 0)).set 13 (.int 2)))), (h3, .inr (8, (((((((((((((((((f3.set 3 (.int 0)).set 4 (.int 0)).set 5 (.int 0)).set 6 (.int (-1))).set 6 (.int 0)).set 7 (.int 0)).set 8 (.int 0)).set 11 (.int 25)).set 12 (.int 0)).set 13 (.int 0)).set 14 (.int 0)).set 3 (.int 2)).set 4 (.int 0)).set 7 (.int 44)).set 13 (.int 1)).set 13 (.int 2)).set 7 (.int 44))))]) ⟨hx, hb, hml, hown, hts⟩ hN hX hAE hK hP hD hS hA [1, 2] [0, 3, 4, 5, 6, 7, 8] (ci := 11) rfl rfl rfl rfl (by decide +kernel) (by decide +kernel) (by decide +kernel) (c_X11_faulted_0 l E D cI cJ cB cZ h0 ((f0.set 12 (.int 0))) h3 ((((((((((((((((((f3.set 3 (.int 0)).set 4 (.int 0)).set 5 (.int 0)).set 6 (.int (-1))).set 6 (.int 0)).set 7 (.int 0)).set 8 (.int 0)).set 11 (.int 25)).set 12 (.int 0)).set 13 (.int 0)).set 14 (.int 0)).set 3 (.int 2)).set 4 (.int 0)).set 7 (.int 44)).set 13 (.int 1)).set 13 (.int 2)).set 7 (.int 44))) (k_ne (by decide) e5) (k_ne (by decide) (k_ne (by decide) (k_ne (by decide) (k_ne (by decide) (k_ne (by decide) (k_set (k_ne (by decide) (k_ne (by decide) (k_ne (by decide) (k_ne (by decide) (k_ne (by decide) (k_ne (by decide) (k_ne (by decide) (k_ne (by decide) (k_ne (by decide) (k_ne (by decide) (k_set e14))))))))))))))))) (k_ne (by decide) e28) (k_ne (by decide) (k_ne (by decide) (k_ne (by decide) (k_ne (by decide) (k_set (k_ne (by decide) (k_ne (by decide) (k_ne (by decide) (k_ne (by decide) (k_ne (by decide) (k_ne (by decide) (k_ne (by decide) (k_ne (by decide) (k_ne (by decide) (k_ne (by decide) (k_set (k_ne (by decide) e15)))))))))))))))))) (cwV 0 hts gX11_relaxed_X11_faulted rfl rfl rfl (by decide +kernel) ⟨Nat.le_of_ble_eq_true rfl, Nat.le_of_ble_eq_true rfl⟩) rfl hl.1 (Nat.le_of_ble_eq_true rfl) dX11_relaxed_47 ⟨Nat.le_of_ble_eq_true rfl, Nat.le_of_ble_eq_true rfl⟩ (fun H locs hP hD hS => ?_)
  have hP : va_P D vwCl [(h1, .inr (1, f1)), (h5, .inr (3, ((((f4.set 6 (.ref h4)).set 7 (.int 0)).set 8 (.int 0)).set 5 (.int 0)))), (h7, .inl (cI, 2001, .inl (upd g0 0 0))), (h8, .inl (cI, 2001, .inl (upd g1 0 0))), (h2, .inr (2, f2)), (h9, .inl (cI, 260, .inl (upd (upd (upd g2 259 0) 250 0) 251 2))), (h10, .inl (cI, 13312, .inl (upd (upd g3 12800 43) 12801 43))), (h0, .inr (11, ((f0.set 12 (.int 0)).set 13 (.int 2)))), (h3, .inr (8, (((((((((((((((((f3.set 3 (.int 0)).set 4 (.int 0)).set 5 (.int 0)).set 6 (.int (-1))).set 6 (.int 0)).set 7 (.int 0)).set 8 (.int 0)).set 11 (.int 25)).set 12 (.int 0)).set 13 (.int 0)).set 14 (.int 0)).set 3 (.int 2)).set 4 (.int 0)).set 7 (.int 44)).set 13 (.int 1)).set 13 (.int 2)).set 7 (.int 44))))] H := hP
  have hD : va_D A [(h1, .inr (1, f1)), (h5, .inr (3, ((((f4.set 6 (.ref h4)).set 7 (.int 0)).set 8 (.int 0)).set 5 (.int 0)))), (h7, .inl (cI, 2001, .inl (upd g0 0 0))), (h8, .inl (cI, 2001, .inl (upd g1 0 0))), (h2, .inr (2, f2)), (h9, .inl (cI, 260, .inl (upd (upd (upd g2 259 0) 250 0) 251 2))), (h10, .inl (cI, 13312, .inl (upd (upd g3 12800 43) 12801 43))), (h0, .inr (11, ((f0.set 12 (.int 0)).set 13 (.int 2)))), (h3, .inr (8, (((((((((((((((((f3.set 3 (.int 0)).set 4 (.int 0)).set 5 (.int 0)).set 6 (.int (-1))).set 6 (.int 0)).set 7 (.int 0)).set 8 (.int 0)).set 11 (.int 25)).set 12 (.int 0)).set 13 (.int 0)).set 14 (.int 0)).set 3 (.int 2)).set 4 (.int 0)).set 7 (.int 44)).set 13 (.int 1)).set 13 (.int 2)).set 7 (.int 44))))] := hD
  have hP := hP.sub (ws' := [(h0, .inr (11, ((f0.set 12 (.int 0)).set 13 (.int 2)))), (h1, .inr (1, f1)), (h2, .inr (2, f2)), (h3, .inr (8, (((((((((((((((((f3.set 3 (.int 0)).set 4 (.int 0)).set 5 (.int 0)).set 6 (.int (-1))).set 6 (.int 0)).set 7 (.int 0)).set 8 (.int 0)).set 11 (.int 25)).set 12 (.int 0)).set 13 (.int 0)).set 14 (.int 0)).set 3 (.int 2)).set 4 (.int 0)).set 7 (.int 44)).set 13 (.int 1)).set 13 (.int 2)).set 7 (.int 44)))), (h5, .inr (3, ((((f4.set 6 (.ref h4)).set 7 (.int 0)).set 8 (.int 0)).set 5 (.int 0)))), (h7, .inl (cI, 2001, .inl (upd g0 0 0))), (h8, .inl (cI, 2001, .inl (upd g1 0 0))), (h9, .inl (cI, 260, .inl (upd (upd (upd g2 259 0) 250 0) 251 2))), (h10, .inl (cI, 13312, .inl (upd (upd g3 12800 43) 12801 43)))]) [7, 0, 4, 8, 1, 2, 3, 5, 6] rfl
  have hD := hD.sub (ws' := [(h0, .inr (11, ((f0.set 12 (.int 0)).set 13 (.int 2)))), (h1, .inr (1, f1)), (h2, .inr (2, f2)), (h3, .inr (8, (((((((((((((((((f3.set 3 (.int 0)).set 4 (.int 0)).set 5 (.int 0)).set 6 (.int (-1))).set 6 (.int 0)).set 7 (.int 0)).set 8 (.int 0)).set 11 (.int 25)).set 12 (.int 0)).set 13 (.int 0)).set 14 (.int 0)).set 3 (.int 2)).set 4 (.int 0)).set 7 (.int 44)).set 13 (.int 1)).set 13 (.int 2)).set 7 (.int 44)))), (h5, .inr (3, ((((f4.set 6 (.ref h4)).set 7 (.int 0)).set 8 (.int 0)).set 5 (.int 0)))), (h7, .inl (cI, 2001, .inl (upd g0 0 0))), (h8, .inl (cI, 2001, .inl (upd g1 0 0))), (h9, .inl (cI, 260, .inl (upd (upd (upd g2 259 0) 250 0) 251 2))), (h10, .inl (cI, 13312, .inl (upd (upd g3 12800 43) 12801 43)))]) [7, 0, 4, 8, 1, 2, 3, 5, 6] (by decide +kernel) rfl
  exact W.iret (v := (-1000)) hx hb hr (fun t ht hW => ⟨⟨(-1000), (), rfl, rfl, kB_mk ht hW hP hK hD⟩, hS.F ht⟩) hS.2.2 dX11_relaxed_50
set_option maxHeartbeats 400000000 in
set_option maxRecDepth 100000 in
theorem c_X12_isAllPlain_0 (l : Launch) (E : kE) (D : va_G) (cI cJ cB cZ : ClassId) (h0 : Nat) (f0 : List Value) (e0 : f0[33]? = some (.int 0)) : kI l E D (kT cI cJ cB cZ) yX12_isAllPlain wsX12_isAllPlain ({ frames := 0, cells := 0, slots := 0, locals := 0 }) [.ref h0] [(h0, .inr (12, f0))] (1) [(h0, .inr (12, f0))] 0 0 := by
  intro sz
  refine Met.ofW (cc := cX12_isAllPlain) (maxL := 3) (ret := (some .boolean)) (by decide) rfl ?_
  intro p e s m args below meth c s₁ B hml hv
  obtain ⟨rfl, hsz, hP, hK, hD0, hN, hX⟩ := hv
  have hx := B.exec
  have hb := B.bytes
  have hr := B.returns
  have hts := atoms_spec (ws := wsX12_isAllPlain) B.pre
  have hown : s.vm.findClass RX12 = some m.cls := findClass_of_methodNamed B.named
  have hlocks := B.notSynchronized
  have hin12 : ∀ w ∈ wsX120, w ∈ wsX12_isAllPlain := (fun w h => (List.mem_cons_of_mem _ (List.mem_append_right _ h)))
  subst hsz
  have hD := hD0.self (sz := s.heap.size)
  have hAE := k_AE hD0 hX
  generalize hAe : va_A [(h0, .inr (12, f0))] s.heap.size = A at hD hAE ⊢
  have hA : ∀ q : Nat, s.heap.size ≤ q → A q := fun q h => by rw [← hAe]; exact Or.inr h
  have hS : va_S A s.heap s.heap [] := va_S.rf
  have hP : va_P D vwCl [(h0, .inr (12, f0))] s.heap := hP
  have hl := lv_entry ([.ref h0] : List Value) (n := 3) (Nat.le_of_ble_eq_true rfl)
  rw [lg_entry_eq]
  generalize (lg_sl ([.ref h0]) ++ List.replicate (3 - (lg_sl ([.ref h0])).length) Slot.unset).toArray = ls at hl ⊢
  have hl : lv_has ls 3 [(0, .ref h0)] := hl
  refine lv_iconst (v := 1) hx hb dX12_isAllPlain_0 (by decide) ?_
  refine lv_istore_n (lv' := [(1, .int 1), (0, .ref h0)]) hx hb dX12_isAllPlain_1 rfl hl (by decide) rfl (fun ls hl => ?_)
  refine lv_iconst (v := 0) hx hb dX12_isAllPlain_2 (by decide) ?_
  refine lv_istore_n (lv' := [(2, .int 0), (1, .int 1), (0, .ref h0)]) hx hb dX12_isAllPlain_3 rfl hl (by decide) rfl (fun ls hl => ?_)
  refine lv_iload_n hx hb dX12_isAllPlain_4 rfl (lv_at hl 0 rfl) ?_
  refine lv_aload_n hx hb dX12_isAllPlain_5 rfl (lv_at hl 2 rfl) ?_
  refine va_get (D := D) (ref := "IntegerHouseModel") (ci := 12) (v := .int 0) (C := RX12) (T := TX12) (N := 195) hx hb hts hin12 hown hK hP 0 rfl rfl 33 (by decide) (hts (.fieldLink RX12 818 "IntegerHouseModel" "claims" "I") (List.mem_cons_of_mem _ (List.mem_append_left _ (List.mem_of_getElem? (i := 0) rfl)))) (fun _ h9 => h9) e0 dX12_isAllPlain_6 ?_
  refine lv_icmp_ge (tgt := 46) hx hb dX12_isAllPlain_9 (by decide) (fun _ => ?_) (fun c9 => absurd (by decide) c9)
  refine lv_iload_n hx hb dX12_isAllPlain_46 rfl (lv_at hl 1 rfl) ?_
  exact W.zret (v := 1) hx hb hr rfl (fun t ht hW => ⟨⟨1, (), rfl, rfl, kB_mk ht hW hP hK hD⟩, hS.F ht⟩) hS.2.2 dX12_isAllPlain_47
set_option maxHeartbeats 400000000 in
set_option maxRecDepth 100000 in
theorem c_X12_readsLineTerm_0 (l : Launch) (E : kE) (D : va_G) (cI cJ cB cZ : ClassId) (h0 : Nat) (f0 : List Value) (h1 : Nat) (h2 : Nat) (h3 : Nat) (h4 : Nat) (h5 : Nat) (g0 : Nat → Int32) (g1 : Nat → Int32) (g2 : Nat → Int32) (g3 : Nat → Int32) (g4 : Nat → Int32) (h6 : Nat) (h7 : Nat) (h8 : Nat) (h9 : Nat) (h10 : Nat) (h11 : Nat) (g5 : Nat → Int32) (h12 : Nat) (g6 : Nat → Int32) (g7 : Nat → Int32) (g8 : Nat → Int32) (g9 : Nat → Int32) (g10 : Nat → Int64) (g11 : Nat → Int32) (e0 : f0[66]? = some (.int 0)) (e1 : f0[67]? = some (.int 0)) (e2 : f0[40]? = some (.ref h1)) (e3 : f0[45]? = some (.ref h2)) (e4 : f0[56]? = some (.ref h3)) (e5 : f0[60]? = some (.ref h4)) (e6 : f0[65]? = some (.ref h5)) (e7 : f0[76]? = some (.int 0)) (e8 : f0[83]? = some (.int 0)) (e9 : f0[77]? = some (.ref h6)) (e10 : f0[78]? = some (.ref h7)) (e11 : f0[80]? = some (.ref h8)) (e12 : f0[81]? = some (.ref h9)) (e13 : f0[82]? = some (.ref h10)) (e14 : f0[84]? = some (.int 0)) (e15 : f0[31]? = some (.int 0)) (e16 : f0[25]? = some (.ref h11)) (e17 : f0[28]? = some (.int 0)) (e18 : g5 0 = 0) (e19 : f0[29]? = some (.int 0)) (e20 : f0[23]? = some (.ref h12)) (e21 : g6 0 = 0) (e22 : f0[30]? = some (.int 0)) (e23 : f0[85]? = some (.int 0)) : kI l E D (kT cI cJ cB cZ) yX12_readsLineTerm wsX12_readsLineTerm ({ frames := 5, cells := 0, slots := 0, locals := 104 }) [.ref h0] [(h0, .inr (12, f0)), (h1, .inl (cI, 26, .inl g0)), (h2, .inl (cI, 26, .inl g1)), (h3, .inl (cI, 26, .inl g2)), (h4, .inl (cI, 26, .inl g3)), (h5, .inl (cI, 26, .inl g4)), (h11, .inl (cI, 2001, .inl g5)), (h12, .inl (cI, 2001, .inl g6)), (h6, .inl (cI, 16, .inl g7)), (h7, .inl (cI, 16, .inl g8)), (h8, .inl (cI, 16, .inl g9)), (h9, .inl (cJ, 16, .inr (.inl g10))), (h10, .inl (cI, 16, .inl g11))] (0) [(h0, .inr (12, (((((((((((f0.set 66 (.int 25)).set 67 (.int 0)).set 76 (.int (-1))).set 83 (.int (-1))).set 83 (.int 0)).set 84 (.int 3)).set 84 (.int 4)).set 84 (.int 5)).set 31 (.int 1)).set 29 (.int 2)).set 30 (.int 0)))), (h1, .inl (cI, 26, .inl (upd g0 25 0))), (h2, .inl (cI, 26, .inl (upd g1 25 0))), (h3, .inl (cI, 26, .inl (upd g2 25 0))), (h4, .inl (cI, 26, .inl (upd g3 25 0))), (h5, .inl (cI, 26, .inl (upd g4 25 0))), (h11, .inl (cI, 2001, .inl g5)), (h12, .inl (cI, 2001, .inl g6)), (h6, .inl (cI, 16, .inl (upd g7 0 33))), (h7, .inl (cI, 16, .inl (upd g8 0 (-1)))), (h8, .inl (cI, 16, .inl (upd (upd g9 0 1) 0 1))), (h9, .inl (cJ, 16, .inr (.inl (vp_updL (vp_updL g10 0 1) 0 1)))), (h10, .inl (cI, 16, .inl (upd g11 0 (-1))))] 0 0 := by
  intro sz
  refine Met.ofW (cc := cX12_readsLineTerm) (maxL := 2) (ret := (some .boolean)) (by decide) rfl ?_
  intro p e s m args below meth c s₁ B hml hv
  obtain ⟨rfl, hsz, hP, hK, hD0, hN, hX⟩ := hv
  have hx := B.exec
  have hb := B.bytes
  have hr := B.returns
  have hts := atoms_spec (ws := wsX12_readsLineTerm) B.pre
  have hown : s.vm.findClass RX12 = some m.cls := findClass_of_methodNamed B.named
  have hlocks := B.notSynchronized
  have hin12 : ∀ w ∈ wsX120, w ∈ wsX12_readsLineTerm := (fun w h => (List.mem_cons_of_mem _ (List.mem_append_right _ h)))
  subst hsz
  have hD := hD0.self (sz := s.heap.size)
  have hAE := k_AE hD0 hX
  generalize hAe : va_A [(h0, .inr (12, f0)), (h1, .inl (cI, 26, .inl g0)), (h2, .inl (cI, 26, .inl g1)), (h3, .inl (cI, 26, .inl g2)), (h4, .inl (cI, 26, .inl g3)), (h5, .inl (cI, 26, .inl g4)), (h11, .inl (cI, 2001, .inl g5)), (h12, .inl (cI, 2001, .inl g6)), (h6, .inl (cI, 16, .inl g7)), (h7, .inl (cI, 16, .inl g8)), (h8, .inl (cI, 16, .inl g9)), (h9, .inl (cJ, 16, .inr (.inl g10))), (h10, .inl (cI, 16, .inl g11))] s.heap.size = A at hD hAE ⊢
  have hA : ∀ q : Nat, s.heap.size ≤ q → A q := fun q h => by rw [← hAe]; exact Or.inr h
  have hS : va_S A s.heap s.heap [] := va_S.rf
  have hP : va_P D vwCl [(h0, .inr (12, f0)), (h1, .inl (cI, 26, .inl g0)), (h2, .inl (cI, 26, .inl g1)), (h3, .inl (cI, 26, .inl g2)), (h4, .inl (cI, 26, .inl g3)), (h5, .inl (cI, 26, .inl g4)), (h11, .inl (cI, 2001, .inl g5)), (h12, .inl (cI, 2001, .inl g6)), (h6, .inl (cI, 16, .inl g7)), (h7, .inl (cI, 16, .inl g8)), (h8, .inl (cI, 16, .inl g9)), (h9, .inl (cJ, 16, .inr (.inl g10))), (h10, .inl (cI, 16, .inl g11))] s.heap := hP
  have hl := lv_entry ([.ref h0] : List Value) (n := 2) (Nat.le_of_ble_eq_true rfl)
  rw [lg_entry_eq]
  generalize (lg_sl ([.ref h0]) ++ List.replicate (2 - (lg_sl ([.ref h0])).length) Slot.unset).toArray = ls at hl ⊢
  have hl : lv_has ls 2 [(0, .ref h0)] := hl
  refine lv_aload_n hx hb dX12_readsLineTerm_0 rfl (lv_at hl 0 rfl) ?_
  refine lv_bipush (v := 25) hx hb dX12_readsLineTerm_1 (by decide) ?_
  refine k_cVv (As := [.int 25]) (rest := []) (wc := [(h0, .inr (12, f0)), (h1, .inl (cI, 26, .inl g0)), (h2, .inl (cI, 26, .inl g1)), (h3, .inl (cI, 26, .inl g2)), (h4, .inl (cI, 26, .inl g3)), (h5, .inl (cI, 26, .inl g4))]) (wr := [(h11, .inl (cI, 2001, .inl g5)), (h12, .inl (cI, 2001, .inl g6)), (h6, .inl (cI, 16, .inl g7)), (h7, .inl (cI, 16, .inl g8)), (h8, .inl (cI, 16, .inl g9)), (h9, .inl (cJ, 16, .inr (.inl g10))), (h10, .inl (cI, 16, .inl g11))]) (w1 := (fun _ : Unit => [(h0, .inr (12, ((f0.set 66 (.int 25)).set 67 (.int 0)))), (h1, .inl (cI, 26, .inl (upd g0 25 0))), (h2, .inl (cI, 26, .inl (upd g1 25 0))), (h3, .inl (cI, 26, .inl (upd g2 25 0))), (h4, .inl (cI, 26, .inl (upd g3 25 0))), (h5, .inl (cI, 26, .inl (upd g4 25 0)))])) ⟨hx, hb, hml, hown, hts⟩ hN hX hAE hK hP hD hS hA [0, 1, 2, 3, 4, 5] [6, 7, 8, 9, 10, 11, 12] (ci := 12) rfl rfl rfl rfl (by decide +kernel) (by decide +kernel) (by decide +kernel) (c_X12_beginSlot_1 l E D cI cJ cB cZ h0 f0 h1 g0 h2 g1 h3 g2 h4 g3 h5 g4 e0 e1 e2 e3 e4 e5 e6) (cwV 1 hts gX12_readsLineTerm_X12_beginSlot rfl rfl rfl (by decide +kernel) ⟨Nat.le_of_ble_eq_true rfl, Nat.le_of_ble_eq_true rfl⟩) rfl hl.1 (Nat.le_of_ble_eq_true rfl) dX12_readsLineTerm_3 ⟨Nat.le_of_ble_eq_true rfl, Nat.le_of_ble_eq_true rfl⟩ (fun _ H locs hP hD hS => ?_)
  have hP : va_P D vwCl [(h11, .inl (cI, 2001, .inl g5)), (h12, .inl (cI, 2001, .inl g6)), (h6, .inl (cI, 16, .inl g7)), (h7, .inl (cI, 16, .inl g8)), (h8, .inl (cI, 16, .inl g9)), (h9, .inl (cJ, 16, .inr (.inl g10))), (h10, .inl (cI, 16, .inl g11)), (h0, .inr (12, ((f0.set 66 (.int 25)).set 67 (.int 0)))), (h1, .inl (cI, 26, .inl (upd g0 25 0))), (h2, .inl (cI, 26, .inl (upd g1 25 0))), (h3, .inl (cI, 26, .inl (upd g2 25 0))), (h4, .inl (cI, 26, .inl (upd g3 25 0))), (h5, .inl (cI, 26, .inl (upd g4 25 0)))] H := hP
  have hD : va_D A [(h11, .inl (cI, 2001, .inl g5)), (h12, .inl (cI, 2001, .inl g6)), (h6, .inl (cI, 16, .inl g7)), (h7, .inl (cI, 16, .inl g8)), (h8, .inl (cI, 16, .inl g9)), (h9, .inl (cJ, 16, .inr (.inl g10))), (h10, .inl (cI, 16, .inl g11)), (h0, .inr (12, ((f0.set 66 (.int 25)).set 67 (.int 0)))), (h1, .inl (cI, 26, .inl (upd g0 25 0))), (h2, .inl (cI, 26, .inl (upd g1 25 0))), (h3, .inl (cI, 26, .inl (upd g2 25 0))), (h4, .inl (cI, 26, .inl (upd g3 25 0))), (h5, .inl (cI, 26, .inl (upd g4 25 0)))] := hD
  refine lv_aload_n hx hb dX12_readsLineTerm_6 rfl (lv_at hl 0 rfl) ?_
  refine k_cVi (As := []) (rest := []) (wc := [(h0, .inr (12, ((f0.set 66 (.int 25)).set 67 (.int 0)))), (h6, .inl (cI, 16, .inl g7)), (h7, .inl (cI, 16, .inl g8)), (h8, .inl (cI, 16, .inl g9)), (h9, .inl (cJ, 16, .inr (.inl g10))), (h10, .inl (cI, 16, .inl g11)), (h11, .inl (cI, 2001, .inl g5)), (h12, .inl (cI, 2001, .inl g6))]) (wr := [(h1, .inl (cI, 26, .inl (upd g0 25 0))), (h2, .inl (cI, 26, .inl (upd g1 25 0))), (h3, .inl (cI, 26, .inl (upd g2 25 0))), (h4, .inl (cI, 26, .inl (upd g3 25 0))), (h5, .inl (cI, 26, .inl (upd g4 25 0)))]) (w1 := [(h0, .inr (12, (((((((((((f0.set 66 (.int 25)).set 67 (.int 0)).set 76 (.int (-1))).set 83 (.int (-1))).set 83 (.int 0)).set 84 (.int 3)).set 84 (.int 4)).set 84 (.int 5)).set 31 (.int 1)).set 29 (.int 2)).set 30 (.int 0)))), (h6, .inl (cI, 16, .inl (upd g7 0 33))), (h7, .inl (cI, 16, .inl (upd g8 0 (-1)))), (h8, .inl (cI, 16, .inl (upd (upd g9 0 1) 0 1))), (h9, .inl (cJ, 16, .inr (.inl (vp_updL (vp_updL g10 0 1) 0 1)))), (h10, .inl (cI, 16, .inl (upd g11 0 (-1)))), (h11, .inl (cI, 2001, .inl g5)), (h12, .inl (cI, 2001, .inl g6))]) ⟨hx, hb, hml, hown, hts⟩ hN hX hAE hK hP hD hS hA [7, 2, 3, 4, 5, 6, 0, 1] [8, 9, 10, 11, 12] (ci := 12) rfl rfl rfl rfl (by decide +kernel) (by decide +kernel) (by decide +kernel) (c_X12_readTerm_0 l E D cI cJ cB cZ h0 (((f0.set 66 (.int 25)).set 67 (.int 0))) h6 h7 h8 h9 h10 g7 g8 g9 g10 g11 h11 g5 h12 g6 (k_ne (by decide) (k_ne (by decide) e7)) (k_ne (by decide) (k_ne (by decide) e8)) (k_ne (by decide) (k_ne (by decide) e9)) (k_ne (by decide) (k_ne (by decide) e10)) (k_ne (by decide) (k_ne (by decide) e11)) (k_ne (by decide) (k_ne (by decide) e12)) (k_ne (by decide) (k_ne (by decide) e13)) (k_ne (by decide) (k_ne (by decide) e14)) (k_ne (by decide) (k_ne (by decide) e15)) (k_ne (by decide) (k_ne (by decide) e16)) (k_ne (by decide) (k_ne (by decide) e17)) e18 (k_ne (by decide) (k_set e0)) (k_ne (by decide) (k_ne (by decide) e19)) (k_ne (by decide) (k_ne (by decide) e20)) e21 (k_ne (by decide) (k_ne (by decide) e22)) (k_ne (by decide) (k_ne (by decide) e23))) (cwV 0 hts gX12_readsLineTerm_X12_readTerm rfl rfl rfl (by decide +kernel) ⟨Nat.le_of_ble_eq_true rfl, Nat.le_of_ble_eq_true rfl⟩) rfl hl.1 (Nat.le_of_ble_eq_true rfl) dX12_readsLineTerm_7 ⟨Nat.le_of_ble_eq_true rfl, Nat.le_of_ble_eq_true rfl⟩ (fun H locs hP hD hS => ?_)
  have hP : va_P D vwCl [(h1, .inl (cI, 26, .inl (upd g0 25 0))), (h2, .inl (cI, 26, .inl (upd g1 25 0))), (h3, .inl (cI, 26, .inl (upd g2 25 0))), (h4, .inl (cI, 26, .inl (upd g3 25 0))), (h5, .inl (cI, 26, .inl (upd g4 25 0))), (h0, .inr (12, (((((((((((f0.set 66 (.int 25)).set 67 (.int 0)).set 76 (.int (-1))).set 83 (.int (-1))).set 83 (.int 0)).set 84 (.int 3)).set 84 (.int 4)).set 84 (.int 5)).set 31 (.int 1)).set 29 (.int 2)).set 30 (.int 0)))), (h6, .inl (cI, 16, .inl (upd g7 0 33))), (h7, .inl (cI, 16, .inl (upd g8 0 (-1)))), (h8, .inl (cI, 16, .inl (upd (upd g9 0 1) 0 1))), (h9, .inl (cJ, 16, .inr (.inl (vp_updL (vp_updL g10 0 1) 0 1)))), (h10, .inl (cI, 16, .inl (upd g11 0 (-1)))), (h11, .inl (cI, 2001, .inl g5)), (h12, .inl (cI, 2001, .inl g6))] H := hP
  have hD : va_D A [(h1, .inl (cI, 26, .inl (upd g0 25 0))), (h2, .inl (cI, 26, .inl (upd g1 25 0))), (h3, .inl (cI, 26, .inl (upd g2 25 0))), (h4, .inl (cI, 26, .inl (upd g3 25 0))), (h5, .inl (cI, 26, .inl (upd g4 25 0))), (h0, .inr (12, (((((((((((f0.set 66 (.int 25)).set 67 (.int 0)).set 76 (.int (-1))).set 83 (.int (-1))).set 83 (.int 0)).set 84 (.int 3)).set 84 (.int 4)).set 84 (.int 5)).set 31 (.int 1)).set 29 (.int 2)).set 30 (.int 0)))), (h6, .inl (cI, 16, .inl (upd g7 0 33))), (h7, .inl (cI, 16, .inl (upd g8 0 (-1)))), (h8, .inl (cI, 16, .inl (upd (upd g9 0 1) 0 1))), (h9, .inl (cJ, 16, .inr (.inl (vp_updL (vp_updL g10 0 1) 0 1)))), (h10, .inl (cI, 16, .inl (upd g11 0 (-1)))), (h11, .inl (cI, 2001, .inl g5)), (h12, .inl (cI, 2001, .inl g6))] := hD
  refine lv_istore_n (lv' := [(1, .int 0), (0, .ref h0)]) hx hb dX12_readsLineTerm_10 rfl hl (by decide) rfl (fun ls hl => ?_)
  refine lv_aload_n hx hb dX12_readsLineTerm_11 rfl (lv_at hl 1 rfl) ?_
  refine va_get (D := D) (ref := "IntegerHouseModel") (ci := 12) (v := .int 1) (C := RX12) (T := TX12) (N := 195) hx hb hts hin12 hown hK hP 5 rfl rfl 31 (by decide) (hts (.fieldLink RX12 562 "IntegerHouseModel" "faulty" "Z") (List.mem_cons_of_mem _ (List.mem_append_left _ (List.mem_append_left _ (List.mem_of_getElem? (i := 0) rfl))))) (fun _ h9 => h9) (k_ne (by decide) (k_ne (by decide) (k_set (k_ne (by decide) (k_ne (by decide) (k_ne (by decide) (k_ne (by decide) (k_ne (by decide) (k_ne (by decide) (k_ne (by decide) (k_ne (by decide) e15))))))))))) dX12_readsLineTerm_12 ?_
  refine lv_if_ne (tgt := 34) hx hb dX12_readsLineTerm_15 (by decide) (fun _ => ?_) (fun c9 => absurd c9 (by decide))
  refine lv_aload_n hx hb dX12_readsLineTerm_34 rfl (lv_at hl 1 rfl) ?_
  refine va_get (D := D) (ref := "IntegerHouseModel") (ci := 12) (v := .int 1) (C := RX12) (T := TX12) (N := 195) hx hb hts hin12 hown hK hP 5 rfl rfl 31 (by decide) (hts (.fieldLink RX12 562 "IntegerHouseModel" "faulty" "Z") (List.mem_cons_of_mem _ (List.mem_append_left _ (List.mem_append_left _ (List.mem_of_getElem? (i := 0) rfl))))) (fun _ h9 => h9) (k_ne (by decide) (k_ne (by decide) (k_set (k_ne (by decide) (k_ne (by decide) (k_ne (by decide) (k_ne (by decide) (k_ne (by decide) (k_ne (by decide) (k_ne (by decide) (k_ne (by decide) e15))))))))))) dX12_readsLineTerm_35 ?_
  refine lv_if_ne (tgt := 59) hx hb dX12_readsLineTerm_38 (by decide) (fun _ => ?_) (fun c9 => absurd c9 (by decide))
  refine lv_iconst (v := 0) hx hb dX12_readsLineTerm_59 (by decide) ?_
  have hP := hP.sub (ws' := [(h0, .inr (12, (((((((((((f0.set 66 (.int 25)).set 67 (.int 0)).set 76 (.int (-1))).set 83 (.int (-1))).set 83 (.int 0)).set 84 (.int 3)).set 84 (.int 4)).set 84 (.int 5)).set 31 (.int 1)).set 29 (.int 2)).set 30 (.int 0)))), (h1, .inl (cI, 26, .inl (upd g0 25 0))), (h2, .inl (cI, 26, .inl (upd g1 25 0))), (h3, .inl (cI, 26, .inl (upd g2 25 0))), (h4, .inl (cI, 26, .inl (upd g3 25 0))), (h5, .inl (cI, 26, .inl (upd g4 25 0))), (h11, .inl (cI, 2001, .inl g5)), (h12, .inl (cI, 2001, .inl g6)), (h6, .inl (cI, 16, .inl (upd g7 0 33))), (h7, .inl (cI, 16, .inl (upd g8 0 (-1)))), (h8, .inl (cI, 16, .inl (upd (upd g9 0 1) 0 1))), (h9, .inl (cJ, 16, .inr (.inl (vp_updL (vp_updL g10 0 1) 0 1)))), (h10, .inl (cI, 16, .inl (upd g11 0 (-1))))]) [5, 0, 1, 2, 3, 4, 11, 12, 6, 7, 8, 9, 10] rfl
  have hD := hD.sub (ws' := [(h0, .inr (12, (((((((((((f0.set 66 (.int 25)).set 67 (.int 0)).set 76 (.int (-1))).set 83 (.int (-1))).set 83 (.int 0)).set 84 (.int 3)).set 84 (.int 4)).set 84 (.int 5)).set 31 (.int 1)).set 29 (.int 2)).set 30 (.int 0)))), (h1, .inl (cI, 26, .inl (upd g0 25 0))), (h2, .inl (cI, 26, .inl (upd g1 25 0))), (h3, .inl (cI, 26, .inl (upd g2 25 0))), (h4, .inl (cI, 26, .inl (upd g3 25 0))), (h5, .inl (cI, 26, .inl (upd g4 25 0))), (h11, .inl (cI, 2001, .inl g5)), (h12, .inl (cI, 2001, .inl g6)), (h6, .inl (cI, 16, .inl (upd g7 0 33))), (h7, .inl (cI, 16, .inl (upd g8 0 (-1)))), (h8, .inl (cI, 16, .inl (upd (upd g9 0 1) 0 1))), (h9, .inl (cJ, 16, .inr (.inl (vp_updL (vp_updL g10 0 1) 0 1)))), (h10, .inl (cI, 16, .inl (upd g11 0 (-1))))]) [5, 0, 1, 2, 3, 4, 11, 12, 6, 7, 8, 9, 10] (by decide +kernel) rfl
  exact W.zret (v := 0) hx hb hr rfl (fun t ht hW => ⟨⟨0, (), rfl, rfl, kB_mk ht hW hP hK hD⟩, hS.F ht⟩) hS.2.2 dX12_readsLineTerm_60
set_option maxHeartbeats 400000000 in
set_option maxRecDepth 100000 in
theorem c_X12_relaxed_0 (l : Launch) (E : kE) (D : va_G) (cI cJ cB cZ : ClassId) (h0 : Nat) (f0 : List Value) (h1 : Nat) (h2 : Nat) (h3 : Nat) (h4 : Nat) (g0 : Nat → Int32) (g1 : Nat → Int32) (g2 : Nat → Int32) (g3 : Nat → Int32) (h5 : Nat) (h6 : Nat) (h7 : Nat) (h8 : Nat) (h9 : Nat) (h10 : Nat) (h11 : Nat) (h12 : Nat) (h13 : Nat) (h14 : Nat) (g4 : Nat → Int32) (g5 : Nat → Int32) (g6 : Nat → Int32) (g7 : Nat → Int32) (g8 : Nat → Int32) (g9 : Nat → Int32) (g10 : Nat → Int32) (g11 : Nat → Int32) (g12 : Nat → Int64) (g13 : Nat → Int32) (e0 : f0[0]? = some (.int 0)) (e1 : f0[5]? = some (.int 0)) (e2 : f0[2]? = some (.int 0)) (e3 : f0[12]? = some (.int 0)) (e4 : f0[32]? = some (.int 0)) (e5 : f0[36]? = some (.int 0)) (e6 : f0[33]? = some (.int 0)) (e7 : f0[37]? = some (.int 0)) (e8 : f0[27]? = some (.int 0)) (e9 : f0[31]? = some (.int 0)) (e10 : f0[28]? = some (.int 0)) (e11 : f0[23]? = some (.ref h1)) (e12 : f0[24]? = some (.ref h2)) (e13 : f0[25]? = some (.ref h3)) (e14 : f0[26]? = some (.ref h4)) (e15 : f0[66]? = some (.int 0)) (e16 : f0[67]? = some (.int 0)) (e17 : f0[40]? = some (.ref h5)) (e18 : f0[45]? = some (.ref h6)) (e19 : f0[56]? = some (.ref h7)) (e20 : f0[60]? = some (.ref h8)) (e21 : f0[65]? = some (.ref h9)) (e22 : f0[76]? = some (.int 0)) (e23 : f0[83]? = some (.int 0)) (e24 : f0[77]? = some (.ref h10)) (e25 : f0[78]? = some (.ref h11)) (e26 : f0[80]? = some (.ref h12)) (e27 : f0[81]? = some (.ref h13)) (e28 : f0[82]? = some (.ref h14)) (e29 : f0[84]? = some (.int 0)) (e30 : f0[29]? = some (.int 0)) (e31 : f0[30]? = some (.int 0)) (e32 : f0[85]? = some (.int 0)) (e33 : f0[13]? = some (.int 0)) (e34 : f0[109]? = some (.int 0)) : kI l E D (kT cI cJ cB cZ) yX12_relaxed wsX12_relaxed ({ frames := 6, cells := 0, slots := 0, locals := 125 }) [.ref h0] [(h0, .inr (12, f0)), (h1, .inl (cI, 2001, .inl g0)), (h2, .inl (cI, 2001, .inl g1)), (h3, .inl (cI, 2001, .inl g2)), (h4, .inl (cI, 2001, .inl g3)), (h5, .inl (cI, 26, .inl g4)), (h6, .inl (cI, 26, .inl g5)), (h7, .inl (cI, 26, .inl g6)), (h8, .inl (cI, 26, .inl g7)), (h9, .inl (cI, 26, .inl g8)), (h10, .inl (cI, 16, .inl g9)), (h11, .inl (cI, 16, .inl g10)), (h12, .inl (cI, 16, .inl g11)), (h13, .inl (cJ, 16, .inr (.inl g12))), (h14, .inl (cI, 16, .inl g13))] ((-1000)) [(h0, .inr (12, ((((((((((((((((((((f0.set 0 (.int 0)).set 12 (.int 0)).set 2 (.int 0)).set 36 (.int 0)).set 37 (.int 0)).set 27 (.int 0)).set 31 (.int 0)).set 28 (.int 0)).set 66 (.int 25)).set 67 (.int 0)).set 76 (.int (-1))).set 83 (.int (-1))).set 83 (.int 0)).set 84 (.int 3)).set 84 (.int 4)).set 84 (.int 5)).set 31 (.int 1)).set 29 (.int 2)).set 30 (.int 0)).set 109 (.int 2)))), (h1, .inl (cI, 2001, .inl (upd g0 0 0))), (h2, .inl (cI, 2001, .inl (upd g1 0 0))), (h3, .inl (cI, 2001, .inl (upd g2 0 0))), (h4, .inl (cI, 2001, .inl (upd g3 0 0))), (h5, .inl (cI, 26, .inl (upd g4 25 0))), (h6, .inl (cI, 26, .inl (upd g5 25 0))), (h7, .inl (cI, 26, .inl (upd g6 25 0))), (h8, .inl (cI, 26, .inl (upd g7 25 0))), (h9, .inl (cI, 26, .inl (upd g8 25 0))), (h10, .inl (cI, 16, .inl (upd g9 0 33))), (h11, .inl (cI, 16, .inl (upd g10 0 (-1)))), (h12, .inl (cI, 16, .inl (upd (upd g11 0 1) 0 1))), (h13, .inl (cJ, 16, .inr (.inl (vp_updL (vp_updL g12 0 1) 0 1)))), (h14, .inl (cI, 16, .inl (upd g13 0 (-1))))] 0 0 := by
  intro sz
  refine Met.ofW (cc := cX12_relaxed) (maxL := 2) (ret := (some .int)) (by decide) rfl ?_
  intro p e s m args below meth c s₁ B hml hv
  obtain ⟨rfl, hsz, hP, hK, hD0, hN, hX⟩ := hv
  have hx := B.exec
  have hb := B.bytes
  have hr := B.returns
  have hts := atoms_spec (ws := wsX12_relaxed) B.pre
  have hown : s.vm.findClass RX12 = some m.cls := findClass_of_methodNamed B.named
  have hlocks := B.notSynchronized
  subst hsz
  have hD := hD0.self (sz := s.heap.size)
  have hAE := k_AE hD0 hX
  generalize hAe : va_A [(h0, .inr (12, f0)), (h1, .inl (cI, 2001, .inl g0)), (h2, .inl (cI, 2001, .inl g1)), (h3, .inl (cI, 2001, .inl g2)), (h4, .inl (cI, 2001, .inl g3)), (h5, .inl (cI, 26, .inl g4)), (h6, .inl (cI, 26, .inl g5)), (h7, .inl (cI, 26, .inl g6)), (h8, .inl (cI, 26, .inl g7)), (h9, .inl (cI, 26, .inl g8)), (h10, .inl (cI, 16, .inl g9)), (h11, .inl (cI, 16, .inl g10)), (h12, .inl (cI, 16, .inl g11)), (h13, .inl (cJ, 16, .inr (.inl g12))), (h14, .inl (cI, 16, .inl g13))] s.heap.size = A at hD hAE ⊢
  have hA : ∀ q : Nat, s.heap.size ≤ q → A q := fun q h => by rw [← hAe]; exact Or.inr h
  have hS : va_S A s.heap s.heap [] := va_S.rf
  have hP : va_P D vwCl [(h0, .inr (12, f0)), (h1, .inl (cI, 2001, .inl g0)), (h2, .inl (cI, 2001, .inl g1)), (h3, .inl (cI, 2001, .inl g2)), (h4, .inl (cI, 2001, .inl g3)), (h5, .inl (cI, 26, .inl g4)), (h6, .inl (cI, 26, .inl g5)), (h7, .inl (cI, 26, .inl g6)), (h8, .inl (cI, 26, .inl g7)), (h9, .inl (cI, 26, .inl g8)), (h10, .inl (cI, 16, .inl g9)), (h11, .inl (cI, 16, .inl g10)), (h12, .inl (cI, 16, .inl g11)), (h13, .inl (cJ, 16, .inr (.inl g12))), (h14, .inl (cI, 16, .inl g13))] s.heap := hP
  have hl := lv_entry ([.ref h0] : List Value) (n := 2) (Nat.le_of_ble_eq_true rfl)
  rw [lg_entry_eq]
  generalize (lg_sl ([.ref h0]) ++ List.replicate (2 - (lg_sl ([.ref h0])).length) Slot.unset).toArray = ls at hl ⊢
  have hl : lv_has ls 2 [(0, .ref h0)] := hl
  refine lv_aload_n hx hb dX12_relaxed_0 rfl (lv_at hl 0 rfl) ?_
  refine k_cVi (As := []) (rest := []) (wc := [(h0, .inr (12, f0))]) (wr := [(h1, .inl (cI, 2001, .inl g0)), (h2, .inl (cI, 2001, .inl g1)), (h3, .inl (cI, 2001, .inl g2)), (h4, .inl (cI, 2001, .inl g3)), (h5, .inl (cI, 26, .inl g4)), (h6, .inl (cI, 26, .inl g5)), (h7, .inl (cI, 26, .inl g6)), (h8, .inl (cI, 26, .inl g7)), (h9, .inl (cI, 26, .inl g8)), (h10, .inl (cI, 16, .inl g9)), (h11, .inl (cI, 16, .inl g10)), (h12, .inl (cI, 16, .inl g11)), (h13, .inl (cJ, 16, .inr (.inl g12))), (h14, .inl (cI, 16, .inl g13))]) (w1 := [(h0, .inr (12, (f0.set 0 (.int 0))))]) ⟨hx, hb, hml, hown, hts⟩ hN hX hAE hK hP hD hS hA [0] [1, 2, 3, 4, 5, 6, 7, 8, 9, 10, 11, 12, 13, 14] (ci := 12) rfl rfl rfl rfl (by decide +kernel) (by decide +kernel) (by decide +kernel) (c_X12_asks_0 l E D cI cJ cB cZ h0 f0 e0 e1) (cwV 0 hts gX12_relaxed_X12_asks rfl rfl rfl (by decide +kernel) ⟨Nat.le_of_ble_eq_true rfl, Nat.le_of_ble_eq_true rfl⟩) rfl hl.1 (Nat.le_of_ble_eq_true rfl) dX12_relaxed_1 ⟨Nat.le_of_ble_eq_true rfl, Nat.le_of_ble_eq_true rfl⟩ (fun H locs hP hD hS => ?_)
  have hP : va_P D vwCl [(h1, .inl (cI, 2001, .inl g0)), (h2, .inl (cI, 2001, .inl g1)), (h3, .inl (cI, 2001, .inl g2)), (h4, .inl (cI, 2001, .inl g3)), (h5, .inl (cI, 26, .inl g4)), (h6, .inl (cI, 26, .inl g5)), (h7, .inl (cI, 26, .inl g6)), (h8, .inl (cI, 26, .inl g7)), (h9, .inl (cI, 26, .inl g8)), (h10, .inl (cI, 16, .inl g9)), (h11, .inl (cI, 16, .inl g10)), (h12, .inl (cI, 16, .inl g11)), (h13, .inl (cJ, 16, .inr (.inl g12))), (h14, .inl (cI, 16, .inl g13)), (h0, .inr (12, (f0.set 0 (.int 0))))] H := hP
  have hD : va_D A [(h1, .inl (cI, 2001, .inl g0)), (h2, .inl (cI, 2001, .inl g1)), (h3, .inl (cI, 2001, .inl g2)), (h4, .inl (cI, 2001, .inl g3)), (h5, .inl (cI, 26, .inl g4)), (h6, .inl (cI, 26, .inl g5)), (h7, .inl (cI, 26, .inl g6)), (h8, .inl (cI, 26, .inl g7)), (h9, .inl (cI, 26, .inl g8)), (h10, .inl (cI, 16, .inl g9)), (h11, .inl (cI, 16, .inl g10)), (h12, .inl (cI, 16, .inl g11)), (h13, .inl (cJ, 16, .inr (.inl g12))), (h14, .inl (cI, 16, .inl g13)), (h0, .inr (12, (f0.set 0 (.int 0))))] := hD
  refine lv_if_ne (tgt := 10) hx hb dX12_relaxed_4 (by decide) (fun _ => ?_) (fun c9 => absurd c9 (by decide))
  refine lv_aload_n hx hb dX12_relaxed_10 rfl (lv_at hl 0 rfl) ?_
  refine k_cVv (As := []) (rest := []) (wc := [(h0, .inr (12, (f0.set 0 (.int 0)))), (h1, .inl (cI, 2001, .inl g0)), (h2, .inl (cI, 2001, .inl g1)), (h3, .inl (cI, 2001, .inl g2)), (h4, .inl (cI, 2001, .inl g3))]) (wr := [(h5, .inl (cI, 26, .inl g4)), (h6, .inl (cI, 26, .inl g5)), (h7, .inl (cI, 26, .inl g6)), (h8, .inl (cI, 26, .inl g7)), (h9, .inl (cI, 26, .inl g8)), (h10, .inl (cI, 16, .inl g9)), (h11, .inl (cI, 16, .inl g10)), (h12, .inl (cI, 16, .inl g11)), (h13, .inl (cJ, 16, .inr (.inl g12))), (h14, .inl (cI, 16, .inl g13))]) (w1 := (fun _ : Unit => [(h0, .inr (12, ((((((((f0.set 0 (.int 0)).set 12 (.int 0)).set 2 (.int 0)).set 36 (.int 0)).set 37 (.int 0)).set 27 (.int 0)).set 31 (.int 0)).set 28 (.int 0)))), (h1, .inl (cI, 2001, .inl (upd g0 0 0))), (h2, .inl (cI, 2001, .inl (upd g1 0 0))), (h3, .inl (cI, 2001, .inl (upd g2 0 0))), (h4, .inl (cI, 2001, .inl (upd g3 0 0)))])) ⟨hx, hb, hml, hown, hts⟩ hN hX hAE hK hP hD hS hA [14, 0, 1, 2, 3] [4, 5, 6, 7, 8, 9, 10, 11, 12, 13] (ci := 12) rfl rfl rfl rfl (by decide +kernel) (by decide +kernel) (by decide +kernel) (c_X12_begin_0 l E D cI cJ cB cZ h0 ((f0.set 0 (.int 0))) h1 h2 h3 h4 g0 g1 g2 g3 (k_ne (by decide) e2) (k_ne (by decide) e3) (k_ne (by decide) e4) (k_ne (by decide) e5) (k_ne (by decide) e6) (k_ne (by decide) e7) (k_ne (by decide) e8) (k_ne (by decide) e9) (k_ne (by decide) e10) (k_ne (by decide) e11) (k_ne (by decide) e12) (k_ne (by decide) e13) (k_ne (by decide) e14)) (cwV 0 hts gX12_relaxed_X12_begin rfl rfl rfl (by decide +kernel) ⟨Nat.le_of_ble_eq_true rfl, Nat.le_of_ble_eq_true rfl⟩) rfl hl.1 (Nat.le_of_ble_eq_true rfl) dX12_relaxed_11 ⟨Nat.le_of_ble_eq_true rfl, Nat.le_of_ble_eq_true rfl⟩ (fun _ H locs hP hD hS => ?_)
  have hP : va_P D vwCl [(h5, .inl (cI, 26, .inl g4)), (h6, .inl (cI, 26, .inl g5)), (h7, .inl (cI, 26, .inl g6)), (h8, .inl (cI, 26, .inl g7)), (h9, .inl (cI, 26, .inl g8)), (h10, .inl (cI, 16, .inl g9)), (h11, .inl (cI, 16, .inl g10)), (h12, .inl (cI, 16, .inl g11)), (h13, .inl (cJ, 16, .inr (.inl g12))), (h14, .inl (cI, 16, .inl g13)), (h0, .inr (12, ((((((((f0.set 0 (.int 0)).set 12 (.int 0)).set 2 (.int 0)).set 36 (.int 0)).set 37 (.int 0)).set 27 (.int 0)).set 31 (.int 0)).set 28 (.int 0)))), (h1, .inl (cI, 2001, .inl (upd g0 0 0))), (h2, .inl (cI, 2001, .inl (upd g1 0 0))), (h3, .inl (cI, 2001, .inl (upd g2 0 0))), (h4, .inl (cI, 2001, .inl (upd g3 0 0)))] H := hP
  have hD : va_D A [(h5, .inl (cI, 26, .inl g4)), (h6, .inl (cI, 26, .inl g5)), (h7, .inl (cI, 26, .inl g6)), (h8, .inl (cI, 26, .inl g7)), (h9, .inl (cI, 26, .inl g8)), (h10, .inl (cI, 16, .inl g9)), (h11, .inl (cI, 16, .inl g10)), (h12, .inl (cI, 16, .inl g11)), (h13, .inl (cJ, 16, .inr (.inl g12))), (h14, .inl (cI, 16, .inl g13)), (h0, .inr (12, ((((((((f0.set 0 (.int 0)).set 12 (.int 0)).set 2 (.int 0)).set 36 (.int 0)).set 37 (.int 0)).set 27 (.int 0)).set 31 (.int 0)).set 28 (.int 0)))), (h1, .inl (cI, 2001, .inl (upd g0 0 0))), (h2, .inl (cI, 2001, .inl (upd g1 0 0))), (h3, .inl (cI, 2001, .inl (upd g2 0 0))), (h4, .inl (cI, 2001, .inl (upd g3 0 0)))] := hD
  refine lv_aload_n hx hb dX12_relaxed_14 rfl (lv_at hl 0 rfl) ?_
  refine k_cVi (As := []) (rest := []) (wc := [(h0, .inr (12, ((((((((f0.set 0 (.int 0)).set 12 (.int 0)).set 2 (.int 0)).set 36 (.int 0)).set 37 (.int 0)).set 27 (.int 0)).set 31 (.int 0)).set 28 (.int 0))))]) (wr := [(h5, .inl (cI, 26, .inl g4)), (h6, .inl (cI, 26, .inl g5)), (h7, .inl (cI, 26, .inl g6)), (h8, .inl (cI, 26, .inl g7)), (h9, .inl (cI, 26, .inl g8)), (h10, .inl (cI, 16, .inl g9)), (h11, .inl (cI, 16, .inl g10)), (h12, .inl (cI, 16, .inl g11)), (h13, .inl (cJ, 16, .inr (.inl g12))), (h14, .inl (cI, 16, .inl g13)), (h1, .inl (cI, 2001, .inl (upd g0 0 0))), (h2, .inl (cI, 2001, .inl (upd g1 0 0))), (h3, .inl (cI, 2001, .inl (upd g2 0 0))), (h4, .inl (cI, 2001, .inl (upd g3 0 0)))]) (w1 := [(h0, .inr (12, ((((((((f0.set 0 (.int 0)).set 12 (.int 0)).set 2 (.int 0)).set 36 (.int 0)).set 37 (.int 0)).set 27 (.int 0)).set 31 (.int 0)).set 28 (.int 0))))]) ⟨hx, hb, hml, hown, hts⟩ hN hX hAE hK hP hD hS hA [10] [0, 1, 2, 3, 4, 5, 6, 7, 8, 9, 11, 12, 13, 14] (ci := 12) rfl rfl rfl rfl (by decide +kernel) (by decide +kernel) (by decide +kernel) (c_X12_isAllPlain_0 l E D cI cJ cB cZ h0 (((((((((f0.set 0 (.int 0)).set 12 (.int 0)).set 2 (.int 0)).set 36 (.int 0)).set 37 (.int 0)).set 27 (.int 0)).set 31 (.int 0)).set 28 (.int 0))) (k_ne (by decide) (k_ne (by decide) (k_ne (by decide) (k_ne (by decide) (k_ne (by decide) (k_ne (by decide) (k_ne (by decide) (k_ne (by decide) e6))))))))) (cwV 0 hts gX12_relaxed_X12_isAllPlain rfl rfl rfl (by decide +kernel) ⟨Nat.le_of_ble_eq_true rfl, Nat.le_of_ble_eq_true rfl⟩) rfl hl.1 (Nat.le_of_ble_eq_true rfl) dX12_relaxed_15 ⟨Nat.le_of_ble_eq_true rfl, Nat.le_of_ble_eq_true rfl⟩ (fun H locs hP hD hS => ?_)
  have hP : va_P D vwCl [(h5, .inl (cI, 26, .inl g4)), (h6, .inl (cI, 26, .inl g5)), (h7, .inl (cI, 26, .inl g6)), (h8, .inl (cI, 26, .inl g7)), (h9, .inl (cI, 26, .inl g8)), (h10, .inl (cI, 16, .inl g9)), (h11, .inl (cI, 16, .inl g10)), (h12, .inl (cI, 16, .inl g11)), (h13, .inl (cJ, 16, .inr (.inl g12))), (h14, .inl (cI, 16, .inl g13)), (h1, .inl (cI, 2001, .inl (upd g0 0 0))), (h2, .inl (cI, 2001, .inl (upd g1 0 0))), (h3, .inl (cI, 2001, .inl (upd g2 0 0))), (h4, .inl (cI, 2001, .inl (upd g3 0 0))), (h0, .inr (12, ((((((((f0.set 0 (.int 0)).set 12 (.int 0)).set 2 (.int 0)).set 36 (.int 0)).set 37 (.int 0)).set 27 (.int 0)).set 31 (.int 0)).set 28 (.int 0))))] H := hP
  have hD : va_D A [(h5, .inl (cI, 26, .inl g4)), (h6, .inl (cI, 26, .inl g5)), (h7, .inl (cI, 26, .inl g6)), (h8, .inl (cI, 26, .inl g7)), (h9, .inl (cI, 26, .inl g8)), (h10, .inl (cI, 16, .inl g9)), (h11, .inl (cI, 16, .inl g10)), (h12, .inl (cI, 16, .inl g11)), (h13, .inl (cJ, 16, .inr (.inl g12))), (h14, .inl (cI, 16, .inl g13)), (h1, .inl (cI, 2001, .inl (upd g0 0 0))), (h2, .inl (cI, 2001, .inl (upd g1 0 0))), (h3, .inl (cI, 2001, .inl (upd g2 0 0))), (h4, .inl (cI, 2001, .inl (upd g3 0 0))), (h0, .inr (12, ((((((((f0.set 0 (.int 0)).set 12 (.int 0)).set 2 (.int 0)).set 36 (.int 0)).set 37 (.int 0)).set 27 (.int 0)).set 31 (.int 0)).set 28 (.int 0))))] := hD
  refine lv_if_ne (tgt := 24) hx hb dX12_relaxed_18 (by decide) (fun _ => ?_) (fun c9 => absurd c9 (by decide))
  refine lv_aload_n hx hb dX12_relaxed_24 rfl (lv_at hl 0 rfl) ?_
  refine k_cVi (As := []) (rest := []) (wc := [(h0, .inr (12, ((((((((f0.set 0 (.int 0)).set 12 (.int 0)).set 2 (.int 0)).set 36 (.int 0)).set 37 (.int 0)).set 27 (.int 0)).set 31 (.int 0)).set 28 (.int 0)))), (h5, .inl (cI, 26, .inl g4)), (h6, .inl (cI, 26, .inl g5)), (h7, .inl (cI, 26, .inl g6)), (h8, .inl (cI, 26, .inl g7)), (h9, .inl (cI, 26, .inl g8)), (h3, .inl (cI, 2001, .inl (upd g2 0 0))), (h1, .inl (cI, 2001, .inl (upd g0 0 0))), (h10, .inl (cI, 16, .inl g9)), (h11, .inl (cI, 16, .inl g10)), (h12, .inl (cI, 16, .inl g11)), (h13, .inl (cJ, 16, .inr (.inl g12))), (h14, .inl (cI, 16, .inl g13))]) (wr := [(h2, .inl (cI, 2001, .inl (upd g1 0 0))), (h4, .inl (cI, 2001, .inl (upd g3 0 0)))]) (w1 := [(h0, .inr (12, (((((((((((((((((((f0.set 0 (.int 0)).set 12 (.int 0)).set 2 (.int 0)).set 36 (.int 0)).set 37 (.int 0)).set 27 (.int 0)).set 31 (.int 0)).set 28 (.int 0)).set 66 (.int 25)).set 67 (.int 0)).set 76 (.int (-1))).set 83 (.int (-1))).set 83 (.int 0)).set 84 (.int 3)).set 84 (.int 4)).set 84 (.int 5)).set 31 (.int 1)).set 29 (.int 2)).set 30 (.int 0)))), (h5, .inl (cI, 26, .inl (upd g4 25 0))), (h6, .inl (cI, 26, .inl (upd g5 25 0))), (h7, .inl (cI, 26, .inl (upd g6 25 0))), (h8, .inl (cI, 26, .inl (upd g7 25 0))), (h9, .inl (cI, 26, .inl (upd g8 25 0))), (h3, .inl (cI, 2001, .inl (upd g2 0 0))), (h1, .inl (cI, 2001, .inl (upd g0 0 0))), (h10, .inl (cI, 16, .inl (upd g9 0 33))), (h11, .inl (cI, 16, .inl (upd g10 0 (-1)))), (h12, .inl (cI, 16, .inl (upd (upd g11 0 1) 0 1))), (h13, .inl (cJ, 16, .inr (.inl (vp_updL (vp_updL g12 0 1) 0 1)))), (h14, .inl (cI, 16, .inl (upd g13 0 (-1))))]) ⟨hx, hb, hml, hown, hts⟩ hN hX hAE hK hP hD hS hA [14, 0, 1, 2, 3, 4, 12, 10, 5, 6, 7, 8, 9] [11, 13] (ci := 12) rfl rfl rfl rfl (by decide +kernel) (by decide +kernel) (by decide +kernel) (c_X12_readsLineTerm_0 l E D cI cJ cB cZ h0 (((((((((f0.set 0 (.int 0)).set 12 (.int 0)).set 2 (.int 0)).set 36 (.int 0)).set 37 (.int 0)).set 27 (.int 0)).set 31 (.int 0)).set 28 (.int 0))) h5 h6 h7 h8 h9 g4 g5 g6 g7 g8 h10 h11 h12 h13 h14 h3 ((upd g2 0 0)) h1 ((upd g0 0 0)) g9 g10 g11 g12 g13 (k_ne (by decide) (k_ne (by decide) (k_ne (by decide) (k_ne (by decide) (k_ne (by decide) (k_ne (by decide) (k_ne (by decide) (k_ne (by decide) e15)))))))) (k_ne (by decide) (k_ne (by decide) (k_ne (by decide) (k_ne (by decide) (k_ne (by decide) (k_ne (by decide) (k_ne (by decide) (k_ne (by decide) e16)))))))) (k_ne (by decide) (k_ne (by decide) (k_ne (by decide) (k_ne (by decide) (k_ne (by decide) (k_ne (by decide) (k_ne (by decide) (k_ne (by decide) e17)))))))) (k_ne (by decide) (k_ne (by decide) (k_ne (by decide) (k_ne (by decide) (k_ne (by decide) (k_ne (by decide) (k_ne (by decide) (k_ne (by decide) e18)))))))) (k_ne (by decide) (k_ne (by decide) (k_ne (by decide) (k_ne (by decide) (k_ne (by decide) (k_ne (by decide) (k_ne (by decide) (k_ne (by decide) e19)))))))) (k_ne (by decide) (k_ne (by decide) (k_ne (by decide) (k_ne (by decide) (k_ne (by decide) (k_ne (by decide) (k_ne (by decide) (k_ne (by decide) e20)))))))) (k_ne (by decide) (k_ne (by decide) (k_ne (by decide) (k_ne (by decide) (k_ne (by decide) (k_ne (by decide) (k_ne (by decide) (k_ne (by decide) e21)))))))) (k_ne (by decide) (k_ne (by decide) (k_ne (by decide) (k_ne (by decide) (k_ne (by decide) (k_ne (by decide) (k_ne (by decide) (k_ne (by decide) e22)))))))) (k_ne (by decide) (k_ne (by decide) (k_ne (by decide) (k_ne (by decide) (k_ne (by decide) (k_ne (by decide) (k_ne (by decide) (k_ne (by decide) e23)))))))) (k_ne (by decide) (k_ne (by decide) (k_ne (by decide) (k_ne (by decide) (k_ne (by decide) (k_ne (by decide) (k_ne (by decide) (k_ne (by decide) e24)))))))) (k_ne (by decide) (k_ne (by decide) (k_ne (by decide) (k_ne (by decide) (k_ne (by decide) (k_ne (by decide) (k_ne (by decide) (k_ne (by decide) e25)))))))) (k_ne (by decide) (k_ne (by decide) (k_ne (by decide) (k_ne (by decide) (k_ne (by decide) (k_ne (by decide) (k_ne (by decide) (k_ne (by decide) e26)))))))) (k_ne (by decide) (k_ne (by decide) (k_ne (by decide) (k_ne (by decide) (k_ne (by decide) (k_ne (by decide) (k_ne (by decide) (k_ne (by decide) e27)))))))) (k_ne (by decide) (k_ne (by decide) (k_ne (by decide) (k_ne (by decide) (k_ne (by decide) (k_ne (by decide) (k_ne (by decide) (k_ne (by decide) e28)))))))) (k_ne (by decide) (k_ne (by decide) (k_ne (by decide) (k_ne (by decide) (k_ne (by decide) (k_ne (by decide) (k_ne (by decide) (k_ne (by decide) e29)))))))) (k_ne (by decide) (k_set (k_ne (by decide) (k_ne (by decide) (k_ne (by decide) (k_ne (by decide) (k_ne (by decide) (k_ne (by decide) e9)))))))) (k_ne (by decide) (k_ne (by decide) (k_ne (by decide) (k_ne (by decide) (k_ne (by decide) (k_ne (by decide) (k_ne (by decide) (k_ne (by decide) e13)))))))) (k_set (k_ne (by decide) (k_ne (by decide) (k_ne (by decide) (k_ne (by decide) (k_ne (by decide) (k_ne (by decide) (k_ne (by decide) e10)))))))) rfl (k_ne (by decide) (k_ne (by decide) (k_ne (by decide) (k_ne (by decide) (k_ne (by decide) (k_ne (by decide) (k_ne (by decide) (k_ne (by decide) e30)))))))) (k_ne (by decide) (k_ne (by decide) (k_ne (by decide) (k_ne (by decide) (k_ne (by decide) (k_ne (by decide) (k_ne (by decide) (k_ne (by decide) e11)))))))) rfl (k_ne (by decide) (k_ne (by decide) (k_ne (by decide) (k_ne (by decide) (k_ne (by decide) (k_ne (by decide) (k_ne (by decide) (k_ne (by decide) e31)))))))) (k_ne (by decide) (k_ne (by decide) (k_ne (by decide) (k_ne (by decide) (k_ne (by decide) (k_ne (by decide) (k_ne (by decide) (k_ne (by decide) e32))))))))) (cwV 0 hts gX12_relaxed_X12_readsLineTerm rfl rfl rfl (by decide +kernel) ⟨Nat.le_of_ble_eq_true rfl, Nat.le_of_ble_eq_true rfl⟩) rfl hl.1 (Nat.le_of_ble_eq_true rfl) dX12_relaxed_25 ⟨Nat.le_of_ble_eq_true rfl, Nat.le_of_ble_eq_true rfl⟩ (fun H locs hP hD hS => ?_)
  have hP : va_P D vwCl [(h2, .inl (cI, 2001, .inl (upd g1 0 0))), (h4, .inl (cI, 2001, .inl (upd g3 0 0))), (h0, .inr (12, (((((((((((((((((((f0.set 0 (.int 0)).set 12 (.int 0)).set 2 (.int 0)).set 36 (.int 0)).set 37 (.int 0)).set 27 (.int 0)).set 31 (.int 0)).set 28 (.int 0)).set 66 (.int 25)).set 67 (.int 0)).set 76 (.int (-1))).set 83 (.int (-1))).set 83 (.int 0)).set 84 (.int 3)).set 84 (.int 4)).set 84 (.int 5)).set 31 (.int 1)).set 29 (.int 2)).set 30 (.int 0)))), (h5, .inl (cI, 26, .inl (upd g4 25 0))), (h6, .inl (cI, 26, .inl (upd g5 25 0))), (h7, .inl (cI, 26, .inl (upd g6 25 0))), (h8, .inl (cI, 26, .inl (upd g7 25 0))), (h9, .inl (cI, 26, .inl (upd g8 25 0))), (h3, .inl (cI, 2001, .inl (upd g2 0 0))), (h1, .inl (cI, 2001, .inl (upd g0 0 0))), (h10, .inl (cI, 16, .inl (upd g9 0 33))), (h11, .inl (cI, 16, .inl (upd g10 0 (-1)))), (h12, .inl (cI, 16, .inl (upd (upd g11 0 1) 0 1))), (h13, .inl (cJ, 16, .inr (.inl (vp_updL (vp_updL g12 0 1) 0 1)))), (h14, .inl (cI, 16, .inl (upd g13 0 (-1))))] H := hP
  have hD : va_D A [(h2, .inl (cI, 2001, .inl (upd g1 0 0))), (h4, .inl (cI, 2001, .inl (upd g3 0 0))), (h0, .inr (12, (((((((((((((((((((f0.set 0 (.int 0)).set 12 (.int 0)).set 2 (.int 0)).set 36 (.int 0)).set 37 (.int 0)).set 27 (.int 0)).set 31 (.int 0)).set 28 (.int 0)).set 66 (.int 25)).set 67 (.int 0)).set 76 (.int (-1))).set 83 (.int (-1))).set 83 (.int 0)).set 84 (.int 3)).set 84 (.int 4)).set 84 (.int 5)).set 31 (.int 1)).set 29 (.int 2)).set 30 (.int 0)))), (h5, .inl (cI, 26, .inl (upd g4 25 0))), (h6, .inl (cI, 26, .inl (upd g5 25 0))), (h7, .inl (cI, 26, .inl (upd g6 25 0))), (h8, .inl (cI, 26, .inl (upd g7 25 0))), (h9, .inl (cI, 26, .inl (upd g8 25 0))), (h3, .inl (cI, 2001, .inl (upd g2 0 0))), (h1, .inl (cI, 2001, .inl (upd g0 0 0))), (h10, .inl (cI, 16, .inl (upd g9 0 33))), (h11, .inl (cI, 16, .inl (upd g10 0 (-1)))), (h12, .inl (cI, 16, .inl (upd (upd g11 0 1) 0 1))), (h13, .inl (cJ, 16, .inr (.inl (vp_updL (vp_updL g12 0 1) 0 1)))), (h14, .inl (cI, 16, .inl (upd g13 0 (-1))))] := hD
  refine lv_if_ne (tgt := 36) hx hb dX12_relaxed_28 (by decide) (fun c9 => absurd (by decide) c9) (fun _ => ?_)
  refine lv_aload_n hx hb dX12_relaxed_31 rfl (lv_at hl 0 rfl) ?_
  refine k_cVi (As := []) (rest := []) (wc := [(h0, .inr (12, (((((((((((((((((((f0.set 0 (.int 0)).set 12 (.int 0)).set 2 (.int 0)).set 36 (.int 0)).set 37 (.int 0)).set 27 (.int 0)).set 31 (.int 0)).set 28 (.int 0)).set 66 (.int 25)).set 67 (.int 0)).set 76 (.int (-1))).set 83 (.int (-1))).set 83 (.int 0)).set 84 (.int 3)).set 84 (.int 4)).set 84 (.int 5)).set 31 (.int 1)).set 29 (.int 2)).set 30 (.int 0))))]) (wr := [(h2, .inl (cI, 2001, .inl (upd g1 0 0))), (h4, .inl (cI, 2001, .inl (upd g3 0 0))), (h5, .inl (cI, 26, .inl (upd g4 25 0))), (h6, .inl (cI, 26, .inl (upd g5 25 0))), (h7, .inl (cI, 26, .inl (upd g6 25 0))), (h8, .inl (cI, 26, .inl (upd g7 25 0))), (h9, .inl (cI, 26, .inl (upd g8 25 0))), (h3, .inl (cI, 2001, .inl (upd g2 0 0))), (h1, .inl (cI, 2001, .inl (upd g0 0 0))), (h10, .inl (cI, 16, .inl (upd g9 0 33))), (h11, .inl (cI, 16, .inl (upd g10 0 (-1)))), (h12, .inl (cI, 16, .inl (upd (upd g11 0 1) 0 1))), (h13, .inl (cJ, 16, .inr (.inl (vp_updL (vp_updL g12 0 1) 0 1)))), (h14, .inl (cI, 16, .inl (upd g13 0 (-1))))]) (w1 := [(h0, .inr (12, ((((((((((((((((((((f0.set 0 (.int 0)).set 12 (.int 0)).set 2 (.int 0)).set 36 (.int 0)).set 37 (.int 0)).set 27 (.int 0)).set 31 (.int 0)).set 28 (.int 0)).set 66 (.int 25)).set 67 (.int 0)).set 76 (.int (-1))).set 83 (.int (-1))).set 83 (.int 0)).set 84 (.int 3)).set 84 (.int 4)).set 84 (.int 5)).set 31 (.int 1)).set 29 (.int 2)).set 30 (.int 0)).set 109 (.int 2))))]) ⟨hx, hb, hml, hown, hts⟩ hN hX hAE hK hP hD hS hA [2] [0, 1, 3, 4, 5, 6, 7, 8, 9, 10, 11, 12, 13, 14] (ci := 12) rfl rfl rfl rfl (by decide +kernel) (by decide +kernel) (by decide +kernel) (c_X12_told_0 l E D cI cJ cB cZ h0 ((((((((((((((((((((f0.set 0 (.int 0)).set 12 (.int 0)).set 2 (.int 0)).set 36 (.int 0)).set 37 (.int 0)).set 27 (.int 0)).set 31 (.int 0)).set 28 (.int 0)).set 66 (.int 25)).set 67 (.int 0)).set 76 (.int (-1))).set 83 (.int (-1))).set 83 (.int 0)).set 84 (.int 3)).set 84 (.int 4)).set 84 (.int 5)).set 31 (.int 1)).set 29 (.int 2)).set 30 (.int 0))) (k_ne (by decide) (k_ne (by decide) (k_ne (by decide) (k_ne (by decide) (k_ne (by decide) (k_ne (by decide) (k_ne (by decide) (k_ne (by decide) (k_ne (by decide) (k_ne (by decide) (k_ne (by decide) (k_ne (by decide) (k_ne (by decide) (k_ne (by decide) (k_ne (by decide) (k_ne (by decide) (k_ne (by decide) (k_ne (by decide) (k_ne (by decide) e33))))))))))))))))))) (k_ne (by decide) (k_set (k_ne (by decide) (k_ne (by decide) (k_ne (by decide) (k_ne (by decide) (k_ne (by decide) (k_ne (by decide) (k_ne (by decide) (k_ne (by decide) (k_ne (by decide) (k_ne (by decide) (k_ne (by decide) (k_ne (by decide) (k_ne (by decide) (k_ne (by decide) (k_ne (by decide) (k_ne (by decide) (k_ne (by decide) e30))))))))))))))))))) (k_ne (by decide) (k_ne (by decide) (k_ne (by decide) (k_ne (by decide) (k_ne (by decide) (k_ne (by decide) (k_ne (by decide) (k_ne (by decide) (k_ne (by decide) (k_ne (by decide) (k_ne (by decide) (k_ne (by decide) (k_ne (by decide) (k_ne (by decide) (k_ne (by decide) (k_ne (by decide) (k_ne (by decide) (k_ne (by decide) (k_ne (by decide) e34))))))))))))))))))) (k_set (k_ne (by decide) (k_ne (by decide) (k_ne (by decide) (k_ne (by decide) (k_ne (by decide) (k_ne (by decide) (k_ne (by decide) (k_ne (by decide) (k_ne (by decide) (k_ne (by decide) (k_ne (by decide) (k_ne (by decide) (k_ne (by decide) (k_ne (by decide) (k_ne (by decide) (k_ne (by decide) (k_ne (by decide) (k_ne (by decide) e31)))))))))))))))))))) (cwV 0 hts gX12_relaxed_X12_told rfl rfl rfl (by decide +kernel) ⟨Nat.le_of_ble_eq_true rfl, Nat.le_of_ble_eq_true rfl⟩) rfl hl.1 (Nat.le_of_ble_eq_true rfl) dX12_relaxed_32 ⟨Nat.le_of_ble_eq_true rfl, Nat.le_of_ble_eq_true rfl⟩ (fun H locs hP hD hS => ?_)
  have hP : va_P D vwCl [(h2, .inl (cI, 2001, .inl (upd g1 0 0))), (h4, .inl (cI, 2001, .inl (upd g3 0 0))), (h5, .inl (cI, 26, .inl (upd g4 25 0))), (h6, .inl (cI, 26, .inl (upd g5 25 0))), (h7, .inl (cI, 26, .inl (upd g6 25 0))), (h8, .inl (cI, 26, .inl (upd g7 25 0))), (h9, .inl (cI, 26, .inl (upd g8 25 0))), (h3, .inl (cI, 2001, .inl (upd g2 0 0))), (h1, .inl (cI, 2001, .inl (upd g0 0 0))), (h10, .inl (cI, 16, .inl (upd g9 0 33))), (h11, .inl (cI, 16, .inl (upd g10 0 (-1)))), (h12, .inl (cI, 16, .inl (upd (upd g11 0 1) 0 1))), (h13, .inl (cJ, 16, .inr (.inl (vp_updL (vp_updL g12 0 1) 0 1)))), (h14, .inl (cI, 16, .inl (upd g13 0 (-1)))), (h0, .inr (12, ((((((((((((((((((((f0.set 0 (.int 0)).set 12 (.int 0)).set 2 (.int 0)).set 36 (.int 0)).set 37 (.int 0)).set 27 (.int 0)).set 31 (.int 0)).set 28 (.int 0)).set 66 (.int 25)).set 67 (.int 0)).set 76 (.int (-1))).set 83 (.int (-1))).set 83 (.int 0)).set 84 (.int 3)).set 84 (.int 4)).set 84 (.int 5)).set 31 (.int 1)).set 29 (.int 2)).set 30 (.int 0)).set 109 (.int 2))))] H := hP
  have hD : va_D A [(h2, .inl (cI, 2001, .inl (upd g1 0 0))), (h4, .inl (cI, 2001, .inl (upd g3 0 0))), (h5, .inl (cI, 26, .inl (upd g4 25 0))), (h6, .inl (cI, 26, .inl (upd g5 25 0))), (h7, .inl (cI, 26, .inl (upd g6 25 0))), (h8, .inl (cI, 26, .inl (upd g7 25 0))), (h9, .inl (cI, 26, .inl (upd g8 25 0))), (h3, .inl (cI, 2001, .inl (upd g2 0 0))), (h1, .inl (cI, 2001, .inl (upd g0 0 0))), (h10, .inl (cI, 16, .inl (upd g9 0 33))), (h11, .inl (cI, 16, .inl (upd g10 0 (-1)))), (h12, .inl (cI, 16, .inl (upd (upd g11 0 1) 0 1))), (h13, .inl (cJ, 16, .inr (.inl (vp_updL (vp_updL g12 0 1) 0 1)))), (h14, .inl (cI, 16, .inl (upd g13 0 (-1)))), (h0, .inr (12, ((((((((((((((((((((f0.set 0 (.int 0)).set 12 (.int 0)).set 2 (.int 0)).set 36 (.int 0)).set 37 (.int 0)).set 27 (.int 0)).set 31 (.int 0)).set 28 (.int 0)).set 66 (.int 25)).set 67 (.int 0)).set 76 (.int (-1))).set 83 (.int (-1))).set 83 (.int 0)).set 84 (.int 3)).set 84 (.int 4)).set 84 (.int 5)).set 31 (.int 1)).set 29 (.int 2)).set 30 (.int 0)).set 109 (.int 2))))] := hD
  have hP := hP.sub (ws' := [(h0, .inr (12, ((((((((((((((((((((f0.set 0 (.int 0)).set 12 (.int 0)).set 2 (.int 0)).set 36 (.int 0)).set 37 (.int 0)).set 27 (.int 0)).set 31 (.int 0)).set 28 (.int 0)).set 66 (.int 25)).set 67 (.int 0)).set 76 (.int (-1))).set 83 (.int (-1))).set 83 (.int 0)).set 84 (.int 3)).set 84 (.int 4)).set 84 (.int 5)).set 31 (.int 1)).set 29 (.int 2)).set 30 (.int 0)).set 109 (.int 2)))), (h1, .inl (cI, 2001, .inl (upd g0 0 0))), (h2, .inl (cI, 2001, .inl (upd g1 0 0))), (h3, .inl (cI, 2001, .inl (upd g2 0 0))), (h4, .inl (cI, 2001, .inl (upd g3 0 0))), (h5, .inl (cI, 26, .inl (upd g4 25 0))), (h6, .inl (cI, 26, .inl (upd g5 25 0))), (h7, .inl (cI, 26, .inl (upd g6 25 0))), (h8, .inl (cI, 26, .inl (upd g7 25 0))), (h9, .inl (cI, 26, .inl (upd g8 25 0))), (h10, .inl (cI, 16, .inl (upd g9 0 33))), (h11, .inl (cI, 16, .inl (upd g10 0 (-1)))), (h12, .inl (cI, 16, .inl (upd (upd g11 0 1) 0 1))), (h13, .inl (cJ, 16, .inr (.inl (vp_updL (vp_updL g12 0 1) 0 1)))), (h14, .inl (cI, 16, .inl (upd g13 0 (-1))))]) [14, 8, 0, 7, 1, 2, 3, 4, 5, 6, 9, 10, 11, 12, 13] rfl
  have hD := hD.sub (ws' := [(h0, .inr (12, ((((((((((((((((((((f0.set 0 (.int 0)).set 12 (.int 0)).set 2 (.int 0)).set 36 (.int 0)).set 37 (.int 0)).set 27 (.int 0)).set 31 (.int 0)).set 28 (.int 0)).set 66 (.int 25)).set 67 (.int 0)).set 76 (.int (-1))).set 83 (.int (-1))).set 83 (.int 0)).set 84 (.int 3)).set 84 (.int 4)).set 84 (.int 5)).set 31 (.int 1)).set 29 (.int 2)).set 30 (.int 0)).set 109 (.int 2)))), (h1, .inl (cI, 2001, .inl (upd g0 0 0))), (h2, .inl (cI, 2001, .inl (upd g1 0 0))), (h3, .inl (cI, 2001, .inl (upd g2 0 0))), (h4, .inl (cI, 2001, .inl (upd g3 0 0))), (h5, .inl (cI, 26, .inl (upd g4 25 0))), (h6, .inl (cI, 26, .inl (upd g5 25 0))), (h7, .inl (cI, 26, .inl (upd g6 25 0))), (h8, .inl (cI, 26, .inl (upd g7 25 0))), (h9, .inl (cI, 26, .inl (upd g8 25 0))), (h10, .inl (cI, 16, .inl (upd g9 0 33))), (h11, .inl (cI, 16, .inl (upd g10 0 (-1)))), (h12, .inl (cI, 16, .inl (upd (upd g11 0 1) 0 1))), (h13, .inl (cJ, 16, .inr (.inl (vp_updL (vp_updL g12 0 1) 0 1)))), (h14, .inl (cI, 16, .inl (upd g13 0 (-1))))]) [14, 8, 0, 7, 1, 2, 3, 4, 5, 6, 9, 10, 11, 12, 13] (by decide +kernel) rfl
  exact W.iret (v := (-1000)) hx hb hr (fun t ht hW => ⟨⟨(-1000), (), rfl, rfl, kB_mk ht hW hP hK hD⟩, hS.F ht⟩) hS.2.2 dX12_relaxed_35
set_option maxHeartbeats 400000000 in
set_option maxRecDepth 100000 in
theorem c_X9_isTold_0 (l : Launch) (E : kE) (D : va_G) (cI cJ cB cZ : ClassId) (h0 : Nat) (x0 : Int32) (f0 : List Value) (e0 : ¬ ((x0 : Int32) < 0)) (e1 : f0[13]? = some (.int 0)) : kI l E D (kT cI cJ cB cZ) yX9_isTold wsX9_isTold ({ frames := 0, cells := 0, slots := 0, locals := 0 }) [.ref h0, .int x0] [(h0, .inr (9, f0))] (0) [(h0, .inr (9, f0))] 0 0 := by
  intro sz
  refine Met.ofW (cc := cX9_isTold) (maxL := 2) (ret := (some .boolean)) (by decide) rfl ?_
  intro p e s m args below meth c s₁ B hml hv
  obtain ⟨rfl, hsz, hP, hK, hD0, hN, hX⟩ := hv
  have hx := B.exec
  have hb := B.bytes
  have hr := B.returns
  have hts := atoms_spec (ws := wsX9_isTold) B.pre
  have hown : s.vm.findClass RX9 = some m.cls := findClass_of_methodNamed B.named
  have hlocks := B.notSynchronized
  have hin9 : ∀ w ∈ wsX90, w ∈ wsX9_isTold := (fun w h => (List.mem_cons_of_mem _ (List.mem_append_right _ h)))
  subst hsz
  have hD := hD0.self (sz := s.heap.size)
  have hAE := k_AE hD0 hX
  generalize hAe : va_A [(h0, .inr (9, f0))] s.heap.size = A at hD hAE ⊢
  have hA : ∀ q : Nat, s.heap.size ≤ q → A q := fun q h => by rw [← hAe]; exact Or.inr h
  have hS : va_S A s.heap s.heap [] := va_S.rf
  have hP : va_P D vwCl [(h0, .inr (9, f0))] s.heap := hP
  have hl := lv_entry ([.ref h0, .int x0] : List Value) (n := 2) (Nat.le_of_ble_eq_true rfl)
  rw [lg_entry_eq]
  generalize (lg_sl ([.ref h0, .int x0]) ++ List.replicate (2 - (lg_sl ([.ref h0, .int x0])).length) Slot.unset).toArray = ls at hl ⊢
  have hl : lv_has ls 2 [(0, .ref h0), (1, .int x0)] := hl
  refine lv_iload_n hx hb dX9_isTold_0 rfl (lv_at hl 1 rfl) ?_
  refine lv_if_lt (tgt := 16) hx hb dX9_isTold_1 (by decide) (fun c9 => absurd c9 e0) (fun _ => ?_)
  refine lv_iload_n hx hb dX9_isTold_4 rfl (lv_at hl 1 rfl) ?_
  refine lv_aload_n hx hb dX9_isTold_5 rfl (lv_at hl 0 rfl) ?_
  refine va_get (D := D) (ref := "IntegerHouse$Relaxer") (ci := 9) (v := .int 0) (C := RX9) (T := TX9) (N := 14) hx hb hts hin9 hown hK hP 0 rfl rfl 13 (by decide) (hts (.fieldLink RX9 107 "IntegerHouse$Relaxer" "toldSize" "I") (List.mem_cons_of_mem _ (List.mem_append_left _ (List.mem_of_getElem? (i := 0) rfl)))) (fun _ h9 => h9) e1 dX9_isTold_6 ?_
  refine lv_icmp_ge (tgt := 16) hx hb dX9_isTold_9 (by decide) (fun _ => ?_) (fun c9 => absurd ((k_n2 (x := x0) (c := 0)).mpr e0) c9)
  refine lv_iconst (v := 0) hx hb dX9_isTold_16 (by decide) ?_
  exact W.zret (v := 0) hx hb hr rfl (fun t ht hW => ⟨⟨0, (), rfl, rfl, kB_mk ht hW hP hK hD⟩, hS.F ht⟩) hS.2.2 dX9_isTold_17
set_option maxHeartbeats 400000000 in
set_option maxRecDepth 100000 in
theorem c_X11_fraction_0 (l : Launch) (E : kE) (D : va_G) (cI cJ cB cZ : ClassId) (h0 : Nat) (x0 : Int32) (f0 : List Value) (h1 : Nat) (f1 : List Value) (e0 : f0[9]? = some (.ref h1)) (e1 : f1[13]? = some (.int 0)) (e2 : ¬ ((x0 : Int32) < 0)) (hl9 : l.stackTraces = false) : kTJ l E D (kT cI cJ cB cZ) yX11_fraction wsX11_fraction ({ frames := 6, cells := 1, slots := 6, locals := 82 }) [.ref h0, .int x0] [(h0, .inr (11, f0)), (h1, .inr (9, f1))] "java/lang/IndexOutOfBoundsException" 1 6 := by
  intro sz
  refine vx_ofW (cc := cX11_fraction) (maxL := 2) (ret := (some .long)) (by decide) rfl ?_
  intro p e s m args below meth c s₁ B hml ht9 hv
  obtain ⟨rfl, hsz, hP, hK, hD0, hN, hX⟩ := hv
  have hx := B.exec
  have hb := B.bytes
  have hr := B.returns
  have hts := atoms_spec (ws := wsX11_fraction) B.pre
  have hown : s.vm.findClass RX11 = some m.cls := findClass_of_methodNamed B.named
  have hlocks := B.notSynchronized
  have hin11 : ∀ w ∈ wsX110, w ∈ wsX11_fraction := (fun w h => (List.mem_cons_of_mem _ (List.mem_append_left _ (List.mem_append_left _ (List.mem_append_right _ h)))))
  subst hsz
  have hD := hD0.self (sz := s.heap.size)
  have hAE := k_AE hD0 hX
  generalize hAe : va_A [(h0, .inr (11, f0)), (h1, .inr (9, f1))] s.heap.size = A at hD hAE ⊢
  have hA : ∀ q : Nat, s.heap.size ≤ q → A q := fun q h => by rw [← hAe]; exact Or.inr h
  have hS : va_S A s.heap s.heap [] := va_S.rf
  have hP : va_P D vwCl [(h0, .inr (11, f0)), (h1, .inr (9, f1))] s.heap := hP
  have hl := lv_entry ([.ref h0, .int x0] : List Value) (n := 2) (Nat.le_of_ble_eq_true rfl)
  rw [lg_entry_eq]
  generalize (lg_sl ([.ref h0, .int x0]) ++ List.replicate (2 - (lg_sl ([.ref h0, .int x0])).length) Slot.unset).toArray = ls at hl ⊢
  have hl : lv_has ls 2 [(0, .ref h0), (1, .int x0)] := hl
  refine lv_aload_n hx hb dX11_fraction_0 rfl (lv_at hl 0 rfl) ?_
  refine va_get (D := D) (ref := "IntegerHouse") (ci := 11) (v := .ref h1) (C := RX11) (T := TX11) (N := 15) hx hb hts hin11 hown hK hP 0 rfl rfl 9 (by decide) (hts (.fieldLink RX11 80 "IntegerHouse" "relaxer" "LIntegerHouse$Relaxer;") (List.mem_cons_of_mem _ (List.mem_append_left _ (List.mem_append_left _ (List.mem_append_left _ (List.mem_of_getElem? (i := 2) rfl)))))) (fun _ h9 => h9) e0 dX11_fraction_1 ?_
  refine lv_iload_n hx hb dX11_fraction_4 rfl (lv_at hl 1 rfl) ?_
  refine k_cVi (As := [.int x0]) (rest := []) (wc := [(h1, .inr (9, f1))]) (wr := [(h0, .inr (11, f0))]) (w1 := [(h1, .inr (9, f1))]) ⟨hx, hb, hml, hown, hts⟩ hN hX hAE hK hP hD hS hA [1] [0] (ci := 9) rfl rfl rfl rfl (by decide +kernel) (by decide +kernel) (by decide +kernel) (c_X9_isTold_0 l E D cI cJ cB cZ h1 x0 f1 e2 e1) (cwV 1 hts gX11_fraction_X9_isTold rfl rfl rfl (by decide +kernel) ⟨Nat.le_of_ble_eq_true rfl, Nat.le_of_ble_eq_true rfl⟩) rfl hl.1 (Nat.le_of_ble_eq_true rfl) dX11_fraction_5 ⟨Nat.le_of_ble_eq_true rfl, Nat.le_of_ble_eq_true rfl⟩ (fun H locs hP hD hS => ?_)
  have hP : va_P D vwCl [(h0, .inr (11, f0)), (h1, .inr (9, f1))] H := hP
  have hD : va_D A [(h0, .inr (11, f0)), (h1, .inr (9, f1))] := hD
  refine lv_if_ne (tgt := 22) hx hb dX11_fraction_8 (by decide) (fun c9 => absurd (by decide) c9) (fun _ => ?_)
  obtain ⟨a9, a9r, a9o⟩ := kX.st hX hAE ("IntegerHouse", 383, "no such number was told") (List.mem_of_getElem? (i := 8) rfl)
  exact vx_throwSW (names := ["java/lang/RuntimeException", "java/lang/Exception"]) (A := A) hx hb hl9 hown (by decide +kernel) (by decide +kernel) (hts (.classLink RX11 197 "java/lang/IndexOutOfBoundsException") (List.mem_cons_of_mem _ (List.mem_append_left _ (List.mem_append_left _ (List.mem_append_left _ (List.mem_of_getElem? (i := 0) rfl)))))) (hts (.initialized "java/lang/IndexOutOfBoundsException") (List.mem_cons_of_mem _ (List.mem_append_left _ (List.mem_append_left _ (List.mem_append_left _ (List.mem_of_getElem? (i := 1) rfl)))))) a9r (vx_hat (L := vx_atS RX11 201 "java/lang/IndexOutOfBoundsException" ["java/lang/RuntimeException", "java/lang/Exception"]) (B := [.castable "java/lang/IndexOutOfBoundsException" "java/lang/IndexOutOfBoundsException", .declares (Bundle.initS "java/lang/RuntimeException"), .declares (Bundle.initS "java/lang/Exception"), .declares (Bundle.initS "java/lang/Throwable")]) (fun w h => hts w (List.mem_cons_of_mem _ (List.mem_append_right _ h))) (by decide +kernel) (vx_c (va_Nw.use rfl (kX.cast hX "java/lang/IndexOutOfBoundsException" (by decide))) (vx_c (va_Nw.use rfl (kX.decl hX "java/lang/RuntimeException" (by decide))) (vx_c (va_Nw.use rfl (kX.decl hX "java/lang/Exception" (by decide))) (vx_c (va_Nw.use rfl (kX.decl hX "java/lang/Throwable" (by decide))) vx_n))))) (by decide +kernel) (kX.us hX hAE) (kX.ss hX hAE) hS (by rw [hml]; exact hl.1) dX11_fraction_11 dX11_fraction_14 dX11_fraction_15 dX11_fraction_18 dX11_fraction_21 (fun x hx => (ht9 x hx).elim) (Nat.le_of_ble_eq_true rfl) (Nat.le_of_ble_eq_true rfl) (Nat.le_of_ble_eq_true rfl) (Nat.le_of_ble_eq_true rfl) hlocks (fun t h1 h2 h3 => k_tx hP hK hD hS t h1 h2 h3) hS.2.2 (Nat.le_of_ble_eq_true rfl) (Nat.le_of_ble_eq_true rfl)
set_option maxHeartbeats 400000000 in
set_option maxRecDepth 100000 in
theorem c_L_fraction_0 (l : Launch) (E : kE) (D : va_G) (cI cJ cB cZ : ClassId) (h0 : Nat) (x0 : Int32) (h1 : Nat) (f0 : List Value) (h2 : Nat) (f1 : List Value) (e0 : f0[9]? = some (.ref h2)) (e1 : f1[13]? = some (.int 0)) (e2 : ¬ ((x0 : Int32) < 0)) (hl9 : l.stackTraces = false) : kI l E D (kT cI cJ cB cZ) yL_fraction wsL_fraction ({ frames := 7, cells := 1, slots := 6, locals := 103 }) [.ref h0, .int x0, .ref h1] [(h0, .inr (11, f0)), (h2, .inr (9, f1))] (1) [(h0, .inr (11, f0)), (h2, .inr (9, f1))] 1 6 := by
  intro sz
  refine k_metH (cc := cL_fraction) (maxL := 4) (ret := (some .int)) (hh := [(0, 8, 11, 25)]) (by decide) rfl ?_
  intro p e s m args below meth c s₁ B hml hv
  obtain ⟨rfl, hsz, hP, hK, hD0, hN, hX⟩ := hv
  have hx := B.exec
  have hb := B.bytes
  have hr := B.returns
  have hts := atoms_spec (ws := wsL_fraction) B.pre
  have hown : s.vm.findClass RL = some m.cls := findClass_of_methodNamed B.named
  have hlocks := B.notSynchronized
  subst hsz
  have hD := hD0.self (sz := s.heap.size)
  have hAE := k_AE hD0 hX
  generalize hAe : va_A [(h0, .inr (11, f0)), (h2, .inr (9, f1))] s.heap.size = A at hD hAE ⊢
  have hA : ∀ q : Nat, s.heap.size ≤ q → A q := fun q h => by rw [← hAe]; exact Or.inr h
  have hS : va_S A s.heap s.heap [] := va_S.rf
  have hP : va_P D vwCl [(h0, .inr (11, f0)), (h2, .inr (9, f1))] s.heap := hP
  have hl := lv_entry ([.ref h0, .int x0, .ref h1] : List Value) (n := 4) (Nat.le_of_ble_eq_true rfl)
  rw [lg_entry_eq]
  generalize (lg_sl ([.ref h0, .int x0, .ref h1]) ++ List.replicate (4 - (lg_sl ([.ref h0, .int x0, .ref h1])).length) Slot.unset).toArray = ls at hl ⊢
  have hl : lv_has ls 4 [(0, .ref h0), (1, .int x0), (2, .ref h1)] := hl
  refine lv_aload_n hx hb dL_fraction_0 rfl (lv_at hl 2 rfl) ?_
  refine lv_iconst (v := 0) hx hb dL_fraction_1 (by decide) ?_
  refine lv_aload_n hx hb dL_fraction_2 rfl (lv_at hl 0 rfl) ?_
  refine lv_iload_n hx hb dL_fraction_3 rfl (lv_at hl 1 rfl) ?_
  refine k_cTl (As := [.int x0]) (rest := [.int 0, .ref h1]) (wc := [(h0, .inr (11, f0)), (h2, .inr (9, f1))]) (wr := []) ⟨hx, hb, hml, hown, hts⟩ hN hX hAE hK hP hD hS hA [0, 1] [] (ci := 11) rfl rfl rfl rfl (by decide +kernel) (by decide +kernel) (by decide +kernel) (c_X11_fraction_0 l E D cI cJ cB cZ h0 x0 f0 h2 f1 e0 e1 e2 hl9) (cwV 1 hts gL_fraction_X11_fraction rfl rfl rfl (by decide +kernel) ⟨Nat.le_of_ble_eq_true rfl, Nat.le_of_ble_eq_true rfl⟩) rfl hl.1 (Nat.le_of_ble_eq_true rfl) dL_fraction_4 ⟨Nat.le_of_ble_eq_true rfl, Nat.le_of_ble_eq_true rfl⟩ (fun q9 ce H locs hP hD hS hce hcv hcl => ?_)
  have hP : va_P D vwCl [(h0, .inr (11, f0)), (h2, .inr (9, f1))] H := hP
  have hD : va_D A [(h0, .inr (11, f0)), (h2, .inr (9, f1))] := hD
  refine vx_catch (own := RL) (name := "java/lang/IndexOutOfBoundsException") hown [] ⟨0, 8, 11, 25⟩ [] (vx_table B (hts _ List.mem_cons_self)) (fun z hz => absurd hz List.not_mem_nil) (by decide) (by decide) (hts (.classLink RL 25 "java/lang/IndexOutOfBoundsException") (List.mem_cons_of_mem _ (List.mem_append_left _ (List.mem_append_left _ (List.mem_append_left _ (List.mem_of_getElem? (i := 0) rfl)))))) (va_Nw.use rfl (kX.cast hX "java/lang/IndexOutOfBoundsException" (by decide))) hce hcv hcl ?_
  refine W.eq (g2 := F0 m 11 ls [.ref q9]) rfl ?_
  refine W.widen (k := 1) (n := 6) (Nat.le_of_ble_eq_true rfl) (Nat.le_of_ble_eq_true rfl) ?_
  refine lv_astore_n (lv' := [(3, .ref q9), (0, .ref h0), (1, .int x0), (2, .ref h1)]) hx hb dL_fraction_11 rfl hl (by decide) rfl (fun ls hl => ?_)
  refine lv_iconst (v := 1) hx hb dL_fraction_12 (by decide) ?_
  exact W.iret (v := 1) hx hb hr (fun t ht hW => ⟨⟨1, (), rfl, rfl, kB_mk ht hW hP hK hD⟩, hS.F ht⟩) hS.2.2 dL_fraction_13
set_option maxHeartbeats 400000000 in
set_option maxRecDepth 100000 in
theorem c_X12_fraction_0 (l : Launch) (E : kE) (D : va_G) (cI cJ cB cZ : ClassId) (h0 : Nat) (x0 : Int32) (f0 : List Value) (e0 : f0[171]? = some (.int 0)) (e1 : ¬ ((x0 : Int32) < 0)) (e2 : f0[0]? = some (.int 0)) : kJ l E D (kT cI cJ cB cZ) yX12_fraction wsX12_fraction ({ frames := 1, cells := 0, slots := 0, locals := 25 }) [.ref h0, .int x0] [(h0, .inr (12, f0))] (0) [(h0, .inr (12, (f0.set 0 (.int 1))))] 0 0 := by
  intro sz
  refine Met.ofW (cc := cX12_fraction) (maxL := 2) (ret := (some .long)) (by decide) rfl ?_
  intro p e s m args below meth c s₁ B hml hv
  obtain ⟨rfl, hsz, hP, hK, hD0, hN, hX⟩ := hv
  have hx := B.exec
  have hb := B.bytes
  have hr := B.returns
  have hts := atoms_spec (ws := wsX12_fraction) B.pre
  have hown : s.vm.findClass RX12 = some m.cls := findClass_of_methodNamed B.named
  have hlocks := B.notSynchronized
  have hin12 : ∀ w ∈ wsX120, w ∈ wsX12_fraction := (fun w h => (List.mem_cons_of_mem _ (List.mem_append_right _ h)))
  subst hsz
  have hD := hD0.self (sz := s.heap.size)
  have hAE := k_AE hD0 hX
  generalize hAe : va_A [(h0, .inr (12, f0))] s.heap.size = A at hD hAE ⊢
  have hA : ∀ q : Nat, s.heap.size ≤ q → A q := fun q h => by rw [← hAe]; exact Or.inr h
  have hS : va_S A s.heap s.heap [] := va_S.rf
  have hP : va_P D vwCl [(h0, .inr (12, f0))] s.heap := hP
  have hl := lv_entry ([.ref h0, .int x0] : List Value) (n := 2) (Nat.le_of_ble_eq_true rfl)
  rw [lg_entry_eq]
  generalize (lg_sl ([.ref h0, .int x0]) ++ List.replicate (2 - (lg_sl ([.ref h0, .int x0])).length) Slot.unset).toArray = ls at hl ⊢
  have hl : lv_has ls 2 [(0, .ref h0), (1, .int x0)] := hl
  refine lv_aload_n hx hb dX12_fraction_0 rfl (lv_at hl 0 rfl) ?_
  refine lv_iload_n hx hb dX12_fraction_1 rfl (lv_at hl 1 rfl) ?_
  refine lv_i2l (v := (Int32.toInt64 x0)) hx hb dX12_fraction_2 rfl ?_
  refine lv_lconst (v := 0) hx hb dX12_fraction_3 (by decide) ?_
  refine lv_aload_n hx hb dX12_fraction_4 rfl (lv_at hl 0 rfl) ?_
  refine va_get (D := D) (ref := "IntegerHouseModel") (ci := 12) (v := .int 0) (C := RX12) (T := TX12) (N := 195) hx hb hts hin12 hown hK hP 0 rfl rfl 171 (by decide) (hts (.fieldLink RX12 1160 "IntegerHouseModel" "fractionCount" "I") (List.mem_cons_of_mem _ (List.mem_append_left _ (List.mem_of_getElem? (i := 0) rfl)))) (fun _ h9 => h9) e0 dX12_fraction_5 ?_
  refine lv_iconst (v := 1) hx hb dX12_fraction_8 (by decide) ?_
  refine lv_isub hx hb dX12_fraction_9 ?_
  refine k_topi (y := (-1)) (by decide) ?_
  refine lv_i2l (v := (-1)) hx hb dX12_fraction_10 (by decide) ?_
  refine k_cSi (As := [.long (Int32.toInt64 x0), .long 0, .long (-1)]) (rest := [.ref h0]) (wc := []) (wr := [(h0, .inr (12, f0))]) (w1 := []) ⟨hx, hb, hml, hown, hts⟩ hN hX hAE hK hP hD hS hA [] [0] rfl rfl (by decide +kernel) (by decide +kernel) (by decide +kernel) (c_X12_in_12 l E D cI cJ cB cZ (Int32.toInt64 x0) (fun z9 => e1 ((k_n4 (x := x0) (c := 0) (C := 0) (by decide)).mp z9)) ((k_n5 (x := x0) (c := (-1)) (d := 0) (C := (-1)) (by decide) (by decide)).mpr e1)) (va_cwS 3 hts gX12_fraction_X12_in rfl rfl rfl (by decide +kernel) ⟨Nat.le_of_ble_eq_true rfl, Nat.le_of_ble_eq_true rfl⟩) rfl hl.1 (Nat.le_of_ble_eq_true rfl) dX12_fraction_11 ⟨Nat.le_of_ble_eq_true rfl, Nat.le_of_ble_eq_true rfl⟩ (fun H locs hP hD hS => ?_)
  have hP : va_P D vwCl [(h0, .inr (12, f0))] H := hP
  have hD : va_D A [(h0, .inr (12, f0))] := hD
  refine lv_if_eq (tgt := 21) hx hb dX12_fraction_14 (by decide) (fun _ => ?_) (fun c9 => absurd (by decide) c9)
  refine lv_iconst (v := 1) hx hb dX12_fraction_21 (by decide) ?_
  refine va_put (D := D) (ref := "IntegerHouseModel") (ci := 12) (v := .int 1) (ty := .int) (C := RX12) (T := TX12) (N := 195) hx hb hts hin12 tyX12 tyX12_ok nmX12 hown hK hP hD hS 0 rfl rfl 0 (by decide) (hts (.fieldLink RX12 3 "IntegerHouseModel" "thrown" "I") (List.mem_cons_of_mem _ (List.mem_append_left _ (List.mem_of_getElem? (i := 1) rfl)))) (fun _ h9 => h9) rfl (by decide +kernel) rfl rfl (k_len e2) dX12_fraction_22 (fun H locs hP hD hS => ?_)
  have hP : va_P D vwCl [(h0, .inr (12, (f0.set 0 (.int 1))))] H := hP
  have hD : va_D A [(h0, .inr (12, (f0.set 0 (.int 1))))] := hD
  refine lv_aload_n hx hb dX12_fraction_25 rfl (lv_at hl 0 rfl) ?_
  refine va_get (D := D) (ref := "IntegerHouseModel") (ci := 12) (v := .int 1) (C := RX12) (T := TX12) (N := 195) hx hb hts hin12 hown hK hP 0 rfl rfl 0 (by decide) (hts (.fieldLink RX12 3 "IntegerHouseModel" "thrown" "I") (List.mem_cons_of_mem _ (List.mem_append_left _ (List.mem_of_getElem? (i := 1) rfl)))) (fun _ h9 => h9) (k_set e2) dX12_fraction_26 ?_
  refine lv_if_le (tgt := 36) hx hb dX12_fraction_29 (by decide) (fun c9 => absurd c9 (by decide)) (fun _ => ?_)
  refine lv_lconst (v := 0) hx hb dX12_fraction_32 (by decide) ?_
  refine lv_goto (tgt := 42) hx hb dX12_fraction_33 (by decide) ?_
  exact W.lret (v := 0) hx hb hr (fun t ht hW => ⟨⟨0, (), rfl, rfl, kB_mk ht hW hP hK hD⟩, hS.F ht⟩) hS.2.2 dX12_fraction_42
set_option maxHeartbeats 400000000 in
set_option maxRecDepth 100000 in
theorem c_X9_isTold_1 (l : Launch) (E : kE) (D : va_G) (cI cJ cB cZ : ClassId) (h0 : Nat) (x0 : Int32) (e0 : (x0 : Int32) < 0) : kI l E D (kT cI cJ cB cZ) yX9_isTold wsX9_isTold ({ frames := 0, cells := 0, slots := 0, locals := 0 }) [.ref h0, .int x0] [] (0) [] 0 0 := by
  intro sz
  refine Met.ofW (cc := cX9_isTold) (maxL := 2) (ret := (some .boolean)) (by decide) rfl ?_
  intro p e s m args below meth c s₁ B hml hv
  obtain ⟨rfl, hsz, hP, hK, hD0, hN, hX⟩ := hv
  have hx := B.exec
  have hb := B.bytes
  have hr := B.returns
  have hts := atoms_spec (ws := wsX9_isTold) B.pre
  have hown : s.vm.findClass RX9 = some m.cls := findClass_of_methodNamed B.named
  have hlocks := B.notSynchronized
  subst hsz
  have hD := hD0.self (sz := s.heap.size)
  have hAE := k_AE hD0 hX
  generalize hAe : va_A [] s.heap.size = A at hD hAE ⊢
  have hA : ∀ q : Nat, s.heap.size ≤ q → A q := fun q h => by rw [← hAe]; exact Or.inr h
  have hS : va_S A s.heap s.heap [] := va_S.rf
  have hP : va_P D vwCl [] s.heap := hP
  have hl := lv_entry ([.ref h0, .int x0] : List Value) (n := 2) (Nat.le_of_ble_eq_true rfl)
  rw [lg_entry_eq]
  generalize (lg_sl ([.ref h0, .int x0]) ++ List.replicate (2 - (lg_sl ([.ref h0, .int x0])).length) Slot.unset).toArray = ls at hl ⊢
  have hl : lv_has ls 2 [(0, .ref h0), (1, .int x0)] := hl
  refine lv_iload_n hx hb dX9_isTold_0 rfl (lv_at hl 1 rfl) ?_
  refine lv_if_lt (tgt := 16) hx hb dX9_isTold_1 (by decide) (fun _ => ?_) (fun c9 => absurd e0 c9)
  refine lv_iconst (v := 0) hx hb dX9_isTold_16 (by decide) ?_
  exact W.zret (v := 0) hx hb hr rfl (fun t ht hW => ⟨⟨0, (), rfl, rfl, kB_mk ht hW hP hK hD⟩, hS.F ht⟩) hS.2.2 dX9_isTold_17
set_option maxHeartbeats 400000000 in
set_option maxRecDepth 100000 in
theorem c_X11_fraction_1 (l : Launch) (E : kE) (D : va_G) (cI cJ cB cZ : ClassId) (h0 : Nat) (x0 : Int32) (f0 : List Value) (h1 : Nat) (e0 : f0[9]? = some (.ref h1)) (e1 : (x0 : Int32) < 0) (hl9 : l.stackTraces = false) : kTJ l E D (kT cI cJ cB cZ) yX11_fraction wsX11_fraction ({ frames := 6, cells := 1, slots := 6, locals := 82 }) [.ref h0, .int x0] [(h0, .inr (11, f0))] "java/lang/IndexOutOfBoundsException" 1 6 := by
  intro sz
  refine vx_ofW (cc := cX11_fraction) (maxL := 2) (ret := (some .long)) (by decide) rfl ?_
  intro p e s m args below meth c s₁ B hml ht9 hv
  obtain ⟨rfl, hsz, hP, hK, hD0, hN, hX⟩ := hv
  have hx := B.exec
  have hb := B.bytes
  have hr := B.returns
  have hts := atoms_spec (ws := wsX11_fraction) B.pre
  have hown : s.vm.findClass RX11 = some m.cls := findClass_of_methodNamed B.named
  have hlocks := B.notSynchronized
  have hin11 : ∀ w ∈ wsX110, w ∈ wsX11_fraction := (fun w h => (List.mem_cons_of_mem _ (List.mem_append_left _ (List.mem_append_left _ (List.mem_append_right _ h)))))
  subst hsz
  have hD := hD0.self (sz := s.heap.size)
  have hAE := k_AE hD0 hX
  generalize hAe : va_A [(h0, .inr (11, f0))] s.heap.size = A at hD hAE ⊢
  have hA : ∀ q : Nat, s.heap.size ≤ q → A q := fun q h => by rw [← hAe]; exact Or.inr h
  have hS : va_S A s.heap s.heap [] := va_S.rf
  have hP : va_P D vwCl [(h0, .inr (11, f0))] s.heap := hP
  have hl := lv_entry ([.ref h0, .int x0] : List Value) (n := 2) (Nat.le_of_ble_eq_true rfl)
  rw [lg_entry_eq]
  generalize (lg_sl ([.ref h0, .int x0]) ++ List.replicate (2 - (lg_sl ([.ref h0, .int x0])).length) Slot.unset).toArray = ls at hl ⊢
  have hl : lv_has ls 2 [(0, .ref h0), (1, .int x0)] := hl
  refine lv_aload_n hx hb dX11_fraction_0 rfl (lv_at hl 0 rfl) ?_
  refine va_get (D := D) (ref := "IntegerHouse") (ci := 11) (v := .ref h1) (C := RX11) (T := TX11) (N := 15) hx hb hts hin11 hown hK hP 0 rfl rfl 9 (by decide) (hts (.fieldLink RX11 80 "IntegerHouse" "relaxer" "LIntegerHouse$Relaxer;") (List.mem_cons_of_mem _ (List.mem_append_left _ (List.mem_append_left _ (List.mem_append_left _ (List.mem_of_getElem? (i := 2) rfl)))))) (fun _ h9 => h9) e0 dX11_fraction_1 ?_
  refine lv_iload_n hx hb dX11_fraction_4 rfl (lv_at hl 1 rfl) ?_
  refine k_cVi (As := [.int x0]) (rest := []) (wc := []) (wr := [(h0, .inr (11, f0))]) (w1 := []) ⟨hx, hb, hml, hown, hts⟩ hN hX hAE hK hP hD hS hA [] [0] (ci := 9) rfl rfl rfl rfl (by decide +kernel) (by decide +kernel) (by decide +kernel) (c_X9_isTold_1 l E D cI cJ cB cZ h1 x0 e1) (cwV 1 hts gX11_fraction_X9_isTold rfl rfl rfl (by decide +kernel) ⟨Nat.le_of_ble_eq_true rfl, Nat.le_of_ble_eq_true rfl⟩) rfl hl.1 (Nat.le_of_ble_eq_true rfl) dX11_fraction_5 ⟨Nat.le_of_ble_eq_true rfl, Nat.le_of_ble_eq_true rfl⟩ (fun H locs hP hD hS => ?_)
  have hP : va_P D vwCl [(h0, .inr (11, f0))] H := hP
  have hD : va_D A [(h0, .inr (11, f0))] := hD
  refine lv_if_ne (tgt := 22) hx hb dX11_fraction_8 (by decide) (fun c9 => absurd (by decide) c9) (fun _ => ?_)
  obtain ⟨a9, a9r, a9o⟩ := kX.st hX hAE ("IntegerHouse", 383, "no such number was told") (List.mem_of_getElem? (i := 8) rfl)
  exact vx_throwSW (names := ["java/lang/RuntimeException", "java/lang/Exception"]) (A := A) hx hb hl9 hown (by decide +kernel) (by decide +kernel) (hts (.classLink RX11 197 "java/lang/IndexOutOfBoundsException") (List.mem_cons_of_mem _ (List.mem_append_left _ (List.mem_append_left _ (List.mem_append_left _ (List.mem_of_getElem? (i := 0) rfl)))))) (hts (.initialized "java/lang/IndexOutOfBoundsException") (List.mem_cons_of_mem _ (List.mem_append_left _ (List.mem_append_left _ (List.mem_append_left _ (List.mem_of_getElem? (i := 1) rfl)))))) a9r (vx_hat (L := vx_atS RX11 201 "java/lang/IndexOutOfBoundsException" ["java/lang/RuntimeException", "java/lang/Exception"]) (B := [.castable "java/lang/IndexOutOfBoundsException" "java/lang/IndexOutOfBoundsException", .declares (Bundle.initS "java/lang/RuntimeException"), .declares (Bundle.initS "java/lang/Exception"), .declares (Bundle.initS "java/lang/Throwable")]) (fun w h => hts w (List.mem_cons_of_mem _ (List.mem_append_right _ h))) (by decide +kernel) (vx_c (va_Nw.use rfl (kX.cast hX "java/lang/IndexOutOfBoundsException" (by decide))) (vx_c (va_Nw.use rfl (kX.decl hX "java/lang/RuntimeException" (by decide))) (vx_c (va_Nw.use rfl (kX.decl hX "java/lang/Exception" (by decide))) (vx_c (va_Nw.use rfl (kX.decl hX "java/lang/Throwable" (by decide))) vx_n))))) (by decide +kernel) (kX.us hX hAE) (kX.ss hX hAE) hS (by rw [hml]; exact hl.1) dX11_fraction_11 dX11_fraction_14 dX11_fraction_15 dX11_fraction_18 dX11_fraction_21 (fun x hx => (ht9 x hx).elim) (Nat.le_of_ble_eq_true rfl) (Nat.le_of_ble_eq_true rfl) (Nat.le_of_ble_eq_true rfl) (Nat.le_of_ble_eq_true rfl) hlocks (fun t h1 h2 h3 => k_tx hP hK hD hS t h1 h2 h3) hS.2.2 (Nat.le_of_ble_eq_true rfl) (Nat.le_of_ble_eq_true rfl)
set_option maxHeartbeats 400000000 in
set_option maxRecDepth 100000 in
theorem c_L_fraction_1 (l : Launch) (E : kE) (D : va_G) (cI cJ cB cZ : ClassId) (h0 : Nat) (x0 : Int32) (h1 : Nat) (f0 : List Value) (h2 : Nat) (e0 : f0[9]? = some (.ref h2)) (e1 : (x0 : Int32) < 0) (hl9 : l.stackTraces = false) : kI l E D (kT cI cJ cB cZ) yL_fraction wsL_fraction ({ frames := 7, cells := 1, slots := 6, locals := 103 }) [.ref h0, .int x0, .ref h1] [(h0, .inr (11, f0))] (1) [(h0, .inr (11, f0))] 1 6 := by
  intro sz
  refine k_metH (cc := cL_fraction) (maxL := 4) (ret := (some .int)) (hh := [(0, 8, 11, 25)]) (by decide) rfl ?_
  intro p e s m args below meth c s₁ B hml hv
  obtain ⟨rfl, hsz, hP, hK, hD0, hN, hX⟩ := hv
  have hx := B.exec
  have hb := B.bytes
  have hr := B.returns
  have hts := atoms_spec (ws := wsL_fraction) B.pre
  have hown : s.vm.findClass RL = some m.cls := findClass_of_methodNamed B.named
  have hlocks := B.notSynchronized
  subst hsz
  have hD := hD0.self (sz := s.heap.size)
  have hAE := k_AE hD0 hX
  generalize hAe : va_A [(h0, .inr (11, f0))] s.heap.size = A at hD hAE ⊢
  have hA : ∀ q : Nat, s.heap.size ≤ q → A q := fun q h => by rw [← hAe]; exact Or.inr h
  have hS : va_S A s.heap s.heap [] := va_S.rf
  have hP : va_P D vwCl [(h0, .inr (11, f0))] s.heap := hP
  have hl := lv_entry ([.ref h0, .int x0, .ref h1] : List Value) (n := 4) (Nat.le_of_ble_eq_true rfl)
  rw [lg_entry_eq]
  generalize (lg_sl ([.ref h0, .int x0, .ref h1]) ++ List.replicate (4 - (lg_sl ([.ref h0, .int x0, .ref h1])).length) Slot.unset).toArray = ls at hl ⊢
  have hl : lv_has ls 4 [(0, .ref h0), (1, .int x0), (2, .ref h1)] := hl
  refine lv_aload_n hx hb dL_fraction_0 rfl (lv_at hl 2 rfl) ?_
  refine lv_iconst (v := 0) hx hb dL_fraction_1 (by decide) ?_
  refine lv_aload_n hx hb dL_fraction_2 rfl (lv_at hl 0 rfl) ?_
  refine lv_iload_n hx hb dL_fraction_3 rfl (lv_at hl 1 rfl) ?_
  refine k_cTl (As := [.int x0]) (rest := [.int 0, .ref h1]) (wc := [(h0, .inr (11, f0))]) (wr := []) ⟨hx, hb, hml, hown, hts⟩ hN hX hAE hK hP hD hS hA [0] [] (ci := 11) rfl rfl rfl rfl (by decide +kernel) (by decide +kernel) (by decide +kernel) (c_X11_fraction_1 l E D cI cJ cB cZ h0 x0 f0 h2 e0 e1 hl9) (cwV 1 hts gL_fraction_X11_fraction rfl rfl rfl (by decide +kernel) ⟨Nat.le_of_ble_eq_true rfl, Nat.le_of_ble_eq_true rfl⟩) rfl hl.1 (Nat.le_of_ble_eq_true rfl) dL_fraction_4 ⟨Nat.le_of_ble_eq_true rfl, Nat.le_of_ble_eq_true rfl⟩ (fun q9 ce H locs hP hD hS hce hcv hcl => ?_)
  have hP : va_P D vwCl [(h0, .inr (11, f0))] H := hP
  have hD : va_D A [(h0, .inr (11, f0))] := hD
  refine vx_catch (own := RL) (name := "java/lang/IndexOutOfBoundsException") hown [] ⟨0, 8, 11, 25⟩ [] (vx_table B (hts _ List.mem_cons_self)) (fun z hz => absurd hz List.not_mem_nil) (by decide) (by decide) (hts (.classLink RL 25 "java/lang/IndexOutOfBoundsException") (List.mem_cons_of_mem _ (List.mem_append_left _ (List.mem_append_left _ (List.mem_append_left _ (List.mem_of_getElem? (i := 0) rfl)))))) (va_Nw.use rfl (kX.cast hX "java/lang/IndexOutOfBoundsException" (by decide))) hce hcv hcl ?_
  refine W.eq (g2 := F0 m 11 ls [.ref q9]) rfl ?_
  refine W.widen (k := 1) (n := 6) (Nat.le_of_ble_eq_true rfl) (Nat.le_of_ble_eq_true rfl) ?_
  refine lv_astore_n (lv' := [(3, .ref q9), (0, .ref h0), (1, .int x0), (2, .ref h1)]) hx hb dL_fraction_11 rfl hl (by decide) rfl (fun ls hl => ?_)
  refine lv_iconst (v := 1) hx hb dL_fraction_12 (by decide) ?_
  exact W.iret (v := 1) hx hb hr (fun t ht hW => ⟨⟨1, (), rfl, rfl, kB_mk ht hW hP hK hD⟩, hS.F ht⟩) hS.2.2 dL_fraction_13
set_option maxHeartbeats 400000000 in
set_option maxRecDepth 100000 in
theorem c_X12_fraction_1 (l : Launch) (E : kE) (D : va_G) (cI cJ cB cZ : ClassId) (h0 : Nat) (x0 : Int32) (f0 : List Value) (e0 : f0[171]? = some (.int 0)) (e1 : (x0 : Int32) < 0) (e2 : f0[0]? = some (.int 0)) : kJ l E D (kT cI cJ cB cZ) yX12_fraction wsX12_fraction ({ frames := 1, cells := 0, slots := 0, locals := 25 }) [.ref h0, .int x0] [(h0, .inr (12, f0))] (0) [(h0, .inr (12, (f0.set 0 (.int 1))))] 0 0 := by
  intro sz
  refine Met.ofW (cc := cX12_fraction) (maxL := 2) (ret := (some .long)) (by decide) rfl ?_
  intro p e s m args below meth c s₁ B hml hv
  obtain ⟨rfl, hsz, hP, hK, hD0, hN, hX⟩ := hv
  have hx := B.exec
  have hb := B.bytes
  have hr := B.returns
  have hts := atoms_spec (ws := wsX12_fraction) B.pre
  have hown : s.vm.findClass RX12 = some m.cls := findClass_of_methodNamed B.named
  have hlocks := B.notSynchronized
  have hin12 : ∀ w ∈ wsX120, w ∈ wsX12_fraction := (fun w h => (List.mem_cons_of_mem _ (List.mem_append_right _ h)))
  subst hsz
  have hD := hD0.self (sz := s.heap.size)
  have hAE := k_AE hD0 hX
  generalize hAe : va_A [(h0, .inr (12, f0))] s.heap.size = A at hD hAE ⊢
  have hA : ∀ q : Nat, s.heap.size ≤ q → A q := fun q h => by rw [← hAe]; exact Or.inr h
  have hS : va_S A s.heap s.heap [] := va_S.rf
  have hP : va_P D vwCl [(h0, .inr (12, f0))] s.heap := hP
  have hl := lv_entry ([.ref h0, .int x0] : List Value) (n := 2) (Nat.le_of_ble_eq_true rfl)
  rw [lg_entry_eq]
  generalize (lg_sl ([.ref h0, .int x0]) ++ List.replicate (2 - (lg_sl ([.ref h0, .int x0])).length) Slot.unset).toArray = ls at hl ⊢
  have hl : lv_has ls 2 [(0, .ref h0), (1, .int x0)] := hl
  refine lv_aload_n hx hb dX12_fraction_0 rfl (lv_at hl 0 rfl) ?_
  refine lv_iload_n hx hb dX12_fraction_1 rfl (lv_at hl 1 rfl) ?_
  refine lv_i2l (v := (Int32.toInt64 x0)) hx hb dX12_fraction_2 rfl ?_
  refine lv_lconst (v := 0) hx hb dX12_fraction_3 (by decide) ?_
  refine lv_aload_n hx hb dX12_fraction_4 rfl (lv_at hl 0 rfl) ?_
  refine va_get (D := D) (ref := "IntegerHouseModel") (ci := 12) (v := .int 0) (C := RX12) (T := TX12) (N := 195) hx hb hts hin12 hown hK hP 0 rfl rfl 171 (by decide) (hts (.fieldLink RX12 1160 "IntegerHouseModel" "fractionCount" "I") (List.mem_cons_of_mem _ (List.mem_append_left _ (List.mem_of_getElem? (i := 0) rfl)))) (fun _ h9 => h9) e0 dX12_fraction_5 ?_
  refine lv_iconst (v := 1) hx hb dX12_fraction_8 (by decide) ?_
  refine lv_isub hx hb dX12_fraction_9 ?_
  refine k_topi (y := (-1)) (by decide) ?_
  refine lv_i2l (v := (-1)) hx hb dX12_fraction_10 (by decide) ?_
  refine k_cSi (As := [.long (Int32.toInt64 x0), .long 0, .long (-1)]) (rest := [.ref h0]) (wc := []) (wr := [(h0, .inr (12, f0))]) (w1 := []) ⟨hx, hb, hml, hown, hts⟩ hN hX hAE hK hP hD hS hA [] [0] rfl rfl (by decide +kernel) (by decide +kernel) (by decide +kernel) (c_X12_in_13 l E D cI cJ cB cZ (Int32.toInt64 x0) ((k_n4 (x := x0) (c := 0) (C := 0) (by decide)).mpr e1)) (va_cwS 3 hts gX12_fraction_X12_in rfl rfl rfl (by decide +kernel) ⟨Nat.le_of_ble_eq_true rfl, Nat.le_of_ble_eq_true rfl⟩) rfl hl.1 (Nat.le_of_ble_eq_true rfl) dX12_fraction_11 ⟨Nat.le_of_ble_eq_true rfl, Nat.le_of_ble_eq_true rfl⟩ (fun H locs hP hD hS => ?_)
  have hP : va_P D vwCl [(h0, .inr (12, f0))] H := hP
  have hD : va_D A [(h0, .inr (12, f0))] := hD
  refine lv_if_eq (tgt := 21) hx hb dX12_fraction_14 (by decide) (fun _ => ?_) (fun c9 => absurd (by decide) c9)
  refine lv_iconst (v := 1) hx hb dX12_fraction_21 (by decide) ?_
  refine va_put (D := D) (ref := "IntegerHouseModel") (ci := 12) (v := .int 1) (ty := .int) (C := RX12) (T := TX12) (N := 195) hx hb hts hin12 tyX12 tyX12_ok nmX12 hown hK hP hD hS 0 rfl rfl 0 (by decide) (hts (.fieldLink RX12 3 "IntegerHouseModel" "thrown" "I") (List.mem_cons_of_mem _ (List.mem_append_left _ (List.mem_of_getElem? (i := 1) rfl)))) (fun _ h9 => h9) rfl (by decide +kernel) rfl rfl (k_len e2) dX12_fraction_22 (fun H locs hP hD hS => ?_)
  have hP : va_P D vwCl [(h0, .inr (12, (f0.set 0 (.int 1))))] H := hP
  have hD : va_D A [(h0, .inr (12, (f0.set 0 (.int 1))))] := hD
  refine lv_aload_n hx hb dX12_fraction_25 rfl (lv_at hl 0 rfl) ?_
  refine va_get (D := D) (ref := "IntegerHouseModel") (ci := 12) (v := .int 1) (C := RX12) (T := TX12) (N := 195) hx hb hts hin12 hown hK hP 0 rfl rfl 0 (by decide) (hts (.fieldLink RX12 3 "IntegerHouseModel" "thrown" "I") (List.mem_cons_of_mem _ (List.mem_append_left _ (List.mem_of_getElem? (i := 1) rfl)))) (fun _ h9 => h9) (k_set e2) dX12_fraction_26 ?_
  refine lv_if_le (tgt := 36) hx hb dX12_fraction_29 (by decide) (fun c9 => absurd c9 (by decide)) (fun _ => ?_)
  refine lv_lconst (v := 0) hx hb dX12_fraction_32 (by decide) ?_
  refine lv_goto (tgt := 42) hx hb dX12_fraction_33 (by decide) ?_
  exact W.lret (v := 0) hx hb hr (fun t ht hW => ⟨⟨0, (), rfl, rfl, kB_mk ht hW hP hK hD⟩, hS.F ht⟩) hS.2.2 dX12_fraction_42
set_option maxHeartbeats 400000000 in
set_option maxRecDepth 100000 in
theorem c_X11_search_0 (l : Launch) (E : kE) (D : va_G) (cI cJ cB cZ : ClassId) (h0 : Nat) (x0 : Int32) (x1 : Int32) (f0 : List Value) (h1 : Nat) (f1 : List Value) (h2 : Nat) (f2 : List Value) (h3 : Nat) (h4 : Nat) (f3 : List Value) (h5 : Nat) (f4 : List Value) (h6 : Nat) (h7 : Nat) (h8 : Nat) (h9 : Nat) (h10 : Nat) (g0 : Nat → Int32) (g1 : Nat → Int32) (g2 : Nat → Int32) (g3 : Nat → Int32) (e0 : f0[1]? = some (.ref h1)) (e1 : f1[8]? = some (.int 0)) (e2 : f0[12]? = some (.int 0)) (e3 : ¬ ((x0 : Int32) < 0)) (e4 : (x0 : Int32) < 2) (e5 : ¬ ((x1 : Int32) < 1)) (e6 : (x1 : Int32) < 101) (e7 : f0[2]? = some (.ref h2)) (e8 : f2[11]? = some (.int 0)) (e9 : f0[5]? = some (.ref h3)) (e10 : f0[0]? = some (.ref h4)) (e11 : f3[0]? = some (.ref h5)) (e12 : f4[6]? = some (.ref h6)) (e13 : f4[7]? = some (.int 0)) (e14 : f4[8]? = some (.int 0)) (e15 : f4[5]? = some (.int 0)) (e16 : f4[1]? = some (.ref h7)) (e17 : f4[2]? = some (.ref h8)) (e18 : f3[3]? = some (.int 0)) (e19 : f3[4]? = some (.int 0)) (e20 : f3[5]? = some (.int 0)) (e21 : f3[6]? = some (.int 0)) (e22 : f3[7]? = some (.int 0)) (e23 : f3[8]? = some (.int 0)) (e24 : f3[11]? = some (.int 0)) (e25 : f3[12]? = some (.int 0)) (e26 : f3[13]? = some (.int 0)) (e27 : f3[14]? = some (.int 0)) (e28 : f3[1]? = some (.ref h2)) (e29 : f2[5]? = some (.ref h9)) (e30 : f2[10]? = some (.int 0)) (e31 : f2[3]? = some (.ref h10)) (e32 : f0[13]? = some (.int 0)) : kI l E D (kT cI cJ cB cZ) yX11_search wsX11_search ({ frames := 6, cells := 0, slots := 0, locals := 134 }) [.ref h0, .int x0, .int x1] [(h0, .inr (11, f0)), (h1, .inr (1, f1)), (h2, .inr (2, f2)), (h3, .inr (8, f3)), (h5, .inr (3, f4)), (h7, .inl (cI, 2001, .inl g0)), (h8, .inl (cI, 2001, .inl g1)), (h9, .inl (cI, 260, .inl g2)), (h10, .inl (cI, 13312, .inl g3))] ((-1000)) [(h0, .inr (11, ((f0.set 12 (.int 0)).set 13 (.int 2)))), (h1, .inr (1, f1)), (h2, .inr (2, f2)), (h3, .inr (8, (((((((((((((((((f3.set 3 (.int 0)).set 4 (.int 0)).set 5 (.int 0)).set 6 (.int (-1))).set 6 (.int 0)).set 7 (.int 0)).set 8 (.int 0)).set 11 (.int 25)).set 12 (.int 0)).set 13 (.int 0)).set 14 (.int 0)).set 3 (.int 2)).set 4 (.int 0)).set 7 (.int 44)).set 13 (.int 1)).set 13 (.int 2)).set 7 (.int 44)))), (h5, .inr (3, ((((f4.set 6 (.ref h4)).set 7 (.int 0)).set 8 (.int 0)).set 5 (.int 0)))), (h7, .inl (cI, 2001, .inl (upd g0 0 0))), (h8, .inl (cI, 2001, .inl (upd g1 0 0))), (h9, .inl (cI, 260, .inl (upd (upd (upd g2 259 0) 250 0) 251 2))), (h10, .inl (cI, 13312, .inl (upd (upd g3 12800 43) 12801 43)))] 0 0 := by
  intro sz
  refine Met.ofW (cc := cX11_search) (maxL := 4) (ret := (some .int)) (by decide) rfl ?_
  intro p e s m args below meth c s₁ B hml hv
  obtain ⟨rfl, hsz, hP, hK, hD0, hN, hX⟩ := hv
  have hx := B.exec
  have hb := B.bytes
  have hr := B.returns
  have hts := atoms_spec (ws := wsX11_search) B.pre
  have hown : s.vm.findClass RX11 = some m.cls := findClass_of_methodNamed B.named
  have hlocks := B.notSynchronized
  have hin11 : ∀ w ∈ wsX110, w ∈ wsX11_search := (fun w h => (List.mem_cons_of_mem _ (List.mem_append_left _ (List.mem_append_left _ (List.mem_append_left _ (List.mem_append_left _ (List.mem_append_left _ (List.mem_append_left _ (List.mem_append_left _ (List.mem_append_right _ h))))))))))
  have hin1 : ∀ w ∈ wsX10, w ∈ wsX11_search := (fun w h => (List.mem_cons_of_mem _ (List.mem_append_left _ (List.mem_append_left _ (List.mem_append_left _ (List.mem_append_left _ (List.mem_append_left _ (List.mem_append_left _ (List.mem_append_right _ h)))))))))
  subst hsz
  have hD := hD0.self (sz := s.heap.size)
  have hAE := k_AE hD0 hX
  generalize hAe : va_A [(h0, .inr (11, f0)), (h1, .inr (1, f1)), (h2, .inr (2, f2)), (h3, .inr (8, f3)), (h5, .inr (3, f4)), (h7, .inl (cI, 2001, .inl g0)), (h8, .inl (cI, 2001, .inl g1)), (h9, .inl (cI, 260, .inl g2)), (h10, .inl (cI, 13312, .inl g3))] s.heap.size = A at hD hAE ⊢
  have hA : ∀ q : Nat, s.heap.size ≤ q → A q := fun q h => by rw [← hAe]; exact Or.inr h
  have hS : va_S A s.heap s.heap [] := va_S.rf
  have hP : va_P D vwCl [(h0, .inr (11, f0)), (h1, .inr (1, f1)), (h2, .inr (2, f2)), (h3, .inr (8, f3)), (h5, .inr (3, f4)), (h7, .inl (cI, 2001, .inl g0)), (h8, .inl (cI, 2001, .inl g1)), (h9, .inl (cI, 260, .inl g2)), (h10, .inl (cI, 13312, .inl g3))] s.heap := hP
  have hl := lv_entry ([.ref h0, .int x0, .int x1] : List Value) (n := 4) (Nat.le_of_ble_eq_true rfl)
  rw [lg_entry_eq]
  generalize (lg_sl ([.ref h0, .int x0, .int x1]) ++ List.replicate (4 - (lg_sl ([.ref h0, .int x0, .int x1])).length) Slot.unset).toArray = ls at hl ⊢
  have hl : lv_has ls 4 [(0, .ref h0), (1, .int x0), (2, .int x1)] := hl
  refine lv_aload_n hx hb dX11_search_0 rfl (lv_at hl 0 rfl) ?_
  refine va_get (D := D) (ref := "IntegerHouse") (ci := 11) (v := .ref h1) (C := RX11) (T := TX11) (N := 15) hx hb hts hin11 hown hK hP 0 rfl rfl 1 (by decide) (hts (.fieldLink RX11 16 "IntegerHouse" "disk" "LIntegerHouse$Disk;") (List.mem_cons_of_mem _ (List.mem_append_left _ (List.mem_append_left _ (List.mem_append_left _ (List.mem_append_left _ (List.mem_append_left _ (List.mem_append_left _ (List.mem_append_left _ (List.mem_append_left _ (List.mem_append_left _ (List.mem_of_getElem? (i := 0) rfl)))))))))))) (fun _ h9 => h9) e0 dX11_search_1 ?_
  refine va_getN (host := "IntegerHouse") (D := D) (ref := "IntegerHouse$Disk") (ci := 1) (v := .int 0) (C := RX1) (T := TX1) (N := 9) hx hb hts hin1 hown hK hP 1 rfl rfl 8 (by decide) (va_Nw.use rfl (hN.1 ("IntegerHouse", 122, "IntegerHouse$Disk", "down", "Z", "IntegerHouse") (List.mem_of_getElem? (i := 3) rfl))) (fun _ h9 => h9) e1 dX11_search_4 ?_
  refine lv_if_eq (tgt := 13) hx hb dX11_search_7 (by decide) (fun _ => ?_) (fun c9 => absurd (by decide) c9)
  refine lv_aload_n hx hb dX11_search_13 rfl (lv_at hl 0 rfl) ?_
  refine k_cVi (As := []) (rest := []) (wc := [(h0, .inr (11, f0))]) (wr := [(h1, .inr (1, f1)), (h2, .inr (2, f2)), (h3, .inr (8, f3)), (h5, .inr (3, f4)), (h7, .inl (cI, 2001, .inl g0)), (h8, .inl (cI, 2001, .inl g1)), (h9, .inl (cI, 260, .inl g2)), (h10, .inl (cI, 13312, .inl g3))]) (w1 := [(h0, .inr (11, (f0.set 12 (.int 0))))]) ⟨hx, hb, hml, hown, hts⟩ hN hX hAE hK hP hD hS hA [0] [1, 2, 3, 4, 5, 6, 7, 8] (ci := 11) rfl rfl rfl rfl (by decide +kernel) (by decide +kernel) (by decide +kernel) (c_X11_useTape_0 l E D cI cJ cB cZ h0 f0 e2) (cwV 0 hts gX11_search_X11_useTape rfl rfl rfl (by decide +kernel) ⟨Nat.le_of_ble_eq_true rfl, Nat.le_of_ble_eq_true rfl⟩) rfl hl.1 (Nat.le_of_ble_eq_true rfl) dX11_search_14 ⟨Nat.le_of_ble_eq_true rfl, Nat.le_of_ble_eq_true rfl⟩ (fun H locs hP hD hS => ?_)
  have hP : va_P D vwCl [(h1, .inr (1, f1)), (h2, .inr (2, f2)), (h3, .inr (8, f3)), (h5, .inr (3, f4)), (h7, .inl (cI, 2001, .inl g0)), (h8, .inl (cI, 2001, .inl g1)), (h9, .inl (cI, 260, .inl g2)), (h10, .inl (cI, 13312, .inl g3)), (h0, .inr (11, (f0.set 12 (.int 0))))] H := hP
  have hD : va_D A [(h1, .inr (1, f1)), (h2, .inr (2, f2)), (h3, .inr (8, f3)), (h5, .inr (3, f4)), (h7, .inl (cI, 2001, .inl g0)), (h8, .inl (cI, 2001, .inl g1)), (h9, .inl (cI, 260, .inl g2)), (h10, .inl (cI, 13312, .inl g3)), (h0, .inr (11, (f0.set 12 (.int 0))))] := hD
  refine lv_istore_n (lv' := [(3, .int 0), (0, .ref h0), (1, .int x0), (2, .int x1)]) hx hb dX11_search_17 rfl hl (by decide) rfl (fun ls hl => ?_)
  refine lv_iload_n hx hb dX11_search_18 rfl (lv_at hl 2 rfl) ?_
  refine lv_if_lt (tgt := 38) hx hb dX11_search_19 (by decide) (fun c9 => absurd c9 e3) (fun _ => ?_)
  refine lv_iload_n hx hb dX11_search_22 rfl (lv_at hl 2 rfl) ?_
  refine lv_iconst (v := 1) hx hb dX11_search_23 (by decide) ?_
  refine lv_icmp_gt (tgt := 38) hx hb dX11_search_24 (by decide) (fun c9 => absurd c9 (fun z9 => (k_n3 (x := x0) (c := 1) (d := 2) (by decide)).mp z9 e4)) (fun _ => ?_)
  refine lv_iload_n hx hb dX11_search_27 rfl (lv_at hl 3 rfl) ?_
  refine lv_iconst (v := 1) hx hb dX11_search_28 (by decide) ?_
  refine lv_icmp_lt (tgt := 38) hx hb dX11_search_29 (by decide) (fun c9 => absurd c9 e5) (fun _ => ?_)
  refine lv_iload_n hx hb dX11_search_32 rfl (lv_at hl 3 rfl) ?_
  refine lv_bipush (v := 100) hx hb dX11_search_33 (by decide) ?_
  refine lv_icmp_le (tgt := 41) hx hb dX11_search_35 (by decide) (fun _ => ?_) (fun c9 => absurd ((k_n1 (x := x1) (c := 100) (d := 101) (by decide)).mpr e6) c9)
  refine lv_aload_n hx hb dX11_search_41 rfl (lv_at hl 1 rfl) ?_
  refine va_get (D := D) (ref := "IntegerHouse") (ci := 11) (v := .ref h2) (C := RX11) (T := TX11) (N := 15) hx hb hts hin11 hown hK hP 8 rfl rfl 2 (by decide) (hts (.fieldLink RX11 23 "IntegerHouse" "house" "LIntegerHouse$House;") (List.mem_cons_of_mem _ (List.mem_append_left _ (List.mem_append_left _ (List.mem_append_left _ (List.mem_append_left _ (List.mem_append_left _ (List.mem_append_left _ (List.mem_append_left _ (List.mem_append_left _ (List.mem_append_left _ (List.mem_of_getElem? (i := 1) rfl)))))))))))) (fun _ h9 => h9) (k_ne (by decide) e7) dX11_search_42 ?_
  refine k_cVi (As := []) (rest := []) (wc := [(h2, .inr (2, f2))]) (wr := [(h1, .inr (1, f1)), (h3, .inr (8, f3)), (h5, .inr (3, f4)), (h7, .inl (cI, 2001, .inl g0)), (h8, .inl (cI, 2001, .inl g1)), (h9, .inl (cI, 260, .inl g2)), (h10, .inl (cI, 13312, .inl g3)), (h0, .inr (11, (f0.set 12 (.int 0))))]) (w1 := [(h2, .inr (2, f2))]) ⟨hx, hb, hml, hown, hts⟩ hN hX hAE hK hP hD hS hA [1] [0, 2, 3, 4, 5, 6, 7, 8] (ci := 2) rfl rfl rfl rfl (by decide +kernel) (by decide +kernel) (by decide +kernel) (c_X2_allPlain_0 l E D cI cJ cB cZ h2 f2 e8) (cwV 0 hts gX11_search_X2_allPlain rfl rfl rfl (by decide +kernel) ⟨Nat.le_of_ble_eq_true rfl, Nat.le_of_ble_eq_true rfl⟩) rfl hl.1 (Nat.le_of_ble_eq_true rfl) dX11_search_45 ⟨Nat.le_of_ble_eq_true rfl, Nat.le_of_ble_eq_true rfl⟩ (fun H locs hP hD hS => ?_)
  have hP : va_P D vwCl [(h1, .inr (1, f1)), (h3, .inr (8, f3)), (h5, .inr (3, f4)), (h7, .inl (cI, 2001, .inl g0)), (h8, .inl (cI, 2001, .inl g1)), (h9, .inl (cI, 260, .inl g2)), (h10, .inl (cI, 13312, .inl g3)), (h0, .inr (11, (f0.set 12 (.int 0)))), (h2, .inr (2, f2))] H := hP
  have hD : va_D A [(h1, .inr (1, f1)), (h3, .inr (8, f3)), (h5, .inr (3, f4)), (h7, .inl (cI, 2001, .inl g0)), (h8, .inl (cI, 2001, .inl g1)), (h9, .inl (cI, 260, .inl g2)), (h10, .inl (cI, 13312, .inl g3)), (h0, .inr (11, (f0.set 12 (.int 0)))), (h2, .inr (2, f2))] := hD
  refine lv_if_ne (tgt := 54) hx hb dX11_search_48 (by decide) (fun _ => ?_) (fun c9 => absurd c9 (by decide))
  refine lv_aload_n hx hb dX11_search_54 rfl (lv_at hl 1 rfl) ?_
  refine va_get (D := D) (ref := "IntegerHouse") (ci := 11) (v := .ref h3) (C := RX11) (T := TX11) (N := 15) hx hb hts hin11 hown hK hP 7 rfl rfl 5 (by decide) (hts (.fieldLink RX11 48 "IntegerHouse" "reader" "LIntegerHouse$Reader;") (List.mem_cons_of_mem _ (List.mem_append_left _ (List.mem_append_left _ (List.mem_append_left _ (List.mem_append_left _ (List.mem_append_left _ (List.mem_append_left _ (List.mem_append_left _ (List.mem_append_left _ (List.mem_append_left _ (List.mem_of_getElem? (i := 2) rfl)))))))))))) (fun _ h9 => h9) (k_ne (by decide) e9) dX11_search_55 ?_
  refine lv_aload_n hx hb dX11_search_58 rfl (lv_at hl 1 rfl) ?_
  refine va_get (D := D) (ref := "IntegerHouse") (ci := 11) (v := .ref h4) (C := RX11) (T := TX11) (N := 15) hx hb hts hin11 hown hK hP 7 rfl rfl 0 (by decide) (hts (.fieldLink RX11 9 "IntegerHouse" "tape" "[B") (List.mem_cons_of_mem _ (List.mem_append_left _ (List.mem_append_left _ (List.mem_append_left _ (List.mem_append_left _ (List.mem_append_left _ (List.mem_append_left _ (List.mem_append_left _ (List.mem_append_left _ (List.mem_append_left _ (List.mem_of_getElem? (i := 3) rfl)))))))))))) (fun _ h9 => h9) (k_ne (by decide) e10) dX11_search_59 ?_
  refine lv_iload_n hx hb dX11_search_62 rfl (lv_at hl 0 rfl) ?_
  refine k_cVi (As := [.ref h4, .int 0]) (rest := []) (wc := [(h3, .inr (8, f3)), (h5, .inr (3, f4)), (h7, .inl (cI, 2001, .inl g0)), (h8, .inl (cI, 2001, .inl g1)), (h2, .inr (2, f2)), (h9, .inl (cI, 260, .inl g2)), (h10, .inl (cI, 13312, .inl g3))]) (wr := [(h1, .inr (1, f1)), (h0, .inr (11, (f0.set 12 (.int 0))))]) (w1 := [(h3, .inr (8, (((((((((((((((((f3.set 3 (.int 0)).set 4 (.int 0)).set 5 (.int 0)).set 6 (.int (-1))).set 6 (.int 0)).set 7 (.int 0)).set 8 (.int 0)).set 11 (.int 25)).set 12 (.int 0)).set 13 (.int 0)).set 14 (.int 0)).set 3 (.int 2)).set 4 (.int 0)).set 7 (.int 44)).set 13 (.int 1)).set 13 (.int 2)).set 7 (.int 44)))), (h5, .inr (3, ((((f4.set 6 (.ref h4)).set 7 (.int 0)).set 8 (.int 0)).set 5 (.int 0)))), (h7, .inl (cI, 2001, .inl (upd g0 0 0))), (h8, .inl (cI, 2001, .inl (upd g1 0 0))), (h2, .inr (2, f2)), (h9, .inl (cI, 260, .inl (upd (upd (upd g2 259 0) 250 0) 251 2))), (h10, .inl (cI, 13312, .inl (upd (upd g3 12800 43) 12801 43)))]) ⟨hx, hb, hml, hown, hts⟩ hN hX hAE hK hP hD hS hA [1, 2, 3, 4, 8, 5, 6] [0, 7] (ci := 8) rfl rfl rfl rfl (by decide +kernel) (by decide +kernel) (by decide +kernel) (c_X8_readTerm_0 l E D cI cJ cB cZ h3 h4 f3 h5 f4 h6 h7 h8 g0 g1 h2 f2 h9 h10 g2 g3 e11 e12 e13 e14 e15 e16 e17 e18 e19 e20 e21 e22 e23 e24 e25 e26 e27 e28 e29 e30 e31) (cwV 2 hts gX11_search_X8_readTerm rfl rfl rfl (by decide +kernel) ⟨Nat.le_of_ble_eq_true rfl, Nat.le_of_ble_eq_true rfl⟩) rfl hl.1 (Nat.le_of_ble_eq_true rfl) dX11_search_63 ⟨Nat.le_of_ble_eq_true rfl, Nat.le_of_ble_eq_true rfl⟩ (fun H locs hP hD hS => ?_)
  have hP : va_P D vwCl [(h1, .inr (1, f1)), (h0, .inr (11, (f0.set 12 (.int 0)))), (h3, .inr (8, (((((((((((((((((f3.set 3 (.int 0)).set 4 (.int 0)).set 5 (.int 0)).set 6 (.int (-1))).set 6 (.int 0)).set 7 (.int 0)).set 8 (.int 0)).set 11 (.int 25)).set 12 (.int 0)).set 13 (.int 0)).set 14 (.int 0)).set 3 (.int 2)).set 4 (.int 0)).set 7 (.int 44)).set 13 (.int 1)).set 13 (.int 2)).set 7 (.int 44)))), (h5, .inr (3, ((((f4.set 6 (.ref h4)).set 7 (.int 0)).set 8 (.int 0)).set 5 (.int 0)))), (h7, .inl (cI, 2001, .inl (upd g0 0 0))), (h8, .inl (cI, 2001, .inl (upd g1 0 0))), (h2, .inr (2, f2)), (h9, .inl (cI, 260, .inl (upd (upd (upd g2 259 0) 250 0) 251 2))), (h10, .inl (cI, 13312, .inl (upd (upd g3 12800 43) 12801 43)))] H := hP
  have hD : va_D A [(h1, .inr (1, f1)), (h0, .inr (11, (f0.set 12 (.int 0)))), (h3, .inr (8, (((((((((((((((((f3.set 3 (.int 0)).set 4 (.int 0)).set 5 (.int 0)).set 6 (.int (-1))).set 6 (.int 0)).set 7 (.int 0)).set 8 (.int 0)).set 11 (.int 25)).set 12 (.int 0)).set 13 (.int 0)).set 14 (.int 0)).set 3 (.int 2)).set 4 (.int 0)).set 7 (.int 44)).set 13 (.int 1)).set 13 (.int 2)).set 7 (.int 44)))), (h5, .inr (3, ((((f4.set 6 (.ref h4)).set 7 (.int 0)).set 8 (.int 0)).set 5 (.int 0)))), (h7, .inl (cI, 2001, .inl (upd g0 0 0))), (h8, .inl (cI, 2001, .inl (upd g1 0 0))), (h2, .inr (2, f2)), (h9, .inl (cI, 260, .inl (upd (upd (upd g2 259 0) 250 0) 251 2))), (h10, .inl (cI, 13312, .inl (upd (upd g3 12800 43) 12801 43)))] := hD
  refine lv_if_ne (tgt := 74) hx hb dX11_search_66 (by decide) (fun c9 => absurd (by decide) c9) (fun _ => ?_)
  refine lv_aload_n hx hb dX11_search_69 rfl (lv_at hl 1 rfl) ?_
  refine k_cVi (As := []) (rest := []) (wc := [(h0, .inr (11, (f0.set 12 (.int 0)))), (h3, .inr (8, (((((((((((((((((f3.set 3 (.int 0)).set 4 (.int 0)).set 5 (.int 0)).set 6 (.int (-1))).set 6 (.int 0)).set 7 (.int 0)).set 8 (.int 0)).set 11 (.int 25)).set 12 (.int 0)).set 13 (.int 0)).set 14 (.int 0)).set 3 (.int 2)).set 4 (.int 0)).set 7 (.int 44)).set 13 (.int 1)).set 13 (.int 2)).set 7 (.int 44))))]) (wr := [(h1, .inr (1, f1)), (h5, .inr (3, ((((f4.set 6 (.ref h4)).set 7 (.int 0)).set 8 (.int 0)).set 5 (.int 0)))), (h7, .inl (cI, 2001, .inl (upd g0 0 0))), (h8, .inl (cI, 2001, .inl (upd g1 0 0))), (h2, .inr (2, f2)), (h9, .inl (cI, 260, .inl (upd (upd (upd g2 259 0) 250 0) 251 2))), (h10, .inl (cI, 13312, .inl (upd (upd g3 12800 43) 12801 43)))]) (w1 := [(h0, .inr (11, ((f0.set 12 (.int 0)).set 13 (.int 2)))), (h3, .inr (8, (((((((((((((((((f3.set 3 (.int 0)).set 4 (.int 0)).set 5 (.int 0)).set 6 (.int (-1))).set 6 (.int 0)).set 7 (.int 0)).set 8 (.int 0)).set 11 (.int 25)).set 12 (.int 0)).set 13 (.int 0)).set 14 (.int 0)).set 3 (.int 2)).set 4 (.int 0)).set 7 (.int 44)).set 13 (.int 1)).set 13 (.int 2)).set 7 (.int 44))))]) ⟨hx, hb, hml, hown, hts⟩ hN hX hAE hK hP hD hS hA [1, 2] [0, 3, 4, 5, 6, 7, 8] (ci := 11) rfl rfl rfl rfl (by decide +kernel) (by decide +kernel) (by decide +kernel) (c_X11_faulted_0 l E D cI cJ cB cZ h0 ((f0.set 12 (.int 0))) h3 ((((((((((((((((((f3.set 3 (.int 0)).set 4 (.int 0)).set 5 (.int 0)).set 6 (.int (-1))).set 6 (.int 0)).set 7 (.int 0)).set 8 (.int 0)).set 11 (.int 25)).set 12 (.int 0)).set 13 (.int 0)).set 14 (.int 0)).set 3 (.int 2)).set 4 (.int 0)).set 7 (.int 44)).set 13 (.int 1)).set 13 (.int 2)).set 7 (.int 44))) (k_ne (by decide) e9) (k_ne (by decide) (k_ne (by decide) (k_ne (by decide) (k_ne (by decide) (k_ne (by decide) (k_set (k_ne (by decide) (k_ne (by decide) (k_ne (by decide) (k_ne (by decide) (k_ne (by decide) (k_ne (by decide) (k_ne (by decide) (k_ne (by decide) (k_ne (by decide) (k_ne (by decide) (k_set e18))))))))))))))))) (k_ne (by decide) e32) (k_ne (by decide) (k_ne (by decide) (k_ne (by decide) (k_ne (by decide) (k_set (k_ne (by decide) (k_ne (by decide) (k_ne (by decide) (k_ne (by decide) (k_ne (by decide) (k_ne (by decide) (k_ne (by decide) (k_ne (by decide) (k_ne (by decide) (k_ne (by decide) (k_set (k_ne (by decide) e19)))))))))))))))))) (cwV 0 hts gX11_search_X11_faulted rfl rfl rfl (by decide +kernel) ⟨Nat.le_of_ble_eq_true rfl, Nat.le_of_ble_eq_true rfl⟩) rfl hl.1 (Nat.le_of_ble_eq_true rfl) dX11_search_70 ⟨Nat.le_of_ble_eq_true rfl, Nat.le_of_ble_eq_true rfl⟩ (fun H locs hP hD hS => ?_)
  have hP : va_P D vwCl [(h1, .inr (1, f1)), (h5, .inr (3, ((((f4.set 6 (.ref h4)).set 7 (.int 0)).set 8 (.int 0)).set 5 (.int 0)))), (h7, .inl (cI, 2001, .inl (upd g0 0 0))), (h8, .inl (cI, 2001, .inl (upd g1 0 0))), (h2, .inr (2, f2)), (h9, .inl (cI, 260, .inl (upd (upd (upd g2 259 0) 250 0) 251 2))), (h10, .inl (cI, 13312, .inl (upd (upd g3 12800 43) 12801 43))), (h0, .inr (11, ((f0.set 12 (.int 0)).set 13 (.int 2)))), (h3, .inr (8, (((((((((((((((((f3.set 3 (.int 0)).set 4 (.int 0)).set 5 (.int 0)).set 6 (.int (-1))).set 6 (.int 0)).set 7 (.int 0)).set 8 (.int 0)).set 11 (.int 25)).set 12 (.int 0)).set 13 (.int 0)).set 14 (.int 0)).set 3 (.int 2)).set 4 (.int 0)).set 7 (.int 44)).set 13 (.int 1)).set 13 (.int 2)).set 7 (.int 44))))] H := hP
  have hD : va_D A [(h1, .inr (1, f1)), (h5, .inr (3, ((((f4.set 6 (.ref h4)).set 7 (.int 0)).set 8 (.int 0)).set 5 (.int 0)))), (h7, .inl (cI, 2001, .inl (upd g0 0 0))), (h8, .inl (cI, 2001, .inl (upd g1 0 0))), (h2, .inr (2, f2)), (h9, .inl (cI, 260, .inl (upd (upd (upd g2 259 0) 250 0) 251 2))), (h10, .inl (cI, 13312, .inl (upd (upd g3 12800 43) 12801 43))), (h0, .inr (11, ((f0.set 12 (.int 0)).set 13 (.int 2)))), (h3, .inr (8, (((((((((((((((((f3.set 3 (.int 0)).set 4 (.int 0)).set 5 (.int 0)).set 6 (.int (-1))).set 6 (.int 0)).set 7 (.int 0)).set 8 (.int 0)).set 11 (.int 25)).set 12 (.int 0)).set 13 (.int 0)).set 14 (.int 0)).set 3 (.int 2)).set 4 (.int 0)).set 7 (.int 44)).set 13 (.int 1)).set 13 (.int 2)).set 7 (.int 44))))] := hD
  have hP := hP.sub (ws' := [(h0, .inr (11, ((f0.set 12 (.int 0)).set 13 (.int 2)))), (h1, .inr (1, f1)), (h2, .inr (2, f2)), (h3, .inr (8, (((((((((((((((((f3.set 3 (.int 0)).set 4 (.int 0)).set 5 (.int 0)).set 6 (.int (-1))).set 6 (.int 0)).set 7 (.int 0)).set 8 (.int 0)).set 11 (.int 25)).set 12 (.int 0)).set 13 (.int 0)).set 14 (.int 0)).set 3 (.int 2)).set 4 (.int 0)).set 7 (.int 44)).set 13 (.int 1)).set 13 (.int 2)).set 7 (.int 44)))), (h5, .inr (3, ((((f4.set 6 (.ref h4)).set 7 (.int 0)).set 8 (.int 0)).set 5 (.int 0)))), (h7, .inl (cI, 2001, .inl (upd g0 0 0))), (h8, .inl (cI, 2001, .inl (upd g1 0 0))), (h9, .inl (cI, 260, .inl (upd (upd (upd g2 259 0) 250 0) 251 2))), (h10, .inl (cI, 13312, .inl (upd (upd g3 12800 43) 12801 43)))]) [7, 0, 4, 8, 1, 2, 3, 5, 6] rfl
  have hD := hD.sub (ws' := [(h0, .inr (11, ((f0.set 12 (.int 0)).set 13 (.int 2)))), (h1, .inr (1, f1)), (h2, .inr (2, f2)), (h3, .inr (8, (((((((((((((((((f3.set 3 (.int 0)).set 4 (.int 0)).set 5 (.int 0)).set 6 (.int (-1))).set 6 (.int 0)).set 7 (.int 0)).set 8 (.int 0)).set 11 (.int 25)).set 12 (.int 0)).set 13 (.int 0)).set 14 (.int 0)).set 3 (.int 2)).set 4 (.int 0)).set 7 (.int 44)).set 13 (.int 1)).set 13 (.int 2)).set 7 (.int 44)))), (h5, .inr (3, ((((f4.set 6 (.ref h4)).set 7 (.int 0)).set 8 (.int 0)).set 5 (.int 0)))), (h7, .inl (cI, 2001, .inl (upd g0 0 0))), (h8, .inl (cI, 2001, .inl (upd g1 0 0))), (h9, .inl (cI, 260, .inl (upd (upd (upd g2 259 0) 250 0) 251 2))), (h10, .inl (cI, 13312, .inl (upd (upd g3 12800 43) 12801 43)))]) [7, 0, 4, 8, 1, 2, 3, 5, 6] (by decide +kernel) rfl
  exact W.iret (v := (-1000)) hx hb hr (fun t ht hW => ⟨⟨(-1000), (), rfl, rfl, kB_mk ht hW hP hK hD⟩, hS.F ht⟩) hS.2.2 dX11_search_73
set_option maxHeartbeats 400000000 in
set_option maxRecDepth 100000 in
theorem c_X12_in_14 (l : Launch) (E : kE) (D : va_G) (cI cJ cB cZ : ClassId) (y0 : Int64) (e0 : ¬ (((lg_cmp y0 0) : Int32) < 0)) (e1 : ¬ ((0 : Int32) < (lg_cmp y0 1))) : kI l E D (kT cI cJ cB cZ) yX12_in wsX12_in ({ frames := 0, cells := 0, slots := 0, locals := 0 }) [.long y0, .long 0, .long 1] [] (1) [] 0 0 := by
  intro sz
  refine Met.ofW (cc := cX12_in) (maxL := 6) (ret := (some .boolean)) (by decide) rfl ?_
  intro p e s m args below meth c s₁ B hml hv
  obtain ⟨rfl, hsz, hP, hK, hD0, hN, hX⟩ := hv
  have hx := B.exec
  have hb := B.bytes
  have hr := B.returns
  have hts := atoms_spec (ws := wsX12_in) B.pre
  have hown : s.vm.findClass RX12 = some m.cls := findClass_of_methodNamed B.named
  have hlocks := B.notSynchronized
  subst hsz
  have hD := hD0.self (sz := s.heap.size)
  have hAE := k_AE hD0 hX
  generalize hAe : va_A [] s.heap.size = A at hD hAE ⊢
  have hA : ∀ q : Nat, s.heap.size ≤ q → A q := fun q h => by rw [← hAe]; exact Or.inr h
  have hS : va_S A s.heap s.heap [] := va_S.rf
  have hP : va_P D vwCl [] s.heap := hP
  have hl := lv_entry ([.long y0, .long 0, .long 1] : List Value) (n := 6) (Nat.le_of_ble_eq_true rfl)
  rw [lg_entry_eq]
  generalize (lg_sl ([.long y0, .long 0, .long 1]) ++ List.replicate (6 - (lg_sl ([.long y0, .long 0, .long 1])).length) Slot.unset).toArray = ls at hl ⊢
  have hl : lv_has ls 6 [(0, .long y0), (2, .long 0), (4, .long 1)] := hl
  refine lv_lload_n hx hb dX12_in_0 rfl (lv_at hl 0 rfl) ?_
  refine lv_lload_n hx hb dX12_in_1 rfl (lv_at hl 1 rfl) ?_
  refine W.lcmp hx hb dX12_in_2 ?_
  refine lv_if_lt (tgt := 17) hx hb dX12_in_3 (by decide) (fun c9 => absurd c9 e0) (fun _ => ?_)
  refine lv_lload_n hx hb dX12_in_6 rfl (lv_at hl 0 rfl) ?_
  refine lv_lload hx hb dX12_in_7 (lv_at hl 2 rfl) ?_
  refine W.lcmp hx hb dX12_in_9 ?_
  refine lv_if_gt (tgt := 17) hx hb dX12_in_10 (by decide) (fun c9 => absurd c9 e1) (fun _ => ?_)
  refine lv_iconst (v := 1) hx hb dX12_in_13 (by decide) ?_
  refine lv_goto (tgt := 18) hx hb dX12_in_14 (by decide) ?_
  exact W.zret (v := 1) hx hb hr rfl (fun t ht hW => ⟨⟨1, (), rfl, rfl, kB_mk ht hW hP hK hD⟩, hS.F ht⟩) hS.2.2 dX12_in_18
set_option maxHeartbeats 400000000 in
set_option maxRecDepth 100000 in
theorem c_X12_search_0 (l : Launch) (E : kE) (D : va_G) (cI cJ cB cZ : ClassId) (h0 : Nat) (x0 : Int32) (x1 : Int32) (f0 : List Value) (h1 : Nat) (h2 : Nat) (h3 : Nat) (h4 : Nat) (g0 : Nat → Int32) (g1 : Nat → Int32) (g2 : Nat → Int32) (g3 : Nat → Int32) (h5 : Nat) (h6 : Nat) (h7 : Nat) (h8 : Nat) (h9 : Nat) (h10 : Nat) (h11 : Nat) (h12 : Nat) (h13 : Nat) (h14 : Nat) (g4 : Nat → Int32) (g5 : Nat → Int32) (g6 : Nat → Int32) (g7 : Nat → Int32) (g8 : Nat → Int32) (g9 : Nat → Int32) (g10 : Nat → Int32) (g11 : Nat → Int32) (g12 : Nat → Int64) (g13 : Nat → Int32) (e0 : f0[0]? = some (.int 0)) (e1 : f0[5]? = some (.int 0)) (e2 : f0[2]? = some (.int 0)) (e3 : f0[12]? = some (.int 0)) (e4 : f0[32]? = some (.int 0)) (e5 : f0[36]? = some (.int 0)) (e6 : f0[33]? = some (.int 0)) (e7 : f0[37]? = some (.int 0)) (e8 : f0[27]? = some (.int 0)) (e9 : f0[31]? = some (.int 0)) (e10 : f0[28]? = some (.int 0)) (e11 : f0[23]? = some (.ref h1)) (e12 : f0[24]? = some (.ref h2)) (e13 : f0[25]? = some (.ref h3)) (e14 : f0[26]? = some (.ref h4)) (e15 : ¬ ((x0 : Int32) < 0)) (e16 : (x0 : Int32) < 2) (e17 : ¬ ((x1 : Int32) < 1)) (e18 : (x1 : Int32) < 101) (e19 : f0[66]? = some (.int 0)) (e20 : f0[67]? = some (.int 0)) (e21 : f0[40]? = some (.ref h5)) (e22 : f0[45]? = some (.ref h6)) (e23 : f0[56]? = some (.ref h7)) (e24 : f0[60]? = some (.ref h8)) (e25 : f0[65]? = some (.ref h9)) (e26 : f0[76]? = some (.int 0)) (e27 : f0[83]? = some (.int 0)) (e28 : f0[77]? = some (.ref h10)) (e29 : f0[78]? = some (.ref h11)) (e30 : f0[80]? = some (.ref h12)) (e31 : f0[81]? = some (.ref h13)) (e32 : f0[82]? = some (.ref h14)) (e33 : f0[84]? = some (.int 0)) (e34 : f0[29]? = some (.int 0)) (e35 : f0[30]? = some (.int 0)) (e36 : f0[85]? = some (.int 0)) (e37 : f0[13]? = some (.int 0)) (e38 : f0[109]? = some (.int 0)) : kI l E D (kT cI cJ cB cZ) yX12_search wsX12_search ({ frames := 6, cells := 0, slots := 0, locals := 125 }) [.ref h0, .int x0, .int x1] [(h0, .inr (12, f0)), (h1, .inl (cI, 2001, .inl g0)), (h2, .inl (cI, 2001, .inl g1)), (h3, .inl (cI, 2001, .inl g2)), (h4, .inl (cI, 2001, .inl g3)), (h5, .inl (cI, 26, .inl g4)), (h6, .inl (cI, 26, .inl g5)), (h7, .inl (cI, 26, .inl g6)), (h8, .inl (cI, 26, .inl g7)), (h9, .inl (cI, 26, .inl g8)), (h10, .inl (cI, 16, .inl g9)), (h11, .inl (cI, 16, .inl g10)), (h12, .inl (cI, 16, .inl g11)), (h13, .inl (cJ, 16, .inr (.inl g12))), (h14, .inl (cI, 16, .inl g13))] ((-1000)) [(h0, .inr (12, ((((((((((((((((((((f0.set 0 (.int 0)).set 12 (.int 0)).set 2 (.int 0)).set 36 (.int 0)).set 37 (.int 0)).set 27 (.int 0)).set 31 (.int 0)).set 28 (.int 0)).set 66 (.int 25)).set 67 (.int 0)).set 76 (.int (-1))).set 83 (.int (-1))).set 83 (.int 0)).set 84 (.int 3)).set 84 (.int 4)).set 84 (.int 5)).set 31 (.int 1)).set 29 (.int 2)).set 30 (.int 0)).set 109 (.int 2)))), (h1, .inl (cI, 2001, .inl (upd g0 0 0))), (h2, .inl (cI, 2001, .inl (upd g1 0 0))), (h3, .inl (cI, 2001, .inl (upd g2 0 0))), (h4, .inl (cI, 2001, .inl (upd g3 0 0))), (h5, .inl (cI, 26, .inl (upd g4 25 0))), (h6, .inl (cI, 26, .inl (upd g5 25 0))), (h7, .inl (cI, 26, .inl (upd g6 25 0))), (h8, .inl (cI, 26, .inl (upd g7 25 0))), (h9, .inl (cI, 26, .inl (upd g8 25 0))), (h10, .inl (cI, 16, .inl (upd g9 0 33))), (h11, .inl (cI, 16, .inl (upd g10 0 (-1)))), (h12, .inl (cI, 16, .inl (upd (upd g11 0 1) 0 1))), (h13, .inl (cJ, 16, .inr (.inl (vp_updL (vp_updL g12 0 1) 0 1)))), (h14, .inl (cI, 16, .inl (upd g13 0 (-1))))] 0 0 := by
  intro sz
  refine Met.ofW (cc := cX12_search) (maxL := 4) (ret := (some .int)) (by decide) rfl ?_
  intro p e s m args below meth c s₁ B hml hv
  obtain ⟨rfl, hsz, hP, hK, hD0, hN, hX⟩ := hv
  have hx := B.exec
  have hb := B.bytes
  have hr := B.returns
  have hts := atoms_spec (ws := wsX12_search) B.pre
  have hown : s.vm.findClass RX12 = some m.cls := findClass_of_methodNamed B.named
  have hlocks := B.notSynchronized
  subst hsz
  have hD := hD0.self (sz := s.heap.size)
  have hAE := k_AE hD0 hX
  generalize hAe : va_A [(h0, .inr (12, f0)), (h1, .inl (cI, 2001, .inl g0)), (h2, .inl (cI, 2001, .inl g1)), (h3, .inl (cI, 2001, .inl g2)), (h4, .inl (cI, 2001, .inl g3)), (h5, .inl (cI, 26, .inl g4)), (h6, .inl (cI, 26, .inl g5)), (h7, .inl (cI, 26, .inl g6)), (h8, .inl (cI, 26, .inl g7)), (h9, .inl (cI, 26, .inl g8)), (h10, .inl (cI, 16, .inl g9)), (h11, .inl (cI, 16, .inl g10)), (h12, .inl (cI, 16, .inl g11)), (h13, .inl (cJ, 16, .inr (.inl g12))), (h14, .inl (cI, 16, .inl g13))] s.heap.size = A at hD hAE ⊢
  have hA : ∀ q : Nat, s.heap.size ≤ q → A q := fun q h => by rw [← hAe]; exact Or.inr h
  have hS : va_S A s.heap s.heap [] := va_S.rf
  have hP : va_P D vwCl [(h0, .inr (12, f0)), (h1, .inl (cI, 2001, .inl g0)), (h2, .inl (cI, 2001, .inl g1)), (h3, .inl (cI, 2001, .inl g2)), (h4, .inl (cI, 2001, .inl g3)), (h5, .inl (cI, 26, .inl g4)), (h6, .inl (cI, 26, .inl g5)), (h7, .inl (cI, 26, .inl g6)), (h8, .inl (cI, 26, .inl g7)), (h9, .inl (cI, 26, .inl g8)), (h10, .inl (cI, 16, .inl g9)), (h11, .inl (cI, 16, .inl g10)), (h12, .inl (cI, 16, .inl g11)), (h13, .inl (cJ, 16, .inr (.inl g12))), (h14, .inl (cI, 16, .inl g13))] s.heap := hP
  have hl := lv_entry ([.ref h0, .int x0, .int x1] : List Value) (n := 4) (Nat.le_of_ble_eq_true rfl)
  rw [lg_entry_eq]
  generalize (lg_sl ([.ref h0, .int x0, .int x1]) ++ List.replicate (4 - (lg_sl ([.ref h0, .int x0, .int x1])).length) Slot.unset).toArray = ls at hl ⊢
  have hl : lv_has ls 4 [(0, .ref h0), (1, .int x0), (2, .int x1)] := hl
  refine lv_aload_n hx hb dX12_search_0 rfl (lv_at hl 0 rfl) ?_
  refine k_cVi (As := []) (rest := []) (wc := [(h0, .inr (12, f0))]) (wr := [(h1, .inl (cI, 2001, .inl g0)), (h2, .inl (cI, 2001, .inl g1)), (h3, .inl (cI, 2001, .inl g2)), (h4, .inl (cI, 2001, .inl g3)), (h5, .inl (cI, 26, .inl g4)), (h6, .inl (cI, 26, .inl g5)), (h7, .inl (cI, 26, .inl g6)), (h8, .inl (cI, 26, .inl g7)), (h9, .inl (cI, 26, .inl g8)), (h10, .inl (cI, 16, .inl g9)), (h11, .inl (cI, 16, .inl g10)), (h12, .inl (cI, 16, .inl g11)), (h13, .inl (cJ, 16, .inr (.inl g12))), (h14, .inl (cI, 16, .inl g13))]) (w1 := [(h0, .inr (12, (f0.set 0 (.int 0))))]) ⟨hx, hb, hml, hown, hts⟩ hN hX hAE hK hP hD hS hA [0] [1, 2, 3, 4, 5, 6, 7, 8, 9, 10, 11, 12, 13, 14] (ci := 12) rfl rfl rfl rfl (by decide +kernel) (by decide +kernel) (by decide +kernel) (c_X12_asks_0 l E D cI cJ cB cZ h0 f0 e0 e1) (cwV 0 hts gX12_search_X12_asks rfl rfl rfl (by decide +kernel) ⟨Nat.le_of_ble_eq_true rfl, Nat.le_of_ble_eq_true rfl⟩) rfl hl.1 (Nat.le_of_ble_eq_true rfl) dX12_search_1 ⟨Nat.le_of_ble_eq_true rfl, Nat.le_of_ble_eq_true rfl⟩ (fun H locs hP hD hS => ?_)
  have hP : va_P D vwCl [(h1, .inl (cI, 2001, .inl g0)), (h2, .inl (cI, 2001, .inl g1)), (h3, .inl (cI, 2001, .inl g2)), (h4, .inl (cI, 2001, .inl g3)), (h5, .inl (cI, 26, .inl g4)), (h6, .inl (cI, 26, .inl g5)), (h7, .inl (cI, 26, .inl g6)), (h8, .inl (cI, 26, .inl g7)), (h9, .inl (cI, 26, .inl g8)), (h10, .inl (cI, 16, .inl g9)), (h11, .inl (cI, 16, .inl g10)), (h12, .inl (cI, 16, .inl g11)), (h13, .inl (cJ, 16, .inr (.inl g12))), (h14, .inl (cI, 16, .inl g13)), (h0, .inr (12, (f0.set 0 (.int 0))))] H := hP
  have hD : va_D A [(h1, .inl (cI, 2001, .inl g0)), (h2, .inl (cI, 2001, .inl g1)), (h3, .inl (cI, 2001, .inl g2)), (h4, .inl (cI, 2001, .inl g3)), (h5, .inl (cI, 26, .inl g4)), (h6, .inl (cI, 26, .inl g5)), (h7, .inl (cI, 26, .inl g6)), (h8, .inl (cI, 26, .inl g7)), (h9, .inl (cI, 26, .inl g8)), (h10, .inl (cI, 16, .inl g9)), (h11, .inl (cI, 16, .inl g10)), (h12, .inl (cI, 16, .inl g11)), (h13, .inl (cJ, 16, .inr (.inl g12))), (h14, .inl (cI, 16, .inl g13)), (h0, .inr (12, (f0.set 0 (.int 0))))] := hD
  refine lv_if_ne (tgt := 10) hx hb dX12_search_4 (by decide) (fun _ => ?_) (fun c9 => absurd c9 (by decide))
  refine lv_aload_n hx hb dX12_search_10 rfl (lv_at hl 0 rfl) ?_
  refine k_cVv (As := []) (rest := []) (wc := [(h0, .inr (12, (f0.set 0 (.int 0)))), (h1, .inl (cI, 2001, .inl g0)), (h2, .inl (cI, 2001, .inl g1)), (h3, .inl (cI, 2001, .inl g2)), (h4, .inl (cI, 2001, .inl g3))]) (wr := [(h5, .inl (cI, 26, .inl g4)), (h6, .inl (cI, 26, .inl g5)), (h7, .inl (cI, 26, .inl g6)), (h8, .inl (cI, 26, .inl g7)), (h9, .inl (cI, 26, .inl g8)), (h10, .inl (cI, 16, .inl g9)), (h11, .inl (cI, 16, .inl g10)), (h12, .inl (cI, 16, .inl g11)), (h13, .inl (cJ, 16, .inr (.inl g12))), (h14, .inl (cI, 16, .inl g13))]) (w1 := (fun _ : Unit => [(h0, .inr (12, ((((((((f0.set 0 (.int 0)).set 12 (.int 0)).set 2 (.int 0)).set 36 (.int 0)).set 37 (.int 0)).set 27 (.int 0)).set 31 (.int 0)).set 28 (.int 0)))), (h1, .inl (cI, 2001, .inl (upd g0 0 0))), (h2, .inl (cI, 2001, .inl (upd g1 0 0))), (h3, .inl (cI, 2001, .inl (upd g2 0 0))), (h4, .inl (cI, 2001, .inl (upd g3 0 0)))])) ⟨hx, hb, hml, hown, hts⟩ hN hX hAE hK hP hD hS hA [14, 0, 1, 2, 3] [4, 5, 6, 7, 8, 9, 10, 11, 12, 13] (ci := 12) rfl rfl rfl rfl (by decide +kernel) (by decide +kernel) (by decide +kernel) (c_X12_begin_0 l E D cI cJ cB cZ h0 ((f0.set 0 (.int 0))) h1 h2 h3 h4 g0 g1 g2 g3 (k_ne (by decide) e2) (k_ne (by decide) e3) (k_ne (by decide) e4) (k_ne (by decide) e5) (k_ne (by decide) e6) (k_ne (by decide) e7) (k_ne (by decide) e8) (k_ne (by decide) e9) (k_ne (by decide) e10) (k_ne (by decide) e11) (k_ne (by decide) e12) (k_ne (by decide) e13) (k_ne (by decide) e14)) (cwV 0 hts gX12_search_X12_begin rfl rfl rfl (by decide +kernel) ⟨Nat.le_of_ble_eq_true rfl, Nat.le_of_ble_eq_true rfl⟩) rfl hl.1 (Nat.le_of_ble_eq_true rfl) dX12_search_11 ⟨Nat.le_of_ble_eq_true rfl, Nat.le_of_ble_eq_true rfl⟩ (fun _ H locs hP hD hS => ?_)
  have hP : va_P D vwCl [(h5, .inl (cI, 26, .inl g4)), (h6, .inl (cI, 26, .inl g5)), (h7, .inl (cI, 26, .inl g6)), (h8, .inl (cI, 26, .inl g7)), (h9, .inl (cI, 26, .inl g8)), (h10, .inl (cI, 16, .inl g9)), (h11, .inl (cI, 16, .inl g10)), (h12, .inl (cI, 16, .inl g11)), (h13, .inl (cJ, 16, .inr (.inl g12))), (h14, .inl (cI, 16, .inl g13)), (h0, .inr (12, ((((((((f0.set 0 (.int 0)).set 12 (.int 0)).set 2 (.int 0)).set 36 (.int 0)).set 37 (.int 0)).set 27 (.int 0)).set 31 (.int 0)).set 28 (.int 0)))), (h1, .inl (cI, 2001, .inl (upd g0 0 0))), (h2, .inl (cI, 2001, .inl (upd g1 0 0))), (h3, .inl (cI, 2001, .inl (upd g2 0 0))), (h4, .inl (cI, 2001, .inl (upd g3 0 0)))] H := hP
  have hD : va_D A [(h5, .inl (cI, 26, .inl g4)), (h6, .inl (cI, 26, .inl g5)), (h7, .inl (cI, 26, .inl g6)), (h8, .inl (cI, 26, .inl g7)), (h9, .inl (cI, 26, .inl g8)), (h10, .inl (cI, 16, .inl g9)), (h11, .inl (cI, 16, .inl g10)), (h12, .inl (cI, 16, .inl g11)), (h13, .inl (cJ, 16, .inr (.inl g12))), (h14, .inl (cI, 16, .inl g13)), (h0, .inr (12, ((((((((f0.set 0 (.int 0)).set 12 (.int 0)).set 2 (.int 0)).set 36 (.int 0)).set 37 (.int 0)).set 27 (.int 0)).set 31 (.int 0)).set 28 (.int 0)))), (h1, .inl (cI, 2001, .inl (upd g0 0 0))), (h2, .inl (cI, 2001, .inl (upd g1 0 0))), (h3, .inl (cI, 2001, .inl (upd g2 0 0))), (h4, .inl (cI, 2001, .inl (upd g3 0 0)))] := hD
  refine lv_iload_n hx hb dX12_search_14 rfl (lv_at hl 1 rfl) ?_
  refine lv_i2l (v := (Int32.toInt64 x0)) hx hb dX12_search_15 rfl ?_
  refine lv_lconst (v := 0) hx hb dX12_search_16 (by decide) ?_
  refine lv_lconst (v := 1) hx hb dX12_search_17 (by decide) ?_
  refine k_cSi (As := [.long (Int32.toInt64 x0), .long 0, .long 1]) (rest := []) (wc := []) (wr := [(h5, .inl (cI, 26, .inl g4)), (h6, .inl (cI, 26, .inl g5)), (h7, .inl (cI, 26, .inl g6)), (h8, .inl (cI, 26, .inl g7)), (h9, .inl (cI, 26, .inl g8)), (h10, .inl (cI, 16, .inl g9)), (h11, .inl (cI, 16, .inl g10)), (h12, .inl (cI, 16, .inl g11)), (h13, .inl (cJ, 16, .inr (.inl g12))), (h14, .inl (cI, 16, .inl g13)), (h0, .inr (12, ((((((((f0.set 0 (.int 0)).set 12 (.int 0)).set 2 (.int 0)).set 36 (.int 0)).set 37 (.int 0)).set 27 (.int 0)).set 31 (.int 0)).set 28 (.int 0)))), (h1, .inl (cI, 2001, .inl (upd g0 0 0))), (h2, .inl (cI, 2001, .inl (upd g1 0 0))), (h3, .inl (cI, 2001, .inl (upd g2 0 0))), (h4, .inl (cI, 2001, .inl (upd g3 0 0)))]) (w1 := []) ⟨hx, hb, hml, hown, hts⟩ hN hX hAE hK hP hD hS hA [] [0, 1, 2, 3, 4, 5, 6, 7, 8, 9, 10, 11, 12, 13, 14] rfl rfl (by decide +kernel) (by decide +kernel) (by decide +kernel) (c_X12_in_14 l E D cI cJ cB cZ (Int32.toInt64 x0) (fun z9 => e15 ((k_n4 (x := x0) (c := 0) (C := 0) (by decide)).mp z9)) (fun z9 => (k_n5 (x := x0) (c := 1) (d := 2) (C := 1) (by decide) (by decide)).mp z9 e16)) (va_cwS 3 hts gX12_search_X12_in rfl rfl rfl (by decide +kernel) ⟨Nat.le_of_ble_eq_true rfl, Nat.le_of_ble_eq_true rfl⟩) rfl hl.1 (Nat.le_of_ble_eq_true rfl) dX12_search_18 ⟨Nat.le_of_ble_eq_true rfl, Nat.le_of_ble_eq_true rfl⟩ (fun H locs hP hD hS => ?_)
  have hP : va_P D vwCl [(h5, .inl (cI, 26, .inl g4)), (h6, .inl (cI, 26, .inl g5)), (h7, .inl (cI, 26, .inl g6)), (h8, .inl (cI, 26, .inl g7)), (h9, .inl (cI, 26, .inl g8)), (h10, .inl (cI, 16, .inl g9)), (h11, .inl (cI, 16, .inl g10)), (h12, .inl (cI, 16, .inl g11)), (h13, .inl (cJ, 16, .inr (.inl g12))), (h14, .inl (cI, 16, .inl g13)), (h0, .inr (12, ((((((((f0.set 0 (.int 0)).set 12 (.int 0)).set 2 (.int 0)).set 36 (.int 0)).set 37 (.int 0)).set 27 (.int 0)).set 31 (.int 0)).set 28 (.int 0)))), (h1, .inl (cI, 2001, .inl (upd g0 0 0))), (h2, .inl (cI, 2001, .inl (upd g1 0 0))), (h3, .inl (cI, 2001, .inl (upd g2 0 0))), (h4, .inl (cI, 2001, .inl (upd g3 0 0)))] H := hP
  have hD : va_D A [(h5, .inl (cI, 26, .inl g4)), (h6, .inl (cI, 26, .inl g5)), (h7, .inl (cI, 26, .inl g6)), (h8, .inl (cI, 26, .inl g7)), (h9, .inl (cI, 26, .inl g8)), (h10, .inl (cI, 16, .inl g9)), (h11, .inl (cI, 16, .inl g10)), (h12, .inl (cI, 16, .inl g11)), (h13, .inl (cJ, 16, .inr (.inl g12))), (h14, .inl (cI, 16, .inl g13)), (h0, .inr (12, ((((((((f0.set 0 (.int 0)).set 12 (.int 0)).set 2 (.int 0)).set 36 (.int 0)).set 37 (.int 0)).set 27 (.int 0)).set 31 (.int 0)).set 28 (.int 0)))), (h1, .inl (cI, 2001, .inl (upd g0 0 0))), (h2, .inl (cI, 2001, .inl (upd g1 0 0))), (h3, .inl (cI, 2001, .inl (upd g2 0 0))), (h4, .inl (cI, 2001, .inl (upd g3 0 0)))] := hD
  refine lv_if_eq (tgt := 36) hx hb dX12_search_21 (by decide) (fun c9 => absurd c9 (by decide)) (fun _ => ?_)
  refine lv_iload_n hx hb dX12_search_24 rfl (lv_at hl 2 rfl) ?_
  refine lv_i2l (v := (Int32.toInt64 x1)) hx hb dX12_search_25 rfl ?_
  refine lv_lconst (v := 1) hx hb dX12_search_26 (by decide) ?_
  refine lv_ldc2 (own := RX12) (index := 560) (v := 100) hx hb hown (hts (.constantLong RX12 560 (100)) (List.mem_cons_of_mem _ (List.mem_append_left _ (List.mem_append_left _ (List.mem_of_getElem? (i := 0) rfl))))) dX12_search_27 ?_
  refine k_cSi (As := [.long (Int32.toInt64 x1), .long 1, .long 100]) (rest := []) (wc := []) (wr := [(h5, .inl (cI, 26, .inl g4)), (h6, .inl (cI, 26, .inl g5)), (h7, .inl (cI, 26, .inl g6)), (h8, .inl (cI, 26, .inl g7)), (h9, .inl (cI, 26, .inl g8)), (h10, .inl (cI, 16, .inl g9)), (h11, .inl (cI, 16, .inl g10)), (h12, .inl (cI, 16, .inl g11)), (h13, .inl (cJ, 16, .inr (.inl g12))), (h14, .inl (cI, 16, .inl g13)), (h0, .inr (12, ((((((((f0.set 0 (.int 0)).set 12 (.int 0)).set 2 (.int 0)).set 36 (.int 0)).set 37 (.int 0)).set 27 (.int 0)).set 31 (.int 0)).set 28 (.int 0)))), (h1, .inl (cI, 2001, .inl (upd g0 0 0))), (h2, .inl (cI, 2001, .inl (upd g1 0 0))), (h3, .inl (cI, 2001, .inl (upd g2 0 0))), (h4, .inl (cI, 2001, .inl (upd g3 0 0)))]) (w1 := []) ⟨hx, hb, hml, hown, hts⟩ hN hX hAE hK hP hD hS hA [] [0, 1, 2, 3, 4, 5, 6, 7, 8, 9, 10, 11, 12, 13, 14] rfl rfl (by decide +kernel) (by decide +kernel) (by decide +kernel) (c_X12_in_9 l E D cI cJ cB cZ (Int32.toInt64 x1) (fun z9 => e17 ((k_n4 (x := x1) (c := 1) (C := 1) (by decide)).mp z9)) (fun z9 => (k_n5 (x := x1) (c := 100) (d := 101) (C := 100) (by decide) (by decide)).mp z9 e18)) (va_cwS 3 hts gX12_search_X12_in rfl rfl rfl (by decide +kernel) ⟨Nat.le_of_ble_eq_true rfl, Nat.le_of_ble_eq_true rfl⟩) rfl hl.1 (Nat.le_of_ble_eq_true rfl) dX12_search_30 ⟨Nat.le_of_ble_eq_true rfl, Nat.le_of_ble_eq_true rfl⟩ (fun H locs hP hD hS => ?_)
  have hP : va_P D vwCl [(h5, .inl (cI, 26, .inl g4)), (h6, .inl (cI, 26, .inl g5)), (h7, .inl (cI, 26, .inl g6)), (h8, .inl (cI, 26, .inl g7)), (h9, .inl (cI, 26, .inl g8)), (h10, .inl (cI, 16, .inl g9)), (h11, .inl (cI, 16, .inl g10)), (h12, .inl (cI, 16, .inl g11)), (h13, .inl (cJ, 16, .inr (.inl g12))), (h14, .inl (cI, 16, .inl g13)), (h0, .inr (12, ((((((((f0.set 0 (.int 0)).set 12 (.int 0)).set 2 (.int 0)).set 36 (.int 0)).set 37 (.int 0)).set 27 (.int 0)).set 31 (.int 0)).set 28 (.int 0)))), (h1, .inl (cI, 2001, .inl (upd g0 0 0))), (h2, .inl (cI, 2001, .inl (upd g1 0 0))), (h3, .inl (cI, 2001, .inl (upd g2 0 0))), (h4, .inl (cI, 2001, .inl (upd g3 0 0)))] H := hP
  have hD : va_D A [(h5, .inl (cI, 26, .inl g4)), (h6, .inl (cI, 26, .inl g5)), (h7, .inl (cI, 26, .inl g6)), (h8, .inl (cI, 26, .inl g7)), (h9, .inl (cI, 26, .inl g8)), (h10, .inl (cI, 16, .inl g9)), (h11, .inl (cI, 16, .inl g10)), (h12, .inl (cI, 16, .inl g11)), (h13, .inl (cJ, 16, .inr (.inl g12))), (h14, .inl (cI, 16, .inl g13)), (h0, .inr (12, ((((((((f0.set 0 (.int 0)).set 12 (.int 0)).set 2 (.int 0)).set 36 (.int 0)).set 37 (.int 0)).set 27 (.int 0)).set 31 (.int 0)).set 28 (.int 0)))), (h1, .inl (cI, 2001, .inl (upd g0 0 0))), (h2, .inl (cI, 2001, .inl (upd g1 0 0))), (h3, .inl (cI, 2001, .inl (upd g2 0 0))), (h4, .inl (cI, 2001, .inl (upd g3 0 0)))] := hD
  refine lv_if_ne (tgt := 39) hx hb dX12_search_33 (by decide) (fun _ => ?_) (fun c9 => absurd c9 (by decide))
  refine lv_aload_n hx hb dX12_search_39 rfl (lv_at hl 0 rfl) ?_
  refine k_cVi (As := []) (rest := []) (wc := [(h0, .inr (12, ((((((((f0.set 0 (.int 0)).set 12 (.int 0)).set 2 (.int 0)).set 36 (.int 0)).set 37 (.int 0)).set 27 (.int 0)).set 31 (.int 0)).set 28 (.int 0))))]) (wr := [(h5, .inl (cI, 26, .inl g4)), (h6, .inl (cI, 26, .inl g5)), (h7, .inl (cI, 26, .inl g6)), (h8, .inl (cI, 26, .inl g7)), (h9, .inl (cI, 26, .inl g8)), (h10, .inl (cI, 16, .inl g9)), (h11, .inl (cI, 16, .inl g10)), (h12, .inl (cI, 16, .inl g11)), (h13, .inl (cJ, 16, .inr (.inl g12))), (h14, .inl (cI, 16, .inl g13)), (h1, .inl (cI, 2001, .inl (upd g0 0 0))), (h2, .inl (cI, 2001, .inl (upd g1 0 0))), (h3, .inl (cI, 2001, .inl (upd g2 0 0))), (h4, .inl (cI, 2001, .inl (upd g3 0 0)))]) (w1 := [(h0, .inr (12, ((((((((f0.set 0 (.int 0)).set 12 (.int 0)).set 2 (.int 0)).set 36 (.int 0)).set 37 (.int 0)).set 27 (.int 0)).set 31 (.int 0)).set 28 (.int 0))))]) ⟨hx, hb, hml, hown, hts⟩ hN hX hAE hK hP hD hS hA [10] [0, 1, 2, 3, 4, 5, 6, 7, 8, 9, 11, 12, 13, 14] (ci := 12) rfl rfl rfl rfl (by decide +kernel) (by decide +kernel) (by decide +kernel) (c_X12_isAllPlain_0 l E D cI cJ cB cZ h0 (((((((((f0.set 0 (.int 0)).set 12 (.int 0)).set 2 (.int 0)).set 36 (.int 0)).set 37 (.int 0)).set 27 (.int 0)).set 31 (.int 0)).set 28 (.int 0))) (k_ne (by decide) (k_ne (by decide) (k_ne (by decide) (k_ne (by decide) (k_ne (by decide) (k_ne (by decide) (k_ne (by decide) (k_ne (by decide) e6))))))))) (cwV 0 hts gX12_search_X12_isAllPlain rfl rfl rfl (by decide +kernel) ⟨Nat.le_of_ble_eq_true rfl, Nat.le_of_ble_eq_true rfl⟩) rfl hl.1 (Nat.le_of_ble_eq_true rfl) dX12_search_40 ⟨Nat.le_of_ble_eq_true rfl, Nat.le_of_ble_eq_true rfl⟩ (fun H locs hP hD hS => ?_)
  have hP : va_P D vwCl [(h5, .inl (cI, 26, .inl g4)), (h6, .inl (cI, 26, .inl g5)), (h7, .inl (cI, 26, .inl g6)), (h8, .inl (cI, 26, .inl g7)), (h9, .inl (cI, 26, .inl g8)), (h10, .inl (cI, 16, .inl g9)), (h11, .inl (cI, 16, .inl g10)), (h12, .inl (cI, 16, .inl g11)), (h13, .inl (cJ, 16, .inr (.inl g12))), (h14, .inl (cI, 16, .inl g13)), (h1, .inl (cI, 2001, .inl (upd g0 0 0))), (h2, .inl (cI, 2001, .inl (upd g1 0 0))), (h3, .inl (cI, 2001, .inl (upd g2 0 0))), (h4, .inl (cI, 2001, .inl (upd g3 0 0))), (h0, .inr (12, ((((((((f0.set 0 (.int 0)).set 12 (.int 0)).set 2 (.int 0)).set 36 (.int 0)).set 37 (.int 0)).set 27 (.int 0)).set 31 (.int 0)).set 28 (.int 0))))] H := hP
  have hD : va_D A [(h5, .inl (cI, 26, .inl g4)), (h6, .inl (cI, 26, .inl g5)), (h7, .inl (cI, 26, .inl g6)), (h8, .inl (cI, 26, .inl g7)), (h9, .inl (cI, 26, .inl g8)), (h10, .inl (cI, 16, .inl g9)), (h11, .inl (cI, 16, .inl g10)), (h12, .inl (cI, 16, .inl g11)), (h13, .inl (cJ, 16, .inr (.inl g12))), (h14, .inl (cI, 16, .inl g13)), (h1, .inl (cI, 2001, .inl (upd g0 0 0))), (h2, .inl (cI, 2001, .inl (upd g1 0 0))), (h3, .inl (cI, 2001, .inl (upd g2 0 0))), (h4, .inl (cI, 2001, .inl (upd g3 0 0))), (h0, .inr (12, ((((((((f0.set 0 (.int 0)).set 12 (.int 0)).set 2 (.int 0)).set 36 (.int 0)).set 37 (.int 0)).set 27 (.int 0)).set 31 (.int 0)).set 28 (.int 0))))] := hD
  refine lv_if_ne (tgt := 49) hx hb dX12_search_43 (by decide) (fun _ => ?_) (fun c9 => absurd c9 (by decide))
  refine lv_aload_n hx hb dX12_search_49 rfl (lv_at hl 0 rfl) ?_
  refine k_cVi (As := []) (rest := []) (wc := [(h0, .inr (12, ((((((((f0.set 0 (.int 0)).set 12 (.int 0)).set 2 (.int 0)).set 36 (.int 0)).set 37 (.int 0)).set 27 (.int 0)).set 31 (.int 0)).set 28 (.int 0)))), (h5, .inl (cI, 26, .inl g4)), (h6, .inl (cI, 26, .inl g5)), (h7, .inl (cI, 26, .inl g6)), (h8, .inl (cI, 26, .inl g7)), (h9, .inl (cI, 26, .inl g8)), (h3, .inl (cI, 2001, .inl (upd g2 0 0))), (h1, .inl (cI, 2001, .inl (upd g0 0 0))), (h10, .inl (cI, 16, .inl g9)), (h11, .inl (cI, 16, .inl g10)), (h12, .inl (cI, 16, .inl g11)), (h13, .inl (cJ, 16, .inr (.inl g12))), (h14, .inl (cI, 16, .inl g13))]) (wr := [(h2, .inl (cI, 2001, .inl (upd g1 0 0))), (h4, .inl (cI, 2001, .inl (upd g3 0 0)))]) (w1 := [(h0, .inr (12, (((((((((((((((((((f0.set 0 (.int 0)).set 12 (.int 0)).set 2 (.int 0)).set 36 (.int 0)).set 37 (.int 0)).set 27 (.int 0)).set 31 (.int 0)).set 28 (.int 0)).set 66 (.int 25)).set 67 (.int 0)).set 76 (.int (-1))).set 83 (.int (-1))).set 83 (.int 0)).set 84 (.int 3)).set 84 (.int 4)).set 84 (.int 5)).set 31 (.int 1)).set 29 (.int 2)).set 30 (.int 0)))), (h5, .inl (cI, 26, .inl (upd g4 25 0))), (h6, .inl (cI, 26, .inl (upd g5 25 0))), (h7, .inl (cI, 26, .inl (upd g6 25 0))), (h8, .inl (cI, 26, .inl (upd g7 25 0))), (h9, .inl (cI, 26, .inl (upd g8 25 0))), (h3, .inl (cI, 2001, .inl (upd g2 0 0))), (h1, .inl (cI, 2001, .inl (upd g0 0 0))), (h10, .inl (cI, 16, .inl (upd g9 0 33))), (h11, .inl (cI, 16, .inl (upd g10 0 (-1)))), (h12, .inl (cI, 16, .inl (upd (upd g11 0 1) 0 1))), (h13, .inl (cJ, 16, .inr (.inl (vp_updL (vp_updL g12 0 1) 0 1)))), (h14, .inl (cI, 16, .inl (upd g13 0 (-1))))]) ⟨hx, hb, hml, hown, hts⟩ hN hX hAE hK hP hD hS hA [14, 0, 1, 2, 3, 4, 12, 10, 5, 6, 7, 8, 9] [11, 13] (ci := 12) rfl rfl rfl rfl (by decide +kernel) (by decide +kernel) (by decide +kernel) (c_X12_readsLineTerm_0 l E D cI cJ cB cZ h0 (((((((((f0.set 0 (.int 0)).set 12 (.int 0)).set 2 (.int 0)).set 36 (.int 0)).set 37 (.int 0)).set 27 (.int 0)).set 31 (.int 0)).set 28 (.int 0))) h5 h6 h7 h8 h9 g4 g5 g6 g7 g8 h10 h11 h12 h13 h14 h3 ((upd g2 0 0)) h1 ((upd g0 0 0)) g9 g10 g11 g12 g13 (k_ne (by decide) (k_ne (by decide) (k_ne (by decide) (k_ne (by decide) (k_ne (by decide) (k_ne (by decide) (k_ne (by decide) (k_ne (by decide) e19)))))))) (k_ne (by decide) (k_ne (by decide) (k_ne (by decide) (k_ne (by decide) (k_ne (by decide) (k_ne (by decide) (k_ne (by decide) (k_ne (by decide) e20)))))))) (k_ne (by decide) (k_ne (by decide) (k_ne (by decide) (k_ne (by decide) (k_ne (by decide) (k_ne (by decide) (k_ne (by decide) (k_ne (by decide) e21)))))))) (k_ne (by decide) (k_ne (by decide) (k_ne (by decide) (k_ne (by decide) (k_ne (by decide) (k_ne (by decide) (k_ne (by decide) (k_ne (by decide) e22)))))))) (k_ne (by decide) (k_ne (by decide) (k_ne (by decide) (k_ne (by decide) (k_ne (by decide) (k_ne (by decide) (k_ne (by decide) (k_ne (by decide) e23)))))))) (k_ne (by decide) (k_ne (by decide) (k_ne (by decide) (k_ne (by decide) (k_ne (by decide) (k_ne (by decide) (k_ne (by decide) (k_ne (by decide) e24)))))))) (k_ne (by decide) (k_ne (by decide) (k_ne (by decide) (k_ne (by decide) (k_ne (by decide) (k_ne (by decide) (k_ne (by decide) (k_ne (by decide) e25)))))))) (k_ne (by decide) (k_ne (by decide) (k_ne (by decide) (k_ne (by decide) (k_ne (by decide) (k_ne (by decide) (k_ne (by decide) (k_ne (by decide) e26)))))))) (k_ne (by decide) (k_ne (by decide) (k_ne (by decide) (k_ne (by decide) (k_ne (by decide) (k_ne (by decide) (k_ne (by decide) (k_ne (by decide) e27)))))))) (k_ne (by decide) (k_ne (by decide) (k_ne (by decide) (k_ne (by decide) (k_ne (by decide) (k_ne (by decide) (k_ne (by decide) (k_ne (by decide) e28)))))))) (k_ne (by decide) (k_ne (by decide) (k_ne (by decide) (k_ne (by decide) (k_ne (by decide) (k_ne (by decide) (k_ne (by decide) (k_ne (by decide) e29)))))))) (k_ne (by decide) (k_ne (by decide) (k_ne (by decide) (k_ne (by decide) (k_ne (by decide) (k_ne (by decide) (k_ne (by decide) (k_ne (by decide) e30)))))))) (k_ne (by decide) (k_ne (by decide) (k_ne (by decide) (k_ne (by decide) (k_ne (by decide) (k_ne (by decide) (k_ne (by decide) (k_ne (by decide) e31)))))))) (k_ne (by decide) (k_ne (by decide) (k_ne (by decide) (k_ne (by decide) (k_ne (by decide) (k_ne (by decide) (k_ne (by decide) (k_ne (by decide) e32)))))))) (k_ne (by decide) (k_ne (by decide) (k_ne (by decide) (k_ne (by decide) (k_ne (by decide) (k_ne (by decide) (k_ne (by decide) (k_ne (by decide) e33)))))))) (k_ne (by decide) (k_set (k_ne (by decide) (k_ne (by decide) (k_ne (by decide) (k_ne (by decide) (k_ne (by decide) (k_ne (by decide) e9)))))))) (k_ne (by decide) (k_ne (by decide) (k_ne (by decide) (k_ne (by decide) (k_ne (by decide) (k_ne (by decide) (k_ne (by decide) (k_ne (by decide) e13)))))))) (k_set (k_ne (by decide) (k_ne (by decide) (k_ne (by decide) (k_ne (by decide) (k_ne (by decide) (k_ne (by decide) (k_ne (by decide) e10)))))))) rfl (k_ne (by decide) (k_ne (by decide) (k_ne (by decide) (k_ne (by decide) (k_ne (by decide) (k_ne (by decide) (k_ne (by decide) (k_ne (by decide) e34)))))))) (k_ne (by decide) (k_ne (by decide) (k_ne (by decide) (k_ne (by decide) (k_ne (by decide) (k_ne (by decide) (k_ne (by decide) (k_ne (by decide) e11)))))))) rfl (k_ne (by decide) (k_ne (by decide) (k_ne (by decide) (k_ne (by decide) (k_ne (by decide) (k_ne (by decide) (k_ne (by decide) (k_ne (by decide) e35)))))))) (k_ne (by decide) (k_ne (by decide) (k_ne (by decide) (k_ne (by decide) (k_ne (by decide) (k_ne (by decide) (k_ne (by decide) (k_ne (by decide) e36))))))))) (cwV 0 hts gX12_search_X12_readsLineTerm rfl rfl rfl (by decide +kernel) ⟨Nat.le_of_ble_eq_true rfl, Nat.le_of_ble_eq_true rfl⟩) rfl hl.1 (Nat.le_of_ble_eq_true rfl) dX12_search_50 ⟨Nat.le_of_ble_eq_true rfl, Nat.le_of_ble_eq_true rfl⟩ (fun H locs hP hD hS => ?_)
  have hP : va_P D vwCl [(h2, .inl (cI, 2001, .inl (upd g1 0 0))), (h4, .inl (cI, 2001, .inl (upd g3 0 0))), (h0, .inr (12, (((((((((((((((((((f0.set 0 (.int 0)).set 12 (.int 0)).set 2 (.int 0)).set 36 (.int 0)).set 37 (.int 0)).set 27 (.int 0)).set 31 (.int 0)).set 28 (.int 0)).set 66 (.int 25)).set 67 (.int 0)).set 76 (.int (-1))).set 83 (.int (-1))).set 83 (.int 0)).set 84 (.int 3)).set 84 (.int 4)).set 84 (.int 5)).set 31 (.int 1)).set 29 (.int 2)).set 30 (.int 0)))), (h5, .inl (cI, 26, .inl (upd g4 25 0))), (h6, .inl (cI, 26, .inl (upd g5 25 0))), (h7, .inl (cI, 26, .inl (upd g6 25 0))), (h8, .inl (cI, 26, .inl (upd g7 25 0))), (h9, .inl (cI, 26, .inl (upd g8 25 0))), (h3, .inl (cI, 2001, .inl (upd g2 0 0))), (h1, .inl (cI, 2001, .inl (upd g0 0 0))), (h10, .inl (cI, 16, .inl (upd g9 0 33))), (h11, .inl (cI, 16, .inl (upd g10 0 (-1)))), (h12, .inl (cI, 16, .inl (upd (upd g11 0 1) 0 1))), (h13, .inl (cJ, 16, .inr (.inl (vp_updL (vp_updL g12 0 1) 0 1)))), (h14, .inl (cI, 16, .inl (upd g13 0 (-1))))] H := hP
  have hD : va_D A [(h2, .inl (cI, 2001, .inl (upd g1 0 0))), (h4, .inl (cI, 2001, .inl (upd g3 0 0))), (h0, .inr (12, (((((((((((((((((((f0.set 0 (.int 0)).set 12 (.int 0)).set 2 (.int 0)).set 36 (.int 0)).set 37 (.int 0)).set 27 (.int 0)).set 31 (.int 0)).set 28 (.int 0)).set 66 (.int 25)).set 67 (.int 0)).set 76 (.int (-1))).set 83 (.int (-1))).set 83 (.int 0)).set 84 (.int 3)).set 84 (.int 4)).set 84 (.int 5)).set 31 (.int 1)).set 29 (.int 2)).set 30 (.int 0)))), (h5, .inl (cI, 26, .inl (upd g4 25 0))), (h6, .inl (cI, 26, .inl (upd g5 25 0))), (h7, .inl (cI, 26, .inl (upd g6 25 0))), (h8, .inl (cI, 26, .inl (upd g7 25 0))), (h9, .inl (cI, 26, .inl (upd g8 25 0))), (h3, .inl (cI, 2001, .inl (upd g2 0 0))), (h1, .inl (cI, 2001, .inl (upd g0 0 0))), (h10, .inl (cI, 16, .inl (upd g9 0 33))), (h11, .inl (cI, 16, .inl (upd g10 0 (-1)))), (h12, .inl (cI, 16, .inl (upd (upd g11 0 1) 0 1))), (h13, .inl (cJ, 16, .inr (.inl (vp_updL (vp_updL g12 0 1) 0 1)))), (h14, .inl (cI, 16, .inl (upd g13 0 (-1))))] := hD
  refine lv_if_ne (tgt := 61) hx hb dX12_search_53 (by decide) (fun c9 => absurd (by decide) c9) (fun _ => ?_)
  refine lv_aload_n hx hb dX12_search_56 rfl (lv_at hl 0 rfl) ?_
  refine k_cVi (As := []) (rest := []) (wc := [(h0, .inr (12, (((((((((((((((((((f0.set 0 (.int 0)).set 12 (.int 0)).set 2 (.int 0)).set 36 (.int 0)).set 37 (.int 0)).set 27 (.int 0)).set 31 (.int 0)).set 28 (.int 0)).set 66 (.int 25)).set 67 (.int 0)).set 76 (.int (-1))).set 83 (.int (-1))).set 83 (.int 0)).set 84 (.int 3)).set 84 (.int 4)).set 84 (.int 5)).set 31 (.int 1)).set 29 (.int 2)).set 30 (.int 0))))]) (wr := [(h2, .inl (cI, 2001, .inl (upd g1 0 0))), (h4, .inl (cI, 2001, .inl (upd g3 0 0))), (h5, .inl (cI, 26, .inl (upd g4 25 0))), (h6, .inl (cI, 26, .inl (upd g5 25 0))), (h7, .inl (cI, 26, .inl (upd g6 25 0))), (h8, .inl (cI, 26, .inl (upd g7 25 0))), (h9, .inl (cI, 26, .inl (upd g8 25 0))), (h3, .inl (cI, 2001, .inl (upd g2 0 0))), (h1, .inl (cI, 2001, .inl (upd g0 0 0))), (h10, .inl (cI, 16, .inl (upd g9 0 33))), (h11, .inl (cI, 16, .inl (upd g10 0 (-1)))), (h12, .inl (cI, 16, .inl (upd (upd g11 0 1) 0 1))), (h13, .inl (cJ, 16, .inr (.inl (vp_updL (vp_updL g12 0 1) 0 1)))), (h14, .inl (cI, 16, .inl (upd g13 0 (-1))))]) (w1 := [(h0, .inr (12, ((((((((((((((((((((f0.set 0 (.int 0)).set 12 (.int 0)).set 2 (.int 0)).set 36 (.int 0)).set 37 (.int 0)).set 27 (.int 0)).set 31 (.int 0)).set 28 (.int 0)).set 66 (.int 25)).set 67 (.int 0)).set 76 (.int (-1))).set 83 (.int (-1))).set 83 (.int 0)).set 84 (.int 3)).set 84 (.int 4)).set 84 (.int 5)).set 31 (.int 1)).set 29 (.int 2)).set 30 (.int 0)).set 109 (.int 2))))]) ⟨hx, hb, hml, hown, hts⟩ hN hX hAE hK hP hD hS hA [2] [0, 1, 3, 4, 5, 6, 7, 8, 9, 10, 11, 12, 13, 14] (ci := 12) rfl rfl rfl rfl (by decide +kernel) (by decide +kernel) (by decide +kernel) (c_X12_told_0 l E D cI cJ cB cZ h0 ((((((((((((((((((((f0.set 0 (.int 0)).set 12 (.int 0)).set 2 (.int 0)).set 36 (.int 0)).set 37 (.int 0)).set 27 (.int 0)).set 31 (.int 0)).set 28 (.int 0)).set 66 (.int 25)).set 67 (.int 0)).set 76 (.int (-1))).set 83 (.int (-1))).set 83 (.int 0)).set 84 (.int 3)).set 84 (.int 4)).set 84 (.int 5)).set 31 (.int 1)).set 29 (.int 2)).set 30 (.int 0))) (k_ne (by decide) (k_ne (by decide) (k_ne (by decide) (k_ne (by decide) (k_ne (by decide) (k_ne (by decide) (k_ne (by decide) (k_ne (by decide) (k_ne (by decide) (k_ne (by decide) (k_ne (by decide) (k_ne (by decide) (k_ne (by decide) (k_ne (by decide) (k_ne (by decide) (k_ne (by decide) (k_ne (by decide) (k_ne (by decide) (k_ne (by decide) e37))))))))))))))))))) (k_ne (by decide) (k_set (k_ne (by decide) (k_ne (by decide) (k_ne (by decide) (k_ne (by decide) (k_ne (by decide) (k_ne (by decide) (k_ne (by decide) (k_ne (by decide) (k_ne (by decide) (k_ne (by decide) (k_ne (by decide) (k_ne (by decide) (k_ne (by decide) (k_ne (by decide) (k_ne (by decide) (k_ne (by decide) (k_ne (by decide) e34))))))))))))))))))) (k_ne (by decide) (k_ne (by decide) (k_ne (by decide) (k_ne (by decide) (k_ne (by decide) (k_ne (by decide) (k_ne (by decide) (k_ne (by decide) (k_ne (by decide) (k_ne (by decide) (k_ne (by decide) (k_ne (by decide) (k_ne (by decide) (k_ne (by decide) (k_ne (by decide) (k_ne (by decide) (k_ne (by decide) (k_ne (by decide) (k_ne (by decide) e38))))))))))))))))))) (k_set (k_ne (by decide) (k_ne (by decide) (k_ne (by decide) (k_ne (by decide) (k_ne (by decide) (k_ne (by decide) (k_ne (by decide) (k_ne (by decide) (k_ne (by decide) (k_ne (by decide) (k_ne (by decide) (k_ne (by decide) (k_ne (by decide) (k_ne (by decide) (k_ne (by decide) (k_ne (by decide) (k_ne (by decide) (k_ne (by decide) e35)))))))))))))))))))) (cwV 0 hts gX12_search_X12_told rfl rfl rfl (by decide +kernel) ⟨Nat.le_of_ble_eq_true rfl, Nat.le_of_ble_eq_true rfl⟩) rfl hl.1 (Nat.le_of_ble_eq_true rfl) dX12_search_57 ⟨Nat.le_of_ble_eq_true rfl, Nat.le_of_ble_eq_true rfl⟩ (fun H locs hP hD hS => ?_)
  have hP : va_P D vwCl [(h2, .inl (cI, 2001, .inl (upd g1 0 0))), (h4, .inl (cI, 2001, .inl (upd g3 0 0))), (h5, .inl (cI, 26, .inl (upd g4 25 0))), (h6, .inl (cI, 26, .inl (upd g5 25 0))), (h7, .inl (cI, 26, .inl (upd g6 25 0))), (h8, .inl (cI, 26, .inl (upd g7 25 0))), (h9, .inl (cI, 26, .inl (upd g8 25 0))), (h3, .inl (cI, 2001, .inl (upd g2 0 0))), (h1, .inl (cI, 2001, .inl (upd g0 0 0))), (h10, .inl (cI, 16, .inl (upd g9 0 33))), (h11, .inl (cI, 16, .inl (upd g10 0 (-1)))), (h12, .inl (cI, 16, .inl (upd (upd g11 0 1) 0 1))), (h13, .inl (cJ, 16, .inr (.inl (vp_updL (vp_updL g12 0 1) 0 1)))), (h14, .inl (cI, 16, .inl (upd g13 0 (-1)))), (h0, .inr (12, ((((((((((((((((((((f0.set 0 (.int 0)).set 12 (.int 0)).set 2 (.int 0)).set 36 (.int 0)).set 37 (.int 0)).set 27 (.int 0)).set 31 (.int 0)).set 28 (.int 0)).set 66 (.int 25)).set 67 (.int 0)).set 76 (.int (-1))).set 83 (.int (-1))).set 83 (.int 0)).set 84 (.int 3)).set 84 (.int 4)).set 84 (.int 5)).set 31 (.int 1)).set 29 (.int 2)).set 30 (.int 0)).set 109 (.int 2))))] H := hP
  have hD : va_D A [(h2, .inl (cI, 2001, .inl (upd g1 0 0))), (h4, .inl (cI, 2001, .inl (upd g3 0 0))), (h5, .inl (cI, 26, .inl (upd g4 25 0))), (h6, .inl (cI, 26, .inl (upd g5 25 0))), (h7, .inl (cI, 26, .inl (upd g6 25 0))), (h8, .inl (cI, 26, .inl (upd g7 25 0))), (h9, .inl (cI, 26, .inl (upd g8 25 0))), (h3, .inl (cI, 2001, .inl (upd g2 0 0))), (h1, .inl (cI, 2001, .inl (upd g0 0 0))), (h10, .inl (cI, 16, .inl (upd g9 0 33))), (h11, .inl (cI, 16, .inl (upd g10 0 (-1)))), (h12, .inl (cI, 16, .inl (upd (upd g11 0 1) 0 1))), (h13, .inl (cJ, 16, .inr (.inl (vp_updL (vp_updL g12 0 1) 0 1)))), (h14, .inl (cI, 16, .inl (upd g13 0 (-1)))), (h0, .inr (12, ((((((((((((((((((((f0.set 0 (.int 0)).set 12 (.int 0)).set 2 (.int 0)).set 36 (.int 0)).set 37 (.int 0)).set 27 (.int 0)).set 31 (.int 0)).set 28 (.int 0)).set 66 (.int 25)).set 67 (.int 0)).set 76 (.int (-1))).set 83 (.int (-1))).set 83 (.int 0)).set 84 (.int 3)).set 84 (.int 4)).set 84 (.int 5)).set 31 (.int 1)).set 29 (.int 2)).set 30 (.int 0)).set 109 (.int 2))))] := hD
  have hP := hP.sub (ws' := [(h0, .inr (12, ((((((((((((((((((((f0.set 0 (.int 0)).set 12 (.int 0)).set 2 (.int 0)).set 36 (.int 0)).set 37 (.int 0)).set 27 (.int 0)).set 31 (.int 0)).set 28 (.int 0)).set 66 (.int 25)).set 67 (.int 0)).set 76 (.int (-1))).set 83 (.int (-1))).set 83 (.int 0)).set 84 (.int 3)).set 84 (.int 4)).set 84 (.int 5)).set 31 (.int 1)).set 29 (.int 2)).set 30 (.int 0)).set 109 (.int 2)))), (h1, .inl (cI, 2001, .inl (upd g0 0 0))), (h2, .inl (cI, 2001, .inl (upd g1 0 0))), (h3, .inl (cI, 2001, .inl (upd g2 0 0))), (h4, .inl (cI, 2001, .inl (upd g3 0 0))), (h5, .inl (cI, 26, .inl (upd g4 25 0))), (h6, .inl (cI, 26, .inl (upd g5 25 0))), (h7, .inl (cI, 26, .inl (upd g6 25 0))), (h8, .inl (cI, 26, .inl (upd g7 25 0))), (h9, .inl (cI, 26, .inl (upd g8 25 0))), (h10, .inl (cI, 16, .inl (upd g9 0 33))), (h11, .inl (cI, 16, .inl (upd g10 0 (-1)))), (h12, .inl (cI, 16, .inl (upd (upd g11 0 1) 0 1))), (h13, .inl (cJ, 16, .inr (.inl (vp_updL (vp_updL g12 0 1) 0 1)))), (h14, .inl (cI, 16, .inl (upd g13 0 (-1))))]) [14, 8, 0, 7, 1, 2, 3, 4, 5, 6, 9, 10, 11, 12, 13] rfl
  have hD := hD.sub (ws' := [(h0, .inr (12, ((((((((((((((((((((f0.set 0 (.int 0)).set 12 (.int 0)).set 2 (.int 0)).set 36 (.int 0)).set 37 (.int 0)).set 27 (.int 0)).set 31 (.int 0)).set 28 (.int 0)).set 66 (.int 25)).set 67 (.int 0)).set 76 (.int (-1))).set 83 (.int (-1))).set 83 (.int 0)).set 84 (.int 3)).set 84 (.int 4)).set 84 (.int 5)).set 31 (.int 1)).set 29 (.int 2)).set 30 (.int 0)).set 109 (.int 2)))), (h1, .inl (cI, 2001, .inl (upd g0 0 0))), (h2, .inl (cI, 2001, .inl (upd g1 0 0))), (h3, .inl (cI, 2001, .inl (upd g2 0 0))), (h4, .inl (cI, 2001, .inl (upd g3 0 0))), (h5, .inl (cI, 26, .inl (upd g4 25 0))), (h6, .inl (cI, 26, .inl (upd g5 25 0))), (h7, .inl (cI, 26, .inl (upd g6 25 0))), (h8, .inl (cI, 26, .inl (upd g7 25 0))), (h9, .inl (cI, 26, .inl (upd g8 25 0))), (h10, .inl (cI, 16, .inl (upd g9 0 33))), (h11, .inl (cI, 16, .inl (upd g10 0 (-1)))), (h12, .inl (cI, 16, .inl (upd (upd g11 0 1) 0 1))), (h13, .inl (cJ, 16, .inr (.inl (vp_updL (vp_updL g12 0 1) 0 1)))), (h14, .inl (cI, 16, .inl (upd g13 0 (-1))))]) [14, 8, 0, 7, 1, 2, 3, 4, 5, 6, 9, 10, 11, 12, 13] (by decide +kernel) rfl
  exact W.iret (v := (-1000)) hx hb hr (fun t ht hW => ⟨⟨(-1000), (), rfl, rfl, kB_mk ht hW hP hK hD⟩, hS.F ht⟩) hS.2.2 dX12_search_60
set_option maxHeartbeats 400000000 in
set_option maxRecDepth 100000 in
theorem c_X11_search_1 (l : Launch) (E : kE) (D : va_G) (cI cJ cB cZ : ClassId) (h0 : Nat) (x0 : Int32) (x1 : Int32) (f0 : List Value) (h1 : Nat) (f1 : List Value) (e0 : f0[1]? = some (.ref h1)) (e1 : f1[8]? = some (.int 0)) (e2 : f0[12]? = some (.int 0)) (e3 : (x0 : Int32) < 0) : kI l E D (kT cI cJ cB cZ) yX11_search wsX11_search ({ frames := 1, cells := 0, slots := 0, locals := 21 }) [.ref h0, .int x0, .int x1] [(h0, .inr (11, f0)), (h1, .inr (1, f1))] ((-102)) [(h0, .inr (11, (f0.set 12 (.int 0)))), (h1, .inr (1, f1))] 0 0 := by
  intro sz
  refine Met.ofW (cc := cX11_search) (maxL := 4) (ret := (some .int)) (by decide) rfl ?_
  intro p e s m args below meth c s₁ B hml hv
  obtain ⟨rfl, hsz, hP, hK, hD0, hN, hX⟩ := hv
  have hx := B.exec
  have hb := B.bytes
  have hr := B.returns
  have hts := atoms_spec (ws := wsX11_search) B.pre
  have hown : s.vm.findClass RX11 = some m.cls := findClass_of_methodNamed B.named
  have hlocks := B.notSynchronized
  have hin11 : ∀ w ∈ wsX110, w ∈ wsX11_search := (fun w h => (List.mem_cons_of_mem _ (List.mem_append_left _ (List.mem_append_left _ (List.mem_append_left _ (List.mem_append_left _ (List.mem_append_left _ (List.mem_append_left _ (List.mem_append_left _ (List.mem_append_right _ h))))))))))
  have hin1 : ∀ w ∈ wsX10, w ∈ wsX11_search := (fun w h => (List.mem_cons_of_mem _ (List.mem_append_left _ (List.mem_append_left _ (List.mem_append_left _ (List.mem_append_left _ (List.mem_append_left _ (List.mem_append_left _ (List.mem_append_right _ h)))))))))
  subst hsz
  have hD := hD0.self (sz := s.heap.size)
  have hAE := k_AE hD0 hX
  generalize hAe : va_A [(h0, .inr (11, f0)), (h1, .inr (1, f1))] s.heap.size = A at hD hAE ⊢
  have hA : ∀ q : Nat, s.heap.size ≤ q → A q := fun q h => by rw [← hAe]; exact Or.inr h
  have hS : va_S A s.heap s.heap [] := va_S.rf
  have hP : va_P D vwCl [(h0, .inr (11, f0)), (h1, .inr (1, f1))] s.heap := hP
  have hl := lv_entry ([.ref h0, .int x0, .int x1] : List Value) (n := 4) (Nat.le_of_ble_eq_true rfl)
  rw [lg_entry_eq]
  generalize (lg_sl ([.ref h0, .int x0, .int x1]) ++ List.replicate (4 - (lg_sl ([.ref h0, .int x0, .int x1])).length) Slot.unset).toArray = ls at hl ⊢
  have hl : lv_has ls 4 [(0, .ref h0), (1, .int x0), (2, .int x1)] := hl
  refine lv_aload_n hx hb dX11_search_0 rfl (lv_at hl 0 rfl) ?_
  refine va_get (D := D) (ref := "IntegerHouse") (ci := 11) (v := .ref h1) (C := RX11) (T := TX11) (N := 15) hx hb hts hin11 hown hK hP 0 rfl rfl 1 (by decide) (hts (.fieldLink RX11 16 "IntegerHouse" "disk" "LIntegerHouse$Disk;") (List.mem_cons_of_mem _ (List.mem_append_left _ (List.mem_append_left _ (List.mem_append_left _ (List.mem_append_left _ (List.mem_append_left _ (List.mem_append_left _ (List.mem_append_left _ (List.mem_append_left _ (List.mem_append_left _ (List.mem_of_getElem? (i := 0) rfl)))))))))))) (fun _ h9 => h9) e0 dX11_search_1 ?_
  refine va_getN (host := "IntegerHouse") (D := D) (ref := "IntegerHouse$Disk") (ci := 1) (v := .int 0) (C := RX1) (T := TX1) (N := 9) hx hb hts hin1 hown hK hP 1 rfl rfl 8 (by decide) (va_Nw.use rfl (hN.1 ("IntegerHouse", 122, "IntegerHouse$Disk", "down", "Z", "IntegerHouse") (List.mem_of_getElem? (i := 3) rfl))) (fun _ h9 => h9) e1 dX11_search_4 ?_
  refine lv_if_eq (tgt := 13) hx hb dX11_search_7 (by decide) (fun _ => ?_) (fun c9 => absurd (by decide) c9)
  refine lv_aload_n hx hb dX11_search_13 rfl (lv_at hl 0 rfl) ?_
  refine k_cVi (As := []) (rest := []) (wc := [(h0, .inr (11, f0))]) (wr := [(h1, .inr (1, f1))]) (w1 := [(h0, .inr (11, (f0.set 12 (.int 0))))]) ⟨hx, hb, hml, hown, hts⟩ hN hX hAE hK hP hD hS hA [0] [1] (ci := 11) rfl rfl rfl rfl (by decide +kernel) (by decide +kernel) (by decide +kernel) (c_X11_useTape_0 l E D cI cJ cB cZ h0 f0 e2) (cwV 0 hts gX11_search_X11_useTape rfl rfl rfl (by decide +kernel) ⟨Nat.le_of_ble_eq_true rfl, Nat.le_of_ble_eq_true rfl⟩) rfl hl.1 (Nat.le_of_ble_eq_true rfl) dX11_search_14 ⟨Nat.le_of_ble_eq_true rfl, Nat.le_of_ble_eq_true rfl⟩ (fun H locs hP hD hS => ?_)
  have hP : va_P D vwCl [(h1, .inr (1, f1)), (h0, .inr (11, (f0.set 12 (.int 0))))] H := hP
  have hD : va_D A [(h1, .inr (1, f1)), (h0, .inr (11, (f0.set 12 (.int 0))))] := hD
  refine lv_istore_n (lv' := [(3, .int 0), (0, .ref h0), (1, .int x0), (2, .int x1)]) hx hb dX11_search_17 rfl hl (by decide) rfl (fun ls hl => ?_)
  refine lv_iload_n hx hb dX11_search_18 rfl (lv_at hl 2 rfl) ?_
  refine lv_if_lt (tgt := 38) hx hb dX11_search_19 (by decide) (fun _ => ?_) (fun c9 => absurd e3 c9)
  refine lv_bipush (v := (-102)) hx hb dX11_search_38 (by decide) ?_
  have hP := hP.sub (ws' := [(h0, .inr (11, (f0.set 12 (.int 0)))), (h1, .inr (1, f1))]) [1, 0] rfl
  have hD := hD.sub (ws' := [(h0, .inr (11, (f0.set 12 (.int 0)))), (h1, .inr (1, f1))]) [1, 0] (by decide +kernel) rfl
  exact W.iret (v := (-102)) hx hb hr (fun t ht hW => ⟨⟨(-102), (), rfl, rfl, kB_mk ht hW hP hK hD⟩, hS.F ht⟩) hS.2.2 dX11_search_40
set_option maxHeartbeats 400000000 in
set_option maxRecDepth 100000 in
theorem c_X12_in_15 (l : Launch) (E : kE) (D : va_G) (cI cJ cB cZ : ClassId) (y0 : Int64) (e0 : ((lg_cmp y0 0) : Int32) < 0) : kI l E D (kT cI cJ cB cZ) yX12_in wsX12_in ({ frames := 0, cells := 0, slots := 0, locals := 0 }) [.long y0, .long 0, .long 1] [] (0) [] 0 0 := by
  intro sz
  refine Met.ofW (cc := cX12_in) (maxL := 6) (ret := (some .boolean)) (by decide) rfl ?_
  intro p e s m args below meth c s₁ B hml hv
  obtain ⟨rfl, hsz, hP, hK, hD0, hN, hX⟩ := hv
  have hx := B.exec
  have hb := B.bytes
  have hr := B.returns
  have hts := atoms_spec (ws := wsX12_in) B.pre
  have hown : s.vm.findClass RX12 = some m.cls := findClass_of_methodNamed B.named
  have hlocks := B.notSynchronized
  subst hsz
  have hD := hD0.self (sz := s.heap.size)
  have hAE := k_AE hD0 hX
  generalize hAe : va_A [] s.heap.size = A at hD hAE ⊢
  have hA : ∀ q : Nat, s.heap.size ≤ q → A q := fun q h => by rw [← hAe]; exact Or.inr h
  have hS : va_S A s.heap s.heap [] := va_S.rf
  have hP : va_P D vwCl [] s.heap := hP
  have hl := lv_entry ([.long y0, .long 0, .long 1] : List Value) (n := 6) (Nat.le_of_ble_eq_true rfl)
  rw [lg_entry_eq]
  generalize (lg_sl ([.long y0, .long 0, .long 1]) ++ List.replicate (6 - (lg_sl ([.long y0, .long 0, .long 1])).length) Slot.unset).toArray = ls at hl ⊢
  have hl : lv_has ls 6 [(0, .long y0), (2, .long 0), (4, .long 1)] := hl
  refine lv_lload_n hx hb dX12_in_0 rfl (lv_at hl 0 rfl) ?_
  refine lv_lload_n hx hb dX12_in_1 rfl (lv_at hl 1 rfl) ?_
  refine W.lcmp hx hb dX12_in_2 ?_
  refine lv_if_lt (tgt := 17) hx hb dX12_in_3 (by decide) (fun _ => ?_) (fun c9 => absurd e0 c9)
  refine lv_iconst (v := 0) hx hb dX12_in_17 (by decide) ?_
  exact W.zret (v := 0) hx hb hr rfl (fun t ht hW => ⟨⟨0, (), rfl, rfl, kB_mk ht hW hP hK hD⟩, hS.F ht⟩) hS.2.2 dX12_in_18
set_option maxHeartbeats 400000000 in
set_option maxRecDepth 100000 in
theorem c_X12_search_1 (l : Launch) (E : kE) (D : va_G) (cI cJ cB cZ : ClassId) (h0 : Nat) (x0 : Int32) (x1 : Int32) (f0 : List Value) (h1 : Nat) (h2 : Nat) (h3 : Nat) (h4 : Nat) (g0 : Nat → Int32) (g1 : Nat → Int32) (g2 : Nat → Int32) (g3 : Nat → Int32) (e0 : f0[0]? = some (.int 0)) (e1 : f0[5]? = some (.int 0)) (e2 : f0[2]? = some (.int 0)) (e3 : f0[12]? = some (.int 0)) (e4 : f0[32]? = some (.int 0)) (e5 : f0[36]? = some (.int 0)) (e6 : f0[33]? = some (.int 0)) (e7 : f0[37]? = some (.int 0)) (e8 : f0[27]? = some (.int 0)) (e9 : f0[31]? = some (.int 0)) (e10 : f0[28]? = some (.int 0)) (e11 : f0[23]? = some (.ref h1)) (e12 : f0[24]? = some (.ref h2)) (e13 : f0[25]? = some (.ref h3)) (e14 : f0[26]? = some (.ref h4)) (e15 : (x0 : Int32) < 0) : kI l E D (kT cI cJ cB cZ) yX12_search wsX12_search ({ frames := 3, cells := 0, slots := 0, locals := 68 }) [.ref h0, .int x0, .int x1] [(h0, .inr (12, f0)), (h1, .inl (cI, 2001, .inl g0)), (h2, .inl (cI, 2001, .inl g1)), (h3, .inl (cI, 2001, .inl g2)), (h4, .inl (cI, 2001, .inl g3))] ((-102)) [(h0, .inr (12, ((((((((f0.set 0 (.int 0)).set 12 (.int 0)).set 2 (.int 0)).set 36 (.int 0)).set 37 (.int 0)).set 27 (.int 0)).set 31 (.int 0)).set 28 (.int 0)))), (h1, .inl (cI, 2001, .inl (upd g0 0 0))), (h2, .inl (cI, 2001, .inl (upd g1 0 0))), (h3, .inl (cI, 2001, .inl (upd g2 0 0))), (h4, .inl (cI, 2001, .inl (upd g3 0 0)))] 0 0 := by
  intro sz
  refine Met.ofW (cc := cX12_search) (maxL := 4) (ret := (some .int)) (by decide) rfl ?_
  intro p e s m args below meth c s₁ B hml hv
  obtain ⟨rfl, hsz, hP, hK, hD0, hN, hX⟩ := hv
  have hx := B.exec
  have hb := B.bytes
  have hr := B.returns
  have hts := atoms_spec (ws := wsX12_search) B.pre
  have hown : s.vm.findClass RX12 = some m.cls := findClass_of_methodNamed B.named
  have hlocks := B.notSynchronized
  subst hsz
  have hD := hD0.self (sz := s.heap.size)
  have hAE := k_AE hD0 hX
  generalize hAe : va_A [(h0, .inr (12, f0)), (h1, .inl (cI, 2001, .inl g0)), (h2, .inl (cI, 2001, .inl g1)), (h3, .inl (cI, 2001, .inl g2)), (h4, .inl (cI, 2001, .inl g3))] s.heap.size = A at hD hAE ⊢
  have hA : ∀ q : Nat, s.heap.size ≤ q → A q := fun q h => by rw [← hAe]; exact Or.inr h
  have hS : va_S A s.heap s.heap [] := va_S.rf
  have hP : va_P D vwCl [(h0, .inr (12, f0)), (h1, .inl (cI, 2001, .inl g0)), (h2, .inl (cI, 2001, .inl g1)), (h3, .inl (cI, 2001, .inl g2)), (h4, .inl (cI, 2001, .inl g3))] s.heap := hP
  have hl := lv_entry ([.ref h0, .int x0, .int x1] : List Value) (n := 4) (Nat.le_of_ble_eq_true rfl)
  rw [lg_entry_eq]
  generalize (lg_sl ([.ref h0, .int x0, .int x1]) ++ List.replicate (4 - (lg_sl ([.ref h0, .int x0, .int x1])).length) Slot.unset).toArray = ls at hl ⊢
  have hl : lv_has ls 4 [(0, .ref h0), (1, .int x0), (2, .int x1)] := hl
  refine lv_aload_n hx hb dX12_search_0 rfl (lv_at hl 0 rfl) ?_
  refine k_cVi (As := []) (rest := []) (wc := [(h0, .inr (12, f0))]) (wr := [(h1, .inl (cI, 2001, .inl g0)), (h2, .inl (cI, 2001, .inl g1)), (h3, .inl (cI, 2001, .inl g2)), (h4, .inl (cI, 2001, .inl g3))]) (w1 := [(h0, .inr (12, (f0.set 0 (.int 0))))]) ⟨hx, hb, hml, hown, hts⟩ hN hX hAE hK hP hD hS hA [0] [1, 2, 3, 4] (ci := 12) rfl rfl rfl rfl (by decide +kernel) (by decide +kernel) (by decide +kernel) (c_X12_asks_0 l E D cI cJ cB cZ h0 f0 e0 e1) (cwV 0 hts gX12_search_X12_asks rfl rfl rfl (by decide +kernel) ⟨Nat.le_of_ble_eq_true rfl, Nat.le_of_ble_eq_true rfl⟩) rfl hl.1 (Nat.le_of_ble_eq_true rfl) dX12_search_1 ⟨Nat.le_of_ble_eq_true rfl, Nat.le_of_ble_eq_true rfl⟩ (fun H locs hP hD hS => ?_)
  have hP : va_P D vwCl [(h1, .inl (cI, 2001, .inl g0)), (h2, .inl (cI, 2001, .inl g1)), (h3, .inl (cI, 2001, .inl g2)), (h4, .inl (cI, 2001, .inl g3)), (h0, .inr (12, (f0.set 0 (.int 0))))] H := hP
  have hD : va_D A [(h1, .inl (cI, 2001, .inl g0)), (h2, .inl (cI, 2001, .inl g1)), (h3, .inl (cI, 2001, .inl g2)), (h4, .inl (cI, 2001, .inl g3)), (h0, .inr (12, (f0.set 0 (.int 0))))] := hD
  refine lv_if_ne (tgt := 10) hx hb dX12_search_4 (by decide) (fun _ => ?_) (fun c9 => absurd c9 (by decide))
  refine lv_aload_n hx hb dX12_search_10 rfl (lv_at hl 0 rfl) ?_
  refine k_cVv (As := []) (rest := []) (wc := [(h0, .inr (12, (f0.set 0 (.int 0)))), (h1, .inl (cI, 2001, .inl g0)), (h2, .inl (cI, 2001, .inl g1)), (h3, .inl (cI, 2001, .inl g2)), (h4, .inl (cI, 2001, .inl g3))]) (wr := []) (w1 := (fun _ : Unit => [(h0, .inr (12, ((((((((f0.set 0 (.int 0)).set 12 (.int 0)).set 2 (.int 0)).set 36 (.int 0)).set 37 (.int 0)).set 27 (.int 0)).set 31 (.int 0)).set 28 (.int 0)))), (h1, .inl (cI, 2001, .inl (upd g0 0 0))), (h2, .inl (cI, 2001, .inl (upd g1 0 0))), (h3, .inl (cI, 2001, .inl (upd g2 0 0))), (h4, .inl (cI, 2001, .inl (upd g3 0 0)))])) ⟨hx, hb, hml, hown, hts⟩ hN hX hAE hK hP hD hS hA [4, 0, 1, 2, 3] [] (ci := 12) rfl rfl rfl rfl (by decide +kernel) (by decide +kernel) (by decide +kernel) (c_X12_begin_0 l E D cI cJ cB cZ h0 ((f0.set 0 (.int 0))) h1 h2 h3 h4 g0 g1 g2 g3 (k_ne (by decide) e2) (k_ne (by decide) e3) (k_ne (by decide) e4) (k_ne (by decide) e5) (k_ne (by decide) e6) (k_ne (by decide) e7) (k_ne (by decide) e8) (k_ne (by decide) e9) (k_ne (by decide) e10) (k_ne (by decide) e11) (k_ne (by decide) e12) (k_ne (by decide) e13) (k_ne (by decide) e14)) (cwV 0 hts gX12_search_X12_begin rfl rfl rfl (by decide +kernel) ⟨Nat.le_of_ble_eq_true rfl, Nat.le_of_ble_eq_true rfl⟩) rfl hl.1 (Nat.le_of_ble_eq_true rfl) dX12_search_11 ⟨Nat.le_of_ble_eq_true rfl, Nat.le_of_ble_eq_true rfl⟩ (fun _ H locs hP hD hS => ?_)
  have hP : va_P D vwCl [(h0, .inr (12, ((((((((f0.set 0 (.int 0)).set 12 (.int 0)).set 2 (.int 0)).set 36 (.int 0)).set 37 (.int 0)).set 27 (.int 0)).set 31 (.int 0)).set 28 (.int 0)))), (h1, .inl (cI, 2001, .inl (upd g0 0 0))), (h2, .inl (cI, 2001, .inl (upd g1 0 0))), (h3, .inl (cI, 2001, .inl (upd g2 0 0))), (h4, .inl (cI, 2001, .inl (upd g3 0 0)))] H := hP
  have hD : va_D A [(h0, .inr (12, ((((((((f0.set 0 (.int 0)).set 12 (.int 0)).set 2 (.int 0)).set 36 (.int 0)).set 37 (.int 0)).set 27 (.int 0)).set 31 (.int 0)).set 28 (.int 0)))), (h1, .inl (cI, 2001, .inl (upd g0 0 0))), (h2, .inl (cI, 2001, .inl (upd g1 0 0))), (h3, .inl (cI, 2001, .inl (upd g2 0 0))), (h4, .inl (cI, 2001, .inl (upd g3 0 0)))] := hD
  refine lv_iload_n hx hb dX12_search_14 rfl (lv_at hl 1 rfl) ?_
  refine lv_i2l (v := (Int32.toInt64 x0)) hx hb dX12_search_15 rfl ?_
  refine lv_lconst (v := 0) hx hb dX12_search_16 (by decide) ?_
  refine lv_lconst (v := 1) hx hb dX12_search_17 (by decide) ?_
  refine k_cSi (As := [.long (Int32.toInt64 x0), .long 0, .long 1]) (rest := []) (wc := []) (wr := [(h0, .inr (12, ((((((((f0.set 0 (.int 0)).set 12 (.int 0)).set 2 (.int 0)).set 36 (.int 0)).set 37 (.int 0)).set 27 (.int 0)).set 31 (.int 0)).set 28 (.int 0)))), (h1, .inl (cI, 2001, .inl (upd g0 0 0))), (h2, .inl (cI, 2001, .inl (upd g1 0 0))), (h3, .inl (cI, 2001, .inl (upd g2 0 0))), (h4, .inl (cI, 2001, .inl (upd g3 0 0)))]) (w1 := []) ⟨hx, hb, hml, hown, hts⟩ hN hX hAE hK hP hD hS hA [] [0, 1, 2, 3, 4] rfl rfl (by decide +kernel) (by decide +kernel) (by decide +kernel) (c_X12_in_15 l E D cI cJ cB cZ (Int32.toInt64 x0) ((k_n4 (x := x0) (c := 0) (C := 0) (by decide)).mpr e15)) (va_cwS 3 hts gX12_search_X12_in rfl rfl rfl (by decide +kernel) ⟨Nat.le_of_ble_eq_true rfl, Nat.le_of_ble_eq_true rfl⟩) rfl hl.1 (Nat.le_of_ble_eq_true rfl) dX12_search_18 ⟨Nat.le_of_ble_eq_true rfl, Nat.le_of_ble_eq_true rfl⟩ (fun H locs hP hD hS => ?_)
  have hP : va_P D vwCl [(h0, .inr (12, ((((((((f0.set 0 (.int 0)).set 12 (.int 0)).set 2 (.int 0)).set 36 (.int 0)).set 37 (.int 0)).set 27 (.int 0)).set 31 (.int 0)).set 28 (.int 0)))), (h1, .inl (cI, 2001, .inl (upd g0 0 0))), (h2, .inl (cI, 2001, .inl (upd g1 0 0))), (h3, .inl (cI, 2001, .inl (upd g2 0 0))), (h4, .inl (cI, 2001, .inl (upd g3 0 0)))] H := hP
  have hD : va_D A [(h0, .inr (12, ((((((((f0.set 0 (.int 0)).set 12 (.int 0)).set 2 (.int 0)).set 36 (.int 0)).set 37 (.int 0)).set 27 (.int 0)).set 31 (.int 0)).set 28 (.int 0)))), (h1, .inl (cI, 2001, .inl (upd g0 0 0))), (h2, .inl (cI, 2001, .inl (upd g1 0 0))), (h3, .inl (cI, 2001, .inl (upd g2 0 0))), (h4, .inl (cI, 2001, .inl (upd g3 0 0)))] := hD
  refine lv_if_eq (tgt := 36) hx hb dX12_search_21 (by decide) (fun _ => ?_) (fun c9 => absurd (by decide) c9)
  refine lv_bipush (v := (-102)) hx hb dX12_search_36 (by decide) ?_
  exact W.iret (v := (-102)) hx hb hr (fun t ht hW => ⟨⟨(-102), (), rfl, rfl, kB_mk ht hW hP hK hD⟩, hS.F ht⟩) hS.2.2 dX12_search_38
set_option maxHeartbeats 400000000 in
set_option maxRecDepth 100000 in
theorem c_X11_search_2 (l : Launch) (E : kE) (D : va_G) (cI cJ cB cZ : ClassId) (h0 : Nat) (x0 : Int32) (x1 : Int32) (f0 : List Value) (h1 : Nat) (f1 : List Value) (e0 : f0[1]? = some (.ref h1)) (e1 : f1[8]? = some (.int 0)) (e2 : f0[12]? = some (.int 0)) (e3 : ¬ ((x0 : Int32) < 0)) (e4 : (x0 : Int32) < 2) (e5 : (x1 : Int32) < 1) : kI l E D (kT cI cJ cB cZ) yX11_search wsX11_search ({ frames := 1, cells := 0, slots := 0, locals := 21 }) [.ref h0, .int x0, .int x1] [(h0, .inr (11, f0)), (h1, .inr (1, f1))] ((-102)) [(h0, .inr (11, (f0.set 12 (.int 0)))), (h1, .inr (1, f1))] 0 0 := by
  intro sz
  refine Met.ofW (cc := cX11_search) (maxL := 4) (ret := (some .int)) (by decide) rfl ?_
  intro p e s m args below meth c s₁ B hml hv
  obtain ⟨rfl, hsz, hP, hK, hD0, hN, hX⟩ := hv
  have hx := B.exec
  have hb := B.bytes
  have hr := B.returns
  have hts := atoms_spec (ws := wsX11_search) B.pre
  have hown : s.vm.findClass RX11 = some m.cls := findClass_of_methodNamed B.named
  have hlocks := B.notSynchronized
  have hin11 : ∀ w ∈ wsX110, w ∈ wsX11_search := (fun w h => (List.mem_cons_of_mem _ (List.mem_append_left _ (List.mem_append_left _ (List.mem_append_left _ (List.mem_append_left _ (List.mem_append_left _ (List.mem_append_left _ (List.mem_append_left _ (List.mem_append_right _ h))))))))))
  have hin1 : ∀ w ∈ wsX10, w ∈ wsX11_search := (fun w h => (List.mem_cons_of_mem _ (List.mem_append_left _ (List.mem_append_left _ (List.mem_append_left _ (List.mem_append_left _ (List.mem_append_left _ (List.mem_append_left _ (List.mem_append_right _ h)))))))))
  subst hsz
  have hD := hD0.self (sz := s.heap.size)
  have hAE := k_AE hD0 hX
  generalize hAe : va_A [(h0, .inr (11, f0)), (h1, .inr (1, f1))] s.heap.size = A at hD hAE ⊢
  have hA : ∀ q : Nat, s.heap.size ≤ q → A q := fun q h => by rw [← hAe]; exact Or.inr h
  have hS : va_S A s.heap s.heap [] := va_S.rf
  have hP : va_P D vwCl [(h0, .inr (11, f0)), (h1, .inr (1, f1))] s.heap := hP
  have hl := lv_entry ([.ref h0, .int x0, .int x1] : List Value) (n := 4) (Nat.le_of_ble_eq_true rfl)
  rw [lg_entry_eq]
  generalize (lg_sl ([.ref h0, .int x0, .int x1]) ++ List.replicate (4 - (lg_sl ([.ref h0, .int x0, .int x1])).length) Slot.unset).toArray = ls at hl ⊢
  have hl : lv_has ls 4 [(0, .ref h0), (1, .int x0), (2, .int x1)] := hl
  refine lv_aload_n hx hb dX11_search_0 rfl (lv_at hl 0 rfl) ?_
  refine va_get (D := D) (ref := "IntegerHouse") (ci := 11) (v := .ref h1) (C := RX11) (T := TX11) (N := 15) hx hb hts hin11 hown hK hP 0 rfl rfl 1 (by decide) (hts (.fieldLink RX11 16 "IntegerHouse" "disk" "LIntegerHouse$Disk;") (List.mem_cons_of_mem _ (List.mem_append_left _ (List.mem_append_left _ (List.mem_append_left _ (List.mem_append_left _ (List.mem_append_left _ (List.mem_append_left _ (List.mem_append_left _ (List.mem_append_left _ (List.mem_append_left _ (List.mem_of_getElem? (i := 0) rfl)))))))))))) (fun _ h9 => h9) e0 dX11_search_1 ?_
  refine va_getN (host := "IntegerHouse") (D := D) (ref := "IntegerHouse$Disk") (ci := 1) (v := .int 0) (C := RX1) (T := TX1) (N := 9) hx hb hts hin1 hown hK hP 1 rfl rfl 8 (by decide) (va_Nw.use rfl (hN.1 ("IntegerHouse", 122, "IntegerHouse$Disk", "down", "Z", "IntegerHouse") (List.mem_of_getElem? (i := 3) rfl))) (fun _ h9 => h9) e1 dX11_search_4 ?_
  refine lv_if_eq (tgt := 13) hx hb dX11_search_7 (by decide) (fun _ => ?_) (fun c9 => absurd (by decide) c9)
  refine lv_aload_n hx hb dX11_search_13 rfl (lv_at hl 0 rfl) ?_
  refine k_cVi (As := []) (rest := []) (wc := [(h0, .inr (11, f0))]) (wr := [(h1, .inr (1, f1))]) (w1 := [(h0, .inr (11, (f0.set 12 (.int 0))))]) ⟨hx, hb, hml, hown, hts⟩ hN hX hAE hK hP hD hS hA [0] [1] (ci := 11) rfl rfl rfl rfl (by decide +kernel) (by decide +kernel) (by decide +kernel) (c_X11_useTape_0 l E D cI cJ cB cZ h0 f0 e2) (cwV 0 hts gX11_search_X11_useTape rfl rfl rfl (by decide +kernel) ⟨Nat.le_of_ble_eq_true rfl, Nat.le_of_ble_eq_true rfl⟩) rfl hl.1 (Nat.le_of_ble_eq_true rfl) dX11_search_14 ⟨Nat.le_of_ble_eq_true rfl, Nat.le_of_ble_eq_true rfl⟩ (fun H locs hP hD hS => ?_)
  have hP : va_P D vwCl [(h1, .inr (1, f1)), (h0, .inr (11, (f0.set 12 (.int 0))))] H := hP
  have hD : va_D A [(h1, .inr (1, f1)), (h0, .inr (11, (f0.set 12 (.int 0))))] := hD
  refine lv_istore_n (lv' := [(3, .int 0), (0, .ref h0), (1, .int x0), (2, .int x1)]) hx hb dX11_search_17 rfl hl (by decide) rfl (fun ls hl => ?_)
  refine lv_iload_n hx hb dX11_search_18 rfl (lv_at hl 2 rfl) ?_
  refine lv_if_lt (tgt := 38) hx hb dX11_search_19 (by decide) (fun c9 => absurd c9 e3) (fun _ => ?_)
  refine lv_iload_n hx hb dX11_search_22 rfl (lv_at hl 2 rfl) ?_
  refine lv_iconst (v := 1) hx hb dX11_search_23 (by decide) ?_
  refine lv_icmp_gt (tgt := 38) hx hb dX11_search_24 (by decide) (fun c9 => absurd c9 (fun z9 => (k_n3 (x := x0) (c := 1) (d := 2) (by decide)).mp z9 e4)) (fun _ => ?_)
  refine lv_iload_n hx hb dX11_search_27 rfl (lv_at hl 3 rfl) ?_
  refine lv_iconst (v := 1) hx hb dX11_search_28 (by decide) ?_
  refine lv_icmp_lt (tgt := 38) hx hb dX11_search_29 (by decide) (fun _ => ?_) (fun c9 => absurd e5 c9)
  refine lv_bipush (v := (-102)) hx hb dX11_search_38 (by decide) ?_
  have hP := hP.sub (ws' := [(h0, .inr (11, (f0.set 12 (.int 0)))), (h1, .inr (1, f1))]) [1, 0] rfl
  have hD := hD.sub (ws' := [(h0, .inr (11, (f0.set 12 (.int 0)))), (h1, .inr (1, f1))]) [1, 0] (by decide +kernel) rfl
  exact W.iret (v := (-102)) hx hb hr (fun t ht hW => ⟨⟨(-102), (), rfl, rfl, kB_mk ht hW hP hK hD⟩, hS.F ht⟩) hS.2.2 dX11_search_40
set_option maxHeartbeats 400000000 in
set_option maxRecDepth 100000 in
theorem c_X12_search_2 (l : Launch) (E : kE) (D : va_G) (cI cJ cB cZ : ClassId) (h0 : Nat) (x0 : Int32) (x1 : Int32) (f0 : List Value) (h1 : Nat) (h2 : Nat) (h3 : Nat) (h4 : Nat) (g0 : Nat → Int32) (g1 : Nat → Int32) (g2 : Nat → Int32) (g3 : Nat → Int32) (e0 : f0[0]? = some (.int 0)) (e1 : f0[5]? = some (.int 0)) (e2 : f0[2]? = some (.int 0)) (e3 : f0[12]? = some (.int 0)) (e4 : f0[32]? = some (.int 0)) (e5 : f0[36]? = some (.int 0)) (e6 : f0[33]? = some (.int 0)) (e7 : f0[37]? = some (.int 0)) (e8 : f0[27]? = some (.int 0)) (e9 : f0[31]? = some (.int 0)) (e10 : f0[28]? = some (.int 0)) (e11 : f0[23]? = some (.ref h1)) (e12 : f0[24]? = some (.ref h2)) (e13 : f0[25]? = some (.ref h3)) (e14 : f0[26]? = some (.ref h4)) (e15 : ¬ ((x0 : Int32) < 0)) (e16 : (x0 : Int32) < 2) (e17 : (x1 : Int32) < 1) : kI l E D (kT cI cJ cB cZ) yX12_search wsX12_search ({ frames := 3, cells := 0, slots := 0, locals := 68 }) [.ref h0, .int x0, .int x1] [(h0, .inr (12, f0)), (h1, .inl (cI, 2001, .inl g0)), (h2, .inl (cI, 2001, .inl g1)), (h3, .inl (cI, 2001, .inl g2)), (h4, .inl (cI, 2001, .inl g3))] ((-102)) [(h0, .inr (12, ((((((((f0.set 0 (.int 0)).set 12 (.int 0)).set 2 (.int 0)).set 36 (.int 0)).set 37 (.int 0)).set 27 (.int 0)).set 31 (.int 0)).set 28 (.int 0)))), (h1, .inl (cI, 2001, .inl (upd g0 0 0))), (h2, .inl (cI, 2001, .inl (upd g1 0 0))), (h3, .inl (cI, 2001, .inl (upd g2 0 0))), (h4, .inl (cI, 2001, .inl (upd g3 0 0)))] 0 0 := by
  intro sz
  refine Met.ofW (cc := cX12_search) (maxL := 4) (ret := (some .int)) (by decide) rfl ?_
  intro p e s m args below meth c s₁ B hml hv
  obtain ⟨rfl, hsz, hP, hK, hD0, hN, hX⟩ := hv
  have hx := B.exec
  have hb := B.bytes
  have hr := B.returns
  have hts := atoms_spec (ws := wsX12_search) B.pre
  have hown : s.vm.findClass RX12 = some m.cls := findClass_of_methodNamed B.named
  have hlocks := B.notSynchronized
  subst hsz
  have hD := hD0.self (sz := s.heap.size)
  have hAE := k_AE hD0 hX
  generalize hAe : va_A [(h0, .inr (12, f0)), (h1, .inl (cI, 2001, .inl g0)), (h2, .inl (cI, 2001, .inl g1)), (h3, .inl (cI, 2001, .inl g2)), (h4, .inl (cI, 2001, .inl g3))] s.heap.size = A at hD hAE ⊢
  have hA : ∀ q : Nat, s.heap.size ≤ q → A q := fun q h => by rw [← hAe]; exact Or.inr h
  have hS : va_S A s.heap s.heap [] := va_S.rf
  have hP : va_P D vwCl [(h0, .inr (12, f0)), (h1, .inl (cI, 2001, .inl g0)), (h2, .inl (cI, 2001, .inl g1)), (h3, .inl (cI, 2001, .inl g2)), (h4, .inl (cI, 2001, .inl g3))] s.heap := hP
  have hl := lv_entry ([.ref h0, .int x0, .int x1] : List Value) (n := 4) (Nat.le_of_ble_eq_true rfl)
  rw [lg_entry_eq]
  generalize (lg_sl ([.ref h0, .int x0, .int x1]) ++ List.replicate (4 - (lg_sl ([.ref h0, .int x0, .int x1])).length) Slot.unset).toArray = ls at hl ⊢
  have hl : lv_has ls 4 [(0, .ref h0), (1, .int x0), (2, .int x1)] := hl
  refine lv_aload_n hx hb dX12_search_0 rfl (lv_at hl 0 rfl) ?_
  refine k_cVi (As := []) (rest := []) (wc := [(h0, .inr (12, f0))]) (wr := [(h1, .inl (cI, 2001, .inl g0)), (h2, .inl (cI, 2001, .inl g1)), (h3, .inl (cI, 2001, .inl g2)), (h4, .inl (cI, 2001, .inl g3))]) (w1 := [(h0, .inr (12, (f0.set 0 (.int 0))))]) ⟨hx, hb, hml, hown, hts⟩ hN hX hAE hK hP hD hS hA [0] [1, 2, 3, 4] (ci := 12) rfl rfl rfl rfl (by decide +kernel) (by decide +kernel) (by decide +kernel) (c_X12_asks_0 l E D cI cJ cB cZ h0 f0 e0 e1) (cwV 0 hts gX12_search_X12_asks rfl rfl rfl (by decide +kernel) ⟨Nat.le_of_ble_eq_true rfl, Nat.le_of_ble_eq_true rfl⟩) rfl hl.1 (Nat.le_of_ble_eq_true rfl) dX12_search_1 ⟨Nat.le_of_ble_eq_true rfl, Nat.le_of_ble_eq_true rfl⟩ (fun H locs hP hD hS => ?_)
  have hP : va_P D vwCl [(h1, .inl (cI, 2001, .inl g0)), (h2, .inl (cI, 2001, .inl g1)), (h3, .inl (cI, 2001, .inl g2)), (h4, .inl (cI, 2001, .inl g3)), (h0, .inr (12, (f0.set 0 (.int 0))))] H := hP
  have hD : va_D A [(h1, .inl (cI, 2001, .inl g0)), (h2, .inl (cI, 2001, .inl g1)), (h3, .inl (cI, 2001, .inl g2)), (h4, .inl (cI, 2001, .inl g3)), (h0, .inr (12, (f0.set 0 (.int 0))))] := hD
  refine lv_if_ne (tgt := 10) hx hb dX12_search_4 (by decide) (fun _ => ?_) (fun c9 => absurd c9 (by decide))
  refine lv_aload_n hx hb dX12_search_10 rfl (lv_at hl 0 rfl) ?_
  refine k_cVv (As := []) (rest := []) (wc := [(h0, .inr (12, (f0.set 0 (.int 0)))), (h1, .inl (cI, 2001, .inl g0)), (h2, .inl (cI, 2001, .inl g1)), (h3, .inl (cI, 2001, .inl g2)), (h4, .inl (cI, 2001, .inl g3))]) (wr := []) (w1 := (fun _ : Unit => [(h0, .inr (12, ((((((((f0.set 0 (.int 0)).set 12 (.int 0)).set 2 (.int 0)).set 36 (.int 0)).set 37 (.int 0)).set 27 (.int 0)).set 31 (.int 0)).set 28 (.int 0)))), (h1, .inl (cI, 2001, .inl (upd g0 0 0))), (h2, .inl (cI, 2001, .inl (upd g1 0 0))), (h3, .inl (cI, 2001, .inl (upd g2 0 0))), (h4, .inl (cI, 2001, .inl (upd g3 0 0)))])) ⟨hx, hb, hml, hown, hts⟩ hN hX hAE hK hP hD hS hA [4, 0, 1, 2, 3] [] (ci := 12) rfl rfl rfl rfl (by decide +kernel) (by decide +kernel) (by decide +kernel) (c_X12_begin_0 l E D cI cJ cB cZ h0 ((f0.set 0 (.int 0))) h1 h2 h3 h4 g0 g1 g2 g3 (k_ne (by decide) e2) (k_ne (by decide) e3) (k_ne (by decide) e4) (k_ne (by decide) e5) (k_ne (by decide) e6) (k_ne (by decide) e7) (k_ne (by decide) e8) (k_ne (by decide) e9) (k_ne (by decide) e10) (k_ne (by decide) e11) (k_ne (by decide) e12) (k_ne (by decide) e13) (k_ne (by decide) e14)) (cwV 0 hts gX12_search_X12_begin rfl rfl rfl (by decide +kernel) ⟨Nat.le_of_ble_eq_true rfl, Nat.le_of_ble_eq_true rfl⟩) rfl hl.1 (Nat.le_of_ble_eq_true rfl) dX12_search_11 ⟨Nat.le_of_ble_eq_true rfl, Nat.le_of_ble_eq_true rfl⟩ (fun _ H locs hP hD hS => ?_)
  have hP : va_P D vwCl [(h0, .inr (12, ((((((((f0.set 0 (.int 0)).set 12 (.int 0)).set 2 (.int 0)).set 36 (.int 0)).set 37 (.int 0)).set 27 (.int 0)).set 31 (.int 0)).set 28 (.int 0)))), (h1, .inl (cI, 2001, .inl (upd g0 0 0))), (h2, .inl (cI, 2001, .inl (upd g1 0 0))), (h3, .inl (cI, 2001, .inl (upd g2 0 0))), (h4, .inl (cI, 2001, .inl (upd g3 0 0)))] H := hP
  have hD : va_D A [(h0, .inr (12, ((((((((f0.set 0 (.int 0)).set 12 (.int 0)).set 2 (.int 0)).set 36 (.int 0)).set 37 (.int 0)).set 27 (.int 0)).set 31 (.int 0)).set 28 (.int 0)))), (h1, .inl (cI, 2001, .inl (upd g0 0 0))), (h2, .inl (cI, 2001, .inl (upd g1 0 0))), (h3, .inl (cI, 2001, .inl (upd g2 0 0))), (h4, .inl (cI, 2001, .inl (upd g3 0 0)))] := hD
  refine lv_iload_n hx hb dX12_search_14 rfl (lv_at hl 1 rfl) ?_
  refine lv_i2l (v := (Int32.toInt64 x0)) hx hb dX12_search_15 rfl ?_
  refine lv_lconst (v := 0) hx hb dX12_search_16 (by decide) ?_
  refine lv_lconst (v := 1) hx hb dX12_search_17 (by decide) ?_
  refine k_cSi (As := [.long (Int32.toInt64 x0), .long 0, .long 1]) (rest := []) (wc := []) (wr := [(h0, .inr (12, ((((((((f0.set 0 (.int 0)).set 12 (.int 0)).set 2 (.int 0)).set 36 (.int 0)).set 37 (.int 0)).set 27 (.int 0)).set 31 (.int 0)).set 28 (.int 0)))), (h1, .inl (cI, 2001, .inl (upd g0 0 0))), (h2, .inl (cI, 2001, .inl (upd g1 0 0))), (h3, .inl (cI, 2001, .inl (upd g2 0 0))), (h4, .inl (cI, 2001, .inl (upd g3 0 0)))]) (w1 := []) ⟨hx, hb, hml, hown, hts⟩ hN hX hAE hK hP hD hS hA [] [0, 1, 2, 3, 4] rfl rfl (by decide +kernel) (by decide +kernel) (by decide +kernel) (c_X12_in_14 l E D cI cJ cB cZ (Int32.toInt64 x0) (fun z9 => e15 ((k_n4 (x := x0) (c := 0) (C := 0) (by decide)).mp z9)) (fun z9 => (k_n5 (x := x0) (c := 1) (d := 2) (C := 1) (by decide) (by decide)).mp z9 e16)) (va_cwS 3 hts gX12_search_X12_in rfl rfl rfl (by decide +kernel) ⟨Nat.le_of_ble_eq_true rfl, Nat.le_of_ble_eq_true rfl⟩) rfl hl.1 (Nat.le_of_ble_eq_true rfl) dX12_search_18 ⟨Nat.le_of_ble_eq_true rfl, Nat.le_of_ble_eq_true rfl⟩ (fun H locs hP hD hS => ?_)
  have hP : va_P D vwCl [(h0, .inr (12, ((((((((f0.set 0 (.int 0)).set 12 (.int 0)).set 2 (.int 0)).set 36 (.int 0)).set 37 (.int 0)).set 27 (.int 0)).set 31 (.int 0)).set 28 (.int 0)))), (h1, .inl (cI, 2001, .inl (upd g0 0 0))), (h2, .inl (cI, 2001, .inl (upd g1 0 0))), (h3, .inl (cI, 2001, .inl (upd g2 0 0))), (h4, .inl (cI, 2001, .inl (upd g3 0 0)))] H := hP
  have hD : va_D A [(h0, .inr (12, ((((((((f0.set 0 (.int 0)).set 12 (.int 0)).set 2 (.int 0)).set 36 (.int 0)).set 37 (.int 0)).set 27 (.int 0)).set 31 (.int 0)).set 28 (.int 0)))), (h1, .inl (cI, 2001, .inl (upd g0 0 0))), (h2, .inl (cI, 2001, .inl (upd g1 0 0))), (h3, .inl (cI, 2001, .inl (upd g2 0 0))), (h4, .inl (cI, 2001, .inl (upd g3 0 0)))] := hD
  refine lv_if_eq (tgt := 36) hx hb dX12_search_21 (by decide) (fun c9 => absurd c9 (by decide)) (fun _ => ?_)
  refine lv_iload_n hx hb dX12_search_24 rfl (lv_at hl 2 rfl) ?_
  refine lv_i2l (v := (Int32.toInt64 x1)) hx hb dX12_search_25 rfl ?_
  refine lv_lconst (v := 1) hx hb dX12_search_26 (by decide) ?_
  refine lv_ldc2 (own := RX12) (index := 560) (v := 100) hx hb hown (hts (.constantLong RX12 560 (100)) (List.mem_cons_of_mem _ (List.mem_append_left _ (List.mem_append_left _ (List.mem_of_getElem? (i := 0) rfl))))) dX12_search_27 ?_
  refine k_cSi (As := [.long (Int32.toInt64 x1), .long 1, .long 100]) (rest := []) (wc := []) (wr := [(h0, .inr (12, ((((((((f0.set 0 (.int 0)).set 12 (.int 0)).set 2 (.int 0)).set 36 (.int 0)).set 37 (.int 0)).set 27 (.int 0)).set 31 (.int 0)).set 28 (.int 0)))), (h1, .inl (cI, 2001, .inl (upd g0 0 0))), (h2, .inl (cI, 2001, .inl (upd g1 0 0))), (h3, .inl (cI, 2001, .inl (upd g2 0 0))), (h4, .inl (cI, 2001, .inl (upd g3 0 0)))]) (w1 := []) ⟨hx, hb, hml, hown, hts⟩ hN hX hAE hK hP hD hS hA [] [0, 1, 2, 3, 4] rfl rfl (by decide +kernel) (by decide +kernel) (by decide +kernel) (c_X12_in_10 l E D cI cJ cB cZ (Int32.toInt64 x1) ((k_n4 (x := x1) (c := 1) (C := 1) (by decide)).mpr e17)) (va_cwS 3 hts gX12_search_X12_in rfl rfl rfl (by decide +kernel) ⟨Nat.le_of_ble_eq_true rfl, Nat.le_of_ble_eq_true rfl⟩) rfl hl.1 (Nat.le_of_ble_eq_true rfl) dX12_search_30 ⟨Nat.le_of_ble_eq_true rfl, Nat.le_of_ble_eq_true rfl⟩ (fun H locs hP hD hS => ?_)
  have hP : va_P D vwCl [(h0, .inr (12, ((((((((f0.set 0 (.int 0)).set 12 (.int 0)).set 2 (.int 0)).set 36 (.int 0)).set 37 (.int 0)).set 27 (.int 0)).set 31 (.int 0)).set 28 (.int 0)))), (h1, .inl (cI, 2001, .inl (upd g0 0 0))), (h2, .inl (cI, 2001, .inl (upd g1 0 0))), (h3, .inl (cI, 2001, .inl (upd g2 0 0))), (h4, .inl (cI, 2001, .inl (upd g3 0 0)))] H := hP
  have hD : va_D A [(h0, .inr (12, ((((((((f0.set 0 (.int 0)).set 12 (.int 0)).set 2 (.int 0)).set 36 (.int 0)).set 37 (.int 0)).set 27 (.int 0)).set 31 (.int 0)).set 28 (.int 0)))), (h1, .inl (cI, 2001, .inl (upd g0 0 0))), (h2, .inl (cI, 2001, .inl (upd g1 0 0))), (h3, .inl (cI, 2001, .inl (upd g2 0 0))), (h4, .inl (cI, 2001, .inl (upd g3 0 0)))] := hD
  refine lv_if_ne (tgt := 39) hx hb dX12_search_33 (by decide) (fun c9 => absurd (by decide) c9) (fun _ => ?_)
  refine lv_bipush (v := (-102)) hx hb dX12_search_36 (by decide) ?_
  exact W.iret (v := (-102)) hx hb hr (fun t ht hW => ⟨⟨(-102), (), rfl, rfl, kB_mk ht hW hP hK hD⟩, hS.F ht⟩) hS.2.2 dX12_search_38
set_option maxHeartbeats 400000000 in
set_option maxRecDepth 100000 in
theorem c_X11_search_3 (l : Launch) (E : kE) (D : va_G) (cI cJ cB cZ : ClassId) (h0 : Nat) (x0 : Int32) (x1 : Int32) (f0 : List Value) (h1 : Nat) (f1 : List Value) (e0 : f0[1]? = some (.ref h1)) (e1 : f1[8]? = some (.int 0)) (e2 : f0[12]? = some (.int 0)) (e3 : ¬ ((x0 : Int32) < 0)) (e4 : (x0 : Int32) < 2) (e5 : ¬ ((x1 : Int32) < 1)) (e6 : ¬ ((x1 : Int32) < 101)) : kI l E D (kT cI cJ cB cZ) yX11_search wsX11_search ({ frames := 1, cells := 0, slots := 0, locals := 21 }) [.ref h0, .int x0, .int x1] [(h0, .inr (11, f0)), (h1, .inr (1, f1))] ((-102)) [(h0, .inr (11, (f0.set 12 (.int 0)))), (h1, .inr (1, f1))] 0 0 := by
  intro sz
  refine Met.ofW (cc := cX11_search) (maxL := 4) (ret := (some .int)) (by decide) rfl ?_
  intro p e s m args below meth c s₁ B hml hv
  obtain ⟨rfl, hsz, hP, hK, hD0, hN, hX⟩ := hv
  have hx := B.exec
  have hb := B.bytes
  have hr := B.returns
  have hts := atoms_spec (ws := wsX11_search) B.pre
  have hown : s.vm.findClass RX11 = some m.cls := findClass_of_methodNamed B.named
  have hlocks := B.notSynchronized
  have hin11 : ∀ w ∈ wsX110, w ∈ wsX11_search := (fun w h => (List.mem_cons_of_mem _ (List.mem_append_left _ (List.mem_append_left _ (List.mem_append_left _ (List.mem_append_left _ (List.mem_append_left _ (List.mem_append_left _ (List.mem_append_left _ (List.mem_append_right _ h))))))))))
  have hin1 : ∀ w ∈ wsX10, w ∈ wsX11_search := (fun w h => (List.mem_cons_of_mem _ (List.mem_append_left _ (List.mem_append_left _ (List.mem_append_left _ (List.mem_append_left _ (List.mem_append_left _ (List.mem_append_left _ (List.mem_append_right _ h)))))))))
  subst hsz
  have hD := hD0.self (sz := s.heap.size)
  have hAE := k_AE hD0 hX
  generalize hAe : va_A [(h0, .inr (11, f0)), (h1, .inr (1, f1))] s.heap.size = A at hD hAE ⊢
  have hA : ∀ q : Nat, s.heap.size ≤ q → A q := fun q h => by rw [← hAe]; exact Or.inr h
  have hS : va_S A s.heap s.heap [] := va_S.rf
  have hP : va_P D vwCl [(h0, .inr (11, f0)), (h1, .inr (1, f1))] s.heap := hP
  have hl := lv_entry ([.ref h0, .int x0, .int x1] : List Value) (n := 4) (Nat.le_of_ble_eq_true rfl)
  rw [lg_entry_eq]
  generalize (lg_sl ([.ref h0, .int x0, .int x1]) ++ List.replicate (4 - (lg_sl ([.ref h0, .int x0, .int x1])).length) Slot.unset).toArray = ls at hl ⊢
  have hl : lv_has ls 4 [(0, .ref h0), (1, .int x0), (2, .int x1)] := hl
  refine lv_aload_n hx hb dX11_search_0 rfl (lv_at hl 0 rfl) ?_
  refine va_get (D := D) (ref := "IntegerHouse") (ci := 11) (v := .ref h1) (C := RX11) (T := TX11) (N := 15) hx hb hts hin11 hown hK hP 0 rfl rfl 1 (by decide) (hts (.fieldLink RX11 16 "IntegerHouse" "disk" "LIntegerHouse$Disk;") (List.mem_cons_of_mem _ (List.mem_append_left _ (List.mem_append_left _ (List.mem_append_left _ (List.mem_append_left _ (List.mem_append_left _ (List.mem_append_left _ (List.mem_append_left _ (List.mem_append_left _ (List.mem_append_left _ (List.mem_of_getElem? (i := 0) rfl)))))))))))) (fun _ h9 => h9) e0 dX11_search_1 ?_
  refine va_getN (host := "IntegerHouse") (D := D) (ref := "IntegerHouse$Disk") (ci := 1) (v := .int 0) (C := RX1) (T := TX1) (N := 9) hx hb hts hin1 hown hK hP 1 rfl rfl 8 (by decide) (va_Nw.use rfl (hN.1 ("IntegerHouse", 122, "IntegerHouse$Disk", "down", "Z", "IntegerHouse") (List.mem_of_getElem? (i := 3) rfl))) (fun _ h9 => h9) e1 dX11_search_4 ?_
  refine lv_if_eq (tgt := 13) hx hb dX11_search_7 (by decide) (fun _ => ?_) (fun c9 => absurd (by decide) c9)
  refine lv_aload_n hx hb dX11_search_13 rfl (lv_at hl 0 rfl) ?_
  refine k_cVi (As := []) (rest := []) (wc := [(h0, .inr (11, f0))]) (wr := [(h1, .inr (1, f1))]) (w1 := [(h0, .inr (11, (f0.set 12 (.int 0))))]) ⟨hx, hb, hml, hown, hts⟩ hN hX hAE hK hP hD hS hA [0] [1] (ci := 11) rfl rfl rfl rfl (by decide +kernel) (by decide +kernel) (by decide +kernel) (c_X11_useTape_0 l E D cI cJ cB cZ h0 f0 e2) (cwV 0 hts gX11_search_X11_useTape rfl rfl rfl (by decide +kernel) ⟨Nat.le_of_ble_eq_true rfl, Nat.le_of_ble_eq_true rfl⟩) rfl hl.1 (Nat.le_of_ble_eq_true rfl) dX11_search_14 ⟨Nat.le_of_ble_eq_true rfl, Nat.le_of_ble_eq_true rfl⟩ (fun H locs hP hD hS => ?_)
  have hP : va_P D vwCl [(h1, .inr (1, f1)), (h0, .inr (11, (f0.set 12 (.int 0))))] H := hP
  have hD : va_D A [(h1, .inr (1, f1)), (h0, .inr (11, (f0.set 12 (.int 0))))] := hD
  refine lv_istore_n (lv' := [(3, .int 0), (0, .ref h0), (1, .int x0), (2, .int x1)]) hx hb dX11_search_17 rfl hl (by decide) rfl (fun ls hl => ?_)
  refine lv_iload_n hx hb dX11_search_18 rfl (lv_at hl 2 rfl) ?_
  refine lv_if_lt (tgt := 38) hx hb dX11_search_19 (by decide) (fun c9 => absurd c9 e3) (fun _ => ?_)
  refine lv_iload_n hx hb dX11_search_22 rfl (lv_at hl 2 rfl) ?_
  refine lv_iconst (v := 1) hx hb dX11_search_23 (by decide) ?_
  refine lv_icmp_gt (tgt := 38) hx hb dX11_search_24 (by decide) (fun c9 => absurd c9 (fun z9 => (k_n3 (x := x0) (c := 1) (d := 2) (by decide)).mp z9 e4)) (fun _ => ?_)
  refine lv_iload_n hx hb dX11_search_27 rfl (lv_at hl 3 rfl) ?_
  refine lv_iconst (v := 1) hx hb dX11_search_28 (by decide) ?_
  refine lv_icmp_lt (tgt := 38) hx hb dX11_search_29 (by decide) (fun c9 => absurd c9 e5) (fun _ => ?_)
  refine lv_iload_n hx hb dX11_search_32 rfl (lv_at hl 3 rfl) ?_
  refine lv_bipush (v := 100) hx hb dX11_search_33 (by decide) ?_
  refine lv_icmp_le (tgt := 41) hx hb dX11_search_35 (by decide) (fun c9 => absurd c9 (fun z9 => e6 ((k_n1 (x := x1) (c := 100) (d := 101) (by decide)).mp z9))) (fun _ => ?_)
  refine lv_bipush (v := (-102)) hx hb dX11_search_38 (by decide) ?_
  have hP := hP.sub (ws' := [(h0, .inr (11, (f0.set 12 (.int 0)))), (h1, .inr (1, f1))]) [1, 0] rfl
  have hD := hD.sub (ws' := [(h0, .inr (11, (f0.set 12 (.int 0)))), (h1, .inr (1, f1))]) [1, 0] (by decide +kernel) rfl
  exact W.iret (v := (-102)) hx hb hr (fun t ht hW => ⟨⟨(-102), (), rfl, rfl, kB_mk ht hW hP hK hD⟩, hS.F ht⟩) hS.2.2 dX11_search_40
set_option maxHeartbeats 400000000 in
set_option maxRecDepth 100000 in
theorem c_X12_search_3 (l : Launch) (E : kE) (D : va_G) (cI cJ cB cZ : ClassId) (h0 : Nat) (x0 : Int32) (x1 : Int32) (f0 : List Value) (h1 : Nat) (h2 : Nat) (h3 : Nat) (h4 : Nat) (g0 : Nat → Int32) (g1 : Nat → Int32) (g2 : Nat → Int32) (g3 : Nat → Int32) (e0 : f0[0]? = some (.int 0)) (e1 : f0[5]? = some (.int 0)) (e2 : f0[2]? = some (.int 0)) (e3 : f0[12]? = some (.int 0)) (e4 : f0[32]? = some (.int 0)) (e5 : f0[36]? = some (.int 0)) (e6 : f0[33]? = some (.int 0)) (e7 : f0[37]? = some (.int 0)) (e8 : f0[27]? = some (.int 0)) (e9 : f0[31]? = some (.int 0)) (e10 : f0[28]? = some (.int 0)) (e11 : f0[23]? = some (.ref h1)) (e12 : f0[24]? = some (.ref h2)) (e13 : f0[25]? = some (.ref h3)) (e14 : f0[26]? = some (.ref h4)) (e15 : ¬ ((x0 : Int32) < 0)) (e16 : (x0 : Int32) < 2) (e17 : ¬ ((x1 : Int32) < 1)) (e18 : ¬ ((x1 : Int32) < 101)) : kI l E D (kT cI cJ cB cZ) yX12_search wsX12_search ({ frames := 3, cells := 0, slots := 0, locals := 68 }) [.ref h0, .int x0, .int x1] [(h0, .inr (12, f0)), (h1, .inl (cI, 2001, .inl g0)), (h2, .inl (cI, 2001, .inl g1)), (h3, .inl (cI, 2001, .inl g2)), (h4, .inl (cI, 2001, .inl g3))] ((-102)) [(h0, .inr (12, ((((((((f0.set 0 (.int 0)).set 12 (.int 0)).set 2 (.int 0)).set 36 (.int 0)).set 37 (.int 0)).set 27 (.int 0)).set 31 (.int 0)).set 28 (.int 0)))), (h1, .inl (cI, 2001, .inl (upd g0 0 0))), (h2, .inl (cI, 2001, .inl (upd g1 0 0))), (h3, .inl (cI, 2001, .inl (upd g2 0 0))), (h4, .inl (cI, 2001, .inl (upd g3 0 0)))] 0 0 := by
  intro sz
  refine Met.ofW (cc := cX12_search) (maxL := 4) (ret := (some .int)) (by decide) rfl ?_
  intro p e s m args below meth c s₁ B hml hv
  obtain ⟨rfl, hsz, hP, hK, hD0, hN, hX⟩ := hv
  have hx := B.exec
  have hb := B.bytes
  have hr := B.returns
  have hts := atoms_spec (ws := wsX12_search) B.pre
  have hown : s.vm.findClass RX12 = some m.cls := findClass_of_methodNamed B.named
  have hlocks := B.notSynchronized
  subst hsz
  have hD := hD0.self (sz := s.heap.size)
  have hAE := k_AE hD0 hX
  generalize hAe : va_A [(h0, .inr (12, f0)), (h1, .inl (cI, 2001, .inl g0)), (h2, .inl (cI, 2001, .inl g1)), (h3, .inl (cI, 2001, .inl g2)), (h4, .inl (cI, 2001, .inl g3))] s.heap.size = A at hD hAE ⊢
  have hA : ∀ q : Nat, s.heap.size ≤ q → A q := fun q h => by rw [← hAe]; exact Or.inr h
  have hS : va_S A s.heap s.heap [] := va_S.rf
  have hP : va_P D vwCl [(h0, .inr (12, f0)), (h1, .inl (cI, 2001, .inl g0)), (h2, .inl (cI, 2001, .inl g1)), (h3, .inl (cI, 2001, .inl g2)), (h4, .inl (cI, 2001, .inl g3))] s.heap := hP
  have hl := lv_entry ([.ref h0, .int x0, .int x1] : List Value) (n := 4) (Nat.le_of_ble_eq_true rfl)
  rw [lg_entry_eq]
  generalize (lg_sl ([.ref h0, .int x0, .int x1]) ++ List.replicate (4 - (lg_sl ([.ref h0, .int x0, .int x1])).length) Slot.unset).toArray = ls at hl ⊢
  have hl : lv_has ls 4 [(0, .ref h0), (1, .int x0), (2, .int x1)] := hl
  refine lv_aload_n hx hb dX12_search_0 rfl (lv_at hl 0 rfl) ?_
  refine k_cVi (As := []) (rest := []) (wc := [(h0, .inr (12, f0))]) (wr := [(h1, .inl (cI, 2001, .inl g0)), (h2, .inl (cI, 2001, .inl g1)), (h3, .inl (cI, 2001, .inl g2)), (h4, .inl (cI, 2001, .inl g3))]) (w1 := [(h0, .inr (12, (f0.set 0 (.int 0))))]) ⟨hx, hb, hml, hown, hts⟩ hN hX hAE hK hP hD hS hA [0] [1, 2, 3, 4] (ci := 12) rfl rfl rfl rfl (by decide +kernel) (by decide +kernel) (by decide +kernel) (c_X12_asks_0 l E D cI cJ cB cZ h0 f0 e0 e1) (cwV 0 hts gX12_search_X12_asks rfl rfl rfl (by decide +kernel) ⟨Nat.le_of_ble_eq_true rfl, Nat.le_of_ble_eq_true rfl⟩) rfl hl.1 (Nat.le_of_ble_eq_true rfl) dX12_search_1 ⟨Nat.le_of_ble_eq_true rfl, Nat.le_of_ble_eq_true rfl⟩ (fun H locs hP hD hS => ?_)
  have hP : va_P D vwCl [(h1, .inl (cI, 2001, .inl g0)), (h2, .inl (cI, 2001, .inl g1)), (h3, .inl (cI, 2001, .inl g2)), (h4, .inl (cI, 2001, .inl g3)), (h0, .inr (12, (f0.set 0 (.int 0))))] H := hP
  have hD : va_D A [(h1, .inl (cI, 2001, .inl g0)), (h2, .inl (cI, 2001, .inl g1)), (h3, .inl (cI, 2001, .inl g2)), (h4, .inl (cI, 2001, .inl g3)), (h0, .inr (12, (f0.set 0 (.int 0))))] := hD
  refine lv_if_ne (tgt := 10) hx hb dX12_search_4 (by decide) (fun _ => ?_) (fun c9 => absurd c9 (by decide))
  refine lv_aload_n hx hb dX12_search_10 rfl (lv_at hl 0 rfl) ?_
  refine k_cVv (As := []) (rest := []) (wc := [(h0, .inr (12, (f0.set 0 (.int 0)))), (h1, .inl (cI, 2001, .inl g0)), (h2, .inl (cI, 2001, .inl g1)), (h3, .inl (cI, 2001, .inl g2)), (h4, .inl (cI, 2001, .inl g3))]) (wr := []) (w1 := (fun _ : Unit => [(h0, .inr (12, ((((((((f0.set 0 (.int 0)).set 12 (.int 0)).set 2 (.int 0)).set 36 (.int 0)).set 37 (.int 0)).set 27 (.int 0)).set 31 (.int 0)).set 28 (.int 0)))), (h1, .inl (cI, 2001, .inl (upd g0 0 0))), (h2, .inl (cI, 2001, .inl (upd g1 0 0))), (h3, .inl (cI, 2001, .inl (upd g2 0 0))), (h4, .inl (cI, 2001, .inl (upd g3 0 0)))])) ⟨hx, hb, hml, hown, hts⟩ hN hX hAE hK hP hD hS hA [4, 0, 1, 2, 3] [] (ci := 12) rfl rfl rfl rfl (by decide +kernel) (by decide +kernel) (by decide +kernel) (c_X12_begin_0 l E D cI cJ cB cZ h0 ((f0.set 0 (.int 0))) h1 h2 h3 h4 g0 g1 g2 g3 (k_ne (by decide) e2) (k_ne (by decide) e3) (k_ne (by decide) e4) (k_ne (by decide) e5) (k_ne (by decide) e6) (k_ne (by decide) e7) (k_ne (by decide) e8) (k_ne (by decide) e9) (k_ne (by decide) e10) (k_ne (by decide) e11) (k_ne (by decide) e12) (k_ne (by decide) e13) (k_ne (by decide) e14)) (cwV 0 hts gX12_search_X12_begin rfl rfl rfl (by decide +kernel) ⟨Nat.le_of_ble_eq_true rfl, Nat.le_of_ble_eq_true rfl⟩) rfl hl.1 (Nat.le_of_ble_eq_true rfl) dX12_search_11 ⟨Nat.le_of_ble_eq_true rfl, Nat.le_of_ble_eq_true rfl⟩ (fun _ H locs hP hD hS => ?_)
  have hP : va_P D vwCl [(h0, .inr (12, ((((((((f0.set 0 (.int 0)).set 12 (.int 0)).set 2 (.int 0)).set 36 (.int 0)).set 37 (.int 0)).set 27 (.int 0)).set 31 (.int 0)).set 28 (.int 0)))), (h1, .inl (cI, 2001, .inl (upd g0 0 0))), (h2, .inl (cI, 2001, .inl (upd g1 0 0))), (h3, .inl (cI, 2001, .inl (upd g2 0 0))), (h4, .inl (cI, 2001, .inl (upd g3 0 0)))] H := hP
  have hD : va_D A [(h0, .inr (12, ((((((((f0.set 0 (.int 0)).set 12 (.int 0)).set 2 (.int 0)).set 36 (.int 0)).set 37 (.int 0)).set 27 (.int 0)).set 31 (.int 0)).set 28 (.int 0)))), (h1, .inl (cI, 2001, .inl (upd g0 0 0))), (h2, .inl (cI, 2001, .inl (upd g1 0 0))), (h3, .inl (cI, 2001, .inl (upd g2 0 0))), (h4, .inl (cI, 2001, .inl (upd g3 0 0)))] := hD
  refine lv_iload_n hx hb dX12_search_14 rfl (lv_at hl 1 rfl) ?_
  refine lv_i2l (v := (Int32.toInt64 x0)) hx hb dX12_search_15 rfl ?_
  refine lv_lconst (v := 0) hx hb dX12_search_16 (by decide) ?_
  refine lv_lconst (v := 1) hx hb dX12_search_17 (by decide) ?_
  refine k_cSi (As := [.long (Int32.toInt64 x0), .long 0, .long 1]) (rest := []) (wc := []) (wr := [(h0, .inr (12, ((((((((f0.set 0 (.int 0)).set 12 (.int 0)).set 2 (.int 0)).set 36 (.int 0)).set 37 (.int 0)).set 27 (.int 0)).set 31 (.int 0)).set 28 (.int 0)))), (h1, .inl (cI, 2001, .inl (upd g0 0 0))), (h2, .inl (cI, 2001, .inl (upd g1 0 0))), (h3, .inl (cI, 2001, .inl (upd g2 0 0))), (h4, .inl (cI, 2001, .inl (upd g3 0 0)))]) (w1 := []) ⟨hx, hb, hml, hown, hts⟩ hN hX hAE hK hP hD hS hA [] [0, 1, 2, 3, 4] rfl rfl (by decide +kernel) (by decide +kernel) (by decide +kernel) (c_X12_in_14 l E D cI cJ cB cZ (Int32.toInt64 x0) (fun z9 => e15 ((k_n4 (x := x0) (c := 0) (C := 0) (by decide)).mp z9)) (fun z9 => (k_n5 (x := x0) (c := 1) (d := 2) (C := 1) (by decide) (by decide)).mp z9 e16)) (va_cwS 3 hts gX12_search_X12_in rfl rfl rfl (by decide +kernel) ⟨Nat.le_of_ble_eq_true rfl, Nat.le_of_ble_eq_true rfl⟩) rfl hl.1 (Nat.le_of_ble_eq_true rfl) dX12_search_18 ⟨Nat.le_of_ble_eq_true rfl, Nat.le_of_ble_eq_true rfl⟩ (fun H locs hP hD hS => ?_)
  have hP : va_P D vwCl [(h0, .inr (12, ((((((((f0.set 0 (.int 0)).set 12 (.int 0)).set 2 (.int 0)).set 36 (.int 0)).set 37 (.int 0)).set 27 (.int 0)).set 31 (.int 0)).set 28 (.int 0)))), (h1, .inl (cI, 2001, .inl (upd g0 0 0))), (h2, .inl (cI, 2001, .inl (upd g1 0 0))), (h3, .inl (cI, 2001, .inl (upd g2 0 0))), (h4, .inl (cI, 2001, .inl (upd g3 0 0)))] H := hP
  have hD : va_D A [(h0, .inr (12, ((((((((f0.set 0 (.int 0)).set 12 (.int 0)).set 2 (.int 0)).set 36 (.int 0)).set 37 (.int 0)).set 27 (.int 0)).set 31 (.int 0)).set 28 (.int 0)))), (h1, .inl (cI, 2001, .inl (upd g0 0 0))), (h2, .inl (cI, 2001, .inl (upd g1 0 0))), (h3, .inl (cI, 2001, .inl (upd g2 0 0))), (h4, .inl (cI, 2001, .inl (upd g3 0 0)))] := hD
  refine lv_if_eq (tgt := 36) hx hb dX12_search_21 (by decide) (fun c9 => absurd c9 (by decide)) (fun _ => ?_)
  refine lv_iload_n hx hb dX12_search_24 rfl (lv_at hl 2 rfl) ?_
  refine lv_i2l (v := (Int32.toInt64 x1)) hx hb dX12_search_25 rfl ?_
  refine lv_lconst (v := 1) hx hb dX12_search_26 (by decide) ?_
  refine lv_ldc2 (own := RX12) (index := 560) (v := 100) hx hb hown (hts (.constantLong RX12 560 (100)) (List.mem_cons_of_mem _ (List.mem_append_left _ (List.mem_append_left _ (List.mem_of_getElem? (i := 0) rfl))))) dX12_search_27 ?_
  refine k_cSi (As := [.long (Int32.toInt64 x1), .long 1, .long 100]) (rest := []) (wc := []) (wr := [(h0, .inr (12, ((((((((f0.set 0 (.int 0)).set 12 (.int 0)).set 2 (.int 0)).set 36 (.int 0)).set 37 (.int 0)).set 27 (.int 0)).set 31 (.int 0)).set 28 (.int 0)))), (h1, .inl (cI, 2001, .inl (upd g0 0 0))), (h2, .inl (cI, 2001, .inl (upd g1 0 0))), (h3, .inl (cI, 2001, .inl (upd g2 0 0))), (h4, .inl (cI, 2001, .inl (upd g3 0 0)))]) (w1 := []) ⟨hx, hb, hml, hown, hts⟩ hN hX hAE hK hP hD hS hA [] [0, 1, 2, 3, 4] rfl rfl (by decide +kernel) (by decide +kernel) (by decide +kernel) (c_X12_in_11 l E D cI cJ cB cZ (Int32.toInt64 x1) (fun z9 => e17 ((k_n4 (x := x1) (c := 1) (C := 1) (by decide)).mp z9)) ((k_n5 (x := x1) (c := 100) (d := 101) (C := 100) (by decide) (by decide)).mpr e18)) (va_cwS 3 hts gX12_search_X12_in rfl rfl rfl (by decide +kernel) ⟨Nat.le_of_ble_eq_true rfl, Nat.le_of_ble_eq_true rfl⟩) rfl hl.1 (Nat.le_of_ble_eq_true rfl) dX12_search_30 ⟨Nat.le_of_ble_eq_true rfl, Nat.le_of_ble_eq_true rfl⟩ (fun H locs hP hD hS => ?_)
  have hP : va_P D vwCl [(h0, .inr (12, ((((((((f0.set 0 (.int 0)).set 12 (.int 0)).set 2 (.int 0)).set 36 (.int 0)).set 37 (.int 0)).set 27 (.int 0)).set 31 (.int 0)).set 28 (.int 0)))), (h1, .inl (cI, 2001, .inl (upd g0 0 0))), (h2, .inl (cI, 2001, .inl (upd g1 0 0))), (h3, .inl (cI, 2001, .inl (upd g2 0 0))), (h4, .inl (cI, 2001, .inl (upd g3 0 0)))] H := hP
  have hD : va_D A [(h0, .inr (12, ((((((((f0.set 0 (.int 0)).set 12 (.int 0)).set 2 (.int 0)).set 36 (.int 0)).set 37 (.int 0)).set 27 (.int 0)).set 31 (.int 0)).set 28 (.int 0)))), (h1, .inl (cI, 2001, .inl (upd g0 0 0))), (h2, .inl (cI, 2001, .inl (upd g1 0 0))), (h3, .inl (cI, 2001, .inl (upd g2 0 0))), (h4, .inl (cI, 2001, .inl (upd g3 0 0)))] := hD
  refine lv_if_ne (tgt := 39) hx hb dX12_search_33 (by decide) (fun c9 => absurd (by decide) c9) (fun _ => ?_)
  refine lv_bipush (v := (-102)) hx hb dX12_search_36 (by decide) ?_
  exact W.iret (v := (-102)) hx hb hr (fun t ht hW => ⟨⟨(-102), (), rfl, rfl, kB_mk ht hW hP hK hD⟩, hS.F ht⟩) hS.2.2 dX12_search_38
set_option maxHeartbeats 400000000 in
set_option maxRecDepth 100000 in
theorem c_X11_search_4 (l : Launch) (E : kE) (D : va_G) (cI cJ cB cZ : ClassId) (h0 : Nat) (x0 : Int32) (x1 : Int32) (f0 : List Value) (h1 : Nat) (f1 : List Value) (e0 : f0[1]? = some (.ref h1)) (e1 : f1[8]? = some (.int 0)) (e2 : f0[12]? = some (.int 0)) (e3 : ¬ ((x0 : Int32) < 0)) (e4 : ¬ ((x0 : Int32) < 2)) : kI l E D (kT cI cJ cB cZ) yX11_search wsX11_search ({ frames := 1, cells := 0, slots := 0, locals := 21 }) [.ref h0, .int x0, .int x1] [(h0, .inr (11, f0)), (h1, .inr (1, f1))] ((-102)) [(h0, .inr (11, (f0.set 12 (.int 0)))), (h1, .inr (1, f1))] 0 0 := by
  intro sz
  refine Met.ofW (cc := cX11_search) (maxL := 4) (ret := (some .int)) (by decide) rfl ?_
  intro p e s m args below meth c s₁ B hml hv
  obtain ⟨rfl, hsz, hP, hK, hD0, hN, hX⟩ := hv
  have hx := B.exec
  have hb := B.bytes
  have hr := B.returns
  have hts := atoms_spec (ws := wsX11_search) B.pre
  have hown : s.vm.findClass RX11 = some m.cls := findClass_of_methodNamed B.named
  have hlocks := B.notSynchronized
  have hin11 : ∀ w ∈ wsX110, w ∈ wsX11_search := (fun w h => (List.mem_cons_of_mem _ (List.mem_append_left _ (List.mem_append_left _ (List.mem_append_left _ (List.mem_append_left _ (List.mem_append_left _ (List.mem_append_left _ (List.mem_append_left _ (List.mem_append_right _ h))))))))))
  have hin1 : ∀ w ∈ wsX10, w ∈ wsX11_search := (fun w h => (List.mem_cons_of_mem _ (List.mem_append_left _ (List.mem_append_left _ (List.mem_append_left _ (List.mem_append_left _ (List.mem_append_left _ (List.mem_append_left _ (List.mem_append_right _ h)))))))))
  subst hsz
  have hD := hD0.self (sz := s.heap.size)
  have hAE := k_AE hD0 hX
  generalize hAe : va_A [(h0, .inr (11, f0)), (h1, .inr (1, f1))] s.heap.size = A at hD hAE ⊢
  have hA : ∀ q : Nat, s.heap.size ≤ q → A q := fun q h => by rw [← hAe]; exact Or.inr h
  have hS : va_S A s.heap s.heap [] := va_S.rf
  have hP : va_P D vwCl [(h0, .inr (11, f0)), (h1, .inr (1, f1))] s.heap := hP
  have hl := lv_entry ([.ref h0, .int x0, .int x1] : List Value) (n := 4) (Nat.le_of_ble_eq_true rfl)
  rw [lg_entry_eq]
  generalize (lg_sl ([.ref h0, .int x0, .int x1]) ++ List.replicate (4 - (lg_sl ([.ref h0, .int x0, .int x1])).length) Slot.unset).toArray = ls at hl ⊢
  have hl : lv_has ls 4 [(0, .ref h0), (1, .int x0), (2, .int x1)] := hl
  refine lv_aload_n hx hb dX11_search_0 rfl (lv_at hl 0 rfl) ?_
  refine va_get (D := D) (ref := "IntegerHouse") (ci := 11) (v := .ref h1) (C := RX11) (T := TX11) (N := 15) hx hb hts hin11 hown hK hP 0 rfl rfl 1 (by decide) (hts (.fieldLink RX11 16 "IntegerHouse" "disk" "LIntegerHouse$Disk;") (List.mem_cons_of_mem _ (List.mem_append_left _ (List.mem_append_left _ (List.mem_append_left _ (List.mem_append_left _ (List.mem_append_left _ (List.mem_append_left _ (List.mem_append_left _ (List.mem_append_left _ (List.mem_append_left _ (List.mem_of_getElem? (i := 0) rfl)))))))))))) (fun _ h9 => h9) e0 dX11_search_1 ?_
  refine va_getN (host := "IntegerHouse") (D := D) (ref := "IntegerHouse$Disk") (ci := 1) (v := .int 0) (C := RX1) (T := TX1) (N := 9) hx hb hts hin1 hown hK hP 1 rfl rfl 8 (by decide) (va_Nw.use rfl (hN.1 ("IntegerHouse", 122, "IntegerHouse$Disk", "down", "Z", "IntegerHouse") (List.mem_of_getElem? (i := 3) rfl))) (fun _ h9 => h9) e1 dX11_search_4 ?_
  refine lv_if_eq (tgt := 13) hx hb dX11_search_7 (by decide) (fun _ => ?_) (fun c9 => absurd (by decide) c9)
  refine lv_aload_n hx hb dX11_search_13 rfl (lv_at hl 0 rfl) ?_
  refine k_cVi (As := []) (rest := []) (wc := [(h0, .inr (11, f0))]) (wr := [(h1, .inr (1, f1))]) (w1 := [(h0, .inr (11, (f0.set 12 (.int 0))))]) ⟨hx, hb, hml, hown, hts⟩ hN hX hAE hK hP hD hS hA [0] [1] (ci := 11) rfl rfl rfl rfl (by decide +kernel) (by decide +kernel) (by decide +kernel) (c_X11_useTape_0 l E D cI cJ cB cZ h0 f0 e2) (cwV 0 hts gX11_search_X11_useTape rfl rfl rfl (by decide +kernel) ⟨Nat.le_of_ble_eq_true rfl, Nat.le_of_ble_eq_true rfl⟩) rfl hl.1 (Nat.le_of_ble_eq_true rfl) dX11_search_14 ⟨Nat.le_of_ble_eq_true rfl, Nat.le_of_ble_eq_true rfl⟩ (fun H locs hP hD hS => ?_)
  have hP : va_P D vwCl [(h1, .inr (1, f1)), (h0, .inr (11, (f0.set 12 (.int 0))))] H := hP
  have hD : va_D A [(h1, .inr (1, f1)), (h0, .inr (11, (f0.set 12 (.int 0))))] := hD
  refine lv_istore_n (lv' := [(3, .int 0), (0, .ref h0), (1, .int x0), (2, .int x1)]) hx hb dX11_search_17 rfl hl (by decide) rfl (fun ls hl => ?_)
  refine lv_iload_n hx hb dX11_search_18 rfl (lv_at hl 2 rfl) ?_
  refine lv_if_lt (tgt := 38) hx hb dX11_search_19 (by decide) (fun c9 => absurd c9 e3) (fun _ => ?_)
  refine lv_iload_n hx hb dX11_search_22 rfl (lv_at hl 2 rfl) ?_
  refine lv_iconst (v := 1) hx hb dX11_search_23 (by decide) ?_
  refine lv_icmp_gt (tgt := 38) hx hb dX11_search_24 (by decide) (fun _ => ?_) (fun c9 => absurd ((k_n3 (x := x0) (c := 1) (d := 2) (by decide)).mpr e4) c9)
  refine lv_bipush (v := (-102)) hx hb dX11_search_38 (by decide) ?_
  have hP := hP.sub (ws' := [(h0, .inr (11, (f0.set 12 (.int 0)))), (h1, .inr (1, f1))]) [1, 0] rfl
  have hD := hD.sub (ws' := [(h0, .inr (11, (f0.set 12 (.int 0)))), (h1, .inr (1, f1))]) [1, 0] (by decide +kernel) rfl
  exact W.iret (v := (-102)) hx hb hr (fun t ht hW => ⟨⟨(-102), (), rfl, rfl, kB_mk ht hW hP hK hD⟩, hS.F ht⟩) hS.2.2 dX11_search_40
set_option maxHeartbeats 400000000 in
set_option maxRecDepth 100000 in
theorem c_X12_in_16 (l : Launch) (E : kE) (D : va_G) (cI cJ cB cZ : ClassId) (y0 : Int64) (e0 : ¬ (((lg_cmp y0 0) : Int32) < 0)) (e1 : (0 : Int32) < (lg_cmp y0 1)) : kI l E D (kT cI cJ cB cZ) yX12_in wsX12_in ({ frames := 0, cells := 0, slots := 0, locals := 0 }) [.long y0, .long 0, .long 1] [] (0) [] 0 0 := by
  intro sz
  refine Met.ofW (cc := cX12_in) (maxL := 6) (ret := (some .boolean)) (by decide) rfl ?_
  intro p e s m args below meth c s₁ B hml hv
  obtain ⟨rfl, hsz, hP, hK, hD0, hN, hX⟩ := hv
  have hx := B.exec
  have hb := B.bytes
  have hr := B.returns
  have hts := atoms_spec (ws := wsX12_in) B.pre
  have hown : s.vm.findClass RX12 = some m.cls := findClass_of_methodNamed B.named
  have hlocks := B.notSynchronized
  subst hsz
  have hD := hD0.self (sz := s.heap.size)
  have hAE := k_AE hD0 hX
  generalize hAe : va_A [] s.heap.size = A at hD hAE ⊢
  have hA : ∀ q : Nat, s.heap.size ≤ q → A q := fun q h => by rw [← hAe]; exact Or.inr h
  have hS : va_S A s.heap s.heap [] := va_S.rf
  have hP : va_P D vwCl [] s.heap := hP
  have hl := lv_entry ([.long y0, .long 0, .long 1] : List Value) (n := 6) (Nat.le_of_ble_eq_true rfl)
  rw [lg_entry_eq]
  generalize (lg_sl ([.long y0, .long 0, .long 1]) ++ List.replicate (6 - (lg_sl ([.long y0, .long 0, .long 1])).length) Slot.unset).toArray = ls at hl ⊢
  have hl : lv_has ls 6 [(0, .long y0), (2, .long 0), (4, .long 1)] := hl
  refine lv_lload_n hx hb dX12_in_0 rfl (lv_at hl 0 rfl) ?_
  refine lv_lload_n hx hb dX12_in_1 rfl (lv_at hl 1 rfl) ?_
  refine W.lcmp hx hb dX12_in_2 ?_
  refine lv_if_lt (tgt := 17) hx hb dX12_in_3 (by decide) (fun c9 => absurd c9 e0) (fun _ => ?_)
  refine lv_lload_n hx hb dX12_in_6 rfl (lv_at hl 0 rfl) ?_
  refine lv_lload hx hb dX12_in_7 (lv_at hl 2 rfl) ?_
  refine W.lcmp hx hb dX12_in_9 ?_
  refine lv_if_gt (tgt := 17) hx hb dX12_in_10 (by decide) (fun _ => ?_) (fun c9 => absurd e1 c9)
  refine lv_iconst (v := 0) hx hb dX12_in_17 (by decide) ?_
  exact W.zret (v := 0) hx hb hr rfl (fun t ht hW => ⟨⟨0, (), rfl, rfl, kB_mk ht hW hP hK hD⟩, hS.F ht⟩) hS.2.2 dX12_in_18
set_option maxHeartbeats 400000000 in
set_option maxRecDepth 100000 in
theorem c_X12_search_4 (l : Launch) (E : kE) (D : va_G) (cI cJ cB cZ : ClassId) (h0 : Nat) (x0 : Int32) (x1 : Int32) (f0 : List Value) (h1 : Nat) (h2 : Nat) (h3 : Nat) (h4 : Nat) (g0 : Nat → Int32) (g1 : Nat → Int32) (g2 : Nat → Int32) (g3 : Nat → Int32) (e0 : f0[0]? = some (.int 0)) (e1 : f0[5]? = some (.int 0)) (e2 : f0[2]? = some (.int 0)) (e3 : f0[12]? = some (.int 0)) (e4 : f0[32]? = some (.int 0)) (e5 : f0[36]? = some (.int 0)) (e6 : f0[33]? = some (.int 0)) (e7 : f0[37]? = some (.int 0)) (e8 : f0[27]? = some (.int 0)) (e9 : f0[31]? = some (.int 0)) (e10 : f0[28]? = some (.int 0)) (e11 : f0[23]? = some (.ref h1)) (e12 : f0[24]? = some (.ref h2)) (e13 : f0[25]? = some (.ref h3)) (e14 : f0[26]? = some (.ref h4)) (e15 : ¬ ((x0 : Int32) < 0)) (e16 : ¬ ((x0 : Int32) < 2)) : kI l E D (kT cI cJ cB cZ) yX12_search wsX12_search ({ frames := 3, cells := 0, slots := 0, locals := 68 }) [.ref h0, .int x0, .int x1] [(h0, .inr (12, f0)), (h1, .inl (cI, 2001, .inl g0)), (h2, .inl (cI, 2001, .inl g1)), (h3, .inl (cI, 2001, .inl g2)), (h4, .inl (cI, 2001, .inl g3))] ((-102)) [(h0, .inr (12, ((((((((f0.set 0 (.int 0)).set 12 (.int 0)).set 2 (.int 0)).set 36 (.int 0)).set 37 (.int 0)).set 27 (.int 0)).set 31 (.int 0)).set 28 (.int 0)))), (h1, .inl (cI, 2001, .inl (upd g0 0 0))), (h2, .inl (cI, 2001, .inl (upd g1 0 0))), (h3, .inl (cI, 2001, .inl (upd g2 0 0))), (h4, .inl (cI, 2001, .inl (upd g3 0 0)))] 0 0 := by
  intro sz
  refine Met.ofW (cc := cX12_search) (maxL := 4) (ret := (some .int)) (by decide) rfl ?_
  intro p e s m args below meth c s₁ B hml hv
  obtain ⟨rfl, hsz, hP, hK, hD0, hN, hX⟩ := hv
  have hx := B.exec
  have hb := B.bytes
  have hr := B.returns
  have hts := atoms_spec (ws := wsX12_search) B.pre
  have hown : s.vm.findClass RX12 = some m.cls := findClass_of_methodNamed B.named
  have hlocks := B.notSynchronized
  subst hsz
  have hD := hD0.self (sz := s.heap.size)
  have hAE := k_AE hD0 hX
  generalize hAe : va_A [(h0, .inr (12, f0)), (h1, .inl (cI, 2001, .inl g0)), (h2, .inl (cI, 2001, .inl g1)), (h3, .inl (cI, 2001, .inl g2)), (h4, .inl (cI, 2001, .inl g3))] s.heap.size = A at hD hAE ⊢
  have hA : ∀ q : Nat, s.heap.size ≤ q → A q := fun q h => by rw [← hAe]; exact Or.inr h
  have hS : va_S A s.heap s.heap [] := va_S.rf
  have hP : va_P D vwCl [(h0, .inr (12, f0)), (h1, .inl (cI, 2001, .inl g0)), (h2, .inl (cI, 2001, .inl g1)), (h3, .inl (cI, 2001, .inl g2)), (h4, .inl (cI, 2001, .inl g3))] s.heap := hP
  have hl := lv_entry ([.ref h0, .int x0, .int x1] : List Value) (n := 4) (Nat.le_of_ble_eq_true rfl)
  rw [lg_entry_eq]
  generalize (lg_sl ([.ref h0, .int x0, .int x1]) ++ List.replicate (4 - (lg_sl ([.ref h0, .int x0, .int x1])).length) Slot.unset).toArray = ls at hl ⊢
  have hl : lv_has ls 4 [(0, .ref h0), (1, .int x0), (2, .int x1)] := hl
  refine lv_aload_n hx hb dX12_search_0 rfl (lv_at hl 0 rfl) ?_
  refine k_cVi (As := []) (rest := []) (wc := [(h0, .inr (12, f0))]) (wr := [(h1, .inl (cI, 2001, .inl g0)), (h2, .inl (cI, 2001, .inl g1)), (h3, .inl (cI, 2001, .inl g2)), (h4, .inl (cI, 2001, .inl g3))]) (w1 := [(h0, .inr (12, (f0.set 0 (.int 0))))]) ⟨hx, hb, hml, hown, hts⟩ hN hX hAE hK hP hD hS hA [0] [1, 2, 3, 4] (ci := 12) rfl rfl rfl rfl (by decide +kernel) (by decide +kernel) (by decide +kernel) (c_X12_asks_0 l E D cI cJ cB cZ h0 f0 e0 e1) (cwV 0 hts gX12_search_X12_asks rfl rfl rfl (by decide +kernel) ⟨Nat.le_of_ble_eq_true rfl, Nat.le_of_ble_eq_true rfl⟩) rfl hl.1 (Nat.le_of_ble_eq_true rfl) dX12_search_1 ⟨Nat.le_of_ble_eq_true rfl, Nat.le_of_ble_eq_true rfl⟩ (fun H locs hP hD hS => ?_)
  have hP : va_P D vwCl [(h1, .inl (cI, 2001, .inl g0)), (h2, .inl (cI, 2001, .inl g1)), (h3, .inl (cI, 2001, .inl g2)), (h4, .inl (cI, 2001, .inl g3)), (h0, .inr (12, (f0.set 0 (.int 0))))] H := hP
  have hD : va_D A [(h1, .inl (cI, 2001, .inl g0)), (h2, .inl (cI, 2001, .inl g1)), (h3, .inl (cI, 2001, .inl g2)), (h4, .inl (cI, 2001, .inl g3)), (h0, .inr (12, (f0.set 0 (.int 0))))] := hD
  refine lv_if_ne (tgt := 10) hx hb dX12_search_4 (by decide) (fun _ => ?_) (fun c9 => absurd c9 (by decide))
  refine lv_aload_n hx hb dX12_search_10 rfl (lv_at hl 0 rfl) ?_
  refine k_cVv (As := []) (rest := []) (wc := [(h0, .inr (12, (f0.set 0 (.int 0)))), (h1, .inl (cI, 2001, .inl g0)), (h2, .inl (cI, 2001, .inl g1)), (h3, .inl (cI, 2001, .inl g2)), (h4, .inl (cI, 2001, .inl g3))]) (wr := []) (w1 := (fun _ : Unit => [(h0, .inr (12, ((((((((f0.set 0 (.int 0)).set 12 (.int 0)).set 2 (.int 0)).set 36 (.int 0)).set 37 (.int 0)).set 27 (.int 0)).set 31 (.int 0)).set 28 (.int 0)))), (h1, .inl (cI, 2001, .inl (upd g0 0 0))), (h2, .inl (cI, 2001, .inl (upd g1 0 0))), (h3, .inl (cI, 2001, .inl (upd g2 0 0))), (h4, .inl (cI, 2001, .inl (upd g3 0 0)))])) ⟨hx, hb, hml, hown, hts⟩ hN hX hAE hK hP hD hS hA [4, 0, 1, 2, 3] [] (ci := 12) rfl rfl rfl rfl (by decide +kernel) (by decide +kernel) (by decide +kernel) (c_X12_begin_0 l E D cI cJ cB cZ h0 ((f0.set 0 (.int 0))) h1 h2 h3 h4 g0 g1 g2 g3 (k_ne (by decide) e2) (k_ne (by decide) e3) (k_ne (by decide) e4) (k_ne (by decide) e5) (k_ne (by decide) e6) (k_ne (by decide) e7) (k_ne (by decide) e8) (k_ne (by decide) e9) (k_ne (by decide) e10) (k_ne (by decide) e11) (k_ne (by decide) e12) (k_ne (by decide) e13) (k_ne (by decide) e14)) (cwV 0 hts gX12_search_X12_begin rfl rfl rfl (by decide +kernel) ⟨Nat.le_of_ble_eq_true rfl, Nat.le_of_ble_eq_true rfl⟩) rfl hl.1 (Nat.le_of_ble_eq_true rfl) dX12_search_11 ⟨Nat.le_of_ble_eq_true rfl, Nat.le_of_ble_eq_true rfl⟩ (fun _ H locs hP hD hS => ?_)
  have hP : va_P D vwCl [(h0, .inr (12, ((((((((f0.set 0 (.int 0)).set 12 (.int 0)).set 2 (.int 0)).set 36 (.int 0)).set 37 (.int 0)).set 27 (.int 0)).set 31 (.int 0)).set 28 (.int 0)))), (h1, .inl (cI, 2001, .inl (upd g0 0 0))), (h2, .inl (cI, 2001, .inl (upd g1 0 0))), (h3, .inl (cI, 2001, .inl (upd g2 0 0))), (h4, .inl (cI, 2001, .inl (upd g3 0 0)))] H := hP
  have hD : va_D A [(h0, .inr (12, ((((((((f0.set 0 (.int 0)).set 12 (.int 0)).set 2 (.int 0)).set 36 (.int 0)).set 37 (.int 0)).set 27 (.int 0)).set 31 (.int 0)).set 28 (.int 0)))), (h1, .inl (cI, 2001, .inl (upd g0 0 0))), (h2, .inl (cI, 2001, .inl (upd g1 0 0))), (h3, .inl (cI, 2001, .inl (upd g2 0 0))), (h4, .inl (cI, 2001, .inl (upd g3 0 0)))] := hD
  refine lv_iload_n hx hb dX12_search_14 rfl (lv_at hl 1 rfl) ?_
  refine lv_i2l (v := (Int32.toInt64 x0)) hx hb dX12_search_15 rfl ?_
  refine lv_lconst (v := 0) hx hb dX12_search_16 (by decide) ?_
  refine lv_lconst (v := 1) hx hb dX12_search_17 (by decide) ?_
  refine k_cSi (As := [.long (Int32.toInt64 x0), .long 0, .long 1]) (rest := []) (wc := []) (wr := [(h0, .inr (12, ((((((((f0.set 0 (.int 0)).set 12 (.int 0)).set 2 (.int 0)).set 36 (.int 0)).set 37 (.int 0)).set 27 (.int 0)).set 31 (.int 0)).set 28 (.int 0)))), (h1, .inl (cI, 2001, .inl (upd g0 0 0))), (h2, .inl (cI, 2001, .inl (upd g1 0 0))), (h3, .inl (cI, 2001, .inl (upd g2 0 0))), (h4, .inl (cI, 2001, .inl (upd g3 0 0)))]) (w1 := []) ⟨hx, hb, hml, hown, hts⟩ hN hX hAE hK hP hD hS hA [] [0, 1, 2, 3, 4] rfl rfl (by decide +kernel) (by decide +kernel) (by decide +kernel) (c_X12_in_16 l E D cI cJ cB cZ (Int32.toInt64 x0) (fun z9 => e15 ((k_n4 (x := x0) (c := 0) (C := 0) (by decide)).mp z9)) ((k_n5 (x := x0) (c := 1) (d := 2) (C := 1) (by decide) (by decide)).mpr e16)) (va_cwS 3 hts gX12_search_X12_in rfl rfl rfl (by decide +kernel) ⟨Nat.le_of_ble_eq_true rfl, Nat.le_of_ble_eq_true rfl⟩) rfl hl.1 (Nat.le_of_ble_eq_true rfl) dX12_search_18 ⟨Nat.le_of_ble_eq_true rfl, Nat.le_of_ble_eq_true rfl⟩ (fun H locs hP hD hS => ?_)
  have hP : va_P D vwCl [(h0, .inr (12, ((((((((f0.set 0 (.int 0)).set 12 (.int 0)).set 2 (.int 0)).set 36 (.int 0)).set 37 (.int 0)).set 27 (.int 0)).set 31 (.int 0)).set 28 (.int 0)))), (h1, .inl (cI, 2001, .inl (upd g0 0 0))), (h2, .inl (cI, 2001, .inl (upd g1 0 0))), (h3, .inl (cI, 2001, .inl (upd g2 0 0))), (h4, .inl (cI, 2001, .inl (upd g3 0 0)))] H := hP
  have hD : va_D A [(h0, .inr (12, ((((((((f0.set 0 (.int 0)).set 12 (.int 0)).set 2 (.int 0)).set 36 (.int 0)).set 37 (.int 0)).set 27 (.int 0)).set 31 (.int 0)).set 28 (.int 0)))), (h1, .inl (cI, 2001, .inl (upd g0 0 0))), (h2, .inl (cI, 2001, .inl (upd g1 0 0))), (h3, .inl (cI, 2001, .inl (upd g2 0 0))), (h4, .inl (cI, 2001, .inl (upd g3 0 0)))] := hD
  refine lv_if_eq (tgt := 36) hx hb dX12_search_21 (by decide) (fun _ => ?_) (fun c9 => absurd (by decide) c9)
  refine lv_bipush (v := (-102)) hx hb dX12_search_36 (by decide) ?_
  exact W.iret (v := (-102)) hx hb hr (fun t ht hW => ⟨⟨(-102), (), rfl, rfl, kB_mk ht hW hP hK hD⟩, hS.F ht⟩) hS.2.2 dX12_search_38
set_option maxHeartbeats 400000000 in
set_option maxRecDepth 100000 in
theorem c_X10_isTold_0 (l : Launch) (E : kE) (D : va_G) (cI cJ cB cZ : ClassId) (h0 : Nat) (x0 : Int32) (f0 : List Value) (e0 : f0[11]? = some (.int 0)) : kI l E D (kT cI cJ cB cZ) yX10_isTold wsX10_isTold ({ frames := 0, cells := 0, slots := 0, locals := 0 }) [.ref h0, .int x0] [(h0, .inr (10, f0))] (0) [(h0, .inr (10, f0))] 0 0 := by
  intro sz
  refine Met.ofW (cc := cX10_isTold) (maxL := 2) (ret := (some .boolean)) (by decide) rfl ?_
  intro p e s m args below meth c s₁ B hml hv
  obtain ⟨rfl, hsz, hP, hK, hD0, hN, hX⟩ := hv
  have hx := B.exec
  have hb := B.bytes
  have hr := B.returns
  have hts := atoms_spec (ws := wsX10_isTold) B.pre
  have hown : s.vm.findClass RX10 = some m.cls := findClass_of_methodNamed B.named
  have hlocks := B.notSynchronized
  have hin10 : ∀ w ∈ wsX100, w ∈ wsX10_isTold := (fun w h => (List.mem_cons_of_mem _ (List.mem_append_right _ h)))
  subst hsz
  have hD := hD0.self (sz := s.heap.size)
  have hAE := k_AE hD0 hX
  generalize hAe : va_A [(h0, .inr (10, f0))] s.heap.size = A at hD hAE ⊢
  have hA : ∀ q : Nat, s.heap.size ≤ q → A q := fun q h => by rw [← hAe]; exact Or.inr h
  have hS : va_S A s.heap s.heap [] := va_S.rf
  have hP : va_P D vwCl [(h0, .inr (10, f0))] s.heap := hP
  have hl := lv_entry ([.ref h0, .int x0] : List Value) (n := 2) (Nat.le_of_ble_eq_true rfl)
  rw [lg_entry_eq]
  generalize (lg_sl ([.ref h0, .int x0]) ++ List.replicate (2 - (lg_sl ([.ref h0, .int x0])).length) Slot.unset).toArray = ls at hl ⊢
  have hl : lv_has ls 2 [(0, .ref h0), (1, .int x0)] := hl
  refine lv_aload_n hx hb dX10_isTold_0 rfl (lv_at hl 0 rfl) ?_
  refine va_get (D := D) (ref := "IntegerHouse$Searcher") (ci := 10) (v := .int 0) (C := RX10) (T := TX10) (N := 12) hx hb hts hin10 hown hK hP 0 rfl rfl 11 (by decide) (hts (.fieldLink RX10 32 "IntegerHouse$Searcher" "told" "Z") (List.mem_cons_of_mem _ (List.mem_append_left _ (List.mem_of_getElem? (i := 0) rfl)))) (fun _ h9 => h9) e0 dX10_isTold_1 ?_
  refine lv_if_eq (tgt := 21) hx hb dX10_isTold_4 (by decide) (fun _ => ?_) (fun c9 => absurd (by decide) c9)
  refine lv_iconst (v := 0) hx hb dX10_isTold_21 (by decide) ?_
  exact W.zret (v := 0) hx hb hr rfl (fun t ht hW => ⟨⟨0, (), rfl, rfl, kB_mk ht hW hP hK hD⟩, hS.F ht⟩) hS.2.2 dX10_isTold_22
set_option maxHeartbeats 400000000 in
set_option maxRecDepth 100000 in
theorem c_X11_best_0 (l : Launch) (E : kE) (D : va_G) (cI cJ cB cZ : ClassId) (h0 : Nat) (x0 : Int32) (f0 : List Value) (h1 : Nat) (f1 : List Value) (e0 : f0[10]? = some (.ref h1)) (e1 : f1[11]? = some (.int 0)) (hl9 : l.stackTraces = false) : kTJ l E D (kT cI cJ cB cZ) yX11_best wsX11_best ({ frames := 6, cells := 1, slots := 6, locals := 82 }) [.ref h0, .int x0] [(h0, .inr (11, f0)), (h1, .inr (10, f1))] "java/lang/IndexOutOfBoundsException" 1 6 := by
  intro sz
  refine vx_ofW (cc := cX11_best) (maxL := 2) (ret := (some .long)) (by decide) rfl ?_
  intro p e s m args below meth c s₁ B hml ht9 hv
  obtain ⟨rfl, hsz, hP, hK, hD0, hN, hX⟩ := hv
  have hx := B.exec
  have hb := B.bytes
  have hr := B.returns
  have hts := atoms_spec (ws := wsX11_best) B.pre
  have hown : s.vm.findClass RX11 = some m.cls := findClass_of_methodNamed B.named
  have hlocks := B.notSynchronized
  have hin11 : ∀ w ∈ wsX110, w ∈ wsX11_best := (fun w h => (List.mem_cons_of_mem _ (List.mem_append_left _ (List.mem_append_left _ (List.mem_append_right _ h)))))
  subst hsz
  have hD := hD0.self (sz := s.heap.size)
  have hAE := k_AE hD0 hX
  generalize hAe : va_A [(h0, .inr (11, f0)), (h1, .inr (10, f1))] s.heap.size = A at hD hAE ⊢
  have hA : ∀ q : Nat, s.heap.size ≤ q → A q := fun q h => by rw [← hAe]; exact Or.inr h
  have hS : va_S A s.heap s.heap [] := va_S.rf
  have hP : va_P D vwCl [(h0, .inr (11, f0)), (h1, .inr (10, f1))] s.heap := hP
  have hl := lv_entry ([.ref h0, .int x0] : List Value) (n := 2) (Nat.le_of_ble_eq_true rfl)
  rw [lg_entry_eq]
  generalize (lg_sl ([.ref h0, .int x0]) ++ List.replicate (2 - (lg_sl ([.ref h0, .int x0])).length) Slot.unset).toArray = ls at hl ⊢
  have hl : lv_has ls 2 [(0, .ref h0), (1, .int x0)] := hl
  refine lv_aload_n hx hb dX11_best_0 rfl (lv_at hl 0 rfl) ?_
  refine va_get (D := D) (ref := "IntegerHouse") (ci := 11) (v := .ref h1) (C := RX11) (T := TX11) (N := 15) hx hb hts hin11 hown hK hP 0 rfl rfl 10 (by decide) (hts (.fieldLink RX11 89 "IntegerHouse" "searcher" "LIntegerHouse$Searcher;") (List.mem_cons_of_mem _ (List.mem_append_left _ (List.mem_append_left _ (List.mem_append_left _ (List.mem_of_getElem? (i := 2) rfl)))))) (fun _ h9 => h9) e0 dX11_best_1 ?_
  refine lv_iload_n hx hb dX11_best_4 rfl (lv_at hl 1 rfl) ?_
  refine k_cVi (As := [.int x0]) (rest := []) (wc := [(h1, .inr (10, f1))]) (wr := [(h0, .inr (11, f0))]) (w1 := [(h1, .inr (10, f1))]) ⟨hx, hb, hml, hown, hts⟩ hN hX hAE hK hP hD hS hA [1] [0] (ci := 10) rfl rfl rfl rfl (by decide +kernel) (by decide +kernel) (by decide +kernel) (c_X10_isTold_0 l E D cI cJ cB cZ h1 x0 f1 e1) (cwV 1 hts gX11_best_X10_isTold rfl rfl rfl (by decide +kernel) ⟨Nat.le_of_ble_eq_true rfl, Nat.le_of_ble_eq_true rfl⟩) rfl hl.1 (Nat.le_of_ble_eq_true rfl) dX11_best_5 ⟨Nat.le_of_ble_eq_true rfl, Nat.le_of_ble_eq_true rfl⟩ (fun H locs hP hD hS => ?_)
  have hP : va_P D vwCl [(h0, .inr (11, f0)), (h1, .inr (10, f1))] H := hP
  have hD : va_D A [(h0, .inr (11, f0)), (h1, .inr (10, f1))] := hD
  refine lv_if_ne (tgt := 22) hx hb dX11_best_8 (by decide) (fun c9 => absurd (by decide) c9) (fun _ => ?_)
  obtain ⟨a9, a9r, a9o⟩ := kX.st hX hAE ("IntegerHouse", 383, "no such number was told") (List.mem_of_getElem? (i := 8) rfl)
  exact vx_throwSW (names := ["java/lang/RuntimeException", "java/lang/Exception"]) (A := A) hx hb hl9 hown (by decide +kernel) (by decide +kernel) (hts (.classLink RX11 197 "java/lang/IndexOutOfBoundsException") (List.mem_cons_of_mem _ (List.mem_append_left _ (List.mem_append_left _ (List.mem_append_left _ (List.mem_of_getElem? (i := 0) rfl)))))) (hts (.initialized "java/lang/IndexOutOfBoundsException") (List.mem_cons_of_mem _ (List.mem_append_left _ (List.mem_append_left _ (List.mem_append_left _ (List.mem_of_getElem? (i := 1) rfl)))))) a9r (vx_hat (L := vx_atS RX11 201 "java/lang/IndexOutOfBoundsException" ["java/lang/RuntimeException", "java/lang/Exception"]) (B := [.castable "java/lang/IndexOutOfBoundsException" "java/lang/IndexOutOfBoundsException", .declares (Bundle.initS "java/lang/RuntimeException"), .declares (Bundle.initS "java/lang/Exception"), .declares (Bundle.initS "java/lang/Throwable")]) (fun w h => hts w (List.mem_cons_of_mem _ (List.mem_append_right _ h))) (by decide +kernel) (vx_c (va_Nw.use rfl (kX.cast hX "java/lang/IndexOutOfBoundsException" (by decide))) (vx_c (va_Nw.use rfl (kX.decl hX "java/lang/RuntimeException" (by decide))) (vx_c (va_Nw.use rfl (kX.decl hX "java/lang/Exception" (by decide))) (vx_c (va_Nw.use rfl (kX.decl hX "java/lang/Throwable" (by decide))) vx_n))))) (by decide +kernel) (kX.us hX hAE) (kX.ss hX hAE) hS (by rw [hml]; exact hl.1) dX11_best_11 dX11_best_14 dX11_best_15 dX11_best_18 dX11_best_21 (fun x hx => (ht9 x hx).elim) (Nat.le_of_ble_eq_true rfl) (Nat.le_of_ble_eq_true rfl) (Nat.le_of_ble_eq_true rfl) (Nat.le_of_ble_eq_true rfl) hlocks (fun t h1 h2 h3 => k_tx hP hK hD hS t h1 h2 h3) hS.2.2 (Nat.le_of_ble_eq_true rfl) (Nat.le_of_ble_eq_true rfl)
set_option maxHeartbeats 400000000 in
set_option maxRecDepth 100000 in
theorem c_L_best_0 (l : Launch) (E : kE) (D : va_G) (cI cJ cB cZ : ClassId) (h0 : Nat) (x0 : Int32) (h1 : Nat) (f0 : List Value) (h2 : Nat) (f1 : List Value) (e0 : f0[10]? = some (.ref h2)) (e1 : f1[11]? = some (.int 0)) (hl9 : l.stackTraces = false) : kI l E D (kT cI cJ cB cZ) yL_best wsL_best ({ frames := 7, cells := 1, slots := 6, locals := 103 }) [.ref h0, .int x0, .ref h1] [(h0, .inr (11, f0)), (h2, .inr (10, f1))] (1) [(h0, .inr (11, f0)), (h2, .inr (10, f1))] 1 6 := by
  intro sz
  refine k_metH (cc := cL_best) (maxL := 4) (ret := (some .int)) (hh := [(0, 8, 11, 25)]) (by decide) rfl ?_
  intro p e s m args below meth c s₁ B hml hv
  obtain ⟨rfl, hsz, hP, hK, hD0, hN, hX⟩ := hv
  have hx := B.exec
  have hb := B.bytes
  have hr := B.returns
  have hts := atoms_spec (ws := wsL_best) B.pre
  have hown : s.vm.findClass RL = some m.cls := findClass_of_methodNamed B.named
  have hlocks := B.notSynchronized
  subst hsz
  have hD := hD0.self (sz := s.heap.size)
  have hAE := k_AE hD0 hX
  generalize hAe : va_A [(h0, .inr (11, f0)), (h2, .inr (10, f1))] s.heap.size = A at hD hAE ⊢
  have hA : ∀ q : Nat, s.heap.size ≤ q → A q := fun q h => by rw [← hAe]; exact Or.inr h
  have hS : va_S A s.heap s.heap [] := va_S.rf
  have hP : va_P D vwCl [(h0, .inr (11, f0)), (h2, .inr (10, f1))] s.heap := hP
  have hl := lv_entry ([.ref h0, .int x0, .ref h1] : List Value) (n := 4) (Nat.le_of_ble_eq_true rfl)
  rw [lg_entry_eq]
  generalize (lg_sl ([.ref h0, .int x0, .ref h1]) ++ List.replicate (4 - (lg_sl ([.ref h0, .int x0, .ref h1])).length) Slot.unset).toArray = ls at hl ⊢
  have hl : lv_has ls 4 [(0, .ref h0), (1, .int x0), (2, .ref h1)] := hl
  refine lv_aload_n hx hb dL_best_0 rfl (lv_at hl 2 rfl) ?_
  refine lv_iconst (v := 0) hx hb dL_best_1 (by decide) ?_
  refine lv_aload_n hx hb dL_best_2 rfl (lv_at hl 0 rfl) ?_
  refine lv_iload_n hx hb dL_best_3 rfl (lv_at hl 1 rfl) ?_
  refine k_cTl (As := [.int x0]) (rest := [.int 0, .ref h1]) (wc := [(h0, .inr (11, f0)), (h2, .inr (10, f1))]) (wr := []) ⟨hx, hb, hml, hown, hts⟩ hN hX hAE hK hP hD hS hA [0, 1] [] (ci := 11) rfl rfl rfl rfl (by decide +kernel) (by decide +kernel) (by decide +kernel) (c_X11_best_0 l E D cI cJ cB cZ h0 x0 f0 h2 f1 e0 e1 hl9) (cwV 1 hts gL_best_X11_best rfl rfl rfl (by decide +kernel) ⟨Nat.le_of_ble_eq_true rfl, Nat.le_of_ble_eq_true rfl⟩) rfl hl.1 (Nat.le_of_ble_eq_true rfl) dL_best_4 ⟨Nat.le_of_ble_eq_true rfl, Nat.le_of_ble_eq_true rfl⟩ (fun q9 ce H locs hP hD hS hce hcv hcl => ?_)
  have hP : va_P D vwCl [(h0, .inr (11, f0)), (h2, .inr (10, f1))] H := hP
  have hD : va_D A [(h0, .inr (11, f0)), (h2, .inr (10, f1))] := hD
  refine vx_catch (own := RL) (name := "java/lang/IndexOutOfBoundsException") hown [] ⟨0, 8, 11, 25⟩ [] (vx_table B (hts _ List.mem_cons_self)) (fun z hz => absurd hz List.not_mem_nil) (by decide) (by decide) (hts (.classLink RL 25 "java/lang/IndexOutOfBoundsException") (List.mem_cons_of_mem _ (List.mem_append_left _ (List.mem_append_left _ (List.mem_append_left _ (List.mem_of_getElem? (i := 0) rfl)))))) (va_Nw.use rfl (kX.cast hX "java/lang/IndexOutOfBoundsException" (by decide))) hce hcv hcl ?_
  refine W.eq (g2 := F0 m 11 ls [.ref q9]) rfl ?_
  refine W.widen (k := 1) (n := 6) (Nat.le_of_ble_eq_true rfl) (Nat.le_of_ble_eq_true rfl) ?_
  refine lv_astore_n (lv' := [(3, .ref q9), (0, .ref h0), (1, .int x0), (2, .ref h1)]) hx hb dL_best_11 rfl hl (by decide) rfl (fun ls hl => ?_)
  refine lv_iconst (v := 1) hx hb dL_best_12 (by decide) ?_
  exact W.iret (v := 1) hx hb hr (fun t ht hW => ⟨⟨1, (), rfl, rfl, kB_mk ht hW hP hK hD⟩, hS.F ht⟩) hS.2.2 dL_best_13
set_option maxHeartbeats 400000000 in
set_option maxRecDepth 100000 in
theorem c_X12_best_0 (l : Launch) (E : kE) (D : va_G) (cI cJ cB cZ : ClassId) (h0 : Nat) (x0 : Int32) (f0 : List Value) (e0 : f0[176]? = some (.int 0)) (e1 : f0[0]? = some (.int 0)) : kJ l E D (kT cI cJ cB cZ) yX12_best wsX12_best ({ frames := 0, cells := 0, slots := 0, locals := 0 }) [.ref h0, .int x0] [(h0, .inr (12, f0))] (0) [(h0, .inr (12, (f0.set 0 (.int 1))))] 0 0 := by
  intro sz
  refine Met.ofW (cc := cX12_best) (maxL := 2) (ret := (some .long)) (by decide) rfl ?_
  intro p e s m args below meth c s₁ B hml hv
  obtain ⟨rfl, hsz, hP, hK, hD0, hN, hX⟩ := hv
  have hx := B.exec
  have hb := B.bytes
  have hr := B.returns
  have hts := atoms_spec (ws := wsX12_best) B.pre
  have hown : s.vm.findClass RX12 = some m.cls := findClass_of_methodNamed B.named
  have hlocks := B.notSynchronized
  have hin12 : ∀ w ∈ wsX120, w ∈ wsX12_best := (fun w h => (List.mem_cons_of_mem _ (List.mem_append_right _ h)))
  subst hsz
  have hD := hD0.self (sz := s.heap.size)
  have hAE := k_AE hD0 hX
  generalize hAe : va_A [(h0, .inr (12, f0))] s.heap.size = A at hD hAE ⊢
  have hA : ∀ q : Nat, s.heap.size ≤ q → A q := fun q h => by rw [← hAe]; exact Or.inr h
  have hS : va_S A s.heap s.heap [] := va_S.rf
  have hP : va_P D vwCl [(h0, .inr (12, f0))] s.heap := hP
  have hl := lv_entry ([.ref h0, .int x0] : List Value) (n := 2) (Nat.le_of_ble_eq_true rfl)
  rw [lg_entry_eq]
  generalize (lg_sl ([.ref h0, .int x0]) ++ List.replicate (2 - (lg_sl ([.ref h0, .int x0])).length) Slot.unset).toArray = ls at hl ⊢
  have hl : lv_has ls 2 [(0, .ref h0), (1, .int x0)] := hl
  refine lv_aload_n hx hb dX12_best_0 rfl (lv_at hl 0 rfl) ?_
  refine lv_aload_n hx hb dX12_best_1 rfl (lv_at hl 0 rfl) ?_
  refine va_get (D := D) (ref := "IntegerHouseModel") (ci := 12) (v := .int 0) (C := RX12) (T := TX12) (N := 195) hx hb hts hin12 hown hK hP 0 rfl rfl 176 (by decide) (hts (.fieldLink RX12 1214 "IntegerHouseModel" "searched" "Z") (List.mem_cons_of_mem _ (List.mem_append_left _ (List.mem_of_getElem? (i := 0) rfl)))) (fun _ h9 => h9) e0 dX12_best_2 ?_
  refine lv_if_eq (tgt := 24) hx hb dX12_best_5 (by decide) (fun _ => ?_) (fun c9 => absurd (by decide) c9)
  refine lv_iconst (v := 1) hx hb dX12_best_24 (by decide) ?_
  refine va_put (D := D) (ref := "IntegerHouseModel") (ci := 12) (v := .int 1) (ty := .int) (C := RX12) (T := TX12) (N := 195) hx hb hts hin12 tyX12 tyX12_ok nmX12 hown hK hP hD hS 0 rfl rfl 0 (by decide) (hts (.fieldLink RX12 3 "IntegerHouseModel" "thrown" "I") (List.mem_cons_of_mem _ (List.mem_append_left _ (List.mem_of_getElem? (i := 2) rfl)))) (fun _ h9 => h9) rfl (by decide +kernel) rfl rfl (k_len e1) dX12_best_25 (fun H locs hP hD hS => ?_)
  have hP : va_P D vwCl [(h0, .inr (12, (f0.set 0 (.int 1))))] H := hP
  have hD : va_D A [(h0, .inr (12, (f0.set 0 (.int 1))))] := hD
  refine lv_aload_n hx hb dX12_best_28 rfl (lv_at hl 0 rfl) ?_
  refine va_get (D := D) (ref := "IntegerHouseModel") (ci := 12) (v := .int 1) (C := RX12) (T := TX12) (N := 195) hx hb hts hin12 hown hK hP 0 rfl rfl 0 (by decide) (hts (.fieldLink RX12 3 "IntegerHouseModel" "thrown" "I") (List.mem_cons_of_mem _ (List.mem_append_left _ (List.mem_of_getElem? (i := 2) rfl)))) (fun _ h9 => h9) (k_set e1) dX12_best_29 ?_
  refine lv_if_le (tgt := 37) hx hb dX12_best_32 (by decide) (fun c9 => absurd c9 (by decide)) (fun _ => ?_)
  refine lv_lconst (v := 0) hx hb dX12_best_35 (by decide) ?_
  exact W.lret (v := 0) hx hb hr (fun t ht hW => ⟨⟨0, (), rfl, rfl, kB_mk ht hW hP hK hD⟩, hS.F ht⟩) hS.2.2 dX12_best_36
set_option maxHeartbeats 400000000 in
set_option maxRecDepth 100000 in
theorem c_X3_scan_1 (l : Launch) (E : kE) (D : va_G) (cI cJ cB cZ : ClassId) (h0 : Nat) (h1 : Nat) (f0 : List Value) (h2 : Nat) (h3 : Nat) (g0 : Nat → Int32) (h4 : Nat) (g1 : Nat → Int32) (e0 : f0[6]? = some (.ref h2)) (e1 : f0[7]? = some (.int 0)) (e2 : f0[8]? = some (.int 0)) (e3 : f0[5]? = some (.int 0)) (e4 : f0[1]? = some (.ref h3)) (e5 : f0[2]? = some (.ref h4)) : kV l E D (kT cI cJ cB cZ) yX3_scan wsX3_scan ({ frames := 1, cells := 0, slots := 0, locals := 22 }) [.ref h0, .ref h1, .int 0, .int 0, .int 1] [(h0, .inr (3, f0)), (h3, .inl (cI, 2001, .inl g0)), (h4, .inl (cI, 2001, .inl g1))] (fun _ : Unit => [(h0, .inr (3, ((((f0.set 6 (.ref h1)).set 7 (.int 0)).set 8 (.int 0)).set 5 (.int 0)))), (h3, .inl (cI, 2001, .inl (upd g0 0 0))), (h4, .inl (cI, 2001, .inl (upd g1 0 0)))]) 0 0 := by
  intro sz
  refine Met.ofW (cc := cX3_scan) (maxL := 9) (ret := none) (by decide) rfl ?_
  intro p e s m args below meth c s₁ B hml hv
  obtain ⟨rfl, hsz, hP, hK, hD0, hN, hX⟩ := hv
  have hx := B.exec
  have hb := B.bytes
  have hr := B.returns
  have hts := atoms_spec (ws := wsX3_scan) B.pre
  have hown : s.vm.findClass RX3 = some m.cls := findClass_of_methodNamed B.named
  have hlocks := B.notSynchronized
  have hin3 : ∀ w ∈ wsX30, w ∈ wsX3_scan := (fun w h => (List.mem_cons_of_mem _ (List.mem_append_right _ h)))
  subst hsz
  have hD := hD0.self (sz := s.heap.size)
  have hAE := k_AE hD0 hX
  generalize hAe : va_A [(h0, .inr (3, f0)), (h3, .inl (cI, 2001, .inl g0)), (h4, .inl (cI, 2001, .inl g1))] s.heap.size = A at hD hAE ⊢
  have hA : ∀ q : Nat, s.heap.size ≤ q → A q := fun q h => by rw [← hAe]; exact Or.inr h
  have hS : va_S A s.heap s.heap [] := va_S.rf
  have hP : va_P D vwCl [(h0, .inr (3, f0)), (h3, .inl (cI, 2001, .inl g0)), (h4, .inl (cI, 2001, .inl g1))] s.heap := hP
  have hl := lv_entry ([.ref h0, .ref h1, .int 0, .int 0, .int 1] : List Value) (n := 9) (Nat.le_of_ble_eq_true rfl)
  rw [lg_entry_eq]
  generalize (lg_sl ([.ref h0, .ref h1, .int 0, .int 0, .int 1]) ++ List.replicate (9 - (lg_sl ([.ref h0, .ref h1, .int 0, .int 0, .int 1])).length) Slot.unset).toArray = ls at hl ⊢
  have hl : lv_has ls 9 [(0, .ref h0), (1, .ref h1), (2, .int 0), (3, .int 0), (4, .int 1)] := hl
  refine lv_aload_n hx hb dX3_scan_0 rfl (lv_at hl 0 rfl) ?_
  refine lv_aload_n hx hb dX3_scan_1 rfl (lv_at hl 1 rfl) ?_
  refine va_put (D := D) (ref := "IntegerHouse$Lexer") (ci := 3) (v := .ref h1) (ty := (.array .byte)) (C := RX3) (T := TX3) (N := 9) hx hb hts hin3 tyX3 tyX3_ok nmX3 hown hK hP hD hS 0 rfl rfl 6 (by decide) (hts (.fieldLink RX3 28 "IntegerHouse$Lexer" "source" "[B") (List.mem_cons_of_mem _ (List.mem_append_left _ (List.mem_append_left _ (List.mem_of_getElem? (i := 0) rfl))))) (fun _ h9 => h9) rfl (by decide +kernel) rfl rfl (k_len e0) dX3_scan_2 (fun H locs hP hD hS => ?_)
  have hP : va_P D vwCl [(h0, .inr (3, (f0.set 6 (.ref h1)))), (h3, .inl (cI, 2001, .inl g0)), (h4, .inl (cI, 2001, .inl g1))] H := hP
  have hD : va_D A [(h0, .inr (3, (f0.set 6 (.ref h1)))), (h3, .inl (cI, 2001, .inl g0)), (h4, .inl (cI, 2001, .inl g1))] := hD
  refine lv_aload_n hx hb dX3_scan_5 rfl (lv_at hl 0 rfl) ?_
  refine lv_iload_n hx hb dX3_scan_6 rfl (lv_at hl 2 rfl) ?_
  refine va_put (D := D) (ref := "IntegerHouse$Lexer") (ci := 3) (v := .int 0) (ty := .int) (C := RX3) (T := TX3) (N := 9) hx hb hts hin3 tyX3 tyX3_ok nmX3 hown hK hP hD hS 0 rfl rfl 7 (by decide) (hts (.fieldLink RX3 55 "IntegerHouse$Lexer" "begin" "I") (List.mem_cons_of_mem _ (List.mem_append_left _ (List.mem_append_left _ (List.mem_of_getElem? (i := 1) rfl))))) (fun _ h9 => h9) rfl (by decide +kernel) rfl rfl (k_len (k_ne (by decide) e1)) dX3_scan_7 (fun H locs hP hD hS => ?_)
  have hP : va_P D vwCl [(h0, .inr (3, ((f0.set 6 (.ref h1)).set 7 (.int 0)))), (h3, .inl (cI, 2001, .inl g0)), (h4, .inl (cI, 2001, .inl g1))] H := hP
  have hD : va_D A [(h0, .inr (3, ((f0.set 6 (.ref h1)).set 7 (.int 0)))), (h3, .inl (cI, 2001, .inl g0)), (h4, .inl (cI, 2001, .inl g1))] := hD
  refine lv_aload_n hx hb dX3_scan_10 rfl (lv_at hl 0 rfl) ?_
  refine lv_iload_n hx hb dX3_scan_11 rfl (lv_at hl 2 rfl) ?_
  refine lv_iload_n hx hb dX3_scan_12 rfl (lv_at hl 3 rfl) ?_
  refine lv_iadd hx hb dX3_scan_13 ?_
  refine k_topi (y := 0) (by decide) ?_
  refine va_put (D := D) (ref := "IntegerHouse$Lexer") (ci := 3) (v := .int 0) (ty := .int) (C := RX3) (T := TX3) (N := 9) hx hb hts hin3 tyX3 tyX3_ok nmX3 hown hK hP hD hS 0 rfl rfl 8 (by decide) (hts (.fieldLink RX3 52 "IntegerHouse$Lexer" "stop" "I") (List.mem_cons_of_mem _ (List.mem_append_left _ (List.mem_append_left _ (List.mem_of_getElem? (i := 2) rfl))))) (fun _ h9 => h9) rfl (by decide +kernel) rfl rfl (k_len (k_ne (by decide) (k_ne (by decide) e2))) dX3_scan_14 (fun H locs hP hD hS => ?_)
  have hP : va_P D vwCl [(h0, .inr (3, (((f0.set 6 (.ref h1)).set 7 (.int 0)).set 8 (.int 0)))), (h3, .inl (cI, 2001, .inl g0)), (h4, .inl (cI, 2001, .inl g1))] H := hP
  have hD : va_D A [(h0, .inr (3, (((f0.set 6 (.ref h1)).set 7 (.int 0)).set 8 (.int 0)))), (h3, .inl (cI, 2001, .inl g0)), (h4, .inl (cI, 2001, .inl g1))] := hD
  refine lv_aload_n hx hb dX3_scan_17 rfl (lv_at hl 0 rfl) ?_
  refine lv_iconst (v := 0) hx hb dX3_scan_18 (by decide) ?_
  refine va_put (D := D) (ref := "IntegerHouse$Lexer") (ci := 3) (v := .int 0) (ty := .int) (C := RX3) (T := TX3) (N := 9) hx hb hts hin3 tyX3 tyX3_ok nmX3 hown hK hP hD hS 0 rfl rfl 5 (by decide) (hts (.fieldLink RX3 48 "IntegerHouse$Lexer" "size" "I") (List.mem_cons_of_mem _ (List.mem_append_left _ (List.mem_append_left _ (List.mem_of_getElem? (i := 3) rfl))))) (fun _ h9 => h9) rfl (by decide +kernel) rfl rfl (k_len (k_ne (by decide) (k_ne (by decide) (k_ne (by decide) e3)))) dX3_scan_19 (fun H locs hP hD hS => ?_)
  have hP : va_P D vwCl [(h0, .inr (3, ((((f0.set 6 (.ref h1)).set 7 (.int 0)).set 8 (.int 0)).set 5 (.int 0)))), (h3, .inl (cI, 2001, .inl g0)), (h4, .inl (cI, 2001, .inl g1))] H := hP
  have hD : va_D A [(h0, .inr (3, ((((f0.set 6 (.ref h1)).set 7 (.int 0)).set 8 (.int 0)).set 5 (.int 0)))), (h3, .inl (cI, 2001, .inl g0)), (h4, .inl (cI, 2001, .inl g1))] := hD
  refine lv_aload_n hx hb dX3_scan_22 rfl (lv_at hl 0 rfl) ?_
  refine lv_iload_n hx hb dX3_scan_23 rfl (lv_at hl 2 rfl) ?_
  refine k_cVi (As := [.int 0]) (rest := []) (wc := [(h0, .inr (3, ((((f0.set 6 (.ref h1)).set 7 (.int 0)).set 8 (.int 0)).set 5 (.int 0))))]) (wr := [(h3, .inl (cI, 2001, .inl g0)), (h4, .inl (cI, 2001, .inl g1))]) (w1 := [(h0, .inr (3, ((((f0.set 6 (.ref h1)).set 7 (.int 0)).set 8 (.int 0)).set 5 (.int 0))))]) ⟨hx, hb, hml, hown, hts⟩ hN hX hAE hK hP hD hS hA [0] [1, 2] (ci := 3) rfl rfl rfl rfl (by decide +kernel) (by decide +kernel) (by decide +kernel) (c_X3_behindBlanks_0 l E D cI cJ cB cZ h0 (((((f0.set 6 (.ref h1)).set 7 (.int 0)).set 8 (.int 0)).set 5 (.int 0))) (k_ne (by decide) (k_set (k_ne (by decide) (k_ne (by decide) e2))))) (cwV 1 hts gX3_scan_X3_behindBlanks rfl rfl rfl (by decide +kernel) ⟨Nat.le_of_ble_eq_true rfl, Nat.le_of_ble_eq_true rfl⟩) rfl hl.1 (Nat.le_of_ble_eq_true rfl) dX3_scan_24 ⟨Nat.le_of_ble_eq_true rfl, Nat.le_of_ble_eq_true rfl⟩ (fun H locs hP hD hS => ?_)
  have hP : va_P D vwCl [(h3, .inl (cI, 2001, .inl g0)), (h4, .inl (cI, 2001, .inl g1)), (h0, .inr (3, ((((f0.set 6 (.ref h1)).set 7 (.int 0)).set 8 (.int 0)).set 5 (.int 0))))] H := hP
  have hD : va_D A [(h3, .inl (cI, 2001, .inl g0)), (h4, .inl (cI, 2001, .inl g1)), (h0, .inr (3, ((((f0.set 6 (.ref h1)).set 7 (.int 0)).set 8 (.int 0)).set 5 (.int 0))))] := hD
  refine lv_istore (lv' := [(5, .int 0), (0, .ref h0), (1, .ref h1), (2, .int 0), (3, .int 0), (4, .int 1)]) hx hb dX3_scan_27 hl (by decide) rfl (fun ls hl => ?_)
  refine lv_iload hx hb dX3_scan_29 (lv_at hl 5 rfl) ?_
  refine lv_if_eq (tgt := 39) hx hb dX3_scan_31 (by decide) (fun c9 => absurd c9 (by decide)) (fun _ => ?_)
  refine lv_bipush (v := 20) hx hb dX3_scan_34 (by decide) ?_
  refine lv_goto (tgt := 41) hx hb dX3_scan_36 (by decide) ?_
  refine lv_istore (lv' := [(6, .int 20), (5, .int 0), (0, .ref h0), (1, .ref h1), (2, .int 0), (3, .int 0), (4, .int 1)]) hx hb dX3_scan_41 hl (by decide) rfl (fun ls hl => ?_)
  refine lv_iconst (v := 0) hx hb dX3_scan_43 (by decide) ?_
  refine lv_istore (lv' := [(7, .int 0), (6, .int 20), (5, .int 0), (0, .ref h0), (1, .ref h1), (2, .int 0), (3, .int 0), (4, .int 1)]) hx hb dX3_scan_44 hl (by decide) rfl (fun ls hl => ?_)
  refine lv_iload hx hb dX3_scan_46 (lv_at hl 0 rfl) ?_
  refine lv_sipush (v := 2000) hx hb dX3_scan_48 (by decide) ?_
  refine lv_icmp_ge (tgt := 179) hx hb dX3_scan_51 (by decide) (fun c9 => absurd c9 (by decide)) (fun _ => ?_)
  refine lv_iload hx hb dX3_scan_54 (lv_at hl 2 rfl) ?_
  refine lv_aload_n hx hb dX3_scan_56 rfl (lv_at hl 3 rfl) ?_
  refine va_get (D := D) (ref := "IntegerHouse$Lexer") (ci := 3) (v := .int 0) (C := RX3) (T := TX3) (N := 9) hx hb hts hin3 hown hK hP 2 rfl rfl 8 (by decide) (hts (.fieldLink RX3 52 "IntegerHouse$Lexer" "stop" "I") (List.mem_cons_of_mem _ (List.mem_append_left _ (List.mem_append_left _ (List.mem_of_getElem? (i := 2) rfl))))) (fun _ h9 => h9) (k_ne (by decide) (k_set (k_ne (by decide) (k_ne (by decide) e2)))) dX3_scan_57 ?_
  refine lv_icmp_ge (tgt := 179) hx hb dX3_scan_60 (by decide) (fun _ => ?_) (fun c9 => absurd (by decide) c9)
  refine lv_aload_n hx hb dX3_scan_179 rfl (lv_at hl 3 rfl) ?_
  refine va_get (D := D) (ref := "IntegerHouse$Lexer") (ci := 3) (v := .ref h3) (C := RX3) (T := TX3) (N := 9) hx hb hts hin3 hown hK hP 2 rfl rfl 1 (by decide) (hts (.fieldLink RX3 15 "IntegerHouse$Lexer" "kinds" "[I") (List.mem_cons_of_mem _ (List.mem_append_left _ (List.mem_append_left _ (List.mem_of_getElem? (i := 5) rfl))))) (fun _ h9 => h9) (k_ne (by decide) (k_ne (by decide) (k_ne (by decide) (k_ne (by decide) e4)))) dX3_scan_180 ?_
  refine lv_aload_n hx hb dX3_scan_183 rfl (lv_at hl 3 rfl) ?_
  refine va_get (D := D) (ref := "IntegerHouse$Lexer") (ci := 3) (v := .int 0) (C := RX3) (T := TX3) (N := 9) hx hb hts hin3 hown hK hP 2 rfl rfl 5 (by decide) (hts (.fieldLink RX3 48 "IntegerHouse$Lexer" "size" "I") (List.mem_cons_of_mem _ (List.mem_append_left _ (List.mem_append_left _ (List.mem_of_getElem? (i := 3) rfl))))) (fun _ h9 => h9) (k_set (k_ne (by decide) (k_ne (by decide) (k_ne (by decide) e3)))) dX3_scan_184 ?_
  refine lv_iconst (v := 0) hx hb dX3_scan_187 (by decide) ?_
  refine va_iast hx hb hK hP hD hS 0 0 rfl rfl (k_in (by decide)) dX3_scan_188 (fun H locs hP hD hS => ?_)
  have hP : va_P D vwCl [(h3, .inl (cI, 2001, .inl (upd g0 0 0))), (h4, .inl (cI, 2001, .inl g1)), (h0, .inr (3, ((((f0.set 6 (.ref h1)).set 7 (.int 0)).set 8 (.int 0)).set 5 (.int 0))))] H := hP
  have hD : va_D A [(h3, .inl (cI, 2001, .inl (upd g0 0 0))), (h4, .inl (cI, 2001, .inl g1)), (h0, .inr (3, ((((f0.set 6 (.ref h1)).set 7 (.int 0)).set 8 (.int 0)).set 5 (.int 0))))] := hD
  refine lv_aload_n hx hb dX3_scan_189 rfl (lv_at hl 3 rfl) ?_
  refine va_get (D := D) (ref := "IntegerHouse$Lexer") (ci := 3) (v := .ref h4) (C := RX3) (T := TX3) (N := 9) hx hb hts hin3 hown hK hP 2 rfl rfl 2 (by decide) (hts (.fieldLink RX3 19 "IntegerHouse$Lexer" "spots" "[I") (List.mem_cons_of_mem _ (List.mem_append_left _ (List.mem_append_left _ (List.mem_of_getElem? (i := 4) rfl))))) (fun _ h9 => h9) (k_ne (by decide) (k_ne (by decide) (k_ne (by decide) (k_ne (by decide) e5)))) dX3_scan_190 ?_
  refine lv_aload_n hx hb dX3_scan_193 rfl (lv_at hl 3 rfl) ?_
  refine va_get (D := D) (ref := "IntegerHouse$Lexer") (ci := 3) (v := .int 0) (C := RX3) (T := TX3) (N := 9) hx hb hts hin3 hown hK hP 2 rfl rfl 5 (by decide) (hts (.fieldLink RX3 48 "IntegerHouse$Lexer" "size" "I") (List.mem_cons_of_mem _ (List.mem_append_left _ (List.mem_append_left _ (List.mem_of_getElem? (i := 3) rfl))))) (fun _ h9 => h9) (k_set (k_ne (by decide) (k_ne (by decide) (k_ne (by decide) e3)))) dX3_scan_194 ?_
  refine lv_iload_n hx hb dX3_scan_197 rfl (lv_at hl 6 rfl) ?_
  refine va_iast hx hb hK hP hD hS 1 0 rfl rfl (k_in (by decide)) dX3_scan_198 (fun H locs hP hD hS => ?_)
  have hP : va_P D vwCl [(h3, .inl (cI, 2001, .inl (upd g0 0 0))), (h4, .inl (cI, 2001, .inl (upd g1 0 0))), (h0, .inr (3, ((((f0.set 6 (.ref h1)).set 7 (.int 0)).set 8 (.int 0)).set 5 (.int 0))))] H := hP
  have hD : va_D A [(h3, .inl (cI, 2001, .inl (upd g0 0 0))), (h4, .inl (cI, 2001, .inl (upd g1 0 0))), (h0, .inr (3, ((((f0.set 6 (.ref h1)).set 7 (.int 0)).set 8 (.int 0)).set 5 (.int 0))))] := hD
  have hP := hP.sub (ws' := [(h0, .inr (3, ((((f0.set 6 (.ref h1)).set 7 (.int 0)).set 8 (.int 0)).set 5 (.int 0)))), (h3, .inl (cI, 2001, .inl (upd g0 0 0))), (h4, .inl (cI, 2001, .inl (upd g1 0 0)))]) [2, 0, 1] rfl
  have hD := hD.sub (ws' := [(h0, .inr (3, ((((f0.set 6 (.ref h1)).set 7 (.int 0)).set 8 (.int 0)).set 5 (.int 0)))), (h3, .inl (cI, 2001, .inl (upd g0 0 0))), (h4, .inl (cI, 2001, .inl (upd g1 0 0)))]) [2, 0, 1] (by decide +kernel) rfl
  exact W.vret hx hb hr (fun t ht hW => ⟨⟨(), rfl, trivial, kB_mk ht hW hP hK hD⟩, hS.F ht⟩) hS.2.2 dX3_scan_199
