abbrev cX0_isTold : ByteArray := prog_2_method_3_code
def yX0_isTold : MethodName := ⟨RX0, "isTold", "(I)Z"⟩
abbrev cX0_toldValue : ByteArray := prog_2_method_4_code
def yX0_toldValue : MethodName := ⟨RX0, "toldValue", "(I)J"⟩
abbrev cX0_tellExtreme : ByteArray := prog_2_method_12_code
def yX0_tellExtreme : MethodName := ⟨RX0, "tellExtreme", "(I[JZ)I"⟩
abbrev cX0_weigh : ByteArray := prog_2_method_13_code
def yX0_weigh : MethodName := ⟨RX0, "weigh", "([JI)V"⟩
abbrev cX0_isBeyond : ByteArray := prog_2_method_14_code
def yX0_isBeyond : MethodName := ⟨RX0, "isBeyond", "(I)Z"⟩
abbrev cX0_gain : ByteArray := prog_2_method_15_code
def yX0_gain : MethodName := ⟨RX0, "gain", "(I)Z"⟩
abbrev cX0_gainFrom : ByteArray := prog_2_method_16_code
def yX0_gainFrom : MethodName := ⟨RX0, "gainFrom", "(I)J"⟩
abbrev cX0_mark : ByteArray := prog_2_method_18_code
def yX0_mark : MethodName := ⟨RX0, "mark", "(II)Z"⟩
abbrev cX4_makeGoal : ByteArray := prog_6_method_4_code
def yX4_makeGoal : MethodName := ⟨RX4, "makeGoal", "()Z"⟩
abbrev cX4_goalSizes : ByteArray := prog_6_method_5_code
def yX4_goalSizes : MethodName := ⟨RX4, "goalSizes", "()J"⟩
abbrev cX8_readExtreme : ByteArray := prog_10_method_5_code
def yX8_readExtreme : MethodName := ⟨RX8, "readExtreme", "([BI)Z"⟩
abbrev cX11_value : ByteArray := prog_1_method_29_code
def yX11_value : MethodName := ⟨RX11, "value", "(I)J"⟩
abbrev cX11_height : ByteArray := prog_1_method_30_code
def yX11_height : MethodName := ⟨RX11, "height", "()I"⟩
abbrev cX11_extreme : ByteArray := prog_1_method_31_code
def yX11_extreme : MethodName := ⟨RX11, "extreme", "(Z)I"⟩
abbrev cX11_number : ByteArray := prog_1_method_32_code
def yX11_number : MethodName := ⟨RX11, "number", "()J"⟩
abbrev cX12_readTerm : ByteArray := prog_14_method_51_code
def yX12_readTerm : MethodName := ⟨RX12, "readTerm", "()I"⟩
abbrev cX12_value : ByteArray := prog_14_method_136_code
def yX12_value : MethodName := ⟨RX12, "value", "(I)J"⟩
abbrev cX12_height : ByteArray := prog_14_method_137_code
def yX12_height : MethodName := ⟨RX12, "height", "()I"⟩
abbrev cX12_collects : ByteArray := prog_14_method_138_code
def yX12_collects : MethodName := ⟨RX12, "collects", "(IJJ)Z"⟩
abbrev cX12_max : ByteArray := prog_14_method_139_code
def yX12_max : MethodName := ⟨RX12, "max", "(JJ)J"⟩
abbrev cX12_weigh : ByteArray := prog_14_method_140_code
def yX12_weigh : MethodName := ⟨RX12, "weigh", "(II)J"⟩
abbrev cX12_mostAt : ByteArray := prog_14_method_141_code
def yX12_mostAt : MethodName := ⟨RX12, "mostAt", "(II)J"⟩
abbrev cX12_climb : ByteArray := prog_14_method_142_code
def yX12_climb : MethodName := ⟨RX12, "climb", "(I)V"⟩
abbrev cX12_extreme : ByteArray := prog_14_method_143_code
def yX12_extreme : MethodName := ⟨RX12, "extreme", "(Z)I"⟩
abbrev cX12_number : ByteArray := prog_14_method_144_code
def yX12_number : MethodName := ⟨RX12, "number", "()J"⟩
abbrev cL_value : ByteArray := method_7_code
def yL_value : MethodName := ⟨RL, "value", "(LIntegerHouse;I[J)I"⟩
def wsX0_isTold : List Cond := .code yX0_isTold cX0_isTold 2 (some .boolean) :: ([.fieldLink RX0 69 "IntegerHouse$Answers" "valuesTold" "I"] ++ wsX00)
def wsX6_behind : List Cond := .code yX6_behind cX6_behind 4 (some .int) :: ([.fieldLink RX6 35 "IntegerHouse$Places" "next" "[I"] ++ wsX60)
def wsX0_farFrom : List Cond := .code yX0_farFrom cX0_farFrom 2 (some .int) :: ([.fieldLink RX0 18 "IntegerHouse$Answers" "far" "[I"] ++ wsX00)
def wsX0_mark : List Cond := .code yX0_mark cX0_mark 7 (some .boolean) :: ([.fieldLink RX0 18 "IntegerHouse$Answers" "far" "[I", .fieldLink RX0 48 "IntegerHouse$Answers" "places" "LIntegerHouse$Places;", .methodLink RX0 95 yX6_behind, .instanceMethod yX6_behind, .selects RX6 yX6_behind yX6_behind, .initialized RX6, .code yX6_behind cX6_behind 4 (some .int), .fieldLink RX6 35 "IntegerHouse$Places" "next" "[I", .methodLink RX0 98 yX0_farFrom, .instanceMethod yX0_farFrom, .selects RX0 yX0_farFrom yX0_farFrom, .initialized RX0, .code yX0_farFrom cX0_farFrom 2 (some .int)] ++ wsX00 ++ wsX60)
def wsX8_readExtreme_r1 : List Cond := [Cond.fieldLink RX8 39 "IntegerHouse$Reader" "kind" "I", Cond.fieldLink RX8 101 "IntegerHouse$Reader" "hasFormula" "Z", Cond.fieldLink RX8 62 "IntegerHouse$Reader" "faultKind" "I", Cond.fieldLink RX8 19 "IntegerHouse$Reader" "maker" "LIntegerHouse$Maker;", Cond.constantLong RX8 112 (12), Cond.methodLink RX8 23 yX8_begin, Cond.instanceMethod yX8_begin, Cond.selects RX8 yX8_begin yX8_begin, Cond.initialized RX8, Cond.code yX8_begin cX8_begin 4 none, Cond.fieldLink RX8 9 "IntegerHouse$Reader" "lexer" "LIntegerHouse$Lexer;", Cond.fieldLink RX8 123 "IntegerHouse$Reader" "faultPlace" "I", Cond.fieldLink RX8 79 "IntegerHouse$Reader" "at" "I", Cond.methodLink RX8 119 yX3_scan, Cond.instanceMethod yX3_scan, Cond.selects RX3 yX3_scan yX3_scan, Cond.initialized RX3, Cond.code yX3_scan cX3_scan 9 none, Cond.fieldLink RX3 28 "IntegerHouse$Lexer" "source" "[B", Cond.fieldLink RX3 55 "IntegerHouse$Lexer" "begin" "I", Cond.fieldLink RX3 52 "IntegerHouse$Lexer" "stop" "I", Cond.fieldLink RX3 48 "IntegerHouse$Lexer" "size" "I", Cond.fieldLink RX3 19 "IntegerHouse$Lexer" "spots" "[I", Cond.fieldLink RX3 15 "IntegerHouse$Lexer" "kinds" "[I"]
def wsX8_readExtreme_r2 : List Cond := [Cond.methodLink RX3 59 yX3_behindBlanks, Cond.instanceMethod yX3_behindBlanks, Cond.selects RX3 yX3_behindBlanks yX3_behindBlanks, Cond.code yX3_behindBlanks cX3_behindBlanks 3 (some .int), Cond.methodLink RX3 63 yX3_byteAt, Cond.instanceMethod yX3_byteAt, Cond.selects RX3 yX3_byteAt yX3_byteAt, Cond.code yX3_byteAt cX3_byteAt 2 (some .int), Cond.methodLink RX3 66 yX3_isLetter, Cond.static yX3_isLetter, Cond.code yX3_isLetter cX3_isLetter 1 (some .boolean), Cond.methodLink RX3 70 yX3_word, Cond.instanceMethod yX3_word, Cond.selects RX3 yX3_word yX3_word, Cond.code yX3_word cX3_word 9 (some .int), Cond.fieldLink RX3 11 "IntegerHouse$Lexer" "words" "[J", Cond.fieldLink RX3 25 "IntegerHouse$Lexer" "names" "[J", Cond.methodLink RX3 74 yX3_isDigit, Cond.static yX3_isDigit, Cond.code yX3_isDigit cX3_isDigit 1 (some .boolean), Cond.methodLink RX3 77 yX3_digits, Cond.instanceMethod yX3_digits, Cond.selects RX3 yX3_digits yX3_digits, Cond.code yX3_digits cX3_digits 6 (some .int)]
def wsX8_readExtreme_r3 : List Cond := [Cond.fieldLink RX3 22 "IntegerHouse$Lexer" "numbers" "[I", Cond.methodLink RX3 81 yX3_sign, Cond.instanceMethod yX3_sign, Cond.selects RX3 yX3_sign yX3_sign, Cond.code yX3_sign cX3_sign 6 (some .int), Cond.methodLink RX3 44 yJ0_charAt_5068e, Cond.instanceMethod yJ0_charAt_5068e, Cond.selects RJ0 yJ0_charAt_5068e yJ0_charAt_5068e, Cond.initialized RJ0, Cond.code yJ0_charAt_5068e cJ0_charAt_5068e 2 (some .char), Cond.fieldLink RJ0 9 "java/lang/String" "value" "[B", Cond.methodLink RJ0 492 yJ0_isLatin1_aae02, Cond.instanceMethod yJ0_isLatin1_aae02, Cond.selects RJ0 yJ0_isLatin1_aae02 yJ0_isLatin1_aae02, Cond.code yJ0_isLatin1_aae02 cJ0_isLatin1_aae02 1 (some .boolean), Cond.fieldLink RJ0 38 "java/lang/String" "COMPACT_STRINGS" "Z", Cond.fieldLink RJ0 15 "java/lang/String" "coder" "B", Cond.methodLink RJ0 495 yJ1_charAt_3b067, Cond.static yJ1_charAt_3b067, Cond.initialized RJ1, Cond.code yJ1_charAt_3b067 cJ1_charAt_3b067 2 (some .char), Cond.methodLink RJ1 9 yJ0_checkIndex_df160, Cond.static yJ0_checkIndex_df160, Cond.code yJ0_checkIndex_df160 cJ0_checkIndex_df160 2 none]
def wsX8_readExtreme_r4 : List Cond := [Cond.fieldLink RJ0 1053 "jdk/internal/util/Preconditions" "SIOOBE_FORMATTER" "Ljava/util/function/BiFunction;", Cond.methodLink RJ0 1059 yJ3_checkIndex_8e157, Cond.static yJ3_checkIndex_8e157, Cond.initialized RJ3, Cond.code yJ3_checkIndex_8e157 cJ3_checkIndex_8e157 3 (some .int), Cond.methodLink RJ0 498 yJ2_charAt_3b067, Cond.static yJ2_charAt_3b067, Cond.initialized RJ2, Cond.code yJ2_charAt_3b067 cJ2_charAt_3b067 2 (some .char), Cond.methodLink RJ2 67 yJ2_checkIndex_2214a, Cond.static yJ2_checkIndex_2214a, Cond.code yJ2_checkIndex_2214a cJ2_checkIndex_2214a 2 none, Cond.methodLink RJ2 48 yJ2_length_9d52b, Cond.static yJ2_length_9d52b, Cond.code yJ2_length_9d52b cJ2_length_9d52b 1 (some .int), Cond.methodLink RJ2 414 yJ0_checkIndex_df160, Cond.methodLink RJ2 71 yJ2_getChar_3b067, Cond.static yJ2_getChar_3b067, Cond.code yJ2_getChar_3b067 cJ2_getChar_3b067 2 (some .char), Cond.fieldLink RJ2 44 "java/lang/StringUTF16" "$assertionsDisabled" "Z", Cond.fieldLink RJ2 59 "java/lang/StringUTF16" "HI_BYTE_SHIFT" "I", Cond.fieldLink RJ2 63 "java/lang/StringUTF16" "LO_BYTE_SHIFT" "I", Cond.methodLink RX8 98 yX8_next, Cond.instanceMethod yX8_next]
def wsX8_readExtreme_r5 : List Cond := [Cond.selects RX8 yX8_next yX8_next, Cond.code yX8_next cX8_next 1 none, Cond.fieldLink RX8 136 "IntegerHouse$Reader" "place" "I", Cond.methodLink RX8 49 yX8_readInto, Cond.instanceMethod yX8_readInto, Cond.selects RX8 yX8_readInto yX8_readInto, Cond.code yX8_readInto cX8_readInto 2 none, Cond.fieldLink RX8 164 "IntegerHouse$Reader" "slot" "I", Cond.fieldLink RX8 167 "IntegerHouse$Reader" "tokens" "I", Cond.fieldLink RX8 170 "IntegerHouse$Reader" "steps" "I", Cond.fieldLink RX8 173 "IntegerHouse$Reader" "open" "I", Cond.fieldLink RX8 15 "IntegerHouse$Reader" "house" "LIntegerHouse$House;", Cond.methodLink RX8 157 yX2_setFact, Cond.instanceMethod yX2_setFact, Cond.selects RX2 yX2_setFact yX2_setFact, Cond.initialized RX2, Cond.code yX2_setFact cX2_setFact 4 none, Cond.fieldLink RX2 28 "IntegerHouse$House" "facts" "[I", Cond.methodLink RX8 176 yX8_term, Cond.instanceMethod yX8_term, Cond.selects RX8 yX8_term yX8_term, Cond.code yX8_term cX8_term 3 none, Cond.methodLink RX8 191 yX8_accept, Cond.instanceMethod yX8_accept]
def wsX8_readExtreme_r6 : List Cond := [Cond.selects RX8 yX8_accept yX8_accept, Cond.code yX8_accept cX8_accept 4 none, Cond.methodLink RX8 95 yX8_fail, Cond.instanceMethod yX8_fail, Cond.selects RX8 yX8_fail yX8_fail, Cond.code yX8_fail cX8_fail 2 none, Cond.methodLink RX8 185 yX2_setToken, Cond.instanceMethod yX2_setToken, Cond.selects RX2 yX2_setToken yX2_setToken, Cond.code yX2_setToken cX2_setToken 4 none, Cond.fieldLink RX2 18 "IntegerHouse$House" "tokens" "[I", Cond.methodLink RX8 219 yX8_part, Cond.instanceMethod yX8_part, Cond.selects RX8 yX8_part yX8_part, Cond.methodLink RX8 194 yX8_step, Cond.instanceMethod yX8_step, Cond.selects RX8 yX8_step yX8_step, Cond.code yX8_step cX8_step 2 none, Cond.methodLink RX8 182 yX2_setStep, Cond.instanceMethod yX2_setStep, Cond.selects RX2 yX2_setStep yX2_setStep, Cond.code yX2_setStep cX2_setStep 4 none, Cond.fieldLink RX2 22 "IntegerHouse$House" "steps" "[I", Cond.code yX8_bracketed cX8_bracketed 3 none]
def wsX8_readExtreme_r7 : List Cond := [Cond.methodLink RX8 206 yX3_numberAt, Cond.instanceMethod yX3_numberAt, Cond.selects RX3 yX3_numberAt yX3_numberAt, Cond.code yX3_numberAt cX3_numberAt 2 (some .int), Cond.constant RX3 58 (1048575), Cond.methodLink RX8 209 yX8_checkDivisor, Cond.instanceMethod yX8_checkDivisor, Cond.selects RX8 yX8_checkDivisor yX8_checkDivisor, Cond.code yX8_checkDivisor cX8_checkDivisor 2 none, Cond.methodLink RX8 212 yX3_writtenAt, Cond.instanceMethod yX3_writtenAt, Cond.selects RX3 yX3_writtenAt yX3_writtenAt, Cond.code yX3_writtenAt cX3_writtenAt 2 (some .int), Cond.code yX8_factor cX8_factor 3 none, Cond.methodLink RX8 82 yX3_nameAt, Cond.instanceMethod yX3_nameAt, Cond.selects RX3 yX3_nameAt yX3_nameAt, Cond.code yX3_nameAt cX3_nameAt 2 (some .long), Cond.methodLink RX8 92 yX2_variableOf, Cond.instanceMethod yX2_variableOf, Cond.selects RX2 yX2_variableOf yX2_variableOf, Cond.code yX2_variableOf cX2_variableOf 4 (some .int), Cond.fieldLink RX2 52 "IntegerHouse$House" "variables" "I", Cond.fieldLink RX2 9 "IntegerHouse$House" "variableNames" "[J"]
def wsX8_readExtreme_r8 : List Cond := [Cond.methodLink RX8 88 yX2_claimOf, Cond.instanceMethod yX2_claimOf, Cond.selects RX2 yX2_claimOf yX2_claimOf, Cond.code yX2_claimOf cX2_claimOf 4 (some .int), Cond.fieldLink RX2 55 "IntegerHouse$House" "claims" "I", Cond.fieldLink RX2 15 "IntegerHouse$House" "claimNames" "[J", Cond.methodLink RX8 226 yX8_bracketed, Cond.instanceMethod yX8_bracketed, Cond.selects RX8 yX8_bracketed yX8_bracketed, Cond.code yX8_part cX8_part 5 none, Cond.methodLink RX8 223 yX8_factor, Cond.instanceMethod yX8_factor, Cond.selects RX8 yX8_factor yX8_factor, Cond.methodLink RX8 179 yX8_formula, Cond.instanceMethod yX8_formula, Cond.selects RX8 yX8_formula yX8_formula, Cond.code yX8_formula cX8_formula 2 none, Cond.methodLink RX8 188 yX8_side, Cond.instanceMethod yX8_side, Cond.selects RX8 yX8_side yX8_side, Cond.code yX8_both cX8_both 2 none, Cond.methodLink RX8 200 yX8_one, Cond.instanceMethod yX8_one, Cond.selects RX8 yX8_one yX8_one]
def wsX8_readExtreme_r9 : List Cond := [Cond.code yX8_one cX8_one 4 none, Cond.methodLink RX8 203 yX3_kindAt, Cond.instanceMethod yX3_kindAt, Cond.selects RX3 yX3_kindAt yX3_kindAt, Cond.code yX3_kindAt cX3_kindAt 2 (some .int), Cond.static yX11_isComparison, Cond.initialized RX11, Cond.code yX11_isComparison cX11_isComparison 1 (some .boolean), Cond.code yX8_side cX8_side 2 none, Cond.methodLink RX8 197 yX8_both, Cond.instanceMethod yX8_both, Cond.selects RX8 yX8_both yX8_both, Cond.methodLink RX8 59 yX8_expectEnd, Cond.instanceMethod yX8_expectEnd, Cond.selects RX8 yX8_expectEnd yX8_expectEnd, Cond.code yX8_expectEnd cX8_expectEnd 1 none, Cond.methodLink RX8 105 yX4_makeGoal, Cond.instanceMethod yX4_makeGoal, Cond.selects RX4 yX4_makeGoal yX4_makeGoal, Cond.initialized RX4, Cond.code yX4_makeGoal cX4_makeGoal 4 (some .boolean), Cond.fieldLink RX4 25 "IntegerHouse$Maker" "house" "LIntegerHouse$House;", Cond.fieldLink RX4 61 "IntegerHouse$Maker" "great" "Z", Cond.fieldLink RX4 22 "IntegerHouse$Maker" "goal" "[J"]
def wsX8_readExtreme_r10 : List Cond := [Cond.fieldLink RX4 11 "IntegerHouse$Maker" "forms" "[J", Cond.methodLink RX4 29 yX4_begin, Cond.instanceMethod yX4_begin, Cond.selects RX4 yX4_begin yX4_begin, Cond.code yX4_begin cX4_begin 2 none, Cond.fieldLink RX4 33 "IntegerHouse$Maker" "slot" "I", Cond.fieldLink RX4 86 "IntegerHouse$Maker" "codeSize" "I", Cond.fieldLink RX4 89 "IntegerHouse$Maker" "crowded" "Z", Cond.fieldLink RX4 83 "IntegerHouse$Maker" "falsehood" "I", Cond.fieldLink RX4 15 "IntegerHouse$Maker" "tops" "[I", Cond.methodLink RX4 79 yX2_setFact, Cond.methodLink RX4 39 yX2_fact, Cond.instanceMethod yX2_fact, Cond.selects RX2 yX2_fact yX2_fact, Cond.code yX2_fact cX2_fact 3 (some .int), Cond.methodLink RX4 43 yX2_step, Cond.instanceMethod yX2_step, Cond.selects RX2 yX2_step yX2_step, Cond.code yX2_step cX2_step 3 (some .int), Cond.methodLink RX4 92 yX4_work, Cond.instanceMethod yX4_work, Cond.selects RX4 yX4_work yX4_work, Cond.code yX4_work cX4_work 5 none, Cond.methodLink RX4 137 yX4_top]
def wsX8_readExtreme_r11 : List Cond := [Cond.instanceMethod yX4_top, Cond.selects RX4 yX4_top yX4_top, Cond.code yX4_top cX4_top 2 (some .int), Cond.methodLink RX4 169 yX4_pushForm, Cond.instanceMethod yX4_pushForm, Cond.selects RX4 yX4_pushForm yX4_pushForm, Cond.code yX4_pushForm cX4_pushForm 6 none, Cond.methodLink RX4 95 yX4_form, Cond.static yX4_form, Cond.code yX4_form cX4_form 2 (some .int), Cond.methodLink RX4 160 yX4_setTop, Cond.instanceMethod yX4_setTop, Cond.selects RX4 yX4_setTop yX4_setTop, Cond.code yX4_setTop cX4_setTop 3 none, Cond.methodLink RX4 150 yX4_multiply, Cond.instanceMethod yX4_multiply, Cond.selects RX4 yX4_multiply yX4_multiply, Cond.code yX4_multiply cX4_multiply 4 none, Cond.methodLink RX4 153 yX4_combine, Cond.instanceMethod yX4_combine, Cond.selects RX4 yX4_combine yX4_combine, Cond.code yX4_combine cX4_combine 12 none, Cond.methodLink RX4 172 Lib.MathLoose.max_long.x, Cond.static Lib.MathLoose.max_long.x]
def wsX8_readExtreme_r12 : List Cond := [Cond.initialized "java/lang/Math", Cond.code Lib.MathLoose.max_long.x Lib.MathLoose.max_long.code 4 (some .long), Cond.static yX11_commonDivisor, Cond.code yX11_commonDivisor cX11_commonDivisor 11 (some .long), Cond.methodLink RX4 157 yX4_check, Cond.instanceMethod yX4_check, Cond.selects RX4 yX4_check yX4_check, Cond.code yX4_check cX4_check 3 none, Cond.methodLink RX4 98 Lib.MathLoose.abs_long.x, Cond.static Lib.MathLoose.abs_long.x, Cond.code Lib.MathLoose.abs_long.x Lib.MathLoose.abs_long.code 2 (some .long), Cond.constantLong RX4 179 (1000000), Cond.methodLink RX8 108 yX4_goalSizes, Cond.instanceMethod yX4_goalSizes, Cond.selects RX4 yX4_goalSizes yX4_goalSizes, Cond.code yX4_goalSizes cX4_goalSizes 4 (some .long), Cond.methodLink RX8 71 yX8_failIf, Cond.instanceMethod yX8_failIf, Cond.selects RX8 yX8_failIf yX8_failIf, Cond.code yX8_failIf cX8_failIf 3 none, Cond.methodLink RX8 139 yX2_fact, Cond.methodLink RX8 65 yX4_make, Cond.instanceMethod yX4_make, Cond.selects RX4 yX4_make yX4_make]
def wsX8_readExtreme_r13 : List Cond := [Cond.code yX4_make cX4_make 10 (some .int), Cond.methodLink RX4 56 Lib.Math.min.name, Cond.static Lib.Math.min.name, Cond.code Lib.Math.min.name Lib.Math.min.code 2 (some .int), Cond.methodLink RX4 46 yX4_isPlain, Cond.instanceMethod yX4_isPlain, Cond.selects RX4 yX4_isPlain yX4_isPlain, Cond.code yX4_isPlain cX4_isPlain 4 (some .boolean), Cond.methodLink RX4 50 yX4_lastOf, Cond.instanceMethod yX4_lastOf, Cond.selects RX4 yX4_lastOf yX4_lastOf, Cond.code yX4_lastOf cX4_lastOf 4 (some .int), Cond.methodLink RX4 102 yX4_isConclusion, Cond.static yX4_isConclusion, Cond.code yX4_isConclusion cX4_isConclusion 1 (some .boolean), Cond.methodLink RX4 53 yX4_casesOf, Cond.instanceMethod yX4_casesOf, Cond.selects RX4 yX4_casesOf yX4_casesOf, Cond.code yX4_casesOf cX4_casesOf 5 (some .int), Cond.methodLink RX4 108 yX4_waysOf, Cond.static yX4_waysOf, Cond.code yX4_waysOf cX4_waysOf 2 (some .int), Cond.methodLink RX4 65 yX4_fall, Cond.instanceMethod yX4_fall]
def wsX8_readExtreme_r14 : List Cond := [Cond.selects RX4 yX4_fall yX4_fall, Cond.code yX4_fall cX4_fall 7 none, Cond.methodLink RX4 121 yX4_split, Cond.instanceMethod yX4_split, Cond.selects RX4 yX4_split yX4_split, Cond.methodLink RX4 124 yX4_conclude, Cond.instanceMethod yX4_conclude, Cond.selects RX4 yX4_conclude yX4_conclude, Cond.code yX4_conclude cX4_conclude 6 none, Cond.methodLink RX4 166 yX4_divisorOf, Cond.instanceMethod yX4_divisorOf, Cond.selects RX4 yX4_divisorOf yX4_divisorOf, Cond.code yX4_divisorOf cX4_divisorOf 7 (some .int), Cond.constantLong RX4 185 (12), Cond.fieldLink RX4 19 "IntegerHouse$Maker" "row" "[I", Cond.methodLink RX4 187 yJ9_floorMod_f86c9, Cond.static yJ9_floorMod_f86c9, Cond.initialized RJ9, Cond.code yJ9_floorMod_f86c9 cJ9_floorMod_f86c9 6 (some .long), Cond.methodLink RX4 144 yX4_add, Cond.instanceMethod yX4_add, Cond.selects RX4 yX4_add yX4_add, Cond.code yX4_add cX4_add 3 none, Cond.methodLink RX4 76 yX4_emit]
def wsX8_readExtreme_r15 : List Cond := [Cond.instanceMethod yX4_emit, Cond.selects RX4 yX4_emit yX4_emit, Cond.code yX4_emit cX4_emit 2 none, Cond.methodLink RX4 190 yX2_poolNumber, Cond.instanceMethod yX2_poolNumber, Cond.selects RX2 yX2_poolNumber yX2_poolNumber, Cond.code yX2_poolNumber cX2_poolNumber 6 (some .int), Cond.fieldLink RX2 58 "IntegerHouse$House" "poolSize" "I", Cond.fieldLink RX2 34 "IntegerHouse$House" "pool" "[I", Cond.methodLink RX4 115 yX2_addAtom, Cond.instanceMethod yX2_addAtom, Cond.selects RX2 yX2_addAtom yX2_addAtom, Cond.code yX2_addAtom cX2_addAtom 5 (some .boolean), Cond.fieldLink RX2 31 "IntegerHouse$House" "atoms" "[I", Cond.methodLink RX4 140 yX4_lineOf, Cond.instanceMethod yX4_lineOf, Cond.selects RX4 yX4_lineOf yX4_lineOf, Cond.code yX4_lineOf cX4_lineOf 8 (some .int), Cond.constantLong RX4 181 (20), Cond.constantLong RX4 183 (99999), Cond.code yX4_split cX4_split 7 none, Cond.methodLink RX4 127 yX4_splitSign, Cond.instanceMethod yX4_splitSign, Cond.selects RX4 yX4_splitSign yX4_splitSign]
def wsX8_readExtreme_r16 : List Cond := [Cond.code yX4_splitSign cX4_splitSign 4 none, Cond.methodLink RX4 147 yX4_copyLevel, Cond.instanceMethod yX4_copyLevel, Cond.selects RX4 yX4_copyLevel yX4_copyLevel, Cond.code yX4_copyLevel cX4_copyLevel 4 none, Cond.methodLink RX4 163 yX4_copyForm, Cond.instanceMethod yX4_copyForm, Cond.selects RX4 yX4_copyForm yX4_copyForm, Cond.code yX4_copyForm cX4_copyForm 4 none, Cond.methodLink RX4 130 yX4_splitOrder, Cond.instanceMethod yX4_splitOrder, Cond.selects RX4 yX4_splitOrder yX4_splitOrder, Cond.code yX4_splitOrder cX4_splitOrder 6 none, Cond.methodLink RX4 133 yX4_splitRest, Cond.instanceMethod yX4_splitRest, Cond.selects RX4 yX4_splitRest yX4_splitRest, Cond.code yX4_splitRest cX4_splitRest 7 none, Cond.methodLink RX4 69 yX4_arePlain, Cond.instanceMethod yX4_arePlain, Cond.selects RX4 yX4_arePlain yX4_arePlain, Cond.code yX4_arePlain cX4_arePlain 5 (some .boolean), Cond.methodLink RX4 73 yX4_takeNamed, Cond.instanceMethod yX4_takeNamed, Cond.selects RX4 yX4_takeNamed yX4_takeNamed]
def wsX8_readExtreme_r17 : List Cond := [Cond.code yX4_takeNamed cX4_takeNamed 4 none, Cond.methodLink RX4 112 yX2_atomOf, Cond.instanceMethod yX2_atomOf, Cond.selects RX2 yX2_atomOf yX2_atomOf, Cond.code yX2_atomOf cX2_atomOf 3 (some .int)]
def wsX8_readExtreme : List Cond := .code yX8_readExtreme cX8_readExtreme 3 (some .boolean) :: ((wsX8_readExtreme_r1 ++ (wsX8_readExtreme_r2 ++ (wsX8_readExtreme_r3 ++ (wsX8_readExtreme_r4 ++ (wsX8_readExtreme_r5 ++ (wsX8_readExtreme_r6 ++ (wsX8_readExtreme_r7 ++ (wsX8_readExtreme_r8 ++ (wsX8_readExtreme_r9 ++ (wsX8_readExtreme_r10 ++ (wsX8_readExtreme_r11 ++ (wsX8_readExtreme_r12 ++ (wsX8_readExtreme_r13 ++ (wsX8_readExtreme_r14 ++ (wsX8_readExtreme_r15 ++ (wsX8_readExtreme_r16 ++ wsX8_readExtreme_r17)))))))))))))))) ++ wsX80 ++ wsX30 ++ wsX20 ++ wsX40)
def wsX11_value : List Cond := .code yX11_value cX11_value 2 (some .long) :: ([.classLink RX11 197 "java/lang/IndexOutOfBoundsException", .initialized "java/lang/IndexOutOfBoundsException", .fieldLink RX11 64 "IntegerHouse" "answers" "LIntegerHouse$Answers;", .methodLink RX11 309 yX0_isTold, .instanceMethod yX0_isTold, .selects RX0 yX0_isTold yX0_isTold, .initialized RX0, .code yX0_isTold cX0_isTold 2 (some .boolean), .fieldLink RX0 69 "IntegerHouse$Answers" "valuesTold" "I", .methodLink RX11 314 yX0_toldValue, .instanceMethod yX0_toldValue, .selects RX0 yX0_toldValue yX0_toldValue, .code yX0_toldValue cX0_toldValue 2 (some .long), .fieldLink RX0 9 "IntegerHouse$Answers" "values" "[J"] ++ wsX110 ++ wsX00 ++ (vx_atS RX11 201 "java/lang/IndexOutOfBoundsException" ["java/lang/RuntimeException", "java/lang/Exception"]).filter goodWord)
def wsX11_height : List Cond := .code yX11_height cX11_height 1 (some .int) :: ([.fieldLink RX11 64 "IntegerHouse" "answers" "LIntegerHouse$Answers;"] ++ wsX110 ++ wsX00)
def wsX11_extreme_r1 : List Cond := [Cond.fieldLink RX11 16 "IntegerHouse" "disk" "LIntegerHouse$Disk;", Cond.fieldLink RX11 23 "IntegerHouse" "house" "LIntegerHouse$House;", Cond.fieldLink RX11 48 "IntegerHouse" "reader" "LIntegerHouse$Reader;", Cond.fieldLink RX11 9 "IntegerHouse" "tape" "[B", Cond.constant RX11 308 (16777216), Cond.fieldLink RX11 55 "IntegerHouse" "places" "LIntegerHouse$Places;", Cond.fieldLink RX11 64 "IntegerHouse" "answers" "LIntegerHouse$Answers;", Cond.fieldLink RX11 39 "IntegerHouse" "maker" "LIntegerHouse$Maker;", Cond.methodLink RX11 230 yX11_useTape, Cond.instanceMethod yX11_useTape, Cond.selects RX11 yX11_useTape yX11_useTape, Cond.initialized RX11, Cond.code yX11_useTape cX11_useTape 2 (some .int), Cond.fieldLink RX11 102 "IntegerHouse" "tapeLength" "I", Cond.methodLink RX11 321 yX8_readExtreme, Cond.instanceMethod yX8_readExtreme, Cond.selects RX8 yX8_readExtreme yX8_readExtreme, Cond.initialized RX8, Cond.code yX8_readExtreme cX8_readExtreme 3 (some .boolean), Cond.fieldLink RX8 39 "IntegerHouse$Reader" "kind" "I", Cond.fieldLink RX8 101 "IntegerHouse$Reader" "hasFormula" "Z", Cond.fieldLink RX8 62 "IntegerHouse$Reader" "faultKind" "I", Cond.fieldLink RX8 19 "IntegerHouse$Reader" "maker" "LIntegerHouse$Maker;", Cond.constantLong RX8 112 (12)]
def wsX11_extreme_r2 : List Cond := [Cond.methodLink RX8 23 yX8_begin, Cond.instanceMethod yX8_begin, Cond.selects RX8 yX8_begin yX8_begin, Cond.code yX8_begin cX8_begin 4 none, Cond.fieldLink RX8 9 "IntegerHouse$Reader" "lexer" "LIntegerHouse$Lexer;", Cond.fieldLink RX8 123 "IntegerHouse$Reader" "faultPlace" "I", Cond.fieldLink RX8 79 "IntegerHouse$Reader" "at" "I", Cond.methodLink RX8 119 yX3_scan, Cond.instanceMethod yX3_scan, Cond.selects RX3 yX3_scan yX3_scan, Cond.initialized RX3, Cond.code yX3_scan cX3_scan 9 none, Cond.fieldLink RX3 28 "IntegerHouse$Lexer" "source" "[B", Cond.fieldLink RX3 55 "IntegerHouse$Lexer" "begin" "I", Cond.fieldLink RX3 52 "IntegerHouse$Lexer" "stop" "I", Cond.fieldLink RX3 48 "IntegerHouse$Lexer" "size" "I", Cond.fieldLink RX3 19 "IntegerHouse$Lexer" "spots" "[I", Cond.fieldLink RX3 15 "IntegerHouse$Lexer" "kinds" "[I", Cond.methodLink RX3 59 yX3_behindBlanks, Cond.instanceMethod yX3_behindBlanks, Cond.selects RX3 yX3_behindBlanks yX3_behindBlanks, Cond.code yX3_behindBlanks cX3_behindBlanks 3 (some .int), Cond.methodLink RX3 63 yX3_byteAt, Cond.instanceMethod yX3_byteAt]
def wsX11_extreme_r3 : List Cond := [Cond.selects RX3 yX3_byteAt yX3_byteAt, Cond.code yX3_byteAt cX3_byteAt 2 (some .int), Cond.methodLink RX3 66 yX3_isLetter, Cond.static yX3_isLetter, Cond.code yX3_isLetter cX3_isLetter 1 (some .boolean), Cond.methodLink RX3 70 yX3_word, Cond.instanceMethod yX3_word, Cond.selects RX3 yX3_word yX3_word, Cond.code yX3_word cX3_word 9 (some .int), Cond.fieldLink RX3 11 "IntegerHouse$Lexer" "words" "[J", Cond.fieldLink RX3 25 "IntegerHouse$Lexer" "names" "[J", Cond.methodLink RX3 74 yX3_isDigit, Cond.static yX3_isDigit, Cond.code yX3_isDigit cX3_isDigit 1 (some .boolean), Cond.methodLink RX3 77 yX3_digits, Cond.instanceMethod yX3_digits, Cond.selects RX3 yX3_digits yX3_digits, Cond.code yX3_digits cX3_digits 6 (some .int), Cond.fieldLink RX3 22 "IntegerHouse$Lexer" "numbers" "[I", Cond.methodLink RX3 81 yX3_sign, Cond.instanceMethod yX3_sign, Cond.selects RX3 yX3_sign yX3_sign, Cond.code yX3_sign cX3_sign 6 (some .int), Cond.methodLink RX3 44 yJ0_charAt_5068e]
def wsX11_extreme_r4 : List Cond := [Cond.instanceMethod yJ0_charAt_5068e, Cond.selects RJ0 yJ0_charAt_5068e yJ0_charAt_5068e, Cond.initialized RJ0, Cond.code yJ0_charAt_5068e cJ0_charAt_5068e 2 (some .char), Cond.fieldLink RJ0 9 "java/lang/String" "value" "[B", Cond.methodLink RJ0 492 yJ0_isLatin1_aae02, Cond.instanceMethod yJ0_isLatin1_aae02, Cond.selects RJ0 yJ0_isLatin1_aae02 yJ0_isLatin1_aae02, Cond.code yJ0_isLatin1_aae02 cJ0_isLatin1_aae02 1 (some .boolean), Cond.fieldLink RJ0 38 "java/lang/String" "COMPACT_STRINGS" "Z", Cond.fieldLink RJ0 15 "java/lang/String" "coder" "B", Cond.methodLink RJ0 495 yJ1_charAt_3b067, Cond.static yJ1_charAt_3b067, Cond.initialized RJ1, Cond.code yJ1_charAt_3b067 cJ1_charAt_3b067 2 (some .char), Cond.methodLink RJ1 9 yJ0_checkIndex_df160, Cond.static yJ0_checkIndex_df160, Cond.code yJ0_checkIndex_df160 cJ0_checkIndex_df160 2 none, Cond.fieldLink RJ0 1053 "jdk/internal/util/Preconditions" "SIOOBE_FORMATTER" "Ljava/util/function/BiFunction;", Cond.methodLink RJ0 1059 yJ3_checkIndex_8e157, Cond.static yJ3_checkIndex_8e157, Cond.initialized RJ3, Cond.code yJ3_checkIndex_8e157 cJ3_checkIndex_8e157 3 (some .int), Cond.methodLink RJ0 498 yJ2_charAt_3b067]
def wsX11_extreme_r5 : List Cond := [Cond.static yJ2_charAt_3b067, Cond.initialized RJ2, Cond.code yJ2_charAt_3b067 cJ2_charAt_3b067 2 (some .char), Cond.methodLink RJ2 67 yJ2_checkIndex_2214a, Cond.static yJ2_checkIndex_2214a, Cond.code yJ2_checkIndex_2214a cJ2_checkIndex_2214a 2 none, Cond.methodLink RJ2 48 yJ2_length_9d52b, Cond.static yJ2_length_9d52b, Cond.code yJ2_length_9d52b cJ2_length_9d52b 1 (some .int), Cond.methodLink RJ2 414 yJ0_checkIndex_df160, Cond.methodLink RJ2 71 yJ2_getChar_3b067, Cond.static yJ2_getChar_3b067, Cond.code yJ2_getChar_3b067 cJ2_getChar_3b067 2 (some .char), Cond.fieldLink RJ2 44 "java/lang/StringUTF16" "$assertionsDisabled" "Z", Cond.fieldLink RJ2 59 "java/lang/StringUTF16" "HI_BYTE_SHIFT" "I", Cond.fieldLink RJ2 63 "java/lang/StringUTF16" "LO_BYTE_SHIFT" "I", Cond.methodLink RX8 98 yX8_next, Cond.instanceMethod yX8_next, Cond.selects RX8 yX8_next yX8_next, Cond.code yX8_next cX8_next 1 none, Cond.fieldLink RX8 136 "IntegerHouse$Reader" "place" "I", Cond.methodLink RX8 49 yX8_readInto, Cond.instanceMethod yX8_readInto, Cond.selects RX8 yX8_readInto yX8_readInto]
def wsX11_extreme_r6 : List Cond := [Cond.code yX8_readInto cX8_readInto 2 none, Cond.fieldLink RX8 164 "IntegerHouse$Reader" "slot" "I", Cond.fieldLink RX8 167 "IntegerHouse$Reader" "tokens" "I", Cond.fieldLink RX8 170 "IntegerHouse$Reader" "steps" "I", Cond.fieldLink RX8 173 "IntegerHouse$Reader" "open" "I", Cond.fieldLink RX8 15 "IntegerHouse$Reader" "house" "LIntegerHouse$House;", Cond.methodLink RX8 157 yX2_setFact, Cond.instanceMethod yX2_setFact, Cond.selects RX2 yX2_setFact yX2_setFact, Cond.initialized RX2, Cond.code yX2_setFact cX2_setFact 4 none, Cond.fieldLink RX2 28 "IntegerHouse$House" "facts" "[I", Cond.methodLink RX8 176 yX8_term, Cond.instanceMethod yX8_term, Cond.selects RX8 yX8_term yX8_term, Cond.code yX8_term cX8_term 3 none, Cond.methodLink RX8 191 yX8_accept, Cond.instanceMethod yX8_accept, Cond.selects RX8 yX8_accept yX8_accept, Cond.code yX8_accept cX8_accept 4 none, Cond.methodLink RX8 95 yX8_fail, Cond.instanceMethod yX8_fail, Cond.selects RX8 yX8_fail yX8_fail, Cond.code yX8_fail cX8_fail 2 none]
def wsX11_extreme_r7 : List Cond := [Cond.methodLink RX8 185 yX2_setToken, Cond.instanceMethod yX2_setToken, Cond.selects RX2 yX2_setToken yX2_setToken, Cond.code yX2_setToken cX2_setToken 4 none, Cond.fieldLink RX2 18 "IntegerHouse$House" "tokens" "[I", Cond.methodLink RX8 219 yX8_part, Cond.instanceMethod yX8_part, Cond.selects RX8 yX8_part yX8_part, Cond.methodLink RX8 194 yX8_step, Cond.instanceMethod yX8_step, Cond.selects RX8 yX8_step yX8_step, Cond.code yX8_step cX8_step 2 none, Cond.methodLink RX8 182 yX2_setStep, Cond.instanceMethod yX2_setStep, Cond.selects RX2 yX2_setStep yX2_setStep, Cond.code yX2_setStep cX2_setStep 4 none, Cond.fieldLink RX2 22 "IntegerHouse$House" "steps" "[I", Cond.code yX8_bracketed cX8_bracketed 3 none, Cond.methodLink RX8 206 yX3_numberAt, Cond.instanceMethod yX3_numberAt, Cond.selects RX3 yX3_numberAt yX3_numberAt, Cond.code yX3_numberAt cX3_numberAt 2 (some .int), Cond.constant RX3 58 (1048575), Cond.methodLink RX8 209 yX8_checkDivisor]
def wsX11_extreme_r8 : List Cond := [Cond.instanceMethod yX8_checkDivisor, Cond.selects RX8 yX8_checkDivisor yX8_checkDivisor, Cond.code yX8_checkDivisor cX8_checkDivisor 2 none, Cond.methodLink RX8 212 yX3_writtenAt, Cond.instanceMethod yX3_writtenAt, Cond.selects RX3 yX3_writtenAt yX3_writtenAt, Cond.code yX3_writtenAt cX3_writtenAt 2 (some .int), Cond.code yX8_factor cX8_factor 3 none, Cond.methodLink RX8 82 yX3_nameAt, Cond.instanceMethod yX3_nameAt, Cond.selects RX3 yX3_nameAt yX3_nameAt, Cond.code yX3_nameAt cX3_nameAt 2 (some .long), Cond.methodLink RX8 92 yX2_variableOf, Cond.instanceMethod yX2_variableOf, Cond.selects RX2 yX2_variableOf yX2_variableOf, Cond.code yX2_variableOf cX2_variableOf 4 (some .int), Cond.fieldLink RX2 52 "IntegerHouse$House" "variables" "I", Cond.fieldLink RX2 9 "IntegerHouse$House" "variableNames" "[J", Cond.methodLink RX8 88 yX2_claimOf, Cond.instanceMethod yX2_claimOf, Cond.selects RX2 yX2_claimOf yX2_claimOf, Cond.code yX2_claimOf cX2_claimOf 4 (some .int), Cond.fieldLink RX2 55 "IntegerHouse$House" "claims" "I", Cond.fieldLink RX2 15 "IntegerHouse$House" "claimNames" "[J"]
def wsX11_extreme_r9 : List Cond := [Cond.methodLink RX8 226 yX8_bracketed, Cond.instanceMethod yX8_bracketed, Cond.selects RX8 yX8_bracketed yX8_bracketed, Cond.code yX8_part cX8_part 5 none, Cond.methodLink RX8 223 yX8_factor, Cond.instanceMethod yX8_factor, Cond.selects RX8 yX8_factor yX8_factor, Cond.methodLink RX8 179 yX8_formula, Cond.instanceMethod yX8_formula, Cond.selects RX8 yX8_formula yX8_formula, Cond.code yX8_formula cX8_formula 2 none, Cond.methodLink RX8 188 yX8_side, Cond.instanceMethod yX8_side, Cond.selects RX8 yX8_side yX8_side, Cond.code yX8_both cX8_both 2 none, Cond.methodLink RX8 200 yX8_one, Cond.instanceMethod yX8_one, Cond.selects RX8 yX8_one yX8_one, Cond.code yX8_one cX8_one 4 none, Cond.methodLink RX8 203 yX3_kindAt, Cond.instanceMethod yX3_kindAt, Cond.selects RX3 yX3_kindAt yX3_kindAt, Cond.code yX3_kindAt cX3_kindAt 2 (some .int), Cond.static yX11_isComparison]
def wsX11_extreme_r10 : List Cond := [Cond.code yX11_isComparison cX11_isComparison 1 (some .boolean), Cond.code yX8_side cX8_side 2 none, Cond.methodLink RX8 197 yX8_both, Cond.instanceMethod yX8_both, Cond.selects RX8 yX8_both yX8_both, Cond.methodLink RX8 59 yX8_expectEnd, Cond.instanceMethod yX8_expectEnd, Cond.selects RX8 yX8_expectEnd yX8_expectEnd, Cond.code yX8_expectEnd cX8_expectEnd 1 none, Cond.methodLink RX8 105 yX4_makeGoal, Cond.instanceMethod yX4_makeGoal, Cond.selects RX4 yX4_makeGoal yX4_makeGoal, Cond.initialized RX4, Cond.code yX4_makeGoal cX4_makeGoal 4 (some .boolean), Cond.fieldLink RX4 25 "IntegerHouse$Maker" "house" "LIntegerHouse$House;", Cond.fieldLink RX4 61 "IntegerHouse$Maker" "great" "Z", Cond.fieldLink RX4 22 "IntegerHouse$Maker" "goal" "[J", Cond.fieldLink RX4 11 "IntegerHouse$Maker" "forms" "[J", Cond.methodLink RX4 29 yX4_begin, Cond.instanceMethod yX4_begin, Cond.selects RX4 yX4_begin yX4_begin, Cond.code yX4_begin cX4_begin 2 none, Cond.fieldLink RX4 33 "IntegerHouse$Maker" "slot" "I", Cond.fieldLink RX4 86 "IntegerHouse$Maker" "codeSize" "I"]
def wsX11_extreme_r11 : List Cond := [Cond.fieldLink RX4 89 "IntegerHouse$Maker" "crowded" "Z", Cond.fieldLink RX4 83 "IntegerHouse$Maker" "falsehood" "I", Cond.fieldLink RX4 15 "IntegerHouse$Maker" "tops" "[I", Cond.methodLink RX4 79 yX2_setFact, Cond.methodLink RX4 39 yX2_fact, Cond.instanceMethod yX2_fact, Cond.selects RX2 yX2_fact yX2_fact, Cond.code yX2_fact cX2_fact 3 (some .int), Cond.methodLink RX4 43 yX2_step, Cond.instanceMethod yX2_step, Cond.selects RX2 yX2_step yX2_step, Cond.code yX2_step cX2_step 3 (some .int), Cond.methodLink RX4 92 yX4_work, Cond.instanceMethod yX4_work, Cond.selects RX4 yX4_work yX4_work, Cond.code yX4_work cX4_work 5 none, Cond.methodLink RX4 137 yX4_top, Cond.instanceMethod yX4_top, Cond.selects RX4 yX4_top yX4_top, Cond.code yX4_top cX4_top 2 (some .int), Cond.methodLink RX4 169 yX4_pushForm, Cond.instanceMethod yX4_pushForm, Cond.selects RX4 yX4_pushForm yX4_pushForm, Cond.code yX4_pushForm cX4_pushForm 6 none]
def wsX11_extreme_r12 : List Cond := [Cond.methodLink RX4 95 yX4_form, Cond.static yX4_form, Cond.code yX4_form cX4_form 2 (some .int), Cond.methodLink RX4 160 yX4_setTop, Cond.instanceMethod yX4_setTop, Cond.selects RX4 yX4_setTop yX4_setTop, Cond.code yX4_setTop cX4_setTop 3 none, Cond.methodLink RX4 150 yX4_multiply, Cond.instanceMethod yX4_multiply, Cond.selects RX4 yX4_multiply yX4_multiply, Cond.code yX4_multiply cX4_multiply 4 none, Cond.methodLink RX4 153 yX4_combine, Cond.instanceMethod yX4_combine, Cond.selects RX4 yX4_combine yX4_combine, Cond.code yX4_combine cX4_combine 12 none, Cond.methodLink RX4 172 Lib.MathLoose.max_long.x, Cond.static Lib.MathLoose.max_long.x, Cond.initialized "java/lang/Math", Cond.code Lib.MathLoose.max_long.x Lib.MathLoose.max_long.code 4 (some .long), Cond.static yX11_commonDivisor, Cond.code yX11_commonDivisor cX11_commonDivisor 11 (some .long), Cond.methodLink RX4 157 yX4_check, Cond.instanceMethod yX4_check, Cond.selects RX4 yX4_check yX4_check]
def wsX11_extreme_r13 : List Cond := [Cond.code yX4_check cX4_check 3 none, Cond.methodLink RX4 98 Lib.MathLoose.abs_long.x, Cond.static Lib.MathLoose.abs_long.x, Cond.code Lib.MathLoose.abs_long.x Lib.MathLoose.abs_long.code 2 (some .long), Cond.constantLong RX4 179 (1000000), Cond.methodLink RX8 108 yX4_goalSizes, Cond.instanceMethod yX4_goalSizes, Cond.selects RX4 yX4_goalSizes yX4_goalSizes, Cond.code yX4_goalSizes cX4_goalSizes 4 (some .long), Cond.methodLink RX8 71 yX8_failIf, Cond.instanceMethod yX8_failIf, Cond.selects RX8 yX8_failIf yX8_failIf, Cond.code yX8_failIf cX8_failIf 3 none, Cond.methodLink RX8 139 yX2_fact, Cond.methodLink RX8 65 yX4_make, Cond.instanceMethod yX4_make, Cond.selects RX4 yX4_make yX4_make, Cond.code yX4_make cX4_make 10 (some .int), Cond.methodLink RX4 56 Lib.Math.min.name, Cond.static Lib.Math.min.name, Cond.code Lib.Math.min.name Lib.Math.min.code 2 (some .int), Cond.methodLink RX4 46 yX4_isPlain, Cond.instanceMethod yX4_isPlain, Cond.selects RX4 yX4_isPlain yX4_isPlain]
def wsX11_extreme_r14 : List Cond := [Cond.code yX4_isPlain cX4_isPlain 4 (some .boolean), Cond.methodLink RX4 50 yX4_lastOf, Cond.instanceMethod yX4_lastOf, Cond.selects RX4 yX4_lastOf yX4_lastOf, Cond.code yX4_lastOf cX4_lastOf 4 (some .int), Cond.methodLink RX4 102 yX4_isConclusion, Cond.static yX4_isConclusion, Cond.code yX4_isConclusion cX4_isConclusion 1 (some .boolean), Cond.methodLink RX4 53 yX4_casesOf, Cond.instanceMethod yX4_casesOf, Cond.selects RX4 yX4_casesOf yX4_casesOf, Cond.code yX4_casesOf cX4_casesOf 5 (some .int), Cond.methodLink RX4 108 yX4_waysOf, Cond.static yX4_waysOf, Cond.code yX4_waysOf cX4_waysOf 2 (some .int), Cond.methodLink RX4 65 yX4_fall, Cond.instanceMethod yX4_fall, Cond.selects RX4 yX4_fall yX4_fall, Cond.code yX4_fall cX4_fall 7 none, Cond.methodLink RX4 121 yX4_split, Cond.instanceMethod yX4_split, Cond.selects RX4 yX4_split yX4_split, Cond.methodLink RX4 124 yX4_conclude, Cond.instanceMethod yX4_conclude]
def wsX11_extreme_r15 : List Cond := [Cond.selects RX4 yX4_conclude yX4_conclude, Cond.code yX4_conclude cX4_conclude 6 none, Cond.methodLink RX4 166 yX4_divisorOf, Cond.instanceMethod yX4_divisorOf, Cond.selects RX4 yX4_divisorOf yX4_divisorOf, Cond.code yX4_divisorOf cX4_divisorOf 7 (some .int), Cond.constantLong RX4 185 (12), Cond.fieldLink RX4 19 "IntegerHouse$Maker" "row" "[I", Cond.methodLink RX4 187 yJ9_floorMod_f86c9, Cond.static yJ9_floorMod_f86c9, Cond.initialized RJ9, Cond.code yJ9_floorMod_f86c9 cJ9_floorMod_f86c9 6 (some .long), Cond.methodLink RX4 144 yX4_add, Cond.instanceMethod yX4_add, Cond.selects RX4 yX4_add yX4_add, Cond.code yX4_add cX4_add 3 none, Cond.methodLink RX4 76 yX4_emit, Cond.instanceMethod yX4_emit, Cond.selects RX4 yX4_emit yX4_emit, Cond.code yX4_emit cX4_emit 2 none, Cond.methodLink RX4 190 yX2_poolNumber, Cond.instanceMethod yX2_poolNumber, Cond.selects RX2 yX2_poolNumber yX2_poolNumber, Cond.code yX2_poolNumber cX2_poolNumber 6 (some .int)]
def wsX11_extreme_r16 : List Cond := [Cond.fieldLink RX2 58 "IntegerHouse$House" "poolSize" "I", Cond.fieldLink RX2 34 "IntegerHouse$House" "pool" "[I", Cond.methodLink RX4 115 yX2_addAtom, Cond.instanceMethod yX2_addAtom, Cond.selects RX2 yX2_addAtom yX2_addAtom, Cond.code yX2_addAtom cX2_addAtom 5 (some .boolean), Cond.fieldLink RX2 31 "IntegerHouse$House" "atoms" "[I", Cond.methodLink RX4 140 yX4_lineOf, Cond.instanceMethod yX4_lineOf, Cond.selects RX4 yX4_lineOf yX4_lineOf, Cond.code yX4_lineOf cX4_lineOf 8 (some .int), Cond.constantLong RX4 181 (20), Cond.constantLong RX4 183 (99999), Cond.code yX4_split cX4_split 7 none, Cond.methodLink RX4 127 yX4_splitSign, Cond.instanceMethod yX4_splitSign, Cond.selects RX4 yX4_splitSign yX4_splitSign, Cond.code yX4_splitSign cX4_splitSign 4 none, Cond.methodLink RX4 147 yX4_copyLevel, Cond.instanceMethod yX4_copyLevel, Cond.selects RX4 yX4_copyLevel yX4_copyLevel, Cond.code yX4_copyLevel cX4_copyLevel 4 none, Cond.methodLink RX4 163 yX4_copyForm, Cond.instanceMethod yX4_copyForm]
def wsX11_extreme_r17 : List Cond := [Cond.selects RX4 yX4_copyForm yX4_copyForm, Cond.code yX4_copyForm cX4_copyForm 4 none, Cond.methodLink RX4 130 yX4_splitOrder, Cond.instanceMethod yX4_splitOrder, Cond.selects RX4 yX4_splitOrder yX4_splitOrder, Cond.code yX4_splitOrder cX4_splitOrder 6 none, Cond.methodLink RX4 133 yX4_splitRest, Cond.instanceMethod yX4_splitRest, Cond.selects RX4 yX4_splitRest yX4_splitRest, Cond.code yX4_splitRest cX4_splitRest 7 none, Cond.methodLink RX4 69 yX4_arePlain, Cond.instanceMethod yX4_arePlain, Cond.selects RX4 yX4_arePlain yX4_arePlain, Cond.code yX4_arePlain cX4_arePlain 5 (some .boolean), Cond.methodLink RX4 73 yX4_takeNamed, Cond.instanceMethod yX4_takeNamed, Cond.selects RX4 yX4_takeNamed yX4_takeNamed, Cond.code yX4_takeNamed cX4_takeNamed 4 none, Cond.methodLink RX4 112 yX2_atomOf, Cond.instanceMethod yX2_atomOf, Cond.selects RX2 yX2_atomOf yX2_atomOf, Cond.code yX2_atomOf cX2_atomOf 3 (some .int), Cond.methodLink RX11 236 yX11_faulted, Cond.instanceMethod yX11_faulted]
def wsX11_extreme_r18 : List Cond := [Cond.selects RX11 yX11_faulted yX11_faulted, Cond.code yX11_faulted cX11_faulted 1 (some .int), Cond.fieldLink RX11 253 "IntegerHouse" "latestFault" "I", Cond.methodLink RX11 298 yX6_judge, Cond.instanceMethod yX6_judge, Cond.selects RX6 yX6_judge yX6_judge, Cond.initialized RX6, Cond.code yX6_judge cX6_judge 4 (some .boolean), Cond.fieldLink RX6 52 "IntegerHouse$Places" "size" "I", Cond.fieldLink RX6 56 "IntegerHouse$Places" "letters" "I", Cond.fieldLink RX6 38 "IntegerHouse$Places" "so" "[I", Cond.methodLink RX6 48 yX6_explore, Cond.instanceMethod yX6_explore, Cond.selects RX6 yX6_explore yX6_explore, Cond.code yX6_explore cX6_explore 5 (some .boolean), Cond.fieldLink RX6 41 "IntegerHouse$Places" "table" "[I", Cond.fieldLink RX6 76 "IntegerHouse$Places" "atoms" "I", Cond.fieldLink RX6 44 "IntegerHouse$Places" "house" "LIntegerHouse$House;", Cond.fieldLink RX6 11 "IntegerHouse$Places" "work" "[I", Cond.fieldLink RX6 27 "IntegerHouse$Places" "fresh" "[I", Cond.fieldLink RX6 20 "IntegerHouse$Places" "isLine" "[Z", Cond.fieldLink RX6 35 "IntegerHouse$Places" "next" "[I", Cond.methodLink RX6 67 yX6_gather, Cond.instanceMethod yX6_gather]
def wsX11_extreme_r19 : List Cond := [Cond.selects RX6 yX6_gather yX6_gather, Cond.code yX6_gather cX6_gather 5 (some .boolean), Cond.fieldLink RX6 90 "IntegerHouse$Places" "needed" "I", Cond.methodLink RX6 96 Lib.Math.min.name, Cond.methodLink RX6 101 Lib.Math.max.name, Cond.static Lib.Math.max.name, Cond.code Lib.Math.max.name Lib.Math.max.code 2 (some .int), Cond.methodLink RX6 104 yX2_fact, Cond.methodLink RX6 107 yX2_atomOf, Cond.methodLink RX6 110 yX6_addWork, Cond.instanceMethod yX6_addWork, Cond.selects RX6 yX6_addWork yX6_addWork, Cond.code yX6_addWork cX6_addWork 5 (some .boolean), Cond.fieldLink RX6 17 "IntegerHouse$Places" "workOf" "[I", Cond.fieldLink RX6 24 "IntegerHouse$Places" "sums" "[I", Cond.methodLink RX6 79 yX2_pooled, Cond.instanceMethod yX2_pooled, Cond.selects RX2 yX2_pooled yX2_pooled, Cond.code yX2_pooled cX2_pooled 3 (some .int), Cond.methodLink RX6 70 yJ7_fill_53178, Cond.static yJ7_fill_53178, Cond.initialized RJ7, Cond.code yJ7_fill_53178 cJ7_fill_53178 4 none, Cond.methodLink RX6 82 yX6_locate]
def wsX11_extreme_r20 : List Cond := [Cond.instanceMethod yX6_locate, Cond.selects RX6 yX6_locate yX6_locate, Cond.code yX6_locate cX6_locate 5 (some .int), Cond.constant RX6 116 (739982445), Cond.methodLink RX6 117 yX6_addPlace, Cond.instanceMethod yX6_addPlace, Cond.selects RX6 yX6_addPlace yX6_addPlace, Cond.code yX6_addPlace cX6_addPlace 4 (some .int), Cond.fieldLink RX6 31 "IntegerHouse$Places" "stands" "[I", Cond.methodLink RX6 120 yX6_isFresh, Cond.instanceMethod yX6_isFresh, Cond.selects RX6 yX6_isFresh yX6_isFresh, Cond.code yX6_isFresh cX6_isFresh 4 (some .boolean), Cond.methodLink RX6 86 yX6_halve, Cond.instanceMethod yX6_halve, Cond.selects RX6 yX6_halve yX6_halve, Cond.code yX6_halve cX6_halve 7 none, Cond.methodLink RX6 113 yX6_halved, Cond.static yX6_halved, Cond.code yX6_halved cX6_halved 5 (some .int), Cond.methodLink RX6 59 yX6_atomsAt, Cond.instanceMethod yX6_atomsAt, Cond.selects RX6 yX6_atomsAt yX6_atomsAt, Cond.code yX6_atomsAt cX6_atomsAt 10 (some .int)]
def wsX11_extreme_r21 : List Cond := [Cond.methodLink RX6 63 yX6_soOf, Cond.instanceMethod yX6_soOf, Cond.selects RX6 yX6_soOf yX6_soOf, Cond.code yX6_soOf cX6_soOf 4 (some .int), Cond.methodLink RX6 127 yX6_isSo, Cond.instanceMethod yX6_isSo, Cond.selects RX6 yX6_isSo yX6_isSo, Cond.code yX6_isSo cX6_isSo 10 (some .boolean), Cond.methodLink RX6 136 yX6_joined, Cond.static yX6_joined, Cond.code yX6_joined cX6_joined 9 (some .long), Cond.methodLink RX11 331 yX0_tellExtreme, Cond.instanceMethod yX0_tellExtreme, Cond.selects RX0 yX0_tellExtreme yX0_tellExtreme, Cond.initialized RX0, Cond.code yX0_tellExtreme cX0_tellExtreme 8 (some .int), Cond.fieldLink RX0 28 "IntegerHouse$Answers" "gains" "[J", Cond.constantLong RX0 119 (-9223372036854775808), Cond.fieldLink RX0 22 "IntegerHouse$Answers" "ends" "[I", Cond.fieldLink RX0 25 "IntegerHouse$Answers" "weights" "[J", Cond.methodLink RX0 121 Lib.MathLoose.max_long.x, Cond.constant RX0 124 (1000000), Cond.fieldLink RX0 132 "IntegerHouse$Answers" "toldNumber" "J", Cond.methodLink RX0 82 yX0_findEnds]
def wsX11_extreme_r22 : List Cond := [Cond.instanceMethod yX0_findEnds, Cond.selects RX0 yX0_findEnds yX0_findEnds, Cond.code yX0_findEnds cX0_findEnds 5 (some .int), Cond.fieldLink RX0 48 "IntegerHouse$Answers" "places" "LIntegerHouse$Places;", Cond.methodLink RX0 75 Lib.Math.min.name, Cond.methodLink RX0 78 yX6_acceptedBy, Cond.instanceMethod yX6_acceptedBy, Cond.selects RX6 yX6_acceptedBy yX6_acceptedBy, Cond.code yX6_acceptedBy cX6_acceptedBy 6 (some .int), Cond.methodLink RX6 123 yX6_accepts, Cond.instanceMethod yX6_accepts, Cond.selects RX6 yX6_accepts yX6_accepts, Cond.code yX6_accepts cX6_accepts 7 (some .boolean), Cond.methodLink RX0 115 yX0_weigh, Cond.instanceMethod yX0_weigh, Cond.selects RX0 yX0_weigh yX0_weigh, Cond.code yX0_weigh cX0_weigh 5 none, Cond.methodLink RX0 125 yX0_isBeyond, Cond.instanceMethod yX0_isBeyond, Cond.selects RX0 yX0_isBeyond yX0_isBeyond, Cond.code yX0_isBeyond cX0_isBeyond 3 (some .boolean), Cond.constantLong RX0 136 (4503599627370496), Cond.methodLink RX0 129 yX0_gain, Cond.instanceMethod yX0_gain]
def wsX11_extreme_r23 : List Cond := [Cond.selects RX0 yX0_gain yX0_gain, Cond.code yX0_gain cX0_gain 9 (some .boolean), Cond.constantLong RX0 142 (-4503599627370496), Cond.constantLong RX0 144 (2), Cond.fieldLink RX0 31 "IntegerHouse$Answers" "gained" "[J", Cond.methodLink RX0 146 arraycopyName, Cond.native arraycopyName, Cond.static arraycopyName, Cond.initialized "java/lang/System", Cond.methodLink RX0 95 yX6_behind, Cond.instanceMethod yX6_behind, Cond.selects RX6 yX6_behind yX6_behind, Cond.code yX6_behind cX6_behind 4 (some .int), Cond.methodLink RX0 138 yX0_gainFrom, Cond.instanceMethod yX0_gainFrom, Cond.selects RX0 yX0_gainFrom yX0_gainFrom, Cond.code yX0_gainFrom cX0_gainFrom 2 (some .long)]
def wsX11_extreme : List Cond := .code yX11_extreme cX11_extreme 5 (some .int) :: ((wsX11_extreme_r1 ++ (wsX11_extreme_r2 ++ (wsX11_extreme_r3 ++ (wsX11_extreme_r4 ++ (wsX11_extreme_r5 ++ (wsX11_extreme_r6 ++ (wsX11_extreme_r7 ++ (wsX11_extreme_r8 ++ (wsX11_extreme_r9 ++ (wsX11_extreme_r10 ++ (wsX11_extreme_r11 ++ (wsX11_extreme_r12 ++ (wsX11_extreme_r13 ++ (wsX11_extreme_r14 ++ (wsX11_extreme_r15 ++ (wsX11_extreme_r16 ++ (wsX11_extreme_r17 ++ (wsX11_extreme_r18 ++ (wsX11_extreme_r19 ++ (wsX11_extreme_r20 ++ (wsX11_extreme_r21 ++ (wsX11_extreme_r22 ++ wsX11_extreme_r23)))))))))))))))))))))) ++ wsX110 ++ wsX10 ++ wsX20 ++ wsX80 ++ wsX40 ++ wsX30 ++ wsX60 ++ wsX00)
def wsX11_number : List Cond := .code yX11_number cX11_number 1 (some .long) :: ([.fieldLink RX11 64 "IntegerHouse" "answers" "LIntegerHouse$Answers;"] ++ wsX110 ++ wsX00)
def wsX12_openTerm : List Cond := .code yX12_openTerm cX12_openTerm 2 none :: ([.fieldLink RX12 642 "IntegerHouseModel" "terms" "I", .fieldLink RX12 208 "IntegerHouseModel" "inKind" "[I", .fieldLink RX12 211 "IntegerHouseModel" "inFirst" "[I", .fieldLink RX12 217 "IntegerHouseModel" "inSign" "[I", .fieldLink RX12 220 "IntegerHouseModel" "inTimes" "[J", .fieldLink RX12 223 "IntegerHouseModel" "inOne" "[I"] ++ wsX120)
def wsX12_readAtom_r1 : List Cond := [Cond.fieldLink RX12 87 "IntegerHouseModel" "tokenKind" "[I", Cond.fieldLink RX12 597 "IntegerHouseModel" "now" "I", Cond.fieldLink RX12 648 "IntegerHouseModel" "state" "I", Cond.fieldLink RX12 630 "IntegerHouseModel" "slot" "I", Cond.fieldLink RX12 90 "IntegerHouseModel" "tokenValue" "[I", Cond.constantLong RX12 694 (8), Cond.constantLong RX12 696 (12), Cond.fieldLink RX12 562 "IntegerHouseModel" "faulty" "Z", Cond.methodLink RX12 685 yX12_variableAt, Cond.instanceMethod yX12_variableAt, Cond.selects RX12 yX12_variableAt yX12_variableAt, Cond.initialized RX12, Cond.code yX12_variableAt cX12_variableAt 3 (some .int), Cond.fieldLink RX12 620 "IntegerHouseModel" "knownVariables" "I", Cond.methodLink RX12 623 yX12_isCalled, Cond.instanceMethod yX12_isCalled, Cond.selects RX12 yX12_isCalled yX12_isCalled, Cond.code yX12_isCalled cX12_isCalled 4 (some .boolean), Cond.fieldLink RX12 96 "IntegerHouseModel" "nameSize" "[I", Cond.fieldLink RX12 84 "IntegerHouseModel" "tokenSize" "[I", Cond.fieldLink RX12 93 "IntegerHouseModel" "nameText" "[B", Cond.fieldLink RX12 32 "IntegerHouseModel" "doc" "[B", Cond.fieldLink RX12 81 "IntegerHouseModel" "tokenAt" "[I", Cond.methodLink RX12 636 yX12_take]
def wsX12_readAtom_r2 : List Cond := [Cond.instanceMethod yX12_take, Cond.selects RX12 yX12_take yX12_take, Cond.code yX12_take cX12_take 3 none, Cond.fieldLink RX12 105 "IntegerHouseModel" "textCount" "[I", Cond.fieldLink RX12 102 "IntegerHouseModel" "textSize" "[I", Cond.fieldLink RX12 99 "IntegerHouseModel" "textBytes" "[B", Cond.methodLink RX12 616 yX12_fail, Cond.instanceMethod yX12_fail, Cond.selects RX12 yX12_fail yX12_fail, Cond.code yX12_fail cX12_fail 3 none, Cond.fieldLink RX12 565 "IntegerHouseModel" "faultKind" "I", Cond.fieldLink RX12 568 "IntegerHouseModel" "faultPlace" "I", Cond.methodLink RX12 715 yX12_newTerm, Cond.instanceMethod yX12_newTerm, Cond.selects RX12 yX12_newTerm yX12_newTerm, Cond.code yX12_newTerm cX12_newTerm 5 (some .int), Cond.fieldLink RX12 165 "IntegerHouseModel" "termCount" "[I", Cond.fieldLink RX12 156 "IntegerHouseModel" "termKind" "[I", Cond.fieldLink RX12 159 "IntegerHouseModel" "termA" "[I", Cond.fieldLink RX12 162 "IntegerHouseModel" "termB" "[I", Cond.methodLink RX12 706 yX12_addPart, Cond.instanceMethod yX12_addPart, Cond.selects RX12 yX12_addPart yX12_addPart, Cond.code yX12_addPart cX12_addPart 3 none]
def wsX12_readAtom_r3 : List Cond := [Cond.fieldLink RX12 181 "IntegerHouseModel" "partCount" "[I", Cond.fieldLink RX12 168 "IntegerHouseModel" "partSign" "[I", Cond.fieldLink RX12 217 "IntegerHouseModel" "inSign" "[I", Cond.fieldLink RX12 642 "IntegerHouseModel" "terms" "I", Cond.fieldLink RX12 171 "IntegerHouseModel" "partTimes" "[J", Cond.fieldLink RX12 220 "IntegerHouseModel" "inTimes" "[J", Cond.fieldLink RX12 175 "IntegerHouseModel" "partOf" "[I", Cond.fieldLink RX12 178 "IntegerHouseModel" "partNext" "[I", Cond.fieldLink RX12 211 "IntegerHouseModel" "inFirst" "[I", Cond.fieldLink RX12 214 "IntegerHouseModel" "inLast" "[I", Cond.methodLink RX12 682 yX12_claimAt, Cond.instanceMethod yX12_claimAt, Cond.selects RX12 yX12_claimAt yX12_claimAt, Cond.code yX12_claimAt cX12_claimAt 3 (some .int), Cond.fieldLink RX12 627 "IntegerHouseModel" "knownClaims" "I", Cond.methodLink RX12 672 yX12_isSign, Cond.instanceMethod yX12_isSign, Cond.selects RX12 yX12_isSign yX12_isSign, Cond.code yX12_isSign cX12_isSign 2 (some .boolean), Cond.methodLink RX12 669 yX12_takeOpen, Cond.instanceMethod yX12_takeOpen, Cond.selects RX12 yX12_takeOpen yX12_takeOpen, Cond.code yX12_takeOpen cX12_takeOpen 1 none, Cond.fieldLink RX12 633 "IntegerHouseModel" "open" "I"]
def wsX12_readAtom_r4 : List Cond := [Cond.methodLink RX12 663 yX12_openTerm, Cond.instanceMethod yX12_openTerm, Cond.selects RX12 yX12_openTerm yX12_openTerm, Cond.code yX12_openTerm cX12_openTerm 2 none, Cond.fieldLink RX12 208 "IntegerHouseModel" "inKind" "[I", Cond.fieldLink RX12 223 "IntegerHouseModel" "inOne" "[I", Cond.methodLink RX12 504 yX12_in, Cond.static yX12_in, Cond.code yX12_in cX12_in 6 (some .boolean), Cond.methodLink RX12 698 yX12_cannot, Cond.instanceMethod yX12_cannot, Cond.selects RX12 yX12_cannot yX12_cannot, Cond.code yX12_cannot cX12_cannot 1 none]
def wsX12_readAtom : List Cond := .code yX12_readAtom cX12_readAtom 3 none :: ((wsX12_readAtom_r1 ++ (wsX12_readAtom_r2 ++ (wsX12_readAtom_r3 ++ wsX12_readAtom_r4))) ++ wsX120)
def wsX12_readInTerm_r1 : List Cond := [Cond.fieldLink RX12 648 "IntegerHouseModel" "state" "I", Cond.fieldLink RX12 217 "IntegerHouseModel" "inSign" "[I", Cond.fieldLink RX12 642 "IntegerHouseModel" "terms" "I", Cond.fieldLink RX12 220 "IntegerHouseModel" "inTimes" "[J", Cond.fieldLink RX12 87 "IntegerHouseModel" "tokenKind" "[I", Cond.fieldLink RX12 597 "IntegerHouseModel" "now" "I", Cond.fieldLink RX12 90 "IntegerHouseModel" "tokenValue" "[I", Cond.fieldLink RX12 562 "IntegerHouseModel" "faulty" "Z", Cond.methodLink RX12 672 yX12_isSign, Cond.instanceMethod yX12_isSign, Cond.selects RX12 yX12_isSign yX12_isSign, Cond.initialized RX12, Cond.code yX12_isSign cX12_isSign 2 (some .boolean), Cond.methodLink RX12 636 yX12_take, Cond.instanceMethod yX12_take, Cond.selects RX12 yX12_take yX12_take, Cond.code yX12_take cX12_take 3 none, Cond.fieldLink RX12 105 "IntegerHouseModel" "textCount" "[I", Cond.fieldLink RX12 630 "IntegerHouseModel" "slot" "I", Cond.fieldLink RX12 102 "IntegerHouseModel" "textSize" "[I", Cond.fieldLink RX12 84 "IntegerHouseModel" "tokenSize" "[I", Cond.fieldLink RX12 99 "IntegerHouseModel" "textBytes" "[B", Cond.fieldLink RX12 32 "IntegerHouseModel" "doc" "[B", Cond.fieldLink RX12 81 "IntegerHouseModel" "tokenAt" "[I"]
def wsX12_readInTerm_r2 : List Cond := [Cond.methodLink RX12 616 yX12_fail, Cond.instanceMethod yX12_fail, Cond.selects RX12 yX12_fail yX12_fail, Cond.code yX12_fail cX12_fail 3 none, Cond.fieldLink RX12 565 "IntegerHouseModel" "faultKind" "I", Cond.fieldLink RX12 568 "IntegerHouseModel" "faultPlace" "I", Cond.methodLink RX12 706 yX12_addPart, Cond.instanceMethod yX12_addPart, Cond.selects RX12 yX12_addPart yX12_addPart, Cond.code yX12_addPart cX12_addPart 3 none, Cond.fieldLink RX12 181 "IntegerHouseModel" "partCount" "[I", Cond.fieldLink RX12 168 "IntegerHouseModel" "partSign" "[I", Cond.fieldLink RX12 171 "IntegerHouseModel" "partTimes" "[J", Cond.fieldLink RX12 175 "IntegerHouseModel" "partOf" "[I", Cond.fieldLink RX12 178 "IntegerHouseModel" "partNext" "[I", Cond.fieldLink RX12 211 "IntegerHouseModel" "inFirst" "[I", Cond.fieldLink RX12 214 "IntegerHouseModel" "inLast" "[I", Cond.methodLink RX12 709 yX12_readAtom, Cond.instanceMethod yX12_readAtom, Cond.selects RX12 yX12_readAtom yX12_readAtom, Cond.code yX12_readAtom cX12_readAtom 3 none, Cond.constantLong RX12 694 (8), Cond.constantLong RX12 696 (12), Cond.methodLink RX12 685 yX12_variableAt]
def wsX12_readInTerm_r3 : List Cond := [Cond.instanceMethod yX12_variableAt, Cond.selects RX12 yX12_variableAt yX12_variableAt, Cond.code yX12_variableAt cX12_variableAt 3 (some .int), Cond.fieldLink RX12 620 "IntegerHouseModel" "knownVariables" "I", Cond.methodLink RX12 623 yX12_isCalled, Cond.instanceMethod yX12_isCalled, Cond.selects RX12 yX12_isCalled yX12_isCalled, Cond.code yX12_isCalled cX12_isCalled 4 (some .boolean), Cond.fieldLink RX12 96 "IntegerHouseModel" "nameSize" "[I", Cond.fieldLink RX12 93 "IntegerHouseModel" "nameText" "[B", Cond.methodLink RX12 715 yX12_newTerm, Cond.instanceMethod yX12_newTerm, Cond.selects RX12 yX12_newTerm yX12_newTerm, Cond.code yX12_newTerm cX12_newTerm 5 (some .int), Cond.fieldLink RX12 165 "IntegerHouseModel" "termCount" "[I", Cond.fieldLink RX12 156 "IntegerHouseModel" "termKind" "[I", Cond.fieldLink RX12 159 "IntegerHouseModel" "termA" "[I", Cond.fieldLink RX12 162 "IntegerHouseModel" "termB" "[I", Cond.methodLink RX12 682 yX12_claimAt, Cond.instanceMethod yX12_claimAt, Cond.selects RX12 yX12_claimAt yX12_claimAt, Cond.code yX12_claimAt cX12_claimAt 3 (some .int), Cond.fieldLink RX12 627 "IntegerHouseModel" "knownClaims" "I", Cond.methodLink RX12 669 yX12_takeOpen]
def wsX12_readInTerm_r4 : List Cond := [Cond.instanceMethod yX12_takeOpen, Cond.selects RX12 yX12_takeOpen yX12_takeOpen, Cond.code yX12_takeOpen cX12_takeOpen 1 none, Cond.fieldLink RX12 633 "IntegerHouseModel" "open" "I", Cond.methodLink RX12 663 yX12_openTerm, Cond.instanceMethod yX12_openTerm, Cond.selects RX12 yX12_openTerm yX12_openTerm, Cond.code yX12_openTerm cX12_openTerm 2 none, Cond.fieldLink RX12 208 "IntegerHouseModel" "inKind" "[I", Cond.fieldLink RX12 223 "IntegerHouseModel" "inOne" "[I", Cond.methodLink RX12 504 yX12_in, Cond.static yX12_in, Cond.code yX12_in cX12_in 6 (some .boolean), Cond.methodLink RX12 698 yX12_cannot, Cond.instanceMethod yX12_cannot, Cond.selects RX12 yX12_cannot yX12_cannot, Cond.code yX12_cannot cX12_cannot 1 none, Cond.methodLink RX12 712 yX12_endTerm, Cond.instanceMethod yX12_endTerm, Cond.selects RX12 yX12_endTerm yX12_endTerm, Cond.code yX12_endTerm cX12_endTerm 7 none, Cond.fieldLink RX12 660 "IntegerHouseModel" "current" "I", Cond.methodLink RX12 718 yX12_endSide, Cond.instanceMethod yX12_endSide]
def wsX12_readInTerm_r5 : List Cond := [Cond.selects RX12 yX12_endSide yX12_endSide, Cond.code yX12_endSide cX12_endSide 5 none, Cond.fieldLink RX12 153 "IntegerHouseModel" "leafCount" "[I", Cond.constantLong RX12 721 (11), Cond.constantLong RX12 723 (15), Cond.fieldLink RX12 123 "IntegerHouseModel" "leafOp" "[I", Cond.fieldLink RX12 129 "IntegerHouseModel" "leafLeft" "[I", Cond.fieldLink RX12 132 "IntegerHouseModel" "leafRight" "[I", Cond.fieldLink RX12 138 "IntegerHouseModel" "leafTo" "[I", Cond.fieldLink RX12 144 "IntegerHouseModel" "leafTermsTo" "[I", Cond.methodLink RX12 675 yX12_newNode, Cond.instanceMethod yX12_newNode, Cond.selects RX12 yX12_newNode yX12_newNode, Cond.code yX12_newNode cX12_newNode 5 (some .int), Cond.fieldLink RX12 120 "IntegerHouseModel" "nodeCount" "[I", Cond.fieldLink RX12 108 "IntegerHouseModel" "nodeKind" "[I", Cond.fieldLink RX12 111 "IntegerHouseModel" "nodeA" "[I", Cond.fieldLink RX12 114 "IntegerHouseModel" "nodeB" "[I", Cond.fieldLink RX12 117 "IntegerHouseModel" "nodeNext" "[I", Cond.methodLink RX12 679 yX12_endOne, Cond.instanceMethod yX12_endOne, Cond.selects RX12 yX12_endOne yX12_endOne, Cond.code yX12_endOne cX12_endOne 2 none, Cond.fieldLink RX12 205 "IntegerHouseModel" "openNots" "[I"]
def wsX12_readInTerm_r6 : List Cond := [Cond.fieldLink RX12 639 "IntegerHouseModel" "formulas" "I", Cond.fieldLink RX12 199 "IntegerHouseModel" "openAnd" "[I", Cond.fieldLink RX12 202 "IntegerHouseModel" "openAndLast" "[I", Cond.methodLink RX12 691 yX12_takeNumber, Cond.instanceMethod yX12_takeNumber, Cond.selects RX12 yX12_takeNumber yX12_takeNumber, Cond.code yX12_takeNumber cX12_takeNumber 1 none, Cond.constantLong RX12 701 (2)]
def wsX12_readInTerm : List Cond := .code yX12_readInTerm cX12_readInTerm 1 none :: ((wsX12_readInTerm_r1 ++ (wsX12_readInTerm_r2 ++ (wsX12_readInTerm_r3 ++ (wsX12_readInTerm_r4 ++ (wsX12_readInTerm_r5 ++ wsX12_readInTerm_r6))))) ++ wsX120)
def wsX12_readTerm_r1 : List Cond := [Cond.fieldLink RX12 639 "IntegerHouseModel" "formulas" "I", Cond.fieldLink RX12 642 "IntegerHouseModel" "terms" "I", Cond.fieldLink RX12 648 "IntegerHouseModel" "state" "I", Cond.fieldLink RX12 562 "IntegerHouseModel" "faulty" "Z", Cond.fieldLink RX12 660 "IntegerHouseModel" "current" "I", Cond.methodLink RX12 663 yX12_openTerm, Cond.instanceMethod yX12_openTerm, Cond.selects RX12 yX12_openTerm yX12_openTerm, Cond.initialized RX12, Cond.code yX12_openTerm cX12_openTerm 2 none, Cond.fieldLink RX12 208 "IntegerHouseModel" "inKind" "[I", Cond.fieldLink RX12 211 "IntegerHouseModel" "inFirst" "[I", Cond.fieldLink RX12 217 "IntegerHouseModel" "inSign" "[I", Cond.fieldLink RX12 220 "IntegerHouseModel" "inTimes" "[J", Cond.fieldLink RX12 223 "IntegerHouseModel" "inOne" "[I", Cond.methodLink RX12 657 yX12_readInTerm, Cond.instanceMethod yX12_readInTerm, Cond.selects RX12 yX12_readInTerm yX12_readInTerm, Cond.code yX12_readInTerm cX12_readInTerm 1 none, Cond.fieldLink RX12 87 "IntegerHouseModel" "tokenKind" "[I", Cond.fieldLink RX12 597 "IntegerHouseModel" "now" "I", Cond.fieldLink RX12 90 "IntegerHouseModel" "tokenValue" "[I", Cond.methodLink RX12 672 yX12_isSign, Cond.instanceMethod yX12_isSign]
def wsX12_readTerm_r2 : List Cond := [Cond.selects RX12 yX12_isSign yX12_isSign, Cond.code yX12_isSign cX12_isSign 2 (some .boolean), Cond.methodLink RX12 636 yX12_take, Cond.instanceMethod yX12_take, Cond.selects RX12 yX12_take yX12_take, Cond.code yX12_take cX12_take 3 none, Cond.fieldLink RX12 105 "IntegerHouseModel" "textCount" "[I", Cond.fieldLink RX12 630 "IntegerHouseModel" "slot" "I", Cond.fieldLink RX12 102 "IntegerHouseModel" "textSize" "[I", Cond.fieldLink RX12 84 "IntegerHouseModel" "tokenSize" "[I", Cond.fieldLink RX12 99 "IntegerHouseModel" "textBytes" "[B", Cond.fieldLink RX12 32 "IntegerHouseModel" "doc" "[B", Cond.fieldLink RX12 81 "IntegerHouseModel" "tokenAt" "[I", Cond.methodLink RX12 616 yX12_fail, Cond.instanceMethod yX12_fail, Cond.selects RX12 yX12_fail yX12_fail, Cond.code yX12_fail cX12_fail 3 none, Cond.fieldLink RX12 565 "IntegerHouseModel" "faultKind" "I", Cond.fieldLink RX12 568 "IntegerHouseModel" "faultPlace" "I", Cond.methodLink RX12 706 yX12_addPart, Cond.instanceMethod yX12_addPart, Cond.selects RX12 yX12_addPart yX12_addPart, Cond.code yX12_addPart cX12_addPart 3 none, Cond.fieldLink RX12 181 "IntegerHouseModel" "partCount" "[I"]
def wsX12_readTerm_r3 : List Cond := [Cond.fieldLink RX12 168 "IntegerHouseModel" "partSign" "[I", Cond.fieldLink RX12 171 "IntegerHouseModel" "partTimes" "[J", Cond.fieldLink RX12 175 "IntegerHouseModel" "partOf" "[I", Cond.fieldLink RX12 178 "IntegerHouseModel" "partNext" "[I", Cond.fieldLink RX12 214 "IntegerHouseModel" "inLast" "[I", Cond.methodLink RX12 709 yX12_readAtom, Cond.instanceMethod yX12_readAtom, Cond.selects RX12 yX12_readAtom yX12_readAtom, Cond.code yX12_readAtom cX12_readAtom 3 none, Cond.constantLong RX12 694 (8), Cond.constantLong RX12 696 (12), Cond.methodLink RX12 685 yX12_variableAt, Cond.instanceMethod yX12_variableAt, Cond.selects RX12 yX12_variableAt yX12_variableAt, Cond.code yX12_variableAt cX12_variableAt 3 (some .int), Cond.fieldLink RX12 620 "IntegerHouseModel" "knownVariables" "I", Cond.methodLink RX12 623 yX12_isCalled, Cond.instanceMethod yX12_isCalled, Cond.selects RX12 yX12_isCalled yX12_isCalled, Cond.code yX12_isCalled cX12_isCalled 4 (some .boolean), Cond.fieldLink RX12 96 "IntegerHouseModel" "nameSize" "[I", Cond.fieldLink RX12 93 "IntegerHouseModel" "nameText" "[B", Cond.methodLink RX12 715 yX12_newTerm, Cond.instanceMethod yX12_newTerm]
def wsX12_readTerm_r4 : List Cond := [Cond.selects RX12 yX12_newTerm yX12_newTerm, Cond.code yX12_newTerm cX12_newTerm 5 (some .int), Cond.fieldLink RX12 165 "IntegerHouseModel" "termCount" "[I", Cond.fieldLink RX12 156 "IntegerHouseModel" "termKind" "[I", Cond.fieldLink RX12 159 "IntegerHouseModel" "termA" "[I", Cond.fieldLink RX12 162 "IntegerHouseModel" "termB" "[I", Cond.methodLink RX12 682 yX12_claimAt, Cond.instanceMethod yX12_claimAt, Cond.selects RX12 yX12_claimAt yX12_claimAt, Cond.code yX12_claimAt cX12_claimAt 3 (some .int), Cond.fieldLink RX12 627 "IntegerHouseModel" "knownClaims" "I", Cond.methodLink RX12 669 yX12_takeOpen, Cond.instanceMethod yX12_takeOpen, Cond.selects RX12 yX12_takeOpen yX12_takeOpen, Cond.code yX12_takeOpen cX12_takeOpen 1 none, Cond.fieldLink RX12 633 "IntegerHouseModel" "open" "I", Cond.methodLink RX12 504 yX12_in, Cond.static yX12_in, Cond.code yX12_in cX12_in 6 (some .boolean), Cond.methodLink RX12 698 yX12_cannot, Cond.instanceMethod yX12_cannot, Cond.selects RX12 yX12_cannot yX12_cannot, Cond.code yX12_cannot cX12_cannot 1 none, Cond.methodLink RX12 712 yX12_endTerm]
def wsX12_readTerm_r5 : List Cond := [Cond.instanceMethod yX12_endTerm, Cond.selects RX12 yX12_endTerm yX12_endTerm, Cond.code yX12_endTerm cX12_endTerm 7 none, Cond.methodLink RX12 718 yX12_endSide, Cond.instanceMethod yX12_endSide, Cond.selects RX12 yX12_endSide yX12_endSide, Cond.code yX12_endSide cX12_endSide 5 none, Cond.fieldLink RX12 153 "IntegerHouseModel" "leafCount" "[I", Cond.constantLong RX12 721 (11), Cond.constantLong RX12 723 (15), Cond.fieldLink RX12 123 "IntegerHouseModel" "leafOp" "[I", Cond.fieldLink RX12 129 "IntegerHouseModel" "leafLeft" "[I", Cond.fieldLink RX12 132 "IntegerHouseModel" "leafRight" "[I", Cond.fieldLink RX12 138 "IntegerHouseModel" "leafTo" "[I", Cond.fieldLink RX12 144 "IntegerHouseModel" "leafTermsTo" "[I", Cond.methodLink RX12 675 yX12_newNode, Cond.instanceMethod yX12_newNode, Cond.selects RX12 yX12_newNode yX12_newNode, Cond.code yX12_newNode cX12_newNode 5 (some .int), Cond.fieldLink RX12 120 "IntegerHouseModel" "nodeCount" "[I", Cond.fieldLink RX12 108 "IntegerHouseModel" "nodeKind" "[I", Cond.fieldLink RX12 111 "IntegerHouseModel" "nodeA" "[I", Cond.fieldLink RX12 114 "IntegerHouseModel" "nodeB" "[I", Cond.fieldLink RX12 117 "IntegerHouseModel" "nodeNext" "[I"]
def wsX12_readTerm_r6 : List Cond := [Cond.methodLink RX12 679 yX12_endOne, Cond.instanceMethod yX12_endOne, Cond.selects RX12 yX12_endOne yX12_endOne, Cond.code yX12_endOne cX12_endOne 2 none, Cond.fieldLink RX12 205 "IntegerHouseModel" "openNots" "[I", Cond.fieldLink RX12 199 "IntegerHouseModel" "openAnd" "[I", Cond.fieldLink RX12 202 "IntegerHouseModel" "openAndLast" "[I", Cond.methodLink RX12 691 yX12_takeNumber, Cond.instanceMethod yX12_takeNumber, Cond.selects RX12 yX12_takeNumber yX12_takeNumber, Cond.code yX12_takeNumber cX12_takeNumber 1 none, Cond.constantLong RX12 701 (2)]
def wsX12_readTerm : List Cond := .code yX12_readTerm cX12_readTerm 1 (some .int) :: ((wsX12_readTerm_r1 ++ (wsX12_readTerm_r2 ++ (wsX12_readTerm_r3 ++ (wsX12_readTerm_r4 ++ (wsX12_readTerm_r5 ++ wsX12_readTerm_r6))))) ++ wsX120)
def wsX12_value : List Cond := .code yX12_value cX12_value 2 (some .long) :: ([.fieldLink RX12 355 "IntegerHouseModel" "toldHeight" "I", .fieldLink RX12 979 "IntegerHouseModel" "toldVariables" "I", .fieldLink RX12 3 "IntegerHouseModel" "thrown" "I", .fieldLink RX12 352 "IntegerHouseModel" "told" "[J", .methodLink RX12 504 yX12_in, .static yX12_in, .initialized RX12, .code yX12_in cX12_in 6 (some .boolean)] ++ wsX120)
def wsX12_height : List Cond := .code yX12_height cX12_height 1 (some .int) :: ([.fieldLink RX12 3 "IntegerHouseModel" "thrown" "I", .fieldLink RX12 355 "IntegerHouseModel" "toldHeight" "I"] ++ wsX120)
def wsX12_extreme_r1 : List Cond := [Cond.fieldLink RX12 562 "IntegerHouseModel" "faulty" "Z", Cond.fieldLink RX12 597 "IntegerHouseModel" "now" "I", Cond.fieldLink RX12 87 "IntegerHouseModel" "tokenKind" "[I", Cond.constantLong RX12 728 (1000000), Cond.fieldLink RX12 358 "IntegerHouseModel" "termF" "[J", Cond.constantLong RX12 696 (12), Cond.fieldLink RX12 361 "IntegerHouseModel" "most" "[J", Cond.constantLong RX12 1003 (-9223372036854775808), Cond.constantLong RX12 1011 (9223372036854775807), Cond.fieldLink RX12 1000 "IntegerHouseModel" "termC" "J", Cond.fieldLink RX12 1030 "IntegerHouseModel" "extremeTold" "J", Cond.methodLink RX12 871 yX12_asks, Cond.instanceMethod yX12_asks, Cond.selects RX12 yX12_asks yX12_asks, Cond.initialized RX12, Cond.code yX12_asks cX12_asks 1 (some .boolean), Cond.fieldLink RX12 3 "IntegerHouseModel" "thrown" "I", Cond.fieldLink RX12 488 "IntegerHouseModel" "down" "Z", Cond.methodLink RX12 874 yX12_begin, Cond.instanceMethod yX12_begin, Cond.selects RX12 yX12_begin yX12_begin, Cond.code yX12_begin cX12_begin 1 none, Cond.fieldLink RX12 815 "IntegerHouseModel" "variables" "I", Cond.fieldLink RX12 620 "IntegerHouseModel" "knownVariables" "I"]
def wsX12_extreme_r2 : List Cond := [Cond.fieldLink RX12 818 "IntegerHouseModel" "claims" "I", Cond.fieldLink RX12 627 "IntegerHouseModel" "knownClaims" "I", Cond.methodLink RX12 491 yX12_takeTape, Cond.instanceMethod yX12_takeTape, Cond.selects RX12 yX12_takeTape yX12_takeTape, Cond.code yX12_takeTape cX12_takeTape 2 none, Cond.fieldLink RX12 485 "IntegerHouseModel" "taped" "I", Cond.fieldLink RX12 469 "IntegerHouseModel" "docSize" "I", Cond.fieldLink RX12 32 "IntegerHouseModel" "doc" "[B", Cond.fieldLink RX12 15 "IntegerHouseModel" "tape" "[B", Cond.methodLink RX12 848 yX12_scan, Cond.instanceMethod yX12_scan, Cond.selects RX12 yX12_scan yX12_scan, Cond.code yX12_scan cX12_scan 8 none, Cond.fieldLink RX12 594 "IntegerHouseModel" "tokens" "I", Cond.fieldLink RX12 81 "IntegerHouseModel" "tokenAt" "[I", Cond.fieldLink RX12 84 "IntegerHouseModel" "tokenSize" "[I", Cond.fieldLink RX12 90 "IntegerHouseModel" "tokenValue" "[I", Cond.fieldLink RX12 77 "IntegerHouseModel" "words" "[Ljava/lang/String;", Cond.methodLink RX12 586 yX12_char1, Cond.instanceMethod yX12_char1, Cond.selects RX12 yX12_char1 yX12_char1, Cond.code yX12_char1 cX12_char1 2 (some .int), Cond.methodLink RX12 600 yX12_isLetter]
def wsX12_extreme_r3 : List Cond := [Cond.static yX12_isLetter, Cond.code yX12_isLetter cX12_isLetter 1 (some .boolean), Cond.constantLong RX12 571 (97), Cond.constantLong RX12 573 (122), Cond.constantLong RX12 575 (65), Cond.constantLong RX12 577 (90), Cond.methodLink RX12 504 yX12_in, Cond.static yX12_in, Cond.code yX12_in cX12_in 6 (some .boolean), Cond.methodLink RX12 603 yX12_isDigit, Cond.static yX12_isDigit, Cond.code yX12_isDigit cX12_isDigit 1 (some .boolean), Cond.constantLong RX12 579 (48), Cond.constantLong RX12 581 (57), Cond.methodLink RX12 606 yX12_longSign, Cond.static yX12_longSign, Cond.code yX12_longSign cX12_longSign 2 (some .int), Cond.methodLink RX12 609 yX12_signOf, Cond.static yX12_signOf, Cond.code yX12_signOf cX12_signOf 1 (some .int), Cond.methodLink RX12 612 yX12_isText, Cond.instanceMethod yX12_isText, Cond.selects RX12 yX12_isText yX12_isText, Cond.code yX12_isText cX12_isText 4 (some .boolean)]
def wsX12_extreme_r4 : List Cond := [Cond.methodLink RX12 583 yJ0_length_8abf5, Cond.instanceMethod yJ0_length_8abf5, Cond.selects RJ0 yJ0_length_8abf5 yJ0_length_8abf5, Cond.initialized RJ0, Cond.code yJ0_length_8abf5 cJ0_length_8abf5 1 (some .int), Cond.fieldLink RJ0 9 "java/lang/String" "value" "[B", Cond.methodLink RJ0 335 yJ0_coder_7d493, Cond.instanceMethod yJ0_coder_7d493, Cond.selects RJ0 yJ0_coder_7d493 yJ0_coder_7d493, Cond.code yJ0_coder_7d493 cJ0_coder_7d493 1 (some .byte), Cond.fieldLink RJ0 38 "java/lang/String" "COMPACT_STRINGS" "Z", Cond.fieldLink RJ0 15 "java/lang/String" "coder" "B", Cond.methodLink RX12 590 yJ0_charAt_5068e, Cond.instanceMethod yJ0_charAt_5068e, Cond.selects RJ0 yJ0_charAt_5068e yJ0_charAt_5068e, Cond.code yJ0_charAt_5068e cJ0_charAt_5068e 2 (some .char), Cond.methodLink RJ0 492 yJ0_isLatin1_aae02, Cond.instanceMethod yJ0_isLatin1_aae02, Cond.selects RJ0 yJ0_isLatin1_aae02 yJ0_isLatin1_aae02, Cond.code yJ0_isLatin1_aae02 cJ0_isLatin1_aae02 1 (some .boolean), Cond.methodLink RJ0 495 yJ1_charAt_3b067, Cond.static yJ1_charAt_3b067, Cond.initialized RJ1, Cond.code yJ1_charAt_3b067 cJ1_charAt_3b067 2 (some .char)]
def wsX12_extreme_r5 : List Cond := [Cond.methodLink RJ1 9 yJ0_checkIndex_df160, Cond.static yJ0_checkIndex_df160, Cond.code yJ0_checkIndex_df160 cJ0_checkIndex_df160 2 none, Cond.fieldLink RJ0 1053 "jdk/internal/util/Preconditions" "SIOOBE_FORMATTER" "Ljava/util/function/BiFunction;", Cond.methodLink RJ0 1059 yJ3_checkIndex_8e157, Cond.static yJ3_checkIndex_8e157, Cond.initialized RJ3, Cond.code yJ3_checkIndex_8e157 cJ3_checkIndex_8e157 3 (some .int), Cond.methodLink RJ0 498 yJ2_charAt_3b067, Cond.static yJ2_charAt_3b067, Cond.initialized RJ2, Cond.code yJ2_charAt_3b067 cJ2_charAt_3b067 2 (some .char), Cond.methodLink RJ2 67 yJ2_checkIndex_2214a, Cond.static yJ2_checkIndex_2214a, Cond.code yJ2_checkIndex_2214a cJ2_checkIndex_2214a 2 none, Cond.methodLink RJ2 48 yJ2_length_9d52b, Cond.static yJ2_length_9d52b, Cond.code yJ2_length_9d52b cJ2_length_9d52b 1 (some .int), Cond.methodLink RJ2 414 yJ0_checkIndex_df160, Cond.methodLink RJ2 71 yJ2_getChar_3b067, Cond.static yJ2_getChar_3b067, Cond.code yJ2_getChar_3b067 cJ2_getChar_3b067 2 (some .char), Cond.fieldLink RJ2 44 "java/lang/StringUTF16" "$assertionsDisabled" "Z", Cond.fieldLink RJ2 59 "java/lang/StringUTF16" "HI_BYTE_SHIFT" "I"]
def wsX12_extreme_r6 : List Cond := [Cond.fieldLink RJ2 63 "java/lang/StringUTF16" "LO_BYTE_SHIFT" "I", Cond.methodLink RX12 842 yX12_beginSlot, Cond.instanceMethod yX12_beginSlot, Cond.selects RX12 yX12_beginSlot yX12_beginSlot, Cond.code yX12_beginSlot cX12_beginSlot 2 none, Cond.fieldLink RX12 630 "IntegerHouseModel" "slot" "I", Cond.fieldLink RX12 633 "IntegerHouseModel" "open" "I", Cond.fieldLink RX12 105 "IntegerHouseModel" "textCount" "[I", Cond.fieldLink RX12 120 "IntegerHouseModel" "nodeCount" "[I", Cond.fieldLink RX12 153 "IntegerHouseModel" "leafCount" "[I", Cond.fieldLink RX12 165 "IntegerHouseModel" "termCount" "[I", Cond.fieldLink RX12 181 "IntegerHouseModel" "partCount" "[I", Cond.methodLink RX12 1020 yX12_readTerm, Cond.instanceMethod yX12_readTerm, Cond.selects RX12 yX12_readTerm yX12_readTerm, Cond.code yX12_readTerm cX12_readTerm 1 (some .int), Cond.fieldLink RX12 639 "IntegerHouseModel" "formulas" "I", Cond.fieldLink RX12 642 "IntegerHouseModel" "terms" "I", Cond.fieldLink RX12 648 "IntegerHouseModel" "state" "I", Cond.fieldLink RX12 660 "IntegerHouseModel" "current" "I", Cond.methodLink RX12 663 yX12_openTerm, Cond.instanceMethod yX12_openTerm, Cond.selects RX12 yX12_openTerm yX12_openTerm, Cond.code yX12_openTerm cX12_openTerm 2 none]
def wsX12_extreme_r7 : List Cond := [Cond.fieldLink RX12 208 "IntegerHouseModel" "inKind" "[I", Cond.fieldLink RX12 211 "IntegerHouseModel" "inFirst" "[I", Cond.fieldLink RX12 217 "IntegerHouseModel" "inSign" "[I", Cond.fieldLink RX12 220 "IntegerHouseModel" "inTimes" "[J", Cond.fieldLink RX12 223 "IntegerHouseModel" "inOne" "[I", Cond.methodLink RX12 657 yX12_readInTerm, Cond.instanceMethod yX12_readInTerm, Cond.selects RX12 yX12_readInTerm yX12_readInTerm, Cond.code yX12_readInTerm cX12_readInTerm 1 none, Cond.methodLink RX12 672 yX12_isSign, Cond.instanceMethod yX12_isSign, Cond.selects RX12 yX12_isSign yX12_isSign, Cond.code yX12_isSign cX12_isSign 2 (some .boolean), Cond.methodLink RX12 636 yX12_take, Cond.instanceMethod yX12_take, Cond.selects RX12 yX12_take yX12_take, Cond.code yX12_take cX12_take 3 none, Cond.fieldLink RX12 102 "IntegerHouseModel" "textSize" "[I", Cond.fieldLink RX12 99 "IntegerHouseModel" "textBytes" "[B", Cond.methodLink RX12 616 yX12_fail, Cond.instanceMethod yX12_fail, Cond.selects RX12 yX12_fail yX12_fail, Cond.code yX12_fail cX12_fail 3 none, Cond.fieldLink RX12 565 "IntegerHouseModel" "faultKind" "I"]
def wsX12_extreme_r8 : List Cond := [Cond.fieldLink RX12 568 "IntegerHouseModel" "faultPlace" "I", Cond.methodLink RX12 706 yX12_addPart, Cond.instanceMethod yX12_addPart, Cond.selects RX12 yX12_addPart yX12_addPart, Cond.code yX12_addPart cX12_addPart 3 none, Cond.fieldLink RX12 168 "IntegerHouseModel" "partSign" "[I", Cond.fieldLink RX12 171 "IntegerHouseModel" "partTimes" "[J", Cond.fieldLink RX12 175 "IntegerHouseModel" "partOf" "[I", Cond.fieldLink RX12 178 "IntegerHouseModel" "partNext" "[I", Cond.fieldLink RX12 214 "IntegerHouseModel" "inLast" "[I", Cond.methodLink RX12 709 yX12_readAtom, Cond.instanceMethod yX12_readAtom, Cond.selects RX12 yX12_readAtom yX12_readAtom, Cond.code yX12_readAtom cX12_readAtom 3 none, Cond.constantLong RX12 694 (8), Cond.methodLink RX12 685 yX12_variableAt, Cond.instanceMethod yX12_variableAt, Cond.selects RX12 yX12_variableAt yX12_variableAt, Cond.code yX12_variableAt cX12_variableAt 3 (some .int), Cond.methodLink RX12 623 yX12_isCalled, Cond.instanceMethod yX12_isCalled, Cond.selects RX12 yX12_isCalled yX12_isCalled, Cond.code yX12_isCalled cX12_isCalled 4 (some .boolean), Cond.fieldLink RX12 96 "IntegerHouseModel" "nameSize" "[I"]
def wsX12_extreme_r9 : List Cond := [Cond.fieldLink RX12 93 "IntegerHouseModel" "nameText" "[B", Cond.methodLink RX12 715 yX12_newTerm, Cond.instanceMethod yX12_newTerm, Cond.selects RX12 yX12_newTerm yX12_newTerm, Cond.code yX12_newTerm cX12_newTerm 5 (some .int), Cond.fieldLink RX12 156 "IntegerHouseModel" "termKind" "[I", Cond.fieldLink RX12 159 "IntegerHouseModel" "termA" "[I", Cond.fieldLink RX12 162 "IntegerHouseModel" "termB" "[I", Cond.methodLink RX12 682 yX12_claimAt, Cond.instanceMethod yX12_claimAt, Cond.selects RX12 yX12_claimAt yX12_claimAt, Cond.code yX12_claimAt cX12_claimAt 3 (some .int), Cond.methodLink RX12 669 yX12_takeOpen, Cond.instanceMethod yX12_takeOpen, Cond.selects RX12 yX12_takeOpen yX12_takeOpen, Cond.code yX12_takeOpen cX12_takeOpen 1 none, Cond.methodLink RX12 698 yX12_cannot, Cond.instanceMethod yX12_cannot, Cond.selects RX12 yX12_cannot yX12_cannot, Cond.code yX12_cannot cX12_cannot 1 none, Cond.methodLink RX12 712 yX12_endTerm, Cond.instanceMethod yX12_endTerm, Cond.selects RX12 yX12_endTerm yX12_endTerm, Cond.code yX12_endTerm cX12_endTerm 7 none]
def wsX12_extreme_r10 : List Cond := [Cond.methodLink RX12 718 yX12_endSide, Cond.instanceMethod yX12_endSide, Cond.selects RX12 yX12_endSide yX12_endSide, Cond.code yX12_endSide cX12_endSide 5 none, Cond.constantLong RX12 721 (11), Cond.constantLong RX12 723 (15), Cond.fieldLink RX12 123 "IntegerHouseModel" "leafOp" "[I", Cond.fieldLink RX12 129 "IntegerHouseModel" "leafLeft" "[I", Cond.fieldLink RX12 132 "IntegerHouseModel" "leafRight" "[I", Cond.fieldLink RX12 138 "IntegerHouseModel" "leafTo" "[I", Cond.fieldLink RX12 144 "IntegerHouseModel" "leafTermsTo" "[I", Cond.methodLink RX12 675 yX12_newNode, Cond.instanceMethod yX12_newNode, Cond.selects RX12 yX12_newNode yX12_newNode, Cond.code yX12_newNode cX12_newNode 5 (some .int), Cond.fieldLink RX12 108 "IntegerHouseModel" "nodeKind" "[I", Cond.fieldLink RX12 111 "IntegerHouseModel" "nodeA" "[I", Cond.fieldLink RX12 114 "IntegerHouseModel" "nodeB" "[I", Cond.fieldLink RX12 117 "IntegerHouseModel" "nodeNext" "[I", Cond.methodLink RX12 679 yX12_endOne, Cond.instanceMethod yX12_endOne, Cond.selects RX12 yX12_endOne yX12_endOne, Cond.code yX12_endOne cX12_endOne 2 none, Cond.fieldLink RX12 205 "IntegerHouseModel" "openNots" "[I"]
def wsX12_extreme_r11 : List Cond := [Cond.fieldLink RX12 199 "IntegerHouseModel" "openAnd" "[I", Cond.fieldLink RX12 202 "IntegerHouseModel" "openAndLast" "[I", Cond.methodLink RX12 691 yX12_takeNumber, Cond.instanceMethod yX12_takeNumber, Cond.selects RX12 yX12_takeNumber yX12_takeNumber, Cond.code yX12_takeNumber cX12_takeNumber 1 none, Cond.constantLong RX12 701 (2), Cond.methodLink RX12 666 yX12_isWord, Cond.instanceMethod yX12_isWord, Cond.selects RX12 yX12_isWord yX12_isWord, Cond.code yX12_isWord cX12_isWord 2 (some .boolean), Cond.methodLink RX12 994 yX12_readsFormula, Cond.instanceMethod yX12_readsFormula, Cond.selects RX12 yX12_readsFormula yX12_readsFormula, Cond.code yX12_readsFormula cX12_readsFormula 3 (some .boolean), Cond.methodLink RX12 845 yX12_readFormula, Cond.instanceMethod yX12_readFormula, Cond.selects RX12 yX12_readFormula yX12_readFormula, Cond.code yX12_readFormula cX12_readFormula 1 (some .int), Cond.fieldLink RX12 184 "IntegerHouseModel" "rootOf" "[I", Cond.methodLink RX12 645 yX12_openFormula, Cond.instanceMethod yX12_openFormula, Cond.selects RX12 yX12_openFormula yX12_openFormula, Cond.code yX12_openFormula cX12_openFormula 1 none]
def wsX12_extreme_r12 : List Cond := [Cond.fieldLink RX12 187 "IntegerHouseModel" "openJoin" "[I", Cond.fieldLink RX12 190 "IntegerHouseModel" "openLeft" "[I", Cond.fieldLink RX12 193 "IntegerHouseModel" "openOr" "[I", Cond.methodLink RX12 651 yX12_readOne, Cond.instanceMethod yX12_readOne, Cond.selects RX12 yX12_readOne yX12_readOne, Cond.code yX12_readOne cX12_readOne 5 none, Cond.fieldLink RX12 135 "IntegerHouseModel" "leafFrom" "[I", Cond.methodLink RX12 688 yX12_beginLeaf, Cond.instanceMethod yX12_beginLeaf, Cond.selects RX12 yX12_beginLeaf yX12_beginLeaf, Cond.code yX12_beginLeaf cX12_beginLeaf 4 none, Cond.fieldLink RX12 126 "IntegerHouseModel" "leafNumber" "[I", Cond.fieldLink RX12 141 "IntegerHouseModel" "leafTerms" "[I", Cond.methodLink RX12 654 yX12_readAfter, Cond.instanceMethod yX12_readAfter, Cond.selects RX12 yX12_readAfter yX12_readAfter, Cond.code yX12_readAfter cX12_readAfter 4 none, Cond.fieldLink RX12 196 "IntegerHouseModel" "openOrLast" "[I", Cond.methodLink RX12 703 yX12_join, Cond.instanceMethod yX12_join, Cond.selects RX12 yX12_join yX12_join, Cond.code yX12_join cX12_join 8 (some .int), Cond.methodLink RX12 1023 yX12_collects]
def wsX12_extreme_r13 : List Cond := [Cond.instanceMethod yX12_collects, Cond.selects RX12 yX12_collects yX12_collects, Cond.code yX12_collects cX12_collects 11 (some .boolean), Cond.fieldLink RX12 725 "IntegerHouseModel" "great" "Z", Cond.fieldLink RX12 259 "IntegerHouseModel" "chosen" "[I", Cond.fieldLink RX12 250 "IntegerHouseModel" "formF" "[J", Cond.fieldLink RX12 253 "IntegerHouseModel" "formC" "[J", Cond.methodLink RX12 797 yX12_shape, Cond.instanceMethod yX12_shape, Cond.selects RX12 yX12_shape yX12_shape, Cond.code yX12_shape cX12_shape 8 (some .int), Cond.fieldLink RX12 262 "IntegerHouseModel" "hereF" "[J", Cond.constantLong RX12 526 (-1), Cond.fieldLink RX12 736 "IntegerHouseModel" "hereC" "J", Cond.fieldLink RX12 740 "IntegerHouseModel" "hereD" "J", Cond.methodLink RX12 771 yX12_clearHere, Cond.instanceMethod yX12_clearHere, Cond.selects RX12 yX12_clearHere yX12_clearHere, Cond.code yX12_clearHere cX12_clearHere 4 none, Cond.methodLink RX12 774 yX12_total, Cond.instanceMethod yX12_total, Cond.selects RX12 yX12_total yX12_total, Cond.code yX12_total cX12_total 22 none, Cond.methodLink RX12 783 yX12_add]
def wsX12_extreme_r14 : List Cond := [Cond.instanceMethod yX12_add, Cond.selects RX12 yX12_add yX12_add, Cond.code yX12_add cX12_add 7 none, Cond.fieldLink RX12 256 "IntegerHouseModel" "formD" "[J", Cond.methodLink RX12 743 yX12_divisor, Cond.static yX12_divisor, Cond.code yX12_divisor cX12_divisor 10 (some .long), Cond.methodLink RX12 787 yX12_lookHere, Cond.instanceMethod yX12_lookHere, Cond.selects RX12 yX12_lookHere yX12_lookHere, Cond.code yX12_lookHere cX12_lookHere 2 none, Cond.methodLink RX12 732 yX12_look, Cond.instanceMethod yX12_look, Cond.selects RX12 yX12_look yX12_look, Cond.code yX12_look cX12_look 3 none, Cond.constantLong RX12 730 (-1000000), Cond.methodLink RX12 777 yX12_hereIs, Cond.instanceMethod yX12_hereIs, Cond.selects RX12 yX12_hereIs yX12_hereIs, Cond.code yX12_hereIs cX12_hereIs 4 none, Cond.methodLink RX12 780 yX12_lineOf, Cond.instanceMethod yX12_lineOf, Cond.selects RX12 yX12_lineOf yX12_lineOf, Cond.code yX12_lineOf cX12_lineOf 7 (some .int)]
def wsX12_extreme_r15 : List Cond := [Cond.constantLong RX12 750 (20), Cond.constantLong RX12 752 (-20), Cond.constantLong RX12 754 (99999), Cond.constantLong RX12 756 (-99999), Cond.methodLink RX12 758 yX12_isFlat, Cond.instanceMethod yX12_isFlat, Cond.selects RX12 yX12_isFlat yX12_isFlat, Cond.code yX12_isFlat cX12_isFlat 1 (some .boolean), Cond.methodLink RX12 761 yX12_isFalseHere, Cond.instanceMethod yX12_isFalseHere, Cond.selects RX12 yX12_isFalseHere yX12_isFalseHere, Cond.code yX12_isFalseHere cX12_isFalseHere 1 none, Cond.fieldLink RX12 247 "IntegerHouseModel" "falseAt" "[I", Cond.fieldLink RX12 235 "IntegerHouseModel" "atomCount" "[I", Cond.methodLink RX12 764 yX12_atomOf, Cond.instanceMethod yX12_atomOf, Cond.selects RX12 yX12_atomOf yX12_atomOf, Cond.code yX12_atomOf cX12_atomOf 8 (some .int), Cond.fieldLink RX12 232 "IntegerHouseModel" "atomN" "[I", Cond.fieldLink RX12 229 "IntegerHouseModel" "atomC" "[I", Cond.fieldLink RX12 226 "IntegerHouseModel" "atomF" "[I", Cond.fieldLink RX12 747 "IntegerHouseModel" "crowded" "Z", Cond.methodLink RX12 790 yX12_divides, Cond.instanceMethod yX12_divides]
def wsX12_extreme_r16 : List Cond := [Cond.selects RX12 yX12_divides yX12_divides, Cond.code yX12_divides cX12_divides 6 (some .int), Cond.methodLink RX12 768 yX12_rest, Cond.static yX12_rest, Cond.code yX12_rest cX12_rest 6 (some .long), Cond.methodLink RX12 792 yX12_keep, Cond.instanceMethod yX12_keep, Cond.selects RX12 yX12_keep yX12_keep, Cond.code yX12_keep cX12_keep 3 none, Cond.methodLink RX12 795 yX12_not, Cond.static yX12_not, Cond.code yX12_not cX12_not 1 (some .int), Cond.methodLink RX12 860 yX12_told, Cond.instanceMethod yX12_told, Cond.selects RX12 yX12_told yX12_told, Cond.code yX12_told cX12_told 1 (some .int), Cond.fieldLink RX12 472 "IntegerHouseModel" "replay" "Z", Cond.fieldLink RX12 836 "IntegerHouseModel" "latestFault" "I", Cond.methodLink RX12 997 yX12_builds, Cond.instanceMethod yX12_builds, Cond.selects RX12 yX12_builds yX12_builds, Cond.code yX12_builds cX12_builds 3 (some .boolean), Cond.methodLink RX12 857 yX12_build, Cond.instanceMethod yX12_build]
def wsX12_extreme_r17 : List Cond := [Cond.selects RX12 yX12_build yX12_build, Cond.code yX12_build cX12_build 7 (some .int), Cond.fieldLink RX12 241 "IntegerHouseModel" "caseCount" "[I", Cond.fieldLink RX12 244 "IntegerHouseModel" "isPlain" "[Z", Cond.constantLong RX12 806 (64), Cond.methodLink RX12 808 yX12_casesOf, Cond.instanceMethod yX12_casesOf, Cond.selects RX12 yX12_casesOf yX12_casesOf, Cond.code yX12_casesOf cX12_casesOf 8 (some .long), Cond.methodLink RX12 800 yX12_ways, Cond.instanceMethod yX12_ways, Cond.selects RX12 yX12_ways yX12_ways, Cond.code yX12_ways cX12_ways 3 (some .int), Cond.methodLink RX12 812 yX12_makeCases, Cond.instanceMethod yX12_makeCases, Cond.selects RX12 yX12_makeCases yX12_makeCases, Cond.code yX12_makeCases cX12_makeCases 5 none, Cond.fieldLink RX12 147 "IntegerHouseModel" "leafCase" "[I", Cond.fieldLink RX12 150 "IntegerHouseModel" "leafCases" "[I", Cond.methodLink RX12 803 yX12_makeCase, Cond.instanceMethod yX12_makeCase, Cond.selects RX12 yX12_makeCase yX12_makeCase, Cond.code yX12_makeCase cX12_makeCase 7 none, Cond.fieldLink RX12 238 "IntegerHouseModel" "caseLit" "[I"]
def wsX12_extreme_r18 : List Cond := [Cond.methodLink RX12 982 yX12_putOn, Cond.instanceMethod yX12_putOn, Cond.selects RX12 yX12_putOn yX12_putOn, Cond.code yX12_putOn cX12_putOn 2 none, Cond.fieldLink RX12 265 "IntegerHouseModel" "isOn" "[Z", Cond.methodLink RX12 934 yX12_idle, Cond.instanceMethod yX12_idle, Cond.selects RX12 yX12_idle yX12_idle, Cond.code yX12_idle cX12_idle 2 none, Cond.fieldLink RX12 928 "IntegerHouseModel" "work" "I", Cond.fieldLink RX12 304 "IntegerHouseModel" "needed" "[Z", Cond.methodLink RX12 937 yX12_put, Cond.instanceMethod yX12_put, Cond.selects RX12 yX12_put yX12_put, Cond.code yX12_put cX12_put 5 none, Cond.fieldLink RX12 298 "IntegerHouseModel" "workN" "[I", Cond.fieldLink RX12 295 "IntegerHouseModel" "workC" "[I", Cond.fieldLink RX12 292 "IntegerHouseModel" "workF" "[I", Cond.methodLink RX12 931 yX12_workAt, Cond.instanceMethod yX12_workAt, Cond.selects RX12 yX12_workAt yX12_workAt, Cond.code yX12_workAt cX12_workAt 5 (some .int), Cond.methodLink RX12 985 yX12_explore, Cond.instanceMethod yX12_explore]
def wsX12_extreme_r19 : List Cond := [Cond.selects RX12 yX12_explore yX12_explore, Cond.code yX12_explore cX12_explore 5 (some .boolean), Cond.fieldLink RX12 960 "IntegerHouseModel" "letters" "I", Cond.constant RX12 324 (32768), Cond.fieldLink RX12 325 "IntegerHouseModel" "heads" "[I", Cond.fieldLink RX12 957 "IntegerHouseModel" "places" "I", Cond.fieldLink RX12 331 "IntegerHouseModel" "image2" "[I", Cond.fieldLink RX12 317 "IntegerHouseModel" "place" "[I", Cond.fieldLink RX12 321 "IntegerHouseModel" "behind" "[I", Cond.methodLink RX12 951 yX12_findWork, Cond.instanceMethod yX12_findWork, Cond.selects RX12 yX12_findWork yX12_findWork, Cond.code yX12_findWork cX12_findWork 3 none, Cond.fieldLink RX12 301 "IntegerHouseModel" "workOf" "[I", Cond.methodLink RX12 963 yX12_placeOf, Cond.instanceMethod yX12_placeOf, Cond.selects RX12 yX12_placeOf yX12_placeOf, Cond.code yX12_placeOf cX12_placeOf 5 (some .int), Cond.constant RX12 508 (-1640531535), Cond.fieldLink RX12 328 "IntegerHouseModel" "chain" "[I", Cond.methodLink RX12 966 yX12_halved, Cond.instanceMethod yX12_halved, Cond.selects RX12 yX12_halved yX12_halved, Cond.code yX12_halved cX12_halved 7 (some .int)]
def wsX12_extreme_r20 : List Cond := [Cond.methodLink RX12 988 yX12_judge, Cond.instanceMethod yX12_judge, Cond.selects RX12 yX12_judge yX12_judge, Cond.code yX12_judge cX12_judge 8 none, Cond.fieldLink RX12 346 "IntegerHouseModel" "keptAnswer" "[I", Cond.fieldLink RX12 334 "IntegerHouseModel" "takes" "[I", Cond.fieldLink RX12 337 "IntegerHouseModel" "takes2" "[I", Cond.fieldLink RX12 307 "IntegerHouseModel" "workIs" "[Z", Cond.fieldLink RX12 343 "IntegerHouseModel" "keptRow" "[I", Cond.fieldLink RX12 310 "IntegerHouseModel" "slotIs" "[Z", Cond.methodLink RX12 969 yX12_isSo, Cond.instanceMethod yX12_isSo, Cond.selects RX12 yX12_isSo yX12_isSo, Cond.code yX12_isSo cX12_isSo 7 (some .boolean), Cond.methodLink RX12 954 yX12_reckonSlots, Cond.instanceMethod yX12_reckonSlots, Cond.selects RX12 yX12_reckonSlots yX12_reckonSlots, Cond.code yX12_reckonSlots cX12_reckonSlots 3 none, Cond.fieldLink RX12 313 "IntegerHouseModel" "nodeIs" "[Z", Cond.methodLink RX12 946 yX12_isNode, Cond.instanceMethod yX12_isNode, Cond.selects RX12 yX12_isNode yX12_isNode, Cond.code yX12_isNode cX12_isNode 5 (some .boolean), Cond.methodLink RX12 943 yX12_isLeaf]
def wsX12_extreme_r21 : List Cond := [Cond.instanceMethod yX12_isLeaf, Cond.selects RX12 yX12_isLeaf yX12_isLeaf, Cond.code yX12_isLeaf cX12_isLeaf 6 (some .boolean), Cond.methodLink RX12 940 yX12_isLit, Cond.instanceMethod yX12_isLit, Cond.selects RX12 yX12_isLit yX12_isLit, Cond.code yX12_isLit cX12_isLit 3 (some .boolean), Cond.methodLink RX12 973 yX12_isAnswer, Cond.instanceMethod yX12_isAnswer, Cond.selects RX12 yX12_isAnswer yX12_isAnswer, Cond.code yX12_isAnswer cX12_isAnswer 5 (some .boolean), Cond.fieldLink RX12 340 "IntegerHouseModel" "isOut" "[Z", Cond.methodLink RX12 1027 yX12_climb, Cond.instanceMethod yX12_climb, Cond.selects RX12 yX12_climb yX12_climb, Cond.code yX12_climb cX12_climb 7 none, Cond.methodLink RX12 1017 yX12_mostAt, Cond.instanceMethod yX12_mostAt, Cond.selects RX12 yX12_mostAt yX12_mostAt, Cond.code yX12_mostAt cX12_mostAt 10 (some .long), Cond.constantLong RX12 1013 (-1152921504606846976), Cond.constantLong RX12 1015 (36028797018963968), Cond.methodLink RX12 1005 yX12_weigh, Cond.instanceMethod yX12_weigh]
def wsX12_extreme_r22 : List Cond := [Cond.selects RX12 yX12_weigh yX12_weigh, Cond.code yX12_weigh cX12_weigh 6 (some .long), Cond.methodLink RX12 1009 yX12_max, Cond.static yX12_max, Cond.code yX12_max cX12_max 4 (some .long)]
def wsX12_extreme : List Cond := .code yX12_extreme cX12_extreme 8 (some .int) :: ((wsX12_extreme_r1 ++ (wsX12_extreme_r2 ++ (wsX12_extreme_r3 ++ (wsX12_extreme_r4 ++ (wsX12_extreme_r5 ++ (wsX12_extreme_r6 ++ (wsX12_extreme_r7 ++ (wsX12_extreme_r8 ++ (wsX12_extreme_r9 ++ (wsX12_extreme_r10 ++ (wsX12_extreme_r11 ++ (wsX12_extreme_r12 ++ (wsX12_extreme_r13 ++ (wsX12_extreme_r14 ++ (wsX12_extreme_r15 ++ (wsX12_extreme_r16 ++ (wsX12_extreme_r17 ++ (wsX12_extreme_r18 ++ (wsX12_extreme_r19 ++ (wsX12_extreme_r20 ++ (wsX12_extreme_r21 ++ wsX12_extreme_r22))))))))))))))))))))) ++ wsX120)
def wsX12_number : List Cond := .code yX12_number cX12_number 1 (some .long) :: ([.fieldLink RX12 3 "IntegerHouseModel" "thrown" "I", .fieldLink RX12 1030 "IntegerHouseModel" "extremeTold" "J"] ++ wsX120)
def wsL_value : List Cond := .codeWith yL_value cL_value 4 (some .int) [(0, 8, 11, 25)] :: ([.classLink RL 25 "java/lang/IndexOutOfBoundsException", .methodLink RL 31 yX11_value, .instanceMethod yX11_value, .selects RX11 yX11_value yX11_value, .initialized RX11, .code yX11_value cX11_value 2 (some .long), .classLink RX11 197 "java/lang/IndexOutOfBoundsException", .initialized "java/lang/IndexOutOfBoundsException", .fieldLink RX11 64 "IntegerHouse" "answers" "LIntegerHouse$Answers;", .methodLink RX11 309 yX0_isTold, .instanceMethod yX0_isTold, .selects RX0 yX0_isTold yX0_isTold, .initialized RX0, .code yX0_isTold cX0_isTold 2 (some .boolean), .fieldLink RX0 69 "IntegerHouse$Answers" "valuesTold" "I", .methodLink RX11 314 yX0_toldValue, .instanceMethod yX0_toldValue, .selects RX0 yX0_toldValue yX0_toldValue, .code yX0_toldValue cX0_toldValue 2 (some .long), .fieldLink RX0 9 "IntegerHouse$Answers" "values" "[J"] ++ wsX110 ++ wsX00 ++ (vx_atS RX11 201 "java/lang/IndexOutOfBoundsException" ["java/lang/RuntimeException", "java/lang/Exception"]).filter goodWord)
theorem dX0_isTold_0 : decode cX0_isTold 0 = .ok (.iload_n 1, 1) := by decide +kernel
theorem dX0_isTold_1 : decode cX0_isTold 1 = .ok (.ifCond .lt 15, 3) := by decide +kernel
theorem dX0_isTold_4 : decode cX0_isTold 4 = .ok (.iload_n 1, 1) := by decide +kernel
theorem dX0_isTold_5 : decode cX0_isTold 5 = .ok (.aload_n 0, 1) := by decide +kernel
theorem dX0_isTold_6 : decode cX0_isTold 6 = .ok (.getfield 69, 3) := by decide +kernel
theorem dX0_isTold_9 : decode cX0_isTold 9 = .ok (.if_icmp .ge 7, 3) := by decide +kernel
theorem dX0_isTold_16 : decode cX0_isTold 16 = .ok (.iconst 0, 1) := by decide +kernel
theorem dX0_isTold_17 : decode cX0_isTold 17 = .ok (.ireturn, 1) := by decide +kernel
theorem dX0_farFrom_0 : decode cX0_farFrom 0 = .ok (.iload_n 1, 1) := by decide +kernel
theorem dX0_farFrom_1 : decode cX0_farFrom 1 = .ok (.ifCond .lt 19, 3) := by decide +kernel
theorem dX0_farFrom_4 : decode cX0_farFrom 4 = .ok (.iload_n 1, 1) := by decide +kernel
theorem dX0_farFrom_5 : decode cX0_farFrom 5 = .ok (.sipush 3000, 3) := by decide +kernel
theorem dX0_farFrom_8 : decode cX0_farFrom 8 = .ok (.if_icmp .ge 12, 3) := by decide +kernel
theorem dX0_farFrom_11 : decode cX0_farFrom 11 = .ok (.aload_n 0, 1) := by decide +kernel
theorem dX0_farFrom_12 : decode cX0_farFrom 12 = .ok (.getfield 18, 3) := by decide +kernel
theorem dX0_farFrom_15 : decode cX0_farFrom 15 = .ok (.iload_n 1, 1) := by decide +kernel
theorem dX0_farFrom_16 : decode cX0_farFrom 16 = .ok (.iaload, 1) := by decide +kernel
theorem dX0_farFrom_17 : decode cX0_farFrom 17 = .ok (.goto 4, 3) := by decide +kernel
theorem dX0_farFrom_21 : decode cX0_farFrom 21 = .ok (.ireturn, 1) := by decide +kernel
set_option maxRecDepth 20000 in
theorem ggX0_mark_X6_behind : GoodIn wsX0_mark wsX6_behind := goodIn_r _ [7, 8, 33, 34, 35, 36, 37, 38, 39, 40, 41, 42, 43, 44, 45, 46] (by decide +kernel) (by decide +kernel)
set_option maxRecDepth 20000 in
theorem gX0_mark_X6_behind : GoodIn wsX0_mark (wsV RX0 95 RX6 yX6_behind wsX6_behind) := goodIn_app (goodIn_of _ (by decide +kernel)) ggX0_mark_X6_behind
set_option maxRecDepth 20000 in
theorem ggX0_mark_X0_farFrom : GoodIn wsX0_mark wsX0_farFrom := goodIn_r _ [13, 1, 14, 15, 16, 17, 18, 19, 20, 21, 22, 23, 24, 25, 26, 27, 28, 29, 30, 31, 32] (by decide +kernel) (by decide +kernel)
set_option maxRecDepth 20000 in
theorem gX0_mark_X0_farFrom : GoodIn wsX0_mark (wsV RX0 98 RX0 yX0_farFrom wsX0_farFrom) := goodIn_app (goodIn_of _ (by decide +kernel)) ggX0_mark_X0_farFrom
theorem dX0_mark_0 : decode cX0_mark 0 = .ok (.iconst 0, 1) := by decide +kernel
theorem dX0_mark_1 : decode cX0_mark 1 = .ok (.istore_n 3, 1) := by decide +kernel
theorem dX0_mark_2 : decode cX0_mark 2 = .ok (.iconst 0, 1) := by decide +kernel
theorem dX0_mark_3 : decode cX0_mark 3 = .ok (.istore 4, 2) := by decide +kernel
theorem dX0_mark_5 : decode cX0_mark 5 = .ok (.iload 4, 2) := by decide +kernel
theorem dX0_mark_7 : decode cX0_mark 7 = .ok (.iload_n 1, 1) := by decide +kernel
theorem dX0_mark_8 : decode cX0_mark 8 = .ok (.if_icmp .ge 109, 3) := by decide +kernel
theorem dX0_mark_11 : decode cX0_mark 11 = .ok (.iload 4, 2) := by decide +kernel
theorem dX0_mark_13 : decode cX0_mark 13 = .ok (.sipush 3000, 3) := by decide +kernel
theorem dX0_mark_16 : decode cX0_mark 16 = .ok (.if_icmp .ge 101, 3) := by decide +kernel
theorem dX0_mark_19 : decode cX0_mark 19 = .ok (.aload_n 0, 1) := by decide +kernel
theorem dX0_mark_20 : decode cX0_mark 20 = .ok (.getfield 18, 3) := by decide +kernel
theorem dX0_mark_23 : decode cX0_mark 23 = .ok (.iload 4, 2) := by decide +kernel
theorem dX0_mark_25 : decode cX0_mark 25 = .ok (.iaload, 1) := by decide +kernel
theorem dX0_mark_26 : decode cX0_mark 26 = .ok (.iload_n 2, 1) := by decide +kernel
theorem dX0_mark_27 : decode cX0_mark 27 = .ok (.if_icmp .ne 84, 3) := by decide +kernel
theorem dX0_mark_30 : decode cX0_mark 30 = .ok (.iconst 0, 1) := by decide +kernel
theorem dX0_mark_31 : decode cX0_mark 31 = .ok (.istore 5, 2) := by decide +kernel
theorem dX0_mark_33 : decode cX0_mark 33 = .ok (.iconst 0, 1) := by decide +kernel
theorem dX0_mark_34 : decode cX0_mark 34 = .ok (.istore 6, 2) := by decide +kernel
theorem dX0_mark_36 : decode cX0_mark 36 = .ok (.iload 6, 2) := by decide +kernel
theorem dX0_mark_38 : decode cX0_mark 38 = .ok (.aload_n 0, 1) := by decide +kernel
theorem dX0_mark_39 : decode cX0_mark 39 = .ok (.getfield 48, 3) := by decide +kernel
theorem dX0_mark_42 : decode cX0_mark 42 = .ok (.getfield 92, 3) := by decide +kernel
theorem dX0_mark_45 : decode cX0_mark 45 = .ok (.if_icmp .ge 40, 3) := by decide +kernel
theorem dX0_mark_48 : decode cX0_mark 48 = .ok (.iload 5, 2) := by decide +kernel
theorem dX0_mark_50 : decode cX0_mark 50 = .ok (.ifCond .ne 35, 3) := by decide +kernel
theorem dX0_mark_53 : decode cX0_mark 53 = .ok (.aload_n 0, 1) := by decide +kernel
theorem dX0_mark_54 : decode cX0_mark 54 = .ok (.aload_n 0, 1) := by decide +kernel
theorem dX0_mark_55 : decode cX0_mark 55 = .ok (.getfield 48, 3) := by decide +kernel
theorem dX0_mark_58 : decode cX0_mark 58 = .ok (.iload 4, 2) := by decide +kernel
theorem dX0_mark_60 : decode cX0_mark 60 = .ok (.iload 6, 2) := by decide +kernel
theorem dX0_mark_62 : decode cX0_mark 62 = .ok (.invokevirtual 95, 3) := by decide +kernel
theorem dX0_mark_65 : decode cX0_mark 65 = .ok (.invokevirtual 98, 3) := by decide +kernel
theorem dX0_mark_68 : decode cX0_mark 68 = .ok (.iconst 1, 1) := by decide +kernel
theorem dX0_mark_69 : decode cX0_mark 69 = .ok (.if_icmp .ne 7, 3) := by decide +kernel
theorem dX0_mark_76 : decode cX0_mark 76 = .ok (.iconst 0, 1) := by decide +kernel
theorem dX0_mark_77 : decode cX0_mark 77 = .ok (.istore 5, 2) := by decide +kernel
theorem dX0_mark_79 : decode cX0_mark 79 = .ok (.iinc 6 1, 3) := by decide +kernel
theorem dX0_mark_82 : decode cX0_mark 82 = .ok (.goto (-46), 3) := by decide +kernel
theorem dX0_mark_85 : decode cX0_mark 85 = .ok (.iload 5, 2) := by decide +kernel
theorem dX0_mark_87 : decode cX0_mark 87 = .ok (.iload_n 2, 1) := by decide +kernel
theorem dX0_mark_88 : decode cX0_mark 88 = .ok (.ifCond .ne 7, 3) := by decide +kernel
theorem dX0_mark_91 : decode cX0_mark 91 = .ok (.iconst 1, 1) := by decide +kernel
theorem dX0_mark_92 : decode cX0_mark 92 = .ok (.goto 4, 3) := by decide +kernel
theorem dX0_mark_96 : decode cX0_mark 96 = .ok (.if_icmp .ne 15, 3) := by decide +kernel
theorem dX0_mark_111 : decode cX0_mark 111 = .ok (.iinc 4 1, 3) := by decide +kernel
theorem dX0_mark_114 : decode cX0_mark 114 = .ok (.goto (-109), 3) := by decide +kernel
theorem dX0_mark_117 : decode cX0_mark 117 = .ok (.iload_n 3, 1) := by decide +kernel
theorem dX0_mark_118 : decode cX0_mark 118 = .ok (.ireturn, 1) := by decide +kernel
theorem dX6_behind_0 : decode cX6_behind 0 = .ok (.iload_n 1, 1) := by decide +kernel
theorem dX6_behind_1 : decode cX6_behind 1 = .ok (.ifCond .lt 24, 3) := by decide +kernel
theorem dX6_behind_4 : decode cX6_behind 4 = .ok (.iload_n 1, 1) := by decide +kernel
theorem dX6_behind_5 : decode cX6_behind 5 = .ok (.sipush 3000, 3) := by decide +kernel
theorem dX6_behind_8 : decode cX6_behind 8 = .ok (.if_icmp .ge 17, 3) := by decide +kernel
theorem dX6_behind_11 : decode cX6_behind 11 = .ok (.iload_n 2, 1) := by decide +kernel
theorem dX6_behind_12 : decode cX6_behind 12 = .ok (.ifCond .lt 13, 3) := by decide +kernel
theorem dX6_behind_15 : decode cX6_behind 15 = .ok (.iload_n 2, 1) := by decide +kernel
theorem dX6_behind_16 : decode cX6_behind 16 = .ok (.bipush 16, 2) := by decide +kernel
theorem dX6_behind_18 : decode cX6_behind 18 = .ok (.if_icmp .ge 7, 3) := by decide +kernel
theorem dX6_behind_21 : decode cX6_behind 21 = .ok (.iconst 1, 1) := by decide +kernel
theorem dX6_behind_22 : decode cX6_behind 22 = .ok (.goto 4, 3) := by decide +kernel
theorem dX6_behind_26 : decode cX6_behind 26 = .ok (.istore_n 3, 1) := by decide +kernel
theorem dX6_behind_27 : decode cX6_behind 27 = .ok (.iload_n 3, 1) := by decide +kernel
theorem dX6_behind_28 : decode cX6_behind 28 = .ok (.ifCond .eq 17, 3) := by decide +kernel
theorem dX6_behind_31 : decode cX6_behind 31 = .ok (.aload_n 0, 1) := by decide +kernel
theorem dX6_behind_32 : decode cX6_behind 32 = .ok (.getfield 35, 3) := by decide +kernel
theorem dX6_behind_35 : decode cX6_behind 35 = .ok (.iload_n 1, 1) := by decide +kernel
theorem dX6_behind_36 : decode cX6_behind 36 = .ok (.bipush 16, 2) := by decide +kernel
theorem dX6_behind_38 : decode cX6_behind 38 = .ok (.imul, 1) := by decide +kernel
theorem dX6_behind_39 : decode cX6_behind 39 = .ok (.iload_n 2, 1) := by decide +kernel
theorem dX6_behind_40 : decode cX6_behind 40 = .ok (.iadd, 1) := by decide +kernel
theorem dX6_behind_41 : decode cX6_behind 41 = .ok (.iaload, 1) := by decide +kernel
theorem dX6_behind_42 : decode cX6_behind 42 = .ok (.goto 4, 3) := by decide +kernel
theorem dX6_behind_46 : decode cX6_behind 46 = .ok (.ireturn, 1) := by decide +kernel
set_option maxRecDepth 20000 in
theorem ggX8_readExtreme_X8_begin : GoodIn wsX8_readExtreme wsX8_begin := goodIn_r _ [10, 11, 3, 12, 2, 13, 14, 15, 16, 17, 18, 19, 20, 21, 22, 23, 24, 25, 26, 27, 28, 29, 30, 31, 32, 33, 34, 35, 36, 37, 38, 39, 40, 41, 42, 43, 44, 45, 46, 47, 48, 49, 50, 51, 52, 53, 54, 55, 56, 57, 58, 59, 60, 61, 62, 63, 64, 65, 66, 67, 68, 69, 70, 71, 72, 73, 74, 75, 76, 77, 78, 79, 80, 81, 82, 83, 84, 85, 86, 87, 88, 89, 90, 91, 92, 93, 94, 95, 96, 97, 9, 98, 1, 99, 390, 391, 392, 393, 394, 395, 396, 397, 398, 399, 400, 401, 402, 403, 404, 405, 406, 407, 408, 409, 410, 411, 412, 413] (by decide +kernel) (by decide +kernel)
set_option maxRecDepth 20000 in
theorem gX8_readExtreme_X8_begin : GoodIn wsX8_readExtreme (wsV RX8 23 RX8 yX8_begin wsX8_begin) := goodIn_app (goodIn_of _ (by decide +kernel)) ggX8_readExtreme_X8_begin
set_option maxRecDepth 20000 in
theorem ggX8_readExtreme_X8_readInto : GoodIn wsX8_readExtreme wsX8_readInto := goodIn_r _ [103, 104, 105, 106, 107, 108, 99, 109, 110, 111, 112, 113, 114, 115, 116, 117, 9, 118, 1, 119, 120, 121, 122, 123, 124, 125, 126, 3, 12, 127, 128, 129, 130, 131, 95, 96, 97, 98, 13, 11, 132, 133, 134, 135, 136, 137, 138, 139, 140, 141, 142, 143, 144, 145, 146, 147, 17, 148, 22, 49, 149, 150, 151, 152, 153, 154, 155, 156, 157, 158, 159, 160, 161, 162, 41, 163, 164, 165, 166, 167, 168, 169, 170, 171, 172, 173, 174, 175, 176, 177, 178, 179, 180, 181, 182, 183, 184, 185, 186, 187, 188, 189, 190, 191, 192, 193, 194, 195, 196, 197, 24, 198, 199, 200, 201, 202, 203, 204, 390, 391, 392, 393, 394, 395, 396, 397, 398, 399, 400, 401, 402, 403, 404, 414, 415, 416, 417, 418, 419, 420, 421, 422, 423, 424, 425, 426, 427, 428, 429, 405, 406, 407, 408, 409, 410, 411, 412, 413] (by decide +kernel) (by decide +kernel)
set_option maxRecDepth 20000 in
theorem gX8_readExtreme_X8_readInto : GoodIn wsX8_readExtreme (wsV RX8 49 RX8 yX8_readInto wsX8_readInto) := goodIn_app (goodIn_of _ (by decide +kernel)) ggX8_readExtreme_X8_readInto
set_option maxRecDepth 20000 in
theorem ggX8_readExtreme_X8_expectEnd : GoodIn wsX8_readExtreme wsX8_expectEnd := goodIn_r _ [208, 1, 123, 124, 125, 9, 126, 3, 99, 12, 390, 391, 392, 393, 394, 395, 396, 397, 398, 399, 400, 401, 402, 403, 404] (by decide +kernel) (by decide +kernel)
set_option maxRecDepth 20000 in
theorem gX8_readExtreme_X8_expectEnd : GoodIn wsX8_readExtreme (wsV RX8 59 RX8 yX8_expectEnd wsX8_expectEnd) := goodIn_app (goodIn_of _ (by decide +kernel)) ggX8_readExtreme_X8_expectEnd
theorem dX8_readExtreme_0 : decode cX8_readExtreme 0 = .ok (.aload_n 0, 1) := by decide +kernel
theorem dX8_readExtreme_1 : decode cX8_readExtreme 1 = .ok (.aload_n 1, 1) := by decide +kernel
theorem dX8_readExtreme_2 : decode cX8_readExtreme 2 = .ok (.iconst 0, 1) := by decide +kernel
theorem dX8_readExtreme_3 : decode cX8_readExtreme 3 = .ok (.iload_n 2, 1) := by decide +kernel
theorem dX8_readExtreme_4 : decode cX8_readExtreme 4 = .ok (.invokevirtual 23, 3) := by decide +kernel
theorem dX8_readExtreme_7 : decode cX8_readExtreme 7 = .ok (.aload_n 0, 1) := by decide +kernel
theorem dX8_readExtreme_8 : decode cX8_readExtreme 8 = .ok (.bipush 25, 2) := by decide +kernel
theorem dX8_readExtreme_10 : decode cX8_readExtreme 10 = .ok (.invokevirtual 49, 3) := by decide +kernel
theorem dX8_readExtreme_13 : decode cX8_readExtreme 13 = .ok (.aload_n 0, 1) := by decide +kernel
theorem dX8_readExtreme_14 : decode cX8_readExtreme 14 = .ok (.aload_n 0, 1) := by decide +kernel
theorem dX8_readExtreme_15 : decode cX8_readExtreme 15 = .ok (.getfield 39, 3) := by decide +kernel
theorem dX8_readExtreme_18 : decode cX8_readExtreme 18 = .ok (.bipush 34, 2) := by decide +kernel
theorem dX8_readExtreme_20 : decode cX8_readExtreme 20 = .ok (.if_icmp .ne 7, 3) := by decide +kernel
theorem dX8_readExtreme_27 : decode cX8_readExtreme 27 = .ok (.iconst 0, 1) := by decide +kernel
theorem dX8_readExtreme_28 : decode cX8_readExtreme 28 = .ok (.putfield 101, 3) := by decide +kernel
theorem dX8_readExtreme_31 : decode cX8_readExtreme 31 = .ok (.aload_n 0, 1) := by decide +kernel
theorem dX8_readExtreme_32 : decode cX8_readExtreme 32 = .ok (.getfield 101, 3) := by decide +kernel
theorem dX8_readExtreme_35 : decode cX8_readExtreme 35 = .ok (.ifCond .eq 13, 3) := by decide +kernel
theorem dX8_readExtreme_48 : decode cX8_readExtreme 48 = .ok (.aload_n 0, 1) := by decide +kernel
theorem dX8_readExtreme_49 : decode cX8_readExtreme 49 = .ok (.invokevirtual 59, 3) := by decide +kernel
theorem dX8_readExtreme_52 : decode cX8_readExtreme 52 = .ok (.aload_n 0, 1) := by decide +kernel
theorem dX8_readExtreme_53 : decode cX8_readExtreme 53 = .ok (.getfield 62, 3) := by decide +kernel
theorem dX8_readExtreme_56 : decode cX8_readExtreme 56 = .ok (.ifCond .ne 38, 3) := by decide +kernel
theorem dX8_readExtreme_94 : decode cX8_readExtreme 94 = .ok (.aload_n 0, 1) := by decide +kernel
theorem dX8_readExtreme_95 : decode cX8_readExtreme 95 = .ok (.getfield 62, 3) := by decide +kernel
theorem dX8_readExtreme_98 : decode cX8_readExtreme 98 = .ok (.ifCond .ne 25, 3) := by decide +kernel
theorem dX8_readExtreme_123 : decode cX8_readExtreme 123 = .ok (.aload_n 0, 1) := by decide +kernel
theorem dX8_readExtreme_124 : decode cX8_readExtreme 124 = .ok (.getfield 62, 3) := by decide +kernel
theorem dX8_readExtreme_127 : decode cX8_readExtreme 127 = .ok (.ifCond .ne 7, 3) := by decide +kernel
theorem dX8_readExtreme_134 : decode cX8_readExtreme 134 = .ok (.iconst 0, 1) := by decide +kernel
theorem dX8_readExtreme_135 : decode cX8_readExtreme 135 = .ok (.ireturn, 1) := by decide +kernel
set_option maxRecDepth 20000 in
theorem ggX8_readInto_X8_term : GoodIn wsX8_readInto wsX8_term := goodIn_r _ [17, 18, 19, 20, 21, 16, 22, 2, 4, 5, 1, 23, 24, 25, 26, 27, 6, 28, 29, 30, 31, 10, 32, 33, 34, 35, 36, 37, 38, 39, 40, 41, 42, 43, 44, 45, 46, 3, 47, 48, 49, 50, 51, 52, 13, 14, 15, 53, 54, 55, 56, 57, 58, 59, 60, 61, 62, 63, 64, 65, 66, 67, 68, 69, 70, 71, 72, 73, 74, 75, 76, 77, 78, 79, 80, 81, 82, 83, 84, 85, 86, 87, 88, 89, 90, 91, 92, 93, 118, 119, 120, 121, 122, 123, 124, 125, 126, 127, 128, 129, 130, 131, 132, 133, 134, 135, 136, 137, 138, 139, 140, 141, 142, 143, 144, 145, 146, 147, 148, 149, 150, 151, 152, 153, 154, 155, 156, 157] (by decide +kernel) (by decide +kernel)
set_option maxRecDepth 20000 in
theorem gX8_readInto_X8_term : GoodIn wsX8_readInto (wsV RX8 176 RX8 yX8_term wsX8_term) := goodIn_app (goodIn_of _ (by decide +kernel)) ggX8_readInto_X8_term
theorem dX8_readInto_40 : decode cX8_readInto 40 = .ok (.aload_n 0, 1) := by decide +kernel
theorem dX8_readInto_41 : decode cX8_readInto 41 = .ok (.invokevirtual 176, 3) := by decide +kernel
theorem dX8_readInto_44 : decode cX8_readInto 44 = .ok (.goto 7, 3) := by decide +kernel
set_option maxRecDepth 20000 in
theorem ggX11_value_X0_isTold : GoodIn wsX11_value wsX0_isTold := goodIn_r _ [8, 9, 30, 31, 32, 33, 34, 35, 36, 37, 38, 39, 40, 41, 42, 43, 44, 45, 46, 47, 48] (by decide +kernel) (by decide +kernel)
set_option maxRecDepth 20000 in
theorem gX11_value_X0_isTold : GoodIn wsX11_value (wsV RX11 309 RX0 yX0_isTold wsX0_isTold) := goodIn_app (goodIn_of _ (by decide +kernel)) ggX11_value_X0_isTold
theorem dX11_value_0 : decode cX11_value 0 = .ok (.aload_n 0, 1) := by decide +kernel
theorem dX11_value_1 : decode cX11_value 1 = .ok (.getfield 64, 3) := by decide +kernel
theorem dX11_value_4 : decode cX11_value 4 = .ok (.iload_n 1, 1) := by decide +kernel
theorem dX11_value_5 : decode cX11_value 5 = .ok (.invokevirtual 309, 3) := by decide +kernel
theorem dX11_value_8 : decode cX11_value 8 = .ok (.ifCond .ne 14, 3) := by decide +kernel
theorem dX11_value_11 : decode cX11_value 11 = .ok (.new 197, 3) := by decide +kernel
theorem dX11_value_14 : decode cX11_value 14 = .ok (.dup, 1) := by decide +kernel
theorem dX11_value_15 : decode cX11_value 15 = .ok (.ldc_w 312, 3) := by decide +kernel
theorem dX11_value_18 : decode cX11_value 18 = .ok (.invokespecial 201, 3) := by decide +kernel
theorem dX11_value_21 : decode cX11_value 21 = .ok (.athrow, 1) := by decide +kernel
theorem dX11_height_0 : decode cX11_height 0 = .ok (.aload_n 0, 1) := by decide +kernel
theorem dX11_height_1 : decode cX11_height 1 = .ok (.getfield 64, 3) := by decide +kernel
theorem dX11_height_4 : decode cX11_height 4 = .ok (.getfield 318, 3) := by decide +kernel
theorem dX11_height_7 : decode cX11_height 7 = .ok (.ireturn, 1) := by decide +kernel
set_option maxRecDepth 20000 in
theorem ggX11_extreme_X11_useTape : GoodIn wsX11_extreme wsX11_useTape := goodIn_r _ [13, 14, 546, 547, 548, 549, 550, 551, 552, 553, 554, 555, 556, 557, 558, 559, 560] (by decide +kernel) (by decide +kernel)
set_option maxRecDepth 20000 in
theorem gX11_extreme_X11_useTape : GoodIn wsX11_extreme (wsV RX11 230 RX11 yX11_useTape wsX11_useTape) := goodIn_app (goodIn_of _ (by decide +kernel)) ggX11_extreme_X11_useTape
set_option maxRecDepth 20000 in
theorem ggX11_extreme_X8_readExtreme : GoodIn wsX11_extreme wsX8_readExtreme := goodIn_r _ [19, 20, 21, 22, 23, 24, 25, 26, 27, 18, 28, 29, 30, 31, 32, 33, 34, 35, 36, 37, 38, 39, 40, 41, 42, 43, 44, 45, 46, 47, 48, 49, 50, 51, 52, 53, 54, 55, 56, 57, 58, 59, 60, 61, 62, 63, 64, 65, 66, 67, 68, 69, 70, 71, 72, 73, 74, 75, 76, 77, 78, 79, 80, 81, 82, 83, 84, 85, 86, 87, 88, 89, 90, 91, 92, 93, 94, 95, 96, 97, 98, 99, 100, 101, 102, 103, 104, 105, 106, 107, 108, 109, 110, 111, 112, 113, 114, 115, 116, 117, 118, 119, 120, 121, 122, 123, 124, 125, 126, 127, 128, 129, 130, 131, 132, 133, 134, 135, 136, 137, 138, 139, 140, 141, 142, 143, 144, 145, 146, 147, 148, 149, 150, 151, 152, 153, 154, 155, 156, 157, 158, 159, 160, 161, 162, 163, 164, 165, 166, 167, 168, 169, 170, 171, 172, 173, 174, 175, 176, 177, 178, 179, 180, 181, 182, 183, 184, 185, 186, 187, 188, 189, 190, 191, 192, 193, 194, 195, 196, 197, 198, 199, 200, 201, 202, 203, 204, 205, 206, 207, 208, 209, 210, 211, 212, 213, 214, 215, 216, 12, 217, 218, 219, 220, 221, 222, 223, 224, 225, 226, 227, 228, 229, 230, 231, 232, 233, 234, 235, 236, 237, 238, 239, 240, 241, 242, 243, 244, 245, 246, 247, 248, 249, 250, 251, 252, 253, 254, 255, 256, 257, 258, 259, 260, 261, 262, 263, 264, 265, 266, 267, 268, 269, 270, 271, 272, 273, 274, 275, 276, 277, 278, 279, 280, 281, 282, 283, 284, 285, 286, 287, 288, 289, 290, 291, 292, 293, 294, 295, 296, 297, 298, 299, 300, 301, 302, 303, 304, 305, 306, 307, 308, 309, 310, 311, 312, 313, 314, 315, 316, 317, 318, 319, 320, 321, 322, 323, 324, 325, 326, 327, 328, 329, 330, 331, 332, 333, 334, 335, 336, 337, 338, 339, 340, 341, 342, 343, 344, 345, 346, 347, 348, 349, 350, 351, 352, 353, 354, 355, 356, 357, 358, 359, 360, 361, 362, 363, 364, 365, 366, 367, 368, 369, 370, 371, 372, 373, 374, 375, 376, 377, 378, 379, 380, 381, 382, 383, 384, 385, 386, 387, 388, 389, 390, 391, 392, 393, 394, 395, 396, 397, 398, 399, 400, 401, 402, 403, 404, 405, 406, 586, 587, 588, 589, 590, 591, 592, 593, 594, 595, 596, 597, 598, 599, 600, 611, 612, 613, 614, 615, 616, 617, 618, 619, 570, 571, 572, 573, 574, 575, 576, 577, 578, 579, 580, 581, 582, 583, 584, 585, 601, 602, 603, 604, 605, 606, 607, 608, 609, 610] (by decide +kernel) (by decide +kernel)
set_option maxRecDepth 20000 in
theorem gX11_extreme_X8_readExtreme : GoodIn wsX11_extreme (wsV RX11 321 RX8 yX8_readExtreme wsX8_readExtreme) := goodIn_app (goodIn_of _ (by decide +kernel)) ggX11_extreme_X8_readExtreme
set_option maxRecDepth 20000 in
theorem ggX11_extreme_X11_faulted : GoodIn wsX11_extreme wsX11_faulted := goodIn_r _ [410, 3, 411, 546, 547, 548, 549, 550, 551, 552, 553, 554, 555, 556, 557, 558, 559, 560, 586, 587, 588, 589, 590, 591, 592, 593, 594, 595, 596, 597, 598, 599, 600] (by decide +kernel) (by decide +kernel)
set_option maxRecDepth 20000 in
theorem gX11_extreme_X11_faulted : GoodIn wsX11_extreme (wsV RX11 236 RX11 yX11_faulted wsX11_faulted) := goodIn_app (goodIn_of _ (by decide +kernel)) ggX11_extreme_X11_faulted
theorem dX11_extreme_0 : decode cX11_extreme 0 = .ok (.aload_n 0, 1) := by decide +kernel
theorem dX11_extreme_1 : decode cX11_extreme 1 = .ok (.getfield 16, 3) := by decide +kernel
theorem dX11_extreme_4 : decode cX11_extreme 4 = .ok (.getfield 122, 3) := by decide +kernel
theorem dX11_extreme_7 : decode cX11_extreme 7 = .ok (.ifCond .eq 6, 3) := by decide +kernel
theorem dX11_extreme_13 : decode cX11_extreme 13 = .ok (.aload_n 0, 1) := by decide +kernel
theorem dX11_extreme_14 : decode cX11_extreme 14 = .ok (.getfield 23, 3) := by decide +kernel
theorem dX11_extreme_17 : decode cX11_extreme 17 = .ok (.getfield 233, 3) := by decide +kernel
theorem dX11_extreme_20 : decode cX11_extreme 20 = .ok (.istore_n 2, 1) := by decide +kernel
theorem dX11_extreme_21 : decode cX11_extreme 21 = .ok (.aload_n 0, 1) := by decide +kernel
theorem dX11_extreme_22 : decode cX11_extreme 22 = .ok (.getfield 48, 3) := by decide +kernel
theorem dX11_extreme_25 : decode cX11_extreme 25 = .ok (.aload_n 0, 1) := by decide +kernel
theorem dX11_extreme_26 : decode cX11_extreme 26 = .ok (.getfield 9, 3) := by decide +kernel
theorem dX11_extreme_29 : decode cX11_extreme 29 = .ok (.aload_n 0, 1) := by decide +kernel
theorem dX11_extreme_30 : decode cX11_extreme 30 = .ok (.invokevirtual 230, 3) := by decide +kernel
theorem dX11_extreme_33 : decode cX11_extreme 33 = .ok (.invokevirtual 321, 3) := by decide +kernel
theorem dX11_extreme_36 : decode cX11_extreme 36 = .ok (.ifCond .ne 11, 3) := by decide +kernel
theorem dX11_extreme_39 : decode cX11_extreme 39 = .ok (.aload_n 0, 1) := by decide +kernel
theorem dX11_extreme_40 : decode cX11_extreme 40 = .ok (.invokevirtual 236, 3) := by decide +kernel
theorem dX11_extreme_43 : decode cX11_extreme 43 = .ok (.istore_n 3, 1) := by decide +kernel
theorem dX11_extreme_44 : decode cX11_extreme 44 = .ok (.goto 71, 3) := by decide +kernel
theorem dX11_extreme_115 : decode cX11_extreme 115 = .ok (.aload_n 0, 1) := by decide +kernel
theorem dX11_extreme_116 : decode cX11_extreme 116 = .ok (.getfield 23, 3) := by decide +kernel
theorem dX11_extreme_119 : decode cX11_extreme 119 = .ok (.iload_n 2, 1) := by decide +kernel
theorem dX11_extreme_120 : decode cX11_extreme 120 = .ok (.putfield 233, 3) := by decide +kernel
theorem dX11_extreme_123 : decode cX11_extreme 123 = .ok (.iload_n 3, 1) := by decide +kernel
theorem dX11_extreme_124 : decode cX11_extreme 124 = .ok (.ireturn, 1) := by decide +kernel
theorem dX11_number_0 : decode cX11_number 0 = .ok (.aload_n 0, 1) := by decide +kernel
theorem dX11_number_1 : decode cX11_number 1 = .ok (.getfield 64, 3) := by decide +kernel
theorem dX11_number_4 : decode cX11_number 4 = .ok (.getfield 335, 3) := by decide +kernel
theorem dX11_number_7 : decode cX11_number 7 = .ok (.lreturn, 1) := by decide +kernel
theorem dX12_openTerm_0 : decode cX12_openTerm 0 = .ok (.aload_n 0, 1) := by decide +kernel
theorem dX12_openTerm_1 : decode cX12_openTerm 1 = .ok (.dup, 1) := by decide +kernel
theorem dX12_openTerm_2 : decode cX12_openTerm 2 = .ok (.getfield 642, 3) := by decide +kernel
theorem dX12_openTerm_5 : decode cX12_openTerm 5 = .ok (.iconst 1, 1) := by decide +kernel
theorem dX12_openTerm_6 : decode cX12_openTerm 6 = .ok (.iadd, 1) := by decide +kernel
theorem dX12_openTerm_7 : decode cX12_openTerm 7 = .ok (.putfield 642, 3) := by decide +kernel
theorem dX12_openTerm_10 : decode cX12_openTerm 10 = .ok (.aload_n 0, 1) := by decide +kernel
theorem dX12_openTerm_11 : decode cX12_openTerm 11 = .ok (.getfield 208, 3) := by decide +kernel
theorem dX12_openTerm_14 : decode cX12_openTerm 14 = .ok (.aload_n 0, 1) := by decide +kernel
theorem dX12_openTerm_15 : decode cX12_openTerm 15 = .ok (.getfield 642, 3) := by decide +kernel
theorem dX12_openTerm_18 : decode cX12_openTerm 18 = .ok (.iload_n 1, 1) := by decide +kernel
theorem dX12_openTerm_19 : decode cX12_openTerm 19 = .ok (.iastore, 1) := by decide +kernel
theorem dX12_openTerm_20 : decode cX12_openTerm 20 = .ok (.aload_n 0, 1) := by decide +kernel
theorem dX12_openTerm_21 : decode cX12_openTerm 21 = .ok (.getfield 211, 3) := by decide +kernel
theorem dX12_openTerm_24 : decode cX12_openTerm 24 = .ok (.aload_n 0, 1) := by decide +kernel
theorem dX12_openTerm_25 : decode cX12_openTerm 25 = .ok (.getfield 642, 3) := by decide +kernel
theorem dX12_openTerm_28 : decode cX12_openTerm 28 = .ok (.iconst (-1), 1) := by decide +kernel
theorem dX12_openTerm_29 : decode cX12_openTerm 29 = .ok (.iastore, 1) := by decide +kernel
theorem dX12_openTerm_30 : decode cX12_openTerm 30 = .ok (.aload_n 0, 1) := by decide +kernel
theorem dX12_openTerm_31 : decode cX12_openTerm 31 = .ok (.getfield 217, 3) := by decide +kernel
theorem dX12_openTerm_34 : decode cX12_openTerm 34 = .ok (.aload_n 0, 1) := by decide +kernel
theorem dX12_openTerm_35 : decode cX12_openTerm 35 = .ok (.getfield 642, 3) := by decide +kernel
theorem dX12_openTerm_38 : decode cX12_openTerm 38 = .ok (.iconst 1, 1) := by decide +kernel
theorem dX12_openTerm_39 : decode cX12_openTerm 39 = .ok (.iastore, 1) := by decide +kernel
theorem dX12_openTerm_40 : decode cX12_openTerm 40 = .ok (.aload_n 0, 1) := by decide +kernel
theorem dX12_openTerm_41 : decode cX12_openTerm 41 = .ok (.getfield 220, 3) := by decide +kernel
theorem dX12_openTerm_44 : decode cX12_openTerm 44 = .ok (.aload_n 0, 1) := by decide +kernel
theorem dX12_openTerm_45 : decode cX12_openTerm 45 = .ok (.getfield 642, 3) := by decide +kernel
theorem dX12_openTerm_48 : decode cX12_openTerm 48 = .ok (.lconst 1, 1) := by decide +kernel
theorem dX12_openTerm_49 : decode cX12_openTerm 49 = .ok (.lastore, 1) := by decide +kernel
theorem dX12_openTerm_50 : decode cX12_openTerm 50 = .ok (.aload_n 0, 1) := by decide +kernel
theorem dX12_openTerm_51 : decode cX12_openTerm 51 = .ok (.getfield 223, 3) := by decide +kernel
theorem dX12_openTerm_54 : decode cX12_openTerm 54 = .ok (.aload_n 0, 1) := by decide +kernel
theorem dX12_openTerm_55 : decode cX12_openTerm 55 = .ok (.getfield 642, 3) := by decide +kernel
theorem dX12_openTerm_58 : decode cX12_openTerm 58 = .ok (.iconst (-1), 1) := by decide +kernel
theorem dX12_openTerm_59 : decode cX12_openTerm 59 = .ok (.iastore, 1) := by decide +kernel
theorem dX12_openTerm_60 : decode cX12_openTerm 60 = .ok (.return_, 1) := by decide +kernel
set_option maxRecDepth 20000 in
theorem ggX12_readTerm_X12_openTerm : GoodIn wsX12_readTerm wsX12_openTerm := goodIn_r _ [10, 2, 11, 12, 13, 14, 15, 133, 134, 135, 136, 137, 138, 139, 140, 141, 142, 143, 144, 145, 146, 147, 148, 149, 150, 151, 152, 153, 154, 155, 156, 157, 158, 159, 160, 161, 162, 163, 164, 165, 166, 167, 168, 169, 170, 171, 172, 173, 174, 175, 176, 177, 178, 179, 180, 181, 182, 183, 184, 185, 186, 187, 188, 189, 190, 191, 192, 193, 194, 195, 196, 197, 198, 199, 200, 201, 202, 203, 204, 205, 206, 207, 208, 209, 210, 211, 212, 213, 214, 215, 216, 217, 218, 219, 220, 221, 222, 223, 224, 225, 226, 227, 228, 229, 230, 231, 232, 233, 234, 235, 236, 237, 238, 239, 240, 241, 242, 243, 244, 245, 246, 247, 248, 249, 250, 251, 252, 253, 254, 255, 256, 257, 258, 259, 260, 261, 262, 263, 264, 265, 266, 267, 268, 269, 270, 271, 272, 273, 274, 275, 276, 277, 278, 279, 280, 281, 282, 283, 284, 285, 286, 287, 288, 289, 290, 291, 292, 293, 294, 295, 296, 297, 298, 299, 300, 301, 302, 303, 304, 305, 306, 307, 308, 309, 310, 311, 312, 313, 314, 315, 316, 317, 318, 319, 320, 321, 322, 323, 324, 325, 326, 327] (by decide +kernel) (by decide +kernel)
set_option maxRecDepth 20000 in
theorem gX12_readTerm_X12_openTerm : GoodIn wsX12_readTerm (wsV RX12 663 RX12 yX12_openTerm wsX12_openTerm) := goodIn_app (goodIn_of _ (by decide +kernel)) ggX12_readTerm_X12_openTerm
set_option maxRecDepth 20000 in
theorem ggX12_readTerm_X12_readInTerm : GoodIn wsX12_readTerm wsX12_readInTerm := goodIn_r _ [19, 3, 13, 2, 14, 20, 21, 22, 4, 23, 24, 25, 9, 26, 27, 28, 29, 30, 31, 32, 33, 34, 35, 36, 37, 38, 39, 40, 41, 42, 43, 44, 45, 46, 47, 48, 49, 50, 51, 52, 12, 53, 54, 55, 56, 57, 58, 59, 60, 61, 62, 63, 64, 65, 66, 67, 68, 69, 70, 71, 72, 73, 74, 75, 76, 77, 78, 79, 80, 81, 82, 83, 84, 85, 86, 87, 88, 6, 7, 8, 10, 11, 15, 89, 90, 91, 92, 93, 94, 95, 96, 97, 98, 99, 5, 100, 101, 102, 103, 104, 105, 106, 107, 108, 109, 110, 111, 112, 113, 114, 115, 116, 117, 118, 119, 120, 121, 122, 123, 124, 125, 1, 126, 127, 128, 129, 130, 131, 132, 133, 134, 135, 136, 137, 138, 139, 140, 141, 142, 143, 144, 145, 146, 147, 148, 149, 150, 151, 152, 153, 154, 155, 156, 157, 158, 159, 160, 161, 162, 163, 164, 165, 166, 167, 168, 169, 170, 171, 172, 173, 174, 175, 176, 177, 178, 179, 180, 181, 182, 183, 184, 185, 186, 187, 188, 189, 190, 191, 192, 193, 194, 195, 196, 197, 198, 199, 200, 201, 202, 203, 204, 205, 206, 207, 208, 209, 210, 211, 212, 213, 214, 215, 216, 217, 218, 219, 220, 221, 222, 223, 224, 225, 226, 227, 228, 229, 230, 231, 232, 233, 234, 235, 236, 237, 238, 239, 240, 241, 242, 243, 244, 245, 246, 247, 248, 249, 250, 251, 252, 253, 254, 255, 256, 257, 258, 259, 260, 261, 262, 263, 264, 265, 266, 267, 268, 269, 270, 271, 272, 273, 274, 275, 276, 277, 278, 279, 280, 281, 282, 283, 284, 285, 286, 287, 288, 289, 290, 291, 292, 293, 294, 295, 296, 297, 298, 299, 300, 301, 302, 303, 304, 305, 306, 307, 308, 309, 310, 311, 312, 313, 314, 315, 316, 317, 318, 319, 320, 321, 322, 323, 324, 325, 326, 327] (by decide +kernel) (by decide +kernel)
set_option maxRecDepth 20000 in
theorem gX12_readTerm_X12_readInTerm : GoodIn wsX12_readTerm (wsV RX12 657 RX12 yX12_readInTerm wsX12_readInTerm) := goodIn_app (goodIn_of _ (by decide +kernel)) ggX12_readTerm_X12_readInTerm
theorem dX12_readTerm_0 : decode cX12_readTerm 0 = .ok (.aload_n 0, 1) := by decide +kernel
theorem dX12_readTerm_1 : decode cX12_readTerm 1 = .ok (.iconst (-1), 1) := by decide +kernel
theorem dX12_readTerm_2 : decode cX12_readTerm 2 = .ok (.putfield 639, 3) := by decide +kernel
theorem dX12_readTerm_5 : decode cX12_readTerm 5 = .ok (.aload_n 0, 1) := by decide +kernel
theorem dX12_readTerm_6 : decode cX12_readTerm 6 = .ok (.iconst (-1), 1) := by decide +kernel
theorem dX12_readTerm_7 : decode cX12_readTerm 7 = .ok (.putfield 642, 3) := by decide +kernel
theorem dX12_readTerm_10 : decode cX12_readTerm 10 = .ok (.aload_n 0, 1) := by decide +kernel
theorem dX12_readTerm_11 : decode cX12_readTerm 11 = .ok (.bipush 33, 2) := by decide +kernel
theorem dX12_readTerm_13 : decode cX12_readTerm 13 = .ok (.invokevirtual 663, 3) := by decide +kernel
theorem dX12_readTerm_16 : decode cX12_readTerm 16 = .ok (.aload_n 0, 1) := by decide +kernel
theorem dX12_readTerm_17 : decode cX12_readTerm 17 = .ok (.iconst 3, 1) := by decide +kernel
theorem dX12_readTerm_18 : decode cX12_readTerm 18 = .ok (.putfield 648, 3) := by decide +kernel
theorem dX12_readTerm_21 : decode cX12_readTerm 21 = .ok (.aload_n 0, 1) := by decide +kernel
theorem dX12_readTerm_22 : decode cX12_readTerm 22 = .ok (.getfield 562, 3) := by decide +kernel
theorem dX12_readTerm_25 : decode cX12_readTerm 25 = .ok (.ifCond .ne 19, 3) := by decide +kernel
theorem dX12_readTerm_28 : decode cX12_readTerm 28 = .ok (.aload_n 0, 1) := by decide +kernel
theorem dX12_readTerm_29 : decode cX12_readTerm 29 = .ok (.getfield 648, 3) := by decide +kernel
theorem dX12_readTerm_32 : decode cX12_readTerm 32 = .ok (.bipush 7, 2) := by decide +kernel
theorem dX12_readTerm_34 : decode cX12_readTerm 34 = .ok (.if_icmp .eq 10, 3) := by decide +kernel
theorem dX12_readTerm_37 : decode cX12_readTerm 37 = .ok (.aload_n 0, 1) := by decide +kernel
theorem dX12_readTerm_38 : decode cX12_readTerm 38 = .ok (.invokevirtual 657, 3) := by decide +kernel
theorem dX12_readTerm_41 : decode cX12_readTerm 41 = .ok (.goto (-20), 3) := by decide +kernel
theorem dX12_readTerm_44 : decode cX12_readTerm 44 = .ok (.aload_n 0, 1) := by decide +kernel
theorem dX12_readTerm_45 : decode cX12_readTerm 45 = .ok (.getfield 660, 3) := by decide +kernel
theorem dX12_readTerm_48 : decode cX12_readTerm 48 = .ok (.ireturn, 1) := by decide +kernel
set_option maxRecDepth 20000 in
theorem ggX12_readInTerm_X12_isSign : GoodIn wsX12_readInTerm wsX12_isSign := goodIn_r _ [13, 5, 6, 7, 129, 130, 131, 132, 133, 134, 135, 136, 137, 138, 139, 140, 141, 142, 143, 144, 145, 146, 147, 148, 149, 150, 151, 152, 153, 154, 155, 156, 157, 158, 159, 160, 161, 162, 163, 164, 165, 166, 167, 168, 169, 170, 171, 172, 173, 174, 175, 176, 177, 178, 179, 180, 181, 182, 183, 184, 185, 186, 187, 188, 189, 190, 191, 192, 193, 194, 195, 196, 197, 198, 199, 200, 201, 202, 203, 204, 205, 206, 207, 208, 209, 210, 211, 212, 213, 214, 215, 216, 217, 218, 219, 220, 221, 222, 223, 224, 225, 226, 227, 228, 229, 230, 231, 232, 233, 234, 235, 236, 237, 238, 239, 240, 241, 242, 243, 244, 245, 246, 247, 248, 249, 250, 251, 252, 253, 254, 255, 256, 257, 258, 259, 260, 261, 262, 263, 264, 265, 266, 267, 268, 269, 270, 271, 272, 273, 274, 275, 276, 277, 278, 279, 280, 281, 282, 283, 284, 285, 286, 287, 288, 289, 290, 291, 292, 293, 294, 295, 296, 297, 298, 299, 300, 301, 302, 303, 304, 305, 306, 307, 308, 309, 310, 311, 312, 313, 314, 315, 316, 317, 318, 319, 320, 321, 322, 323] (by decide +kernel) (by decide +kernel)
set_option maxRecDepth 20000 in
theorem gX12_readInTerm_X12_isSign : GoodIn wsX12_readInTerm (wsV RX12 672 RX12 yX12_isSign wsX12_isSign) := goodIn_app (goodIn_of _ (by decide +kernel)) ggX12_readInTerm_X12_isSign
set_option maxRecDepth 20000 in
theorem ggX12_readInTerm_X12_readAtom : GoodIn wsX12_readInTerm wsX12_readAtom := goodIn_r _ [45, 5, 6, 1, 19, 7, 46, 47, 8, 48, 49, 50, 12, 51, 52, 53, 54, 55, 56, 57, 21, 58, 23, 24, 14, 15, 16, 17, 18, 20, 22, 25, 26, 27, 28, 29, 30, 59, 60, 61, 62, 63, 64, 65, 66, 31, 32, 33, 34, 35, 36, 2, 3, 37, 4, 38, 39, 40, 41, 67, 68, 69, 70, 71, 9, 10, 11, 13, 72, 73, 74, 75, 76, 77, 78, 79, 80, 81, 82, 83, 84, 85, 86, 87, 88, 89, 129, 130, 131, 132, 133, 134, 135, 136, 137, 138, 139, 140, 141, 142, 143, 144, 145, 146, 147, 148, 149, 150, 151, 152, 153, 154, 155, 156, 157, 158, 159, 160, 161, 162, 163, 164, 165, 166, 167, 168, 169, 170, 171, 172, 173, 174, 175, 176, 177, 178, 179, 180, 181, 182, 183, 184, 185, 186, 187, 188, 189, 190, 191, 192, 193, 194, 195, 196, 197, 198, 199, 200, 201, 202, 203, 204, 205, 206, 207, 208, 209, 210, 211, 212, 213, 214, 215, 216, 217, 218, 219, 220, 221, 222, 223, 224, 225, 226, 227, 228, 229, 230, 231, 232, 233, 234, 235, 236, 237, 238, 239, 240, 241, 242, 243, 244, 245, 246, 247, 248, 249, 250, 251, 252, 253, 254, 255, 256, 257, 258, 259, 260, 261, 262, 263, 264, 265, 266, 267, 268, 269, 270, 271, 272, 273, 274, 275, 276, 277, 278, 279, 280, 281, 282, 283, 284, 285, 286, 287, 288, 289, 290, 291, 292, 293, 294, 295, 296, 297, 298, 299, 300, 301, 302, 303, 304, 305, 306, 307, 308, 309, 310, 311, 312, 313, 314, 315, 316, 317, 318, 319, 320, 321, 322, 323] (by decide +kernel) (by decide +kernel)
set_option maxRecDepth 20000 in
theorem gX12_readInTerm_X12_readAtom : GoodIn wsX12_readInTerm (wsV RX12 709 RX12 yX12_readAtom wsX12_readAtom) := goodIn_app (goodIn_of _ (by decide +kernel)) ggX12_readInTerm_X12_readAtom
theorem dX12_readInTerm_0 : decode cX12_readInTerm 0 = .ok (.aload_n 0, 1) := by decide +kernel
theorem dX12_readInTerm_1 : decode cX12_readInTerm 1 = .ok (.getfield 648, 3) := by decide +kernel
theorem dX12_readInTerm_4 : decode cX12_readInTerm 4 = .ok (.iconst 3, 1) := by decide +kernel
theorem dX12_readInTerm_5 : decode cX12_readInTerm 5 = .ok (.if_icmp .ne 47, 3) := by decide +kernel
theorem dX12_readInTerm_8 : decode cX12_readInTerm 8 = .ok (.aload_n 0, 1) := by decide +kernel
theorem dX12_readInTerm_9 : decode cX12_readInTerm 9 = .ok (.getfield 217, 3) := by decide +kernel
theorem dX12_readInTerm_12 : decode cX12_readInTerm 12 = .ok (.aload_n 0, 1) := by decide +kernel
theorem dX12_readInTerm_13 : decode cX12_readInTerm 13 = .ok (.getfield 642, 3) := by decide +kernel
theorem dX12_readInTerm_16 : decode cX12_readInTerm 16 = .ok (.aload_n 0, 1) := by decide +kernel
theorem dX12_readInTerm_17 : decode cX12_readInTerm 17 = .ok (.bipush 9, 2) := by decide +kernel
theorem dX12_readInTerm_19 : decode cX12_readInTerm 19 = .ok (.invokevirtual 672, 3) := by decide +kernel
theorem dX12_readInTerm_22 : decode cX12_readInTerm 22 = .ok (.ifCond .eq 7, 3) := by decide +kernel
theorem dX12_readInTerm_29 : decode cX12_readInTerm 29 = .ok (.iconst 1, 1) := by decide +kernel
theorem dX12_readInTerm_30 : decode cX12_readInTerm 30 = .ok (.iastore, 1) := by decide +kernel
theorem dX12_readInTerm_31 : decode cX12_readInTerm 31 = .ok (.aload_n 0, 1) := by decide +kernel
theorem dX12_readInTerm_32 : decode cX12_readInTerm 32 = .ok (.bipush 9, 2) := by decide +kernel
theorem dX12_readInTerm_34 : decode cX12_readInTerm 34 = .ok (.invokevirtual 672, 3) := by decide +kernel
theorem dX12_readInTerm_37 : decode cX12_readInTerm 37 = .ok (.ifCond .eq 7, 3) := by decide +kernel
theorem dX12_readInTerm_44 : decode cX12_readInTerm 44 = .ok (.aload_n 0, 1) := by decide +kernel
theorem dX12_readInTerm_45 : decode cX12_readInTerm 45 = .ok (.iconst 4, 1) := by decide +kernel
theorem dX12_readInTerm_46 : decode cX12_readInTerm 46 = .ok (.putfield 648, 3) := by decide +kernel
theorem dX12_readInTerm_49 : decode cX12_readInTerm 49 = .ok (.goto 171, 3) := by decide +kernel
theorem dX12_readInTerm_52 : decode cX12_readInTerm 52 = .ok (.aload_n 0, 1) := by decide +kernel
theorem dX12_readInTerm_53 : decode cX12_readInTerm 53 = .ok (.getfield 648, 3) := by decide +kernel
theorem dX12_readInTerm_56 : decode cX12_readInTerm 56 = .ok (.iconst 4, 1) := by decide +kernel
theorem dX12_readInTerm_57 : decode cX12_readInTerm 57 = .ok (.if_icmp .ne 91, 3) := by decide +kernel
theorem dX12_readInTerm_60 : decode cX12_readInTerm 60 = .ok (.aload_n 0, 1) := by decide +kernel
theorem dX12_readInTerm_61 : decode cX12_readInTerm 61 = .ok (.getfield 220, 3) := by decide +kernel
theorem dX12_readInTerm_64 : decode cX12_readInTerm 64 = .ok (.aload_n 0, 1) := by decide +kernel
theorem dX12_readInTerm_65 : decode cX12_readInTerm 65 = .ok (.getfield 642, 3) := by decide +kernel
theorem dX12_readInTerm_68 : decode cX12_readInTerm 68 = .ok (.lconst 1, 1) := by decide +kernel
theorem dX12_readInTerm_69 : decode cX12_readInTerm 69 = .ok (.lastore, 1) := by decide +kernel
theorem dX12_readInTerm_70 : decode cX12_readInTerm 70 = .ok (.aload_n 0, 1) := by decide +kernel
theorem dX12_readInTerm_71 : decode cX12_readInTerm 71 = .ok (.iconst 5, 1) := by decide +kernel
theorem dX12_readInTerm_72 : decode cX12_readInTerm 72 = .ok (.putfield 648, 3) := by decide +kernel
theorem dX12_readInTerm_75 : decode cX12_readInTerm 75 = .ok (.aload_n 0, 1) := by decide +kernel
theorem dX12_readInTerm_76 : decode cX12_readInTerm 76 = .ok (.getfield 87, 3) := by decide +kernel
theorem dX12_readInTerm_79 : decode cX12_readInTerm 79 = .ok (.aload_n 0, 1) := by decide +kernel
theorem dX12_readInTerm_80 : decode cX12_readInTerm 80 = .ok (.getfield 597, 3) := by decide +kernel
theorem dX12_readInTerm_83 : decode cX12_readInTerm 83 = .ok (.iaload, 1) := by decide +kernel
theorem dX12_readInTerm_84 : decode cX12_readInTerm 84 = .ok (.iconst 2, 1) := by decide +kernel
theorem dX12_readInTerm_85 : decode cX12_readInTerm 85 = .ok (.if_icmp .ne 135, 3) := by decide +kernel
theorem dX12_readInTerm_148 : decode cX12_readInTerm 148 = .ok (.aload_n 0, 1) := by decide +kernel
theorem dX12_readInTerm_149 : decode cX12_readInTerm 149 = .ok (.getfield 648, 3) := by decide +kernel
theorem dX12_readInTerm_152 : decode cX12_readInTerm 152 = .ok (.iconst 5, 1) := by decide +kernel
theorem dX12_readInTerm_153 : decode cX12_readInTerm 153 = .ok (.if_icmp .ne 10, 3) := by decide +kernel
theorem dX12_readInTerm_156 : decode cX12_readInTerm 156 = .ok (.aload_n 0, 1) := by decide +kernel
theorem dX12_readInTerm_157 : decode cX12_readInTerm 157 = .ok (.invokevirtual 709, 3) := by decide +kernel
theorem dX12_readInTerm_160 : decode cX12_readInTerm 160 = .ok (.goto 60, 3) := by decide +kernel
theorem dX12_readInTerm_220 : decode cX12_readInTerm 220 = .ok (.return_, 1) := by decide +kernel
set_option maxRecDepth 20000 in
theorem ggX12_readAtom_X12_isSign : GoodIn wsX12_readAtom wsX12_isSign := goodIn_r _ [67, 1, 2, 5, 86, 87, 88, 89, 90, 91, 92, 93, 94, 95, 96, 97, 98, 99, 100, 101, 102, 103, 104, 105, 106, 107, 108, 109, 110, 111, 112, 113, 114, 115, 116, 117, 118, 119, 120, 121, 122, 123, 124, 125, 126, 127, 128, 129, 130, 131, 132, 133, 134, 135, 136, 137, 138, 139, 140, 141, 142, 143, 144, 145, 146, 147, 148, 149, 150, 151, 152, 153, 154, 155, 156, 157, 158, 159, 160, 161, 162, 163, 164, 165, 166, 167, 168, 169, 170, 171, 172, 173, 174, 175, 176, 177, 178, 179, 180, 181, 182, 183, 184, 185, 186, 187, 188, 189, 190, 191, 192, 193, 194, 195, 196, 197, 198, 199, 200, 201, 202, 203, 204, 205, 206, 207, 208, 209, 210, 211, 212, 213, 214, 215, 216, 217, 218, 219, 220, 221, 222, 223, 224, 225, 226, 227, 228, 229, 230, 231, 232, 233, 234, 235, 236, 237, 238, 239, 240, 241, 242, 243, 244, 245, 246, 247, 248, 249, 250, 251, 252, 253, 254, 255, 256, 257, 258, 259, 260, 261, 262, 263, 264, 265, 266, 267, 268, 269, 270, 271, 272, 273, 274, 275, 276, 277, 278, 279, 280] (by decide +kernel) (by decide +kernel)
set_option maxRecDepth 20000 in
theorem gX12_readAtom_X12_isSign : GoodIn wsX12_readAtom (wsV RX12 672 RX12 yX12_isSign wsX12_isSign) := goodIn_app (goodIn_of _ (by decide +kernel)) ggX12_readAtom_X12_isSign
set_option maxRecDepth 20000 in
theorem ggX12_readAtom_X12_cannot : GoodIn wsX12_readAtom wsX12_cannot := goodIn_r _ [85, 1, 2, 31, 32, 33, 12, 34, 8, 35, 23, 36, 86, 87, 88, 89, 90, 91, 92, 93, 94, 95, 96, 97, 98, 99, 100, 101, 102, 103, 104, 105, 106, 107, 108, 109, 110, 111, 112, 113, 114, 115, 116, 117, 118, 119, 120, 121, 122, 123, 124, 125, 126, 127, 128, 129, 130, 131, 132, 133, 134, 135, 136, 137, 138, 139, 140, 141, 142, 143, 144, 145, 146, 147, 148, 149, 150, 151, 152, 153, 154, 155, 156, 157, 158, 159, 160, 161, 162, 163, 164, 165, 166, 167, 168, 169, 170, 171, 172, 173, 174, 175, 176, 177, 178, 179, 180, 181, 182, 183, 184, 185, 186, 187, 188, 189, 190, 191, 192, 193, 194, 195, 196, 197, 198, 199, 200, 201, 202, 203, 204, 205, 206, 207, 208, 209, 210, 211, 212, 213, 214, 215, 216, 217, 218, 219, 220, 221, 222, 223, 224, 225, 226, 227, 228, 229, 230, 231, 232, 233, 234, 235, 236, 237, 238, 239, 240, 241, 242, 243, 244, 245, 246, 247, 248, 249, 250, 251, 252, 253, 254, 255, 256, 257, 258, 259, 260, 261, 262, 263, 264, 265, 266, 267, 268, 269, 270, 271, 272, 273, 274, 275, 276, 277, 278, 279, 280] (by decide +kernel) (by decide +kernel)
set_option maxRecDepth 20000 in
theorem gX12_readAtom_X12_cannot : GoodIn wsX12_readAtom (wsV RX12 698 RX12 yX12_cannot wsX12_cannot) := goodIn_app (goodIn_of _ (by decide +kernel)) ggX12_readAtom_X12_cannot
theorem dX12_readAtom_0 : decode cX12_readAtom 0 = .ok (.aload_n 0, 1) := by decide +kernel
theorem dX12_readAtom_1 : decode cX12_readAtom 1 = .ok (.getfield 87, 3) := by decide +kernel
theorem dX12_readAtom_4 : decode cX12_readAtom 4 = .ok (.aload_n 0, 1) := by decide +kernel
theorem dX12_readAtom_5 : decode cX12_readAtom 5 = .ok (.getfield 597, 3) := by decide +kernel
theorem dX12_readAtom_8 : decode cX12_readAtom 8 = .ok (.iaload, 1) := by decide +kernel
theorem dX12_readAtom_9 : decode cX12_readAtom 9 = .ok (.iconst 3, 1) := by decide +kernel
theorem dX12_readAtom_10 : decode cX12_readAtom 10 = .ok (.if_icmp .ne 14, 3) := by decide +kernel
theorem dX12_readAtom_24 : decode cX12_readAtom 24 = .ok (.iconst (-1), 1) := by decide +kernel
theorem dX12_readAtom_25 : decode cX12_readAtom 25 = .ok (.istore_n 1, 1) := by decide +kernel
theorem dX12_readAtom_26 : decode cX12_readAtom 26 = .ok (.iload_n 1, 1) := by decide +kernel
theorem dX12_readAtom_27 : decode cX12_readAtom 27 = .ok (.iconst (-1), 1) := by decide +kernel
theorem dX12_readAtom_28 : decode cX12_readAtom 28 = .ok (.if_icmp .eq 28, 3) := by decide +kernel
theorem dX12_readAtom_56 : decode cX12_readAtom 56 = .ok (.aload_n 0, 1) := by decide +kernel
theorem dX12_readAtom_57 : decode cX12_readAtom 57 = .ok (.getfield 87, 3) := by decide +kernel
theorem dX12_readAtom_60 : decode cX12_readAtom 60 = .ok (.aload_n 0, 1) := by decide +kernel
theorem dX12_readAtom_61 : decode cX12_readAtom 61 = .ok (.getfield 597, 3) := by decide +kernel
theorem dX12_readAtom_64 : decode cX12_readAtom 64 = .ok (.iaload, 1) := by decide +kernel
theorem dX12_readAtom_65 : decode cX12_readAtom 65 = .ok (.iconst 3, 1) := by decide +kernel
theorem dX12_readAtom_66 : decode cX12_readAtom 66 = .ok (.if_icmp .ne 31, 3) := by decide +kernel
theorem dX12_readAtom_97 : decode cX12_readAtom 97 = .ok (.aload_n 0, 1) := by decide +kernel
theorem dX12_readAtom_98 : decode cX12_readAtom 98 = .ok (.iconst 3, 1) := by decide +kernel
theorem dX12_readAtom_99 : decode cX12_readAtom 99 = .ok (.invokevirtual 672, 3) := by decide +kernel
theorem dX12_readAtom_102 : decode cX12_readAtom 102 = .ok (.ifCond .eq 21, 3) := by decide +kernel
theorem dX12_readAtom_123 : decode cX12_readAtom 123 = .ok (.aload_n 0, 1) := by decide +kernel
theorem dX12_readAtom_124 : decode cX12_readAtom 124 = .ok (.getfield 630, 3) := by decide +kernel
theorem dX12_readAtom_127 : decode cX12_readAtom 127 = .ok (.bipush 25, 2) := by decide +kernel
theorem dX12_readAtom_129 : decode cX12_readAtom 129 = .ok (.if_icmp .eq 95, 3) := by decide +kernel
theorem dX12_readAtom_224 : decode cX12_readAtom 224 = .ok (.aload_n 0, 1) := by decide +kernel
theorem dX12_readAtom_225 : decode cX12_readAtom 225 = .ok (.invokevirtual 698, 3) := by decide +kernel
theorem dX12_readAtom_228 : decode cX12_readAtom 228 = .ok (.return_, 1) := by decide +kernel
theorem dX12_value_0 : decode cX12_value 0 = .ok (.aload_n 0, 1) := by decide +kernel
theorem dX12_value_1 : decode cX12_value 1 = .ok (.aload_n 0, 1) := by decide +kernel
theorem dX12_value_2 : decode cX12_value 2 = .ok (.getfield 355, 3) := by decide +kernel
theorem dX12_value_5 : decode cX12_value 5 = .ok (.iconst (-1), 1) := by decide +kernel
theorem dX12_value_6 : decode cX12_value 6 = .ok (.if_icmp .eq 23, 3) := by decide +kernel
theorem dX12_value_29 : decode cX12_value 29 = .ok (.iconst 1, 1) := by decide +kernel
theorem dX12_value_30 : decode cX12_value 30 = .ok (.putfield 3, 3) := by decide +kernel
theorem dX12_value_33 : decode cX12_value 33 = .ok (.aload_n 0, 1) := by decide +kernel
theorem dX12_value_34 : decode cX12_value 34 = .ok (.getfield 3, 3) := by decide +kernel
theorem dX12_value_37 : decode cX12_value 37 = .ok (.ifCond .le 7, 3) := by decide +kernel
theorem dX12_value_40 : decode cX12_value 40 = .ok (.lconst 0, 1) := by decide +kernel
theorem dX12_value_41 : decode cX12_value 41 = .ok (.goto 9, 3) := by decide +kernel
theorem dX12_value_50 : decode cX12_value 50 = .ok (.lreturn, 1) := by decide +kernel
theorem dX12_height_0 : decode cX12_height 0 = .ok (.aload_n 0, 1) := by decide +kernel
theorem dX12_height_1 : decode cX12_height 1 = .ok (.iconst 0, 1) := by decide +kernel
theorem dX12_height_2 : decode cX12_height 2 = .ok (.putfield 3, 3) := by decide +kernel
theorem dX12_height_5 : decode cX12_height 5 = .ok (.aload_n 0, 1) := by decide +kernel
theorem dX12_height_6 : decode cX12_height 6 = .ok (.getfield 355, 3) := by decide +kernel
theorem dX12_height_9 : decode cX12_height 9 = .ok (.ireturn, 1) := by decide +kernel
set_option maxRecDepth 20000 in
theorem ggX12_extreme_X12_asks : GoodIn wsX12_extreme wsX12_asks := goodIn_r _ [16, 17, 18, 510, 511, 512, 513, 514, 515, 516, 517, 518, 519, 520, 521, 522, 523, 524, 525, 526, 527, 528, 529, 530, 531, 532, 533, 534, 535, 536, 537, 538, 539, 540, 541, 542, 543, 544, 545, 546, 547, 548, 549, 550, 551, 552, 553, 554, 555, 556, 557, 558, 559, 560, 561, 562, 563, 564, 565, 566, 567, 568, 569, 570, 571, 572, 573, 574, 575, 576, 577, 578, 579, 580, 581, 582, 583, 584, 585, 586, 587, 588, 589, 590, 591, 592, 593, 594, 595, 596, 597, 598, 599, 600, 601, 602, 603, 604, 605, 606, 607, 608, 609, 610, 611, 612, 613, 614, 615, 616, 617, 618, 619, 620, 621, 622, 623, 624, 625, 626, 627, 628, 629, 630, 631, 632, 633, 634, 635, 636, 637, 638, 639, 640, 641, 642, 643, 644, 645, 646, 647, 648, 649, 650, 651, 652, 653, 654, 655, 656, 657, 658, 659, 660, 661, 662, 663, 664, 665, 666, 667, 668, 669, 670, 671, 672, 673, 674, 675, 676, 677, 678, 679, 680, 681, 682, 683, 684, 685, 686, 687, 688, 689, 690, 691, 692, 693, 694, 695, 696, 697, 698, 699, 700, 701, 702, 703, 704] (by decide +kernel) (by decide +kernel)
set_option maxRecDepth 20000 in
theorem gX12_extreme_X12_asks : GoodIn wsX12_extreme (wsV RX12 871 RX12 yX12_asks wsX12_asks) := goodIn_app (goodIn_of _ (by decide +kernel)) ggX12_extreme_X12_asks
set_option maxRecDepth 20000 in
theorem ggX12_extreme_X12_begin : GoodIn wsX12_extreme wsX12_begin := goodIn_r _ [22, 23, 24, 25, 26, 27, 28, 29, 15, 30, 31, 32, 33, 34, 35, 36, 37, 38, 39, 1, 2, 40, 41, 3, 42, 43, 44, 45, 46, 47, 48, 49, 50, 51, 52, 53, 54, 55, 56, 57, 58, 59, 60, 61, 62, 63, 64, 65, 66, 67, 68, 69, 70, 71, 72, 73, 74, 75, 76, 77, 78, 79, 80, 81, 82, 83, 84, 85, 86, 87, 88, 89, 90, 91, 92, 93, 94, 95, 96, 97, 98, 99, 100, 101, 102, 103, 104, 105, 106, 107, 108, 109, 110, 111, 112, 113, 114, 115, 116, 117, 118, 119, 120, 121, 510, 511, 512, 513, 514, 515, 516, 517, 518, 519, 520, 521, 522, 523, 524, 525, 526, 527, 528, 529, 530, 531, 532, 533, 534, 535, 536, 537, 538, 539, 540, 541, 542, 543, 544, 545, 546, 547, 548, 549, 550, 551, 552, 553, 554, 555, 556, 557, 558, 559, 560, 561, 562, 563, 564, 565, 566, 567, 568, 569, 570, 571, 572, 573, 574, 575, 576, 577, 578, 579, 580, 581, 582, 583, 584, 585, 586, 587, 588, 589, 590, 591, 592, 593, 594, 595, 596, 597, 598, 599, 600, 601, 602, 603, 604, 605, 606, 607, 608, 609, 610, 611, 612, 613, 614, 615, 616, 617, 618, 619, 620, 621, 622, 623, 624, 625, 626, 627, 628, 629, 630, 631, 632, 633, 634, 635, 636, 637, 638, 639, 640, 641, 642, 643, 644, 645, 646, 647, 648, 649, 650, 651, 652, 653, 654, 655, 656, 657, 658, 659, 660, 661, 662, 663, 664, 665, 666, 667, 668, 669, 670, 671, 672, 673, 674, 675, 676, 677, 678, 679, 680, 681, 682, 683, 684, 685, 686, 687, 688, 689, 690, 691, 692, 693, 694, 695, 696, 697, 698, 699, 700, 701, 702, 703, 704] (by decide +kernel) (by decide +kernel)
set_option maxRecDepth 20000 in
theorem gX12_extreme_X12_begin : GoodIn wsX12_extreme (wsV RX12 874 RX12 yX12_begin wsX12_begin) := goodIn_app (goodIn_of _ (by decide +kernel)) ggX12_extreme_X12_begin
set_option maxRecDepth 20000 in
theorem ggX12_extreme_X12_beginSlot : GoodIn wsX12_extreme wsX12_beginSlot := goodIn_r _ [125, 126, 127, 128, 129, 130, 131, 132, 510, 511, 512, 513, 514, 515, 516, 517, 518, 519, 520, 521, 522, 523, 524, 525, 526, 527, 528, 529, 530, 531, 532, 533, 534, 535, 536, 537, 538, 539, 540, 541, 542, 543, 544, 545, 546, 547, 548, 549, 550, 551, 552, 553, 554, 555, 556, 557, 558, 559, 560, 561, 562, 563, 564, 565, 566, 567, 568, 569, 570, 571, 572, 573, 574, 575, 576, 577, 578, 579, 580, 581, 582, 583, 584, 585, 586, 587, 588, 589, 590, 591, 592, 593, 594, 595, 596, 597, 598, 599, 600, 601, 602, 603, 604, 605, 606, 607, 608, 609, 610, 611, 612, 613, 614, 615, 616, 617, 618, 619, 620, 621, 622, 623, 624, 625, 626, 627, 628, 629, 630, 631, 632, 633, 634, 635, 636, 637, 638, 639, 640, 641, 642, 643, 644, 645, 646, 647, 648, 649, 650, 651, 652, 653, 654, 655, 656, 657, 658, 659, 660, 661, 662, 663, 664, 665, 666, 667, 668, 669, 670, 671, 672, 673, 674, 675, 676, 677, 678, 679, 680, 681, 682, 683, 684, 685, 686, 687, 688, 689, 690, 691, 692, 693, 694, 695, 696, 697, 698, 699, 700, 701, 702, 703, 704] (by decide +kernel) (by decide +kernel)
set_option maxRecDepth 20000 in
theorem gX12_extreme_X12_beginSlot : GoodIn wsX12_extreme (wsV RX12 842 RX12 yX12_beginSlot wsX12_beginSlot) := goodIn_app (goodIn_of _ (by decide +kernel)) ggX12_extreme_X12_beginSlot
set_option maxRecDepth 20000 in
theorem ggX12_extreme_X12_readTerm : GoodIn wsX12_extreme wsX12_readTerm := goodIn_r _ [136, 137, 138, 139, 1, 140, 141, 142, 143, 15, 144, 145, 146, 147, 148, 149, 150, 151, 152, 153, 3, 2, 42, 154, 155, 156, 157, 158, 159, 160, 161, 128, 126, 162, 41, 163, 33, 40, 164, 165, 166, 167, 168, 169, 170, 171, 172, 173, 132, 174, 175, 176, 177, 178, 179, 180, 181, 182, 183, 6, 184, 185, 186, 187, 24, 188, 189, 190, 191, 192, 193, 194, 195, 196, 197, 131, 198, 199, 200, 201, 202, 203, 204, 26, 205, 206, 207, 208, 127, 55, 56, 57, 209, 210, 211, 212, 213, 214, 215, 216, 217, 218, 219, 220, 130, 221, 222, 223, 224, 225, 226, 227, 228, 229, 230, 231, 129, 232, 233, 234, 235, 236, 237, 238, 239, 240, 241, 242, 243, 244, 245, 246, 247, 510, 511, 512, 513, 514, 515, 516, 517, 518, 519, 520, 521, 522, 523, 524, 525, 526, 527, 528, 529, 530, 531, 532, 533, 534, 535, 536, 537, 538, 539, 540, 541, 542, 543, 544, 545, 546, 547, 548, 549, 550, 551, 552, 553, 554, 555, 556, 557, 558, 559, 560, 561, 562, 563, 564, 565, 566, 567, 568, 569, 570, 571, 572, 573, 574, 575, 576, 577, 578, 579, 580, 581, 582, 583, 584, 585, 586, 587, 588, 589, 590, 591, 592, 593, 594, 595, 596, 597, 598, 599, 600, 601, 602, 603, 604, 605, 606, 607, 608, 609, 610, 611, 612, 613, 614, 615, 616, 617, 618, 619, 620, 621, 622, 623, 624, 625, 626, 627, 628, 629, 630, 631, 632, 633, 634, 635, 636, 637, 638, 639, 640, 641, 642, 643, 644, 645, 646, 647, 648, 649, 650, 651, 652, 653, 654, 655, 656, 657, 658, 659, 660, 661, 662, 663, 664, 665, 666, 667, 668, 669, 670, 671, 672, 673, 674, 675, 676, 677, 678, 679, 680, 681, 682, 683, 684, 685, 686, 687, 688, 689, 690, 691, 692, 693, 694, 695, 696, 697, 698, 699, 700, 701, 702, 703, 704] (by decide +kernel) (by decide +kernel)
set_option maxRecDepth 20000 in
theorem gX12_extreme_X12_readTerm : GoodIn wsX12_extreme (wsV RX12 1020 RX12 yX12_readTerm wsX12_readTerm) := goodIn_app (goodIn_of _ (by decide +kernel)) ggX12_extreme_X12_readTerm
set_option maxRecDepth 20000 in
theorem ggX12_extreme_X12_told : GoodIn wsX12_extreme wsX12_told := goodIn_r _ [376, 377, 378, 168, 169, 510, 511, 512, 513, 514, 515, 516, 517, 518, 519, 520, 521, 522, 523, 524, 525, 526, 527, 528, 529, 530, 531, 532, 533, 534, 535, 536, 537, 538, 539, 540, 541, 542, 543, 544, 545, 546, 547, 548, 549, 550, 551, 552, 553, 554, 555, 556, 557, 558, 559, 560, 561, 562, 563, 564, 565, 566, 567, 568, 569, 570, 571, 572, 573, 574, 575, 576, 577, 578, 579, 580, 581, 582, 583, 584, 585, 586, 587, 588, 589, 590, 591, 592, 593, 594, 595, 596, 597, 598, 599, 600, 601, 602, 603, 604, 605, 606, 607, 608, 609, 610, 611, 612, 613, 614, 615, 616, 617, 618, 619, 620, 621, 622, 623, 624, 625, 626, 627, 628, 629, 630, 631, 632, 633, 634, 635, 636, 637, 638, 639, 640, 641, 642, 643, 644, 645, 646, 647, 648, 649, 650, 651, 652, 653, 654, 655, 656, 657, 658, 659, 660, 661, 662, 663, 664, 665, 666, 667, 668, 669, 670, 671, 672, 673, 674, 675, 676, 677, 678, 679, 680, 681, 682, 683, 684, 685, 686, 687, 688, 689, 690, 691, 692, 693, 694, 695, 696, 697, 698, 699, 700, 701, 702, 703, 704] (by decide +kernel) (by decide +kernel)
set_option maxRecDepth 20000 in
theorem gX12_extreme_X12_told : GoodIn wsX12_extreme (wsV RX12 860 RX12 yX12_told wsX12_told) := goodIn_app (goodIn_of _ (by decide +kernel)) ggX12_extreme_X12_told
theorem dX12_extreme_0 : decode cX12_extreme 0 = .ok (.aload_n 0, 1) := by decide +kernel
theorem dX12_extreme_1 : decode cX12_extreme 1 = .ok (.invokevirtual 871, 3) := by decide +kernel
theorem dX12_extreme_4 : decode cX12_extreme 4 = .ok (.ifCond .ne 6, 3) := by decide +kernel
theorem dX12_extreme_10 : decode cX12_extreme 10 = .ok (.aload_n 0, 1) := by decide +kernel
theorem dX12_extreme_11 : decode cX12_extreme 11 = .ok (.invokevirtual 874, 3) := by decide +kernel
theorem dX12_extreme_14 : decode cX12_extreme 14 = .ok (.aload_n 0, 1) := by decide +kernel
theorem dX12_extreme_15 : decode cX12_extreme 15 = .ok (.bipush 25, 2) := by decide +kernel
theorem dX12_extreme_17 : decode cX12_extreme 17 = .ok (.invokevirtual 842, 3) := by decide +kernel
theorem dX12_extreme_20 : decode cX12_extreme 20 = .ok (.aload_n 0, 1) := by decide +kernel
theorem dX12_extreme_21 : decode cX12_extreme 21 = .ok (.invokevirtual 1020, 3) := by decide +kernel
theorem dX12_extreme_24 : decode cX12_extreme 24 = .ok (.istore_n 2, 1) := by decide +kernel
theorem dX12_extreme_25 : decode cX12_extreme 25 = .ok (.aload_n 0, 1) := by decide +kernel
theorem dX12_extreme_26 : decode cX12_extreme 26 = .ok (.getfield 562, 3) := by decide +kernel
theorem dX12_extreme_29 : decode cX12_extreme 29 = .ok (.ifCond .ne 16, 3) := by decide +kernel
theorem dX12_extreme_45 : decode cX12_extreme 45 = .ok (.iconst 0, 1) := by decide +kernel
theorem dX12_extreme_46 : decode cX12_extreme 46 = .ok (.istore_n 3, 1) := by decide +kernel
theorem dX12_extreme_47 : decode cX12_extreme 47 = .ok (.iconst 0, 1) := by decide +kernel
theorem dX12_extreme_48 : decode cX12_extreme 48 = .ok (.istore 4, 2) := by decide +kernel
theorem dX12_extreme_50 : decode cX12_extreme 50 = .ok (.iload_n 3, 1) := by decide +kernel
theorem dX12_extreme_51 : decode cX12_extreme 51 = .ok (.ifCond .eq 28, 3) := by decide +kernel
theorem dX12_extreme_79 : decode cX12_extreme 79 = .ok (.aload_n 0, 1) := by decide +kernel
theorem dX12_extreme_80 : decode cX12_extreme 80 = .ok (.getfield 562, 3) := by decide +kernel
theorem dX12_extreme_83 : decode cX12_extreme 83 = .ok (.ifCond .ne 19, 3) := by decide +kernel
theorem dX12_extreme_102 : decode cX12_extreme 102 = .ok (.aload_n 0, 1) := by decide +kernel
theorem dX12_extreme_103 : decode cX12_extreme 103 = .ok (.getfield 562, 3) := by decide +kernel
theorem dX12_extreme_106 : decode cX12_extreme 106 = .ok (.ifCond .ne 17, 3) := by decide +kernel
theorem dX12_extreme_123 : decode cX12_extreme 123 = .ok (.aload_n 0, 1) := by decide +kernel
theorem dX12_extreme_124 : decode cX12_extreme 124 = .ok (.invokevirtual 860, 3) := by decide +kernel
theorem dX12_extreme_127 : decode cX12_extreme 127 = .ok (.ireturn, 1) := by decide +kernel
theorem dX12_number_0 : decode cX12_number 0 = .ok (.aload_n 0, 1) := by decide +kernel
theorem dX12_number_1 : decode cX12_number 1 = .ok (.iconst 0, 1) := by decide +kernel
theorem dX12_number_2 : decode cX12_number 2 = .ok (.putfield 3, 3) := by decide +kernel
theorem dX12_number_5 : decode cX12_number 5 = .ok (.aload_n 0, 1) := by decide +kernel
theorem dX12_number_6 : decode cX12_number 6 = .ok (.getfield 1030, 3) := by decide +kernel
theorem dX12_number_9 : decode cX12_number 9 = .ok (.lreturn, 1) := by decide +kernel
set_option maxRecDepth 20000 in
theorem ggL_value_X11_value : GoodIn wsL_value wsX11_value := goodIn_ca (goodIn_r _ [6, 7, 8, 9, 10, 11, 12, 13, 14, 15, 16, 17, 18, 19, 20, 21, 22, 23, 24, 25, 26, 27, 28, 29, 30, 31, 32, 33, 34, 35, 36, 37, 38, 39, 40, 41, 42, 43, 44, 45, 46, 47, 48, 49, 50, 51, 52, 53, 54] (by decide +kernel) (by decide +kernel)) (goodIn_sub (fun _ h => List.mem_cons_of_mem _ (List.mem_append_right _ h)) (by decide +kernel))
set_option maxRecDepth 20000 in
theorem gL_value_X11_value : GoodIn wsL_value (wsV RL 31 RX11 yX11_value wsX11_value) := goodIn_app (goodIn_of _ (by decide +kernel)) ggL_value_X11_value
theorem dL_value_0 : decode cL_value 0 = .ok (.aload_n 2, 1) := by decide +kernel
theorem dL_value_1 : decode cL_value 1 = .ok (.iconst 0, 1) := by decide +kernel
theorem dL_value_2 : decode cL_value 2 = .ok (.aload_n 0, 1) := by decide +kernel
theorem dL_value_3 : decode cL_value 3 = .ok (.iload_n 1, 1) := by decide +kernel
theorem dL_value_4 : decode cL_value 4 = .ok (.invokevirtual 31, 3) := by decide +kernel
theorem dL_value_11 : decode cL_value 11 = .ok (.astore_n 3, 1) := by decide +kernel
theorem dL_value_12 : decode cL_value 12 = .ok (.iconst 1, 1) := by decide +kernel
theorem dL_value_13 : decode cL_value 13 = .ok (.ireturn, 1) := by decide +kernel
set_option maxHeartbeats 400000000 in
set_option maxRecDepth 100000 in
theorem c_X0_isTold_0 (l : Launch) (E : kE) (D : va_G) (cI cJ cB cZ : ClassId) (h0 : Nat) (x0 : Int32) (f0 : List Value) (e0 : ¬ ((x0 : Int32) < 0)) (e1 : f0[11]? = some (.int 0)) : kI l E D (kT cI cJ cB cZ) yX0_isTold wsX0_isTold ({ frames := 0, cells := 0, slots := 0, locals := 0 }) [.ref h0, .int x0] [(h0, .inr (0, f0))] (0) [(h0, .inr (0, f0))] 0 0 := by
  intro sz
  refine Met.ofW (cc := cX0_isTold) (maxL := 2) (ret := (some .boolean)) (by decide) rfl ?_
  intro p e s m args below meth c s₁ B hml hv
  obtain ⟨rfl, hsz, hP, hK, hD0, hN, hX⟩ := hv
  have hx := B.exec
  have hb := B.bytes
  have hr := B.returns
  have hts := atoms_spec (ws := wsX0_isTold) B.pre
  have hown : s.vm.findClass RX0 = some m.cls := findClass_of_methodNamed B.named
  have hlocks := B.notSynchronized
  have hin0 : ∀ w ∈ wsX00, w ∈ wsX0_isTold := (fun w h => (List.mem_cons_of_mem _ (List.mem_append_right _ h)))
  subst hsz
  have hD := hD0.self (sz := s.heap.size)
  have hAE := k_AE hD0 hX
  generalize hAe : va_A [(h0, .inr (0, f0))] s.heap.size = A at hD hAE ⊢
  have hA : ∀ q : Nat, s.heap.size ≤ q → A q := fun q h => by rw [← hAe]; exact Or.inr h
  have hS : va_S A s.heap s.heap [] := va_S.rf
  have hP : va_P D vwCl [(h0, .inr (0, f0))] s.heap := hP
  have hl := lv_entry ([.ref h0, .int x0] : List Value) (n := 2) (Nat.le_of_ble_eq_true rfl)
  rw [lg_entry_eq]
  generalize (lg_sl ([.ref h0, .int x0]) ++ List.replicate (2 - (lg_sl ([.ref h0, .int x0])).length) Slot.unset).toArray = ls at hl ⊢
  have hl : lv_has ls 2 [(0, .ref h0), (1, .int x0)] := hl
  refine lv_iload_n hx hb dX0_isTold_0 rfl (lv_at hl 1 rfl) ?_
  refine lv_if_lt (tgt := 16) hx hb dX0_isTold_1 (by decide) (fun c9 => absurd c9 e0) (fun _ => ?_)
  refine lv_iload_n hx hb dX0_isTold_4 rfl (lv_at hl 1 rfl) ?_
  refine lv_aload_n hx hb dX0_isTold_5 rfl (lv_at hl 0 rfl) ?_
  refine va_get (D := D) (ref := "IntegerHouse$Answers") (ci := 0) (v := .int 0) (C := RX0) (T := TX0) (N := 19) hx hb hts hin0 hown hK hP 0 rfl rfl 11 (by decide) (hts (.fieldLink RX0 69 "IntegerHouse$Answers" "valuesTold" "I") (List.mem_cons_of_mem _ (List.mem_append_left _ (List.mem_of_getElem? (i := 0) rfl)))) (fun _ h9 => h9) e1 dX0_isTold_6 ?_
  refine lv_icmp_ge (tgt := 16) hx hb dX0_isTold_9 (by decide) (fun _ => ?_) (fun c9 => absurd ((k_n2 (x := x0) (c := 0)).mpr e0) c9)
  refine lv_iconst (v := 0) hx hb dX0_isTold_16 (by decide) ?_
  exact W.zret (v := 0) hx hb hr rfl (fun t ht hW => ⟨⟨0, (), rfl, rfl, kB_mk ht hW hP hK hD⟩, hS.F ht⟩) hS.2.2 dX0_isTold_17
set_option maxHeartbeats 400000000 in
set_option maxRecDepth 100000 in
theorem c_X11_value_0 (l : Launch) (E : kE) (D : va_G) (cI cJ cB cZ : ClassId) (h0 : Nat) (x0 : Int32) (f0 : List Value) (h1 : Nat) (f1 : List Value) (e0 : f0[7]? = some (.ref h1)) (e1 : f1[11]? = some (.int 0)) (e2 : ¬ ((x0 : Int32) < 0)) (hl9 : l.stackTraces = false) : kTJ l E D (kT cI cJ cB cZ) yX11_value wsX11_value ({ frames := 6, cells := 1, slots := 6, locals := 82 }) [.ref h0, .int x0] [(h0, .inr (11, f0)), (h1, .inr (0, f1))] "java/lang/IndexOutOfBoundsException" 1 6 := by
  intro sz
  refine vx_ofW (cc := cX11_value) (maxL := 2) (ret := (some .long)) (by decide) rfl ?_
  intro p e s m args below meth c s₁ B hml ht9 hv
  obtain ⟨rfl, hsz, hP, hK, hD0, hN, hX⟩ := hv
  have hx := B.exec
  have hb := B.bytes
  have hr := B.returns
  have hts := atoms_spec (ws := wsX11_value) B.pre
  have hown : s.vm.findClass RX11 = some m.cls := findClass_of_methodNamed B.named
  have hlocks := B.notSynchronized
  have hin11 : ∀ w ∈ wsX110, w ∈ wsX11_value := (fun w h => (List.mem_cons_of_mem _ (List.mem_append_left _ (List.mem_append_left _ (List.mem_append_right _ h)))))
  subst hsz
  have hD := hD0.self (sz := s.heap.size)
  have hAE := k_AE hD0 hX
  generalize hAe : va_A [(h0, .inr (11, f0)), (h1, .inr (0, f1))] s.heap.size = A at hD hAE ⊢
  have hA : ∀ q : Nat, s.heap.size ≤ q → A q := fun q h => by rw [← hAe]; exact Or.inr h
  have hS : va_S A s.heap s.heap [] := va_S.rf
  have hP : va_P D vwCl [(h0, .inr (11, f0)), (h1, .inr (0, f1))] s.heap := hP
  have hl := lv_entry ([.ref h0, .int x0] : List Value) (n := 2) (Nat.le_of_ble_eq_true rfl)
  rw [lg_entry_eq]
  generalize (lg_sl ([.ref h0, .int x0]) ++ List.replicate (2 - (lg_sl ([.ref h0, .int x0])).length) Slot.unset).toArray = ls at hl ⊢
  have hl : lv_has ls 2 [(0, .ref h0), (1, .int x0)] := hl
  refine lv_aload_n hx hb dX11_value_0 rfl (lv_at hl 0 rfl) ?_
  refine va_get (D := D) (ref := "IntegerHouse") (ci := 11) (v := .ref h1) (C := RX11) (T := TX11) (N := 15) hx hb hts hin11 hown hK hP 0 rfl rfl 7 (by decide) (hts (.fieldLink RX11 64 "IntegerHouse" "answers" "LIntegerHouse$Answers;") (List.mem_cons_of_mem _ (List.mem_append_left _ (List.mem_append_left _ (List.mem_append_left _ (List.mem_of_getElem? (i := 2) rfl)))))) (fun _ h9 => h9) e0 dX11_value_1 ?_
  refine lv_iload_n hx hb dX11_value_4 rfl (lv_at hl 1 rfl) ?_
  refine k_cVi (As := [.int x0]) (rest := []) (wc := [(h1, .inr (0, f1))]) (wr := [(h0, .inr (11, f0))]) (w1 := [(h1, .inr (0, f1))]) ⟨hx, hb, hml, hown, hts⟩ hN hX hAE hK hP hD hS hA [1] [0] (ci := 0) rfl rfl rfl rfl (by decide +kernel) (by decide +kernel) (by decide +kernel) (c_X0_isTold_0 l E D cI cJ cB cZ h1 x0 f1 e2 e1) (cwV 1 hts gX11_value_X0_isTold rfl rfl rfl (by decide +kernel) ⟨Nat.le_of_ble_eq_true rfl, Nat.le_of_ble_eq_true rfl⟩) rfl hl.1 (Nat.le_of_ble_eq_true rfl) dX11_value_5 ⟨Nat.le_of_ble_eq_true rfl, Nat.le_of_ble_eq_true rfl⟩ (fun H locs hP hD hS => ?_)
  have hP : va_P D vwCl [(h0, .inr (11, f0)), (h1, .inr (0, f1))] H := hP
  have hD : va_D A [(h0, .inr (11, f0)), (h1, .inr (0, f1))] := hD
  refine lv_if_ne (tgt := 22) hx hb dX11_value_8 (by decide) (fun c9 => absurd (by decide) c9) (fun _ => ?_)
  obtain ⟨a9, a9r, a9o⟩ := kX.st hX hAE ("IntegerHouse", 312, "no such value was told") (List.mem_of_getElem? (i := 6) rfl)
  exact vx_throwSW (names := ["java/lang/RuntimeException", "java/lang/Exception"]) (A := A) hx hb hl9 hown (by decide +kernel) (by decide +kernel) (hts (.classLink RX11 197 "java/lang/IndexOutOfBoundsException") (List.mem_cons_of_mem _ (List.mem_append_left _ (List.mem_append_left _ (List.mem_append_left _ (List.mem_of_getElem? (i := 0) rfl)))))) (hts (.initialized "java/lang/IndexOutOfBoundsException") (List.mem_cons_of_mem _ (List.mem_append_left _ (List.mem_append_left _ (List.mem_append_left _ (List.mem_of_getElem? (i := 1) rfl)))))) a9r (vx_hat (L := vx_atS RX11 201 "java/lang/IndexOutOfBoundsException" ["java/lang/RuntimeException", "java/lang/Exception"]) (B := [.castable "java/lang/IndexOutOfBoundsException" "java/lang/IndexOutOfBoundsException", .declares (Bundle.initS "java/lang/RuntimeException"), .declares (Bundle.initS "java/lang/Exception"), .declares (Bundle.initS "java/lang/Throwable")]) (fun w h => hts w (List.mem_cons_of_mem _ (List.mem_append_right _ h))) (by decide +kernel) (vx_c (va_Nw.use rfl (kX.cast hX "java/lang/IndexOutOfBoundsException" (by decide))) (vx_c (va_Nw.use rfl (kX.decl hX "java/lang/RuntimeException" (by decide))) (vx_c (va_Nw.use rfl (kX.decl hX "java/lang/Exception" (by decide))) (vx_c (va_Nw.use rfl (kX.decl hX "java/lang/Throwable" (by decide))) vx_n))))) (by decide +kernel) (kX.us hX hAE) (kX.ss hX hAE) hS (by rw [hml]; exact hl.1) dX11_value_11 dX11_value_14 dX11_value_15 dX11_value_18 dX11_value_21 (fun x hx => (ht9 x hx).elim) (Nat.le_of_ble_eq_true rfl) (Nat.le_of_ble_eq_true rfl) (Nat.le_of_ble_eq_true rfl) (Nat.le_of_ble_eq_true rfl) hlocks (fun t h1 h2 h3 => k_tx hP hK hD hS t h1 h2 h3) hS.2.2 (Nat.le_of_ble_eq_true rfl) (Nat.le_of_ble_eq_true rfl)
set_option maxHeartbeats 400000000 in
set_option maxRecDepth 100000 in
theorem c_L_value_0 (l : Launch) (E : kE) (D : va_G) (cI cJ cB cZ : ClassId) (h0 : Nat) (x0 : Int32) (h1 : Nat) (f0 : List Value) (h2 : Nat) (f1 : List Value) (e0 : f0[7]? = some (.ref h2)) (e1 : f1[11]? = some (.int 0)) (e2 : ¬ ((x0 : Int32) < 0)) (hl9 : l.stackTraces = false) : kI l E D (kT cI cJ cB cZ) yL_value wsL_value ({ frames := 7, cells := 1, slots := 6, locals := 103 }) [.ref h0, .int x0, .ref h1] [(h0, .inr (11, f0)), (h2, .inr (0, f1))] (1) [(h0, .inr (11, f0)), (h2, .inr (0, f1))] 1 6 := by
  intro sz
  refine k_metH (cc := cL_value) (maxL := 4) (ret := (some .int)) (hh := [(0, 8, 11, 25)]) (by decide) rfl ?_
  intro p e s m args below meth c s₁ B hml hv
  obtain ⟨rfl, hsz, hP, hK, hD0, hN, hX⟩ := hv
  have hx := B.exec
  have hb := B.bytes
  have hr := B.returns
  have hts := atoms_spec (ws := wsL_value) B.pre
  have hown : s.vm.findClass RL = some m.cls := findClass_of_methodNamed B.named
  have hlocks := B.notSynchronized
  subst hsz
  have hD := hD0.self (sz := s.heap.size)
  have hAE := k_AE hD0 hX
  generalize hAe : va_A [(h0, .inr (11, f0)), (h2, .inr (0, f1))] s.heap.size = A at hD hAE ⊢
  have hA : ∀ q : Nat, s.heap.size ≤ q → A q := fun q h => by rw [← hAe]; exact Or.inr h
  have hS : va_S A s.heap s.heap [] := va_S.rf
  have hP : va_P D vwCl [(h0, .inr (11, f0)), (h2, .inr (0, f1))] s.heap := hP
  have hl := lv_entry ([.ref h0, .int x0, .ref h1] : List Value) (n := 4) (Nat.le_of_ble_eq_true rfl)
  rw [lg_entry_eq]
  generalize (lg_sl ([.ref h0, .int x0, .ref h1]) ++ List.replicate (4 - (lg_sl ([.ref h0, .int x0, .ref h1])).length) Slot.unset).toArray = ls at hl ⊢
  have hl : lv_has ls 4 [(0, .ref h0), (1, .int x0), (2, .ref h1)] := hl
  refine lv_aload_n hx hb dL_value_0 rfl (lv_at hl 2 rfl) ?_
  refine lv_iconst (v := 0) hx hb dL_value_1 (by decide) ?_
  refine lv_aload_n hx hb dL_value_2 rfl (lv_at hl 0 rfl) ?_
  refine lv_iload_n hx hb dL_value_3 rfl (lv_at hl 1 rfl) ?_
  refine k_cTl (As := [.int x0]) (rest := [.int 0, .ref h1]) (wc := [(h0, .inr (11, f0)), (h2, .inr (0, f1))]) (wr := []) ⟨hx, hb, hml, hown, hts⟩ hN hX hAE hK hP hD hS hA [0, 1] [] (ci := 11) rfl rfl rfl rfl (by decide +kernel) (by decide +kernel) (by decide +kernel) (c_X11_value_0 l E D cI cJ cB cZ h0 x0 f0 h2 f1 e0 e1 e2 hl9) (cwV 1 hts gL_value_X11_value rfl rfl rfl (by decide +kernel) ⟨Nat.le_of_ble_eq_true rfl, Nat.le_of_ble_eq_true rfl⟩) rfl hl.1 (Nat.le_of_ble_eq_true rfl) dL_value_4 ⟨Nat.le_of_ble_eq_true rfl, Nat.le_of_ble_eq_true rfl⟩ (fun q9 ce H locs hP hD hS hce hcv hcl => ?_)
  have hP : va_P D vwCl [(h0, .inr (11, f0)), (h2, .inr (0, f1))] H := hP
  have hD : va_D A [(h0, .inr (11, f0)), (h2, .inr (0, f1))] := hD
  refine vx_catch (own := RL) (name := "java/lang/IndexOutOfBoundsException") hown [] ⟨0, 8, 11, 25⟩ [] (vx_table B (hts _ List.mem_cons_self)) (fun z hz => absurd hz List.not_mem_nil) (by decide) (by decide) (hts (.classLink RL 25 "java/lang/IndexOutOfBoundsException") (List.mem_cons_of_mem _ (List.mem_append_left _ (List.mem_append_left _ (List.mem_append_left _ (List.mem_of_getElem? (i := 0) rfl)))))) (va_Nw.use rfl (kX.cast hX "java/lang/IndexOutOfBoundsException" (by decide))) hce hcv hcl ?_
  refine W.eq (g2 := F0 m 11 ls [.ref q9]) rfl ?_
  refine W.widen (k := 1) (n := 6) (Nat.le_of_ble_eq_true rfl) (Nat.le_of_ble_eq_true rfl) ?_
  refine lv_astore_n (lv' := [(3, .ref q9), (0, .ref h0), (1, .int x0), (2, .ref h1)]) hx hb dL_value_11 rfl hl (by decide) rfl (fun ls hl => ?_)
  refine lv_iconst (v := 1) hx hb dL_value_12 (by decide) ?_
  exact W.iret (v := 1) hx hb hr (fun t ht hW => ⟨⟨1, (), rfl, rfl, kB_mk ht hW hP hK hD⟩, hS.F ht⟩) hS.2.2 dL_value_13
set_option maxHeartbeats 400000000 in
set_option maxRecDepth 100000 in
theorem c_X12_value_0 (l : Launch) (E : kE) (D : va_G) (cI cJ cB cZ : ClassId) (h0 : Nat) (x0 : Int32) (f0 : List Value) (e0 : f0[140]? = some (.int (-1))) (e1 : f0[0]? = some (.int 0)) : kJ l E D (kT cI cJ cB cZ) yX12_value wsX12_value ({ frames := 0, cells := 0, slots := 0, locals := 0 }) [.ref h0, .int x0] [(h0, .inr (12, f0))] (0) [(h0, .inr (12, (f0.set 0 (.int 1))))] 0 0 := by
  intro sz
  refine Met.ofW (cc := cX12_value) (maxL := 2) (ret := (some .long)) (by decide) rfl ?_
  intro p e s m args below meth c s₁ B hml hv
  obtain ⟨rfl, hsz, hP, hK, hD0, hN, hX⟩ := hv
  have hx := B.exec
  have hb := B.bytes
  have hr := B.returns
  have hts := atoms_spec (ws := wsX12_value) B.pre
  have hown : s.vm.findClass RX12 = some m.cls := findClass_of_methodNamed B.named
  have hlocks := B.notSynchronized
  have hin12 : ∀ w ∈ wsX120, w ∈ wsX12_value := (fun w h => (List.mem_cons_of_mem _ (List.mem_append_right _ h)))
  subst hsz
  have hD := hD0.self (sz := s.heap.size)
  have hAE := k_AE hD0 hX
  generalize hAe : va_A [(h0, .inr (12, f0))] s.heap.size = A at hD hAE ⊢
  have hA : ∀ q : Nat, s.heap.size ≤ q → A q := fun q h => by rw [← hAe]; exact Or.inr h
  have hS : va_S A s.heap s.heap [] := va_S.rf
  have hP : va_P D vwCl [(h0, .inr (12, f0))] s.heap := hP
  have hl := lv_entry ([.ref h0, .int x0] : List Value) (n := 2) (Nat.le_of_ble_eq_true rfl)
  rw [lg_entry_eq]
  generalize (lg_sl ([.ref h0, .int x0]) ++ List.replicate (2 - (lg_sl ([.ref h0, .int x0])).length) Slot.unset).toArray = ls at hl ⊢
  have hl : lv_has ls 2 [(0, .ref h0), (1, .int x0)] := hl
  refine lv_aload_n hx hb dX12_value_0 rfl (lv_at hl 0 rfl) ?_
  refine lv_aload_n hx hb dX12_value_1 rfl (lv_at hl 0 rfl) ?_
  refine va_get (D := D) (ref := "IntegerHouseModel") (ci := 12) (v := .int (-1)) (C := RX12) (T := TX12) (N := 195) hx hb hts hin12 hown hK hP 0 rfl rfl 140 (by decide) (hts (.fieldLink RX12 355 "IntegerHouseModel" "toldHeight" "I") (List.mem_cons_of_mem _ (List.mem_append_left _ (List.mem_of_getElem? (i := 0) rfl)))) (fun _ h9 => h9) e0 dX12_value_2 ?_
  refine lv_iconst (v := (-1)) hx hb dX12_value_5 (by decide) ?_
  refine lv_icmp_eq (tgt := 29) hx hb dX12_value_6 (by decide) (fun _ => ?_) (fun c9 => absurd (by decide) c9)
  refine lv_iconst (v := 1) hx hb dX12_value_29 (by decide) ?_
  refine va_put (D := D) (ref := "IntegerHouseModel") (ci := 12) (v := .int 1) (ty := .int) (C := RX12) (T := TX12) (N := 195) hx hb hts hin12 tyX12 tyX12_ok nmX12 hown hK hP hD hS 0 rfl rfl 0 (by decide) (hts (.fieldLink RX12 3 "IntegerHouseModel" "thrown" "I") (List.mem_cons_of_mem _ (List.mem_append_left _ (List.mem_of_getElem? (i := 2) rfl)))) (fun _ h9 => h9) rfl (by decide +kernel) rfl rfl (k_len e1) dX12_value_30 (fun H locs hP hD hS => ?_)
  have hP : va_P D vwCl [(h0, .inr (12, (f0.set 0 (.int 1))))] H := hP
  have hD : va_D A [(h0, .inr (12, (f0.set 0 (.int 1))))] := hD
  refine lv_aload_n hx hb dX12_value_33 rfl (lv_at hl 0 rfl) ?_
  refine va_get (D := D) (ref := "IntegerHouseModel") (ci := 12) (v := .int 1) (C := RX12) (T := TX12) (N := 195) hx hb hts hin12 hown hK hP 0 rfl rfl 0 (by decide) (hts (.fieldLink RX12 3 "IntegerHouseModel" "thrown" "I") (List.mem_cons_of_mem _ (List.mem_append_left _ (List.mem_of_getElem? (i := 2) rfl)))) (fun _ h9 => h9) (k_set e1) dX12_value_34 ?_
  refine lv_if_le (tgt := 44) hx hb dX12_value_37 (by decide) (fun c9 => absurd c9 (by decide)) (fun _ => ?_)
  refine lv_lconst (v := 0) hx hb dX12_value_40 (by decide) ?_
  refine lv_goto (tgt := 50) hx hb dX12_value_41 (by decide) ?_
  exact W.lret (v := 0) hx hb hr (fun t ht hW => ⟨⟨0, (), rfl, rfl, kB_mk ht hW hP hK hD⟩, hS.F ht⟩) hS.2.2 dX12_value_50
set_option maxHeartbeats 400000000 in
set_option maxRecDepth 100000 in
theorem c_X0_isTold_1 (l : Launch) (E : kE) (D : va_G) (cI cJ cB cZ : ClassId) (h0 : Nat) (x0 : Int32) (e0 : (x0 : Int32) < 0) : kI l E D (kT cI cJ cB cZ) yX0_isTold wsX0_isTold ({ frames := 0, cells := 0, slots := 0, locals := 0 }) [.ref h0, .int x0] [] (0) [] 0 0 := by
  intro sz
  refine Met.ofW (cc := cX0_isTold) (maxL := 2) (ret := (some .boolean)) (by decide) rfl ?_
  intro p e s m args below meth c s₁ B hml hv
  obtain ⟨rfl, hsz, hP, hK, hD0, hN, hX⟩ := hv
  have hx := B.exec
  have hb := B.bytes
  have hr := B.returns
  have hts := atoms_spec (ws := wsX0_isTold) B.pre
  have hown : s.vm.findClass RX0 = some m.cls := findClass_of_methodNamed B.named
  have hlocks := B.notSynchronized
  subst hsz
  have hD := hD0.self (sz := s.heap.size)
  have hAE := k_AE hD0 hX
  generalize hAe : va_A [] s.heap.size = A at hD hAE ⊢
  have hA : ∀ q : Nat, s.heap.size ≤ q → A q := fun q h => by rw [← hAe]; exact Or.inr h
  have hS : va_S A s.heap s.heap [] := va_S.rf
  have hP : va_P D vwCl [] s.heap := hP
  have hl := lv_entry ([.ref h0, .int x0] : List Value) (n := 2) (Nat.le_of_ble_eq_true rfl)
  rw [lg_entry_eq]
  generalize (lg_sl ([.ref h0, .int x0]) ++ List.replicate (2 - (lg_sl ([.ref h0, .int x0])).length) Slot.unset).toArray = ls at hl ⊢
  have hl : lv_has ls 2 [(0, .ref h0), (1, .int x0)] := hl
  refine lv_iload_n hx hb dX0_isTold_0 rfl (lv_at hl 1 rfl) ?_
  refine lv_if_lt (tgt := 16) hx hb dX0_isTold_1 (by decide) (fun _ => ?_) (fun c9 => absurd e0 c9)
  refine lv_iconst (v := 0) hx hb dX0_isTold_16 (by decide) ?_
  exact W.zret (v := 0) hx hb hr rfl (fun t ht hW => ⟨⟨0, (), rfl, rfl, kB_mk ht hW hP hK hD⟩, hS.F ht⟩) hS.2.2 dX0_isTold_17
set_option maxHeartbeats 400000000 in
set_option maxRecDepth 100000 in
theorem c_X11_value_1 (l : Launch) (E : kE) (D : va_G) (cI cJ cB cZ : ClassId) (h0 : Nat) (x0 : Int32) (f0 : List Value) (h1 : Nat) (e0 : f0[7]? = some (.ref h1)) (e1 : (x0 : Int32) < 0) (hl9 : l.stackTraces = false) : kTJ l E D (kT cI cJ cB cZ) yX11_value wsX11_value ({ frames := 6, cells := 1, slots := 6, locals := 82 }) [.ref h0, .int x0] [(h0, .inr (11, f0))] "java/lang/IndexOutOfBoundsException" 1 6 := by
  intro sz
  refine vx_ofW (cc := cX11_value) (maxL := 2) (ret := (some .long)) (by decide) rfl ?_
  intro p e s m args below meth c s₁ B hml ht9 hv
  obtain ⟨rfl, hsz, hP, hK, hD0, hN, hX⟩ := hv
  have hx := B.exec
  have hb := B.bytes
  have hr := B.returns
  have hts := atoms_spec (ws := wsX11_value) B.pre
  have hown : s.vm.findClass RX11 = some m.cls := findClass_of_methodNamed B.named
  have hlocks := B.notSynchronized
  have hin11 : ∀ w ∈ wsX110, w ∈ wsX11_value := (fun w h => (List.mem_cons_of_mem _ (List.mem_append_left _ (List.mem_append_left _ (List.mem_append_right _ h)))))
  subst hsz
  have hD := hD0.self (sz := s.heap.size)
  have hAE := k_AE hD0 hX
  generalize hAe : va_A [(h0, .inr (11, f0))] s.heap.size = A at hD hAE ⊢
  have hA : ∀ q : Nat, s.heap.size ≤ q → A q := fun q h => by rw [← hAe]; exact Or.inr h
  have hS : va_S A s.heap s.heap [] := va_S.rf
  have hP : va_P D vwCl [(h0, .inr (11, f0))] s.heap := hP
  have hl := lv_entry ([.ref h0, .int x0] : List Value) (n := 2) (Nat.le_of_ble_eq_true rfl)
  rw [lg_entry_eq]
  generalize (lg_sl ([.ref h0, .int x0]) ++ List.replicate (2 - (lg_sl ([.ref h0, .int x0])).length) Slot.unset).toArray = ls at hl ⊢
  have hl : lv_has ls 2 [(0, .ref h0), (1, .int x0)] := hl
  refine lv_aload_n hx hb dX11_value_0 rfl (lv_at hl 0 rfl) ?_
  refine va_get (D := D) (ref := "IntegerHouse") (ci := 11) (v := .ref h1) (C := RX11) (T := TX11) (N := 15) hx hb hts hin11 hown hK hP 0 rfl rfl 7 (by decide) (hts (.fieldLink RX11 64 "IntegerHouse" "answers" "LIntegerHouse$Answers;") (List.mem_cons_of_mem _ (List.mem_append_left _ (List.mem_append_left _ (List.mem_append_left _ (List.mem_of_getElem? (i := 2) rfl)))))) (fun _ h9 => h9) e0 dX11_value_1 ?_
  refine lv_iload_n hx hb dX11_value_4 rfl (lv_at hl 1 rfl) ?_
  refine k_cVi (As := [.int x0]) (rest := []) (wc := []) (wr := [(h0, .inr (11, f0))]) (w1 := []) ⟨hx, hb, hml, hown, hts⟩ hN hX hAE hK hP hD hS hA [] [0] (ci := 0) rfl rfl rfl rfl (by decide +kernel) (by decide +kernel) (by decide +kernel) (c_X0_isTold_1 l E D cI cJ cB cZ h1 x0 e1) (cwV 1 hts gX11_value_X0_isTold rfl rfl rfl (by decide +kernel) ⟨Nat.le_of_ble_eq_true rfl, Nat.le_of_ble_eq_true rfl⟩) rfl hl.1 (Nat.le_of_ble_eq_true rfl) dX11_value_5 ⟨Nat.le_of_ble_eq_true rfl, Nat.le_of_ble_eq_true rfl⟩ (fun H locs hP hD hS => ?_)
  have hP : va_P D vwCl [(h0, .inr (11, f0))] H := hP
  have hD : va_D A [(h0, .inr (11, f0))] := hD
  refine lv_if_ne (tgt := 22) hx hb dX11_value_8 (by decide) (fun c9 => absurd (by decide) c9) (fun _ => ?_)
  obtain ⟨a9, a9r, a9o⟩ := kX.st hX hAE ("IntegerHouse", 312, "no such value was told") (List.mem_of_getElem? (i := 6) rfl)
  exact vx_throwSW (names := ["java/lang/RuntimeException", "java/lang/Exception"]) (A := A) hx hb hl9 hown (by decide +kernel) (by decide +kernel) (hts (.classLink RX11 197 "java/lang/IndexOutOfBoundsException") (List.mem_cons_of_mem _ (List.mem_append_left _ (List.mem_append_left _ (List.mem_append_left _ (List.mem_of_getElem? (i := 0) rfl)))))) (hts (.initialized "java/lang/IndexOutOfBoundsException") (List.mem_cons_of_mem _ (List.mem_append_left _ (List.mem_append_left _ (List.mem_append_left _ (List.mem_of_getElem? (i := 1) rfl)))))) a9r (vx_hat (L := vx_atS RX11 201 "java/lang/IndexOutOfBoundsException" ["java/lang/RuntimeException", "java/lang/Exception"]) (B := [.castable "java/lang/IndexOutOfBoundsException" "java/lang/IndexOutOfBoundsException", .declares (Bundle.initS "java/lang/RuntimeException"), .declares (Bundle.initS "java/lang/Exception"), .declares (Bundle.initS "java/lang/Throwable")]) (fun w h => hts w (List.mem_cons_of_mem _ (List.mem_append_right _ h))) (by decide +kernel) (vx_c (va_Nw.use rfl (kX.cast hX "java/lang/IndexOutOfBoundsException" (by decide))) (vx_c (va_Nw.use rfl (kX.decl hX "java/lang/RuntimeException" (by decide))) (vx_c (va_Nw.use rfl (kX.decl hX "java/lang/Exception" (by decide))) (vx_c (va_Nw.use rfl (kX.decl hX "java/lang/Throwable" (by decide))) vx_n))))) (by decide +kernel) (kX.us hX hAE) (kX.ss hX hAE) hS (by rw [hml]; exact hl.1) dX11_value_11 dX11_value_14 dX11_value_15 dX11_value_18 dX11_value_21 (fun x hx => (ht9 x hx).elim) (Nat.le_of_ble_eq_true rfl) (Nat.le_of_ble_eq_true rfl) (Nat.le_of_ble_eq_true rfl) (Nat.le_of_ble_eq_true rfl) hlocks (fun t h1 h2 h3 => k_tx hP hK hD hS t h1 h2 h3) hS.2.2 (Nat.le_of_ble_eq_true rfl) (Nat.le_of_ble_eq_true rfl)
set_option maxHeartbeats 400000000 in
set_option maxRecDepth 100000 in
theorem c_L_value_1 (l : Launch) (E : kE) (D : va_G) (cI cJ cB cZ : ClassId) (h0 : Nat) (x0 : Int32) (h1 : Nat) (f0 : List Value) (h2 : Nat) (e0 : f0[7]? = some (.ref h2)) (e1 : (x0 : Int32) < 0) (hl9 : l.stackTraces = false) : kI l E D (kT cI cJ cB cZ) yL_value wsL_value ({ frames := 7, cells := 1, slots := 6, locals := 103 }) [.ref h0, .int x0, .ref h1] [(h0, .inr (11, f0))] (1) [(h0, .inr (11, f0))] 1 6 := by
  intro sz
  refine k_metH (cc := cL_value) (maxL := 4) (ret := (some .int)) (hh := [(0, 8, 11, 25)]) (by decide) rfl ?_
  intro p e s m args below meth c s₁ B hml hv
  obtain ⟨rfl, hsz, hP, hK, hD0, hN, hX⟩ := hv
  have hx := B.exec
  have hb := B.bytes
  have hr := B.returns
  have hts := atoms_spec (ws := wsL_value) B.pre
  have hown : s.vm.findClass RL = some m.cls := findClass_of_methodNamed B.named
  have hlocks := B.notSynchronized
  subst hsz
  have hD := hD0.self (sz := s.heap.size)
  have hAE := k_AE hD0 hX
  generalize hAe : va_A [(h0, .inr (11, f0))] s.heap.size = A at hD hAE ⊢
  have hA : ∀ q : Nat, s.heap.size ≤ q → A q := fun q h => by rw [← hAe]; exact Or.inr h
  have hS : va_S A s.heap s.heap [] := va_S.rf
  have hP : va_P D vwCl [(h0, .inr (11, f0))] s.heap := hP
  have hl := lv_entry ([.ref h0, .int x0, .ref h1] : List Value) (n := 4) (Nat.le_of_ble_eq_true rfl)
  rw [lg_entry_eq]
  generalize (lg_sl ([.ref h0, .int x0, .ref h1]) ++ List.replicate (4 - (lg_sl ([.ref h0, .int x0, .ref h1])).length) Slot.unset).toArray = ls at hl ⊢
  have hl : lv_has ls 4 [(0, .ref h0), (1, .int x0), (2, .ref h1)] := hl
  refine lv_aload_n hx hb dL_value_0 rfl (lv_at hl 2 rfl) ?_
  refine lv_iconst (v := 0) hx hb dL_value_1 (by decide) ?_
  refine lv_aload_n hx hb dL_value_2 rfl (lv_at hl 0 rfl) ?_
  refine lv_iload_n hx hb dL_value_3 rfl (lv_at hl 1 rfl) ?_
  refine k_cTl (As := [.int x0]) (rest := [.int 0, .ref h1]) (wc := [(h0, .inr (11, f0))]) (wr := []) ⟨hx, hb, hml, hown, hts⟩ hN hX hAE hK hP hD hS hA [0] [] (ci := 11) rfl rfl rfl rfl (by decide +kernel) (by decide +kernel) (by decide +kernel) (c_X11_value_1 l E D cI cJ cB cZ h0 x0 f0 h2 e0 e1 hl9) (cwV 1 hts gL_value_X11_value rfl rfl rfl (by decide +kernel) ⟨Nat.le_of_ble_eq_true rfl, Nat.le_of_ble_eq_true rfl⟩) rfl hl.1 (Nat.le_of_ble_eq_true rfl) dL_value_4 ⟨Nat.le_of_ble_eq_true rfl, Nat.le_of_ble_eq_true rfl⟩ (fun q9 ce H locs hP hD hS hce hcv hcl => ?_)
  have hP : va_P D vwCl [(h0, .inr (11, f0))] H := hP
  have hD : va_D A [(h0, .inr (11, f0))] := hD
  refine vx_catch (own := RL) (name := "java/lang/IndexOutOfBoundsException") hown [] ⟨0, 8, 11, 25⟩ [] (vx_table B (hts _ List.mem_cons_self)) (fun z hz => absurd hz List.not_mem_nil) (by decide) (by decide) (hts (.classLink RL 25 "java/lang/IndexOutOfBoundsException") (List.mem_cons_of_mem _ (List.mem_append_left _ (List.mem_append_left _ (List.mem_append_left _ (List.mem_of_getElem? (i := 0) rfl)))))) (va_Nw.use rfl (kX.cast hX "java/lang/IndexOutOfBoundsException" (by decide))) hce hcv hcl ?_
  refine W.eq (g2 := F0 m 11 ls [.ref q9]) rfl ?_
  refine W.widen (k := 1) (n := 6) (Nat.le_of_ble_eq_true rfl) (Nat.le_of_ble_eq_true rfl) ?_
  refine lv_astore_n (lv' := [(3, .ref q9), (0, .ref h0), (1, .int x0), (2, .ref h1)]) hx hb dL_value_11 rfl hl (by decide) rfl (fun ls hl => ?_)
  refine lv_iconst (v := 1) hx hb dL_value_12 (by decide) ?_
  exact W.iret (v := 1) hx hb hr (fun t ht hW => ⟨⟨1, (), rfl, rfl, kB_mk ht hW hP hK hD⟩, hS.F ht⟩) hS.2.2 dL_value_13
set_option maxHeartbeats 400000000 in
set_option maxRecDepth 100000 in
theorem c_X11_height_0 (l : Launch) (E : kE) (D : va_G) (cI cJ cB cZ : ClassId) (h0 : Nat) (f0 : List Value) (h1 : Nat) (f1 : List Value) (e0 : f0[7]? = some (.ref h1)) (e1 : f1[12]? = some (.int (-1))) : kI l E D (kT cI cJ cB cZ) yX11_height wsX11_height ({ frames := 0, cells := 0, slots := 0, locals := 0 }) [.ref h0] [(h0, .inr (11, f0)), (h1, .inr (0, f1))] ((-1)) [(h0, .inr (11, f0)), (h1, .inr (0, f1))] 0 0 := by
  intro sz
  refine Met.ofW (cc := cX11_height) (maxL := 1) (ret := (some .int)) (by decide) rfl ?_
  intro p e s m args below meth c s₁ B hml hv
  obtain ⟨rfl, hsz, hP, hK, hD0, hN, hX⟩ := hv
  have hx := B.exec
  have hb := B.bytes
  have hr := B.returns
  have hts := atoms_spec (ws := wsX11_height) B.pre
  have hown : s.vm.findClass RX11 = some m.cls := findClass_of_methodNamed B.named
  have hlocks := B.notSynchronized
  have hin11 : ∀ w ∈ wsX110, w ∈ wsX11_height := (fun w h => (List.mem_cons_of_mem _ (List.mem_append_left _ (List.mem_append_right _ h))))
  have hin0 : ∀ w ∈ wsX00, w ∈ wsX11_height := (fun w h => (List.mem_cons_of_mem _ (List.mem_append_right _ h)))
  subst hsz
  have hD := hD0.self (sz := s.heap.size)
  have hAE := k_AE hD0 hX
  generalize hAe : va_A [(h0, .inr (11, f0)), (h1, .inr (0, f1))] s.heap.size = A at hD hAE ⊢
  have hA : ∀ q : Nat, s.heap.size ≤ q → A q := fun q h => by rw [← hAe]; exact Or.inr h
  have hS : va_S A s.heap s.heap [] := va_S.rf
  have hP : va_P D vwCl [(h0, .inr (11, f0)), (h1, .inr (0, f1))] s.heap := hP
  have hl := lv_entry ([.ref h0] : List Value) (n := 1) (Nat.le_of_ble_eq_true rfl)
  rw [lg_entry_eq]
  generalize (lg_sl ([.ref h0]) ++ List.replicate (1 - (lg_sl ([.ref h0])).length) Slot.unset).toArray = ls at hl ⊢
  have hl : lv_has ls 1 [(0, .ref h0)] := hl
  refine lv_aload_n hx hb dX11_height_0 rfl (lv_at hl 0 rfl) ?_
  refine va_get (D := D) (ref := "IntegerHouse") (ci := 11) (v := .ref h1) (C := RX11) (T := TX11) (N := 15) hx hb hts hin11 hown hK hP 0 rfl rfl 7 (by decide) (hts (.fieldLink RX11 64 "IntegerHouse" "answers" "LIntegerHouse$Answers;") (List.mem_cons_of_mem _ (List.mem_append_left _ (List.mem_append_left _ (List.mem_of_getElem? (i := 0) rfl))))) (fun _ h9 => h9) e0 dX11_height_1 ?_
  refine va_getN (host := "IntegerHouse") (D := D) (ref := "IntegerHouse$Answers") (ci := 0) (v := .int (-1)) (C := RX0) (T := TX0) (N := 19) hx hb hts hin0 hown hK hP 1 rfl rfl 12 (by decide) (va_Nw.use rfl (hN.1 ("IntegerHouse", 318, "IntegerHouse$Answers", "toldHeight", "I", "IntegerHouse") (List.mem_of_getElem? (i := 35) rfl))) (fun _ h9 => h9) e1 dX11_height_4 ?_
  exact W.iret (v := (-1)) hx hb hr (fun t ht hW => ⟨⟨(-1), (), rfl, rfl, kB_mk ht hW hP hK hD⟩, hS.F ht⟩) hS.2.2 dX11_height_7
set_option maxHeartbeats 400000000 in
set_option maxRecDepth 100000 in
theorem c_X12_height_0 (l : Launch) (E : kE) (D : va_G) (cI cJ cB cZ : ClassId) (h0 : Nat) (f0 : List Value) (e0 : f0[0]? = some (.int 0)) (e1 : f0[140]? = some (.int (-1))) : kI l E D (kT cI cJ cB cZ) yX12_height wsX12_height ({ frames := 0, cells := 0, slots := 0, locals := 0 }) [.ref h0] [(h0, .inr (12, f0))] ((-1)) [(h0, .inr (12, (f0.set 0 (.int 0))))] 0 0 := by
  intro sz
  refine Met.ofW (cc := cX12_height) (maxL := 1) (ret := (some .int)) (by decide) rfl ?_
  intro p e s m args below meth c s₁ B hml hv
  obtain ⟨rfl, hsz, hP, hK, hD0, hN, hX⟩ := hv
  have hx := B.exec
  have hb := B.bytes
  have hr := B.returns
  have hts := atoms_spec (ws := wsX12_height) B.pre
  have hown : s.vm.findClass RX12 = some m.cls := findClass_of_methodNamed B.named
  have hlocks := B.notSynchronized
  have hin12 : ∀ w ∈ wsX120, w ∈ wsX12_height := (fun w h => (List.mem_cons_of_mem _ (List.mem_append_right _ h)))
  subst hsz
  have hD := hD0.self (sz := s.heap.size)
  have hAE := k_AE hD0 hX
  generalize hAe : va_A [(h0, .inr (12, f0))] s.heap.size = A at hD hAE ⊢
  have hA : ∀ q : Nat, s.heap.size ≤ q → A q := fun q h => by rw [← hAe]; exact Or.inr h
  have hS : va_S A s.heap s.heap [] := va_S.rf
  have hP : va_P D vwCl [(h0, .inr (12, f0))] s.heap := hP
  have hl := lv_entry ([.ref h0] : List Value) (n := 1) (Nat.le_of_ble_eq_true rfl)
  rw [lg_entry_eq]
  generalize (lg_sl ([.ref h0]) ++ List.replicate (1 - (lg_sl ([.ref h0])).length) Slot.unset).toArray = ls at hl ⊢
  have hl : lv_has ls 1 [(0, .ref h0)] := hl
  refine lv_aload_n hx hb dX12_height_0 rfl (lv_at hl 0 rfl) ?_
  refine lv_iconst (v := 0) hx hb dX12_height_1 (by decide) ?_
  refine va_put (D := D) (ref := "IntegerHouseModel") (ci := 12) (v := .int 0) (ty := .int) (C := RX12) (T := TX12) (N := 195) hx hb hts hin12 tyX12 tyX12_ok nmX12 hown hK hP hD hS 0 rfl rfl 0 (by decide) (hts (.fieldLink RX12 3 "IntegerHouseModel" "thrown" "I") (List.mem_cons_of_mem _ (List.mem_append_left _ (List.mem_of_getElem? (i := 0) rfl)))) (fun _ h9 => h9) rfl (by decide +kernel) rfl rfl (k_len e0) dX12_height_2 (fun H locs hP hD hS => ?_)
  have hP : va_P D vwCl [(h0, .inr (12, (f0.set 0 (.int 0))))] H := hP
  have hD : va_D A [(h0, .inr (12, (f0.set 0 (.int 0))))] := hD
  refine lv_aload_n hx hb dX12_height_5 rfl (lv_at hl 0 rfl) ?_
  refine va_get (D := D) (ref := "IntegerHouseModel") (ci := 12) (v := .int (-1)) (C := RX12) (T := TX12) (N := 195) hx hb hts hin12 hown hK hP 0 rfl rfl 140 (by decide) (hts (.fieldLink RX12 355 "IntegerHouseModel" "toldHeight" "I") (List.mem_cons_of_mem _ (List.mem_append_left _ (List.mem_of_getElem? (i := 1) rfl)))) (fun _ h9 => h9) (k_ne (by decide) e1) dX12_height_6 ?_
  exact W.iret (v := (-1)) hx hb hr (fun t ht hW => ⟨⟨(-1), (), rfl, rfl, kB_mk ht hW hP hK hD⟩, hS.F ht⟩) hS.2.2 dX12_height_9
set_option maxHeartbeats 400000000 in
set_option maxRecDepth 100000 in
theorem c_X2_setFact_3 (l : Launch) (E : kE) (D : va_G) (cI cJ cB cZ : ClassId) (h0 : Nat) (f0 : List Value) (h1 : Nat) (g0 : Nat → Int32) (e0 : f0[5]? = some (.ref h1)) : kV l E D (kT cI cJ cB cZ) yX2_setFact wsX2_setFact ({ frames := 0, cells := 0, slots := 0, locals := 0 }) [.ref h0, .int 25, .int 9, .int 0] [(h0, .inr (2, f0)), (h1, .inl (cI, 260, .inl g0))] (fun _ : Unit => [(h0, .inr (2, f0)), (h1, .inl (cI, 260, .inl (upd g0 259 0)))]) 0 0 := by
  intro sz
  refine Met.ofW (cc := cX2_setFact) (maxL := 4) (ret := none) (by decide) rfl ?_
  intro p e s m args below meth c s₁ B hml hv
  obtain ⟨rfl, hsz, hP, hK, hD0, hN, hX⟩ := hv
  have hx := B.exec
  have hb := B.bytes
  have hr := B.returns
  have hts := atoms_spec (ws := wsX2_setFact) B.pre
  have hown : s.vm.findClass RX2 = some m.cls := findClass_of_methodNamed B.named
  have hlocks := B.notSynchronized
  have hin2 : ∀ w ∈ wsX20, w ∈ wsX2_setFact := (fun w h => (List.mem_cons_of_mem _ (List.mem_append_right _ h)))
  subst hsz
  have hD := hD0.self (sz := s.heap.size)
  have hAE := k_AE hD0 hX
  generalize hAe : va_A [(h0, .inr (2, f0)), (h1, .inl (cI, 260, .inl g0))] s.heap.size = A at hD hAE ⊢
  have hA : ∀ q : Nat, s.heap.size ≤ q → A q := fun q h => by rw [← hAe]; exact Or.inr h
  have hS : va_S A s.heap s.heap [] := va_S.rf
  have hP : va_P D vwCl [(h0, .inr (2, f0)), (h1, .inl (cI, 260, .inl g0))] s.heap := hP
  have hl := lv_entry ([.ref h0, .int 25, .int 9, .int 0] : List Value) (n := 4) (Nat.le_of_ble_eq_true rfl)
  rw [lg_entry_eq]
  generalize (lg_sl ([.ref h0, .int 25, .int 9, .int 0]) ++ List.replicate (4 - (lg_sl ([.ref h0, .int 25, .int 9, .int 0])).length) Slot.unset).toArray = ls at hl ⊢
  have hl : lv_has ls 4 [(0, .ref h0), (1, .int 25), (2, .int 9), (3, .int 0)] := hl
  refine lv_iload_n hx hb dX2_setFact_0 rfl (lv_at hl 1 rfl) ?_
  refine lv_if_lt (tgt := 32) hx hb dX2_setFact_1 (by decide) (fun c9 => absurd c9 (by decide)) (fun _ => ?_)
  refine lv_iload_n hx hb dX2_setFact_4 rfl (lv_at hl 1 rfl) ?_
  refine lv_bipush (v := 26) hx hb dX2_setFact_5 (by decide) ?_
  refine lv_icmp_ge (tgt := 32) hx hb dX2_setFact_7 (by decide) (fun c9 => absurd c9 (by decide)) (fun _ => ?_)
  refine lv_iload_n hx hb dX2_setFact_10 rfl (lv_at hl 2 rfl) ?_
  refine lv_if_lt (tgt := 32) hx hb dX2_setFact_11 (by decide) (fun c9 => absurd c9 (by decide)) (fun _ => ?_)
  refine lv_iload_n hx hb dX2_setFact_14 rfl (lv_at hl 2 rfl) ?_
  refine lv_bipush (v := 10) hx hb dX2_setFact_15 (by decide) ?_
  refine lv_icmp_ge (tgt := 32) hx hb dX2_setFact_17 (by decide) (fun c9 => absurd c9 (by decide)) (fun _ => ?_)
  refine lv_aload_n hx hb dX2_setFact_20 rfl (lv_at hl 0 rfl) ?_
  refine va_get (D := D) (ref := "IntegerHouse$House") (ci := 2) (v := .ref h1) (C := RX2) (T := TX2) (N := 16) hx hb hts hin2 hown hK hP 0 rfl rfl 5 (by decide) (hts (.fieldLink RX2 28 "IntegerHouse$House" "facts" "[I") (List.mem_cons_of_mem _ (List.mem_append_left _ (List.mem_of_getElem? (i := 0) rfl)))) (fun _ h9 => h9) e0 dX2_setFact_21 ?_
  refine lv_iload_n hx hb dX2_setFact_24 rfl (lv_at hl 1 rfl) ?_
  refine lv_bipush (v := 10) hx hb dX2_setFact_25 (by decide) ?_
  refine lv_imul hx hb dX2_setFact_27 ?_
  refine k_topi (y := 250) (by decide) ?_
  refine lv_iload_n hx hb dX2_setFact_28 rfl (lv_at hl 2 rfl) ?_
  refine lv_iadd hx hb dX2_setFact_29 ?_
  refine k_topi (y := 259) (by decide) ?_
  refine lv_iload_n hx hb dX2_setFact_30 rfl (lv_at hl 3 rfl) ?_
  refine va_iast hx hb hK hP hD hS 1 0 rfl rfl (k_in (by decide)) dX2_setFact_31 (fun H locs hP hD hS => ?_)
  have hP : va_P D vwCl [(h0, .inr (2, f0)), (h1, .inl (cI, 260, .inl (upd g0 259 0)))] H := hP
  have hD : va_D A [(h0, .inr (2, f0)), (h1, .inl (cI, 260, .inl (upd g0 259 0)))] := hD
  exact W.vret hx hb hr (fun t ht hW => ⟨⟨(), rfl, trivial, kB_mk ht hW hP hK hD⟩, hS.F ht⟩) hS.2.2 dX2_setFact_32
set_option maxHeartbeats 400000000 in
set_option maxRecDepth 100000 in
theorem c_X2_setStep_5 (l : Launch) (E : kE) (D : va_G) (cI cJ cB cZ : ClassId) (h0 : Nat) (f0 : List Value) (h1 : Nat) (g0 : Nat → Int32) (e0 : f0[3]? = some (.ref h1)) : kV l E D (kT cI cJ cB cZ) yX2_setStep wsX2_setStep ({ frames := 0, cells := 0, slots := 0, locals := 0 }) [.ref h0, .int 25, .int 0, .int 43] [(h0, .inr (2, f0)), (h1, .inl (cI, 13312, .inl g0))] (fun _ : Unit => [(h0, .inr (2, f0)), (h1, .inl (cI, 13312, .inl (upd g0 12800 43)))]) 0 0 := by
  intro sz
  refine Met.ofW (cc := cX2_setStep) (maxL := 4) (ret := none) (by decide) rfl ?_
  intro p e s m args below meth c s₁ B hml hv
  obtain ⟨rfl, hsz, hP, hK, hD0, hN, hX⟩ := hv
  have hx := B.exec
  have hb := B.bytes
  have hr := B.returns
  have hts := atoms_spec (ws := wsX2_setStep) B.pre
  have hown : s.vm.findClass RX2 = some m.cls := findClass_of_methodNamed B.named
  have hlocks := B.notSynchronized
  have hin2 : ∀ w ∈ wsX20, w ∈ wsX2_setStep := (fun w h => (List.mem_cons_of_mem _ (List.mem_append_right _ h)))
  subst hsz
  have hD := hD0.self (sz := s.heap.size)
  have hAE := k_AE hD0 hX
  generalize hAe : va_A [(h0, .inr (2, f0)), (h1, .inl (cI, 13312, .inl g0))] s.heap.size = A at hD hAE ⊢
  have hA : ∀ q : Nat, s.heap.size ≤ q → A q := fun q h => by rw [← hAe]; exact Or.inr h
  have hS : va_S A s.heap s.heap [] := va_S.rf
  have hP : va_P D vwCl [(h0, .inr (2, f0)), (h1, .inl (cI, 13312, .inl g0))] s.heap := hP
  have hl := lv_entry ([.ref h0, .int 25, .int 0, .int 43] : List Value) (n := 4) (Nat.le_of_ble_eq_true rfl)
  rw [lg_entry_eq]
  generalize (lg_sl ([.ref h0, .int 25, .int 0, .int 43]) ++ List.replicate (4 - (lg_sl ([.ref h0, .int 25, .int 0, .int 43])).length) Slot.unset).toArray = ls at hl ⊢
  have hl : lv_has ls 4 [(0, .ref h0), (1, .int 25), (2, .int 0), (3, .int 43)] := hl
  refine lv_iload_n hx hb dX2_setStep_0 rfl (lv_at hl 1 rfl) ?_
  refine lv_if_lt (tgt := 34) hx hb dX2_setStep_1 (by decide) (fun c9 => absurd c9 (by decide)) (fun _ => ?_)
  refine lv_iload_n hx hb dX2_setStep_4 rfl (lv_at hl 1 rfl) ?_
  refine lv_bipush (v := 26) hx hb dX2_setStep_5 (by decide) ?_
  refine lv_icmp_ge (tgt := 34) hx hb dX2_setStep_7 (by decide) (fun c9 => absurd c9 (by decide)) (fun _ => ?_)
  refine lv_iload_n hx hb dX2_setStep_10 rfl (lv_at hl 2 rfl) ?_
  refine lv_if_lt (tgt := 34) hx hb dX2_setStep_11 (by decide) (fun c9 => absurd c9 (by decide)) (fun _ => ?_)
  refine lv_iload_n hx hb dX2_setStep_14 rfl (lv_at hl 2 rfl) ?_
  refine lv_sipush (v := 512) hx hb dX2_setStep_15 (by decide) ?_
  refine lv_icmp_ge (tgt := 34) hx hb dX2_setStep_18 (by decide) (fun c9 => absurd c9 (by decide)) (fun _ => ?_)
  refine lv_aload_n hx hb dX2_setStep_21 rfl (lv_at hl 0 rfl) ?_
  refine va_get (D := D) (ref := "IntegerHouse$House") (ci := 2) (v := .ref h1) (C := RX2) (T := TX2) (N := 16) hx hb hts hin2 hown hK hP 0 rfl rfl 3 (by decide) (hts (.fieldLink RX2 22 "IntegerHouse$House" "steps" "[I") (List.mem_cons_of_mem _ (List.mem_append_left _ (List.mem_of_getElem? (i := 0) rfl)))) (fun _ h9 => h9) e0 dX2_setStep_22 ?_
  refine lv_iload_n hx hb dX2_setStep_25 rfl (lv_at hl 1 rfl) ?_
  refine lv_sipush (v := 512) hx hb dX2_setStep_26 (by decide) ?_
  refine lv_imul hx hb dX2_setStep_29 ?_
  refine k_topi (y := 12800) (by decide) ?_
  refine lv_iload_n hx hb dX2_setStep_30 rfl (lv_at hl 2 rfl) ?_
  refine lv_iadd hx hb dX2_setStep_31 ?_
  refine k_topi (y := 12800) (by decide) ?_
  refine lv_iload_n hx hb dX2_setStep_32 rfl (lv_at hl 3 rfl) ?_
  refine va_iast hx hb hK hP hD hS 1 0 rfl rfl (k_in (by decide)) dX2_setStep_33 (fun H locs hP hD hS => ?_)
  have hP : va_P D vwCl [(h0, .inr (2, f0)), (h1, .inl (cI, 13312, .inl (upd g0 12800 43)))] H := hP
  have hD : va_D A [(h0, .inr (2, f0)), (h1, .inl (cI, 13312, .inl (upd g0 12800 43)))] := hD
  exact W.vret hx hb hr (fun t ht hW => ⟨⟨(), rfl, trivial, kB_mk ht hW hP hK hD⟩, hS.F ht⟩) hS.2.2 dX2_setStep_34
set_option maxHeartbeats 400000000 in
set_option maxRecDepth 100000 in
theorem c_X8_step_5 (l : Launch) (E : kE) (D : va_G) (cI cJ cB cZ : ClassId) (h0 : Nat) (f0 : List Value) (h1 : Nat) (f1 : List Value) (h2 : Nat) (g0 : Nat → Int32) (e0 : f0[1]? = some (.ref h1)) (e1 : f0[11]? = some (.int 25)) (e2 : f0[13]? = some (.int 0)) (e3 : f1[3]? = some (.ref h2)) : kV l E D (kT cI cJ cB cZ) yX8_step wsX8_step ({ frames := 1, cells := 0, slots := 0, locals := 23 }) [.ref h0, .int 43] [(h0, .inr (8, f0)), (h1, .inr (2, f1)), (h2, .inl (cI, 13312, .inl g0))] (fun _ : Unit => [(h0, .inr (8, (f0.set 13 (.int 1)))), (h1, .inr (2, f1)), (h2, .inl (cI, 13312, .inl (upd g0 12800 43)))]) 0 0 := by
  intro sz
  refine Met.ofW (cc := cX8_step) (maxL := 2) (ret := none) (by decide) rfl ?_
  intro p e s m args below meth c s₁ B hml hv
  obtain ⟨rfl, hsz, hP, hK, hD0, hN, hX⟩ := hv
  have hx := B.exec
  have hb := B.bytes
  have hr := B.returns
  have hts := atoms_spec (ws := wsX8_step) B.pre
  have hown : s.vm.findClass RX8 = some m.cls := findClass_of_methodNamed B.named
  have hlocks := B.notSynchronized
  have hin8 : ∀ w ∈ wsX80, w ∈ wsX8_step := (fun w h => (List.mem_cons_of_mem _ (List.mem_append_left _ (List.mem_append_right _ h))))
  subst hsz
  have hD := hD0.self (sz := s.heap.size)
  have hAE := k_AE hD0 hX
  generalize hAe : va_A [(h0, .inr (8, f0)), (h1, .inr (2, f1)), (h2, .inl (cI, 13312, .inl g0))] s.heap.size = A at hD hAE ⊢
  have hA : ∀ q : Nat, s.heap.size ≤ q → A q := fun q h => by rw [← hAe]; exact Or.inr h
  have hS : va_S A s.heap s.heap [] := va_S.rf
  have hP : va_P D vwCl [(h0, .inr (8, f0)), (h1, .inr (2, f1)), (h2, .inl (cI, 13312, .inl g0))] s.heap := hP
  have hl := lv_entry ([.ref h0, .int 43] : List Value) (n := 2) (Nat.le_of_ble_eq_true rfl)
  rw [lg_entry_eq]
  generalize (lg_sl ([.ref h0, .int 43]) ++ List.replicate (2 - (lg_sl ([.ref h0, .int 43])).length) Slot.unset).toArray = ls at hl ⊢
  have hl : lv_has ls 2 [(0, .ref h0), (1, .int 43)] := hl
  refine lv_aload_n hx hb dX8_step_0 rfl (lv_at hl 0 rfl) ?_
  refine va_get (D := D) (ref := "IntegerHouse$Reader") (ci := 8) (v := .ref h1) (C := RX8) (T := TX8) (N := 15) hx hb hts hin8 hown hK hP 0 rfl rfl 1 (by decide) (hts (.fieldLink RX8 15 "IntegerHouse$Reader" "house" "LIntegerHouse$House;") (List.mem_cons_of_mem _ (List.mem_append_left _ (List.mem_append_left _ (List.mem_of_getElem? (i := 0) rfl))))) (fun _ h9 => h9) e0 dX8_step_1 ?_
  refine lv_aload_n hx hb dX8_step_4 rfl (lv_at hl 0 rfl) ?_
  refine va_get (D := D) (ref := "IntegerHouse$Reader") (ci := 8) (v := .int 25) (C := RX8) (T := TX8) (N := 15) hx hb hts hin8 hown hK hP 0 rfl rfl 11 (by decide) (hts (.fieldLink RX8 164 "IntegerHouse$Reader" "slot" "I") (List.mem_cons_of_mem _ (List.mem_append_left _ (List.mem_append_left _ (List.mem_of_getElem? (i := 1) rfl))))) (fun _ h9 => h9) e1 dX8_step_5 ?_
  refine lv_aload_n hx hb dX8_step_8 rfl (lv_at hl 0 rfl) ?_
  refine va_get (D := D) (ref := "IntegerHouse$Reader") (ci := 8) (v := .int 0) (C := RX8) (T := TX8) (N := 15) hx hb hts hin8 hown hK hP 0 rfl rfl 13 (by decide) (hts (.fieldLink RX8 170 "IntegerHouse$Reader" "steps" "I") (List.mem_cons_of_mem _ (List.mem_append_left _ (List.mem_append_left _ (List.mem_of_getElem? (i := 2) rfl))))) (fun _ h9 => h9) e2 dX8_step_9 ?_
  refine lv_iload_n hx hb dX8_step_12 rfl (lv_at hl 1 rfl) ?_
  refine k_cVv (As := [.int 25, .int 0, .int 43]) (rest := []) (wc := [(h1, .inr (2, f1)), (h2, .inl (cI, 13312, .inl g0))]) (wr := [(h0, .inr (8, f0))]) (w1 := (fun _ : Unit => [(h1, .inr (2, f1)), (h2, .inl (cI, 13312, .inl (upd g0 12800 43)))])) ⟨hx, hb, hml, hown, hts⟩ hN hX hAE hK hP hD hS hA [1, 2] [0] (ci := 2) rfl rfl rfl rfl (by decide +kernel) (by decide +kernel) (by decide +kernel) (c_X2_setStep_5 l E D cI cJ cB cZ h1 f1 h2 g0 e3) (cwV 3 hts gX8_step_X2_setStep rfl rfl rfl (by decide +kernel) ⟨Nat.le_of_ble_eq_true rfl, Nat.le_of_ble_eq_true rfl⟩) rfl hl.1 (Nat.le_of_ble_eq_true rfl) dX8_step_13 ⟨Nat.le_of_ble_eq_true rfl, Nat.le_of_ble_eq_true rfl⟩ (fun _ H locs hP hD hS => ?_)
  have hP : va_P D vwCl [(h0, .inr (8, f0)), (h1, .inr (2, f1)), (h2, .inl (cI, 13312, .inl (upd g0 12800 43)))] H := hP
  have hD : va_D A [(h0, .inr (8, f0)), (h1, .inr (2, f1)), (h2, .inl (cI, 13312, .inl (upd g0 12800 43)))] := hD
  refine lv_aload_n hx hb dX8_step_16 rfl (lv_at hl 0 rfl) ?_
  refine lv_dup hx hb dX8_step_17 rfl ?_
  refine va_get (D := D) (ref := "IntegerHouse$Reader") (ci := 8) (v := .int 0) (C := RX8) (T := TX8) (N := 15) hx hb hts hin8 hown hK hP 0 rfl rfl 13 (by decide) (hts (.fieldLink RX8 170 "IntegerHouse$Reader" "steps" "I") (List.mem_cons_of_mem _ (List.mem_append_left _ (List.mem_append_left _ (List.mem_of_getElem? (i := 2) rfl))))) (fun _ h9 => h9) e2 dX8_step_18 ?_
  refine lv_iconst (v := 1) hx hb dX8_step_21 (by decide) ?_
  refine lv_iadd hx hb dX8_step_22 ?_
  refine k_topi (y := 1) (by decide) ?_
  refine va_put (D := D) (ref := "IntegerHouse$Reader") (ci := 8) (v := .int 1) (ty := .int) (C := RX8) (T := TX8) (N := 15) hx hb hts hin8 tyX8 tyX8_ok nmX8 hown hK hP hD hS 0 rfl rfl 13 (by decide) (hts (.fieldLink RX8 170 "IntegerHouse$Reader" "steps" "I") (List.mem_cons_of_mem _ (List.mem_append_left _ (List.mem_append_left _ (List.mem_of_getElem? (i := 2) rfl))))) (fun _ h9 => h9) rfl (by decide +kernel) rfl rfl (k_len e2) dX8_step_23 (fun H locs hP hD hS => ?_)
  have hP : va_P D vwCl [(h0, .inr (8, (f0.set 13 (.int 1)))), (h1, .inr (2, f1)), (h2, .inl (cI, 13312, .inl (upd g0 12800 43)))] H := hP
  have hD : va_D A [(h0, .inr (8, (f0.set 13 (.int 1)))), (h1, .inr (2, f1)), (h2, .inl (cI, 13312, .inl (upd g0 12800 43)))] := hD
  exact W.vret hx hb hr (fun t ht hW => ⟨⟨(), rfl, trivial, kB_mk ht hW hP hK hD⟩, hS.F ht⟩) hS.2.2 dX8_step_26
set_option maxHeartbeats 400000000 in
set_option maxRecDepth 100000 in
theorem c_X8_part_2 (l : Launch) (E : kE) (D : va_G) (cI cJ cB cZ : ClassId) (h0 : Nat) (f0 : List Value) (h1 : Nat) (f1 : List Value) (h2 : Nat) (f2 : List Value) (h3 : Nat) (g0 : Nat → Int32) (e0 : f0[0]? = some (.ref h1)) (e1 : f0[6]? = some (.int 0)) (e2 : f1[5]? = some (.int 0)) (e3 : f0[7]? = some (.int 0)) (e4 : f0[1]? = some (.ref h2)) (e5 : f2[10]? = some (.int 0)) (e6 : f0[3]? = some (.int 0)) (e7 : f0[8]? = some (.int 0)) (e8 : f0[4]? = some (.int 0)) (e9 : f0[11]? = some (.int 25)) (e10 : f0[13]? = some (.int 0)) (e11 : f2[3]? = some (.ref h3)) : kV l E D (kT cI cJ cB cZ) yX8_part wsX8_part ({ frames := 2, cells := 0, slots := 0, locals := 45 }) [.ref h0, .int 0] [(h0, .inr (8, f0)), (h1, .inr (3, f1)), (h2, .inr (2, f2)), (h3, .inl (cI, 13312, .inl g0))] (fun _ : Unit => [(h0, .inr (8, ((((f0.set 3 (.int 2)).set 4 (.int 0)).set 7 (.int 44)).set 13 (.int 1)))), (h1, .inr (3, f1)), (h2, .inr (2, f2)), (h3, .inl (cI, 13312, .inl (upd g0 12800 43)))]) 0 0 := by
  intro sz
  refine Met.ofW (cc := cX8_part) (maxL := 5) (ret := none) (by decide) rfl ?_
  intro p e s m args below meth c s₁ B hml hv
  obtain ⟨rfl, hsz, hP, hK, hD0, hN, hX⟩ := hv
  have hx := B.exec
  have hb := B.bytes
  have hr := B.returns
  have hts := atoms_spec (ws := wsX8_part) B.pre
  have hown : s.vm.findClass RX8 = some m.cls := findClass_of_methodNamed B.named
  have hlocks := B.notSynchronized
  have hin8 : ∀ w ∈ wsX80, w ∈ wsX8_part := (fun w h => (List.mem_cons_of_mem _ (List.mem_append_left _ (List.mem_append_left _ (List.mem_append_right _ h)))))
  subst hsz
  have hD := hD0.self (sz := s.heap.size)
  have hAE := k_AE hD0 hX
  generalize hAe : va_A [(h0, .inr (8, f0)), (h1, .inr (3, f1)), (h2, .inr (2, f2)), (h3, .inl (cI, 13312, .inl g0))] s.heap.size = A at hD hAE ⊢
  have hA : ∀ q : Nat, s.heap.size ≤ q → A q := fun q h => by rw [← hAe]; exact Or.inr h
  have hS : va_S A s.heap s.heap [] := va_S.rf
  have hP : va_P D vwCl [(h0, .inr (8, f0)), (h1, .inr (3, f1)), (h2, .inr (2, f2)), (h3, .inl (cI, 13312, .inl g0))] s.heap := hP
  have hl := lv_entry ([.ref h0, .int 0] : List Value) (n := 5) (Nat.le_of_ble_eq_true rfl)
  rw [lg_entry_eq]
  generalize (lg_sl ([.ref h0, .int 0]) ++ List.replicate (5 - (lg_sl ([.ref h0, .int 0])).length) Slot.unset).toArray = ls at hl ⊢
  have hl : lv_has ls 5 [(0, .ref h0), (1, .int 0)] := hl
  refine lv_aload_n hx hb dX8_part_0 rfl (lv_at hl 0 rfl) ?_
  refine va_get (D := D) (ref := "IntegerHouse$Reader") (ci := 8) (v := .ref h1) (C := RX8) (T := TX8) (N := 15) hx hb hts hin8 hown hK hP 0 rfl rfl 0 (by decide) (hts (.fieldLink RX8 9 "IntegerHouse$Reader" "lexer" "LIntegerHouse$Lexer;") (List.mem_cons_of_mem _ (List.mem_append_left _ (List.mem_append_left _ (List.mem_append_left _ (List.mem_append_left _ (List.mem_of_getElem? (i := 0) rfl))))))) (fun _ h9 => h9) e0 dX8_part_1 ?_
  refine lv_aload_n hx hb dX8_part_4 rfl (lv_at hl 0 rfl) ?_
  refine va_get (D := D) (ref := "IntegerHouse$Reader") (ci := 8) (v := .int 0) (C := RX8) (T := TX8) (N := 15) hx hb hts hin8 hown hK hP 0 rfl rfl 6 (by decide) (hts (.fieldLink RX8 79 "IntegerHouse$Reader" "at" "I") (List.mem_cons_of_mem _ (List.mem_append_left _ (List.mem_append_left _ (List.mem_append_left _ (List.mem_append_left _ (List.mem_of_getElem? (i := 1) rfl))))))) (fun _ h9 => h9) e1 dX8_part_5 ?_
  refine k_cVi (As := [.int 0]) (rest := []) (wc := [(h1, .inr (3, f1))]) (wr := [(h0, .inr (8, f0)), (h2, .inr (2, f2)), (h3, .inl (cI, 13312, .inl g0))]) (w1 := [(h1, .inr (3, f1))]) ⟨hx, hb, hml, hown, hts⟩ hN hX hAE hK hP hD hS hA [1] [0, 2, 3] (ci := 3) rfl rfl rfl rfl (by decide +kernel) (by decide +kernel) (by decide +kernel) (c_X3_numberAt_0 l E D cI cJ cB cZ h1 f1 e2) (cwV 1 hts gX8_part_X3_numberAt rfl rfl rfl (by decide +kernel) ⟨Nat.le_of_ble_eq_true rfl, Nat.le_of_ble_eq_true rfl⟩) rfl hl.1 (Nat.le_of_ble_eq_true rfl) dX8_part_8 ⟨Nat.le_of_ble_eq_true rfl, Nat.le_of_ble_eq_true rfl⟩ (fun H locs hP hD hS => ?_)
  have hP : va_P D vwCl [(h0, .inr (8, f0)), (h2, .inr (2, f2)), (h3, .inl (cI, 13312, .inl g0)), (h1, .inr (3, f1))] H := hP
  have hD : va_D A [(h0, .inr (8, f0)), (h2, .inr (2, f2)), (h3, .inl (cI, 13312, .inl g0)), (h1, .inr (3, f1))] := hD
  refine lv_istore_n (lv' := [(2, .int 0), (0, .ref h0), (1, .int 0)]) hx hb dX8_part_11 rfl hl (by decide) rfl (fun ls hl => ?_)
  refine lv_aload_n hx hb dX8_part_12 rfl (lv_at hl 1 rfl) ?_
  refine va_get (D := D) (ref := "IntegerHouse$Reader") (ci := 8) (v := .int 0) (C := RX8) (T := TX8) (N := 15) hx hb hts hin8 hown hK hP 0 rfl rfl 7 (by decide) (hts (.fieldLink RX8 39 "IntegerHouse$Reader" "kind" "I") (List.mem_cons_of_mem _ (List.mem_append_left _ (List.mem_append_left _ (List.mem_append_left _ (List.mem_append_left _ (List.mem_of_getElem? (i := 2) rfl))))))) (fun _ h9 => h9) e3 dX8_part_13 ?_
  refine lv_iconst (v := 2) hx hb dX8_part_16 (by decide) ?_
  refine lv_icmp_ne (tgt := 24) hx hb dX8_part_17 (by decide) (fun _ => ?_) (fun c9 => absurd c9 (by decide))
  refine lv_iconst (v := 0) hx hb dX8_part_24 (by decide) ?_
  refine lv_istore_n (lv' := [(3, .int 0), (2, .int 0), (0, .ref h0), (1, .int 0)]) hx hb dX8_part_25 rfl hl (by decide) rfl (fun ls hl => ?_)
  refine lv_iload_n hx hb dX8_part_26 rfl (lv_at hl 0 rfl) ?_
  refine lv_if_eq (tgt := 51) hx hb dX8_part_27 (by decide) (fun _ => ?_) (fun c9 => absurd (by decide) c9)
  refine lv_iload_n hx hb dX8_part_51 rfl (lv_at hl 0 rfl) ?_
  refine lv_if_eq (tgt := 68) hx hb dX8_part_52 (by decide) (fun _ => ?_) (fun c9 => absurd (by decide) c9)
  refine lv_iconst (v := 0) hx hb dX8_part_68 (by decide) ?_
  refine lv_istore (lv' := [(4, .int 0), (3, .int 0), (2, .int 0), (0, .ref h0), (1, .int 0)]) hx hb dX8_part_69 hl (by decide) rfl (fun ls hl => ?_)
  refine lv_iload hx hb dX8_part_71 (lv_at hl 0 rfl) ?_
  refine lv_if_eq (tgt := 84) hx hb dX8_part_73 (by decide) (fun _ => ?_) (fun c9 => absurd (by decide) c9)
  refine lv_iload hx hb dX8_part_84 (lv_at hl 0 rfl) ?_
  refine lv_if_ne (tgt := 93) hx hb dX8_part_86 (by decide) (fun c9 => absurd (by decide) c9) (fun _ => ?_)
  refine lv_iload_n hx hb dX8_part_89 rfl (lv_at hl 1 rfl) ?_
  refine lv_if_ne (tgt := 97) hx hb dX8_part_90 (by decide) (fun c9 => absurd (by decide) c9) (fun _ => ?_)
  refine lv_aload_n hx hb dX8_part_93 rfl (lv_at hl 3 rfl) ?_
  refine k_cVv (As := []) (rest := []) (wc := [(h0, .inr (8, f0)), (h1, .inr (3, f1)), (h2, .inr (2, f2))]) (wr := [(h3, .inl (cI, 13312, .inl g0))]) (w1 := (fun _ : Unit => [(h0, .inr (8, (((f0.set 3 (.int 2)).set 4 (.int 0)).set 7 (.int 44)))), (h1, .inr (3, f1)), (h2, .inr (2, f2))])) ⟨hx, hb, hml, hown, hts⟩ hN hX hAE hK hP hD hS hA [0, 3, 1] [2] (ci := 8) rfl rfl rfl rfl (by decide +kernel) (by decide +kernel) (by decide +kernel) (c_X8_factor_0 l E D cI cJ cB cZ h0 f0 h2 h1 f1 f2 e3 e4 e0 e1 e2 e5 e6 e7 e8) (cwV 0 hts gX8_part_X8_factor rfl rfl rfl (by decide +kernel) ⟨Nat.le_of_ble_eq_true rfl, Nat.le_of_ble_eq_true rfl⟩) rfl hl.1 (Nat.le_of_ble_eq_true rfl) dX8_part_94 ⟨Nat.le_of_ble_eq_true rfl, Nat.le_of_ble_eq_true rfl⟩ (fun _ H locs hP hD hS => ?_)
  have hP : va_P D vwCl [(h3, .inl (cI, 13312, .inl g0)), (h0, .inr (8, (((f0.set 3 (.int 2)).set 4 (.int 0)).set 7 (.int 44)))), (h1, .inr (3, f1)), (h2, .inr (2, f2))] H := hP
  have hD : va_D A [(h3, .inl (cI, 13312, .inl g0)), (h0, .inr (8, (((f0.set 3 (.int 2)).set 4 (.int 0)).set 7 (.int 44)))), (h1, .inr (3, f1)), (h2, .inr (2, f2))] := hD
  refine lv_iload_n hx hb dX8_part_97 rfl (lv_at hl 1 rfl) ?_
  refine lv_if_eq (tgt := 121) hx hb dX8_part_98 (by decide) (fun _ => ?_) (fun c9 => absurd (by decide) c9)
  refine lv_iload_n hx hb dX8_part_121 rfl (lv_at hl 4 rfl) ?_
  refine lv_if_eq (tgt := 131) hx hb dX8_part_122 (by decide) (fun _ => ?_) (fun c9 => absurd (by decide) c9)
  refine lv_aload_n hx hb dX8_part_131 rfl (lv_at hl 3 rfl) ?_
  refine lv_bipush (v := 43) hx hb dX8_part_132 (by decide) ?_
  refine k_cVv (As := [.int 43]) (rest := []) (wc := [(h0, .inr (8, (((f0.set 3 (.int 2)).set 4 (.int 0)).set 7 (.int 44)))), (h2, .inr (2, f2)), (h3, .inl (cI, 13312, .inl g0))]) (wr := [(h1, .inr (3, f1))]) (w1 := (fun _ : Unit => [(h0, .inr (8, ((((f0.set 3 (.int 2)).set 4 (.int 0)).set 7 (.int 44)).set 13 (.int 1)))), (h2, .inr (2, f2)), (h3, .inl (cI, 13312, .inl (upd g0 12800 43)))])) ⟨hx, hb, hml, hown, hts⟩ hN hX hAE hK hP hD hS hA [1, 3, 0] [2] (ci := 8) rfl rfl rfl rfl (by decide +kernel) (by decide +kernel) (by decide +kernel) (c_X8_step_5 l E D cI cJ cB cZ h0 ((((f0.set 3 (.int 2)).set 4 (.int 0)).set 7 (.int 44))) h2 f2 h3 g0 (k_ne (by decide) (k_ne (by decide) (k_ne (by decide) e4))) (k_ne (by decide) (k_ne (by decide) (k_ne (by decide) e9))) (k_ne (by decide) (k_ne (by decide) (k_ne (by decide) e10))) e11) (cwV 1 hts gX8_part_X8_step rfl rfl rfl (by decide +kernel) ⟨Nat.le_of_ble_eq_true rfl, Nat.le_of_ble_eq_true rfl⟩) rfl hl.1 (Nat.le_of_ble_eq_true rfl) dX8_part_134 ⟨Nat.le_of_ble_eq_true rfl, Nat.le_of_ble_eq_true rfl⟩ (fun _ H locs hP hD hS => ?_)
  have hP : va_P D vwCl [(h1, .inr (3, f1)), (h0, .inr (8, ((((f0.set 3 (.int 2)).set 4 (.int 0)).set 7 (.int 44)).set 13 (.int 1)))), (h2, .inr (2, f2)), (h3, .inl (cI, 13312, .inl (upd g0 12800 43)))] H := hP
  have hD : va_D A [(h1, .inr (3, f1)), (h0, .inr (8, ((((f0.set 3 (.int 2)).set 4 (.int 0)).set 7 (.int 44)).set 13 (.int 1)))), (h2, .inr (2, f2)), (h3, .inl (cI, 13312, .inl (upd g0 12800 43)))] := hD
  have hP := hP.sub (ws' := [(h0, .inr (8, ((((f0.set 3 (.int 2)).set 4 (.int 0)).set 7 (.int 44)).set 13 (.int 1)))), (h1, .inr (3, f1)), (h2, .inr (2, f2)), (h3, .inl (cI, 13312, .inl (upd g0 12800 43)))]) [1, 0, 2, 3] rfl
  have hD := hD.sub (ws' := [(h0, .inr (8, ((((f0.set 3 (.int 2)).set 4 (.int 0)).set 7 (.int 44)).set 13 (.int 1)))), (h1, .inr (3, f1)), (h2, .inr (2, f2)), (h3, .inl (cI, 13312, .inl (upd g0 12800 43)))]) [1, 0, 2, 3] (by decide +kernel) rfl
  exact W.vret hx hb hr (fun t ht hW => ⟨⟨(), rfl, trivial, kB_mk ht hW hP hK hD⟩, hS.F ht⟩) hS.2.2 dX8_part_137
set_option maxHeartbeats 400000000 in
set_option maxRecDepth 100000 in
theorem c_X2_setStep_6 (l : Launch) (E : kE) (D : va_G) (cI cJ cB cZ : ClassId) (h0 : Nat) (f0 : List Value) (h1 : Nat) (g0 : Nat → Int32) (e0 : f0[3]? = some (.ref h1)) : kV l E D (kT cI cJ cB cZ) yX2_setStep wsX2_setStep ({ frames := 0, cells := 0, slots := 0, locals := 0 }) [.ref h0, .int 25, .int 1, .int 43] [(h0, .inr (2, f0)), (h1, .inl (cI, 13312, .inl g0))] (fun _ : Unit => [(h0, .inr (2, f0)), (h1, .inl (cI, 13312, .inl (upd g0 12801 43)))]) 0 0 := by
  intro sz
  refine Met.ofW (cc := cX2_setStep) (maxL := 4) (ret := none) (by decide) rfl ?_
  intro p e s m args below meth c s₁ B hml hv
  obtain ⟨rfl, hsz, hP, hK, hD0, hN, hX⟩ := hv
  have hx := B.exec
  have hb := B.bytes
  have hr := B.returns
  have hts := atoms_spec (ws := wsX2_setStep) B.pre
  have hown : s.vm.findClass RX2 = some m.cls := findClass_of_methodNamed B.named
  have hlocks := B.notSynchronized
  have hin2 : ∀ w ∈ wsX20, w ∈ wsX2_setStep := (fun w h => (List.mem_cons_of_mem _ (List.mem_append_right _ h)))
  subst hsz
  have hD := hD0.self (sz := s.heap.size)
  have hAE := k_AE hD0 hX
  generalize hAe : va_A [(h0, .inr (2, f0)), (h1, .inl (cI, 13312, .inl g0))] s.heap.size = A at hD hAE ⊢
  have hA : ∀ q : Nat, s.heap.size ≤ q → A q := fun q h => by rw [← hAe]; exact Or.inr h
  have hS : va_S A s.heap s.heap [] := va_S.rf
  have hP : va_P D vwCl [(h0, .inr (2, f0)), (h1, .inl (cI, 13312, .inl g0))] s.heap := hP
  have hl := lv_entry ([.ref h0, .int 25, .int 1, .int 43] : List Value) (n := 4) (Nat.le_of_ble_eq_true rfl)
  rw [lg_entry_eq]
  generalize (lg_sl ([.ref h0, .int 25, .int 1, .int 43]) ++ List.replicate (4 - (lg_sl ([.ref h0, .int 25, .int 1, .int 43])).length) Slot.unset).toArray = ls at hl ⊢
  have hl : lv_has ls 4 [(0, .ref h0), (1, .int 25), (2, .int 1), (3, .int 43)] := hl
  refine lv_iload_n hx hb dX2_setStep_0 rfl (lv_at hl 1 rfl) ?_
  refine lv_if_lt (tgt := 34) hx hb dX2_setStep_1 (by decide) (fun c9 => absurd c9 (by decide)) (fun _ => ?_)
  refine lv_iload_n hx hb dX2_setStep_4 rfl (lv_at hl 1 rfl) ?_
  refine lv_bipush (v := 26) hx hb dX2_setStep_5 (by decide) ?_
  refine lv_icmp_ge (tgt := 34) hx hb dX2_setStep_7 (by decide) (fun c9 => absurd c9 (by decide)) (fun _ => ?_)
  refine lv_iload_n hx hb dX2_setStep_10 rfl (lv_at hl 2 rfl) ?_
  refine lv_if_lt (tgt := 34) hx hb dX2_setStep_11 (by decide) (fun c9 => absurd c9 (by decide)) (fun _ => ?_)
  refine lv_iload_n hx hb dX2_setStep_14 rfl (lv_at hl 2 rfl) ?_
  refine lv_sipush (v := 512) hx hb dX2_setStep_15 (by decide) ?_
  refine lv_icmp_ge (tgt := 34) hx hb dX2_setStep_18 (by decide) (fun c9 => absurd c9 (by decide)) (fun _ => ?_)
  refine lv_aload_n hx hb dX2_setStep_21 rfl (lv_at hl 0 rfl) ?_
  refine va_get (D := D) (ref := "IntegerHouse$House") (ci := 2) (v := .ref h1) (C := RX2) (T := TX2) (N := 16) hx hb hts hin2 hown hK hP 0 rfl rfl 3 (by decide) (hts (.fieldLink RX2 22 "IntegerHouse$House" "steps" "[I") (List.mem_cons_of_mem _ (List.mem_append_left _ (List.mem_of_getElem? (i := 0) rfl)))) (fun _ h9 => h9) e0 dX2_setStep_22 ?_
  refine lv_iload_n hx hb dX2_setStep_25 rfl (lv_at hl 1 rfl) ?_
  refine lv_sipush (v := 512) hx hb dX2_setStep_26 (by decide) ?_
  refine lv_imul hx hb dX2_setStep_29 ?_
  refine k_topi (y := 12800) (by decide) ?_
  refine lv_iload_n hx hb dX2_setStep_30 rfl (lv_at hl 2 rfl) ?_
  refine lv_iadd hx hb dX2_setStep_31 ?_
  refine k_topi (y := 12801) (by decide) ?_
  refine lv_iload_n hx hb dX2_setStep_32 rfl (lv_at hl 3 rfl) ?_
  refine va_iast hx hb hK hP hD hS 1 0 rfl rfl (k_in (by decide)) dX2_setStep_33 (fun H locs hP hD hS => ?_)
  have hP : va_P D vwCl [(h0, .inr (2, f0)), (h1, .inl (cI, 13312, .inl (upd g0 12801 43)))] H := hP
  have hD : va_D A [(h0, .inr (2, f0)), (h1, .inl (cI, 13312, .inl (upd g0 12801 43)))] := hD
  exact W.vret hx hb hr (fun t ht hW => ⟨⟨(), rfl, trivial, kB_mk ht hW hP hK hD⟩, hS.F ht⟩) hS.2.2 dX2_setStep_34
set_option maxHeartbeats 400000000 in
set_option maxRecDepth 100000 in
theorem c_X8_step_6 (l : Launch) (E : kE) (D : va_G) (cI cJ cB cZ : ClassId) (h0 : Nat) (f0 : List Value) (h1 : Nat) (f1 : List Value) (h2 : Nat) (g0 : Nat → Int32) (e0 : f0[1]? = some (.ref h1)) (e1 : f0[11]? = some (.int 25)) (e2 : f0[13]? = some (.int 1)) (e3 : f1[3]? = some (.ref h2)) : kV l E D (kT cI cJ cB cZ) yX8_step wsX8_step ({ frames := 1, cells := 0, slots := 0, locals := 23 }) [.ref h0, .int 43] [(h0, .inr (8, f0)), (h1, .inr (2, f1)), (h2, .inl (cI, 13312, .inl g0))] (fun _ : Unit => [(h0, .inr (8, (f0.set 13 (.int 2)))), (h1, .inr (2, f1)), (h2, .inl (cI, 13312, .inl (upd g0 12801 43)))]) 0 0 := by
  intro sz
  refine Met.ofW (cc := cX8_step) (maxL := 2) (ret := none) (by decide) rfl ?_
  intro p e s m args below meth c s₁ B hml hv
  obtain ⟨rfl, hsz, hP, hK, hD0, hN, hX⟩ := hv
  have hx := B.exec
  have hb := B.bytes
  have hr := B.returns
  have hts := atoms_spec (ws := wsX8_step) B.pre
  have hown : s.vm.findClass RX8 = some m.cls := findClass_of_methodNamed B.named
  have hlocks := B.notSynchronized
  have hin8 : ∀ w ∈ wsX80, w ∈ wsX8_step := (fun w h => (List.mem_cons_of_mem _ (List.mem_append_left _ (List.mem_append_right _ h))))
  subst hsz
  have hD := hD0.self (sz := s.heap.size)
  have hAE := k_AE hD0 hX
  generalize hAe : va_A [(h0, .inr (8, f0)), (h1, .inr (2, f1)), (h2, .inl (cI, 13312, .inl g0))] s.heap.size = A at hD hAE ⊢
  have hA : ∀ q : Nat, s.heap.size ≤ q → A q := fun q h => by rw [← hAe]; exact Or.inr h
  have hS : va_S A s.heap s.heap [] := va_S.rf
  have hP : va_P D vwCl [(h0, .inr (8, f0)), (h1, .inr (2, f1)), (h2, .inl (cI, 13312, .inl g0))] s.heap := hP
  have hl := lv_entry ([.ref h0, .int 43] : List Value) (n := 2) (Nat.le_of_ble_eq_true rfl)
  rw [lg_entry_eq]
  generalize (lg_sl ([.ref h0, .int 43]) ++ List.replicate (2 - (lg_sl ([.ref h0, .int 43])).length) Slot.unset).toArray = ls at hl ⊢
  have hl : lv_has ls 2 [(0, .ref h0), (1, .int 43)] := hl
  refine lv_aload_n hx hb dX8_step_0 rfl (lv_at hl 0 rfl) ?_
  refine va_get (D := D) (ref := "IntegerHouse$Reader") (ci := 8) (v := .ref h1) (C := RX8) (T := TX8) (N := 15) hx hb hts hin8 hown hK hP 0 rfl rfl 1 (by decide) (hts (.fieldLink RX8 15 "IntegerHouse$Reader" "house" "LIntegerHouse$House;") (List.mem_cons_of_mem _ (List.mem_append_left _ (List.mem_append_left _ (List.mem_of_getElem? (i := 0) rfl))))) (fun _ h9 => h9) e0 dX8_step_1 ?_
  refine lv_aload_n hx hb dX8_step_4 rfl (lv_at hl 0 rfl) ?_
  refine va_get (D := D) (ref := "IntegerHouse$Reader") (ci := 8) (v := .int 25) (C := RX8) (T := TX8) (N := 15) hx hb hts hin8 hown hK hP 0 rfl rfl 11 (by decide) (hts (.fieldLink RX8 164 "IntegerHouse$Reader" "slot" "I") (List.mem_cons_of_mem _ (List.mem_append_left _ (List.mem_append_left _ (List.mem_of_getElem? (i := 1) rfl))))) (fun _ h9 => h9) e1 dX8_step_5 ?_
  refine lv_aload_n hx hb dX8_step_8 rfl (lv_at hl 0 rfl) ?_
  refine va_get (D := D) (ref := "IntegerHouse$Reader") (ci := 8) (v := .int 1) (C := RX8) (T := TX8) (N := 15) hx hb hts hin8 hown hK hP 0 rfl rfl 13 (by decide) (hts (.fieldLink RX8 170 "IntegerHouse$Reader" "steps" "I") (List.mem_cons_of_mem _ (List.mem_append_left _ (List.mem_append_left _ (List.mem_of_getElem? (i := 2) rfl))))) (fun _ h9 => h9) e2 dX8_step_9 ?_
  refine lv_iload_n hx hb dX8_step_12 rfl (lv_at hl 1 rfl) ?_
  refine k_cVv (As := [.int 25, .int 1, .int 43]) (rest := []) (wc := [(h1, .inr (2, f1)), (h2, .inl (cI, 13312, .inl g0))]) (wr := [(h0, .inr (8, f0))]) (w1 := (fun _ : Unit => [(h1, .inr (2, f1)), (h2, .inl (cI, 13312, .inl (upd g0 12801 43)))])) ⟨hx, hb, hml, hown, hts⟩ hN hX hAE hK hP hD hS hA [1, 2] [0] (ci := 2) rfl rfl rfl rfl (by decide +kernel) (by decide +kernel) (by decide +kernel) (c_X2_setStep_6 l E D cI cJ cB cZ h1 f1 h2 g0 e3) (cwV 3 hts gX8_step_X2_setStep rfl rfl rfl (by decide +kernel) ⟨Nat.le_of_ble_eq_true rfl, Nat.le_of_ble_eq_true rfl⟩) rfl hl.1 (Nat.le_of_ble_eq_true rfl) dX8_step_13 ⟨Nat.le_of_ble_eq_true rfl, Nat.le_of_ble_eq_true rfl⟩ (fun _ H locs hP hD hS => ?_)
  have hP : va_P D vwCl [(h0, .inr (8, f0)), (h1, .inr (2, f1)), (h2, .inl (cI, 13312, .inl (upd g0 12801 43)))] H := hP
  have hD : va_D A [(h0, .inr (8, f0)), (h1, .inr (2, f1)), (h2, .inl (cI, 13312, .inl (upd g0 12801 43)))] := hD
  refine lv_aload_n hx hb dX8_step_16 rfl (lv_at hl 0 rfl) ?_
  refine lv_dup hx hb dX8_step_17 rfl ?_
  refine va_get (D := D) (ref := "IntegerHouse$Reader") (ci := 8) (v := .int 1) (C := RX8) (T := TX8) (N := 15) hx hb hts hin8 hown hK hP 0 rfl rfl 13 (by decide) (hts (.fieldLink RX8 170 "IntegerHouse$Reader" "steps" "I") (List.mem_cons_of_mem _ (List.mem_append_left _ (List.mem_append_left _ (List.mem_of_getElem? (i := 2) rfl))))) (fun _ h9 => h9) e2 dX8_step_18 ?_
  refine lv_iconst (v := 1) hx hb dX8_step_21 (by decide) ?_
  refine lv_iadd hx hb dX8_step_22 ?_
  refine k_topi (y := 2) (by decide) ?_
  refine va_put (D := D) (ref := "IntegerHouse$Reader") (ci := 8) (v := .int 2) (ty := .int) (C := RX8) (T := TX8) (N := 15) hx hb hts hin8 tyX8 tyX8_ok nmX8 hown hK hP hD hS 0 rfl rfl 13 (by decide) (hts (.fieldLink RX8 170 "IntegerHouse$Reader" "steps" "I") (List.mem_cons_of_mem _ (List.mem_append_left _ (List.mem_append_left _ (List.mem_of_getElem? (i := 2) rfl))))) (fun _ h9 => h9) rfl (by decide +kernel) rfl rfl (k_len e2) dX8_step_23 (fun H locs hP hD hS => ?_)
  have hP : va_P D vwCl [(h0, .inr (8, (f0.set 13 (.int 2)))), (h1, .inr (2, f1)), (h2, .inl (cI, 13312, .inl (upd g0 12801 43)))] H := hP
  have hD : va_D A [(h0, .inr (8, (f0.set 13 (.int 2)))), (h1, .inr (2, f1)), (h2, .inl (cI, 13312, .inl (upd g0 12801 43)))] := hD
  exact W.vret hx hb hr (fun t ht hW => ⟨⟨(), rfl, trivial, kB_mk ht hW hP hK hD⟩, hS.F ht⟩) hS.2.2 dX8_step_26
set_option maxHeartbeats 400000000 in
set_option maxRecDepth 100000 in
theorem c_X8_term_2 (l : Launch) (E : kE) (D : va_G) (cI cJ cB cZ : ClassId) (h0 : Nat) (f0 : List Value) (h1 : Nat) (f1 : List Value) (h2 : Nat) (f2 : List Value) (h3 : Nat) (g0 : Nat → Int32) (e0 : f0[7]? = some (.int 0)) (e1 : f0[0]? = some (.ref h1)) (e2 : f0[6]? = some (.int 0)) (e3 : f1[5]? = some (.int 0)) (e4 : f0[1]? = some (.ref h2)) (e5 : f2[10]? = some (.int 0)) (e6 : f0[3]? = some (.int 0)) (e7 : f0[8]? = some (.int 0)) (e8 : f0[4]? = some (.int 0)) (e9 : f0[11]? = some (.int 25)) (e10 : f0[13]? = some (.int 0)) (e11 : f2[3]? = some (.ref h3)) : kV l E D (kT cI cJ cB cZ) yX8_term wsX8_term ({ frames := 3, cells := 0, slots := 0, locals := 69 }) [.ref h0] [(h0, .inr (8, f0)), (h1, .inr (3, f1)), (h2, .inr (2, f2)), (h3, .inl (cI, 13312, .inl g0))] (fun _ : Unit => [(h0, .inr (8, (((((f0.set 3 (.int 2)).set 4 (.int 0)).set 7 (.int 44)).set 13 (.int 1)).set 13 (.int 2)))), (h1, .inr (3, f1)), (h2, .inr (2, f2)), (h3, .inl (cI, 13312, .inl (upd (upd g0 12800 43) 12801 43)))]) 0 0 := by
  intro sz
  refine Met.ofW (cc := cX8_term) (maxL := 3) (ret := none) (by decide) rfl ?_
  intro p e s m args below meth c s₁ B hml hv
  obtain ⟨rfl, hsz, hP, hK, hD0, hN, hX⟩ := hv
  have hx := B.exec
  have hb := B.bytes
  have hr := B.returns
  have hts := atoms_spec (ws := wsX8_term) B.pre
  have hown : s.vm.findClass RX8 = some m.cls := findClass_of_methodNamed B.named
  have hlocks := B.notSynchronized
  have hin8 : ∀ w ∈ wsX80, w ∈ wsX8_term := (fun w h => (List.mem_cons_of_mem _ (List.mem_append_left _ (List.mem_append_left _ (List.mem_append_right _ h)))))
  subst hsz
  have hD := hD0.self (sz := s.heap.size)
  have hAE := k_AE hD0 hX
  generalize hAe : va_A [(h0, .inr (8, f0)), (h1, .inr (3, f1)), (h2, .inr (2, f2)), (h3, .inl (cI, 13312, .inl g0))] s.heap.size = A at hD hAE ⊢
  have hA : ∀ q : Nat, s.heap.size ≤ q → A q := fun q h => by rw [← hAe]; exact Or.inr h
  have hS : va_S A s.heap s.heap [] := va_S.rf
  have hP : va_P D vwCl [(h0, .inr (8, f0)), (h1, .inr (3, f1)), (h2, .inr (2, f2)), (h3, .inl (cI, 13312, .inl g0))] s.heap := hP
  have hl := lv_entry ([.ref h0] : List Value) (n := 3) (Nat.le_of_ble_eq_true rfl)
  rw [lg_entry_eq]
  generalize (lg_sl ([.ref h0]) ++ List.replicate (3 - (lg_sl ([.ref h0])).length) Slot.unset).toArray = ls at hl ⊢
  have hl : lv_has ls 3 [(0, .ref h0)] := hl
  refine lv_aload_n hx hb dX8_term_0 rfl (lv_at hl 0 rfl) ?_
  refine va_get (D := D) (ref := "IntegerHouse$Reader") (ci := 8) (v := .int 0) (C := RX8) (T := TX8) (N := 15) hx hb hts hin8 hown hK hP 0 rfl rfl 7 (by decide) (hts (.fieldLink RX8 39 "IntegerHouse$Reader" "kind" "I") (List.mem_cons_of_mem _ (List.mem_append_left _ (List.mem_append_left _ (List.mem_append_left _ (List.mem_append_left _ (List.mem_of_getElem? (i := 0) rfl))))))) (fun _ h9 => h9) e0 dX8_term_1 ?_
  refine lv_bipush (v := 12) hx hb dX8_term_4 (by decide) ?_
  refine lv_icmp_ne (tgt := 13) hx hb dX8_term_6 (by decide) (fun _ => ?_) (fun c9 => absurd c9 (by decide))
  refine lv_iconst (v := 0) hx hb dX8_term_13 (by decide) ?_
  refine lv_istore_n (lv' := [(1, .int 0), (0, .ref h0)]) hx hb dX8_term_14 rfl hl (by decide) rfl (fun ls hl => ?_)
  refine lv_iload_n hx hb dX8_term_15 rfl (lv_at hl 0 rfl) ?_
  refine lv_if_eq (tgt := 27) hx hb dX8_term_16 (by decide) (fun _ => ?_) (fun c9 => absurd (by decide) c9)
  refine lv_aload_n hx hb dX8_term_27 rfl (lv_at hl 1 rfl) ?_
  refine lv_iload_n hx hb dX8_term_28 rfl (lv_at hl 0 rfl) ?_
  refine k_cVv (As := [.int 0]) (rest := []) (wc := [(h0, .inr (8, f0)), (h1, .inr (3, f1)), (h2, .inr (2, f2)), (h3, .inl (cI, 13312, .inl g0))]) (wr := []) (w1 := (fun _ : Unit => [(h0, .inr (8, ((((f0.set 3 (.int 2)).set 4 (.int 0)).set 7 (.int 44)).set 13 (.int 1)))), (h1, .inr (3, f1)), (h2, .inr (2, f2)), (h3, .inl (cI, 13312, .inl (upd g0 12800 43)))])) ⟨hx, hb, hml, hown, hts⟩ hN hX hAE hK hP hD hS hA [0, 1, 2, 3] [] (ci := 8) rfl rfl rfl rfl (by decide +kernel) (by decide +kernel) (by decide +kernel) (c_X8_part_2 l E D cI cJ cB cZ h0 f0 h1 f1 h2 f2 h3 g0 e1 e2 e3 e0 e4 e5 e6 e7 e8 e9 e10 e11) (cwV 1 hts gX8_term_X8_part rfl rfl rfl (by decide +kernel) ⟨Nat.le_of_ble_eq_true rfl, Nat.le_of_ble_eq_true rfl⟩) rfl hl.1 (Nat.le_of_ble_eq_true rfl) dX8_term_29 ⟨Nat.le_of_ble_eq_true rfl, Nat.le_of_ble_eq_true rfl⟩ (fun _ H locs hP hD hS => ?_)
  have hP : va_P D vwCl [(h0, .inr (8, ((((f0.set 3 (.int 2)).set 4 (.int 0)).set 7 (.int 44)).set 13 (.int 1)))), (h1, .inr (3, f1)), (h2, .inr (2, f2)), (h3, .inl (cI, 13312, .inl (upd g0 12800 43)))] H := hP
  have hD : va_D A [(h0, .inr (8, ((((f0.set 3 (.int 2)).set 4 (.int 0)).set 7 (.int 44)).set 13 (.int 1)))), (h1, .inr (3, f1)), (h2, .inr (2, f2)), (h3, .inl (cI, 13312, .inl (upd g0 12800 43)))] := hD
  refine lv_iconst (v := 0) hx hb dX8_term_32 (by decide) ?_
  refine lv_istore_n (lv' := [(2, .int 0), (1, .int 0), (0, .ref h0)]) hx hb dX8_term_33 rfl hl (by decide) rfl (fun ls hl => ?_)
  refine lv_iload_n hx hb dX8_term_34 rfl (lv_at hl 0 rfl) ?_
  refine lv_bipush (v := 120) hx hb dX8_term_35 (by decide) ?_
  refine lv_icmp_ge (tgt := 102) hx hb dX8_term_37 (by decide) (fun c9 => absurd c9 (by decide)) (fun _ => ?_)
  refine lv_aload_n hx hb dX8_term_40 rfl (lv_at hl 2 rfl) ?_
  refine va_get (D := D) (ref := "IntegerHouse$Reader") (ci := 8) (v := .int 44) (C := RX8) (T := TX8) (N := 15) hx hb hts hin8 hown hK hP 0 rfl rfl 7 (by decide) (hts (.fieldLink RX8 39 "IntegerHouse$Reader" "kind" "I") (List.mem_cons_of_mem _ (List.mem_append_left _ (List.mem_append_left _ (List.mem_append_left _ (List.mem_append_left _ (List.mem_of_getElem? (i := 0) rfl))))))) (fun _ h9 => h9) (k_ne (by decide) (k_set (k_ne (by decide) (k_ne (by decide) e0)))) dX8_term_41 ?_
  refine lv_bipush (v := 11) hx hb dX8_term_44 (by decide) ?_
  refine lv_icmp_eq (tgt := 58) hx hb dX8_term_46 (by decide) (fun c9 => absurd c9 (by decide)) (fun _ => ?_)
  refine lv_aload_n hx hb dX8_term_49 rfl (lv_at hl 2 rfl) ?_
  refine va_get (D := D) (ref := "IntegerHouse$Reader") (ci := 8) (v := .int 44) (C := RX8) (T := TX8) (N := 15) hx hb hts hin8 hown hK hP 0 rfl rfl 7 (by decide) (hts (.fieldLink RX8 39 "IntegerHouse$Reader" "kind" "I") (List.mem_cons_of_mem _ (List.mem_append_left _ (List.mem_append_left _ (List.mem_append_left _ (List.mem_append_left _ (List.mem_of_getElem? (i := 0) rfl))))))) (fun _ h9 => h9) (k_ne (by decide) (k_set (k_ne (by decide) (k_ne (by decide) e0)))) dX8_term_50 ?_
  refine lv_bipush (v := 12) hx hb dX8_term_53 (by decide) ?_
  refine lv_icmp_ne (tgt := 102) hx hb dX8_term_55 (by decide) (fun _ => ?_) (fun c9 => absurd c9 (by decide))
  refine lv_aload_n hx hb dX8_term_102 rfl (lv_at hl 2 rfl) ?_
  refine lv_bipush (v := 43) hx hb dX8_term_103 (by decide) ?_
  refine k_cVv (As := [.int 43]) (rest := []) (wc := [(h0, .inr (8, ((((f0.set 3 (.int 2)).set 4 (.int 0)).set 7 (.int 44)).set 13 (.int 1)))), (h2, .inr (2, f2)), (h3, .inl (cI, 13312, .inl (upd g0 12800 43)))]) (wr := [(h1, .inr (3, f1))]) (w1 := (fun _ : Unit => [(h0, .inr (8, (((((f0.set 3 (.int 2)).set 4 (.int 0)).set 7 (.int 44)).set 13 (.int 1)).set 13 (.int 2)))), (h2, .inr (2, f2)), (h3, .inl (cI, 13312, .inl (upd (upd g0 12800 43) 12801 43)))])) ⟨hx, hb, hml, hown, hts⟩ hN hX hAE hK hP hD hS hA [0, 2, 3] [1] (ci := 8) rfl rfl rfl rfl (by decide +kernel) (by decide +kernel) (by decide +kernel) (c_X8_step_6 l E D cI cJ cB cZ h0 (((((f0.set 3 (.int 2)).set 4 (.int 0)).set 7 (.int 44)).set 13 (.int 1))) h2 f2 h3 ((upd g0 12800 43)) (k_ne (by decide) (k_ne (by decide) (k_ne (by decide) (k_ne (by decide) e4)))) (k_ne (by decide) (k_ne (by decide) (k_ne (by decide) (k_ne (by decide) e9)))) (k_set (k_ne (by decide) (k_ne (by decide) (k_ne (by decide) e10)))) e11) (cwV 1 hts gX8_term_X8_step rfl rfl rfl (by decide +kernel) ⟨Nat.le_of_ble_eq_true rfl, Nat.le_of_ble_eq_true rfl⟩) rfl hl.1 (Nat.le_of_ble_eq_true rfl) dX8_term_105 ⟨Nat.le_of_ble_eq_true rfl, Nat.le_of_ble_eq_true rfl⟩ (fun _ H locs hP hD hS => ?_)
  have hP : va_P D vwCl [(h1, .inr (3, f1)), (h0, .inr (8, (((((f0.set 3 (.int 2)).set 4 (.int 0)).set 7 (.int 44)).set 13 (.int 1)).set 13 (.int 2)))), (h2, .inr (2, f2)), (h3, .inl (cI, 13312, .inl (upd (upd g0 12800 43) 12801 43)))] H := hP
  have hD : va_D A [(h1, .inr (3, f1)), (h0, .inr (8, (((((f0.set 3 (.int 2)).set 4 (.int 0)).set 7 (.int 44)).set 13 (.int 1)).set 13 (.int 2)))), (h2, .inr (2, f2)), (h3, .inl (cI, 13312, .inl (upd (upd g0 12800 43) 12801 43)))] := hD
  have hP := hP.sub (ws' := [(h0, .inr (8, (((((f0.set 3 (.int 2)).set 4 (.int 0)).set 7 (.int 44)).set 13 (.int 1)).set 13 (.int 2)))), (h1, .inr (3, f1)), (h2, .inr (2, f2)), (h3, .inl (cI, 13312, .inl (upd (upd g0 12800 43) 12801 43)))]) [1, 0, 2, 3] rfl
  have hD := hD.sub (ws' := [(h0, .inr (8, (((((f0.set 3 (.int 2)).set 4 (.int 0)).set 7 (.int 44)).set 13 (.int 1)).set 13 (.int 2)))), (h1, .inr (3, f1)), (h2, .inr (2, f2)), (h3, .inl (cI, 13312, .inl (upd (upd g0 12800 43) 12801 43)))]) [1, 0, 2, 3] (by decide +kernel) rfl
  exact W.vret hx hb hr (fun t ht hW => ⟨⟨(), rfl, trivial, kB_mk ht hW hP hK hD⟩, hS.F ht⟩) hS.2.2 dX8_term_108
set_option maxHeartbeats 400000000 in
set_option maxRecDepth 100000 in
theorem c_X2_setFact_4 (l : Launch) (E : kE) (D : va_G) (cI cJ cB cZ : ClassId) (h0 : Nat) (f0 : List Value) (h1 : Nat) (g0 : Nat → Int32) (e0 : f0[5]? = some (.ref h1)) : kV l E D (kT cI cJ cB cZ) yX2_setFact wsX2_setFact ({ frames := 0, cells := 0, slots := 0, locals := 0 }) [.ref h0, .int 25, .int 0, .int 0] [(h0, .inr (2, f0)), (h1, .inl (cI, 260, .inl g0))] (fun _ : Unit => [(h0, .inr (2, f0)), (h1, .inl (cI, 260, .inl (upd g0 250 0)))]) 0 0 := by
  intro sz
  refine Met.ofW (cc := cX2_setFact) (maxL := 4) (ret := none) (by decide) rfl ?_
  intro p e s m args below meth c s₁ B hml hv
  obtain ⟨rfl, hsz, hP, hK, hD0, hN, hX⟩ := hv
  have hx := B.exec
  have hb := B.bytes
  have hr := B.returns
  have hts := atoms_spec (ws := wsX2_setFact) B.pre
  have hown : s.vm.findClass RX2 = some m.cls := findClass_of_methodNamed B.named
  have hlocks := B.notSynchronized
  have hin2 : ∀ w ∈ wsX20, w ∈ wsX2_setFact := (fun w h => (List.mem_cons_of_mem _ (List.mem_append_right _ h)))
  subst hsz
  have hD := hD0.self (sz := s.heap.size)
  have hAE := k_AE hD0 hX
  generalize hAe : va_A [(h0, .inr (2, f0)), (h1, .inl (cI, 260, .inl g0))] s.heap.size = A at hD hAE ⊢
  have hA : ∀ q : Nat, s.heap.size ≤ q → A q := fun q h => by rw [← hAe]; exact Or.inr h
  have hS : va_S A s.heap s.heap [] := va_S.rf
  have hP : va_P D vwCl [(h0, .inr (2, f0)), (h1, .inl (cI, 260, .inl g0))] s.heap := hP
  have hl := lv_entry ([.ref h0, .int 25, .int 0, .int 0] : List Value) (n := 4) (Nat.le_of_ble_eq_true rfl)
  rw [lg_entry_eq]
  generalize (lg_sl ([.ref h0, .int 25, .int 0, .int 0]) ++ List.replicate (4 - (lg_sl ([.ref h0, .int 25, .int 0, .int 0])).length) Slot.unset).toArray = ls at hl ⊢
  have hl : lv_has ls 4 [(0, .ref h0), (1, .int 25), (2, .int 0), (3, .int 0)] := hl
  refine lv_iload_n hx hb dX2_setFact_0 rfl (lv_at hl 1 rfl) ?_
  refine lv_if_lt (tgt := 32) hx hb dX2_setFact_1 (by decide) (fun c9 => absurd c9 (by decide)) (fun _ => ?_)
  refine lv_iload_n hx hb dX2_setFact_4 rfl (lv_at hl 1 rfl) ?_
  refine lv_bipush (v := 26) hx hb dX2_setFact_5 (by decide) ?_
  refine lv_icmp_ge (tgt := 32) hx hb dX2_setFact_7 (by decide) (fun c9 => absurd c9 (by decide)) (fun _ => ?_)
  refine lv_iload_n hx hb dX2_setFact_10 rfl (lv_at hl 2 rfl) ?_
  refine lv_if_lt (tgt := 32) hx hb dX2_setFact_11 (by decide) (fun c9 => absurd c9 (by decide)) (fun _ => ?_)
  refine lv_iload_n hx hb dX2_setFact_14 rfl (lv_at hl 2 rfl) ?_
  refine lv_bipush (v := 10) hx hb dX2_setFact_15 (by decide) ?_
  refine lv_icmp_ge (tgt := 32) hx hb dX2_setFact_17 (by decide) (fun c9 => absurd c9 (by decide)) (fun _ => ?_)
  refine lv_aload_n hx hb dX2_setFact_20 rfl (lv_at hl 0 rfl) ?_
  refine va_get (D := D) (ref := "IntegerHouse$House") (ci := 2) (v := .ref h1) (C := RX2) (T := TX2) (N := 16) hx hb hts hin2 hown hK hP 0 rfl rfl 5 (by decide) (hts (.fieldLink RX2 28 "IntegerHouse$House" "facts" "[I") (List.mem_cons_of_mem _ (List.mem_append_left _ (List.mem_of_getElem? (i := 0) rfl)))) (fun _ h9 => h9) e0 dX2_setFact_21 ?_
  refine lv_iload_n hx hb dX2_setFact_24 rfl (lv_at hl 1 rfl) ?_
  refine lv_bipush (v := 10) hx hb dX2_setFact_25 (by decide) ?_
  refine lv_imul hx hb dX2_setFact_27 ?_
  refine k_topi (y := 250) (by decide) ?_
  refine lv_iload_n hx hb dX2_setFact_28 rfl (lv_at hl 2 rfl) ?_
  refine lv_iadd hx hb dX2_setFact_29 ?_
  refine k_topi (y := 250) (by decide) ?_
  refine lv_iload_n hx hb dX2_setFact_30 rfl (lv_at hl 3 rfl) ?_
  refine va_iast hx hb hK hP hD hS 1 0 rfl rfl (k_in (by decide)) dX2_setFact_31 (fun H locs hP hD hS => ?_)
  have hP : va_P D vwCl [(h0, .inr (2, f0)), (h1, .inl (cI, 260, .inl (upd g0 250 0)))] H := hP
  have hD : va_D A [(h0, .inr (2, f0)), (h1, .inl (cI, 260, .inl (upd g0 250 0)))] := hD
  exact W.vret hx hb hr (fun t ht hW => ⟨⟨(), rfl, trivial, kB_mk ht hW hP hK hD⟩, hS.F ht⟩) hS.2.2 dX2_setFact_32
set_option maxHeartbeats 400000000 in
set_option maxRecDepth 100000 in
theorem c_X2_setFact_5 (l : Launch) (E : kE) (D : va_G) (cI cJ cB cZ : ClassId) (h0 : Nat) (f0 : List Value) (h1 : Nat) (g0 : Nat → Int32) (e0 : f0[5]? = some (.ref h1)) : kV l E D (kT cI cJ cB cZ) yX2_setFact wsX2_setFact ({ frames := 0, cells := 0, slots := 0, locals := 0 }) [.ref h0, .int 25, .int 1, .int 2] [(h0, .inr (2, f0)), (h1, .inl (cI, 260, .inl g0))] (fun _ : Unit => [(h0, .inr (2, f0)), (h1, .inl (cI, 260, .inl (upd g0 251 2)))]) 0 0 := by
  intro sz
  refine Met.ofW (cc := cX2_setFact) (maxL := 4) (ret := none) (by decide) rfl ?_
  intro p e s m args below meth c s₁ B hml hv
  obtain ⟨rfl, hsz, hP, hK, hD0, hN, hX⟩ := hv
  have hx := B.exec
  have hb := B.bytes
  have hr := B.returns
  have hts := atoms_spec (ws := wsX2_setFact) B.pre
  have hown : s.vm.findClass RX2 = some m.cls := findClass_of_methodNamed B.named
  have hlocks := B.notSynchronized
  have hin2 : ∀ w ∈ wsX20, w ∈ wsX2_setFact := (fun w h => (List.mem_cons_of_mem _ (List.mem_append_right _ h)))
  subst hsz
  have hD := hD0.self (sz := s.heap.size)
  have hAE := k_AE hD0 hX
  generalize hAe : va_A [(h0, .inr (2, f0)), (h1, .inl (cI, 260, .inl g0))] s.heap.size = A at hD hAE ⊢
  have hA : ∀ q : Nat, s.heap.size ≤ q → A q := fun q h => by rw [← hAe]; exact Or.inr h
  have hS : va_S A s.heap s.heap [] := va_S.rf
  have hP : va_P D vwCl [(h0, .inr (2, f0)), (h1, .inl (cI, 260, .inl g0))] s.heap := hP
  have hl := lv_entry ([.ref h0, .int 25, .int 1, .int 2] : List Value) (n := 4) (Nat.le_of_ble_eq_true rfl)
  rw [lg_entry_eq]
  generalize (lg_sl ([.ref h0, .int 25, .int 1, .int 2]) ++ List.replicate (4 - (lg_sl ([.ref h0, .int 25, .int 1, .int 2])).length) Slot.unset).toArray = ls at hl ⊢
  have hl : lv_has ls 4 [(0, .ref h0), (1, .int 25), (2, .int 1), (3, .int 2)] := hl
  refine lv_iload_n hx hb dX2_setFact_0 rfl (lv_at hl 1 rfl) ?_
  refine lv_if_lt (tgt := 32) hx hb dX2_setFact_1 (by decide) (fun c9 => absurd c9 (by decide)) (fun _ => ?_)
  refine lv_iload_n hx hb dX2_setFact_4 rfl (lv_at hl 1 rfl) ?_
  refine lv_bipush (v := 26) hx hb dX2_setFact_5 (by decide) ?_
  refine lv_icmp_ge (tgt := 32) hx hb dX2_setFact_7 (by decide) (fun c9 => absurd c9 (by decide)) (fun _ => ?_)
  refine lv_iload_n hx hb dX2_setFact_10 rfl (lv_at hl 2 rfl) ?_
  refine lv_if_lt (tgt := 32) hx hb dX2_setFact_11 (by decide) (fun c9 => absurd c9 (by decide)) (fun _ => ?_)
  refine lv_iload_n hx hb dX2_setFact_14 rfl (lv_at hl 2 rfl) ?_
  refine lv_bipush (v := 10) hx hb dX2_setFact_15 (by decide) ?_
  refine lv_icmp_ge (tgt := 32) hx hb dX2_setFact_17 (by decide) (fun c9 => absurd c9 (by decide)) (fun _ => ?_)
  refine lv_aload_n hx hb dX2_setFact_20 rfl (lv_at hl 0 rfl) ?_
  refine va_get (D := D) (ref := "IntegerHouse$House") (ci := 2) (v := .ref h1) (C := RX2) (T := TX2) (N := 16) hx hb hts hin2 hown hK hP 0 rfl rfl 5 (by decide) (hts (.fieldLink RX2 28 "IntegerHouse$House" "facts" "[I") (List.mem_cons_of_mem _ (List.mem_append_left _ (List.mem_of_getElem? (i := 0) rfl)))) (fun _ h9 => h9) e0 dX2_setFact_21 ?_
  refine lv_iload_n hx hb dX2_setFact_24 rfl (lv_at hl 1 rfl) ?_
  refine lv_bipush (v := 10) hx hb dX2_setFact_25 (by decide) ?_
  refine lv_imul hx hb dX2_setFact_27 ?_
  refine k_topi (y := 250) (by decide) ?_
  refine lv_iload_n hx hb dX2_setFact_28 rfl (lv_at hl 2 rfl) ?_
  refine lv_iadd hx hb dX2_setFact_29 ?_
  refine k_topi (y := 251) (by decide) ?_
  refine lv_iload_n hx hb dX2_setFact_30 rfl (lv_at hl 3 rfl) ?_
  refine va_iast hx hb hK hP hD hS 1 0 rfl rfl (k_in (by decide)) dX2_setFact_31 (fun H locs hP hD hS => ?_)
  have hP : va_P D vwCl [(h0, .inr (2, f0)), (h1, .inl (cI, 260, .inl (upd g0 251 2)))] H := hP
  have hD : va_D A [(h0, .inr (2, f0)), (h1, .inl (cI, 260, .inl (upd g0 251 2)))] := hD
  exact W.vret hx hb hr (fun t ht hW => ⟨⟨(), rfl, trivial, kB_mk ht hW hP hK hD⟩, hS.F ht⟩) hS.2.2 dX2_setFact_32
set_option maxHeartbeats 400000000 in
set_option maxRecDepth 100000 in
theorem c_X8_readInto_1 (l : Launch) (E : kE) (D : va_G) (cI cJ cB cZ : ClassId) (h0 : Nat) (f0 : List Value) (h1 : Nat) (f1 : List Value) (h2 : Nat) (g0 : Nat → Int32) (h3 : Nat) (f2 : List Value) (h4 : Nat) (g1 : Nat → Int32) (e0 : f0[11]? = some (.int 0)) (e1 : f0[12]? = some (.int 0)) (e2 : f0[13]? = some (.int 0)) (e3 : f0[14]? = some (.int 0)) (e4 : f0[1]? = some (.ref h1)) (e5 : f0[8]? = some (.int 0)) (e6 : f1[5]? = some (.ref h2)) (e7 : f0[7]? = some (.int 0)) (e8 : f0[0]? = some (.ref h3)) (e9 : f0[6]? = some (.int 0)) (e10 : f2[5]? = some (.int 0)) (e11 : f1[10]? = some (.int 0)) (e12 : f0[3]? = some (.int 0)) (e13 : f0[4]? = some (.int 0)) (e14 : f1[3]? = some (.ref h4)) : kV l E D (kT cI cJ cB cZ) yX8_readInto wsX8_readInto ({ frames := 4, cells := 0, slots := 0, locals := 91 }) [.ref h0, .int 25] [(h0, .inr (8, f0)), (h1, .inr (2, f1)), (h2, .inl (cI, 260, .inl g0)), (h3, .inr (3, f2)), (h4, .inl (cI, 13312, .inl g1))] (fun _ : Unit => [(h0, .inr (8, (((((((((f0.set 11 (.int 25)).set 12 (.int 0)).set 13 (.int 0)).set 14 (.int 0)).set 3 (.int 2)).set 4 (.int 0)).set 7 (.int 44)).set 13 (.int 1)).set 13 (.int 2)))), (h1, .inr (2, f1)), (h2, .inl (cI, 260, .inl (upd (upd (upd g0 259 0) 250 0) 251 2))), (h3, .inr (3, f2)), (h4, .inl (cI, 13312, .inl (upd (upd g1 12800 43) 12801 43)))]) 0 0 := by
  intro sz
  refine Met.ofW (cc := cX8_readInto) (maxL := 2) (ret := none) (by decide) rfl ?_
  intro p e s m args below meth c s₁ B hml hv
  obtain ⟨rfl, hsz, hP, hK, hD0, hN, hX⟩ := hv
  have hx := B.exec
  have hb := B.bytes
  have hr := B.returns
  have hts := atoms_spec (ws := wsX8_readInto) B.pre
  have hown : s.vm.findClass RX8 = some m.cls := findClass_of_methodNamed B.named
  have hlocks := B.notSynchronized
  have hin8 : ∀ w ∈ wsX80, w ∈ wsX8_readInto := (fun w h => (List.mem_cons_of_mem _ (List.mem_append_left _ (List.mem_append_left _ (List.mem_append_right _ h)))))
  subst hsz
  have hD := hD0.self (sz := s.heap.size)
  have hAE := k_AE hD0 hX
  generalize hAe : va_A [(h0, .inr (8, f0)), (h1, .inr (2, f1)), (h2, .inl (cI, 260, .inl g0)), (h3, .inr (3, f2)), (h4, .inl (cI, 13312, .inl g1))] s.heap.size = A at hD hAE ⊢
  have hA : ∀ q : Nat, s.heap.size ≤ q → A q := fun q h => by rw [← hAe]; exact Or.inr h
  have hS : va_S A s.heap s.heap [] := va_S.rf
  have hP : va_P D vwCl [(h0, .inr (8, f0)), (h1, .inr (2, f1)), (h2, .inl (cI, 260, .inl g0)), (h3, .inr (3, f2)), (h4, .inl (cI, 13312, .inl g1))] s.heap := hP
  have hl := lv_entry ([.ref h0, .int 25] : List Value) (n := 2) (Nat.le_of_ble_eq_true rfl)
  rw [lg_entry_eq]
  generalize (lg_sl ([.ref h0, .int 25]) ++ List.replicate (2 - (lg_sl ([.ref h0, .int 25])).length) Slot.unset).toArray = ls at hl ⊢
  have hl : lv_has ls 2 [(0, .ref h0), (1, .int 25)] := hl
  refine lv_aload_n hx hb dX8_readInto_0 rfl (lv_at hl 0 rfl) ?_
  refine lv_iload_n hx hb dX8_readInto_1 rfl (lv_at hl 1 rfl) ?_
  refine va_put (D := D) (ref := "IntegerHouse$Reader") (ci := 8) (v := .int 25) (ty := .int) (C := RX8) (T := TX8) (N := 15) hx hb hts hin8 tyX8 tyX8_ok nmX8 hown hK hP hD hS 0 rfl rfl 11 (by decide) (hts (.fieldLink RX8 164 "IntegerHouse$Reader" "slot" "I") (List.mem_cons_of_mem _ (List.mem_append_left _ (List.mem_append_left _ (List.mem_append_left _ (List.mem_append_left _ (List.mem_of_getElem? (i := 0) rfl))))))) (fun _ h9 => h9) rfl (by decide +kernel) rfl rfl (k_len e0) dX8_readInto_2 (fun H locs hP hD hS => ?_)
  have hP : va_P D vwCl [(h0, .inr (8, (f0.set 11 (.int 25)))), (h1, .inr (2, f1)), (h2, .inl (cI, 260, .inl g0)), (h3, .inr (3, f2)), (h4, .inl (cI, 13312, .inl g1))] H := hP
  have hD : va_D A [(h0, .inr (8, (f0.set 11 (.int 25)))), (h1, .inr (2, f1)), (h2, .inl (cI, 260, .inl g0)), (h3, .inr (3, f2)), (h4, .inl (cI, 13312, .inl g1))] := hD
  refine lv_aload_n hx hb dX8_readInto_5 rfl (lv_at hl 0 rfl) ?_
  refine lv_iconst (v := 0) hx hb dX8_readInto_6 (by decide) ?_
  refine va_put (D := D) (ref := "IntegerHouse$Reader") (ci := 8) (v := .int 0) (ty := .int) (C := RX8) (T := TX8) (N := 15) hx hb hts hin8 tyX8 tyX8_ok nmX8 hown hK hP hD hS 0 rfl rfl 12 (by decide) (hts (.fieldLink RX8 167 "IntegerHouse$Reader" "tokens" "I") (List.mem_cons_of_mem _ (List.mem_append_left _ (List.mem_append_left _ (List.mem_append_left _ (List.mem_append_left _ (List.mem_of_getElem? (i := 1) rfl))))))) (fun _ h9 => h9) rfl (by decide +kernel) rfl rfl (k_len (k_ne (by decide) e1)) dX8_readInto_7 (fun H locs hP hD hS => ?_)
  have hP : va_P D vwCl [(h0, .inr (8, ((f0.set 11 (.int 25)).set 12 (.int 0)))), (h1, .inr (2, f1)), (h2, .inl (cI, 260, .inl g0)), (h3, .inr (3, f2)), (h4, .inl (cI, 13312, .inl g1))] H := hP
  have hD : va_D A [(h0, .inr (8, ((f0.set 11 (.int 25)).set 12 (.int 0)))), (h1, .inr (2, f1)), (h2, .inl (cI, 260, .inl g0)), (h3, .inr (3, f2)), (h4, .inl (cI, 13312, .inl g1))] := hD
  refine lv_aload_n hx hb dX8_readInto_10 rfl (lv_at hl 0 rfl) ?_
  refine lv_iconst (v := 0) hx hb dX8_readInto_11 (by decide) ?_
  refine va_put (D := D) (ref := "IntegerHouse$Reader") (ci := 8) (v := .int 0) (ty := .int) (C := RX8) (T := TX8) (N := 15) hx hb hts hin8 tyX8 tyX8_ok nmX8 hown hK hP hD hS 0 rfl rfl 13 (by decide) (hts (.fieldLink RX8 170 "IntegerHouse$Reader" "steps" "I") (List.mem_cons_of_mem _ (List.mem_append_left _ (List.mem_append_left _ (List.mem_append_left _ (List.mem_append_left _ (List.mem_of_getElem? (i := 2) rfl))))))) (fun _ h9 => h9) rfl (by decide +kernel) rfl rfl (k_len (k_ne (by decide) (k_ne (by decide) e2))) dX8_readInto_12 (fun H locs hP hD hS => ?_)
  have hP : va_P D vwCl [(h0, .inr (8, (((f0.set 11 (.int 25)).set 12 (.int 0)).set 13 (.int 0)))), (h1, .inr (2, f1)), (h2, .inl (cI, 260, .inl g0)), (h3, .inr (3, f2)), (h4, .inl (cI, 13312, .inl g1))] H := hP
  have hD : va_D A [(h0, .inr (8, (((f0.set 11 (.int 25)).set 12 (.int 0)).set 13 (.int 0)))), (h1, .inr (2, f1)), (h2, .inl (cI, 260, .inl g0)), (h3, .inr (3, f2)), (h4, .inl (cI, 13312, .inl g1))] := hD
  refine lv_aload_n hx hb dX8_readInto_15 rfl (lv_at hl 0 rfl) ?_
  refine lv_iconst (v := 0) hx hb dX8_readInto_16 (by decide) ?_
  refine va_put (D := D) (ref := "IntegerHouse$Reader") (ci := 8) (v := .int 0) (ty := .int) (C := RX8) (T := TX8) (N := 15) hx hb hts hin8 tyX8 tyX8_ok nmX8 hown hK hP hD hS 0 rfl rfl 14 (by decide) (hts (.fieldLink RX8 173 "IntegerHouse$Reader" "open" "I") (List.mem_cons_of_mem _ (List.mem_append_left _ (List.mem_append_left _ (List.mem_append_left _ (List.mem_append_left _ (List.mem_of_getElem? (i := 3) rfl))))))) (fun _ h9 => h9) rfl (by decide +kernel) rfl rfl (k_len (k_ne (by decide) (k_ne (by decide) (k_ne (by decide) e3)))) dX8_readInto_17 (fun H locs hP hD hS => ?_)
  have hP : va_P D vwCl [(h0, .inr (8, ((((f0.set 11 (.int 25)).set 12 (.int 0)).set 13 (.int 0)).set 14 (.int 0)))), (h1, .inr (2, f1)), (h2, .inl (cI, 260, .inl g0)), (h3, .inr (3, f2)), (h4, .inl (cI, 13312, .inl g1))] H := hP
  have hD : va_D A [(h0, .inr (8, ((((f0.set 11 (.int 25)).set 12 (.int 0)).set 13 (.int 0)).set 14 (.int 0)))), (h1, .inr (2, f1)), (h2, .inl (cI, 260, .inl g0)), (h3, .inr (3, f2)), (h4, .inl (cI, 13312, .inl g1))] := hD
  refine lv_aload_n hx hb dX8_readInto_20 rfl (lv_at hl 0 rfl) ?_
  refine va_get (D := D) (ref := "IntegerHouse$Reader") (ci := 8) (v := .ref h1) (C := RX8) (T := TX8) (N := 15) hx hb hts hin8 hown hK hP 0 rfl rfl 1 (by decide) (hts (.fieldLink RX8 15 "IntegerHouse$Reader" "house" "LIntegerHouse$House;") (List.mem_cons_of_mem _ (List.mem_append_left _ (List.mem_append_left _ (List.mem_append_left _ (List.mem_append_left _ (List.mem_of_getElem? (i := 4) rfl))))))) (fun _ h9 => h9) (k_ne (by decide) (k_ne (by decide) (k_ne (by decide) (k_ne (by decide) e4)))) dX8_readInto_21 ?_
  refine lv_iload_n hx hb dX8_readInto_24 rfl (lv_at hl 1 rfl) ?_
  refine lv_bipush (v := 9) hx hb dX8_readInto_25 (by decide) ?_
  refine lv_aload_n hx hb dX8_readInto_27 rfl (lv_at hl 0 rfl) ?_
  refine va_get (D := D) (ref := "IntegerHouse$Reader") (ci := 8) (v := .int 0) (C := RX8) (T := TX8) (N := 15) hx hb hts hin8 hown hK hP 0 rfl rfl 8 (by decide) (hts (.fieldLink RX8 136 "IntegerHouse$Reader" "place" "I") (List.mem_cons_of_mem _ (List.mem_append_left _ (List.mem_append_left _ (List.mem_append_left _ (List.mem_append_left _ (List.mem_of_getElem? (i := 5) rfl))))))) (fun _ h9 => h9) (k_ne (by decide) (k_ne (by decide) (k_ne (by decide) (k_ne (by decide) e5)))) dX8_readInto_28 ?_
  refine k_cVv (As := [.int 25, .int 9, .int 0]) (rest := []) (wc := [(h1, .inr (2, f1)), (h2, .inl (cI, 260, .inl g0))]) (wr := [(h0, .inr (8, ((((f0.set 11 (.int 25)).set 12 (.int 0)).set 13 (.int 0)).set 14 (.int 0)))), (h3, .inr (3, f2)), (h4, .inl (cI, 13312, .inl g1))]) (w1 := (fun _ : Unit => [(h1, .inr (2, f1)), (h2, .inl (cI, 260, .inl (upd g0 259 0)))])) ⟨hx, hb, hml, hown, hts⟩ hN hX hAE hK hP hD hS hA [1, 2] [0, 3, 4] (ci := 2) rfl rfl rfl rfl (by decide +kernel) (by decide +kernel) (by decide +kernel) (c_X2_setFact_3 l E D cI cJ cB cZ h1 f1 h2 g0 e6) (cwV 3 hts gX8_readInto_X2_setFact rfl rfl rfl (by decide +kernel) ⟨Nat.le_of_ble_eq_true rfl, Nat.le_of_ble_eq_true rfl⟩) rfl hl.1 (Nat.le_of_ble_eq_true rfl) dX8_readInto_31 ⟨Nat.le_of_ble_eq_true rfl, Nat.le_of_ble_eq_true rfl⟩ (fun _ H locs hP hD hS => ?_)
  have hP : va_P D vwCl [(h0, .inr (8, ((((f0.set 11 (.int 25)).set 12 (.int 0)).set 13 (.int 0)).set 14 (.int 0)))), (h3, .inr (3, f2)), (h4, .inl (cI, 13312, .inl g1)), (h1, .inr (2, f1)), (h2, .inl (cI, 260, .inl (upd g0 259 0)))] H := hP
  have hD : va_D A [(h0, .inr (8, ((((f0.set 11 (.int 25)).set 12 (.int 0)).set 13 (.int 0)).set 14 (.int 0)))), (h3, .inr (3, f2)), (h4, .inl (cI, 13312, .inl g1)), (h1, .inr (2, f1)), (h2, .inl (cI, 260, .inl (upd g0 259 0)))] := hD
  refine lv_iload_n hx hb dX8_readInto_34 rfl (lv_at hl 1 rfl) ?_
  refine lv_bipush (v := 25) hx hb dX8_readInto_35 (by decide) ?_
  refine lv_icmp_ne (tgt := 47) hx hb dX8_readInto_37 (by decide) (fun c9 => absurd (by decide) c9) (fun _ => ?_)
  refine lv_aload_n hx hb dX8_readInto_40 rfl (lv_at hl 0 rfl) ?_
  refine k_cVv (As := []) (rest := []) (wc := [(h0, .inr (8, ((((f0.set 11 (.int 25)).set 12 (.int 0)).set 13 (.int 0)).set 14 (.int 0)))), (h3, .inr (3, f2)), (h1, .inr (2, f1)), (h4, .inl (cI, 13312, .inl g1))]) (wr := [(h2, .inl (cI, 260, .inl (upd g0 259 0)))]) (w1 := (fun _ : Unit => [(h0, .inr (8, (((((((((f0.set 11 (.int 25)).set 12 (.int 0)).set 13 (.int 0)).set 14 (.int 0)).set 3 (.int 2)).set 4 (.int 0)).set 7 (.int 44)).set 13 (.int 1)).set 13 (.int 2)))), (h3, .inr (3, f2)), (h1, .inr (2, f1)), (h4, .inl (cI, 13312, .inl (upd (upd g1 12800 43) 12801 43)))])) ⟨hx, hb, hml, hown, hts⟩ hN hX hAE hK hP hD hS hA [0, 1, 3, 2] [4] (ci := 8) rfl rfl rfl rfl (by decide +kernel) (by decide +kernel) (by decide +kernel) (c_X8_term_2 l E D cI cJ cB cZ h0 (((((f0.set 11 (.int 25)).set 12 (.int 0)).set 13 (.int 0)).set 14 (.int 0))) h3 f2 h1 f1 h4 g1 (k_ne (by decide) (k_ne (by decide) (k_ne (by decide) (k_ne (by decide) e7)))) (k_ne (by decide) (k_ne (by decide) (k_ne (by decide) (k_ne (by decide) e8)))) (k_ne (by decide) (k_ne (by decide) (k_ne (by decide) (k_ne (by decide) e9)))) e10 (k_ne (by decide) (k_ne (by decide) (k_ne (by decide) (k_ne (by decide) e4)))) e11 (k_ne (by decide) (k_ne (by decide) (k_ne (by decide) (k_ne (by decide) e12)))) (k_ne (by decide) (k_ne (by decide) (k_ne (by decide) (k_ne (by decide) e5)))) (k_ne (by decide) (k_ne (by decide) (k_ne (by decide) (k_ne (by decide) e13)))) (k_ne (by decide) (k_ne (by decide) (k_ne (by decide) (k_set e0)))) (k_ne (by decide) (k_set (k_ne (by decide) (k_ne (by decide) e2)))) e14) (cwV 0 hts gX8_readInto_X8_term rfl rfl rfl (by decide +kernel) ⟨Nat.le_of_ble_eq_true rfl, Nat.le_of_ble_eq_true rfl⟩) rfl hl.1 (Nat.le_of_ble_eq_true rfl) dX8_readInto_41 ⟨Nat.le_of_ble_eq_true rfl, Nat.le_of_ble_eq_true rfl⟩ (fun _ H locs hP hD hS => ?_)
  have hP : va_P D vwCl [(h2, .inl (cI, 260, .inl (upd g0 259 0))), (h0, .inr (8, (((((((((f0.set 11 (.int 25)).set 12 (.int 0)).set 13 (.int 0)).set 14 (.int 0)).set 3 (.int 2)).set 4 (.int 0)).set 7 (.int 44)).set 13 (.int 1)).set 13 (.int 2)))), (h3, .inr (3, f2)), (h1, .inr (2, f1)), (h4, .inl (cI, 13312, .inl (upd (upd g1 12800 43) 12801 43)))] H := hP
  have hD : va_D A [(h2, .inl (cI, 260, .inl (upd g0 259 0))), (h0, .inr (8, (((((((((f0.set 11 (.int 25)).set 12 (.int 0)).set 13 (.int 0)).set 14 (.int 0)).set 3 (.int 2)).set 4 (.int 0)).set 7 (.int 44)).set 13 (.int 1)).set 13 (.int 2)))), (h3, .inr (3, f2)), (h1, .inr (2, f1)), (h4, .inl (cI, 13312, .inl (upd (upd g1 12800 43) 12801 43)))] := hD
  refine lv_goto (tgt := 51) hx hb dX8_readInto_44 (by decide) ?_
  refine lv_aload_n hx hb dX8_readInto_51 rfl (lv_at hl 0 rfl) ?_
  refine va_get (D := D) (ref := "IntegerHouse$Reader") (ci := 8) (v := .ref h1) (C := RX8) (T := TX8) (N := 15) hx hb hts hin8 hown hK hP 1 rfl rfl 1 (by decide) (hts (.fieldLink RX8 15 "IntegerHouse$Reader" "house" "LIntegerHouse$House;") (List.mem_cons_of_mem _ (List.mem_append_left _ (List.mem_append_left _ (List.mem_append_left _ (List.mem_append_left _ (List.mem_of_getElem? (i := 4) rfl))))))) (fun _ h9 => h9) (k_ne (by decide) (k_ne (by decide) (k_ne (by decide) (k_ne (by decide) (k_ne (by decide) (k_ne (by decide) (k_ne (by decide) (k_ne (by decide) (k_ne (by decide) e4))))))))) dX8_readInto_52 ?_
  refine lv_iload_n hx hb dX8_readInto_55 rfl (lv_at hl 1 rfl) ?_
  refine lv_iconst (v := 0) hx hb dX8_readInto_56 (by decide) ?_
  refine lv_aload_n hx hb dX8_readInto_57 rfl (lv_at hl 0 rfl) ?_
  refine va_get (D := D) (ref := "IntegerHouse$Reader") (ci := 8) (v := .int 0) (C := RX8) (T := TX8) (N := 15) hx hb hts hin8 hown hK hP 1 rfl rfl 12 (by decide) (hts (.fieldLink RX8 167 "IntegerHouse$Reader" "tokens" "I") (List.mem_cons_of_mem _ (List.mem_append_left _ (List.mem_append_left _ (List.mem_append_left _ (List.mem_append_left _ (List.mem_of_getElem? (i := 1) rfl))))))) (fun _ h9 => h9) (k_ne (by decide) (k_ne (by decide) (k_ne (by decide) (k_ne (by decide) (k_ne (by decide) (k_ne (by decide) (k_ne (by decide) (k_set (k_ne (by decide) e1))))))))) dX8_readInto_58 ?_
  refine k_cVv (As := [.int 25, .int 0, .int 0]) (rest := []) (wc := [(h1, .inr (2, f1)), (h2, .inl (cI, 260, .inl (upd g0 259 0)))]) (wr := [(h0, .inr (8, (((((((((f0.set 11 (.int 25)).set 12 (.int 0)).set 13 (.int 0)).set 14 (.int 0)).set 3 (.int 2)).set 4 (.int 0)).set 7 (.int 44)).set 13 (.int 1)).set 13 (.int 2)))), (h3, .inr (3, f2)), (h4, .inl (cI, 13312, .inl (upd (upd g1 12800 43) 12801 43)))]) (w1 := (fun _ : Unit => [(h1, .inr (2, f1)), (h2, .inl (cI, 260, .inl (upd (upd g0 259 0) 250 0)))])) ⟨hx, hb, hml, hown, hts⟩ hN hX hAE hK hP hD hS hA [3, 0] [1, 2, 4] (ci := 2) rfl rfl rfl rfl (by decide +kernel) (by decide +kernel) (by decide +kernel) (c_X2_setFact_4 l E D cI cJ cB cZ h1 f1 h2 ((upd g0 259 0)) e6) (cwV 3 hts gX8_readInto_X2_setFact rfl rfl rfl (by decide +kernel) ⟨Nat.le_of_ble_eq_true rfl, Nat.le_of_ble_eq_true rfl⟩) rfl hl.1 (Nat.le_of_ble_eq_true rfl) dX8_readInto_61 ⟨Nat.le_of_ble_eq_true rfl, Nat.le_of_ble_eq_true rfl⟩ (fun _ H locs hP hD hS => ?_)
  have hP : va_P D vwCl [(h0, .inr (8, (((((((((f0.set 11 (.int 25)).set 12 (.int 0)).set 13 (.int 0)).set 14 (.int 0)).set 3 (.int 2)).set 4 (.int 0)).set 7 (.int 44)).set 13 (.int 1)).set 13 (.int 2)))), (h3, .inr (3, f2)), (h4, .inl (cI, 13312, .inl (upd (upd g1 12800 43) 12801 43))), (h1, .inr (2, f1)), (h2, .inl (cI, 260, .inl (upd (upd g0 259 0) 250 0)))] H := hP
  have hD : va_D A [(h0, .inr (8, (((((((((f0.set 11 (.int 25)).set 12 (.int 0)).set 13 (.int 0)).set 14 (.int 0)).set 3 (.int 2)).set 4 (.int 0)).set 7 (.int 44)).set 13 (.int 1)).set 13 (.int 2)))), (h3, .inr (3, f2)), (h4, .inl (cI, 13312, .inl (upd (upd g1 12800 43) 12801 43))), (h1, .inr (2, f1)), (h2, .inl (cI, 260, .inl (upd (upd g0 259 0) 250 0)))] := hD
  refine lv_aload_n hx hb dX8_readInto_64 rfl (lv_at hl 0 rfl) ?_
  refine va_get (D := D) (ref := "IntegerHouse$Reader") (ci := 8) (v := .ref h1) (C := RX8) (T := TX8) (N := 15) hx hb hts hin8 hown hK hP 0 rfl rfl 1 (by decide) (hts (.fieldLink RX8 15 "IntegerHouse$Reader" "house" "LIntegerHouse$House;") (List.mem_cons_of_mem _ (List.mem_append_left _ (List.mem_append_left _ (List.mem_append_left _ (List.mem_append_left _ (List.mem_of_getElem? (i := 4) rfl))))))) (fun _ h9 => h9) (k_ne (by decide) (k_ne (by decide) (k_ne (by decide) (k_ne (by decide) (k_ne (by decide) (k_ne (by decide) (k_ne (by decide) (k_ne (by decide) (k_ne (by decide) e4))))))))) dX8_readInto_65 ?_
  refine lv_iload_n hx hb dX8_readInto_68 rfl (lv_at hl 1 rfl) ?_
  refine lv_iconst (v := 1) hx hb dX8_readInto_69 (by decide) ?_
  refine lv_aload_n hx hb dX8_readInto_70 rfl (lv_at hl 0 rfl) ?_
  refine va_get (D := D) (ref := "IntegerHouse$Reader") (ci := 8) (v := .int 2) (C := RX8) (T := TX8) (N := 15) hx hb hts hin8 hown hK hP 0 rfl rfl 13 (by decide) (hts (.fieldLink RX8 170 "IntegerHouse$Reader" "steps" "I") (List.mem_cons_of_mem _ (List.mem_append_left _ (List.mem_append_left _ (List.mem_append_left _ (List.mem_append_left _ (List.mem_of_getElem? (i := 2) rfl))))))) (fun _ h9 => h9) (k_set (k_set (k_ne (by decide) (k_ne (by decide) (k_ne (by decide) (k_ne (by decide) (k_set (k_ne (by decide) (k_ne (by decide) e2))))))))) dX8_readInto_71 ?_
  refine k_cVv (As := [.int 25, .int 1, .int 2]) (rest := []) (wc := [(h1, .inr (2, f1)), (h2, .inl (cI, 260, .inl (upd (upd g0 259 0) 250 0)))]) (wr := [(h0, .inr (8, (((((((((f0.set 11 (.int 25)).set 12 (.int 0)).set 13 (.int 0)).set 14 (.int 0)).set 3 (.int 2)).set 4 (.int 0)).set 7 (.int 44)).set 13 (.int 1)).set 13 (.int 2)))), (h3, .inr (3, f2)), (h4, .inl (cI, 13312, .inl (upd (upd g1 12800 43) 12801 43)))]) (w1 := (fun _ : Unit => [(h1, .inr (2, f1)), (h2, .inl (cI, 260, .inl (upd (upd (upd g0 259 0) 250 0) 251 2)))])) ⟨hx, hb, hml, hown, hts⟩ hN hX hAE hK hP hD hS hA [3, 4] [0, 1, 2] (ci := 2) rfl rfl rfl rfl (by decide +kernel) (by decide +kernel) (by decide +kernel) (c_X2_setFact_5 l E D cI cJ cB cZ h1 f1 h2 ((upd (upd g0 259 0) 250 0)) e6) (cwV 3 hts gX8_readInto_X2_setFact rfl rfl rfl (by decide +kernel) ⟨Nat.le_of_ble_eq_true rfl, Nat.le_of_ble_eq_true rfl⟩) rfl hl.1 (Nat.le_of_ble_eq_true rfl) dX8_readInto_74 ⟨Nat.le_of_ble_eq_true rfl, Nat.le_of_ble_eq_true rfl⟩ (fun _ H locs hP hD hS => ?_)
  have hP : va_P D vwCl [(h0, .inr (8, (((((((((f0.set 11 (.int 25)).set 12 (.int 0)).set 13 (.int 0)).set 14 (.int 0)).set 3 (.int 2)).set 4 (.int 0)).set 7 (.int 44)).set 13 (.int 1)).set 13 (.int 2)))), (h3, .inr (3, f2)), (h4, .inl (cI, 13312, .inl (upd (upd g1 12800 43) 12801 43))), (h1, .inr (2, f1)), (h2, .inl (cI, 260, .inl (upd (upd (upd g0 259 0) 250 0) 251 2)))] H := hP
  have hD : va_D A [(h0, .inr (8, (((((((((f0.set 11 (.int 25)).set 12 (.int 0)).set 13 (.int 0)).set 14 (.int 0)).set 3 (.int 2)).set 4 (.int 0)).set 7 (.int 44)).set 13 (.int 1)).set 13 (.int 2)))), (h3, .inr (3, f2)), (h4, .inl (cI, 13312, .inl (upd (upd g1 12800 43) 12801 43))), (h1, .inr (2, f1)), (h2, .inl (cI, 260, .inl (upd (upd (upd g0 259 0) 250 0) 251 2)))] := hD
  have hP := hP.sub (ws' := [(h0, .inr (8, (((((((((f0.set 11 (.int 25)).set 12 (.int 0)).set 13 (.int 0)).set 14 (.int 0)).set 3 (.int 2)).set 4 (.int 0)).set 7 (.int 44)).set 13 (.int 1)).set 13 (.int 2)))), (h1, .inr (2, f1)), (h2, .inl (cI, 260, .inl (upd (upd (upd g0 259 0) 250 0) 251 2))), (h3, .inr (3, f2)), (h4, .inl (cI, 13312, .inl (upd (upd g1 12800 43) 12801 43)))]) [0, 3, 4, 1, 2] rfl
  have hD := hD.sub (ws' := [(h0, .inr (8, (((((((((f0.set 11 (.int 25)).set 12 (.int 0)).set 13 (.int 0)).set 14 (.int 0)).set 3 (.int 2)).set 4 (.int 0)).set 7 (.int 44)).set 13 (.int 1)).set 13 (.int 2)))), (h1, .inr (2, f1)), (h2, .inl (cI, 260, .inl (upd (upd (upd g0 259 0) 250 0) 251 2))), (h3, .inr (3, f2)), (h4, .inl (cI, 13312, .inl (upd (upd g1 12800 43) 12801 43)))]) [0, 3, 4, 1, 2] (by decide +kernel) rfl
  exact W.vret hx hb hr (fun t ht hW => ⟨⟨(), rfl, trivial, kB_mk ht hW hP hK hD⟩, hS.F ht⟩) hS.2.2 dX8_readInto_77
set_option maxHeartbeats 400000000 in
set_option maxRecDepth 100000 in
theorem c_X8_readExtreme_0 (l : Launch) (E : kE) (D : va_G) (cI cJ cB cZ : ClassId) (h0 : Nat) (h1 : Nat) (f0 : List Value) (h2 : Nat) (f1 : List Value) (h3 : Nat) (h4 : Nat) (h5 : Nat) (g0 : Nat → Int32) (g1 : Nat → Int32) (h6 : Nat) (f2 : List Value) (h7 : Nat) (h8 : Nat) (g2 : Nat → Int32) (g3 : Nat → Int32) (e0 : f0[0]? = some (.ref h2)) (e1 : f1[6]? = some (.ref h3)) (e2 : f1[7]? = some (.int 0)) (e3 : f1[8]? = some (.int 0)) (e4 : f1[5]? = some (.int 0)) (e5 : f1[1]? = some (.ref h4)) (e6 : f1[2]? = some (.ref h5)) (e7 : f0[3]? = some (.int 0)) (e8 : f0[4]? = some (.int 0)) (e9 : f0[5]? = some (.int 0)) (e10 : f0[6]? = some (.int 0)) (e11 : f0[7]? = some (.int 0)) (e12 : f0[8]? = some (.int 0)) (e13 : f0[11]? = some (.int 0)) (e14 : f0[12]? = some (.int 0)) (e15 : f0[13]? = some (.int 0)) (e16 : f0[14]? = some (.int 0)) (e17 : f0[1]? = some (.ref h6)) (e18 : f2[5]? = some (.ref h7)) (e19 : f2[10]? = some (.int 0)) (e20 : f2[3]? = some (.ref h8)) : kI l E D (kT cI cJ cB cZ) yX8_readExtreme wsX8_readExtreme ({ frames := 5, cells := 0, slots := 0, locals := 112 }) [.ref h0, .ref h1, .int 0] [(h0, .inr (8, f0)), (h2, .inr (3, f1)), (h4, .inl (cI, 2001, .inl g0)), (h5, .inl (cI, 2001, .inl g1)), (h6, .inr (2, f2)), (h7, .inl (cI, 260, .inl g2)), (h8, .inl (cI, 13312, .inl g3))] (0) [(h0, .inr (8, ((((((((((((((((((f0.set 3 (.int 0)).set 4 (.int 0)).set 5 (.int 0)).set 6 (.int (-1))).set 6 (.int 0)).set 7 (.int 0)).set 8 (.int 0)).set 11 (.int 25)).set 12 (.int 0)).set 13 (.int 0)).set 14 (.int 0)).set 3 (.int 2)).set 4 (.int 0)).set 7 (.int 44)).set 13 (.int 1)).set 13 (.int 2)).set 5 (.int 0)).set 7 (.int 44)))), (h2, .inr (3, ((((f1.set 6 (.ref h1)).set 7 (.int 0)).set 8 (.int 0)).set 5 (.int 0)))), (h4, .inl (cI, 2001, .inl (upd g0 0 0))), (h5, .inl (cI, 2001, .inl (upd g1 0 0))), (h6, .inr (2, f2)), (h7, .inl (cI, 260, .inl (upd (upd (upd g2 259 0) 250 0) 251 2))), (h8, .inl (cI, 13312, .inl (upd (upd g3 12800 43) 12801 43)))] 0 0 := by
  intro sz
  refine Met.ofW (cc := cX8_readExtreme) (maxL := 3) (ret := (some .boolean)) (by decide) rfl ?_
  intro p e s m args below meth c s₁ B hml hv
  obtain ⟨rfl, hsz, hP, hK, hD0, hN, hX⟩ := hv
  have hx := B.exec
  have hb := B.bytes
  have hr := B.returns
  have hts := atoms_spec (ws := wsX8_readExtreme) B.pre
  have hown : s.vm.findClass RX8 = some m.cls := findClass_of_methodNamed B.named
  have hlocks := B.notSynchronized
  have hin8 : ∀ w ∈ wsX80, w ∈ wsX8_readExtreme := (fun w h => (List.mem_cons_of_mem _ (List.mem_append_left _ (List.mem_append_left _ (List.mem_append_left _ (List.mem_append_right _ h))))))
  subst hsz
  have hD := hD0.self (sz := s.heap.size)
  have hAE := k_AE hD0 hX
  generalize hAe : va_A [(h0, .inr (8, f0)), (h2, .inr (3, f1)), (h4, .inl (cI, 2001, .inl g0)), (h5, .inl (cI, 2001, .inl g1)), (h6, .inr (2, f2)), (h7, .inl (cI, 260, .inl g2)), (h8, .inl (cI, 13312, .inl g3))] s.heap.size = A at hD hAE ⊢
  have hA : ∀ q : Nat, s.heap.size ≤ q → A q := fun q h => by rw [← hAe]; exact Or.inr h
  have hS : va_S A s.heap s.heap [] := va_S.rf
  have hP : va_P D vwCl [(h0, .inr (8, f0)), (h2, .inr (3, f1)), (h4, .inl (cI, 2001, .inl g0)), (h5, .inl (cI, 2001, .inl g1)), (h6, .inr (2, f2)), (h7, .inl (cI, 260, .inl g2)), (h8, .inl (cI, 13312, .inl g3))] s.heap := hP
  have hl := lv_entry ([.ref h0, .ref h1, .int 0] : List Value) (n := 3) (Nat.le_of_ble_eq_true rfl)
  rw [lg_entry_eq]
  generalize (lg_sl ([.ref h0, .ref h1, .int 0]) ++ List.replicate (3 - (lg_sl ([.ref h0, .ref h1, .int 0])).length) Slot.unset).toArray = ls at hl ⊢
  have hl : lv_has ls 3 [(0, .ref h0), (1, .ref h1), (2, .int 0)] := hl
  refine lv_aload_n hx hb dX8_readExtreme_0 rfl (lv_at hl 0 rfl) ?_
  refine lv_aload_n hx hb dX8_readExtreme_1 rfl (lv_at hl 1 rfl) ?_
  refine lv_iconst (v := 0) hx hb dX8_readExtreme_2 (by decide) ?_
  refine lv_iload_n hx hb dX8_readExtreme_3 rfl (lv_at hl 2 rfl) ?_
  refine k_cVv (As := [.ref h1, .int 0, .int 0]) (rest := []) (wc := [(h0, .inr (8, f0)), (h2, .inr (3, f1)), (h4, .inl (cI, 2001, .inl g0)), (h5, .inl (cI, 2001, .inl g1))]) (wr := [(h6, .inr (2, f2)), (h7, .inl (cI, 260, .inl g2)), (h8, .inl (cI, 13312, .inl g3))]) (w1 := (fun _ : Unit => [(h0, .inr (8, (((((((f0.set 3 (.int 0)).set 4 (.int 0)).set 5 (.int 0)).set 6 (.int (-1))).set 6 (.int 0)).set 7 (.int 0)).set 8 (.int 0)))), (h2, .inr (3, ((((f1.set 6 (.ref h1)).set 7 (.int 0)).set 8 (.int 0)).set 5 (.int 0)))), (h4, .inl (cI, 2001, .inl (upd g0 0 0))), (h5, .inl (cI, 2001, .inl (upd g1 0 0)))])) ⟨hx, hb, hml, hown, hts⟩ hN hX hAE hK hP hD hS hA [0, 1, 2, 3] [4, 5, 6] (ci := 8) rfl rfl rfl rfl (by decide +kernel) (by decide +kernel) (by decide +kernel) (c_X8_begin_0 l E D cI cJ cB cZ h0 h1 f0 h2 f1 h3 h4 h5 g0 g1 e0 e1 e2 e3 e4 e5 e6 e7 e8 e9 e10 e11 e12) (cwV 3 hts gX8_readExtreme_X8_begin rfl rfl rfl (by decide +kernel) ⟨Nat.le_of_ble_eq_true rfl, Nat.le_of_ble_eq_true rfl⟩) rfl hl.1 (Nat.le_of_ble_eq_true rfl) dX8_readExtreme_4 ⟨Nat.le_of_ble_eq_true rfl, Nat.le_of_ble_eq_true rfl⟩ (fun _ H locs hP hD hS => ?_)
  have hP : va_P D vwCl [(h6, .inr (2, f2)), (h7, .inl (cI, 260, .inl g2)), (h8, .inl (cI, 13312, .inl g3)), (h0, .inr (8, (((((((f0.set 3 (.int 0)).set 4 (.int 0)).set 5 (.int 0)).set 6 (.int (-1))).set 6 (.int 0)).set 7 (.int 0)).set 8 (.int 0)))), (h2, .inr (3, ((((f1.set 6 (.ref h1)).set 7 (.int 0)).set 8 (.int 0)).set 5 (.int 0)))), (h4, .inl (cI, 2001, .inl (upd g0 0 0))), (h5, .inl (cI, 2001, .inl (upd g1 0 0)))] H := hP
  have hD : va_D A [(h6, .inr (2, f2)), (h7, .inl (cI, 260, .inl g2)), (h8, .inl (cI, 13312, .inl g3)), (h0, .inr (8, (((((((f0.set 3 (.int 0)).set 4 (.int 0)).set 5 (.int 0)).set 6 (.int (-1))).set 6 (.int 0)).set 7 (.int 0)).set 8 (.int 0)))), (h2, .inr (3, ((((f1.set 6 (.ref h1)).set 7 (.int 0)).set 8 (.int 0)).set 5 (.int 0)))), (h4, .inl (cI, 2001, .inl (upd g0 0 0))), (h5, .inl (cI, 2001, .inl (upd g1 0 0)))] := hD
  refine lv_aload_n hx hb dX8_readExtreme_7 rfl (lv_at hl 0 rfl) ?_
  refine lv_bipush (v := 25) hx hb dX8_readExtreme_8 (by decide) ?_
  refine k_cVv (As := [.int 25]) (rest := []) (wc := [(h0, .inr (8, (((((((f0.set 3 (.int 0)).set 4 (.int 0)).set 5 (.int 0)).set 6 (.int (-1))).set 6 (.int 0)).set 7 (.int 0)).set 8 (.int 0)))), (h6, .inr (2, f2)), (h7, .inl (cI, 260, .inl g2)), (h2, .inr (3, ((((f1.set 6 (.ref h1)).set 7 (.int 0)).set 8 (.int 0)).set 5 (.int 0)))), (h8, .inl (cI, 13312, .inl g3))]) (wr := [(h4, .inl (cI, 2001, .inl (upd g0 0 0))), (h5, .inl (cI, 2001, .inl (upd g1 0 0)))]) (w1 := (fun _ : Unit => [(h0, .inr (8, ((((((((((((((((f0.set 3 (.int 0)).set 4 (.int 0)).set 5 (.int 0)).set 6 (.int (-1))).set 6 (.int 0)).set 7 (.int 0)).set 8 (.int 0)).set 11 (.int 25)).set 12 (.int 0)).set 13 (.int 0)).set 14 (.int 0)).set 3 (.int 2)).set 4 (.int 0)).set 7 (.int 44)).set 13 (.int 1)).set 13 (.int 2)))), (h6, .inr (2, f2)), (h7, .inl (cI, 260, .inl (upd (upd (upd g2 259 0) 250 0) 251 2))), (h2, .inr (3, ((((f1.set 6 (.ref h1)).set 7 (.int 0)).set 8 (.int 0)).set 5 (.int 0)))), (h8, .inl (cI, 13312, .inl (upd (upd g3 12800 43) 12801 43)))])) ⟨hx, hb, hml, hown, hts⟩ hN hX hAE hK hP hD hS hA [3, 0, 1, 4, 2] [5, 6] (ci := 8) rfl rfl rfl rfl (by decide +kernel) (by decide +kernel) (by decide +kernel) (c_X8_readInto_1 l E D cI cJ cB cZ h0 ((((((((f0.set 3 (.int 0)).set 4 (.int 0)).set 5 (.int 0)).set 6 (.int (-1))).set 6 (.int 0)).set 7 (.int 0)).set 8 (.int 0))) h6 f2 h7 g2 h2 (((((f1.set 6 (.ref h1)).set 7 (.int 0)).set 8 (.int 0)).set 5 (.int 0))) h8 g3 (k_ne (by decide) (k_ne (by decide) (k_ne (by decide) (k_ne (by decide) (k_ne (by decide) (k_ne (by decide) (k_ne (by decide) e13))))))) (k_ne (by decide) (k_ne (by decide) (k_ne (by decide) (k_ne (by decide) (k_ne (by decide) (k_ne (by decide) (k_ne (by decide) e14))))))) (k_ne (by decide) (k_ne (by decide) (k_ne (by decide) (k_ne (by decide) (k_ne (by decide) (k_ne (by decide) (k_ne (by decide) e15))))))) (k_ne (by decide) (k_ne (by decide) (k_ne (by decide) (k_ne (by decide) (k_ne (by decide) (k_ne (by decide) (k_ne (by decide) e16))))))) (k_ne (by decide) (k_ne (by decide) (k_ne (by decide) (k_ne (by decide) (k_ne (by decide) (k_ne (by decide) (k_ne (by decide) e17))))))) (k_set (k_ne (by decide) (k_ne (by decide) (k_ne (by decide) (k_ne (by decide) (k_ne (by decide) (k_ne (by decide) e12))))))) e18 (k_ne (by decide) (k_set (k_ne (by decide) (k_ne (by decide) (k_ne (by decide) (k_ne (by decide) (k_ne (by decide) e11))))))) (k_ne (by decide) (k_ne (by decide) (k_ne (by decide) (k_ne (by decide) (k_ne (by decide) (k_ne (by decide) (k_ne (by decide) e0))))))) (k_ne (by decide) (k_ne (by decide) (k_set (k_set (k_ne (by decide) (k_ne (by decide) (k_ne (by decide) e10))))))) (k_set (k_ne (by decide) (k_ne (by decide) (k_ne (by decide) e4)))) e19 (k_ne (by decide) (k_ne (by decide) (k_ne (by decide) (k_ne (by decide) (k_ne (by decide) (k_ne (by decide) (k_set e7))))))) (k_ne (by decide) (k_ne (by decide) (k_ne (by decide) (k_ne (by decide) (k_ne (by decide) (k_set (k_ne (by decide) e8))))))) e20) (cwV 1 hts gX8_readExtreme_X8_readInto rfl rfl rfl (by decide +kernel) ⟨Nat.le_of_ble_eq_true rfl, Nat.le_of_ble_eq_true rfl⟩) rfl hl.1 (Nat.le_of_ble_eq_true rfl) dX8_readExtreme_10 ⟨Nat.le_of_ble_eq_true rfl, Nat.le_of_ble_eq_true rfl⟩ (fun _ H locs hP hD hS => ?_)
  have hP : va_P D vwCl [(h4, .inl (cI, 2001, .inl (upd g0 0 0))), (h5, .inl (cI, 2001, .inl (upd g1 0 0))), (h0, .inr (8, ((((((((((((((((f0.set 3 (.int 0)).set 4 (.int 0)).set 5 (.int 0)).set 6 (.int (-1))).set 6 (.int 0)).set 7 (.int 0)).set 8 (.int 0)).set 11 (.int 25)).set 12 (.int 0)).set 13 (.int 0)).set 14 (.int 0)).set 3 (.int 2)).set 4 (.int 0)).set 7 (.int 44)).set 13 (.int 1)).set 13 (.int 2)))), (h6, .inr (2, f2)), (h7, .inl (cI, 260, .inl (upd (upd (upd g2 259 0) 250 0) 251 2))), (h2, .inr (3, ((((f1.set 6 (.ref h1)).set 7 (.int 0)).set 8 (.int 0)).set 5 (.int 0)))), (h8, .inl (cI, 13312, .inl (upd (upd g3 12800 43) 12801 43)))] H := hP
  have hD : va_D A [(h4, .inl (cI, 2001, .inl (upd g0 0 0))), (h5, .inl (cI, 2001, .inl (upd g1 0 0))), (h0, .inr (8, ((((((((((((((((f0.set 3 (.int 0)).set 4 (.int 0)).set 5 (.int 0)).set 6 (.int (-1))).set 6 (.int 0)).set 7 (.int 0)).set 8 (.int 0)).set 11 (.int 25)).set 12 (.int 0)).set 13 (.int 0)).set 14 (.int 0)).set 3 (.int 2)).set 4 (.int 0)).set 7 (.int 44)).set 13 (.int 1)).set 13 (.int 2)))), (h6, .inr (2, f2)), (h7, .inl (cI, 260, .inl (upd (upd (upd g2 259 0) 250 0) 251 2))), (h2, .inr (3, ((((f1.set 6 (.ref h1)).set 7 (.int 0)).set 8 (.int 0)).set 5 (.int 0)))), (h8, .inl (cI, 13312, .inl (upd (upd g3 12800 43) 12801 43)))] := hD
  refine lv_aload_n hx hb dX8_readExtreme_13 rfl (lv_at hl 0 rfl) ?_
  refine lv_aload_n hx hb dX8_readExtreme_14 rfl (lv_at hl 0 rfl) ?_
  refine va_get (D := D) (ref := "IntegerHouse$Reader") (ci := 8) (v := .int 44) (C := RX8) (T := TX8) (N := 15) hx hb hts hin8 hown hK hP 2 rfl rfl 7 (by decide) (hts (.fieldLink RX8 39 "IntegerHouse$Reader" "kind" "I") (List.mem_cons_of_mem _ (List.mem_append_left _ (List.mem_append_left _ (List.mem_append_left _ (List.mem_append_left _ (List.mem_append_left _ (List.mem_of_getElem? (i := 0) rfl)))))))) (fun _ h9 => h9) (k_ne (by decide) (k_ne (by decide) (k_set (k_ne (by decide) (k_ne (by decide) (k_ne (by decide) (k_ne (by decide) (k_ne (by decide) (k_ne (by decide) (k_ne (by decide) (k_set (k_ne (by decide) (k_ne (by decide) (k_ne (by decide) (k_ne (by decide) (k_ne (by decide) e11)))))))))))))))) dX8_readExtreme_15 ?_
  refine lv_bipush (v := 34) hx hb dX8_readExtreme_18 (by decide) ?_
  refine lv_icmp_ne (tgt := 27) hx hb dX8_readExtreme_20 (by decide) (fun _ => ?_) (fun c9 => absurd c9 (by decide))
  refine lv_iconst (v := 0) hx hb dX8_readExtreme_27 (by decide) ?_
  refine va_put (D := D) (ref := "IntegerHouse$Reader") (ci := 8) (v := .int 0) (ty := .boolean) (C := RX8) (T := TX8) (N := 15) hx hb hts hin8 tyX8 tyX8_ok nmX8 hown hK hP hD hS 2 rfl rfl 5 (by decide) (hts (.fieldLink RX8 101 "IntegerHouse$Reader" "hasFormula" "Z") (List.mem_cons_of_mem _ (List.mem_append_left _ (List.mem_append_left _ (List.mem_append_left _ (List.mem_append_left _ (List.mem_append_left _ (List.mem_of_getElem? (i := 1) rfl)))))))) (fun _ h9 => h9) rfl (by decide +kernel) rfl rfl (k_len (k_ne (by decide) (k_ne (by decide) (k_ne (by decide) (k_ne (by decide) (k_ne (by decide) (k_ne (by decide) (k_ne (by decide) (k_ne (by decide) (k_ne (by decide) (k_ne (by decide) (k_ne (by decide) (k_ne (by decide) (k_ne (by decide) (k_set (k_ne (by decide) (k_ne (by decide) e9))))))))))))))))) dX8_readExtreme_28 (fun H locs hP hD hS => ?_)
  have hP : va_P D vwCl [(h4, .inl (cI, 2001, .inl (upd g0 0 0))), (h5, .inl (cI, 2001, .inl (upd g1 0 0))), (h0, .inr (8, (((((((((((((((((f0.set 3 (.int 0)).set 4 (.int 0)).set 5 (.int 0)).set 6 (.int (-1))).set 6 (.int 0)).set 7 (.int 0)).set 8 (.int 0)).set 11 (.int 25)).set 12 (.int 0)).set 13 (.int 0)).set 14 (.int 0)).set 3 (.int 2)).set 4 (.int 0)).set 7 (.int 44)).set 13 (.int 1)).set 13 (.int 2)).set 5 (.int 0)))), (h6, .inr (2, f2)), (h7, .inl (cI, 260, .inl (upd (upd (upd g2 259 0) 250 0) 251 2))), (h2, .inr (3, ((((f1.set 6 (.ref h1)).set 7 (.int 0)).set 8 (.int 0)).set 5 (.int 0)))), (h8, .inl (cI, 13312, .inl (upd (upd g3 12800 43) 12801 43)))] H := hP
  have hD : va_D A [(h4, .inl (cI, 2001, .inl (upd g0 0 0))), (h5, .inl (cI, 2001, .inl (upd g1 0 0))), (h0, .inr (8, (((((((((((((((((f0.set 3 (.int 0)).set 4 (.int 0)).set 5 (.int 0)).set 6 (.int (-1))).set 6 (.int 0)).set 7 (.int 0)).set 8 (.int 0)).set 11 (.int 25)).set 12 (.int 0)).set 13 (.int 0)).set 14 (.int 0)).set 3 (.int 2)).set 4 (.int 0)).set 7 (.int 44)).set 13 (.int 1)).set 13 (.int 2)).set 5 (.int 0)))), (h6, .inr (2, f2)), (h7, .inl (cI, 260, .inl (upd (upd (upd g2 259 0) 250 0) 251 2))), (h2, .inr (3, ((((f1.set 6 (.ref h1)).set 7 (.int 0)).set 8 (.int 0)).set 5 (.int 0)))), (h8, .inl (cI, 13312, .inl (upd (upd g3 12800 43) 12801 43)))] := hD
  refine lv_aload_n hx hb dX8_readExtreme_31 rfl (lv_at hl 0 rfl) ?_
  refine va_get (D := D) (ref := "IntegerHouse$Reader") (ci := 8) (v := .int 0) (C := RX8) (T := TX8) (N := 15) hx hb hts hin8 hown hK hP 2 rfl rfl 5 (by decide) (hts (.fieldLink RX8 101 "IntegerHouse$Reader" "hasFormula" "Z") (List.mem_cons_of_mem _ (List.mem_append_left _ (List.mem_append_left _ (List.mem_append_left _ (List.mem_append_left _ (List.mem_append_left _ (List.mem_of_getElem? (i := 1) rfl)))))))) (fun _ h9 => h9) (k_set (k_ne (by decide) (k_ne (by decide) (k_ne (by decide) (k_ne (by decide) (k_ne (by decide) (k_ne (by decide) (k_ne (by decide) (k_ne (by decide) (k_ne (by decide) (k_ne (by decide) (k_ne (by decide) (k_ne (by decide) (k_ne (by decide) (k_set (k_ne (by decide) (k_ne (by decide) e9))))))))))))))))) dX8_readExtreme_32 ?_
  refine lv_if_eq (tgt := 48) hx hb dX8_readExtreme_35 (by decide) (fun _ => ?_) (fun c9 => absurd (by decide) c9)
  refine lv_aload_n hx hb dX8_readExtreme_48 rfl (lv_at hl 0 rfl) ?_
  refine k_cVv (As := []) (rest := []) (wc := [(h0, .inr (8, (((((((((((((((((f0.set 3 (.int 0)).set 4 (.int 0)).set 5 (.int 0)).set 6 (.int (-1))).set 6 (.int 0)).set 7 (.int 0)).set 8 (.int 0)).set 11 (.int 25)).set 12 (.int 0)).set 13 (.int 0)).set 14 (.int 0)).set 3 (.int 2)).set 4 (.int 0)).set 7 (.int 44)).set 13 (.int 1)).set 13 (.int 2)).set 5 (.int 0))))]) (wr := [(h4, .inl (cI, 2001, .inl (upd g0 0 0))), (h5, .inl (cI, 2001, .inl (upd g1 0 0))), (h6, .inr (2, f2)), (h7, .inl (cI, 260, .inl (upd (upd (upd g2 259 0) 250 0) 251 2))), (h2, .inr (3, ((((f1.set 6 (.ref h1)).set 7 (.int 0)).set 8 (.int 0)).set 5 (.int 0)))), (h8, .inl (cI, 13312, .inl (upd (upd g3 12800 43) 12801 43)))]) (w1 := (fun _ : Unit => [(h0, .inr (8, ((((((((((((((((((f0.set 3 (.int 0)).set 4 (.int 0)).set 5 (.int 0)).set 6 (.int (-1))).set 6 (.int 0)).set 7 (.int 0)).set 8 (.int 0)).set 11 (.int 25)).set 12 (.int 0)).set 13 (.int 0)).set 14 (.int 0)).set 3 (.int 2)).set 4 (.int 0)).set 7 (.int 44)).set 13 (.int 1)).set 13 (.int 2)).set 5 (.int 0)).set 7 (.int 44))))])) ⟨hx, hb, hml, hown, hts⟩ hN hX hAE hK hP hD hS hA [2] [0, 1, 3, 4, 5, 6] (ci := 8) rfl rfl rfl rfl (by decide +kernel) (by decide +kernel) (by decide +kernel) (c_X8_expectEnd_1 l E D cI cJ cB cZ h0 ((((((((((((((((((f0.set 3 (.int 0)).set 4 (.int 0)).set 5 (.int 0)).set 6 (.int (-1))).set 6 (.int 0)).set 7 (.int 0)).set 8 (.int 0)).set 11 (.int 25)).set 12 (.int 0)).set 13 (.int 0)).set 14 (.int 0)).set 3 (.int 2)).set 4 (.int 0)).set 7 (.int 44)).set 13 (.int 1)).set 13 (.int 2)).set 5 (.int 0))) (k_ne (by decide) (k_ne (by decide) (k_ne (by decide) (k_set (k_ne (by decide) (k_ne (by decide) (k_ne (by decide) (k_ne (by decide) (k_ne (by decide) (k_ne (by decide) (k_ne (by decide) (k_set (k_ne (by decide) (k_ne (by decide) (k_ne (by decide) (k_ne (by decide) (k_ne (by decide) e11))))))))))))))))) (k_ne (by decide) (k_ne (by decide) (k_ne (by decide) (k_ne (by decide) (k_ne (by decide) (k_set (k_ne (by decide) (k_ne (by decide) (k_ne (by decide) (k_ne (by decide) (k_ne (by decide) (k_ne (by decide) (k_ne (by decide) (k_ne (by decide) (k_ne (by decide) (k_ne (by decide) (k_set e7)))))))))))))))))) (cwV 0 hts gX8_readExtreme_X8_expectEnd rfl rfl rfl (by decide +kernel) ⟨Nat.le_of_ble_eq_true rfl, Nat.le_of_ble_eq_true rfl⟩) rfl hl.1 (Nat.le_of_ble_eq_true rfl) dX8_readExtreme_49 ⟨Nat.le_of_ble_eq_true rfl, Nat.le_of_ble_eq_true rfl⟩ (fun _ H locs hP hD hS => ?_)
  have hP : va_P D vwCl [(h4, .inl (cI, 2001, .inl (upd g0 0 0))), (h5, .inl (cI, 2001, .inl (upd g1 0 0))), (h6, .inr (2, f2)), (h7, .inl (cI, 260, .inl (upd (upd (upd g2 259 0) 250 0) 251 2))), (h2, .inr (3, ((((f1.set 6 (.ref h1)).set 7 (.int 0)).set 8 (.int 0)).set 5 (.int 0)))), (h8, .inl (cI, 13312, .inl (upd (upd g3 12800 43) 12801 43))), (h0, .inr (8, ((((((((((((((((((f0.set 3 (.int 0)).set 4 (.int 0)).set 5 (.int 0)).set 6 (.int (-1))).set 6 (.int 0)).set 7 (.int 0)).set 8 (.int 0)).set 11 (.int 25)).set 12 (.int 0)).set 13 (.int 0)).set 14 (.int 0)).set 3 (.int 2)).set 4 (.int 0)).set 7 (.int 44)).set 13 (.int 1)).set 13 (.int 2)).set 5 (.int 0)).set 7 (.int 44))))] H := hP
  have hD : va_D A [(h4, .inl (cI, 2001, .inl (upd g0 0 0))), (h5, .inl (cI, 2001, .inl (upd g1 0 0))), (h6, .inr (2, f2)), (h7, .inl (cI, 260, .inl (upd (upd (upd g2 259 0) 250 0) 251 2))), (h2, .inr (3, ((((f1.set 6 (.ref h1)).set 7 (.int 0)).set 8 (.int 0)).set 5 (.int 0)))), (h8, .inl (cI, 13312, .inl (upd (upd g3 12800 43) 12801 43))), (h0, .inr (8, ((((((((((((((((((f0.set 3 (.int 0)).set 4 (.int 0)).set 5 (.int 0)).set 6 (.int (-1))).set 6 (.int 0)).set 7 (.int 0)).set 8 (.int 0)).set 11 (.int 25)).set 12 (.int 0)).set 13 (.int 0)).set 14 (.int 0)).set 3 (.int 2)).set 4 (.int 0)).set 7 (.int 44)).set 13 (.int 1)).set 13 (.int 2)).set 5 (.int 0)).set 7 (.int 44))))] := hD
  refine lv_aload_n hx hb dX8_readExtreme_52 rfl (lv_at hl 0 rfl) ?_
  refine va_get (D := D) (ref := "IntegerHouse$Reader") (ci := 8) (v := .int 2) (C := RX8) (T := TX8) (N := 15) hx hb hts hin8 hown hK hP 6 rfl rfl 3 (by decide) (hts (.fieldLink RX8 62 "IntegerHouse$Reader" "faultKind" "I") (List.mem_cons_of_mem _ (List.mem_append_left _ (List.mem_append_left _ (List.mem_append_left _ (List.mem_append_left _ (List.mem_append_left _ (List.mem_of_getElem? (i := 2) rfl)))))))) (fun _ h9 => h9) (k_ne (by decide) (k_ne (by decide) (k_ne (by decide) (k_ne (by decide) (k_ne (by decide) (k_ne (by decide) (k_set (k_ne (by decide) (k_ne (by decide) (k_ne (by decide) (k_ne (by decide) (k_ne (by decide) (k_ne (by decide) (k_ne (by decide) (k_ne (by decide) (k_ne (by decide) (k_ne (by decide) (k_set e7)))))))))))))))))) dX8_readExtreme_53 ?_
  refine lv_if_ne (tgt := 94) hx hb dX8_readExtreme_56 (by decide) (fun _ => ?_) (fun c9 => absurd c9 (by decide))
  refine lv_aload_n hx hb dX8_readExtreme_94 rfl (lv_at hl 0 rfl) ?_
  refine va_get (D := D) (ref := "IntegerHouse$Reader") (ci := 8) (v := .int 2) (C := RX8) (T := TX8) (N := 15) hx hb hts hin8 hown hK hP 6 rfl rfl 3 (by decide) (hts (.fieldLink RX8 62 "IntegerHouse$Reader" "faultKind" "I") (List.mem_cons_of_mem _ (List.mem_append_left _ (List.mem_append_left _ (List.mem_append_left _ (List.mem_append_left _ (List.mem_append_left _ (List.mem_of_getElem? (i := 2) rfl)))))))) (fun _ h9 => h9) (k_ne (by decide) (k_ne (by decide) (k_ne (by decide) (k_ne (by decide) (k_ne (by decide) (k_ne (by decide) (k_set (k_ne (by decide) (k_ne (by decide) (k_ne (by decide) (k_ne (by decide) (k_ne (by decide) (k_ne (by decide) (k_ne (by decide) (k_ne (by decide) (k_ne (by decide) (k_ne (by decide) (k_set e7)))))))))))))))))) dX8_readExtreme_95 ?_
  refine lv_if_ne (tgt := 123) hx hb dX8_readExtreme_98 (by decide) (fun _ => ?_) (fun c9 => absurd c9 (by decide))
  refine lv_aload_n hx hb dX8_readExtreme_123 rfl (lv_at hl 0 rfl) ?_
  refine va_get (D := D) (ref := "IntegerHouse$Reader") (ci := 8) (v := .int 2) (C := RX8) (T := TX8) (N := 15) hx hb hts hin8 hown hK hP 6 rfl rfl 3 (by decide) (hts (.fieldLink RX8 62 "IntegerHouse$Reader" "faultKind" "I") (List.mem_cons_of_mem _ (List.mem_append_left _ (List.mem_append_left _ (List.mem_append_left _ (List.mem_append_left _ (List.mem_append_left _ (List.mem_of_getElem? (i := 2) rfl)))))))) (fun _ h9 => h9) (k_ne (by decide) (k_ne (by decide) (k_ne (by decide) (k_ne (by decide) (k_ne (by decide) (k_ne (by decide) (k_set (k_ne (by decide) (k_ne (by decide) (k_ne (by decide) (k_ne (by decide) (k_ne (by decide) (k_ne (by decide) (k_ne (by decide) (k_ne (by decide) (k_ne (by decide) (k_ne (by decide) (k_set e7)))))))))))))))))) dX8_readExtreme_124 ?_
  refine lv_if_ne (tgt := 134) hx hb dX8_readExtreme_127 (by decide) (fun _ => ?_) (fun c9 => absurd c9 (by decide))
  refine lv_iconst (v := 0) hx hb dX8_readExtreme_134 (by decide) ?_
  have hP := hP.sub (ws' := [(h0, .inr (8, ((((((((((((((((((f0.set 3 (.int 0)).set 4 (.int 0)).set 5 (.int 0)).set 6 (.int (-1))).set 6 (.int 0)).set 7 (.int 0)).set 8 (.int 0)).set 11 (.int 25)).set 12 (.int 0)).set 13 (.int 0)).set 14 (.int 0)).set 3 (.int 2)).set 4 (.int 0)).set 7 (.int 44)).set 13 (.int 1)).set 13 (.int 2)).set 5 (.int 0)).set 7 (.int 44)))), (h2, .inr (3, ((((f1.set 6 (.ref h1)).set 7 (.int 0)).set 8 (.int 0)).set 5 (.int 0)))), (h4, .inl (cI, 2001, .inl (upd g0 0 0))), (h5, .inl (cI, 2001, .inl (upd g1 0 0))), (h6, .inr (2, f2)), (h7, .inl (cI, 260, .inl (upd (upd (upd g2 259 0) 250 0) 251 2))), (h8, .inl (cI, 13312, .inl (upd (upd g3 12800 43) 12801 43)))]) [6, 4, 0, 1, 2, 3, 5] rfl
  have hD := hD.sub (ws' := [(h0, .inr (8, ((((((((((((((((((f0.set 3 (.int 0)).set 4 (.int 0)).set 5 (.int 0)).set 6 (.int (-1))).set 6 (.int 0)).set 7 (.int 0)).set 8 (.int 0)).set 11 (.int 25)).set 12 (.int 0)).set 13 (.int 0)).set 14 (.int 0)).set 3 (.int 2)).set 4 (.int 0)).set 7 (.int 44)).set 13 (.int 1)).set 13 (.int 2)).set 5 (.int 0)).set 7 (.int 44)))), (h2, .inr (3, ((((f1.set 6 (.ref h1)).set 7 (.int 0)).set 8 (.int 0)).set 5 (.int 0)))), (h4, .inl (cI, 2001, .inl (upd g0 0 0))), (h5, .inl (cI, 2001, .inl (upd g1 0 0))), (h6, .inr (2, f2)), (h7, .inl (cI, 260, .inl (upd (upd (upd g2 259 0) 250 0) 251 2))), (h8, .inl (cI, 13312, .inl (upd (upd g3 12800 43) 12801 43)))]) [6, 4, 0, 1, 2, 3, 5] (by decide +kernel) rfl
  exact W.zret (v := 0) hx hb hr rfl (fun t ht hW => ⟨⟨0, (), rfl, rfl, kB_mk ht hW hP hK hD⟩, hS.F ht⟩) hS.2.2 dX8_readExtreme_135
set_option maxHeartbeats 400000000 in
set_option maxRecDepth 100000 in
theorem c_X11_extreme_0 (l : Launch) (E : kE) (D : va_G) (cI cJ cB cZ : ClassId) (h0 : Nat) (f0 : List Value) (h1 : Nat) (f1 : List Value) (h2 : Nat) (f2 : List Value) (h3 : Nat) (h4 : Nat) (f3 : List Value) (h5 : Nat) (f4 : List Value) (h6 : Nat) (h7 : Nat) (h8 : Nat) (h9 : Nat) (h10 : Nat) (g0 : Nat → Int32) (g1 : Nat → Int32) (g2 : Nat → Int32) (g3 : Nat → Int32) (e0 : f0[1]? = some (.ref h1)) (e1 : f1[8]? = some (.int 0)) (e2 : f0[2]? = some (.ref h2)) (e3 : f2[12]? = some (.int 0)) (e4 : f0[5]? = some (.ref h3)) (e5 : f0[0]? = some (.ref h4)) (e6 : f0[12]? = some (.int 0)) (e7 : f3[0]? = some (.ref h5)) (e8 : f4[6]? = some (.ref h6)) (e9 : f4[7]? = some (.int 0)) (e10 : f4[8]? = some (.int 0)) (e11 : f4[5]? = some (.int 0)) (e12 : f4[1]? = some (.ref h7)) (e13 : f4[2]? = some (.ref h8)) (e14 : f3[3]? = some (.int 0)) (e15 : f3[4]? = some (.int 0)) (e16 : f3[5]? = some (.int 0)) (e17 : f3[6]? = some (.int 0)) (e18 : f3[7]? = some (.int 0)) (e19 : f3[8]? = some (.int 0)) (e20 : f3[11]? = some (.int 0)) (e21 : f3[12]? = some (.int 0)) (e22 : f3[13]? = some (.int 0)) (e23 : f3[14]? = some (.int 0)) (e24 : f3[1]? = some (.ref h2)) (e25 : f2[5]? = some (.ref h9)) (e26 : f2[10]? = some (.int 0)) (e27 : f2[3]? = some (.ref h10)) (e28 : f0[13]? = some (.int 0)) : kI l E D (kT cI cJ cB cZ) yX11_extreme wsX11_extreme ({ frames := 6, cells := 0, slots := 0, locals := 134 }) [.ref h0, .int 1] [(h0, .inr (11, f0)), (h1, .inr (1, f1)), (h2, .inr (2, f2)), (h3, .inr (8, f3)), (h5, .inr (3, f4)), (h7, .inl (cI, 2001, .inl g0)), (h8, .inl (cI, 2001, .inl g1)), (h9, .inl (cI, 260, .inl g2)), (h10, .inl (cI, 13312, .inl g3))] ((-1000)) [(h0, .inr (11, ((f0.set 12 (.int 0)).set 13 (.int 2)))), (h1, .inr (1, f1)), (h2, .inr (2, (f2.set 12 (.int 0)))), (h3, .inr (8, ((((((((((((((((((f3.set 3 (.int 0)).set 4 (.int 0)).set 5 (.int 0)).set 6 (.int (-1))).set 6 (.int 0)).set 7 (.int 0)).set 8 (.int 0)).set 11 (.int 25)).set 12 (.int 0)).set 13 (.int 0)).set 14 (.int 0)).set 3 (.int 2)).set 4 (.int 0)).set 7 (.int 44)).set 13 (.int 1)).set 13 (.int 2)).set 5 (.int 0)).set 7 (.int 44)))), (h5, .inr (3, ((((f4.set 6 (.ref h4)).set 7 (.int 0)).set 8 (.int 0)).set 5 (.int 0)))), (h7, .inl (cI, 2001, .inl (upd g0 0 0))), (h8, .inl (cI, 2001, .inl (upd g1 0 0))), (h9, .inl (cI, 260, .inl (upd (upd (upd g2 259 0) 250 0) 251 2))), (h10, .inl (cI, 13312, .inl (upd (upd g3 12800 43) 12801 43)))] 0 0 := by
  intro sz
  refine Met.ofW (cc := cX11_extreme) (maxL := 5) (ret := (some .int)) (by decide) rfl ?_
  intro p e s m args below meth c s₁ B hml hv
  obtain ⟨rfl, hsz, hP, hK, hD0, hN, hX⟩ := hv
  have hx := B.exec
  have hb := B.bytes
  have hr := B.returns
  have hts := atoms_spec (ws := wsX11_extreme) B.pre
  have hown : s.vm.findClass RX11 = some m.cls := findClass_of_methodNamed B.named
  have hlocks := B.notSynchronized
  have hin11 : ∀ w ∈ wsX110, w ∈ wsX11_extreme := (fun w h => (List.mem_cons_of_mem _ (List.mem_append_left _ (List.mem_append_left _ (List.mem_append_left _ (List.mem_append_left _ (List.mem_append_left _ (List.mem_append_left _ (List.mem_append_left _ (List.mem_append_right _ h))))))))))
  have hin1 : ∀ w ∈ wsX10, w ∈ wsX11_extreme := (fun w h => (List.mem_cons_of_mem _ (List.mem_append_left _ (List.mem_append_left _ (List.mem_append_left _ (List.mem_append_left _ (List.mem_append_left _ (List.mem_append_left _ (List.mem_append_right _ h)))))))))
  have hin2 : ∀ w ∈ wsX20, w ∈ wsX11_extreme := (fun w h => (List.mem_cons_of_mem _ (List.mem_append_left _ (List.mem_append_left _ (List.mem_append_left _ (List.mem_append_left _ (List.mem_append_left _ (List.mem_append_right _ h))))))))
  subst hsz
  have hD := hD0.self (sz := s.heap.size)
  have hAE := k_AE hD0 hX
  generalize hAe : va_A [(h0, .inr (11, f0)), (h1, .inr (1, f1)), (h2, .inr (2, f2)), (h3, .inr (8, f3)), (h5, .inr (3, f4)), (h7, .inl (cI, 2001, .inl g0)), (h8, .inl (cI, 2001, .inl g1)), (h9, .inl (cI, 260, .inl g2)), (h10, .inl (cI, 13312, .inl g3))] s.heap.size = A at hD hAE ⊢
  have hA : ∀ q : Nat, s.heap.size ≤ q → A q := fun q h => by rw [← hAe]; exact Or.inr h
  have hS : va_S A s.heap s.heap [] := va_S.rf
  have hP : va_P D vwCl [(h0, .inr (11, f0)), (h1, .inr (1, f1)), (h2, .inr (2, f2)), (h3, .inr (8, f3)), (h5, .inr (3, f4)), (h7, .inl (cI, 2001, .inl g0)), (h8, .inl (cI, 2001, .inl g1)), (h9, .inl (cI, 260, .inl g2)), (h10, .inl (cI, 13312, .inl g3))] s.heap := hP
  have hl := lv_entry ([.ref h0, .int 1] : List Value) (n := 5) (Nat.le_of_ble_eq_true rfl)
  rw [lg_entry_eq]
  generalize (lg_sl ([.ref h0, .int 1]) ++ List.replicate (5 - (lg_sl ([.ref h0, .int 1])).length) Slot.unset).toArray = ls at hl ⊢
  have hl : lv_has ls 5 [(0, .ref h0), (1, .int 1)] := hl
  refine lv_aload_n hx hb dX11_extreme_0 rfl (lv_at hl 0 rfl) ?_
  refine va_get (D := D) (ref := "IntegerHouse") (ci := 11) (v := .ref h1) (C := RX11) (T := TX11) (N := 15) hx hb hts hin11 hown hK hP 0 rfl rfl 1 (by decide) (hts (.fieldLink RX11 16 "IntegerHouse" "disk" "LIntegerHouse$Disk;") (List.mem_cons_of_mem _ (List.mem_append_left _ (List.mem_append_left _ (List.mem_append_left _ (List.mem_append_left _ (List.mem_append_left _ (List.mem_append_left _ (List.mem_append_left _ (List.mem_append_left _ (List.mem_append_left _ (List.mem_of_getElem? (i := 0) rfl)))))))))))) (fun _ h9 => h9) e0 dX11_extreme_1 ?_
  refine va_getN (host := "IntegerHouse") (D := D) (ref := "IntegerHouse$Disk") (ci := 1) (v := .int 0) (C := RX1) (T := TX1) (N := 9) hx hb hts hin1 hown hK hP 1 rfl rfl 8 (by decide) (va_Nw.use rfl (hN.1 ("IntegerHouse", 122, "IntegerHouse$Disk", "down", "Z", "IntegerHouse") (List.mem_of_getElem? (i := 3) rfl))) (fun _ h9 => h9) e1 dX11_extreme_4 ?_
  refine lv_if_eq (tgt := 13) hx hb dX11_extreme_7 (by decide) (fun _ => ?_) (fun c9 => absurd (by decide) c9)
  refine lv_aload_n hx hb dX11_extreme_13 rfl (lv_at hl 0 rfl) ?_
  refine va_get (D := D) (ref := "IntegerHouse") (ci := 11) (v := .ref h2) (C := RX11) (T := TX11) (N := 15) hx hb hts hin11 hown hK hP 0 rfl rfl 2 (by decide) (hts (.fieldLink RX11 23 "IntegerHouse" "house" "LIntegerHouse$House;") (List.mem_cons_of_mem _ (List.mem_append_left _ (List.mem_append_left _ (List.mem_append_left _ (List.mem_append_left _ (List.mem_append_left _ (List.mem_append_left _ (List.mem_append_left _ (List.mem_append_left _ (List.mem_append_left _ (List.mem_of_getElem? (i := 1) rfl)))))))))))) (fun _ h9 => h9) e2 dX11_extreme_14 ?_
  refine va_getN (host := "IntegerHouse") (D := D) (ref := "IntegerHouse$House") (ci := 2) (v := .int 0) (C := RX2) (T := TX2) (N := 16) hx hb hts hin2 hown hK hP 2 rfl rfl 12 (by decide) (va_Nw.use rfl (hN.1 ("IntegerHouse", 233, "IntegerHouse$House", "poolSize", "I", "IntegerHouse") (List.mem_of_getElem? (i := 16) rfl))) (fun _ h9 => h9) e3 dX11_extreme_17 ?_
  refine lv_istore_n (lv' := [(2, .int 0), (0, .ref h0), (1, .int 1)]) hx hb dX11_extreme_20 rfl hl (by decide) rfl (fun ls hl => ?_)
  refine lv_aload_n hx hb dX11_extreme_21 rfl (lv_at hl 1 rfl) ?_
  refine va_get (D := D) (ref := "IntegerHouse") (ci := 11) (v := .ref h3) (C := RX11) (T := TX11) (N := 15) hx hb hts hin11 hown hK hP 0 rfl rfl 5 (by decide) (hts (.fieldLink RX11 48 "IntegerHouse" "reader" "LIntegerHouse$Reader;") (List.mem_cons_of_mem _ (List.mem_append_left _ (List.mem_append_left _ (List.mem_append_left _ (List.mem_append_left _ (List.mem_append_left _ (List.mem_append_left _ (List.mem_append_left _ (List.mem_append_left _ (List.mem_append_left _ (List.mem_of_getElem? (i := 2) rfl)))))))))))) (fun _ h9 => h9) e4 dX11_extreme_22 ?_
  refine lv_aload_n hx hb dX11_extreme_25 rfl (lv_at hl 1 rfl) ?_
  refine va_get (D := D) (ref := "IntegerHouse") (ci := 11) (v := .ref h4) (C := RX11) (T := TX11) (N := 15) hx hb hts hin11 hown hK hP 0 rfl rfl 0 (by decide) (hts (.fieldLink RX11 9 "IntegerHouse" "tape" "[B") (List.mem_cons_of_mem _ (List.mem_append_left _ (List.mem_append_left _ (List.mem_append_left _ (List.mem_append_left _ (List.mem_append_left _ (List.mem_append_left _ (List.mem_append_left _ (List.mem_append_left _ (List.mem_append_left _ (List.mem_of_getElem? (i := 3) rfl)))))))))))) (fun _ h9 => h9) e5 dX11_extreme_26 ?_
  refine lv_aload_n hx hb dX11_extreme_29 rfl (lv_at hl 1 rfl) ?_
  refine k_cVi (As := []) (rest := [.ref h4, .ref h3]) (wc := [(h0, .inr (11, f0))]) (wr := [(h1, .inr (1, f1)), (h2, .inr (2, f2)), (h3, .inr (8, f3)), (h5, .inr (3, f4)), (h7, .inl (cI, 2001, .inl g0)), (h8, .inl (cI, 2001, .inl g1)), (h9, .inl (cI, 260, .inl g2)), (h10, .inl (cI, 13312, .inl g3))]) (w1 := [(h0, .inr (11, (f0.set 12 (.int 0))))]) ⟨hx, hb, hml, hown, hts⟩ hN hX hAE hK hP hD hS hA [0] [1, 2, 3, 4, 5, 6, 7, 8] (ci := 11) rfl rfl rfl rfl (by decide +kernel) (by decide +kernel) (by decide +kernel) (c_X11_useTape_0 l E D cI cJ cB cZ h0 f0 e6) (cwV 0 hts gX11_extreme_X11_useTape rfl rfl rfl (by decide +kernel) ⟨Nat.le_of_ble_eq_true rfl, Nat.le_of_ble_eq_true rfl⟩) rfl hl.1 (Nat.le_of_ble_eq_true rfl) dX11_extreme_30 ⟨Nat.le_of_ble_eq_true rfl, Nat.le_of_ble_eq_true rfl⟩ (fun H locs hP hD hS => ?_)
  have hP : va_P D vwCl [(h1, .inr (1, f1)), (h2, .inr (2, f2)), (h3, .inr (8, f3)), (h5, .inr (3, f4)), (h7, .inl (cI, 2001, .inl g0)), (h8, .inl (cI, 2001, .inl g1)), (h9, .inl (cI, 260, .inl g2)), (h10, .inl (cI, 13312, .inl g3)), (h0, .inr (11, (f0.set 12 (.int 0))))] H := hP
  have hD : va_D A [(h1, .inr (1, f1)), (h2, .inr (2, f2)), (h3, .inr (8, f3)), (h5, .inr (3, f4)), (h7, .inl (cI, 2001, .inl g0)), (h8, .inl (cI, 2001, .inl g1)), (h9, .inl (cI, 260, .inl g2)), (h10, .inl (cI, 13312, .inl g3)), (h0, .inr (11, (f0.set 12 (.int 0))))] := hD
  refine k_cVi (As := [.ref h4, .int 0]) (rest := []) (wc := [(h3, .inr (8, f3)), (h5, .inr (3, f4)), (h7, .inl (cI, 2001, .inl g0)), (h8, .inl (cI, 2001, .inl g1)), (h2, .inr (2, f2)), (h9, .inl (cI, 260, .inl g2)), (h10, .inl (cI, 13312, .inl g3))]) (wr := [(h1, .inr (1, f1)), (h0, .inr (11, (f0.set 12 (.int 0))))]) (w1 := [(h3, .inr (8, ((((((((((((((((((f3.set 3 (.int 0)).set 4 (.int 0)).set 5 (.int 0)).set 6 (.int (-1))).set 6 (.int 0)).set 7 (.int 0)).set 8 (.int 0)).set 11 (.int 25)).set 12 (.int 0)).set 13 (.int 0)).set 14 (.int 0)).set 3 (.int 2)).set 4 (.int 0)).set 7 (.int 44)).set 13 (.int 1)).set 13 (.int 2)).set 5 (.int 0)).set 7 (.int 44)))), (h5, .inr (3, ((((f4.set 6 (.ref h4)).set 7 (.int 0)).set 8 (.int 0)).set 5 (.int 0)))), (h7, .inl (cI, 2001, .inl (upd g0 0 0))), (h8, .inl (cI, 2001, .inl (upd g1 0 0))), (h2, .inr (2, f2)), (h9, .inl (cI, 260, .inl (upd (upd (upd g2 259 0) 250 0) 251 2))), (h10, .inl (cI, 13312, .inl (upd (upd g3 12800 43) 12801 43)))]) ⟨hx, hb, hml, hown, hts⟩ hN hX hAE hK hP hD hS hA [2, 3, 4, 5, 1, 6, 7] [0, 8] (ci := 8) rfl rfl rfl rfl (by decide +kernel) (by decide +kernel) (by decide +kernel) (c_X8_readExtreme_0 l E D cI cJ cB cZ h3 h4 f3 h5 f4 h6 h7 h8 g0 g1 h2 f2 h9 h10 g2 g3 e7 e8 e9 e10 e11 e12 e13 e14 e15 e16 e17 e18 e19 e20 e21 e22 e23 e24 e25 e26 e27) (cwV 2 hts gX11_extreme_X8_readExtreme rfl rfl rfl (by decide +kernel) ⟨Nat.le_of_ble_eq_true rfl, Nat.le_of_ble_eq_true rfl⟩) rfl hl.1 (Nat.le_of_ble_eq_true rfl) dX11_extreme_33 ⟨Nat.le_of_ble_eq_true rfl, Nat.le_of_ble_eq_true rfl⟩ (fun H locs hP hD hS => ?_)
  have hP : va_P D vwCl [(h1, .inr (1, f1)), (h0, .inr (11, (f0.set 12 (.int 0)))), (h3, .inr (8, ((((((((((((((((((f3.set 3 (.int 0)).set 4 (.int 0)).set 5 (.int 0)).set 6 (.int (-1))).set 6 (.int 0)).set 7 (.int 0)).set 8 (.int 0)).set 11 (.int 25)).set 12 (.int 0)).set 13 (.int 0)).set 14 (.int 0)).set 3 (.int 2)).set 4 (.int 0)).set 7 (.int 44)).set 13 (.int 1)).set 13 (.int 2)).set 5 (.int 0)).set 7 (.int 44)))), (h5, .inr (3, ((((f4.set 6 (.ref h4)).set 7 (.int 0)).set 8 (.int 0)).set 5 (.int 0)))), (h7, .inl (cI, 2001, .inl (upd g0 0 0))), (h8, .inl (cI, 2001, .inl (upd g1 0 0))), (h2, .inr (2, f2)), (h9, .inl (cI, 260, .inl (upd (upd (upd g2 259 0) 250 0) 251 2))), (h10, .inl (cI, 13312, .inl (upd (upd g3 12800 43) 12801 43)))] H := hP
  have hD : va_D A [(h1, .inr (1, f1)), (h0, .inr (11, (f0.set 12 (.int 0)))), (h3, .inr (8, ((((((((((((((((((f3.set 3 (.int 0)).set 4 (.int 0)).set 5 (.int 0)).set 6 (.int (-1))).set 6 (.int 0)).set 7 (.int 0)).set 8 (.int 0)).set 11 (.int 25)).set 12 (.int 0)).set 13 (.int 0)).set 14 (.int 0)).set 3 (.int 2)).set 4 (.int 0)).set 7 (.int 44)).set 13 (.int 1)).set 13 (.int 2)).set 5 (.int 0)).set 7 (.int 44)))), (h5, .inr (3, ((((f4.set 6 (.ref h4)).set 7 (.int 0)).set 8 (.int 0)).set 5 (.int 0)))), (h7, .inl (cI, 2001, .inl (upd g0 0 0))), (h8, .inl (cI, 2001, .inl (upd g1 0 0))), (h2, .inr (2, f2)), (h9, .inl (cI, 260, .inl (upd (upd (upd g2 259 0) 250 0) 251 2))), (h10, .inl (cI, 13312, .inl (upd (upd g3 12800 43) 12801 43)))] := hD
  refine lv_if_ne (tgt := 47) hx hb dX11_extreme_36 (by decide) (fun c9 => absurd (by decide) c9) (fun _ => ?_)
  refine lv_aload_n hx hb dX11_extreme_39 rfl (lv_at hl 1 rfl) ?_
  refine k_cVi (As := []) (rest := []) (wc := [(h0, .inr (11, (f0.set 12 (.int 0)))), (h3, .inr (8, ((((((((((((((((((f3.set 3 (.int 0)).set 4 (.int 0)).set 5 (.int 0)).set 6 (.int (-1))).set 6 (.int 0)).set 7 (.int 0)).set 8 (.int 0)).set 11 (.int 25)).set 12 (.int 0)).set 13 (.int 0)).set 14 (.int 0)).set 3 (.int 2)).set 4 (.int 0)).set 7 (.int 44)).set 13 (.int 1)).set 13 (.int 2)).set 5 (.int 0)).set 7 (.int 44))))]) (wr := [(h1, .inr (1, f1)), (h5, .inr (3, ((((f4.set 6 (.ref h4)).set 7 (.int 0)).set 8 (.int 0)).set 5 (.int 0)))), (h7, .inl (cI, 2001, .inl (upd g0 0 0))), (h8, .inl (cI, 2001, .inl (upd g1 0 0))), (h2, .inr (2, f2)), (h9, .inl (cI, 260, .inl (upd (upd (upd g2 259 0) 250 0) 251 2))), (h10, .inl (cI, 13312, .inl (upd (upd g3 12800 43) 12801 43)))]) (w1 := [(h0, .inr (11, ((f0.set 12 (.int 0)).set 13 (.int 2)))), (h3, .inr (8, ((((((((((((((((((f3.set 3 (.int 0)).set 4 (.int 0)).set 5 (.int 0)).set 6 (.int (-1))).set 6 (.int 0)).set 7 (.int 0)).set 8 (.int 0)).set 11 (.int 25)).set 12 (.int 0)).set 13 (.int 0)).set 14 (.int 0)).set 3 (.int 2)).set 4 (.int 0)).set 7 (.int 44)).set 13 (.int 1)).set 13 (.int 2)).set 5 (.int 0)).set 7 (.int 44))))]) ⟨hx, hb, hml, hown, hts⟩ hN hX hAE hK hP hD hS hA [1, 2] [0, 3, 4, 5, 6, 7, 8] (ci := 11) rfl rfl rfl rfl (by decide +kernel) (by decide +kernel) (by decide +kernel) (c_X11_faulted_0 l E D cI cJ cB cZ h0 ((f0.set 12 (.int 0))) h3 (((((((((((((((((((f3.set 3 (.int 0)).set 4 (.int 0)).set 5 (.int 0)).set 6 (.int (-1))).set 6 (.int 0)).set 7 (.int 0)).set 8 (.int 0)).set 11 (.int 25)).set 12 (.int 0)).set 13 (.int 0)).set 14 (.int 0)).set 3 (.int 2)).set 4 (.int 0)).set 7 (.int 44)).set 13 (.int 1)).set 13 (.int 2)).set 5 (.int 0)).set 7 (.int 44))) (k_ne (by decide) e4) (k_ne (by decide) (k_ne (by decide) (k_ne (by decide) (k_ne (by decide) (k_ne (by decide) (k_ne (by decide) (k_set (k_ne (by decide) (k_ne (by decide) (k_ne (by decide) (k_ne (by decide) (k_ne (by decide) (k_ne (by decide) (k_ne (by decide) (k_ne (by decide) (k_ne (by decide) (k_ne (by decide) (k_set e14)))))))))))))))))) (k_ne (by decide) e28) (k_ne (by decide) (k_ne (by decide) (k_ne (by decide) (k_ne (by decide) (k_ne (by decide) (k_set (k_ne (by decide) (k_ne (by decide) (k_ne (by decide) (k_ne (by decide) (k_ne (by decide) (k_ne (by decide) (k_ne (by decide) (k_ne (by decide) (k_ne (by decide) (k_ne (by decide) (k_set (k_ne (by decide) e15))))))))))))))))))) (cwV 0 hts gX11_extreme_X11_faulted rfl rfl rfl (by decide +kernel) ⟨Nat.le_of_ble_eq_true rfl, Nat.le_of_ble_eq_true rfl⟩) rfl hl.1 (Nat.le_of_ble_eq_true rfl) dX11_extreme_40 ⟨Nat.le_of_ble_eq_true rfl, Nat.le_of_ble_eq_true rfl⟩ (fun H locs hP hD hS => ?_)
  have hP : va_P D vwCl [(h1, .inr (1, f1)), (h5, .inr (3, ((((f4.set 6 (.ref h4)).set 7 (.int 0)).set 8 (.int 0)).set 5 (.int 0)))), (h7, .inl (cI, 2001, .inl (upd g0 0 0))), (h8, .inl (cI, 2001, .inl (upd g1 0 0))), (h2, .inr (2, f2)), (h9, .inl (cI, 260, .inl (upd (upd (upd g2 259 0) 250 0) 251 2))), (h10, .inl (cI, 13312, .inl (upd (upd g3 12800 43) 12801 43))), (h0, .inr (11, ((f0.set 12 (.int 0)).set 13 (.int 2)))), (h3, .inr (8, ((((((((((((((((((f3.set 3 (.int 0)).set 4 (.int 0)).set 5 (.int 0)).set 6 (.int (-1))).set 6 (.int 0)).set 7 (.int 0)).set 8 (.int 0)).set 11 (.int 25)).set 12 (.int 0)).set 13 (.int 0)).set 14 (.int 0)).set 3 (.int 2)).set 4 (.int 0)).set 7 (.int 44)).set 13 (.int 1)).set 13 (.int 2)).set 5 (.int 0)).set 7 (.int 44))))] H := hP
  have hD : va_D A [(h1, .inr (1, f1)), (h5, .inr (3, ((((f4.set 6 (.ref h4)).set 7 (.int 0)).set 8 (.int 0)).set 5 (.int 0)))), (h7, .inl (cI, 2001, .inl (upd g0 0 0))), (h8, .inl (cI, 2001, .inl (upd g1 0 0))), (h2, .inr (2, f2)), (h9, .inl (cI, 260, .inl (upd (upd (upd g2 259 0) 250 0) 251 2))), (h10, .inl (cI, 13312, .inl (upd (upd g3 12800 43) 12801 43))), (h0, .inr (11, ((f0.set 12 (.int 0)).set 13 (.int 2)))), (h3, .inr (8, ((((((((((((((((((f3.set 3 (.int 0)).set 4 (.int 0)).set 5 (.int 0)).set 6 (.int (-1))).set 6 (.int 0)).set 7 (.int 0)).set 8 (.int 0)).set 11 (.int 25)).set 12 (.int 0)).set 13 (.int 0)).set 14 (.int 0)).set 3 (.int 2)).set 4 (.int 0)).set 7 (.int 44)).set 13 (.int 1)).set 13 (.int 2)).set 5 (.int 0)).set 7 (.int 44))))] := hD
  refine lv_istore_n (lv' := [(3, .int (-1000)), (2, .int 0), (0, .ref h0), (1, .int 1)]) hx hb dX11_extreme_43 rfl hl (by decide) rfl (fun ls hl => ?_)
  refine lv_goto (tgt := 115) hx hb dX11_extreme_44 (by decide) ?_
  refine lv_aload_n hx hb dX11_extreme_115 rfl (lv_at hl 2 rfl) ?_
  refine va_get (D := D) (ref := "IntegerHouse") (ci := 11) (v := .ref h2) (C := RX11) (T := TX11) (N := 15) hx hb hts hin11 hown hK hP 7 rfl rfl 2 (by decide) (hts (.fieldLink RX11 23 "IntegerHouse" "house" "LIntegerHouse$House;") (List.mem_cons_of_mem _ (List.mem_append_left _ (List.mem_append_left _ (List.mem_append_left _ (List.mem_append_left _ (List.mem_append_left _ (List.mem_append_left _ (List.mem_append_left _ (List.mem_append_left _ (List.mem_append_left _ (List.mem_of_getElem? (i := 1) rfl)))))))))))) (fun _ h9 => h9) (k_ne (by decide) (k_ne (by decide) e2)) dX11_extreme_116 ?_
  refine lv_iload_n hx hb dX11_extreme_119 rfl (lv_at hl 1 rfl) ?_
  refine va_putN (host := "IntegerHouse") (D := D) (ref := "IntegerHouse$House") (ci := 2) (v := .int 0) (ty := .int) (C := RX2) (T := TX2) (N := 16) hx hb hts hin2 tyX2 tyX2_ok nmX2 hown hK hP hD hS 4 rfl rfl 12 (by decide) (va_Nw.use rfl (hN.1 ("IntegerHouse", 233, "IntegerHouse$House", "poolSize", "I", "IntegerHouse") (List.mem_of_getElem? (i := 16) rfl))) (fun _ h9 => h9) rfl (by decide +kernel) rfl rfl (k_len e3) dX11_extreme_120 (fun H locs hP hD hS => ?_)
  have hP : va_P D vwCl [(h1, .inr (1, f1)), (h5, .inr (3, ((((f4.set 6 (.ref h4)).set 7 (.int 0)).set 8 (.int 0)).set 5 (.int 0)))), (h7, .inl (cI, 2001, .inl (upd g0 0 0))), (h8, .inl (cI, 2001, .inl (upd g1 0 0))), (h2, .inr (2, (f2.set 12 (.int 0)))), (h9, .inl (cI, 260, .inl (upd (upd (upd g2 259 0) 250 0) 251 2))), (h10, .inl (cI, 13312, .inl (upd (upd g3 12800 43) 12801 43))), (h0, .inr (11, ((f0.set 12 (.int 0)).set 13 (.int 2)))), (h3, .inr (8, ((((((((((((((((((f3.set 3 (.int 0)).set 4 (.int 0)).set 5 (.int 0)).set 6 (.int (-1))).set 6 (.int 0)).set 7 (.int 0)).set 8 (.int 0)).set 11 (.int 25)).set 12 (.int 0)).set 13 (.int 0)).set 14 (.int 0)).set 3 (.int 2)).set 4 (.int 0)).set 7 (.int 44)).set 13 (.int 1)).set 13 (.int 2)).set 5 (.int 0)).set 7 (.int 44))))] H := hP
  have hD : va_D A [(h1, .inr (1, f1)), (h5, .inr (3, ((((f4.set 6 (.ref h4)).set 7 (.int 0)).set 8 (.int 0)).set 5 (.int 0)))), (h7, .inl (cI, 2001, .inl (upd g0 0 0))), (h8, .inl (cI, 2001, .inl (upd g1 0 0))), (h2, .inr (2, (f2.set 12 (.int 0)))), (h9, .inl (cI, 260, .inl (upd (upd (upd g2 259 0) 250 0) 251 2))), (h10, .inl (cI, 13312, .inl (upd (upd g3 12800 43) 12801 43))), (h0, .inr (11, ((f0.set 12 (.int 0)).set 13 (.int 2)))), (h3, .inr (8, ((((((((((((((((((f3.set 3 (.int 0)).set 4 (.int 0)).set 5 (.int 0)).set 6 (.int (-1))).set 6 (.int 0)).set 7 (.int 0)).set 8 (.int 0)).set 11 (.int 25)).set 12 (.int 0)).set 13 (.int 0)).set 14 (.int 0)).set 3 (.int 2)).set 4 (.int 0)).set 7 (.int 44)).set 13 (.int 1)).set 13 (.int 2)).set 5 (.int 0)).set 7 (.int 44))))] := hD
  refine lv_iload_n hx hb dX11_extreme_123 rfl (lv_at hl 0 rfl) ?_
  have hP := hP.sub (ws' := [(h0, .inr (11, ((f0.set 12 (.int 0)).set 13 (.int 2)))), (h1, .inr (1, f1)), (h2, .inr (2, (f2.set 12 (.int 0)))), (h3, .inr (8, ((((((((((((((((((f3.set 3 (.int 0)).set 4 (.int 0)).set 5 (.int 0)).set 6 (.int (-1))).set 6 (.int 0)).set 7 (.int 0)).set 8 (.int 0)).set 11 (.int 25)).set 12 (.int 0)).set 13 (.int 0)).set 14 (.int 0)).set 3 (.int 2)).set 4 (.int 0)).set 7 (.int 44)).set 13 (.int 1)).set 13 (.int 2)).set 5 (.int 0)).set 7 (.int 44)))), (h5, .inr (3, ((((f4.set 6 (.ref h4)).set 7 (.int 0)).set 8 (.int 0)).set 5 (.int 0)))), (h7, .inl (cI, 2001, .inl (upd g0 0 0))), (h8, .inl (cI, 2001, .inl (upd g1 0 0))), (h9, .inl (cI, 260, .inl (upd (upd (upd g2 259 0) 250 0) 251 2))), (h10, .inl (cI, 13312, .inl (upd (upd g3 12800 43) 12801 43)))]) [7, 0, 4, 8, 1, 2, 3, 5, 6] rfl
  have hD := hD.sub (ws' := [(h0, .inr (11, ((f0.set 12 (.int 0)).set 13 (.int 2)))), (h1, .inr (1, f1)), (h2, .inr (2, (f2.set 12 (.int 0)))), (h3, .inr (8, ((((((((((((((((((f3.set 3 (.int 0)).set 4 (.int 0)).set 5 (.int 0)).set 6 (.int (-1))).set 6 (.int 0)).set 7 (.int 0)).set 8 (.int 0)).set 11 (.int 25)).set 12 (.int 0)).set 13 (.int 0)).set 14 (.int 0)).set 3 (.int 2)).set 4 (.int 0)).set 7 (.int 44)).set 13 (.int 1)).set 13 (.int 2)).set 5 (.int 0)).set 7 (.int 44)))), (h5, .inr (3, ((((f4.set 6 (.ref h4)).set 7 (.int 0)).set 8 (.int 0)).set 5 (.int 0)))), (h7, .inl (cI, 2001, .inl (upd g0 0 0))), (h8, .inl (cI, 2001, .inl (upd g1 0 0))), (h9, .inl (cI, 260, .inl (upd (upd (upd g2 259 0) 250 0) 251 2))), (h10, .inl (cI, 13312, .inl (upd (upd g3 12800 43) 12801 43)))]) [7, 0, 4, 8, 1, 2, 3, 5, 6] (by decide +kernel) rfl
  exact W.iret (v := (-1000)) hx hb hr (fun t ht hW => ⟨⟨(-1000), (), rfl, rfl, kB_mk ht hW hP hK hD⟩, hS.F ht⟩) hS.2.2 dX11_extreme_124
set_option maxHeartbeats 400000000 in
set_option maxRecDepth 100000 in
theorem c_X12_beginSlot_1 (l : Launch) (E : kE) (D : va_G) (cI cJ cB cZ : ClassId) (h0 : Nat) (f0 : List Value) (h1 : Nat) (g0 : Nat → Int32) (h2 : Nat) (g1 : Nat → Int32) (h3 : Nat) (g2 : Nat → Int32) (h4 : Nat) (g3 : Nat → Int32) (h5 : Nat) (g4 : Nat → Int32) (e0 : f0[66]? = some (.int 0)) (e1 : f0[67]? = some (.int 0)) (e2 : f0[40]? = some (.ref h1)) (e3 : f0[45]? = some (.ref h2)) (e4 : f0[56]? = some (.ref h3)) (e5 : f0[60]? = some (.ref h4)) (e6 : f0[65]? = some (.ref h5)) : kV l E D (kT cI cJ cB cZ) yX12_beginSlot wsX12_beginSlot ({ frames := 0, cells := 0, slots := 0, locals := 0 }) [.ref h0, .int 25] [(h0, .inr (12, f0)), (h1, .inl (cI, 26, .inl g0)), (h2, .inl (cI, 26, .inl g1)), (h3, .inl (cI, 26, .inl g2)), (h4, .inl (cI, 26, .inl g3)), (h5, .inl (cI, 26, .inl g4))] (fun _ : Unit => [(h0, .inr (12, ((f0.set 66 (.int 25)).set 67 (.int 0)))), (h1, .inl (cI, 26, .inl (upd g0 25 0))), (h2, .inl (cI, 26, .inl (upd g1 25 0))), (h3, .inl (cI, 26, .inl (upd g2 25 0))), (h4, .inl (cI, 26, .inl (upd g3 25 0))), (h5, .inl (cI, 26, .inl (upd g4 25 0)))]) 0 0 := by
  intro sz
  refine Met.ofW (cc := cX12_beginSlot) (maxL := 2) (ret := none) (by decide) rfl ?_
  intro p e s m args below meth c s₁ B hml hv
  obtain ⟨rfl, hsz, hP, hK, hD0, hN, hX⟩ := hv
  have hx := B.exec
  have hb := B.bytes
  have hr := B.returns
  have hts := atoms_spec (ws := wsX12_beginSlot) B.pre
  have hown : s.vm.findClass RX12 = some m.cls := findClass_of_methodNamed B.named
  have hlocks := B.notSynchronized
  have hin12 : ∀ w ∈ wsX120, w ∈ wsX12_beginSlot := (fun w h => (List.mem_cons_of_mem _ (List.mem_append_right _ h)))
  subst hsz
  have hD := hD0.self (sz := s.heap.size)
  have hAE := k_AE hD0 hX
  generalize hAe : va_A [(h0, .inr (12, f0)), (h1, .inl (cI, 26, .inl g0)), (h2, .inl (cI, 26, .inl g1)), (h3, .inl (cI, 26, .inl g2)), (h4, .inl (cI, 26, .inl g3)), (h5, .inl (cI, 26, .inl g4))] s.heap.size = A at hD hAE ⊢
  have hA : ∀ q : Nat, s.heap.size ≤ q → A q := fun q h => by rw [← hAe]; exact Or.inr h
  have hS : va_S A s.heap s.heap [] := va_S.rf
  have hP : va_P D vwCl [(h0, .inr (12, f0)), (h1, .inl (cI, 26, .inl g0)), (h2, .inl (cI, 26, .inl g1)), (h3, .inl (cI, 26, .inl g2)), (h4, .inl (cI, 26, .inl g3)), (h5, .inl (cI, 26, .inl g4))] s.heap := hP
  have hl := lv_entry ([.ref h0, .int 25] : List Value) (n := 2) (Nat.le_of_ble_eq_true rfl)
  rw [lg_entry_eq]
  generalize (lg_sl ([.ref h0, .int 25]) ++ List.replicate (2 - (lg_sl ([.ref h0, .int 25])).length) Slot.unset).toArray = ls at hl ⊢
  have hl : lv_has ls 2 [(0, .ref h0), (1, .int 25)] := hl
  refine lv_aload_n hx hb dX12_beginSlot_0 rfl (lv_at hl 0 rfl) ?_
  refine lv_iload_n hx hb dX12_beginSlot_1 rfl (lv_at hl 1 rfl) ?_
  refine va_put (D := D) (ref := "IntegerHouseModel") (ci := 12) (v := .int 25) (ty := .int) (C := RX12) (T := TX12) (N := 195) hx hb hts hin12 tyX12 tyX12_ok nmX12 hown hK hP hD hS 0 rfl rfl 66 (by decide) (hts (.fieldLink RX12 630 "IntegerHouseModel" "slot" "I") (List.mem_cons_of_mem _ (List.mem_append_left _ (List.mem_of_getElem? (i := 0) rfl)))) (fun _ h9 => h9) rfl (by decide +kernel) rfl rfl (k_len e0) dX12_beginSlot_2 (fun H locs hP hD hS => ?_)
  have hP : va_P D vwCl [(h0, .inr (12, (f0.set 66 (.int 25)))), (h1, .inl (cI, 26, .inl g0)), (h2, .inl (cI, 26, .inl g1)), (h3, .inl (cI, 26, .inl g2)), (h4, .inl (cI, 26, .inl g3)), (h5, .inl (cI, 26, .inl g4))] H := hP
  have hD : va_D A [(h0, .inr (12, (f0.set 66 (.int 25)))), (h1, .inl (cI, 26, .inl g0)), (h2, .inl (cI, 26, .inl g1)), (h3, .inl (cI, 26, .inl g2)), (h4, .inl (cI, 26, .inl g3)), (h5, .inl (cI, 26, .inl g4))] := hD
  refine lv_aload_n hx hb dX12_beginSlot_5 rfl (lv_at hl 0 rfl) ?_
  refine lv_iconst (v := 0) hx hb dX12_beginSlot_6 (by decide) ?_
  refine va_put (D := D) (ref := "IntegerHouseModel") (ci := 12) (v := .int 0) (ty := .int) (C := RX12) (T := TX12) (N := 195) hx hb hts hin12 tyX12 tyX12_ok nmX12 hown hK hP hD hS 0 rfl rfl 67 (by decide) (hts (.fieldLink RX12 633 "IntegerHouseModel" "open" "I") (List.mem_cons_of_mem _ (List.mem_append_left _ (List.mem_of_getElem? (i := 1) rfl)))) (fun _ h9 => h9) rfl (by decide +kernel) rfl rfl (k_len (k_ne (by decide) e1)) dX12_beginSlot_7 (fun H locs hP hD hS => ?_)
  have hP : va_P D vwCl [(h0, .inr (12, ((f0.set 66 (.int 25)).set 67 (.int 0)))), (h1, .inl (cI, 26, .inl g0)), (h2, .inl (cI, 26, .inl g1)), (h3, .inl (cI, 26, .inl g2)), (h4, .inl (cI, 26, .inl g3)), (h5, .inl (cI, 26, .inl g4))] H := hP
  have hD : va_D A [(h0, .inr (12, ((f0.set 66 (.int 25)).set 67 (.int 0)))), (h1, .inl (cI, 26, .inl g0)), (h2, .inl (cI, 26, .inl g1)), (h3, .inl (cI, 26, .inl g2)), (h4, .inl (cI, 26, .inl g3)), (h5, .inl (cI, 26, .inl g4))] := hD
  refine lv_aload_n hx hb dX12_beginSlot_10 rfl (lv_at hl 0 rfl) ?_
  refine va_get (D := D) (ref := "IntegerHouseModel") (ci := 12) (v := .ref h1) (C := RX12) (T := TX12) (N := 195) hx hb hts hin12 hown hK hP 0 rfl rfl 40 (by decide) (hts (.fieldLink RX12 105 "IntegerHouseModel" "textCount" "[I") (List.mem_cons_of_mem _ (List.mem_append_left _ (List.mem_of_getElem? (i := 2) rfl)))) (fun _ h9 => h9) (k_ne (by decide) (k_ne (by decide) e2)) dX12_beginSlot_11 ?_
  refine lv_iload_n hx hb dX12_beginSlot_14 rfl (lv_at hl 1 rfl) ?_
  refine lv_iconst (v := 0) hx hb dX12_beginSlot_15 (by decide) ?_
  refine va_iast hx hb hK hP hD hS 1 0 rfl rfl (k_in (by decide)) dX12_beginSlot_16 (fun H locs hP hD hS => ?_)
  have hP : va_P D vwCl [(h0, .inr (12, ((f0.set 66 (.int 25)).set 67 (.int 0)))), (h1, .inl (cI, 26, .inl (upd g0 25 0))), (h2, .inl (cI, 26, .inl g1)), (h3, .inl (cI, 26, .inl g2)), (h4, .inl (cI, 26, .inl g3)), (h5, .inl (cI, 26, .inl g4))] H := hP
  have hD : va_D A [(h0, .inr (12, ((f0.set 66 (.int 25)).set 67 (.int 0)))), (h1, .inl (cI, 26, .inl (upd g0 25 0))), (h2, .inl (cI, 26, .inl g1)), (h3, .inl (cI, 26, .inl g2)), (h4, .inl (cI, 26, .inl g3)), (h5, .inl (cI, 26, .inl g4))] := hD
  refine lv_aload_n hx hb dX12_beginSlot_17 rfl (lv_at hl 0 rfl) ?_
  refine va_get (D := D) (ref := "IntegerHouseModel") (ci := 12) (v := .ref h2) (C := RX12) (T := TX12) (N := 195) hx hb hts hin12 hown hK hP 0 rfl rfl 45 (by decide) (hts (.fieldLink RX12 120 "IntegerHouseModel" "nodeCount" "[I") (List.mem_cons_of_mem _ (List.mem_append_left _ (List.mem_of_getElem? (i := 3) rfl)))) (fun _ h9 => h9) (k_ne (by decide) (k_ne (by decide) e3)) dX12_beginSlot_18 ?_
  refine lv_iload_n hx hb dX12_beginSlot_21 rfl (lv_at hl 1 rfl) ?_
  refine lv_iconst (v := 0) hx hb dX12_beginSlot_22 (by decide) ?_
  refine va_iast hx hb hK hP hD hS 2 0 rfl rfl (k_in (by decide)) dX12_beginSlot_23 (fun H locs hP hD hS => ?_)
  have hP : va_P D vwCl [(h0, .inr (12, ((f0.set 66 (.int 25)).set 67 (.int 0)))), (h1, .inl (cI, 26, .inl (upd g0 25 0))), (h2, .inl (cI, 26, .inl (upd g1 25 0))), (h3, .inl (cI, 26, .inl g2)), (h4, .inl (cI, 26, .inl g3)), (h5, .inl (cI, 26, .inl g4))] H := hP
  have hD : va_D A [(h0, .inr (12, ((f0.set 66 (.int 25)).set 67 (.int 0)))), (h1, .inl (cI, 26, .inl (upd g0 25 0))), (h2, .inl (cI, 26, .inl (upd g1 25 0))), (h3, .inl (cI, 26, .inl g2)), (h4, .inl (cI, 26, .inl g3)), (h5, .inl (cI, 26, .inl g4))] := hD
  refine lv_aload_n hx hb dX12_beginSlot_24 rfl (lv_at hl 0 rfl) ?_
  refine va_get (D := D) (ref := "IntegerHouseModel") (ci := 12) (v := .ref h3) (C := RX12) (T := TX12) (N := 195) hx hb hts hin12 hown hK hP 0 rfl rfl 56 (by decide) (hts (.fieldLink RX12 153 "IntegerHouseModel" "leafCount" "[I") (List.mem_cons_of_mem _ (List.mem_append_left _ (List.mem_of_getElem? (i := 4) rfl)))) (fun _ h9 => h9) (k_ne (by decide) (k_ne (by decide) e4)) dX12_beginSlot_25 ?_
  refine lv_iload_n hx hb dX12_beginSlot_28 rfl (lv_at hl 1 rfl) ?_
  refine lv_iconst (v := 0) hx hb dX12_beginSlot_29 (by decide) ?_
  refine va_iast hx hb hK hP hD hS 3 0 rfl rfl (k_in (by decide)) dX12_beginSlot_30 (fun H locs hP hD hS => ?_)
  have hP : va_P D vwCl [(h0, .inr (12, ((f0.set 66 (.int 25)).set 67 (.int 0)))), (h1, .inl (cI, 26, .inl (upd g0 25 0))), (h2, .inl (cI, 26, .inl (upd g1 25 0))), (h3, .inl (cI, 26, .inl (upd g2 25 0))), (h4, .inl (cI, 26, .inl g3)), (h5, .inl (cI, 26, .inl g4))] H := hP
  have hD : va_D A [(h0, .inr (12, ((f0.set 66 (.int 25)).set 67 (.int 0)))), (h1, .inl (cI, 26, .inl (upd g0 25 0))), (h2, .inl (cI, 26, .inl (upd g1 25 0))), (h3, .inl (cI, 26, .inl (upd g2 25 0))), (h4, .inl (cI, 26, .inl g3)), (h5, .inl (cI, 26, .inl g4))] := hD
  refine lv_aload_n hx hb dX12_beginSlot_31 rfl (lv_at hl 0 rfl) ?_
  refine va_get (D := D) (ref := "IntegerHouseModel") (ci := 12) (v := .ref h4) (C := RX12) (T := TX12) (N := 195) hx hb hts hin12 hown hK hP 0 rfl rfl 60 (by decide) (hts (.fieldLink RX12 165 "IntegerHouseModel" "termCount" "[I") (List.mem_cons_of_mem _ (List.mem_append_left _ (List.mem_of_getElem? (i := 5) rfl)))) (fun _ h9 => h9) (k_ne (by decide) (k_ne (by decide) e5)) dX12_beginSlot_32 ?_
  refine lv_iload_n hx hb dX12_beginSlot_35 rfl (lv_at hl 1 rfl) ?_
  refine lv_iconst (v := 0) hx hb dX12_beginSlot_36 (by decide) ?_
  refine va_iast hx hb hK hP hD hS 4 0 rfl rfl (k_in (by decide)) dX12_beginSlot_37 (fun H locs hP hD hS => ?_)
  have hP : va_P D vwCl [(h0, .inr (12, ((f0.set 66 (.int 25)).set 67 (.int 0)))), (h1, .inl (cI, 26, .inl (upd g0 25 0))), (h2, .inl (cI, 26, .inl (upd g1 25 0))), (h3, .inl (cI, 26, .inl (upd g2 25 0))), (h4, .inl (cI, 26, .inl (upd g3 25 0))), (h5, .inl (cI, 26, .inl g4))] H := hP
  have hD : va_D A [(h0, .inr (12, ((f0.set 66 (.int 25)).set 67 (.int 0)))), (h1, .inl (cI, 26, .inl (upd g0 25 0))), (h2, .inl (cI, 26, .inl (upd g1 25 0))), (h3, .inl (cI, 26, .inl (upd g2 25 0))), (h4, .inl (cI, 26, .inl (upd g3 25 0))), (h5, .inl (cI, 26, .inl g4))] := hD
  refine lv_aload_n hx hb dX12_beginSlot_38 rfl (lv_at hl 0 rfl) ?_
  refine va_get (D := D) (ref := "IntegerHouseModel") (ci := 12) (v := .ref h5) (C := RX12) (T := TX12) (N := 195) hx hb hts hin12 hown hK hP 0 rfl rfl 65 (by decide) (hts (.fieldLink RX12 181 "IntegerHouseModel" "partCount" "[I") (List.mem_cons_of_mem _ (List.mem_append_left _ (List.mem_of_getElem? (i := 6) rfl)))) (fun _ h9 => h9) (k_ne (by decide) (k_ne (by decide) e6)) dX12_beginSlot_39 ?_
  refine lv_iload_n hx hb dX12_beginSlot_42 rfl (lv_at hl 1 rfl) ?_
  refine lv_iconst (v := 0) hx hb dX12_beginSlot_43 (by decide) ?_
  refine va_iast hx hb hK hP hD hS 5 0 rfl rfl (k_in (by decide)) dX12_beginSlot_44 (fun H locs hP hD hS => ?_)
  have hP : va_P D vwCl [(h0, .inr (12, ((f0.set 66 (.int 25)).set 67 (.int 0)))), (h1, .inl (cI, 26, .inl (upd g0 25 0))), (h2, .inl (cI, 26, .inl (upd g1 25 0))), (h3, .inl (cI, 26, .inl (upd g2 25 0))), (h4, .inl (cI, 26, .inl (upd g3 25 0))), (h5, .inl (cI, 26, .inl (upd g4 25 0)))] H := hP
  have hD : va_D A [(h0, .inr (12, ((f0.set 66 (.int 25)).set 67 (.int 0)))), (h1, .inl (cI, 26, .inl (upd g0 25 0))), (h2, .inl (cI, 26, .inl (upd g1 25 0))), (h3, .inl (cI, 26, .inl (upd g2 25 0))), (h4, .inl (cI, 26, .inl (upd g3 25 0))), (h5, .inl (cI, 26, .inl (upd g4 25 0)))] := hD
  exact W.vret hx hb hr (fun t ht hW => ⟨⟨(), rfl, trivial, kB_mk ht hW hP hK hD⟩, hS.F ht⟩) hS.2.2 dX12_beginSlot_45
set_option maxHeartbeats 400000000 in
set_option maxRecDepth 100000 in
theorem c_X12_openTerm_0 (l : Launch) (E : kE) (D : va_G) (cI cJ cB cZ : ClassId) (h0 : Nat) (f0 : List Value) (h1 : Nat) (g0 : Nat → Int32) (h2 : Nat) (g1 : Nat → Int32) (h3 : Nat) (g2 : Nat → Int32) (h4 : Nat) (g3 : Nat → Int64) (h5 : Nat) (g4 : Nat → Int32) (e0 : f0[83]? = some (.int (-1))) (e1 : f0[77]? = some (.ref h1)) (e2 : f0[78]? = some (.ref h2)) (e3 : f0[80]? = some (.ref h3)) (e4 : f0[81]? = some (.ref h4)) (e5 : f0[82]? = some (.ref h5)) : kV l E D (kT cI cJ cB cZ) yX12_openTerm wsX12_openTerm ({ frames := 0, cells := 0, slots := 0, locals := 0 }) [.ref h0, .int 33] [(h0, .inr (12, f0)), (h1, .inl (cI, 16, .inl g0)), (h2, .inl (cI, 16, .inl g1)), (h3, .inl (cI, 16, .inl g2)), (h4, .inl (cJ, 16, .inr (.inl g3))), (h5, .inl (cI, 16, .inl g4))] (fun _ : Unit => [(h0, .inr (12, (f0.set 83 (.int 0)))), (h1, .inl (cI, 16, .inl (upd g0 0 33))), (h2, .inl (cI, 16, .inl (upd g1 0 (-1)))), (h3, .inl (cI, 16, .inl (upd g2 0 1))), (h4, .inl (cJ, 16, .inr (.inl (vp_updL g3 0 1)))), (h5, .inl (cI, 16, .inl (upd g4 0 (-1))))]) 0 0 := by
  intro sz
  refine Met.ofW (cc := cX12_openTerm) (maxL := 2) (ret := none) (by decide) rfl ?_
  intro p e s m args below meth c s₁ B hml hv
  obtain ⟨rfl, hsz, hP, hK, hD0, hN, hX⟩ := hv
  have hx := B.exec
  have hb := B.bytes
  have hr := B.returns
  have hts := atoms_spec (ws := wsX12_openTerm) B.pre
  have hown : s.vm.findClass RX12 = some m.cls := findClass_of_methodNamed B.named
  have hlocks := B.notSynchronized
  have hin12 : ∀ w ∈ wsX120, w ∈ wsX12_openTerm := (fun w h => (List.mem_cons_of_mem _ (List.mem_append_right _ h)))
  subst hsz
  have hD := hD0.self (sz := s.heap.size)
  have hAE := k_AE hD0 hX
  generalize hAe : va_A [(h0, .inr (12, f0)), (h1, .inl (cI, 16, .inl g0)), (h2, .inl (cI, 16, .inl g1)), (h3, .inl (cI, 16, .inl g2)), (h4, .inl (cJ, 16, .inr (.inl g3))), (h5, .inl (cI, 16, .inl g4))] s.heap.size = A at hD hAE ⊢
  have hA : ∀ q : Nat, s.heap.size ≤ q → A q := fun q h => by rw [← hAe]; exact Or.inr h
  have hS : va_S A s.heap s.heap [] := va_S.rf
  have hP : va_P D vwCl [(h0, .inr (12, f0)), (h1, .inl (cI, 16, .inl g0)), (h2, .inl (cI, 16, .inl g1)), (h3, .inl (cI, 16, .inl g2)), (h4, .inl (cJ, 16, .inr (.inl g3))), (h5, .inl (cI, 16, .inl g4))] s.heap := hP
  have hl := lv_entry ([.ref h0, .int 33] : List Value) (n := 2) (Nat.le_of_ble_eq_true rfl)
  rw [lg_entry_eq]
  generalize (lg_sl ([.ref h0, .int 33]) ++ List.replicate (2 - (lg_sl ([.ref h0, .int 33])).length) Slot.unset).toArray = ls at hl ⊢
  have hl : lv_has ls 2 [(0, .ref h0), (1, .int 33)] := hl
  refine lv_aload_n hx hb dX12_openTerm_0 rfl (lv_at hl 0 rfl) ?_
  refine lv_dup hx hb dX12_openTerm_1 rfl ?_
  refine va_get (D := D) (ref := "IntegerHouseModel") (ci := 12) (v := .int (-1)) (C := RX12) (T := TX12) (N := 195) hx hb hts hin12 hown hK hP 0 rfl rfl 83 (by decide) (hts (.fieldLink RX12 642 "IntegerHouseModel" "terms" "I") (List.mem_cons_of_mem _ (List.mem_append_left _ (List.mem_of_getElem? (i := 0) rfl)))) (fun _ h9 => h9) e0 dX12_openTerm_2 ?_
  refine lv_iconst (v := 1) hx hb dX12_openTerm_5 (by decide) ?_
  refine lv_iadd hx hb dX12_openTerm_6 ?_
  refine k_topi (y := 0) (by decide) ?_
  refine va_put (D := D) (ref := "IntegerHouseModel") (ci := 12) (v := .int 0) (ty := .int) (C := RX12) (T := TX12) (N := 195) hx hb hts hin12 tyX12 tyX12_ok nmX12 hown hK hP hD hS 0 rfl rfl 83 (by decide) (hts (.fieldLink RX12 642 "IntegerHouseModel" "terms" "I") (List.mem_cons_of_mem _ (List.mem_append_left _ (List.mem_of_getElem? (i := 0) rfl)))) (fun _ h9 => h9) rfl (by decide +kernel) rfl rfl (k_len e0) dX12_openTerm_7 (fun H locs hP hD hS => ?_)
  have hP : va_P D vwCl [(h0, .inr (12, (f0.set 83 (.int 0)))), (h1, .inl (cI, 16, .inl g0)), (h2, .inl (cI, 16, .inl g1)), (h3, .inl (cI, 16, .inl g2)), (h4, .inl (cJ, 16, .inr (.inl g3))), (h5, .inl (cI, 16, .inl g4))] H := hP
  have hD : va_D A [(h0, .inr (12, (f0.set 83 (.int 0)))), (h1, .inl (cI, 16, .inl g0)), (h2, .inl (cI, 16, .inl g1)), (h3, .inl (cI, 16, .inl g2)), (h4, .inl (cJ, 16, .inr (.inl g3))), (h5, .inl (cI, 16, .inl g4))] := hD
  refine lv_aload_n hx hb dX12_openTerm_10 rfl (lv_at hl 0 rfl) ?_
  refine va_get (D := D) (ref := "IntegerHouseModel") (ci := 12) (v := .ref h1) (C := RX12) (T := TX12) (N := 195) hx hb hts hin12 hown hK hP 0 rfl rfl 77 (by decide) (hts (.fieldLink RX12 208 "IntegerHouseModel" "inKind" "[I") (List.mem_cons_of_mem _ (List.mem_append_left _ (List.mem_of_getElem? (i := 1) rfl)))) (fun _ h9 => h9) (k_ne (by decide) e1) dX12_openTerm_11 ?_
  refine lv_aload_n hx hb dX12_openTerm_14 rfl (lv_at hl 0 rfl) ?_
  refine va_get (D := D) (ref := "IntegerHouseModel") (ci := 12) (v := .int 0) (C := RX12) (T := TX12) (N := 195) hx hb hts hin12 hown hK hP 0 rfl rfl 83 (by decide) (hts (.fieldLink RX12 642 "IntegerHouseModel" "terms" "I") (List.mem_cons_of_mem _ (List.mem_append_left _ (List.mem_of_getElem? (i := 0) rfl)))) (fun _ h9 => h9) (k_set e0) dX12_openTerm_15 ?_
  refine lv_iload_n hx hb dX12_openTerm_18 rfl (lv_at hl 1 rfl) ?_
  refine va_iast hx hb hK hP hD hS 1 0 rfl rfl (k_in (by decide)) dX12_openTerm_19 (fun H locs hP hD hS => ?_)
  have hP : va_P D vwCl [(h0, .inr (12, (f0.set 83 (.int 0)))), (h1, .inl (cI, 16, .inl (upd g0 0 33))), (h2, .inl (cI, 16, .inl g1)), (h3, .inl (cI, 16, .inl g2)), (h4, .inl (cJ, 16, .inr (.inl g3))), (h5, .inl (cI, 16, .inl g4))] H := hP
  have hD : va_D A [(h0, .inr (12, (f0.set 83 (.int 0)))), (h1, .inl (cI, 16, .inl (upd g0 0 33))), (h2, .inl (cI, 16, .inl g1)), (h3, .inl (cI, 16, .inl g2)), (h4, .inl (cJ, 16, .inr (.inl g3))), (h5, .inl (cI, 16, .inl g4))] := hD
  refine lv_aload_n hx hb dX12_openTerm_20 rfl (lv_at hl 0 rfl) ?_
  refine va_get (D := D) (ref := "IntegerHouseModel") (ci := 12) (v := .ref h2) (C := RX12) (T := TX12) (N := 195) hx hb hts hin12 hown hK hP 0 rfl rfl 78 (by decide) (hts (.fieldLink RX12 211 "IntegerHouseModel" "inFirst" "[I") (List.mem_cons_of_mem _ (List.mem_append_left _ (List.mem_of_getElem? (i := 2) rfl)))) (fun _ h9 => h9) (k_ne (by decide) e2) dX12_openTerm_21 ?_
  refine lv_aload_n hx hb dX12_openTerm_24 rfl (lv_at hl 0 rfl) ?_
  refine va_get (D := D) (ref := "IntegerHouseModel") (ci := 12) (v := .int 0) (C := RX12) (T := TX12) (N := 195) hx hb hts hin12 hown hK hP 0 rfl rfl 83 (by decide) (hts (.fieldLink RX12 642 "IntegerHouseModel" "terms" "I") (List.mem_cons_of_mem _ (List.mem_append_left _ (List.mem_of_getElem? (i := 0) rfl)))) (fun _ h9 => h9) (k_set e0) dX12_openTerm_25 ?_
  refine lv_iconst (v := (-1)) hx hb dX12_openTerm_28 (by decide) ?_
  refine va_iast hx hb hK hP hD hS 2 0 rfl rfl (k_in (by decide)) dX12_openTerm_29 (fun H locs hP hD hS => ?_)
  have hP : va_P D vwCl [(h0, .inr (12, (f0.set 83 (.int 0)))), (h1, .inl (cI, 16, .inl (upd g0 0 33))), (h2, .inl (cI, 16, .inl (upd g1 0 (-1)))), (h3, .inl (cI, 16, .inl g2)), (h4, .inl (cJ, 16, .inr (.inl g3))), (h5, .inl (cI, 16, .inl g4))] H := hP
  have hD : va_D A [(h0, .inr (12, (f0.set 83 (.int 0)))), (h1, .inl (cI, 16, .inl (upd g0 0 33))), (h2, .inl (cI, 16, .inl (upd g1 0 (-1)))), (h3, .inl (cI, 16, .inl g2)), (h4, .inl (cJ, 16, .inr (.inl g3))), (h5, .inl (cI, 16, .inl g4))] := hD
  refine lv_aload_n hx hb dX12_openTerm_30 rfl (lv_at hl 0 rfl) ?_
  refine va_get (D := D) (ref := "IntegerHouseModel") (ci := 12) (v := .ref h3) (C := RX12) (T := TX12) (N := 195) hx hb hts hin12 hown hK hP 0 rfl rfl 80 (by decide) (hts (.fieldLink RX12 217 "IntegerHouseModel" "inSign" "[I") (List.mem_cons_of_mem _ (List.mem_append_left _ (List.mem_of_getElem? (i := 3) rfl)))) (fun _ h9 => h9) (k_ne (by decide) e3) dX12_openTerm_31 ?_
  refine lv_aload_n hx hb dX12_openTerm_34 rfl (lv_at hl 0 rfl) ?_
  refine va_get (D := D) (ref := "IntegerHouseModel") (ci := 12) (v := .int 0) (C := RX12) (T := TX12) (N := 195) hx hb hts hin12 hown hK hP 0 rfl rfl 83 (by decide) (hts (.fieldLink RX12 642 "IntegerHouseModel" "terms" "I") (List.mem_cons_of_mem _ (List.mem_append_left _ (List.mem_of_getElem? (i := 0) rfl)))) (fun _ h9 => h9) (k_set e0) dX12_openTerm_35 ?_
  refine lv_iconst (v := 1) hx hb dX12_openTerm_38 (by decide) ?_
  refine va_iast hx hb hK hP hD hS 3 0 rfl rfl (k_in (by decide)) dX12_openTerm_39 (fun H locs hP hD hS => ?_)
  have hP : va_P D vwCl [(h0, .inr (12, (f0.set 83 (.int 0)))), (h1, .inl (cI, 16, .inl (upd g0 0 33))), (h2, .inl (cI, 16, .inl (upd g1 0 (-1)))), (h3, .inl (cI, 16, .inl (upd g2 0 1))), (h4, .inl (cJ, 16, .inr (.inl g3))), (h5, .inl (cI, 16, .inl g4))] H := hP
  have hD : va_D A [(h0, .inr (12, (f0.set 83 (.int 0)))), (h1, .inl (cI, 16, .inl (upd g0 0 33))), (h2, .inl (cI, 16, .inl (upd g1 0 (-1)))), (h3, .inl (cI, 16, .inl (upd g2 0 1))), (h4, .inl (cJ, 16, .inr (.inl g3))), (h5, .inl (cI, 16, .inl g4))] := hD
  refine lv_aload_n hx hb dX12_openTerm_40 rfl (lv_at hl 0 rfl) ?_
  refine va_get (D := D) (ref := "IntegerHouseModel") (ci := 12) (v := .ref h4) (C := RX12) (T := TX12) (N := 195) hx hb hts hin12 hown hK hP 0 rfl rfl 81 (by decide) (hts (.fieldLink RX12 220 "IntegerHouseModel" "inTimes" "[J") (List.mem_cons_of_mem _ (List.mem_append_left _ (List.mem_of_getElem? (i := 4) rfl)))) (fun _ h9 => h9) (k_ne (by decide) e4) dX12_openTerm_41 ?_
  refine lv_aload_n hx hb dX12_openTerm_44 rfl (lv_at hl 0 rfl) ?_
  refine va_get (D := D) (ref := "IntegerHouseModel") (ci := 12) (v := .int 0) (C := RX12) (T := TX12) (N := 195) hx hb hts hin12 hown hK hP 0 rfl rfl 83 (by decide) (hts (.fieldLink RX12 642 "IntegerHouseModel" "terms" "I") (List.mem_cons_of_mem _ (List.mem_append_left _ (List.mem_of_getElem? (i := 0) rfl)))) (fun _ h9 => h9) (k_set e0) dX12_openTerm_45 ?_
  refine lv_lconst (v := 1) hx hb dX12_openTerm_48 (by decide) ?_
  refine va_last hx hb hK hP hD hS 4 1 rfl rfl (k_in (by decide)) dX12_openTerm_49 (fun H locs hP hD hS => ?_)
  have hP : va_P D vwCl [(h0, .inr (12, (f0.set 83 (.int 0)))), (h1, .inl (cI, 16, .inl (upd g0 0 33))), (h2, .inl (cI, 16, .inl (upd g1 0 (-1)))), (h3, .inl (cI, 16, .inl (upd g2 0 1))), (h4, .inl (cJ, 16, .inr (.inl (vp_updL g3 0 1)))), (h5, .inl (cI, 16, .inl g4))] H := hP
  have hD : va_D A [(h0, .inr (12, (f0.set 83 (.int 0)))), (h1, .inl (cI, 16, .inl (upd g0 0 33))), (h2, .inl (cI, 16, .inl (upd g1 0 (-1)))), (h3, .inl (cI, 16, .inl (upd g2 0 1))), (h4, .inl (cJ, 16, .inr (.inl (vp_updL g3 0 1)))), (h5, .inl (cI, 16, .inl g4))] := hD
  refine lv_aload_n hx hb dX12_openTerm_50 rfl (lv_at hl 0 rfl) ?_
  refine va_get (D := D) (ref := "IntegerHouseModel") (ci := 12) (v := .ref h5) (C := RX12) (T := TX12) (N := 195) hx hb hts hin12 hown hK hP 0 rfl rfl 82 (by decide) (hts (.fieldLink RX12 223 "IntegerHouseModel" "inOne" "[I") (List.mem_cons_of_mem _ (List.mem_append_left _ (List.mem_of_getElem? (i := 5) rfl)))) (fun _ h9 => h9) (k_ne (by decide) e5) dX12_openTerm_51 ?_
  refine lv_aload_n hx hb dX12_openTerm_54 rfl (lv_at hl 0 rfl) ?_
  refine va_get (D := D) (ref := "IntegerHouseModel") (ci := 12) (v := .int 0) (C := RX12) (T := TX12) (N := 195) hx hb hts hin12 hown hK hP 0 rfl rfl 83 (by decide) (hts (.fieldLink RX12 642 "IntegerHouseModel" "terms" "I") (List.mem_cons_of_mem _ (List.mem_append_left _ (List.mem_of_getElem? (i := 0) rfl)))) (fun _ h9 => h9) (k_set e0) dX12_openTerm_55 ?_
  refine lv_iconst (v := (-1)) hx hb dX12_openTerm_58 (by decide) ?_
  refine va_iast hx hb hK hP hD hS 5 0 rfl rfl (k_in (by decide)) dX12_openTerm_59 (fun H locs hP hD hS => ?_)
  have hP : va_P D vwCl [(h0, .inr (12, (f0.set 83 (.int 0)))), (h1, .inl (cI, 16, .inl (upd g0 0 33))), (h2, .inl (cI, 16, .inl (upd g1 0 (-1)))), (h3, .inl (cI, 16, .inl (upd g2 0 1))), (h4, .inl (cJ, 16, .inr (.inl (vp_updL g3 0 1)))), (h5, .inl (cI, 16, .inl (upd g4 0 (-1))))] H := hP
  have hD : va_D A [(h0, .inr (12, (f0.set 83 (.int 0)))), (h1, .inl (cI, 16, .inl (upd g0 0 33))), (h2, .inl (cI, 16, .inl (upd g1 0 (-1)))), (h3, .inl (cI, 16, .inl (upd g2 0 1))), (h4, .inl (cJ, 16, .inr (.inl (vp_updL g3 0 1)))), (h5, .inl (cI, 16, .inl (upd g4 0 (-1))))] := hD
  exact W.vret hx hb hr (fun t ht hW => ⟨⟨(), rfl, trivial, kB_mk ht hW hP hK hD⟩, hS.F ht⟩) hS.2.2 dX12_openTerm_60
set_option maxHeartbeats 400000000 in
set_option maxRecDepth 100000 in
theorem c_X12_readInTerm_0 (l : Launch) (E : kE) (D : va_G) (cI cJ cB cZ : ClassId) (h0 : Nat) (f0 : List Value) (h1 : Nat) (h2 : Nat) (g0 : Nat → Int32) (g1 : Nat → Int32) (e0 : f0[84]? = some (.int 3)) (e1 : f0[80]? = some (.ref h1)) (e2 : f0[83]? = some (.int 0)) (e3 : f0[25]? = some (.ref h2)) (e4 : f0[28]? = some (.int 0)) (e5 : g0 0 = 0) : kV l E D (kT cI cJ cB cZ) yX12_readInTerm wsX12_readInTerm ({ frames := 1, cells := 0, slots := 0, locals := 21 }) [.ref h0] [(h0, .inr (12, f0)), (h2, .inl (cI, 2001, .inl g0)), (h1, .inl (cI, 16, .inl g1))] (fun _ : Unit => [(h0, .inr (12, (f0.set 84 (.int 4)))), (h2, .inl (cI, 2001, .inl g0)), (h1, .inl (cI, 16, .inl (upd g1 0 1)))]) 0 0 := by
  intro sz
  refine Met.ofW (cc := cX12_readInTerm) (maxL := 1) (ret := none) (by decide) rfl ?_
  intro p e s m args below meth c s₁ B hml hv
  obtain ⟨rfl, hsz, hP, hK, hD0, hN, hX⟩ := hv
  have hx := B.exec
  have hb := B.bytes
  have hr := B.returns
  have hts := atoms_spec (ws := wsX12_readInTerm) B.pre
  have hown : s.vm.findClass RX12 = some m.cls := findClass_of_methodNamed B.named
  have hlocks := B.notSynchronized
  have hin12 : ∀ w ∈ wsX120, w ∈ wsX12_readInTerm := (fun w h => (List.mem_cons_of_mem _ (List.mem_append_right _ h)))
  subst hsz
  have hD := hD0.self (sz := s.heap.size)
  have hAE := k_AE hD0 hX
  generalize hAe : va_A [(h0, .inr (12, f0)), (h2, .inl (cI, 2001, .inl g0)), (h1, .inl (cI, 16, .inl g1))] s.heap.size = A at hD hAE ⊢
  have hA : ∀ q : Nat, s.heap.size ≤ q → A q := fun q h => by rw [← hAe]; exact Or.inr h
  have hS : va_S A s.heap s.heap [] := va_S.rf
  have hP : va_P D vwCl [(h0, .inr (12, f0)), (h2, .inl (cI, 2001, .inl g0)), (h1, .inl (cI, 16, .inl g1))] s.heap := hP
  have hl := lv_entry ([.ref h0] : List Value) (n := 1) (Nat.le_of_ble_eq_true rfl)
  rw [lg_entry_eq]
  generalize (lg_sl ([.ref h0]) ++ List.replicate (1 - (lg_sl ([.ref h0])).length) Slot.unset).toArray = ls at hl ⊢
  have hl : lv_has ls 1 [(0, .ref h0)] := hl
  refine lv_aload_n hx hb dX12_readInTerm_0 rfl (lv_at hl 0 rfl) ?_
  refine va_get (D := D) (ref := "IntegerHouseModel") (ci := 12) (v := .int 3) (C := RX12) (T := TX12) (N := 195) hx hb hts hin12 hown hK hP 0 rfl rfl 84 (by decide) (hts (.fieldLink RX12 648 "IntegerHouseModel" "state" "I") (List.mem_cons_of_mem _ (List.mem_append_left _ (List.mem_append_left _ (List.mem_of_getElem? (i := 0) rfl))))) (fun _ h9 => h9) e0 dX12_readInTerm_1 ?_
  refine lv_iconst (v := 3) hx hb dX12_readInTerm_4 (by decide) ?_
  refine lv_icmp_ne (tgt := 52) hx hb dX12_readInTerm_5 (by decide) (fun c9 => absurd (by decide) c9) (fun _ => ?_)
  refine lv_aload_n hx hb dX12_readInTerm_8 rfl (lv_at hl 0 rfl) ?_
  refine va_get (D := D) (ref := "IntegerHouseModel") (ci := 12) (v := .ref h1) (C := RX12) (T := TX12) (N := 195) hx hb hts hin12 hown hK hP 0 rfl rfl 80 (by decide) (hts (.fieldLink RX12 217 "IntegerHouseModel" "inSign" "[I") (List.mem_cons_of_mem _ (List.mem_append_left _ (List.mem_append_left _ (List.mem_of_getElem? (i := 1) rfl))))) (fun _ h9 => h9) e1 dX12_readInTerm_9 ?_
  refine lv_aload_n hx hb dX12_readInTerm_12 rfl (lv_at hl 0 rfl) ?_
  refine va_get (D := D) (ref := "IntegerHouseModel") (ci := 12) (v := .int 0) (C := RX12) (T := TX12) (N := 195) hx hb hts hin12 hown hK hP 0 rfl rfl 83 (by decide) (hts (.fieldLink RX12 642 "IntegerHouseModel" "terms" "I") (List.mem_cons_of_mem _ (List.mem_append_left _ (List.mem_append_left _ (List.mem_of_getElem? (i := 2) rfl))))) (fun _ h9 => h9) e2 dX12_readInTerm_13 ?_
  refine lv_aload_n hx hb dX12_readInTerm_16 rfl (lv_at hl 0 rfl) ?_
  refine lv_bipush (v := 9) hx hb dX12_readInTerm_17 (by decide) ?_
  refine k_cVi (As := [.int 9]) (rest := [.int 0, .ref h1]) (wc := [(h0, .inr (12, f0)), (h2, .inl (cI, 2001, .inl g0))]) (wr := [(h1, .inl (cI, 16, .inl g1))]) (w1 := [(h0, .inr (12, f0)), (h2, .inl (cI, 2001, .inl g0))]) ⟨hx, hb, hml, hown, hts⟩ hN hX hAE hK hP hD hS hA [0, 1] [2] (ci := 12) rfl rfl rfl rfl (by decide +kernel) (by decide +kernel) (by decide +kernel) (c_X12_isSign_1 l E D cI cJ cB cZ h0 f0 h2 g0 e3 e4 e5) (cwV 1 hts gX12_readInTerm_X12_isSign rfl rfl rfl (by decide +kernel) ⟨Nat.le_of_ble_eq_true rfl, Nat.le_of_ble_eq_true rfl⟩) rfl hl.1 (Nat.le_of_ble_eq_true rfl) dX12_readInTerm_19 ⟨Nat.le_of_ble_eq_true rfl, Nat.le_of_ble_eq_true rfl⟩ (fun H locs hP hD hS => ?_)
  have hP : va_P D vwCl [(h1, .inl (cI, 16, .inl g1)), (h0, .inr (12, f0)), (h2, .inl (cI, 2001, .inl g0))] H := hP
  have hD : va_D A [(h1, .inl (cI, 16, .inl g1)), (h0, .inr (12, f0)), (h2, .inl (cI, 2001, .inl g0))] := hD
  refine lv_if_eq (tgt := 29) hx hb dX12_readInTerm_22 (by decide) (fun _ => ?_) (fun c9 => absurd (by decide) c9)
  refine lv_iconst (v := 1) hx hb dX12_readInTerm_29 (by decide) ?_
  refine va_iast hx hb hK hP hD hS 0 0 rfl rfl (k_in (by decide)) dX12_readInTerm_30 (fun H locs hP hD hS => ?_)
  have hP : va_P D vwCl [(h1, .inl (cI, 16, .inl (upd g1 0 1))), (h0, .inr (12, f0)), (h2, .inl (cI, 2001, .inl g0))] H := hP
  have hD : va_D A [(h1, .inl (cI, 16, .inl (upd g1 0 1))), (h0, .inr (12, f0)), (h2, .inl (cI, 2001, .inl g0))] := hD
  refine lv_aload_n hx hb dX12_readInTerm_31 rfl (lv_at hl 0 rfl) ?_
  refine lv_bipush (v := 9) hx hb dX12_readInTerm_32 (by decide) ?_
  refine k_cVi (As := [.int 9]) (rest := []) (wc := [(h0, .inr (12, f0)), (h2, .inl (cI, 2001, .inl g0))]) (wr := [(h1, .inl (cI, 16, .inl (upd g1 0 1)))]) (w1 := [(h0, .inr (12, f0)), (h2, .inl (cI, 2001, .inl g0))]) ⟨hx, hb, hml, hown, hts⟩ hN hX hAE hK hP hD hS hA [1, 2] [0] (ci := 12) rfl rfl rfl rfl (by decide +kernel) (by decide +kernel) (by decide +kernel) (c_X12_isSign_1 l E D cI cJ cB cZ h0 f0 h2 g0 e3 e4 e5) (cwV 1 hts gX12_readInTerm_X12_isSign rfl rfl rfl (by decide +kernel) ⟨Nat.le_of_ble_eq_true rfl, Nat.le_of_ble_eq_true rfl⟩) rfl hl.1 (Nat.le_of_ble_eq_true rfl) dX12_readInTerm_34 ⟨Nat.le_of_ble_eq_true rfl, Nat.le_of_ble_eq_true rfl⟩ (fun H locs hP hD hS => ?_)
  have hP : va_P D vwCl [(h1, .inl (cI, 16, .inl (upd g1 0 1))), (h0, .inr (12, f0)), (h2, .inl (cI, 2001, .inl g0))] H := hP
  have hD : va_D A [(h1, .inl (cI, 16, .inl (upd g1 0 1))), (h0, .inr (12, f0)), (h2, .inl (cI, 2001, .inl g0))] := hD
  refine lv_if_eq (tgt := 44) hx hb dX12_readInTerm_37 (by decide) (fun _ => ?_) (fun c9 => absurd (by decide) c9)
  refine lv_aload_n hx hb dX12_readInTerm_44 rfl (lv_at hl 0 rfl) ?_
  refine lv_iconst (v := 4) hx hb dX12_readInTerm_45 (by decide) ?_
  refine va_put (D := D) (ref := "IntegerHouseModel") (ci := 12) (v := .int 4) (ty := .int) (C := RX12) (T := TX12) (N := 195) hx hb hts hin12 tyX12 tyX12_ok nmX12 hown hK hP hD hS 1 rfl rfl 84 (by decide) (hts (.fieldLink RX12 648 "IntegerHouseModel" "state" "I") (List.mem_cons_of_mem _ (List.mem_append_left _ (List.mem_append_left _ (List.mem_of_getElem? (i := 0) rfl))))) (fun _ h9 => h9) rfl (by decide +kernel) rfl rfl (k_len e0) dX12_readInTerm_46 (fun H locs hP hD hS => ?_)
  have hP : va_P D vwCl [(h1, .inl (cI, 16, .inl (upd g1 0 1))), (h0, .inr (12, (f0.set 84 (.int 4)))), (h2, .inl (cI, 2001, .inl g0))] H := hP
  have hD : va_D A [(h1, .inl (cI, 16, .inl (upd g1 0 1))), (h0, .inr (12, (f0.set 84 (.int 4)))), (h2, .inl (cI, 2001, .inl g0))] := hD
  refine lv_goto (tgt := 220) hx hb dX12_readInTerm_49 (by decide) ?_
  have hP := hP.sub (ws' := [(h0, .inr (12, (f0.set 84 (.int 4)))), (h2, .inl (cI, 2001, .inl g0)), (h1, .inl (cI, 16, .inl (upd g1 0 1)))]) [1, 2, 0] rfl
  have hD := hD.sub (ws' := [(h0, .inr (12, (f0.set 84 (.int 4)))), (h2, .inl (cI, 2001, .inl g0)), (h1, .inl (cI, 16, .inl (upd g1 0 1)))]) [1, 2, 0] (by decide +kernel) rfl
  exact W.vret hx hb hr (fun t ht hW => ⟨⟨(), rfl, trivial, kB_mk ht hW hP hK hD⟩, hS.F ht⟩) hS.2.2 dX12_readInTerm_220
set_option maxHeartbeats 400000000 in
set_option maxRecDepth 100000 in
theorem c_X12_readInTerm_1 (l : Launch) (E : kE) (D : va_G) (cI cJ cB cZ : ClassId) (h0 : Nat) (f0 : List Value) (h1 : Nat) (g0 : Nat → Int64) (h2 : Nat) (g1 : Nat → Int32) (e0 : f0[84]? = some (.int 4)) (e1 : f0[81]? = some (.ref h1)) (e2 : f0[83]? = some (.int 0)) (e3 : f0[25]? = some (.ref h2)) (e4 : f0[28]? = some (.int 0)) (e5 : g1 0 = 0) : kV l E D (kT cI cJ cB cZ) yX12_readInTerm wsX12_readInTerm ({ frames := 0, cells := 0, slots := 0, locals := 0 }) [.ref h0] [(h0, .inr (12, f0)), (h1, .inl (cJ, 16, .inr (.inl g0))), (h2, .inl (cI, 2001, .inl g1))] (fun _ : Unit => [(h0, .inr (12, (f0.set 84 (.int 5)))), (h1, .inl (cJ, 16, .inr (.inl (vp_updL g0 0 1)))), (h2, .inl (cI, 2001, .inl g1))]) 0 0 := by
  intro sz
  refine Met.ofW (cc := cX12_readInTerm) (maxL := 1) (ret := none) (by decide) rfl ?_
  intro p e s m args below meth c s₁ B hml hv
  obtain ⟨rfl, hsz, hP, hK, hD0, hN, hX⟩ := hv
  have hx := B.exec
  have hb := B.bytes
  have hr := B.returns
  have hts := atoms_spec (ws := wsX12_readInTerm) B.pre
  have hown : s.vm.findClass RX12 = some m.cls := findClass_of_methodNamed B.named
  have hlocks := B.notSynchronized
  have hin12 : ∀ w ∈ wsX120, w ∈ wsX12_readInTerm := (fun w h => (List.mem_cons_of_mem _ (List.mem_append_right _ h)))
  subst hsz
  have hD := hD0.self (sz := s.heap.size)
  have hAE := k_AE hD0 hX
  generalize hAe : va_A [(h0, .inr (12, f0)), (h1, .inl (cJ, 16, .inr (.inl g0))), (h2, .inl (cI, 2001, .inl g1))] s.heap.size = A at hD hAE ⊢
  have hA : ∀ q : Nat, s.heap.size ≤ q → A q := fun q h => by rw [← hAe]; exact Or.inr h
  have hS : va_S A s.heap s.heap [] := va_S.rf
  have hP : va_P D vwCl [(h0, .inr (12, f0)), (h1, .inl (cJ, 16, .inr (.inl g0))), (h2, .inl (cI, 2001, .inl g1))] s.heap := hP
  have hl := lv_entry ([.ref h0] : List Value) (n := 1) (Nat.le_of_ble_eq_true rfl)
  rw [lg_entry_eq]
  generalize (lg_sl ([.ref h0]) ++ List.replicate (1 - (lg_sl ([.ref h0])).length) Slot.unset).toArray = ls at hl ⊢
  have hl : lv_has ls 1 [(0, .ref h0)] := hl
  refine lv_aload_n hx hb dX12_readInTerm_0 rfl (lv_at hl 0 rfl) ?_
  refine va_get (D := D) (ref := "IntegerHouseModel") (ci := 12) (v := .int 4) (C := RX12) (T := TX12) (N := 195) hx hb hts hin12 hown hK hP 0 rfl rfl 84 (by decide) (hts (.fieldLink RX12 648 "IntegerHouseModel" "state" "I") (List.mem_cons_of_mem _ (List.mem_append_left _ (List.mem_append_left _ (List.mem_of_getElem? (i := 0) rfl))))) (fun _ h9 => h9) e0 dX12_readInTerm_1 ?_
  refine lv_iconst (v := 3) hx hb dX12_readInTerm_4 (by decide) ?_
  refine lv_icmp_ne (tgt := 52) hx hb dX12_readInTerm_5 (by decide) (fun _ => ?_) (fun c9 => absurd c9 (by decide))
  refine lv_aload_n hx hb dX12_readInTerm_52 rfl (lv_at hl 0 rfl) ?_
  refine va_get (D := D) (ref := "IntegerHouseModel") (ci := 12) (v := .int 4) (C := RX12) (T := TX12) (N := 195) hx hb hts hin12 hown hK hP 0 rfl rfl 84 (by decide) (hts (.fieldLink RX12 648 "IntegerHouseModel" "state" "I") (List.mem_cons_of_mem _ (List.mem_append_left _ (List.mem_append_left _ (List.mem_of_getElem? (i := 0) rfl))))) (fun _ h9 => h9) e0 dX12_readInTerm_53 ?_
  refine lv_iconst (v := 4) hx hb dX12_readInTerm_56 (by decide) ?_
  refine lv_icmp_ne (tgt := 148) hx hb dX12_readInTerm_57 (by decide) (fun c9 => absurd (by decide) c9) (fun _ => ?_)
  refine lv_aload_n hx hb dX12_readInTerm_60 rfl (lv_at hl 0 rfl) ?_
  refine va_get (D := D) (ref := "IntegerHouseModel") (ci := 12) (v := .ref h1) (C := RX12) (T := TX12) (N := 195) hx hb hts hin12 hown hK hP 0 rfl rfl 81 (by decide) (hts (.fieldLink RX12 220 "IntegerHouseModel" "inTimes" "[J") (List.mem_cons_of_mem _ (List.mem_append_left _ (List.mem_append_left _ (List.mem_of_getElem? (i := 3) rfl))))) (fun _ h9 => h9) e1 dX12_readInTerm_61 ?_
  refine lv_aload_n hx hb dX12_readInTerm_64 rfl (lv_at hl 0 rfl) ?_
  refine va_get (D := D) (ref := "IntegerHouseModel") (ci := 12) (v := .int 0) (C := RX12) (T := TX12) (N := 195) hx hb hts hin12 hown hK hP 0 rfl rfl 83 (by decide) (hts (.fieldLink RX12 642 "IntegerHouseModel" "terms" "I") (List.mem_cons_of_mem _ (List.mem_append_left _ (List.mem_append_left _ (List.mem_of_getElem? (i := 2) rfl))))) (fun _ h9 => h9) e2 dX12_readInTerm_65 ?_
  refine lv_lconst (v := 1) hx hb dX12_readInTerm_68 (by decide) ?_
  refine va_last hx hb hK hP hD hS 1 1 rfl rfl (k_in (by decide)) dX12_readInTerm_69 (fun H locs hP hD hS => ?_)
  have hP : va_P D vwCl [(h0, .inr (12, f0)), (h1, .inl (cJ, 16, .inr (.inl (vp_updL g0 0 1)))), (h2, .inl (cI, 2001, .inl g1))] H := hP
  have hD : va_D A [(h0, .inr (12, f0)), (h1, .inl (cJ, 16, .inr (.inl (vp_updL g0 0 1)))), (h2, .inl (cI, 2001, .inl g1))] := hD
  refine lv_aload_n hx hb dX12_readInTerm_70 rfl (lv_at hl 0 rfl) ?_
  refine lv_iconst (v := 5) hx hb dX12_readInTerm_71 (by decide) ?_
  refine va_put (D := D) (ref := "IntegerHouseModel") (ci := 12) (v := .int 5) (ty := .int) (C := RX12) (T := TX12) (N := 195) hx hb hts hin12 tyX12 tyX12_ok nmX12 hown hK hP hD hS 0 rfl rfl 84 (by decide) (hts (.fieldLink RX12 648 "IntegerHouseModel" "state" "I") (List.mem_cons_of_mem _ (List.mem_append_left _ (List.mem_append_left _ (List.mem_of_getElem? (i := 0) rfl))))) (fun _ h9 => h9) rfl (by decide +kernel) rfl rfl (k_len e0) dX12_readInTerm_72 (fun H locs hP hD hS => ?_)
  have hP : va_P D vwCl [(h0, .inr (12, (f0.set 84 (.int 5)))), (h1, .inl (cJ, 16, .inr (.inl (vp_updL g0 0 1)))), (h2, .inl (cI, 2001, .inl g1))] H := hP
  have hD : va_D A [(h0, .inr (12, (f0.set 84 (.int 5)))), (h1, .inl (cJ, 16, .inr (.inl (vp_updL g0 0 1)))), (h2, .inl (cI, 2001, .inl g1))] := hD
  refine lv_aload_n hx hb dX12_readInTerm_75 rfl (lv_at hl 0 rfl) ?_
  refine va_get (D := D) (ref := "IntegerHouseModel") (ci := 12) (v := .ref h2) (C := RX12) (T := TX12) (N := 195) hx hb hts hin12 hown hK hP 0 rfl rfl 25 (by decide) (hts (.fieldLink RX12 87 "IntegerHouseModel" "tokenKind" "[I") (List.mem_cons_of_mem _ (List.mem_append_left _ (List.mem_append_left _ (List.mem_of_getElem? (i := 4) rfl))))) (fun _ h9 => h9) (k_ne (by decide) e3) dX12_readInTerm_76 ?_
  refine lv_aload_n hx hb dX12_readInTerm_79 rfl (lv_at hl 0 rfl) ?_
  refine va_get (D := D) (ref := "IntegerHouseModel") (ci := 12) (v := .int 0) (C := RX12) (T := TX12) (N := 195) hx hb hts hin12 hown hK hP 0 rfl rfl 28 (by decide) (hts (.fieldLink RX12 597 "IntegerHouseModel" "now" "I") (List.mem_cons_of_mem _ (List.mem_append_left _ (List.mem_append_left _ (List.mem_of_getElem? (i := 5) rfl))))) (fun _ h9 => h9) (k_ne (by decide) e4) dX12_readInTerm_80 ?_
  refine va_iald hx hb hK hP 2 0 rfl rfl (k_in (by decide)) dX12_readInTerm_83 ?_
  refine k_topi (y := 0) e5 ?_
  refine lv_iconst (v := 2) hx hb dX12_readInTerm_84 (by decide) ?_
  refine lv_icmp_ne (tgt := 220) hx hb dX12_readInTerm_85 (by decide) (fun _ => ?_) (fun c9 => absurd c9 (by decide))
  exact W.vret hx hb hr (fun t ht hW => ⟨⟨(), rfl, trivial, kB_mk ht hW hP hK hD⟩, hS.F ht⟩) hS.2.2 dX12_readInTerm_220
set_option maxHeartbeats 400000000 in
set_option maxRecDepth 100000 in
theorem c_X12_readAtom_0 (l : Launch) (E : kE) (D : va_G) (cI cJ cB cZ : ClassId) (h0 : Nat) (f0 : List Value) (h1 : Nat) (g0 : Nat → Int32) (h2 : Nat) (g1 : Nat → Int32) (e0 : f0[25]? = some (.ref h1)) (e1 : f0[28]? = some (.int 0)) (e2 : g0 0 = 0) (e3 : f0[66]? = some (.int 25)) (e4 : f0[31]? = some (.int 0)) (e5 : f0[29]? = some (.int 0)) (e6 : f0[23]? = some (.ref h2)) (e7 : g1 0 = 0) (e8 : f0[30]? = some (.int 0)) : kV l E D (kT cI cJ cB cZ) yX12_readAtom wsX12_readAtom ({ frames := 2, cells := 0, slots := 0, locals := 42 }) [.ref h0] [(h0, .inr (12, f0)), (h1, .inl (cI, 2001, .inl g0)), (h2, .inl (cI, 2001, .inl g1))] (fun _ : Unit => [(h0, .inr (12, (((f0.set 31 (.int 1)).set 29 (.int 2)).set 30 (.int 0)))), (h1, .inl (cI, 2001, .inl g0)), (h2, .inl (cI, 2001, .inl g1))]) 0 0 := by
  intro sz
  refine Met.ofW (cc := cX12_readAtom) (maxL := 3) (ret := none) (by decide) rfl ?_
  intro p e s m args below meth c s₁ B hml hv
  obtain ⟨rfl, hsz, hP, hK, hD0, hN, hX⟩ := hv
  have hx := B.exec
  have hb := B.bytes
  have hr := B.returns
  have hts := atoms_spec (ws := wsX12_readAtom) B.pre
  have hown : s.vm.findClass RX12 = some m.cls := findClass_of_methodNamed B.named
  have hlocks := B.notSynchronized
  have hin12 : ∀ w ∈ wsX120, w ∈ wsX12_readAtom := (fun w h => (List.mem_cons_of_mem _ (List.mem_append_right _ h)))
  subst hsz
  have hD := hD0.self (sz := s.heap.size)
  have hAE := k_AE hD0 hX
  generalize hAe : va_A [(h0, .inr (12, f0)), (h1, .inl (cI, 2001, .inl g0)), (h2, .inl (cI, 2001, .inl g1))] s.heap.size = A at hD hAE ⊢
  have hA : ∀ q : Nat, s.heap.size ≤ q → A q := fun q h => by rw [← hAe]; exact Or.inr h
  have hS : va_S A s.heap s.heap [] := va_S.rf
  have hP : va_P D vwCl [(h0, .inr (12, f0)), (h1, .inl (cI, 2001, .inl g0)), (h2, .inl (cI, 2001, .inl g1))] s.heap := hP
  have hl := lv_entry ([.ref h0] : List Value) (n := 3) (Nat.le_of_ble_eq_true rfl)
  rw [lg_entry_eq]
  generalize (lg_sl ([.ref h0]) ++ List.replicate (3 - (lg_sl ([.ref h0])).length) Slot.unset).toArray = ls at hl ⊢
  have hl : lv_has ls 3 [(0, .ref h0)] := hl
  refine lv_aload_n hx hb dX12_readAtom_0 rfl (lv_at hl 0 rfl) ?_
  refine va_get (D := D) (ref := "IntegerHouseModel") (ci := 12) (v := .ref h1) (C := RX12) (T := TX12) (N := 195) hx hb hts hin12 hown hK hP 0 rfl rfl 25 (by decide) (hts (.fieldLink RX12 87 "IntegerHouseModel" "tokenKind" "[I") (List.mem_cons_of_mem _ (List.mem_append_left _ (List.mem_append_left _ (List.mem_of_getElem? (i := 0) rfl))))) (fun _ h9 => h9) e0 dX12_readAtom_1 ?_
  refine lv_aload_n hx hb dX12_readAtom_4 rfl (lv_at hl 0 rfl) ?_
  refine va_get (D := D) (ref := "IntegerHouseModel") (ci := 12) (v := .int 0) (C := RX12) (T := TX12) (N := 195) hx hb hts hin12 hown hK hP 0 rfl rfl 28 (by decide) (hts (.fieldLink RX12 597 "IntegerHouseModel" "now" "I") (List.mem_cons_of_mem _ (List.mem_append_left _ (List.mem_append_left _ (List.mem_of_getElem? (i := 1) rfl))))) (fun _ h9 => h9) e1 dX12_readAtom_5 ?_
  refine va_iald hx hb hK hP 1 0 rfl rfl (k_in (by decide)) dX12_readAtom_8 ?_
  refine k_topi (y := 0) e2 ?_
  refine lv_iconst (v := 3) hx hb dX12_readAtom_9 (by decide) ?_
  refine lv_icmp_ne (tgt := 24) hx hb dX12_readAtom_10 (by decide) (fun _ => ?_) (fun c9 => absurd c9 (by decide))
  refine lv_iconst (v := (-1)) hx hb dX12_readAtom_24 (by decide) ?_
  refine lv_istore_n (lv' := [(1, .int (-1)), (0, .ref h0)]) hx hb dX12_readAtom_25 rfl hl (by decide) rfl (fun ls hl => ?_)
  refine lv_iload_n hx hb dX12_readAtom_26 rfl (lv_at hl 0 rfl) ?_
  refine lv_iconst (v := (-1)) hx hb dX12_readAtom_27 (by decide) ?_
  refine lv_icmp_eq (tgt := 56) hx hb dX12_readAtom_28 (by decide) (fun _ => ?_) (fun c9 => absurd (by decide) c9)
  refine lv_aload_n hx hb dX12_readAtom_56 rfl (lv_at hl 1 rfl) ?_
  refine va_get (D := D) (ref := "IntegerHouseModel") (ci := 12) (v := .ref h1) (C := RX12) (T := TX12) (N := 195) hx hb hts hin12 hown hK hP 0 rfl rfl 25 (by decide) (hts (.fieldLink RX12 87 "IntegerHouseModel" "tokenKind" "[I") (List.mem_cons_of_mem _ (List.mem_append_left _ (List.mem_append_left _ (List.mem_of_getElem? (i := 0) rfl))))) (fun _ h9 => h9) e0 dX12_readAtom_57 ?_
  refine lv_aload_n hx hb dX12_readAtom_60 rfl (lv_at hl 1 rfl) ?_
  refine va_get (D := D) (ref := "IntegerHouseModel") (ci := 12) (v := .int 0) (C := RX12) (T := TX12) (N := 195) hx hb hts hin12 hown hK hP 0 rfl rfl 28 (by decide) (hts (.fieldLink RX12 597 "IntegerHouseModel" "now" "I") (List.mem_cons_of_mem _ (List.mem_append_left _ (List.mem_append_left _ (List.mem_of_getElem? (i := 1) rfl))))) (fun _ h9 => h9) e1 dX12_readAtom_61 ?_
  refine va_iald hx hb hK hP 1 0 rfl rfl (k_in (by decide)) dX12_readAtom_64 ?_
  refine k_topi (y := 0) e2 ?_
  refine lv_iconst (v := 3) hx hb dX12_readAtom_65 (by decide) ?_
  refine lv_icmp_ne (tgt := 97) hx hb dX12_readAtom_66 (by decide) (fun _ => ?_) (fun c9 => absurd c9 (by decide))
  refine lv_aload_n hx hb dX12_readAtom_97 rfl (lv_at hl 1 rfl) ?_
  refine lv_iconst (v := 3) hx hb dX12_readAtom_98 (by decide) ?_
  refine k_cVi (As := [.int 3]) (rest := []) (wc := [(h0, .inr (12, f0)), (h1, .inl (cI, 2001, .inl g0))]) (wr := [(h2, .inl (cI, 2001, .inl g1))]) (w1 := [(h0, .inr (12, f0)), (h1, .inl (cI, 2001, .inl g0))]) ⟨hx, hb, hml, hown, hts⟩ hN hX hAE hK hP hD hS hA [0, 1] [2] (ci := 12) rfl rfl rfl rfl (by decide +kernel) (by decide +kernel) (by decide +kernel) (c_X12_isSign_2 l E D cI cJ cB cZ h0 f0 h1 g0 e0 e1 e2) (cwV 1 hts gX12_readAtom_X12_isSign rfl rfl rfl (by decide +kernel) ⟨Nat.le_of_ble_eq_true rfl, Nat.le_of_ble_eq_true rfl⟩) rfl hl.1 (Nat.le_of_ble_eq_true rfl) dX12_readAtom_99 ⟨Nat.le_of_ble_eq_true rfl, Nat.le_of_ble_eq_true rfl⟩ (fun H locs hP hD hS => ?_)
  have hP : va_P D vwCl [(h2, .inl (cI, 2001, .inl g1)), (h0, .inr (12, f0)), (h1, .inl (cI, 2001, .inl g0))] H := hP
  have hD : va_D A [(h2, .inl (cI, 2001, .inl g1)), (h0, .inr (12, f0)), (h1, .inl (cI, 2001, .inl g0))] := hD
  refine lv_if_eq (tgt := 123) hx hb dX12_readAtom_102 (by decide) (fun _ => ?_) (fun c9 => absurd (by decide) c9)
  refine lv_aload_n hx hb dX12_readAtom_123 rfl (lv_at hl 1 rfl) ?_
  refine va_get (D := D) (ref := "IntegerHouseModel") (ci := 12) (v := .int 25) (C := RX12) (T := TX12) (N := 195) hx hb hts hin12 hown hK hP 1 rfl rfl 66 (by decide) (hts (.fieldLink RX12 630 "IntegerHouseModel" "slot" "I") (List.mem_cons_of_mem _ (List.mem_append_left _ (List.mem_append_left _ (List.mem_of_getElem? (i := 3) rfl))))) (fun _ h9 => h9) e3 dX12_readAtom_124 ?_
  refine lv_bipush (v := 25) hx hb dX12_readAtom_127 (by decide) ?_
  refine lv_icmp_eq (tgt := 224) hx hb dX12_readAtom_129 (by decide) (fun _ => ?_) (fun c9 => absurd (by decide) c9)
  refine lv_aload_n hx hb dX12_readAtom_224 rfl (lv_at hl 1 rfl) ?_
  refine k_cVv (As := []) (rest := []) (wc := [(h0, .inr (12, f0)), (h1, .inl (cI, 2001, .inl g0)), (h2, .inl (cI, 2001, .inl g1))]) (wr := []) (w1 := (fun _ : Unit => [(h0, .inr (12, (((f0.set 31 (.int 1)).set 29 (.int 2)).set 30 (.int 0)))), (h1, .inl (cI, 2001, .inl g0)), (h2, .inl (cI, 2001, .inl g1))])) ⟨hx, hb, hml, hown, hts⟩ hN hX hAE hK hP hD hS hA [1, 2, 0] [] (ci := 12) rfl rfl rfl rfl (by decide +kernel) (by decide +kernel) (by decide +kernel) (c_X12_cannot_0 l E D cI cJ cB cZ h0 f0 h1 g0 h2 g1 e0 e1 e2 e4 e5 e6 e7 e8) (cwV 0 hts gX12_readAtom_X12_cannot rfl rfl rfl (by decide +kernel) ⟨Nat.le_of_ble_eq_true rfl, Nat.le_of_ble_eq_true rfl⟩) rfl hl.1 (Nat.le_of_ble_eq_true rfl) dX12_readAtom_225 ⟨Nat.le_of_ble_eq_true rfl, Nat.le_of_ble_eq_true rfl⟩ (fun _ H locs hP hD hS => ?_)
  have hP : va_P D vwCl [(h0, .inr (12, (((f0.set 31 (.int 1)).set 29 (.int 2)).set 30 (.int 0)))), (h1, .inl (cI, 2001, .inl g0)), (h2, .inl (cI, 2001, .inl g1))] H := hP
  have hD : va_D A [(h0, .inr (12, (((f0.set 31 (.int 1)).set 29 (.int 2)).set 30 (.int 0)))), (h1, .inl (cI, 2001, .inl g0)), (h2, .inl (cI, 2001, .inl g1))] := hD
  exact W.vret hx hb hr (fun t ht hW => ⟨⟨(), rfl, trivial, kB_mk ht hW hP hK hD⟩, hS.F ht⟩) hS.2.2 dX12_readAtom_228
set_option maxHeartbeats 400000000 in
set_option maxRecDepth 100000 in
theorem c_X12_readInTerm_2 (l : Launch) (E : kE) (D : va_G) (cI cJ cB cZ : ClassId) (h0 : Nat) (f0 : List Value) (h1 : Nat) (g0 : Nat → Int32) (h2 : Nat) (g1 : Nat → Int32) (e0 : f0[84]? = some (.int 5)) (e1 : f0[25]? = some (.ref h1)) (e2 : f0[28]? = some (.int 0)) (e3 : g0 0 = 0) (e4 : f0[66]? = some (.int 25)) (e5 : f0[31]? = some (.int 0)) (e6 : f0[29]? = some (.int 0)) (e7 : f0[23]? = some (.ref h2)) (e8 : g1 0 = 0) (e9 : f0[30]? = some (.int 0)) : kV l E D (kT cI cJ cB cZ) yX12_readInTerm wsX12_readInTerm ({ frames := 3, cells := 0, slots := 0, locals := 64 }) [.ref h0] [(h0, .inr (12, f0)), (h1, .inl (cI, 2001, .inl g0)), (h2, .inl (cI, 2001, .inl g1))] (fun _ : Unit => [(h0, .inr (12, (((f0.set 31 (.int 1)).set 29 (.int 2)).set 30 (.int 0)))), (h1, .inl (cI, 2001, .inl g0)), (h2, .inl (cI, 2001, .inl g1))]) 0 0 := by
  intro sz
  refine Met.ofW (cc := cX12_readInTerm) (maxL := 1) (ret := none) (by decide) rfl ?_
  intro p e s m args below meth c s₁ B hml hv
  obtain ⟨rfl, hsz, hP, hK, hD0, hN, hX⟩ := hv
  have hx := B.exec
  have hb := B.bytes
  have hr := B.returns
  have hts := atoms_spec (ws := wsX12_readInTerm) B.pre
  have hown : s.vm.findClass RX12 = some m.cls := findClass_of_methodNamed B.named
  have hlocks := B.notSynchronized
  have hin12 : ∀ w ∈ wsX120, w ∈ wsX12_readInTerm := (fun w h => (List.mem_cons_of_mem _ (List.mem_append_right _ h)))
  subst hsz
  have hD := hD0.self (sz := s.heap.size)
  have hAE := k_AE hD0 hX
  generalize hAe : va_A [(h0, .inr (12, f0)), (h1, .inl (cI, 2001, .inl g0)), (h2, .inl (cI, 2001, .inl g1))] s.heap.size = A at hD hAE ⊢
  have hA : ∀ q : Nat, s.heap.size ≤ q → A q := fun q h => by rw [← hAe]; exact Or.inr h
  have hS : va_S A s.heap s.heap [] := va_S.rf
  have hP : va_P D vwCl [(h0, .inr (12, f0)), (h1, .inl (cI, 2001, .inl g0)), (h2, .inl (cI, 2001, .inl g1))] s.heap := hP
  have hl := lv_entry ([.ref h0] : List Value) (n := 1) (Nat.le_of_ble_eq_true rfl)
  rw [lg_entry_eq]
  generalize (lg_sl ([.ref h0]) ++ List.replicate (1 - (lg_sl ([.ref h0])).length) Slot.unset).toArray = ls at hl ⊢
  have hl : lv_has ls 1 [(0, .ref h0)] := hl
  refine lv_aload_n hx hb dX12_readInTerm_0 rfl (lv_at hl 0 rfl) ?_
  refine va_get (D := D) (ref := "IntegerHouseModel") (ci := 12) (v := .int 5) (C := RX12) (T := TX12) (N := 195) hx hb hts hin12 hown hK hP 0 rfl rfl 84 (by decide) (hts (.fieldLink RX12 648 "IntegerHouseModel" "state" "I") (List.mem_cons_of_mem _ (List.mem_append_left _ (List.mem_append_left _ (List.mem_of_getElem? (i := 0) rfl))))) (fun _ h9 => h9) e0 dX12_readInTerm_1 ?_
  refine lv_iconst (v := 3) hx hb dX12_readInTerm_4 (by decide) ?_
  refine lv_icmp_ne (tgt := 52) hx hb dX12_readInTerm_5 (by decide) (fun _ => ?_) (fun c9 => absurd c9 (by decide))
  refine lv_aload_n hx hb dX12_readInTerm_52 rfl (lv_at hl 0 rfl) ?_
  refine va_get (D := D) (ref := "IntegerHouseModel") (ci := 12) (v := .int 5) (C := RX12) (T := TX12) (N := 195) hx hb hts hin12 hown hK hP 0 rfl rfl 84 (by decide) (hts (.fieldLink RX12 648 "IntegerHouseModel" "state" "I") (List.mem_cons_of_mem _ (List.mem_append_left _ (List.mem_append_left _ (List.mem_of_getElem? (i := 0) rfl))))) (fun _ h9 => h9) e0 dX12_readInTerm_53 ?_
  refine lv_iconst (v := 4) hx hb dX12_readInTerm_56 (by decide) ?_
  refine lv_icmp_ne (tgt := 148) hx hb dX12_readInTerm_57 (by decide) (fun _ => ?_) (fun c9 => absurd c9 (by decide))
  refine lv_aload_n hx hb dX12_readInTerm_148 rfl (lv_at hl 0 rfl) ?_
  refine va_get (D := D) (ref := "IntegerHouseModel") (ci := 12) (v := .int 5) (C := RX12) (T := TX12) (N := 195) hx hb hts hin12 hown hK hP 0 rfl rfl 84 (by decide) (hts (.fieldLink RX12 648 "IntegerHouseModel" "state" "I") (List.mem_cons_of_mem _ (List.mem_append_left _ (List.mem_append_left _ (List.mem_of_getElem? (i := 0) rfl))))) (fun _ h9 => h9) e0 dX12_readInTerm_149 ?_
  refine lv_iconst (v := 5) hx hb dX12_readInTerm_152 (by decide) ?_
  refine lv_icmp_ne (tgt := 163) hx hb dX12_readInTerm_153 (by decide) (fun c9 => absurd (by decide) c9) (fun _ => ?_)
  refine lv_aload_n hx hb dX12_readInTerm_156 rfl (lv_at hl 0 rfl) ?_
  refine k_cVv (As := []) (rest := []) (wc := [(h0, .inr (12, f0)), (h1, .inl (cI, 2001, .inl g0)), (h2, .inl (cI, 2001, .inl g1))]) (wr := []) (w1 := (fun _ : Unit => [(h0, .inr (12, (((f0.set 31 (.int 1)).set 29 (.int 2)).set 30 (.int 0)))), (h1, .inl (cI, 2001, .inl g0)), (h2, .inl (cI, 2001, .inl g1))])) ⟨hx, hb, hml, hown, hts⟩ hN hX hAE hK hP hD hS hA [0, 1, 2] [] (ci := 12) rfl rfl rfl rfl (by decide +kernel) (by decide +kernel) (by decide +kernel) (c_X12_readAtom_0 l E D cI cJ cB cZ h0 f0 h1 g0 h2 g1 e1 e2 e3 e4 e5 e6 e7 e8 e9) (cwV 0 hts gX12_readInTerm_X12_readAtom rfl rfl rfl (by decide +kernel) ⟨Nat.le_of_ble_eq_true rfl, Nat.le_of_ble_eq_true rfl⟩) rfl hl.1 (Nat.le_of_ble_eq_true rfl) dX12_readInTerm_157 ⟨Nat.le_of_ble_eq_true rfl, Nat.le_of_ble_eq_true rfl⟩ (fun _ H locs hP hD hS => ?_)
  have hP : va_P D vwCl [(h0, .inr (12, (((f0.set 31 (.int 1)).set 29 (.int 2)).set 30 (.int 0)))), (h1, .inl (cI, 2001, .inl g0)), (h2, .inl (cI, 2001, .inl g1))] H := hP
  have hD : va_D A [(h0, .inr (12, (((f0.set 31 (.int 1)).set 29 (.int 2)).set 30 (.int 0)))), (h1, .inl (cI, 2001, .inl g0)), (h2, .inl (cI, 2001, .inl g1))] := hD
  refine lv_goto (tgt := 220) hx hb dX12_readInTerm_160 (by decide) ?_
  exact W.vret hx hb hr (fun t ht hW => ⟨⟨(), rfl, trivial, kB_mk ht hW hP hK hD⟩, hS.F ht⟩) hS.2.2 dX12_readInTerm_220
set_option maxHeartbeats 400000000 in
set_option maxRecDepth 100000 in
theorem c_X12_readTerm_0 (l : Launch) (E : kE) (D : va_G) (cI cJ cB cZ : ClassId) (h0 : Nat) (f0 : List Value) (h1 : Nat) (h2 : Nat) (h3 : Nat) (h4 : Nat) (h5 : Nat) (g0 : Nat → Int32) (g1 : Nat → Int32) (g2 : Nat → Int32) (g3 : Nat → Int64) (g4 : Nat → Int32) (h6 : Nat) (g5 : Nat → Int32) (h7 : Nat) (g6 : Nat → Int32) (e0 : f0[76]? = some (.int 0)) (e1 : f0[83]? = some (.int 0)) (e2 : f0[77]? = some (.ref h1)) (e3 : f0[78]? = some (.ref h2)) (e4 : f0[80]? = some (.ref h3)) (e5 : f0[81]? = some (.ref h4)) (e6 : f0[82]? = some (.ref h5)) (e7 : f0[84]? = some (.int 0)) (e8 : f0[31]? = some (.int 0)) (e9 : f0[25]? = some (.ref h6)) (e10 : f0[28]? = some (.int 0)) (e11 : g5 0 = 0) (e12 : f0[66]? = some (.int 25)) (e13 : f0[29]? = some (.int 0)) (e14 : f0[23]? = some (.ref h7)) (e15 : g6 0 = 0) (e16 : f0[30]? = some (.int 0)) (e17 : f0[85]? = some (.int 0)) : kI l E D (kT cI cJ cB cZ) yX12_readTerm wsX12_readTerm ({ frames := 4, cells := 0, slots := 0, locals := 84 }) [.ref h0] [(h0, .inr (12, f0)), (h1, .inl (cI, 16, .inl g0)), (h2, .inl (cI, 16, .inl g1)), (h3, .inl (cI, 16, .inl g2)), (h4, .inl (cJ, 16, .inr (.inl g3))), (h5, .inl (cI, 16, .inl g4)), (h6, .inl (cI, 2001, .inl g5)), (h7, .inl (cI, 2001, .inl g6))] (0) [(h0, .inr (12, (((((((((f0.set 76 (.int (-1))).set 83 (.int (-1))).set 83 (.int 0)).set 84 (.int 3)).set 84 (.int 4)).set 84 (.int 5)).set 31 (.int 1)).set 29 (.int 2)).set 30 (.int 0)))), (h1, .inl (cI, 16, .inl (upd g0 0 33))), (h2, .inl (cI, 16, .inl (upd g1 0 (-1)))), (h3, .inl (cI, 16, .inl (upd (upd g2 0 1) 0 1))), (h4, .inl (cJ, 16, .inr (.inl (vp_updL (vp_updL g3 0 1) 0 1)))), (h5, .inl (cI, 16, .inl (upd g4 0 (-1)))), (h6, .inl (cI, 2001, .inl g5)), (h7, .inl (cI, 2001, .inl g6))] 0 0 := by
  intro sz
  refine Met.ofW (cc := cX12_readTerm) (maxL := 1) (ret := (some .int)) (by decide) rfl ?_
  intro p e s m args below meth c s₁ B hml hv
  obtain ⟨rfl, hsz, hP, hK, hD0, hN, hX⟩ := hv
  have hx := B.exec
  have hb := B.bytes
  have hr := B.returns
  have hts := atoms_spec (ws := wsX12_readTerm) B.pre
  have hown : s.vm.findClass RX12 = some m.cls := findClass_of_methodNamed B.named
  have hlocks := B.notSynchronized
  have hin12 : ∀ w ∈ wsX120, w ∈ wsX12_readTerm := (fun w h => (List.mem_cons_of_mem _ (List.mem_append_right _ h)))
  subst hsz
  have hD := hD0.self (sz := s.heap.size)
  have hAE := k_AE hD0 hX
  generalize hAe : va_A [(h0, .inr (12, f0)), (h1, .inl (cI, 16, .inl g0)), (h2, .inl (cI, 16, .inl g1)), (h3, .inl (cI, 16, .inl g2)), (h4, .inl (cJ, 16, .inr (.inl g3))), (h5, .inl (cI, 16, .inl g4)), (h6, .inl (cI, 2001, .inl g5)), (h7, .inl (cI, 2001, .inl g6))] s.heap.size = A at hD hAE ⊢
  have hA : ∀ q : Nat, s.heap.size ≤ q → A q := fun q h => by rw [← hAe]; exact Or.inr h
  have hS : va_S A s.heap s.heap [] := va_S.rf
  have hP : va_P D vwCl [(h0, .inr (12, f0)), (h1, .inl (cI, 16, .inl g0)), (h2, .inl (cI, 16, .inl g1)), (h3, .inl (cI, 16, .inl g2)), (h4, .inl (cJ, 16, .inr (.inl g3))), (h5, .inl (cI, 16, .inl g4)), (h6, .inl (cI, 2001, .inl g5)), (h7, .inl (cI, 2001, .inl g6))] s.heap := hP
  have hl := lv_entry ([.ref h0] : List Value) (n := 1) (Nat.le_of_ble_eq_true rfl)
  rw [lg_entry_eq]
  generalize (lg_sl ([.ref h0]) ++ List.replicate (1 - (lg_sl ([.ref h0])).length) Slot.unset).toArray = ls at hl ⊢
  have hl : lv_has ls 1 [(0, .ref h0)] := hl
  refine lv_aload_n hx hb dX12_readTerm_0 rfl (lv_at hl 0 rfl) ?_
  refine lv_iconst (v := (-1)) hx hb dX12_readTerm_1 (by decide) ?_
  refine va_put (D := D) (ref := "IntegerHouseModel") (ci := 12) (v := .int (-1)) (ty := .int) (C := RX12) (T := TX12) (N := 195) hx hb hts hin12 tyX12 tyX12_ok nmX12 hown hK hP hD hS 0 rfl rfl 76 (by decide) (hts (.fieldLink RX12 639 "IntegerHouseModel" "formulas" "I") (List.mem_cons_of_mem _ (List.mem_append_left _ (List.mem_append_left _ (List.mem_of_getElem? (i := 0) rfl))))) (fun _ h9 => h9) rfl (by decide +kernel) rfl rfl (k_len e0) dX12_readTerm_2 (fun H locs hP hD hS => ?_)
  have hP : va_P D vwCl [(h0, .inr (12, (f0.set 76 (.int (-1))))), (h1, .inl (cI, 16, .inl g0)), (h2, .inl (cI, 16, .inl g1)), (h3, .inl (cI, 16, .inl g2)), (h4, .inl (cJ, 16, .inr (.inl g3))), (h5, .inl (cI, 16, .inl g4)), (h6, .inl (cI, 2001, .inl g5)), (h7, .inl (cI, 2001, .inl g6))] H := hP
  have hD : va_D A [(h0, .inr (12, (f0.set 76 (.int (-1))))), (h1, .inl (cI, 16, .inl g0)), (h2, .inl (cI, 16, .inl g1)), (h3, .inl (cI, 16, .inl g2)), (h4, .inl (cJ, 16, .inr (.inl g3))), (h5, .inl (cI, 16, .inl g4)), (h6, .inl (cI, 2001, .inl g5)), (h7, .inl (cI, 2001, .inl g6))] := hD
  refine lv_aload_n hx hb dX12_readTerm_5 rfl (lv_at hl 0 rfl) ?_
  refine lv_iconst (v := (-1)) hx hb dX12_readTerm_6 (by decide) ?_
  refine va_put (D := D) (ref := "IntegerHouseModel") (ci := 12) (v := .int (-1)) (ty := .int) (C := RX12) (T := TX12) (N := 195) hx hb hts hin12 tyX12 tyX12_ok nmX12 hown hK hP hD hS 0 rfl rfl 83 (by decide) (hts (.fieldLink RX12 642 "IntegerHouseModel" "terms" "I") (List.mem_cons_of_mem _ (List.mem_append_left _ (List.mem_append_left _ (List.mem_of_getElem? (i := 1) rfl))))) (fun _ h9 => h9) rfl (by decide +kernel) rfl rfl (k_len (k_ne (by decide) e1)) dX12_readTerm_7 (fun H locs hP hD hS => ?_)
  have hP : va_P D vwCl [(h0, .inr (12, ((f0.set 76 (.int (-1))).set 83 (.int (-1))))), (h1, .inl (cI, 16, .inl g0)), (h2, .inl (cI, 16, .inl g1)), (h3, .inl (cI, 16, .inl g2)), (h4, .inl (cJ, 16, .inr (.inl g3))), (h5, .inl (cI, 16, .inl g4)), (h6, .inl (cI, 2001, .inl g5)), (h7, .inl (cI, 2001, .inl g6))] H := hP
  have hD : va_D A [(h0, .inr (12, ((f0.set 76 (.int (-1))).set 83 (.int (-1))))), (h1, .inl (cI, 16, .inl g0)), (h2, .inl (cI, 16, .inl g1)), (h3, .inl (cI, 16, .inl g2)), (h4, .inl (cJ, 16, .inr (.inl g3))), (h5, .inl (cI, 16, .inl g4)), (h6, .inl (cI, 2001, .inl g5)), (h7, .inl (cI, 2001, .inl g6))] := hD
  refine lv_aload_n hx hb dX12_readTerm_10 rfl (lv_at hl 0 rfl) ?_
  refine lv_bipush (v := 33) hx hb dX12_readTerm_11 (by decide) ?_
  refine k_cVv (As := [.int 33]) (rest := []) (wc := [(h0, .inr (12, ((f0.set 76 (.int (-1))).set 83 (.int (-1))))), (h1, .inl (cI, 16, .inl g0)), (h2, .inl (cI, 16, .inl g1)), (h3, .inl (cI, 16, .inl g2)), (h4, .inl (cJ, 16, .inr (.inl g3))), (h5, .inl (cI, 16, .inl g4))]) (wr := [(h6, .inl (cI, 2001, .inl g5)), (h7, .inl (cI, 2001, .inl g6))]) (w1 := (fun _ : Unit => [(h0, .inr (12, (((f0.set 76 (.int (-1))).set 83 (.int (-1))).set 83 (.int 0)))), (h1, .inl (cI, 16, .inl (upd g0 0 33))), (h2, .inl (cI, 16, .inl (upd g1 0 (-1)))), (h3, .inl (cI, 16, .inl (upd g2 0 1))), (h4, .inl (cJ, 16, .inr (.inl (vp_updL g3 0 1)))), (h5, .inl (cI, 16, .inl (upd g4 0 (-1))))])) ⟨hx, hb, hml, hown, hts⟩ hN hX hAE hK hP hD hS hA [0, 1, 2, 3, 4, 5] [6, 7] (ci := 12) rfl rfl rfl rfl (by decide +kernel) (by decide +kernel) (by decide +kernel) (c_X12_openTerm_0 l E D cI cJ cB cZ h0 (((f0.set 76 (.int (-1))).set 83 (.int (-1)))) h1 g0 h2 g1 h3 g2 h4 g3 h5 g4 (k_set (k_ne (by decide) e1)) (k_ne (by decide) (k_ne (by decide) e2)) (k_ne (by decide) (k_ne (by decide) e3)) (k_ne (by decide) (k_ne (by decide) e4)) (k_ne (by decide) (k_ne (by decide) e5)) (k_ne (by decide) (k_ne (by decide) e6))) (cwV 1 hts gX12_readTerm_X12_openTerm rfl rfl rfl (by decide +kernel) ⟨Nat.le_of_ble_eq_true rfl, Nat.le_of_ble_eq_true rfl⟩) rfl hl.1 (Nat.le_of_ble_eq_true rfl) dX12_readTerm_13 ⟨Nat.le_of_ble_eq_true rfl, Nat.le_of_ble_eq_true rfl⟩ (fun _ H locs hP hD hS => ?_)
  have hP : va_P D vwCl [(h6, .inl (cI, 2001, .inl g5)), (h7, .inl (cI, 2001, .inl g6)), (h0, .inr (12, (((f0.set 76 (.int (-1))).set 83 (.int (-1))).set 83 (.int 0)))), (h1, .inl (cI, 16, .inl (upd g0 0 33))), (h2, .inl (cI, 16, .inl (upd g1 0 (-1)))), (h3, .inl (cI, 16, .inl (upd g2 0 1))), (h4, .inl (cJ, 16, .inr (.inl (vp_updL g3 0 1)))), (h5, .inl (cI, 16, .inl (upd g4 0 (-1))))] H := hP
  have hD : va_D A [(h6, .inl (cI, 2001, .inl g5)), (h7, .inl (cI, 2001, .inl g6)), (h0, .inr (12, (((f0.set 76 (.int (-1))).set 83 (.int (-1))).set 83 (.int 0)))), (h1, .inl (cI, 16, .inl (upd g0 0 33))), (h2, .inl (cI, 16, .inl (upd g1 0 (-1)))), (h3, .inl (cI, 16, .inl (upd g2 0 1))), (h4, .inl (cJ, 16, .inr (.inl (vp_updL g3 0 1)))), (h5, .inl (cI, 16, .inl (upd g4 0 (-1))))] := hD
  refine lv_aload_n hx hb dX12_readTerm_16 rfl (lv_at hl 0 rfl) ?_
  refine lv_iconst (v := 3) hx hb dX12_readTerm_17 (by decide) ?_
  refine va_put (D := D) (ref := "IntegerHouseModel") (ci := 12) (v := .int 3) (ty := .int) (C := RX12) (T := TX12) (N := 195) hx hb hts hin12 tyX12 tyX12_ok nmX12 hown hK hP hD hS 2 rfl rfl 84 (by decide) (hts (.fieldLink RX12 648 "IntegerHouseModel" "state" "I") (List.mem_cons_of_mem _ (List.mem_append_left _ (List.mem_append_left _ (List.mem_of_getElem? (i := 2) rfl))))) (fun _ h9 => h9) rfl (by decide +kernel) rfl rfl (k_len (k_ne (by decide) (k_ne (by decide) (k_ne (by decide) e7)))) dX12_readTerm_18 (fun H locs hP hD hS => ?_)
  have hP : va_P D vwCl [(h6, .inl (cI, 2001, .inl g5)), (h7, .inl (cI, 2001, .inl g6)), (h0, .inr (12, ((((f0.set 76 (.int (-1))).set 83 (.int (-1))).set 83 (.int 0)).set 84 (.int 3)))), (h1, .inl (cI, 16, .inl (upd g0 0 33))), (h2, .inl (cI, 16, .inl (upd g1 0 (-1)))), (h3, .inl (cI, 16, .inl (upd g2 0 1))), (h4, .inl (cJ, 16, .inr (.inl (vp_updL g3 0 1)))), (h5, .inl (cI, 16, .inl (upd g4 0 (-1))))] H := hP
  have hD : va_D A [(h6, .inl (cI, 2001, .inl g5)), (h7, .inl (cI, 2001, .inl g6)), (h0, .inr (12, ((((f0.set 76 (.int (-1))).set 83 (.int (-1))).set 83 (.int 0)).set 84 (.int 3)))), (h1, .inl (cI, 16, .inl (upd g0 0 33))), (h2, .inl (cI, 16, .inl (upd g1 0 (-1)))), (h3, .inl (cI, 16, .inl (upd g2 0 1))), (h4, .inl (cJ, 16, .inr (.inl (vp_updL g3 0 1)))), (h5, .inl (cI, 16, .inl (upd g4 0 (-1))))] := hD
  refine lv_aload_n hx hb dX12_readTerm_21 rfl (lv_at hl 0 rfl) ?_
  refine va_get (D := D) (ref := "IntegerHouseModel") (ci := 12) (v := .int 0) (C := RX12) (T := TX12) (N := 195) hx hb hts hin12 hown hK hP 2 rfl rfl 31 (by decide) (hts (.fieldLink RX12 562 "IntegerHouseModel" "faulty" "Z") (List.mem_cons_of_mem _ (List.mem_append_left _ (List.mem_append_left _ (List.mem_of_getElem? (i := 3) rfl))))) (fun _ h9 => h9) (k_ne (by decide) (k_ne (by decide) (k_ne (by decide) (k_ne (by decide) e8)))) dX12_readTerm_22 ?_
  refine lv_if_ne (tgt := 44) hx hb dX12_readTerm_25 (by decide) (fun c9 => absurd (by decide) c9) (fun _ => ?_)
  refine lv_aload_n hx hb dX12_readTerm_28 rfl (lv_at hl 0 rfl) ?_
  refine va_get (D := D) (ref := "IntegerHouseModel") (ci := 12) (v := .int 3) (C := RX12) (T := TX12) (N := 195) hx hb hts hin12 hown hK hP 2 rfl rfl 84 (by decide) (hts (.fieldLink RX12 648 "IntegerHouseModel" "state" "I") (List.mem_cons_of_mem _ (List.mem_append_left _ (List.mem_append_left _ (List.mem_of_getElem? (i := 2) rfl))))) (fun _ h9 => h9) (k_set (k_ne (by decide) (k_ne (by decide) (k_ne (by decide) e7)))) dX12_readTerm_29 ?_
  refine lv_bipush (v := 7) hx hb dX12_readTerm_32 (by decide) ?_
  refine lv_icmp_eq (tgt := 44) hx hb dX12_readTerm_34 (by decide) (fun c9 => absurd c9 (by decide)) (fun _ => ?_)
  refine lv_aload_n hx hb dX12_readTerm_37 rfl (lv_at hl 0 rfl) ?_
  refine k_cVv (As := []) (rest := []) (wc := [(h0, .inr (12, ((((f0.set 76 (.int (-1))).set 83 (.int (-1))).set 83 (.int 0)).set 84 (.int 3)))), (h6, .inl (cI, 2001, .inl g5)), (h3, .inl (cI, 16, .inl (upd g2 0 1)))]) (wr := [(h7, .inl (cI, 2001, .inl g6)), (h1, .inl (cI, 16, .inl (upd g0 0 33))), (h2, .inl (cI, 16, .inl (upd g1 0 (-1)))), (h4, .inl (cJ, 16, .inr (.inl (vp_updL g3 0 1)))), (h5, .inl (cI, 16, .inl (upd g4 0 (-1))))]) (w1 := (fun _ : Unit => [(h0, .inr (12, (((((f0.set 76 (.int (-1))).set 83 (.int (-1))).set 83 (.int 0)).set 84 (.int 3)).set 84 (.int 4)))), (h6, .inl (cI, 2001, .inl g5)), (h3, .inl (cI, 16, .inl (upd (upd g2 0 1) 0 1)))])) ⟨hx, hb, hml, hown, hts⟩ hN hX hAE hK hP hD hS hA [2, 0, 5] [1, 3, 4, 6, 7] (ci := 12) rfl rfl rfl rfl (by decide +kernel) (by decide +kernel) (by decide +kernel) (c_X12_readInTerm_0 l E D cI cJ cB cZ h0 (((((f0.set 76 (.int (-1))).set 83 (.int (-1))).set 83 (.int 0)).set 84 (.int 3))) h3 h6 g5 ((upd g2 0 1)) (k_set (k_ne (by decide) (k_ne (by decide) (k_ne (by decide) e7)))) (k_ne (by decide) (k_ne (by decide) (k_ne (by decide) (k_ne (by decide) e4)))) (k_ne (by decide) (k_set (k_set (k_ne (by decide) e1)))) (k_ne (by decide) (k_ne (by decide) (k_ne (by decide) (k_ne (by decide) e9)))) (k_ne (by decide) (k_ne (by decide) (k_ne (by decide) (k_ne (by decide) e10)))) e11) (cwV 0 hts gX12_readTerm_X12_readInTerm rfl rfl rfl (by decide +kernel) ⟨Nat.le_of_ble_eq_true rfl, Nat.le_of_ble_eq_true rfl⟩) rfl hl.1 (Nat.le_of_ble_eq_true rfl) dX12_readTerm_38 ⟨Nat.le_of_ble_eq_true rfl, Nat.le_of_ble_eq_true rfl⟩ (fun _ H locs hP hD hS => ?_)
  have hP : va_P D vwCl [(h7, .inl (cI, 2001, .inl g6)), (h1, .inl (cI, 16, .inl (upd g0 0 33))), (h2, .inl (cI, 16, .inl (upd g1 0 (-1)))), (h4, .inl (cJ, 16, .inr (.inl (vp_updL g3 0 1)))), (h5, .inl (cI, 16, .inl (upd g4 0 (-1)))), (h0, .inr (12, (((((f0.set 76 (.int (-1))).set 83 (.int (-1))).set 83 (.int 0)).set 84 (.int 3)).set 84 (.int 4)))), (h6, .inl (cI, 2001, .inl g5)), (h3, .inl (cI, 16, .inl (upd (upd g2 0 1) 0 1)))] H := hP
  have hD : va_D A [(h7, .inl (cI, 2001, .inl g6)), (h1, .inl (cI, 16, .inl (upd g0 0 33))), (h2, .inl (cI, 16, .inl (upd g1 0 (-1)))), (h4, .inl (cJ, 16, .inr (.inl (vp_updL g3 0 1)))), (h5, .inl (cI, 16, .inl (upd g4 0 (-1)))), (h0, .inr (12, (((((f0.set 76 (.int (-1))).set 83 (.int (-1))).set 83 (.int 0)).set 84 (.int 3)).set 84 (.int 4)))), (h6, .inl (cI, 2001, .inl g5)), (h3, .inl (cI, 16, .inl (upd (upd g2 0 1) 0 1)))] := hD
  refine lv_goto (tgt := 21) hx hb dX12_readTerm_41 (by decide) ?_
  refine lv_aload_n hx hb dX12_readTerm_21 rfl (lv_at hl 0 rfl) ?_
  refine va_get (D := D) (ref := "IntegerHouseModel") (ci := 12) (v := .int 0) (C := RX12) (T := TX12) (N := 195) hx hb hts hin12 hown hK hP 5 rfl rfl 31 (by decide) (hts (.fieldLink RX12 562 "IntegerHouseModel" "faulty" "Z") (List.mem_cons_of_mem _ (List.mem_append_left _ (List.mem_append_left _ (List.mem_of_getElem? (i := 3) rfl))))) (fun _ h9 => h9) (k_ne (by decide) (k_ne (by decide) (k_ne (by decide) (k_ne (by decide) (k_ne (by decide) e8))))) dX12_readTerm_22 ?_
  refine lv_if_ne (tgt := 44) hx hb dX12_readTerm_25 (by decide) (fun c9 => absurd (by decide) c9) (fun _ => ?_)
  refine lv_aload_n hx hb dX12_readTerm_28 rfl (lv_at hl 0 rfl) ?_
  refine va_get (D := D) (ref := "IntegerHouseModel") (ci := 12) (v := .int 4) (C := RX12) (T := TX12) (N := 195) hx hb hts hin12 hown hK hP 5 rfl rfl 84 (by decide) (hts (.fieldLink RX12 648 "IntegerHouseModel" "state" "I") (List.mem_cons_of_mem _ (List.mem_append_left _ (List.mem_append_left _ (List.mem_of_getElem? (i := 2) rfl))))) (fun _ h9 => h9) (k_set (k_set (k_ne (by decide) (k_ne (by decide) (k_ne (by decide) e7))))) dX12_readTerm_29 ?_
  refine lv_bipush (v := 7) hx hb dX12_readTerm_32 (by decide) ?_
  refine lv_icmp_eq (tgt := 44) hx hb dX12_readTerm_34 (by decide) (fun c9 => absurd c9 (by decide)) (fun _ => ?_)
  refine lv_aload_n hx hb dX12_readTerm_37 rfl (lv_at hl 0 rfl) ?_
  refine k_cVv (As := []) (rest := []) (wc := [(h0, .inr (12, (((((f0.set 76 (.int (-1))).set 83 (.int (-1))).set 83 (.int 0)).set 84 (.int 3)).set 84 (.int 4)))), (h4, .inl (cJ, 16, .inr (.inl (vp_updL g3 0 1)))), (h6, .inl (cI, 2001, .inl g5))]) (wr := [(h7, .inl (cI, 2001, .inl g6)), (h1, .inl (cI, 16, .inl (upd g0 0 33))), (h2, .inl (cI, 16, .inl (upd g1 0 (-1)))), (h5, .inl (cI, 16, .inl (upd g4 0 (-1)))), (h3, .inl (cI, 16, .inl (upd (upd g2 0 1) 0 1)))]) (w1 := (fun _ : Unit => [(h0, .inr (12, ((((((f0.set 76 (.int (-1))).set 83 (.int (-1))).set 83 (.int 0)).set 84 (.int 3)).set 84 (.int 4)).set 84 (.int 5)))), (h4, .inl (cJ, 16, .inr (.inl (vp_updL (vp_updL g3 0 1) 0 1)))), (h6, .inl (cI, 2001, .inl g5))])) ⟨hx, hb, hml, hown, hts⟩ hN hX hAE hK hP hD hS hA [5, 3, 6] [0, 1, 2, 4, 7] (ci := 12) rfl rfl rfl rfl (by decide +kernel) (by decide +kernel) (by decide +kernel) (c_X12_readInTerm_1 l E D cI cJ cB cZ h0 ((((((f0.set 76 (.int (-1))).set 83 (.int (-1))).set 83 (.int 0)).set 84 (.int 3)).set 84 (.int 4))) h4 ((vp_updL g3 0 1)) h6 g5 (k_set (k_set (k_ne (by decide) (k_ne (by decide) (k_ne (by decide) e7))))) (k_ne (by decide) (k_ne (by decide) (k_ne (by decide) (k_ne (by decide) (k_ne (by decide) e5))))) (k_ne (by decide) (k_ne (by decide) (k_set (k_set (k_ne (by decide) e1))))) (k_ne (by decide) (k_ne (by decide) (k_ne (by decide) (k_ne (by decide) (k_ne (by decide) e9))))) (k_ne (by decide) (k_ne (by decide) (k_ne (by decide) (k_ne (by decide) (k_ne (by decide) e10))))) e11) (cwV 0 hts gX12_readTerm_X12_readInTerm rfl rfl rfl (by decide +kernel) ⟨Nat.le_of_ble_eq_true rfl, Nat.le_of_ble_eq_true rfl⟩) rfl hl.1 (Nat.le_of_ble_eq_true rfl) dX12_readTerm_38 ⟨Nat.le_of_ble_eq_true rfl, Nat.le_of_ble_eq_true rfl⟩ (fun _ H locs hP hD hS => ?_)
  have hP : va_P D vwCl [(h7, .inl (cI, 2001, .inl g6)), (h1, .inl (cI, 16, .inl (upd g0 0 33))), (h2, .inl (cI, 16, .inl (upd g1 0 (-1)))), (h5, .inl (cI, 16, .inl (upd g4 0 (-1)))), (h3, .inl (cI, 16, .inl (upd (upd g2 0 1) 0 1))), (h0, .inr (12, ((((((f0.set 76 (.int (-1))).set 83 (.int (-1))).set 83 (.int 0)).set 84 (.int 3)).set 84 (.int 4)).set 84 (.int 5)))), (h4, .inl (cJ, 16, .inr (.inl (vp_updL (vp_updL g3 0 1) 0 1)))), (h6, .inl (cI, 2001, .inl g5))] H := hP
  have hD : va_D A [(h7, .inl (cI, 2001, .inl g6)), (h1, .inl (cI, 16, .inl (upd g0 0 33))), (h2, .inl (cI, 16, .inl (upd g1 0 (-1)))), (h5, .inl (cI, 16, .inl (upd g4 0 (-1)))), (h3, .inl (cI, 16, .inl (upd (upd g2 0 1) 0 1))), (h0, .inr (12, ((((((f0.set 76 (.int (-1))).set 83 (.int (-1))).set 83 (.int 0)).set 84 (.int 3)).set 84 (.int 4)).set 84 (.int 5)))), (h4, .inl (cJ, 16, .inr (.inl (vp_updL (vp_updL g3 0 1) 0 1)))), (h6, .inl (cI, 2001, .inl g5))] := hD
  refine lv_goto (tgt := 21) hx hb dX12_readTerm_41 (by decide) ?_
  refine lv_aload_n hx hb dX12_readTerm_21 rfl (lv_at hl 0 rfl) ?_
  refine va_get (D := D) (ref := "IntegerHouseModel") (ci := 12) (v := .int 0) (C := RX12) (T := TX12) (N := 195) hx hb hts hin12 hown hK hP 5 rfl rfl 31 (by decide) (hts (.fieldLink RX12 562 "IntegerHouseModel" "faulty" "Z") (List.mem_cons_of_mem _ (List.mem_append_left _ (List.mem_append_left _ (List.mem_of_getElem? (i := 3) rfl))))) (fun _ h9 => h9) (k_ne (by decide) (k_ne (by decide) (k_ne (by decide) (k_ne (by decide) (k_ne (by decide) (k_ne (by decide) e8)))))) dX12_readTerm_22 ?_
  refine lv_if_ne (tgt := 44) hx hb dX12_readTerm_25 (by decide) (fun c9 => absurd (by decide) c9) (fun _ => ?_)
  refine lv_aload_n hx hb dX12_readTerm_28 rfl (lv_at hl 0 rfl) ?_
  refine va_get (D := D) (ref := "IntegerHouseModel") (ci := 12) (v := .int 5) (C := RX12) (T := TX12) (N := 195) hx hb hts hin12 hown hK hP 5 rfl rfl 84 (by decide) (hts (.fieldLink RX12 648 "IntegerHouseModel" "state" "I") (List.mem_cons_of_mem _ (List.mem_append_left _ (List.mem_append_left _ (List.mem_of_getElem? (i := 2) rfl))))) (fun _ h9 => h9) (k_set (k_set (k_set (k_ne (by decide) (k_ne (by decide) (k_ne (by decide) e7)))))) dX12_readTerm_29 ?_
  refine lv_bipush (v := 7) hx hb dX12_readTerm_32 (by decide) ?_
  refine lv_icmp_eq (tgt := 44) hx hb dX12_readTerm_34 (by decide) (fun c9 => absurd c9 (by decide)) (fun _ => ?_)
  refine lv_aload_n hx hb dX12_readTerm_37 rfl (lv_at hl 0 rfl) ?_
  refine k_cVv (As := []) (rest := []) (wc := [(h0, .inr (12, ((((((f0.set 76 (.int (-1))).set 83 (.int (-1))).set 83 (.int 0)).set 84 (.int 3)).set 84 (.int 4)).set 84 (.int 5)))), (h6, .inl (cI, 2001, .inl g5)), (h7, .inl (cI, 2001, .inl g6))]) (wr := [(h1, .inl (cI, 16, .inl (upd g0 0 33))), (h2, .inl (cI, 16, .inl (upd g1 0 (-1)))), (h5, .inl (cI, 16, .inl (upd g4 0 (-1)))), (h3, .inl (cI, 16, .inl (upd (upd g2 0 1) 0 1))), (h4, .inl (cJ, 16, .inr (.inl (vp_updL (vp_updL g3 0 1) 0 1))))]) (w1 := (fun _ : Unit => [(h0, .inr (12, (((((((((f0.set 76 (.int (-1))).set 83 (.int (-1))).set 83 (.int 0)).set 84 (.int 3)).set 84 (.int 4)).set 84 (.int 5)).set 31 (.int 1)).set 29 (.int 2)).set 30 (.int 0)))), (h6, .inl (cI, 2001, .inl g5)), (h7, .inl (cI, 2001, .inl g6))])) ⟨hx, hb, hml, hown, hts⟩ hN hX hAE hK hP hD hS hA [5, 7, 0] [1, 2, 3, 4, 6] (ci := 12) rfl rfl rfl rfl (by decide +kernel) (by decide +kernel) (by decide +kernel) (c_X12_readInTerm_2 l E D cI cJ cB cZ h0 (((((((f0.set 76 (.int (-1))).set 83 (.int (-1))).set 83 (.int 0)).set 84 (.int 3)).set 84 (.int 4)).set 84 (.int 5))) h6 g5 h7 g6 (k_set (k_set (k_set (k_ne (by decide) (k_ne (by decide) (k_ne (by decide) e7)))))) (k_ne (by decide) (k_ne (by decide) (k_ne (by decide) (k_ne (by decide) (k_ne (by decide) (k_ne (by decide) e9)))))) (k_ne (by decide) (k_ne (by decide) (k_ne (by decide) (k_ne (by decide) (k_ne (by decide) (k_ne (by decide) e10)))))) e11 (k_ne (by decide) (k_ne (by decide) (k_ne (by decide) (k_ne (by decide) (k_ne (by decide) (k_ne (by decide) e12)))))) (k_ne (by decide) (k_ne (by decide) (k_ne (by decide) (k_ne (by decide) (k_ne (by decide) (k_ne (by decide) e8)))))) (k_ne (by decide) (k_ne (by decide) (k_ne (by decide) (k_ne (by decide) (k_ne (by decide) (k_ne (by decide) e13)))))) (k_ne (by decide) (k_ne (by decide) (k_ne (by decide) (k_ne (by decide) (k_ne (by decide) (k_ne (by decide) e14)))))) e15 (k_ne (by decide) (k_ne (by decide) (k_ne (by decide) (k_ne (by decide) (k_ne (by decide) (k_ne (by decide) e16))))))) (cwV 0 hts gX12_readTerm_X12_readInTerm rfl rfl rfl (by decide +kernel) ⟨Nat.le_of_ble_eq_true rfl, Nat.le_of_ble_eq_true rfl⟩) rfl hl.1 (Nat.le_of_ble_eq_true rfl) dX12_readTerm_38 ⟨Nat.le_of_ble_eq_true rfl, Nat.le_of_ble_eq_true rfl⟩ (fun _ H locs hP hD hS => ?_)
  have hP : va_P D vwCl [(h1, .inl (cI, 16, .inl (upd g0 0 33))), (h2, .inl (cI, 16, .inl (upd g1 0 (-1)))), (h5, .inl (cI, 16, .inl (upd g4 0 (-1)))), (h3, .inl (cI, 16, .inl (upd (upd g2 0 1) 0 1))), (h4, .inl (cJ, 16, .inr (.inl (vp_updL (vp_updL g3 0 1) 0 1)))), (h0, .inr (12, (((((((((f0.set 76 (.int (-1))).set 83 (.int (-1))).set 83 (.int 0)).set 84 (.int 3)).set 84 (.int 4)).set 84 (.int 5)).set 31 (.int 1)).set 29 (.int 2)).set 30 (.int 0)))), (h6, .inl (cI, 2001, .inl g5)), (h7, .inl (cI, 2001, .inl g6))] H := hP
  have hD : va_D A [(h1, .inl (cI, 16, .inl (upd g0 0 33))), (h2, .inl (cI, 16, .inl (upd g1 0 (-1)))), (h5, .inl (cI, 16, .inl (upd g4 0 (-1)))), (h3, .inl (cI, 16, .inl (upd (upd g2 0 1) 0 1))), (h4, .inl (cJ, 16, .inr (.inl (vp_updL (vp_updL g3 0 1) 0 1)))), (h0, .inr (12, (((((((((f0.set 76 (.int (-1))).set 83 (.int (-1))).set 83 (.int 0)).set 84 (.int 3)).set 84 (.int 4)).set 84 (.int 5)).set 31 (.int 1)).set 29 (.int 2)).set 30 (.int 0)))), (h6, .inl (cI, 2001, .inl g5)), (h7, .inl (cI, 2001, .inl g6))] := hD
  refine lv_goto (tgt := 21) hx hb dX12_readTerm_41 (by decide) ?_
  refine lv_aload_n hx hb dX12_readTerm_21 rfl (lv_at hl 0 rfl) ?_
  refine va_get (D := D) (ref := "IntegerHouseModel") (ci := 12) (v := .int 1) (C := RX12) (T := TX12) (N := 195) hx hb hts hin12 hown hK hP 5 rfl rfl 31 (by decide) (hts (.fieldLink RX12 562 "IntegerHouseModel" "faulty" "Z") (List.mem_cons_of_mem _ (List.mem_append_left _ (List.mem_append_left _ (List.mem_of_getElem? (i := 3) rfl))))) (fun _ h9 => h9) (k_ne (by decide) (k_ne (by decide) (k_set (k_ne (by decide) (k_ne (by decide) (k_ne (by decide) (k_ne (by decide) (k_ne (by decide) (k_ne (by decide) e8))))))))) dX12_readTerm_22 ?_
  refine lv_if_ne (tgt := 44) hx hb dX12_readTerm_25 (by decide) (fun _ => ?_) (fun c9 => absurd c9 (by decide))
  refine lv_aload_n hx hb dX12_readTerm_44 rfl (lv_at hl 0 rfl) ?_
  refine va_get (D := D) (ref := "IntegerHouseModel") (ci := 12) (v := .int 0) (C := RX12) (T := TX12) (N := 195) hx hb hts hin12 hown hK hP 5 rfl rfl 85 (by decide) (hts (.fieldLink RX12 660 "IntegerHouseModel" "current" "I") (List.mem_cons_of_mem _ (List.mem_append_left _ (List.mem_append_left _ (List.mem_of_getElem? (i := 4) rfl))))) (fun _ h9 => h9) (k_ne (by decide) (k_ne (by decide) (k_ne (by decide) (k_ne (by decide) (k_ne (by decide) (k_ne (by decide) (k_ne (by decide) (k_ne (by decide) (k_ne (by decide) e17))))))))) dX12_readTerm_45 ?_
  have hP := hP.sub (ws' := [(h0, .inr (12, (((((((((f0.set 76 (.int (-1))).set 83 (.int (-1))).set 83 (.int 0)).set 84 (.int 3)).set 84 (.int 4)).set 84 (.int 5)).set 31 (.int 1)).set 29 (.int 2)).set 30 (.int 0)))), (h1, .inl (cI, 16, .inl (upd g0 0 33))), (h2, .inl (cI, 16, .inl (upd g1 0 (-1)))), (h3, .inl (cI, 16, .inl (upd (upd g2 0 1) 0 1))), (h4, .inl (cJ, 16, .inr (.inl (vp_updL (vp_updL g3 0 1) 0 1)))), (h5, .inl (cI, 16, .inl (upd g4 0 (-1)))), (h6, .inl (cI, 2001, .inl g5)), (h7, .inl (cI, 2001, .inl g6))]) [5, 0, 1, 3, 4, 2, 6, 7] rfl
  have hD := hD.sub (ws' := [(h0, .inr (12, (((((((((f0.set 76 (.int (-1))).set 83 (.int (-1))).set 83 (.int 0)).set 84 (.int 3)).set 84 (.int 4)).set 84 (.int 5)).set 31 (.int 1)).set 29 (.int 2)).set 30 (.int 0)))), (h1, .inl (cI, 16, .inl (upd g0 0 33))), (h2, .inl (cI, 16, .inl (upd g1 0 (-1)))), (h3, .inl (cI, 16, .inl (upd (upd g2 0 1) 0 1))), (h4, .inl (cJ, 16, .inr (.inl (vp_updL (vp_updL g3 0 1) 0 1)))), (h5, .inl (cI, 16, .inl (upd g4 0 (-1)))), (h6, .inl (cI, 2001, .inl g5)), (h7, .inl (cI, 2001, .inl g6))]) [5, 0, 1, 3, 4, 2, 6, 7] (by decide +kernel) rfl
  exact W.iret (v := 0) hx hb hr (fun t ht hW => ⟨⟨0, (), rfl, rfl, kB_mk ht hW hP hK hD⟩, hS.F ht⟩) hS.2.2 dX12_readTerm_48
set_option maxHeartbeats 400000000 in
set_option maxRecDepth 100000 in
theorem c_X12_extreme_0 (l : Launch) (E : kE) (D : va_G) (cI cJ cB cZ : ClassId) (h0 : Nat) (f0 : List Value) (h1 : Nat) (h2 : Nat) (h3 : Nat) (h4 : Nat) (g0 : Nat → Int32) (g1 : Nat → Int32) (g2 : Nat → Int32) (g3 : Nat → Int32) (h5 : Nat) (h6 : Nat) (h7 : Nat) (h8 : Nat) (h9 : Nat) (g4 : Nat → Int32) (g5 : Nat → Int32) (g6 : Nat → Int32) (g7 : Nat → Int32) (g8 : Nat → Int32) (h10 : Nat) (h11 : Nat) (h12 : Nat) (h13 : Nat) (h14 : Nat) (g9 : Nat → Int32) (g10 : Nat → Int32) (g11 : Nat → Int32) (g12 : Nat → Int64) (g13 : Nat → Int32) (e0 : f0[0]? = some (.int 0)) (e1 : f0[5]? = some (.int 0)) (e2 : f0[2]? = some (.int 0)) (e3 : f0[12]? = some (.int 0)) (e4 : f0[32]? = some (.int 0)) (e5 : f0[36]? = some (.int 0)) (e6 : f0[33]? = some (.int 0)) (e7 : f0[37]? = some (.int 0)) (e8 : f0[27]? = some (.int 0)) (e9 : f0[31]? = some (.int 0)) (e10 : f0[28]? = some (.int 0)) (e11 : f0[23]? = some (.ref h1)) (e12 : f0[24]? = some (.ref h2)) (e13 : f0[25]? = some (.ref h3)) (e14 : f0[26]? = some (.ref h4)) (e15 : f0[66]? = some (.int 0)) (e16 : f0[67]? = some (.int 0)) (e17 : f0[40]? = some (.ref h5)) (e18 : f0[45]? = some (.ref h6)) (e19 : f0[56]? = some (.ref h7)) (e20 : f0[60]? = some (.ref h8)) (e21 : f0[65]? = some (.ref h9)) (e22 : f0[76]? = some (.int 0)) (e23 : f0[83]? = some (.int 0)) (e24 : f0[77]? = some (.ref h10)) (e25 : f0[78]? = some (.ref h11)) (e26 : f0[80]? = some (.ref h12)) (e27 : f0[81]? = some (.ref h13)) (e28 : f0[82]? = some (.ref h14)) (e29 : f0[84]? = some (.int 0)) (e30 : f0[29]? = some (.int 0)) (e31 : f0[30]? = some (.int 0)) (e32 : f0[85]? = some (.int 0)) (e33 : f0[13]? = some (.int 0)) (e34 : f0[109]? = some (.int 0)) : kI l E D (kT cI cJ cB cZ) yX12_extreme wsX12_extreme ({ frames := 5, cells := 0, slots := 0, locals := 104 }) [.ref h0, .int 1] [(h0, .inr (12, f0)), (h1, .inl (cI, 2001, .inl g0)), (h2, .inl (cI, 2001, .inl g1)), (h3, .inl (cI, 2001, .inl g2)), (h4, .inl (cI, 2001, .inl g3)), (h5, .inl (cI, 26, .inl g4)), (h6, .inl (cI, 26, .inl g5)), (h7, .inl (cI, 26, .inl g6)), (h8, .inl (cI, 26, .inl g7)), (h9, .inl (cI, 26, .inl g8)), (h10, .inl (cI, 16, .inl g9)), (h11, .inl (cI, 16, .inl g10)), (h12, .inl (cI, 16, .inl g11)), (h13, .inl (cJ, 16, .inr (.inl g12))), (h14, .inl (cI, 16, .inl g13))] ((-1000)) [(h0, .inr (12, ((((((((((((((((((((f0.set 0 (.int 0)).set 12 (.int 0)).set 2 (.int 0)).set 36 (.int 0)).set 37 (.int 0)).set 27 (.int 0)).set 31 (.int 0)).set 28 (.int 0)).set 66 (.int 25)).set 67 (.int 0)).set 76 (.int (-1))).set 83 (.int (-1))).set 83 (.int 0)).set 84 (.int 3)).set 84 (.int 4)).set 84 (.int 5)).set 31 (.int 1)).set 29 (.int 2)).set 30 (.int 0)).set 109 (.int 2)))), (h1, .inl (cI, 2001, .inl (upd g0 0 0))), (h2, .inl (cI, 2001, .inl (upd g1 0 0))), (h3, .inl (cI, 2001, .inl (upd g2 0 0))), (h4, .inl (cI, 2001, .inl (upd g3 0 0))), (h5, .inl (cI, 26, .inl (upd g4 25 0))), (h6, .inl (cI, 26, .inl (upd g5 25 0))), (h7, .inl (cI, 26, .inl (upd g6 25 0))), (h8, .inl (cI, 26, .inl (upd g7 25 0))), (h9, .inl (cI, 26, .inl (upd g8 25 0))), (h10, .inl (cI, 16, .inl (upd g9 0 33))), (h11, .inl (cI, 16, .inl (upd g10 0 (-1)))), (h12, .inl (cI, 16, .inl (upd (upd g11 0 1) 0 1))), (h13, .inl (cJ, 16, .inr (.inl (vp_updL (vp_updL g12 0 1) 0 1)))), (h14, .inl (cI, 16, .inl (upd g13 0 (-1))))] 0 0 := by
  intro sz
  refine Met.ofW (cc := cX12_extreme) (maxL := 8) (ret := (some .int)) (by decide) rfl ?_
  intro p e s m args below meth c s₁ B hml hv
  obtain ⟨rfl, hsz, hP, hK, hD0, hN, hX⟩ := hv
  have hx := B.exec
  have hb := B.bytes
  have hr := B.returns
  have hts := atoms_spec (ws := wsX12_extreme) B.pre
  have hown : s.vm.findClass RX12 = some m.cls := findClass_of_methodNamed B.named
  have hlocks := B.notSynchronized
  have hin12 : ∀ w ∈ wsX120, w ∈ wsX12_extreme := (fun w h => (List.mem_cons_of_mem _ (List.mem_append_right _ h)))
  subst hsz
  have hD := hD0.self (sz := s.heap.size)
  have hAE := k_AE hD0 hX
  generalize hAe : va_A [(h0, .inr (12, f0)), (h1, .inl (cI, 2001, .inl g0)), (h2, .inl (cI, 2001, .inl g1)), (h3, .inl (cI, 2001, .inl g2)), (h4, .inl (cI, 2001, .inl g3)), (h5, .inl (cI, 26, .inl g4)), (h6, .inl (cI, 26, .inl g5)), (h7, .inl (cI, 26, .inl g6)), (h8, .inl (cI, 26, .inl g7)), (h9, .inl (cI, 26, .inl g8)), (h10, .inl (cI, 16, .inl g9)), (h11, .inl (cI, 16, .inl g10)), (h12, .inl (cI, 16, .inl g11)), (h13, .inl (cJ, 16, .inr (.inl g12))), (h14, .inl (cI, 16, .inl g13))] s.heap.size = A at hD hAE ⊢
  have hA : ∀ q : Nat, s.heap.size ≤ q → A q := fun q h => by rw [← hAe]; exact Or.inr h
  have hS : va_S A s.heap s.heap [] := va_S.rf
  have hP : va_P D vwCl [(h0, .inr (12, f0)), (h1, .inl (cI, 2001, .inl g0)), (h2, .inl (cI, 2001, .inl g1)), (h3, .inl (cI, 2001, .inl g2)), (h4, .inl (cI, 2001, .inl g3)), (h5, .inl (cI, 26, .inl g4)), (h6, .inl (cI, 26, .inl g5)), (h7, .inl (cI, 26, .inl g6)), (h8, .inl (cI, 26, .inl g7)), (h9, .inl (cI, 26, .inl g8)), (h10, .inl (cI, 16, .inl g9)), (h11, .inl (cI, 16, .inl g10)), (h12, .inl (cI, 16, .inl g11)), (h13, .inl (cJ, 16, .inr (.inl g12))), (h14, .inl (cI, 16, .inl g13))] s.heap := hP
  have hl := lv_entry ([.ref h0, .int 1] : List Value) (n := 8) (Nat.le_of_ble_eq_true rfl)
  rw [lg_entry_eq]
  generalize (lg_sl ([.ref h0, .int 1]) ++ List.replicate (8 - (lg_sl ([.ref h0, .int 1])).length) Slot.unset).toArray = ls at hl ⊢
  have hl : lv_has ls 8 [(0, .ref h0), (1, .int 1)] := hl
  refine lv_aload_n hx hb dX12_extreme_0 rfl (lv_at hl 0 rfl) ?_
  refine k_cVi (As := []) (rest := []) (wc := [(h0, .inr (12, f0))]) (wr := [(h1, .inl (cI, 2001, .inl g0)), (h2, .inl (cI, 2001, .inl g1)), (h3, .inl (cI, 2001, .inl g2)), (h4, .inl (cI, 2001, .inl g3)), (h5, .inl (cI, 26, .inl g4)), (h6, .inl (cI, 26, .inl g5)), (h7, .inl (cI, 26, .inl g6)), (h8, .inl (cI, 26, .inl g7)), (h9, .inl (cI, 26, .inl g8)), (h10, .inl (cI, 16, .inl g9)), (h11, .inl (cI, 16, .inl g10)), (h12, .inl (cI, 16, .inl g11)), (h13, .inl (cJ, 16, .inr (.inl g12))), (h14, .inl (cI, 16, .inl g13))]) (w1 := [(h0, .inr (12, (f0.set 0 (.int 0))))]) ⟨hx, hb, hml, hown, hts⟩ hN hX hAE hK hP hD hS hA [0] [1, 2, 3, 4, 5, 6, 7, 8, 9, 10, 11, 12, 13, 14] (ci := 12) rfl rfl rfl rfl (by decide +kernel) (by decide +kernel) (by decide +kernel) (c_X12_asks_0 l E D cI cJ cB cZ h0 f0 e0 e1) (cwV 0 hts gX12_extreme_X12_asks rfl rfl rfl (by decide +kernel) ⟨Nat.le_of_ble_eq_true rfl, Nat.le_of_ble_eq_true rfl⟩) rfl hl.1 (Nat.le_of_ble_eq_true rfl) dX12_extreme_1 ⟨Nat.le_of_ble_eq_true rfl, Nat.le_of_ble_eq_true rfl⟩ (fun H locs hP hD hS => ?_)
  have hP : va_P D vwCl [(h1, .inl (cI, 2001, .inl g0)), (h2, .inl (cI, 2001, .inl g1)), (h3, .inl (cI, 2001, .inl g2)), (h4, .inl (cI, 2001, .inl g3)), (h5, .inl (cI, 26, .inl g4)), (h6, .inl (cI, 26, .inl g5)), (h7, .inl (cI, 26, .inl g6)), (h8, .inl (cI, 26, .inl g7)), (h9, .inl (cI, 26, .inl g8)), (h10, .inl (cI, 16, .inl g9)), (h11, .inl (cI, 16, .inl g10)), (h12, .inl (cI, 16, .inl g11)), (h13, .inl (cJ, 16, .inr (.inl g12))), (h14, .inl (cI, 16, .inl g13)), (h0, .inr (12, (f0.set 0 (.int 0))))] H := hP
  have hD : va_D A [(h1, .inl (cI, 2001, .inl g0)), (h2, .inl (cI, 2001, .inl g1)), (h3, .inl (cI, 2001, .inl g2)), (h4, .inl (cI, 2001, .inl g3)), (h5, .inl (cI, 26, .inl g4)), (h6, .inl (cI, 26, .inl g5)), (h7, .inl (cI, 26, .inl g6)), (h8, .inl (cI, 26, .inl g7)), (h9, .inl (cI, 26, .inl g8)), (h10, .inl (cI, 16, .inl g9)), (h11, .inl (cI, 16, .inl g10)), (h12, .inl (cI, 16, .inl g11)), (h13, .inl (cJ, 16, .inr (.inl g12))), (h14, .inl (cI, 16, .inl g13)), (h0, .inr (12, (f0.set 0 (.int 0))))] := hD
  refine lv_if_ne (tgt := 10) hx hb dX12_extreme_4 (by decide) (fun _ => ?_) (fun c9 => absurd c9 (by decide))
  refine lv_aload_n hx hb dX12_extreme_10 rfl (lv_at hl 0 rfl) ?_
  refine k_cVv (As := []) (rest := []) (wc := [(h0, .inr (12, (f0.set 0 (.int 0)))), (h1, .inl (cI, 2001, .inl g0)), (h2, .inl (cI, 2001, .inl g1)), (h3, .inl (cI, 2001, .inl g2)), (h4, .inl (cI, 2001, .inl g3))]) (wr := [(h5, .inl (cI, 26, .inl g4)), (h6, .inl (cI, 26, .inl g5)), (h7, .inl (cI, 26, .inl g6)), (h8, .inl (cI, 26, .inl g7)), (h9, .inl (cI, 26, .inl g8)), (h10, .inl (cI, 16, .inl g9)), (h11, .inl (cI, 16, .inl g10)), (h12, .inl (cI, 16, .inl g11)), (h13, .inl (cJ, 16, .inr (.inl g12))), (h14, .inl (cI, 16, .inl g13))]) (w1 := (fun _ : Unit => [(h0, .inr (12, ((((((((f0.set 0 (.int 0)).set 12 (.int 0)).set 2 (.int 0)).set 36 (.int 0)).set 37 (.int 0)).set 27 (.int 0)).set 31 (.int 0)).set 28 (.int 0)))), (h1, .inl (cI, 2001, .inl (upd g0 0 0))), (h2, .inl (cI, 2001, .inl (upd g1 0 0))), (h3, .inl (cI, 2001, .inl (upd g2 0 0))), (h4, .inl (cI, 2001, .inl (upd g3 0 0)))])) ⟨hx, hb, hml, hown, hts⟩ hN hX hAE hK hP hD hS hA [14, 0, 1, 2, 3] [4, 5, 6, 7, 8, 9, 10, 11, 12, 13] (ci := 12) rfl rfl rfl rfl (by decide +kernel) (by decide +kernel) (by decide +kernel) (c_X12_begin_0 l E D cI cJ cB cZ h0 ((f0.set 0 (.int 0))) h1 h2 h3 h4 g0 g1 g2 g3 (k_ne (by decide) e2) (k_ne (by decide) e3) (k_ne (by decide) e4) (k_ne (by decide) e5) (k_ne (by decide) e6) (k_ne (by decide) e7) (k_ne (by decide) e8) (k_ne (by decide) e9) (k_ne (by decide) e10) (k_ne (by decide) e11) (k_ne (by decide) e12) (k_ne (by decide) e13) (k_ne (by decide) e14)) (cwV 0 hts gX12_extreme_X12_begin rfl rfl rfl (by decide +kernel) ⟨Nat.le_of_ble_eq_true rfl, Nat.le_of_ble_eq_true rfl⟩) rfl hl.1 (Nat.le_of_ble_eq_true rfl) dX12_extreme_11 ⟨Nat.le_of_ble_eq_true rfl, Nat.le_of_ble_eq_true rfl⟩ (fun _ H locs hP hD hS => ?_)
  have hP : va_P D vwCl [(h5, .inl (cI, 26, .inl g4)), (h6, .inl (cI, 26, .inl g5)), (h7, .inl (cI, 26, .inl g6)), (h8, .inl (cI, 26, .inl g7)), (h9, .inl (cI, 26, .inl g8)), (h10, .inl (cI, 16, .inl g9)), (h11, .inl (cI, 16, .inl g10)), (h12, .inl (cI, 16, .inl g11)), (h13, .inl (cJ, 16, .inr (.inl g12))), (h14, .inl (cI, 16, .inl g13)), (h0, .inr (12, ((((((((f0.set 0 (.int 0)).set 12 (.int 0)).set 2 (.int 0)).set 36 (.int 0)).set 37 (.int 0)).set 27 (.int 0)).set 31 (.int 0)).set 28 (.int 0)))), (h1, .inl (cI, 2001, .inl (upd g0 0 0))), (h2, .inl (cI, 2001, .inl (upd g1 0 0))), (h3, .inl (cI, 2001, .inl (upd g2 0 0))), (h4, .inl (cI, 2001, .inl (upd g3 0 0)))] H := hP
  have hD : va_D A [(h5, .inl (cI, 26, .inl g4)), (h6, .inl (cI, 26, .inl g5)), (h7, .inl (cI, 26, .inl g6)), (h8, .inl (cI, 26, .inl g7)), (h9, .inl (cI, 26, .inl g8)), (h10, .inl (cI, 16, .inl g9)), (h11, .inl (cI, 16, .inl g10)), (h12, .inl (cI, 16, .inl g11)), (h13, .inl (cJ, 16, .inr (.inl g12))), (h14, .inl (cI, 16, .inl g13)), (h0, .inr (12, ((((((((f0.set 0 (.int 0)).set 12 (.int 0)).set 2 (.int 0)).set 36 (.int 0)).set 37 (.int 0)).set 27 (.int 0)).set 31 (.int 0)).set 28 (.int 0)))), (h1, .inl (cI, 2001, .inl (upd g0 0 0))), (h2, .inl (cI, 2001, .inl (upd g1 0 0))), (h3, .inl (cI, 2001, .inl (upd g2 0 0))), (h4, .inl (cI, 2001, .inl (upd g3 0 0)))] := hD
  refine lv_aload_n hx hb dX12_extreme_14 rfl (lv_at hl 0 rfl) ?_
  refine lv_bipush (v := 25) hx hb dX12_extreme_15 (by decide) ?_
  refine k_cVv (As := [.int 25]) (rest := []) (wc := [(h0, .inr (12, ((((((((f0.set 0 (.int 0)).set 12 (.int 0)).set 2 (.int 0)).set 36 (.int 0)).set 37 (.int 0)).set 27 (.int 0)).set 31 (.int 0)).set 28 (.int 0)))), (h5, .inl (cI, 26, .inl g4)), (h6, .inl (cI, 26, .inl g5)), (h7, .inl (cI, 26, .inl g6)), (h8, .inl (cI, 26, .inl g7)), (h9, .inl (cI, 26, .inl g8))]) (wr := [(h10, .inl (cI, 16, .inl g9)), (h11, .inl (cI, 16, .inl g10)), (h12, .inl (cI, 16, .inl g11)), (h13, .inl (cJ, 16, .inr (.inl g12))), (h14, .inl (cI, 16, .inl g13)), (h1, .inl (cI, 2001, .inl (upd g0 0 0))), (h2, .inl (cI, 2001, .inl (upd g1 0 0))), (h3, .inl (cI, 2001, .inl (upd g2 0 0))), (h4, .inl (cI, 2001, .inl (upd g3 0 0)))]) (w1 := (fun _ : Unit => [(h0, .inr (12, ((((((((((f0.set 0 (.int 0)).set 12 (.int 0)).set 2 (.int 0)).set 36 (.int 0)).set 37 (.int 0)).set 27 (.int 0)).set 31 (.int 0)).set 28 (.int 0)).set 66 (.int 25)).set 67 (.int 0)))), (h5, .inl (cI, 26, .inl (upd g4 25 0))), (h6, .inl (cI, 26, .inl (upd g5 25 0))), (h7, .inl (cI, 26, .inl (upd g6 25 0))), (h8, .inl (cI, 26, .inl (upd g7 25 0))), (h9, .inl (cI, 26, .inl (upd g8 25 0)))])) ⟨hx, hb, hml, hown, hts⟩ hN hX hAE hK hP hD hS hA [10, 0, 1, 2, 3, 4] [5, 6, 7, 8, 9, 11, 12, 13, 14] (ci := 12) rfl rfl rfl rfl (by decide +kernel) (by decide +kernel) (by decide +kernel) (c_X12_beginSlot_1 l E D cI cJ cB cZ h0 (((((((((f0.set 0 (.int 0)).set 12 (.int 0)).set 2 (.int 0)).set 36 (.int 0)).set 37 (.int 0)).set 27 (.int 0)).set 31 (.int 0)).set 28 (.int 0))) h5 g4 h6 g5 h7 g6 h8 g7 h9 g8 (k_ne (by decide) (k_ne (by decide) (k_ne (by decide) (k_ne (by decide) (k_ne (by decide) (k_ne (by decide) (k_ne (by decide) (k_ne (by decide) e15)))))))) (k_ne (by decide) (k_ne (by decide) (k_ne (by decide) (k_ne (by decide) (k_ne (by decide) (k_ne (by decide) (k_ne (by decide) (k_ne (by decide) e16)))))))) (k_ne (by decide) (k_ne (by decide) (k_ne (by decide) (k_ne (by decide) (k_ne (by decide) (k_ne (by decide) (k_ne (by decide) (k_ne (by decide) e17)))))))) (k_ne (by decide) (k_ne (by decide) (k_ne (by decide) (k_ne (by decide) (k_ne (by decide) (k_ne (by decide) (k_ne (by decide) (k_ne (by decide) e18)))))))) (k_ne (by decide) (k_ne (by decide) (k_ne (by decide) (k_ne (by decide) (k_ne (by decide) (k_ne (by decide) (k_ne (by decide) (k_ne (by decide) e19)))))))) (k_ne (by decide) (k_ne (by decide) (k_ne (by decide) (k_ne (by decide) (k_ne (by decide) (k_ne (by decide) (k_ne (by decide) (k_ne (by decide) e20)))))))) (k_ne (by decide) (k_ne (by decide) (k_ne (by decide) (k_ne (by decide) (k_ne (by decide) (k_ne (by decide) (k_ne (by decide) (k_ne (by decide) e21))))))))) (cwV 1 hts gX12_extreme_X12_beginSlot rfl rfl rfl (by decide +kernel) ⟨Nat.le_of_ble_eq_true rfl, Nat.le_of_ble_eq_true rfl⟩) rfl hl.1 (Nat.le_of_ble_eq_true rfl) dX12_extreme_17 ⟨Nat.le_of_ble_eq_true rfl, Nat.le_of_ble_eq_true rfl⟩ (fun _ H locs hP hD hS => ?_)
  have hP : va_P D vwCl [(h10, .inl (cI, 16, .inl g9)), (h11, .inl (cI, 16, .inl g10)), (h12, .inl (cI, 16, .inl g11)), (h13, .inl (cJ, 16, .inr (.inl g12))), (h14, .inl (cI, 16, .inl g13)), (h1, .inl (cI, 2001, .inl (upd g0 0 0))), (h2, .inl (cI, 2001, .inl (upd g1 0 0))), (h3, .inl (cI, 2001, .inl (upd g2 0 0))), (h4, .inl (cI, 2001, .inl (upd g3 0 0))), (h0, .inr (12, ((((((((((f0.set 0 (.int 0)).set 12 (.int 0)).set 2 (.int 0)).set 36 (.int 0)).set 37 (.int 0)).set 27 (.int 0)).set 31 (.int 0)).set 28 (.int 0)).set 66 (.int 25)).set 67 (.int 0)))), (h5, .inl (cI, 26, .inl (upd g4 25 0))), (h6, .inl (cI, 26, .inl (upd g5 25 0))), (h7, .inl (cI, 26, .inl (upd g6 25 0))), (h8, .inl (cI, 26, .inl (upd g7 25 0))), (h9, .inl (cI, 26, .inl (upd g8 25 0)))] H := hP
  have hD : va_D A [(h10, .inl (cI, 16, .inl g9)), (h11, .inl (cI, 16, .inl g10)), (h12, .inl (cI, 16, .inl g11)), (h13, .inl (cJ, 16, .inr (.inl g12))), (h14, .inl (cI, 16, .inl g13)), (h1, .inl (cI, 2001, .inl (upd g0 0 0))), (h2, .inl (cI, 2001, .inl (upd g1 0 0))), (h3, .inl (cI, 2001, .inl (upd g2 0 0))), (h4, .inl (cI, 2001, .inl (upd g3 0 0))), (h0, .inr (12, ((((((((((f0.set 0 (.int 0)).set 12 (.int 0)).set 2 (.int 0)).set 36 (.int 0)).set 37 (.int 0)).set 27 (.int 0)).set 31 (.int 0)).set 28 (.int 0)).set 66 (.int 25)).set 67 (.int 0)))), (h5, .inl (cI, 26, .inl (upd g4 25 0))), (h6, .inl (cI, 26, .inl (upd g5 25 0))), (h7, .inl (cI, 26, .inl (upd g6 25 0))), (h8, .inl (cI, 26, .inl (upd g7 25 0))), (h9, .inl (cI, 26, .inl (upd g8 25 0)))] := hD
  refine lv_aload_n hx hb dX12_extreme_20 rfl (lv_at hl 0 rfl) ?_
  refine k_cVi (As := []) (rest := []) (wc := [(h0, .inr (12, ((((((((((f0.set 0 (.int 0)).set 12 (.int 0)).set 2 (.int 0)).set 36 (.int 0)).set 37 (.int 0)).set 27 (.int 0)).set 31 (.int 0)).set 28 (.int 0)).set 66 (.int 25)).set 67 (.int 0)))), (h10, .inl (cI, 16, .inl g9)), (h11, .inl (cI, 16, .inl g10)), (h12, .inl (cI, 16, .inl g11)), (h13, .inl (cJ, 16, .inr (.inl g12))), (h14, .inl (cI, 16, .inl g13)), (h3, .inl (cI, 2001, .inl (upd g2 0 0))), (h1, .inl (cI, 2001, .inl (upd g0 0 0)))]) (wr := [(h2, .inl (cI, 2001, .inl (upd g1 0 0))), (h4, .inl (cI, 2001, .inl (upd g3 0 0))), (h5, .inl (cI, 26, .inl (upd g4 25 0))), (h6, .inl (cI, 26, .inl (upd g5 25 0))), (h7, .inl (cI, 26, .inl (upd g6 25 0))), (h8, .inl (cI, 26, .inl (upd g7 25 0))), (h9, .inl (cI, 26, .inl (upd g8 25 0)))]) (w1 := [(h0, .inr (12, (((((((((((((((((((f0.set 0 (.int 0)).set 12 (.int 0)).set 2 (.int 0)).set 36 (.int 0)).set 37 (.int 0)).set 27 (.int 0)).set 31 (.int 0)).set 28 (.int 0)).set 66 (.int 25)).set 67 (.int 0)).set 76 (.int (-1))).set 83 (.int (-1))).set 83 (.int 0)).set 84 (.int 3)).set 84 (.int 4)).set 84 (.int 5)).set 31 (.int 1)).set 29 (.int 2)).set 30 (.int 0)))), (h10, .inl (cI, 16, .inl (upd g9 0 33))), (h11, .inl (cI, 16, .inl (upd g10 0 (-1)))), (h12, .inl (cI, 16, .inl (upd (upd g11 0 1) 0 1))), (h13, .inl (cJ, 16, .inr (.inl (vp_updL (vp_updL g12 0 1) 0 1)))), (h14, .inl (cI, 16, .inl (upd g13 0 (-1)))), (h3, .inl (cI, 2001, .inl (upd g2 0 0))), (h1, .inl (cI, 2001, .inl (upd g0 0 0)))]) ⟨hx, hb, hml, hown, hts⟩ hN hX hAE hK hP hD hS hA [9, 0, 1, 2, 3, 4, 7, 5] [6, 8, 10, 11, 12, 13, 14] (ci := 12) rfl rfl rfl rfl (by decide +kernel) (by decide +kernel) (by decide +kernel) (c_X12_readTerm_0 l E D cI cJ cB cZ h0 (((((((((((f0.set 0 (.int 0)).set 12 (.int 0)).set 2 (.int 0)).set 36 (.int 0)).set 37 (.int 0)).set 27 (.int 0)).set 31 (.int 0)).set 28 (.int 0)).set 66 (.int 25)).set 67 (.int 0))) h10 h11 h12 h13 h14 g9 g10 g11 g12 g13 h3 ((upd g2 0 0)) h1 ((upd g0 0 0)) (k_ne (by decide) (k_ne (by decide) (k_ne (by decide) (k_ne (by decide) (k_ne (by decide) (k_ne (by decide) (k_ne (by decide) (k_ne (by decide) (k_ne (by decide) (k_ne (by decide) e22)))))))))) (k_ne (by decide) (k_ne (by decide) (k_ne (by decide) (k_ne (by decide) (k_ne (by decide) (k_ne (by decide) (k_ne (by decide) (k_ne (by decide) (k_ne (by decide) (k_ne (by decide) e23)))))))))) (k_ne (by decide) (k_ne (by decide) (k_ne (by decide) (k_ne (by decide) (k_ne (by decide) (k_ne (by decide) (k_ne (by decide) (k_ne (by decide) (k_ne (by decide) (k_ne (by decide) e24)))))))))) (k_ne (by decide) (k_ne (by decide) (k_ne (by decide) (k_ne (by decide) (k_ne (by decide) (k_ne (by decide) (k_ne (by decide) (k_ne (by decide) (k_ne (by decide) (k_ne (by decide) e25)))))))))) (k_ne (by decide) (k_ne (by decide) (k_ne (by decide) (k_ne (by decide) (k_ne (by decide) (k_ne (by decide) (k_ne (by decide) (k_ne (by decide) (k_ne (by decide) (k_ne (by decide) e26)))))))))) (k_ne (by decide) (k_ne (by decide) (k_ne (by decide) (k_ne (by decide) (k_ne (by decide) (k_ne (by decide) (k_ne (by decide) (k_ne (by decide) (k_ne (by decide) (k_ne (by decide) e27)))))))))) (k_ne (by decide) (k_ne (by decide) (k_ne (by decide) (k_ne (by decide) (k_ne (by decide) (k_ne (by decide) (k_ne (by decide) (k_ne (by decide) (k_ne (by decide) (k_ne (by decide) e28)))))))))) (k_ne (by decide) (k_ne (by decide) (k_ne (by decide) (k_ne (by decide) (k_ne (by decide) (k_ne (by decide) (k_ne (by decide) (k_ne (by decide) (k_ne (by decide) (k_ne (by decide) e29)))))))))) (k_ne (by decide) (k_ne (by decide) (k_ne (by decide) (k_set (k_ne (by decide) (k_ne (by decide) (k_ne (by decide) (k_ne (by decide) (k_ne (by decide) (k_ne (by decide) e9)))))))))) (k_ne (by decide) (k_ne (by decide) (k_ne (by decide) (k_ne (by decide) (k_ne (by decide) (k_ne (by decide) (k_ne (by decide) (k_ne (by decide) (k_ne (by decide) (k_ne (by decide) e13)))))))))) (k_ne (by decide) (k_ne (by decide) (k_set (k_ne (by decide) (k_ne (by decide) (k_ne (by decide) (k_ne (by decide) (k_ne (by decide) (k_ne (by decide) (k_ne (by decide) e10)))))))))) rfl (k_ne (by decide) (k_set (k_ne (by decide) (k_ne (by decide) (k_ne (by decide) (k_ne (by decide) (k_ne (by decide) (k_ne (by decide) (k_ne (by decide) (k_ne (by decide) e15)))))))))) (k_ne (by decide) (k_ne (by decide) (k_ne (by decide) (k_ne (by decide) (k_ne (by decide) (k_ne (by decide) (k_ne (by decide) (k_ne (by decide) (k_ne (by decide) (k_ne (by decide) e30)))))))))) (k_ne (by decide) (k_ne (by decide) (k_ne (by decide) (k_ne (by decide) (k_ne (by decide) (k_ne (by decide) (k_ne (by decide) (k_ne (by decide) (k_ne (by decide) (k_ne (by decide) e11)))))))))) rfl (k_ne (by decide) (k_ne (by decide) (k_ne (by decide) (k_ne (by decide) (k_ne (by decide) (k_ne (by decide) (k_ne (by decide) (k_ne (by decide) (k_ne (by decide) (k_ne (by decide) e31)))))))))) (k_ne (by decide) (k_ne (by decide) (k_ne (by decide) (k_ne (by decide) (k_ne (by decide) (k_ne (by decide) (k_ne (by decide) (k_ne (by decide) (k_ne (by decide) (k_ne (by decide) e32))))))))))) (cwV 0 hts gX12_extreme_X12_readTerm rfl rfl rfl (by decide +kernel) ⟨Nat.le_of_ble_eq_true rfl, Nat.le_of_ble_eq_true rfl⟩) rfl hl.1 (Nat.le_of_ble_eq_true rfl) dX12_extreme_21 ⟨Nat.le_of_ble_eq_true rfl, Nat.le_of_ble_eq_true rfl⟩ (fun H locs hP hD hS => ?_)
  have hP : va_P D vwCl [(h2, .inl (cI, 2001, .inl (upd g1 0 0))), (h4, .inl (cI, 2001, .inl (upd g3 0 0))), (h5, .inl (cI, 26, .inl (upd g4 25 0))), (h6, .inl (cI, 26, .inl (upd g5 25 0))), (h7, .inl (cI, 26, .inl (upd g6 25 0))), (h8, .inl (cI, 26, .inl (upd g7 25 0))), (h9, .inl (cI, 26, .inl (upd g8 25 0))), (h0, .inr (12, (((((((((((((((((((f0.set 0 (.int 0)).set 12 (.int 0)).set 2 (.int 0)).set 36 (.int 0)).set 37 (.int 0)).set 27 (.int 0)).set 31 (.int 0)).set 28 (.int 0)).set 66 (.int 25)).set 67 (.int 0)).set 76 (.int (-1))).set 83 (.int (-1))).set 83 (.int 0)).set 84 (.int 3)).set 84 (.int 4)).set 84 (.int 5)).set 31 (.int 1)).set 29 (.int 2)).set 30 (.int 0)))), (h10, .inl (cI, 16, .inl (upd g9 0 33))), (h11, .inl (cI, 16, .inl (upd g10 0 (-1)))), (h12, .inl (cI, 16, .inl (upd (upd g11 0 1) 0 1))), (h13, .inl (cJ, 16, .inr (.inl (vp_updL (vp_updL g12 0 1) 0 1)))), (h14, .inl (cI, 16, .inl (upd g13 0 (-1)))), (h3, .inl (cI, 2001, .inl (upd g2 0 0))), (h1, .inl (cI, 2001, .inl (upd g0 0 0)))] H := hP
  have hD : va_D A [(h2, .inl (cI, 2001, .inl (upd g1 0 0))), (h4, .inl (cI, 2001, .inl (upd g3 0 0))), (h5, .inl (cI, 26, .inl (upd g4 25 0))), (h6, .inl (cI, 26, .inl (upd g5 25 0))), (h7, .inl (cI, 26, .inl (upd g6 25 0))), (h8, .inl (cI, 26, .inl (upd g7 25 0))), (h9, .inl (cI, 26, .inl (upd g8 25 0))), (h0, .inr (12, (((((((((((((((((((f0.set 0 (.int 0)).set 12 (.int 0)).set 2 (.int 0)).set 36 (.int 0)).set 37 (.int 0)).set 27 (.int 0)).set 31 (.int 0)).set 28 (.int 0)).set 66 (.int 25)).set 67 (.int 0)).set 76 (.int (-1))).set 83 (.int (-1))).set 83 (.int 0)).set 84 (.int 3)).set 84 (.int 4)).set 84 (.int 5)).set 31 (.int 1)).set 29 (.int 2)).set 30 (.int 0)))), (h10, .inl (cI, 16, .inl (upd g9 0 33))), (h11, .inl (cI, 16, .inl (upd g10 0 (-1)))), (h12, .inl (cI, 16, .inl (upd (upd g11 0 1) 0 1))), (h13, .inl (cJ, 16, .inr (.inl (vp_updL (vp_updL g12 0 1) 0 1)))), (h14, .inl (cI, 16, .inl (upd g13 0 (-1)))), (h3, .inl (cI, 2001, .inl (upd g2 0 0))), (h1, .inl (cI, 2001, .inl (upd g0 0 0)))] := hD
  refine lv_istore_n (lv' := [(2, .int 0), (0, .ref h0), (1, .int 1)]) hx hb dX12_extreme_24 rfl hl (by decide) rfl (fun ls hl => ?_)
  refine lv_aload_n hx hb dX12_extreme_25 rfl (lv_at hl 1 rfl) ?_
  refine va_get (D := D) (ref := "IntegerHouseModel") (ci := 12) (v := .int 1) (C := RX12) (T := TX12) (N := 195) hx hb hts hin12 hown hK hP 7 rfl rfl 31 (by decide) (hts (.fieldLink RX12 562 "IntegerHouseModel" "faulty" "Z") (List.mem_cons_of_mem _ (List.mem_append_left _ (List.mem_append_left _ (List.mem_of_getElem? (i := 0) rfl))))) (fun _ h9 => h9) (k_ne (by decide) (k_ne (by decide) (k_set (k_ne (by decide) (k_ne (by decide) (k_ne (by decide) (k_ne (by decide) (k_ne (by decide) (k_ne (by decide) (k_ne (by decide) (k_ne (by decide) (k_ne (by decide) (k_set (k_ne (by decide) (k_ne (by decide) (k_ne (by decide) (k_ne (by decide) (k_ne (by decide) (k_ne (by decide) e9))))))))))))))))))) dX12_extreme_26 ?_
  refine lv_if_ne (tgt := 45) hx hb dX12_extreme_29 (by decide) (fun _ => ?_) (fun c9 => absurd c9 (by decide))
  refine lv_iconst (v := 0) hx hb dX12_extreme_45 (by decide) ?_
  refine lv_istore_n (lv' := [(3, .int 0), (2, .int 0), (0, .ref h0), (1, .int 1)]) hx hb dX12_extreme_46 rfl hl (by decide) rfl (fun ls hl => ?_)
  refine lv_iconst (v := 0) hx hb dX12_extreme_47 (by decide) ?_
  refine lv_istore (lv' := [(4, .int 0), (3, .int 0), (2, .int 0), (0, .ref h0), (1, .int 1)]) hx hb dX12_extreme_48 hl (by decide) rfl (fun ls hl => ?_)
  refine lv_iload_n hx hb dX12_extreme_50 rfl (lv_at hl 1 rfl) ?_
  refine lv_if_eq (tgt := 79) hx hb dX12_extreme_51 (by decide) (fun _ => ?_) (fun c9 => absurd (by decide) c9)
  refine lv_aload_n hx hb dX12_extreme_79 rfl (lv_at hl 3 rfl) ?_
  refine va_get (D := D) (ref := "IntegerHouseModel") (ci := 12) (v := .int 1) (C := RX12) (T := TX12) (N := 195) hx hb hts hin12 hown hK hP 7 rfl rfl 31 (by decide) (hts (.fieldLink RX12 562 "IntegerHouseModel" "faulty" "Z") (List.mem_cons_of_mem _ (List.mem_append_left _ (List.mem_append_left _ (List.mem_of_getElem? (i := 0) rfl))))) (fun _ h9 => h9) (k_ne (by decide) (k_ne (by decide) (k_set (k_ne (by decide) (k_ne (by decide) (k_ne (by decide) (k_ne (by decide) (k_ne (by decide) (k_ne (by decide) (k_ne (by decide) (k_ne (by decide) (k_ne (by decide) (k_set (k_ne (by decide) (k_ne (by decide) (k_ne (by decide) (k_ne (by decide) (k_ne (by decide) (k_ne (by decide) e9))))))))))))))))))) dX12_extreme_80 ?_
  refine lv_if_ne (tgt := 102) hx hb dX12_extreme_83 (by decide) (fun _ => ?_) (fun c9 => absurd c9 (by decide))
  refine lv_aload_n hx hb dX12_extreme_102 rfl (lv_at hl 3 rfl) ?_
  refine va_get (D := D) (ref := "IntegerHouseModel") (ci := 12) (v := .int 1) (C := RX12) (T := TX12) (N := 195) hx hb hts hin12 hown hK hP 7 rfl rfl 31 (by decide) (hts (.fieldLink RX12 562 "IntegerHouseModel" "faulty" "Z") (List.mem_cons_of_mem _ (List.mem_append_left _ (List.mem_append_left _ (List.mem_of_getElem? (i := 0) rfl))))) (fun _ h9 => h9) (k_ne (by decide) (k_ne (by decide) (k_set (k_ne (by decide) (k_ne (by decide) (k_ne (by decide) (k_ne (by decide) (k_ne (by decide) (k_ne (by decide) (k_ne (by decide) (k_ne (by decide) (k_ne (by decide) (k_set (k_ne (by decide) (k_ne (by decide) (k_ne (by decide) (k_ne (by decide) (k_ne (by decide) (k_ne (by decide) e9))))))))))))))))))) dX12_extreme_103 ?_
  refine lv_if_ne (tgt := 123) hx hb dX12_extreme_106 (by decide) (fun _ => ?_) (fun c9 => absurd c9 (by decide))
  refine lv_aload_n hx hb dX12_extreme_123 rfl (lv_at hl 3 rfl) ?_
  refine k_cVi (As := []) (rest := []) (wc := [(h0, .inr (12, (((((((((((((((((((f0.set 0 (.int 0)).set 12 (.int 0)).set 2 (.int 0)).set 36 (.int 0)).set 37 (.int 0)).set 27 (.int 0)).set 31 (.int 0)).set 28 (.int 0)).set 66 (.int 25)).set 67 (.int 0)).set 76 (.int (-1))).set 83 (.int (-1))).set 83 (.int 0)).set 84 (.int 3)).set 84 (.int 4)).set 84 (.int 5)).set 31 (.int 1)).set 29 (.int 2)).set 30 (.int 0))))]) (wr := [(h2, .inl (cI, 2001, .inl (upd g1 0 0))), (h4, .inl (cI, 2001, .inl (upd g3 0 0))), (h5, .inl (cI, 26, .inl (upd g4 25 0))), (h6, .inl (cI, 26, .inl (upd g5 25 0))), (h7, .inl (cI, 26, .inl (upd g6 25 0))), (h8, .inl (cI, 26, .inl (upd g7 25 0))), (h9, .inl (cI, 26, .inl (upd g8 25 0))), (h10, .inl (cI, 16, .inl (upd g9 0 33))), (h11, .inl (cI, 16, .inl (upd g10 0 (-1)))), (h12, .inl (cI, 16, .inl (upd (upd g11 0 1) 0 1))), (h13, .inl (cJ, 16, .inr (.inl (vp_updL (vp_updL g12 0 1) 0 1)))), (h14, .inl (cI, 16, .inl (upd g13 0 (-1)))), (h3, .inl (cI, 2001, .inl (upd g2 0 0))), (h1, .inl (cI, 2001, .inl (upd g0 0 0)))]) (w1 := [(h0, .inr (12, ((((((((((((((((((((f0.set 0 (.int 0)).set 12 (.int 0)).set 2 (.int 0)).set 36 (.int 0)).set 37 (.int 0)).set 27 (.int 0)).set 31 (.int 0)).set 28 (.int 0)).set 66 (.int 25)).set 67 (.int 0)).set 76 (.int (-1))).set 83 (.int (-1))).set 83 (.int 0)).set 84 (.int 3)).set 84 (.int 4)).set 84 (.int 5)).set 31 (.int 1)).set 29 (.int 2)).set 30 (.int 0)).set 109 (.int 2))))]) ⟨hx, hb, hml, hown, hts⟩ hN hX hAE hK hP hD hS hA [7] [0, 1, 2, 3, 4, 5, 6, 8, 9, 10, 11, 12, 13, 14] (ci := 12) rfl rfl rfl rfl (by decide +kernel) (by decide +kernel) (by decide +kernel) (c_X12_told_0 l E D cI cJ cB cZ h0 ((((((((((((((((((((f0.set 0 (.int 0)).set 12 (.int 0)).set 2 (.int 0)).set 36 (.int 0)).set 37 (.int 0)).set 27 (.int 0)).set 31 (.int 0)).set 28 (.int 0)).set 66 (.int 25)).set 67 (.int 0)).set 76 (.int (-1))).set 83 (.int (-1))).set 83 (.int 0)).set 84 (.int 3)).set 84 (.int 4)).set 84 (.int 5)).set 31 (.int 1)).set 29 (.int 2)).set 30 (.int 0))) (k_ne (by decide) (k_ne (by decide) (k_ne (by decide) (k_ne (by decide) (k_ne (by decide) (k_ne (by decide) (k_ne (by decide) (k_ne (by decide) (k_ne (by decide) (k_ne (by decide) (k_ne (by decide) (k_ne (by decide) (k_ne (by decide) (k_ne (by decide) (k_ne (by decide) (k_ne (by decide) (k_ne (by decide) (k_ne (by decide) (k_ne (by decide) e33))))))))))))))))))) (k_ne (by decide) (k_set (k_ne (by decide) (k_ne (by decide) (k_ne (by decide) (k_ne (by decide) (k_ne (by decide) (k_ne (by decide) (k_ne (by decide) (k_ne (by decide) (k_ne (by decide) (k_ne (by decide) (k_ne (by decide) (k_ne (by decide) (k_ne (by decide) (k_ne (by decide) (k_ne (by decide) (k_ne (by decide) (k_ne (by decide) e30))))))))))))))))))) (k_ne (by decide) (k_ne (by decide) (k_ne (by decide) (k_ne (by decide) (k_ne (by decide) (k_ne (by decide) (k_ne (by decide) (k_ne (by decide) (k_ne (by decide) (k_ne (by decide) (k_ne (by decide) (k_ne (by decide) (k_ne (by decide) (k_ne (by decide) (k_ne (by decide) (k_ne (by decide) (k_ne (by decide) (k_ne (by decide) (k_ne (by decide) e34))))))))))))))))))) (k_set (k_ne (by decide) (k_ne (by decide) (k_ne (by decide) (k_ne (by decide) (k_ne (by decide) (k_ne (by decide) (k_ne (by decide) (k_ne (by decide) (k_ne (by decide) (k_ne (by decide) (k_ne (by decide) (k_ne (by decide) (k_ne (by decide) (k_ne (by decide) (k_ne (by decide) (k_ne (by decide) (k_ne (by decide) (k_ne (by decide) e31)))))))))))))))))))) (cwV 0 hts gX12_extreme_X12_told rfl rfl rfl (by decide +kernel) ⟨Nat.le_of_ble_eq_true rfl, Nat.le_of_ble_eq_true rfl⟩) rfl hl.1 (Nat.le_of_ble_eq_true rfl) dX12_extreme_124 ⟨Nat.le_of_ble_eq_true rfl, Nat.le_of_ble_eq_true rfl⟩ (fun H locs hP hD hS => ?_)
  have hP : va_P D vwCl [(h2, .inl (cI, 2001, .inl (upd g1 0 0))), (h4, .inl (cI, 2001, .inl (upd g3 0 0))), (h5, .inl (cI, 26, .inl (upd g4 25 0))), (h6, .inl (cI, 26, .inl (upd g5 25 0))), (h7, .inl (cI, 26, .inl (upd g6 25 0))), (h8, .inl (cI, 26, .inl (upd g7 25 0))), (h9, .inl (cI, 26, .inl (upd g8 25 0))), (h10, .inl (cI, 16, .inl (upd g9 0 33))), (h11, .inl (cI, 16, .inl (upd g10 0 (-1)))), (h12, .inl (cI, 16, .inl (upd (upd g11 0 1) 0 1))), (h13, .inl (cJ, 16, .inr (.inl (vp_updL (vp_updL g12 0 1) 0 1)))), (h14, .inl (cI, 16, .inl (upd g13 0 (-1)))), (h3, .inl (cI, 2001, .inl (upd g2 0 0))), (h1, .inl (cI, 2001, .inl (upd g0 0 0))), (h0, .inr (12, ((((((((((((((((((((f0.set 0 (.int 0)).set 12 (.int 0)).set 2 (.int 0)).set 36 (.int 0)).set 37 (.int 0)).set 27 (.int 0)).set 31 (.int 0)).set 28 (.int 0)).set 66 (.int 25)).set 67 (.int 0)).set 76 (.int (-1))).set 83 (.int (-1))).set 83 (.int 0)).set 84 (.int 3)).set 84 (.int 4)).set 84 (.int 5)).set 31 (.int 1)).set 29 (.int 2)).set 30 (.int 0)).set 109 (.int 2))))] H := hP
  have hD : va_D A [(h2, .inl (cI, 2001, .inl (upd g1 0 0))), (h4, .inl (cI, 2001, .inl (upd g3 0 0))), (h5, .inl (cI, 26, .inl (upd g4 25 0))), (h6, .inl (cI, 26, .inl (upd g5 25 0))), (h7, .inl (cI, 26, .inl (upd g6 25 0))), (h8, .inl (cI, 26, .inl (upd g7 25 0))), (h9, .inl (cI, 26, .inl (upd g8 25 0))), (h10, .inl (cI, 16, .inl (upd g9 0 33))), (h11, .inl (cI, 16, .inl (upd g10 0 (-1)))), (h12, .inl (cI, 16, .inl (upd (upd g11 0 1) 0 1))), (h13, .inl (cJ, 16, .inr (.inl (vp_updL (vp_updL g12 0 1) 0 1)))), (h14, .inl (cI, 16, .inl (upd g13 0 (-1)))), (h3, .inl (cI, 2001, .inl (upd g2 0 0))), (h1, .inl (cI, 2001, .inl (upd g0 0 0))), (h0, .inr (12, ((((((((((((((((((((f0.set 0 (.int 0)).set 12 (.int 0)).set 2 (.int 0)).set 36 (.int 0)).set 37 (.int 0)).set 27 (.int 0)).set 31 (.int 0)).set 28 (.int 0)).set 66 (.int 25)).set 67 (.int 0)).set 76 (.int (-1))).set 83 (.int (-1))).set 83 (.int 0)).set 84 (.int 3)).set 84 (.int 4)).set 84 (.int 5)).set 31 (.int 1)).set 29 (.int 2)).set 30 (.int 0)).set 109 (.int 2))))] := hD
  have hP := hP.sub (ws' := [(h0, .inr (12, ((((((((((((((((((((f0.set 0 (.int 0)).set 12 (.int 0)).set 2 (.int 0)).set 36 (.int 0)).set 37 (.int 0)).set 27 (.int 0)).set 31 (.int 0)).set 28 (.int 0)).set 66 (.int 25)).set 67 (.int 0)).set 76 (.int (-1))).set 83 (.int (-1))).set 83 (.int 0)).set 84 (.int 3)).set 84 (.int 4)).set 84 (.int 5)).set 31 (.int 1)).set 29 (.int 2)).set 30 (.int 0)).set 109 (.int 2)))), (h1, .inl (cI, 2001, .inl (upd g0 0 0))), (h2, .inl (cI, 2001, .inl (upd g1 0 0))), (h3, .inl (cI, 2001, .inl (upd g2 0 0))), (h4, .inl (cI, 2001, .inl (upd g3 0 0))), (h5, .inl (cI, 26, .inl (upd g4 25 0))), (h6, .inl (cI, 26, .inl (upd g5 25 0))), (h7, .inl (cI, 26, .inl (upd g6 25 0))), (h8, .inl (cI, 26, .inl (upd g7 25 0))), (h9, .inl (cI, 26, .inl (upd g8 25 0))), (h10, .inl (cI, 16, .inl (upd g9 0 33))), (h11, .inl (cI, 16, .inl (upd g10 0 (-1)))), (h12, .inl (cI, 16, .inl (upd (upd g11 0 1) 0 1))), (h13, .inl (cJ, 16, .inr (.inl (vp_updL (vp_updL g12 0 1) 0 1)))), (h14, .inl (cI, 16, .inl (upd g13 0 (-1))))]) [14, 13, 0, 12, 1, 2, 3, 4, 5, 6, 7, 8, 9, 10, 11] rfl
  have hD := hD.sub (ws' := [(h0, .inr (12, ((((((((((((((((((((f0.set 0 (.int 0)).set 12 (.int 0)).set 2 (.int 0)).set 36 (.int 0)).set 37 (.int 0)).set 27 (.int 0)).set 31 (.int 0)).set 28 (.int 0)).set 66 (.int 25)).set 67 (.int 0)).set 76 (.int (-1))).set 83 (.int (-1))).set 83 (.int 0)).set 84 (.int 3)).set 84 (.int 4)).set 84 (.int 5)).set 31 (.int 1)).set 29 (.int 2)).set 30 (.int 0)).set 109 (.int 2)))), (h1, .inl (cI, 2001, .inl (upd g0 0 0))), (h2, .inl (cI, 2001, .inl (upd g1 0 0))), (h3, .inl (cI, 2001, .inl (upd g2 0 0))), (h4, .inl (cI, 2001, .inl (upd g3 0 0))), (h5, .inl (cI, 26, .inl (upd g4 25 0))), (h6, .inl (cI, 26, .inl (upd g5 25 0))), (h7, .inl (cI, 26, .inl (upd g6 25 0))), (h8, .inl (cI, 26, .inl (upd g7 25 0))), (h9, .inl (cI, 26, .inl (upd g8 25 0))), (h10, .inl (cI, 16, .inl (upd g9 0 33))), (h11, .inl (cI, 16, .inl (upd g10 0 (-1)))), (h12, .inl (cI, 16, .inl (upd (upd g11 0 1) 0 1))), (h13, .inl (cJ, 16, .inr (.inl (vp_updL (vp_updL g12 0 1) 0 1)))), (h14, .inl (cI, 16, .inl (upd g13 0 (-1))))]) [14, 13, 0, 12, 1, 2, 3, 4, 5, 6, 7, 8, 9, 10, 11] (by decide +kernel) rfl
  exact W.iret (v := (-1000)) hx hb hr (fun t ht hW => ⟨⟨(-1000), (), rfl, rfl, kB_mk ht hW hP hK hD⟩, hS.F ht⟩) hS.2.2 dX12_extreme_127
set_option maxHeartbeats 400000000 in
set_option maxRecDepth 100000 in
theorem c_X11_extreme_1 (l : Launch) (E : kE) (D : va_G) (cI cJ cB cZ : ClassId) (h0 : Nat) (f0 : List Value) (h1 : Nat) (f1 : List Value) (h2 : Nat) (f2 : List Value) (h3 : Nat) (h4 : Nat) (f3 : List Value) (h5 : Nat) (f4 : List Value) (h6 : Nat) (h7 : Nat) (h8 : Nat) (h9 : Nat) (h10 : Nat) (g0 : Nat → Int32) (g1 : Nat → Int32) (g2 : Nat → Int32) (g3 : Nat → Int32) (e0 : f0[1]? = some (.ref h1)) (e1 : f1[8]? = some (.int 0)) (e2 : f0[2]? = some (.ref h2)) (e3 : f2[12]? = some (.int 0)) (e4 : f0[5]? = some (.ref h3)) (e5 : f0[0]? = some (.ref h4)) (e6 : f0[12]? = some (.int 0)) (e7 : f3[0]? = some (.ref h5)) (e8 : f4[6]? = some (.ref h6)) (e9 : f4[7]? = some (.int 0)) (e10 : f4[8]? = some (.int 0)) (e11 : f4[5]? = some (.int 0)) (e12 : f4[1]? = some (.ref h7)) (e13 : f4[2]? = some (.ref h8)) (e14 : f3[3]? = some (.int 0)) (e15 : f3[4]? = some (.int 0)) (e16 : f3[5]? = some (.int 0)) (e17 : f3[6]? = some (.int 0)) (e18 : f3[7]? = some (.int 0)) (e19 : f3[8]? = some (.int 0)) (e20 : f3[11]? = some (.int 0)) (e21 : f3[12]? = some (.int 0)) (e22 : f3[13]? = some (.int 0)) (e23 : f3[14]? = some (.int 0)) (e24 : f3[1]? = some (.ref h2)) (e25 : f2[5]? = some (.ref h9)) (e26 : f2[10]? = some (.int 0)) (e27 : f2[3]? = some (.ref h10)) (e28 : f0[13]? = some (.int 0)) : kI l E D (kT cI cJ cB cZ) yX11_extreme wsX11_extreme ({ frames := 6, cells := 0, slots := 0, locals := 134 }) [.ref h0, .int 0] [(h0, .inr (11, f0)), (h1, .inr (1, f1)), (h2, .inr (2, f2)), (h3, .inr (8, f3)), (h5, .inr (3, f4)), (h7, .inl (cI, 2001, .inl g0)), (h8, .inl (cI, 2001, .inl g1)), (h9, .inl (cI, 260, .inl g2)), (h10, .inl (cI, 13312, .inl g3))] ((-1000)) [(h0, .inr (11, ((f0.set 12 (.int 0)).set 13 (.int 2)))), (h1, .inr (1, f1)), (h2, .inr (2, (f2.set 12 (.int 0)))), (h3, .inr (8, ((((((((((((((((((f3.set 3 (.int 0)).set 4 (.int 0)).set 5 (.int 0)).set 6 (.int (-1))).set 6 (.int 0)).set 7 (.int 0)).set 8 (.int 0)).set 11 (.int 25)).set 12 (.int 0)).set 13 (.int 0)).set 14 (.int 0)).set 3 (.int 2)).set 4 (.int 0)).set 7 (.int 44)).set 13 (.int 1)).set 13 (.int 2)).set 5 (.int 0)).set 7 (.int 44)))), (h5, .inr (3, ((((f4.set 6 (.ref h4)).set 7 (.int 0)).set 8 (.int 0)).set 5 (.int 0)))), (h7, .inl (cI, 2001, .inl (upd g0 0 0))), (h8, .inl (cI, 2001, .inl (upd g1 0 0))), (h9, .inl (cI, 260, .inl (upd (upd (upd g2 259 0) 250 0) 251 2))), (h10, .inl (cI, 13312, .inl (upd (upd g3 12800 43) 12801 43)))] 0 0 := by
  intro sz
  refine Met.ofW (cc := cX11_extreme) (maxL := 5) (ret := (some .int)) (by decide) rfl ?_
  intro p e s m args below meth c s₁ B hml hv
  obtain ⟨rfl, hsz, hP, hK, hD0, hN, hX⟩ := hv
  have hx := B.exec
  have hb := B.bytes
  have hr := B.returns
  have hts := atoms_spec (ws := wsX11_extreme) B.pre
  have hown : s.vm.findClass RX11 = some m.cls := findClass_of_methodNamed B.named
  have hlocks := B.notSynchronized
  have hin11 : ∀ w ∈ wsX110, w ∈ wsX11_extreme := (fun w h => (List.mem_cons_of_mem _ (List.mem_append_left _ (List.mem_append_left _ (List.mem_append_left _ (List.mem_append_left _ (List.mem_append_left _ (List.mem_append_left _ (List.mem_append_left _ (List.mem_append_right _ h))))))))))
  have hin1 : ∀ w ∈ wsX10, w ∈ wsX11_extreme := (fun w h => (List.mem_cons_of_mem _ (List.mem_append_left _ (List.mem_append_left _ (List.mem_append_left _ (List.mem_append_left _ (List.mem_append_left _ (List.mem_append_left _ (List.mem_append_right _ h)))))))))
  have hin2 : ∀ w ∈ wsX20, w ∈ wsX11_extreme := (fun w h => (List.mem_cons_of_mem _ (List.mem_append_left _ (List.mem_append_left _ (List.mem_append_left _ (List.mem_append_left _ (List.mem_append_left _ (List.mem_append_right _ h))))))))
  subst hsz
  have hD := hD0.self (sz := s.heap.size)
  have hAE := k_AE hD0 hX
  generalize hAe : va_A [(h0, .inr (11, f0)), (h1, .inr (1, f1)), (h2, .inr (2, f2)), (h3, .inr (8, f3)), (h5, .inr (3, f4)), (h7, .inl (cI, 2001, .inl g0)), (h8, .inl (cI, 2001, .inl g1)), (h9, .inl (cI, 260, .inl g2)), (h10, .inl (cI, 13312, .inl g3))] s.heap.size = A at hD hAE ⊢
  have hA : ∀ q : Nat, s.heap.size ≤ q → A q := fun q h => by rw [← hAe]; exact Or.inr h
  have hS : va_S A s.heap s.heap [] := va_S.rf
  have hP : va_P D vwCl [(h0, .inr (11, f0)), (h1, .inr (1, f1)), (h2, .inr (2, f2)), (h3, .inr (8, f3)), (h5, .inr (3, f4)), (h7, .inl (cI, 2001, .inl g0)), (h8, .inl (cI, 2001, .inl g1)), (h9, .inl (cI, 260, .inl g2)), (h10, .inl (cI, 13312, .inl g3))] s.heap := hP
  have hl := lv_entry ([.ref h0, .int 0] : List Value) (n := 5) (Nat.le_of_ble_eq_true rfl)
  rw [lg_entry_eq]
  generalize (lg_sl ([.ref h0, .int 0]) ++ List.replicate (5 - (lg_sl ([.ref h0, .int 0])).length) Slot.unset).toArray = ls at hl ⊢
  have hl : lv_has ls 5 [(0, .ref h0), (1, .int 0)] := hl
  refine lv_aload_n hx hb dX11_extreme_0 rfl (lv_at hl 0 rfl) ?_
  refine va_get (D := D) (ref := "IntegerHouse") (ci := 11) (v := .ref h1) (C := RX11) (T := TX11) (N := 15) hx hb hts hin11 hown hK hP 0 rfl rfl 1 (by decide) (hts (.fieldLink RX11 16 "IntegerHouse" "disk" "LIntegerHouse$Disk;") (List.mem_cons_of_mem _ (List.mem_append_left _ (List.mem_append_left _ (List.mem_append_left _ (List.mem_append_left _ (List.mem_append_left _ (List.mem_append_left _ (List.mem_append_left _ (List.mem_append_left _ (List.mem_append_left _ (List.mem_of_getElem? (i := 0) rfl)))))))))))) (fun _ h9 => h9) e0 dX11_extreme_1 ?_
  refine va_getN (host := "IntegerHouse") (D := D) (ref := "IntegerHouse$Disk") (ci := 1) (v := .int 0) (C := RX1) (T := TX1) (N := 9) hx hb hts hin1 hown hK hP 1 rfl rfl 8 (by decide) (va_Nw.use rfl (hN.1 ("IntegerHouse", 122, "IntegerHouse$Disk", "down", "Z", "IntegerHouse") (List.mem_of_getElem? (i := 3) rfl))) (fun _ h9 => h9) e1 dX11_extreme_4 ?_
  refine lv_if_eq (tgt := 13) hx hb dX11_extreme_7 (by decide) (fun _ => ?_) (fun c9 => absurd (by decide) c9)
  refine lv_aload_n hx hb dX11_extreme_13 rfl (lv_at hl 0 rfl) ?_
  refine va_get (D := D) (ref := "IntegerHouse") (ci := 11) (v := .ref h2) (C := RX11) (T := TX11) (N := 15) hx hb hts hin11 hown hK hP 0 rfl rfl 2 (by decide) (hts (.fieldLink RX11 23 "IntegerHouse" "house" "LIntegerHouse$House;") (List.mem_cons_of_mem _ (List.mem_append_left _ (List.mem_append_left _ (List.mem_append_left _ (List.mem_append_left _ (List.mem_append_left _ (List.mem_append_left _ (List.mem_append_left _ (List.mem_append_left _ (List.mem_append_left _ (List.mem_of_getElem? (i := 1) rfl)))))))))))) (fun _ h9 => h9) e2 dX11_extreme_14 ?_
  refine va_getN (host := "IntegerHouse") (D := D) (ref := "IntegerHouse$House") (ci := 2) (v := .int 0) (C := RX2) (T := TX2) (N := 16) hx hb hts hin2 hown hK hP 2 rfl rfl 12 (by decide) (va_Nw.use rfl (hN.1 ("IntegerHouse", 233, "IntegerHouse$House", "poolSize", "I", "IntegerHouse") (List.mem_of_getElem? (i := 16) rfl))) (fun _ h9 => h9) e3 dX11_extreme_17 ?_
  refine lv_istore_n (lv' := [(2, .int 0), (0, .ref h0), (1, .int 0)]) hx hb dX11_extreme_20 rfl hl (by decide) rfl (fun ls hl => ?_)
  refine lv_aload_n hx hb dX11_extreme_21 rfl (lv_at hl 1 rfl) ?_
  refine va_get (D := D) (ref := "IntegerHouse") (ci := 11) (v := .ref h3) (C := RX11) (T := TX11) (N := 15) hx hb hts hin11 hown hK hP 0 rfl rfl 5 (by decide) (hts (.fieldLink RX11 48 "IntegerHouse" "reader" "LIntegerHouse$Reader;") (List.mem_cons_of_mem _ (List.mem_append_left _ (List.mem_append_left _ (List.mem_append_left _ (List.mem_append_left _ (List.mem_append_left _ (List.mem_append_left _ (List.mem_append_left _ (List.mem_append_left _ (List.mem_append_left _ (List.mem_of_getElem? (i := 2) rfl)))))))))))) (fun _ h9 => h9) e4 dX11_extreme_22 ?_
  refine lv_aload_n hx hb dX11_extreme_25 rfl (lv_at hl 1 rfl) ?_
  refine va_get (D := D) (ref := "IntegerHouse") (ci := 11) (v := .ref h4) (C := RX11) (T := TX11) (N := 15) hx hb hts hin11 hown hK hP 0 rfl rfl 0 (by decide) (hts (.fieldLink RX11 9 "IntegerHouse" "tape" "[B") (List.mem_cons_of_mem _ (List.mem_append_left _ (List.mem_append_left _ (List.mem_append_left _ (List.mem_append_left _ (List.mem_append_left _ (List.mem_append_left _ (List.mem_append_left _ (List.mem_append_left _ (List.mem_append_left _ (List.mem_of_getElem? (i := 3) rfl)))))))))))) (fun _ h9 => h9) e5 dX11_extreme_26 ?_
  refine lv_aload_n hx hb dX11_extreme_29 rfl (lv_at hl 1 rfl) ?_
  refine k_cVi (As := []) (rest := [.ref h4, .ref h3]) (wc := [(h0, .inr (11, f0))]) (wr := [(h1, .inr (1, f1)), (h2, .inr (2, f2)), (h3, .inr (8, f3)), (h5, .inr (3, f4)), (h7, .inl (cI, 2001, .inl g0)), (h8, .inl (cI, 2001, .inl g1)), (h9, .inl (cI, 260, .inl g2)), (h10, .inl (cI, 13312, .inl g3))]) (w1 := [(h0, .inr (11, (f0.set 12 (.int 0))))]) ⟨hx, hb, hml, hown, hts⟩ hN hX hAE hK hP hD hS hA [0] [1, 2, 3, 4, 5, 6, 7, 8] (ci := 11) rfl rfl rfl rfl (by decide +kernel) (by decide +kernel) (by decide +kernel) (c_X11_useTape_0 l E D cI cJ cB cZ h0 f0 e6) (cwV 0 hts gX11_extreme_X11_useTape rfl rfl rfl (by decide +kernel) ⟨Nat.le_of_ble_eq_true rfl, Nat.le_of_ble_eq_true rfl⟩) rfl hl.1 (Nat.le_of_ble_eq_true rfl) dX11_extreme_30 ⟨Nat.le_of_ble_eq_true rfl, Nat.le_of_ble_eq_true rfl⟩ (fun H locs hP hD hS => ?_)
  have hP : va_P D vwCl [(h1, .inr (1, f1)), (h2, .inr (2, f2)), (h3, .inr (8, f3)), (h5, .inr (3, f4)), (h7, .inl (cI, 2001, .inl g0)), (h8, .inl (cI, 2001, .inl g1)), (h9, .inl (cI, 260, .inl g2)), (h10, .inl (cI, 13312, .inl g3)), (h0, .inr (11, (f0.set 12 (.int 0))))] H := hP
  have hD : va_D A [(h1, .inr (1, f1)), (h2, .inr (2, f2)), (h3, .inr (8, f3)), (h5, .inr (3, f4)), (h7, .inl (cI, 2001, .inl g0)), (h8, .inl (cI, 2001, .inl g1)), (h9, .inl (cI, 260, .inl g2)), (h10, .inl (cI, 13312, .inl g3)), (h0, .inr (11, (f0.set 12 (.int 0))))] := hD
  refine k_cVi (As := [.ref h4, .int 0]) (rest := []) (wc := [(h3, .inr (8, f3)), (h5, .inr (3, f4)), (h7, .inl (cI, 2001, .inl g0)), (h8, .inl (cI, 2001, .inl g1)), (h2, .inr (2, f2)), (h9, .inl (cI, 260, .inl g2)), (h10, .inl (cI, 13312, .inl g3))]) (wr := [(h1, .inr (1, f1)), (h0, .inr (11, (f0.set 12 (.int 0))))]) (w1 := [(h3, .inr (8, ((((((((((((((((((f3.set 3 (.int 0)).set 4 (.int 0)).set 5 (.int 0)).set 6 (.int (-1))).set 6 (.int 0)).set 7 (.int 0)).set 8 (.int 0)).set 11 (.int 25)).set 12 (.int 0)).set 13 (.int 0)).set 14 (.int 0)).set 3 (.int 2)).set 4 (.int 0)).set 7 (.int 44)).set 13 (.int 1)).set 13 (.int 2)).set 5 (.int 0)).set 7 (.int 44)))), (h5, .inr (3, ((((f4.set 6 (.ref h4)).set 7 (.int 0)).set 8 (.int 0)).set 5 (.int 0)))), (h7, .inl (cI, 2001, .inl (upd g0 0 0))), (h8, .inl (cI, 2001, .inl (upd g1 0 0))), (h2, .inr (2, f2)), (h9, .inl (cI, 260, .inl (upd (upd (upd g2 259 0) 250 0) 251 2))), (h10, .inl (cI, 13312, .inl (upd (upd g3 12800 43) 12801 43)))]) ⟨hx, hb, hml, hown, hts⟩ hN hX hAE hK hP hD hS hA [2, 3, 4, 5, 1, 6, 7] [0, 8] (ci := 8) rfl rfl rfl rfl (by decide +kernel) (by decide +kernel) (by decide +kernel) (c_X8_readExtreme_0 l E D cI cJ cB cZ h3 h4 f3 h5 f4 h6 h7 h8 g0 g1 h2 f2 h9 h10 g2 g3 e7 e8 e9 e10 e11 e12 e13 e14 e15 e16 e17 e18 e19 e20 e21 e22 e23 e24 e25 e26 e27) (cwV 2 hts gX11_extreme_X8_readExtreme rfl rfl rfl (by decide +kernel) ⟨Nat.le_of_ble_eq_true rfl, Nat.le_of_ble_eq_true rfl⟩) rfl hl.1 (Nat.le_of_ble_eq_true rfl) dX11_extreme_33 ⟨Nat.le_of_ble_eq_true rfl, Nat.le_of_ble_eq_true rfl⟩ (fun H locs hP hD hS => ?_)
  have hP : va_P D vwCl [(h1, .inr (1, f1)), (h0, .inr (11, (f0.set 12 (.int 0)))), (h3, .inr (8, ((((((((((((((((((f3.set 3 (.int 0)).set 4 (.int 0)).set 5 (.int 0)).set 6 (.int (-1))).set 6 (.int 0)).set 7 (.int 0)).set 8 (.int 0)).set 11 (.int 25)).set 12 (.int 0)).set 13 (.int 0)).set 14 (.int 0)).set 3 (.int 2)).set 4 (.int 0)).set 7 (.int 44)).set 13 (.int 1)).set 13 (.int 2)).set 5 (.int 0)).set 7 (.int 44)))), (h5, .inr (3, ((((f4.set 6 (.ref h4)).set 7 (.int 0)).set 8 (.int 0)).set 5 (.int 0)))), (h7, .inl (cI, 2001, .inl (upd g0 0 0))), (h8, .inl (cI, 2001, .inl (upd g1 0 0))), (h2, .inr (2, f2)), (h9, .inl (cI, 260, .inl (upd (upd (upd g2 259 0) 250 0) 251 2))), (h10, .inl (cI, 13312, .inl (upd (upd g3 12800 43) 12801 43)))] H := hP
  have hD : va_D A [(h1, .inr (1, f1)), (h0, .inr (11, (f0.set 12 (.int 0)))), (h3, .inr (8, ((((((((((((((((((f3.set 3 (.int 0)).set 4 (.int 0)).set 5 (.int 0)).set 6 (.int (-1))).set 6 (.int 0)).set 7 (.int 0)).set 8 (.int 0)).set 11 (.int 25)).set 12 (.int 0)).set 13 (.int 0)).set 14 (.int 0)).set 3 (.int 2)).set 4 (.int 0)).set 7 (.int 44)).set 13 (.int 1)).set 13 (.int 2)).set 5 (.int 0)).set 7 (.int 44)))), (h5, .inr (3, ((((f4.set 6 (.ref h4)).set 7 (.int 0)).set 8 (.int 0)).set 5 (.int 0)))), (h7, .inl (cI, 2001, .inl (upd g0 0 0))), (h8, .inl (cI, 2001, .inl (upd g1 0 0))), (h2, .inr (2, f2)), (h9, .inl (cI, 260, .inl (upd (upd (upd g2 259 0) 250 0) 251 2))), (h10, .inl (cI, 13312, .inl (upd (upd g3 12800 43) 12801 43)))] := hD
  refine lv_if_ne (tgt := 47) hx hb dX11_extreme_36 (by decide) (fun c9 => absurd (by decide) c9) (fun _ => ?_)
  refine lv_aload_n hx hb dX11_extreme_39 rfl (lv_at hl 1 rfl) ?_
  refine k_cVi (As := []) (rest := []) (wc := [(h0, .inr (11, (f0.set 12 (.int 0)))), (h3, .inr (8, ((((((((((((((((((f3.set 3 (.int 0)).set 4 (.int 0)).set 5 (.int 0)).set 6 (.int (-1))).set 6 (.int 0)).set 7 (.int 0)).set 8 (.int 0)).set 11 (.int 25)).set 12 (.int 0)).set 13 (.int 0)).set 14 (.int 0)).set 3 (.int 2)).set 4 (.int 0)).set 7 (.int 44)).set 13 (.int 1)).set 13 (.int 2)).set 5 (.int 0)).set 7 (.int 44))))]) (wr := [(h1, .inr (1, f1)), (h5, .inr (3, ((((f4.set 6 (.ref h4)).set 7 (.int 0)).set 8 (.int 0)).set 5 (.int 0)))), (h7, .inl (cI, 2001, .inl (upd g0 0 0))), (h8, .inl (cI, 2001, .inl (upd g1 0 0))), (h2, .inr (2, f2)), (h9, .inl (cI, 260, .inl (upd (upd (upd g2 259 0) 250 0) 251 2))), (h10, .inl (cI, 13312, .inl (upd (upd g3 12800 43) 12801 43)))]) (w1 := [(h0, .inr (11, ((f0.set 12 (.int 0)).set 13 (.int 2)))), (h3, .inr (8, ((((((((((((((((((f3.set 3 (.int 0)).set 4 (.int 0)).set 5 (.int 0)).set 6 (.int (-1))).set 6 (.int 0)).set 7 (.int 0)).set 8 (.int 0)).set 11 (.int 25)).set 12 (.int 0)).set 13 (.int 0)).set 14 (.int 0)).set 3 (.int 2)).set 4 (.int 0)).set 7 (.int 44)).set 13 (.int 1)).set 13 (.int 2)).set 5 (.int 0)).set 7 (.int 44))))]) ⟨hx, hb, hml, hown, hts⟩ hN hX hAE hK hP hD hS hA [1, 2] [0, 3, 4, 5, 6, 7, 8] (ci := 11) rfl rfl rfl rfl (by decide +kernel) (by decide +kernel) (by decide +kernel) (c_X11_faulted_0 l E D cI cJ cB cZ h0 ((f0.set 12 (.int 0))) h3 (((((((((((((((((((f3.set 3 (.int 0)).set 4 (.int 0)).set 5 (.int 0)).set 6 (.int (-1))).set 6 (.int 0)).set 7 (.int 0)).set 8 (.int 0)).set 11 (.int 25)).set 12 (.int 0)).set 13 (.int 0)).set 14 (.int 0)).set 3 (.int 2)).set 4 (.int 0)).set 7 (.int 44)).set 13 (.int 1)).set 13 (.int 2)).set 5 (.int 0)).set 7 (.int 44))) (k_ne (by decide) e4) (k_ne (by decide) (k_ne (by decide) (k_ne (by decide) (k_ne (by decide) (k_ne (by decide) (k_ne (by decide) (k_set (k_ne (by decide) (k_ne (by decide) (k_ne (by decide) (k_ne (by decide) (k_ne (by decide) (k_ne (by decide) (k_ne (by decide) (k_ne (by decide) (k_ne (by decide) (k_ne (by decide) (k_set e14)))))))))))))))))) (k_ne (by decide) e28) (k_ne (by decide) (k_ne (by decide) (k_ne (by decide) (k_ne (by decide) (k_ne (by decide) (k_set (k_ne (by decide) (k_ne (by decide) (k_ne (by decide) (k_ne (by decide) (k_ne (by decide) (k_ne (by decide) (k_ne (by decide) (k_ne (by decide) (k_ne (by decide) (k_ne (by decide) (k_set (k_ne (by decide) e15))))))))))))))))))) (cwV 0 hts gX11_extreme_X11_faulted rfl rfl rfl (by decide +kernel) ⟨Nat.le_of_ble_eq_true rfl, Nat.le_of_ble_eq_true rfl⟩) rfl hl.1 (Nat.le_of_ble_eq_true rfl) dX11_extreme_40 ⟨Nat.le_of_ble_eq_true rfl, Nat.le_of_ble_eq_true rfl⟩ (fun H locs hP hD hS => ?_)
  have hP : va_P D vwCl [(h1, .inr (1, f1)), (h5, .inr (3, ((((f4.set 6 (.ref h4)).set 7 (.int 0)).set 8 (.int 0)).set 5 (.int 0)))), (h7, .inl (cI, 2001, .inl (upd g0 0 0))), (h8, .inl (cI, 2001, .inl (upd g1 0 0))), (h2, .inr (2, f2)), (h9, .inl (cI, 260, .inl (upd (upd (upd g2 259 0) 250 0) 251 2))), (h10, .inl (cI, 13312, .inl (upd (upd g3 12800 43) 12801 43))), (h0, .inr (11, ((f0.set 12 (.int 0)).set 13 (.int 2)))), (h3, .inr (8, ((((((((((((((((((f3.set 3 (.int 0)).set 4 (.int 0)).set 5 (.int 0)).set 6 (.int (-1))).set 6 (.int 0)).set 7 (.int 0)).set 8 (.int 0)).set 11 (.int 25)).set 12 (.int 0)).set 13 (.int 0)).set 14 (.int 0)).set 3 (.int 2)).set 4 (.int 0)).set 7 (.int 44)).set 13 (.int 1)).set 13 (.int 2)).set 5 (.int 0)).set 7 (.int 44))))] H := hP
  have hD : va_D A [(h1, .inr (1, f1)), (h5, .inr (3, ((((f4.set 6 (.ref h4)).set 7 (.int 0)).set 8 (.int 0)).set 5 (.int 0)))), (h7, .inl (cI, 2001, .inl (upd g0 0 0))), (h8, .inl (cI, 2001, .inl (upd g1 0 0))), (h2, .inr (2, f2)), (h9, .inl (cI, 260, .inl (upd (upd (upd g2 259 0) 250 0) 251 2))), (h10, .inl (cI, 13312, .inl (upd (upd g3 12800 43) 12801 43))), (h0, .inr (11, ((f0.set 12 (.int 0)).set 13 (.int 2)))), (h3, .inr (8, ((((((((((((((((((f3.set 3 (.int 0)).set 4 (.int 0)).set 5 (.int 0)).set 6 (.int (-1))).set 6 (.int 0)).set 7 (.int 0)).set 8 (.int 0)).set 11 (.int 25)).set 12 (.int 0)).set 13 (.int 0)).set 14 (.int 0)).set 3 (.int 2)).set 4 (.int 0)).set 7 (.int 44)).set 13 (.int 1)).set 13 (.int 2)).set 5 (.int 0)).set 7 (.int 44))))] := hD
  refine lv_istore_n (lv' := [(3, .int (-1000)), (2, .int 0), (0, .ref h0), (1, .int 0)]) hx hb dX11_extreme_43 rfl hl (by decide) rfl (fun ls hl => ?_)
  refine lv_goto (tgt := 115) hx hb dX11_extreme_44 (by decide) ?_
  refine lv_aload_n hx hb dX11_extreme_115 rfl (lv_at hl 2 rfl) ?_
  refine va_get (D := D) (ref := "IntegerHouse") (ci := 11) (v := .ref h2) (C := RX11) (T := TX11) (N := 15) hx hb hts hin11 hown hK hP 7 rfl rfl 2 (by decide) (hts (.fieldLink RX11 23 "IntegerHouse" "house" "LIntegerHouse$House;") (List.mem_cons_of_mem _ (List.mem_append_left _ (List.mem_append_left _ (List.mem_append_left _ (List.mem_append_left _ (List.mem_append_left _ (List.mem_append_left _ (List.mem_append_left _ (List.mem_append_left _ (List.mem_append_left _ (List.mem_of_getElem? (i := 1) rfl)))))))))))) (fun _ h9 => h9) (k_ne (by decide) (k_ne (by decide) e2)) dX11_extreme_116 ?_
  refine lv_iload_n hx hb dX11_extreme_119 rfl (lv_at hl 1 rfl) ?_
  refine va_putN (host := "IntegerHouse") (D := D) (ref := "IntegerHouse$House") (ci := 2) (v := .int 0) (ty := .int) (C := RX2) (T := TX2) (N := 16) hx hb hts hin2 tyX2 tyX2_ok nmX2 hown hK hP hD hS 4 rfl rfl 12 (by decide) (va_Nw.use rfl (hN.1 ("IntegerHouse", 233, "IntegerHouse$House", "poolSize", "I", "IntegerHouse") (List.mem_of_getElem? (i := 16) rfl))) (fun _ h9 => h9) rfl (by decide +kernel) rfl rfl (k_len e3) dX11_extreme_120 (fun H locs hP hD hS => ?_)
  have hP : va_P D vwCl [(h1, .inr (1, f1)), (h5, .inr (3, ((((f4.set 6 (.ref h4)).set 7 (.int 0)).set 8 (.int 0)).set 5 (.int 0)))), (h7, .inl (cI, 2001, .inl (upd g0 0 0))), (h8, .inl (cI, 2001, .inl (upd g1 0 0))), (h2, .inr (2, (f2.set 12 (.int 0)))), (h9, .inl (cI, 260, .inl (upd (upd (upd g2 259 0) 250 0) 251 2))), (h10, .inl (cI, 13312, .inl (upd (upd g3 12800 43) 12801 43))), (h0, .inr (11, ((f0.set 12 (.int 0)).set 13 (.int 2)))), (h3, .inr (8, ((((((((((((((((((f3.set 3 (.int 0)).set 4 (.int 0)).set 5 (.int 0)).set 6 (.int (-1))).set 6 (.int 0)).set 7 (.int 0)).set 8 (.int 0)).set 11 (.int 25)).set 12 (.int 0)).set 13 (.int 0)).set 14 (.int 0)).set 3 (.int 2)).set 4 (.int 0)).set 7 (.int 44)).set 13 (.int 1)).set 13 (.int 2)).set 5 (.int 0)).set 7 (.int 44))))] H := hP
  have hD : va_D A [(h1, .inr (1, f1)), (h5, .inr (3, ((((f4.set 6 (.ref h4)).set 7 (.int 0)).set 8 (.int 0)).set 5 (.int 0)))), (h7, .inl (cI, 2001, .inl (upd g0 0 0))), (h8, .inl (cI, 2001, .inl (upd g1 0 0))), (h2, .inr (2, (f2.set 12 (.int 0)))), (h9, .inl (cI, 260, .inl (upd (upd (upd g2 259 0) 250 0) 251 2))), (h10, .inl (cI, 13312, .inl (upd (upd g3 12800 43) 12801 43))), (h0, .inr (11, ((f0.set 12 (.int 0)).set 13 (.int 2)))), (h3, .inr (8, ((((((((((((((((((f3.set 3 (.int 0)).set 4 (.int 0)).set 5 (.int 0)).set 6 (.int (-1))).set 6 (.int 0)).set 7 (.int 0)).set 8 (.int 0)).set 11 (.int 25)).set 12 (.int 0)).set 13 (.int 0)).set 14 (.int 0)).set 3 (.int 2)).set 4 (.int 0)).set 7 (.int 44)).set 13 (.int 1)).set 13 (.int 2)).set 5 (.int 0)).set 7 (.int 44))))] := hD
  refine lv_iload_n hx hb dX11_extreme_123 rfl (lv_at hl 0 rfl) ?_
  have hP := hP.sub (ws' := [(h0, .inr (11, ((f0.set 12 (.int 0)).set 13 (.int 2)))), (h1, .inr (1, f1)), (h2, .inr (2, (f2.set 12 (.int 0)))), (h3, .inr (8, ((((((((((((((((((f3.set 3 (.int 0)).set 4 (.int 0)).set 5 (.int 0)).set 6 (.int (-1))).set 6 (.int 0)).set 7 (.int 0)).set 8 (.int 0)).set 11 (.int 25)).set 12 (.int 0)).set 13 (.int 0)).set 14 (.int 0)).set 3 (.int 2)).set 4 (.int 0)).set 7 (.int 44)).set 13 (.int 1)).set 13 (.int 2)).set 5 (.int 0)).set 7 (.int 44)))), (h5, .inr (3, ((((f4.set 6 (.ref h4)).set 7 (.int 0)).set 8 (.int 0)).set 5 (.int 0)))), (h7, .inl (cI, 2001, .inl (upd g0 0 0))), (h8, .inl (cI, 2001, .inl (upd g1 0 0))), (h9, .inl (cI, 260, .inl (upd (upd (upd g2 259 0) 250 0) 251 2))), (h10, .inl (cI, 13312, .inl (upd (upd g3 12800 43) 12801 43)))]) [7, 0, 4, 8, 1, 2, 3, 5, 6] rfl
  have hD := hD.sub (ws' := [(h0, .inr (11, ((f0.set 12 (.int 0)).set 13 (.int 2)))), (h1, .inr (1, f1)), (h2, .inr (2, (f2.set 12 (.int 0)))), (h3, .inr (8, ((((((((((((((((((f3.set 3 (.int 0)).set 4 (.int 0)).set 5 (.int 0)).set 6 (.int (-1))).set 6 (.int 0)).set 7 (.int 0)).set 8 (.int 0)).set 11 (.int 25)).set 12 (.int 0)).set 13 (.int 0)).set 14 (.int 0)).set 3 (.int 2)).set 4 (.int 0)).set 7 (.int 44)).set 13 (.int 1)).set 13 (.int 2)).set 5 (.int 0)).set 7 (.int 44)))), (h5, .inr (3, ((((f4.set 6 (.ref h4)).set 7 (.int 0)).set 8 (.int 0)).set 5 (.int 0)))), (h7, .inl (cI, 2001, .inl (upd g0 0 0))), (h8, .inl (cI, 2001, .inl (upd g1 0 0))), (h9, .inl (cI, 260, .inl (upd (upd (upd g2 259 0) 250 0) 251 2))), (h10, .inl (cI, 13312, .inl (upd (upd g3 12800 43) 12801 43)))]) [7, 0, 4, 8, 1, 2, 3, 5, 6] (by decide +kernel) rfl
  exact W.iret (v := (-1000)) hx hb hr (fun t ht hW => ⟨⟨(-1000), (), rfl, rfl, kB_mk ht hW hP hK hD⟩, hS.F ht⟩) hS.2.2 dX11_extreme_124
set_option maxHeartbeats 400000000 in
set_option maxRecDepth 100000 in
theorem c_X12_extreme_1 (l : Launch) (E : kE) (D : va_G) (cI cJ cB cZ : ClassId) (h0 : Nat) (f0 : List Value) (h1 : Nat) (h2 : Nat) (h3 : Nat) (h4 : Nat) (g0 : Nat → Int32) (g1 : Nat → Int32) (g2 : Nat → Int32) (g3 : Nat → Int32) (h5 : Nat) (h6 : Nat) (h7 : Nat) (h8 : Nat) (h9 : Nat) (g4 : Nat → Int32) (g5 : Nat → Int32) (g6 : Nat → Int32) (g7 : Nat → Int32) (g8 : Nat → Int32) (h10 : Nat) (h11 : Nat) (h12 : Nat) (h13 : Nat) (h14 : Nat) (g9 : Nat → Int32) (g10 : Nat → Int32) (g11 : Nat → Int32) (g12 : Nat → Int64) (g13 : Nat → Int32) (e0 : f0[0]? = some (.int 0)) (e1 : f0[5]? = some (.int 0)) (e2 : f0[2]? = some (.int 0)) (e3 : f0[12]? = some (.int 0)) (e4 : f0[32]? = some (.int 0)) (e5 : f0[36]? = some (.int 0)) (e6 : f0[33]? = some (.int 0)) (e7 : f0[37]? = some (.int 0)) (e8 : f0[27]? = some (.int 0)) (e9 : f0[31]? = some (.int 0)) (e10 : f0[28]? = some (.int 0)) (e11 : f0[23]? = some (.ref h1)) (e12 : f0[24]? = some (.ref h2)) (e13 : f0[25]? = some (.ref h3)) (e14 : f0[26]? = some (.ref h4)) (e15 : f0[66]? = some (.int 0)) (e16 : f0[67]? = some (.int 0)) (e17 : f0[40]? = some (.ref h5)) (e18 : f0[45]? = some (.ref h6)) (e19 : f0[56]? = some (.ref h7)) (e20 : f0[60]? = some (.ref h8)) (e21 : f0[65]? = some (.ref h9)) (e22 : f0[76]? = some (.int 0)) (e23 : f0[83]? = some (.int 0)) (e24 : f0[77]? = some (.ref h10)) (e25 : f0[78]? = some (.ref h11)) (e26 : f0[80]? = some (.ref h12)) (e27 : f0[81]? = some (.ref h13)) (e28 : f0[82]? = some (.ref h14)) (e29 : f0[84]? = some (.int 0)) (e30 : f0[29]? = some (.int 0)) (e31 : f0[30]? = some (.int 0)) (e32 : f0[85]? = some (.int 0)) (e33 : f0[13]? = some (.int 0)) (e34 : f0[109]? = some (.int 0)) : kI l E D (kT cI cJ cB cZ) yX12_extreme wsX12_extreme ({ frames := 5, cells := 0, slots := 0, locals := 104 }) [.ref h0, .int 0] [(h0, .inr (12, f0)), (h1, .inl (cI, 2001, .inl g0)), (h2, .inl (cI, 2001, .inl g1)), (h3, .inl (cI, 2001, .inl g2)), (h4, .inl (cI, 2001, .inl g3)), (h5, .inl (cI, 26, .inl g4)), (h6, .inl (cI, 26, .inl g5)), (h7, .inl (cI, 26, .inl g6)), (h8, .inl (cI, 26, .inl g7)), (h9, .inl (cI, 26, .inl g8)), (h10, .inl (cI, 16, .inl g9)), (h11, .inl (cI, 16, .inl g10)), (h12, .inl (cI, 16, .inl g11)), (h13, .inl (cJ, 16, .inr (.inl g12))), (h14, .inl (cI, 16, .inl g13))] ((-1000)) [(h0, .inr (12, ((((((((((((((((((((f0.set 0 (.int 0)).set 12 (.int 0)).set 2 (.int 0)).set 36 (.int 0)).set 37 (.int 0)).set 27 (.int 0)).set 31 (.int 0)).set 28 (.int 0)).set 66 (.int 25)).set 67 (.int 0)).set 76 (.int (-1))).set 83 (.int (-1))).set 83 (.int 0)).set 84 (.int 3)).set 84 (.int 4)).set 84 (.int 5)).set 31 (.int 1)).set 29 (.int 2)).set 30 (.int 0)).set 109 (.int 2)))), (h1, .inl (cI, 2001, .inl (upd g0 0 0))), (h2, .inl (cI, 2001, .inl (upd g1 0 0))), (h3, .inl (cI, 2001, .inl (upd g2 0 0))), (h4, .inl (cI, 2001, .inl (upd g3 0 0))), (h5, .inl (cI, 26, .inl (upd g4 25 0))), (h6, .inl (cI, 26, .inl (upd g5 25 0))), (h7, .inl (cI, 26, .inl (upd g6 25 0))), (h8, .inl (cI, 26, .inl (upd g7 25 0))), (h9, .inl (cI, 26, .inl (upd g8 25 0))), (h10, .inl (cI, 16, .inl (upd g9 0 33))), (h11, .inl (cI, 16, .inl (upd g10 0 (-1)))), (h12, .inl (cI, 16, .inl (upd (upd g11 0 1) 0 1))), (h13, .inl (cJ, 16, .inr (.inl (vp_updL (vp_updL g12 0 1) 0 1)))), (h14, .inl (cI, 16, .inl (upd g13 0 (-1))))] 0 0 := by
  intro sz
  refine Met.ofW (cc := cX12_extreme) (maxL := 8) (ret := (some .int)) (by decide) rfl ?_
  intro p e s m args below meth c s₁ B hml hv
  obtain ⟨rfl, hsz, hP, hK, hD0, hN, hX⟩ := hv
  have hx := B.exec
  have hb := B.bytes
  have hr := B.returns
  have hts := atoms_spec (ws := wsX12_extreme) B.pre
  have hown : s.vm.findClass RX12 = some m.cls := findClass_of_methodNamed B.named
  have hlocks := B.notSynchronized
  have hin12 : ∀ w ∈ wsX120, w ∈ wsX12_extreme := (fun w h => (List.mem_cons_of_mem _ (List.mem_append_right _ h)))
  subst hsz
  have hD := hD0.self (sz := s.heap.size)
  have hAE := k_AE hD0 hX
  generalize hAe : va_A [(h0, .inr (12, f0)), (h1, .inl (cI, 2001, .inl g0)), (h2, .inl (cI, 2001, .inl g1)), (h3, .inl (cI, 2001, .inl g2)), (h4, .inl (cI, 2001, .inl g3)), (h5, .inl (cI, 26, .inl g4)), (h6, .inl (cI, 26, .inl g5)), (h7, .inl (cI, 26, .inl g6)), (h8, .inl (cI, 26, .inl g7)), (h9, .inl (cI, 26, .inl g8)), (h10, .inl (cI, 16, .inl g9)), (h11, .inl (cI, 16, .inl g10)), (h12, .inl (cI, 16, .inl g11)), (h13, .inl (cJ, 16, .inr (.inl g12))), (h14, .inl (cI, 16, .inl g13))] s.heap.size = A at hD hAE ⊢
  have hA : ∀ q : Nat, s.heap.size ≤ q → A q := fun q h => by rw [← hAe]; exact Or.inr h
  have hS : va_S A s.heap s.heap [] := va_S.rf
  have hP : va_P D vwCl [(h0, .inr (12, f0)), (h1, .inl (cI, 2001, .inl g0)), (h2, .inl (cI, 2001, .inl g1)), (h3, .inl (cI, 2001, .inl g2)), (h4, .inl (cI, 2001, .inl g3)), (h5, .inl (cI, 26, .inl g4)), (h6, .inl (cI, 26, .inl g5)), (h7, .inl (cI, 26, .inl g6)), (h8, .inl (cI, 26, .inl g7)), (h9, .inl (cI, 26, .inl g8)), (h10, .inl (cI, 16, .inl g9)), (h11, .inl (cI, 16, .inl g10)), (h12, .inl (cI, 16, .inl g11)), (h13, .inl (cJ, 16, .inr (.inl g12))), (h14, .inl (cI, 16, .inl g13))] s.heap := hP
  have hl := lv_entry ([.ref h0, .int 0] : List Value) (n := 8) (Nat.le_of_ble_eq_true rfl)
  rw [lg_entry_eq]
  generalize (lg_sl ([.ref h0, .int 0]) ++ List.replicate (8 - (lg_sl ([.ref h0, .int 0])).length) Slot.unset).toArray = ls at hl ⊢
  have hl : lv_has ls 8 [(0, .ref h0), (1, .int 0)] := hl
  refine lv_aload_n hx hb dX12_extreme_0 rfl (lv_at hl 0 rfl) ?_
  refine k_cVi (As := []) (rest := []) (wc := [(h0, .inr (12, f0))]) (wr := [(h1, .inl (cI, 2001, .inl g0)), (h2, .inl (cI, 2001, .inl g1)), (h3, .inl (cI, 2001, .inl g2)), (h4, .inl (cI, 2001, .inl g3)), (h5, .inl (cI, 26, .inl g4)), (h6, .inl (cI, 26, .inl g5)), (h7, .inl (cI, 26, .inl g6)), (h8, .inl (cI, 26, .inl g7)), (h9, .inl (cI, 26, .inl g8)), (h10, .inl (cI, 16, .inl g9)), (h11, .inl (cI, 16, .inl g10)), (h12, .inl (cI, 16, .inl g11)), (h13, .inl (cJ, 16, .inr (.inl g12))), (h14, .inl (cI, 16, .inl g13))]) (w1 := [(h0, .inr (12, (f0.set 0 (.int 0))))]) ⟨hx, hb, hml, hown, hts⟩ hN hX hAE hK hP hD hS hA [0] [1, 2, 3, 4, 5, 6, 7, 8, 9, 10, 11, 12, 13, 14] (ci := 12) rfl rfl rfl rfl (by decide +kernel) (by decide +kernel) (by decide +kernel) (c_X12_asks_0 l E D cI cJ cB cZ h0 f0 e0 e1) (cwV 0 hts gX12_extreme_X12_asks rfl rfl rfl (by decide +kernel) ⟨Nat.le_of_ble_eq_true rfl, Nat.le_of_ble_eq_true rfl⟩) rfl hl.1 (Nat.le_of_ble_eq_true rfl) dX12_extreme_1 ⟨Nat.le_of_ble_eq_true rfl, Nat.le_of_ble_eq_true rfl⟩ (fun H locs hP hD hS => ?_)
  have hP : va_P D vwCl [(h1, .inl (cI, 2001, .inl g0)), (h2, .inl (cI, 2001, .inl g1)), (h3, .inl (cI, 2001, .inl g2)), (h4, .inl (cI, 2001, .inl g3)), (h5, .inl (cI, 26, .inl g4)), (h6, .inl (cI, 26, .inl g5)), (h7, .inl (cI, 26, .inl g6)), (h8, .inl (cI, 26, .inl g7)), (h9, .inl (cI, 26, .inl g8)), (h10, .inl (cI, 16, .inl g9)), (h11, .inl (cI, 16, .inl g10)), (h12, .inl (cI, 16, .inl g11)), (h13, .inl (cJ, 16, .inr (.inl g12))), (h14, .inl (cI, 16, .inl g13)), (h0, .inr (12, (f0.set 0 (.int 0))))] H := hP
  have hD : va_D A [(h1, .inl (cI, 2001, .inl g0)), (h2, .inl (cI, 2001, .inl g1)), (h3, .inl (cI, 2001, .inl g2)), (h4, .inl (cI, 2001, .inl g3)), (h5, .inl (cI, 26, .inl g4)), (h6, .inl (cI, 26, .inl g5)), (h7, .inl (cI, 26, .inl g6)), (h8, .inl (cI, 26, .inl g7)), (h9, .inl (cI, 26, .inl g8)), (h10, .inl (cI, 16, .inl g9)), (h11, .inl (cI, 16, .inl g10)), (h12, .inl (cI, 16, .inl g11)), (h13, .inl (cJ, 16, .inr (.inl g12))), (h14, .inl (cI, 16, .inl g13)), (h0, .inr (12, (f0.set 0 (.int 0))))] := hD
  refine lv_if_ne (tgt := 10) hx hb dX12_extreme_4 (by decide) (fun _ => ?_) (fun c9 => absurd c9 (by decide))
  refine lv_aload_n hx hb dX12_extreme_10 rfl (lv_at hl 0 rfl) ?_
  refine k_cVv (As := []) (rest := []) (wc := [(h0, .inr (12, (f0.set 0 (.int 0)))), (h1, .inl (cI, 2001, .inl g0)), (h2, .inl (cI, 2001, .inl g1)), (h3, .inl (cI, 2001, .inl g2)), (h4, .inl (cI, 2001, .inl g3))]) (wr := [(h5, .inl (cI, 26, .inl g4)), (h6, .inl (cI, 26, .inl g5)), (h7, .inl (cI, 26, .inl g6)), (h8, .inl (cI, 26, .inl g7)), (h9, .inl (cI, 26, .inl g8)), (h10, .inl (cI, 16, .inl g9)), (h11, .inl (cI, 16, .inl g10)), (h12, .inl (cI, 16, .inl g11)), (h13, .inl (cJ, 16, .inr (.inl g12))), (h14, .inl (cI, 16, .inl g13))]) (w1 := (fun _ : Unit => [(h0, .inr (12, ((((((((f0.set 0 (.int 0)).set 12 (.int 0)).set 2 (.int 0)).set 36 (.int 0)).set 37 (.int 0)).set 27 (.int 0)).set 31 (.int 0)).set 28 (.int 0)))), (h1, .inl (cI, 2001, .inl (upd g0 0 0))), (h2, .inl (cI, 2001, .inl (upd g1 0 0))), (h3, .inl (cI, 2001, .inl (upd g2 0 0))), (h4, .inl (cI, 2001, .inl (upd g3 0 0)))])) ⟨hx, hb, hml, hown, hts⟩ hN hX hAE hK hP hD hS hA [14, 0, 1, 2, 3] [4, 5, 6, 7, 8, 9, 10, 11, 12, 13] (ci := 12) rfl rfl rfl rfl (by decide +kernel) (by decide +kernel) (by decide +kernel) (c_X12_begin_0 l E D cI cJ cB cZ h0 ((f0.set 0 (.int 0))) h1 h2 h3 h4 g0 g1 g2 g3 (k_ne (by decide) e2) (k_ne (by decide) e3) (k_ne (by decide) e4) (k_ne (by decide) e5) (k_ne (by decide) e6) (k_ne (by decide) e7) (k_ne (by decide) e8) (k_ne (by decide) e9) (k_ne (by decide) e10) (k_ne (by decide) e11) (k_ne (by decide) e12) (k_ne (by decide) e13) (k_ne (by decide) e14)) (cwV 0 hts gX12_extreme_X12_begin rfl rfl rfl (by decide +kernel) ⟨Nat.le_of_ble_eq_true rfl, Nat.le_of_ble_eq_true rfl⟩) rfl hl.1 (Nat.le_of_ble_eq_true rfl) dX12_extreme_11 ⟨Nat.le_of_ble_eq_true rfl, Nat.le_of_ble_eq_true rfl⟩ (fun _ H locs hP hD hS => ?_)
  have hP : va_P D vwCl [(h5, .inl (cI, 26, .inl g4)), (h6, .inl (cI, 26, .inl g5)), (h7, .inl (cI, 26, .inl g6)), (h8, .inl (cI, 26, .inl g7)), (h9, .inl (cI, 26, .inl g8)), (h10, .inl (cI, 16, .inl g9)), (h11, .inl (cI, 16, .inl g10)), (h12, .inl (cI, 16, .inl g11)), (h13, .inl (cJ, 16, .inr (.inl g12))), (h14, .inl (cI, 16, .inl g13)), (h0, .inr (12, ((((((((f0.set 0 (.int 0)).set 12 (.int 0)).set 2 (.int 0)).set 36 (.int 0)).set 37 (.int 0)).set 27 (.int 0)).set 31 (.int 0)).set 28 (.int 0)))), (h1, .inl (cI, 2001, .inl (upd g0 0 0))), (h2, .inl (cI, 2001, .inl (upd g1 0 0))), (h3, .inl (cI, 2001, .inl (upd g2 0 0))), (h4, .inl (cI, 2001, .inl (upd g3 0 0)))] H := hP
  have hD : va_D A [(h5, .inl (cI, 26, .inl g4)), (h6, .inl (cI, 26, .inl g5)), (h7, .inl (cI, 26, .inl g6)), (h8, .inl (cI, 26, .inl g7)), (h9, .inl (cI, 26, .inl g8)), (h10, .inl (cI, 16, .inl g9)), (h11, .inl (cI, 16, .inl g10)), (h12, .inl (cI, 16, .inl g11)), (h13, .inl (cJ, 16, .inr (.inl g12))), (h14, .inl (cI, 16, .inl g13)), (h0, .inr (12, ((((((((f0.set 0 (.int 0)).set 12 (.int 0)).set 2 (.int 0)).set 36 (.int 0)).set 37 (.int 0)).set 27 (.int 0)).set 31 (.int 0)).set 28 (.int 0)))), (h1, .inl (cI, 2001, .inl (upd g0 0 0))), (h2, .inl (cI, 2001, .inl (upd g1 0 0))), (h3, .inl (cI, 2001, .inl (upd g2 0 0))), (h4, .inl (cI, 2001, .inl (upd g3 0 0)))] := hD
  refine lv_aload_n hx hb dX12_extreme_14 rfl (lv_at hl 0 rfl) ?_
  refine lv_bipush (v := 25) hx hb dX12_extreme_15 (by decide) ?_
  refine k_cVv (As := [.int 25]) (rest := []) (wc := [(h0, .inr (12, ((((((((f0.set 0 (.int 0)).set 12 (.int 0)).set 2 (.int 0)).set 36 (.int 0)).set 37 (.int 0)).set 27 (.int 0)).set 31 (.int 0)).set 28 (.int 0)))), (h5, .inl (cI, 26, .inl g4)), (h6, .inl (cI, 26, .inl g5)), (h7, .inl (cI, 26, .inl g6)), (h8, .inl (cI, 26, .inl g7)), (h9, .inl (cI, 26, .inl g8))]) (wr := [(h10, .inl (cI, 16, .inl g9)), (h11, .inl (cI, 16, .inl g10)), (h12, .inl (cI, 16, .inl g11)), (h13, .inl (cJ, 16, .inr (.inl g12))), (h14, .inl (cI, 16, .inl g13)), (h1, .inl (cI, 2001, .inl (upd g0 0 0))), (h2, .inl (cI, 2001, .inl (upd g1 0 0))), (h3, .inl (cI, 2001, .inl (upd g2 0 0))), (h4, .inl (cI, 2001, .inl (upd g3 0 0)))]) (w1 := (fun _ : Unit => [(h0, .inr (12, ((((((((((f0.set 0 (.int 0)).set 12 (.int 0)).set 2 (.int 0)).set 36 (.int 0)).set 37 (.int 0)).set 27 (.int 0)).set 31 (.int 0)).set 28 (.int 0)).set 66 (.int 25)).set 67 (.int 0)))), (h5, .inl (cI, 26, .inl (upd g4 25 0))), (h6, .inl (cI, 26, .inl (upd g5 25 0))), (h7, .inl (cI, 26, .inl (upd g6 25 0))), (h8, .inl (cI, 26, .inl (upd g7 25 0))), (h9, .inl (cI, 26, .inl (upd g8 25 0)))])) ⟨hx, hb, hml, hown, hts⟩ hN hX hAE hK hP hD hS hA [10, 0, 1, 2, 3, 4] [5, 6, 7, 8, 9, 11, 12, 13, 14] (ci := 12) rfl rfl rfl rfl (by decide +kernel) (by decide +kernel) (by decide +kernel) (c_X12_beginSlot_1 l E D cI cJ cB cZ h0 (((((((((f0.set 0 (.int 0)).set 12 (.int 0)).set 2 (.int 0)).set 36 (.int 0)).set 37 (.int 0)).set 27 (.int 0)).set 31 (.int 0)).set 28 (.int 0))) h5 g4 h6 g5 h7 g6 h8 g7 h9 g8 (k_ne (by decide) (k_ne (by decide) (k_ne (by decide) (k_ne (by decide) (k_ne (by decide) (k_ne (by decide) (k_ne (by decide) (k_ne (by decide) e15)))))))) (k_ne (by decide) (k_ne (by decide) (k_ne (by decide) (k_ne (by decide) (k_ne (by decide) (k_ne (by decide) (k_ne (by decide) (k_ne (by decide) e16)))))))) (k_ne (by decide) (k_ne (by decide) (k_ne (by decide) (k_ne (by decide) (k_ne (by decide) (k_ne (by decide) (k_ne (by decide) (k_ne (by decide) e17)))))))) (k_ne (by decide) (k_ne (by decide) (k_ne (by decide) (k_ne (by decide) (k_ne (by decide) (k_ne (by decide) (k_ne (by decide) (k_ne (by decide) e18)))))))) (k_ne (by decide) (k_ne (by decide) (k_ne (by decide) (k_ne (by decide) (k_ne (by decide) (k_ne (by decide) (k_ne (by decide) (k_ne (by decide) e19)))))))) (k_ne (by decide) (k_ne (by decide) (k_ne (by decide) (k_ne (by decide) (k_ne (by decide) (k_ne (by decide) (k_ne (by decide) (k_ne (by decide) e20)))))))) (k_ne (by decide) (k_ne (by decide) (k_ne (by decide) (k_ne (by decide) (k_ne (by decide) (k_ne (by decide) (k_ne (by decide) (k_ne (by decide) e21))))))))) (cwV 1 hts gX12_extreme_X12_beginSlot rfl rfl rfl (by decide +kernel) ⟨Nat.le_of_ble_eq_true rfl, Nat.le_of_ble_eq_true rfl⟩) rfl hl.1 (Nat.le_of_ble_eq_true rfl) dX12_extreme_17 ⟨Nat.le_of_ble_eq_true rfl, Nat.le_of_ble_eq_true rfl⟩ (fun _ H locs hP hD hS => ?_)
  have hP : va_P D vwCl [(h10, .inl (cI, 16, .inl g9)), (h11, .inl (cI, 16, .inl g10)), (h12, .inl (cI, 16, .inl g11)), (h13, .inl (cJ, 16, .inr (.inl g12))), (h14, .inl (cI, 16, .inl g13)), (h1, .inl (cI, 2001, .inl (upd g0 0 0))), (h2, .inl (cI, 2001, .inl (upd g1 0 0))), (h3, .inl (cI, 2001, .inl (upd g2 0 0))), (h4, .inl (cI, 2001, .inl (upd g3 0 0))), (h0, .inr (12, ((((((((((f0.set 0 (.int 0)).set 12 (.int 0)).set 2 (.int 0)).set 36 (.int 0)).set 37 (.int 0)).set 27 (.int 0)).set 31 (.int 0)).set 28 (.int 0)).set 66 (.int 25)).set 67 (.int 0)))), (h5, .inl (cI, 26, .inl (upd g4 25 0))), (h6, .inl (cI, 26, .inl (upd g5 25 0))), (h7, .inl (cI, 26, .inl (upd g6 25 0))), (h8, .inl (cI, 26, .inl (upd g7 25 0))), (h9, .inl (cI, 26, .inl (upd g8 25 0)))] H := hP
  have hD : va_D A [(h10, .inl (cI, 16, .inl g9)), (h11, .inl (cI, 16, .inl g10)), (h12, .inl (cI, 16, .inl g11)), (h13, .inl (cJ, 16, .inr (.inl g12))), (h14, .inl (cI, 16, .inl g13)), (h1, .inl (cI, 2001, .inl (upd g0 0 0))), (h2, .inl (cI, 2001, .inl (upd g1 0 0))), (h3, .inl (cI, 2001, .inl (upd g2 0 0))), (h4, .inl (cI, 2001, .inl (upd g3 0 0))), (h0, .inr (12, ((((((((((f0.set 0 (.int 0)).set 12 (.int 0)).set 2 (.int 0)).set 36 (.int 0)).set 37 (.int 0)).set 27 (.int 0)).set 31 (.int 0)).set 28 (.int 0)).set 66 (.int 25)).set 67 (.int 0)))), (h5, .inl (cI, 26, .inl (upd g4 25 0))), (h6, .inl (cI, 26, .inl (upd g5 25 0))), (h7, .inl (cI, 26, .inl (upd g6 25 0))), (h8, .inl (cI, 26, .inl (upd g7 25 0))), (h9, .inl (cI, 26, .inl (upd g8 25 0)))] := hD
  refine lv_aload_n hx hb dX12_extreme_20 rfl (lv_at hl 0 rfl) ?_
  refine k_cVi (As := []) (rest := []) (wc := [(h0, .inr (12, ((((((((((f0.set 0 (.int 0)).set 12 (.int 0)).set 2 (.int 0)).set 36 (.int 0)).set 37 (.int 0)).set 27 (.int 0)).set 31 (.int 0)).set 28 (.int 0)).set 66 (.int 25)).set 67 (.int 0)))), (h10, .inl (cI, 16, .inl g9)), (h11, .inl (cI, 16, .inl g10)), (h12, .inl (cI, 16, .inl g11)), (h13, .inl (cJ, 16, .inr (.inl g12))), (h14, .inl (cI, 16, .inl g13)), (h3, .inl (cI, 2001, .inl (upd g2 0 0))), (h1, .inl (cI, 2001, .inl (upd g0 0 0)))]) (wr := [(h2, .inl (cI, 2001, .inl (upd g1 0 0))), (h4, .inl (cI, 2001, .inl (upd g3 0 0))), (h5, .inl (cI, 26, .inl (upd g4 25 0))), (h6, .inl (cI, 26, .inl (upd g5 25 0))), (h7, .inl (cI, 26, .inl (upd g6 25 0))), (h8, .inl (cI, 26, .inl (upd g7 25 0))), (h9, .inl (cI, 26, .inl (upd g8 25 0)))]) (w1 := [(h0, .inr (12, (((((((((((((((((((f0.set 0 (.int 0)).set 12 (.int 0)).set 2 (.int 0)).set 36 (.int 0)).set 37 (.int 0)).set 27 (.int 0)).set 31 (.int 0)).set 28 (.int 0)).set 66 (.int 25)).set 67 (.int 0)).set 76 (.int (-1))).set 83 (.int (-1))).set 83 (.int 0)).set 84 (.int 3)).set 84 (.int 4)).set 84 (.int 5)).set 31 (.int 1)).set 29 (.int 2)).set 30 (.int 0)))), (h10, .inl (cI, 16, .inl (upd g9 0 33))), (h11, .inl (cI, 16, .inl (upd g10 0 (-1)))), (h12, .inl (cI, 16, .inl (upd (upd g11 0 1) 0 1))), (h13, .inl (cJ, 16, .inr (.inl (vp_updL (vp_updL g12 0 1) 0 1)))), (h14, .inl (cI, 16, .inl (upd g13 0 (-1)))), (h3, .inl (cI, 2001, .inl (upd g2 0 0))), (h1, .inl (cI, 2001, .inl (upd g0 0 0)))]) ⟨hx, hb, hml, hown, hts⟩ hN hX hAE hK hP hD hS hA [9, 0, 1, 2, 3, 4, 7, 5] [6, 8, 10, 11, 12, 13, 14] (ci := 12) rfl rfl rfl rfl (by decide +kernel) (by decide +kernel) (by decide +kernel) (c_X12_readTerm_0 l E D cI cJ cB cZ h0 (((((((((((f0.set 0 (.int 0)).set 12 (.int 0)).set 2 (.int 0)).set 36 (.int 0)).set 37 (.int 0)).set 27 (.int 0)).set 31 (.int 0)).set 28 (.int 0)).set 66 (.int 25)).set 67 (.int 0))) h10 h11 h12 h13 h14 g9 g10 g11 g12 g13 h3 ((upd g2 0 0)) h1 ((upd g0 0 0)) (k_ne (by decide) (k_ne (by decide) (k_ne (by decide) (k_ne (by decide) (k_ne (by decide) (k_ne (by decide) (k_ne (by decide) (k_ne (by decide) (k_ne (by decide) (k_ne (by decide) e22)))))))))) (k_ne (by decide) (k_ne (by decide) (k_ne (by decide) (k_ne (by decide) (k_ne (by decide) (k_ne (by decide) (k_ne (by decide) (k_ne (by decide) (k_ne (by decide) (k_ne (by decide) e23)))))))))) (k_ne (by decide) (k_ne (by decide) (k_ne (by decide) (k_ne (by decide) (k_ne (by decide) (k_ne (by decide) (k_ne (by decide) (k_ne (by decide) (k_ne (by decide) (k_ne (by decide) e24)))))))))) (k_ne (by decide) (k_ne (by decide) (k_ne (by decide) (k_ne (by decide) (k_ne (by decide) (k_ne (by decide) (k_ne (by decide) (k_ne (by decide) (k_ne (by decide) (k_ne (by decide) e25)))))))))) (k_ne (by decide) (k_ne (by decide) (k_ne (by decide) (k_ne (by decide) (k_ne (by decide) (k_ne (by decide) (k_ne (by decide) (k_ne (by decide) (k_ne (by decide) (k_ne (by decide) e26)))))))))) (k_ne (by decide) (k_ne (by decide) (k_ne (by decide) (k_ne (by decide) (k_ne (by decide) (k_ne (by decide) (k_ne (by decide) (k_ne (by decide) (k_ne (by decide) (k_ne (by decide) e27)))))))))) (k_ne (by decide) (k_ne (by decide) (k_ne (by decide) (k_ne (by decide) (k_ne (by decide) (k_ne (by decide) (k_ne (by decide) (k_ne (by decide) (k_ne (by decide) (k_ne (by decide) e28)))))))))) (k_ne (by decide) (k_ne (by decide) (k_ne (by decide) (k_ne (by decide) (k_ne (by decide) (k_ne (by decide) (k_ne (by decide) (k_ne (by decide) (k_ne (by decide) (k_ne (by decide) e29)))))))))) (k_ne (by decide) (k_ne (by decide) (k_ne (by decide) (k_set (k_ne (by decide) (k_ne (by decide) (k_ne (by decide) (k_ne (by decide) (k_ne (by decide) (k_ne (by decide) e9)))))))))) (k_ne (by decide) (k_ne (by decide) (k_ne (by decide) (k_ne (by decide) (k_ne (by decide) (k_ne (by decide) (k_ne (by decide) (k_ne (by decide) (k_ne (by decide) (k_ne (by decide) e13)))))))))) (k_ne (by decide) (k_ne (by decide) (k_set (k_ne (by decide) (k_ne (by decide) (k_ne (by decide) (k_ne (by decide) (k_ne (by decide) (k_ne (by decide) (k_ne (by decide) e10)))))))))) rfl (k_ne (by decide) (k_set (k_ne (by decide) (k_ne (by decide) (k_ne (by decide) (k_ne (by decide) (k_ne (by decide) (k_ne (by decide) (k_ne (by decide) (k_ne (by decide) e15)))))))))) (k_ne (by decide) (k_ne (by decide) (k_ne (by decide) (k_ne (by decide) (k_ne (by decide) (k_ne (by decide) (k_ne (by decide) (k_ne (by decide) (k_ne (by decide) (k_ne (by decide) e30)))))))))) (k_ne (by decide) (k_ne (by decide) (k_ne (by decide) (k_ne (by decide) (k_ne (by decide) (k_ne (by decide) (k_ne (by decide) (k_ne (by decide) (k_ne (by decide) (k_ne (by decide) e11)))))))))) rfl (k_ne (by decide) (k_ne (by decide) (k_ne (by decide) (k_ne (by decide) (k_ne (by decide) (k_ne (by decide) (k_ne (by decide) (k_ne (by decide) (k_ne (by decide) (k_ne (by decide) e31)))))))))) (k_ne (by decide) (k_ne (by decide) (k_ne (by decide) (k_ne (by decide) (k_ne (by decide) (k_ne (by decide) (k_ne (by decide) (k_ne (by decide) (k_ne (by decide) (k_ne (by decide) e32))))))))))) (cwV 0 hts gX12_extreme_X12_readTerm rfl rfl rfl (by decide +kernel) ⟨Nat.le_of_ble_eq_true rfl, Nat.le_of_ble_eq_true rfl⟩) rfl hl.1 (Nat.le_of_ble_eq_true rfl) dX12_extreme_21 ⟨Nat.le_of_ble_eq_true rfl, Nat.le_of_ble_eq_true rfl⟩ (fun H locs hP hD hS => ?_)
  have hP : va_P D vwCl [(h2, .inl (cI, 2001, .inl (upd g1 0 0))), (h4, .inl (cI, 2001, .inl (upd g3 0 0))), (h5, .inl (cI, 26, .inl (upd g4 25 0))), (h6, .inl (cI, 26, .inl (upd g5 25 0))), (h7, .inl (cI, 26, .inl (upd g6 25 0))), (h8, .inl (cI, 26, .inl (upd g7 25 0))), (h9, .inl (cI, 26, .inl (upd g8 25 0))), (h0, .inr (12, (((((((((((((((((((f0.set 0 (.int 0)).set 12 (.int 0)).set 2 (.int 0)).set 36 (.int 0)).set 37 (.int 0)).set 27 (.int 0)).set 31 (.int 0)).set 28 (.int 0)).set 66 (.int 25)).set 67 (.int 0)).set 76 (.int (-1))).set 83 (.int (-1))).set 83 (.int 0)).set 84 (.int 3)).set 84 (.int 4)).set 84 (.int 5)).set 31 (.int 1)).set 29 (.int 2)).set 30 (.int 0)))), (h10, .inl (cI, 16, .inl (upd g9 0 33))), (h11, .inl (cI, 16, .inl (upd g10 0 (-1)))), (h12, .inl (cI, 16, .inl (upd (upd g11 0 1) 0 1))), (h13, .inl (cJ, 16, .inr (.inl (vp_updL (vp_updL g12 0 1) 0 1)))), (h14, .inl (cI, 16, .inl (upd g13 0 (-1)))), (h3, .inl (cI, 2001, .inl (upd g2 0 0))), (h1, .inl (cI, 2001, .inl (upd g0 0 0)))] H := hP
  have hD : va_D A [(h2, .inl (cI, 2001, .inl (upd g1 0 0))), (h4, .inl (cI, 2001, .inl (upd g3 0 0))), (h5, .inl (cI, 26, .inl (upd g4 25 0))), (h6, .inl (cI, 26, .inl (upd g5 25 0))), (h7, .inl (cI, 26, .inl (upd g6 25 0))), (h8, .inl (cI, 26, .inl (upd g7 25 0))), (h9, .inl (cI, 26, .inl (upd g8 25 0))), (h0, .inr (12, (((((((((((((((((((f0.set 0 (.int 0)).set 12 (.int 0)).set 2 (.int 0)).set 36 (.int 0)).set 37 (.int 0)).set 27 (.int 0)).set 31 (.int 0)).set 28 (.int 0)).set 66 (.int 25)).set 67 (.int 0)).set 76 (.int (-1))).set 83 (.int (-1))).set 83 (.int 0)).set 84 (.int 3)).set 84 (.int 4)).set 84 (.int 5)).set 31 (.int 1)).set 29 (.int 2)).set 30 (.int 0)))), (h10, .inl (cI, 16, .inl (upd g9 0 33))), (h11, .inl (cI, 16, .inl (upd g10 0 (-1)))), (h12, .inl (cI, 16, .inl (upd (upd g11 0 1) 0 1))), (h13, .inl (cJ, 16, .inr (.inl (vp_updL (vp_updL g12 0 1) 0 1)))), (h14, .inl (cI, 16, .inl (upd g13 0 (-1)))), (h3, .inl (cI, 2001, .inl (upd g2 0 0))), (h1, .inl (cI, 2001, .inl (upd g0 0 0)))] := hD
  refine lv_istore_n (lv' := [(2, .int 0), (0, .ref h0), (1, .int 0)]) hx hb dX12_extreme_24 rfl hl (by decide) rfl (fun ls hl => ?_)
  refine lv_aload_n hx hb dX12_extreme_25 rfl (lv_at hl 1 rfl) ?_
  refine va_get (D := D) (ref := "IntegerHouseModel") (ci := 12) (v := .int 1) (C := RX12) (T := TX12) (N := 195) hx hb hts hin12 hown hK hP 7 rfl rfl 31 (by decide) (hts (.fieldLink RX12 562 "IntegerHouseModel" "faulty" "Z") (List.mem_cons_of_mem _ (List.mem_append_left _ (List.mem_append_left _ (List.mem_of_getElem? (i := 0) rfl))))) (fun _ h9 => h9) (k_ne (by decide) (k_ne (by decide) (k_set (k_ne (by decide) (k_ne (by decide) (k_ne (by decide) (k_ne (by decide) (k_ne (by decide) (k_ne (by decide) (k_ne (by decide) (k_ne (by decide) (k_ne (by decide) (k_set (k_ne (by decide) (k_ne (by decide) (k_ne (by decide) (k_ne (by decide) (k_ne (by decide) (k_ne (by decide) e9))))))))))))))))))) dX12_extreme_26 ?_
  refine lv_if_ne (tgt := 45) hx hb dX12_extreme_29 (by decide) (fun _ => ?_) (fun c9 => absurd c9 (by decide))
  refine lv_iconst (v := 0) hx hb dX12_extreme_45 (by decide) ?_
  refine lv_istore_n (lv' := [(3, .int 0), (2, .int 0), (0, .ref h0), (1, .int 0)]) hx hb dX12_extreme_46 rfl hl (by decide) rfl (fun ls hl => ?_)
  refine lv_iconst (v := 0) hx hb dX12_extreme_47 (by decide) ?_
  refine lv_istore (lv' := [(4, .int 0), (3, .int 0), (2, .int 0), (0, .ref h0), (1, .int 0)]) hx hb dX12_extreme_48 hl (by decide) rfl (fun ls hl => ?_)
  refine lv_iload_n hx hb dX12_extreme_50 rfl (lv_at hl 1 rfl) ?_
  refine lv_if_eq (tgt := 79) hx hb dX12_extreme_51 (by decide) (fun _ => ?_) (fun c9 => absurd (by decide) c9)
  refine lv_aload_n hx hb dX12_extreme_79 rfl (lv_at hl 3 rfl) ?_
  refine va_get (D := D) (ref := "IntegerHouseModel") (ci := 12) (v := .int 1) (C := RX12) (T := TX12) (N := 195) hx hb hts hin12 hown hK hP 7 rfl rfl 31 (by decide) (hts (.fieldLink RX12 562 "IntegerHouseModel" "faulty" "Z") (List.mem_cons_of_mem _ (List.mem_append_left _ (List.mem_append_left _ (List.mem_of_getElem? (i := 0) rfl))))) (fun _ h9 => h9) (k_ne (by decide) (k_ne (by decide) (k_set (k_ne (by decide) (k_ne (by decide) (k_ne (by decide) (k_ne (by decide) (k_ne (by decide) (k_ne (by decide) (k_ne (by decide) (k_ne (by decide) (k_ne (by decide) (k_set (k_ne (by decide) (k_ne (by decide) (k_ne (by decide) (k_ne (by decide) (k_ne (by decide) (k_ne (by decide) e9))))))))))))))))))) dX12_extreme_80 ?_
  refine lv_if_ne (tgt := 102) hx hb dX12_extreme_83 (by decide) (fun _ => ?_) (fun c9 => absurd c9 (by decide))
  refine lv_aload_n hx hb dX12_extreme_102 rfl (lv_at hl 3 rfl) ?_
  refine va_get (D := D) (ref := "IntegerHouseModel") (ci := 12) (v := .int 1) (C := RX12) (T := TX12) (N := 195) hx hb hts hin12 hown hK hP 7 rfl rfl 31 (by decide) (hts (.fieldLink RX12 562 "IntegerHouseModel" "faulty" "Z") (List.mem_cons_of_mem _ (List.mem_append_left _ (List.mem_append_left _ (List.mem_of_getElem? (i := 0) rfl))))) (fun _ h9 => h9) (k_ne (by decide) (k_ne (by decide) (k_set (k_ne (by decide) (k_ne (by decide) (k_ne (by decide) (k_ne (by decide) (k_ne (by decide) (k_ne (by decide) (k_ne (by decide) (k_ne (by decide) (k_ne (by decide) (k_set (k_ne (by decide) (k_ne (by decide) (k_ne (by decide) (k_ne (by decide) (k_ne (by decide) (k_ne (by decide) e9))))))))))))))))))) dX12_extreme_103 ?_
  refine lv_if_ne (tgt := 123) hx hb dX12_extreme_106 (by decide) (fun _ => ?_) (fun c9 => absurd c9 (by decide))
  refine lv_aload_n hx hb dX12_extreme_123 rfl (lv_at hl 3 rfl) ?_
  refine k_cVi (As := []) (rest := []) (wc := [(h0, .inr (12, (((((((((((((((((((f0.set 0 (.int 0)).set 12 (.int 0)).set 2 (.int 0)).set 36 (.int 0)).set 37 (.int 0)).set 27 (.int 0)).set 31 (.int 0)).set 28 (.int 0)).set 66 (.int 25)).set 67 (.int 0)).set 76 (.int (-1))).set 83 (.int (-1))).set 83 (.int 0)).set 84 (.int 3)).set 84 (.int 4)).set 84 (.int 5)).set 31 (.int 1)).set 29 (.int 2)).set 30 (.int 0))))]) (wr := [(h2, .inl (cI, 2001, .inl (upd g1 0 0))), (h4, .inl (cI, 2001, .inl (upd g3 0 0))), (h5, .inl (cI, 26, .inl (upd g4 25 0))), (h6, .inl (cI, 26, .inl (upd g5 25 0))), (h7, .inl (cI, 26, .inl (upd g6 25 0))), (h8, .inl (cI, 26, .inl (upd g7 25 0))), (h9, .inl (cI, 26, .inl (upd g8 25 0))), (h10, .inl (cI, 16, .inl (upd g9 0 33))), (h11, .inl (cI, 16, .inl (upd g10 0 (-1)))), (h12, .inl (cI, 16, .inl (upd (upd g11 0 1) 0 1))), (h13, .inl (cJ, 16, .inr (.inl (vp_updL (vp_updL g12 0 1) 0 1)))), (h14, .inl (cI, 16, .inl (upd g13 0 (-1)))), (h3, .inl (cI, 2001, .inl (upd g2 0 0))), (h1, .inl (cI, 2001, .inl (upd g0 0 0)))]) (w1 := [(h0, .inr (12, ((((((((((((((((((((f0.set 0 (.int 0)).set 12 (.int 0)).set 2 (.int 0)).set 36 (.int 0)).set 37 (.int 0)).set 27 (.int 0)).set 31 (.int 0)).set 28 (.int 0)).set 66 (.int 25)).set 67 (.int 0)).set 76 (.int (-1))).set 83 (.int (-1))).set 83 (.int 0)).set 84 (.int 3)).set 84 (.int 4)).set 84 (.int 5)).set 31 (.int 1)).set 29 (.int 2)).set 30 (.int 0)).set 109 (.int 2))))]) ⟨hx, hb, hml, hown, hts⟩ hN hX hAE hK hP hD hS hA [7] [0, 1, 2, 3, 4, 5, 6, 8, 9, 10, 11, 12, 13, 14] (ci := 12) rfl rfl rfl rfl (by decide +kernel) (by decide +kernel) (by decide +kernel) (c_X12_told_0 l E D cI cJ cB cZ h0 ((((((((((((((((((((f0.set 0 (.int 0)).set 12 (.int 0)).set 2 (.int 0)).set 36 (.int 0)).set 37 (.int 0)).set 27 (.int 0)).set 31 (.int 0)).set 28 (.int 0)).set 66 (.int 25)).set 67 (.int 0)).set 76 (.int (-1))).set 83 (.int (-1))).set 83 (.int 0)).set 84 (.int 3)).set 84 (.int 4)).set 84 (.int 5)).set 31 (.int 1)).set 29 (.int 2)).set 30 (.int 0))) (k_ne (by decide) (k_ne (by decide) (k_ne (by decide) (k_ne (by decide) (k_ne (by decide) (k_ne (by decide) (k_ne (by decide) (k_ne (by decide) (k_ne (by decide) (k_ne (by decide) (k_ne (by decide) (k_ne (by decide) (k_ne (by decide) (k_ne (by decide) (k_ne (by decide) (k_ne (by decide) (k_ne (by decide) (k_ne (by decide) (k_ne (by decide) e33))))))))))))))))))) (k_ne (by decide) (k_set (k_ne (by decide) (k_ne (by decide) (k_ne (by decide) (k_ne (by decide) (k_ne (by decide) (k_ne (by decide) (k_ne (by decide) (k_ne (by decide) (k_ne (by decide) (k_ne (by decide) (k_ne (by decide) (k_ne (by decide) (k_ne (by decide) (k_ne (by decide) (k_ne (by decide) (k_ne (by decide) (k_ne (by decide) e30))))))))))))))))))) (k_ne (by decide) (k_ne (by decide) (k_ne (by decide) (k_ne (by decide) (k_ne (by decide) (k_ne (by decide) (k_ne (by decide) (k_ne (by decide) (k_ne (by decide) (k_ne (by decide) (k_ne (by decide) (k_ne (by decide) (k_ne (by decide) (k_ne (by decide) (k_ne (by decide) (k_ne (by decide) (k_ne (by decide) (k_ne (by decide) (k_ne (by decide) e34))))))))))))))))))) (k_set (k_ne (by decide) (k_ne (by decide) (k_ne (by decide) (k_ne (by decide) (k_ne (by decide) (k_ne (by decide) (k_ne (by decide) (k_ne (by decide) (k_ne (by decide) (k_ne (by decide) (k_ne (by decide) (k_ne (by decide) (k_ne (by decide) (k_ne (by decide) (k_ne (by decide) (k_ne (by decide) (k_ne (by decide) (k_ne (by decide) e31)))))))))))))))))))) (cwV 0 hts gX12_extreme_X12_told rfl rfl rfl (by decide +kernel) ⟨Nat.le_of_ble_eq_true rfl, Nat.le_of_ble_eq_true rfl⟩) rfl hl.1 (Nat.le_of_ble_eq_true rfl) dX12_extreme_124 ⟨Nat.le_of_ble_eq_true rfl, Nat.le_of_ble_eq_true rfl⟩ (fun H locs hP hD hS => ?_)
  have hP : va_P D vwCl [(h2, .inl (cI, 2001, .inl (upd g1 0 0))), (h4, .inl (cI, 2001, .inl (upd g3 0 0))), (h5, .inl (cI, 26, .inl (upd g4 25 0))), (h6, .inl (cI, 26, .inl (upd g5 25 0))), (h7, .inl (cI, 26, .inl (upd g6 25 0))), (h8, .inl (cI, 26, .inl (upd g7 25 0))), (h9, .inl (cI, 26, .inl (upd g8 25 0))), (h10, .inl (cI, 16, .inl (upd g9 0 33))), (h11, .inl (cI, 16, .inl (upd g10 0 (-1)))), (h12, .inl (cI, 16, .inl (upd (upd g11 0 1) 0 1))), (h13, .inl (cJ, 16, .inr (.inl (vp_updL (vp_updL g12 0 1) 0 1)))), (h14, .inl (cI, 16, .inl (upd g13 0 (-1)))), (h3, .inl (cI, 2001, .inl (upd g2 0 0))), (h1, .inl (cI, 2001, .inl (upd g0 0 0))), (h0, .inr (12, ((((((((((((((((((((f0.set 0 (.int 0)).set 12 (.int 0)).set 2 (.int 0)).set 36 (.int 0)).set 37 (.int 0)).set 27 (.int 0)).set 31 (.int 0)).set 28 (.int 0)).set 66 (.int 25)).set 67 (.int 0)).set 76 (.int (-1))).set 83 (.int (-1))).set 83 (.int 0)).set 84 (.int 3)).set 84 (.int 4)).set 84 (.int 5)).set 31 (.int 1)).set 29 (.int 2)).set 30 (.int 0)).set 109 (.int 2))))] H := hP
  have hD : va_D A [(h2, .inl (cI, 2001, .inl (upd g1 0 0))), (h4, .inl (cI, 2001, .inl (upd g3 0 0))), (h5, .inl (cI, 26, .inl (upd g4 25 0))), (h6, .inl (cI, 26, .inl (upd g5 25 0))), (h7, .inl (cI, 26, .inl (upd g6 25 0))), (h8, .inl (cI, 26, .inl (upd g7 25 0))), (h9, .inl (cI, 26, .inl (upd g8 25 0))), (h10, .inl (cI, 16, .inl (upd g9 0 33))), (h11, .inl (cI, 16, .inl (upd g10 0 (-1)))), (h12, .inl (cI, 16, .inl (upd (upd g11 0 1) 0 1))), (h13, .inl (cJ, 16, .inr (.inl (vp_updL (vp_updL g12 0 1) 0 1)))), (h14, .inl (cI, 16, .inl (upd g13 0 (-1)))), (h3, .inl (cI, 2001, .inl (upd g2 0 0))), (h1, .inl (cI, 2001, .inl (upd g0 0 0))), (h0, .inr (12, ((((((((((((((((((((f0.set 0 (.int 0)).set 12 (.int 0)).set 2 (.int 0)).set 36 (.int 0)).set 37 (.int 0)).set 27 (.int 0)).set 31 (.int 0)).set 28 (.int 0)).set 66 (.int 25)).set 67 (.int 0)).set 76 (.int (-1))).set 83 (.int (-1))).set 83 (.int 0)).set 84 (.int 3)).set 84 (.int 4)).set 84 (.int 5)).set 31 (.int 1)).set 29 (.int 2)).set 30 (.int 0)).set 109 (.int 2))))] := hD
  have hP := hP.sub (ws' := [(h0, .inr (12, ((((((((((((((((((((f0.set 0 (.int 0)).set 12 (.int 0)).set 2 (.int 0)).set 36 (.int 0)).set 37 (.int 0)).set 27 (.int 0)).set 31 (.int 0)).set 28 (.int 0)).set 66 (.int 25)).set 67 (.int 0)).set 76 (.int (-1))).set 83 (.int (-1))).set 83 (.int 0)).set 84 (.int 3)).set 84 (.int 4)).set 84 (.int 5)).set 31 (.int 1)).set 29 (.int 2)).set 30 (.int 0)).set 109 (.int 2)))), (h1, .inl (cI, 2001, .inl (upd g0 0 0))), (h2, .inl (cI, 2001, .inl (upd g1 0 0))), (h3, .inl (cI, 2001, .inl (upd g2 0 0))), (h4, .inl (cI, 2001, .inl (upd g3 0 0))), (h5, .inl (cI, 26, .inl (upd g4 25 0))), (h6, .inl (cI, 26, .inl (upd g5 25 0))), (h7, .inl (cI, 26, .inl (upd g6 25 0))), (h8, .inl (cI, 26, .inl (upd g7 25 0))), (h9, .inl (cI, 26, .inl (upd g8 25 0))), (h10, .inl (cI, 16, .inl (upd g9 0 33))), (h11, .inl (cI, 16, .inl (upd g10 0 (-1)))), (h12, .inl (cI, 16, .inl (upd (upd g11 0 1) 0 1))), (h13, .inl (cJ, 16, .inr (.inl (vp_updL (vp_updL g12 0 1) 0 1)))), (h14, .inl (cI, 16, .inl (upd g13 0 (-1))))]) [14, 13, 0, 12, 1, 2, 3, 4, 5, 6, 7, 8, 9, 10, 11] rfl
  have hD := hD.sub (ws' := [(h0, .inr (12, ((((((((((((((((((((f0.set 0 (.int 0)).set 12 (.int 0)).set 2 (.int 0)).set 36 (.int 0)).set 37 (.int 0)).set 27 (.int 0)).set 31 (.int 0)).set 28 (.int 0)).set 66 (.int 25)).set 67 (.int 0)).set 76 (.int (-1))).set 83 (.int (-1))).set 83 (.int 0)).set 84 (.int 3)).set 84 (.int 4)).set 84 (.int 5)).set 31 (.int 1)).set 29 (.int 2)).set 30 (.int 0)).set 109 (.int 2)))), (h1, .inl (cI, 2001, .inl (upd g0 0 0))), (h2, .inl (cI, 2001, .inl (upd g1 0 0))), (h3, .inl (cI, 2001, .inl (upd g2 0 0))), (h4, .inl (cI, 2001, .inl (upd g3 0 0))), (h5, .inl (cI, 26, .inl (upd g4 25 0))), (h6, .inl (cI, 26, .inl (upd g5 25 0))), (h7, .inl (cI, 26, .inl (upd g6 25 0))), (h8, .inl (cI, 26, .inl (upd g7 25 0))), (h9, .inl (cI, 26, .inl (upd g8 25 0))), (h10, .inl (cI, 16, .inl (upd g9 0 33))), (h11, .inl (cI, 16, .inl (upd g10 0 (-1)))), (h12, .inl (cI, 16, .inl (upd (upd g11 0 1) 0 1))), (h13, .inl (cJ, 16, .inr (.inl (vp_updL (vp_updL g12 0 1) 0 1)))), (h14, .inl (cI, 16, .inl (upd g13 0 (-1))))]) [14, 13, 0, 12, 1, 2, 3, 4, 5, 6, 7, 8, 9, 10, 11] (by decide +kernel) rfl
  exact W.iret (v := (-1000)) hx hb hr (fun t ht hW => ⟨⟨(-1000), (), rfl, rfl, kB_mk ht hW hP hK hD⟩, hS.F ht⟩) hS.2.2 dX12_extreme_127
set_option maxHeartbeats 400000000 in
set_option maxRecDepth 100000 in
theorem c_X11_number_0 (l : Launch) (E : kE) (D : va_G) (cI cJ cB cZ : ClassId) (h0 : Nat) (f0 : List Value) (h1 : Nat) (f1 : List Value) (e0 : f0[7]? = some (.ref h1)) (e1 : f1[13]? = some (.long 0)) : kJ l E D (kT cI cJ cB cZ) yX11_number wsX11_number ({ frames := 0, cells := 0, slots := 0, locals := 0 }) [.ref h0] [(h0, .inr (11, f0)), (h1, .inr (0, f1))] (0) [(h0, .inr (11, f0)), (h1, .inr (0, f1))] 0 0 := by
  intro sz
  refine Met.ofW (cc := cX11_number) (maxL := 1) (ret := (some .long)) (by decide) rfl ?_
  intro p e s m args below meth c s₁ B hml hv
  obtain ⟨rfl, hsz, hP, hK, hD0, hN, hX⟩ := hv
  have hx := B.exec
  have hb := B.bytes
  have hr := B.returns
  have hts := atoms_spec (ws := wsX11_number) B.pre
  have hown : s.vm.findClass RX11 = some m.cls := findClass_of_methodNamed B.named
  have hlocks := B.notSynchronized
  have hin11 : ∀ w ∈ wsX110, w ∈ wsX11_number := (fun w h => (List.mem_cons_of_mem _ (List.mem_append_left _ (List.mem_append_right _ h))))
  have hin0 : ∀ w ∈ wsX00, w ∈ wsX11_number := (fun w h => (List.mem_cons_of_mem _ (List.mem_append_right _ h)))
  subst hsz
  have hD := hD0.self (sz := s.heap.size)
  have hAE := k_AE hD0 hX
  generalize hAe : va_A [(h0, .inr (11, f0)), (h1, .inr (0, f1))] s.heap.size = A at hD hAE ⊢
  have hA : ∀ q : Nat, s.heap.size ≤ q → A q := fun q h => by rw [← hAe]; exact Or.inr h
  have hS : va_S A s.heap s.heap [] := va_S.rf
  have hP : va_P D vwCl [(h0, .inr (11, f0)), (h1, .inr (0, f1))] s.heap := hP
  have hl := lv_entry ([.ref h0] : List Value) (n := 1) (Nat.le_of_ble_eq_true rfl)
  rw [lg_entry_eq]
  generalize (lg_sl ([.ref h0]) ++ List.replicate (1 - (lg_sl ([.ref h0])).length) Slot.unset).toArray = ls at hl ⊢
  have hl : lv_has ls 1 [(0, .ref h0)] := hl
  refine lv_aload_n hx hb dX11_number_0 rfl (lv_at hl 0 rfl) ?_
  refine va_get (D := D) (ref := "IntegerHouse") (ci := 11) (v := .ref h1) (C := RX11) (T := TX11) (N := 15) hx hb hts hin11 hown hK hP 0 rfl rfl 7 (by decide) (hts (.fieldLink RX11 64 "IntegerHouse" "answers" "LIntegerHouse$Answers;") (List.mem_cons_of_mem _ (List.mem_append_left _ (List.mem_append_left _ (List.mem_of_getElem? (i := 0) rfl))))) (fun _ h9 => h9) e0 dX11_number_1 ?_
  refine va_getN (host := "IntegerHouse") (D := D) (ref := "IntegerHouse$Answers") (ci := 0) (v := .long 0) (C := RX0) (T := TX0) (N := 19) hx hb hts hin0 hown hK hP 1 rfl rfl 13 (by decide) (va_Nw.use rfl (hN.1 ("IntegerHouse", 335, "IntegerHouse$Answers", "toldNumber", "J", "IntegerHouse") (List.mem_of_getElem? (i := 36) rfl))) (fun _ h9 => h9) e1 dX11_number_4 ?_
  exact W.lret (v := 0) hx hb hr (fun t ht hW => ⟨⟨0, (), rfl, rfl, kB_mk ht hW hP hK hD⟩, hS.F ht⟩) hS.2.2 dX11_number_7
set_option maxHeartbeats 400000000 in
set_option maxRecDepth 100000 in
theorem c_X12_number_0 (l : Launch) (E : kE) (D : va_G) (cI cJ cB cZ : ClassId) (h0 : Nat) (f0 : List Value) (e0 : f0[0]? = some (.int 0)) (e1 : f0[144]? = some (.long 0)) : kJ l E D (kT cI cJ cB cZ) yX12_number wsX12_number ({ frames := 0, cells := 0, slots := 0, locals := 0 }) [.ref h0] [(h0, .inr (12, f0))] (0) [(h0, .inr (12, (f0.set 0 (.int 0))))] 0 0 := by
  intro sz
  refine Met.ofW (cc := cX12_number) (maxL := 1) (ret := (some .long)) (by decide) rfl ?_
  intro p e s m args below meth c s₁ B hml hv
  obtain ⟨rfl, hsz, hP, hK, hD0, hN, hX⟩ := hv
  have hx := B.exec
  have hb := B.bytes
  have hr := B.returns
  have hts := atoms_spec (ws := wsX12_number) B.pre
  have hown : s.vm.findClass RX12 = some m.cls := findClass_of_methodNamed B.named
  have hlocks := B.notSynchronized
  have hin12 : ∀ w ∈ wsX120, w ∈ wsX12_number := (fun w h => (List.mem_cons_of_mem _ (List.mem_append_right _ h)))
  subst hsz
  have hD := hD0.self (sz := s.heap.size)
  have hAE := k_AE hD0 hX
  generalize hAe : va_A [(h0, .inr (12, f0))] s.heap.size = A at hD hAE ⊢
  have hA : ∀ q : Nat, s.heap.size ≤ q → A q := fun q h => by rw [← hAe]; exact Or.inr h
  have hS : va_S A s.heap s.heap [] := va_S.rf
  have hP : va_P D vwCl [(h0, .inr (12, f0))] s.heap := hP
  have hl := lv_entry ([.ref h0] : List Value) (n := 1) (Nat.le_of_ble_eq_true rfl)
  rw [lg_entry_eq]
  generalize (lg_sl ([.ref h0]) ++ List.replicate (1 - (lg_sl ([.ref h0])).length) Slot.unset).toArray = ls at hl ⊢
  have hl : lv_has ls 1 [(0, .ref h0)] := hl
  refine lv_aload_n hx hb dX12_number_0 rfl (lv_at hl 0 rfl) ?_
  refine lv_iconst (v := 0) hx hb dX12_number_1 (by decide) ?_
  refine va_put (D := D) (ref := "IntegerHouseModel") (ci := 12) (v := .int 0) (ty := .int) (C := RX12) (T := TX12) (N := 195) hx hb hts hin12 tyX12 tyX12_ok nmX12 hown hK hP hD hS 0 rfl rfl 0 (by decide) (hts (.fieldLink RX12 3 "IntegerHouseModel" "thrown" "I") (List.mem_cons_of_mem _ (List.mem_append_left _ (List.mem_of_getElem? (i := 0) rfl)))) (fun _ h9 => h9) rfl (by decide +kernel) rfl rfl (k_len e0) dX12_number_2 (fun H locs hP hD hS => ?_)
  have hP : va_P D vwCl [(h0, .inr (12, (f0.set 0 (.int 0))))] H := hP
  have hD : va_D A [(h0, .inr (12, (f0.set 0 (.int 0))))] := hD
  refine lv_aload_n hx hb dX12_number_5 rfl (lv_at hl 0 rfl) ?_
  refine va_get (D := D) (ref := "IntegerHouseModel") (ci := 12) (v := .long 0) (C := RX12) (T := TX12) (N := 195) hx hb hts hin12 hown hK hP 0 rfl rfl 144 (by decide) (hts (.fieldLink RX12 1030 "IntegerHouseModel" "extremeTold" "J") (List.mem_cons_of_mem _ (List.mem_append_left _ (List.mem_of_getElem? (i := 1) rfl)))) (fun _ h9 => h9) (k_ne (by decide) e1) dX12_number_6 ?_
  exact W.lret (v := 0) hx hb hr (fun t ht hW => ⟨⟨0, (), rfl, rfl, kB_mk ht hW hP hK hD⟩, hS.F ht⟩) hS.2.2 dX12_number_9
set_option maxHeartbeats 400000000 in
set_option maxRecDepth 100000 in
theorem c_X6_behind_0 (l : Launch) (E : kE) (D : va_G) (cI cJ cB cZ : ClassId) (h0 : Nat) (f0 : List Value) (h1 : Nat) (g0 : Nat → Int32) (e0 : f0[7]? = some (.ref h1)) (e1 : g0 0 = 0) : kI l E D (kT cI cJ cB cZ) yX6_behind wsX6_behind ({ frames := 0, cells := 0, slots := 0, locals := 0 }) [.ref h0, .int 0, .int 0] [(h0, .inr (6, f0)), (h1, .inl (cI, 48000, .inl g0))] (0) [(h0, .inr (6, f0)), (h1, .inl (cI, 48000, .inl g0))] 0 0 := by
  intro sz
  refine Met.ofW (cc := cX6_behind) (maxL := 4) (ret := (some .int)) (by decide) rfl ?_
  intro p e s m args below meth c s₁ B hml hv
  obtain ⟨rfl, hsz, hP, hK, hD0, hN, hX⟩ := hv
  have hx := B.exec
  have hb := B.bytes
  have hr := B.returns
  have hts := atoms_spec (ws := wsX6_behind) B.pre
  have hown : s.vm.findClass RX6 = some m.cls := findClass_of_methodNamed B.named
  have hlocks := B.notSynchronized
  have hin6 : ∀ w ∈ wsX60, w ∈ wsX6_behind := (fun w h => (List.mem_cons_of_mem _ (List.mem_append_right _ h)))
  subst hsz
  have hD := hD0.self (sz := s.heap.size)
  have hAE := k_AE hD0 hX
  generalize hAe : va_A [(h0, .inr (6, f0)), (h1, .inl (cI, 48000, .inl g0))] s.heap.size = A at hD hAE ⊢
  have hA : ∀ q : Nat, s.heap.size ≤ q → A q := fun q h => by rw [← hAe]; exact Or.inr h
  have hS : va_S A s.heap s.heap [] := va_S.rf
  have hP : va_P D vwCl [(h0, .inr (6, f0)), (h1, .inl (cI, 48000, .inl g0))] s.heap := hP
  have hl := lv_entry ([.ref h0, .int 0, .int 0] : List Value) (n := 4) (Nat.le_of_ble_eq_true rfl)
  rw [lg_entry_eq]
  generalize (lg_sl ([.ref h0, .int 0, .int 0]) ++ List.replicate (4 - (lg_sl ([.ref h0, .int 0, .int 0])).length) Slot.unset).toArray = ls at hl ⊢
  have hl : lv_has ls 4 [(0, .ref h0), (1, .int 0), (2, .int 0)] := hl
  refine lv_iload_n hx hb dX6_behind_0 rfl (lv_at hl 1 rfl) ?_
  refine lv_if_lt (tgt := 25) hx hb dX6_behind_1 (by decide) (fun c9 => absurd c9 (by decide)) (fun _ => ?_)
  refine lv_iload_n hx hb dX6_behind_4 rfl (lv_at hl 1 rfl) ?_
  refine lv_sipush (v := 3000) hx hb dX6_behind_5 (by decide) ?_
  refine lv_icmp_ge (tgt := 25) hx hb dX6_behind_8 (by decide) (fun c9 => absurd c9 (by decide)) (fun _ => ?_)
  refine lv_iload_n hx hb dX6_behind_11 rfl (lv_at hl 2 rfl) ?_
  refine lv_if_lt (tgt := 25) hx hb dX6_behind_12 (by decide) (fun c9 => absurd c9 (by decide)) (fun _ => ?_)
  refine lv_iload_n hx hb dX6_behind_15 rfl (lv_at hl 2 rfl) ?_
  refine lv_bipush (v := 16) hx hb dX6_behind_16 (by decide) ?_
  refine lv_icmp_ge (tgt := 25) hx hb dX6_behind_18 (by decide) (fun c9 => absurd c9 (by decide)) (fun _ => ?_)
  refine lv_iconst (v := 1) hx hb dX6_behind_21 (by decide) ?_
  refine lv_goto (tgt := 26) hx hb dX6_behind_22 (by decide) ?_
  refine lv_istore_n (lv' := [(3, .int 1), (0, .ref h0), (1, .int 0), (2, .int 0)]) hx hb dX6_behind_26 rfl hl (by decide) rfl (fun ls hl => ?_)
  refine lv_iload_n hx hb dX6_behind_27 rfl (lv_at hl 0 rfl) ?_
  refine lv_if_eq (tgt := 45) hx hb dX6_behind_28 (by decide) (fun c9 => absurd c9 (by decide)) (fun _ => ?_)
  refine lv_aload_n hx hb dX6_behind_31 rfl (lv_at hl 1 rfl) ?_
  refine va_get (D := D) (ref := "IntegerHouse$Places") (ci := 6) (v := .ref h1) (C := RX6) (T := TX6) (N := 14) hx hb hts hin6 hown hK hP 0 rfl rfl 7 (by decide) (hts (.fieldLink RX6 35 "IntegerHouse$Places" "next" "[I") (List.mem_cons_of_mem _ (List.mem_append_left _ (List.mem_of_getElem? (i := 0) rfl)))) (fun _ h9 => h9) e0 dX6_behind_32 ?_
  refine lv_iload_n hx hb dX6_behind_35 rfl (lv_at hl 2 rfl) ?_
  refine lv_bipush (v := 16) hx hb dX6_behind_36 (by decide) ?_
  refine lv_imul hx hb dX6_behind_38 ?_
  refine k_topi (y := 0) (by decide) ?_
  refine lv_iload_n hx hb dX6_behind_39 rfl (lv_at hl 3 rfl) ?_
  refine lv_iadd hx hb dX6_behind_40 ?_
  refine k_topi (y := 0) (by decide) ?_
  refine va_iald hx hb hK hP 1 0 rfl rfl (k_in (by decide)) dX6_behind_41 ?_
  refine k_topi (y := 0) e1 ?_
  refine lv_goto (tgt := 46) hx hb dX6_behind_42 (by decide) ?_
  exact W.iret (v := 0) hx hb hr (fun t ht hW => ⟨⟨0, (), rfl, rfl, kB_mk ht hW hP hK hD⟩, hS.F ht⟩) hS.2.2 dX6_behind_46
set_option maxHeartbeats 400000000 in
set_option maxRecDepth 100000 in
theorem c_X0_farFrom_0 (l : Launch) (E : kE) (D : va_G) (cI cJ cB cZ : ClassId) (h0 : Nat) (f0 : List Value) (h1 : Nat) (g0 : Nat → Int32) (e0 : f0[4]? = some (.ref h1)) (e1 : g0 0 = 0) : kI l E D (kT cI cJ cB cZ) yX0_farFrom wsX0_farFrom ({ frames := 0, cells := 0, slots := 0, locals := 0 }) [.ref h0, .int 0] [(h0, .inr (0, f0)), (h1, .inl (cI, 3000, .inl g0))] (0) [(h0, .inr (0, f0)), (h1, .inl (cI, 3000, .inl g0))] 0 0 := by
  intro sz
  refine Met.ofW (cc := cX0_farFrom) (maxL := 2) (ret := (some .int)) (by decide) rfl ?_
  intro p e s m args below meth c s₁ B hml hv
  obtain ⟨rfl, hsz, hP, hK, hD0, hN, hX⟩ := hv
  have hx := B.exec
  have hb := B.bytes
  have hr := B.returns
  have hts := atoms_spec (ws := wsX0_farFrom) B.pre
  have hown : s.vm.findClass RX0 = some m.cls := findClass_of_methodNamed B.named
  have hlocks := B.notSynchronized
  have hin0 : ∀ w ∈ wsX00, w ∈ wsX0_farFrom := (fun w h => (List.mem_cons_of_mem _ (List.mem_append_right _ h)))
  subst hsz
  have hD := hD0.self (sz := s.heap.size)
  have hAE := k_AE hD0 hX
  generalize hAe : va_A [(h0, .inr (0, f0)), (h1, .inl (cI, 3000, .inl g0))] s.heap.size = A at hD hAE ⊢
  have hA : ∀ q : Nat, s.heap.size ≤ q → A q := fun q h => by rw [← hAe]; exact Or.inr h
  have hS : va_S A s.heap s.heap [] := va_S.rf
  have hP : va_P D vwCl [(h0, .inr (0, f0)), (h1, .inl (cI, 3000, .inl g0))] s.heap := hP
  have hl := lv_entry ([.ref h0, .int 0] : List Value) (n := 2) (Nat.le_of_ble_eq_true rfl)
  rw [lg_entry_eq]
  generalize (lg_sl ([.ref h0, .int 0]) ++ List.replicate (2 - (lg_sl ([.ref h0, .int 0])).length) Slot.unset).toArray = ls at hl ⊢
  have hl : lv_has ls 2 [(0, .ref h0), (1, .int 0)] := hl
  refine lv_iload_n hx hb dX0_farFrom_0 rfl (lv_at hl 1 rfl) ?_
  refine lv_if_lt (tgt := 20) hx hb dX0_farFrom_1 (by decide) (fun c9 => absurd c9 (by decide)) (fun _ => ?_)
  refine lv_iload_n hx hb dX0_farFrom_4 rfl (lv_at hl 1 rfl) ?_
  refine lv_sipush (v := 3000) hx hb dX0_farFrom_5 (by decide) ?_
  refine lv_icmp_ge (tgt := 20) hx hb dX0_farFrom_8 (by decide) (fun c9 => absurd c9 (by decide)) (fun _ => ?_)
  refine lv_aload_n hx hb dX0_farFrom_11 rfl (lv_at hl 0 rfl) ?_
  refine va_get (D := D) (ref := "IntegerHouse$Answers") (ci := 0) (v := .ref h1) (C := RX0) (T := TX0) (N := 19) hx hb hts hin0 hown hK hP 0 rfl rfl 4 (by decide) (hts (.fieldLink RX0 18 "IntegerHouse$Answers" "far" "[I") (List.mem_cons_of_mem _ (List.mem_append_left _ (List.mem_of_getElem? (i := 0) rfl)))) (fun _ h9 => h9) e0 dX0_farFrom_12 ?_
  refine lv_iload_n hx hb dX0_farFrom_15 rfl (lv_at hl 1 rfl) ?_
  refine va_iald hx hb hK hP 1 0 rfl rfl (k_in (by decide)) dX0_farFrom_16 ?_
  refine k_topi (y := 0) e1 ?_
  refine lv_goto (tgt := 21) hx hb dX0_farFrom_17 (by decide) ?_
  exact W.iret (v := 0) hx hb hr (fun t ht hW => ⟨⟨0, (), rfl, rfl, kB_mk ht hW hP hK hD⟩, hS.F ht⟩) hS.2.2 dX0_farFrom_21
set_option maxHeartbeats 400000000 in
set_option maxRecDepth 100000 in
theorem c_X0_mark_0 (l : Launch) (E : kE) (D : va_G) (cI cJ cB cZ : ClassId) (h0 : Nat) (f0 : List Value) (h1 : Nat) (g0 : Nat → Int32) (h2 : Nat) (f1 : List Value) (h3 : Nat) (g1 : Nat → Int32) (e0 : f0[4]? = some (.ref h1)) (e1 : g0 0 = 0) (e2 : f0[1]? = some (.ref h2)) (e3 : f1[12]? = some (.int 1)) (e4 : f1[7]? = some (.ref h3)) (e5 : g1 0 = 0) : kI l E D (kT cI cJ cB cZ) yX0_mark wsX0_mark ({ frames := 1, cells := 0, slots := 0, locals := 23 }) [.ref h0, .int 1, .int 0] [(h0, .inr (0, f0)), (h1, .inl (cI, 3000, .inl g0)), (h2, .inr (6, f1)), (h3, .inl (cI, 48000, .inl g1))] (0) [(h0, .inr (0, f0)), (h1, .inl (cI, 3000, .inl g0)), (h2, .inr (6, f1)), (h3, .inl (cI, 48000, .inl g1))] 0 0 := by
  intro sz
  refine Met.ofW (cc := cX0_mark) (maxL := 7) (ret := (some .boolean)) (by decide) rfl ?_
  intro p e s m args below meth c s₁ B hml hv
  obtain ⟨rfl, hsz, hP, hK, hD0, hN, hX⟩ := hv
  have hx := B.exec
  have hb := B.bytes
  have hr := B.returns
  have hts := atoms_spec (ws := wsX0_mark) B.pre
  have hown : s.vm.findClass RX0 = some m.cls := findClass_of_methodNamed B.named
  have hlocks := B.notSynchronized
  have hin0 : ∀ w ∈ wsX00, w ∈ wsX0_mark := (fun w h => (List.mem_cons_of_mem _ (List.mem_append_left _ (List.mem_append_right _ h))))
  have hin6 : ∀ w ∈ wsX60, w ∈ wsX0_mark := (fun w h => (List.mem_cons_of_mem _ (List.mem_append_right _ h)))
  subst hsz
  have hD := hD0.self (sz := s.heap.size)
  have hAE := k_AE hD0 hX
  generalize hAe : va_A [(h0, .inr (0, f0)), (h1, .inl (cI, 3000, .inl g0)), (h2, .inr (6, f1)), (h3, .inl (cI, 48000, .inl g1))] s.heap.size = A at hD hAE ⊢
  have hA : ∀ q : Nat, s.heap.size ≤ q → A q := fun q h => by rw [← hAe]; exact Or.inr h
  have hS : va_S A s.heap s.heap [] := va_S.rf
  have hP : va_P D vwCl [(h0, .inr (0, f0)), (h1, .inl (cI, 3000, .inl g0)), (h2, .inr (6, f1)), (h3, .inl (cI, 48000, .inl g1))] s.heap := hP
  have hl := lv_entry ([.ref h0, .int 1, .int 0] : List Value) (n := 7) (Nat.le_of_ble_eq_true rfl)
  rw [lg_entry_eq]
  generalize (lg_sl ([.ref h0, .int 1, .int 0]) ++ List.replicate (7 - (lg_sl ([.ref h0, .int 1, .int 0])).length) Slot.unset).toArray = ls at hl ⊢
  have hl : lv_has ls 7 [(0, .ref h0), (1, .int 1), (2, .int 0)] := hl
  refine lv_iconst (v := 0) hx hb dX0_mark_0 (by decide) ?_
  refine lv_istore_n (lv' := [(3, .int 0), (0, .ref h0), (1, .int 1), (2, .int 0)]) hx hb dX0_mark_1 rfl hl (by decide) rfl (fun ls hl => ?_)
  refine lv_iconst (v := 0) hx hb dX0_mark_2 (by decide) ?_
  refine lv_istore (lv' := [(4, .int 0), (3, .int 0), (0, .ref h0), (1, .int 1), (2, .int 0)]) hx hb dX0_mark_3 hl (by decide) rfl (fun ls hl => ?_)
  refine lv_iload hx hb dX0_mark_5 (lv_at hl 0 rfl) ?_
  refine lv_iload_n hx hb dX0_mark_7 rfl (lv_at hl 3 rfl) ?_
  refine lv_icmp_ge (tgt := 117) hx hb dX0_mark_8 (by decide) (fun c9 => absurd c9 (by decide)) (fun _ => ?_)
  refine lv_iload hx hb dX0_mark_11 (lv_at hl 0 rfl) ?_
  refine lv_sipush (v := 3000) hx hb dX0_mark_13 (by decide) ?_
  refine lv_icmp_ge (tgt := 117) hx hb dX0_mark_16 (by decide) (fun c9 => absurd c9 (by decide)) (fun _ => ?_)
  refine lv_aload_n hx hb dX0_mark_19 rfl (lv_at hl 2 rfl) ?_
  refine va_get (D := D) (ref := "IntegerHouse$Answers") (ci := 0) (v := .ref h1) (C := RX0) (T := TX0) (N := 19) hx hb hts hin0 hown hK hP 0 rfl rfl 4 (by decide) (hts (.fieldLink RX0 18 "IntegerHouse$Answers" "far" "[I") (List.mem_cons_of_mem _ (List.mem_append_left _ (List.mem_append_left _ (List.mem_of_getElem? (i := 0) rfl))))) (fun _ h9 => h9) e0 dX0_mark_20 ?_
  refine lv_iload hx hb dX0_mark_23 (lv_at hl 0 rfl) ?_
  refine va_iald hx hb hK hP 1 0 rfl rfl (k_in (by decide)) dX0_mark_25 ?_
  refine k_topi (y := 0) e1 ?_
  refine lv_iload_n hx hb dX0_mark_26 rfl (lv_at hl 4 rfl) ?_
  refine lv_icmp_ne (tgt := 111) hx hb dX0_mark_27 (by decide) (fun c9 => absurd (by decide) c9) (fun _ => ?_)
  refine lv_iconst (v := 0) hx hb dX0_mark_30 (by decide) ?_
  refine lv_istore (lv' := [(5, .int 0), (4, .int 0), (3, .int 0), (0, .ref h0), (1, .int 1), (2, .int 0)]) hx hb dX0_mark_31 hl (by decide) rfl (fun ls hl => ?_)
  refine lv_iconst (v := 0) hx hb dX0_mark_33 (by decide) ?_
  refine lv_istore (lv' := [(6, .int 0), (5, .int 0), (4, .int 0), (3, .int 0), (0, .ref h0), (1, .int 1), (2, .int 0)]) hx hb dX0_mark_34 hl (by decide) rfl (fun ls hl => ?_)
  refine lv_iload hx hb dX0_mark_36 (lv_at hl 0 rfl) ?_
  refine lv_aload_n hx hb dX0_mark_38 rfl (lv_at hl 4 rfl) ?_
  refine va_get (D := D) (ref := "IntegerHouse$Answers") (ci := 0) (v := .ref h2) (C := RX0) (T := TX0) (N := 19) hx hb hts hin0 hown hK hP 0 rfl rfl 1 (by decide) (hts (.fieldLink RX0 48 "IntegerHouse$Answers" "places" "LIntegerHouse$Places;") (List.mem_cons_of_mem _ (List.mem_append_left _ (List.mem_append_left _ (List.mem_of_getElem? (i := 1) rfl))))) (fun _ h9 => h9) e2 dX0_mark_39 ?_
  refine va_getN (host := "IntegerHouse") (D := D) (ref := "IntegerHouse$Places") (ci := 6) (v := .int 1) (C := RX6) (T := TX6) (N := 14) hx hb hts hin6 hown hK hP 2 rfl rfl 12 (by decide) (va_Nw.use rfl (hN.1 ("IntegerHouse$Answers", 92, "IntegerHouse$Places", "letters", "I", "IntegerHouse") (List.mem_of_getElem? (i := 31) rfl))) (fun _ h9 => h9) e3 dX0_mark_42 ?_
  refine lv_icmp_ge (tgt := 85) hx hb dX0_mark_45 (by decide) (fun c9 => absurd c9 (by decide)) (fun _ => ?_)
  refine lv_iload hx hb dX0_mark_48 (lv_at hl 1 rfl) ?_
  refine lv_if_ne (tgt := 85) hx hb dX0_mark_50 (by decide) (fun c9 => absurd (by decide) c9) (fun _ => ?_)
  refine lv_aload_n hx hb dX0_mark_53 rfl (lv_at hl 4 rfl) ?_
  refine lv_aload_n hx hb dX0_mark_54 rfl (lv_at hl 4 rfl) ?_
  refine va_get (D := D) (ref := "IntegerHouse$Answers") (ci := 0) (v := .ref h2) (C := RX0) (T := TX0) (N := 19) hx hb hts hin0 hown hK hP 0 rfl rfl 1 (by decide) (hts (.fieldLink RX0 48 "IntegerHouse$Answers" "places" "LIntegerHouse$Places;") (List.mem_cons_of_mem _ (List.mem_append_left _ (List.mem_append_left _ (List.mem_of_getElem? (i := 1) rfl))))) (fun _ h9 => h9) e2 dX0_mark_55 ?_
  refine lv_iload hx hb dX0_mark_58 (lv_at hl 2 rfl) ?_
  refine lv_iload hx hb dX0_mark_60 (lv_at hl 0 rfl) ?_
  refine k_cVi (As := [.int 0, .int 0]) (rest := [.ref h0]) (wc := [(h2, .inr (6, f1)), (h3, .inl (cI, 48000, .inl g1))]) (wr := [(h0, .inr (0, f0)), (h1, .inl (cI, 3000, .inl g0))]) (w1 := [(h2, .inr (6, f1)), (h3, .inl (cI, 48000, .inl g1))]) ⟨hx, hb, hml, hown, hts⟩ hN hX hAE hK hP hD hS hA [2, 3] [0, 1] (ci := 6) rfl rfl rfl rfl (by decide +kernel) (by decide +kernel) (by decide +kernel) (c_X6_behind_0 l E D cI cJ cB cZ h2 f1 h3 g1 e4 e5) (cwV 2 hts gX0_mark_X6_behind rfl rfl rfl (by decide +kernel) ⟨Nat.le_of_ble_eq_true rfl, Nat.le_of_ble_eq_true rfl⟩) rfl hl.1 (Nat.le_of_ble_eq_true rfl) dX0_mark_62 ⟨Nat.le_of_ble_eq_true rfl, Nat.le_of_ble_eq_true rfl⟩ (fun H locs hP hD hS => ?_)
  have hP : va_P D vwCl [(h0, .inr (0, f0)), (h1, .inl (cI, 3000, .inl g0)), (h2, .inr (6, f1)), (h3, .inl (cI, 48000, .inl g1))] H := hP
  have hD : va_D A [(h0, .inr (0, f0)), (h1, .inl (cI, 3000, .inl g0)), (h2, .inr (6, f1)), (h3, .inl (cI, 48000, .inl g1))] := hD
  refine k_cVi (As := [.int 0]) (rest := []) (wc := [(h0, .inr (0, f0)), (h1, .inl (cI, 3000, .inl g0))]) (wr := [(h2, .inr (6, f1)), (h3, .inl (cI, 48000, .inl g1))]) (w1 := [(h0, .inr (0, f0)), (h1, .inl (cI, 3000, .inl g0))]) ⟨hx, hb, hml, hown, hts⟩ hN hX hAE hK hP hD hS hA [0, 1] [2, 3] (ci := 0) rfl rfl rfl rfl (by decide +kernel) (by decide +kernel) (by decide +kernel) (c_X0_farFrom_0 l E D cI cJ cB cZ h0 f0 h1 g0 e0 e1) (cwV 1 hts gX0_mark_X0_farFrom rfl rfl rfl (by decide +kernel) ⟨Nat.le_of_ble_eq_true rfl, Nat.le_of_ble_eq_true rfl⟩) rfl hl.1 (Nat.le_of_ble_eq_true rfl) dX0_mark_65 ⟨Nat.le_of_ble_eq_true rfl, Nat.le_of_ble_eq_true rfl⟩ (fun H locs hP hD hS => ?_)
  have hP : va_P D vwCl [(h2, .inr (6, f1)), (h3, .inl (cI, 48000, .inl g1)), (h0, .inr (0, f0)), (h1, .inl (cI, 3000, .inl g0))] H := hP
  have hD : va_D A [(h2, .inr (6, f1)), (h3, .inl (cI, 48000, .inl g1)), (h0, .inr (0, f0)), (h1, .inl (cI, 3000, .inl g0))] := hD
  refine lv_iconst (v := 1) hx hb dX0_mark_68 (by decide) ?_
  refine lv_icmp_ne (tgt := 76) hx hb dX0_mark_69 (by decide) (fun _ => ?_) (fun c9 => absurd c9 (by decide))
  refine lv_iconst (v := 0) hx hb dX0_mark_76 (by decide) ?_
  refine lv_istore (lv' := [(5, .int 0), (6, .int 0), (4, .int 0), (3, .int 0), (0, .ref h0), (1, .int 1), (2, .int 0)]) hx hb dX0_mark_77 hl (by decide) rfl (fun ls hl => ?_)
  refine lv_iinc (v := 1) (lv' := [(6, .int 1), (5, .int 0), (4, .int 0), (3, .int 0), (0, .ref h0), (1, .int 1), (2, .int 0)]) hx hb dX0_mark_79 hl (k := 1) rfl (by decide) (by decide) rfl (fun ls hl => ?_)
  refine lv_goto (tgt := 36) hx hb dX0_mark_82 (by decide) ?_
  refine lv_iload hx hb dX0_mark_36 (lv_at hl 0 rfl) ?_
  refine lv_aload_n hx hb dX0_mark_38 rfl (lv_at hl 4 rfl) ?_
  refine va_get (D := D) (ref := "IntegerHouse$Answers") (ci := 0) (v := .ref h2) (C := RX0) (T := TX0) (N := 19) hx hb hts hin0 hown hK hP 2 rfl rfl 1 (by decide) (hts (.fieldLink RX0 48 "IntegerHouse$Answers" "places" "LIntegerHouse$Places;") (List.mem_cons_of_mem _ (List.mem_append_left _ (List.mem_append_left _ (List.mem_of_getElem? (i := 1) rfl))))) (fun _ h9 => h9) e2 dX0_mark_39 ?_
  refine va_getN (host := "IntegerHouse") (D := D) (ref := "IntegerHouse$Places") (ci := 6) (v := .int 1) (C := RX6) (T := TX6) (N := 14) hx hb hts hin6 hown hK hP 0 rfl rfl 12 (by decide) (va_Nw.use rfl (hN.1 ("IntegerHouse$Answers", 92, "IntegerHouse$Places", "letters", "I", "IntegerHouse") (List.mem_of_getElem? (i := 31) rfl))) (fun _ h9 => h9) e3 dX0_mark_42 ?_
  refine lv_icmp_ge (tgt := 85) hx hb dX0_mark_45 (by decide) (fun _ => ?_) (fun c9 => absurd (by decide) c9)
  refine lv_iload hx hb dX0_mark_85 (lv_at hl 1 rfl) ?_
  refine lv_iload_n hx hb dX0_mark_87 rfl (lv_at hl 6 rfl) ?_
  refine lv_if_ne (tgt := 95) hx hb dX0_mark_88 (by decide) (fun c9 => absurd (by decide) c9) (fun _ => ?_)
  refine lv_iconst (v := 1) hx hb dX0_mark_91 (by decide) ?_
  refine lv_goto (tgt := 96) hx hb dX0_mark_92 (by decide) ?_
  refine lv_icmp_ne (tgt := 111) hx hb dX0_mark_96 (by decide) (fun _ => ?_) (fun c9 => absurd c9 (by decide))
  refine lv_iinc (v := 1) (lv' := [(4, .int 1), (6, .int 1), (5, .int 0), (3, .int 0), (0, .ref h0), (1, .int 1), (2, .int 0)]) hx hb dX0_mark_111 hl (k := 2) rfl (by decide) (by decide) rfl (fun ls hl => ?_)
  refine lv_goto (tgt := 5) hx hb dX0_mark_114 (by decide) ?_
  refine lv_iload hx hb dX0_mark_5 (lv_at hl 0 rfl) ?_
  refine lv_iload_n hx hb dX0_mark_7 rfl (lv_at hl 5 rfl) ?_
  refine lv_icmp_ge (tgt := 117) hx hb dX0_mark_8 (by decide) (fun _ => ?_) (fun c9 => absurd (by decide) c9)
  refine lv_iload_n hx hb dX0_mark_117 rfl (lv_at hl 3 rfl) ?_
  have hP := hP.sub (ws' := [(h0, .inr (0, f0)), (h1, .inl (cI, 3000, .inl g0)), (h2, .inr (6, f1)), (h3, .inl (cI, 48000, .inl g1))]) [2, 3, 0, 1] rfl
  have hD := hD.sub (ws' := [(h0, .inr (0, f0)), (h1, .inl (cI, 3000, .inl g0)), (h2, .inr (6, f1)), (h3, .inl (cI, 48000, .inl g1))]) [2, 3, 0, 1] (by decide +kernel) rfl
  exact W.zret (v := 0) hx hb hr rfl (fun t ht hW => ⟨⟨0, (), rfl, rfl, kB_mk ht hW hP hK hD⟩, hS.F ht⟩) hS.2.2 dX0_mark_118
