abbrev cX1_recordAct : ByteArray := prog_3_method_13_code
def yX1_recordAct : MethodName := ⟨RX1, "recordAct", "(I)V"⟩
abbrev cX2_token : ByteArray := prog_4_method_16_code
def yX2_token : MethodName := ⟨RX2, "token", "(II)I"⟩
abbrev cX2_pooled : ByteArray := prog_4_method_20_code
def yX2_pooled : MethodName := ⟨RX2, "pooled", "(II)I"⟩
abbrev cX2_show : ByteArray := prog_4_method_24_code
def yX2_show : MethodName := ⟨RX2, "show", "(ILIntegerHouse$Lexer;)I"⟩
abbrev cX2_partnerOf : ByteArray := prog_4_method_25_code
def yX2_partnerOf : MethodName := ⟨RX2, "partnerOf", "(III)I"⟩
abbrev cX2_isNeeded : ByteArray := prog_4_method_26_code
def yX2_isNeeded : MethodName := ⟨RX2, "isNeeded", "(III)Z"⟩
abbrev cX2_tightness : ByteArray := prog_4_method_27_code
def yX2_tightness : MethodName := ⟨RX2, "tightness", "(I)I"⟩
abbrev cX2_within : ByteArray := prog_4_method_28_code
def yX2_within : MethodName := ⟨RX2, "within", "(III)I"⟩
abbrev cX2_isAllWithin : ByteArray := prog_4_method_29_code
def yX2_isAllWithin : MethodName := ⟨RX2, "isAllWithin", "(III)Z"⟩
abbrev cX2_showToken : ByteArray := prog_4_method_30_code
def yX2_showToken : MethodName := ⟨RX2, "showToken", "(ILIntegerHouse$Lexer;)V"⟩
abbrev cX2_showByte : ByteArray := prog_4_method_31_code
def yX2_showByte : MethodName := ⟨RX2, "showByte", "(I)V"⟩
abbrev cX3_spelled : ByteArray := prog_5_method_16_code
def yX3_spelled : MethodName := ⟨RX3, "spelled", "(I)J"⟩
abbrev cX3_spelledNumber : ByteArray := prog_5_method_17_code
def yX3_spelledNumber : MethodName := ⟨RX3, "spelledNumber", "(I)J"⟩
abbrev cX8_readName : ByteArray := prog_10_method_3_code
def yX8_readName : MethodName := ⟨RX8, "readName", "([BI)I"⟩
abbrev cX11_push : ByteArray := prog_1_method_18_code
def yX11_push : MethodName := ⟨RX11, "push", "()I"⟩
abbrev cX11_pop : ByteArray := prog_1_method_19_code
def yX11_pop : MethodName := ⟨RX11, "pop", "()I"⟩
abbrev cX11_find : ByteArray := prog_1_method_20_code
def yX11_find : MethodName := ⟨RX11, "find", "()I"⟩
abbrev cX11_about : ByteArray := prog_1_method_21_code
def yX11_about : MethodName := ⟨RX11, "about", "(II)I"⟩
abbrev cX11_atom : ByteArray := prog_1_method_22_code
def yX11_atom : MethodName := ⟨RX11, "atom", "(III)I"⟩
abbrev cX11_print : ByteArray := prog_1_method_23_code
def yX11_print : MethodName := ⟨RX11, "print", "(I)I"⟩
abbrev cX12_on : ByteArray := prog_14_method_94_code
def yX12_on : MethodName := ⟨RX12, "on", "(IZ)I"⟩
abbrev cX12_push : ByteArray := prog_14_method_95_code
def yX12_push : MethodName := ⟨RX12, "push", "()I"⟩
abbrev cX12_pop : ByteArray := prog_14_method_96_code
def yX12_pop : MethodName := ⟨RX12, "pop", "()I"⟩
abbrev cX12_asks : ByteArray := prog_14_method_98_code
def yX12_asks : MethodName := ⟨RX12, "asks", "()Z"⟩
abbrev cX12_isClaim : ByteArray := prog_14_method_99_code
def yX12_isClaim : MethodName := ⟨RX12, "isClaim", "(I)Z"⟩
abbrev cX12_begin : ByteArray := prog_14_method_100_code
def yX12_begin : MethodName := ⟨RX12, "begin", "()V"⟩
abbrev cX12_find : ByteArray := prog_14_method_101_code
def yX12_find : MethodName := ⟨RX12, "find", "()I"⟩
abbrev cX12_about : ByteArray := prog_14_method_102_code
def yX12_about : MethodName := ⟨RX12, "about", "(II)I"⟩
abbrev cX12_atom : ByteArray := prog_14_method_103_code
def yX12_atom : MethodName := ⟨RX12, "atom", "(III)I"⟩
abbrev cX12_printByte : ByteArray := prog_14_method_104_code
def yX12_printByte : MethodName := ⟨RX12, "printByte", "(I)V"⟩
abbrev cX12_printBlank : ByteArray := prog_14_method_105_code
def yX12_printBlank : MethodName := ⟨RX12, "printBlank", "()V"⟩
abbrev cX12_printText : ByteArray := prog_14_method_106_code
def yX12_printText : MethodName := ⟨RX12, "printText", "(Ljava/lang/String;)V"⟩
abbrev cX12_printTokens : ByteArray := prog_14_method_107_code
def yX12_printTokens : MethodName := ⟨RX12, "printTokens", "(III)V"⟩
abbrev cX12_rank : ByteArray := prog_14_method_108_code
def yX12_rank : MethodName := ⟨RX12, "rank", "(I)I"⟩
abbrev cX12_later : ByteArray := prog_14_method_109_code
def yX12_later : MethodName := ⟨RX12, "later", "(I)V"⟩
abbrev cX12_laterPart : ByteArray := prog_14_method_110_code
def yX12_laterPart : MethodName := ⟨RX12, "laterPart", "(II)V"⟩
abbrev cX12_printNode : ByteArray := prog_14_method_111_code
def yX12_printNode : MethodName := ⟨RX12, "printNode", "(II)V"⟩
abbrev cX12_print : ByteArray := prog_14_method_112_code
def yX12_print : MethodName := ⟨RX12, "print", "(I)I"⟩
def wsX1_recordAct : List Cond := .code yX1_recordAct cX1_recordAct 2 none :: ([.methodLink RX1 50 yX1_await, .instanceMethod yX1_await, .selects RX1 yX1_await yX1_await, .initialized RX1, .code yX1_await cX1_await 2 none, .fieldLink RX1 40 "IntegerHouse$Disk" "waiting" "I", .fieldLink RX1 22 "IntegerHouse$Disk" "waits" "[B"] ++ wsX10)
def wsX2_addLayer : List Cond := .code yX2_addLayer cX2_addLayer 2 (some .boolean) :: ([.fieldLink RX2 48 "IntegerHouse$House" "layers" "I", .fieldLink RX2 37 "IntegerHouse$House" "marks" "[I", .fieldLink RX2 52 "IntegerHouse$House" "variables" "I", .fieldLink RX2 55 "IntegerHouse$House" "claims" "I", .fieldLink RX2 58 "IntegerHouse$House" "poolSize" "I", .fieldLink RX2 61 "IntegerHouse$House" "on" "I"] ++ wsX20)
def wsX2_claimOf : List Cond := .code yX2_claimOf cX2_claimOf 4 (some .int) :: ([.fieldLink RX2 55 "IntegerHouse$House" "claims" "I", .fieldLink RX2 15 "IntegerHouse$House" "claimNames" "[J"] ++ wsX20)
def wsX3_nameAt : List Cond := .code yX3_nameAt cX3_nameAt 2 (some .long) :: ([.fieldLink RX3 48 "IntegerHouse$Lexer" "size" "I", .fieldLink RX3 25 "IntegerHouse$Lexer" "names" "[J"] ++ wsX30)
def wsX8_fail : List Cond := .code yX8_fail cX8_fail 2 none :: ([.fieldLink RX8 62 "IntegerHouse$Reader" "faultKind" "I", .fieldLink RX8 39 "IntegerHouse$Reader" "kind" "I", .fieldLink RX8 136 "IntegerHouse$Reader" "place" "I", .fieldLink RX8 123 "IntegerHouse$Reader" "faultPlace" "I"] ++ wsX80)
def wsX8_readName_r1 : List Cond := [Cond.fieldLink RX8 15 "IntegerHouse$Reader" "house" "LIntegerHouse$House;", Cond.fieldLink RX8 9 "IntegerHouse$Reader" "lexer" "LIntegerHouse$Lexer;", Cond.fieldLink RX8 79 "IntegerHouse$Reader" "at" "I", Cond.fieldLink RX8 39 "IntegerHouse$Reader" "kind" "I", Cond.fieldLink RX8 62 "IntegerHouse$Reader" "faultKind" "I", Cond.methodLink RX8 23 yX8_begin, Cond.instanceMethod yX8_begin, Cond.selects RX8 yX8_begin yX8_begin, Cond.initialized RX8, Cond.code yX8_begin cX8_begin 4 none, Cond.fieldLink RX8 123 "IntegerHouse$Reader" "faultPlace" "I", Cond.fieldLink RX8 101 "IntegerHouse$Reader" "hasFormula" "Z", Cond.methodLink RX8 119 yX3_scan, Cond.instanceMethod yX3_scan, Cond.selects RX3 yX3_scan yX3_scan, Cond.initialized RX3, Cond.code yX3_scan cX3_scan 9 none, Cond.fieldLink RX3 28 "IntegerHouse$Lexer" "source" "[B", Cond.fieldLink RX3 55 "IntegerHouse$Lexer" "begin" "I", Cond.fieldLink RX3 52 "IntegerHouse$Lexer" "stop" "I", Cond.fieldLink RX3 48 "IntegerHouse$Lexer" "size" "I", Cond.fieldLink RX3 19 "IntegerHouse$Lexer" "spots" "[I", Cond.fieldLink RX3 15 "IntegerHouse$Lexer" "kinds" "[I", Cond.methodLink RX3 59 yX3_behindBlanks]
def wsX8_readName_r2 : List Cond := [Cond.instanceMethod yX3_behindBlanks, Cond.selects RX3 yX3_behindBlanks yX3_behindBlanks, Cond.code yX3_behindBlanks cX3_behindBlanks 3 (some .int), Cond.methodLink RX3 63 yX3_byteAt, Cond.instanceMethod yX3_byteAt, Cond.selects RX3 yX3_byteAt yX3_byteAt, Cond.code yX3_byteAt cX3_byteAt 2 (some .int), Cond.methodLink RX3 66 yX3_isLetter, Cond.static yX3_isLetter, Cond.code yX3_isLetter cX3_isLetter 1 (some .boolean), Cond.methodLink RX3 70 yX3_word, Cond.instanceMethod yX3_word, Cond.selects RX3 yX3_word yX3_word, Cond.code yX3_word cX3_word 9 (some .int), Cond.fieldLink RX3 11 "IntegerHouse$Lexer" "words" "[J", Cond.fieldLink RX3 25 "IntegerHouse$Lexer" "names" "[J", Cond.methodLink RX3 74 yX3_isDigit, Cond.static yX3_isDigit, Cond.code yX3_isDigit cX3_isDigit 1 (some .boolean), Cond.methodLink RX3 77 yX3_digits, Cond.instanceMethod yX3_digits, Cond.selects RX3 yX3_digits yX3_digits, Cond.code yX3_digits cX3_digits 6 (some .int), Cond.fieldLink RX3 22 "IntegerHouse$Lexer" "numbers" "[I"]
def wsX8_readName_r3 : List Cond := [Cond.methodLink RX3 81 yX3_sign, Cond.instanceMethod yX3_sign, Cond.selects RX3 yX3_sign yX3_sign, Cond.code yX3_sign cX3_sign 6 (some .int), Cond.methodLink RX3 44 yJ0_charAt_5068e, Cond.instanceMethod yJ0_charAt_5068e, Cond.selects RJ0 yJ0_charAt_5068e yJ0_charAt_5068e, Cond.initialized RJ0, Cond.code yJ0_charAt_5068e cJ0_charAt_5068e 2 (some .char), Cond.fieldLink RJ0 9 "java/lang/String" "value" "[B", Cond.methodLink RJ0 492 yJ0_isLatin1_aae02, Cond.instanceMethod yJ0_isLatin1_aae02, Cond.selects RJ0 yJ0_isLatin1_aae02 yJ0_isLatin1_aae02, Cond.code yJ0_isLatin1_aae02 cJ0_isLatin1_aae02 1 (some .boolean), Cond.fieldLink RJ0 38 "java/lang/String" "COMPACT_STRINGS" "Z", Cond.fieldLink RJ0 15 "java/lang/String" "coder" "B", Cond.methodLink RJ0 495 yJ1_charAt_3b067, Cond.static yJ1_charAt_3b067, Cond.initialized RJ1, Cond.code yJ1_charAt_3b067 cJ1_charAt_3b067 2 (some .char), Cond.methodLink RJ1 9 yJ0_checkIndex_df160, Cond.static yJ0_checkIndex_df160, Cond.code yJ0_checkIndex_df160 cJ0_checkIndex_df160 2 none, Cond.fieldLink RJ0 1053 "jdk/internal/util/Preconditions" "SIOOBE_FORMATTER" "Ljava/util/function/BiFunction;"]
def wsX8_readName_r4 : List Cond := [Cond.methodLink RJ0 1059 yJ3_checkIndex_8e157, Cond.static yJ3_checkIndex_8e157, Cond.initialized RJ3, Cond.code yJ3_checkIndex_8e157 cJ3_checkIndex_8e157 3 (some .int), Cond.methodLink RJ0 498 yJ2_charAt_3b067, Cond.static yJ2_charAt_3b067, Cond.initialized RJ2, Cond.code yJ2_charAt_3b067 cJ2_charAt_3b067 2 (some .char), Cond.methodLink RJ2 67 yJ2_checkIndex_2214a, Cond.static yJ2_checkIndex_2214a, Cond.code yJ2_checkIndex_2214a cJ2_checkIndex_2214a 2 none, Cond.methodLink RJ2 48 yJ2_length_9d52b, Cond.static yJ2_length_9d52b, Cond.code yJ2_length_9d52b cJ2_length_9d52b 1 (some .int), Cond.methodLink RJ2 414 yJ0_checkIndex_df160, Cond.methodLink RJ2 71 yJ2_getChar_3b067, Cond.static yJ2_getChar_3b067, Cond.code yJ2_getChar_3b067 cJ2_getChar_3b067 2 (some .char), Cond.fieldLink RJ2 44 "java/lang/StringUTF16" "$assertionsDisabled" "Z", Cond.fieldLink RJ2 59 "java/lang/StringUTF16" "HI_BYTE_SHIFT" "I", Cond.fieldLink RJ2 63 "java/lang/StringUTF16" "LO_BYTE_SHIFT" "I", Cond.methodLink RX8 98 yX8_next, Cond.instanceMethod yX8_next, Cond.selects RX8 yX8_next yX8_next]
def wsX8_readName_r5 : List Cond := [Cond.code yX8_next cX8_next 1 none, Cond.fieldLink RX8 136 "IntegerHouse$Reader" "place" "I", Cond.methodLink RX8 82 yX3_nameAt, Cond.instanceMethod yX3_nameAt, Cond.selects RX3 yX3_nameAt yX3_nameAt, Cond.code yX3_nameAt cX3_nameAt 2 (some .long), Cond.methodLink RX8 88 yX2_claimOf, Cond.instanceMethod yX2_claimOf, Cond.selects RX2 yX2_claimOf yX2_claimOf, Cond.initialized RX2, Cond.code yX2_claimOf cX2_claimOf 4 (some .int), Cond.fieldLink RX2 55 "IntegerHouse$House" "claims" "I", Cond.fieldLink RX2 15 "IntegerHouse$House" "claimNames" "[J", Cond.methodLink RX8 92 yX2_variableOf, Cond.instanceMethod yX2_variableOf, Cond.selects RX2 yX2_variableOf yX2_variableOf, Cond.code yX2_variableOf cX2_variableOf 4 (some .int), Cond.fieldLink RX2 52 "IntegerHouse$House" "variables" "I", Cond.fieldLink RX2 9 "IntegerHouse$House" "variableNames" "[J", Cond.methodLink RX8 95 yX8_fail, Cond.instanceMethod yX8_fail, Cond.selects RX8 yX8_fail yX8_fail, Cond.code yX8_fail cX8_fail 2 none, Cond.methodLink RX8 59 yX8_expectEnd]
def wsX8_readName_r6 : List Cond := [Cond.instanceMethod yX8_expectEnd, Cond.selects RX8 yX8_expectEnd yX8_expectEnd, Cond.code yX8_expectEnd cX8_expectEnd 1 none]
def wsX8_readName : List Cond := .code yX8_readName cX8_readName 4 (some .int) :: ((wsX8_readName_r1 ++ (wsX8_readName_r2 ++ (wsX8_readName_r3 ++ (wsX8_readName_r4 ++ (wsX8_readName_r5 ++ wsX8_readName_r6))))) ++ wsX80 ++ wsX30 ++ wsX20)
def wsX11_faulted : List Cond := .code yX11_faulted cX11_faulted 1 (some .int) :: ([.fieldLink RX11 48 "IntegerHouse" "reader" "LIntegerHouse$Reader;", .fieldLink RX11 253 "IntegerHouse" "latestFault" "I"] ++ wsX110 ++ wsX80)
def wsX11_push_r1 : List Cond := [Cond.fieldLink RX11 16 "IntegerHouse" "disk" "LIntegerHouse$Disk;", Cond.fieldLink RX11 23 "IntegerHouse" "house" "LIntegerHouse$House;", Cond.fieldLink RX11 137 "IntegerHouse" "acts" "I", Cond.methodLink RX11 239 yX1_hasRoom, Cond.instanceMethod yX1_hasRoom, Cond.selects RX1 yX1_hasRoom yX1_hasRoom, Cond.initialized RX1, Cond.code yX1_hasRoom cX1_hasRoom 2 (some .boolean), Cond.fieldLink RX1 40 "IntegerHouse$Disk" "waiting" "I", Cond.fieldLink RX1 43 "IntegerHouse$Disk" "used" "I", Cond.methodLink RX11 184 yX2_addLayer, Cond.instanceMethod yX2_addLayer, Cond.selects RX2 yX2_addLayer yX2_addLayer, Cond.initialized RX2, Cond.code yX2_addLayer cX2_addLayer 2 (some .boolean), Cond.fieldLink RX2 48 "IntegerHouse$House" "layers" "I", Cond.fieldLink RX2 37 "IntegerHouse$House" "marks" "[I", Cond.fieldLink RX2 52 "IntegerHouse$House" "variables" "I", Cond.fieldLink RX2 55 "IntegerHouse$House" "claims" "I", Cond.fieldLink RX2 58 "IntegerHouse$House" "poolSize" "I", Cond.fieldLink RX2 61 "IntegerHouse$House" "on" "I", Cond.methodLink RX11 263 yX1_recordAct, Cond.instanceMethod yX1_recordAct, Cond.selects RX1 yX1_recordAct yX1_recordAct]
def wsX11_push_r2 : List Cond := [Cond.code yX1_recordAct cX1_recordAct 2 none, Cond.methodLink RX1 50 yX1_await, Cond.instanceMethod yX1_await, Cond.selects RX1 yX1_await yX1_await, Cond.code yX1_await cX1_await 2 none, Cond.fieldLink RX1 22 "IntegerHouse$Disk" "waits" "[B"]
def wsX11_push : List Cond := .code yX11_push cX11_push 1 (some .int) :: ((wsX11_push_r1 ++ wsX11_push_r2) ++ wsX110 ++ wsX10 ++ wsX20)
def wsX11_pop_r1 : List Cond := [Cond.fieldLink RX11 16 "IntegerHouse" "disk" "LIntegerHouse$Disk;", Cond.fieldLink RX11 23 "IntegerHouse" "house" "LIntegerHouse$House;", Cond.fieldLink RX11 137 "IntegerHouse" "acts" "I", Cond.methodLink RX11 239 yX1_hasRoom, Cond.instanceMethod yX1_hasRoom, Cond.selects RX1 yX1_hasRoom yX1_hasRoom, Cond.initialized RX1, Cond.code yX1_hasRoom cX1_hasRoom 2 (some .boolean), Cond.fieldLink RX1 40 "IntegerHouse$Disk" "waiting" "I", Cond.fieldLink RX1 43 "IntegerHouse$Disk" "used" "I", Cond.methodLink RX11 188 yX2_leaveLayer, Cond.instanceMethod yX2_leaveLayer, Cond.selects RX2 yX2_leaveLayer yX2_leaveLayer, Cond.initialized RX2, Cond.code yX2_leaveLayer cX2_leaveLayer 2 (some .boolean), Cond.fieldLink RX2 48 "IntegerHouse$House" "layers" "I", Cond.fieldLink RX2 37 "IntegerHouse$House" "marks" "[I", Cond.fieldLink RX2 61 "IntegerHouse$House" "on" "I", Cond.methodLink RX2 44 yX2_cutBack, Cond.instanceMethod yX2_cutBack, Cond.selects RX2 yX2_cutBack yX2_cutBack, Cond.code yX2_cutBack cX2_cutBack 4 none, Cond.fieldLink RX2 52 "IntegerHouse$House" "variables" "I", Cond.fieldLink RX2 55 "IntegerHouse$House" "claims" "I"]
def wsX11_pop_r2 : List Cond := [Cond.fieldLink RX2 58 "IntegerHouse$House" "poolSize" "I", Cond.methodLink RX11 263 yX1_recordAct, Cond.instanceMethod yX1_recordAct, Cond.selects RX1 yX1_recordAct yX1_recordAct, Cond.code yX1_recordAct cX1_recordAct 2 none, Cond.methodLink RX1 50 yX1_await, Cond.instanceMethod yX1_await, Cond.selects RX1 yX1_await yX1_await, Cond.code yX1_await cX1_await 2 none, Cond.fieldLink RX1 22 "IntegerHouse$Disk" "waits" "[B"]
def wsX11_pop : List Cond := .code yX11_pop cX11_pop 1 (some .int) :: ((wsX11_pop_r1 ++ wsX11_pop_r2) ++ wsX110 ++ wsX10 ++ wsX20)
def wsX11_find_r1 : List Cond := [Cond.fieldLink RX11 16 "IntegerHouse" "disk" "LIntegerHouse$Disk;", Cond.fieldLink RX11 48 "IntegerHouse" "reader" "LIntegerHouse$Reader;", Cond.fieldLink RX11 9 "IntegerHouse" "tape" "[B", Cond.methodLink RX11 230 yX11_useTape, Cond.instanceMethod yX11_useTape, Cond.selects RX11 yX11_useTape yX11_useTape, Cond.initialized RX11, Cond.code yX11_useTape cX11_useTape 2 (some .int), Cond.fieldLink RX11 102 "IntegerHouse" "tapeLength" "I", Cond.methodLink RX11 266 yX8_readName, Cond.instanceMethod yX8_readName, Cond.selects RX8 yX8_readName yX8_readName, Cond.initialized RX8, Cond.code yX8_readName cX8_readName 4 (some .int), Cond.fieldLink RX8 15 "IntegerHouse$Reader" "house" "LIntegerHouse$House;", Cond.fieldLink RX8 9 "IntegerHouse$Reader" "lexer" "LIntegerHouse$Lexer;", Cond.fieldLink RX8 79 "IntegerHouse$Reader" "at" "I", Cond.fieldLink RX8 39 "IntegerHouse$Reader" "kind" "I", Cond.fieldLink RX8 62 "IntegerHouse$Reader" "faultKind" "I", Cond.methodLink RX8 23 yX8_begin, Cond.instanceMethod yX8_begin, Cond.selects RX8 yX8_begin yX8_begin, Cond.code yX8_begin cX8_begin 4 none, Cond.fieldLink RX8 123 "IntegerHouse$Reader" "faultPlace" "I"]
def wsX11_find_r2 : List Cond := [Cond.fieldLink RX8 101 "IntegerHouse$Reader" "hasFormula" "Z", Cond.methodLink RX8 119 yX3_scan, Cond.instanceMethod yX3_scan, Cond.selects RX3 yX3_scan yX3_scan, Cond.initialized RX3, Cond.code yX3_scan cX3_scan 9 none, Cond.fieldLink RX3 28 "IntegerHouse$Lexer" "source" "[B", Cond.fieldLink RX3 55 "IntegerHouse$Lexer" "begin" "I", Cond.fieldLink RX3 52 "IntegerHouse$Lexer" "stop" "I", Cond.fieldLink RX3 48 "IntegerHouse$Lexer" "size" "I", Cond.fieldLink RX3 19 "IntegerHouse$Lexer" "spots" "[I", Cond.fieldLink RX3 15 "IntegerHouse$Lexer" "kinds" "[I", Cond.methodLink RX3 59 yX3_behindBlanks, Cond.instanceMethod yX3_behindBlanks, Cond.selects RX3 yX3_behindBlanks yX3_behindBlanks, Cond.code yX3_behindBlanks cX3_behindBlanks 3 (some .int), Cond.methodLink RX3 63 yX3_byteAt, Cond.instanceMethod yX3_byteAt, Cond.selects RX3 yX3_byteAt yX3_byteAt, Cond.code yX3_byteAt cX3_byteAt 2 (some .int), Cond.methodLink RX3 66 yX3_isLetter, Cond.static yX3_isLetter, Cond.code yX3_isLetter cX3_isLetter 1 (some .boolean), Cond.methodLink RX3 70 yX3_word]
def wsX11_find_r3 : List Cond := [Cond.instanceMethod yX3_word, Cond.selects RX3 yX3_word yX3_word, Cond.code yX3_word cX3_word 9 (some .int), Cond.fieldLink RX3 11 "IntegerHouse$Lexer" "words" "[J", Cond.fieldLink RX3 25 "IntegerHouse$Lexer" "names" "[J", Cond.methodLink RX3 74 yX3_isDigit, Cond.static yX3_isDigit, Cond.code yX3_isDigit cX3_isDigit 1 (some .boolean), Cond.methodLink RX3 77 yX3_digits, Cond.instanceMethod yX3_digits, Cond.selects RX3 yX3_digits yX3_digits, Cond.code yX3_digits cX3_digits 6 (some .int), Cond.fieldLink RX3 22 "IntegerHouse$Lexer" "numbers" "[I", Cond.methodLink RX3 81 yX3_sign, Cond.instanceMethod yX3_sign, Cond.selects RX3 yX3_sign yX3_sign, Cond.code yX3_sign cX3_sign 6 (some .int), Cond.methodLink RX3 44 yJ0_charAt_5068e, Cond.instanceMethod yJ0_charAt_5068e, Cond.selects RJ0 yJ0_charAt_5068e yJ0_charAt_5068e, Cond.initialized RJ0, Cond.code yJ0_charAt_5068e cJ0_charAt_5068e 2 (some .char), Cond.fieldLink RJ0 9 "java/lang/String" "value" "[B", Cond.methodLink RJ0 492 yJ0_isLatin1_aae02]
def wsX11_find_r4 : List Cond := [Cond.instanceMethod yJ0_isLatin1_aae02, Cond.selects RJ0 yJ0_isLatin1_aae02 yJ0_isLatin1_aae02, Cond.code yJ0_isLatin1_aae02 cJ0_isLatin1_aae02 1 (some .boolean), Cond.fieldLink RJ0 38 "java/lang/String" "COMPACT_STRINGS" "Z", Cond.fieldLink RJ0 15 "java/lang/String" "coder" "B", Cond.methodLink RJ0 495 yJ1_charAt_3b067, Cond.static yJ1_charAt_3b067, Cond.initialized RJ1, Cond.code yJ1_charAt_3b067 cJ1_charAt_3b067 2 (some .char), Cond.methodLink RJ1 9 yJ0_checkIndex_df160, Cond.static yJ0_checkIndex_df160, Cond.code yJ0_checkIndex_df160 cJ0_checkIndex_df160 2 none, Cond.fieldLink RJ0 1053 "jdk/internal/util/Preconditions" "SIOOBE_FORMATTER" "Ljava/util/function/BiFunction;", Cond.methodLink RJ0 1059 yJ3_checkIndex_8e157, Cond.static yJ3_checkIndex_8e157, Cond.initialized RJ3, Cond.code yJ3_checkIndex_8e157 cJ3_checkIndex_8e157 3 (some .int), Cond.methodLink RJ0 498 yJ2_charAt_3b067, Cond.static yJ2_charAt_3b067, Cond.initialized RJ2, Cond.code yJ2_charAt_3b067 cJ2_charAt_3b067 2 (some .char), Cond.methodLink RJ2 67 yJ2_checkIndex_2214a, Cond.static yJ2_checkIndex_2214a, Cond.code yJ2_checkIndex_2214a cJ2_checkIndex_2214a 2 none]
def wsX11_find_r5 : List Cond := [Cond.methodLink RJ2 48 yJ2_length_9d52b, Cond.static yJ2_length_9d52b, Cond.code yJ2_length_9d52b cJ2_length_9d52b 1 (some .int), Cond.methodLink RJ2 414 yJ0_checkIndex_df160, Cond.methodLink RJ2 71 yJ2_getChar_3b067, Cond.static yJ2_getChar_3b067, Cond.code yJ2_getChar_3b067 cJ2_getChar_3b067 2 (some .char), Cond.fieldLink RJ2 44 "java/lang/StringUTF16" "$assertionsDisabled" "Z", Cond.fieldLink RJ2 59 "java/lang/StringUTF16" "HI_BYTE_SHIFT" "I", Cond.fieldLink RJ2 63 "java/lang/StringUTF16" "LO_BYTE_SHIFT" "I", Cond.methodLink RX8 98 yX8_next, Cond.instanceMethod yX8_next, Cond.selects RX8 yX8_next yX8_next, Cond.code yX8_next cX8_next 1 none, Cond.fieldLink RX8 136 "IntegerHouse$Reader" "place" "I", Cond.methodLink RX8 82 yX3_nameAt, Cond.instanceMethod yX3_nameAt, Cond.selects RX3 yX3_nameAt yX3_nameAt, Cond.code yX3_nameAt cX3_nameAt 2 (some .long), Cond.methodLink RX8 88 yX2_claimOf, Cond.instanceMethod yX2_claimOf, Cond.selects RX2 yX2_claimOf yX2_claimOf, Cond.initialized RX2, Cond.code yX2_claimOf cX2_claimOf 4 (some .int)]
def wsX11_find_r6 : List Cond := [Cond.fieldLink RX2 55 "IntegerHouse$House" "claims" "I", Cond.fieldLink RX2 15 "IntegerHouse$House" "claimNames" "[J", Cond.methodLink RX8 92 yX2_variableOf, Cond.instanceMethod yX2_variableOf, Cond.selects RX2 yX2_variableOf yX2_variableOf, Cond.code yX2_variableOf cX2_variableOf 4 (some .int), Cond.fieldLink RX2 52 "IntegerHouse$House" "variables" "I", Cond.fieldLink RX2 9 "IntegerHouse$House" "variableNames" "[J", Cond.methodLink RX8 95 yX8_fail, Cond.instanceMethod yX8_fail, Cond.selects RX8 yX8_fail yX8_fail, Cond.code yX8_fail cX8_fail 2 none, Cond.methodLink RX8 59 yX8_expectEnd, Cond.instanceMethod yX8_expectEnd, Cond.selects RX8 yX8_expectEnd yX8_expectEnd, Cond.code yX8_expectEnd cX8_expectEnd 1 none, Cond.methodLink RX11 236 yX11_faulted, Cond.instanceMethod yX11_faulted, Cond.selects RX11 yX11_faulted yX11_faulted, Cond.code yX11_faulted cX11_faulted 1 (some .int), Cond.fieldLink RX11 253 "IntegerHouse" "latestFault" "I"]
def wsX11_find : List Cond := .code yX11_find cX11_find 2 (some .int) :: ((wsX11_find_r1 ++ (wsX11_find_r2 ++ (wsX11_find_r3 ++ (wsX11_find_r4 ++ (wsX11_find_r5 ++ wsX11_find_r6))))) ++ wsX110 ++ wsX10 ++ wsX80 ++ wsX30 ++ wsX20)
def wsX11_about : List Cond := .code yX11_about cX11_about 3 (some .int) :: ([.fieldLink RX11 16 "IntegerHouse" "disk" "LIntegerHouse$Disk;", .fieldLink RX11 23 "IntegerHouse" "house" "LIntegerHouse$House;", .methodLink RX11 176 yX2_isClaim, .instanceMethod yX2_isClaim, .selects RX2 yX2_isClaim yX2_isClaim, .initialized RX2, .code yX2_isClaim cX2_isClaim 2 (some .boolean), .fieldLink RX2 55 "IntegerHouse$House" "claims" "I", .methodLink RX11 270 yX2_fact, .instanceMethod yX2_fact, .selects RX2 yX2_fact yX2_fact, .code yX2_fact cX2_fact 3 (some .int), .fieldLink RX2 28 "IntegerHouse$House" "facts" "[I"] ++ wsX110 ++ wsX10 ++ wsX20)
def wsX11_atom : List Cond := .code yX11_atom cX11_atom 4 (some .int) :: ([.fieldLink RX11 16 "IntegerHouse" "disk" "LIntegerHouse$Disk;", .fieldLink RX11 23 "IntegerHouse" "house" "LIntegerHouse$House;", .methodLink RX11 176 yX2_isClaim, .instanceMethod yX2_isClaim, .selects RX2 yX2_isClaim yX2_isClaim, .initialized RX2, .code yX2_isClaim cX2_isClaim 2 (some .boolean), .fieldLink RX2 55 "IntegerHouse$House" "claims" "I", .methodLink RX11 270 yX2_fact, .instanceMethod yX2_fact, .selects RX2 yX2_fact yX2_fact, .code yX2_fact cX2_fact 3 (some .int), .fieldLink RX2 28 "IntegerHouse$House" "facts" "[I", .methodLink RX11 273 yX2_atomOf, .instanceMethod yX2_atomOf, .selects RX2 yX2_atomOf yX2_atomOf, .code yX2_atomOf cX2_atomOf 3 (some .int), .fieldLink RX2 31 "IntegerHouse$House" "atoms" "[I", .methodLink RX11 276 yX2_pooled, .instanceMethod yX2_pooled, .selects RX2 yX2_pooled yX2_pooled, .code yX2_pooled cX2_pooled 3 (some .int), .fieldLink RX2 34 "IntegerHouse$House" "pool" "[I"] ++ wsX110 ++ wsX10 ++ wsX20)
def wsX11_print_r1 : List Cond := [Cond.fieldLink RX11 16 "IntegerHouse" "disk" "LIntegerHouse$Disk;", Cond.fieldLink RX11 23 "IntegerHouse" "house" "LIntegerHouse$House;", Cond.fieldLink RX11 30 "IntegerHouse" "lexer" "LIntegerHouse$Lexer;", Cond.methodLink RX11 176 yX2_isClaim, Cond.instanceMethod yX2_isClaim, Cond.selects RX2 yX2_isClaim yX2_isClaim, Cond.initialized RX2, Cond.code yX2_isClaim cX2_isClaim 2 (some .boolean), Cond.fieldLink RX2 55 "IntegerHouse$House" "claims" "I", Cond.methodLink RX11 279 yX2_show, Cond.instanceMethod yX2_show, Cond.selects RX2 yX2_show yX2_show, Cond.code yX2_show cX2_show 7 (some .int), Cond.fieldLink RX2 71 "IntegerHouse$House" "shownSize" "I", Cond.methodLink RX2 81 Lib.Math.min.name, Cond.static Lib.Math.min.name, Cond.initialized "java/lang/Math", Cond.code Lib.Math.min.name Lib.Math.min.code 2 (some .int), Cond.methodLink RX2 86 Lib.Math.max.name, Cond.static Lib.Math.max.name, Cond.code Lib.Math.max.name Lib.Math.max.code 2 (some .int), Cond.methodLink RX2 67 yX2_fact, Cond.instanceMethod yX2_fact, Cond.selects RX2 yX2_fact yX2_fact]
def wsX11_print_r2 : List Cond := [Cond.code yX2_fact cX2_fact 3 (some .int), Cond.fieldLink RX2 28 "IntegerHouse$House" "facts" "[I", Cond.methodLink RX2 74 yX2_token, Cond.instanceMethod yX2_token, Cond.selects RX2 yX2_token yX2_token, Cond.code yX2_token cX2_token 4 (some .int), Cond.fieldLink RX2 18 "IntegerHouse$House" "tokens" "[I", Cond.methodLink RX2 77 yX2_partnerOf, Cond.instanceMethod yX2_partnerOf, Cond.selects RX2 yX2_partnerOf yX2_partnerOf, Cond.code yX2_partnerOf cX2_partnerOf 8 (some .int), Cond.methodLink RX2 89 yX2_isNeeded, Cond.instanceMethod yX2_isNeeded, Cond.selects RX2 yX2_isNeeded yX2_isNeeded, Cond.code yX2_isNeeded cX2_isNeeded 7 (some .boolean), Cond.methodLink RX2 97 yX2_tightness, Cond.static yX2_tightness, Cond.code yX2_tightness cX2_tightness 1 (some .int), Cond.methodLink RX2 101 yX2_within, Cond.instanceMethod yX2_within, Cond.selects RX2 yX2_within yX2_within, Cond.code yX2_within cX2_within 10 (some .int), Cond.methodLink RX2 104 yX2_isAllWithin, Cond.instanceMethod yX2_isAllWithin]
def wsX11_print_r3 : List Cond := [Cond.selects RX2 yX2_isAllWithin yX2_isAllWithin, Cond.code yX2_isAllWithin cX2_isAllWithin 4 (some .boolean), Cond.methodLink RX2 93 yX2_showToken, Cond.instanceMethod yX2_showToken, Cond.selects RX2 yX2_showToken yX2_showToken, Cond.code yX2_showToken cX2_showToken 9 none, Cond.fieldLink RX2 9 "IntegerHouse$House" "variableNames" "[J", Cond.fieldLink RX2 15 "IntegerHouse$House" "claimNames" "[J", Cond.methodLink RX2 107 yX3_spelled, Cond.instanceMethod yX3_spelled, Cond.selects RX3 yX3_spelled yX3_spelled, Cond.initialized RX3, Cond.code yX3_spelled cX3_spelled 4 (some .long), Cond.fieldLink RX3 11 "IntegerHouse$Lexer" "words" "[J", Cond.methodLink RX3 44 yJ0_charAt_5068e, Cond.instanceMethod yJ0_charAt_5068e, Cond.selects RJ0 yJ0_charAt_5068e yJ0_charAt_5068e, Cond.initialized RJ0, Cond.code yJ0_charAt_5068e cJ0_charAt_5068e 2 (some .char), Cond.fieldLink RJ0 9 "java/lang/String" "value" "[B", Cond.methodLink RJ0 492 yJ0_isLatin1_aae02, Cond.instanceMethod yJ0_isLatin1_aae02, Cond.selects RJ0 yJ0_isLatin1_aae02 yJ0_isLatin1_aae02, Cond.code yJ0_isLatin1_aae02 cJ0_isLatin1_aae02 1 (some .boolean)]
def wsX11_print_r4 : List Cond := [Cond.fieldLink RJ0 38 "java/lang/String" "COMPACT_STRINGS" "Z", Cond.fieldLink RJ0 15 "java/lang/String" "coder" "B", Cond.methodLink RJ0 495 yJ1_charAt_3b067, Cond.static yJ1_charAt_3b067, Cond.initialized RJ1, Cond.code yJ1_charAt_3b067 cJ1_charAt_3b067 2 (some .char), Cond.methodLink RJ1 9 yJ0_checkIndex_df160, Cond.static yJ0_checkIndex_df160, Cond.code yJ0_checkIndex_df160 cJ0_checkIndex_df160 2 none, Cond.fieldLink RJ0 1053 "jdk/internal/util/Preconditions" "SIOOBE_FORMATTER" "Ljava/util/function/BiFunction;", Cond.methodLink RJ0 1059 yJ3_checkIndex_8e157, Cond.static yJ3_checkIndex_8e157, Cond.initialized RJ3, Cond.code yJ3_checkIndex_8e157 cJ3_checkIndex_8e157 3 (some .int), Cond.methodLink RJ0 498 yJ2_charAt_3b067, Cond.static yJ2_charAt_3b067, Cond.initialized RJ2, Cond.code yJ2_charAt_3b067 cJ2_charAt_3b067 2 (some .char), Cond.methodLink RJ2 67 yJ2_checkIndex_2214a, Cond.static yJ2_checkIndex_2214a, Cond.code yJ2_checkIndex_2214a cJ2_checkIndex_2214a 2 none, Cond.methodLink RJ2 48 yJ2_length_9d52b, Cond.static yJ2_length_9d52b, Cond.code yJ2_length_9d52b cJ2_length_9d52b 1 (some .int)]
def wsX11_print_r5 : List Cond := [Cond.methodLink RJ2 414 yJ0_checkIndex_df160, Cond.methodLink RJ2 71 yJ2_getChar_3b067, Cond.static yJ2_getChar_3b067, Cond.code yJ2_getChar_3b067 cJ2_getChar_3b067 2 (some .char), Cond.fieldLink RJ2 44 "java/lang/StringUTF16" "$assertionsDisabled" "Z", Cond.fieldLink RJ2 59 "java/lang/StringUTF16" "HI_BYTE_SHIFT" "I", Cond.fieldLink RJ2 63 "java/lang/StringUTF16" "LO_BYTE_SHIFT" "I", Cond.methodLink RX2 113 yX3_spelledNumber, Cond.static yX3_spelledNumber, Cond.code yX3_spelledNumber cX3_spelledNumber 6 (some .long), Cond.constant RX3 58 (1048575), Cond.methodLink RX2 116 yX2_showByte, Cond.instanceMethod yX2_showByte, Cond.selects RX2 yX2_showByte yX2_showByte, Cond.code yX2_showByte cX2_showByte 2 none, Cond.fieldLink RX2 40 "IntegerHouse$House" "shown" "[B"]
def wsX11_print : List Cond := .code yX11_print cX11_print 2 (some .int) :: ((wsX11_print_r1 ++ (wsX11_print_r2 ++ (wsX11_print_r3 ++ (wsX11_print_r4 ++ wsX11_print_r5)))) ++ wsX110 ++ wsX10 ++ wsX20 ++ wsX30)
def wsX12_no : List Cond := .code yX12_no cX12_no 2 (some .int) :: ([.fieldLink RX12 462 "IntegerHouseModel" "refused" "Z"] ++ wsX120)
def wsX12_fail : List Cond := .code yX12_fail cX12_fail 3 none :: ([.fieldLink RX12 562 "IntegerHouseModel" "faulty" "Z", .fieldLink RX12 565 "IntegerHouseModel" "faultKind" "I", .fieldLink RX12 81 "IntegerHouseModel" "tokenAt" "[I", .fieldLink RX12 568 "IntegerHouseModel" "faultPlace" "I"] ++ wsX120)
def wsX12_cannot : List Cond := .code yX12_cannot cX12_cannot 1 none :: ([.fieldLink RX12 87 "IntegerHouseModel" "tokenKind" "[I", .fieldLink RX12 597 "IntegerHouseModel" "now" "I", .methodLink RX12 616 yX12_fail, .instanceMethod yX12_fail, .selects RX12 yX12_fail yX12_fail, .initialized RX12, .code yX12_fail cX12_fail 3 none, .fieldLink RX12 562 "IntegerHouseModel" "faulty" "Z", .fieldLink RX12 565 "IntegerHouseModel" "faultKind" "I", .fieldLink RX12 81 "IntegerHouseModel" "tokenAt" "[I", .fieldLink RX12 568 "IntegerHouseModel" "faultPlace" "I"] ++ wsX120)
def wsX12_told : List Cond := .code yX12_told cX12_told 1 (some .int) :: ([.fieldLink RX12 472 "IntegerHouseModel" "replay" "Z", .fieldLink RX12 836 "IntegerHouseModel" "latestFault" "I", .fieldLink RX12 565 "IntegerHouseModel" "faultKind" "I", .fieldLink RX12 568 "IntegerHouseModel" "faultPlace" "I"] ++ wsX120)
def wsX12_turn : List Cond := .code yX12_turn cX12_turn 4 (some .int) :: ([.fieldLink RX12 28 "IntegerHouseModel" "arg" "[I", .fieldLink RX12 818 "IntegerHouseModel" "claims" "I", .fieldLink RX12 265 "IntegerHouseModel" "isOn" "[Z", .methodLink RX12 504 yX12_in, .static yX12_in, .initialized RX12, .code yX12_in cX12_in 6 (some .boolean), .methodLink RX12 862 yX12_no, .instanceMethod yX12_no, .selects RX12 yX12_no yX12_no, .code yX12_no cX12_no 2 (some .int), .fieldLink RX12 462 "IntegerHouseModel" "refused" "Z", .methodLink RX12 865 yX12_full, .instanceMethod yX12_full, .selects RX12 yX12_full yX12_full, .code yX12_full cX12_full 2 (some .boolean), .fieldLink RX12 466 "IntegerHouseModel" "number" "I", .fieldLink RX12 469 "IntegerHouseModel" "docSize" "I", .fieldLink RX12 472 "IntegerHouseModel" "replay" "Z", .fieldLink RX12 475 "IntegerHouseModel" "waitBytes" "I", .fieldLink RX12 478 "IntegerHouseModel" "used" "I"] ++ wsX120)
def wsX12_layer : List Cond := .code yX12_layer cX12_layer 2 (some .int) :: ([.fieldLink RX12 821 "IntegerHouseModel" "layers" "I", .fieldLink RX12 271 "IntegerHouseModel" "layerVariables" "[I", .fieldLink RX12 815 "IntegerHouseModel" "variables" "I", .fieldLink RX12 274 "IntegerHouseModel" "layerClaims" "[I", .fieldLink RX12 818 "IntegerHouseModel" "claims" "I", .fieldLink RX12 277 "IntegerHouseModel" "layerOn" "[Z", .fieldLink RX12 265 "IntegerHouseModel" "isOn" "[Z", .methodLink RX12 865 yX12_full, .instanceMethod yX12_full, .selects RX12 yX12_full yX12_full, .initialized RX12, .code yX12_full cX12_full 2 (some .boolean), .fieldLink RX12 466 "IntegerHouseModel" "number" "I", .fieldLink RX12 469 "IntegerHouseModel" "docSize" "I", .fieldLink RX12 472 "IntegerHouseModel" "replay" "Z", .fieldLink RX12 475 "IntegerHouseModel" "waitBytes" "I", .fieldLink RX12 478 "IntegerHouseModel" "used" "I", .methodLink RX12 862 yX12_no, .instanceMethod yX12_no, .selects RX12 yX12_no yX12_no, .code yX12_no cX12_no 2 (some .int), .fieldLink RX12 462 "IntegerHouseModel" "refused" "Z"] ++ wsX120)
def wsX12_leave : List Cond := .code yX12_leave cX12_leave 2 (some .int) :: ([.fieldLink RX12 821 "IntegerHouseModel" "layers" "I", .fieldLink RX12 271 "IntegerHouseModel" "layerVariables" "[I", .fieldLink RX12 815 "IntegerHouseModel" "variables" "I", .fieldLink RX12 274 "IntegerHouseModel" "layerClaims" "[I", .fieldLink RX12 818 "IntegerHouseModel" "claims" "I", .fieldLink RX12 265 "IntegerHouseModel" "isOn" "[Z", .fieldLink RX12 277 "IntegerHouseModel" "layerOn" "[Z", .methodLink RX12 862 yX12_no, .instanceMethod yX12_no, .selects RX12 yX12_no yX12_no, .initialized RX12, .code yX12_no cX12_no 2 (some .int), .fieldLink RX12 462 "IntegerHouseModel" "refused" "Z", .methodLink RX12 865 yX12_full, .instanceMethod yX12_full, .selects RX12 yX12_full yX12_full, .code yX12_full cX12_full 2 (some .boolean), .fieldLink RX12 466 "IntegerHouseModel" "number" "I", .fieldLink RX12 469 "IntegerHouseModel" "docSize" "I", .fieldLink RX12 472 "IntegerHouseModel" "replay" "Z", .fieldLink RX12 475 "IntegerHouseModel" "waitBytes" "I", .fieldLink RX12 478 "IntegerHouseModel" "used" "I"] ++ wsX120)
def wsX12_on_r1 : List Cond := [Cond.fieldLink RX12 28 "IntegerHouseModel" "arg" "[I", Cond.methodLink RX12 868 yX12_call, Cond.instanceMethod yX12_call, Cond.selects RX12 yX12_call yX12_call, Cond.initialized RX12, Cond.code yX12_call cX12_call 4 (some .int), Cond.fieldLink RX12 3 "IntegerHouseModel" "thrown" "I", Cond.fieldLink RX12 488 "IntegerHouseModel" "down" "Z", Cond.fieldLink RX12 466 "IntegerHouseModel" "number" "I", Cond.fieldLink RX12 472 "IntegerHouseModel" "replay" "Z", Cond.fieldLink RX12 462 "IntegerHouseModel" "refused" "Z", Cond.fieldLink RX12 498 "IntegerHouseModel" "done" "I", Cond.fieldLink RX12 469 "IntegerHouseModel" "docSize" "I", Cond.fieldLink RX12 32 "IntegerHouseModel" "doc" "[B", Cond.methodLink RX12 491 yX12_takeTape, Cond.instanceMethod yX12_takeTape, Cond.selects RX12 yX12_takeTape yX12_takeTape, Cond.code yX12_takeTape cX12_takeTape 2 none, Cond.fieldLink RX12 485 "IntegerHouseModel" "taped" "I", Cond.fieldLink RX12 15 "IntegerHouseModel" "tape" "[B", Cond.methodLink RX12 494 yX12_act, Cond.instanceMethod yX12_act, Cond.selects RX12 yX12_act yX12_act, Cond.code yX12_act cX12_act 1 (some .int)]
def wsX12_on_r2 : List Cond := [Cond.methodLink RX12 824 yX12_readText, Cond.instanceMethod yX12_readText, Cond.selects RX12 yX12_readText yX12_readText, Cond.code yX12_readText cX12_readText 3 (some .int), Cond.fieldLink RX12 815 "IntegerHouseModel" "variables" "I", Cond.fieldLink RX12 620 "IntegerHouseModel" "knownVariables" "I", Cond.fieldLink RX12 818 "IntegerHouseModel" "claims" "I", Cond.fieldLink RX12 627 "IntegerHouseModel" "knownClaims" "I", Cond.fieldLink RX12 562 "IntegerHouseModel" "faulty" "Z", Cond.fieldLink RX12 87 "IntegerHouseModel" "tokenKind" "[I", Cond.fieldLink RX12 597 "IntegerHouseModel" "now" "I", Cond.fieldLink RX12 630 "IntegerHouseModel" "slot" "I", Cond.fieldLink RX12 280 "IntegerHouseModel" "namedAt" "[I", Cond.fieldLink RX12 265 "IntegerHouseModel" "isOn" "[Z", Cond.fieldLink RX12 268 "IntegerHouseModel" "claimLayer" "[I", Cond.fieldLink RX12 821 "IntegerHouseModel" "layers" "I", Cond.methodLink RX12 848 yX12_scan, Cond.instanceMethod yX12_scan, Cond.selects RX12 yX12_scan yX12_scan, Cond.code yX12_scan cX12_scan 8 none, Cond.fieldLink RX12 594 "IntegerHouseModel" "tokens" "I", Cond.fieldLink RX12 81 "IntegerHouseModel" "tokenAt" "[I", Cond.fieldLink RX12 84 "IntegerHouseModel" "tokenSize" "[I", Cond.fieldLink RX12 90 "IntegerHouseModel" "tokenValue" "[I"]
def wsX12_on_r3 : List Cond := [Cond.fieldLink RX12 77 "IntegerHouseModel" "words" "[Ljava/lang/String;", Cond.methodLink RX12 586 yX12_char1, Cond.instanceMethod yX12_char1, Cond.selects RX12 yX12_char1 yX12_char1, Cond.code yX12_char1 cX12_char1 2 (some .int), Cond.methodLink RX12 600 yX12_isLetter, Cond.static yX12_isLetter, Cond.code yX12_isLetter cX12_isLetter 1 (some .boolean), Cond.constantLong RX12 571 (97), Cond.constantLong RX12 573 (122), Cond.constantLong RX12 575 (65), Cond.constantLong RX12 577 (90), Cond.methodLink RX12 504 yX12_in, Cond.static yX12_in, Cond.code yX12_in cX12_in 6 (some .boolean), Cond.methodLink RX12 603 yX12_isDigit, Cond.static yX12_isDigit, Cond.code yX12_isDigit cX12_isDigit 1 (some .boolean), Cond.constantLong RX12 579 (48), Cond.constantLong RX12 581 (57), Cond.methodLink RX12 606 yX12_longSign, Cond.static yX12_longSign, Cond.code yX12_longSign cX12_longSign 2 (some .int), Cond.methodLink RX12 609 yX12_signOf]
def wsX12_on_r4 : List Cond := [Cond.static yX12_signOf, Cond.code yX12_signOf cX12_signOf 1 (some .int), Cond.methodLink RX12 612 yX12_isText, Cond.instanceMethod yX12_isText, Cond.selects RX12 yX12_isText yX12_isText, Cond.code yX12_isText cX12_isText 4 (some .boolean), Cond.methodLink RX12 583 yJ0_length_8abf5, Cond.instanceMethod yJ0_length_8abf5, Cond.selects RJ0 yJ0_length_8abf5 yJ0_length_8abf5, Cond.initialized RJ0, Cond.code yJ0_length_8abf5 cJ0_length_8abf5 1 (some .int), Cond.fieldLink RJ0 9 "java/lang/String" "value" "[B", Cond.methodLink RJ0 335 yJ0_coder_7d493, Cond.instanceMethod yJ0_coder_7d493, Cond.selects RJ0 yJ0_coder_7d493 yJ0_coder_7d493, Cond.code yJ0_coder_7d493 cJ0_coder_7d493 1 (some .byte), Cond.fieldLink RJ0 38 "java/lang/String" "COMPACT_STRINGS" "Z", Cond.fieldLink RJ0 15 "java/lang/String" "coder" "B", Cond.methodLink RX12 590 yJ0_charAt_5068e, Cond.instanceMethod yJ0_charAt_5068e, Cond.selects RJ0 yJ0_charAt_5068e yJ0_charAt_5068e, Cond.code yJ0_charAt_5068e cJ0_charAt_5068e 2 (some .char), Cond.methodLink RJ0 492 yJ0_isLatin1_aae02, Cond.instanceMethod yJ0_isLatin1_aae02]
def wsX12_on_r5 : List Cond := [Cond.selects RJ0 yJ0_isLatin1_aae02 yJ0_isLatin1_aae02, Cond.code yJ0_isLatin1_aae02 cJ0_isLatin1_aae02 1 (some .boolean), Cond.methodLink RJ0 495 yJ1_charAt_3b067, Cond.static yJ1_charAt_3b067, Cond.initialized RJ1, Cond.code yJ1_charAt_3b067 cJ1_charAt_3b067 2 (some .char), Cond.methodLink RJ1 9 yJ0_checkIndex_df160, Cond.static yJ0_checkIndex_df160, Cond.code yJ0_checkIndex_df160 cJ0_checkIndex_df160 2 none, Cond.fieldLink RJ0 1053 "jdk/internal/util/Preconditions" "SIOOBE_FORMATTER" "Ljava/util/function/BiFunction;", Cond.methodLink RJ0 1059 yJ3_checkIndex_8e157, Cond.static yJ3_checkIndex_8e157, Cond.initialized RJ3, Cond.code yJ3_checkIndex_8e157 cJ3_checkIndex_8e157 3 (some .int), Cond.methodLink RJ0 498 yJ2_charAt_3b067, Cond.static yJ2_charAt_3b067, Cond.initialized RJ2, Cond.code yJ2_charAt_3b067 cJ2_charAt_3b067 2 (some .char), Cond.methodLink RJ2 67 yJ2_checkIndex_2214a, Cond.static yJ2_checkIndex_2214a, Cond.code yJ2_checkIndex_2214a cJ2_checkIndex_2214a 2 none, Cond.methodLink RJ2 48 yJ2_length_9d52b, Cond.static yJ2_length_9d52b, Cond.code yJ2_length_9d52b cJ2_length_9d52b 1 (some .int)]
def wsX12_on_r6 : List Cond := [Cond.methodLink RJ2 414 yJ0_checkIndex_df160, Cond.methodLink RJ2 71 yJ2_getChar_3b067, Cond.static yJ2_getChar_3b067, Cond.code yJ2_getChar_3b067 cJ2_getChar_3b067 2 (some .char), Cond.fieldLink RJ2 44 "java/lang/StringUTF16" "$assertionsDisabled" "Z", Cond.fieldLink RJ2 59 "java/lang/StringUTF16" "HI_BYTE_SHIFT" "I", Cond.fieldLink RJ2 63 "java/lang/StringUTF16" "LO_BYTE_SHIFT" "I", Cond.methodLink RX12 666 yX12_isWord, Cond.instanceMethod yX12_isWord, Cond.selects RX12 yX12_isWord yX12_isWord, Cond.code yX12_isWord cX12_isWord 2 (some .boolean), Cond.methodLink RX12 851 yX12_readVariables, Cond.instanceMethod yX12_readVariables, Cond.selects RX12 yX12_readVariables yX12_readVariables, Cond.code yX12_readVariables cX12_readVariables 1 none, Cond.methodLink RX12 698 yX12_cannot, Cond.instanceMethod yX12_cannot, Cond.selects RX12 yX12_cannot yX12_cannot, Cond.code yX12_cannot cX12_cannot 1 none, Cond.methodLink RX12 616 yX12_fail, Cond.instanceMethod yX12_fail, Cond.selects RX12 yX12_fail yX12_fail, Cond.code yX12_fail cX12_fail 3 none, Cond.fieldLink RX12 565 "IntegerHouseModel" "faultKind" "I"]
def wsX12_on_r7 : List Cond := [Cond.fieldLink RX12 568 "IntegerHouseModel" "faultPlace" "I", Cond.methodLink RX12 685 yX12_variableAt, Cond.instanceMethod yX12_variableAt, Cond.selects RX12 yX12_variableAt yX12_variableAt, Cond.code yX12_variableAt cX12_variableAt 3 (some .int), Cond.methodLink RX12 623 yX12_isCalled, Cond.instanceMethod yX12_isCalled, Cond.selects RX12 yX12_isCalled yX12_isCalled, Cond.code yX12_isCalled cX12_isCalled 4 (some .boolean), Cond.fieldLink RX12 96 "IntegerHouseModel" "nameSize" "[I", Cond.fieldLink RX12 93 "IntegerHouseModel" "nameText" "[B", Cond.methodLink RX12 682 yX12_claimAt, Cond.instanceMethod yX12_claimAt, Cond.selects RX12 yX12_claimAt yX12_claimAt, Cond.code yX12_claimAt cX12_claimAt 3 (some .int), Cond.methodLink RX12 839 yX12_callIt, Cond.instanceMethod yX12_callIt, Cond.selects RX12 yX12_callIt yX12_callIt, Cond.code yX12_callIt cX12_callIt 4 none, Cond.methodLink RX12 854 yX12_readClaim, Cond.instanceMethod yX12_readClaim, Cond.selects RX12 yX12_readClaim yX12_readClaim, Cond.code yX12_readClaim cX12_readClaim 3 none, Cond.methodLink RX12 672 yX12_isSign]
def wsX12_on_r8 : List Cond := [Cond.instanceMethod yX12_isSign, Cond.selects RX12 yX12_isSign yX12_isSign, Cond.code yX12_isSign cX12_isSign 2 (some .boolean), Cond.methodLink RX12 842 yX12_beginSlot, Cond.instanceMethod yX12_beginSlot, Cond.selects RX12 yX12_beginSlot yX12_beginSlot, Cond.code yX12_beginSlot cX12_beginSlot 2 none, Cond.fieldLink RX12 633 "IntegerHouseModel" "open" "I", Cond.fieldLink RX12 105 "IntegerHouseModel" "textCount" "[I", Cond.fieldLink RX12 120 "IntegerHouseModel" "nodeCount" "[I", Cond.fieldLink RX12 153 "IntegerHouseModel" "leafCount" "[I", Cond.fieldLink RX12 165 "IntegerHouseModel" "termCount" "[I", Cond.fieldLink RX12 181 "IntegerHouseModel" "partCount" "[I", Cond.methodLink RX12 845 yX12_readFormula, Cond.instanceMethod yX12_readFormula, Cond.selects RX12 yX12_readFormula yX12_readFormula, Cond.code yX12_readFormula cX12_readFormula 1 (some .int), Cond.fieldLink RX12 639 "IntegerHouseModel" "formulas" "I", Cond.fieldLink RX12 642 "IntegerHouseModel" "terms" "I", Cond.fieldLink RX12 648 "IntegerHouseModel" "state" "I", Cond.fieldLink RX12 184 "IntegerHouseModel" "rootOf" "[I", Cond.fieldLink RX12 660 "IntegerHouseModel" "current" "I", Cond.methodLink RX12 645 yX12_openFormula, Cond.instanceMethod yX12_openFormula]
def wsX12_on_r9 : List Cond := [Cond.selects RX12 yX12_openFormula yX12_openFormula, Cond.code yX12_openFormula cX12_openFormula 1 none, Cond.fieldLink RX12 187 "IntegerHouseModel" "openJoin" "[I", Cond.fieldLink RX12 190 "IntegerHouseModel" "openLeft" "[I", Cond.fieldLink RX12 193 "IntegerHouseModel" "openOr" "[I", Cond.fieldLink RX12 199 "IntegerHouseModel" "openAnd" "[I", Cond.fieldLink RX12 205 "IntegerHouseModel" "openNots" "[I", Cond.methodLink RX12 651 yX12_readOne, Cond.instanceMethod yX12_readOne, Cond.selects RX12 yX12_readOne yX12_readOne, Cond.code yX12_readOne cX12_readOne 5 none, Cond.fieldLink RX12 135 "IntegerHouseModel" "leafFrom" "[I", Cond.constantLong RX12 694 (8), Cond.constantLong RX12 696 (12), Cond.methodLink RX12 669 yX12_takeOpen, Cond.instanceMethod yX12_takeOpen, Cond.selects RX12 yX12_takeOpen yX12_takeOpen, Cond.code yX12_takeOpen cX12_takeOpen 1 none, Cond.methodLink RX12 636 yX12_take, Cond.instanceMethod yX12_take, Cond.selects RX12 yX12_take yX12_take, Cond.code yX12_take cX12_take 3 none, Cond.fieldLink RX12 102 "IntegerHouseModel" "textSize" "[I", Cond.fieldLink RX12 99 "IntegerHouseModel" "textBytes" "[B"]
def wsX12_on_r10 : List Cond := [Cond.methodLink RX12 675 yX12_newNode, Cond.instanceMethod yX12_newNode, Cond.selects RX12 yX12_newNode yX12_newNode, Cond.code yX12_newNode cX12_newNode 5 (some .int), Cond.fieldLink RX12 108 "IntegerHouseModel" "nodeKind" "[I", Cond.fieldLink RX12 111 "IntegerHouseModel" "nodeA" "[I", Cond.fieldLink RX12 114 "IntegerHouseModel" "nodeB" "[I", Cond.fieldLink RX12 117 "IntegerHouseModel" "nodeNext" "[I", Cond.methodLink RX12 679 yX12_endOne, Cond.instanceMethod yX12_endOne, Cond.selects RX12 yX12_endOne yX12_endOne, Cond.code yX12_endOne cX12_endOne 2 none, Cond.fieldLink RX12 202 "IntegerHouseModel" "openAndLast" "[I", Cond.methodLink RX12 688 yX12_beginLeaf, Cond.instanceMethod yX12_beginLeaf, Cond.selects RX12 yX12_beginLeaf yX12_beginLeaf, Cond.code yX12_beginLeaf cX12_beginLeaf 4 none, Cond.fieldLink RX12 123 "IntegerHouseModel" "leafOp" "[I", Cond.fieldLink RX12 126 "IntegerHouseModel" "leafNumber" "[I", Cond.fieldLink RX12 129 "IntegerHouseModel" "leafLeft" "[I", Cond.fieldLink RX12 141 "IntegerHouseModel" "leafTerms" "[I", Cond.methodLink RX12 663 yX12_openTerm, Cond.instanceMethod yX12_openTerm, Cond.selects RX12 yX12_openTerm yX12_openTerm]
def wsX12_on_r11 : List Cond := [Cond.code yX12_openTerm cX12_openTerm 2 none, Cond.fieldLink RX12 208 "IntegerHouseModel" "inKind" "[I", Cond.fieldLink RX12 211 "IntegerHouseModel" "inFirst" "[I", Cond.fieldLink RX12 217 "IntegerHouseModel" "inSign" "[I", Cond.fieldLink RX12 220 "IntegerHouseModel" "inTimes" "[J", Cond.fieldLink RX12 223 "IntegerHouseModel" "inOne" "[I", Cond.methodLink RX12 691 yX12_takeNumber, Cond.instanceMethod yX12_takeNumber, Cond.selects RX12 yX12_takeNumber yX12_takeNumber, Cond.code yX12_takeNumber cX12_takeNumber 1 none, Cond.constantLong RX12 701 (2), Cond.methodLink RX12 654 yX12_readAfter, Cond.instanceMethod yX12_readAfter, Cond.selects RX12 yX12_readAfter yX12_readAfter, Cond.code yX12_readAfter cX12_readAfter 4 none, Cond.fieldLink RX12 196 "IntegerHouseModel" "openOrLast" "[I", Cond.methodLink RX12 703 yX12_join, Cond.instanceMethod yX12_join, Cond.selects RX12 yX12_join yX12_join, Cond.code yX12_join cX12_join 8 (some .int), Cond.methodLink RX12 657 yX12_readInTerm, Cond.instanceMethod yX12_readInTerm, Cond.selects RX12 yX12_readInTerm yX12_readInTerm, Cond.code yX12_readInTerm cX12_readInTerm 1 none]
def wsX12_on_r12 : List Cond := [Cond.methodLink RX12 706 yX12_addPart, Cond.instanceMethod yX12_addPart, Cond.selects RX12 yX12_addPart yX12_addPart, Cond.code yX12_addPart cX12_addPart 3 none, Cond.fieldLink RX12 168 "IntegerHouseModel" "partSign" "[I", Cond.fieldLink RX12 171 "IntegerHouseModel" "partTimes" "[J", Cond.fieldLink RX12 175 "IntegerHouseModel" "partOf" "[I", Cond.fieldLink RX12 178 "IntegerHouseModel" "partNext" "[I", Cond.fieldLink RX12 214 "IntegerHouseModel" "inLast" "[I", Cond.methodLink RX12 709 yX12_readAtom, Cond.instanceMethod yX12_readAtom, Cond.selects RX12 yX12_readAtom yX12_readAtom, Cond.code yX12_readAtom cX12_readAtom 3 none, Cond.methodLink RX12 715 yX12_newTerm, Cond.instanceMethod yX12_newTerm, Cond.selects RX12 yX12_newTerm yX12_newTerm, Cond.code yX12_newTerm cX12_newTerm 5 (some .int), Cond.fieldLink RX12 156 "IntegerHouseModel" "termKind" "[I", Cond.fieldLink RX12 159 "IntegerHouseModel" "termA" "[I", Cond.fieldLink RX12 162 "IntegerHouseModel" "termB" "[I", Cond.methodLink RX12 712 yX12_endTerm, Cond.instanceMethod yX12_endTerm, Cond.selects RX12 yX12_endTerm yX12_endTerm, Cond.code yX12_endTerm cX12_endTerm 7 none]
def wsX12_on_r13 : List Cond := [Cond.methodLink RX12 718 yX12_endSide, Cond.instanceMethod yX12_endSide, Cond.selects RX12 yX12_endSide yX12_endSide, Cond.code yX12_endSide cX12_endSide 5 none, Cond.constantLong RX12 721 (11), Cond.constantLong RX12 723 (15), Cond.fieldLink RX12 132 "IntegerHouseModel" "leafRight" "[I", Cond.fieldLink RX12 138 "IntegerHouseModel" "leafTo" "[I", Cond.fieldLink RX12 144 "IntegerHouseModel" "leafTermsTo" "[I", Cond.methodLink RX12 857 yX12_build, Cond.instanceMethod yX12_build, Cond.selects RX12 yX12_build yX12_build, Cond.code yX12_build cX12_build 7 (some .int), Cond.fieldLink RX12 725 "IntegerHouseModel" "great" "Z", Cond.fieldLink RX12 747 "IntegerHouseModel" "crowded" "Z", Cond.fieldLink RX12 235 "IntegerHouseModel" "atomCount" "[I", Cond.fieldLink RX12 241 "IntegerHouseModel" "caseCount" "[I", Cond.fieldLink RX12 247 "IntegerHouseModel" "falseAt" "[I", Cond.fieldLink RX12 244 "IntegerHouseModel" "isPlain" "[Z", Cond.constantLong RX12 806 (64), Cond.fieldLink RX12 262 "IntegerHouseModel" "hereF" "[J", Cond.fieldLink RX12 226 "IntegerHouseModel" "atomF" "[I", Cond.fieldLink RX12 232 "IntegerHouseModel" "atomN" "[I", Cond.fieldLink RX12 229 "IntegerHouseModel" "atomC" "[I"]
def wsX12_on_r14 : List Cond := [Cond.methodLink RX12 808 yX12_casesOf, Cond.instanceMethod yX12_casesOf, Cond.selects RX12 yX12_casesOf yX12_casesOf, Cond.code yX12_casesOf cX12_casesOf 8 (some .long), Cond.methodLink RX12 800 yX12_ways, Cond.instanceMethod yX12_ways, Cond.selects RX12 yX12_ways yX12_ways, Cond.code yX12_ways cX12_ways 3 (some .int), Cond.methodLink RX12 812 yX12_makeCases, Cond.instanceMethod yX12_makeCases, Cond.selects RX12 yX12_makeCases yX12_makeCases, Cond.code yX12_makeCases cX12_makeCases 5 none, Cond.fieldLink RX12 259 "IntegerHouseModel" "chosen" "[I", Cond.fieldLink RX12 147 "IntegerHouseModel" "leafCase" "[I", Cond.fieldLink RX12 150 "IntegerHouseModel" "leafCases" "[I", Cond.methodLink RX12 803 yX12_makeCase, Cond.instanceMethod yX12_makeCase, Cond.selects RX12 yX12_makeCase yX12_makeCase, Cond.code yX12_makeCase cX12_makeCase 7 none, Cond.fieldLink RX12 238 "IntegerHouseModel" "caseLit" "[I", Cond.constantLong RX12 526 (-1), Cond.methodLink RX12 797 yX12_shape, Cond.instanceMethod yX12_shape, Cond.selects RX12 yX12_shape yX12_shape]
def wsX12_on_r15 : List Cond := [Cond.code yX12_shape cX12_shape 8 (some .int), Cond.fieldLink RX12 736 "IntegerHouseModel" "hereC" "J", Cond.fieldLink RX12 740 "IntegerHouseModel" "hereD" "J", Cond.methodLink RX12 771 yX12_clearHere, Cond.instanceMethod yX12_clearHere, Cond.selects RX12 yX12_clearHere yX12_clearHere, Cond.code yX12_clearHere cX12_clearHere 4 none, Cond.methodLink RX12 774 yX12_total, Cond.instanceMethod yX12_total, Cond.selects RX12 yX12_total yX12_total, Cond.code yX12_total cX12_total 22 none, Cond.methodLink RX12 783 yX12_add, Cond.instanceMethod yX12_add, Cond.selects RX12 yX12_add yX12_add, Cond.code yX12_add cX12_add 7 none, Cond.fieldLink RX12 256 "IntegerHouseModel" "formD" "[J", Cond.fieldLink RX12 250 "IntegerHouseModel" "formF" "[J", Cond.fieldLink RX12 253 "IntegerHouseModel" "formC" "[J", Cond.methodLink RX12 743 yX12_divisor, Cond.static yX12_divisor, Cond.code yX12_divisor cX12_divisor 10 (some .long), Cond.methodLink RX12 787 yX12_lookHere, Cond.instanceMethod yX12_lookHere, Cond.selects RX12 yX12_lookHere yX12_lookHere]
def wsX12_on_r16 : List Cond := [Cond.code yX12_lookHere cX12_lookHere 2 none, Cond.methodLink RX12 732 yX12_look, Cond.instanceMethod yX12_look, Cond.selects RX12 yX12_look yX12_look, Cond.code yX12_look cX12_look 3 none, Cond.constantLong RX12 728 (1000000), Cond.constantLong RX12 730 (-1000000), Cond.methodLink RX12 777 yX12_hereIs, Cond.instanceMethod yX12_hereIs, Cond.selects RX12 yX12_hereIs yX12_hereIs, Cond.code yX12_hereIs cX12_hereIs 4 none, Cond.methodLink RX12 780 yX12_lineOf, Cond.instanceMethod yX12_lineOf, Cond.selects RX12 yX12_lineOf yX12_lineOf, Cond.code yX12_lineOf cX12_lineOf 7 (some .int), Cond.constantLong RX12 750 (20), Cond.constantLong RX12 752 (-20), Cond.constantLong RX12 754 (99999), Cond.constantLong RX12 756 (-99999), Cond.methodLink RX12 758 yX12_isFlat, Cond.instanceMethod yX12_isFlat, Cond.selects RX12 yX12_isFlat yX12_isFlat, Cond.code yX12_isFlat cX12_isFlat 1 (some .boolean), Cond.methodLink RX12 761 yX12_isFalseHere]
def wsX12_on_r17 : List Cond := [Cond.instanceMethod yX12_isFalseHere, Cond.selects RX12 yX12_isFalseHere yX12_isFalseHere, Cond.code yX12_isFalseHere cX12_isFalseHere 1 none, Cond.methodLink RX12 764 yX12_atomOf, Cond.instanceMethod yX12_atomOf, Cond.selects RX12 yX12_atomOf yX12_atomOf, Cond.code yX12_atomOf cX12_atomOf 8 (some .int), Cond.methodLink RX12 790 yX12_divides, Cond.instanceMethod yX12_divides, Cond.selects RX12 yX12_divides yX12_divides, Cond.code yX12_divides cX12_divides 6 (some .int), Cond.methodLink RX12 768 yX12_rest, Cond.static yX12_rest, Cond.code yX12_rest cX12_rest 6 (some .long), Cond.methodLink RX12 792 yX12_keep, Cond.instanceMethod yX12_keep, Cond.selects RX12 yX12_keep yX12_keep, Cond.code yX12_keep cX12_keep 3 none, Cond.methodLink RX12 795 yX12_not, Cond.static yX12_not, Cond.code yX12_not cX12_not 1 (some .int), Cond.methodLink RX12 860 yX12_told, Cond.instanceMethod yX12_told, Cond.selects RX12 yX12_told yX12_told]
def wsX12_on_r18 : List Cond := [Cond.code yX12_told cX12_told 1 (some .int), Cond.fieldLink RX12 836 "IntegerHouseModel" "latestFault" "I", Cond.methodLink RX12 862 yX12_no, Cond.instanceMethod yX12_no, Cond.selects RX12 yX12_no yX12_no, Cond.code yX12_no cX12_no 2 (some .int), Cond.methodLink RX12 865 yX12_full, Cond.instanceMethod yX12_full, Cond.selects RX12 yX12_full yX12_full, Cond.code yX12_full cX12_full 2 (some .boolean), Cond.fieldLink RX12 475 "IntegerHouseModel" "waitBytes" "I", Cond.fieldLink RX12 478 "IntegerHouseModel" "used" "I", Cond.methodLink RX12 827 yX12_turn, Cond.instanceMethod yX12_turn, Cond.selects RX12 yX12_turn yX12_turn, Cond.code yX12_turn cX12_turn 4 (some .int), Cond.methodLink RX12 830 yX12_layer, Cond.instanceMethod yX12_layer, Cond.selects RX12 yX12_layer yX12_layer, Cond.code yX12_layer cX12_layer 2 (some .int), Cond.fieldLink RX12 271 "IntegerHouseModel" "layerVariables" "[I", Cond.fieldLink RX12 274 "IntegerHouseModel" "layerClaims" "[I", Cond.fieldLink RX12 277 "IntegerHouseModel" "layerOn" "[Z", Cond.methodLink RX12 833 yX12_leave]
def wsX12_on_r19 : List Cond := [Cond.instanceMethod yX12_leave, Cond.selects RX12 yX12_leave yX12_leave, Cond.code yX12_leave cX12_leave 2 (some .int), Cond.methodLink RX12 481 yX12_note, Cond.instanceMethod yX12_note, Cond.selects RX12 yX12_note yX12_note, Cond.code yX12_note cX12_note 2 none, Cond.fieldLink RX12 25 "IntegerHouseModel" "waits" "[B", Cond.methodLink RX12 501 yX12_noteInt, Cond.instanceMethod yX12_noteInt, Cond.selects RX12 yX12_noteInt yX12_noteInt, Cond.code yX12_noteInt cX12_noteInt 3 none]
def wsX12_on : List Cond := .code yX12_on cX12_on 3 (some .int) :: ((wsX12_on_r1 ++ (wsX12_on_r2 ++ (wsX12_on_r3 ++ (wsX12_on_r4 ++ (wsX12_on_r5 ++ (wsX12_on_r6 ++ (wsX12_on_r7 ++ (wsX12_on_r8 ++ (wsX12_on_r9 ++ (wsX12_on_r10 ++ (wsX12_on_r11 ++ (wsX12_on_r12 ++ (wsX12_on_r13 ++ (wsX12_on_r14 ++ (wsX12_on_r15 ++ (wsX12_on_r16 ++ (wsX12_on_r17 ++ (wsX12_on_r18 ++ wsX12_on_r19)))))))))))))))))) ++ wsX120)
def wsX12_push_r1 : List Cond := [Cond.methodLink RX12 868 yX12_call, Cond.instanceMethod yX12_call, Cond.selects RX12 yX12_call yX12_call, Cond.initialized RX12, Cond.code yX12_call cX12_call 4 (some .int), Cond.fieldLink RX12 3 "IntegerHouseModel" "thrown" "I", Cond.fieldLink RX12 488 "IntegerHouseModel" "down" "Z", Cond.fieldLink RX12 466 "IntegerHouseModel" "number" "I", Cond.fieldLink RX12 472 "IntegerHouseModel" "replay" "Z", Cond.fieldLink RX12 462 "IntegerHouseModel" "refused" "Z", Cond.fieldLink RX12 498 "IntegerHouseModel" "done" "I", Cond.fieldLink RX12 28 "IntegerHouseModel" "arg" "[I", Cond.fieldLink RX12 469 "IntegerHouseModel" "docSize" "I", Cond.fieldLink RX12 32 "IntegerHouseModel" "doc" "[B", Cond.methodLink RX12 491 yX12_takeTape, Cond.instanceMethod yX12_takeTape, Cond.selects RX12 yX12_takeTape yX12_takeTape, Cond.code yX12_takeTape cX12_takeTape 2 none, Cond.fieldLink RX12 485 "IntegerHouseModel" "taped" "I", Cond.fieldLink RX12 15 "IntegerHouseModel" "tape" "[B", Cond.methodLink RX12 494 yX12_act, Cond.instanceMethod yX12_act, Cond.selects RX12 yX12_act yX12_act, Cond.code yX12_act cX12_act 1 (some .int)]
def wsX12_push_r2 : List Cond := [Cond.methodLink RX12 824 yX12_readText, Cond.instanceMethod yX12_readText, Cond.selects RX12 yX12_readText yX12_readText, Cond.code yX12_readText cX12_readText 3 (some .int), Cond.fieldLink RX12 815 "IntegerHouseModel" "variables" "I", Cond.fieldLink RX12 620 "IntegerHouseModel" "knownVariables" "I", Cond.fieldLink RX12 818 "IntegerHouseModel" "claims" "I", Cond.fieldLink RX12 627 "IntegerHouseModel" "knownClaims" "I", Cond.fieldLink RX12 562 "IntegerHouseModel" "faulty" "Z", Cond.fieldLink RX12 87 "IntegerHouseModel" "tokenKind" "[I", Cond.fieldLink RX12 597 "IntegerHouseModel" "now" "I", Cond.fieldLink RX12 630 "IntegerHouseModel" "slot" "I", Cond.fieldLink RX12 280 "IntegerHouseModel" "namedAt" "[I", Cond.fieldLink RX12 265 "IntegerHouseModel" "isOn" "[Z", Cond.fieldLink RX12 268 "IntegerHouseModel" "claimLayer" "[I", Cond.fieldLink RX12 821 "IntegerHouseModel" "layers" "I", Cond.methodLink RX12 848 yX12_scan, Cond.instanceMethod yX12_scan, Cond.selects RX12 yX12_scan yX12_scan, Cond.code yX12_scan cX12_scan 8 none, Cond.fieldLink RX12 594 "IntegerHouseModel" "tokens" "I", Cond.fieldLink RX12 81 "IntegerHouseModel" "tokenAt" "[I", Cond.fieldLink RX12 84 "IntegerHouseModel" "tokenSize" "[I", Cond.fieldLink RX12 90 "IntegerHouseModel" "tokenValue" "[I"]
def wsX12_push_r3 : List Cond := [Cond.fieldLink RX12 77 "IntegerHouseModel" "words" "[Ljava/lang/String;", Cond.methodLink RX12 586 yX12_char1, Cond.instanceMethod yX12_char1, Cond.selects RX12 yX12_char1 yX12_char1, Cond.code yX12_char1 cX12_char1 2 (some .int), Cond.methodLink RX12 600 yX12_isLetter, Cond.static yX12_isLetter, Cond.code yX12_isLetter cX12_isLetter 1 (some .boolean), Cond.constantLong RX12 571 (97), Cond.constantLong RX12 573 (122), Cond.constantLong RX12 575 (65), Cond.constantLong RX12 577 (90), Cond.methodLink RX12 504 yX12_in, Cond.static yX12_in, Cond.code yX12_in cX12_in 6 (some .boolean), Cond.methodLink RX12 603 yX12_isDigit, Cond.static yX12_isDigit, Cond.code yX12_isDigit cX12_isDigit 1 (some .boolean), Cond.constantLong RX12 579 (48), Cond.constantLong RX12 581 (57), Cond.methodLink RX12 606 yX12_longSign, Cond.static yX12_longSign, Cond.code yX12_longSign cX12_longSign 2 (some .int), Cond.methodLink RX12 609 yX12_signOf]
def wsX12_push_r4 : List Cond := [Cond.static yX12_signOf, Cond.code yX12_signOf cX12_signOf 1 (some .int), Cond.methodLink RX12 612 yX12_isText, Cond.instanceMethod yX12_isText, Cond.selects RX12 yX12_isText yX12_isText, Cond.code yX12_isText cX12_isText 4 (some .boolean), Cond.methodLink RX12 583 yJ0_length_8abf5, Cond.instanceMethod yJ0_length_8abf5, Cond.selects RJ0 yJ0_length_8abf5 yJ0_length_8abf5, Cond.initialized RJ0, Cond.code yJ0_length_8abf5 cJ0_length_8abf5 1 (some .int), Cond.fieldLink RJ0 9 "java/lang/String" "value" "[B", Cond.methodLink RJ0 335 yJ0_coder_7d493, Cond.instanceMethod yJ0_coder_7d493, Cond.selects RJ0 yJ0_coder_7d493 yJ0_coder_7d493, Cond.code yJ0_coder_7d493 cJ0_coder_7d493 1 (some .byte), Cond.fieldLink RJ0 38 "java/lang/String" "COMPACT_STRINGS" "Z", Cond.fieldLink RJ0 15 "java/lang/String" "coder" "B", Cond.methodLink RX12 590 yJ0_charAt_5068e, Cond.instanceMethod yJ0_charAt_5068e, Cond.selects RJ0 yJ0_charAt_5068e yJ0_charAt_5068e, Cond.code yJ0_charAt_5068e cJ0_charAt_5068e 2 (some .char), Cond.methodLink RJ0 492 yJ0_isLatin1_aae02, Cond.instanceMethod yJ0_isLatin1_aae02]
def wsX12_push_r5 : List Cond := [Cond.selects RJ0 yJ0_isLatin1_aae02 yJ0_isLatin1_aae02, Cond.code yJ0_isLatin1_aae02 cJ0_isLatin1_aae02 1 (some .boolean), Cond.methodLink RJ0 495 yJ1_charAt_3b067, Cond.static yJ1_charAt_3b067, Cond.initialized RJ1, Cond.code yJ1_charAt_3b067 cJ1_charAt_3b067 2 (some .char), Cond.methodLink RJ1 9 yJ0_checkIndex_df160, Cond.static yJ0_checkIndex_df160, Cond.code yJ0_checkIndex_df160 cJ0_checkIndex_df160 2 none, Cond.fieldLink RJ0 1053 "jdk/internal/util/Preconditions" "SIOOBE_FORMATTER" "Ljava/util/function/BiFunction;", Cond.methodLink RJ0 1059 yJ3_checkIndex_8e157, Cond.static yJ3_checkIndex_8e157, Cond.initialized RJ3, Cond.code yJ3_checkIndex_8e157 cJ3_checkIndex_8e157 3 (some .int), Cond.methodLink RJ0 498 yJ2_charAt_3b067, Cond.static yJ2_charAt_3b067, Cond.initialized RJ2, Cond.code yJ2_charAt_3b067 cJ2_charAt_3b067 2 (some .char), Cond.methodLink RJ2 67 yJ2_checkIndex_2214a, Cond.static yJ2_checkIndex_2214a, Cond.code yJ2_checkIndex_2214a cJ2_checkIndex_2214a 2 none, Cond.methodLink RJ2 48 yJ2_length_9d52b, Cond.static yJ2_length_9d52b, Cond.code yJ2_length_9d52b cJ2_length_9d52b 1 (some .int)]
def wsX12_push_r6 : List Cond := [Cond.methodLink RJ2 414 yJ0_checkIndex_df160, Cond.methodLink RJ2 71 yJ2_getChar_3b067, Cond.static yJ2_getChar_3b067, Cond.code yJ2_getChar_3b067 cJ2_getChar_3b067 2 (some .char), Cond.fieldLink RJ2 44 "java/lang/StringUTF16" "$assertionsDisabled" "Z", Cond.fieldLink RJ2 59 "java/lang/StringUTF16" "HI_BYTE_SHIFT" "I", Cond.fieldLink RJ2 63 "java/lang/StringUTF16" "LO_BYTE_SHIFT" "I", Cond.methodLink RX12 666 yX12_isWord, Cond.instanceMethod yX12_isWord, Cond.selects RX12 yX12_isWord yX12_isWord, Cond.code yX12_isWord cX12_isWord 2 (some .boolean), Cond.methodLink RX12 851 yX12_readVariables, Cond.instanceMethod yX12_readVariables, Cond.selects RX12 yX12_readVariables yX12_readVariables, Cond.code yX12_readVariables cX12_readVariables 1 none, Cond.methodLink RX12 698 yX12_cannot, Cond.instanceMethod yX12_cannot, Cond.selects RX12 yX12_cannot yX12_cannot, Cond.code yX12_cannot cX12_cannot 1 none, Cond.methodLink RX12 616 yX12_fail, Cond.instanceMethod yX12_fail, Cond.selects RX12 yX12_fail yX12_fail, Cond.code yX12_fail cX12_fail 3 none, Cond.fieldLink RX12 565 "IntegerHouseModel" "faultKind" "I"]
def wsX12_push_r7 : List Cond := [Cond.fieldLink RX12 568 "IntegerHouseModel" "faultPlace" "I", Cond.methodLink RX12 685 yX12_variableAt, Cond.instanceMethod yX12_variableAt, Cond.selects RX12 yX12_variableAt yX12_variableAt, Cond.code yX12_variableAt cX12_variableAt 3 (some .int), Cond.methodLink RX12 623 yX12_isCalled, Cond.instanceMethod yX12_isCalled, Cond.selects RX12 yX12_isCalled yX12_isCalled, Cond.code yX12_isCalled cX12_isCalled 4 (some .boolean), Cond.fieldLink RX12 96 "IntegerHouseModel" "nameSize" "[I", Cond.fieldLink RX12 93 "IntegerHouseModel" "nameText" "[B", Cond.methodLink RX12 682 yX12_claimAt, Cond.instanceMethod yX12_claimAt, Cond.selects RX12 yX12_claimAt yX12_claimAt, Cond.code yX12_claimAt cX12_claimAt 3 (some .int), Cond.methodLink RX12 839 yX12_callIt, Cond.instanceMethod yX12_callIt, Cond.selects RX12 yX12_callIt yX12_callIt, Cond.code yX12_callIt cX12_callIt 4 none, Cond.methodLink RX12 854 yX12_readClaim, Cond.instanceMethod yX12_readClaim, Cond.selects RX12 yX12_readClaim yX12_readClaim, Cond.code yX12_readClaim cX12_readClaim 3 none, Cond.methodLink RX12 672 yX12_isSign]
def wsX12_push_r8 : List Cond := [Cond.instanceMethod yX12_isSign, Cond.selects RX12 yX12_isSign yX12_isSign, Cond.code yX12_isSign cX12_isSign 2 (some .boolean), Cond.methodLink RX12 842 yX12_beginSlot, Cond.instanceMethod yX12_beginSlot, Cond.selects RX12 yX12_beginSlot yX12_beginSlot, Cond.code yX12_beginSlot cX12_beginSlot 2 none, Cond.fieldLink RX12 633 "IntegerHouseModel" "open" "I", Cond.fieldLink RX12 105 "IntegerHouseModel" "textCount" "[I", Cond.fieldLink RX12 120 "IntegerHouseModel" "nodeCount" "[I", Cond.fieldLink RX12 153 "IntegerHouseModel" "leafCount" "[I", Cond.fieldLink RX12 165 "IntegerHouseModel" "termCount" "[I", Cond.fieldLink RX12 181 "IntegerHouseModel" "partCount" "[I", Cond.methodLink RX12 845 yX12_readFormula, Cond.instanceMethod yX12_readFormula, Cond.selects RX12 yX12_readFormula yX12_readFormula, Cond.code yX12_readFormula cX12_readFormula 1 (some .int), Cond.fieldLink RX12 639 "IntegerHouseModel" "formulas" "I", Cond.fieldLink RX12 642 "IntegerHouseModel" "terms" "I", Cond.fieldLink RX12 648 "IntegerHouseModel" "state" "I", Cond.fieldLink RX12 184 "IntegerHouseModel" "rootOf" "[I", Cond.fieldLink RX12 660 "IntegerHouseModel" "current" "I", Cond.methodLink RX12 645 yX12_openFormula, Cond.instanceMethod yX12_openFormula]
def wsX12_push_r9 : List Cond := [Cond.selects RX12 yX12_openFormula yX12_openFormula, Cond.code yX12_openFormula cX12_openFormula 1 none, Cond.fieldLink RX12 187 "IntegerHouseModel" "openJoin" "[I", Cond.fieldLink RX12 190 "IntegerHouseModel" "openLeft" "[I", Cond.fieldLink RX12 193 "IntegerHouseModel" "openOr" "[I", Cond.fieldLink RX12 199 "IntegerHouseModel" "openAnd" "[I", Cond.fieldLink RX12 205 "IntegerHouseModel" "openNots" "[I", Cond.methodLink RX12 651 yX12_readOne, Cond.instanceMethod yX12_readOne, Cond.selects RX12 yX12_readOne yX12_readOne, Cond.code yX12_readOne cX12_readOne 5 none, Cond.fieldLink RX12 135 "IntegerHouseModel" "leafFrom" "[I", Cond.constantLong RX12 694 (8), Cond.constantLong RX12 696 (12), Cond.methodLink RX12 669 yX12_takeOpen, Cond.instanceMethod yX12_takeOpen, Cond.selects RX12 yX12_takeOpen yX12_takeOpen, Cond.code yX12_takeOpen cX12_takeOpen 1 none, Cond.methodLink RX12 636 yX12_take, Cond.instanceMethod yX12_take, Cond.selects RX12 yX12_take yX12_take, Cond.code yX12_take cX12_take 3 none, Cond.fieldLink RX12 102 "IntegerHouseModel" "textSize" "[I", Cond.fieldLink RX12 99 "IntegerHouseModel" "textBytes" "[B"]
def wsX12_push_r10 : List Cond := [Cond.methodLink RX12 675 yX12_newNode, Cond.instanceMethod yX12_newNode, Cond.selects RX12 yX12_newNode yX12_newNode, Cond.code yX12_newNode cX12_newNode 5 (some .int), Cond.fieldLink RX12 108 "IntegerHouseModel" "nodeKind" "[I", Cond.fieldLink RX12 111 "IntegerHouseModel" "nodeA" "[I", Cond.fieldLink RX12 114 "IntegerHouseModel" "nodeB" "[I", Cond.fieldLink RX12 117 "IntegerHouseModel" "nodeNext" "[I", Cond.methodLink RX12 679 yX12_endOne, Cond.instanceMethod yX12_endOne, Cond.selects RX12 yX12_endOne yX12_endOne, Cond.code yX12_endOne cX12_endOne 2 none, Cond.fieldLink RX12 202 "IntegerHouseModel" "openAndLast" "[I", Cond.methodLink RX12 688 yX12_beginLeaf, Cond.instanceMethod yX12_beginLeaf, Cond.selects RX12 yX12_beginLeaf yX12_beginLeaf, Cond.code yX12_beginLeaf cX12_beginLeaf 4 none, Cond.fieldLink RX12 123 "IntegerHouseModel" "leafOp" "[I", Cond.fieldLink RX12 126 "IntegerHouseModel" "leafNumber" "[I", Cond.fieldLink RX12 129 "IntegerHouseModel" "leafLeft" "[I", Cond.fieldLink RX12 141 "IntegerHouseModel" "leafTerms" "[I", Cond.methodLink RX12 663 yX12_openTerm, Cond.instanceMethod yX12_openTerm, Cond.selects RX12 yX12_openTerm yX12_openTerm]
def wsX12_push_r11 : List Cond := [Cond.code yX12_openTerm cX12_openTerm 2 none, Cond.fieldLink RX12 208 "IntegerHouseModel" "inKind" "[I", Cond.fieldLink RX12 211 "IntegerHouseModel" "inFirst" "[I", Cond.fieldLink RX12 217 "IntegerHouseModel" "inSign" "[I", Cond.fieldLink RX12 220 "IntegerHouseModel" "inTimes" "[J", Cond.fieldLink RX12 223 "IntegerHouseModel" "inOne" "[I", Cond.methodLink RX12 691 yX12_takeNumber, Cond.instanceMethod yX12_takeNumber, Cond.selects RX12 yX12_takeNumber yX12_takeNumber, Cond.code yX12_takeNumber cX12_takeNumber 1 none, Cond.constantLong RX12 701 (2), Cond.methodLink RX12 654 yX12_readAfter, Cond.instanceMethod yX12_readAfter, Cond.selects RX12 yX12_readAfter yX12_readAfter, Cond.code yX12_readAfter cX12_readAfter 4 none, Cond.fieldLink RX12 196 "IntegerHouseModel" "openOrLast" "[I", Cond.methodLink RX12 703 yX12_join, Cond.instanceMethod yX12_join, Cond.selects RX12 yX12_join yX12_join, Cond.code yX12_join cX12_join 8 (some .int), Cond.methodLink RX12 657 yX12_readInTerm, Cond.instanceMethod yX12_readInTerm, Cond.selects RX12 yX12_readInTerm yX12_readInTerm, Cond.code yX12_readInTerm cX12_readInTerm 1 none]
def wsX12_push_r12 : List Cond := [Cond.methodLink RX12 706 yX12_addPart, Cond.instanceMethod yX12_addPart, Cond.selects RX12 yX12_addPart yX12_addPart, Cond.code yX12_addPart cX12_addPart 3 none, Cond.fieldLink RX12 168 "IntegerHouseModel" "partSign" "[I", Cond.fieldLink RX12 171 "IntegerHouseModel" "partTimes" "[J", Cond.fieldLink RX12 175 "IntegerHouseModel" "partOf" "[I", Cond.fieldLink RX12 178 "IntegerHouseModel" "partNext" "[I", Cond.fieldLink RX12 214 "IntegerHouseModel" "inLast" "[I", Cond.methodLink RX12 709 yX12_readAtom, Cond.instanceMethod yX12_readAtom, Cond.selects RX12 yX12_readAtom yX12_readAtom, Cond.code yX12_readAtom cX12_readAtom 3 none, Cond.methodLink RX12 715 yX12_newTerm, Cond.instanceMethod yX12_newTerm, Cond.selects RX12 yX12_newTerm yX12_newTerm, Cond.code yX12_newTerm cX12_newTerm 5 (some .int), Cond.fieldLink RX12 156 "IntegerHouseModel" "termKind" "[I", Cond.fieldLink RX12 159 "IntegerHouseModel" "termA" "[I", Cond.fieldLink RX12 162 "IntegerHouseModel" "termB" "[I", Cond.methodLink RX12 712 yX12_endTerm, Cond.instanceMethod yX12_endTerm, Cond.selects RX12 yX12_endTerm yX12_endTerm, Cond.code yX12_endTerm cX12_endTerm 7 none]
def wsX12_push_r13 : List Cond := [Cond.methodLink RX12 718 yX12_endSide, Cond.instanceMethod yX12_endSide, Cond.selects RX12 yX12_endSide yX12_endSide, Cond.code yX12_endSide cX12_endSide 5 none, Cond.constantLong RX12 721 (11), Cond.constantLong RX12 723 (15), Cond.fieldLink RX12 132 "IntegerHouseModel" "leafRight" "[I", Cond.fieldLink RX12 138 "IntegerHouseModel" "leafTo" "[I", Cond.fieldLink RX12 144 "IntegerHouseModel" "leafTermsTo" "[I", Cond.methodLink RX12 857 yX12_build, Cond.instanceMethod yX12_build, Cond.selects RX12 yX12_build yX12_build, Cond.code yX12_build cX12_build 7 (some .int), Cond.fieldLink RX12 725 "IntegerHouseModel" "great" "Z", Cond.fieldLink RX12 747 "IntegerHouseModel" "crowded" "Z", Cond.fieldLink RX12 235 "IntegerHouseModel" "atomCount" "[I", Cond.fieldLink RX12 241 "IntegerHouseModel" "caseCount" "[I", Cond.fieldLink RX12 247 "IntegerHouseModel" "falseAt" "[I", Cond.fieldLink RX12 244 "IntegerHouseModel" "isPlain" "[Z", Cond.constantLong RX12 806 (64), Cond.fieldLink RX12 262 "IntegerHouseModel" "hereF" "[J", Cond.fieldLink RX12 226 "IntegerHouseModel" "atomF" "[I", Cond.fieldLink RX12 232 "IntegerHouseModel" "atomN" "[I", Cond.fieldLink RX12 229 "IntegerHouseModel" "atomC" "[I"]
def wsX12_push_r14 : List Cond := [Cond.methodLink RX12 808 yX12_casesOf, Cond.instanceMethod yX12_casesOf, Cond.selects RX12 yX12_casesOf yX12_casesOf, Cond.code yX12_casesOf cX12_casesOf 8 (some .long), Cond.methodLink RX12 800 yX12_ways, Cond.instanceMethod yX12_ways, Cond.selects RX12 yX12_ways yX12_ways, Cond.code yX12_ways cX12_ways 3 (some .int), Cond.methodLink RX12 812 yX12_makeCases, Cond.instanceMethod yX12_makeCases, Cond.selects RX12 yX12_makeCases yX12_makeCases, Cond.code yX12_makeCases cX12_makeCases 5 none, Cond.fieldLink RX12 259 "IntegerHouseModel" "chosen" "[I", Cond.fieldLink RX12 147 "IntegerHouseModel" "leafCase" "[I", Cond.fieldLink RX12 150 "IntegerHouseModel" "leafCases" "[I", Cond.methodLink RX12 803 yX12_makeCase, Cond.instanceMethod yX12_makeCase, Cond.selects RX12 yX12_makeCase yX12_makeCase, Cond.code yX12_makeCase cX12_makeCase 7 none, Cond.fieldLink RX12 238 "IntegerHouseModel" "caseLit" "[I", Cond.constantLong RX12 526 (-1), Cond.methodLink RX12 797 yX12_shape, Cond.instanceMethod yX12_shape, Cond.selects RX12 yX12_shape yX12_shape]
def wsX12_push_r15 : List Cond := [Cond.code yX12_shape cX12_shape 8 (some .int), Cond.fieldLink RX12 736 "IntegerHouseModel" "hereC" "J", Cond.fieldLink RX12 740 "IntegerHouseModel" "hereD" "J", Cond.methodLink RX12 771 yX12_clearHere, Cond.instanceMethod yX12_clearHere, Cond.selects RX12 yX12_clearHere yX12_clearHere, Cond.code yX12_clearHere cX12_clearHere 4 none, Cond.methodLink RX12 774 yX12_total, Cond.instanceMethod yX12_total, Cond.selects RX12 yX12_total yX12_total, Cond.code yX12_total cX12_total 22 none, Cond.methodLink RX12 783 yX12_add, Cond.instanceMethod yX12_add, Cond.selects RX12 yX12_add yX12_add, Cond.code yX12_add cX12_add 7 none, Cond.fieldLink RX12 256 "IntegerHouseModel" "formD" "[J", Cond.fieldLink RX12 250 "IntegerHouseModel" "formF" "[J", Cond.fieldLink RX12 253 "IntegerHouseModel" "formC" "[J", Cond.methodLink RX12 743 yX12_divisor, Cond.static yX12_divisor, Cond.code yX12_divisor cX12_divisor 10 (some .long), Cond.methodLink RX12 787 yX12_lookHere, Cond.instanceMethod yX12_lookHere, Cond.selects RX12 yX12_lookHere yX12_lookHere]
def wsX12_push_r16 : List Cond := [Cond.code yX12_lookHere cX12_lookHere 2 none, Cond.methodLink RX12 732 yX12_look, Cond.instanceMethod yX12_look, Cond.selects RX12 yX12_look yX12_look, Cond.code yX12_look cX12_look 3 none, Cond.constantLong RX12 728 (1000000), Cond.constantLong RX12 730 (-1000000), Cond.methodLink RX12 777 yX12_hereIs, Cond.instanceMethod yX12_hereIs, Cond.selects RX12 yX12_hereIs yX12_hereIs, Cond.code yX12_hereIs cX12_hereIs 4 none, Cond.methodLink RX12 780 yX12_lineOf, Cond.instanceMethod yX12_lineOf, Cond.selects RX12 yX12_lineOf yX12_lineOf, Cond.code yX12_lineOf cX12_lineOf 7 (some .int), Cond.constantLong RX12 750 (20), Cond.constantLong RX12 752 (-20), Cond.constantLong RX12 754 (99999), Cond.constantLong RX12 756 (-99999), Cond.methodLink RX12 758 yX12_isFlat, Cond.instanceMethod yX12_isFlat, Cond.selects RX12 yX12_isFlat yX12_isFlat, Cond.code yX12_isFlat cX12_isFlat 1 (some .boolean), Cond.methodLink RX12 761 yX12_isFalseHere]
def wsX12_push_r17 : List Cond := [Cond.instanceMethod yX12_isFalseHere, Cond.selects RX12 yX12_isFalseHere yX12_isFalseHere, Cond.code yX12_isFalseHere cX12_isFalseHere 1 none, Cond.methodLink RX12 764 yX12_atomOf, Cond.instanceMethod yX12_atomOf, Cond.selects RX12 yX12_atomOf yX12_atomOf, Cond.code yX12_atomOf cX12_atomOf 8 (some .int), Cond.methodLink RX12 790 yX12_divides, Cond.instanceMethod yX12_divides, Cond.selects RX12 yX12_divides yX12_divides, Cond.code yX12_divides cX12_divides 6 (some .int), Cond.methodLink RX12 768 yX12_rest, Cond.static yX12_rest, Cond.code yX12_rest cX12_rest 6 (some .long), Cond.methodLink RX12 792 yX12_keep, Cond.instanceMethod yX12_keep, Cond.selects RX12 yX12_keep yX12_keep, Cond.code yX12_keep cX12_keep 3 none, Cond.methodLink RX12 795 yX12_not, Cond.static yX12_not, Cond.code yX12_not cX12_not 1 (some .int), Cond.methodLink RX12 860 yX12_told, Cond.instanceMethod yX12_told, Cond.selects RX12 yX12_told yX12_told]
def wsX12_push_r18 : List Cond := [Cond.code yX12_told cX12_told 1 (some .int), Cond.fieldLink RX12 836 "IntegerHouseModel" "latestFault" "I", Cond.methodLink RX12 862 yX12_no, Cond.instanceMethod yX12_no, Cond.selects RX12 yX12_no yX12_no, Cond.code yX12_no cX12_no 2 (some .int), Cond.methodLink RX12 865 yX12_full, Cond.instanceMethod yX12_full, Cond.selects RX12 yX12_full yX12_full, Cond.code yX12_full cX12_full 2 (some .boolean), Cond.fieldLink RX12 475 "IntegerHouseModel" "waitBytes" "I", Cond.fieldLink RX12 478 "IntegerHouseModel" "used" "I", Cond.methodLink RX12 827 yX12_turn, Cond.instanceMethod yX12_turn, Cond.selects RX12 yX12_turn yX12_turn, Cond.code yX12_turn cX12_turn 4 (some .int), Cond.methodLink RX12 830 yX12_layer, Cond.instanceMethod yX12_layer, Cond.selects RX12 yX12_layer yX12_layer, Cond.code yX12_layer cX12_layer 2 (some .int), Cond.fieldLink RX12 271 "IntegerHouseModel" "layerVariables" "[I", Cond.fieldLink RX12 274 "IntegerHouseModel" "layerClaims" "[I", Cond.fieldLink RX12 277 "IntegerHouseModel" "layerOn" "[Z", Cond.methodLink RX12 833 yX12_leave]
def wsX12_push_r19 : List Cond := [Cond.instanceMethod yX12_leave, Cond.selects RX12 yX12_leave yX12_leave, Cond.code yX12_leave cX12_leave 2 (some .int), Cond.methodLink RX12 481 yX12_note, Cond.instanceMethod yX12_note, Cond.selects RX12 yX12_note yX12_note, Cond.code yX12_note cX12_note 2 none, Cond.fieldLink RX12 25 "IntegerHouseModel" "waits" "[B", Cond.methodLink RX12 501 yX12_noteInt, Cond.instanceMethod yX12_noteInt, Cond.selects RX12 yX12_noteInt yX12_noteInt, Cond.code yX12_noteInt cX12_noteInt 3 none]
def wsX12_push : List Cond := .code yX12_push cX12_push 1 (some .int) :: ((wsX12_push_r1 ++ (wsX12_push_r2 ++ (wsX12_push_r3 ++ (wsX12_push_r4 ++ (wsX12_push_r5 ++ (wsX12_push_r6 ++ (wsX12_push_r7 ++ (wsX12_push_r8 ++ (wsX12_push_r9 ++ (wsX12_push_r10 ++ (wsX12_push_r11 ++ (wsX12_push_r12 ++ (wsX12_push_r13 ++ (wsX12_push_r14 ++ (wsX12_push_r15 ++ (wsX12_push_r16 ++ (wsX12_push_r17 ++ (wsX12_push_r18 ++ wsX12_push_r19)))))))))))))))))) ++ wsX120)
def wsX12_pop_r1 : List Cond := [Cond.methodLink RX12 868 yX12_call, Cond.instanceMethod yX12_call, Cond.selects RX12 yX12_call yX12_call, Cond.initialized RX12, Cond.code yX12_call cX12_call 4 (some .int), Cond.fieldLink RX12 3 "IntegerHouseModel" "thrown" "I", Cond.fieldLink RX12 488 "IntegerHouseModel" "down" "Z", Cond.fieldLink RX12 466 "IntegerHouseModel" "number" "I", Cond.fieldLink RX12 472 "IntegerHouseModel" "replay" "Z", Cond.fieldLink RX12 462 "IntegerHouseModel" "refused" "Z", Cond.fieldLink RX12 498 "IntegerHouseModel" "done" "I", Cond.fieldLink RX12 28 "IntegerHouseModel" "arg" "[I", Cond.fieldLink RX12 469 "IntegerHouseModel" "docSize" "I", Cond.fieldLink RX12 32 "IntegerHouseModel" "doc" "[B", Cond.methodLink RX12 491 yX12_takeTape, Cond.instanceMethod yX12_takeTape, Cond.selects RX12 yX12_takeTape yX12_takeTape, Cond.code yX12_takeTape cX12_takeTape 2 none, Cond.fieldLink RX12 485 "IntegerHouseModel" "taped" "I", Cond.fieldLink RX12 15 "IntegerHouseModel" "tape" "[B", Cond.methodLink RX12 494 yX12_act, Cond.instanceMethod yX12_act, Cond.selects RX12 yX12_act yX12_act, Cond.code yX12_act cX12_act 1 (some .int)]
def wsX12_pop_r2 : List Cond := [Cond.methodLink RX12 824 yX12_readText, Cond.instanceMethod yX12_readText, Cond.selects RX12 yX12_readText yX12_readText, Cond.code yX12_readText cX12_readText 3 (some .int), Cond.fieldLink RX12 815 "IntegerHouseModel" "variables" "I", Cond.fieldLink RX12 620 "IntegerHouseModel" "knownVariables" "I", Cond.fieldLink RX12 818 "IntegerHouseModel" "claims" "I", Cond.fieldLink RX12 627 "IntegerHouseModel" "knownClaims" "I", Cond.fieldLink RX12 562 "IntegerHouseModel" "faulty" "Z", Cond.fieldLink RX12 87 "IntegerHouseModel" "tokenKind" "[I", Cond.fieldLink RX12 597 "IntegerHouseModel" "now" "I", Cond.fieldLink RX12 630 "IntegerHouseModel" "slot" "I", Cond.fieldLink RX12 280 "IntegerHouseModel" "namedAt" "[I", Cond.fieldLink RX12 265 "IntegerHouseModel" "isOn" "[Z", Cond.fieldLink RX12 268 "IntegerHouseModel" "claimLayer" "[I", Cond.fieldLink RX12 821 "IntegerHouseModel" "layers" "I", Cond.methodLink RX12 848 yX12_scan, Cond.instanceMethod yX12_scan, Cond.selects RX12 yX12_scan yX12_scan, Cond.code yX12_scan cX12_scan 8 none, Cond.fieldLink RX12 594 "IntegerHouseModel" "tokens" "I", Cond.fieldLink RX12 81 "IntegerHouseModel" "tokenAt" "[I", Cond.fieldLink RX12 84 "IntegerHouseModel" "tokenSize" "[I", Cond.fieldLink RX12 90 "IntegerHouseModel" "tokenValue" "[I"]
def wsX12_pop_r3 : List Cond := [Cond.fieldLink RX12 77 "IntegerHouseModel" "words" "[Ljava/lang/String;", Cond.methodLink RX12 586 yX12_char1, Cond.instanceMethod yX12_char1, Cond.selects RX12 yX12_char1 yX12_char1, Cond.code yX12_char1 cX12_char1 2 (some .int), Cond.methodLink RX12 600 yX12_isLetter, Cond.static yX12_isLetter, Cond.code yX12_isLetter cX12_isLetter 1 (some .boolean), Cond.constantLong RX12 571 (97), Cond.constantLong RX12 573 (122), Cond.constantLong RX12 575 (65), Cond.constantLong RX12 577 (90), Cond.methodLink RX12 504 yX12_in, Cond.static yX12_in, Cond.code yX12_in cX12_in 6 (some .boolean), Cond.methodLink RX12 603 yX12_isDigit, Cond.static yX12_isDigit, Cond.code yX12_isDigit cX12_isDigit 1 (some .boolean), Cond.constantLong RX12 579 (48), Cond.constantLong RX12 581 (57), Cond.methodLink RX12 606 yX12_longSign, Cond.static yX12_longSign, Cond.code yX12_longSign cX12_longSign 2 (some .int), Cond.methodLink RX12 609 yX12_signOf]
def wsX12_pop_r4 : List Cond := [Cond.static yX12_signOf, Cond.code yX12_signOf cX12_signOf 1 (some .int), Cond.methodLink RX12 612 yX12_isText, Cond.instanceMethod yX12_isText, Cond.selects RX12 yX12_isText yX12_isText, Cond.code yX12_isText cX12_isText 4 (some .boolean), Cond.methodLink RX12 583 yJ0_length_8abf5, Cond.instanceMethod yJ0_length_8abf5, Cond.selects RJ0 yJ0_length_8abf5 yJ0_length_8abf5, Cond.initialized RJ0, Cond.code yJ0_length_8abf5 cJ0_length_8abf5 1 (some .int), Cond.fieldLink RJ0 9 "java/lang/String" "value" "[B", Cond.methodLink RJ0 335 yJ0_coder_7d493, Cond.instanceMethod yJ0_coder_7d493, Cond.selects RJ0 yJ0_coder_7d493 yJ0_coder_7d493, Cond.code yJ0_coder_7d493 cJ0_coder_7d493 1 (some .byte), Cond.fieldLink RJ0 38 "java/lang/String" "COMPACT_STRINGS" "Z", Cond.fieldLink RJ0 15 "java/lang/String" "coder" "B", Cond.methodLink RX12 590 yJ0_charAt_5068e, Cond.instanceMethod yJ0_charAt_5068e, Cond.selects RJ0 yJ0_charAt_5068e yJ0_charAt_5068e, Cond.code yJ0_charAt_5068e cJ0_charAt_5068e 2 (some .char), Cond.methodLink RJ0 492 yJ0_isLatin1_aae02, Cond.instanceMethod yJ0_isLatin1_aae02]
def wsX12_pop_r5 : List Cond := [Cond.selects RJ0 yJ0_isLatin1_aae02 yJ0_isLatin1_aae02, Cond.code yJ0_isLatin1_aae02 cJ0_isLatin1_aae02 1 (some .boolean), Cond.methodLink RJ0 495 yJ1_charAt_3b067, Cond.static yJ1_charAt_3b067, Cond.initialized RJ1, Cond.code yJ1_charAt_3b067 cJ1_charAt_3b067 2 (some .char), Cond.methodLink RJ1 9 yJ0_checkIndex_df160, Cond.static yJ0_checkIndex_df160, Cond.code yJ0_checkIndex_df160 cJ0_checkIndex_df160 2 none, Cond.fieldLink RJ0 1053 "jdk/internal/util/Preconditions" "SIOOBE_FORMATTER" "Ljava/util/function/BiFunction;", Cond.methodLink RJ0 1059 yJ3_checkIndex_8e157, Cond.static yJ3_checkIndex_8e157, Cond.initialized RJ3, Cond.code yJ3_checkIndex_8e157 cJ3_checkIndex_8e157 3 (some .int), Cond.methodLink RJ0 498 yJ2_charAt_3b067, Cond.static yJ2_charAt_3b067, Cond.initialized RJ2, Cond.code yJ2_charAt_3b067 cJ2_charAt_3b067 2 (some .char), Cond.methodLink RJ2 67 yJ2_checkIndex_2214a, Cond.static yJ2_checkIndex_2214a, Cond.code yJ2_checkIndex_2214a cJ2_checkIndex_2214a 2 none, Cond.methodLink RJ2 48 yJ2_length_9d52b, Cond.static yJ2_length_9d52b, Cond.code yJ2_length_9d52b cJ2_length_9d52b 1 (some .int)]
def wsX12_pop_r6 : List Cond := [Cond.methodLink RJ2 414 yJ0_checkIndex_df160, Cond.methodLink RJ2 71 yJ2_getChar_3b067, Cond.static yJ2_getChar_3b067, Cond.code yJ2_getChar_3b067 cJ2_getChar_3b067 2 (some .char), Cond.fieldLink RJ2 44 "java/lang/StringUTF16" "$assertionsDisabled" "Z", Cond.fieldLink RJ2 59 "java/lang/StringUTF16" "HI_BYTE_SHIFT" "I", Cond.fieldLink RJ2 63 "java/lang/StringUTF16" "LO_BYTE_SHIFT" "I", Cond.methodLink RX12 666 yX12_isWord, Cond.instanceMethod yX12_isWord, Cond.selects RX12 yX12_isWord yX12_isWord, Cond.code yX12_isWord cX12_isWord 2 (some .boolean), Cond.methodLink RX12 851 yX12_readVariables, Cond.instanceMethod yX12_readVariables, Cond.selects RX12 yX12_readVariables yX12_readVariables, Cond.code yX12_readVariables cX12_readVariables 1 none, Cond.methodLink RX12 698 yX12_cannot, Cond.instanceMethod yX12_cannot, Cond.selects RX12 yX12_cannot yX12_cannot, Cond.code yX12_cannot cX12_cannot 1 none, Cond.methodLink RX12 616 yX12_fail, Cond.instanceMethod yX12_fail, Cond.selects RX12 yX12_fail yX12_fail, Cond.code yX12_fail cX12_fail 3 none, Cond.fieldLink RX12 565 "IntegerHouseModel" "faultKind" "I"]
def wsX12_pop_r7 : List Cond := [Cond.fieldLink RX12 568 "IntegerHouseModel" "faultPlace" "I", Cond.methodLink RX12 685 yX12_variableAt, Cond.instanceMethod yX12_variableAt, Cond.selects RX12 yX12_variableAt yX12_variableAt, Cond.code yX12_variableAt cX12_variableAt 3 (some .int), Cond.methodLink RX12 623 yX12_isCalled, Cond.instanceMethod yX12_isCalled, Cond.selects RX12 yX12_isCalled yX12_isCalled, Cond.code yX12_isCalled cX12_isCalled 4 (some .boolean), Cond.fieldLink RX12 96 "IntegerHouseModel" "nameSize" "[I", Cond.fieldLink RX12 93 "IntegerHouseModel" "nameText" "[B", Cond.methodLink RX12 682 yX12_claimAt, Cond.instanceMethod yX12_claimAt, Cond.selects RX12 yX12_claimAt yX12_claimAt, Cond.code yX12_claimAt cX12_claimAt 3 (some .int), Cond.methodLink RX12 839 yX12_callIt, Cond.instanceMethod yX12_callIt, Cond.selects RX12 yX12_callIt yX12_callIt, Cond.code yX12_callIt cX12_callIt 4 none, Cond.methodLink RX12 854 yX12_readClaim, Cond.instanceMethod yX12_readClaim, Cond.selects RX12 yX12_readClaim yX12_readClaim, Cond.code yX12_readClaim cX12_readClaim 3 none, Cond.methodLink RX12 672 yX12_isSign]
def wsX12_pop_r8 : List Cond := [Cond.instanceMethod yX12_isSign, Cond.selects RX12 yX12_isSign yX12_isSign, Cond.code yX12_isSign cX12_isSign 2 (some .boolean), Cond.methodLink RX12 842 yX12_beginSlot, Cond.instanceMethod yX12_beginSlot, Cond.selects RX12 yX12_beginSlot yX12_beginSlot, Cond.code yX12_beginSlot cX12_beginSlot 2 none, Cond.fieldLink RX12 633 "IntegerHouseModel" "open" "I", Cond.fieldLink RX12 105 "IntegerHouseModel" "textCount" "[I", Cond.fieldLink RX12 120 "IntegerHouseModel" "nodeCount" "[I", Cond.fieldLink RX12 153 "IntegerHouseModel" "leafCount" "[I", Cond.fieldLink RX12 165 "IntegerHouseModel" "termCount" "[I", Cond.fieldLink RX12 181 "IntegerHouseModel" "partCount" "[I", Cond.methodLink RX12 845 yX12_readFormula, Cond.instanceMethod yX12_readFormula, Cond.selects RX12 yX12_readFormula yX12_readFormula, Cond.code yX12_readFormula cX12_readFormula 1 (some .int), Cond.fieldLink RX12 639 "IntegerHouseModel" "formulas" "I", Cond.fieldLink RX12 642 "IntegerHouseModel" "terms" "I", Cond.fieldLink RX12 648 "IntegerHouseModel" "state" "I", Cond.fieldLink RX12 184 "IntegerHouseModel" "rootOf" "[I", Cond.fieldLink RX12 660 "IntegerHouseModel" "current" "I", Cond.methodLink RX12 645 yX12_openFormula, Cond.instanceMethod yX12_openFormula]
def wsX12_pop_r9 : List Cond := [Cond.selects RX12 yX12_openFormula yX12_openFormula, Cond.code yX12_openFormula cX12_openFormula 1 none, Cond.fieldLink RX12 187 "IntegerHouseModel" "openJoin" "[I", Cond.fieldLink RX12 190 "IntegerHouseModel" "openLeft" "[I", Cond.fieldLink RX12 193 "IntegerHouseModel" "openOr" "[I", Cond.fieldLink RX12 199 "IntegerHouseModel" "openAnd" "[I", Cond.fieldLink RX12 205 "IntegerHouseModel" "openNots" "[I", Cond.methodLink RX12 651 yX12_readOne, Cond.instanceMethod yX12_readOne, Cond.selects RX12 yX12_readOne yX12_readOne, Cond.code yX12_readOne cX12_readOne 5 none, Cond.fieldLink RX12 135 "IntegerHouseModel" "leafFrom" "[I", Cond.constantLong RX12 694 (8), Cond.constantLong RX12 696 (12), Cond.methodLink RX12 669 yX12_takeOpen, Cond.instanceMethod yX12_takeOpen, Cond.selects RX12 yX12_takeOpen yX12_takeOpen, Cond.code yX12_takeOpen cX12_takeOpen 1 none, Cond.methodLink RX12 636 yX12_take, Cond.instanceMethod yX12_take, Cond.selects RX12 yX12_take yX12_take, Cond.code yX12_take cX12_take 3 none, Cond.fieldLink RX12 102 "IntegerHouseModel" "textSize" "[I", Cond.fieldLink RX12 99 "IntegerHouseModel" "textBytes" "[B"]
def wsX12_pop_r10 : List Cond := [Cond.methodLink RX12 675 yX12_newNode, Cond.instanceMethod yX12_newNode, Cond.selects RX12 yX12_newNode yX12_newNode, Cond.code yX12_newNode cX12_newNode 5 (some .int), Cond.fieldLink RX12 108 "IntegerHouseModel" "nodeKind" "[I", Cond.fieldLink RX12 111 "IntegerHouseModel" "nodeA" "[I", Cond.fieldLink RX12 114 "IntegerHouseModel" "nodeB" "[I", Cond.fieldLink RX12 117 "IntegerHouseModel" "nodeNext" "[I", Cond.methodLink RX12 679 yX12_endOne, Cond.instanceMethod yX12_endOne, Cond.selects RX12 yX12_endOne yX12_endOne, Cond.code yX12_endOne cX12_endOne 2 none, Cond.fieldLink RX12 202 "IntegerHouseModel" "openAndLast" "[I", Cond.methodLink RX12 688 yX12_beginLeaf, Cond.instanceMethod yX12_beginLeaf, Cond.selects RX12 yX12_beginLeaf yX12_beginLeaf, Cond.code yX12_beginLeaf cX12_beginLeaf 4 none, Cond.fieldLink RX12 123 "IntegerHouseModel" "leafOp" "[I", Cond.fieldLink RX12 126 "IntegerHouseModel" "leafNumber" "[I", Cond.fieldLink RX12 129 "IntegerHouseModel" "leafLeft" "[I", Cond.fieldLink RX12 141 "IntegerHouseModel" "leafTerms" "[I", Cond.methodLink RX12 663 yX12_openTerm, Cond.instanceMethod yX12_openTerm, Cond.selects RX12 yX12_openTerm yX12_openTerm]
def wsX12_pop_r11 : List Cond := [Cond.code yX12_openTerm cX12_openTerm 2 none, Cond.fieldLink RX12 208 "IntegerHouseModel" "inKind" "[I", Cond.fieldLink RX12 211 "IntegerHouseModel" "inFirst" "[I", Cond.fieldLink RX12 217 "IntegerHouseModel" "inSign" "[I", Cond.fieldLink RX12 220 "IntegerHouseModel" "inTimes" "[J", Cond.fieldLink RX12 223 "IntegerHouseModel" "inOne" "[I", Cond.methodLink RX12 691 yX12_takeNumber, Cond.instanceMethod yX12_takeNumber, Cond.selects RX12 yX12_takeNumber yX12_takeNumber, Cond.code yX12_takeNumber cX12_takeNumber 1 none, Cond.constantLong RX12 701 (2), Cond.methodLink RX12 654 yX12_readAfter, Cond.instanceMethod yX12_readAfter, Cond.selects RX12 yX12_readAfter yX12_readAfter, Cond.code yX12_readAfter cX12_readAfter 4 none, Cond.fieldLink RX12 196 "IntegerHouseModel" "openOrLast" "[I", Cond.methodLink RX12 703 yX12_join, Cond.instanceMethod yX12_join, Cond.selects RX12 yX12_join yX12_join, Cond.code yX12_join cX12_join 8 (some .int), Cond.methodLink RX12 657 yX12_readInTerm, Cond.instanceMethod yX12_readInTerm, Cond.selects RX12 yX12_readInTerm yX12_readInTerm, Cond.code yX12_readInTerm cX12_readInTerm 1 none]
def wsX12_pop_r12 : List Cond := [Cond.methodLink RX12 706 yX12_addPart, Cond.instanceMethod yX12_addPart, Cond.selects RX12 yX12_addPart yX12_addPart, Cond.code yX12_addPart cX12_addPart 3 none, Cond.fieldLink RX12 168 "IntegerHouseModel" "partSign" "[I", Cond.fieldLink RX12 171 "IntegerHouseModel" "partTimes" "[J", Cond.fieldLink RX12 175 "IntegerHouseModel" "partOf" "[I", Cond.fieldLink RX12 178 "IntegerHouseModel" "partNext" "[I", Cond.fieldLink RX12 214 "IntegerHouseModel" "inLast" "[I", Cond.methodLink RX12 709 yX12_readAtom, Cond.instanceMethod yX12_readAtom, Cond.selects RX12 yX12_readAtom yX12_readAtom, Cond.code yX12_readAtom cX12_readAtom 3 none, Cond.methodLink RX12 715 yX12_newTerm, Cond.instanceMethod yX12_newTerm, Cond.selects RX12 yX12_newTerm yX12_newTerm, Cond.code yX12_newTerm cX12_newTerm 5 (some .int), Cond.fieldLink RX12 156 "IntegerHouseModel" "termKind" "[I", Cond.fieldLink RX12 159 "IntegerHouseModel" "termA" "[I", Cond.fieldLink RX12 162 "IntegerHouseModel" "termB" "[I", Cond.methodLink RX12 712 yX12_endTerm, Cond.instanceMethod yX12_endTerm, Cond.selects RX12 yX12_endTerm yX12_endTerm, Cond.code yX12_endTerm cX12_endTerm 7 none]
def wsX12_pop_r13 : List Cond := [Cond.methodLink RX12 718 yX12_endSide, Cond.instanceMethod yX12_endSide, Cond.selects RX12 yX12_endSide yX12_endSide, Cond.code yX12_endSide cX12_endSide 5 none, Cond.constantLong RX12 721 (11), Cond.constantLong RX12 723 (15), Cond.fieldLink RX12 132 "IntegerHouseModel" "leafRight" "[I", Cond.fieldLink RX12 138 "IntegerHouseModel" "leafTo" "[I", Cond.fieldLink RX12 144 "IntegerHouseModel" "leafTermsTo" "[I", Cond.methodLink RX12 857 yX12_build, Cond.instanceMethod yX12_build, Cond.selects RX12 yX12_build yX12_build, Cond.code yX12_build cX12_build 7 (some .int), Cond.fieldLink RX12 725 "IntegerHouseModel" "great" "Z", Cond.fieldLink RX12 747 "IntegerHouseModel" "crowded" "Z", Cond.fieldLink RX12 235 "IntegerHouseModel" "atomCount" "[I", Cond.fieldLink RX12 241 "IntegerHouseModel" "caseCount" "[I", Cond.fieldLink RX12 247 "IntegerHouseModel" "falseAt" "[I", Cond.fieldLink RX12 244 "IntegerHouseModel" "isPlain" "[Z", Cond.constantLong RX12 806 (64), Cond.fieldLink RX12 262 "IntegerHouseModel" "hereF" "[J", Cond.fieldLink RX12 226 "IntegerHouseModel" "atomF" "[I", Cond.fieldLink RX12 232 "IntegerHouseModel" "atomN" "[I", Cond.fieldLink RX12 229 "IntegerHouseModel" "atomC" "[I"]
def wsX12_pop_r14 : List Cond := [Cond.methodLink RX12 808 yX12_casesOf, Cond.instanceMethod yX12_casesOf, Cond.selects RX12 yX12_casesOf yX12_casesOf, Cond.code yX12_casesOf cX12_casesOf 8 (some .long), Cond.methodLink RX12 800 yX12_ways, Cond.instanceMethod yX12_ways, Cond.selects RX12 yX12_ways yX12_ways, Cond.code yX12_ways cX12_ways 3 (some .int), Cond.methodLink RX12 812 yX12_makeCases, Cond.instanceMethod yX12_makeCases, Cond.selects RX12 yX12_makeCases yX12_makeCases, Cond.code yX12_makeCases cX12_makeCases 5 none, Cond.fieldLink RX12 259 "IntegerHouseModel" "chosen" "[I", Cond.fieldLink RX12 147 "IntegerHouseModel" "leafCase" "[I", Cond.fieldLink RX12 150 "IntegerHouseModel" "leafCases" "[I", Cond.methodLink RX12 803 yX12_makeCase, Cond.instanceMethod yX12_makeCase, Cond.selects RX12 yX12_makeCase yX12_makeCase, Cond.code yX12_makeCase cX12_makeCase 7 none, Cond.fieldLink RX12 238 "IntegerHouseModel" "caseLit" "[I", Cond.constantLong RX12 526 (-1), Cond.methodLink RX12 797 yX12_shape, Cond.instanceMethod yX12_shape, Cond.selects RX12 yX12_shape yX12_shape]
def wsX12_pop_r15 : List Cond := [Cond.code yX12_shape cX12_shape 8 (some .int), Cond.fieldLink RX12 736 "IntegerHouseModel" "hereC" "J", Cond.fieldLink RX12 740 "IntegerHouseModel" "hereD" "J", Cond.methodLink RX12 771 yX12_clearHere, Cond.instanceMethod yX12_clearHere, Cond.selects RX12 yX12_clearHere yX12_clearHere, Cond.code yX12_clearHere cX12_clearHere 4 none, Cond.methodLink RX12 774 yX12_total, Cond.instanceMethod yX12_total, Cond.selects RX12 yX12_total yX12_total, Cond.code yX12_total cX12_total 22 none, Cond.methodLink RX12 783 yX12_add, Cond.instanceMethod yX12_add, Cond.selects RX12 yX12_add yX12_add, Cond.code yX12_add cX12_add 7 none, Cond.fieldLink RX12 256 "IntegerHouseModel" "formD" "[J", Cond.fieldLink RX12 250 "IntegerHouseModel" "formF" "[J", Cond.fieldLink RX12 253 "IntegerHouseModel" "formC" "[J", Cond.methodLink RX12 743 yX12_divisor, Cond.static yX12_divisor, Cond.code yX12_divisor cX12_divisor 10 (some .long), Cond.methodLink RX12 787 yX12_lookHere, Cond.instanceMethod yX12_lookHere, Cond.selects RX12 yX12_lookHere yX12_lookHere]
def wsX12_pop_r16 : List Cond := [Cond.code yX12_lookHere cX12_lookHere 2 none, Cond.methodLink RX12 732 yX12_look, Cond.instanceMethod yX12_look, Cond.selects RX12 yX12_look yX12_look, Cond.code yX12_look cX12_look 3 none, Cond.constantLong RX12 728 (1000000), Cond.constantLong RX12 730 (-1000000), Cond.methodLink RX12 777 yX12_hereIs, Cond.instanceMethod yX12_hereIs, Cond.selects RX12 yX12_hereIs yX12_hereIs, Cond.code yX12_hereIs cX12_hereIs 4 none, Cond.methodLink RX12 780 yX12_lineOf, Cond.instanceMethod yX12_lineOf, Cond.selects RX12 yX12_lineOf yX12_lineOf, Cond.code yX12_lineOf cX12_lineOf 7 (some .int), Cond.constantLong RX12 750 (20), Cond.constantLong RX12 752 (-20), Cond.constantLong RX12 754 (99999), Cond.constantLong RX12 756 (-99999), Cond.methodLink RX12 758 yX12_isFlat, Cond.instanceMethod yX12_isFlat, Cond.selects RX12 yX12_isFlat yX12_isFlat, Cond.code yX12_isFlat cX12_isFlat 1 (some .boolean), Cond.methodLink RX12 761 yX12_isFalseHere]
def wsX12_pop_r17 : List Cond := [Cond.instanceMethod yX12_isFalseHere, Cond.selects RX12 yX12_isFalseHere yX12_isFalseHere, Cond.code yX12_isFalseHere cX12_isFalseHere 1 none, Cond.methodLink RX12 764 yX12_atomOf, Cond.instanceMethod yX12_atomOf, Cond.selects RX12 yX12_atomOf yX12_atomOf, Cond.code yX12_atomOf cX12_atomOf 8 (some .int), Cond.methodLink RX12 790 yX12_divides, Cond.instanceMethod yX12_divides, Cond.selects RX12 yX12_divides yX12_divides, Cond.code yX12_divides cX12_divides 6 (some .int), Cond.methodLink RX12 768 yX12_rest, Cond.static yX12_rest, Cond.code yX12_rest cX12_rest 6 (some .long), Cond.methodLink RX12 792 yX12_keep, Cond.instanceMethod yX12_keep, Cond.selects RX12 yX12_keep yX12_keep, Cond.code yX12_keep cX12_keep 3 none, Cond.methodLink RX12 795 yX12_not, Cond.static yX12_not, Cond.code yX12_not cX12_not 1 (some .int), Cond.methodLink RX12 860 yX12_told, Cond.instanceMethod yX12_told, Cond.selects RX12 yX12_told yX12_told]
def wsX12_pop_r18 : List Cond := [Cond.code yX12_told cX12_told 1 (some .int), Cond.fieldLink RX12 836 "IntegerHouseModel" "latestFault" "I", Cond.methodLink RX12 862 yX12_no, Cond.instanceMethod yX12_no, Cond.selects RX12 yX12_no yX12_no, Cond.code yX12_no cX12_no 2 (some .int), Cond.methodLink RX12 865 yX12_full, Cond.instanceMethod yX12_full, Cond.selects RX12 yX12_full yX12_full, Cond.code yX12_full cX12_full 2 (some .boolean), Cond.fieldLink RX12 475 "IntegerHouseModel" "waitBytes" "I", Cond.fieldLink RX12 478 "IntegerHouseModel" "used" "I", Cond.methodLink RX12 827 yX12_turn, Cond.instanceMethod yX12_turn, Cond.selects RX12 yX12_turn yX12_turn, Cond.code yX12_turn cX12_turn 4 (some .int), Cond.methodLink RX12 830 yX12_layer, Cond.instanceMethod yX12_layer, Cond.selects RX12 yX12_layer yX12_layer, Cond.code yX12_layer cX12_layer 2 (some .int), Cond.fieldLink RX12 271 "IntegerHouseModel" "layerVariables" "[I", Cond.fieldLink RX12 274 "IntegerHouseModel" "layerClaims" "[I", Cond.fieldLink RX12 277 "IntegerHouseModel" "layerOn" "[Z", Cond.methodLink RX12 833 yX12_leave]
def wsX12_pop_r19 : List Cond := [Cond.instanceMethod yX12_leave, Cond.selects RX12 yX12_leave yX12_leave, Cond.code yX12_leave cX12_leave 2 (some .int), Cond.methodLink RX12 481 yX12_note, Cond.instanceMethod yX12_note, Cond.selects RX12 yX12_note yX12_note, Cond.code yX12_note cX12_note 2 none, Cond.fieldLink RX12 25 "IntegerHouseModel" "waits" "[B", Cond.methodLink RX12 501 yX12_noteInt, Cond.instanceMethod yX12_noteInt, Cond.selects RX12 yX12_noteInt yX12_noteInt, Cond.code yX12_noteInt cX12_noteInt 3 none]
def wsX12_pop : List Cond := .code yX12_pop cX12_pop 1 (some .int) :: ((wsX12_pop_r1 ++ (wsX12_pop_r2 ++ (wsX12_pop_r3 ++ (wsX12_pop_r4 ++ (wsX12_pop_r5 ++ (wsX12_pop_r6 ++ (wsX12_pop_r7 ++ (wsX12_pop_r8 ++ (wsX12_pop_r9 ++ (wsX12_pop_r10 ++ (wsX12_pop_r11 ++ (wsX12_pop_r12 ++ (wsX12_pop_r13 ++ (wsX12_pop_r14 ++ (wsX12_pop_r15 ++ (wsX12_pop_r16 ++ (wsX12_pop_r17 ++ (wsX12_pop_r18 ++ wsX12_pop_r19)))))))))))))))))) ++ wsX120)
def wsX12_asks : List Cond := .code yX12_asks cX12_asks 1 (some .boolean) :: ([.fieldLink RX12 3 "IntegerHouseModel" "thrown" "I", .fieldLink RX12 488 "IntegerHouseModel" "down" "Z"] ++ wsX120)
def wsX12_isClaim : List Cond := .code yX12_isClaim cX12_isClaim 2 (some .boolean) :: ([.fieldLink RX12 818 "IntegerHouseModel" "claims" "I", .methodLink RX12 504 yX12_in, .static yX12_in, .initialized RX12, .code yX12_in cX12_in 6 (some .boolean)] ++ wsX120)
def wsX12_begin_r1 : List Cond := [Cond.fieldLink RX12 815 "IntegerHouseModel" "variables" "I", Cond.fieldLink RX12 620 "IntegerHouseModel" "knownVariables" "I", Cond.fieldLink RX12 818 "IntegerHouseModel" "claims" "I", Cond.fieldLink RX12 627 "IntegerHouseModel" "knownClaims" "I", Cond.methodLink RX12 491 yX12_takeTape, Cond.instanceMethod yX12_takeTape, Cond.selects RX12 yX12_takeTape yX12_takeTape, Cond.initialized RX12, Cond.code yX12_takeTape cX12_takeTape 2 none, Cond.fieldLink RX12 485 "IntegerHouseModel" "taped" "I", Cond.fieldLink RX12 469 "IntegerHouseModel" "docSize" "I", Cond.fieldLink RX12 32 "IntegerHouseModel" "doc" "[B", Cond.fieldLink RX12 15 "IntegerHouseModel" "tape" "[B", Cond.methodLink RX12 848 yX12_scan, Cond.instanceMethod yX12_scan, Cond.selects RX12 yX12_scan yX12_scan, Cond.code yX12_scan cX12_scan 8 none, Cond.fieldLink RX12 594 "IntegerHouseModel" "tokens" "I", Cond.fieldLink RX12 562 "IntegerHouseModel" "faulty" "Z", Cond.fieldLink RX12 597 "IntegerHouseModel" "now" "I", Cond.fieldLink RX12 81 "IntegerHouseModel" "tokenAt" "[I", Cond.fieldLink RX12 84 "IntegerHouseModel" "tokenSize" "[I", Cond.fieldLink RX12 87 "IntegerHouseModel" "tokenKind" "[I", Cond.fieldLink RX12 90 "IntegerHouseModel" "tokenValue" "[I"]
def wsX12_begin_r2 : List Cond := [Cond.fieldLink RX12 77 "IntegerHouseModel" "words" "[Ljava/lang/String;", Cond.methodLink RX12 586 yX12_char1, Cond.instanceMethod yX12_char1, Cond.selects RX12 yX12_char1 yX12_char1, Cond.code yX12_char1 cX12_char1 2 (some .int), Cond.methodLink RX12 600 yX12_isLetter, Cond.static yX12_isLetter, Cond.code yX12_isLetter cX12_isLetter 1 (some .boolean), Cond.constantLong RX12 571 (97), Cond.constantLong RX12 573 (122), Cond.constantLong RX12 575 (65), Cond.constantLong RX12 577 (90), Cond.methodLink RX12 504 yX12_in, Cond.static yX12_in, Cond.code yX12_in cX12_in 6 (some .boolean), Cond.methodLink RX12 603 yX12_isDigit, Cond.static yX12_isDigit, Cond.code yX12_isDigit cX12_isDigit 1 (some .boolean), Cond.constantLong RX12 579 (48), Cond.constantLong RX12 581 (57), Cond.methodLink RX12 606 yX12_longSign, Cond.static yX12_longSign, Cond.code yX12_longSign cX12_longSign 2 (some .int), Cond.methodLink RX12 609 yX12_signOf]
def wsX12_begin_r3 : List Cond := [Cond.static yX12_signOf, Cond.code yX12_signOf cX12_signOf 1 (some .int), Cond.methodLink RX12 612 yX12_isText, Cond.instanceMethod yX12_isText, Cond.selects RX12 yX12_isText yX12_isText, Cond.code yX12_isText cX12_isText 4 (some .boolean), Cond.methodLink RX12 583 yJ0_length_8abf5, Cond.instanceMethod yJ0_length_8abf5, Cond.selects RJ0 yJ0_length_8abf5 yJ0_length_8abf5, Cond.initialized RJ0, Cond.code yJ0_length_8abf5 cJ0_length_8abf5 1 (some .int), Cond.fieldLink RJ0 9 "java/lang/String" "value" "[B", Cond.methodLink RJ0 335 yJ0_coder_7d493, Cond.instanceMethod yJ0_coder_7d493, Cond.selects RJ0 yJ0_coder_7d493 yJ0_coder_7d493, Cond.code yJ0_coder_7d493 cJ0_coder_7d493 1 (some .byte), Cond.fieldLink RJ0 38 "java/lang/String" "COMPACT_STRINGS" "Z", Cond.fieldLink RJ0 15 "java/lang/String" "coder" "B", Cond.methodLink RX12 590 yJ0_charAt_5068e, Cond.instanceMethod yJ0_charAt_5068e, Cond.selects RJ0 yJ0_charAt_5068e yJ0_charAt_5068e, Cond.code yJ0_charAt_5068e cJ0_charAt_5068e 2 (some .char), Cond.methodLink RJ0 492 yJ0_isLatin1_aae02, Cond.instanceMethod yJ0_isLatin1_aae02]
def wsX12_begin_r4 : List Cond := [Cond.selects RJ0 yJ0_isLatin1_aae02 yJ0_isLatin1_aae02, Cond.code yJ0_isLatin1_aae02 cJ0_isLatin1_aae02 1 (some .boolean), Cond.methodLink RJ0 495 yJ1_charAt_3b067, Cond.static yJ1_charAt_3b067, Cond.initialized RJ1, Cond.code yJ1_charAt_3b067 cJ1_charAt_3b067 2 (some .char), Cond.methodLink RJ1 9 yJ0_checkIndex_df160, Cond.static yJ0_checkIndex_df160, Cond.code yJ0_checkIndex_df160 cJ0_checkIndex_df160 2 none, Cond.fieldLink RJ0 1053 "jdk/internal/util/Preconditions" "SIOOBE_FORMATTER" "Ljava/util/function/BiFunction;", Cond.methodLink RJ0 1059 yJ3_checkIndex_8e157, Cond.static yJ3_checkIndex_8e157, Cond.initialized RJ3, Cond.code yJ3_checkIndex_8e157 cJ3_checkIndex_8e157 3 (some .int), Cond.methodLink RJ0 498 yJ2_charAt_3b067, Cond.static yJ2_charAt_3b067, Cond.initialized RJ2, Cond.code yJ2_charAt_3b067 cJ2_charAt_3b067 2 (some .char), Cond.methodLink RJ2 67 yJ2_checkIndex_2214a, Cond.static yJ2_checkIndex_2214a, Cond.code yJ2_checkIndex_2214a cJ2_checkIndex_2214a 2 none, Cond.methodLink RJ2 48 yJ2_length_9d52b, Cond.static yJ2_length_9d52b, Cond.code yJ2_length_9d52b cJ2_length_9d52b 1 (some .int)]
def wsX12_begin_r5 : List Cond := [Cond.methodLink RJ2 414 yJ0_checkIndex_df160, Cond.methodLink RJ2 71 yJ2_getChar_3b067, Cond.static yJ2_getChar_3b067, Cond.code yJ2_getChar_3b067 cJ2_getChar_3b067 2 (some .char), Cond.fieldLink RJ2 44 "java/lang/StringUTF16" "$assertionsDisabled" "Z", Cond.fieldLink RJ2 59 "java/lang/StringUTF16" "HI_BYTE_SHIFT" "I", Cond.fieldLink RJ2 63 "java/lang/StringUTF16" "LO_BYTE_SHIFT" "I"]
def wsX12_begin : List Cond := .code yX12_begin cX12_begin 1 none :: ((wsX12_begin_r1 ++ (wsX12_begin_r2 ++ (wsX12_begin_r3 ++ (wsX12_begin_r4 ++ wsX12_begin_r5)))) ++ wsX120)
def wsX12_find_r1 : List Cond := [Cond.fieldLink RX12 87 "IntegerHouseModel" "tokenKind" "[I", Cond.fieldLink RX12 597 "IntegerHouseModel" "now" "I", Cond.fieldLink RX12 562 "IntegerHouseModel" "faulty" "Z", Cond.methodLink RX12 871 yX12_asks, Cond.instanceMethod yX12_asks, Cond.selects RX12 yX12_asks yX12_asks, Cond.initialized RX12, Cond.code yX12_asks cX12_asks 1 (some .boolean), Cond.fieldLink RX12 3 "IntegerHouseModel" "thrown" "I", Cond.fieldLink RX12 488 "IntegerHouseModel" "down" "Z", Cond.methodLink RX12 874 yX12_begin, Cond.instanceMethod yX12_begin, Cond.selects RX12 yX12_begin yX12_begin, Cond.code yX12_begin cX12_begin 1 none, Cond.fieldLink RX12 815 "IntegerHouseModel" "variables" "I", Cond.fieldLink RX12 620 "IntegerHouseModel" "knownVariables" "I", Cond.fieldLink RX12 818 "IntegerHouseModel" "claims" "I", Cond.fieldLink RX12 627 "IntegerHouseModel" "knownClaims" "I", Cond.methodLink RX12 491 yX12_takeTape, Cond.instanceMethod yX12_takeTape, Cond.selects RX12 yX12_takeTape yX12_takeTape, Cond.code yX12_takeTape cX12_takeTape 2 none, Cond.fieldLink RX12 485 "IntegerHouseModel" "taped" "I", Cond.fieldLink RX12 469 "IntegerHouseModel" "docSize" "I"]
def wsX12_find_r2 : List Cond := [Cond.fieldLink RX12 32 "IntegerHouseModel" "doc" "[B", Cond.fieldLink RX12 15 "IntegerHouseModel" "tape" "[B", Cond.methodLink RX12 848 yX12_scan, Cond.instanceMethod yX12_scan, Cond.selects RX12 yX12_scan yX12_scan, Cond.code yX12_scan cX12_scan 8 none, Cond.fieldLink RX12 594 "IntegerHouseModel" "tokens" "I", Cond.fieldLink RX12 81 "IntegerHouseModel" "tokenAt" "[I", Cond.fieldLink RX12 84 "IntegerHouseModel" "tokenSize" "[I", Cond.fieldLink RX12 90 "IntegerHouseModel" "tokenValue" "[I", Cond.fieldLink RX12 77 "IntegerHouseModel" "words" "[Ljava/lang/String;", Cond.methodLink RX12 586 yX12_char1, Cond.instanceMethod yX12_char1, Cond.selects RX12 yX12_char1 yX12_char1, Cond.code yX12_char1 cX12_char1 2 (some .int), Cond.methodLink RX12 600 yX12_isLetter, Cond.static yX12_isLetter, Cond.code yX12_isLetter cX12_isLetter 1 (some .boolean), Cond.constantLong RX12 571 (97), Cond.constantLong RX12 573 (122), Cond.constantLong RX12 575 (65), Cond.constantLong RX12 577 (90), Cond.methodLink RX12 504 yX12_in, Cond.static yX12_in]
def wsX12_find_r3 : List Cond := [Cond.code yX12_in cX12_in 6 (some .boolean), Cond.methodLink RX12 603 yX12_isDigit, Cond.static yX12_isDigit, Cond.code yX12_isDigit cX12_isDigit 1 (some .boolean), Cond.constantLong RX12 579 (48), Cond.constantLong RX12 581 (57), Cond.methodLink RX12 606 yX12_longSign, Cond.static yX12_longSign, Cond.code yX12_longSign cX12_longSign 2 (some .int), Cond.methodLink RX12 609 yX12_signOf, Cond.static yX12_signOf, Cond.code yX12_signOf cX12_signOf 1 (some .int), Cond.methodLink RX12 612 yX12_isText, Cond.instanceMethod yX12_isText, Cond.selects RX12 yX12_isText yX12_isText, Cond.code yX12_isText cX12_isText 4 (some .boolean), Cond.methodLink RX12 583 yJ0_length_8abf5, Cond.instanceMethod yJ0_length_8abf5, Cond.selects RJ0 yJ0_length_8abf5 yJ0_length_8abf5, Cond.initialized RJ0, Cond.code yJ0_length_8abf5 cJ0_length_8abf5 1 (some .int), Cond.fieldLink RJ0 9 "java/lang/String" "value" "[B", Cond.methodLink RJ0 335 yJ0_coder_7d493, Cond.instanceMethod yJ0_coder_7d493]
def wsX12_find_r4 : List Cond := [Cond.selects RJ0 yJ0_coder_7d493 yJ0_coder_7d493, Cond.code yJ0_coder_7d493 cJ0_coder_7d493 1 (some .byte), Cond.fieldLink RJ0 38 "java/lang/String" "COMPACT_STRINGS" "Z", Cond.fieldLink RJ0 15 "java/lang/String" "coder" "B", Cond.methodLink RX12 590 yJ0_charAt_5068e, Cond.instanceMethod yJ0_charAt_5068e, Cond.selects RJ0 yJ0_charAt_5068e yJ0_charAt_5068e, Cond.code yJ0_charAt_5068e cJ0_charAt_5068e 2 (some .char), Cond.methodLink RJ0 492 yJ0_isLatin1_aae02, Cond.instanceMethod yJ0_isLatin1_aae02, Cond.selects RJ0 yJ0_isLatin1_aae02 yJ0_isLatin1_aae02, Cond.code yJ0_isLatin1_aae02 cJ0_isLatin1_aae02 1 (some .boolean), Cond.methodLink RJ0 495 yJ1_charAt_3b067, Cond.static yJ1_charAt_3b067, Cond.initialized RJ1, Cond.code yJ1_charAt_3b067 cJ1_charAt_3b067 2 (some .char), Cond.methodLink RJ1 9 yJ0_checkIndex_df160, Cond.static yJ0_checkIndex_df160, Cond.code yJ0_checkIndex_df160 cJ0_checkIndex_df160 2 none, Cond.fieldLink RJ0 1053 "jdk/internal/util/Preconditions" "SIOOBE_FORMATTER" "Ljava/util/function/BiFunction;", Cond.methodLink RJ0 1059 yJ3_checkIndex_8e157, Cond.static yJ3_checkIndex_8e157, Cond.initialized RJ3, Cond.code yJ3_checkIndex_8e157 cJ3_checkIndex_8e157 3 (some .int)]
def wsX12_find_r5 : List Cond := [Cond.methodLink RJ0 498 yJ2_charAt_3b067, Cond.static yJ2_charAt_3b067, Cond.initialized RJ2, Cond.code yJ2_charAt_3b067 cJ2_charAt_3b067 2 (some .char), Cond.methodLink RJ2 67 yJ2_checkIndex_2214a, Cond.static yJ2_checkIndex_2214a, Cond.code yJ2_checkIndex_2214a cJ2_checkIndex_2214a 2 none, Cond.methodLink RJ2 48 yJ2_length_9d52b, Cond.static yJ2_length_9d52b, Cond.code yJ2_length_9d52b cJ2_length_9d52b 1 (some .int), Cond.methodLink RJ2 414 yJ0_checkIndex_df160, Cond.methodLink RJ2 71 yJ2_getChar_3b067, Cond.static yJ2_getChar_3b067, Cond.code yJ2_getChar_3b067 cJ2_getChar_3b067 2 (some .char), Cond.fieldLink RJ2 44 "java/lang/StringUTF16" "$assertionsDisabled" "Z", Cond.fieldLink RJ2 59 "java/lang/StringUTF16" "HI_BYTE_SHIFT" "I", Cond.fieldLink RJ2 63 "java/lang/StringUTF16" "LO_BYTE_SHIFT" "I", Cond.methodLink RX12 685 yX12_variableAt, Cond.instanceMethod yX12_variableAt, Cond.selects RX12 yX12_variableAt yX12_variableAt, Cond.code yX12_variableAt cX12_variableAt 3 (some .int), Cond.methodLink RX12 623 yX12_isCalled, Cond.instanceMethod yX12_isCalled, Cond.selects RX12 yX12_isCalled yX12_isCalled]
def wsX12_find_r6 : List Cond := [Cond.code yX12_isCalled cX12_isCalled 4 (some .boolean), Cond.fieldLink RX12 96 "IntegerHouseModel" "nameSize" "[I", Cond.fieldLink RX12 93 "IntegerHouseModel" "nameText" "[B", Cond.methodLink RX12 698 yX12_cannot, Cond.instanceMethod yX12_cannot, Cond.selects RX12 yX12_cannot yX12_cannot, Cond.code yX12_cannot cX12_cannot 1 none, Cond.methodLink RX12 616 yX12_fail, Cond.instanceMethod yX12_fail, Cond.selects RX12 yX12_fail yX12_fail, Cond.code yX12_fail cX12_fail 3 none, Cond.fieldLink RX12 565 "IntegerHouseModel" "faultKind" "I", Cond.fieldLink RX12 568 "IntegerHouseModel" "faultPlace" "I", Cond.methodLink RX12 682 yX12_claimAt, Cond.instanceMethod yX12_claimAt, Cond.selects RX12 yX12_claimAt yX12_claimAt, Cond.code yX12_claimAt cX12_claimAt 3 (some .int), Cond.methodLink RX12 860 yX12_told, Cond.instanceMethod yX12_told, Cond.selects RX12 yX12_told yX12_told, Cond.code yX12_told cX12_told 1 (some .int), Cond.fieldLink RX12 472 "IntegerHouseModel" "replay" "Z", Cond.fieldLink RX12 836 "IntegerHouseModel" "latestFault" "I"]
def wsX12_find : List Cond := .code yX12_find cX12_find 2 (some .int) :: ((wsX12_find_r1 ++ (wsX12_find_r2 ++ (wsX12_find_r3 ++ (wsX12_find_r4 ++ (wsX12_find_r5 ++ wsX12_find_r6))))) ++ wsX120)
def wsX12_about_r1 : List Cond := [Cond.fieldLink RX12 265 "IntegerHouseModel" "isOn" "[Z", Cond.fieldLink RX12 235 "IntegerHouseModel" "atomCount" "[I", Cond.fieldLink RX12 244 "IntegerHouseModel" "isPlain" "[Z", Cond.fieldLink RX12 268 "IntegerHouseModel" "claimLayer" "[I", Cond.fieldLink RX12 105 "IntegerHouseModel" "textCount" "[I", Cond.methodLink RX12 871 yX12_asks, Cond.instanceMethod yX12_asks, Cond.selects RX12 yX12_asks yX12_asks, Cond.initialized RX12, Cond.code yX12_asks cX12_asks 1 (some .boolean), Cond.fieldLink RX12 3 "IntegerHouseModel" "thrown" "I", Cond.fieldLink RX12 488 "IntegerHouseModel" "down" "Z", Cond.methodLink RX12 877 yX12_isClaim, Cond.instanceMethod yX12_isClaim, Cond.selects RX12 yX12_isClaim yX12_isClaim, Cond.code yX12_isClaim cX12_isClaim 2 (some .boolean), Cond.fieldLink RX12 818 "IntegerHouseModel" "claims" "I", Cond.methodLink RX12 504 yX12_in, Cond.static yX12_in, Cond.code yX12_in cX12_in 6 (some .boolean), Cond.methodLink RX12 808 yX12_casesOf, Cond.instanceMethod yX12_casesOf, Cond.selects RX12 yX12_casesOf yX12_casesOf, Cond.code yX12_casesOf cX12_casesOf 8 (some .long)]
def wsX12_about_r2 : List Cond := [Cond.fieldLink RX12 153 "IntegerHouseModel" "leafCount" "[I", Cond.fieldLink RX12 141 "IntegerHouseModel" "leafTerms" "[I", Cond.fieldLink RX12 144 "IntegerHouseModel" "leafTermsTo" "[I", Cond.constantLong RX12 806 (64), Cond.methodLink RX12 800 yX12_ways, Cond.instanceMethod yX12_ways, Cond.selects RX12 yX12_ways yX12_ways, Cond.code yX12_ways cX12_ways 3 (some .int), Cond.fieldLink RX12 156 "IntegerHouseModel" "termKind" "[I", Cond.fieldLink RX12 162 "IntegerHouseModel" "termB" "[I"]
def wsX12_about : List Cond := .code yX12_about cX12_about 3 (some .int) :: ((wsX12_about_r1 ++ wsX12_about_r2) ++ wsX120)
def wsX12_atom : List Cond := .code yX12_atom cX12_atom 5 (some .int) :: ([.fieldLink RX12 235 "IntegerHouseModel" "atomCount" "[I", .constantLong RX12 880 (5), .fieldLink RX12 226 "IntegerHouseModel" "atomF" "[I", .fieldLink RX12 229 "IntegerHouseModel" "atomC" "[I", .fieldLink RX12 232 "IntegerHouseModel" "atomN" "[I", .methodLink RX12 871 yX12_asks, .instanceMethod yX12_asks, .selects RX12 yX12_asks yX12_asks, .initialized RX12, .code yX12_asks cX12_asks 1 (some .boolean), .fieldLink RX12 3 "IntegerHouseModel" "thrown" "I", .fieldLink RX12 488 "IntegerHouseModel" "down" "Z", .methodLink RX12 877 yX12_isClaim, .instanceMethod yX12_isClaim, .selects RX12 yX12_isClaim yX12_isClaim, .code yX12_isClaim cX12_isClaim 2 (some .boolean), .fieldLink RX12 818 "IntegerHouseModel" "claims" "I", .methodLink RX12 504 yX12_in, .static yX12_in, .code yX12_in cX12_in 6 (some .boolean)] ++ wsX120)
def wsX12_print_r1 : List Cond := [Cond.fieldLink RX12 882 "IntegerHouseModel" "printSize" "I", Cond.fieldLink RX12 891 "IntegerHouseModel" "toPrintSize" "I", Cond.fieldLink RX12 184 "IntegerHouseModel" "rootOf" "[I", Cond.fieldLink RX12 286 "IntegerHouseModel" "toPrint" "[I", Cond.constant RX12 901 (1000100), Cond.constant RX12 897 (1000101), Cond.constant RX12 914 (1000050), Cond.constant RX12 920 (1000066), Cond.constant RX12 915 (1000000), Cond.fieldLink RX12 77 "IntegerHouseModel" "words" "[Ljava/lang/String;", Cond.methodLink RX12 871 yX12_asks, Cond.instanceMethod yX12_asks, Cond.selects RX12 yX12_asks yX12_asks, Cond.initialized RX12, Cond.code yX12_asks cX12_asks 1 (some .boolean), Cond.fieldLink RX12 3 "IntegerHouseModel" "thrown" "I", Cond.fieldLink RX12 488 "IntegerHouseModel" "down" "Z", Cond.methodLink RX12 877 yX12_isClaim, Cond.instanceMethod yX12_isClaim, Cond.selects RX12 yX12_isClaim yX12_isClaim, Cond.code yX12_isClaim cX12_isClaim 2 (some .boolean), Cond.fieldLink RX12 818 "IntegerHouseModel" "claims" "I", Cond.methodLink RX12 504 yX12_in, Cond.static yX12_in]
def wsX12_print_r2 : List Cond := [Cond.code yX12_in cX12_in 6 (some .boolean), Cond.methodLink RX12 898 yX12_later, Cond.instanceMethod yX12_later, Cond.selects RX12 yX12_later yX12_later, Cond.code yX12_later cX12_later 2 none, Cond.methodLink RX12 906 yX12_printText, Cond.instanceMethod yX12_printText, Cond.selects RX12 yX12_printText yX12_printText, Cond.code yX12_printText cX12_printText 3 none, Cond.methodLink RX12 888 yX12_printBlank, Cond.instanceMethod yX12_printBlank, Cond.selects RX12 yX12_printBlank yX12_printBlank, Cond.code yX12_printBlank cX12_printBlank 1 none, Cond.methodLink RX12 885 yX12_printByte, Cond.instanceMethod yX12_printByte, Cond.selects RX12 yX12_printByte yX12_printByte, Cond.code yX12_printByte cX12_printByte 2 none, Cond.fieldLink RX12 283 "IntegerHouseModel" "printed" "[B", Cond.methodLink RX12 583 yJ0_length_8abf5, Cond.instanceMethod yJ0_length_8abf5, Cond.selects RJ0 yJ0_length_8abf5 yJ0_length_8abf5, Cond.initialized RJ0, Cond.code yJ0_length_8abf5 cJ0_length_8abf5 1 (some .int), Cond.fieldLink RJ0 9 "java/lang/String" "value" "[B"]
def wsX12_print_r3 : List Cond := [Cond.methodLink RJ0 335 yJ0_coder_7d493, Cond.instanceMethod yJ0_coder_7d493, Cond.selects RJ0 yJ0_coder_7d493 yJ0_coder_7d493, Cond.code yJ0_coder_7d493 cJ0_coder_7d493 1 (some .byte), Cond.fieldLink RJ0 38 "java/lang/String" "COMPACT_STRINGS" "Z", Cond.fieldLink RJ0 15 "java/lang/String" "coder" "B", Cond.methodLink RX12 590 yJ0_charAt_5068e, Cond.instanceMethod yJ0_charAt_5068e, Cond.selects RJ0 yJ0_charAt_5068e yJ0_charAt_5068e, Cond.code yJ0_charAt_5068e cJ0_charAt_5068e 2 (some .char), Cond.methodLink RJ0 492 yJ0_isLatin1_aae02, Cond.instanceMethod yJ0_isLatin1_aae02, Cond.selects RJ0 yJ0_isLatin1_aae02 yJ0_isLatin1_aae02, Cond.code yJ0_isLatin1_aae02 cJ0_isLatin1_aae02 1 (some .boolean), Cond.methodLink RJ0 495 yJ1_charAt_3b067, Cond.static yJ1_charAt_3b067, Cond.initialized RJ1, Cond.code yJ1_charAt_3b067 cJ1_charAt_3b067 2 (some .char), Cond.methodLink RJ1 9 yJ0_checkIndex_df160, Cond.static yJ0_checkIndex_df160, Cond.code yJ0_checkIndex_df160 cJ0_checkIndex_df160 2 none, Cond.fieldLink RJ0 1053 "jdk/internal/util/Preconditions" "SIOOBE_FORMATTER" "Ljava/util/function/BiFunction;", Cond.methodLink RJ0 1059 yJ3_checkIndex_8e157, Cond.static yJ3_checkIndex_8e157]
def wsX12_print_r4 : List Cond := [Cond.initialized RJ3, Cond.code yJ3_checkIndex_8e157 cJ3_checkIndex_8e157 3 (some .int), Cond.methodLink RJ0 498 yJ2_charAt_3b067, Cond.static yJ2_charAt_3b067, Cond.initialized RJ2, Cond.code yJ2_charAt_3b067 cJ2_charAt_3b067 2 (some .char), Cond.methodLink RJ2 67 yJ2_checkIndex_2214a, Cond.static yJ2_checkIndex_2214a, Cond.code yJ2_checkIndex_2214a cJ2_checkIndex_2214a 2 none, Cond.methodLink RJ2 48 yJ2_length_9d52b, Cond.static yJ2_length_9d52b, Cond.code yJ2_length_9d52b cJ2_length_9d52b 1 (some .int), Cond.methodLink RJ2 414 yJ0_checkIndex_df160, Cond.methodLink RJ2 71 yJ2_getChar_3b067, Cond.static yJ2_getChar_3b067, Cond.code yJ2_getChar_3b067 cJ2_getChar_3b067 2 (some .char), Cond.fieldLink RJ2 44 "java/lang/StringUTF16" "$assertionsDisabled" "Z", Cond.fieldLink RJ2 59 "java/lang/StringUTF16" "HI_BYTE_SHIFT" "I", Cond.fieldLink RJ2 63 "java/lang/StringUTF16" "LO_BYTE_SHIFT" "I", Cond.methodLink RX12 925 yX12_printNode, Cond.instanceMethod yX12_printNode, Cond.selects RX12 yX12_printNode yX12_printNode, Cond.code yX12_printNode cX12_printNode 6 none, Cond.fieldLink RX12 108 "IntegerHouseModel" "nodeKind" "[I"]
def wsX12_print_r5 : List Cond := [Cond.fieldLink RX12 135 "IntegerHouseModel" "leafFrom" "[I", Cond.fieldLink RX12 111 "IntegerHouseModel" "nodeA" "[I", Cond.fieldLink RX12 138 "IntegerHouseModel" "leafTo" "[I", Cond.fieldLink RX12 96 "IntegerHouseModel" "nameSize" "[I", Cond.fieldLink RX12 93 "IntegerHouseModel" "nameText" "[B", Cond.constant RX12 913 (1000005), Cond.fieldLink RX12 114 "IntegerHouseModel" "nodeB" "[I", Cond.fieldLink RX12 289 "IntegerHouseModel" "children" "[I", Cond.fieldLink RX12 117 "IntegerHouseModel" "nodeNext" "[I", Cond.methodLink RX12 902 yX12_printTokens, Cond.instanceMethod yX12_printTokens, Cond.selects RX12 yX12_printTokens yX12_printTokens, Cond.code yX12_printTokens cX12_printTokens 7 none, Cond.fieldLink RX12 102 "IntegerHouseModel" "textSize" "[I", Cond.fieldLink RX12 99 "IntegerHouseModel" "textBytes" "[B", Cond.methodLink RX12 910 yX12_laterPart, Cond.instanceMethod yX12_laterPart, Cond.selects RX12 yX12_laterPart yX12_laterPart, Cond.code yX12_laterPart cX12_laterPart 4 none, Cond.methodLink RX12 894 yX12_rank, Cond.static yX12_rank, Cond.code yX12_rank cX12_rank 1 (some .int)]
def wsX12_print : List Cond := .code yX12_print cX12_print 3 (some .int) :: ((wsX12_print_r1 ++ (wsX12_print_r2 ++ (wsX12_print_r3 ++ (wsX12_print_r4 ++ wsX12_print_r5)))) ++ wsX120)
set_option maxRecDepth 20000 in
theorem ggX1_recordAct_X1_await : GoodIn wsX1_recordAct wsX1_await := goodIn_r _ [5, 6, 7, 8, 9, 10, 11, 12, 13, 14, 15, 16] (by decide +kernel) (by decide +kernel)
set_option maxRecDepth 20000 in
theorem gX1_recordAct_X1_await : GoodIn wsX1_recordAct (wsV RX1 50 RX1 yX1_await wsX1_await) := goodIn_app (goodIn_of _ (by decide +kernel)) ggX1_recordAct_X1_await
theorem dX1_recordAct_0 : decode cX1_recordAct 0 = .ok (.aload_n 0, 1) := by decide +kernel
theorem dX1_recordAct_1 : decode cX1_recordAct 1 = .ok (.iload_n 1, 1) := by decide +kernel
theorem dX1_recordAct_2 : decode cX1_recordAct 2 = .ok (.invokevirtual 50, 3) := by decide +kernel
theorem dX1_recordAct_5 : decode cX1_recordAct 5 = .ok (.return_, 1) := by decide +kernel
theorem dX2_addLayer_0 : decode cX2_addLayer 0 = .ok (.aload_n 0, 1) := by decide +kernel
theorem dX2_addLayer_1 : decode cX2_addLayer 1 = .ok (.getfield 48, 3) := by decide +kernel
theorem dX2_addLayer_4 : decode cX2_addLayer 4 = .ok (.ifCond .lt 12, 3) := by decide +kernel
theorem dX2_addLayer_7 : decode cX2_addLayer 7 = .ok (.aload_n 0, 1) := by decide +kernel
theorem dX2_addLayer_8 : decode cX2_addLayer 8 = .ok (.getfield 48, 3) := by decide +kernel
theorem dX2_addLayer_11 : decode cX2_addLayer 11 = .ok (.bipush 8, 2) := by decide +kernel
theorem dX2_addLayer_13 : decode cX2_addLayer 13 = .ok (.if_icmp .lt 5, 3) := by decide +kernel
theorem dX2_addLayer_18 : decode cX2_addLayer 18 = .ok (.aload_n 0, 1) := by decide +kernel
theorem dX2_addLayer_19 : decode cX2_addLayer 19 = .ok (.getfield 48, 3) := by decide +kernel
theorem dX2_addLayer_22 : decode cX2_addLayer 22 = .ok (.iconst 4, 1) := by decide +kernel
theorem dX2_addLayer_23 : decode cX2_addLayer 23 = .ok (.imul, 1) := by decide +kernel
theorem dX2_addLayer_24 : decode cX2_addLayer 24 = .ok (.istore_n 1, 1) := by decide +kernel
theorem dX2_addLayer_25 : decode cX2_addLayer 25 = .ok (.aload_n 0, 1) := by decide +kernel
theorem dX2_addLayer_26 : decode cX2_addLayer 26 = .ok (.getfield 37, 3) := by decide +kernel
theorem dX2_addLayer_29 : decode cX2_addLayer 29 = .ok (.iload_n 1, 1) := by decide +kernel
theorem dX2_addLayer_30 : decode cX2_addLayer 30 = .ok (.aload_n 0, 1) := by decide +kernel
theorem dX2_addLayer_31 : decode cX2_addLayer 31 = .ok (.getfield 52, 3) := by decide +kernel
theorem dX2_addLayer_34 : decode cX2_addLayer 34 = .ok (.iastore, 1) := by decide +kernel
theorem dX2_addLayer_35 : decode cX2_addLayer 35 = .ok (.aload_n 0, 1) := by decide +kernel
theorem dX2_addLayer_36 : decode cX2_addLayer 36 = .ok (.getfield 37, 3) := by decide +kernel
theorem dX2_addLayer_39 : decode cX2_addLayer 39 = .ok (.iload_n 1, 1) := by decide +kernel
theorem dX2_addLayer_40 : decode cX2_addLayer 40 = .ok (.iconst 1, 1) := by decide +kernel
theorem dX2_addLayer_41 : decode cX2_addLayer 41 = .ok (.iadd, 1) := by decide +kernel
theorem dX2_addLayer_42 : decode cX2_addLayer 42 = .ok (.aload_n 0, 1) := by decide +kernel
theorem dX2_addLayer_43 : decode cX2_addLayer 43 = .ok (.getfield 55, 3) := by decide +kernel
theorem dX2_addLayer_46 : decode cX2_addLayer 46 = .ok (.iastore, 1) := by decide +kernel
theorem dX2_addLayer_47 : decode cX2_addLayer 47 = .ok (.aload_n 0, 1) := by decide +kernel
theorem dX2_addLayer_48 : decode cX2_addLayer 48 = .ok (.getfield 37, 3) := by decide +kernel
theorem dX2_addLayer_51 : decode cX2_addLayer 51 = .ok (.iload_n 1, 1) := by decide +kernel
theorem dX2_addLayer_52 : decode cX2_addLayer 52 = .ok (.iconst 2, 1) := by decide +kernel
theorem dX2_addLayer_53 : decode cX2_addLayer 53 = .ok (.iadd, 1) := by decide +kernel
theorem dX2_addLayer_54 : decode cX2_addLayer 54 = .ok (.aload_n 0, 1) := by decide +kernel
theorem dX2_addLayer_55 : decode cX2_addLayer 55 = .ok (.getfield 58, 3) := by decide +kernel
theorem dX2_addLayer_58 : decode cX2_addLayer 58 = .ok (.iastore, 1) := by decide +kernel
theorem dX2_addLayer_59 : decode cX2_addLayer 59 = .ok (.aload_n 0, 1) := by decide +kernel
theorem dX2_addLayer_60 : decode cX2_addLayer 60 = .ok (.getfield 37, 3) := by decide +kernel
theorem dX2_addLayer_63 : decode cX2_addLayer 63 = .ok (.iload_n 1, 1) := by decide +kernel
theorem dX2_addLayer_64 : decode cX2_addLayer 64 = .ok (.iconst 3, 1) := by decide +kernel
theorem dX2_addLayer_65 : decode cX2_addLayer 65 = .ok (.iadd, 1) := by decide +kernel
theorem dX2_addLayer_66 : decode cX2_addLayer 66 = .ok (.aload_n 0, 1) := by decide +kernel
theorem dX2_addLayer_67 : decode cX2_addLayer 67 = .ok (.getfield 61, 3) := by decide +kernel
theorem dX2_addLayer_70 : decode cX2_addLayer 70 = .ok (.iastore, 1) := by decide +kernel
theorem dX2_addLayer_71 : decode cX2_addLayer 71 = .ok (.aload_n 0, 1) := by decide +kernel
theorem dX2_addLayer_72 : decode cX2_addLayer 72 = .ok (.dup, 1) := by decide +kernel
theorem dX2_addLayer_73 : decode cX2_addLayer 73 = .ok (.getfield 48, 3) := by decide +kernel
theorem dX2_addLayer_76 : decode cX2_addLayer 76 = .ok (.iconst 1, 1) := by decide +kernel
theorem dX2_addLayer_77 : decode cX2_addLayer 77 = .ok (.iadd, 1) := by decide +kernel
theorem dX2_addLayer_78 : decode cX2_addLayer 78 = .ok (.putfield 48, 3) := by decide +kernel
theorem dX2_addLayer_81 : decode cX2_addLayer 81 = .ok (.iconst 1, 1) := by decide +kernel
theorem dX2_addLayer_82 : decode cX2_addLayer 82 = .ok (.ireturn, 1) := by decide +kernel
theorem dX2_claimOf_0 : decode cX2_claimOf 0 = .ok (.iconst 0, 1) := by decide +kernel
theorem dX2_claimOf_1 : decode cX2_claimOf 1 = .ok (.istore_n 3, 1) := by decide +kernel
theorem dX2_claimOf_2 : decode cX2_claimOf 2 = .ok (.iload_n 3, 1) := by decide +kernel
theorem dX2_claimOf_3 : decode cX2_claimOf 3 = .ok (.aload_n 0, 1) := by decide +kernel
theorem dX2_claimOf_4 : decode cX2_claimOf 4 = .ok (.getfield 55, 3) := by decide +kernel
theorem dX2_claimOf_7 : decode cX2_claimOf 7 = .ok (.if_icmp .ge 28, 3) := by decide +kernel
theorem dX2_claimOf_35 : decode cX2_claimOf 35 = .ok (.iconst (-1), 1) := by decide +kernel
theorem dX2_claimOf_36 : decode cX2_claimOf 36 = .ok (.ireturn, 1) := by decide +kernel
theorem dX3_nameAt_0 : decode cX3_nameAt 0 = .ok (.iload_n 1, 1) := by decide +kernel
theorem dX3_nameAt_1 : decode cX3_nameAt 1 = .ok (.ifCond .lt 20, 3) := by decide +kernel
theorem dX3_nameAt_4 : decode cX3_nameAt 4 = .ok (.iload_n 1, 1) := by decide +kernel
theorem dX3_nameAt_5 : decode cX3_nameAt 5 = .ok (.aload_n 0, 1) := by decide +kernel
theorem dX3_nameAt_6 : decode cX3_nameAt 6 = .ok (.getfield 48, 3) := by decide +kernel
theorem dX3_nameAt_9 : decode cX3_nameAt 9 = .ok (.if_icmp .ge 12, 3) := by decide +kernel
theorem dX3_nameAt_21 : decode cX3_nameAt 21 = .ok (.lconst 0, 1) := by decide +kernel
theorem dX3_nameAt_22 : decode cX3_nameAt 22 = .ok (.lreturn, 1) := by decide +kernel
set_option maxRecDepth 20000 in
theorem ggX8_readName_X8_begin : GoodIn wsX8_readName wsX8_begin := goodIn_r _ [10, 2, 5, 11, 12, 3, 13, 14, 15, 16, 17, 18, 19, 20, 21, 22, 23, 24, 25, 26, 27, 28, 29, 30, 31, 32, 33, 34, 35, 36, 37, 38, 39, 40, 41, 42, 43, 44, 45, 46, 47, 48, 49, 50, 51, 52, 53, 54, 55, 56, 57, 58, 59, 60, 61, 62, 63, 64, 65, 66, 67, 68, 69, 70, 71, 72, 73, 74, 75, 76, 77, 78, 79, 80, 81, 82, 83, 84, 85, 86, 87, 88, 89, 90, 91, 92, 93, 94, 95, 96, 9, 97, 4, 98, 124, 125, 126, 127, 128, 129, 130, 131, 132, 133, 134, 135, 136, 137, 138, 139, 140, 141, 142, 143, 144, 145, 146, 147] (by decide +kernel) (by decide +kernel)
set_option maxRecDepth 20000 in
theorem gX8_readName_X8_begin : GoodIn wsX8_readName (wsV RX8 23 RX8 yX8_begin wsX8_begin) := goodIn_app (goodIn_of _ (by decide +kernel)) ggX8_readName_X8_begin
set_option maxRecDepth 20000 in
theorem ggX8_readName_X3_nameAt : GoodIn wsX8_readName wsX3_nameAt := goodIn_r _ [102, 21, 40, 139, 140, 141, 142, 143, 144, 145, 146, 147] (by decide +kernel) (by decide +kernel)
set_option maxRecDepth 20000 in
theorem gX8_readName_X3_nameAt : GoodIn wsX8_readName (wsV RX8 82 RX3 yX3_nameAt wsX3_nameAt) := goodIn_app (goodIn_of _ (by decide +kernel)) ggX8_readName_X3_nameAt
set_option maxRecDepth 20000 in
theorem ggX8_readName_X2_claimOf : GoodIn wsX8_readName wsX2_claimOf := goodIn_r _ [107, 108, 109, 148, 149, 150, 151, 152, 153, 154, 155, 156, 157, 158, 159, 160, 161, 162, 163] (by decide +kernel) (by decide +kernel)
set_option maxRecDepth 20000 in
theorem gX8_readName_X2_claimOf : GoodIn wsX8_readName (wsV RX8 88 RX2 yX2_claimOf wsX2_claimOf) := goodIn_app (goodIn_of _ (by decide +kernel)) ggX8_readName_X2_claimOf
set_option maxRecDepth 20000 in
theorem ggX8_readName_X8_fail : GoodIn wsX8_readName wsX8_fail := goodIn_r _ [119, 5, 4, 98, 11, 124, 125, 126, 127, 128, 129, 130, 131, 132, 133, 134, 135, 136, 137, 138] (by decide +kernel) (by decide +kernel)
set_option maxRecDepth 20000 in
theorem gX8_readName_X8_fail : GoodIn wsX8_readName (wsV RX8 95 RX8 yX8_fail wsX8_fail) := goodIn_app (goodIn_of _ (by decide +kernel)) ggX8_readName_X8_fail
set_option maxRecDepth 20000 in
theorem ggX8_readName_X8_expectEnd : GoodIn wsX8_readName wsX8_expectEnd := goodIn_r _ [123, 4, 116, 117, 118, 9, 119, 5, 98, 11, 124, 125, 126, 127, 128, 129, 130, 131, 132, 133, 134, 135, 136, 137, 138] (by decide +kernel) (by decide +kernel)
set_option maxRecDepth 20000 in
theorem gX8_readName_X8_expectEnd : GoodIn wsX8_readName (wsV RX8 59 RX8 yX8_expectEnd wsX8_expectEnd) := goodIn_app (goodIn_of _ (by decide +kernel)) ggX8_readName_X8_expectEnd
theorem dX8_readName_0 : decode cX8_readName 0 = .ok (.aload_n 0, 1) := by decide +kernel
theorem dX8_readName_1 : decode cX8_readName 1 = .ok (.aload_n 1, 1) := by decide +kernel
theorem dX8_readName_2 : decode cX8_readName 2 = .ok (.iconst 0, 1) := by decide +kernel
theorem dX8_readName_3 : decode cX8_readName 3 = .ok (.iload_n 2, 1) := by decide +kernel
theorem dX8_readName_4 : decode cX8_readName 4 = .ok (.invokevirtual 23, 3) := by decide +kernel
theorem dX8_readName_7 : decode cX8_readName 7 = .ok (.aload_n 0, 1) := by decide +kernel
theorem dX8_readName_8 : decode cX8_readName 8 = .ok (.getfield 15, 3) := by decide +kernel
theorem dX8_readName_11 : decode cX8_readName 11 = .ok (.aload_n 0, 1) := by decide +kernel
theorem dX8_readName_12 : decode cX8_readName 12 = .ok (.getfield 9, 3) := by decide +kernel
theorem dX8_readName_15 : decode cX8_readName 15 = .ok (.aload_n 0, 1) := by decide +kernel
theorem dX8_readName_16 : decode cX8_readName 16 = .ok (.getfield 79, 3) := by decide +kernel
theorem dX8_readName_19 : decode cX8_readName 19 = .ok (.invokevirtual 82, 3) := by decide +kernel
theorem dX8_readName_22 : decode cX8_readName 22 = .ok (.invokevirtual 88, 3) := by decide +kernel
theorem dX8_readName_25 : decode cX8_readName 25 = .ok (.istore_n 3, 1) := by decide +kernel
theorem dX8_readName_26 : decode cX8_readName 26 = .ok (.aload_n 0, 1) := by decide +kernel
theorem dX8_readName_27 : decode cX8_readName 27 = .ok (.getfield 39, 3) := by decide +kernel
theorem dX8_readName_30 : decode cX8_readName 30 = .ok (.iconst 1, 1) := by decide +kernel
theorem dX8_readName_31 : decode cX8_readName 31 = .ok (.if_icmp .ne 25, 3) := by decide +kernel
theorem dX8_readName_56 : decode cX8_readName 56 = .ok (.aload_n 0, 1) := by decide +kernel
theorem dX8_readName_57 : decode cX8_readName 57 = .ok (.iconst 2, 1) := by decide +kernel
theorem dX8_readName_58 : decode cX8_readName 58 = .ok (.invokevirtual 95, 3) := by decide +kernel
theorem dX8_readName_61 : decode cX8_readName 61 = .ok (.goto 20, 3) := by decide +kernel
theorem dX8_readName_81 : decode cX8_readName 81 = .ok (.aload_n 0, 1) := by decide +kernel
theorem dX8_readName_82 : decode cX8_readName 82 = .ok (.invokevirtual 59, 3) := by decide +kernel
theorem dX8_readName_85 : decode cX8_readName 85 = .ok (.aload_n 0, 1) := by decide +kernel
theorem dX8_readName_86 : decode cX8_readName 86 = .ok (.getfield 62, 3) := by decide +kernel
theorem dX8_readName_89 : decode cX8_readName 89 = .ok (.ifCond .ne 7, 3) := by decide +kernel
theorem dX8_readName_96 : decode cX8_readName 96 = .ok (.iconst (-1), 1) := by decide +kernel
theorem dX8_readName_97 : decode cX8_readName 97 = .ok (.ireturn, 1) := by decide +kernel
theorem dX8_fail_0 : decode cX8_fail 0 = .ok (.aload_n 0, 1) := by decide +kernel
theorem dX8_fail_1 : decode cX8_fail 1 = .ok (.getfield 62, 3) := by decide +kernel
theorem dX8_fail_4 : decode cX8_fail 4 = .ok (.ifCond .ne 28, 3) := by decide +kernel
theorem dX8_fail_7 : decode cX8_fail 7 = .ok (.aload_n 0, 1) := by decide +kernel
theorem dX8_fail_8 : decode cX8_fail 8 = .ok (.aload_n 0, 1) := by decide +kernel
theorem dX8_fail_9 : decode cX8_fail 9 = .ok (.getfield 39, 3) := by decide +kernel
theorem dX8_fail_12 : decode cX8_fail 12 = .ok (.iconst 3, 1) := by decide +kernel
theorem dX8_fail_13 : decode cX8_fail 13 = .ok (.if_icmp .ne 7, 3) := by decide +kernel
theorem dX8_fail_20 : decode cX8_fail 20 = .ok (.iload_n 1, 1) := by decide +kernel
theorem dX8_fail_21 : decode cX8_fail 21 = .ok (.putfield 62, 3) := by decide +kernel
theorem dX8_fail_24 : decode cX8_fail 24 = .ok (.aload_n 0, 1) := by decide +kernel
theorem dX8_fail_25 : decode cX8_fail 25 = .ok (.aload_n 0, 1) := by decide +kernel
theorem dX8_fail_26 : decode cX8_fail 26 = .ok (.getfield 136, 3) := by decide +kernel
theorem dX8_fail_29 : decode cX8_fail 29 = .ok (.putfield 123, 3) := by decide +kernel
theorem dX8_fail_32 : decode cX8_fail 32 = .ok (.aload_n 0, 1) := by decide +kernel
theorem dX8_fail_33 : decode cX8_fail 33 = .ok (.bipush 44, 2) := by decide +kernel
theorem dX8_fail_35 : decode cX8_fail 35 = .ok (.putfield 39, 3) := by decide +kernel
theorem dX8_fail_38 : decode cX8_fail 38 = .ok (.return_, 1) := by decide +kernel
set_option maxRecDepth 20000 in
theorem ggX8_expectEnd_X8_fail : GoodIn wsX8_expectEnd wsX8_fail := goodIn_r _ [6, 7, 1, 8, 9, 10, 11, 12, 13, 14, 15, 16, 17, 18, 19, 20, 21, 22, 23, 24] (by decide +kernel) (by decide +kernel)
set_option maxRecDepth 20000 in
theorem gX8_expectEnd_X8_fail : GoodIn wsX8_expectEnd (wsV RX8 95 RX8 yX8_fail wsX8_fail) := goodIn_app (goodIn_of _ (by decide +kernel)) ggX8_expectEnd_X8_fail
theorem dX8_expectEnd_7 : decode cX8_expectEnd 7 = .ok (.aload_n 0, 1) := by decide +kernel
theorem dX8_expectEnd_8 : decode cX8_expectEnd 8 = .ok (.iconst 2, 1) := by decide +kernel
theorem dX8_expectEnd_9 : decode cX8_expectEnd 9 = .ok (.invokevirtual 95, 3) := by decide +kernel
theorem dX11_faulted_0 : decode cX11_faulted 0 = .ok (.aload_n 0, 1) := by decide +kernel
theorem dX11_faulted_1 : decode cX11_faulted 1 = .ok (.aload_n 0, 1) := by decide +kernel
theorem dX11_faulted_2 : decode cX11_faulted 2 = .ok (.getfield 48, 3) := by decide +kernel
theorem dX11_faulted_5 : decode cX11_faulted 5 = .ok (.getfield 250, 3) := by decide +kernel
theorem dX11_faulted_8 : decode cX11_faulted 8 = .ok (.putfield 253, 3) := by decide +kernel
theorem dX11_faulted_11 : decode cX11_faulted 11 = .ok (.sipush (-1000), 3) := by decide +kernel
theorem dX11_faulted_14 : decode cX11_faulted 14 = .ok (.aload_n 0, 1) := by decide +kernel
theorem dX11_faulted_15 : decode cX11_faulted 15 = .ok (.getfield 48, 3) := by decide +kernel
theorem dX11_faulted_18 : decode cX11_faulted 18 = .ok (.getfield 256, 3) := by decide +kernel
theorem dX11_faulted_21 : decode cX11_faulted 21 = .ok (.isub, 1) := by decide +kernel
theorem dX11_faulted_22 : decode cX11_faulted 22 = .ok (.ireturn, 1) := by decide +kernel
set_option maxRecDepth 20000 in
theorem ggX11_push_X1_hasRoom : GoodIn wsX11_push wsX1_hasRoom := goodIn_r _ [8, 9, 10, 46, 47, 48, 49, 50, 51, 52, 53, 54] (by decide +kernel) (by decide +kernel)
set_option maxRecDepth 20000 in
theorem gX11_push_X1_hasRoom : GoodIn wsX11_push (wsV RX11 239 RX1 yX1_hasRoom wsX1_hasRoom) := goodIn_app (goodIn_of _ (by decide +kernel)) ggX11_push_X1_hasRoom
set_option maxRecDepth 20000 in
theorem ggX11_push_X2_addLayer : GoodIn wsX11_push wsX2_addLayer := goodIn_r _ [15, 16, 17, 18, 19, 20, 21, 55, 56, 57, 58, 59, 60, 61, 62, 63, 64, 65, 66, 67, 68, 69, 70] (by decide +kernel) (by decide +kernel)
set_option maxRecDepth 20000 in
theorem gX11_push_X2_addLayer : GoodIn wsX11_push (wsV RX11 184 RX2 yX2_addLayer wsX2_addLayer) := goodIn_app (goodIn_of _ (by decide +kernel)) ggX11_push_X2_addLayer
set_option maxRecDepth 20000 in
theorem ggX11_push_X1_recordAct : GoodIn wsX11_push wsX1_recordAct := goodIn_r _ [25, 26, 27, 28, 7, 29, 9, 30, 46, 47, 48, 49, 50, 51, 52, 53, 54] (by decide +kernel) (by decide +kernel)
set_option maxRecDepth 20000 in
theorem gX11_push_X1_recordAct : GoodIn wsX11_push (wsV RX11 263 RX1 yX1_recordAct wsX1_recordAct) := goodIn_app (goodIn_of _ (by decide +kernel)) ggX11_push_X1_recordAct
theorem dX11_push_0 : decode cX11_push 0 = .ok (.aload_n 0, 1) := by decide +kernel
theorem dX11_push_1 : decode cX11_push 1 = .ok (.getfield 16, 3) := by decide +kernel
theorem dX11_push_4 : decode cX11_push 4 = .ok (.getfield 122, 3) := by decide +kernel
theorem dX11_push_7 : decode cX11_push 7 = .ok (.ifCond .eq 6, 3) := by decide +kernel
theorem dX11_push_13 : decode cX11_push 13 = .ok (.aload_n 0, 1) := by decide +kernel
theorem dX11_push_14 : decode cX11_push 14 = .ok (.getfield 23, 3) := by decide +kernel
theorem dX11_push_17 : decode cX11_push 17 = .ok (.getfield 221, 3) := by decide +kernel
theorem dX11_push_20 : decode cX11_push 20 = .ok (.bipush 8, 2) := by decide +kernel
theorem dX11_push_22 : decode cX11_push 22 = .ok (.if_icmp .ge 14, 3) := by decide +kernel
theorem dX11_push_25 : decode cX11_push 25 = .ok (.aload_n 0, 1) := by decide +kernel
theorem dX11_push_26 : decode cX11_push 26 = .ok (.getfield 16, 3) := by decide +kernel
theorem dX11_push_29 : decode cX11_push 29 = .ok (.iconst 1, 1) := by decide +kernel
theorem dX11_push_30 : decode cX11_push 30 = .ok (.invokevirtual 239, 3) := by decide +kernel
theorem dX11_push_33 : decode cX11_push 33 = .ok (.ifCond .ne 6, 3) := by decide +kernel
theorem dX11_push_39 : decode cX11_push 39 = .ok (.aload_n 0, 1) := by decide +kernel
theorem dX11_push_40 : decode cX11_push 40 = .ok (.getfield 23, 3) := by decide +kernel
theorem dX11_push_43 : decode cX11_push 43 = .ok (.invokevirtual 184, 3) := by decide +kernel
theorem dX11_push_46 : decode cX11_push 46 = .ok (.pop, 1) := by decide +kernel
theorem dX11_push_47 : decode cX11_push 47 = .ok (.aload_n 0, 1) := by decide +kernel
theorem dX11_push_48 : decode cX11_push 48 = .ok (.getfield 16, 3) := by decide +kernel
theorem dX11_push_51 : decode cX11_push 51 = .ok (.iconst 3, 1) := by decide +kernel
theorem dX11_push_52 : decode cX11_push 52 = .ok (.invokevirtual 263, 3) := by decide +kernel
theorem dX11_push_55 : decode cX11_push 55 = .ok (.aload_n 0, 1) := by decide +kernel
theorem dX11_push_56 : decode cX11_push 56 = .ok (.dup, 1) := by decide +kernel
theorem dX11_push_57 : decode cX11_push 57 = .ok (.getfield 137, 3) := by decide +kernel
theorem dX11_push_60 : decode cX11_push 60 = .ok (.iconst 1, 1) := by decide +kernel
theorem dX11_push_61 : decode cX11_push 61 = .ok (.iadd, 1) := by decide +kernel
theorem dX11_push_62 : decode cX11_push 62 = .ok (.putfield 137, 3) := by decide +kernel
theorem dX11_push_65 : decode cX11_push 65 = .ok (.aload_n 0, 1) := by decide +kernel
theorem dX11_push_66 : decode cX11_push 66 = .ok (.getfield 23, 3) := by decide +kernel
theorem dX11_push_69 : decode cX11_push 69 = .ok (.getfield 221, 3) := by decide +kernel
theorem dX11_push_72 : decode cX11_push 72 = .ok (.ireturn, 1) := by decide +kernel
theorem dX11_pop_0 : decode cX11_pop 0 = .ok (.aload_n 0, 1) := by decide +kernel
theorem dX11_pop_1 : decode cX11_pop 1 = .ok (.getfield 16, 3) := by decide +kernel
theorem dX11_pop_4 : decode cX11_pop 4 = .ok (.getfield 122, 3) := by decide +kernel
theorem dX11_pop_7 : decode cX11_pop 7 = .ok (.ifCond .eq 6, 3) := by decide +kernel
theorem dX11_pop_13 : decode cX11_pop 13 = .ok (.aload_n 0, 1) := by decide +kernel
theorem dX11_pop_14 : decode cX11_pop 14 = .ok (.getfield 23, 3) := by decide +kernel
theorem dX11_pop_17 : decode cX11_pop 17 = .ok (.getfield 221, 3) := by decide +kernel
theorem dX11_pop_20 : decode cX11_pop 20 = .ok (.ifCond .ne 6, 3) := by decide +kernel
theorem dX11_pop_23 : decode cX11_pop 23 = .ok (.bipush (-103), 2) := by decide +kernel
theorem dX11_pop_25 : decode cX11_pop 25 = .ok (.ireturn, 1) := by decide +kernel
set_option maxRecDepth 20000 in
theorem ggX11_find_X11_useTape : GoodIn wsX11_find wsX11_useTape := goodIn_r _ [8, 9, 142, 143, 144, 145, 146, 147, 148, 149, 150, 151, 152, 153, 154, 155, 156] (by decide +kernel) (by decide +kernel)
set_option maxRecDepth 20000 in
theorem gX11_find_X11_useTape : GoodIn wsX11_find (wsV RX11 230 RX11 yX11_useTape wsX11_useTape) := goodIn_app (goodIn_of _ (by decide +kernel)) ggX11_find_X11_useTape
set_option maxRecDepth 20000 in
theorem ggX11_find_X8_readName : GoodIn wsX11_find wsX8_readName := goodIn_r _ [14, 15, 16, 17, 18, 19, 20, 21, 22, 13, 23, 24, 25, 26, 27, 28, 29, 30, 31, 32, 33, 34, 35, 36, 37, 38, 39, 40, 41, 42, 43, 44, 45, 46, 47, 48, 49, 50, 51, 52, 53, 54, 55, 56, 57, 58, 59, 60, 61, 62, 63, 64, 65, 66, 67, 68, 69, 70, 71, 72, 73, 74, 75, 76, 77, 78, 79, 80, 81, 82, 83, 84, 85, 86, 87, 88, 89, 90, 91, 92, 93, 94, 95, 96, 97, 98, 99, 100, 101, 102, 103, 104, 105, 106, 107, 108, 109, 110, 111, 112, 113, 114, 115, 116, 117, 118, 119, 120, 121, 122, 123, 124, 125, 126, 127, 128, 129, 130, 131, 132, 133, 134, 135, 136, 166, 167, 168, 169, 170, 171, 172, 173, 174, 175, 176, 177, 178, 179, 180, 181, 182, 183, 184, 185, 186, 187, 188, 189, 190, 191, 192, 193, 194, 195, 196, 197, 198, 199, 200, 201, 202, 203, 204, 205] (by decide +kernel) (by decide +kernel)
set_option maxRecDepth 20000 in
theorem gX11_find_X8_readName : GoodIn wsX11_find (wsV RX11 266 RX8 yX8_readName wsX8_readName) := goodIn_app (goodIn_of _ (by decide +kernel)) ggX11_find_X8_readName
set_option maxRecDepth 20000 in
theorem ggX11_find_X11_faulted : GoodIn wsX11_find wsX11_faulted := goodIn_r _ [140, 2, 141, 142, 143, 144, 145, 146, 147, 148, 149, 150, 151, 152, 153, 154, 155, 156, 166, 167, 168, 169, 170, 171, 172, 173, 174, 175, 176, 177, 178, 179, 180] (by decide +kernel) (by decide +kernel)
set_option maxRecDepth 20000 in
theorem gX11_find_X11_faulted : GoodIn wsX11_find (wsV RX11 236 RX11 yX11_faulted wsX11_faulted) := goodIn_app (goodIn_of _ (by decide +kernel)) ggX11_find_X11_faulted
theorem dX11_find_0 : decode cX11_find 0 = .ok (.aload_n 0, 1) := by decide +kernel
theorem dX11_find_1 : decode cX11_find 1 = .ok (.getfield 16, 3) := by decide +kernel
theorem dX11_find_4 : decode cX11_find 4 = .ok (.getfield 122, 3) := by decide +kernel
theorem dX11_find_7 : decode cX11_find 7 = .ok (.ifCond .eq 6, 3) := by decide +kernel
theorem dX11_find_13 : decode cX11_find 13 = .ok (.aload_n 0, 1) := by decide +kernel
theorem dX11_find_14 : decode cX11_find 14 = .ok (.getfield 48, 3) := by decide +kernel
theorem dX11_find_17 : decode cX11_find 17 = .ok (.aload_n 0, 1) := by decide +kernel
theorem dX11_find_18 : decode cX11_find 18 = .ok (.getfield 9, 3) := by decide +kernel
theorem dX11_find_21 : decode cX11_find 21 = .ok (.aload_n 0, 1) := by decide +kernel
theorem dX11_find_22 : decode cX11_find 22 = .ok (.invokevirtual 230, 3) := by decide +kernel
theorem dX11_find_25 : decode cX11_find 25 = .ok (.invokevirtual 266, 3) := by decide +kernel
theorem dX11_find_28 : decode cX11_find 28 = .ok (.istore_n 1, 1) := by decide +kernel
theorem dX11_find_29 : decode cX11_find 29 = .ok (.iload_n 1, 1) := by decide +kernel
theorem dX11_find_30 : decode cX11_find 30 = .ok (.iconst (-1), 1) := by decide +kernel
theorem dX11_find_31 : decode cX11_find 31 = .ok (.if_icmp .ne 10, 3) := by decide +kernel
theorem dX11_find_34 : decode cX11_find 34 = .ok (.aload_n 0, 1) := by decide +kernel
theorem dX11_find_35 : decode cX11_find 35 = .ok (.invokevirtual 236, 3) := by decide +kernel
theorem dX11_find_38 : decode cX11_find 38 = .ok (.goto 4, 3) := by decide +kernel
theorem dX11_find_42 : decode cX11_find 42 = .ok (.ireturn, 1) := by decide +kernel
set_option maxRecDepth 20000 in
theorem ggX11_about_X2_isClaim : GoodIn wsX11_about wsX2_isClaim := goodIn_r _ [7, 8, 38, 39, 40, 41, 42, 43, 44, 45, 46, 47, 48, 49, 50, 51, 52, 53] (by decide +kernel) (by decide +kernel)
set_option maxRecDepth 20000 in
theorem gX11_about_X2_isClaim : GoodIn wsX11_about (wsV RX11 176 RX2 yX2_isClaim wsX2_isClaim) := goodIn_app (goodIn_of _ (by decide +kernel)) ggX11_about_X2_isClaim
theorem dX11_about_0 : decode cX11_about 0 = .ok (.aload_n 0, 1) := by decide +kernel
theorem dX11_about_1 : decode cX11_about 1 = .ok (.getfield 16, 3) := by decide +kernel
theorem dX11_about_4 : decode cX11_about 4 = .ok (.getfield 122, 3) := by decide +kernel
theorem dX11_about_7 : decode cX11_about 7 = .ok (.ifCond .eq 6, 3) := by decide +kernel
theorem dX11_about_13 : decode cX11_about 13 = .ok (.aload_n 0, 1) := by decide +kernel
theorem dX11_about_14 : decode cX11_about 14 = .ok (.getfield 23, 3) := by decide +kernel
theorem dX11_about_17 : decode cX11_about 17 = .ok (.iload_n 1, 1) := by decide +kernel
theorem dX11_about_18 : decode cX11_about 18 = .ok (.invokevirtual 176, 3) := by decide +kernel
theorem dX11_about_21 : decode cX11_about 21 = .ok (.ifCond .ne 6, 3) := by decide +kernel
theorem dX11_about_24 : decode cX11_about 24 = .ok (.bipush (-101), 2) := by decide +kernel
theorem dX11_about_26 : decode cX11_about 26 = .ok (.ireturn, 1) := by decide +kernel
set_option maxRecDepth 20000 in
theorem ggX11_atom_X2_isClaim : GoodIn wsX11_atom wsX2_isClaim := goodIn_r _ [7, 8, 48, 49, 50, 51, 52, 53, 54, 55, 56, 57, 58, 59, 60, 61, 62, 63] (by decide +kernel) (by decide +kernel)
set_option maxRecDepth 20000 in
theorem gX11_atom_X2_isClaim : GoodIn wsX11_atom (wsV RX11 176 RX2 yX2_isClaim wsX2_isClaim) := goodIn_app (goodIn_of _ (by decide +kernel)) ggX11_atom_X2_isClaim
theorem dX11_atom_0 : decode cX11_atom 0 = .ok (.aload_n 0, 1) := by decide +kernel
theorem dX11_atom_1 : decode cX11_atom 1 = .ok (.getfield 16, 3) := by decide +kernel
theorem dX11_atom_4 : decode cX11_atom 4 = .ok (.getfield 122, 3) := by decide +kernel
theorem dX11_atom_7 : decode cX11_atom 7 = .ok (.ifCond .eq 6, 3) := by decide +kernel
theorem dX11_atom_13 : decode cX11_atom 13 = .ok (.aload_n 0, 1) := by decide +kernel
theorem dX11_atom_14 : decode cX11_atom 14 = .ok (.getfield 23, 3) := by decide +kernel
theorem dX11_atom_17 : decode cX11_atom 17 = .ok (.iload_n 1, 1) := by decide +kernel
theorem dX11_atom_18 : decode cX11_atom 18 = .ok (.invokevirtual 176, 3) := by decide +kernel
theorem dX11_atom_21 : decode cX11_atom 21 = .ok (.ifCond .ne 6, 3) := by decide +kernel
theorem dX11_atom_24 : decode cX11_atom 24 = .ok (.bipush (-101), 2) := by decide +kernel
theorem dX11_atom_26 : decode cX11_atom 26 = .ok (.ireturn, 1) := by decide +kernel
set_option maxRecDepth 20000 in
theorem ggX11_print_X2_isClaim : GoodIn wsX11_print wsX2_isClaim := goodIn_r _ [8, 9, 137, 138, 139, 140, 141, 142, 143, 144, 145, 146, 147, 148, 149, 150, 151, 152] (by decide +kernel) (by decide +kernel)
set_option maxRecDepth 20000 in
theorem gX11_print_X2_isClaim : GoodIn wsX11_print (wsV RX11 176 RX2 yX2_isClaim wsX2_isClaim) := goodIn_app (goodIn_of _ (by decide +kernel)) ggX11_print_X2_isClaim
theorem dX11_print_0 : decode cX11_print 0 = .ok (.aload_n 0, 1) := by decide +kernel
theorem dX11_print_1 : decode cX11_print 1 = .ok (.getfield 16, 3) := by decide +kernel
theorem dX11_print_4 : decode cX11_print 4 = .ok (.getfield 122, 3) := by decide +kernel
theorem dX11_print_7 : decode cX11_print 7 = .ok (.ifCond .eq 6, 3) := by decide +kernel
theorem dX11_print_13 : decode cX11_print 13 = .ok (.aload_n 0, 1) := by decide +kernel
theorem dX11_print_14 : decode cX11_print 14 = .ok (.getfield 23, 3) := by decide +kernel
theorem dX11_print_17 : decode cX11_print 17 = .ok (.iload_n 1, 1) := by decide +kernel
theorem dX11_print_18 : decode cX11_print 18 = .ok (.invokevirtual 176, 3) := by decide +kernel
theorem dX11_print_21 : decode cX11_print 21 = .ok (.ifCond .ne 6, 3) := by decide +kernel
theorem dX11_print_24 : decode cX11_print 24 = .ok (.bipush (-101), 2) := by decide +kernel
theorem dX11_print_26 : decode cX11_print 26 = .ok (.ireturn, 1) := by decide +kernel
theorem dX12_no_0 : decode cX12_no 0 = .ok (.aload_n 0, 1) := by decide +kernel
theorem dX12_no_1 : decode cX12_no 1 = .ok (.iconst 1, 1) := by decide +kernel
theorem dX12_no_2 : decode cX12_no 2 = .ok (.putfield 462, 3) := by decide +kernel
theorem dX12_no_5 : decode cX12_no 5 = .ok (.iload_n 1, 1) := by decide +kernel
theorem dX12_no_6 : decode cX12_no 6 = .ok (.ireturn, 1) := by decide +kernel
theorem dX12_full_33 : decode cX12_full 33 = .ok (.iconst 0, 1) := by decide +kernel
theorem dX12_fail_0 : decode cX12_fail 0 = .ok (.aload_n 0, 1) := by decide +kernel
theorem dX12_fail_1 : decode cX12_fail 1 = .ok (.getfield 562, 3) := by decide +kernel
theorem dX12_fail_4 : decode cX12_fail 4 = .ok (.ifCond .ne 23, 3) := by decide +kernel
theorem dX12_fail_7 : decode cX12_fail 7 = .ok (.aload_n 0, 1) := by decide +kernel
theorem dX12_fail_8 : decode cX12_fail 8 = .ok (.iconst 1, 1) := by decide +kernel
theorem dX12_fail_9 : decode cX12_fail 9 = .ok (.putfield 562, 3) := by decide +kernel
theorem dX12_fail_12 : decode cX12_fail 12 = .ok (.aload_n 0, 1) := by decide +kernel
theorem dX12_fail_13 : decode cX12_fail 13 = .ok (.iload_n 1, 1) := by decide +kernel
theorem dX12_fail_14 : decode cX12_fail 14 = .ok (.putfield 565, 3) := by decide +kernel
theorem dX12_fail_17 : decode cX12_fail 17 = .ok (.aload_n 0, 1) := by decide +kernel
theorem dX12_fail_18 : decode cX12_fail 18 = .ok (.aload_n 0, 1) := by decide +kernel
theorem dX12_fail_19 : decode cX12_fail 19 = .ok (.getfield 81, 3) := by decide +kernel
theorem dX12_fail_22 : decode cX12_fail 22 = .ok (.iload_n 2, 1) := by decide +kernel
theorem dX12_fail_23 : decode cX12_fail 23 = .ok (.iaload, 1) := by decide +kernel
theorem dX12_fail_24 : decode cX12_fail 24 = .ok (.putfield 568, 3) := by decide +kernel
theorem dX12_fail_27 : decode cX12_fail 27 = .ok (.return_, 1) := by decide +kernel
set_option maxRecDepth 20000 in
theorem ggX12_cannot_X12_fail : GoodIn wsX12_cannot wsX12_fail := goodIn_r _ [7, 8, 9, 10, 11, 12, 13, 14, 15, 16, 17, 18, 19, 20, 21, 22, 23, 24, 25, 26, 27, 28, 29, 30, 31, 32, 33, 34, 35, 36, 37, 38, 39, 40, 41, 42, 43, 44, 45, 46, 47, 48, 49, 50, 51, 52, 53, 54, 55, 56, 57, 58, 59, 60, 61, 62, 63, 64, 65, 66, 67, 68, 69, 70, 71, 72, 73, 74, 75, 76, 77, 78, 79, 80, 81, 82, 83, 84, 85, 86, 87, 88, 89, 90, 91, 92, 93, 94, 95, 96, 97, 98, 99, 100, 101, 102, 103, 104, 105, 106, 107, 108, 109, 110, 111, 112, 113, 114, 115, 116, 117, 118, 119, 120, 121, 122, 123, 124, 125, 126, 127, 128, 129, 130, 131, 132, 133, 134, 135, 136, 137, 138, 139, 140, 141, 142, 143, 144, 145, 146, 147, 148, 149, 150, 151, 152, 153, 154, 155, 156, 157, 158, 159, 160, 161, 162, 163, 164, 165, 166, 167, 168, 169, 170, 171, 172, 173, 174, 175, 176, 177, 178, 179, 180, 181, 182, 183, 184, 185, 186, 187, 188, 189, 190, 191, 192, 193, 194, 195, 196, 197, 198, 199, 200, 201, 202, 203, 204, 205, 206] (by decide +kernel) (by decide +kernel)
set_option maxRecDepth 20000 in
theorem gX12_cannot_X12_fail : GoodIn wsX12_cannot (wsV RX12 616 RX12 yX12_fail wsX12_fail) := goodIn_app (goodIn_of _ (by decide +kernel)) ggX12_cannot_X12_fail
theorem dX12_cannot_0 : decode cX12_cannot 0 = .ok (.aload_n 0, 1) := by decide +kernel
theorem dX12_cannot_1 : decode cX12_cannot 1 = .ok (.aload_n 0, 1) := by decide +kernel
theorem dX12_cannot_2 : decode cX12_cannot 2 = .ok (.getfield 87, 3) := by decide +kernel
theorem dX12_cannot_5 : decode cX12_cannot 5 = .ok (.aload_n 0, 1) := by decide +kernel
theorem dX12_cannot_6 : decode cX12_cannot 6 = .ok (.getfield 597, 3) := by decide +kernel
theorem dX12_cannot_9 : decode cX12_cannot 9 = .ok (.iaload, 1) := by decide +kernel
theorem dX12_cannot_10 : decode cX12_cannot 10 = .ok (.iconst 1, 1) := by decide +kernel
theorem dX12_cannot_11 : decode cX12_cannot 11 = .ok (.if_icmp .ne 7, 3) := by decide +kernel
theorem dX12_cannot_18 : decode cX12_cannot 18 = .ok (.iconst 2, 1) := by decide +kernel
theorem dX12_cannot_19 : decode cX12_cannot 19 = .ok (.aload_n 0, 1) := by decide +kernel
theorem dX12_cannot_20 : decode cX12_cannot 20 = .ok (.getfield 597, 3) := by decide +kernel
theorem dX12_cannot_23 : decode cX12_cannot 23 = .ok (.invokevirtual 616, 3) := by decide +kernel
theorem dX12_cannot_26 : decode cX12_cannot 26 = .ok (.return_, 1) := by decide +kernel
set_option maxRecDepth 20000 in
theorem ggX12_act_X12_turn : GoodIn wsX12_act wsX12_turn := goodIn_r _ [406, 407, 9, 16, 41, 42, 5, 43, 392, 393, 394, 395, 396, 397, 398, 399, 400, 1, 27, 390, 401, 402, 419, 420, 421, 422, 423, 424, 425, 426, 427, 428, 429, 430, 431, 432, 433, 434, 435, 436, 437, 438, 439, 440, 441, 442, 443, 444, 445, 446, 447, 448, 449, 450, 451, 452, 453, 454, 455, 456, 457, 458, 459, 460, 461, 462, 463, 464, 465, 466, 467, 468, 469, 470, 471, 472, 473, 474, 475, 476, 477, 478, 479, 480, 481, 482, 483, 484, 485, 486, 487, 488, 489, 490, 491, 492, 493, 494, 495, 496, 497, 498, 499, 500, 501, 502, 503, 504, 505, 506, 507, 508, 509, 510, 511, 512, 513, 514, 515, 516, 517, 518, 519, 520, 521, 522, 523, 524, 525, 526, 527, 528, 529, 530, 531, 532, 533, 534, 535, 536, 537, 538, 539, 540, 541, 542, 543, 544, 545, 546, 547, 548, 549, 550, 551, 552, 553, 554, 555, 556, 557, 558, 559, 560, 561, 562, 563, 564, 565, 566, 567, 568, 569, 570, 571, 572, 573, 574, 575, 576, 577, 578, 579, 580, 581, 582, 583, 584, 585, 586, 587, 588, 589, 590, 591, 592, 593, 594, 595, 596, 597, 598, 599, 600, 601, 602, 603, 604, 605, 606, 607, 608, 609, 610, 611, 612, 613] (by decide +kernel) (by decide +kernel)
set_option maxRecDepth 20000 in
theorem gX12_act_X12_turn : GoodIn wsX12_act (wsV RX12 827 RX12 yX12_turn wsX12_turn) := goodIn_app (goodIn_of _ (by decide +kernel)) ggX12_act_X12_turn
set_option maxRecDepth 20000 in
theorem ggX12_act_X12_layer : GoodIn wsX12_act wsX12_layer := goodIn_r _ [411, 18, 412, 7, 413, 9, 414, 16, 397, 398, 399, 5, 400, 1, 27, 390, 401, 402, 392, 393, 394, 395, 396, 419, 420, 421, 422, 423, 424, 425, 426, 427, 428, 429, 430, 431, 432, 433, 434, 435, 436, 437, 438, 439, 440, 441, 442, 443, 444, 445, 446, 447, 448, 449, 450, 451, 452, 453, 454, 455, 456, 457, 458, 459, 460, 461, 462, 463, 464, 465, 466, 467, 468, 469, 470, 471, 472, 473, 474, 475, 476, 477, 478, 479, 480, 481, 482, 483, 484, 485, 486, 487, 488, 489, 490, 491, 492, 493, 494, 495, 496, 497, 498, 499, 500, 501, 502, 503, 504, 505, 506, 507, 508, 509, 510, 511, 512, 513, 514, 515, 516, 517, 518, 519, 520, 521, 522, 523, 524, 525, 526, 527, 528, 529, 530, 531, 532, 533, 534, 535, 536, 537, 538, 539, 540, 541, 542, 543, 544, 545, 546, 547, 548, 549, 550, 551, 552, 553, 554, 555, 556, 557, 558, 559, 560, 561, 562, 563, 564, 565, 566, 567, 568, 569, 570, 571, 572, 573, 574, 575, 576, 577, 578, 579, 580, 581, 582, 583, 584, 585, 586, 587, 588, 589, 590, 591, 592, 593, 594, 595, 596, 597, 598, 599, 600, 601, 602, 603, 604, 605, 606, 607, 608, 609, 610, 611, 612, 613] (by decide +kernel) (by decide +kernel)
set_option maxRecDepth 20000 in
theorem gX12_act_X12_layer : GoodIn wsX12_act (wsV RX12 830 RX12 yX12_layer wsX12_layer) := goodIn_app (goodIn_of _ (by decide +kernel)) ggX12_act_X12_layer
set_option maxRecDepth 20000 in
theorem ggX12_act_X12_leave : GoodIn wsX12_act wsX12_leave := goodIn_r _ [418, 18, 412, 7, 413, 9, 16, 414, 392, 393, 394, 5, 395, 396, 397, 398, 399, 400, 1, 27, 390, 401, 402, 419, 420, 421, 422, 423, 424, 425, 426, 427, 428, 429, 430, 431, 432, 433, 434, 435, 436, 437, 438, 439, 440, 441, 442, 443, 444, 445, 446, 447, 448, 449, 450, 451, 452, 453, 454, 455, 456, 457, 458, 459, 460, 461, 462, 463, 464, 465, 466, 467, 468, 469, 470, 471, 472, 473, 474, 475, 476, 477, 478, 479, 480, 481, 482, 483, 484, 485, 486, 487, 488, 489, 490, 491, 492, 493, 494, 495, 496, 497, 498, 499, 500, 501, 502, 503, 504, 505, 506, 507, 508, 509, 510, 511, 512, 513, 514, 515, 516, 517, 518, 519, 520, 521, 522, 523, 524, 525, 526, 527, 528, 529, 530, 531, 532, 533, 534, 535, 536, 537, 538, 539, 540, 541, 542, 543, 544, 545, 546, 547, 548, 549, 550, 551, 552, 553, 554, 555, 556, 557, 558, 559, 560, 561, 562, 563, 564, 565, 566, 567, 568, 569, 570, 571, 572, 573, 574, 575, 576, 577, 578, 579, 580, 581, 582, 583, 584, 585, 586, 587, 588, 589, 590, 591, 592, 593, 594, 595, 596, 597, 598, 599, 600, 601, 602, 603, 604, 605, 606, 607, 608, 609, 610, 611, 612, 613] (by decide +kernel) (by decide +kernel)
set_option maxRecDepth 20000 in
theorem gX12_act_X12_leave : GoodIn wsX12_act (wsV RX12 833 RX12 yX12_leave wsX12_leave) := goodIn_app (goodIn_of _ (by decide +kernel)) ggX12_act_X12_leave
theorem dX12_act_37 : decode cX12_act 37 = .ok (.aload_n 0, 1) := by decide +kernel
theorem dX12_act_38 : decode cX12_act 38 = .ok (.invokevirtual 827, 3) := by decide +kernel
theorem dX12_act_41 : decode cX12_act 41 = .ok (.ireturn, 1) := by decide +kernel
theorem dX12_act_42 : decode cX12_act 42 = .ok (.aload_n 0, 1) := by decide +kernel
theorem dX12_act_43 : decode cX12_act 43 = .ok (.invokevirtual 830, 3) := by decide +kernel
theorem dX12_act_46 : decode cX12_act 46 = .ok (.ireturn, 1) := by decide +kernel
theorem dX12_act_47 : decode cX12_act 47 = .ok (.aload_n 0, 1) := by decide +kernel
theorem dX12_act_48 : decode cX12_act 48 = .ok (.invokevirtual 833, 3) := by decide +kernel
theorem dX12_act_51 : decode cX12_act 51 = .ok (.ireturn, 1) := by decide +kernel
theorem dX12_told_0 : decode cX12_told 0 = .ok (.aload_n 0, 1) := by decide +kernel
theorem dX12_told_1 : decode cX12_told 1 = .ok (.aload_n 0, 1) := by decide +kernel
theorem dX12_told_2 : decode cX12_told 2 = .ok (.getfield 472, 3) := by decide +kernel
theorem dX12_told_5 : decode cX12_told 5 = .ok (.ifCond .eq 10, 3) := by decide +kernel
theorem dX12_told_15 : decode cX12_told 15 = .ok (.aload_n 0, 1) := by decide +kernel
theorem dX12_told_16 : decode cX12_told 16 = .ok (.getfield 565, 3) := by decide +kernel
theorem dX12_told_19 : decode cX12_told 19 = .ok (.putfield 836, 3) := by decide +kernel
theorem dX12_told_22 : decode cX12_told 22 = .ok (.sipush (-1000), 3) := by decide +kernel
theorem dX12_told_25 : decode cX12_told 25 = .ok (.aload_n 0, 1) := by decide +kernel
theorem dX12_told_26 : decode cX12_told 26 = .ok (.getfield 568, 3) := by decide +kernel
theorem dX12_told_29 : decode cX12_told 29 = .ok (.isub, 1) := by decide +kernel
theorem dX12_told_30 : decode cX12_told 30 = .ok (.ireturn, 1) := by decide +kernel
set_option maxRecDepth 20000 in
theorem ggX12_turn_X12_in : GoodIn wsX12_turn wsX12_in := goodIn_r _ [7] (by decide +kernel) (by decide +kernel)
set_option maxRecDepth 20000 in
theorem gX12_turn_X12_in : GoodIn wsX12_turn (va_wsS RX12 504 yX12_in wsX12_in) := goodIn_app (goodIn_of _ (by decide +kernel)) ggX12_turn_X12_in
set_option maxRecDepth 20000 in
theorem ggX12_turn_X12_no : GoodIn wsX12_turn wsX12_no := goodIn_r _ [11, 12, 22, 23, 24, 25, 26, 27, 28, 29, 30, 31, 32, 33, 34, 35, 36, 37, 38, 39, 40, 41, 42, 43, 44, 45, 46, 47, 48, 49, 50, 51, 52, 53, 54, 55, 56, 57, 58, 59, 60, 61, 62, 63, 64, 65, 66, 67, 68, 69, 70, 71, 72, 73, 74, 75, 76, 77, 78, 79, 80, 81, 82, 83, 84, 85, 86, 87, 88, 89, 90, 91, 92, 93, 94, 95, 96, 97, 98, 99, 100, 101, 102, 103, 104, 105, 106, 107, 108, 109, 110, 111, 112, 113, 114, 115, 116, 117, 118, 119, 120, 121, 122, 123, 124, 125, 126, 127, 128, 129, 130, 131, 132, 133, 134, 135, 136, 137, 138, 139, 140, 141, 142, 143, 144, 145, 146, 147, 148, 149, 150, 151, 152, 153, 154, 155, 156, 157, 158, 159, 160, 161, 162, 163, 164, 165, 166, 167, 168, 169, 170, 171, 172, 173, 174, 175, 176, 177, 178, 179, 180, 181, 182, 183, 184, 185, 186, 187, 188, 189, 190, 191, 192, 193, 194, 195, 196, 197, 198, 199, 200, 201, 202, 203, 204, 205, 206, 207, 208, 209, 210, 211, 212, 213, 214, 215, 216] (by decide +kernel) (by decide +kernel)
set_option maxRecDepth 20000 in
theorem gX12_turn_X12_no : GoodIn wsX12_turn (wsV RX12 862 RX12 yX12_no wsX12_no) := goodIn_app (goodIn_of _ (by decide +kernel)) ggX12_turn_X12_no
theorem dX12_turn_0 : decode cX12_turn 0 = .ok (.aload_n 0, 1) := by decide +kernel
theorem dX12_turn_1 : decode cX12_turn 1 = .ok (.getfield 28, 3) := by decide +kernel
theorem dX12_turn_4 : decode cX12_turn 4 = .ok (.iconst 0, 1) := by decide +kernel
theorem dX12_turn_5 : decode cX12_turn 5 = .ok (.iaload, 1) := by decide +kernel
theorem dX12_turn_6 : decode cX12_turn 6 = .ok (.istore_n 1, 1) := by decide +kernel
theorem dX12_turn_7 : decode cX12_turn 7 = .ok (.iload_n 1, 1) := by decide +kernel
theorem dX12_turn_8 : decode cX12_turn 8 = .ok (.i2l, 1) := by decide +kernel
theorem dX12_turn_9 : decode cX12_turn 9 = .ok (.lconst 0, 1) := by decide +kernel
theorem dX12_turn_10 : decode cX12_turn 10 = .ok (.aload_n 0, 1) := by decide +kernel
theorem dX12_turn_11 : decode cX12_turn 11 = .ok (.getfield 818, 3) := by decide +kernel
theorem dX12_turn_14 : decode cX12_turn 14 = .ok (.iconst 1, 1) := by decide +kernel
theorem dX12_turn_15 : decode cX12_turn 15 = .ok (.isub, 1) := by decide +kernel
theorem dX12_turn_16 : decode cX12_turn 16 = .ok (.i2l, 1) := by decide +kernel
theorem dX12_turn_17 : decode cX12_turn 17 = .ok (.invokestatic 504, 3) := by decide +kernel
theorem dX12_turn_20 : decode cX12_turn 20 = .ok (.ifCond .ne 10, 3) := by decide +kernel
theorem dX12_turn_23 : decode cX12_turn 23 = .ok (.aload_n 0, 1) := by decide +kernel
theorem dX12_turn_24 : decode cX12_turn 24 = .ok (.bipush (-101), 2) := by decide +kernel
theorem dX12_turn_26 : decode cX12_turn 26 = .ok (.invokevirtual 862, 3) := by decide +kernel
theorem dX12_turn_29 : decode cX12_turn 29 = .ok (.ireturn, 1) := by decide +kernel
set_option maxRecDepth 20000 in
theorem ggX12_layer_X12_full : GoodIn wsX12_layer wsX12_full := goodIn_r _ [12, 13, 14, 15, 16, 17, 23, 24, 25, 26, 27, 28, 29, 30, 31, 32, 33, 34, 35, 36, 37, 38, 39, 40, 41, 42, 43, 44, 45, 46, 47, 48, 49, 50, 51, 52, 53, 54, 55, 56, 57, 58, 59, 60, 61, 62, 63, 64, 65, 66, 67, 68, 69, 70, 71, 72, 73, 74, 75, 76, 77, 78, 79, 80, 81, 82, 83, 84, 85, 86, 87, 88, 89, 90, 91, 92, 93, 94, 95, 96, 97, 98, 99, 100, 101, 102, 103, 104, 105, 106, 107, 108, 109, 110, 111, 112, 113, 114, 115, 116, 117, 118, 119, 120, 121, 122, 123, 124, 125, 126, 127, 128, 129, 130, 131, 132, 133, 134, 135, 136, 137, 138, 139, 140, 141, 142, 143, 144, 145, 146, 147, 148, 149, 150, 151, 152, 153, 154, 155, 156, 157, 158, 159, 160, 161, 162, 163, 164, 165, 166, 167, 168, 169, 170, 171, 172, 173, 174, 175, 176, 177, 178, 179, 180, 181, 182, 183, 184, 185, 186, 187, 188, 189, 190, 191, 192, 193, 194, 195, 196, 197, 198, 199, 200, 201, 202, 203, 204, 205, 206, 207, 208, 209, 210, 211, 212, 213, 214, 215, 216, 217] (by decide +kernel) (by decide +kernel)
set_option maxRecDepth 20000 in
theorem gX12_layer_X12_full : GoodIn wsX12_layer (wsV RX12 865 RX12 yX12_full wsX12_full) := goodIn_app (goodIn_of _ (by decide +kernel)) ggX12_layer_X12_full
theorem dX12_layer_0 : decode cX12_layer 0 = .ok (.aload_n 0, 1) := by decide +kernel
theorem dX12_layer_1 : decode cX12_layer 1 = .ok (.getfield 821, 3) := by decide +kernel
theorem dX12_layer_4 : decode cX12_layer 4 = .ok (.bipush 8, 2) := by decide +kernel
theorem dX12_layer_6 : decode cX12_layer 6 = .ok (.if_icmp .eq 10, 3) := by decide +kernel
theorem dX12_layer_9 : decode cX12_layer 9 = .ok (.aload_n 0, 1) := by decide +kernel
theorem dX12_layer_10 : decode cX12_layer 10 = .ok (.invokevirtual 865, 3) := by decide +kernel
theorem dX12_layer_13 : decode cX12_layer 13 = .ok (.ifCond .eq 10, 3) := by decide +kernel
theorem dX12_layer_23 : decode cX12_layer 23 = .ok (.aload_n 0, 1) := by decide +kernel
theorem dX12_layer_24 : decode cX12_layer 24 = .ok (.getfield 271, 3) := by decide +kernel
theorem dX12_layer_27 : decode cX12_layer 27 = .ok (.aload_n 0, 1) := by decide +kernel
theorem dX12_layer_28 : decode cX12_layer 28 = .ok (.getfield 821, 3) := by decide +kernel
theorem dX12_layer_31 : decode cX12_layer 31 = .ok (.aload_n 0, 1) := by decide +kernel
theorem dX12_layer_32 : decode cX12_layer 32 = .ok (.getfield 815, 3) := by decide +kernel
theorem dX12_layer_35 : decode cX12_layer 35 = .ok (.iastore, 1) := by decide +kernel
theorem dX12_layer_36 : decode cX12_layer 36 = .ok (.aload_n 0, 1) := by decide +kernel
theorem dX12_layer_37 : decode cX12_layer 37 = .ok (.getfield 274, 3) := by decide +kernel
theorem dX12_layer_40 : decode cX12_layer 40 = .ok (.aload_n 0, 1) := by decide +kernel
theorem dX12_layer_41 : decode cX12_layer 41 = .ok (.getfield 821, 3) := by decide +kernel
theorem dX12_layer_44 : decode cX12_layer 44 = .ok (.aload_n 0, 1) := by decide +kernel
theorem dX12_layer_45 : decode cX12_layer 45 = .ok (.getfield 818, 3) := by decide +kernel
theorem dX12_layer_48 : decode cX12_layer 48 = .ok (.iastore, 1) := by decide +kernel
theorem dX12_layer_49 : decode cX12_layer 49 = .ok (.iconst 0, 1) := by decide +kernel
theorem dX12_layer_50 : decode cX12_layer 50 = .ok (.istore_n 1, 1) := by decide +kernel
theorem dX12_layer_51 : decode cX12_layer 51 = .ok (.iload_n 1, 1) := by decide +kernel
theorem dX12_layer_52 : decode cX12_layer 52 = .ok (.aload_n 0, 1) := by decide +kernel
theorem dX12_layer_53 : decode cX12_layer 53 = .ok (.getfield 818, 3) := by decide +kernel
theorem dX12_layer_56 : decode cX12_layer 56 = .ok (.if_icmp .ge 29, 3) := by decide +kernel
theorem dX12_layer_85 : decode cX12_layer 85 = .ok (.aload_n 0, 1) := by decide +kernel
theorem dX12_layer_86 : decode cX12_layer 86 = .ok (.dup, 1) := by decide +kernel
theorem dX12_layer_87 : decode cX12_layer 87 = .ok (.getfield 821, 3) := by decide +kernel
theorem dX12_layer_90 : decode cX12_layer 90 = .ok (.iconst 1, 1) := by decide +kernel
theorem dX12_layer_91 : decode cX12_layer 91 = .ok (.iadd, 1) := by decide +kernel
theorem dX12_layer_92 : decode cX12_layer 92 = .ok (.putfield 821, 3) := by decide +kernel
theorem dX12_layer_95 : decode cX12_layer 95 = .ok (.aload_n 0, 1) := by decide +kernel
theorem dX12_layer_96 : decode cX12_layer 96 = .ok (.getfield 821, 3) := by decide +kernel
theorem dX12_layer_99 : decode cX12_layer 99 = .ok (.ireturn, 1) := by decide +kernel
set_option maxRecDepth 20000 in
theorem ggX12_leave_X12_no : GoodIn wsX12_leave wsX12_no := goodIn_r _ [12, 13, 23, 24, 25, 26, 27, 28, 29, 30, 31, 32, 33, 34, 35, 36, 37, 38, 39, 40, 41, 42, 43, 44, 45, 46, 47, 48, 49, 50, 51, 52, 53, 54, 55, 56, 57, 58, 59, 60, 61, 62, 63, 64, 65, 66, 67, 68, 69, 70, 71, 72, 73, 74, 75, 76, 77, 78, 79, 80, 81, 82, 83, 84, 85, 86, 87, 88, 89, 90, 91, 92, 93, 94, 95, 96, 97, 98, 99, 100, 101, 102, 103, 104, 105, 106, 107, 108, 109, 110, 111, 112, 113, 114, 115, 116, 117, 118, 119, 120, 121, 122, 123, 124, 125, 126, 127, 128, 129, 130, 131, 132, 133, 134, 135, 136, 137, 138, 139, 140, 141, 142, 143, 144, 145, 146, 147, 148, 149, 150, 151, 152, 153, 154, 155, 156, 157, 158, 159, 160, 161, 162, 163, 164, 165, 166, 167, 168, 169, 170, 171, 172, 173, 174, 175, 176, 177, 178, 179, 180, 181, 182, 183, 184, 185, 186, 187, 188, 189, 190, 191, 192, 193, 194, 195, 196, 197, 198, 199, 200, 201, 202, 203, 204, 205, 206, 207, 208, 209, 210, 211, 212, 213, 214, 215, 216, 217] (by decide +kernel) (by decide +kernel)
set_option maxRecDepth 20000 in
theorem gX12_leave_X12_no : GoodIn wsX12_leave (wsV RX12 862 RX12 yX12_no wsX12_no) := goodIn_app (goodIn_of _ (by decide +kernel)) ggX12_leave_X12_no
theorem dX12_leave_0 : decode cX12_leave 0 = .ok (.aload_n 0, 1) := by decide +kernel
theorem dX12_leave_1 : decode cX12_leave 1 = .ok (.getfield 821, 3) := by decide +kernel
theorem dX12_leave_4 : decode cX12_leave 4 = .ok (.ifCond .ne 10, 3) := by decide +kernel
theorem dX12_leave_7 : decode cX12_leave 7 = .ok (.aload_n 0, 1) := by decide +kernel
theorem dX12_leave_8 : decode cX12_leave 8 = .ok (.bipush (-103), 2) := by decide +kernel
theorem dX12_leave_10 : decode cX12_leave 10 = .ok (.invokevirtual 862, 3) := by decide +kernel
theorem dX12_leave_13 : decode cX12_leave 13 = .ok (.ireturn, 1) := by decide +kernel
set_option maxRecDepth 20000 in
theorem ggX12_on_X12_call : GoodIn wsX12_on wsX12_call := goodIn_r _ [6, 7, 8, 9, 10, 11, 12, 1, 13, 14, 15, 16, 17, 5, 18, 19, 20, 21, 22, 23, 24, 25, 26, 27, 28, 29, 30, 31, 32, 33, 34, 35, 36, 37, 38, 39, 40, 41, 42, 43, 44, 45, 46, 47, 48, 49, 50, 51, 52, 53, 54, 55, 56, 57, 58, 59, 60, 61, 62, 63, 64, 65, 66, 67, 68, 69, 70, 71, 72, 73, 74, 75, 76, 77, 78, 79, 80, 81, 82, 83, 84, 85, 86, 87, 88, 89, 90, 91, 92, 93, 94, 95, 96, 97, 98, 99, 100, 101, 102, 103, 104, 105, 106, 107, 108, 109, 110, 111, 112, 113, 114, 115, 116, 117, 118, 119, 120, 121, 122, 123, 124, 125, 126, 127, 128, 129, 130, 131, 132, 133, 134, 135, 136, 137, 138, 139, 140, 141, 142, 143, 144, 145, 146, 147, 148, 149, 150, 151, 152, 153, 154, 155, 156, 157, 158, 159, 160, 161, 162, 163, 164, 165, 166, 167, 168, 169, 170, 171, 172, 173, 174, 175, 176, 177, 178, 179, 180, 181, 182, 183, 184, 185, 186, 187, 188, 189, 190, 191, 192, 193, 194, 195, 196, 197, 198, 199, 200, 201, 202, 203, 204, 205, 206, 207, 208, 209, 210, 211, 212, 213, 214, 215, 216, 217, 218, 219, 220, 221, 222, 223, 224, 225, 226, 227, 228, 229, 230, 231, 232, 233, 234, 235, 236, 237, 238, 239, 240, 241, 242, 243, 244, 245, 246, 247, 248, 249, 250, 251, 252, 253, 254, 255, 256, 257, 258, 259, 260, 261, 262, 263, 264, 265, 266, 267, 268, 269, 270, 271, 272, 273, 274, 275, 276, 277, 278, 279, 280, 281, 282, 283, 284, 285, 286, 287, 288, 289, 290, 291, 292, 293, 294, 295, 296, 297, 298, 299, 300, 301, 302, 303, 304, 305, 306, 307, 308, 309, 310, 311, 312, 313, 314, 315, 316, 317, 318, 319, 320, 321, 322, 323, 324, 325, 326, 327, 328, 329, 330, 331, 332, 333, 334, 335, 336, 337, 338, 339, 340, 341, 342, 343, 344, 345, 346, 347, 348, 349, 350, 351, 352, 353, 354, 355, 356, 357, 358, 359, 360, 361, 362, 363, 364, 365, 366, 367, 368, 369, 370, 371, 372, 373, 374, 375, 376, 377, 378, 379, 380, 381, 382, 383, 384, 385, 386, 387, 388, 389, 390, 391, 392, 393, 394, 395, 396, 397, 398, 399, 400, 401, 402, 403, 404, 405, 406, 407, 408, 409, 410, 411, 412, 413, 414, 415, 416, 417, 418, 419, 420, 421, 422, 423, 424, 425, 426, 427, 428, 429, 430, 431, 432, 433, 434, 435, 436, 437, 438, 439, 440, 441, 442, 443, 444, 445, 446, 447, 448, 449, 450, 451, 452, 453, 454, 455, 456, 457, 458, 459, 460, 461, 462, 463, 464, 465, 466, 467, 468, 469, 470, 471, 472, 473, 474, 475, 476, 477, 478, 479, 480, 481, 482, 483, 484, 485, 486, 487, 488, 489, 490, 491, 492, 493, 494, 495, 496, 497, 498, 499, 500, 501, 502, 503, 504, 505, 506, 507, 508, 509, 510, 511, 512, 513, 514, 515, 516, 517, 518, 519, 520, 521, 522, 523, 524, 525, 526, 527, 528, 529, 530, 531, 532, 533, 534, 535, 536, 537, 538, 539, 540, 541, 542, 543, 544, 545, 546, 547, 548, 549, 550, 551, 552, 553, 554, 555, 556, 557, 558, 559, 560, 561, 562, 563, 564, 565, 566, 567, 568, 569, 570, 571, 572, 573, 574, 575, 576, 577, 578, 579, 580, 581, 582, 583, 584, 585, 586, 587, 588, 589, 590, 591, 592, 593, 594, 595, 596, 597, 598, 599, 600, 601, 602, 603, 604, 605, 606, 607, 608, 609, 610, 611, 612, 613, 614, 615, 616, 617, 618, 619, 620, 621, 622, 623, 624, 625, 626, 627, 628, 629, 630, 631, 632, 633, 634, 635, 636, 637, 638, 639] (by decide +kernel) (by decide +kernel)
set_option maxRecDepth 20000 in
theorem gX12_on_X12_call : GoodIn wsX12_on (wsV RX12 868 RX12 yX12_call wsX12_call) := goodIn_app (goodIn_of _ (by decide +kernel)) ggX12_on_X12_call
theorem dX12_on_0 : decode cX12_on 0 = .ok (.aload_n 0, 1) := by decide +kernel
theorem dX12_on_1 : decode cX12_on 1 = .ok (.getfield 28, 3) := by decide +kernel
theorem dX12_on_4 : decode cX12_on 4 = .ok (.iconst 0, 1) := by decide +kernel
theorem dX12_on_5 : decode cX12_on 5 = .ok (.iload_n 1, 1) := by decide +kernel
theorem dX12_on_6 : decode cX12_on 6 = .ok (.iastore, 1) := by decide +kernel
theorem dX12_on_7 : decode cX12_on 7 = .ok (.aload_n 0, 1) := by decide +kernel
theorem dX12_on_8 : decode cX12_on 8 = .ok (.getfield 28, 3) := by decide +kernel
theorem dX12_on_11 : decode cX12_on 11 = .ok (.iconst 1, 1) := by decide +kernel
theorem dX12_on_12 : decode cX12_on 12 = .ok (.iload_n 2, 1) := by decide +kernel
theorem dX12_on_13 : decode cX12_on 13 = .ok (.ifCond .eq 7, 3) := by decide +kernel
theorem dX12_on_16 : decode cX12_on 16 = .ok (.iconst 1, 1) := by decide +kernel
theorem dX12_on_17 : decode cX12_on 17 = .ok (.goto 4, 3) := by decide +kernel
theorem dX12_on_20 : decode cX12_on 20 = .ok (.iconst 0, 1) := by decide +kernel
theorem dX12_on_21 : decode cX12_on 21 = .ok (.iastore, 1) := by decide +kernel
theorem dX12_on_22 : decode cX12_on 22 = .ok (.aload_n 0, 1) := by decide +kernel
theorem dX12_on_23 : decode cX12_on 23 = .ok (.iconst 2, 1) := by decide +kernel
theorem dX12_on_24 : decode cX12_on 24 = .ok (.invokevirtual 868, 3) := by decide +kernel
theorem dX12_on_27 : decode cX12_on 27 = .ok (.ireturn, 1) := by decide +kernel
set_option maxRecDepth 20000 in
theorem ggX12_push_X12_call : GoodIn wsX12_push wsX12_call := goodIn_r _ [5, 6, 7, 8, 9, 10, 11, 12, 13, 14, 15, 16, 17, 4, 18, 19, 20, 21, 22, 23, 24, 25, 26, 27, 28, 29, 30, 31, 32, 33, 34, 35, 36, 37, 38, 39, 40, 41, 42, 43, 44, 45, 46, 47, 48, 49, 50, 51, 52, 53, 54, 55, 56, 57, 58, 59, 60, 61, 62, 63, 64, 65, 66, 67, 68, 69, 70, 71, 72, 73, 74, 75, 76, 77, 78, 79, 80, 81, 82, 83, 84, 85, 86, 87, 88, 89, 90, 91, 92, 93, 94, 95, 96, 97, 98, 99, 100, 101, 102, 103, 104, 105, 106, 107, 108, 109, 110, 111, 112, 113, 114, 115, 116, 117, 118, 119, 120, 121, 122, 123, 124, 125, 126, 127, 128, 129, 130, 131, 132, 133, 134, 135, 136, 137, 138, 139, 140, 141, 142, 143, 144, 145, 146, 147, 148, 149, 150, 151, 152, 153, 154, 155, 156, 157, 158, 159, 160, 161, 162, 163, 164, 165, 166, 167, 168, 169, 170, 171, 172, 173, 174, 175, 176, 177, 178, 179, 180, 181, 182, 183, 184, 185, 186, 187, 188, 189, 190, 191, 192, 193, 194, 195, 196, 197, 198, 199, 200, 201, 202, 203, 204, 205, 206, 207, 208, 209, 210, 211, 212, 213, 214, 215, 216, 217, 218, 219, 220, 221, 222, 223, 224, 225, 226, 227, 228, 229, 230, 231, 232, 233, 234, 235, 236, 237, 238, 239, 240, 241, 242, 243, 244, 245, 246, 247, 248, 249, 250, 251, 252, 253, 254, 255, 256, 257, 258, 259, 260, 261, 262, 263, 264, 265, 266, 267, 268, 269, 270, 271, 272, 273, 274, 275, 276, 277, 278, 279, 280, 281, 282, 283, 284, 285, 286, 287, 288, 289, 290, 291, 292, 293, 294, 295, 296, 297, 298, 299, 300, 301, 302, 303, 304, 305, 306, 307, 308, 309, 310, 311, 312, 313, 314, 315, 316, 317, 318, 319, 320, 321, 322, 323, 324, 325, 326, 327, 328, 329, 330, 331, 332, 333, 334, 335, 336, 337, 338, 339, 340, 341, 342, 343, 344, 345, 346, 347, 348, 349, 350, 351, 352, 353, 354, 355, 356, 357, 358, 359, 360, 361, 362, 363, 364, 365, 366, 367, 368, 369, 370, 371, 372, 373, 374, 375, 376, 377, 378, 379, 380, 381, 382, 383, 384, 385, 386, 387, 388, 389, 390, 391, 392, 393, 394, 395, 396, 397, 398, 399, 400, 401, 402, 403, 404, 405, 406, 407, 408, 409, 410, 411, 412, 413, 414, 415, 416, 417, 418, 419, 420, 421, 422, 423, 424, 425, 426, 427, 428, 429, 430, 431, 432, 433, 434, 435, 436, 437, 438, 439, 440, 441, 442, 443, 444, 445, 446, 447, 448, 449, 450, 451, 452, 453, 454, 455, 456, 457, 458, 459, 460, 461, 462, 463, 464, 465, 466, 467, 468, 469, 470, 471, 472, 473, 474, 475, 476, 477, 478, 479, 480, 481, 482, 483, 484, 485, 486, 487, 488, 489, 490, 491, 492, 493, 494, 495, 496, 497, 498, 499, 500, 501, 502, 503, 504, 505, 506, 507, 508, 509, 510, 511, 512, 513, 514, 515, 516, 517, 518, 519, 520, 521, 522, 523, 524, 525, 526, 527, 528, 529, 530, 531, 532, 533, 534, 535, 536, 537, 538, 539, 540, 541, 542, 543, 544, 545, 546, 547, 548, 549, 550, 551, 552, 553, 554, 555, 556, 557, 558, 559, 560, 561, 562, 563, 564, 565, 566, 567, 568, 569, 570, 571, 572, 573, 574, 575, 576, 577, 578, 579, 580, 581, 582, 583, 584, 585, 586, 587, 588, 589, 590, 591, 592, 593, 594, 595, 596, 597, 598, 599, 600, 601, 602, 603, 604, 605, 606, 607, 608, 609, 610, 611, 612, 613, 614, 615, 616, 617, 618, 619, 620, 621, 622, 623, 624, 625, 626, 627, 628, 629, 630, 631, 632, 633, 634, 635, 636, 637, 638, 639] (by decide +kernel) (by decide +kernel)
set_option maxRecDepth 20000 in
theorem gX12_push_X12_call : GoodIn wsX12_push (wsV RX12 868 RX12 yX12_call wsX12_call) := goodIn_app (goodIn_of _ (by decide +kernel)) ggX12_push_X12_call
theorem dX12_push_0 : decode cX12_push 0 = .ok (.aload_n 0, 1) := by decide +kernel
theorem dX12_push_1 : decode cX12_push 1 = .ok (.iconst 3, 1) := by decide +kernel
theorem dX12_push_2 : decode cX12_push 2 = .ok (.invokevirtual 868, 3) := by decide +kernel
theorem dX12_push_5 : decode cX12_push 5 = .ok (.ireturn, 1) := by decide +kernel
set_option maxRecDepth 20000 in
theorem ggX12_pop_X12_call : GoodIn wsX12_pop wsX12_call := goodIn_r _ [5, 6, 7, 8, 9, 10, 11, 12, 13, 14, 15, 16, 17, 4, 18, 19, 20, 21, 22, 23, 24, 25, 26, 27, 28, 29, 30, 31, 32, 33, 34, 35, 36, 37, 38, 39, 40, 41, 42, 43, 44, 45, 46, 47, 48, 49, 50, 51, 52, 53, 54, 55, 56, 57, 58, 59, 60, 61, 62, 63, 64, 65, 66, 67, 68, 69, 70, 71, 72, 73, 74, 75, 76, 77, 78, 79, 80, 81, 82, 83, 84, 85, 86, 87, 88, 89, 90, 91, 92, 93, 94, 95, 96, 97, 98, 99, 100, 101, 102, 103, 104, 105, 106, 107, 108, 109, 110, 111, 112, 113, 114, 115, 116, 117, 118, 119, 120, 121, 122, 123, 124, 125, 126, 127, 128, 129, 130, 131, 132, 133, 134, 135, 136, 137, 138, 139, 140, 141, 142, 143, 144, 145, 146, 147, 148, 149, 150, 151, 152, 153, 154, 155, 156, 157, 158, 159, 160, 161, 162, 163, 164, 165, 166, 167, 168, 169, 170, 171, 172, 173, 174, 175, 176, 177, 178, 179, 180, 181, 182, 183, 184, 185, 186, 187, 188, 189, 190, 191, 192, 193, 194, 195, 196, 197, 198, 199, 200, 201, 202, 203, 204, 205, 206, 207, 208, 209, 210, 211, 212, 213, 214, 215, 216, 217, 218, 219, 220, 221, 222, 223, 224, 225, 226, 227, 228, 229, 230, 231, 232, 233, 234, 235, 236, 237, 238, 239, 240, 241, 242, 243, 244, 245, 246, 247, 248, 249, 250, 251, 252, 253, 254, 255, 256, 257, 258, 259, 260, 261, 262, 263, 264, 265, 266, 267, 268, 269, 270, 271, 272, 273, 274, 275, 276, 277, 278, 279, 280, 281, 282, 283, 284, 285, 286, 287, 288, 289, 290, 291, 292, 293, 294, 295, 296, 297, 298, 299, 300, 301, 302, 303, 304, 305, 306, 307, 308, 309, 310, 311, 312, 313, 314, 315, 316, 317, 318, 319, 320, 321, 322, 323, 324, 325, 326, 327, 328, 329, 330, 331, 332, 333, 334, 335, 336, 337, 338, 339, 340, 341, 342, 343, 344, 345, 346, 347, 348, 349, 350, 351, 352, 353, 354, 355, 356, 357, 358, 359, 360, 361, 362, 363, 364, 365, 366, 367, 368, 369, 370, 371, 372, 373, 374, 375, 376, 377, 378, 379, 380, 381, 382, 383, 384, 385, 386, 387, 388, 389, 390, 391, 392, 393, 394, 395, 396, 397, 398, 399, 400, 401, 402, 403, 404, 405, 406, 407, 408, 409, 410, 411, 412, 413, 414, 415, 416, 417, 418, 419, 420, 421, 422, 423, 424, 425, 426, 427, 428, 429, 430, 431, 432, 433, 434, 435, 436, 437, 438, 439, 440, 441, 442, 443, 444, 445, 446, 447, 448, 449, 450, 451, 452, 453, 454, 455, 456, 457, 458, 459, 460, 461, 462, 463, 464, 465, 466, 467, 468, 469, 470, 471, 472, 473, 474, 475, 476, 477, 478, 479, 480, 481, 482, 483, 484, 485, 486, 487, 488, 489, 490, 491, 492, 493, 494, 495, 496, 497, 498, 499, 500, 501, 502, 503, 504, 505, 506, 507, 508, 509, 510, 511, 512, 513, 514, 515, 516, 517, 518, 519, 520, 521, 522, 523, 524, 525, 526, 527, 528, 529, 530, 531, 532, 533, 534, 535, 536, 537, 538, 539, 540, 541, 542, 543, 544, 545, 546, 547, 548, 549, 550, 551, 552, 553, 554, 555, 556, 557, 558, 559, 560, 561, 562, 563, 564, 565, 566, 567, 568, 569, 570, 571, 572, 573, 574, 575, 576, 577, 578, 579, 580, 581, 582, 583, 584, 585, 586, 587, 588, 589, 590, 591, 592, 593, 594, 595, 596, 597, 598, 599, 600, 601, 602, 603, 604, 605, 606, 607, 608, 609, 610, 611, 612, 613, 614, 615, 616, 617, 618, 619, 620, 621, 622, 623, 624, 625, 626, 627, 628, 629, 630, 631, 632, 633, 634, 635, 636, 637, 638, 639] (by decide +kernel) (by decide +kernel)
set_option maxRecDepth 20000 in
theorem gX12_pop_X12_call : GoodIn wsX12_pop (wsV RX12 868 RX12 yX12_call wsX12_call) := goodIn_app (goodIn_of _ (by decide +kernel)) ggX12_pop_X12_call
theorem dX12_pop_0 : decode cX12_pop 0 = .ok (.aload_n 0, 1) := by decide +kernel
theorem dX12_pop_1 : decode cX12_pop 1 = .ok (.iconst 4, 1) := by decide +kernel
theorem dX12_pop_2 : decode cX12_pop 2 = .ok (.invokevirtual 868, 3) := by decide +kernel
theorem dX12_pop_5 : decode cX12_pop 5 = .ok (.ireturn, 1) := by decide +kernel
theorem dX12_asks_0 : decode cX12_asks 0 = .ok (.aload_n 0, 1) := by decide +kernel
theorem dX12_asks_1 : decode cX12_asks 1 = .ok (.iconst 0, 1) := by decide +kernel
theorem dX12_asks_2 : decode cX12_asks 2 = .ok (.putfield 3, 3) := by decide +kernel
theorem dX12_asks_5 : decode cX12_asks 5 = .ok (.aload_n 0, 1) := by decide +kernel
theorem dX12_asks_6 : decode cX12_asks 6 = .ok (.getfield 488, 3) := by decide +kernel
theorem dX12_asks_9 : decode cX12_asks 9 = .ok (.ifCond .ne 7, 3) := by decide +kernel
theorem dX12_asks_12 : decode cX12_asks 12 = .ok (.iconst 1, 1) := by decide +kernel
theorem dX12_asks_13 : decode cX12_asks 13 = .ok (.goto 4, 3) := by decide +kernel
theorem dX12_asks_17 : decode cX12_asks 17 = .ok (.ireturn, 1) := by decide +kernel
set_option maxRecDepth 20000 in
theorem ggX12_isClaim_X12_in : GoodIn wsX12_isClaim wsX12_in := goodIn_r _ [5] (by decide +kernel) (by decide +kernel)
set_option maxRecDepth 20000 in
theorem gX12_isClaim_X12_in : GoodIn wsX12_isClaim (va_wsS RX12 504 yX12_in wsX12_in) := goodIn_app (goodIn_of _ (by decide +kernel)) ggX12_isClaim_X12_in
theorem dX12_isClaim_0 : decode cX12_isClaim 0 = .ok (.iload_n 1, 1) := by decide +kernel
theorem dX12_isClaim_1 : decode cX12_isClaim 1 = .ok (.i2l, 1) := by decide +kernel
theorem dX12_isClaim_2 : decode cX12_isClaim 2 = .ok (.lconst 0, 1) := by decide +kernel
theorem dX12_isClaim_3 : decode cX12_isClaim 3 = .ok (.aload_n 0, 1) := by decide +kernel
theorem dX12_isClaim_4 : decode cX12_isClaim 4 = .ok (.getfield 818, 3) := by decide +kernel
theorem dX12_isClaim_7 : decode cX12_isClaim 7 = .ok (.iconst 1, 1) := by decide +kernel
theorem dX12_isClaim_8 : decode cX12_isClaim 8 = .ok (.isub, 1) := by decide +kernel
theorem dX12_isClaim_9 : decode cX12_isClaim 9 = .ok (.i2l, 1) := by decide +kernel
theorem dX12_isClaim_10 : decode cX12_isClaim 10 = .ok (.invokestatic 504, 3) := by decide +kernel
theorem dX12_isClaim_13 : decode cX12_isClaim 13 = .ok (.ireturn, 1) := by decide +kernel
set_option maxRecDepth 20000 in
theorem ggX12_begin_X12_takeTape : GoodIn wsX12_begin wsX12_takeTape := goodIn_r _ [9, 10, 11, 12, 13, 104, 105, 106, 107, 108, 109, 110, 111, 112, 113, 114, 115, 116, 117, 118, 119, 120, 121, 122, 123, 124, 125, 126, 127, 128, 129, 130, 131, 132, 133, 134, 135, 136, 137, 138, 139, 140, 141, 142, 143, 144, 145, 146, 147, 148, 149, 150, 151, 152, 153, 154, 155, 156, 157, 158, 159, 160, 161, 162, 163, 164, 165, 166, 167, 168, 169, 170, 171, 172, 173, 174, 175, 176, 177, 178, 179, 180, 181, 182, 183, 184, 185, 186, 187, 188, 189, 190, 191, 192, 193, 194, 195, 196, 197, 198, 199, 200, 201, 202, 203, 204, 205, 206, 207, 208, 209, 210, 211, 212, 213, 214, 215, 216, 217, 218, 219, 220, 221, 222, 223, 224, 225, 226, 227, 228, 229, 230, 231, 232, 233, 234, 235, 236, 237, 238, 239, 240, 241, 242, 243, 244, 245, 246, 247, 248, 249, 250, 251, 252, 253, 254, 255, 256, 257, 258, 259, 260, 261, 262, 263, 264, 265, 266, 267, 268, 269, 270, 271, 272, 273, 274, 275, 276, 277, 278, 279, 280, 281, 282, 283, 284, 285, 286, 287, 288, 289, 290, 291, 292, 293, 294, 295, 296, 297, 298] (by decide +kernel) (by decide +kernel)
set_option maxRecDepth 20000 in
theorem gX12_begin_X12_takeTape : GoodIn wsX12_begin (wsV RX12 491 RX12 yX12_takeTape wsX12_takeTape) := goodIn_app (goodIn_of _ (by decide +kernel)) ggX12_begin_X12_takeTape
set_option maxRecDepth 20000 in
theorem ggX12_begin_X12_scan : GoodIn wsX12_begin wsX12_scan := goodIn_r _ [17, 18, 19, 20, 21, 22, 23, 24, 11, 25, 26, 27, 28, 8, 29, 12, 30, 31, 32, 33, 34, 35, 36, 37, 38, 39, 40, 41, 42, 43, 44, 45, 46, 47, 48, 49, 50, 51, 52, 53, 54, 55, 56, 57, 58, 59, 60, 61, 62, 63, 64, 65, 66, 67, 68, 69, 70, 71, 72, 73, 74, 75, 76, 77, 78, 79, 80, 81, 82, 83, 84, 85, 86, 87, 88, 89, 90, 91, 92, 93, 94, 95, 96, 97, 98, 99, 100, 101, 102, 103, 104, 105, 106, 107, 108, 109, 110, 111, 112, 113, 114, 115, 116, 117, 118, 119, 120, 121, 122, 123, 124, 125, 126, 127, 128, 129, 130, 131, 132, 133, 134, 135, 136, 137, 138, 139, 140, 141, 142, 143, 144, 145, 146, 147, 148, 149, 150, 151, 152, 153, 154, 155, 156, 157, 158, 159, 160, 161, 162, 163, 164, 165, 166, 167, 168, 169, 170, 171, 172, 173, 174, 175, 176, 177, 178, 179, 180, 181, 182, 183, 184, 185, 186, 187, 188, 189, 190, 191, 192, 193, 194, 195, 196, 197, 198, 199, 200, 201, 202, 203, 204, 205, 206, 207, 208, 209, 210, 211, 212, 213, 214, 215, 216, 217, 218, 219, 220, 221, 222, 223, 224, 225, 226, 227, 228, 229, 230, 231, 232, 233, 234, 235, 236, 237, 238, 239, 240, 241, 242, 243, 244, 245, 246, 247, 248, 249, 250, 251, 252, 253, 254, 255, 256, 257, 258, 259, 260, 261, 262, 263, 264, 265, 266, 267, 268, 269, 270, 271, 272, 273, 274, 275, 276, 277, 278, 279, 280, 281, 282, 283, 284, 285, 286, 287, 288, 289, 290, 291, 292, 293, 294, 295, 296, 297, 298] (by decide +kernel) (by decide +kernel)
set_option maxRecDepth 20000 in
theorem gX12_begin_X12_scan : GoodIn wsX12_begin (wsV RX12 848 RX12 yX12_scan wsX12_scan) := goodIn_app (goodIn_of _ (by decide +kernel)) ggX12_begin_X12_scan
theorem dX12_begin_0 : decode cX12_begin 0 = .ok (.aload_n 0, 1) := by decide +kernel
theorem dX12_begin_1 : decode cX12_begin 1 = .ok (.invokevirtual 491, 3) := by decide +kernel
theorem dX12_begin_4 : decode cX12_begin 4 = .ok (.aload_n 0, 1) := by decide +kernel
theorem dX12_begin_5 : decode cX12_begin 5 = .ok (.aload_n 0, 1) := by decide +kernel
theorem dX12_begin_6 : decode cX12_begin 6 = .ok (.getfield 815, 3) := by decide +kernel
theorem dX12_begin_9 : decode cX12_begin 9 = .ok (.putfield 620, 3) := by decide +kernel
theorem dX12_begin_12 : decode cX12_begin 12 = .ok (.aload_n 0, 1) := by decide +kernel
theorem dX12_begin_13 : decode cX12_begin 13 = .ok (.aload_n 0, 1) := by decide +kernel
theorem dX12_begin_14 : decode cX12_begin 14 = .ok (.getfield 818, 3) := by decide +kernel
theorem dX12_begin_17 : decode cX12_begin 17 = .ok (.putfield 627, 3) := by decide +kernel
theorem dX12_begin_20 : decode cX12_begin 20 = .ok (.aload_n 0, 1) := by decide +kernel
theorem dX12_begin_21 : decode cX12_begin 21 = .ok (.invokevirtual 848, 3) := by decide +kernel
theorem dX12_begin_24 : decode cX12_begin 24 = .ok (.return_, 1) := by decide +kernel
set_option maxRecDepth 20000 in
theorem ggX12_find_X12_asks : GoodIn wsX12_find wsX12_asks := goodIn_r _ [8, 9, 10, 144, 145, 146, 147, 148, 149, 150, 151, 152, 153, 154, 155, 156, 157, 158, 159, 160, 161, 162, 163, 164, 165, 166, 167, 168, 169, 170, 171, 172, 173, 174, 175, 176, 177, 178, 179, 180, 181, 182, 183, 184, 185, 186, 187, 188, 189, 190, 191, 192, 193, 194, 195, 196, 197, 198, 199, 200, 201, 202, 203, 204, 205, 206, 207, 208, 209, 210, 211, 212, 213, 214, 215, 216, 217, 218, 219, 220, 221, 222, 223, 224, 225, 226, 227, 228, 229, 230, 231, 232, 233, 234, 235, 236, 237, 238, 239, 240, 241, 242, 243, 244, 245, 246, 247, 248, 249, 250, 251, 252, 253, 254, 255, 256, 257, 258, 259, 260, 261, 262, 263, 264, 265, 266, 267, 268, 269, 270, 271, 272, 273, 274, 275, 276, 277, 278, 279, 280, 281, 282, 283, 284, 285, 286, 287, 288, 289, 290, 291, 292, 293, 294, 295, 296, 297, 298, 299, 300, 301, 302, 303, 304, 305, 306, 307, 308, 309, 310, 311, 312, 313, 314, 315, 316, 317, 318, 319, 320, 321, 322, 323, 324, 325, 326, 327, 328, 329, 330, 331, 332, 333, 334, 335, 336, 337, 338] (by decide +kernel) (by decide +kernel)
set_option maxRecDepth 20000 in
theorem gX12_find_X12_asks : GoodIn wsX12_find (wsV RX12 871 RX12 yX12_asks wsX12_asks) := goodIn_app (goodIn_of _ (by decide +kernel)) ggX12_find_X12_asks
set_option maxRecDepth 20000 in
theorem ggX12_find_X12_begin : GoodIn wsX12_find wsX12_begin := goodIn_r _ [14, 15, 16, 17, 18, 19, 20, 21, 7, 22, 23, 24, 25, 26, 27, 28, 29, 30, 31, 3, 2, 32, 33, 1, 34, 35, 36, 37, 38, 39, 40, 41, 42, 43, 44, 45, 46, 47, 48, 49, 50, 51, 52, 53, 54, 55, 56, 57, 58, 59, 60, 61, 62, 63, 64, 65, 66, 67, 68, 69, 70, 71, 72, 73, 74, 75, 76, 77, 78, 79, 80, 81, 82, 83, 84, 85, 86, 87, 88, 89, 90, 91, 92, 93, 94, 95, 96, 97, 98, 99, 100, 101, 102, 103, 104, 105, 106, 107, 108, 109, 110, 111, 112, 113, 144, 145, 146, 147, 148, 149, 150, 151, 152, 153, 154, 155, 156, 157, 158, 159, 160, 161, 162, 163, 164, 165, 166, 167, 168, 169, 170, 171, 172, 173, 174, 175, 176, 177, 178, 179, 180, 181, 182, 183, 184, 185, 186, 187, 188, 189, 190, 191, 192, 193, 194, 195, 196, 197, 198, 199, 200, 201, 202, 203, 204, 205, 206, 207, 208, 209, 210, 211, 212, 213, 214, 215, 216, 217, 218, 219, 220, 221, 222, 223, 224, 225, 226, 227, 228, 229, 230, 231, 232, 233, 234, 235, 236, 237, 238, 239, 240, 241, 242, 243, 244, 245, 246, 247, 248, 249, 250, 251, 252, 253, 254, 255, 256, 257, 258, 259, 260, 261, 262, 263, 264, 265, 266, 267, 268, 269, 270, 271, 272, 273, 274, 275, 276, 277, 278, 279, 280, 281, 282, 283, 284, 285, 286, 287, 288, 289, 290, 291, 292, 293, 294, 295, 296, 297, 298, 299, 300, 301, 302, 303, 304, 305, 306, 307, 308, 309, 310, 311, 312, 313, 314, 315, 316, 317, 318, 319, 320, 321, 322, 323, 324, 325, 326, 327, 328, 329, 330, 331, 332, 333, 334, 335, 336, 337, 338] (by decide +kernel) (by decide +kernel)
set_option maxRecDepth 20000 in
theorem gX12_find_X12_begin : GoodIn wsX12_find (wsV RX12 874 RX12 yX12_begin wsX12_begin) := goodIn_app (goodIn_of _ (by decide +kernel)) ggX12_find_X12_begin
set_option maxRecDepth 20000 in
theorem ggX12_find_X12_cannot : GoodIn wsX12_find wsX12_cannot := goodIn_r _ [127, 1, 2, 128, 129, 130, 7, 131, 3, 132, 32, 133, 144, 145, 146, 147, 148, 149, 150, 151, 152, 153, 154, 155, 156, 157, 158, 159, 160, 161, 162, 163, 164, 165, 166, 167, 168, 169, 170, 171, 172, 173, 174, 175, 176, 177, 178, 179, 180, 181, 182, 183, 184, 185, 186, 187, 188, 189, 190, 191, 192, 193, 194, 195, 196, 197, 198, 199, 200, 201, 202, 203, 204, 205, 206, 207, 208, 209, 210, 211, 212, 213, 214, 215, 216, 217, 218, 219, 220, 221, 222, 223, 224, 225, 226, 227, 228, 229, 230, 231, 232, 233, 234, 235, 236, 237, 238, 239, 240, 241, 242, 243, 244, 245, 246, 247, 248, 249, 250, 251, 252, 253, 254, 255, 256, 257, 258, 259, 260, 261, 262, 263, 264, 265, 266, 267, 268, 269, 270, 271, 272, 273, 274, 275, 276, 277, 278, 279, 280, 281, 282, 283, 284, 285, 286, 287, 288, 289, 290, 291, 292, 293, 294, 295, 296, 297, 298, 299, 300, 301, 302, 303, 304, 305, 306, 307, 308, 309, 310, 311, 312, 313, 314, 315, 316, 317, 318, 319, 320, 321, 322, 323, 324, 325, 326, 327, 328, 329, 330, 331, 332, 333, 334, 335, 336, 337, 338] (by decide +kernel) (by decide +kernel)
set_option maxRecDepth 20000 in
theorem gX12_find_X12_cannot : GoodIn wsX12_find (wsV RX12 698 RX12 yX12_cannot wsX12_cannot) := goodIn_app (goodIn_of _ (by decide +kernel)) ggX12_find_X12_cannot
set_option maxRecDepth 20000 in
theorem ggX12_find_X12_told : GoodIn wsX12_find wsX12_told := goodIn_r _ [141, 142, 143, 132, 133, 144, 145, 146, 147, 148, 149, 150, 151, 152, 153, 154, 155, 156, 157, 158, 159, 160, 161, 162, 163, 164, 165, 166, 167, 168, 169, 170, 171, 172, 173, 174, 175, 176, 177, 178, 179, 180, 181, 182, 183, 184, 185, 186, 187, 188, 189, 190, 191, 192, 193, 194, 195, 196, 197, 198, 199, 200, 201, 202, 203, 204, 205, 206, 207, 208, 209, 210, 211, 212, 213, 214, 215, 216, 217, 218, 219, 220, 221, 222, 223, 224, 225, 226, 227, 228, 229, 230, 231, 232, 233, 234, 235, 236, 237, 238, 239, 240, 241, 242, 243, 244, 245, 246, 247, 248, 249, 250, 251, 252, 253, 254, 255, 256, 257, 258, 259, 260, 261, 262, 263, 264, 265, 266, 267, 268, 269, 270, 271, 272, 273, 274, 275, 276, 277, 278, 279, 280, 281, 282, 283, 284, 285, 286, 287, 288, 289, 290, 291, 292, 293, 294, 295, 296, 297, 298, 299, 300, 301, 302, 303, 304, 305, 306, 307, 308, 309, 310, 311, 312, 313, 314, 315, 316, 317, 318, 319, 320, 321, 322, 323, 324, 325, 326, 327, 328, 329, 330, 331, 332, 333, 334, 335, 336, 337, 338] (by decide +kernel) (by decide +kernel)
set_option maxRecDepth 20000 in
theorem gX12_find_X12_told : GoodIn wsX12_find (wsV RX12 860 RX12 yX12_told wsX12_told) := goodIn_app (goodIn_of _ (by decide +kernel)) ggX12_find_X12_told
theorem dX12_find_0 : decode cX12_find 0 = .ok (.aload_n 0, 1) := by decide +kernel
theorem dX12_find_1 : decode cX12_find 1 = .ok (.invokevirtual 871, 3) := by decide +kernel
theorem dX12_find_4 : decode cX12_find 4 = .ok (.ifCond .ne 6, 3) := by decide +kernel
theorem dX12_find_10 : decode cX12_find 10 = .ok (.aload_n 0, 1) := by decide +kernel
theorem dX12_find_11 : decode cX12_find 11 = .ok (.invokevirtual 874, 3) := by decide +kernel
theorem dX12_find_14 : decode cX12_find 14 = .ok (.iconst (-1), 1) := by decide +kernel
theorem dX12_find_15 : decode cX12_find 15 = .ok (.istore_n 1, 1) := by decide +kernel
theorem dX12_find_16 : decode cX12_find 16 = .ok (.aload_n 0, 1) := by decide +kernel
theorem dX12_find_17 : decode cX12_find 17 = .ok (.getfield 87, 3) := by decide +kernel
theorem dX12_find_20 : decode cX12_find 20 = .ok (.aload_n 0, 1) := by decide +kernel
theorem dX12_find_21 : decode cX12_find 21 = .ok (.getfield 597, 3) := by decide +kernel
theorem dX12_find_24 : decode cX12_find 24 = .ok (.iaload, 1) := by decide +kernel
theorem dX12_find_25 : decode cX12_find 25 = .ok (.iconst 3, 1) := by decide +kernel
theorem dX12_find_26 : decode cX12_find 26 = .ok (.if_icmp .ne 15, 3) := by decide +kernel
theorem dX12_find_41 : decode cX12_find 41 = .ok (.aload_n 0, 1) := by decide +kernel
theorem dX12_find_42 : decode cX12_find 42 = .ok (.invokevirtual 698, 3) := by decide +kernel
theorem dX12_find_45 : decode cX12_find 45 = .ok (.goto 36, 3) := by decide +kernel
theorem dX12_find_81 : decode cX12_find 81 = .ok (.aload_n 0, 1) := by decide +kernel
theorem dX12_find_82 : decode cX12_find 82 = .ok (.getfield 562, 3) := by decide +kernel
theorem dX12_find_85 : decode cX12_find 85 = .ok (.ifCond .ne 19, 3) := by decide +kernel
theorem dX12_find_104 : decode cX12_find 104 = .ok (.aload_n 0, 1) := by decide +kernel
theorem dX12_find_105 : decode cX12_find 105 = .ok (.getfield 562, 3) := by decide +kernel
theorem dX12_find_108 : decode cX12_find 108 = .ok (.ifCond .eq 10, 3) := by decide +kernel
theorem dX12_find_111 : decode cX12_find 111 = .ok (.aload_n 0, 1) := by decide +kernel
theorem dX12_find_112 : decode cX12_find 112 = .ok (.invokevirtual 860, 3) := by decide +kernel
theorem dX12_find_115 : decode cX12_find 115 = .ok (.goto 4, 3) := by decide +kernel
theorem dX12_find_119 : decode cX12_find 119 = .ok (.ireturn, 1) := by decide +kernel
set_option maxRecDepth 20000 in
theorem ggX12_about_X12_asks : GoodIn wsX12_about wsX12_asks := goodIn_r _ [10, 11, 12, 35, 36, 37, 38, 39, 40, 41, 42, 43, 44, 45, 46, 47, 48, 49, 50, 51, 52, 53, 54, 55, 56, 57, 58, 59, 60, 61, 62, 63, 64, 65, 66, 67, 68, 69, 70, 71, 72, 73, 74, 75, 76, 77, 78, 79, 80, 81, 82, 83, 84, 85, 86, 87, 88, 89, 90, 91, 92, 93, 94, 95, 96, 97, 98, 99, 100, 101, 102, 103, 104, 105, 106, 107, 108, 109, 110, 111, 112, 113, 114, 115, 116, 117, 118, 119, 120, 121, 122, 123, 124, 125, 126, 127, 128, 129, 130, 131, 132, 133, 134, 135, 136, 137, 138, 139, 140, 141, 142, 143, 144, 145, 146, 147, 148, 149, 150, 151, 152, 153, 154, 155, 156, 157, 158, 159, 160, 161, 162, 163, 164, 165, 166, 167, 168, 169, 170, 171, 172, 173, 174, 175, 176, 177, 178, 179, 180, 181, 182, 183, 184, 185, 186, 187, 188, 189, 190, 191, 192, 193, 194, 195, 196, 197, 198, 199, 200, 201, 202, 203, 204, 205, 206, 207, 208, 209, 210, 211, 212, 213, 214, 215, 216, 217, 218, 219, 220, 221, 222, 223, 224, 225, 226, 227, 228, 229] (by decide +kernel) (by decide +kernel)
set_option maxRecDepth 20000 in
theorem gX12_about_X12_asks : GoodIn wsX12_about (wsV RX12 871 RX12 yX12_asks wsX12_asks) := goodIn_app (goodIn_of _ (by decide +kernel)) ggX12_about_X12_asks
set_option maxRecDepth 20000 in
theorem ggX12_about_X12_isClaim : GoodIn wsX12_about wsX12_isClaim := goodIn_r _ [16, 17, 18, 19, 9, 20, 35, 36, 37, 38, 39, 40, 41, 42, 43, 44, 45, 46, 47, 48, 49, 50, 51, 52, 53, 54, 55, 56, 57, 58, 59, 60, 61, 62, 63, 64, 65, 66, 67, 68, 69, 70, 71, 72, 73, 74, 75, 76, 77, 78, 79, 80, 81, 82, 83, 84, 85, 86, 87, 88, 89, 90, 91, 92, 93, 94, 95, 96, 97, 98, 99, 100, 101, 102, 103, 104, 105, 106, 107, 108, 109, 110, 111, 112, 113, 114, 115, 116, 117, 118, 119, 120, 121, 122, 123, 124, 125, 126, 127, 128, 129, 130, 131, 132, 133, 134, 135, 136, 137, 138, 139, 140, 141, 142, 143, 144, 145, 146, 147, 148, 149, 150, 151, 152, 153, 154, 155, 156, 157, 158, 159, 160, 161, 162, 163, 164, 165, 166, 167, 168, 169, 170, 171, 172, 173, 174, 175, 176, 177, 178, 179, 180, 181, 182, 183, 184, 185, 186, 187, 188, 189, 190, 191, 192, 193, 194, 195, 196, 197, 198, 199, 200, 201, 202, 203, 204, 205, 206, 207, 208, 209, 210, 211, 212, 213, 214, 215, 216, 217, 218, 219, 220, 221, 222, 223, 224, 225, 226, 227, 228, 229] (by decide +kernel) (by decide +kernel)
set_option maxRecDepth 20000 in
theorem gX12_about_X12_isClaim : GoodIn wsX12_about (wsV RX12 877 RX12 yX12_isClaim wsX12_isClaim) := goodIn_app (goodIn_of _ (by decide +kernel)) ggX12_about_X12_isClaim
theorem dX12_about_0 : decode cX12_about 0 = .ok (.aload_n 0, 1) := by decide +kernel
theorem dX12_about_1 : decode cX12_about 1 = .ok (.invokevirtual 871, 3) := by decide +kernel
theorem dX12_about_4 : decode cX12_about 4 = .ok (.ifCond .ne 6, 3) := by decide +kernel
theorem dX12_about_10 : decode cX12_about 10 = .ok (.aload_n 0, 1) := by decide +kernel
theorem dX12_about_11 : decode cX12_about 11 = .ok (.iload_n 1, 1) := by decide +kernel
theorem dX12_about_12 : decode cX12_about 12 = .ok (.invokevirtual 877, 3) := by decide +kernel
theorem dX12_about_15 : decode cX12_about 15 = .ok (.ifCond .ne 6, 3) := by decide +kernel
theorem dX12_about_18 : decode cX12_about 18 = .ok (.bipush (-101), 2) := by decide +kernel
theorem dX12_about_20 : decode cX12_about 20 = .ok (.ireturn, 1) := by decide +kernel
set_option maxRecDepth 20000 in
theorem ggX12_atom_X12_asks : GoodIn wsX12_atom wsX12_asks := goodIn_r _ [10, 11, 12, 21, 22, 23, 24, 25, 26, 27, 28, 29, 30, 31, 32, 33, 34, 35, 36, 37, 38, 39, 40, 41, 42, 43, 44, 45, 46, 47, 48, 49, 50, 51, 52, 53, 54, 55, 56, 57, 58, 59, 60, 61, 62, 63, 64, 65, 66, 67, 68, 69, 70, 71, 72, 73, 74, 75, 76, 77, 78, 79, 80, 81, 82, 83, 84, 85, 86, 87, 88, 89, 90, 91, 92, 93, 94, 95, 96, 97, 98, 99, 100, 101, 102, 103, 104, 105, 106, 107, 108, 109, 110, 111, 112, 113, 114, 115, 116, 117, 118, 119, 120, 121, 122, 123, 124, 125, 126, 127, 128, 129, 130, 131, 132, 133, 134, 135, 136, 137, 138, 139, 140, 141, 142, 143, 144, 145, 146, 147, 148, 149, 150, 151, 152, 153, 154, 155, 156, 157, 158, 159, 160, 161, 162, 163, 164, 165, 166, 167, 168, 169, 170, 171, 172, 173, 174, 175, 176, 177, 178, 179, 180, 181, 182, 183, 184, 185, 186, 187, 188, 189, 190, 191, 192, 193, 194, 195, 196, 197, 198, 199, 200, 201, 202, 203, 204, 205, 206, 207, 208, 209, 210, 211, 212, 213, 214, 215] (by decide +kernel) (by decide +kernel)
set_option maxRecDepth 20000 in
theorem gX12_atom_X12_asks : GoodIn wsX12_atom (wsV RX12 871 RX12 yX12_asks wsX12_asks) := goodIn_app (goodIn_of _ (by decide +kernel)) ggX12_atom_X12_asks
set_option maxRecDepth 20000 in
theorem ggX12_atom_X12_isClaim : GoodIn wsX12_atom wsX12_isClaim := goodIn_r _ [16, 17, 18, 19, 9, 20, 21, 22, 23, 24, 25, 26, 27, 28, 29, 30, 31, 32, 33, 34, 35, 36, 37, 38, 39, 40, 41, 42, 43, 44, 45, 46, 47, 48, 49, 50, 51, 52, 53, 54, 55, 56, 57, 58, 59, 60, 61, 62, 63, 64, 65, 66, 67, 68, 69, 70, 71, 72, 73, 74, 75, 76, 77, 78, 79, 80, 81, 82, 83, 84, 85, 86, 87, 88, 89, 90, 91, 92, 93, 94, 95, 96, 97, 98, 99, 100, 101, 102, 103, 104, 105, 106, 107, 108, 109, 110, 111, 112, 113, 114, 115, 116, 117, 118, 119, 120, 121, 122, 123, 124, 125, 126, 127, 128, 129, 130, 131, 132, 133, 134, 135, 136, 137, 138, 139, 140, 141, 142, 143, 144, 145, 146, 147, 148, 149, 150, 151, 152, 153, 154, 155, 156, 157, 158, 159, 160, 161, 162, 163, 164, 165, 166, 167, 168, 169, 170, 171, 172, 173, 174, 175, 176, 177, 178, 179, 180, 181, 182, 183, 184, 185, 186, 187, 188, 189, 190, 191, 192, 193, 194, 195, 196, 197, 198, 199, 200, 201, 202, 203, 204, 205, 206, 207, 208, 209, 210, 211, 212, 213, 214, 215] (by decide +kernel) (by decide +kernel)
set_option maxRecDepth 20000 in
theorem gX12_atom_X12_isClaim : GoodIn wsX12_atom (wsV RX12 877 RX12 yX12_isClaim wsX12_isClaim) := goodIn_app (goodIn_of _ (by decide +kernel)) ggX12_atom_X12_isClaim
theorem dX12_atom_0 : decode cX12_atom 0 = .ok (.aload_n 0, 1) := by decide +kernel
theorem dX12_atom_1 : decode cX12_atom 1 = .ok (.invokevirtual 871, 3) := by decide +kernel
theorem dX12_atom_4 : decode cX12_atom 4 = .ok (.ifCond .ne 6, 3) := by decide +kernel
theorem dX12_atom_10 : decode cX12_atom 10 = .ok (.aload_n 0, 1) := by decide +kernel
theorem dX12_atom_11 : decode cX12_atom 11 = .ok (.iload_n 1, 1) := by decide +kernel
theorem dX12_atom_12 : decode cX12_atom 12 = .ok (.invokevirtual 877, 3) := by decide +kernel
theorem dX12_atom_15 : decode cX12_atom 15 = .ok (.ifCond .ne 6, 3) := by decide +kernel
theorem dX12_atom_18 : decode cX12_atom 18 = .ok (.bipush (-101), 2) := by decide +kernel
theorem dX12_atom_20 : decode cX12_atom 20 = .ok (.ireturn, 1) := by decide +kernel
set_option maxRecDepth 20000 in
theorem ggX12_print_X12_asks : GoodIn wsX12_print wsX12_asks := goodIn_r _ [15, 16, 17, 119, 120, 121, 122, 123, 124, 125, 126, 127, 128, 129, 130, 131, 132, 133, 134, 135, 136, 137, 138, 139, 140, 141, 142, 143, 144, 145, 146, 147, 148, 149, 150, 151, 152, 153, 154, 155, 156, 157, 158, 159, 160, 161, 162, 163, 164, 165, 166, 167, 168, 169, 170, 171, 172, 173, 174, 175, 176, 177, 178, 179, 180, 181, 182, 183, 184, 185, 186, 187, 188, 189, 190, 191, 192, 193, 194, 195, 196, 197, 198, 199, 200, 201, 202, 203, 204, 205, 206, 207, 208, 209, 210, 211, 212, 213, 214, 215, 216, 217, 218, 219, 220, 221, 222, 223, 224, 225, 226, 227, 228, 229, 230, 231, 232, 233, 234, 235, 236, 237, 238, 239, 240, 241, 242, 243, 244, 245, 246, 247, 248, 249, 250, 251, 252, 253, 254, 255, 256, 257, 258, 259, 260, 261, 262, 263, 264, 265, 266, 267, 268, 269, 270, 271, 272, 273, 274, 275, 276, 277, 278, 279, 280, 281, 282, 283, 284, 285, 286, 287, 288, 289, 290, 291, 292, 293, 294, 295, 296, 297, 298, 299, 300, 301, 302, 303, 304, 305, 306, 307, 308, 309, 310, 311, 312, 313] (by decide +kernel) (by decide +kernel)
set_option maxRecDepth 20000 in
theorem gX12_print_X12_asks : GoodIn wsX12_print (wsV RX12 871 RX12 yX12_asks wsX12_asks) := goodIn_app (goodIn_of _ (by decide +kernel)) ggX12_print_X12_asks
set_option maxRecDepth 20000 in
theorem ggX12_print_X12_isClaim : GoodIn wsX12_print wsX12_isClaim := goodIn_r _ [21, 22, 23, 24, 14, 25, 119, 120, 121, 122, 123, 124, 125, 126, 127, 128, 129, 130, 131, 132, 133, 134, 135, 136, 137, 138, 139, 140, 141, 142, 143, 144, 145, 146, 147, 148, 149, 150, 151, 152, 153, 154, 155, 156, 157, 158, 159, 160, 161, 162, 163, 164, 165, 166, 167, 168, 169, 170, 171, 172, 173, 174, 175, 176, 177, 178, 179, 180, 181, 182, 183, 184, 185, 186, 187, 188, 189, 190, 191, 192, 193, 194, 195, 196, 197, 198, 199, 200, 201, 202, 203, 204, 205, 206, 207, 208, 209, 210, 211, 212, 213, 214, 215, 216, 217, 218, 219, 220, 221, 222, 223, 224, 225, 226, 227, 228, 229, 230, 231, 232, 233, 234, 235, 236, 237, 238, 239, 240, 241, 242, 243, 244, 245, 246, 247, 248, 249, 250, 251, 252, 253, 254, 255, 256, 257, 258, 259, 260, 261, 262, 263, 264, 265, 266, 267, 268, 269, 270, 271, 272, 273, 274, 275, 276, 277, 278, 279, 280, 281, 282, 283, 284, 285, 286, 287, 288, 289, 290, 291, 292, 293, 294, 295, 296, 297, 298, 299, 300, 301, 302, 303, 304, 305, 306, 307, 308, 309, 310, 311, 312, 313] (by decide +kernel) (by decide +kernel)
set_option maxRecDepth 20000 in
theorem gX12_print_X12_isClaim : GoodIn wsX12_print (wsV RX12 877 RX12 yX12_isClaim wsX12_isClaim) := goodIn_app (goodIn_of _ (by decide +kernel)) ggX12_print_X12_isClaim
theorem dX12_print_0 : decode cX12_print 0 = .ok (.aload_n 0, 1) := by decide +kernel
theorem dX12_print_1 : decode cX12_print 1 = .ok (.invokevirtual 871, 3) := by decide +kernel
theorem dX12_print_4 : decode cX12_print 4 = .ok (.ifCond .ne 6, 3) := by decide +kernel
theorem dX12_print_10 : decode cX12_print 10 = .ok (.aload_n 0, 1) := by decide +kernel
theorem dX12_print_11 : decode cX12_print 11 = .ok (.iload_n 1, 1) := by decide +kernel
theorem dX12_print_12 : decode cX12_print 12 = .ok (.invokevirtual 877, 3) := by decide +kernel
theorem dX12_print_15 : decode cX12_print 15 = .ok (.ifCond .ne 6, 3) := by decide +kernel
theorem dX12_print_18 : decode cX12_print 18 = .ok (.bipush (-101), 2) := by decide +kernel
theorem dX12_print_20 : decode cX12_print 20 = .ok (.ireturn, 1) := by decide +kernel
set_option maxHeartbeats 400000000 in
set_option maxRecDepth 100000 in
theorem c_X12_no_0 (l : Launch) (E : kE) (D : va_G) (cI cJ cB cZ : ClassId) (h0 : Nat) (f0 : List Value) (e0 : f0[14]? = some (.int 0)) : kI l E D (kT cI cJ cB cZ) yX12_no wsX12_no ({ frames := 0, cells := 0, slots := 0, locals := 0 }) [.ref h0, .int (-101)] [(h0, .inr (12, f0))] ((-101)) [(h0, .inr (12, (f0.set 14 (.int 1))))] 0 0 := by
  intro sz
  refine Met.ofW (cc := cX12_no) (maxL := 2) (ret := (some .int)) (by decide) rfl ?_
  intro p e s m args below meth c s₁ B hml hv
  obtain ⟨rfl, hsz, hP, hK, hD0, hN, hX⟩ := hv
  have hx := B.exec
  have hb := B.bytes
  have hr := B.returns
  have hts := atoms_spec (ws := wsX12_no) B.pre
  have hown : s.vm.findClass RX12 = some m.cls := findClass_of_methodNamed B.named
  have hlocks := B.notSynchronized
  have hin12 : ∀ w ∈ wsX120, w ∈ wsX12_no := (fun w h => (List.mem_cons_of_mem _ (List.mem_append_right _ h)))
  subst hsz
  have hD := hD0.self (sz := s.heap.size)
  have hAE := k_AE hD0 hX
  generalize hAe : va_A [(h0, .inr (12, f0))] s.heap.size = A at hD hAE ⊢
  have hA : ∀ q : Nat, s.heap.size ≤ q → A q := fun q h => by rw [← hAe]; exact Or.inr h
  have hS : va_S A s.heap s.heap [] := va_S.rf
  have hP : va_P D vwCl [(h0, .inr (12, f0))] s.heap := hP
  have hl := lv_entry ([.ref h0, .int (-101)] : List Value) (n := 2) (Nat.le_of_ble_eq_true rfl)
  rw [lg_entry_eq]
  generalize (lg_sl ([.ref h0, .int (-101)]) ++ List.replicate (2 - (lg_sl ([.ref h0, .int (-101)])).length) Slot.unset).toArray = ls at hl ⊢
  have hl : lv_has ls 2 [(0, .ref h0), (1, .int (-101))] := hl
  refine lv_aload_n hx hb dX12_no_0 rfl (lv_at hl 0 rfl) ?_
  refine lv_iconst (v := 1) hx hb dX12_no_1 (by decide) ?_
  refine va_put (D := D) (ref := "IntegerHouseModel") (ci := 12) (v := .int 1) (ty := .boolean) (C := RX12) (T := TX12) (N := 195) hx hb hts hin12 tyX12 tyX12_ok nmX12 hown hK hP hD hS 0 rfl rfl 14 (by decide) (hts (.fieldLink RX12 462 "IntegerHouseModel" "refused" "Z") (List.mem_cons_of_mem _ (List.mem_append_left _ (List.mem_of_getElem? (i := 0) rfl)))) (fun _ h9 => h9) rfl (by decide +kernel) rfl rfl (k_len e0) dX12_no_2 (fun H locs hP hD hS => ?_)
  have hP : va_P D vwCl [(h0, .inr (12, (f0.set 14 (.int 1))))] H := hP
  have hD : va_D A [(h0, .inr (12, (f0.set 14 (.int 1))))] := hD
  refine lv_iload_n hx hb dX12_no_5 rfl (lv_at hl 1 rfl) ?_
  exact W.iret (v := (-101)) hx hb hr (fun t ht hW => ⟨⟨(-101), (), rfl, rfl, kB_mk ht hW hP hK hD⟩, hS.F ht⟩) hS.2.2 dX12_no_6
set_option maxHeartbeats 400000000 in
set_option maxRecDepth 100000 in
theorem c_X12_turn_0 (l : Launch) (E : kE) (D : va_G) (cI cJ cB cZ : ClassId) (h0 : Nat) (f0 : List Value) (h1 : Nat) (g0 : Nat → Int32) (x0 : Int32) (e0 : f0[10]? = some (.ref h1)) (e1 : g0 0 = x0) (e2 : f0[33]? = some (.int 0)) (e3 : ¬ ((x0 : Int32) < 0)) (e4 : f0[14]? = some (.int 0)) : kI l E D (kT cI cJ cB cZ) yX12_turn wsX12_turn ({ frames := 1, cells := 0, slots := 0, locals := 25 }) [.ref h0] [(h0, .inr (12, f0)), (h1, .inl (cI, 2, .inl g0))] ((-101)) [(h0, .inr (12, (f0.set 14 (.int 1)))), (h1, .inl (cI, 2, .inl g0))] 0 0 := by
  intro sz
  refine Met.ofW (cc := cX12_turn) (maxL := 4) (ret := (some .int)) (by decide) rfl ?_
  intro p e s m args below meth c s₁ B hml hv
  obtain ⟨rfl, hsz, hP, hK, hD0, hN, hX⟩ := hv
  have hx := B.exec
  have hb := B.bytes
  have hr := B.returns
  have hts := atoms_spec (ws := wsX12_turn) B.pre
  have hown : s.vm.findClass RX12 = some m.cls := findClass_of_methodNamed B.named
  have hlocks := B.notSynchronized
  have hin12 : ∀ w ∈ wsX120, w ∈ wsX12_turn := (fun w h => (List.mem_cons_of_mem _ (List.mem_append_right _ h)))
  subst hsz
  have hD := hD0.self (sz := s.heap.size)
  have hAE := k_AE hD0 hX
  generalize hAe : va_A [(h0, .inr (12, f0)), (h1, .inl (cI, 2, .inl g0))] s.heap.size = A at hD hAE ⊢
  have hA : ∀ q : Nat, s.heap.size ≤ q → A q := fun q h => by rw [← hAe]; exact Or.inr h
  have hS : va_S A s.heap s.heap [] := va_S.rf
  have hP : va_P D vwCl [(h0, .inr (12, f0)), (h1, .inl (cI, 2, .inl g0))] s.heap := hP
  have hl := lv_entry ([.ref h0] : List Value) (n := 4) (Nat.le_of_ble_eq_true rfl)
  rw [lg_entry_eq]
  generalize (lg_sl ([.ref h0]) ++ List.replicate (4 - (lg_sl ([.ref h0])).length) Slot.unset).toArray = ls at hl ⊢
  have hl : lv_has ls 4 [(0, .ref h0)] := hl
  refine lv_aload_n hx hb dX12_turn_0 rfl (lv_at hl 0 rfl) ?_
  refine va_get (D := D) (ref := "IntegerHouseModel") (ci := 12) (v := .ref h1) (C := RX12) (T := TX12) (N := 195) hx hb hts hin12 hown hK hP 0 rfl rfl 10 (by decide) (hts (.fieldLink RX12 28 "IntegerHouseModel" "arg" "[I") (List.mem_cons_of_mem _ (List.mem_append_left _ (List.mem_of_getElem? (i := 0) rfl)))) (fun _ h9 => h9) e0 dX12_turn_1 ?_
  refine lv_iconst (v := 0) hx hb dX12_turn_4 (by decide) ?_
  refine va_iald hx hb hK hP 1 0 rfl rfl (k_in (by decide)) dX12_turn_5 ?_
  refine k_topi (y := x0) e1 ?_
  refine lv_istore_n (lv' := [(1, .int x0), (0, .ref h0)]) hx hb dX12_turn_6 rfl hl (by decide) rfl (fun ls hl => ?_)
  refine lv_iload_n hx hb dX12_turn_7 rfl (lv_at hl 0 rfl) ?_
  refine lv_i2l (v := (Int32.toInt64 x0)) hx hb dX12_turn_8 rfl ?_
  refine lv_lconst (v := 0) hx hb dX12_turn_9 (by decide) ?_
  refine lv_aload_n hx hb dX12_turn_10 rfl (lv_at hl 1 rfl) ?_
  refine va_get (D := D) (ref := "IntegerHouseModel") (ci := 12) (v := .int 0) (C := RX12) (T := TX12) (N := 195) hx hb hts hin12 hown hK hP 0 rfl rfl 33 (by decide) (hts (.fieldLink RX12 818 "IntegerHouseModel" "claims" "I") (List.mem_cons_of_mem _ (List.mem_append_left _ (List.mem_of_getElem? (i := 1) rfl)))) (fun _ h9 => h9) e2 dX12_turn_11 ?_
  refine lv_iconst (v := 1) hx hb dX12_turn_14 (by decide) ?_
  refine lv_isub hx hb dX12_turn_15 ?_
  refine k_topi (y := (-1)) (by decide) ?_
  refine lv_i2l (v := (-1)) hx hb dX12_turn_16 (by decide) ?_
  refine k_cSi (As := [.long (Int32.toInt64 x0), .long 0, .long (-1)]) (rest := []) (wc := []) (wr := [(h0, .inr (12, f0)), (h1, .inl (cI, 2, .inl g0))]) (w1 := []) ⟨hx, hb, hml, hown, hts⟩ hN hX hAE hK hP hD hS hA [] [0, 1] rfl rfl (by decide +kernel) (by decide +kernel) (by decide +kernel) (c_X12_in_12 l E D cI cJ cB cZ (Int32.toInt64 x0) (fun z9 => e3 ((k_n4 (x := x0) (c := 0) (C := 0) (by decide)).mp z9)) ((k_n5 (x := x0) (c := (-1)) (d := 0) (C := (-1)) (by decide) (by decide)).mpr e3)) (va_cwS 3 hts gX12_turn_X12_in rfl rfl rfl (by decide +kernel) ⟨Nat.le_of_ble_eq_true rfl, Nat.le_of_ble_eq_true rfl⟩) rfl hl.1 (Nat.le_of_ble_eq_true rfl) dX12_turn_17 ⟨Nat.le_of_ble_eq_true rfl, Nat.le_of_ble_eq_true rfl⟩ (fun H locs hP hD hS => ?_)
  have hP : va_P D vwCl [(h0, .inr (12, f0)), (h1, .inl (cI, 2, .inl g0))] H := hP
  have hD : va_D A [(h0, .inr (12, f0)), (h1, .inl (cI, 2, .inl g0))] := hD
  refine lv_if_ne (tgt := 30) hx hb dX12_turn_20 (by decide) (fun c9 => absurd (by decide) c9) (fun _ => ?_)
  refine lv_aload_n hx hb dX12_turn_23 rfl (lv_at hl 1 rfl) ?_
  refine lv_bipush (v := (-101)) hx hb dX12_turn_24 (by decide) ?_
  refine k_cVi (As := [.int (-101)]) (rest := []) (wc := [(h0, .inr (12, f0))]) (wr := [(h1, .inl (cI, 2, .inl g0))]) (w1 := [(h0, .inr (12, (f0.set 14 (.int 1))))]) ⟨hx, hb, hml, hown, hts⟩ hN hX hAE hK hP hD hS hA [0] [1] (ci := 12) rfl rfl rfl rfl (by decide +kernel) (by decide +kernel) (by decide +kernel) (c_X12_no_0 l E D cI cJ cB cZ h0 f0 e4) (cwV 1 hts gX12_turn_X12_no rfl rfl rfl (by decide +kernel) ⟨Nat.le_of_ble_eq_true rfl, Nat.le_of_ble_eq_true rfl⟩) rfl hl.1 (Nat.le_of_ble_eq_true rfl) dX12_turn_26 ⟨Nat.le_of_ble_eq_true rfl, Nat.le_of_ble_eq_true rfl⟩ (fun H locs hP hD hS => ?_)
  have hP : va_P D vwCl [(h1, .inl (cI, 2, .inl g0)), (h0, .inr (12, (f0.set 14 (.int 1))))] H := hP
  have hD : va_D A [(h1, .inl (cI, 2, .inl g0)), (h0, .inr (12, (f0.set 14 (.int 1))))] := hD
  have hP := hP.sub (ws' := [(h0, .inr (12, (f0.set 14 (.int 1)))), (h1, .inl (cI, 2, .inl g0))]) [1, 0] rfl
  have hD := hD.sub (ws' := [(h0, .inr (12, (f0.set 14 (.int 1)))), (h1, .inl (cI, 2, .inl g0))]) [1, 0] (by decide +kernel) rfl
  exact W.iret (v := (-101)) hx hb hr (fun t ht hW => ⟨⟨(-101), (), rfl, rfl, kB_mk ht hW hP hK hD⟩, hS.F ht⟩) hS.2.2 dX12_turn_29
set_option maxHeartbeats 400000000 in
set_option maxRecDepth 100000 in
theorem c_X12_act_1 (l : Launch) (E : kE) (D : va_G) (cI cJ cB cZ : ClassId) (h0 : Nat) (f0 : List Value) (h1 : Nat) (g0 : Nat → Int32) (x0 : Int32) (e0 : f0[15]? = some (.int 2)) (e1 : f0[10]? = some (.ref h1)) (e2 : g0 0 = x0) (e3 : f0[33]? = some (.int 0)) (e4 : f0[14]? = some (.int 0)) (e5 : ¬ ((x0 : Int32) < 0)) : kI l E D (kT cI cJ cB cZ) yX12_act wsX12_act ({ frames := 2, cells := 0, slots := 0, locals := 48 }) [.ref h0] [(h0, .inr (12, f0)), (h1, .inl (cI, 2, .inl g0))] ((-101)) [(h0, .inr (12, (f0.set 14 (.int 1)))), (h1, .inl (cI, 2, .inl g0))] 0 0 := by
  intro sz
  refine Met.ofW (cc := cX12_act) (maxL := 1) (ret := (some .int)) (by decide) rfl ?_
  intro p e s m args below meth c s₁ B hml hv
  obtain ⟨rfl, hsz, hP, hK, hD0, hN, hX⟩ := hv
  have hx := B.exec
  have hb := B.bytes
  have hr := B.returns
  have hts := atoms_spec (ws := wsX12_act) B.pre
  have hown : s.vm.findClass RX12 = some m.cls := findClass_of_methodNamed B.named
  have hlocks := B.notSynchronized
  have hin12 : ∀ w ∈ wsX120, w ∈ wsX12_act := (fun w h => (List.mem_cons_of_mem _ (List.mem_append_right _ h)))
  subst hsz
  have hD := hD0.self (sz := s.heap.size)
  have hAE := k_AE hD0 hX
  generalize hAe : va_A [(h0, .inr (12, f0)), (h1, .inl (cI, 2, .inl g0))] s.heap.size = A at hD hAE ⊢
  have hA : ∀ q : Nat, s.heap.size ≤ q → A q := fun q h => by rw [← hAe]; exact Or.inr h
  have hS : va_S A s.heap s.heap [] := va_S.rf
  have hP : va_P D vwCl [(h0, .inr (12, f0)), (h1, .inl (cI, 2, .inl g0))] s.heap := hP
  have hl := lv_entry ([.ref h0] : List Value) (n := 1) (Nat.le_of_ble_eq_true rfl)
  rw [lg_entry_eq]
  generalize (lg_sl ([.ref h0]) ++ List.replicate (1 - (lg_sl ([.ref h0])).length) Slot.unset).toArray = ls at hl ⊢
  have hl : lv_has ls 1 [(0, .ref h0)] := hl
  refine lv_aload_n hx hb dX12_act_0 rfl (lv_at hl 0 rfl) ?_
  refine va_get (D := D) (ref := "IntegerHouseModel") (ci := 12) (v := .int 2) (C := RX12) (T := TX12) (N := 195) hx hb hts hin12 hown hK hP 0 rfl rfl 15 (by decide) (hts (.fieldLink RX12 466 "IntegerHouseModel" "number" "I") (List.mem_cons_of_mem _ (List.mem_append_left _ (List.mem_append_left _ (List.mem_of_getElem? (i := 0) rfl))))) (fun _ h9 => h9) e0 dX12_act_1 ?_
  refine lv_tableIn (off := 33) (tgt := 37) hx hb dX12_act_4 (by decide) (by decide) rfl (by decide) ?_
  refine lv_aload_n hx hb dX12_act_37 rfl (lv_at hl 0 rfl) ?_
  refine k_cVi (As := []) (rest := []) (wc := [(h0, .inr (12, f0)), (h1, .inl (cI, 2, .inl g0))]) (wr := []) (w1 := [(h0, .inr (12, (f0.set 14 (.int 1)))), (h1, .inl (cI, 2, .inl g0))]) ⟨hx, hb, hml, hown, hts⟩ hN hX hAE hK hP hD hS hA [0, 1] [] (ci := 12) rfl rfl rfl rfl (by decide +kernel) (by decide +kernel) (by decide +kernel) (c_X12_turn_0 l E D cI cJ cB cZ h0 f0 h1 g0 x0 e1 e2 e3 e5 e4) (cwV 0 hts gX12_act_X12_turn rfl rfl rfl (by decide +kernel) ⟨Nat.le_of_ble_eq_true rfl, Nat.le_of_ble_eq_true rfl⟩) rfl hl.1 (Nat.le_of_ble_eq_true rfl) dX12_act_38 ⟨Nat.le_of_ble_eq_true rfl, Nat.le_of_ble_eq_true rfl⟩ (fun H locs hP hD hS => ?_)
  have hP : va_P D vwCl [(h0, .inr (12, (f0.set 14 (.int 1)))), (h1, .inl (cI, 2, .inl g0))] H := hP
  have hD : va_D A [(h0, .inr (12, (f0.set 14 (.int 1)))), (h1, .inl (cI, 2, .inl g0))] := hD
  exact W.iret (v := (-101)) hx hb hr (fun t ht hW => ⟨⟨(-101), (), rfl, rfl, kB_mk ht hW hP hK hD⟩, hS.F ht⟩) hS.2.2 dX12_act_41
set_option maxHeartbeats 400000000 in
set_option maxRecDepth 100000 in
theorem c_X12_call_1 (l : Launch) (E : kE) (D : va_G) (cI cJ cB cZ : ClassId) (h0 : Nat) (f0 : List Value) (h1 : Nat) (g0 : Nat → Int32) (x0 : Int32) (e0 : f0[0]? = some (.int 0)) (e1 : f0[5]? = some (.int 0)) (e2 : f0[15]? = some (.int 0)) (e3 : f0[13]? = some (.int 0)) (e4 : f0[14]? = some (.int 0)) (e5 : f0[10]? = some (.ref h1)) (e6 : g0 0 = x0) (e7 : f0[33]? = some (.int 0)) (e8 : ¬ ((x0 : Int32) < 0)) : kI l E D (kT cI cJ cB cZ) yX12_call wsX12_call ({ frames := 3, cells := 0, slots := 0, locals := 68 }) [.ref h0, .int 2] [(h0, .inr (12, f0)), (h1, .inl (cI, 2, .inl g0))] ((-101)) [(h0, .inr (12, (((((f0.set 0 (.int 0)).set 15 (.int 2)).set 13 (.int 0)).set 14 (.int 0)).set 14 (.int 1)))), (h1, .inl (cI, 2, .inl g0))] 0 0 := by
  intro sz
  refine Met.ofW (cc := cX12_call) (maxL := 4) (ret := (some .int)) (by decide) rfl ?_
  intro p e s m args below meth c s₁ B hml hv
  obtain ⟨rfl, hsz, hP, hK, hD0, hN, hX⟩ := hv
  have hx := B.exec
  have hb := B.bytes
  have hr := B.returns
  have hts := atoms_spec (ws := wsX12_call) B.pre
  have hown : s.vm.findClass RX12 = some m.cls := findClass_of_methodNamed B.named
  have hlocks := B.notSynchronized
  have hin12 : ∀ w ∈ wsX120, w ∈ wsX12_call := (fun w h => (List.mem_cons_of_mem _ (List.mem_append_right _ h)))
  subst hsz
  have hD := hD0.self (sz := s.heap.size)
  have hAE := k_AE hD0 hX
  generalize hAe : va_A [(h0, .inr (12, f0)), (h1, .inl (cI, 2, .inl g0))] s.heap.size = A at hD hAE ⊢
  have hA : ∀ q : Nat, s.heap.size ≤ q → A q := fun q h => by rw [← hAe]; exact Or.inr h
  have hS : va_S A s.heap s.heap [] := va_S.rf
  have hP : va_P D vwCl [(h0, .inr (12, f0)), (h1, .inl (cI, 2, .inl g0))] s.heap := hP
  have hl := lv_entry ([.ref h0, .int 2] : List Value) (n := 4) (Nat.le_of_ble_eq_true rfl)
  rw [lg_entry_eq]
  generalize (lg_sl ([.ref h0, .int 2]) ++ List.replicate (4 - (lg_sl ([.ref h0, .int 2])).length) Slot.unset).toArray = ls at hl ⊢
  have hl : lv_has ls 4 [(0, .ref h0), (1, .int 2)] := hl
  refine lv_aload_n hx hb dX12_call_0 rfl (lv_at hl 0 rfl) ?_
  refine lv_iconst (v := 0) hx hb dX12_call_1 (by decide) ?_
  refine va_put (D := D) (ref := "IntegerHouseModel") (ci := 12) (v := .int 0) (ty := .int) (C := RX12) (T := TX12) (N := 195) hx hb hts hin12 tyX12 tyX12_ok nmX12 hown hK hP hD hS 0 rfl rfl 0 (by decide) (hts (.fieldLink RX12 3 "IntegerHouseModel" "thrown" "I") (List.mem_cons_of_mem _ (List.mem_append_left _ (List.mem_append_left _ (List.mem_of_getElem? (i := 0) rfl))))) (fun _ h9 => h9) rfl (by decide +kernel) rfl rfl (k_len e0) dX12_call_2 (fun H locs hP hD hS => ?_)
  have hP : va_P D vwCl [(h0, .inr (12, (f0.set 0 (.int 0)))), (h1, .inl (cI, 2, .inl g0))] H := hP
  have hD : va_D A [(h0, .inr (12, (f0.set 0 (.int 0)))), (h1, .inl (cI, 2, .inl g0))] := hD
  refine lv_aload_n hx hb dX12_call_5 rfl (lv_at hl 0 rfl) ?_
  refine va_get (D := D) (ref := "IntegerHouseModel") (ci := 12) (v := .int 0) (C := RX12) (T := TX12) (N := 195) hx hb hts hin12 hown hK hP 0 rfl rfl 5 (by decide) (hts (.fieldLink RX12 488 "IntegerHouseModel" "down" "Z") (List.mem_cons_of_mem _ (List.mem_append_left _ (List.mem_append_left _ (List.mem_of_getElem? (i := 1) rfl))))) (fun _ h9 => h9) (k_ne (by decide) e1) dX12_call_6 ?_
  refine lv_if_eq (tgt := 15) hx hb dX12_call_9 (by decide) (fun _ => ?_) (fun c9 => absurd (by decide) c9)
  refine lv_aload_n hx hb dX12_call_15 rfl (lv_at hl 0 rfl) ?_
  refine lv_iload_n hx hb dX12_call_16 rfl (lv_at hl 1 rfl) ?_
  refine va_put (D := D) (ref := "IntegerHouseModel") (ci := 12) (v := .int 2) (ty := .int) (C := RX12) (T := TX12) (N := 195) hx hb hts hin12 tyX12 tyX12_ok nmX12 hown hK hP hD hS 0 rfl rfl 15 (by decide) (hts (.fieldLink RX12 466 "IntegerHouseModel" "number" "I") (List.mem_cons_of_mem _ (List.mem_append_left _ (List.mem_append_left _ (List.mem_of_getElem? (i := 2) rfl))))) (fun _ h9 => h9) rfl (by decide +kernel) rfl rfl (k_len (k_ne (by decide) e2)) dX12_call_17 (fun H locs hP hD hS => ?_)
  have hP : va_P D vwCl [(h0, .inr (12, ((f0.set 0 (.int 0)).set 15 (.int 2)))), (h1, .inl (cI, 2, .inl g0))] H := hP
  have hD : va_D A [(h0, .inr (12, ((f0.set 0 (.int 0)).set 15 (.int 2)))), (h1, .inl (cI, 2, .inl g0))] := hD
  refine lv_aload_n hx hb dX12_call_20 rfl (lv_at hl 0 rfl) ?_
  refine lv_iconst (v := 0) hx hb dX12_call_21 (by decide) ?_
  refine va_put (D := D) (ref := "IntegerHouseModel") (ci := 12) (v := .int 0) (ty := .boolean) (C := RX12) (T := TX12) (N := 195) hx hb hts hin12 tyX12 tyX12_ok nmX12 hown hK hP hD hS 0 rfl rfl 13 (by decide) (hts (.fieldLink RX12 472 "IntegerHouseModel" "replay" "Z") (List.mem_cons_of_mem _ (List.mem_append_left _ (List.mem_append_left _ (List.mem_of_getElem? (i := 3) rfl))))) (fun _ h9 => h9) rfl (by decide +kernel) rfl rfl (k_len (k_ne (by decide) (k_ne (by decide) e3))) dX12_call_22 (fun H locs hP hD hS => ?_)
  have hP : va_P D vwCl [(h0, .inr (12, (((f0.set 0 (.int 0)).set 15 (.int 2)).set 13 (.int 0)))), (h1, .inl (cI, 2, .inl g0))] H := hP
  have hD : va_D A [(h0, .inr (12, (((f0.set 0 (.int 0)).set 15 (.int 2)).set 13 (.int 0)))), (h1, .inl (cI, 2, .inl g0))] := hD
  refine lv_aload_n hx hb dX12_call_25 rfl (lv_at hl 0 rfl) ?_
  refine lv_iconst (v := 0) hx hb dX12_call_26 (by decide) ?_
  refine va_put (D := D) (ref := "IntegerHouseModel") (ci := 12) (v := .int 0) (ty := .boolean) (C := RX12) (T := TX12) (N := 195) hx hb hts hin12 tyX12 tyX12_ok nmX12 hown hK hP hD hS 0 rfl rfl 14 (by decide) (hts (.fieldLink RX12 462 "IntegerHouseModel" "refused" "Z") (List.mem_cons_of_mem _ (List.mem_append_left _ (List.mem_append_left _ (List.mem_of_getElem? (i := 4) rfl))))) (fun _ h9 => h9) rfl (by decide +kernel) rfl rfl (k_len (k_ne (by decide) (k_ne (by decide) (k_ne (by decide) e4)))) dX12_call_27 (fun H locs hP hD hS => ?_)
  have hP : va_P D vwCl [(h0, .inr (12, ((((f0.set 0 (.int 0)).set 15 (.int 2)).set 13 (.int 0)).set 14 (.int 0)))), (h1, .inl (cI, 2, .inl g0))] H := hP
  have hD : va_D A [(h0, .inr (12, ((((f0.set 0 (.int 0)).set 15 (.int 2)).set 13 (.int 0)).set 14 (.int 0)))), (h1, .inl (cI, 2, .inl g0))] := hD
  refine lv_iload_n hx hb dX12_call_30 rfl (lv_at hl 1 rfl) ?_
  refine lv_iconst (v := 1) hx hb dX12_call_31 (by decide) ?_
  refine lv_icmp_ne (tgt := 39) hx hb dX12_call_32 (by decide) (fun _ => ?_) (fun c9 => absurd c9 (by decide))
  refine lv_aload_n hx hb dX12_call_39 rfl (lv_at hl 0 rfl) ?_
  refine k_cVi (As := []) (rest := []) (wc := [(h0, .inr (12, ((((f0.set 0 (.int 0)).set 15 (.int 2)).set 13 (.int 0)).set 14 (.int 0)))), (h1, .inl (cI, 2, .inl g0))]) (wr := []) (w1 := [(h0, .inr (12, (((((f0.set 0 (.int 0)).set 15 (.int 2)).set 13 (.int 0)).set 14 (.int 0)).set 14 (.int 1)))), (h1, .inl (cI, 2, .inl g0))]) ⟨hx, hb, hml, hown, hts⟩ hN hX hAE hK hP hD hS hA [0, 1] [] (ci := 12) rfl rfl rfl rfl (by decide +kernel) (by decide +kernel) (by decide +kernel) (c_X12_act_1 l E D cI cJ cB cZ h0 (((((f0.set 0 (.int 0)).set 15 (.int 2)).set 13 (.int 0)).set 14 (.int 0))) h1 g0 x0 (k_ne (by decide) (k_ne (by decide) (k_set (k_ne (by decide) e2)))) (k_ne (by decide) (k_ne (by decide) (k_ne (by decide) (k_ne (by decide) e5)))) e6 (k_ne (by decide) (k_ne (by decide) (k_ne (by decide) (k_ne (by decide) e7)))) (k_set (k_ne (by decide) (k_ne (by decide) (k_ne (by decide) e4)))) e8) (cwV 0 hts gX12_call_X12_act rfl rfl rfl (by decide +kernel) ⟨Nat.le_of_ble_eq_true rfl, Nat.le_of_ble_eq_true rfl⟩) rfl hl.1 (Nat.le_of_ble_eq_true rfl) dX12_call_40 ⟨Nat.le_of_ble_eq_true rfl, Nat.le_of_ble_eq_true rfl⟩ (fun H locs hP hD hS => ?_)
  have hP : va_P D vwCl [(h0, .inr (12, (((((f0.set 0 (.int 0)).set 15 (.int 2)).set 13 (.int 0)).set 14 (.int 0)).set 14 (.int 1)))), (h1, .inl (cI, 2, .inl g0))] H := hP
  have hD : va_D A [(h0, .inr (12, (((((f0.set 0 (.int 0)).set 15 (.int 2)).set 13 (.int 0)).set 14 (.int 0)).set 14 (.int 1)))), (h1, .inl (cI, 2, .inl g0))] := hD
  refine lv_istore_n (lv' := [(2, .int (-101)), (0, .ref h0), (1, .int 2)]) hx hb dX12_call_43 rfl hl (by decide) rfl (fun ls hl => ?_)
  refine lv_aload_n hx hb dX12_call_44 rfl (lv_at hl 1 rfl) ?_
  refine va_get (D := D) (ref := "IntegerHouseModel") (ci := 12) (v := .int 1) (C := RX12) (T := TX12) (N := 195) hx hb hts hin12 hown hK hP 0 rfl rfl 14 (by decide) (hts (.fieldLink RX12 462 "IntegerHouseModel" "refused" "Z") (List.mem_cons_of_mem _ (List.mem_append_left _ (List.mem_append_left _ (List.mem_of_getElem? (i := 4) rfl))))) (fun _ h9 => h9) (k_set (k_set (k_ne (by decide) (k_ne (by decide) (k_ne (by decide) e4))))) dX12_call_45 ?_
  refine lv_if_ne (tgt := 141) hx hb dX12_call_48 (by decide) (fun _ => ?_) (fun c9 => absurd c9 (by decide))
  refine lv_iload_n hx hb dX12_call_141 rfl (lv_at hl 0 rfl) ?_
  exact W.iret (v := (-101)) hx hb hr (fun t ht hW => ⟨⟨(-101), (), rfl, rfl, kB_mk ht hW hP hK hD⟩, hS.F ht⟩) hS.2.2 dX12_call_142
set_option maxHeartbeats 400000000 in
set_option maxRecDepth 100000 in
theorem c_X12_on_0 (l : Launch) (E : kE) (D : va_G) (cI cJ cB cZ : ClassId) (h0 : Nat) (x0 : Int32) (f0 : List Value) (h1 : Nat) (g0 : Nat → Int32) (e0 : f0[10]? = some (.ref h1)) (e1 : f0[0]? = some (.int 0)) (e2 : f0[5]? = some (.int 0)) (e3 : f0[15]? = some (.int 0)) (e4 : f0[13]? = some (.int 0)) (e5 : f0[14]? = some (.int 0)) (e6 : f0[33]? = some (.int 0)) (e7 : ¬ ((x0 : Int32) < 0)) : kI l E D (kT cI cJ cB cZ) yX12_on wsX12_on ({ frames := 4, cells := 0, slots := 0, locals := 91 }) [.ref h0, .int x0, .int 1] [(h0, .inr (12, f0)), (h1, .inl (cI, 2, .inl g0))] ((-101)) [(h0, .inr (12, (((((f0.set 0 (.int 0)).set 15 (.int 2)).set 13 (.int 0)).set 14 (.int 0)).set 14 (.int 1)))), (h1, .inl (cI, 2, .inl (upd (upd g0 0 x0) 1 1)))] 0 0 := by
  intro sz
  refine Met.ofW (cc := cX12_on) (maxL := 3) (ret := (some .int)) (by decide) rfl ?_
  intro p e s m args below meth c s₁ B hml hv
  obtain ⟨rfl, hsz, hP, hK, hD0, hN, hX⟩ := hv
  have hx := B.exec
  have hb := B.bytes
  have hr := B.returns
  have hts := atoms_spec (ws := wsX12_on) B.pre
  have hown : s.vm.findClass RX12 = some m.cls := findClass_of_methodNamed B.named
  have hlocks := B.notSynchronized
  have hin12 : ∀ w ∈ wsX120, w ∈ wsX12_on := (fun w h => (List.mem_cons_of_mem _ (List.mem_append_right _ h)))
  subst hsz
  have hD := hD0.self (sz := s.heap.size)
  have hAE := k_AE hD0 hX
  generalize hAe : va_A [(h0, .inr (12, f0)), (h1, .inl (cI, 2, .inl g0))] s.heap.size = A at hD hAE ⊢
  have hA : ∀ q : Nat, s.heap.size ≤ q → A q := fun q h => by rw [← hAe]; exact Or.inr h
  have hS : va_S A s.heap s.heap [] := va_S.rf
  have hP : va_P D vwCl [(h0, .inr (12, f0)), (h1, .inl (cI, 2, .inl g0))] s.heap := hP
  have hl := lv_entry ([.ref h0, .int x0, .int 1] : List Value) (n := 3) (Nat.le_of_ble_eq_true rfl)
  rw [lg_entry_eq]
  generalize (lg_sl ([.ref h0, .int x0, .int 1]) ++ List.replicate (3 - (lg_sl ([.ref h0, .int x0, .int 1])).length) Slot.unset).toArray = ls at hl ⊢
  have hl : lv_has ls 3 [(0, .ref h0), (1, .int x0), (2, .int 1)] := hl
  refine lv_aload_n hx hb dX12_on_0 rfl (lv_at hl 0 rfl) ?_
  refine va_get (D := D) (ref := "IntegerHouseModel") (ci := 12) (v := .ref h1) (C := RX12) (T := TX12) (N := 195) hx hb hts hin12 hown hK hP 0 rfl rfl 10 (by decide) (hts (.fieldLink RX12 28 "IntegerHouseModel" "arg" "[I") (List.mem_cons_of_mem _ (List.mem_append_left _ (List.mem_append_left _ (List.mem_of_getElem? (i := 0) rfl))))) (fun _ h9 => h9) e0 dX12_on_1 ?_
  refine lv_iconst (v := 0) hx hb dX12_on_4 (by decide) ?_
  refine lv_iload_n hx hb dX12_on_5 rfl (lv_at hl 1 rfl) ?_
  refine va_iast hx hb hK hP hD hS 1 0 rfl rfl (k_in (by decide)) dX12_on_6 (fun H locs hP hD hS => ?_)
  have hP : va_P D vwCl [(h0, .inr (12, f0)), (h1, .inl (cI, 2, .inl (upd g0 0 x0)))] H := hP
  have hD : va_D A [(h0, .inr (12, f0)), (h1, .inl (cI, 2, .inl (upd g0 0 x0)))] := hD
  refine lv_aload_n hx hb dX12_on_7 rfl (lv_at hl 0 rfl) ?_
  refine va_get (D := D) (ref := "IntegerHouseModel") (ci := 12) (v := .ref h1) (C := RX12) (T := TX12) (N := 195) hx hb hts hin12 hown hK hP 0 rfl rfl 10 (by decide) (hts (.fieldLink RX12 28 "IntegerHouseModel" "arg" "[I") (List.mem_cons_of_mem _ (List.mem_append_left _ (List.mem_append_left _ (List.mem_of_getElem? (i := 0) rfl))))) (fun _ h9 => h9) e0 dX12_on_8 ?_
  refine lv_iconst (v := 1) hx hb dX12_on_11 (by decide) ?_
  refine lv_iload_n hx hb dX12_on_12 rfl (lv_at hl 2 rfl) ?_
  refine lv_if_eq (tgt := 20) hx hb dX12_on_13 (by decide) (fun c9 => absurd c9 (by decide)) (fun _ => ?_)
  refine lv_iconst (v := 1) hx hb dX12_on_16 (by decide) ?_
  refine lv_goto (tgt := 21) hx hb dX12_on_17 (by decide) ?_
  refine va_iast hx hb hK hP hD hS 1 0 rfl rfl (k_in (by decide)) dX12_on_21 (fun H locs hP hD hS => ?_)
  have hP : va_P D vwCl [(h0, .inr (12, f0)), (h1, .inl (cI, 2, .inl (upd (upd g0 0 x0) 1 1)))] H := hP
  have hD : va_D A [(h0, .inr (12, f0)), (h1, .inl (cI, 2, .inl (upd (upd g0 0 x0) 1 1)))] := hD
  refine lv_aload_n hx hb dX12_on_22 rfl (lv_at hl 0 rfl) ?_
  refine lv_iconst (v := 2) hx hb dX12_on_23 (by decide) ?_
  refine k_cVi (As := [.int 2]) (rest := []) (wc := [(h0, .inr (12, f0)), (h1, .inl (cI, 2, .inl (upd (upd g0 0 x0) 1 1)))]) (wr := []) (w1 := [(h0, .inr (12, (((((f0.set 0 (.int 0)).set 15 (.int 2)).set 13 (.int 0)).set 14 (.int 0)).set 14 (.int 1)))), (h1, .inl (cI, 2, .inl (upd (upd g0 0 x0) 1 1)))]) ⟨hx, hb, hml, hown, hts⟩ hN hX hAE hK hP hD hS hA [0, 1] [] (ci := 12) rfl rfl rfl rfl (by decide +kernel) (by decide +kernel) (by decide +kernel) (c_X12_call_1 l E D cI cJ cB cZ h0 f0 h1 ((upd (upd g0 0 x0) 1 1)) x0 e1 e2 e3 e4 e5 e0 rfl e6 e7) (cwV 1 hts gX12_on_X12_call rfl rfl rfl (by decide +kernel) ⟨Nat.le_of_ble_eq_true rfl, Nat.le_of_ble_eq_true rfl⟩) rfl hl.1 (Nat.le_of_ble_eq_true rfl) dX12_on_24 ⟨Nat.le_of_ble_eq_true rfl, Nat.le_of_ble_eq_true rfl⟩ (fun H locs hP hD hS => ?_)
  have hP : va_P D vwCl [(h0, .inr (12, (((((f0.set 0 (.int 0)).set 15 (.int 2)).set 13 (.int 0)).set 14 (.int 0)).set 14 (.int 1)))), (h1, .inl (cI, 2, .inl (upd (upd g0 0 x0) 1 1)))] H := hP
  have hD : va_D A [(h0, .inr (12, (((((f0.set 0 (.int 0)).set 15 (.int 2)).set 13 (.int 0)).set 14 (.int 0)).set 14 (.int 1)))), (h1, .inl (cI, 2, .inl (upd (upd g0 0 x0) 1 1)))] := hD
  exact W.iret (v := (-101)) hx hb hr (fun t ht hW => ⟨⟨(-101), (), rfl, rfl, kB_mk ht hW hP hK hD⟩, hS.F ht⟩) hS.2.2 dX12_on_27
set_option maxHeartbeats 400000000 in
set_option maxRecDepth 100000 in
theorem c_X11_on_1 (l : Launch) (E : kE) (D : va_G) (cI cJ cB cZ : ClassId) (h0 : Nat) (x0 : Int32) (f0 : List Value) (h1 : Nat) (f1 : List Value) (h2 : Nat) (f2 : List Value) (e0 : f0[1]? = some (.ref h1)) (e1 : f1[8]? = some (.int 0)) (e2 : f0[2]? = some (.ref h2)) (e3 : ¬ ((x0 : Int32) < 0)) (e4 : f2[11]? = some (.int 0)) : kI l E D (kT cI cJ cB cZ) yX11_on wsX11_on ({ frames := 1, cells := 0, slots := 0, locals := 21 }) [.ref h0, .int x0, .int 0] [(h0, .inr (11, f0)), (h1, .inr (1, f1)), (h2, .inr (2, f2))] ((-101)) [(h0, .inr (11, f0)), (h1, .inr (1, f1)), (h2, .inr (2, f2))] 0 0 := by
  intro sz
  refine Met.ofW (cc := cX11_on) (maxL := 4) (ret := (some .int)) (by decide) rfl ?_
  intro p e s m args below meth c s₁ B hml hv
  obtain ⟨rfl, hsz, hP, hK, hD0, hN, hX⟩ := hv
  have hx := B.exec
  have hb := B.bytes
  have hr := B.returns
  have hts := atoms_spec (ws := wsX11_on) B.pre
  have hown : s.vm.findClass RX11 = some m.cls := findClass_of_methodNamed B.named
  have hlocks := B.notSynchronized
  have hin11 : ∀ w ∈ wsX110, w ∈ wsX11_on := (fun w h => (List.mem_cons_of_mem _ (List.mem_append_left _ (List.mem_append_left _ (List.mem_append_right _ h)))))
  have hin1 : ∀ w ∈ wsX10, w ∈ wsX11_on := (fun w h => (List.mem_cons_of_mem _ (List.mem_append_left _ (List.mem_append_right _ h))))
  subst hsz
  have hD := hD0.self (sz := s.heap.size)
  have hAE := k_AE hD0 hX
  generalize hAe : va_A [(h0, .inr (11, f0)), (h1, .inr (1, f1)), (h2, .inr (2, f2))] s.heap.size = A at hD hAE ⊢
  have hA : ∀ q : Nat, s.heap.size ≤ q → A q := fun q h => by rw [← hAe]; exact Or.inr h
  have hS : va_S A s.heap s.heap [] := va_S.rf
  have hP : va_P D vwCl [(h0, .inr (11, f0)), (h1, .inr (1, f1)), (h2, .inr (2, f2))] s.heap := hP
  have hl := lv_entry ([.ref h0, .int x0, .int 0] : List Value) (n := 4) (Nat.le_of_ble_eq_true rfl)
  rw [lg_entry_eq]
  generalize (lg_sl ([.ref h0, .int x0, .int 0]) ++ List.replicate (4 - (lg_sl ([.ref h0, .int x0, .int 0])).length) Slot.unset).toArray = ls at hl ⊢
  have hl : lv_has ls 4 [(0, .ref h0), (1, .int x0), (2, .int 0)] := hl
  refine lv_aload_n hx hb dX11_on_0 rfl (lv_at hl 0 rfl) ?_
  refine va_get (D := D) (ref := "IntegerHouse") (ci := 11) (v := .ref h1) (C := RX11) (T := TX11) (N := 15) hx hb hts hin11 hown hK hP 0 rfl rfl 1 (by decide) (hts (.fieldLink RX11 16 "IntegerHouse" "disk" "LIntegerHouse$Disk;") (List.mem_cons_of_mem _ (List.mem_append_left _ (List.mem_append_left _ (List.mem_append_left _ (List.mem_append_left _ (List.mem_of_getElem? (i := 0) rfl))))))) (fun _ h9 => h9) e0 dX11_on_1 ?_
  refine va_getN (host := "IntegerHouse") (D := D) (ref := "IntegerHouse$Disk") (ci := 1) (v := .int 0) (C := RX1) (T := TX1) (N := 9) hx hb hts hin1 hown hK hP 1 rfl rfl 8 (by decide) (va_Nw.use rfl (hN.1 ("IntegerHouse", 122, "IntegerHouse$Disk", "down", "Z", "IntegerHouse") (List.mem_of_getElem? (i := 3) rfl))) (fun _ h9 => h9) e1 dX11_on_4 ?_
  refine lv_if_eq (tgt := 13) hx hb dX11_on_7 (by decide) (fun _ => ?_) (fun c9 => absurd (by decide) c9)
  refine lv_aload_n hx hb dX11_on_13 rfl (lv_at hl 0 rfl) ?_
  refine va_get (D := D) (ref := "IntegerHouse") (ci := 11) (v := .ref h2) (C := RX11) (T := TX11) (N := 15) hx hb hts hin11 hown hK hP 0 rfl rfl 2 (by decide) (hts (.fieldLink RX11 23 "IntegerHouse" "house" "LIntegerHouse$House;") (List.mem_cons_of_mem _ (List.mem_append_left _ (List.mem_append_left _ (List.mem_append_left _ (List.mem_append_left _ (List.mem_of_getElem? (i := 1) rfl))))))) (fun _ h9 => h9) e2 dX11_on_14 ?_
  refine lv_iload_n hx hb dX11_on_17 rfl (lv_at hl 1 rfl) ?_
  refine k_cVi (As := [.int x0]) (rest := []) (wc := [(h2, .inr (2, f2))]) (wr := [(h0, .inr (11, f0)), (h1, .inr (1, f1))]) (w1 := [(h2, .inr (2, f2))]) ⟨hx, hb, hml, hown, hts⟩ hN hX hAE hK hP hD hS hA [2] [0, 1] (ci := 2) rfl rfl rfl rfl (by decide +kernel) (by decide +kernel) (by decide +kernel) (c_X2_isClaim_0 l E D cI cJ cB cZ h2 x0 f2 e3 e4) (cwV 1 hts gX11_on_X2_isClaim rfl rfl rfl (by decide +kernel) ⟨Nat.le_of_ble_eq_true rfl, Nat.le_of_ble_eq_true rfl⟩) rfl hl.1 (Nat.le_of_ble_eq_true rfl) dX11_on_18 ⟨Nat.le_of_ble_eq_true rfl, Nat.le_of_ble_eq_true rfl⟩ (fun H locs hP hD hS => ?_)
  have hP : va_P D vwCl [(h0, .inr (11, f0)), (h1, .inr (1, f1)), (h2, .inr (2, f2))] H := hP
  have hD : va_D A [(h0, .inr (11, f0)), (h1, .inr (1, f1)), (h2, .inr (2, f2))] := hD
  refine lv_if_ne (tgt := 27) hx hb dX11_on_21 (by decide) (fun c9 => absurd (by decide) c9) (fun _ => ?_)
  refine lv_bipush (v := (-101)) hx hb dX11_on_24 (by decide) ?_
  exact W.iret (v := (-101)) hx hb hr (fun t ht hW => ⟨⟨(-101), (), rfl, rfl, kB_mk ht hW hP hK hD⟩, hS.F ht⟩) hS.2.2 dX11_on_26
set_option maxHeartbeats 400000000 in
set_option maxRecDepth 100000 in
theorem c_X12_on_1 (l : Launch) (E : kE) (D : va_G) (cI cJ cB cZ : ClassId) (h0 : Nat) (x0 : Int32) (f0 : List Value) (h1 : Nat) (g0 : Nat → Int32) (e0 : f0[10]? = some (.ref h1)) (e1 : f0[0]? = some (.int 0)) (e2 : f0[5]? = some (.int 0)) (e3 : f0[15]? = some (.int 0)) (e4 : f0[13]? = some (.int 0)) (e5 : f0[14]? = some (.int 0)) (e6 : f0[33]? = some (.int 0)) (e7 : ¬ ((x0 : Int32) < 0)) : kI l E D (kT cI cJ cB cZ) yX12_on wsX12_on ({ frames := 4, cells := 0, slots := 0, locals := 91 }) [.ref h0, .int x0, .int 0] [(h0, .inr (12, f0)), (h1, .inl (cI, 2, .inl g0))] ((-101)) [(h0, .inr (12, (((((f0.set 0 (.int 0)).set 15 (.int 2)).set 13 (.int 0)).set 14 (.int 0)).set 14 (.int 1)))), (h1, .inl (cI, 2, .inl (upd (upd g0 0 x0) 1 0)))] 0 0 := by
  intro sz
  refine Met.ofW (cc := cX12_on) (maxL := 3) (ret := (some .int)) (by decide) rfl ?_
  intro p e s m args below meth c s₁ B hml hv
  obtain ⟨rfl, hsz, hP, hK, hD0, hN, hX⟩ := hv
  have hx := B.exec
  have hb := B.bytes
  have hr := B.returns
  have hts := atoms_spec (ws := wsX12_on) B.pre
  have hown : s.vm.findClass RX12 = some m.cls := findClass_of_methodNamed B.named
  have hlocks := B.notSynchronized
  have hin12 : ∀ w ∈ wsX120, w ∈ wsX12_on := (fun w h => (List.mem_cons_of_mem _ (List.mem_append_right _ h)))
  subst hsz
  have hD := hD0.self (sz := s.heap.size)
  have hAE := k_AE hD0 hX
  generalize hAe : va_A [(h0, .inr (12, f0)), (h1, .inl (cI, 2, .inl g0))] s.heap.size = A at hD hAE ⊢
  have hA : ∀ q : Nat, s.heap.size ≤ q → A q := fun q h => by rw [← hAe]; exact Or.inr h
  have hS : va_S A s.heap s.heap [] := va_S.rf
  have hP : va_P D vwCl [(h0, .inr (12, f0)), (h1, .inl (cI, 2, .inl g0))] s.heap := hP
  have hl := lv_entry ([.ref h0, .int x0, .int 0] : List Value) (n := 3) (Nat.le_of_ble_eq_true rfl)
  rw [lg_entry_eq]
  generalize (lg_sl ([.ref h0, .int x0, .int 0]) ++ List.replicate (3 - (lg_sl ([.ref h0, .int x0, .int 0])).length) Slot.unset).toArray = ls at hl ⊢
  have hl : lv_has ls 3 [(0, .ref h0), (1, .int x0), (2, .int 0)] := hl
  refine lv_aload_n hx hb dX12_on_0 rfl (lv_at hl 0 rfl) ?_
  refine va_get (D := D) (ref := "IntegerHouseModel") (ci := 12) (v := .ref h1) (C := RX12) (T := TX12) (N := 195) hx hb hts hin12 hown hK hP 0 rfl rfl 10 (by decide) (hts (.fieldLink RX12 28 "IntegerHouseModel" "arg" "[I") (List.mem_cons_of_mem _ (List.mem_append_left _ (List.mem_append_left _ (List.mem_of_getElem? (i := 0) rfl))))) (fun _ h9 => h9) e0 dX12_on_1 ?_
  refine lv_iconst (v := 0) hx hb dX12_on_4 (by decide) ?_
  refine lv_iload_n hx hb dX12_on_5 rfl (lv_at hl 1 rfl) ?_
  refine va_iast hx hb hK hP hD hS 1 0 rfl rfl (k_in (by decide)) dX12_on_6 (fun H locs hP hD hS => ?_)
  have hP : va_P D vwCl [(h0, .inr (12, f0)), (h1, .inl (cI, 2, .inl (upd g0 0 x0)))] H := hP
  have hD : va_D A [(h0, .inr (12, f0)), (h1, .inl (cI, 2, .inl (upd g0 0 x0)))] := hD
  refine lv_aload_n hx hb dX12_on_7 rfl (lv_at hl 0 rfl) ?_
  refine va_get (D := D) (ref := "IntegerHouseModel") (ci := 12) (v := .ref h1) (C := RX12) (T := TX12) (N := 195) hx hb hts hin12 hown hK hP 0 rfl rfl 10 (by decide) (hts (.fieldLink RX12 28 "IntegerHouseModel" "arg" "[I") (List.mem_cons_of_mem _ (List.mem_append_left _ (List.mem_append_left _ (List.mem_of_getElem? (i := 0) rfl))))) (fun _ h9 => h9) e0 dX12_on_8 ?_
  refine lv_iconst (v := 1) hx hb dX12_on_11 (by decide) ?_
  refine lv_iload_n hx hb dX12_on_12 rfl (lv_at hl 2 rfl) ?_
  refine lv_if_eq (tgt := 20) hx hb dX12_on_13 (by decide) (fun _ => ?_) (fun c9 => absurd (by decide) c9)
  refine lv_iconst (v := 0) hx hb dX12_on_20 (by decide) ?_
  refine va_iast hx hb hK hP hD hS 1 0 rfl rfl (k_in (by decide)) dX12_on_21 (fun H locs hP hD hS => ?_)
  have hP : va_P D vwCl [(h0, .inr (12, f0)), (h1, .inl (cI, 2, .inl (upd (upd g0 0 x0) 1 0)))] H := hP
  have hD : va_D A [(h0, .inr (12, f0)), (h1, .inl (cI, 2, .inl (upd (upd g0 0 x0) 1 0)))] := hD
  refine lv_aload_n hx hb dX12_on_22 rfl (lv_at hl 0 rfl) ?_
  refine lv_iconst (v := 2) hx hb dX12_on_23 (by decide) ?_
  refine k_cVi (As := [.int 2]) (rest := []) (wc := [(h0, .inr (12, f0)), (h1, .inl (cI, 2, .inl (upd (upd g0 0 x0) 1 0)))]) (wr := []) (w1 := [(h0, .inr (12, (((((f0.set 0 (.int 0)).set 15 (.int 2)).set 13 (.int 0)).set 14 (.int 0)).set 14 (.int 1)))), (h1, .inl (cI, 2, .inl (upd (upd g0 0 x0) 1 0)))]) ⟨hx, hb, hml, hown, hts⟩ hN hX hAE hK hP hD hS hA [0, 1] [] (ci := 12) rfl rfl rfl rfl (by decide +kernel) (by decide +kernel) (by decide +kernel) (c_X12_call_1 l E D cI cJ cB cZ h0 f0 h1 ((upd (upd g0 0 x0) 1 0)) x0 e1 e2 e3 e4 e5 e0 rfl e6 e7) (cwV 1 hts gX12_on_X12_call rfl rfl rfl (by decide +kernel) ⟨Nat.le_of_ble_eq_true rfl, Nat.le_of_ble_eq_true rfl⟩) rfl hl.1 (Nat.le_of_ble_eq_true rfl) dX12_on_24 ⟨Nat.le_of_ble_eq_true rfl, Nat.le_of_ble_eq_true rfl⟩ (fun H locs hP hD hS => ?_)
  have hP : va_P D vwCl [(h0, .inr (12, (((((f0.set 0 (.int 0)).set 15 (.int 2)).set 13 (.int 0)).set 14 (.int 0)).set 14 (.int 1)))), (h1, .inl (cI, 2, .inl (upd (upd g0 0 x0) 1 0)))] H := hP
  have hD : va_D A [(h0, .inr (12, (((((f0.set 0 (.int 0)).set 15 (.int 2)).set 13 (.int 0)).set 14 (.int 0)).set 14 (.int 1)))), (h1, .inl (cI, 2, .inl (upd (upd g0 0 x0) 1 0)))] := hD
  exact W.iret (v := (-101)) hx hb hr (fun t ht hW => ⟨⟨(-101), (), rfl, rfl, kB_mk ht hW hP hK hD⟩, hS.F ht⟩) hS.2.2 dX12_on_27
set_option maxHeartbeats 400000000 in
set_option maxRecDepth 100000 in
theorem c_X2_isClaim_1 (l : Launch) (E : kE) (D : va_G) (cI cJ cB cZ : ClassId) (h0 : Nat) (x0 : Int32) (e0 : (x0 : Int32) < 0) : kI l E D (kT cI cJ cB cZ) yX2_isClaim wsX2_isClaim ({ frames := 0, cells := 0, slots := 0, locals := 0 }) [.ref h0, .int x0] [] (0) [] 0 0 := by
  intro sz
  refine Met.ofW (cc := cX2_isClaim) (maxL := 2) (ret := (some .boolean)) (by decide) rfl ?_
  intro p e s m args below meth c s₁ B hml hv
  obtain ⟨rfl, hsz, hP, hK, hD0, hN, hX⟩ := hv
  have hx := B.exec
  have hb := B.bytes
  have hr := B.returns
  have hts := atoms_spec (ws := wsX2_isClaim) B.pre
  have hown : s.vm.findClass RX2 = some m.cls := findClass_of_methodNamed B.named
  have hlocks := B.notSynchronized
  subst hsz
  have hD := hD0.self (sz := s.heap.size)
  have hAE := k_AE hD0 hX
  generalize hAe : va_A [] s.heap.size = A at hD hAE ⊢
  have hA : ∀ q : Nat, s.heap.size ≤ q → A q := fun q h => by rw [← hAe]; exact Or.inr h
  have hS : va_S A s.heap s.heap [] := va_S.rf
  have hP : va_P D vwCl [] s.heap := hP
  have hl := lv_entry ([.ref h0, .int x0] : List Value) (n := 2) (Nat.le_of_ble_eq_true rfl)
  rw [lg_entry_eq]
  generalize (lg_sl ([.ref h0, .int x0]) ++ List.replicate (2 - (lg_sl ([.ref h0, .int x0])).length) Slot.unset).toArray = ls at hl ⊢
  have hl : lv_has ls 2 [(0, .ref h0), (1, .int x0)] := hl
  refine lv_iload_n hx hb dX2_isClaim_0 rfl (lv_at hl 1 rfl) ?_
  refine lv_if_lt (tgt := 16) hx hb dX2_isClaim_1 (by decide) (fun _ => ?_) (fun c9 => absurd e0 c9)
  refine lv_iconst (v := 0) hx hb dX2_isClaim_16 (by decide) ?_
  exact W.zret (v := 0) hx hb hr rfl (fun t ht hW => ⟨⟨0, (), rfl, rfl, kB_mk ht hW hP hK hD⟩, hS.F ht⟩) hS.2.2 dX2_isClaim_17
set_option maxHeartbeats 400000000 in
set_option maxRecDepth 100000 in
theorem c_X11_on_2 (l : Launch) (E : kE) (D : va_G) (cI cJ cB cZ : ClassId) (h0 : Nat) (x0 : Int32) (f0 : List Value) (h1 : Nat) (f1 : List Value) (h2 : Nat) (e0 : f0[1]? = some (.ref h1)) (e1 : f1[8]? = some (.int 0)) (e2 : f0[2]? = some (.ref h2)) (e3 : (x0 : Int32) < 0) : kI l E D (kT cI cJ cB cZ) yX11_on wsX11_on ({ frames := 1, cells := 0, slots := 0, locals := 21 }) [.ref h0, .int x0, .int 0] [(h0, .inr (11, f0)), (h1, .inr (1, f1))] ((-101)) [(h0, .inr (11, f0)), (h1, .inr (1, f1))] 0 0 := by
  intro sz
  refine Met.ofW (cc := cX11_on) (maxL := 4) (ret := (some .int)) (by decide) rfl ?_
  intro p e s m args below meth c s₁ B hml hv
  obtain ⟨rfl, hsz, hP, hK, hD0, hN, hX⟩ := hv
  have hx := B.exec
  have hb := B.bytes
  have hr := B.returns
  have hts := atoms_spec (ws := wsX11_on) B.pre
  have hown : s.vm.findClass RX11 = some m.cls := findClass_of_methodNamed B.named
  have hlocks := B.notSynchronized
  have hin11 : ∀ w ∈ wsX110, w ∈ wsX11_on := (fun w h => (List.mem_cons_of_mem _ (List.mem_append_left _ (List.mem_append_left _ (List.mem_append_right _ h)))))
  have hin1 : ∀ w ∈ wsX10, w ∈ wsX11_on := (fun w h => (List.mem_cons_of_mem _ (List.mem_append_left _ (List.mem_append_right _ h))))
  subst hsz
  have hD := hD0.self (sz := s.heap.size)
  have hAE := k_AE hD0 hX
  generalize hAe : va_A [(h0, .inr (11, f0)), (h1, .inr (1, f1))] s.heap.size = A at hD hAE ⊢
  have hA : ∀ q : Nat, s.heap.size ≤ q → A q := fun q h => by rw [← hAe]; exact Or.inr h
  have hS : va_S A s.heap s.heap [] := va_S.rf
  have hP : va_P D vwCl [(h0, .inr (11, f0)), (h1, .inr (1, f1))] s.heap := hP
  have hl := lv_entry ([.ref h0, .int x0, .int 0] : List Value) (n := 4) (Nat.le_of_ble_eq_true rfl)
  rw [lg_entry_eq]
  generalize (lg_sl ([.ref h0, .int x0, .int 0]) ++ List.replicate (4 - (lg_sl ([.ref h0, .int x0, .int 0])).length) Slot.unset).toArray = ls at hl ⊢
  have hl : lv_has ls 4 [(0, .ref h0), (1, .int x0), (2, .int 0)] := hl
  refine lv_aload_n hx hb dX11_on_0 rfl (lv_at hl 0 rfl) ?_
  refine va_get (D := D) (ref := "IntegerHouse") (ci := 11) (v := .ref h1) (C := RX11) (T := TX11) (N := 15) hx hb hts hin11 hown hK hP 0 rfl rfl 1 (by decide) (hts (.fieldLink RX11 16 "IntegerHouse" "disk" "LIntegerHouse$Disk;") (List.mem_cons_of_mem _ (List.mem_append_left _ (List.mem_append_left _ (List.mem_append_left _ (List.mem_append_left _ (List.mem_of_getElem? (i := 0) rfl))))))) (fun _ h9 => h9) e0 dX11_on_1 ?_
  refine va_getN (host := "IntegerHouse") (D := D) (ref := "IntegerHouse$Disk") (ci := 1) (v := .int 0) (C := RX1) (T := TX1) (N := 9) hx hb hts hin1 hown hK hP 1 rfl rfl 8 (by decide) (va_Nw.use rfl (hN.1 ("IntegerHouse", 122, "IntegerHouse$Disk", "down", "Z", "IntegerHouse") (List.mem_of_getElem? (i := 3) rfl))) (fun _ h9 => h9) e1 dX11_on_4 ?_
  refine lv_if_eq (tgt := 13) hx hb dX11_on_7 (by decide) (fun _ => ?_) (fun c9 => absurd (by decide) c9)
  refine lv_aload_n hx hb dX11_on_13 rfl (lv_at hl 0 rfl) ?_
  refine va_get (D := D) (ref := "IntegerHouse") (ci := 11) (v := .ref h2) (C := RX11) (T := TX11) (N := 15) hx hb hts hin11 hown hK hP 0 rfl rfl 2 (by decide) (hts (.fieldLink RX11 23 "IntegerHouse" "house" "LIntegerHouse$House;") (List.mem_cons_of_mem _ (List.mem_append_left _ (List.mem_append_left _ (List.mem_append_left _ (List.mem_append_left _ (List.mem_of_getElem? (i := 1) rfl))))))) (fun _ h9 => h9) e2 dX11_on_14 ?_
  refine lv_iload_n hx hb dX11_on_17 rfl (lv_at hl 1 rfl) ?_
  refine k_cVi (As := [.int x0]) (rest := []) (wc := []) (wr := [(h0, .inr (11, f0)), (h1, .inr (1, f1))]) (w1 := []) ⟨hx, hb, hml, hown, hts⟩ hN hX hAE hK hP hD hS hA [] [0, 1] (ci := 2) rfl rfl rfl rfl (by decide +kernel) (by decide +kernel) (by decide +kernel) (c_X2_isClaim_1 l E D cI cJ cB cZ h2 x0 e3) (cwV 1 hts gX11_on_X2_isClaim rfl rfl rfl (by decide +kernel) ⟨Nat.le_of_ble_eq_true rfl, Nat.le_of_ble_eq_true rfl⟩) rfl hl.1 (Nat.le_of_ble_eq_true rfl) dX11_on_18 ⟨Nat.le_of_ble_eq_true rfl, Nat.le_of_ble_eq_true rfl⟩ (fun H locs hP hD hS => ?_)
  have hP : va_P D vwCl [(h0, .inr (11, f0)), (h1, .inr (1, f1))] H := hP
  have hD : va_D A [(h0, .inr (11, f0)), (h1, .inr (1, f1))] := hD
  refine lv_if_ne (tgt := 27) hx hb dX11_on_21 (by decide) (fun c9 => absurd (by decide) c9) (fun _ => ?_)
  refine lv_bipush (v := (-101)) hx hb dX11_on_24 (by decide) ?_
  exact W.iret (v := (-101)) hx hb hr (fun t ht hW => ⟨⟨(-101), (), rfl, rfl, kB_mk ht hW hP hK hD⟩, hS.F ht⟩) hS.2.2 dX11_on_26
set_option maxHeartbeats 400000000 in
set_option maxRecDepth 100000 in
theorem c_X12_in_13 (l : Launch) (E : kE) (D : va_G) (cI cJ cB cZ : ClassId) (y0 : Int64) (e0 : ((lg_cmp y0 0) : Int32) < 0) : kI l E D (kT cI cJ cB cZ) yX12_in wsX12_in ({ frames := 0, cells := 0, slots := 0, locals := 0 }) [.long y0, .long 0, .long (-1)] [] (0) [] 0 0 := by
  intro sz
  refine Met.ofW (cc := cX12_in) (maxL := 6) (ret := (some .boolean)) (by decide) rfl ?_
  intro p e s m args below meth c s₁ B hml hv
  obtain ⟨rfl, hsz, hP, hK, hD0, hN, hX⟩ := hv
  have hx := B.exec
  have hb := B.bytes
  have hr := B.returns
  have hts := atoms_spec (ws := wsX12_in) B.pre
  have hown : s.vm.findClass RX12 = some m.cls := findClass_of_methodNamed B.named
  have hlocks := B.notSynchronized
  subst hsz
  have hD := hD0.self (sz := s.heap.size)
  have hAE := k_AE hD0 hX
  generalize hAe : va_A [] s.heap.size = A at hD hAE ⊢
  have hA : ∀ q : Nat, s.heap.size ≤ q → A q := fun q h => by rw [← hAe]; exact Or.inr h
  have hS : va_S A s.heap s.heap [] := va_S.rf
  have hP : va_P D vwCl [] s.heap := hP
  have hl := lv_entry ([.long y0, .long 0, .long (-1)] : List Value) (n := 6) (Nat.le_of_ble_eq_true rfl)
  rw [lg_entry_eq]
  generalize (lg_sl ([.long y0, .long 0, .long (-1)]) ++ List.replicate (6 - (lg_sl ([.long y0, .long 0, .long (-1)])).length) Slot.unset).toArray = ls at hl ⊢
  have hl : lv_has ls 6 [(0, .long y0), (2, .long 0), (4, .long (-1))] := hl
  refine lv_lload_n hx hb dX12_in_0 rfl (lv_at hl 0 rfl) ?_
  refine lv_lload_n hx hb dX12_in_1 rfl (lv_at hl 1 rfl) ?_
  refine W.lcmp hx hb dX12_in_2 ?_
  refine lv_if_lt (tgt := 17) hx hb dX12_in_3 (by decide) (fun _ => ?_) (fun c9 => absurd e0 c9)
  refine lv_iconst (v := 0) hx hb dX12_in_17 (by decide) ?_
  exact W.zret (v := 0) hx hb hr rfl (fun t ht hW => ⟨⟨0, (), rfl, rfl, kB_mk ht hW hP hK hD⟩, hS.F ht⟩) hS.2.2 dX12_in_18
set_option maxHeartbeats 400000000 in
set_option maxRecDepth 100000 in
theorem c_X12_turn_1 (l : Launch) (E : kE) (D : va_G) (cI cJ cB cZ : ClassId) (h0 : Nat) (f0 : List Value) (h1 : Nat) (g0 : Nat → Int32) (x0 : Int32) (e0 : f0[10]? = some (.ref h1)) (e1 : g0 0 = x0) (e2 : f0[33]? = some (.int 0)) (e3 : (x0 : Int32) < 0) (e4 : f0[14]? = some (.int 0)) : kI l E D (kT cI cJ cB cZ) yX12_turn wsX12_turn ({ frames := 1, cells := 0, slots := 0, locals := 25 }) [.ref h0] [(h0, .inr (12, f0)), (h1, .inl (cI, 2, .inl g0))] ((-101)) [(h0, .inr (12, (f0.set 14 (.int 1)))), (h1, .inl (cI, 2, .inl g0))] 0 0 := by
  intro sz
  refine Met.ofW (cc := cX12_turn) (maxL := 4) (ret := (some .int)) (by decide) rfl ?_
  intro p e s m args below meth c s₁ B hml hv
  obtain ⟨rfl, hsz, hP, hK, hD0, hN, hX⟩ := hv
  have hx := B.exec
  have hb := B.bytes
  have hr := B.returns
  have hts := atoms_spec (ws := wsX12_turn) B.pre
  have hown : s.vm.findClass RX12 = some m.cls := findClass_of_methodNamed B.named
  have hlocks := B.notSynchronized
  have hin12 : ∀ w ∈ wsX120, w ∈ wsX12_turn := (fun w h => (List.mem_cons_of_mem _ (List.mem_append_right _ h)))
  subst hsz
  have hD := hD0.self (sz := s.heap.size)
  have hAE := k_AE hD0 hX
  generalize hAe : va_A [(h0, .inr (12, f0)), (h1, .inl (cI, 2, .inl g0))] s.heap.size = A at hD hAE ⊢
  have hA : ∀ q : Nat, s.heap.size ≤ q → A q := fun q h => by rw [← hAe]; exact Or.inr h
  have hS : va_S A s.heap s.heap [] := va_S.rf
  have hP : va_P D vwCl [(h0, .inr (12, f0)), (h1, .inl (cI, 2, .inl g0))] s.heap := hP
  have hl := lv_entry ([.ref h0] : List Value) (n := 4) (Nat.le_of_ble_eq_true rfl)
  rw [lg_entry_eq]
  generalize (lg_sl ([.ref h0]) ++ List.replicate (4 - (lg_sl ([.ref h0])).length) Slot.unset).toArray = ls at hl ⊢
  have hl : lv_has ls 4 [(0, .ref h0)] := hl
  refine lv_aload_n hx hb dX12_turn_0 rfl (lv_at hl 0 rfl) ?_
  refine va_get (D := D) (ref := "IntegerHouseModel") (ci := 12) (v := .ref h1) (C := RX12) (T := TX12) (N := 195) hx hb hts hin12 hown hK hP 0 rfl rfl 10 (by decide) (hts (.fieldLink RX12 28 "IntegerHouseModel" "arg" "[I") (List.mem_cons_of_mem _ (List.mem_append_left _ (List.mem_of_getElem? (i := 0) rfl)))) (fun _ h9 => h9) e0 dX12_turn_1 ?_
  refine lv_iconst (v := 0) hx hb dX12_turn_4 (by decide) ?_
  refine va_iald hx hb hK hP 1 0 rfl rfl (k_in (by decide)) dX12_turn_5 ?_
  refine k_topi (y := x0) e1 ?_
  refine lv_istore_n (lv' := [(1, .int x0), (0, .ref h0)]) hx hb dX12_turn_6 rfl hl (by decide) rfl (fun ls hl => ?_)
  refine lv_iload_n hx hb dX12_turn_7 rfl (lv_at hl 0 rfl) ?_
  refine lv_i2l (v := (Int32.toInt64 x0)) hx hb dX12_turn_8 rfl ?_
  refine lv_lconst (v := 0) hx hb dX12_turn_9 (by decide) ?_
  refine lv_aload_n hx hb dX12_turn_10 rfl (lv_at hl 1 rfl) ?_
  refine va_get (D := D) (ref := "IntegerHouseModel") (ci := 12) (v := .int 0) (C := RX12) (T := TX12) (N := 195) hx hb hts hin12 hown hK hP 0 rfl rfl 33 (by decide) (hts (.fieldLink RX12 818 "IntegerHouseModel" "claims" "I") (List.mem_cons_of_mem _ (List.mem_append_left _ (List.mem_of_getElem? (i := 1) rfl)))) (fun _ h9 => h9) e2 dX12_turn_11 ?_
  refine lv_iconst (v := 1) hx hb dX12_turn_14 (by decide) ?_
  refine lv_isub hx hb dX12_turn_15 ?_
  refine k_topi (y := (-1)) (by decide) ?_
  refine lv_i2l (v := (-1)) hx hb dX12_turn_16 (by decide) ?_
  refine k_cSi (As := [.long (Int32.toInt64 x0), .long 0, .long (-1)]) (rest := []) (wc := []) (wr := [(h0, .inr (12, f0)), (h1, .inl (cI, 2, .inl g0))]) (w1 := []) ⟨hx, hb, hml, hown, hts⟩ hN hX hAE hK hP hD hS hA [] [0, 1] rfl rfl (by decide +kernel) (by decide +kernel) (by decide +kernel) (c_X12_in_13 l E D cI cJ cB cZ (Int32.toInt64 x0) ((k_n4 (x := x0) (c := 0) (C := 0) (by decide)).mpr e3)) (va_cwS 3 hts gX12_turn_X12_in rfl rfl rfl (by decide +kernel) ⟨Nat.le_of_ble_eq_true rfl, Nat.le_of_ble_eq_true rfl⟩) rfl hl.1 (Nat.le_of_ble_eq_true rfl) dX12_turn_17 ⟨Nat.le_of_ble_eq_true rfl, Nat.le_of_ble_eq_true rfl⟩ (fun H locs hP hD hS => ?_)
  have hP : va_P D vwCl [(h0, .inr (12, f0)), (h1, .inl (cI, 2, .inl g0))] H := hP
  have hD : va_D A [(h0, .inr (12, f0)), (h1, .inl (cI, 2, .inl g0))] := hD
  refine lv_if_ne (tgt := 30) hx hb dX12_turn_20 (by decide) (fun c9 => absurd (by decide) c9) (fun _ => ?_)
  refine lv_aload_n hx hb dX12_turn_23 rfl (lv_at hl 1 rfl) ?_
  refine lv_bipush (v := (-101)) hx hb dX12_turn_24 (by decide) ?_
  refine k_cVi (As := [.int (-101)]) (rest := []) (wc := [(h0, .inr (12, f0))]) (wr := [(h1, .inl (cI, 2, .inl g0))]) (w1 := [(h0, .inr (12, (f0.set 14 (.int 1))))]) ⟨hx, hb, hml, hown, hts⟩ hN hX hAE hK hP hD hS hA [0] [1] (ci := 12) rfl rfl rfl rfl (by decide +kernel) (by decide +kernel) (by decide +kernel) (c_X12_no_0 l E D cI cJ cB cZ h0 f0 e4) (cwV 1 hts gX12_turn_X12_no rfl rfl rfl (by decide +kernel) ⟨Nat.le_of_ble_eq_true rfl, Nat.le_of_ble_eq_true rfl⟩) rfl hl.1 (Nat.le_of_ble_eq_true rfl) dX12_turn_26 ⟨Nat.le_of_ble_eq_true rfl, Nat.le_of_ble_eq_true rfl⟩ (fun H locs hP hD hS => ?_)
  have hP : va_P D vwCl [(h1, .inl (cI, 2, .inl g0)), (h0, .inr (12, (f0.set 14 (.int 1))))] H := hP
  have hD : va_D A [(h1, .inl (cI, 2, .inl g0)), (h0, .inr (12, (f0.set 14 (.int 1))))] := hD
  have hP := hP.sub (ws' := [(h0, .inr (12, (f0.set 14 (.int 1)))), (h1, .inl (cI, 2, .inl g0))]) [1, 0] rfl
  have hD := hD.sub (ws' := [(h0, .inr (12, (f0.set 14 (.int 1)))), (h1, .inl (cI, 2, .inl g0))]) [1, 0] (by decide +kernel) rfl
  exact W.iret (v := (-101)) hx hb hr (fun t ht hW => ⟨⟨(-101), (), rfl, rfl, kB_mk ht hW hP hK hD⟩, hS.F ht⟩) hS.2.2 dX12_turn_29
set_option maxHeartbeats 400000000 in
set_option maxRecDepth 100000 in
theorem c_X12_act_2 (l : Launch) (E : kE) (D : va_G) (cI cJ cB cZ : ClassId) (h0 : Nat) (f0 : List Value) (h1 : Nat) (g0 : Nat → Int32) (x0 : Int32) (e0 : f0[15]? = some (.int 2)) (e1 : f0[10]? = some (.ref h1)) (e2 : g0 0 = x0) (e3 : f0[33]? = some (.int 0)) (e4 : f0[14]? = some (.int 0)) (e5 : (x0 : Int32) < 0) : kI l E D (kT cI cJ cB cZ) yX12_act wsX12_act ({ frames := 2, cells := 0, slots := 0, locals := 48 }) [.ref h0] [(h0, .inr (12, f0)), (h1, .inl (cI, 2, .inl g0))] ((-101)) [(h0, .inr (12, (f0.set 14 (.int 1)))), (h1, .inl (cI, 2, .inl g0))] 0 0 := by
  intro sz
  refine Met.ofW (cc := cX12_act) (maxL := 1) (ret := (some .int)) (by decide) rfl ?_
  intro p e s m args below meth c s₁ B hml hv
  obtain ⟨rfl, hsz, hP, hK, hD0, hN, hX⟩ := hv
  have hx := B.exec
  have hb := B.bytes
  have hr := B.returns
  have hts := atoms_spec (ws := wsX12_act) B.pre
  have hown : s.vm.findClass RX12 = some m.cls := findClass_of_methodNamed B.named
  have hlocks := B.notSynchronized
  have hin12 : ∀ w ∈ wsX120, w ∈ wsX12_act := (fun w h => (List.mem_cons_of_mem _ (List.mem_append_right _ h)))
  subst hsz
  have hD := hD0.self (sz := s.heap.size)
  have hAE := k_AE hD0 hX
  generalize hAe : va_A [(h0, .inr (12, f0)), (h1, .inl (cI, 2, .inl g0))] s.heap.size = A at hD hAE ⊢
  have hA : ∀ q : Nat, s.heap.size ≤ q → A q := fun q h => by rw [← hAe]; exact Or.inr h
  have hS : va_S A s.heap s.heap [] := va_S.rf
  have hP : va_P D vwCl [(h0, .inr (12, f0)), (h1, .inl (cI, 2, .inl g0))] s.heap := hP
  have hl := lv_entry ([.ref h0] : List Value) (n := 1) (Nat.le_of_ble_eq_true rfl)
  rw [lg_entry_eq]
  generalize (lg_sl ([.ref h0]) ++ List.replicate (1 - (lg_sl ([.ref h0])).length) Slot.unset).toArray = ls at hl ⊢
  have hl : lv_has ls 1 [(0, .ref h0)] := hl
  refine lv_aload_n hx hb dX12_act_0 rfl (lv_at hl 0 rfl) ?_
  refine va_get (D := D) (ref := "IntegerHouseModel") (ci := 12) (v := .int 2) (C := RX12) (T := TX12) (N := 195) hx hb hts hin12 hown hK hP 0 rfl rfl 15 (by decide) (hts (.fieldLink RX12 466 "IntegerHouseModel" "number" "I") (List.mem_cons_of_mem _ (List.mem_append_left _ (List.mem_append_left _ (List.mem_of_getElem? (i := 0) rfl))))) (fun _ h9 => h9) e0 dX12_act_1 ?_
  refine lv_tableIn (off := 33) (tgt := 37) hx hb dX12_act_4 (by decide) (by decide) rfl (by decide) ?_
  refine lv_aload_n hx hb dX12_act_37 rfl (lv_at hl 0 rfl) ?_
  refine k_cVi (As := []) (rest := []) (wc := [(h0, .inr (12, f0)), (h1, .inl (cI, 2, .inl g0))]) (wr := []) (w1 := [(h0, .inr (12, (f0.set 14 (.int 1)))), (h1, .inl (cI, 2, .inl g0))]) ⟨hx, hb, hml, hown, hts⟩ hN hX hAE hK hP hD hS hA [0, 1] [] (ci := 12) rfl rfl rfl rfl (by decide +kernel) (by decide +kernel) (by decide +kernel) (c_X12_turn_1 l E D cI cJ cB cZ h0 f0 h1 g0 x0 e1 e2 e3 e5 e4) (cwV 0 hts gX12_act_X12_turn rfl rfl rfl (by decide +kernel) ⟨Nat.le_of_ble_eq_true rfl, Nat.le_of_ble_eq_true rfl⟩) rfl hl.1 (Nat.le_of_ble_eq_true rfl) dX12_act_38 ⟨Nat.le_of_ble_eq_true rfl, Nat.le_of_ble_eq_true rfl⟩ (fun H locs hP hD hS => ?_)
  have hP : va_P D vwCl [(h0, .inr (12, (f0.set 14 (.int 1)))), (h1, .inl (cI, 2, .inl g0))] H := hP
  have hD : va_D A [(h0, .inr (12, (f0.set 14 (.int 1)))), (h1, .inl (cI, 2, .inl g0))] := hD
  exact W.iret (v := (-101)) hx hb hr (fun t ht hW => ⟨⟨(-101), (), rfl, rfl, kB_mk ht hW hP hK hD⟩, hS.F ht⟩) hS.2.2 dX12_act_41
set_option maxHeartbeats 400000000 in
set_option maxRecDepth 100000 in
theorem c_X12_call_2 (l : Launch) (E : kE) (D : va_G) (cI cJ cB cZ : ClassId) (h0 : Nat) (f0 : List Value) (h1 : Nat) (g0 : Nat → Int32) (x0 : Int32) (e0 : f0[0]? = some (.int 0)) (e1 : f0[5]? = some (.int 0)) (e2 : f0[15]? = some (.int 0)) (e3 : f0[13]? = some (.int 0)) (e4 : f0[14]? = some (.int 0)) (e5 : f0[10]? = some (.ref h1)) (e6 : g0 0 = x0) (e7 : f0[33]? = some (.int 0)) (e8 : (x0 : Int32) < 0) : kI l E D (kT cI cJ cB cZ) yX12_call wsX12_call ({ frames := 3, cells := 0, slots := 0, locals := 68 }) [.ref h0, .int 2] [(h0, .inr (12, f0)), (h1, .inl (cI, 2, .inl g0))] ((-101)) [(h0, .inr (12, (((((f0.set 0 (.int 0)).set 15 (.int 2)).set 13 (.int 0)).set 14 (.int 0)).set 14 (.int 1)))), (h1, .inl (cI, 2, .inl g0))] 0 0 := by
  intro sz
  refine Met.ofW (cc := cX12_call) (maxL := 4) (ret := (some .int)) (by decide) rfl ?_
  intro p e s m args below meth c s₁ B hml hv
  obtain ⟨rfl, hsz, hP, hK, hD0, hN, hX⟩ := hv
  have hx := B.exec
  have hb := B.bytes
  have hr := B.returns
  have hts := atoms_spec (ws := wsX12_call) B.pre
  have hown : s.vm.findClass RX12 = some m.cls := findClass_of_methodNamed B.named
  have hlocks := B.notSynchronized
  have hin12 : ∀ w ∈ wsX120, w ∈ wsX12_call := (fun w h => (List.mem_cons_of_mem _ (List.mem_append_right _ h)))
  subst hsz
  have hD := hD0.self (sz := s.heap.size)
  have hAE := k_AE hD0 hX
  generalize hAe : va_A [(h0, .inr (12, f0)), (h1, .inl (cI, 2, .inl g0))] s.heap.size = A at hD hAE ⊢
  have hA : ∀ q : Nat, s.heap.size ≤ q → A q := fun q h => by rw [← hAe]; exact Or.inr h
  have hS : va_S A s.heap s.heap [] := va_S.rf
  have hP : va_P D vwCl [(h0, .inr (12, f0)), (h1, .inl (cI, 2, .inl g0))] s.heap := hP
  have hl := lv_entry ([.ref h0, .int 2] : List Value) (n := 4) (Nat.le_of_ble_eq_true rfl)
  rw [lg_entry_eq]
  generalize (lg_sl ([.ref h0, .int 2]) ++ List.replicate (4 - (lg_sl ([.ref h0, .int 2])).length) Slot.unset).toArray = ls at hl ⊢
  have hl : lv_has ls 4 [(0, .ref h0), (1, .int 2)] := hl
  refine lv_aload_n hx hb dX12_call_0 rfl (lv_at hl 0 rfl) ?_
  refine lv_iconst (v := 0) hx hb dX12_call_1 (by decide) ?_
  refine va_put (D := D) (ref := "IntegerHouseModel") (ci := 12) (v := .int 0) (ty := .int) (C := RX12) (T := TX12) (N := 195) hx hb hts hin12 tyX12 tyX12_ok nmX12 hown hK hP hD hS 0 rfl rfl 0 (by decide) (hts (.fieldLink RX12 3 "IntegerHouseModel" "thrown" "I") (List.mem_cons_of_mem _ (List.mem_append_left _ (List.mem_append_left _ (List.mem_of_getElem? (i := 0) rfl))))) (fun _ h9 => h9) rfl (by decide +kernel) rfl rfl (k_len e0) dX12_call_2 (fun H locs hP hD hS => ?_)
  have hP : va_P D vwCl [(h0, .inr (12, (f0.set 0 (.int 0)))), (h1, .inl (cI, 2, .inl g0))] H := hP
  have hD : va_D A [(h0, .inr (12, (f0.set 0 (.int 0)))), (h1, .inl (cI, 2, .inl g0))] := hD
  refine lv_aload_n hx hb dX12_call_5 rfl (lv_at hl 0 rfl) ?_
  refine va_get (D := D) (ref := "IntegerHouseModel") (ci := 12) (v := .int 0) (C := RX12) (T := TX12) (N := 195) hx hb hts hin12 hown hK hP 0 rfl rfl 5 (by decide) (hts (.fieldLink RX12 488 "IntegerHouseModel" "down" "Z") (List.mem_cons_of_mem _ (List.mem_append_left _ (List.mem_append_left _ (List.mem_of_getElem? (i := 1) rfl))))) (fun _ h9 => h9) (k_ne (by decide) e1) dX12_call_6 ?_
  refine lv_if_eq (tgt := 15) hx hb dX12_call_9 (by decide) (fun _ => ?_) (fun c9 => absurd (by decide) c9)
  refine lv_aload_n hx hb dX12_call_15 rfl (lv_at hl 0 rfl) ?_
  refine lv_iload_n hx hb dX12_call_16 rfl (lv_at hl 1 rfl) ?_
  refine va_put (D := D) (ref := "IntegerHouseModel") (ci := 12) (v := .int 2) (ty := .int) (C := RX12) (T := TX12) (N := 195) hx hb hts hin12 tyX12 tyX12_ok nmX12 hown hK hP hD hS 0 rfl rfl 15 (by decide) (hts (.fieldLink RX12 466 "IntegerHouseModel" "number" "I") (List.mem_cons_of_mem _ (List.mem_append_left _ (List.mem_append_left _ (List.mem_of_getElem? (i := 2) rfl))))) (fun _ h9 => h9) rfl (by decide +kernel) rfl rfl (k_len (k_ne (by decide) e2)) dX12_call_17 (fun H locs hP hD hS => ?_)
  have hP : va_P D vwCl [(h0, .inr (12, ((f0.set 0 (.int 0)).set 15 (.int 2)))), (h1, .inl (cI, 2, .inl g0))] H := hP
  have hD : va_D A [(h0, .inr (12, ((f0.set 0 (.int 0)).set 15 (.int 2)))), (h1, .inl (cI, 2, .inl g0))] := hD
  refine lv_aload_n hx hb dX12_call_20 rfl (lv_at hl 0 rfl) ?_
  refine lv_iconst (v := 0) hx hb dX12_call_21 (by decide) ?_
  refine va_put (D := D) (ref := "IntegerHouseModel") (ci := 12) (v := .int 0) (ty := .boolean) (C := RX12) (T := TX12) (N := 195) hx hb hts hin12 tyX12 tyX12_ok nmX12 hown hK hP hD hS 0 rfl rfl 13 (by decide) (hts (.fieldLink RX12 472 "IntegerHouseModel" "replay" "Z") (List.mem_cons_of_mem _ (List.mem_append_left _ (List.mem_append_left _ (List.mem_of_getElem? (i := 3) rfl))))) (fun _ h9 => h9) rfl (by decide +kernel) rfl rfl (k_len (k_ne (by decide) (k_ne (by decide) e3))) dX12_call_22 (fun H locs hP hD hS => ?_)
  have hP : va_P D vwCl [(h0, .inr (12, (((f0.set 0 (.int 0)).set 15 (.int 2)).set 13 (.int 0)))), (h1, .inl (cI, 2, .inl g0))] H := hP
  have hD : va_D A [(h0, .inr (12, (((f0.set 0 (.int 0)).set 15 (.int 2)).set 13 (.int 0)))), (h1, .inl (cI, 2, .inl g0))] := hD
  refine lv_aload_n hx hb dX12_call_25 rfl (lv_at hl 0 rfl) ?_
  refine lv_iconst (v := 0) hx hb dX12_call_26 (by decide) ?_
  refine va_put (D := D) (ref := "IntegerHouseModel") (ci := 12) (v := .int 0) (ty := .boolean) (C := RX12) (T := TX12) (N := 195) hx hb hts hin12 tyX12 tyX12_ok nmX12 hown hK hP hD hS 0 rfl rfl 14 (by decide) (hts (.fieldLink RX12 462 "IntegerHouseModel" "refused" "Z") (List.mem_cons_of_mem _ (List.mem_append_left _ (List.mem_append_left _ (List.mem_of_getElem? (i := 4) rfl))))) (fun _ h9 => h9) rfl (by decide +kernel) rfl rfl (k_len (k_ne (by decide) (k_ne (by decide) (k_ne (by decide) e4)))) dX12_call_27 (fun H locs hP hD hS => ?_)
  have hP : va_P D vwCl [(h0, .inr (12, ((((f0.set 0 (.int 0)).set 15 (.int 2)).set 13 (.int 0)).set 14 (.int 0)))), (h1, .inl (cI, 2, .inl g0))] H := hP
  have hD : va_D A [(h0, .inr (12, ((((f0.set 0 (.int 0)).set 15 (.int 2)).set 13 (.int 0)).set 14 (.int 0)))), (h1, .inl (cI, 2, .inl g0))] := hD
  refine lv_iload_n hx hb dX12_call_30 rfl (lv_at hl 1 rfl) ?_
  refine lv_iconst (v := 1) hx hb dX12_call_31 (by decide) ?_
  refine lv_icmp_ne (tgt := 39) hx hb dX12_call_32 (by decide) (fun _ => ?_) (fun c9 => absurd c9 (by decide))
  refine lv_aload_n hx hb dX12_call_39 rfl (lv_at hl 0 rfl) ?_
  refine k_cVi (As := []) (rest := []) (wc := [(h0, .inr (12, ((((f0.set 0 (.int 0)).set 15 (.int 2)).set 13 (.int 0)).set 14 (.int 0)))), (h1, .inl (cI, 2, .inl g0))]) (wr := []) (w1 := [(h0, .inr (12, (((((f0.set 0 (.int 0)).set 15 (.int 2)).set 13 (.int 0)).set 14 (.int 0)).set 14 (.int 1)))), (h1, .inl (cI, 2, .inl g0))]) ⟨hx, hb, hml, hown, hts⟩ hN hX hAE hK hP hD hS hA [0, 1] [] (ci := 12) rfl rfl rfl rfl (by decide +kernel) (by decide +kernel) (by decide +kernel) (c_X12_act_2 l E D cI cJ cB cZ h0 (((((f0.set 0 (.int 0)).set 15 (.int 2)).set 13 (.int 0)).set 14 (.int 0))) h1 g0 x0 (k_ne (by decide) (k_ne (by decide) (k_set (k_ne (by decide) e2)))) (k_ne (by decide) (k_ne (by decide) (k_ne (by decide) (k_ne (by decide) e5)))) e6 (k_ne (by decide) (k_ne (by decide) (k_ne (by decide) (k_ne (by decide) e7)))) (k_set (k_ne (by decide) (k_ne (by decide) (k_ne (by decide) e4)))) e8) (cwV 0 hts gX12_call_X12_act rfl rfl rfl (by decide +kernel) ⟨Nat.le_of_ble_eq_true rfl, Nat.le_of_ble_eq_true rfl⟩) rfl hl.1 (Nat.le_of_ble_eq_true rfl) dX12_call_40 ⟨Nat.le_of_ble_eq_true rfl, Nat.le_of_ble_eq_true rfl⟩ (fun H locs hP hD hS => ?_)
  have hP : va_P D vwCl [(h0, .inr (12, (((((f0.set 0 (.int 0)).set 15 (.int 2)).set 13 (.int 0)).set 14 (.int 0)).set 14 (.int 1)))), (h1, .inl (cI, 2, .inl g0))] H := hP
  have hD : va_D A [(h0, .inr (12, (((((f0.set 0 (.int 0)).set 15 (.int 2)).set 13 (.int 0)).set 14 (.int 0)).set 14 (.int 1)))), (h1, .inl (cI, 2, .inl g0))] := hD
  refine lv_istore_n (lv' := [(2, .int (-101)), (0, .ref h0), (1, .int 2)]) hx hb dX12_call_43 rfl hl (by decide) rfl (fun ls hl => ?_)
  refine lv_aload_n hx hb dX12_call_44 rfl (lv_at hl 1 rfl) ?_
  refine va_get (D := D) (ref := "IntegerHouseModel") (ci := 12) (v := .int 1) (C := RX12) (T := TX12) (N := 195) hx hb hts hin12 hown hK hP 0 rfl rfl 14 (by decide) (hts (.fieldLink RX12 462 "IntegerHouseModel" "refused" "Z") (List.mem_cons_of_mem _ (List.mem_append_left _ (List.mem_append_left _ (List.mem_of_getElem? (i := 4) rfl))))) (fun _ h9 => h9) (k_set (k_set (k_ne (by decide) (k_ne (by decide) (k_ne (by decide) e4))))) dX12_call_45 ?_
  refine lv_if_ne (tgt := 141) hx hb dX12_call_48 (by decide) (fun _ => ?_) (fun c9 => absurd c9 (by decide))
  refine lv_iload_n hx hb dX12_call_141 rfl (lv_at hl 0 rfl) ?_
  exact W.iret (v := (-101)) hx hb hr (fun t ht hW => ⟨⟨(-101), (), rfl, rfl, kB_mk ht hW hP hK hD⟩, hS.F ht⟩) hS.2.2 dX12_call_142
set_option maxHeartbeats 400000000 in
set_option maxRecDepth 100000 in
theorem c_X12_on_2 (l : Launch) (E : kE) (D : va_G) (cI cJ cB cZ : ClassId) (h0 : Nat) (x0 : Int32) (f0 : List Value) (h1 : Nat) (g0 : Nat → Int32) (e0 : f0[10]? = some (.ref h1)) (e1 : f0[0]? = some (.int 0)) (e2 : f0[5]? = some (.int 0)) (e3 : f0[15]? = some (.int 0)) (e4 : f0[13]? = some (.int 0)) (e5 : f0[14]? = some (.int 0)) (e6 : f0[33]? = some (.int 0)) (e7 : (x0 : Int32) < 0) : kI l E D (kT cI cJ cB cZ) yX12_on wsX12_on ({ frames := 4, cells := 0, slots := 0, locals := 91 }) [.ref h0, .int x0, .int 0] [(h0, .inr (12, f0)), (h1, .inl (cI, 2, .inl g0))] ((-101)) [(h0, .inr (12, (((((f0.set 0 (.int 0)).set 15 (.int 2)).set 13 (.int 0)).set 14 (.int 0)).set 14 (.int 1)))), (h1, .inl (cI, 2, .inl (upd (upd g0 0 x0) 1 0)))] 0 0 := by
  intro sz
  refine Met.ofW (cc := cX12_on) (maxL := 3) (ret := (some .int)) (by decide) rfl ?_
  intro p e s m args below meth c s₁ B hml hv
  obtain ⟨rfl, hsz, hP, hK, hD0, hN, hX⟩ := hv
  have hx := B.exec
  have hb := B.bytes
  have hr := B.returns
  have hts := atoms_spec (ws := wsX12_on) B.pre
  have hown : s.vm.findClass RX12 = some m.cls := findClass_of_methodNamed B.named
  have hlocks := B.notSynchronized
  have hin12 : ∀ w ∈ wsX120, w ∈ wsX12_on := (fun w h => (List.mem_cons_of_mem _ (List.mem_append_right _ h)))
  subst hsz
  have hD := hD0.self (sz := s.heap.size)
  have hAE := k_AE hD0 hX
  generalize hAe : va_A [(h0, .inr (12, f0)), (h1, .inl (cI, 2, .inl g0))] s.heap.size = A at hD hAE ⊢
  have hA : ∀ q : Nat, s.heap.size ≤ q → A q := fun q h => by rw [← hAe]; exact Or.inr h
  have hS : va_S A s.heap s.heap [] := va_S.rf
  have hP : va_P D vwCl [(h0, .inr (12, f0)), (h1, .inl (cI, 2, .inl g0))] s.heap := hP
  have hl := lv_entry ([.ref h0, .int x0, .int 0] : List Value) (n := 3) (Nat.le_of_ble_eq_true rfl)
  rw [lg_entry_eq]
  generalize (lg_sl ([.ref h0, .int x0, .int 0]) ++ List.replicate (3 - (lg_sl ([.ref h0, .int x0, .int 0])).length) Slot.unset).toArray = ls at hl ⊢
  have hl : lv_has ls 3 [(0, .ref h0), (1, .int x0), (2, .int 0)] := hl
  refine lv_aload_n hx hb dX12_on_0 rfl (lv_at hl 0 rfl) ?_
  refine va_get (D := D) (ref := "IntegerHouseModel") (ci := 12) (v := .ref h1) (C := RX12) (T := TX12) (N := 195) hx hb hts hin12 hown hK hP 0 rfl rfl 10 (by decide) (hts (.fieldLink RX12 28 "IntegerHouseModel" "arg" "[I") (List.mem_cons_of_mem _ (List.mem_append_left _ (List.mem_append_left _ (List.mem_of_getElem? (i := 0) rfl))))) (fun _ h9 => h9) e0 dX12_on_1 ?_
  refine lv_iconst (v := 0) hx hb dX12_on_4 (by decide) ?_
  refine lv_iload_n hx hb dX12_on_5 rfl (lv_at hl 1 rfl) ?_
  refine va_iast hx hb hK hP hD hS 1 0 rfl rfl (k_in (by decide)) dX12_on_6 (fun H locs hP hD hS => ?_)
  have hP : va_P D vwCl [(h0, .inr (12, f0)), (h1, .inl (cI, 2, .inl (upd g0 0 x0)))] H := hP
  have hD : va_D A [(h0, .inr (12, f0)), (h1, .inl (cI, 2, .inl (upd g0 0 x0)))] := hD
  refine lv_aload_n hx hb dX12_on_7 rfl (lv_at hl 0 rfl) ?_
  refine va_get (D := D) (ref := "IntegerHouseModel") (ci := 12) (v := .ref h1) (C := RX12) (T := TX12) (N := 195) hx hb hts hin12 hown hK hP 0 rfl rfl 10 (by decide) (hts (.fieldLink RX12 28 "IntegerHouseModel" "arg" "[I") (List.mem_cons_of_mem _ (List.mem_append_left _ (List.mem_append_left _ (List.mem_of_getElem? (i := 0) rfl))))) (fun _ h9 => h9) e0 dX12_on_8 ?_
  refine lv_iconst (v := 1) hx hb dX12_on_11 (by decide) ?_
  refine lv_iload_n hx hb dX12_on_12 rfl (lv_at hl 2 rfl) ?_
  refine lv_if_eq (tgt := 20) hx hb dX12_on_13 (by decide) (fun _ => ?_) (fun c9 => absurd (by decide) c9)
  refine lv_iconst (v := 0) hx hb dX12_on_20 (by decide) ?_
  refine va_iast hx hb hK hP hD hS 1 0 rfl rfl (k_in (by decide)) dX12_on_21 (fun H locs hP hD hS => ?_)
  have hP : va_P D vwCl [(h0, .inr (12, f0)), (h1, .inl (cI, 2, .inl (upd (upd g0 0 x0) 1 0)))] H := hP
  have hD : va_D A [(h0, .inr (12, f0)), (h1, .inl (cI, 2, .inl (upd (upd g0 0 x0) 1 0)))] := hD
  refine lv_aload_n hx hb dX12_on_22 rfl (lv_at hl 0 rfl) ?_
  refine lv_iconst (v := 2) hx hb dX12_on_23 (by decide) ?_
  refine k_cVi (As := [.int 2]) (rest := []) (wc := [(h0, .inr (12, f0)), (h1, .inl (cI, 2, .inl (upd (upd g0 0 x0) 1 0)))]) (wr := []) (w1 := [(h0, .inr (12, (((((f0.set 0 (.int 0)).set 15 (.int 2)).set 13 (.int 0)).set 14 (.int 0)).set 14 (.int 1)))), (h1, .inl (cI, 2, .inl (upd (upd g0 0 x0) 1 0)))]) ⟨hx, hb, hml, hown, hts⟩ hN hX hAE hK hP hD hS hA [0, 1] [] (ci := 12) rfl rfl rfl rfl (by decide +kernel) (by decide +kernel) (by decide +kernel) (c_X12_call_2 l E D cI cJ cB cZ h0 f0 h1 ((upd (upd g0 0 x0) 1 0)) x0 e1 e2 e3 e4 e5 e0 rfl e6 e7) (cwV 1 hts gX12_on_X12_call rfl rfl rfl (by decide +kernel) ⟨Nat.le_of_ble_eq_true rfl, Nat.le_of_ble_eq_true rfl⟩) rfl hl.1 (Nat.le_of_ble_eq_true rfl) dX12_on_24 ⟨Nat.le_of_ble_eq_true rfl, Nat.le_of_ble_eq_true rfl⟩ (fun H locs hP hD hS => ?_)
  have hP : va_P D vwCl [(h0, .inr (12, (((((f0.set 0 (.int 0)).set 15 (.int 2)).set 13 (.int 0)).set 14 (.int 0)).set 14 (.int 1)))), (h1, .inl (cI, 2, .inl (upd (upd g0 0 x0) 1 0)))] H := hP
  have hD : va_D A [(h0, .inr (12, (((((f0.set 0 (.int 0)).set 15 (.int 2)).set 13 (.int 0)).set 14 (.int 0)).set 14 (.int 1)))), (h1, .inl (cI, 2, .inl (upd (upd g0 0 x0) 1 0)))] := hD
  exact W.iret (v := (-101)) hx hb hr (fun t ht hW => ⟨⟨(-101), (), rfl, rfl, kB_mk ht hW hP hK hD⟩, hS.F ht⟩) hS.2.2 dX12_on_27
set_option maxHeartbeats 400000000 in
set_option maxRecDepth 100000 in
theorem c_X11_on_3 (l : Launch) (E : kE) (D : va_G) (cI cJ cB cZ : ClassId) (h0 : Nat) (x0 : Int32) (f0 : List Value) (h1 : Nat) (f1 : List Value) (h2 : Nat) (e0 : f0[1]? = some (.ref h1)) (e1 : f1[8]? = some (.int 0)) (e2 : f0[2]? = some (.ref h2)) (e3 : (x0 : Int32) < 0) : kI l E D (kT cI cJ cB cZ) yX11_on wsX11_on ({ frames := 1, cells := 0, slots := 0, locals := 21 }) [.ref h0, .int x0, .int 1] [(h0, .inr (11, f0)), (h1, .inr (1, f1))] ((-101)) [(h0, .inr (11, f0)), (h1, .inr (1, f1))] 0 0 := by
  intro sz
  refine Met.ofW (cc := cX11_on) (maxL := 4) (ret := (some .int)) (by decide) rfl ?_
  intro p e s m args below meth c s₁ B hml hv
  obtain ⟨rfl, hsz, hP, hK, hD0, hN, hX⟩ := hv
  have hx := B.exec
  have hb := B.bytes
  have hr := B.returns
  have hts := atoms_spec (ws := wsX11_on) B.pre
  have hown : s.vm.findClass RX11 = some m.cls := findClass_of_methodNamed B.named
  have hlocks := B.notSynchronized
  have hin11 : ∀ w ∈ wsX110, w ∈ wsX11_on := (fun w h => (List.mem_cons_of_mem _ (List.mem_append_left _ (List.mem_append_left _ (List.mem_append_right _ h)))))
  have hin1 : ∀ w ∈ wsX10, w ∈ wsX11_on := (fun w h => (List.mem_cons_of_mem _ (List.mem_append_left _ (List.mem_append_right _ h))))
  subst hsz
  have hD := hD0.self (sz := s.heap.size)
  have hAE := k_AE hD0 hX
  generalize hAe : va_A [(h0, .inr (11, f0)), (h1, .inr (1, f1))] s.heap.size = A at hD hAE ⊢
  have hA : ∀ q : Nat, s.heap.size ≤ q → A q := fun q h => by rw [← hAe]; exact Or.inr h
  have hS : va_S A s.heap s.heap [] := va_S.rf
  have hP : va_P D vwCl [(h0, .inr (11, f0)), (h1, .inr (1, f1))] s.heap := hP
  have hl := lv_entry ([.ref h0, .int x0, .int 1] : List Value) (n := 4) (Nat.le_of_ble_eq_true rfl)
  rw [lg_entry_eq]
  generalize (lg_sl ([.ref h0, .int x0, .int 1]) ++ List.replicate (4 - (lg_sl ([.ref h0, .int x0, .int 1])).length) Slot.unset).toArray = ls at hl ⊢
  have hl : lv_has ls 4 [(0, .ref h0), (1, .int x0), (2, .int 1)] := hl
  refine lv_aload_n hx hb dX11_on_0 rfl (lv_at hl 0 rfl) ?_
  refine va_get (D := D) (ref := "IntegerHouse") (ci := 11) (v := .ref h1) (C := RX11) (T := TX11) (N := 15) hx hb hts hin11 hown hK hP 0 rfl rfl 1 (by decide) (hts (.fieldLink RX11 16 "IntegerHouse" "disk" "LIntegerHouse$Disk;") (List.mem_cons_of_mem _ (List.mem_append_left _ (List.mem_append_left _ (List.mem_append_left _ (List.mem_append_left _ (List.mem_of_getElem? (i := 0) rfl))))))) (fun _ h9 => h9) e0 dX11_on_1 ?_
  refine va_getN (host := "IntegerHouse") (D := D) (ref := "IntegerHouse$Disk") (ci := 1) (v := .int 0) (C := RX1) (T := TX1) (N := 9) hx hb hts hin1 hown hK hP 1 rfl rfl 8 (by decide) (va_Nw.use rfl (hN.1 ("IntegerHouse", 122, "IntegerHouse$Disk", "down", "Z", "IntegerHouse") (List.mem_of_getElem? (i := 3) rfl))) (fun _ h9 => h9) e1 dX11_on_4 ?_
  refine lv_if_eq (tgt := 13) hx hb dX11_on_7 (by decide) (fun _ => ?_) (fun c9 => absurd (by decide) c9)
  refine lv_aload_n hx hb dX11_on_13 rfl (lv_at hl 0 rfl) ?_
  refine va_get (D := D) (ref := "IntegerHouse") (ci := 11) (v := .ref h2) (C := RX11) (T := TX11) (N := 15) hx hb hts hin11 hown hK hP 0 rfl rfl 2 (by decide) (hts (.fieldLink RX11 23 "IntegerHouse" "house" "LIntegerHouse$House;") (List.mem_cons_of_mem _ (List.mem_append_left _ (List.mem_append_left _ (List.mem_append_left _ (List.mem_append_left _ (List.mem_of_getElem? (i := 1) rfl))))))) (fun _ h9 => h9) e2 dX11_on_14 ?_
  refine lv_iload_n hx hb dX11_on_17 rfl (lv_at hl 1 rfl) ?_
  refine k_cVi (As := [.int x0]) (rest := []) (wc := []) (wr := [(h0, .inr (11, f0)), (h1, .inr (1, f1))]) (w1 := []) ⟨hx, hb, hml, hown, hts⟩ hN hX hAE hK hP hD hS hA [] [0, 1] (ci := 2) rfl rfl rfl rfl (by decide +kernel) (by decide +kernel) (by decide +kernel) (c_X2_isClaim_1 l E D cI cJ cB cZ h2 x0 e3) (cwV 1 hts gX11_on_X2_isClaim rfl rfl rfl (by decide +kernel) ⟨Nat.le_of_ble_eq_true rfl, Nat.le_of_ble_eq_true rfl⟩) rfl hl.1 (Nat.le_of_ble_eq_true rfl) dX11_on_18 ⟨Nat.le_of_ble_eq_true rfl, Nat.le_of_ble_eq_true rfl⟩ (fun H locs hP hD hS => ?_)
  have hP : va_P D vwCl [(h0, .inr (11, f0)), (h1, .inr (1, f1))] H := hP
  have hD : va_D A [(h0, .inr (11, f0)), (h1, .inr (1, f1))] := hD
  refine lv_if_ne (tgt := 27) hx hb dX11_on_21 (by decide) (fun c9 => absurd (by decide) c9) (fun _ => ?_)
  refine lv_bipush (v := (-101)) hx hb dX11_on_24 (by decide) ?_
  exact W.iret (v := (-101)) hx hb hr (fun t ht hW => ⟨⟨(-101), (), rfl, rfl, kB_mk ht hW hP hK hD⟩, hS.F ht⟩) hS.2.2 dX11_on_26
set_option maxHeartbeats 400000000 in
set_option maxRecDepth 100000 in
theorem c_X12_on_3 (l : Launch) (E : kE) (D : va_G) (cI cJ cB cZ : ClassId) (h0 : Nat) (x0 : Int32) (f0 : List Value) (h1 : Nat) (g0 : Nat → Int32) (e0 : f0[10]? = some (.ref h1)) (e1 : f0[0]? = some (.int 0)) (e2 : f0[5]? = some (.int 0)) (e3 : f0[15]? = some (.int 0)) (e4 : f0[13]? = some (.int 0)) (e5 : f0[14]? = some (.int 0)) (e6 : f0[33]? = some (.int 0)) (e7 : (x0 : Int32) < 0) : kI l E D (kT cI cJ cB cZ) yX12_on wsX12_on ({ frames := 4, cells := 0, slots := 0, locals := 91 }) [.ref h0, .int x0, .int 1] [(h0, .inr (12, f0)), (h1, .inl (cI, 2, .inl g0))] ((-101)) [(h0, .inr (12, (((((f0.set 0 (.int 0)).set 15 (.int 2)).set 13 (.int 0)).set 14 (.int 0)).set 14 (.int 1)))), (h1, .inl (cI, 2, .inl (upd (upd g0 0 x0) 1 1)))] 0 0 := by
  intro sz
  refine Met.ofW (cc := cX12_on) (maxL := 3) (ret := (some .int)) (by decide) rfl ?_
  intro p e s m args below meth c s₁ B hml hv
  obtain ⟨rfl, hsz, hP, hK, hD0, hN, hX⟩ := hv
  have hx := B.exec
  have hb := B.bytes
  have hr := B.returns
  have hts := atoms_spec (ws := wsX12_on) B.pre
  have hown : s.vm.findClass RX12 = some m.cls := findClass_of_methodNamed B.named
  have hlocks := B.notSynchronized
  have hin12 : ∀ w ∈ wsX120, w ∈ wsX12_on := (fun w h => (List.mem_cons_of_mem _ (List.mem_append_right _ h)))
  subst hsz
  have hD := hD0.self (sz := s.heap.size)
  have hAE := k_AE hD0 hX
  generalize hAe : va_A [(h0, .inr (12, f0)), (h1, .inl (cI, 2, .inl g0))] s.heap.size = A at hD hAE ⊢
  have hA : ∀ q : Nat, s.heap.size ≤ q → A q := fun q h => by rw [← hAe]; exact Or.inr h
  have hS : va_S A s.heap s.heap [] := va_S.rf
  have hP : va_P D vwCl [(h0, .inr (12, f0)), (h1, .inl (cI, 2, .inl g0))] s.heap := hP
  have hl := lv_entry ([.ref h0, .int x0, .int 1] : List Value) (n := 3) (Nat.le_of_ble_eq_true rfl)
  rw [lg_entry_eq]
  generalize (lg_sl ([.ref h0, .int x0, .int 1]) ++ List.replicate (3 - (lg_sl ([.ref h0, .int x0, .int 1])).length) Slot.unset).toArray = ls at hl ⊢
  have hl : lv_has ls 3 [(0, .ref h0), (1, .int x0), (2, .int 1)] := hl
  refine lv_aload_n hx hb dX12_on_0 rfl (lv_at hl 0 rfl) ?_
  refine va_get (D := D) (ref := "IntegerHouseModel") (ci := 12) (v := .ref h1) (C := RX12) (T := TX12) (N := 195) hx hb hts hin12 hown hK hP 0 rfl rfl 10 (by decide) (hts (.fieldLink RX12 28 "IntegerHouseModel" "arg" "[I") (List.mem_cons_of_mem _ (List.mem_append_left _ (List.mem_append_left _ (List.mem_of_getElem? (i := 0) rfl))))) (fun _ h9 => h9) e0 dX12_on_1 ?_
  refine lv_iconst (v := 0) hx hb dX12_on_4 (by decide) ?_
  refine lv_iload_n hx hb dX12_on_5 rfl (lv_at hl 1 rfl) ?_
  refine va_iast hx hb hK hP hD hS 1 0 rfl rfl (k_in (by decide)) dX12_on_6 (fun H locs hP hD hS => ?_)
  have hP : va_P D vwCl [(h0, .inr (12, f0)), (h1, .inl (cI, 2, .inl (upd g0 0 x0)))] H := hP
  have hD : va_D A [(h0, .inr (12, f0)), (h1, .inl (cI, 2, .inl (upd g0 0 x0)))] := hD
  refine lv_aload_n hx hb dX12_on_7 rfl (lv_at hl 0 rfl) ?_
  refine va_get (D := D) (ref := "IntegerHouseModel") (ci := 12) (v := .ref h1) (C := RX12) (T := TX12) (N := 195) hx hb hts hin12 hown hK hP 0 rfl rfl 10 (by decide) (hts (.fieldLink RX12 28 "IntegerHouseModel" "arg" "[I") (List.mem_cons_of_mem _ (List.mem_append_left _ (List.mem_append_left _ (List.mem_of_getElem? (i := 0) rfl))))) (fun _ h9 => h9) e0 dX12_on_8 ?_
  refine lv_iconst (v := 1) hx hb dX12_on_11 (by decide) ?_
  refine lv_iload_n hx hb dX12_on_12 rfl (lv_at hl 2 rfl) ?_
  refine lv_if_eq (tgt := 20) hx hb dX12_on_13 (by decide) (fun c9 => absurd c9 (by decide)) (fun _ => ?_)
  refine lv_iconst (v := 1) hx hb dX12_on_16 (by decide) ?_
  refine lv_goto (tgt := 21) hx hb dX12_on_17 (by decide) ?_
  refine va_iast hx hb hK hP hD hS 1 0 rfl rfl (k_in (by decide)) dX12_on_21 (fun H locs hP hD hS => ?_)
  have hP : va_P D vwCl [(h0, .inr (12, f0)), (h1, .inl (cI, 2, .inl (upd (upd g0 0 x0) 1 1)))] H := hP
  have hD : va_D A [(h0, .inr (12, f0)), (h1, .inl (cI, 2, .inl (upd (upd g0 0 x0) 1 1)))] := hD
  refine lv_aload_n hx hb dX12_on_22 rfl (lv_at hl 0 rfl) ?_
  refine lv_iconst (v := 2) hx hb dX12_on_23 (by decide) ?_
  refine k_cVi (As := [.int 2]) (rest := []) (wc := [(h0, .inr (12, f0)), (h1, .inl (cI, 2, .inl (upd (upd g0 0 x0) 1 1)))]) (wr := []) (w1 := [(h0, .inr (12, (((((f0.set 0 (.int 0)).set 15 (.int 2)).set 13 (.int 0)).set 14 (.int 0)).set 14 (.int 1)))), (h1, .inl (cI, 2, .inl (upd (upd g0 0 x0) 1 1)))]) ⟨hx, hb, hml, hown, hts⟩ hN hX hAE hK hP hD hS hA [0, 1] [] (ci := 12) rfl rfl rfl rfl (by decide +kernel) (by decide +kernel) (by decide +kernel) (c_X12_call_2 l E D cI cJ cB cZ h0 f0 h1 ((upd (upd g0 0 x0) 1 1)) x0 e1 e2 e3 e4 e5 e0 rfl e6 e7) (cwV 1 hts gX12_on_X12_call rfl rfl rfl (by decide +kernel) ⟨Nat.le_of_ble_eq_true rfl, Nat.le_of_ble_eq_true rfl⟩) rfl hl.1 (Nat.le_of_ble_eq_true rfl) dX12_on_24 ⟨Nat.le_of_ble_eq_true rfl, Nat.le_of_ble_eq_true rfl⟩ (fun H locs hP hD hS => ?_)
  have hP : va_P D vwCl [(h0, .inr (12, (((((f0.set 0 (.int 0)).set 15 (.int 2)).set 13 (.int 0)).set 14 (.int 0)).set 14 (.int 1)))), (h1, .inl (cI, 2, .inl (upd (upd g0 0 x0) 1 1)))] H := hP
  have hD : va_D A [(h0, .inr (12, (((((f0.set 0 (.int 0)).set 15 (.int 2)).set 13 (.int 0)).set 14 (.int 0)).set 14 (.int 1)))), (h1, .inl (cI, 2, .inl (upd (upd g0 0 x0) 1 1)))] := hD
  exact W.iret (v := (-101)) hx hb hr (fun t ht hW => ⟨⟨(-101), (), rfl, rfl, kB_mk ht hW hP hK hD⟩, hS.F ht⟩) hS.2.2 dX12_on_27
set_option maxHeartbeats 400000000 in
set_option maxRecDepth 100000 in
theorem c_X1_hasRoom_1 (l : Launch) (E : kE) (D : va_G) (cI cJ cB cZ : ClassId) (h0 : Nat) (f0 : List Value) (e0 : f0[4]? = some (.int 0)) (e1 : f0[5]? = some (.int 0)) : kI l E D (kT cI cJ cB cZ) yX1_hasRoom wsX1_hasRoom ({ frames := 0, cells := 0, slots := 0, locals := 0 }) [.ref h0, .int 1] [(h0, .inr (1, f0))] (1) [(h0, .inr (1, f0))] 0 0 := by
  intro sz
  refine Met.ofW (cc := cX1_hasRoom) (maxL := 2) (ret := (some .boolean)) (by decide) rfl ?_
  intro p e s m args below meth c s₁ B hml hv
  obtain ⟨rfl, hsz, hP, hK, hD0, hN, hX⟩ := hv
  have hx := B.exec
  have hb := B.bytes
  have hr := B.returns
  have hts := atoms_spec (ws := wsX1_hasRoom) B.pre
  have hown : s.vm.findClass RX1 = some m.cls := findClass_of_methodNamed B.named
  have hlocks := B.notSynchronized
  have hin1 : ∀ w ∈ wsX10, w ∈ wsX1_hasRoom := (fun w h => (List.mem_cons_of_mem _ (List.mem_append_right _ h)))
  subst hsz
  have hD := hD0.self (sz := s.heap.size)
  have hAE := k_AE hD0 hX
  generalize hAe : va_A [(h0, .inr (1, f0))] s.heap.size = A at hD hAE ⊢
  have hA : ∀ q : Nat, s.heap.size ≤ q → A q := fun q h => by rw [← hAe]; exact Or.inr h
  have hS : va_S A s.heap s.heap [] := va_S.rf
  have hP : va_P D vwCl [(h0, .inr (1, f0))] s.heap := hP
  have hl := lv_entry ([.ref h0, .int 1] : List Value) (n := 2) (Nat.le_of_ble_eq_true rfl)
  rw [lg_entry_eq]
  generalize (lg_sl ([.ref h0, .int 1]) ++ List.replicate (2 - (lg_sl ([.ref h0, .int 1])).length) Slot.unset).toArray = ls at hl ⊢
  have hl : lv_has ls 2 [(0, .ref h0), (1, .int 1)] := hl
  refine lv_aload_n hx hb dX1_hasRoom_0 rfl (lv_at hl 0 rfl) ?_
  refine va_get (D := D) (ref := "IntegerHouse$Disk") (ci := 1) (v := .int 0) (C := RX1) (T := TX1) (N := 9) hx hb hts hin1 hown hK hP 0 rfl rfl 4 (by decide) (hts (.fieldLink RX1 40 "IntegerHouse$Disk" "waiting" "I") (List.mem_cons_of_mem _ (List.mem_append_left _ (List.mem_of_getElem? (i := 0) rfl)))) (fun _ h9 => h9) e0 dX1_hasRoom_1 ?_
  refine lv_iload_n hx hb dX1_hasRoom_4 rfl (lv_at hl 1 rfl) ?_
  refine lv_iadd hx hb dX1_hasRoom_5 ?_
  refine k_topi (y := 1) (by decide) ?_
  refine lv_sipush (v := 248) hx hb dX1_hasRoom_6 (by decide) ?_
  refine lv_iadd hx hb dX1_hasRoom_9 ?_
  refine k_topi (y := 249) (by decide) ?_
  refine lv_iconst (v := 1) hx hb dX1_hasRoom_10 (by decide) ?_
  refine lv_isub hx hb dX1_hasRoom_11 ?_
  refine k_topi (y := 248) (by decide) ?_
  refine lv_sipush (v := 248) hx hb dX1_hasRoom_12 (by decide) ?_
  refine lv_idiv hx hb dX1_hasRoom_15 (by decide) ?_
  refine k_topi (y := 1) (by decide) ?_
  refine lv_bipush (v := 100) hx hb dX1_hasRoom_16 (by decide) ?_
  refine lv_aload_n hx hb dX1_hasRoom_18 rfl (lv_at hl 0 rfl) ?_
  refine va_get (D := D) (ref := "IntegerHouse$Disk") (ci := 1) (v := .int 0) (C := RX1) (T := TX1) (N := 9) hx hb hts hin1 hown hK hP 0 rfl rfl 5 (by decide) (hts (.fieldLink RX1 43 "IntegerHouse$Disk" "used" "I") (List.mem_cons_of_mem _ (List.mem_append_left _ (List.mem_of_getElem? (i := 1) rfl)))) (fun _ h9 => h9) e1 dX1_hasRoom_19 ?_
  refine lv_isub hx hb dX1_hasRoom_22 ?_
  refine k_topi (y := 100) (by decide) ?_
  refine lv_icmp_gt (tgt := 30) hx hb dX1_hasRoom_23 (by decide) (fun c9 => absurd c9 (by decide)) (fun _ => ?_)
  refine lv_iconst (v := 1) hx hb dX1_hasRoom_26 (by decide) ?_
  refine lv_goto (tgt := 31) hx hb dX1_hasRoom_27 (by decide) ?_
  exact W.zret (v := 1) hx hb hr rfl (fun t ht hW => ⟨⟨1, (), rfl, rfl, kB_mk ht hW hP hK hD⟩, hS.F ht⟩) hS.2.2 dX1_hasRoom_31
set_option maxHeartbeats 400000000 in
set_option maxRecDepth 100000 in
theorem c_X2_addLayer_0 (l : Launch) (E : kE) (D : va_G) (cI cJ cB cZ : ClassId) (h0 : Nat) (f0 : List Value) (h1 : Nat) (g0 : Nat → Int32) (e0 : f0[14]? = some (.int 0)) (e1 : f0[8]? = some (.ref h1)) (e2 : f0[10]? = some (.int 0)) (e3 : f0[11]? = some (.int 0)) (e4 : f0[12]? = some (.int 0)) (e5 : f0[13]? = some (.int 0)) : kI l E D (kT cI cJ cB cZ) yX2_addLayer wsX2_addLayer ({ frames := 0, cells := 0, slots := 0, locals := 0 }) [.ref h0] [(h0, .inr (2, f0)), (h1, .inl (cI, 32, .inl g0))] (1) [(h0, .inr (2, (f0.set 14 (.int 1)))), (h1, .inl (cI, 32, .inl (upd (upd (upd (upd g0 0 0) 1 0) 2 0) 3 0)))] 0 0 := by
  intro sz
  refine Met.ofW (cc := cX2_addLayer) (maxL := 2) (ret := (some .boolean)) (by decide) rfl ?_
  intro p e s m args below meth c s₁ B hml hv
  obtain ⟨rfl, hsz, hP, hK, hD0, hN, hX⟩ := hv
  have hx := B.exec
  have hb := B.bytes
  have hr := B.returns
  have hts := atoms_spec (ws := wsX2_addLayer) B.pre
  have hown : s.vm.findClass RX2 = some m.cls := findClass_of_methodNamed B.named
  have hlocks := B.notSynchronized
  have hin2 : ∀ w ∈ wsX20, w ∈ wsX2_addLayer := (fun w h => (List.mem_cons_of_mem _ (List.mem_append_right _ h)))
  subst hsz
  have hD := hD0.self (sz := s.heap.size)
  have hAE := k_AE hD0 hX
  generalize hAe : va_A [(h0, .inr (2, f0)), (h1, .inl (cI, 32, .inl g0))] s.heap.size = A at hD hAE ⊢
  have hA : ∀ q : Nat, s.heap.size ≤ q → A q := fun q h => by rw [← hAe]; exact Or.inr h
  have hS : va_S A s.heap s.heap [] := va_S.rf
  have hP : va_P D vwCl [(h0, .inr (2, f0)), (h1, .inl (cI, 32, .inl g0))] s.heap := hP
  have hl := lv_entry ([.ref h0] : List Value) (n := 2) (Nat.le_of_ble_eq_true rfl)
  rw [lg_entry_eq]
  generalize (lg_sl ([.ref h0]) ++ List.replicate (2 - (lg_sl ([.ref h0])).length) Slot.unset).toArray = ls at hl ⊢
  have hl : lv_has ls 2 [(0, .ref h0)] := hl
  refine lv_aload_n hx hb dX2_addLayer_0 rfl (lv_at hl 0 rfl) ?_
  refine va_get (D := D) (ref := "IntegerHouse$House") (ci := 2) (v := .int 0) (C := RX2) (T := TX2) (N := 16) hx hb hts hin2 hown hK hP 0 rfl rfl 14 (by decide) (hts (.fieldLink RX2 48 "IntegerHouse$House" "layers" "I") (List.mem_cons_of_mem _ (List.mem_append_left _ (List.mem_of_getElem? (i := 0) rfl)))) (fun _ h9 => h9) e0 dX2_addLayer_1 ?_
  refine lv_if_lt (tgt := 16) hx hb dX2_addLayer_4 (by decide) (fun c9 => absurd c9 (by decide)) (fun _ => ?_)
  refine lv_aload_n hx hb dX2_addLayer_7 rfl (lv_at hl 0 rfl) ?_
  refine va_get (D := D) (ref := "IntegerHouse$House") (ci := 2) (v := .int 0) (C := RX2) (T := TX2) (N := 16) hx hb hts hin2 hown hK hP 0 rfl rfl 14 (by decide) (hts (.fieldLink RX2 48 "IntegerHouse$House" "layers" "I") (List.mem_cons_of_mem _ (List.mem_append_left _ (List.mem_of_getElem? (i := 0) rfl)))) (fun _ h9 => h9) e0 dX2_addLayer_8 ?_
  refine lv_bipush (v := 8) hx hb dX2_addLayer_11 (by decide) ?_
  refine lv_icmp_lt (tgt := 18) hx hb dX2_addLayer_13 (by decide) (fun _ => ?_) (fun c9 => absurd (by decide) c9)
  refine lv_aload_n hx hb dX2_addLayer_18 rfl (lv_at hl 0 rfl) ?_
  refine va_get (D := D) (ref := "IntegerHouse$House") (ci := 2) (v := .int 0) (C := RX2) (T := TX2) (N := 16) hx hb hts hin2 hown hK hP 0 rfl rfl 14 (by decide) (hts (.fieldLink RX2 48 "IntegerHouse$House" "layers" "I") (List.mem_cons_of_mem _ (List.mem_append_left _ (List.mem_of_getElem? (i := 0) rfl)))) (fun _ h9 => h9) e0 dX2_addLayer_19 ?_
  refine lv_iconst (v := 4) hx hb dX2_addLayer_22 (by decide) ?_
  refine lv_imul hx hb dX2_addLayer_23 ?_
  refine k_topi (y := 0) (by decide) ?_
  refine lv_istore_n (lv' := [(1, .int 0), (0, .ref h0)]) hx hb dX2_addLayer_24 rfl hl (by decide) rfl (fun ls hl => ?_)
  refine lv_aload_n hx hb dX2_addLayer_25 rfl (lv_at hl 1 rfl) ?_
  refine va_get (D := D) (ref := "IntegerHouse$House") (ci := 2) (v := .ref h1) (C := RX2) (T := TX2) (N := 16) hx hb hts hin2 hown hK hP 0 rfl rfl 8 (by decide) (hts (.fieldLink RX2 37 "IntegerHouse$House" "marks" "[I") (List.mem_cons_of_mem _ (List.mem_append_left _ (List.mem_of_getElem? (i := 1) rfl)))) (fun _ h9 => h9) e1 dX2_addLayer_26 ?_
  refine lv_iload_n hx hb dX2_addLayer_29 rfl (lv_at hl 0 rfl) ?_
  refine lv_aload_n hx hb dX2_addLayer_30 rfl (lv_at hl 1 rfl) ?_
  refine va_get (D := D) (ref := "IntegerHouse$House") (ci := 2) (v := .int 0) (C := RX2) (T := TX2) (N := 16) hx hb hts hin2 hown hK hP 0 rfl rfl 10 (by decide) (hts (.fieldLink RX2 52 "IntegerHouse$House" "variables" "I") (List.mem_cons_of_mem _ (List.mem_append_left _ (List.mem_of_getElem? (i := 2) rfl)))) (fun _ h9 => h9) e2 dX2_addLayer_31 ?_
  refine va_iast hx hb hK hP hD hS 1 0 rfl rfl (k_in (by decide)) dX2_addLayer_34 (fun H locs hP hD hS => ?_)
  have hP : va_P D vwCl [(h0, .inr (2, f0)), (h1, .inl (cI, 32, .inl (upd g0 0 0)))] H := hP
  have hD : va_D A [(h0, .inr (2, f0)), (h1, .inl (cI, 32, .inl (upd g0 0 0)))] := hD
  refine lv_aload_n hx hb dX2_addLayer_35 rfl (lv_at hl 1 rfl) ?_
  refine va_get (D := D) (ref := "IntegerHouse$House") (ci := 2) (v := .ref h1) (C := RX2) (T := TX2) (N := 16) hx hb hts hin2 hown hK hP 0 rfl rfl 8 (by decide) (hts (.fieldLink RX2 37 "IntegerHouse$House" "marks" "[I") (List.mem_cons_of_mem _ (List.mem_append_left _ (List.mem_of_getElem? (i := 1) rfl)))) (fun _ h9 => h9) e1 dX2_addLayer_36 ?_
  refine lv_iload_n hx hb dX2_addLayer_39 rfl (lv_at hl 0 rfl) ?_
  refine lv_iconst (v := 1) hx hb dX2_addLayer_40 (by decide) ?_
  refine lv_iadd hx hb dX2_addLayer_41 ?_
  refine k_topi (y := 1) (by decide) ?_
  refine lv_aload_n hx hb dX2_addLayer_42 rfl (lv_at hl 1 rfl) ?_
  refine va_get (D := D) (ref := "IntegerHouse$House") (ci := 2) (v := .int 0) (C := RX2) (T := TX2) (N := 16) hx hb hts hin2 hown hK hP 0 rfl rfl 11 (by decide) (hts (.fieldLink RX2 55 "IntegerHouse$House" "claims" "I") (List.mem_cons_of_mem _ (List.mem_append_left _ (List.mem_of_getElem? (i := 3) rfl)))) (fun _ h9 => h9) e3 dX2_addLayer_43 ?_
  refine va_iast hx hb hK hP hD hS 1 0 rfl rfl (k_in (by decide)) dX2_addLayer_46 (fun H locs hP hD hS => ?_)
  have hP : va_P D vwCl [(h0, .inr (2, f0)), (h1, .inl (cI, 32, .inl (upd (upd g0 0 0) 1 0)))] H := hP
  have hD : va_D A [(h0, .inr (2, f0)), (h1, .inl (cI, 32, .inl (upd (upd g0 0 0) 1 0)))] := hD
  refine lv_aload_n hx hb dX2_addLayer_47 rfl (lv_at hl 1 rfl) ?_
  refine va_get (D := D) (ref := "IntegerHouse$House") (ci := 2) (v := .ref h1) (C := RX2) (T := TX2) (N := 16) hx hb hts hin2 hown hK hP 0 rfl rfl 8 (by decide) (hts (.fieldLink RX2 37 "IntegerHouse$House" "marks" "[I") (List.mem_cons_of_mem _ (List.mem_append_left _ (List.mem_of_getElem? (i := 1) rfl)))) (fun _ h9 => h9) e1 dX2_addLayer_48 ?_
  refine lv_iload_n hx hb dX2_addLayer_51 rfl (lv_at hl 0 rfl) ?_
  refine lv_iconst (v := 2) hx hb dX2_addLayer_52 (by decide) ?_
  refine lv_iadd hx hb dX2_addLayer_53 ?_
  refine k_topi (y := 2) (by decide) ?_
  refine lv_aload_n hx hb dX2_addLayer_54 rfl (lv_at hl 1 rfl) ?_
  refine va_get (D := D) (ref := "IntegerHouse$House") (ci := 2) (v := .int 0) (C := RX2) (T := TX2) (N := 16) hx hb hts hin2 hown hK hP 0 rfl rfl 12 (by decide) (hts (.fieldLink RX2 58 "IntegerHouse$House" "poolSize" "I") (List.mem_cons_of_mem _ (List.mem_append_left _ (List.mem_of_getElem? (i := 4) rfl)))) (fun _ h9 => h9) e4 dX2_addLayer_55 ?_
  refine va_iast hx hb hK hP hD hS 1 0 rfl rfl (k_in (by decide)) dX2_addLayer_58 (fun H locs hP hD hS => ?_)
  have hP : va_P D vwCl [(h0, .inr (2, f0)), (h1, .inl (cI, 32, .inl (upd (upd (upd g0 0 0) 1 0) 2 0)))] H := hP
  have hD : va_D A [(h0, .inr (2, f0)), (h1, .inl (cI, 32, .inl (upd (upd (upd g0 0 0) 1 0) 2 0)))] := hD
  refine lv_aload_n hx hb dX2_addLayer_59 rfl (lv_at hl 1 rfl) ?_
  refine va_get (D := D) (ref := "IntegerHouse$House") (ci := 2) (v := .ref h1) (C := RX2) (T := TX2) (N := 16) hx hb hts hin2 hown hK hP 0 rfl rfl 8 (by decide) (hts (.fieldLink RX2 37 "IntegerHouse$House" "marks" "[I") (List.mem_cons_of_mem _ (List.mem_append_left _ (List.mem_of_getElem? (i := 1) rfl)))) (fun _ h9 => h9) e1 dX2_addLayer_60 ?_
  refine lv_iload_n hx hb dX2_addLayer_63 rfl (lv_at hl 0 rfl) ?_
  refine lv_iconst (v := 3) hx hb dX2_addLayer_64 (by decide) ?_
  refine lv_iadd hx hb dX2_addLayer_65 ?_
  refine k_topi (y := 3) (by decide) ?_
  refine lv_aload_n hx hb dX2_addLayer_66 rfl (lv_at hl 1 rfl) ?_
  refine va_get (D := D) (ref := "IntegerHouse$House") (ci := 2) (v := .int 0) (C := RX2) (T := TX2) (N := 16) hx hb hts hin2 hown hK hP 0 rfl rfl 13 (by decide) (hts (.fieldLink RX2 61 "IntegerHouse$House" "on" "I") (List.mem_cons_of_mem _ (List.mem_append_left _ (List.mem_of_getElem? (i := 5) rfl)))) (fun _ h9 => h9) e5 dX2_addLayer_67 ?_
  refine va_iast hx hb hK hP hD hS 1 0 rfl rfl (k_in (by decide)) dX2_addLayer_70 (fun H locs hP hD hS => ?_)
  have hP : va_P D vwCl [(h0, .inr (2, f0)), (h1, .inl (cI, 32, .inl (upd (upd (upd (upd g0 0 0) 1 0) 2 0) 3 0)))] H := hP
  have hD : va_D A [(h0, .inr (2, f0)), (h1, .inl (cI, 32, .inl (upd (upd (upd (upd g0 0 0) 1 0) 2 0) 3 0)))] := hD
  refine lv_aload_n hx hb dX2_addLayer_71 rfl (lv_at hl 1 rfl) ?_
  refine lv_dup hx hb dX2_addLayer_72 rfl ?_
  refine va_get (D := D) (ref := "IntegerHouse$House") (ci := 2) (v := .int 0) (C := RX2) (T := TX2) (N := 16) hx hb hts hin2 hown hK hP 0 rfl rfl 14 (by decide) (hts (.fieldLink RX2 48 "IntegerHouse$House" "layers" "I") (List.mem_cons_of_mem _ (List.mem_append_left _ (List.mem_of_getElem? (i := 0) rfl)))) (fun _ h9 => h9) e0 dX2_addLayer_73 ?_
  refine lv_iconst (v := 1) hx hb dX2_addLayer_76 (by decide) ?_
  refine lv_iadd hx hb dX2_addLayer_77 ?_
  refine k_topi (y := 1) (by decide) ?_
  refine va_put (D := D) (ref := "IntegerHouse$House") (ci := 2) (v := .int 1) (ty := .int) (C := RX2) (T := TX2) (N := 16) hx hb hts hin2 tyX2 tyX2_ok nmX2 hown hK hP hD hS 0 rfl rfl 14 (by decide) (hts (.fieldLink RX2 48 "IntegerHouse$House" "layers" "I") (List.mem_cons_of_mem _ (List.mem_append_left _ (List.mem_of_getElem? (i := 0) rfl)))) (fun _ h9 => h9) rfl (by decide +kernel) rfl rfl (k_len e0) dX2_addLayer_78 (fun H locs hP hD hS => ?_)
  have hP : va_P D vwCl [(h0, .inr (2, (f0.set 14 (.int 1)))), (h1, .inl (cI, 32, .inl (upd (upd (upd (upd g0 0 0) 1 0) 2 0) 3 0)))] H := hP
  have hD : va_D A [(h0, .inr (2, (f0.set 14 (.int 1)))), (h1, .inl (cI, 32, .inl (upd (upd (upd (upd g0 0 0) 1 0) 2 0) 3 0)))] := hD
  refine lv_iconst (v := 1) hx hb dX2_addLayer_81 (by decide) ?_
  exact W.zret (v := 1) hx hb hr rfl (fun t ht hW => ⟨⟨1, (), rfl, rfl, kB_mk ht hW hP hK hD⟩, hS.F ht⟩) hS.2.2 dX2_addLayer_82
set_option maxHeartbeats 400000000 in
set_option maxRecDepth 100000 in
theorem c_X1_await_3 (l : Launch) (E : kE) (D : va_G) (cI cJ cB cZ : ClassId) (h0 : Nat) (f0 : List Value) (h1 : Nat) (g0 : Nat → Int32) (e0 : f0[4]? = some (.int 0)) (e1 : f0[3]? = some (.ref h1)) : kV l E D (kT cI cJ cB cZ) yX1_await wsX1_await ({ frames := 0, cells := 0, slots := 0, locals := 0 }) [.ref h0, .int 3] [(h0, .inr (1, f0)), (h1, .inl (cB, 24800, .inl g0))] (fun _ : Unit => [(h0, .inr (1, (f0.set 4 (.int 1)))), (h1, .inl (cB, 24800, .inl (upd g0 0 3)))]) 0 0 := by
  intro sz
  refine Met.ofW (cc := cX1_await) (maxL := 2) (ret := none) (by decide) rfl ?_
  intro p e s m args below meth c s₁ B hml hv
  obtain ⟨rfl, hsz, hP, hK, hD0, hN, hX⟩ := hv
  have hx := B.exec
  have hb := B.bytes
  have hr := B.returns
  have hts := atoms_spec (ws := wsX1_await) B.pre
  have hown : s.vm.findClass RX1 = some m.cls := findClass_of_methodNamed B.named
  have hlocks := B.notSynchronized
  have hin1 : ∀ w ∈ wsX10, w ∈ wsX1_await := (fun w h => (List.mem_cons_of_mem _ (List.mem_append_right _ h)))
  subst hsz
  have hD := hD0.self (sz := s.heap.size)
  have hAE := k_AE hD0 hX
  generalize hAe : va_A [(h0, .inr (1, f0)), (h1, .inl (cB, 24800, .inl g0))] s.heap.size = A at hD hAE ⊢
  have hA : ∀ q : Nat, s.heap.size ≤ q → A q := fun q h => by rw [← hAe]; exact Or.inr h
  have hS : va_S A s.heap s.heap [] := va_S.rf
  have hP : va_P D vwCl [(h0, .inr (1, f0)), (h1, .inl (cB, 24800, .inl g0))] s.heap := hP
  have hl := lv_entry ([.ref h0, .int 3] : List Value) (n := 2) (Nat.le_of_ble_eq_true rfl)
  rw [lg_entry_eq]
  generalize (lg_sl ([.ref h0, .int 3]) ++ List.replicate (2 - (lg_sl ([.ref h0, .int 3])).length) Slot.unset).toArray = ls at hl ⊢
  have hl : lv_has ls 2 [(0, .ref h0), (1, .int 3)] := hl
  refine lv_aload_n hx hb dX1_await_0 rfl (lv_at hl 0 rfl) ?_
  refine va_get (D := D) (ref := "IntegerHouse$Disk") (ci := 1) (v := .int 0) (C := RX1) (T := TX1) (N := 9) hx hb hts hin1 hown hK hP 0 rfl rfl 4 (by decide) (hts (.fieldLink RX1 40 "IntegerHouse$Disk" "waiting" "I") (List.mem_cons_of_mem _ (List.mem_append_left _ (List.mem_of_getElem? (i := 0) rfl)))) (fun _ h9 => h9) e0 dX1_await_1 ?_
  refine lv_if_lt (tgt := 38) hx hb dX1_await_4 (by decide) (fun c9 => absurd c9 (by decide)) (fun _ => ?_)
  refine lv_aload_n hx hb dX1_await_7 rfl (lv_at hl 0 rfl) ?_
  refine va_get (D := D) (ref := "IntegerHouse$Disk") (ci := 1) (v := .int 0) (C := RX1) (T := TX1) (N := 9) hx hb hts hin1 hown hK hP 0 rfl rfl 4 (by decide) (hts (.fieldLink RX1 40 "IntegerHouse$Disk" "waiting" "I") (List.mem_cons_of_mem _ (List.mem_append_left _ (List.mem_of_getElem? (i := 0) rfl)))) (fun _ h9 => h9) e0 dX1_await_8 ?_
  refine lv_sipush (v := 24800) hx hb dX1_await_11 (by decide) ?_
  refine lv_icmp_ge (tgt := 38) hx hb dX1_await_14 (by decide) (fun c9 => absurd c9 (by decide)) (fun _ => ?_)
  refine lv_aload_n hx hb dX1_await_17 rfl (lv_at hl 0 rfl) ?_
  refine va_get (D := D) (ref := "IntegerHouse$Disk") (ci := 1) (v := .ref h1) (C := RX1) (T := TX1) (N := 9) hx hb hts hin1 hown hK hP 0 rfl rfl 3 (by decide) (hts (.fieldLink RX1 22 "IntegerHouse$Disk" "waits" "[B") (List.mem_cons_of_mem _ (List.mem_append_left _ (List.mem_of_getElem? (i := 1) rfl)))) (fun _ h9 => h9) e1 dX1_await_18 ?_
  refine lv_aload_n hx hb dX1_await_21 rfl (lv_at hl 0 rfl) ?_
  refine va_get (D := D) (ref := "IntegerHouse$Disk") (ci := 1) (v := .int 0) (C := RX1) (T := TX1) (N := 9) hx hb hts hin1 hown hK hP 0 rfl rfl 4 (by decide) (hts (.fieldLink RX1 40 "IntegerHouse$Disk" "waiting" "I") (List.mem_cons_of_mem _ (List.mem_append_left _ (List.mem_of_getElem? (i := 0) rfl)))) (fun _ h9 => h9) e0 dX1_await_22 ?_
  refine lv_iload_n hx hb dX1_await_25 rfl (lv_at hl 1 rfl) ?_
  refine lv_i2b (v := 3) hx hb dX1_await_26 (by decide) ?_
  refine va_bast hx hb hK hP hD hS 1 2 rfl rfl (k_in (by decide)) dX1_await_27 (fun H locs hP hD hS => ?_)
  have hP : va_P D vwCl [(h0, .inr (1, f0)), (h1, .inl (cB, 24800, .inl (upd g0 0 3)))] H := hP
  have hD : va_D A [(h0, .inr (1, f0)), (h1, .inl (cB, 24800, .inl (upd g0 0 3)))] := hD
  refine lv_aload_n hx hb dX1_await_28 rfl (lv_at hl 0 rfl) ?_
  refine lv_dup hx hb dX1_await_29 rfl ?_
  refine va_get (D := D) (ref := "IntegerHouse$Disk") (ci := 1) (v := .int 0) (C := RX1) (T := TX1) (N := 9) hx hb hts hin1 hown hK hP 0 rfl rfl 4 (by decide) (hts (.fieldLink RX1 40 "IntegerHouse$Disk" "waiting" "I") (List.mem_cons_of_mem _ (List.mem_append_left _ (List.mem_of_getElem? (i := 0) rfl)))) (fun _ h9 => h9) e0 dX1_await_30 ?_
  refine lv_iconst (v := 1) hx hb dX1_await_33 (by decide) ?_
  refine lv_iadd hx hb dX1_await_34 ?_
  refine k_topi (y := 1) (by decide) ?_
  refine va_put (D := D) (ref := "IntegerHouse$Disk") (ci := 1) (v := .int 1) (ty := .int) (C := RX1) (T := TX1) (N := 9) hx hb hts hin1 tyX1 tyX1_ok nmX1 hown hK hP hD hS 0 rfl rfl 4 (by decide) (hts (.fieldLink RX1 40 "IntegerHouse$Disk" "waiting" "I") (List.mem_cons_of_mem _ (List.mem_append_left _ (List.mem_of_getElem? (i := 0) rfl)))) (fun _ h9 => h9) rfl (by decide +kernel) rfl rfl (k_len e0) dX1_await_35 (fun H locs hP hD hS => ?_)
  have hP : va_P D vwCl [(h0, .inr (1, (f0.set 4 (.int 1)))), (h1, .inl (cB, 24800, .inl (upd g0 0 3)))] H := hP
  have hD : va_D A [(h0, .inr (1, (f0.set 4 (.int 1)))), (h1, .inl (cB, 24800, .inl (upd g0 0 3)))] := hD
  exact W.vret hx hb hr (fun t ht hW => ⟨⟨(), rfl, trivial, kB_mk ht hW hP hK hD⟩, hS.F ht⟩) hS.2.2 dX1_await_38
set_option maxHeartbeats 400000000 in
set_option maxRecDepth 100000 in
theorem c_X1_recordAct_0 (l : Launch) (E : kE) (D : va_G) (cI cJ cB cZ : ClassId) (h0 : Nat) (f0 : List Value) (h1 : Nat) (g0 : Nat → Int32) (e0 : f0[4]? = some (.int 0)) (e1 : f0[3]? = some (.ref h1)) : kV l E D (kT cI cJ cB cZ) yX1_recordAct wsX1_recordAct ({ frames := 1, cells := 0, slots := 0, locals := 21 }) [.ref h0, .int 3] [(h0, .inr (1, f0)), (h1, .inl (cB, 24800, .inl g0))] (fun _ : Unit => [(h0, .inr (1, (f0.set 4 (.int 1)))), (h1, .inl (cB, 24800, .inl (upd g0 0 3)))]) 0 0 := by
  intro sz
  refine Met.ofW (cc := cX1_recordAct) (maxL := 2) (ret := none) (by decide) rfl ?_
  intro p e s m args below meth c s₁ B hml hv
  obtain ⟨rfl, hsz, hP, hK, hD0, hN, hX⟩ := hv
  have hx := B.exec
  have hb := B.bytes
  have hr := B.returns
  have hts := atoms_spec (ws := wsX1_recordAct) B.pre
  have hown : s.vm.findClass RX1 = some m.cls := findClass_of_methodNamed B.named
  have hlocks := B.notSynchronized
  subst hsz
  have hD := hD0.self (sz := s.heap.size)
  have hAE := k_AE hD0 hX
  generalize hAe : va_A [(h0, .inr (1, f0)), (h1, .inl (cB, 24800, .inl g0))] s.heap.size = A at hD hAE ⊢
  have hA : ∀ q : Nat, s.heap.size ≤ q → A q := fun q h => by rw [← hAe]; exact Or.inr h
  have hS : va_S A s.heap s.heap [] := va_S.rf
  have hP : va_P D vwCl [(h0, .inr (1, f0)), (h1, .inl (cB, 24800, .inl g0))] s.heap := hP
  have hl := lv_entry ([.ref h0, .int 3] : List Value) (n := 2) (Nat.le_of_ble_eq_true rfl)
  rw [lg_entry_eq]
  generalize (lg_sl ([.ref h0, .int 3]) ++ List.replicate (2 - (lg_sl ([.ref h0, .int 3])).length) Slot.unset).toArray = ls at hl ⊢
  have hl : lv_has ls 2 [(0, .ref h0), (1, .int 3)] := hl
  refine lv_aload_n hx hb dX1_recordAct_0 rfl (lv_at hl 0 rfl) ?_
  refine lv_iload_n hx hb dX1_recordAct_1 rfl (lv_at hl 1 rfl) ?_
  refine k_cVv (As := [.int 3]) (rest := []) (wc := [(h0, .inr (1, f0)), (h1, .inl (cB, 24800, .inl g0))]) (wr := []) (w1 := (fun _ : Unit => [(h0, .inr (1, (f0.set 4 (.int 1)))), (h1, .inl (cB, 24800, .inl (upd g0 0 3)))])) ⟨hx, hb, hml, hown, hts⟩ hN hX hAE hK hP hD hS hA [0, 1] [] (ci := 1) rfl rfl rfl rfl (by decide +kernel) (by decide +kernel) (by decide +kernel) (c_X1_await_3 l E D cI cJ cB cZ h0 f0 h1 g0 e0 e1) (cwV 1 hts gX1_recordAct_X1_await rfl rfl rfl (by decide +kernel) ⟨Nat.le_of_ble_eq_true rfl, Nat.le_of_ble_eq_true rfl⟩) rfl hl.1 (Nat.le_of_ble_eq_true rfl) dX1_recordAct_2 ⟨Nat.le_of_ble_eq_true rfl, Nat.le_of_ble_eq_true rfl⟩ (fun _ H locs hP hD hS => ?_)
  have hP : va_P D vwCl [(h0, .inr (1, (f0.set 4 (.int 1)))), (h1, .inl (cB, 24800, .inl (upd g0 0 3)))] H := hP
  have hD : va_D A [(h0, .inr (1, (f0.set 4 (.int 1)))), (h1, .inl (cB, 24800, .inl (upd g0 0 3)))] := hD
  exact W.vret hx hb hr (fun t ht hW => ⟨⟨(), rfl, trivial, kB_mk ht hW hP hK hD⟩, hS.F ht⟩) hS.2.2 dX1_recordAct_5
set_option maxHeartbeats 400000000 in
set_option maxRecDepth 100000 in
theorem c_X11_push_0 (l : Launch) (E : kE) (D : va_G) (cI cJ cB cZ : ClassId) (h0 : Nat) (f0 : List Value) (h1 : Nat) (f1 : List Value) (h2 : Nat) (f2 : List Value) (h3 : Nat) (g0 : Nat → Int32) (h4 : Nat) (g1 : Nat → Int32) (e0 : f0[1]? = some (.ref h1)) (e1 : f1[8]? = some (.int 0)) (e2 : f0[2]? = some (.ref h2)) (e3 : f2[14]? = some (.int 0)) (e4 : f1[4]? = some (.int 0)) (e5 : f1[5]? = some (.int 0)) (e6 : f2[8]? = some (.ref h3)) (e7 : f2[10]? = some (.int 0)) (e8 : f2[11]? = some (.int 0)) (e9 : f2[12]? = some (.int 0)) (e10 : f2[13]? = some (.int 0)) (e11 : f1[3]? = some (.ref h4)) (e12 : f0[14]? = some (.int 0)) : kI l E D (kT cI cJ cB cZ) yX11_push wsX11_push ({ frames := 2, cells := 0, slots := 0, locals := 42 }) [.ref h0] [(h0, .inr (11, f0)), (h1, .inr (1, f1)), (h2, .inr (2, f2)), (h3, .inl (cI, 32, .inl g0)), (h4, .inl (cB, 24800, .inl g1))] (1) [(h0, .inr (11, (f0.set 14 (.int 1)))), (h1, .inr (1, (f1.set 4 (.int 1)))), (h2, .inr (2, (f2.set 14 (.int 1)))), (h3, .inl (cI, 32, .inl (upd (upd (upd (upd g0 0 0) 1 0) 2 0) 3 0))), (h4, .inl (cB, 24800, .inl (upd g1 0 3)))] 0 0 := by
  intro sz
  refine Met.ofW (cc := cX11_push) (maxL := 1) (ret := (some .int)) (by decide) rfl ?_
  intro p e s m args below meth c s₁ B hml hv
  obtain ⟨rfl, hsz, hP, hK, hD0, hN, hX⟩ := hv
  have hx := B.exec
  have hb := B.bytes
  have hr := B.returns
  have hts := atoms_spec (ws := wsX11_push) B.pre
  have hown : s.vm.findClass RX11 = some m.cls := findClass_of_methodNamed B.named
  have hlocks := B.notSynchronized
  have hin11 : ∀ w ∈ wsX110, w ∈ wsX11_push := (fun w h => (List.mem_cons_of_mem _ (List.mem_append_left _ (List.mem_append_left _ (List.mem_append_right _ h)))))
  have hin1 : ∀ w ∈ wsX10, w ∈ wsX11_push := (fun w h => (List.mem_cons_of_mem _ (List.mem_append_left _ (List.mem_append_right _ h))))
  have hin2 : ∀ w ∈ wsX20, w ∈ wsX11_push := (fun w h => (List.mem_cons_of_mem _ (List.mem_append_right _ h)))
  subst hsz
  have hD := hD0.self (sz := s.heap.size)
  have hAE := k_AE hD0 hX
  generalize hAe : va_A [(h0, .inr (11, f0)), (h1, .inr (1, f1)), (h2, .inr (2, f2)), (h3, .inl (cI, 32, .inl g0)), (h4, .inl (cB, 24800, .inl g1))] s.heap.size = A at hD hAE ⊢
  have hA : ∀ q : Nat, s.heap.size ≤ q → A q := fun q h => by rw [← hAe]; exact Or.inr h
  have hS : va_S A s.heap s.heap [] := va_S.rf
  have hP : va_P D vwCl [(h0, .inr (11, f0)), (h1, .inr (1, f1)), (h2, .inr (2, f2)), (h3, .inl (cI, 32, .inl g0)), (h4, .inl (cB, 24800, .inl g1))] s.heap := hP
  have hl := lv_entry ([.ref h0] : List Value) (n := 1) (Nat.le_of_ble_eq_true rfl)
  rw [lg_entry_eq]
  generalize (lg_sl ([.ref h0]) ++ List.replicate (1 - (lg_sl ([.ref h0])).length) Slot.unset).toArray = ls at hl ⊢
  have hl : lv_has ls 1 [(0, .ref h0)] := hl
  refine lv_aload_n hx hb dX11_push_0 rfl (lv_at hl 0 rfl) ?_
  refine va_get (D := D) (ref := "IntegerHouse") (ci := 11) (v := .ref h1) (C := RX11) (T := TX11) (N := 15) hx hb hts hin11 hown hK hP 0 rfl rfl 1 (by decide) (hts (.fieldLink RX11 16 "IntegerHouse" "disk" "LIntegerHouse$Disk;") (List.mem_cons_of_mem _ (List.mem_append_left _ (List.mem_append_left _ (List.mem_append_left _ (List.mem_append_left _ (List.mem_of_getElem? (i := 0) rfl))))))) (fun _ h9 => h9) e0 dX11_push_1 ?_
  refine va_getN (host := "IntegerHouse") (D := D) (ref := "IntegerHouse$Disk") (ci := 1) (v := .int 0) (C := RX1) (T := TX1) (N := 9) hx hb hts hin1 hown hK hP 1 rfl rfl 8 (by decide) (va_Nw.use rfl (hN.1 ("IntegerHouse", 122, "IntegerHouse$Disk", "down", "Z", "IntegerHouse") (List.mem_of_getElem? (i := 3) rfl))) (fun _ h9 => h9) e1 dX11_push_4 ?_
  refine lv_if_eq (tgt := 13) hx hb dX11_push_7 (by decide) (fun _ => ?_) (fun c9 => absurd (by decide) c9)
  refine lv_aload_n hx hb dX11_push_13 rfl (lv_at hl 0 rfl) ?_
  refine va_get (D := D) (ref := "IntegerHouse") (ci := 11) (v := .ref h2) (C := RX11) (T := TX11) (N := 15) hx hb hts hin11 hown hK hP 0 rfl rfl 2 (by decide) (hts (.fieldLink RX11 23 "IntegerHouse" "house" "LIntegerHouse$House;") (List.mem_cons_of_mem _ (List.mem_append_left _ (List.mem_append_left _ (List.mem_append_left _ (List.mem_append_left _ (List.mem_of_getElem? (i := 1) rfl))))))) (fun _ h9 => h9) e2 dX11_push_14 ?_
  refine va_getN (host := "IntegerHouse") (D := D) (ref := "IntegerHouse$House") (ci := 2) (v := .int 0) (C := RX2) (T := TX2) (N := 16) hx hb hts hin2 hown hK hP 2 rfl rfl 14 (by decide) (va_Nw.use rfl (hN.1 ("IntegerHouse", 221, "IntegerHouse$House", "layers", "I", "IntegerHouse") (List.mem_of_getElem? (i := 22) rfl))) (fun _ h9 => h9) e3 dX11_push_17 ?_
  refine lv_bipush (v := 8) hx hb dX11_push_20 (by decide) ?_
  refine lv_icmp_ge (tgt := 36) hx hb dX11_push_22 (by decide) (fun c9 => absurd c9 (by decide)) (fun _ => ?_)
  refine lv_aload_n hx hb dX11_push_25 rfl (lv_at hl 0 rfl) ?_
  refine va_get (D := D) (ref := "IntegerHouse") (ci := 11) (v := .ref h1) (C := RX11) (T := TX11) (N := 15) hx hb hts hin11 hown hK hP 0 rfl rfl 1 (by decide) (hts (.fieldLink RX11 16 "IntegerHouse" "disk" "LIntegerHouse$Disk;") (List.mem_cons_of_mem _ (List.mem_append_left _ (List.mem_append_left _ (List.mem_append_left _ (List.mem_append_left _ (List.mem_of_getElem? (i := 0) rfl))))))) (fun _ h9 => h9) e0 dX11_push_26 ?_
  refine lv_iconst (v := 1) hx hb dX11_push_29 (by decide) ?_
  refine k_cVi (As := [.int 1]) (rest := []) (wc := [(h1, .inr (1, f1))]) (wr := [(h0, .inr (11, f0)), (h2, .inr (2, f2)), (h3, .inl (cI, 32, .inl g0)), (h4, .inl (cB, 24800, .inl g1))]) (w1 := [(h1, .inr (1, f1))]) ⟨hx, hb, hml, hown, hts⟩ hN hX hAE hK hP hD hS hA [1] [0, 2, 3, 4] (ci := 1) rfl rfl rfl rfl (by decide +kernel) (by decide +kernel) (by decide +kernel) (c_X1_hasRoom_1 l E D cI cJ cB cZ h1 f1 e4 e5) (cwV 1 hts gX11_push_X1_hasRoom rfl rfl rfl (by decide +kernel) ⟨Nat.le_of_ble_eq_true rfl, Nat.le_of_ble_eq_true rfl⟩) rfl hl.1 (Nat.le_of_ble_eq_true rfl) dX11_push_30 ⟨Nat.le_of_ble_eq_true rfl, Nat.le_of_ble_eq_true rfl⟩ (fun H locs hP hD hS => ?_)
  have hP : va_P D vwCl [(h0, .inr (11, f0)), (h2, .inr (2, f2)), (h3, .inl (cI, 32, .inl g0)), (h4, .inl (cB, 24800, .inl g1)), (h1, .inr (1, f1))] H := hP
  have hD : va_D A [(h0, .inr (11, f0)), (h2, .inr (2, f2)), (h3, .inl (cI, 32, .inl g0)), (h4, .inl (cB, 24800, .inl g1)), (h1, .inr (1, f1))] := hD
  refine lv_if_ne (tgt := 39) hx hb dX11_push_33 (by decide) (fun _ => ?_) (fun c9 => absurd c9 (by decide))
  refine lv_aload_n hx hb dX11_push_39 rfl (lv_at hl 0 rfl) ?_
  refine va_get (D := D) (ref := "IntegerHouse") (ci := 11) (v := .ref h2) (C := RX11) (T := TX11) (N := 15) hx hb hts hin11 hown hK hP 0 rfl rfl 2 (by decide) (hts (.fieldLink RX11 23 "IntegerHouse" "house" "LIntegerHouse$House;") (List.mem_cons_of_mem _ (List.mem_append_left _ (List.mem_append_left _ (List.mem_append_left _ (List.mem_append_left _ (List.mem_of_getElem? (i := 1) rfl))))))) (fun _ h9 => h9) e2 dX11_push_40 ?_
  refine k_cVi (As := []) (rest := []) (wc := [(h2, .inr (2, f2)), (h3, .inl (cI, 32, .inl g0))]) (wr := [(h0, .inr (11, f0)), (h4, .inl (cB, 24800, .inl g1)), (h1, .inr (1, f1))]) (w1 := [(h2, .inr (2, (f2.set 14 (.int 1)))), (h3, .inl (cI, 32, .inl (upd (upd (upd (upd g0 0 0) 1 0) 2 0) 3 0)))]) ⟨hx, hb, hml, hown, hts⟩ hN hX hAE hK hP hD hS hA [1, 2] [0, 3, 4] (ci := 2) rfl rfl rfl rfl (by decide +kernel) (by decide +kernel) (by decide +kernel) (c_X2_addLayer_0 l E D cI cJ cB cZ h2 f2 h3 g0 e3 e6 e7 e8 e9 e10) (cwV 0 hts gX11_push_X2_addLayer rfl rfl rfl (by decide +kernel) ⟨Nat.le_of_ble_eq_true rfl, Nat.le_of_ble_eq_true rfl⟩) rfl hl.1 (Nat.le_of_ble_eq_true rfl) dX11_push_43 ⟨Nat.le_of_ble_eq_true rfl, Nat.le_of_ble_eq_true rfl⟩ (fun H locs hP hD hS => ?_)
  have hP : va_P D vwCl [(h0, .inr (11, f0)), (h4, .inl (cB, 24800, .inl g1)), (h1, .inr (1, f1)), (h2, .inr (2, (f2.set 14 (.int 1)))), (h3, .inl (cI, 32, .inl (upd (upd (upd (upd g0 0 0) 1 0) 2 0) 3 0)))] H := hP
  have hD : va_D A [(h0, .inr (11, f0)), (h4, .inl (cB, 24800, .inl g1)), (h1, .inr (1, f1)), (h2, .inr (2, (f2.set 14 (.int 1)))), (h3, .inl (cI, 32, .inl (upd (upd (upd (upd g0 0 0) 1 0) 2 0) 3 0)))] := hD
  refine lv_pop hx hb dX11_push_46 rfl ?_
  refine lv_aload_n hx hb dX11_push_47 rfl (lv_at hl 0 rfl) ?_
  refine va_get (D := D) (ref := "IntegerHouse") (ci := 11) (v := .ref h1) (C := RX11) (T := TX11) (N := 15) hx hb hts hin11 hown hK hP 0 rfl rfl 1 (by decide) (hts (.fieldLink RX11 16 "IntegerHouse" "disk" "LIntegerHouse$Disk;") (List.mem_cons_of_mem _ (List.mem_append_left _ (List.mem_append_left _ (List.mem_append_left _ (List.mem_append_left _ (List.mem_of_getElem? (i := 0) rfl))))))) (fun _ h9 => h9) e0 dX11_push_48 ?_
  refine lv_iconst (v := 3) hx hb dX11_push_51 (by decide) ?_
  refine k_cVv (As := [.int 3]) (rest := []) (wc := [(h1, .inr (1, f1)), (h4, .inl (cB, 24800, .inl g1))]) (wr := [(h0, .inr (11, f0)), (h2, .inr (2, (f2.set 14 (.int 1)))), (h3, .inl (cI, 32, .inl (upd (upd (upd (upd g0 0 0) 1 0) 2 0) 3 0)))]) (w1 := (fun _ : Unit => [(h1, .inr (1, (f1.set 4 (.int 1)))), (h4, .inl (cB, 24800, .inl (upd g1 0 3)))])) ⟨hx, hb, hml, hown, hts⟩ hN hX hAE hK hP hD hS hA [2, 1] [0, 3, 4] (ci := 1) rfl rfl rfl rfl (by decide +kernel) (by decide +kernel) (by decide +kernel) (c_X1_recordAct_0 l E D cI cJ cB cZ h1 f1 h4 g1 e4 e11) (cwV 1 hts gX11_push_X1_recordAct rfl rfl rfl (by decide +kernel) ⟨Nat.le_of_ble_eq_true rfl, Nat.le_of_ble_eq_true rfl⟩) rfl hl.1 (Nat.le_of_ble_eq_true rfl) dX11_push_52 ⟨Nat.le_of_ble_eq_true rfl, Nat.le_of_ble_eq_true rfl⟩ (fun _ H locs hP hD hS => ?_)
  have hP : va_P D vwCl [(h0, .inr (11, f0)), (h2, .inr (2, (f2.set 14 (.int 1)))), (h3, .inl (cI, 32, .inl (upd (upd (upd (upd g0 0 0) 1 0) 2 0) 3 0))), (h1, .inr (1, (f1.set 4 (.int 1)))), (h4, .inl (cB, 24800, .inl (upd g1 0 3)))] H := hP
  have hD : va_D A [(h0, .inr (11, f0)), (h2, .inr (2, (f2.set 14 (.int 1)))), (h3, .inl (cI, 32, .inl (upd (upd (upd (upd g0 0 0) 1 0) 2 0) 3 0))), (h1, .inr (1, (f1.set 4 (.int 1)))), (h4, .inl (cB, 24800, .inl (upd g1 0 3)))] := hD
  refine lv_aload_n hx hb dX11_push_55 rfl (lv_at hl 0 rfl) ?_
  refine lv_dup hx hb dX11_push_56 rfl ?_
  refine va_get (D := D) (ref := "IntegerHouse") (ci := 11) (v := .int 0) (C := RX11) (T := TX11) (N := 15) hx hb hts hin11 hown hK hP 0 rfl rfl 14 (by decide) (hts (.fieldLink RX11 137 "IntegerHouse" "acts" "I") (List.mem_cons_of_mem _ (List.mem_append_left _ (List.mem_append_left _ (List.mem_append_left _ (List.mem_append_left _ (List.mem_of_getElem? (i := 2) rfl))))))) (fun _ h9 => h9) e12 dX11_push_57 ?_
  refine lv_iconst (v := 1) hx hb dX11_push_60 (by decide) ?_
  refine lv_iadd hx hb dX11_push_61 ?_
  refine k_topi (y := 1) (by decide) ?_
  refine va_put (D := D) (ref := "IntegerHouse") (ci := 11) (v := .int 1) (ty := .int) (C := RX11) (T := TX11) (N := 15) hx hb hts hin11 tyX11 tyX11_ok nmX11 hown hK hP hD hS 0 rfl rfl 14 (by decide) (hts (.fieldLink RX11 137 "IntegerHouse" "acts" "I") (List.mem_cons_of_mem _ (List.mem_append_left _ (List.mem_append_left _ (List.mem_append_left _ (List.mem_append_left _ (List.mem_of_getElem? (i := 2) rfl))))))) (fun _ h9 => h9) rfl (by decide +kernel) rfl rfl (k_len e12) dX11_push_62 (fun H locs hP hD hS => ?_)
  have hP : va_P D vwCl [(h0, .inr (11, (f0.set 14 (.int 1)))), (h2, .inr (2, (f2.set 14 (.int 1)))), (h3, .inl (cI, 32, .inl (upd (upd (upd (upd g0 0 0) 1 0) 2 0) 3 0))), (h1, .inr (1, (f1.set 4 (.int 1)))), (h4, .inl (cB, 24800, .inl (upd g1 0 3)))] H := hP
  have hD : va_D A [(h0, .inr (11, (f0.set 14 (.int 1)))), (h2, .inr (2, (f2.set 14 (.int 1)))), (h3, .inl (cI, 32, .inl (upd (upd (upd (upd g0 0 0) 1 0) 2 0) 3 0))), (h1, .inr (1, (f1.set 4 (.int 1)))), (h4, .inl (cB, 24800, .inl (upd g1 0 3)))] := hD
  refine lv_aload_n hx hb dX11_push_65 rfl (lv_at hl 0 rfl) ?_
  refine va_get (D := D) (ref := "IntegerHouse") (ci := 11) (v := .ref h2) (C := RX11) (T := TX11) (N := 15) hx hb hts hin11 hown hK hP 0 rfl rfl 2 (by decide) (hts (.fieldLink RX11 23 "IntegerHouse" "house" "LIntegerHouse$House;") (List.mem_cons_of_mem _ (List.mem_append_left _ (List.mem_append_left _ (List.mem_append_left _ (List.mem_append_left _ (List.mem_of_getElem? (i := 1) rfl))))))) (fun _ h9 => h9) (k_ne (by decide) e2) dX11_push_66 ?_
  refine va_getN (host := "IntegerHouse") (D := D) (ref := "IntegerHouse$House") (ci := 2) (v := .int 1) (C := RX2) (T := TX2) (N := 16) hx hb hts hin2 hown hK hP 1 rfl rfl 14 (by decide) (va_Nw.use rfl (hN.1 ("IntegerHouse", 221, "IntegerHouse$House", "layers", "I", "IntegerHouse") (List.mem_of_getElem? (i := 22) rfl))) (fun _ h9 => h9) (k_set e3) dX11_push_69 ?_
  have hP := hP.sub (ws' := [(h0, .inr (11, (f0.set 14 (.int 1)))), (h1, .inr (1, (f1.set 4 (.int 1)))), (h2, .inr (2, (f2.set 14 (.int 1)))), (h3, .inl (cI, 32, .inl (upd (upd (upd (upd g0 0 0) 1 0) 2 0) 3 0))), (h4, .inl (cB, 24800, .inl (upd g1 0 3)))]) [0, 3, 1, 2, 4] rfl
  have hD := hD.sub (ws' := [(h0, .inr (11, (f0.set 14 (.int 1)))), (h1, .inr (1, (f1.set 4 (.int 1)))), (h2, .inr (2, (f2.set 14 (.int 1)))), (h3, .inl (cI, 32, .inl (upd (upd (upd (upd g0 0 0) 1 0) 2 0) 3 0))), (h4, .inl (cB, 24800, .inl (upd g1 0 3)))]) [0, 3, 1, 2, 4] (by decide +kernel) rfl
  exact W.iret (v := 1) hx hb hr (fun t ht hW => ⟨⟨1, (), rfl, rfl, kB_mk ht hW hP hK hD⟩, hS.F ht⟩) hS.2.2 dX11_push_72
set_option maxHeartbeats 400000000 in
set_option maxRecDepth 100000 in
theorem c_X12_full_1 (l : Launch) (E : kE) (D : va_G) (cI cJ cB cZ : ClassId) (h0 : Nat) (f0 : List Value) (e0 : f0[15]? = some (.int 3)) (e1 : f0[13]? = some (.int 0)) (e2 : f0[9]? = some (.int 0)) (e3 : f0[4]? = some (.int 0)) : kI l E D (kT cI cJ cB cZ) yX12_full wsX12_full ({ frames := 0, cells := 0, slots := 0, locals := 0 }) [.ref h0] [(h0, .inr (12, f0))] (0) [(h0, .inr (12, f0))] 0 0 := by
  intro sz
  refine Met.ofW (cc := cX12_full) (maxL := 2) (ret := (some .boolean)) (by decide) rfl ?_
  intro p e s m args below meth c s₁ B hml hv
  obtain ⟨rfl, hsz, hP, hK, hD0, hN, hX⟩ := hv
  have hx := B.exec
  have hb := B.bytes
  have hr := B.returns
  have hts := atoms_spec (ws := wsX12_full) B.pre
  have hown : s.vm.findClass RX12 = some m.cls := findClass_of_methodNamed B.named
  have hlocks := B.notSynchronized
  have hin12 : ∀ w ∈ wsX120, w ∈ wsX12_full := (fun w h => (List.mem_cons_of_mem _ (List.mem_append_right _ h)))
  subst hsz
  have hD := hD0.self (sz := s.heap.size)
  have hAE := k_AE hD0 hX
  generalize hAe : va_A [(h0, .inr (12, f0))] s.heap.size = A at hD hAE ⊢
  have hA : ∀ q : Nat, s.heap.size ≤ q → A q := fun q h => by rw [← hAe]; exact Or.inr h
  have hS : va_S A s.heap s.heap [] := va_S.rf
  have hP : va_P D vwCl [(h0, .inr (12, f0))] s.heap := hP
  have hl := lv_entry ([.ref h0] : List Value) (n := 2) (Nat.le_of_ble_eq_true rfl)
  rw [lg_entry_eq]
  generalize (lg_sl ([.ref h0]) ++ List.replicate (2 - (lg_sl ([.ref h0])).length) Slot.unset).toArray = ls at hl ⊢
  have hl : lv_has ls 2 [(0, .ref h0)] := hl
  refine lv_iconst (v := 1) hx hb dX12_full_0 (by decide) ?_
  refine lv_aload_n hx hb dX12_full_1 rfl (lv_at hl 0 rfl) ?_
  refine va_get (D := D) (ref := "IntegerHouseModel") (ci := 12) (v := .int 3) (C := RX12) (T := TX12) (N := 195) hx hb hts hin12 hown hK hP 0 rfl rfl 15 (by decide) (hts (.fieldLink RX12 466 "IntegerHouseModel" "number" "I") (List.mem_cons_of_mem _ (List.mem_append_left _ (List.mem_of_getElem? (i := 0) rfl)))) (fun _ h9 => h9) e0 dX12_full_2 ?_
  refine lv_iconst (v := 2) hx hb dX12_full_5 (by decide) ?_
  refine lv_icmp_ne (tgt := 14) hx hb dX12_full_6 (by decide) (fun _ => ?_) (fun c9 => absurd c9 (by decide))
  refine lv_iconst (v := 0) hx hb dX12_full_14 (by decide) ?_
  refine lv_iadd hx hb dX12_full_15 ?_
  refine k_topi (y := 1) (by decide) ?_
  refine lv_aload_n hx hb dX12_full_16 rfl (lv_at hl 0 rfl) ?_
  refine va_get (D := D) (ref := "IntegerHouseModel") (ci := 12) (v := .int 3) (C := RX12) (T := TX12) (N := 195) hx hb hts hin12 hown hK hP 0 rfl rfl 15 (by decide) (hts (.fieldLink RX12 466 "IntegerHouseModel" "number" "I") (List.mem_cons_of_mem _ (List.mem_append_left _ (List.mem_of_getElem? (i := 0) rfl)))) (fun _ h9 => h9) e0 dX12_full_17 ?_
  refine lv_iconst (v := 1) hx hb dX12_full_20 (by decide) ?_
  refine lv_icmp_ne (tgt := 33) hx hb dX12_full_21 (by decide) (fun _ => ?_) (fun c9 => absurd c9 (by decide))
  refine lv_iconst (v := 0) hx hb dX12_full_33 (by decide) ?_
  refine lv_iadd hx hb dX12_full_34 ?_
  refine k_topi (y := 1) (by decide) ?_
  refine lv_istore_n (lv' := [(1, .int 1), (0, .ref h0)]) hx hb dX12_full_35 rfl hl (by decide) rfl (fun ls hl => ?_)
  refine lv_aload_n hx hb dX12_full_36 rfl (lv_at hl 1 rfl) ?_
  refine va_get (D := D) (ref := "IntegerHouseModel") (ci := 12) (v := .int 0) (C := RX12) (T := TX12) (N := 195) hx hb hts hin12 hown hK hP 0 rfl rfl 13 (by decide) (hts (.fieldLink RX12 472 "IntegerHouseModel" "replay" "Z") (List.mem_cons_of_mem _ (List.mem_append_left _ (List.mem_of_getElem? (i := 2) rfl)))) (fun _ h9 => h9) e1 dX12_full_37 ?_
  refine lv_if_ne (tgt := 73) hx hb dX12_full_40 (by decide) (fun c9 => absurd (by decide) c9) (fun _ => ?_)
  refine lv_aload_n hx hb dX12_full_43 rfl (lv_at hl 1 rfl) ?_
  refine va_get (D := D) (ref := "IntegerHouseModel") (ci := 12) (v := .int 0) (C := RX12) (T := TX12) (N := 195) hx hb hts hin12 hown hK hP 0 rfl rfl 9 (by decide) (hts (.fieldLink RX12 475 "IntegerHouseModel" "waitBytes" "I") (List.mem_cons_of_mem _ (List.mem_append_left _ (List.mem_of_getElem? (i := 3) rfl)))) (fun _ h9 => h9) e2 dX12_full_44 ?_
  refine lv_iload_n hx hb dX12_full_47 rfl (lv_at hl 0 rfl) ?_
  refine lv_iadd hx hb dX12_full_48 ?_
  refine k_topi (y := 1) (by decide) ?_
  refine lv_sipush (v := 248) hx hb dX12_full_49 (by decide) ?_
  refine lv_iadd hx hb dX12_full_52 ?_
  refine k_topi (y := 249) (by decide) ?_
  refine lv_iconst (v := 1) hx hb dX12_full_53 (by decide) ?_
  refine lv_isub hx hb dX12_full_54 ?_
  refine k_topi (y := 248) (by decide) ?_
  refine lv_sipush (v := 248) hx hb dX12_full_55 (by decide) ?_
  refine lv_idiv hx hb dX12_full_58 (by decide) ?_
  refine k_topi (y := 1) (by decide) ?_
  refine lv_bipush (v := 100) hx hb dX12_full_59 (by decide) ?_
  refine lv_aload_n hx hb dX12_full_61 rfl (lv_at hl 1 rfl) ?_
  refine va_get (D := D) (ref := "IntegerHouseModel") (ci := 12) (v := .int 0) (C := RX12) (T := TX12) (N := 195) hx hb hts hin12 hown hK hP 0 rfl rfl 4 (by decide) (hts (.fieldLink RX12 478 "IntegerHouseModel" "used" "I") (List.mem_cons_of_mem _ (List.mem_append_left _ (List.mem_of_getElem? (i := 4) rfl)))) (fun _ h9 => h9) e3 dX12_full_62 ?_
  refine lv_isub hx hb dX12_full_65 ?_
  refine k_topi (y := 100) (by decide) ?_
  refine lv_icmp_le (tgt := 73) hx hb dX12_full_66 (by decide) (fun _ => ?_) (fun c9 => absurd (by decide) c9)
  refine lv_iconst (v := 0) hx hb dX12_full_73 (by decide) ?_
  exact W.zret (v := 0) hx hb hr rfl (fun t ht hW => ⟨⟨0, (), rfl, rfl, kB_mk ht hW hP hK hD⟩, hS.F ht⟩) hS.2.2 dX12_full_74
set_option maxHeartbeats 400000000 in
set_option maxRecDepth 100000 in
theorem c_X12_layer_0 (l : Launch) (E : kE) (D : va_G) (cI cJ cB cZ : ClassId) (h0 : Nat) (f0 : List Value) (h1 : Nat) (g0 : Nat → Int32) (h2 : Nat) (g1 : Nat → Int32) (e0 : f0[105]? = some (.int 0)) (e1 : f0[15]? = some (.int 3)) (e2 : f0[13]? = some (.int 0)) (e3 : f0[9]? = some (.int 0)) (e4 : f0[4]? = some (.int 0)) (e5 : f0[106]? = some (.ref h1)) (e6 : f0[32]? = some (.int 0)) (e7 : f0[107]? = some (.ref h2)) (e8 : f0[33]? = some (.int 0)) : kI l E D (kT cI cJ cB cZ) yX12_layer wsX12_layer ({ frames := 1, cells := 0, slots := 0, locals := 21 }) [.ref h0] [(h0, .inr (12, f0)), (h1, .inl (cI, 8, .inl g0)), (h2, .inl (cI, 8, .inl g1))] (1) [(h0, .inr (12, (f0.set 105 (.int 1)))), (h1, .inl (cI, 8, .inl (upd g0 0 0))), (h2, .inl (cI, 8, .inl (upd g1 0 0)))] 0 0 := by
  intro sz
  refine Met.ofW (cc := cX12_layer) (maxL := 2) (ret := (some .int)) (by decide) rfl ?_
  intro p e s m args below meth c s₁ B hml hv
  obtain ⟨rfl, hsz, hP, hK, hD0, hN, hX⟩ := hv
  have hx := B.exec
  have hb := B.bytes
  have hr := B.returns
  have hts := atoms_spec (ws := wsX12_layer) B.pre
  have hown : s.vm.findClass RX12 = some m.cls := findClass_of_methodNamed B.named
  have hlocks := B.notSynchronized
  have hin12 : ∀ w ∈ wsX120, w ∈ wsX12_layer := (fun w h => (List.mem_cons_of_mem _ (List.mem_append_right _ h)))
  subst hsz
  have hD := hD0.self (sz := s.heap.size)
  have hAE := k_AE hD0 hX
  generalize hAe : va_A [(h0, .inr (12, f0)), (h1, .inl (cI, 8, .inl g0)), (h2, .inl (cI, 8, .inl g1))] s.heap.size = A at hD hAE ⊢
  have hA : ∀ q : Nat, s.heap.size ≤ q → A q := fun q h => by rw [← hAe]; exact Or.inr h
  have hS : va_S A s.heap s.heap [] := va_S.rf
  have hP : va_P D vwCl [(h0, .inr (12, f0)), (h1, .inl (cI, 8, .inl g0)), (h2, .inl (cI, 8, .inl g1))] s.heap := hP
  have hl := lv_entry ([.ref h0] : List Value) (n := 2) (Nat.le_of_ble_eq_true rfl)
  rw [lg_entry_eq]
  generalize (lg_sl ([.ref h0]) ++ List.replicate (2 - (lg_sl ([.ref h0])).length) Slot.unset).toArray = ls at hl ⊢
  have hl : lv_has ls 2 [(0, .ref h0)] := hl
  refine lv_aload_n hx hb dX12_layer_0 rfl (lv_at hl 0 rfl) ?_
  refine va_get (D := D) (ref := "IntegerHouseModel") (ci := 12) (v := .int 0) (C := RX12) (T := TX12) (N := 195) hx hb hts hin12 hown hK hP 0 rfl rfl 105 (by decide) (hts (.fieldLink RX12 821 "IntegerHouseModel" "layers" "I") (List.mem_cons_of_mem _ (List.mem_append_left _ (List.mem_of_getElem? (i := 0) rfl)))) (fun _ h9 => h9) e0 dX12_layer_1 ?_
  refine lv_bipush (v := 8) hx hb dX12_layer_4 (by decide) ?_
  refine lv_icmp_eq (tgt := 16) hx hb dX12_layer_6 (by decide) (fun c9 => absurd c9 (by decide)) (fun _ => ?_)
  refine lv_aload_n hx hb dX12_layer_9 rfl (lv_at hl 0 rfl) ?_
  refine k_cVi (As := []) (rest := []) (wc := [(h0, .inr (12, f0))]) (wr := [(h1, .inl (cI, 8, .inl g0)), (h2, .inl (cI, 8, .inl g1))]) (w1 := [(h0, .inr (12, f0))]) ⟨hx, hb, hml, hown, hts⟩ hN hX hAE hK hP hD hS hA [0] [1, 2] (ci := 12) rfl rfl rfl rfl (by decide +kernel) (by decide +kernel) (by decide +kernel) (c_X12_full_1 l E D cI cJ cB cZ h0 f0 e1 e2 e3 e4) (cwV 0 hts gX12_layer_X12_full rfl rfl rfl (by decide +kernel) ⟨Nat.le_of_ble_eq_true rfl, Nat.le_of_ble_eq_true rfl⟩) rfl hl.1 (Nat.le_of_ble_eq_true rfl) dX12_layer_10 ⟨Nat.le_of_ble_eq_true rfl, Nat.le_of_ble_eq_true rfl⟩ (fun H locs hP hD hS => ?_)
  have hP : va_P D vwCl [(h1, .inl (cI, 8, .inl g0)), (h2, .inl (cI, 8, .inl g1)), (h0, .inr (12, f0))] H := hP
  have hD : va_D A [(h1, .inl (cI, 8, .inl g0)), (h2, .inl (cI, 8, .inl g1)), (h0, .inr (12, f0))] := hD
  refine lv_if_eq (tgt := 23) hx hb dX12_layer_13 (by decide) (fun _ => ?_) (fun c9 => absurd (by decide) c9)
  refine lv_aload_n hx hb dX12_layer_23 rfl (lv_at hl 0 rfl) ?_
  refine va_get (D := D) (ref := "IntegerHouseModel") (ci := 12) (v := .ref h1) (C := RX12) (T := TX12) (N := 195) hx hb hts hin12 hown hK hP 2 rfl rfl 106 (by decide) (hts (.fieldLink RX12 271 "IntegerHouseModel" "layerVariables" "[I") (List.mem_cons_of_mem _ (List.mem_append_left _ (List.mem_of_getElem? (i := 1) rfl)))) (fun _ h9 => h9) e5 dX12_layer_24 ?_
  refine lv_aload_n hx hb dX12_layer_27 rfl (lv_at hl 0 rfl) ?_
  refine va_get (D := D) (ref := "IntegerHouseModel") (ci := 12) (v := .int 0) (C := RX12) (T := TX12) (N := 195) hx hb hts hin12 hown hK hP 2 rfl rfl 105 (by decide) (hts (.fieldLink RX12 821 "IntegerHouseModel" "layers" "I") (List.mem_cons_of_mem _ (List.mem_append_left _ (List.mem_of_getElem? (i := 0) rfl)))) (fun _ h9 => h9) e0 dX12_layer_28 ?_
  refine lv_aload_n hx hb dX12_layer_31 rfl (lv_at hl 0 rfl) ?_
  refine va_get (D := D) (ref := "IntegerHouseModel") (ci := 12) (v := .int 0) (C := RX12) (T := TX12) (N := 195) hx hb hts hin12 hown hK hP 2 rfl rfl 32 (by decide) (hts (.fieldLink RX12 815 "IntegerHouseModel" "variables" "I") (List.mem_cons_of_mem _ (List.mem_append_left _ (List.mem_of_getElem? (i := 2) rfl)))) (fun _ h9 => h9) e6 dX12_layer_32 ?_
  refine va_iast hx hb hK hP hD hS 0 0 rfl rfl (k_in (by decide)) dX12_layer_35 (fun H locs hP hD hS => ?_)
  have hP : va_P D vwCl [(h1, .inl (cI, 8, .inl (upd g0 0 0))), (h2, .inl (cI, 8, .inl g1)), (h0, .inr (12, f0))] H := hP
  have hD : va_D A [(h1, .inl (cI, 8, .inl (upd g0 0 0))), (h2, .inl (cI, 8, .inl g1)), (h0, .inr (12, f0))] := hD
  refine lv_aload_n hx hb dX12_layer_36 rfl (lv_at hl 0 rfl) ?_
  refine va_get (D := D) (ref := "IntegerHouseModel") (ci := 12) (v := .ref h2) (C := RX12) (T := TX12) (N := 195) hx hb hts hin12 hown hK hP 2 rfl rfl 107 (by decide) (hts (.fieldLink RX12 274 "IntegerHouseModel" "layerClaims" "[I") (List.mem_cons_of_mem _ (List.mem_append_left _ (List.mem_of_getElem? (i := 3) rfl)))) (fun _ h9 => h9) e7 dX12_layer_37 ?_
  refine lv_aload_n hx hb dX12_layer_40 rfl (lv_at hl 0 rfl) ?_
  refine va_get (D := D) (ref := "IntegerHouseModel") (ci := 12) (v := .int 0) (C := RX12) (T := TX12) (N := 195) hx hb hts hin12 hown hK hP 2 rfl rfl 105 (by decide) (hts (.fieldLink RX12 821 "IntegerHouseModel" "layers" "I") (List.mem_cons_of_mem _ (List.mem_append_left _ (List.mem_of_getElem? (i := 0) rfl)))) (fun _ h9 => h9) e0 dX12_layer_41 ?_
  refine lv_aload_n hx hb dX12_layer_44 rfl (lv_at hl 0 rfl) ?_
  refine va_get (D := D) (ref := "IntegerHouseModel") (ci := 12) (v := .int 0) (C := RX12) (T := TX12) (N := 195) hx hb hts hin12 hown hK hP 2 rfl rfl 33 (by decide) (hts (.fieldLink RX12 818 "IntegerHouseModel" "claims" "I") (List.mem_cons_of_mem _ (List.mem_append_left _ (List.mem_of_getElem? (i := 4) rfl)))) (fun _ h9 => h9) e8 dX12_layer_45 ?_
  refine va_iast hx hb hK hP hD hS 1 0 rfl rfl (k_in (by decide)) dX12_layer_48 (fun H locs hP hD hS => ?_)
  have hP : va_P D vwCl [(h1, .inl (cI, 8, .inl (upd g0 0 0))), (h2, .inl (cI, 8, .inl (upd g1 0 0))), (h0, .inr (12, f0))] H := hP
  have hD : va_D A [(h1, .inl (cI, 8, .inl (upd g0 0 0))), (h2, .inl (cI, 8, .inl (upd g1 0 0))), (h0, .inr (12, f0))] := hD
  refine lv_iconst (v := 0) hx hb dX12_layer_49 (by decide) ?_
  refine lv_istore_n (lv' := [(1, .int 0), (0, .ref h0)]) hx hb dX12_layer_50 rfl hl (by decide) rfl (fun ls hl => ?_)
  refine lv_iload_n hx hb dX12_layer_51 rfl (lv_at hl 0 rfl) ?_
  refine lv_aload_n hx hb dX12_layer_52 rfl (lv_at hl 1 rfl) ?_
  refine va_get (D := D) (ref := "IntegerHouseModel") (ci := 12) (v := .int 0) (C := RX12) (T := TX12) (N := 195) hx hb hts hin12 hown hK hP 2 rfl rfl 33 (by decide) (hts (.fieldLink RX12 818 "IntegerHouseModel" "claims" "I") (List.mem_cons_of_mem _ (List.mem_append_left _ (List.mem_of_getElem? (i := 4) rfl)))) (fun _ h9 => h9) e8 dX12_layer_53 ?_
  refine lv_icmp_ge (tgt := 85) hx hb dX12_layer_56 (by decide) (fun _ => ?_) (fun c9 => absurd (by decide) c9)
  refine lv_aload_n hx hb dX12_layer_85 rfl (lv_at hl 1 rfl) ?_
  refine lv_dup hx hb dX12_layer_86 rfl ?_
  refine va_get (D := D) (ref := "IntegerHouseModel") (ci := 12) (v := .int 0) (C := RX12) (T := TX12) (N := 195) hx hb hts hin12 hown hK hP 2 rfl rfl 105 (by decide) (hts (.fieldLink RX12 821 "IntegerHouseModel" "layers" "I") (List.mem_cons_of_mem _ (List.mem_append_left _ (List.mem_of_getElem? (i := 0) rfl)))) (fun _ h9 => h9) e0 dX12_layer_87 ?_
  refine lv_iconst (v := 1) hx hb dX12_layer_90 (by decide) ?_
  refine lv_iadd hx hb dX12_layer_91 ?_
  refine k_topi (y := 1) (by decide) ?_
  refine va_put (D := D) (ref := "IntegerHouseModel") (ci := 12) (v := .int 1) (ty := .int) (C := RX12) (T := TX12) (N := 195) hx hb hts hin12 tyX12 tyX12_ok nmX12 hown hK hP hD hS 2 rfl rfl 105 (by decide) (hts (.fieldLink RX12 821 "IntegerHouseModel" "layers" "I") (List.mem_cons_of_mem _ (List.mem_append_left _ (List.mem_of_getElem? (i := 0) rfl)))) (fun _ h9 => h9) rfl (by decide +kernel) rfl rfl (k_len e0) dX12_layer_92 (fun H locs hP hD hS => ?_)
  have hP : va_P D vwCl [(h1, .inl (cI, 8, .inl (upd g0 0 0))), (h2, .inl (cI, 8, .inl (upd g1 0 0))), (h0, .inr (12, (f0.set 105 (.int 1))))] H := hP
  have hD : va_D A [(h1, .inl (cI, 8, .inl (upd g0 0 0))), (h2, .inl (cI, 8, .inl (upd g1 0 0))), (h0, .inr (12, (f0.set 105 (.int 1))))] := hD
  refine lv_aload_n hx hb dX12_layer_95 rfl (lv_at hl 1 rfl) ?_
  refine va_get (D := D) (ref := "IntegerHouseModel") (ci := 12) (v := .int 1) (C := RX12) (T := TX12) (N := 195) hx hb hts hin12 hown hK hP 2 rfl rfl 105 (by decide) (hts (.fieldLink RX12 821 "IntegerHouseModel" "layers" "I") (List.mem_cons_of_mem _ (List.mem_append_left _ (List.mem_of_getElem? (i := 0) rfl)))) (fun _ h9 => h9) (k_set e0) dX12_layer_96 ?_
  have hP := hP.sub (ws' := [(h0, .inr (12, (f0.set 105 (.int 1)))), (h1, .inl (cI, 8, .inl (upd g0 0 0))), (h2, .inl (cI, 8, .inl (upd g1 0 0)))]) [2, 0, 1] rfl
  have hD := hD.sub (ws' := [(h0, .inr (12, (f0.set 105 (.int 1)))), (h1, .inl (cI, 8, .inl (upd g0 0 0))), (h2, .inl (cI, 8, .inl (upd g1 0 0)))]) [2, 0, 1] (by decide +kernel) rfl
  exact W.iret (v := 1) hx hb hr (fun t ht hW => ⟨⟨1, (), rfl, rfl, kB_mk ht hW hP hK hD⟩, hS.F ht⟩) hS.2.2 dX12_layer_99
set_option maxHeartbeats 400000000 in
set_option maxRecDepth 100000 in
theorem c_X12_act_3 (l : Launch) (E : kE) (D : va_G) (cI cJ cB cZ : ClassId) (h0 : Nat) (f0 : List Value) (h1 : Nat) (h2 : Nat) (g0 : Nat → Int32) (g1 : Nat → Int32) (e0 : f0[15]? = some (.int 3)) (e1 : f0[105]? = some (.int 0)) (e2 : f0[13]? = some (.int 0)) (e3 : f0[9]? = some (.int 0)) (e4 : f0[4]? = some (.int 0)) (e5 : f0[106]? = some (.ref h1)) (e6 : f0[32]? = some (.int 0)) (e7 : f0[107]? = some (.ref h2)) (e8 : f0[33]? = some (.int 0)) : kI l E D (kT cI cJ cB cZ) yX12_act wsX12_act ({ frames := 2, cells := 0, slots := 0, locals := 42 }) [.ref h0] [(h0, .inr (12, f0)), (h1, .inl (cI, 8, .inl g0)), (h2, .inl (cI, 8, .inl g1))] (1) [(h0, .inr (12, (f0.set 105 (.int 1)))), (h1, .inl (cI, 8, .inl (upd g0 0 0))), (h2, .inl (cI, 8, .inl (upd g1 0 0)))] 0 0 := by
  intro sz
  refine Met.ofW (cc := cX12_act) (maxL := 1) (ret := (some .int)) (by decide) rfl ?_
  intro p e s m args below meth c s₁ B hml hv
  obtain ⟨rfl, hsz, hP, hK, hD0, hN, hX⟩ := hv
  have hx := B.exec
  have hb := B.bytes
  have hr := B.returns
  have hts := atoms_spec (ws := wsX12_act) B.pre
  have hown : s.vm.findClass RX12 = some m.cls := findClass_of_methodNamed B.named
  have hlocks := B.notSynchronized
  have hin12 : ∀ w ∈ wsX120, w ∈ wsX12_act := (fun w h => (List.mem_cons_of_mem _ (List.mem_append_right _ h)))
  subst hsz
  have hD := hD0.self (sz := s.heap.size)
  have hAE := k_AE hD0 hX
  generalize hAe : va_A [(h0, .inr (12, f0)), (h1, .inl (cI, 8, .inl g0)), (h2, .inl (cI, 8, .inl g1))] s.heap.size = A at hD hAE ⊢
  have hA : ∀ q : Nat, s.heap.size ≤ q → A q := fun q h => by rw [← hAe]; exact Or.inr h
  have hS : va_S A s.heap s.heap [] := va_S.rf
  have hP : va_P D vwCl [(h0, .inr (12, f0)), (h1, .inl (cI, 8, .inl g0)), (h2, .inl (cI, 8, .inl g1))] s.heap := hP
  have hl := lv_entry ([.ref h0] : List Value) (n := 1) (Nat.le_of_ble_eq_true rfl)
  rw [lg_entry_eq]
  generalize (lg_sl ([.ref h0]) ++ List.replicate (1 - (lg_sl ([.ref h0])).length) Slot.unset).toArray = ls at hl ⊢
  have hl : lv_has ls 1 [(0, .ref h0)] := hl
  refine lv_aload_n hx hb dX12_act_0 rfl (lv_at hl 0 rfl) ?_
  refine va_get (D := D) (ref := "IntegerHouseModel") (ci := 12) (v := .int 3) (C := RX12) (T := TX12) (N := 195) hx hb hts hin12 hown hK hP 0 rfl rfl 15 (by decide) (hts (.fieldLink RX12 466 "IntegerHouseModel" "number" "I") (List.mem_cons_of_mem _ (List.mem_append_left _ (List.mem_append_left _ (List.mem_of_getElem? (i := 0) rfl))))) (fun _ h9 => h9) e0 dX12_act_1 ?_
  refine lv_tableIn (off := 38) (tgt := 42) hx hb dX12_act_4 (by decide) (by decide) rfl (by decide) ?_
  refine lv_aload_n hx hb dX12_act_42 rfl (lv_at hl 0 rfl) ?_
  refine k_cVi (As := []) (rest := []) (wc := [(h0, .inr (12, f0)), (h1, .inl (cI, 8, .inl g0)), (h2, .inl (cI, 8, .inl g1))]) (wr := []) (w1 := [(h0, .inr (12, (f0.set 105 (.int 1)))), (h1, .inl (cI, 8, .inl (upd g0 0 0))), (h2, .inl (cI, 8, .inl (upd g1 0 0)))]) ⟨hx, hb, hml, hown, hts⟩ hN hX hAE hK hP hD hS hA [0, 1, 2] [] (ci := 12) rfl rfl rfl rfl (by decide +kernel) (by decide +kernel) (by decide +kernel) (c_X12_layer_0 l E D cI cJ cB cZ h0 f0 h1 g0 h2 g1 e1 e0 e2 e3 e4 e5 e6 e7 e8) (cwV 0 hts gX12_act_X12_layer rfl rfl rfl (by decide +kernel) ⟨Nat.le_of_ble_eq_true rfl, Nat.le_of_ble_eq_true rfl⟩) rfl hl.1 (Nat.le_of_ble_eq_true rfl) dX12_act_43 ⟨Nat.le_of_ble_eq_true rfl, Nat.le_of_ble_eq_true rfl⟩ (fun H locs hP hD hS => ?_)
  have hP : va_P D vwCl [(h0, .inr (12, (f0.set 105 (.int 1)))), (h1, .inl (cI, 8, .inl (upd g0 0 0))), (h2, .inl (cI, 8, .inl (upd g1 0 0)))] H := hP
  have hD : va_D A [(h0, .inr (12, (f0.set 105 (.int 1)))), (h1, .inl (cI, 8, .inl (upd g0 0 0))), (h2, .inl (cI, 8, .inl (upd g1 0 0)))] := hD
  exact W.iret (v := 1) hx hb hr (fun t ht hW => ⟨⟨1, (), rfl, rfl, kB_mk ht hW hP hK hD⟩, hS.F ht⟩) hS.2.2 dX12_act_46
set_option maxHeartbeats 400000000 in
set_option maxRecDepth 100000 in
theorem c_X12_note_3 (l : Launch) (E : kE) (D : va_G) (cI cJ cB cZ : ClassId) (h0 : Nat) (f0 : List Value) (h1 : Nat) (g0 : Nat → Int32) (e0 : f0[8]? = some (.ref h1)) (e1 : f0[9]? = some (.int 0)) : kV l E D (kT cI cJ cB cZ) yX12_note wsX12_note ({ frames := 0, cells := 0, slots := 0, locals := 0 }) [.ref h0, .int 3] [(h0, .inr (12, f0)), (h1, .inl (cB, 24800, .inl g0))] (fun _ : Unit => [(h0, .inr (12, (f0.set 9 (.int 1)))), (h1, .inl (cB, 24800, .inl (upd g0 0 3)))]) 0 0 := by
  intro sz
  refine Met.ofW (cc := cX12_note) (maxL := 2) (ret := none) (by decide) rfl ?_
  intro p e s m args below meth c s₁ B hml hv
  obtain ⟨rfl, hsz, hP, hK, hD0, hN, hX⟩ := hv
  have hx := B.exec
  have hb := B.bytes
  have hr := B.returns
  have hts := atoms_spec (ws := wsX12_note) B.pre
  have hown : s.vm.findClass RX12 = some m.cls := findClass_of_methodNamed B.named
  have hlocks := B.notSynchronized
  have hin12 : ∀ w ∈ wsX120, w ∈ wsX12_note := (fun w h => (List.mem_cons_of_mem _ (List.mem_append_right _ h)))
  subst hsz
  have hD := hD0.self (sz := s.heap.size)
  have hAE := k_AE hD0 hX
  generalize hAe : va_A [(h0, .inr (12, f0)), (h1, .inl (cB, 24800, .inl g0))] s.heap.size = A at hD hAE ⊢
  have hA : ∀ q : Nat, s.heap.size ≤ q → A q := fun q h => by rw [← hAe]; exact Or.inr h
  have hS : va_S A s.heap s.heap [] := va_S.rf
  have hP : va_P D vwCl [(h0, .inr (12, f0)), (h1, .inl (cB, 24800, .inl g0))] s.heap := hP
  have hl := lv_entry ([.ref h0, .int 3] : List Value) (n := 2) (Nat.le_of_ble_eq_true rfl)
  rw [lg_entry_eq]
  generalize (lg_sl ([.ref h0, .int 3]) ++ List.replicate (2 - (lg_sl ([.ref h0, .int 3])).length) Slot.unset).toArray = ls at hl ⊢
  have hl : lv_has ls 2 [(0, .ref h0), (1, .int 3)] := hl
  refine lv_aload_n hx hb dX12_note_0 rfl (lv_at hl 0 rfl) ?_
  refine va_get (D := D) (ref := "IntegerHouseModel") (ci := 12) (v := .ref h1) (C := RX12) (T := TX12) (N := 195) hx hb hts hin12 hown hK hP 0 rfl rfl 8 (by decide) (hts (.fieldLink RX12 25 "IntegerHouseModel" "waits" "[B") (List.mem_cons_of_mem _ (List.mem_append_left _ (List.mem_of_getElem? (i := 0) rfl)))) (fun _ h9 => h9) e0 dX12_note_1 ?_
  refine lv_aload_n hx hb dX12_note_4 rfl (lv_at hl 0 rfl) ?_
  refine va_get (D := D) (ref := "IntegerHouseModel") (ci := 12) (v := .int 0) (C := RX12) (T := TX12) (N := 195) hx hb hts hin12 hown hK hP 0 rfl rfl 9 (by decide) (hts (.fieldLink RX12 475 "IntegerHouseModel" "waitBytes" "I") (List.mem_cons_of_mem _ (List.mem_append_left _ (List.mem_of_getElem? (i := 1) rfl)))) (fun _ h9 => h9) e1 dX12_note_5 ?_
  refine lv_iload_n hx hb dX12_note_8 rfl (lv_at hl 1 rfl) ?_
  refine lv_i2b (v := 3) hx hb dX12_note_9 (by decide) ?_
  refine va_bast hx hb hK hP hD hS 1 2 rfl rfl (k_in (by decide)) dX12_note_10 (fun H locs hP hD hS => ?_)
  have hP : va_P D vwCl [(h0, .inr (12, f0)), (h1, .inl (cB, 24800, .inl (upd g0 0 3)))] H := hP
  have hD : va_D A [(h0, .inr (12, f0)), (h1, .inl (cB, 24800, .inl (upd g0 0 3)))] := hD
  refine lv_aload_n hx hb dX12_note_11 rfl (lv_at hl 0 rfl) ?_
  refine lv_dup hx hb dX12_note_12 rfl ?_
  refine va_get (D := D) (ref := "IntegerHouseModel") (ci := 12) (v := .int 0) (C := RX12) (T := TX12) (N := 195) hx hb hts hin12 hown hK hP 0 rfl rfl 9 (by decide) (hts (.fieldLink RX12 475 "IntegerHouseModel" "waitBytes" "I") (List.mem_cons_of_mem _ (List.mem_append_left _ (List.mem_of_getElem? (i := 1) rfl)))) (fun _ h9 => h9) e1 dX12_note_13 ?_
  refine lv_iconst (v := 1) hx hb dX12_note_16 (by decide) ?_
  refine lv_iadd hx hb dX12_note_17 ?_
  refine k_topi (y := 1) (by decide) ?_
  refine va_put (D := D) (ref := "IntegerHouseModel") (ci := 12) (v := .int 1) (ty := .int) (C := RX12) (T := TX12) (N := 195) hx hb hts hin12 tyX12 tyX12_ok nmX12 hown hK hP hD hS 0 rfl rfl 9 (by decide) (hts (.fieldLink RX12 475 "IntegerHouseModel" "waitBytes" "I") (List.mem_cons_of_mem _ (List.mem_append_left _ (List.mem_of_getElem? (i := 1) rfl)))) (fun _ h9 => h9) rfl (by decide +kernel) rfl rfl (k_len e1) dX12_note_18 (fun H locs hP hD hS => ?_)
  have hP : va_P D vwCl [(h0, .inr (12, (f0.set 9 (.int 1)))), (h1, .inl (cB, 24800, .inl (upd g0 0 3)))] H := hP
  have hD : va_D A [(h0, .inr (12, (f0.set 9 (.int 1)))), (h1, .inl (cB, 24800, .inl (upd g0 0 3)))] := hD
  exact W.vret hx hb hr (fun t ht hW => ⟨⟨(), rfl, trivial, kB_mk ht hW hP hK hD⟩, hS.F ht⟩) hS.2.2 dX12_note_21
set_option maxHeartbeats 400000000 in
set_option maxRecDepth 100000 in
theorem c_X12_call_3 (l : Launch) (E : kE) (D : va_G) (cI cJ cB cZ : ClassId) (h0 : Nat) (f0 : List Value) (h1 : Nat) (h2 : Nat) (g0 : Nat → Int32) (g1 : Nat → Int32) (h3 : Nat) (g2 : Nat → Int32) (e0 : f0[0]? = some (.int 0)) (e1 : f0[5]? = some (.int 0)) (e2 : f0[15]? = some (.int 0)) (e3 : f0[13]? = some (.int 0)) (e4 : f0[14]? = some (.int 0)) (e5 : f0[105]? = some (.int 0)) (e6 : f0[9]? = some (.int 0)) (e7 : f0[4]? = some (.int 0)) (e8 : f0[106]? = some (.ref h1)) (e9 : f0[32]? = some (.int 0)) (e10 : f0[107]? = some (.ref h2)) (e11 : f0[33]? = some (.int 0)) (e12 : f0[16]? = some (.int 0)) (e13 : f0[8]? = some (.ref h3)) : kI l E D (kT cI cJ cB cZ) yX12_call wsX12_call ({ frames := 3, cells := 0, slots := 0, locals := 62 }) [.ref h0, .int 3] [(h0, .inr (12, f0)), (h1, .inl (cI, 8, .inl g0)), (h2, .inl (cI, 8, .inl g1)), (h3, .inl (cB, 24800, .inl g2))] (1) [(h0, .inr (12, (((((((f0.set 0 (.int 0)).set 15 (.int 3)).set 13 (.int 0)).set 14 (.int 0)).set 105 (.int 1)).set 16 (.int 1)).set 9 (.int 1)))), (h1, .inl (cI, 8, .inl (upd g0 0 0))), (h2, .inl (cI, 8, .inl (upd g1 0 0))), (h3, .inl (cB, 24800, .inl (upd g2 0 3)))] 0 0 := by
  intro sz
  refine Met.ofW (cc := cX12_call) (maxL := 4) (ret := (some .int)) (by decide) rfl ?_
  intro p e s m args below meth c s₁ B hml hv
  obtain ⟨rfl, hsz, hP, hK, hD0, hN, hX⟩ := hv
  have hx := B.exec
  have hb := B.bytes
  have hr := B.returns
  have hts := atoms_spec (ws := wsX12_call) B.pre
  have hown : s.vm.findClass RX12 = some m.cls := findClass_of_methodNamed B.named
  have hlocks := B.notSynchronized
  have hin12 : ∀ w ∈ wsX120, w ∈ wsX12_call := (fun w h => (List.mem_cons_of_mem _ (List.mem_append_right _ h)))
  subst hsz
  have hD := hD0.self (sz := s.heap.size)
  have hAE := k_AE hD0 hX
  generalize hAe : va_A [(h0, .inr (12, f0)), (h1, .inl (cI, 8, .inl g0)), (h2, .inl (cI, 8, .inl g1)), (h3, .inl (cB, 24800, .inl g2))] s.heap.size = A at hD hAE ⊢
  have hA : ∀ q : Nat, s.heap.size ≤ q → A q := fun q h => by rw [← hAe]; exact Or.inr h
  have hS : va_S A s.heap s.heap [] := va_S.rf
  have hP : va_P D vwCl [(h0, .inr (12, f0)), (h1, .inl (cI, 8, .inl g0)), (h2, .inl (cI, 8, .inl g1)), (h3, .inl (cB, 24800, .inl g2))] s.heap := hP
  have hl := lv_entry ([.ref h0, .int 3] : List Value) (n := 4) (Nat.le_of_ble_eq_true rfl)
  rw [lg_entry_eq]
  generalize (lg_sl ([.ref h0, .int 3]) ++ List.replicate (4 - (lg_sl ([.ref h0, .int 3])).length) Slot.unset).toArray = ls at hl ⊢
  have hl : lv_has ls 4 [(0, .ref h0), (1, .int 3)] := hl
  refine lv_aload_n hx hb dX12_call_0 rfl (lv_at hl 0 rfl) ?_
  refine lv_iconst (v := 0) hx hb dX12_call_1 (by decide) ?_
  refine va_put (D := D) (ref := "IntegerHouseModel") (ci := 12) (v := .int 0) (ty := .int) (C := RX12) (T := TX12) (N := 195) hx hb hts hin12 tyX12 tyX12_ok nmX12 hown hK hP hD hS 0 rfl rfl 0 (by decide) (hts (.fieldLink RX12 3 "IntegerHouseModel" "thrown" "I") (List.mem_cons_of_mem _ (List.mem_append_left _ (List.mem_append_left _ (List.mem_of_getElem? (i := 0) rfl))))) (fun _ h9 => h9) rfl (by decide +kernel) rfl rfl (k_len e0) dX12_call_2 (fun H locs hP hD hS => ?_)
  have hP : va_P D vwCl [(h0, .inr (12, (f0.set 0 (.int 0)))), (h1, .inl (cI, 8, .inl g0)), (h2, .inl (cI, 8, .inl g1)), (h3, .inl (cB, 24800, .inl g2))] H := hP
  have hD : va_D A [(h0, .inr (12, (f0.set 0 (.int 0)))), (h1, .inl (cI, 8, .inl g0)), (h2, .inl (cI, 8, .inl g1)), (h3, .inl (cB, 24800, .inl g2))] := hD
  refine lv_aload_n hx hb dX12_call_5 rfl (lv_at hl 0 rfl) ?_
  refine va_get (D := D) (ref := "IntegerHouseModel") (ci := 12) (v := .int 0) (C := RX12) (T := TX12) (N := 195) hx hb hts hin12 hown hK hP 0 rfl rfl 5 (by decide) (hts (.fieldLink RX12 488 "IntegerHouseModel" "down" "Z") (List.mem_cons_of_mem _ (List.mem_append_left _ (List.mem_append_left _ (List.mem_of_getElem? (i := 1) rfl))))) (fun _ h9 => h9) (k_ne (by decide) e1) dX12_call_6 ?_
  refine lv_if_eq (tgt := 15) hx hb dX12_call_9 (by decide) (fun _ => ?_) (fun c9 => absurd (by decide) c9)
  refine lv_aload_n hx hb dX12_call_15 rfl (lv_at hl 0 rfl) ?_
  refine lv_iload_n hx hb dX12_call_16 rfl (lv_at hl 1 rfl) ?_
  refine va_put (D := D) (ref := "IntegerHouseModel") (ci := 12) (v := .int 3) (ty := .int) (C := RX12) (T := TX12) (N := 195) hx hb hts hin12 tyX12 tyX12_ok nmX12 hown hK hP hD hS 0 rfl rfl 15 (by decide) (hts (.fieldLink RX12 466 "IntegerHouseModel" "number" "I") (List.mem_cons_of_mem _ (List.mem_append_left _ (List.mem_append_left _ (List.mem_of_getElem? (i := 2) rfl))))) (fun _ h9 => h9) rfl (by decide +kernel) rfl rfl (k_len (k_ne (by decide) e2)) dX12_call_17 (fun H locs hP hD hS => ?_)
  have hP : va_P D vwCl [(h0, .inr (12, ((f0.set 0 (.int 0)).set 15 (.int 3)))), (h1, .inl (cI, 8, .inl g0)), (h2, .inl (cI, 8, .inl g1)), (h3, .inl (cB, 24800, .inl g2))] H := hP
  have hD : va_D A [(h0, .inr (12, ((f0.set 0 (.int 0)).set 15 (.int 3)))), (h1, .inl (cI, 8, .inl g0)), (h2, .inl (cI, 8, .inl g1)), (h3, .inl (cB, 24800, .inl g2))] := hD
  refine lv_aload_n hx hb dX12_call_20 rfl (lv_at hl 0 rfl) ?_
  refine lv_iconst (v := 0) hx hb dX12_call_21 (by decide) ?_
  refine va_put (D := D) (ref := "IntegerHouseModel") (ci := 12) (v := .int 0) (ty := .boolean) (C := RX12) (T := TX12) (N := 195) hx hb hts hin12 tyX12 tyX12_ok nmX12 hown hK hP hD hS 0 rfl rfl 13 (by decide) (hts (.fieldLink RX12 472 "IntegerHouseModel" "replay" "Z") (List.mem_cons_of_mem _ (List.mem_append_left _ (List.mem_append_left _ (List.mem_of_getElem? (i := 3) rfl))))) (fun _ h9 => h9) rfl (by decide +kernel) rfl rfl (k_len (k_ne (by decide) (k_ne (by decide) e3))) dX12_call_22 (fun H locs hP hD hS => ?_)
  have hP : va_P D vwCl [(h0, .inr (12, (((f0.set 0 (.int 0)).set 15 (.int 3)).set 13 (.int 0)))), (h1, .inl (cI, 8, .inl g0)), (h2, .inl (cI, 8, .inl g1)), (h3, .inl (cB, 24800, .inl g2))] H := hP
  have hD : va_D A [(h0, .inr (12, (((f0.set 0 (.int 0)).set 15 (.int 3)).set 13 (.int 0)))), (h1, .inl (cI, 8, .inl g0)), (h2, .inl (cI, 8, .inl g1)), (h3, .inl (cB, 24800, .inl g2))] := hD
  refine lv_aload_n hx hb dX12_call_25 rfl (lv_at hl 0 rfl) ?_
  refine lv_iconst (v := 0) hx hb dX12_call_26 (by decide) ?_
  refine va_put (D := D) (ref := "IntegerHouseModel") (ci := 12) (v := .int 0) (ty := .boolean) (C := RX12) (T := TX12) (N := 195) hx hb hts hin12 tyX12 tyX12_ok nmX12 hown hK hP hD hS 0 rfl rfl 14 (by decide) (hts (.fieldLink RX12 462 "IntegerHouseModel" "refused" "Z") (List.mem_cons_of_mem _ (List.mem_append_left _ (List.mem_append_left _ (List.mem_of_getElem? (i := 4) rfl))))) (fun _ h9 => h9) rfl (by decide +kernel) rfl rfl (k_len (k_ne (by decide) (k_ne (by decide) (k_ne (by decide) e4)))) dX12_call_27 (fun H locs hP hD hS => ?_)
  have hP : va_P D vwCl [(h0, .inr (12, ((((f0.set 0 (.int 0)).set 15 (.int 3)).set 13 (.int 0)).set 14 (.int 0)))), (h1, .inl (cI, 8, .inl g0)), (h2, .inl (cI, 8, .inl g1)), (h3, .inl (cB, 24800, .inl g2))] H := hP
  have hD : va_D A [(h0, .inr (12, ((((f0.set 0 (.int 0)).set 15 (.int 3)).set 13 (.int 0)).set 14 (.int 0)))), (h1, .inl (cI, 8, .inl g0)), (h2, .inl (cI, 8, .inl g1)), (h3, .inl (cB, 24800, .inl g2))] := hD
  refine lv_iload_n hx hb dX12_call_30 rfl (lv_at hl 1 rfl) ?_
  refine lv_iconst (v := 1) hx hb dX12_call_31 (by decide) ?_
  refine lv_icmp_ne (tgt := 39) hx hb dX12_call_32 (by decide) (fun _ => ?_) (fun c9 => absurd c9 (by decide))
  refine lv_aload_n hx hb dX12_call_39 rfl (lv_at hl 0 rfl) ?_
  refine k_cVi (As := []) (rest := []) (wc := [(h0, .inr (12, ((((f0.set 0 (.int 0)).set 15 (.int 3)).set 13 (.int 0)).set 14 (.int 0)))), (h1, .inl (cI, 8, .inl g0)), (h2, .inl (cI, 8, .inl g1))]) (wr := [(h3, .inl (cB, 24800, .inl g2))]) (w1 := [(h0, .inr (12, (((((f0.set 0 (.int 0)).set 15 (.int 3)).set 13 (.int 0)).set 14 (.int 0)).set 105 (.int 1)))), (h1, .inl (cI, 8, .inl (upd g0 0 0))), (h2, .inl (cI, 8, .inl (upd g1 0 0)))]) ⟨hx, hb, hml, hown, hts⟩ hN hX hAE hK hP hD hS hA [0, 1, 2] [3] (ci := 12) rfl rfl rfl rfl (by decide +kernel) (by decide +kernel) (by decide +kernel) (c_X12_act_3 l E D cI cJ cB cZ h0 (((((f0.set 0 (.int 0)).set 15 (.int 3)).set 13 (.int 0)).set 14 (.int 0))) h1 h2 g0 g1 (k_ne (by decide) (k_ne (by decide) (k_set (k_ne (by decide) e2)))) (k_ne (by decide) (k_ne (by decide) (k_ne (by decide) (k_ne (by decide) e5)))) (k_ne (by decide) (k_set (k_ne (by decide) (k_ne (by decide) e3)))) (k_ne (by decide) (k_ne (by decide) (k_ne (by decide) (k_ne (by decide) e6)))) (k_ne (by decide) (k_ne (by decide) (k_ne (by decide) (k_ne (by decide) e7)))) (k_ne (by decide) (k_ne (by decide) (k_ne (by decide) (k_ne (by decide) e8)))) (k_ne (by decide) (k_ne (by decide) (k_ne (by decide) (k_ne (by decide) e9)))) (k_ne (by decide) (k_ne (by decide) (k_ne (by decide) (k_ne (by decide) e10)))) (k_ne (by decide) (k_ne (by decide) (k_ne (by decide) (k_ne (by decide) e11))))) (cwV 0 hts gX12_call_X12_act rfl rfl rfl (by decide +kernel) ⟨Nat.le_of_ble_eq_true rfl, Nat.le_of_ble_eq_true rfl⟩) rfl hl.1 (Nat.le_of_ble_eq_true rfl) dX12_call_40 ⟨Nat.le_of_ble_eq_true rfl, Nat.le_of_ble_eq_true rfl⟩ (fun H locs hP hD hS => ?_)
  have hP : va_P D vwCl [(h3, .inl (cB, 24800, .inl g2)), (h0, .inr (12, (((((f0.set 0 (.int 0)).set 15 (.int 3)).set 13 (.int 0)).set 14 (.int 0)).set 105 (.int 1)))), (h1, .inl (cI, 8, .inl (upd g0 0 0))), (h2, .inl (cI, 8, .inl (upd g1 0 0)))] H := hP
  have hD : va_D A [(h3, .inl (cB, 24800, .inl g2)), (h0, .inr (12, (((((f0.set 0 (.int 0)).set 15 (.int 3)).set 13 (.int 0)).set 14 (.int 0)).set 105 (.int 1)))), (h1, .inl (cI, 8, .inl (upd g0 0 0))), (h2, .inl (cI, 8, .inl (upd g1 0 0)))] := hD
  refine lv_istore_n (lv' := [(2, .int 1), (0, .ref h0), (1, .int 3)]) hx hb dX12_call_43 rfl hl (by decide) rfl (fun ls hl => ?_)
  refine lv_aload_n hx hb dX12_call_44 rfl (lv_at hl 1 rfl) ?_
  refine va_get (D := D) (ref := "IntegerHouseModel") (ci := 12) (v := .int 0) (C := RX12) (T := TX12) (N := 195) hx hb hts hin12 hown hK hP 1 rfl rfl 14 (by decide) (hts (.fieldLink RX12 462 "IntegerHouseModel" "refused" "Z") (List.mem_cons_of_mem _ (List.mem_append_left _ (List.mem_append_left _ (List.mem_of_getElem? (i := 4) rfl))))) (fun _ h9 => h9) (k_ne (by decide) (k_set (k_ne (by decide) (k_ne (by decide) (k_ne (by decide) e4))))) dX12_call_45 ?_
  refine lv_if_ne (tgt := 141) hx hb dX12_call_48 (by decide) (fun c9 => absurd (by decide) c9) (fun _ => ?_)
  refine lv_aload_n hx hb dX12_call_51 rfl (lv_at hl 1 rfl) ?_
  refine lv_dup hx hb dX12_call_52 rfl ?_
  refine va_get (D := D) (ref := "IntegerHouseModel") (ci := 12) (v := .int 0) (C := RX12) (T := TX12) (N := 195) hx hb hts hin12 hown hK hP 1 rfl rfl 16 (by decide) (hts (.fieldLink RX12 498 "IntegerHouseModel" "done" "I") (List.mem_cons_of_mem _ (List.mem_append_left _ (List.mem_append_left _ (List.mem_of_getElem? (i := 5) rfl))))) (fun _ h9 => h9) (k_ne (by decide) (k_ne (by decide) (k_ne (by decide) (k_ne (by decide) (k_ne (by decide) e12))))) dX12_call_53 ?_
  refine lv_iconst (v := 1) hx hb dX12_call_56 (by decide) ?_
  refine lv_iadd hx hb dX12_call_57 ?_
  refine k_topi (y := 1) (by decide) ?_
  refine va_put (D := D) (ref := "IntegerHouseModel") (ci := 12) (v := .int 1) (ty := .int) (C := RX12) (T := TX12) (N := 195) hx hb hts hin12 tyX12 tyX12_ok nmX12 hown hK hP hD hS 1 rfl rfl 16 (by decide) (hts (.fieldLink RX12 498 "IntegerHouseModel" "done" "I") (List.mem_cons_of_mem _ (List.mem_append_left _ (List.mem_append_left _ (List.mem_of_getElem? (i := 5) rfl))))) (fun _ h9 => h9) rfl (by decide +kernel) rfl rfl (k_len (k_ne (by decide) (k_ne (by decide) (k_ne (by decide) (k_ne (by decide) (k_ne (by decide) e12)))))) dX12_call_58 (fun H locs hP hD hS => ?_)
  have hP : va_P D vwCl [(h3, .inl (cB, 24800, .inl g2)), (h0, .inr (12, ((((((f0.set 0 (.int 0)).set 15 (.int 3)).set 13 (.int 0)).set 14 (.int 0)).set 105 (.int 1)).set 16 (.int 1)))), (h1, .inl (cI, 8, .inl (upd g0 0 0))), (h2, .inl (cI, 8, .inl (upd g1 0 0)))] H := hP
  have hD : va_D A [(h3, .inl (cB, 24800, .inl g2)), (h0, .inr (12, ((((((f0.set 0 (.int 0)).set 15 (.int 3)).set 13 (.int 0)).set 14 (.int 0)).set 105 (.int 1)).set 16 (.int 1)))), (h1, .inl (cI, 8, .inl (upd g0 0 0))), (h2, .inl (cI, 8, .inl (upd g1 0 0)))] := hD
  refine lv_aload_n hx hb dX12_call_61 rfl (lv_at hl 1 rfl) ?_
  refine lv_iload_n hx hb dX12_call_62 rfl (lv_at hl 2 rfl) ?_
  refine k_cVv (As := [.int 3]) (rest := []) (wc := [(h0, .inr (12, ((((((f0.set 0 (.int 0)).set 15 (.int 3)).set 13 (.int 0)).set 14 (.int 0)).set 105 (.int 1)).set 16 (.int 1)))), (h3, .inl (cB, 24800, .inl g2))]) (wr := [(h1, .inl (cI, 8, .inl (upd g0 0 0))), (h2, .inl (cI, 8, .inl (upd g1 0 0)))]) (w1 := (fun _ : Unit => [(h0, .inr (12, (((((((f0.set 0 (.int 0)).set 15 (.int 3)).set 13 (.int 0)).set 14 (.int 0)).set 105 (.int 1)).set 16 (.int 1)).set 9 (.int 1)))), (h3, .inl (cB, 24800, .inl (upd g2 0 3)))])) ⟨hx, hb, hml, hown, hts⟩ hN hX hAE hK hP hD hS hA [1, 0] [2, 3] (ci := 12) rfl rfl rfl rfl (by decide +kernel) (by decide +kernel) (by decide +kernel) (c_X12_note_3 l E D cI cJ cB cZ h0 (((((((f0.set 0 (.int 0)).set 15 (.int 3)).set 13 (.int 0)).set 14 (.int 0)).set 105 (.int 1)).set 16 (.int 1))) h3 g2 (k_ne (by decide) (k_ne (by decide) (k_ne (by decide) (k_ne (by decide) (k_ne (by decide) (k_ne (by decide) e13)))))) (k_ne (by decide) (k_ne (by decide) (k_ne (by decide) (k_ne (by decide) (k_ne (by decide) (k_ne (by decide) e6))))))) (cwV 1 hts gX12_call_X12_note rfl rfl rfl (by decide +kernel) ⟨Nat.le_of_ble_eq_true rfl, Nat.le_of_ble_eq_true rfl⟩) rfl hl.1 (Nat.le_of_ble_eq_true rfl) dX12_call_63 ⟨Nat.le_of_ble_eq_true rfl, Nat.le_of_ble_eq_true rfl⟩ (fun _ H locs hP hD hS => ?_)
  have hP : va_P D vwCl [(h1, .inl (cI, 8, .inl (upd g0 0 0))), (h2, .inl (cI, 8, .inl (upd g1 0 0))), (h0, .inr (12, (((((((f0.set 0 (.int 0)).set 15 (.int 3)).set 13 (.int 0)).set 14 (.int 0)).set 105 (.int 1)).set 16 (.int 1)).set 9 (.int 1)))), (h3, .inl (cB, 24800, .inl (upd g2 0 3)))] H := hP
  have hD : va_D A [(h1, .inl (cI, 8, .inl (upd g0 0 0))), (h2, .inl (cI, 8, .inl (upd g1 0 0))), (h0, .inr (12, (((((((f0.set 0 (.int 0)).set 15 (.int 3)).set 13 (.int 0)).set 14 (.int 0)).set 105 (.int 1)).set 16 (.int 1)).set 9 (.int 1)))), (h3, .inl (cB, 24800, .inl (upd g2 0 3)))] := hD
  refine lv_iload_n hx hb dX12_call_66 rfl (lv_at hl 2 rfl) ?_
  refine lv_iconst (v := 2) hx hb dX12_call_67 (by decide) ?_
  refine lv_icmp_ne (tgt := 91) hx hb dX12_call_68 (by decide) (fun _ => ?_) (fun c9 => absurd c9 (by decide))
  refine lv_iload_n hx hb dX12_call_91 rfl (lv_at hl 2 rfl) ?_
  refine lv_iconst (v := 1) hx hb dX12_call_92 (by decide) ?_
  refine lv_icmp_ne (tgt := 141) hx hb dX12_call_93 (by decide) (fun _ => ?_) (fun c9 => absurd c9 (by decide))
  refine lv_iload_n hx hb dX12_call_141 rfl (lv_at hl 0 rfl) ?_
  have hP := hP.sub (ws' := [(h0, .inr (12, (((((((f0.set 0 (.int 0)).set 15 (.int 3)).set 13 (.int 0)).set 14 (.int 0)).set 105 (.int 1)).set 16 (.int 1)).set 9 (.int 1)))), (h1, .inl (cI, 8, .inl (upd g0 0 0))), (h2, .inl (cI, 8, .inl (upd g1 0 0))), (h3, .inl (cB, 24800, .inl (upd g2 0 3)))]) [2, 0, 1, 3] rfl
  have hD := hD.sub (ws' := [(h0, .inr (12, (((((((f0.set 0 (.int 0)).set 15 (.int 3)).set 13 (.int 0)).set 14 (.int 0)).set 105 (.int 1)).set 16 (.int 1)).set 9 (.int 1)))), (h1, .inl (cI, 8, .inl (upd g0 0 0))), (h2, .inl (cI, 8, .inl (upd g1 0 0))), (h3, .inl (cB, 24800, .inl (upd g2 0 3)))]) [2, 0, 1, 3] (by decide +kernel) rfl
  exact W.iret (v := 1) hx hb hr (fun t ht hW => ⟨⟨1, (), rfl, rfl, kB_mk ht hW hP hK hD⟩, hS.F ht⟩) hS.2.2 dX12_call_142
set_option maxHeartbeats 400000000 in
set_option maxRecDepth 100000 in
theorem c_X12_push_0 (l : Launch) (E : kE) (D : va_G) (cI cJ cB cZ : ClassId) (h0 : Nat) (f0 : List Value) (h1 : Nat) (h2 : Nat) (h3 : Nat) (g0 : Nat → Int32) (g1 : Nat → Int32) (g2 : Nat → Int32) (e0 : f0[0]? = some (.int 0)) (e1 : f0[5]? = some (.int 0)) (e2 : f0[15]? = some (.int 0)) (e3 : f0[13]? = some (.int 0)) (e4 : f0[14]? = some (.int 0)) (e5 : f0[105]? = some (.int 0)) (e6 : f0[9]? = some (.int 0)) (e7 : f0[4]? = some (.int 0)) (e8 : f0[106]? = some (.ref h1)) (e9 : f0[32]? = some (.int 0)) (e10 : f0[107]? = some (.ref h2)) (e11 : f0[33]? = some (.int 0)) (e12 : f0[16]? = some (.int 0)) (e13 : f0[8]? = some (.ref h3)) : kI l E D (kT cI cJ cB cZ) yX12_push wsX12_push ({ frames := 4, cells := 0, slots := 0, locals := 85 }) [.ref h0] [(h0, .inr (12, f0)), (h1, .inl (cI, 8, .inl g0)), (h2, .inl (cI, 8, .inl g1)), (h3, .inl (cB, 24800, .inl g2))] (1) [(h0, .inr (12, (((((((f0.set 0 (.int 0)).set 15 (.int 3)).set 13 (.int 0)).set 14 (.int 0)).set 105 (.int 1)).set 16 (.int 1)).set 9 (.int 1)))), (h1, .inl (cI, 8, .inl (upd g0 0 0))), (h2, .inl (cI, 8, .inl (upd g1 0 0))), (h3, .inl (cB, 24800, .inl (upd g2 0 3)))] 0 0 := by
  intro sz
  refine Met.ofW (cc := cX12_push) (maxL := 1) (ret := (some .int)) (by decide) rfl ?_
  intro p e s m args below meth c s₁ B hml hv
  obtain ⟨rfl, hsz, hP, hK, hD0, hN, hX⟩ := hv
  have hx := B.exec
  have hb := B.bytes
  have hr := B.returns
  have hts := atoms_spec (ws := wsX12_push) B.pre
  have hown : s.vm.findClass RX12 = some m.cls := findClass_of_methodNamed B.named
  have hlocks := B.notSynchronized
  subst hsz
  have hD := hD0.self (sz := s.heap.size)
  have hAE := k_AE hD0 hX
  generalize hAe : va_A [(h0, .inr (12, f0)), (h1, .inl (cI, 8, .inl g0)), (h2, .inl (cI, 8, .inl g1)), (h3, .inl (cB, 24800, .inl g2))] s.heap.size = A at hD hAE ⊢
  have hA : ∀ q : Nat, s.heap.size ≤ q → A q := fun q h => by rw [← hAe]; exact Or.inr h
  have hS : va_S A s.heap s.heap [] := va_S.rf
  have hP : va_P D vwCl [(h0, .inr (12, f0)), (h1, .inl (cI, 8, .inl g0)), (h2, .inl (cI, 8, .inl g1)), (h3, .inl (cB, 24800, .inl g2))] s.heap := hP
  have hl := lv_entry ([.ref h0] : List Value) (n := 1) (Nat.le_of_ble_eq_true rfl)
  rw [lg_entry_eq]
  generalize (lg_sl ([.ref h0]) ++ List.replicate (1 - (lg_sl ([.ref h0])).length) Slot.unset).toArray = ls at hl ⊢
  have hl : lv_has ls 1 [(0, .ref h0)] := hl
  refine lv_aload_n hx hb dX12_push_0 rfl (lv_at hl 0 rfl) ?_
  refine lv_iconst (v := 3) hx hb dX12_push_1 (by decide) ?_
  refine k_cVi (As := [.int 3]) (rest := []) (wc := [(h0, .inr (12, f0)), (h1, .inl (cI, 8, .inl g0)), (h2, .inl (cI, 8, .inl g1)), (h3, .inl (cB, 24800, .inl g2))]) (wr := []) (w1 := [(h0, .inr (12, (((((((f0.set 0 (.int 0)).set 15 (.int 3)).set 13 (.int 0)).set 14 (.int 0)).set 105 (.int 1)).set 16 (.int 1)).set 9 (.int 1)))), (h1, .inl (cI, 8, .inl (upd g0 0 0))), (h2, .inl (cI, 8, .inl (upd g1 0 0))), (h3, .inl (cB, 24800, .inl (upd g2 0 3)))]) ⟨hx, hb, hml, hown, hts⟩ hN hX hAE hK hP hD hS hA [0, 1, 2, 3] [] (ci := 12) rfl rfl rfl rfl (by decide +kernel) (by decide +kernel) (by decide +kernel) (c_X12_call_3 l E D cI cJ cB cZ h0 f0 h1 h2 g0 g1 h3 g2 e0 e1 e2 e3 e4 e5 e6 e7 e8 e9 e10 e11 e12 e13) (cwV 1 hts gX12_push_X12_call rfl rfl rfl (by decide +kernel) ⟨Nat.le_of_ble_eq_true rfl, Nat.le_of_ble_eq_true rfl⟩) rfl hl.1 (Nat.le_of_ble_eq_true rfl) dX12_push_2 ⟨Nat.le_of_ble_eq_true rfl, Nat.le_of_ble_eq_true rfl⟩ (fun H locs hP hD hS => ?_)
  have hP : va_P D vwCl [(h0, .inr (12, (((((((f0.set 0 (.int 0)).set 15 (.int 3)).set 13 (.int 0)).set 14 (.int 0)).set 105 (.int 1)).set 16 (.int 1)).set 9 (.int 1)))), (h1, .inl (cI, 8, .inl (upd g0 0 0))), (h2, .inl (cI, 8, .inl (upd g1 0 0))), (h3, .inl (cB, 24800, .inl (upd g2 0 3)))] H := hP
  have hD : va_D A [(h0, .inr (12, (((((((f0.set 0 (.int 0)).set 15 (.int 3)).set 13 (.int 0)).set 14 (.int 0)).set 105 (.int 1)).set 16 (.int 1)).set 9 (.int 1)))), (h1, .inl (cI, 8, .inl (upd g0 0 0))), (h2, .inl (cI, 8, .inl (upd g1 0 0))), (h3, .inl (cB, 24800, .inl (upd g2 0 3)))] := hD
  exact W.iret (v := 1) hx hb hr (fun t ht hW => ⟨⟨1, (), rfl, rfl, kB_mk ht hW hP hK hD⟩, hS.F ht⟩) hS.2.2 dX12_push_5
set_option maxHeartbeats 400000000 in
set_option maxRecDepth 100000 in
theorem c_X11_pop_0 (l : Launch) (E : kE) (D : va_G) (cI cJ cB cZ : ClassId) (h0 : Nat) (f0 : List Value) (h1 : Nat) (f1 : List Value) (h2 : Nat) (f2 : List Value) (e0 : f0[1]? = some (.ref h1)) (e1 : f1[8]? = some (.int 0)) (e2 : f0[2]? = some (.ref h2)) (e3 : f2[14]? = some (.int 0)) : kI l E D (kT cI cJ cB cZ) yX11_pop wsX11_pop ({ frames := 0, cells := 0, slots := 0, locals := 0 }) [.ref h0] [(h0, .inr (11, f0)), (h1, .inr (1, f1)), (h2, .inr (2, f2))] ((-103)) [(h0, .inr (11, f0)), (h1, .inr (1, f1)), (h2, .inr (2, f2))] 0 0 := by
  intro sz
  refine Met.ofW (cc := cX11_pop) (maxL := 1) (ret := (some .int)) (by decide) rfl ?_
  intro p e s m args below meth c s₁ B hml hv
  obtain ⟨rfl, hsz, hP, hK, hD0, hN, hX⟩ := hv
  have hx := B.exec
  have hb := B.bytes
  have hr := B.returns
  have hts := atoms_spec (ws := wsX11_pop) B.pre
  have hown : s.vm.findClass RX11 = some m.cls := findClass_of_methodNamed B.named
  have hlocks := B.notSynchronized
  have hin11 : ∀ w ∈ wsX110, w ∈ wsX11_pop := (fun w h => (List.mem_cons_of_mem _ (List.mem_append_left _ (List.mem_append_left _ (List.mem_append_right _ h)))))
  have hin1 : ∀ w ∈ wsX10, w ∈ wsX11_pop := (fun w h => (List.mem_cons_of_mem _ (List.mem_append_left _ (List.mem_append_right _ h))))
  have hin2 : ∀ w ∈ wsX20, w ∈ wsX11_pop := (fun w h => (List.mem_cons_of_mem _ (List.mem_append_right _ h)))
  subst hsz
  have hD := hD0.self (sz := s.heap.size)
  have hAE := k_AE hD0 hX
  generalize hAe : va_A [(h0, .inr (11, f0)), (h1, .inr (1, f1)), (h2, .inr (2, f2))] s.heap.size = A at hD hAE ⊢
  have hA : ∀ q : Nat, s.heap.size ≤ q → A q := fun q h => by rw [← hAe]; exact Or.inr h
  have hS : va_S A s.heap s.heap [] := va_S.rf
  have hP : va_P D vwCl [(h0, .inr (11, f0)), (h1, .inr (1, f1)), (h2, .inr (2, f2))] s.heap := hP
  have hl := lv_entry ([.ref h0] : List Value) (n := 1) (Nat.le_of_ble_eq_true rfl)
  rw [lg_entry_eq]
  generalize (lg_sl ([.ref h0]) ++ List.replicate (1 - (lg_sl ([.ref h0])).length) Slot.unset).toArray = ls at hl ⊢
  have hl : lv_has ls 1 [(0, .ref h0)] := hl
  refine lv_aload_n hx hb dX11_pop_0 rfl (lv_at hl 0 rfl) ?_
  refine va_get (D := D) (ref := "IntegerHouse") (ci := 11) (v := .ref h1) (C := RX11) (T := TX11) (N := 15) hx hb hts hin11 hown hK hP 0 rfl rfl 1 (by decide) (hts (.fieldLink RX11 16 "IntegerHouse" "disk" "LIntegerHouse$Disk;") (List.mem_cons_of_mem _ (List.mem_append_left _ (List.mem_append_left _ (List.mem_append_left _ (List.mem_append_left _ (List.mem_of_getElem? (i := 0) rfl))))))) (fun _ h9 => h9) e0 dX11_pop_1 ?_
  refine va_getN (host := "IntegerHouse") (D := D) (ref := "IntegerHouse$Disk") (ci := 1) (v := .int 0) (C := RX1) (T := TX1) (N := 9) hx hb hts hin1 hown hK hP 1 rfl rfl 8 (by decide) (va_Nw.use rfl (hN.1 ("IntegerHouse", 122, "IntegerHouse$Disk", "down", "Z", "IntegerHouse") (List.mem_of_getElem? (i := 3) rfl))) (fun _ h9 => h9) e1 dX11_pop_4 ?_
  refine lv_if_eq (tgt := 13) hx hb dX11_pop_7 (by decide) (fun _ => ?_) (fun c9 => absurd (by decide) c9)
  refine lv_aload_n hx hb dX11_pop_13 rfl (lv_at hl 0 rfl) ?_
  refine va_get (D := D) (ref := "IntegerHouse") (ci := 11) (v := .ref h2) (C := RX11) (T := TX11) (N := 15) hx hb hts hin11 hown hK hP 0 rfl rfl 2 (by decide) (hts (.fieldLink RX11 23 "IntegerHouse" "house" "LIntegerHouse$House;") (List.mem_cons_of_mem _ (List.mem_append_left _ (List.mem_append_left _ (List.mem_append_left _ (List.mem_append_left _ (List.mem_of_getElem? (i := 1) rfl))))))) (fun _ h9 => h9) e2 dX11_pop_14 ?_
  refine va_getN (host := "IntegerHouse") (D := D) (ref := "IntegerHouse$House") (ci := 2) (v := .int 0) (C := RX2) (T := TX2) (N := 16) hx hb hts hin2 hown hK hP 2 rfl rfl 14 (by decide) (va_Nw.use rfl (hN.1 ("IntegerHouse", 221, "IntegerHouse$House", "layers", "I", "IntegerHouse") (List.mem_of_getElem? (i := 22) rfl))) (fun _ h9 => h9) e3 dX11_pop_17 ?_
  refine lv_if_ne (tgt := 26) hx hb dX11_pop_20 (by decide) (fun c9 => absurd (by decide) c9) (fun _ => ?_)
  refine lv_bipush (v := (-103)) hx hb dX11_pop_23 (by decide) ?_
  exact W.iret (v := (-103)) hx hb hr (fun t ht hW => ⟨⟨(-103), (), rfl, rfl, kB_mk ht hW hP hK hD⟩, hS.F ht⟩) hS.2.2 dX11_pop_25
set_option maxHeartbeats 400000000 in
set_option maxRecDepth 100000 in
theorem c_X12_no_1 (l : Launch) (E : kE) (D : va_G) (cI cJ cB cZ : ClassId) (h0 : Nat) (f0 : List Value) (e0 : f0[14]? = some (.int 0)) : kI l E D (kT cI cJ cB cZ) yX12_no wsX12_no ({ frames := 0, cells := 0, slots := 0, locals := 0 }) [.ref h0, .int (-103)] [(h0, .inr (12, f0))] ((-103)) [(h0, .inr (12, (f0.set 14 (.int 1))))] 0 0 := by
  intro sz
  refine Met.ofW (cc := cX12_no) (maxL := 2) (ret := (some .int)) (by decide) rfl ?_
  intro p e s m args below meth c s₁ B hml hv
  obtain ⟨rfl, hsz, hP, hK, hD0, hN, hX⟩ := hv
  have hx := B.exec
  have hb := B.bytes
  have hr := B.returns
  have hts := atoms_spec (ws := wsX12_no) B.pre
  have hown : s.vm.findClass RX12 = some m.cls := findClass_of_methodNamed B.named
  have hlocks := B.notSynchronized
  have hin12 : ∀ w ∈ wsX120, w ∈ wsX12_no := (fun w h => (List.mem_cons_of_mem _ (List.mem_append_right _ h)))
  subst hsz
  have hD := hD0.self (sz := s.heap.size)
  have hAE := k_AE hD0 hX
  generalize hAe : va_A [(h0, .inr (12, f0))] s.heap.size = A at hD hAE ⊢
  have hA : ∀ q : Nat, s.heap.size ≤ q → A q := fun q h => by rw [← hAe]; exact Or.inr h
  have hS : va_S A s.heap s.heap [] := va_S.rf
  have hP : va_P D vwCl [(h0, .inr (12, f0))] s.heap := hP
  have hl := lv_entry ([.ref h0, .int (-103)] : List Value) (n := 2) (Nat.le_of_ble_eq_true rfl)
  rw [lg_entry_eq]
  generalize (lg_sl ([.ref h0, .int (-103)]) ++ List.replicate (2 - (lg_sl ([.ref h0, .int (-103)])).length) Slot.unset).toArray = ls at hl ⊢
  have hl : lv_has ls 2 [(0, .ref h0), (1, .int (-103))] := hl
  refine lv_aload_n hx hb dX12_no_0 rfl (lv_at hl 0 rfl) ?_
  refine lv_iconst (v := 1) hx hb dX12_no_1 (by decide) ?_
  refine va_put (D := D) (ref := "IntegerHouseModel") (ci := 12) (v := .int 1) (ty := .boolean) (C := RX12) (T := TX12) (N := 195) hx hb hts hin12 tyX12 tyX12_ok nmX12 hown hK hP hD hS 0 rfl rfl 14 (by decide) (hts (.fieldLink RX12 462 "IntegerHouseModel" "refused" "Z") (List.mem_cons_of_mem _ (List.mem_append_left _ (List.mem_of_getElem? (i := 0) rfl)))) (fun _ h9 => h9) rfl (by decide +kernel) rfl rfl (k_len e0) dX12_no_2 (fun H locs hP hD hS => ?_)
  have hP : va_P D vwCl [(h0, .inr (12, (f0.set 14 (.int 1))))] H := hP
  have hD : va_D A [(h0, .inr (12, (f0.set 14 (.int 1))))] := hD
  refine lv_iload_n hx hb dX12_no_5 rfl (lv_at hl 1 rfl) ?_
  exact W.iret (v := (-103)) hx hb hr (fun t ht hW => ⟨⟨(-103), (), rfl, rfl, kB_mk ht hW hP hK hD⟩, hS.F ht⟩) hS.2.2 dX12_no_6
set_option maxHeartbeats 400000000 in
set_option maxRecDepth 100000 in
theorem c_X12_leave_0 (l : Launch) (E : kE) (D : va_G) (cI cJ cB cZ : ClassId) (h0 : Nat) (f0 : List Value) (e0 : f0[105]? = some (.int 0)) (e1 : f0[14]? = some (.int 0)) : kI l E D (kT cI cJ cB cZ) yX12_leave wsX12_leave ({ frames := 1, cells := 0, slots := 0, locals := 21 }) [.ref h0] [(h0, .inr (12, f0))] ((-103)) [(h0, .inr (12, (f0.set 14 (.int 1))))] 0 0 := by
  intro sz
  refine Met.ofW (cc := cX12_leave) (maxL := 2) (ret := (some .int)) (by decide) rfl ?_
  intro p e s m args below meth c s₁ B hml hv
  obtain ⟨rfl, hsz, hP, hK, hD0, hN, hX⟩ := hv
  have hx := B.exec
  have hb := B.bytes
  have hr := B.returns
  have hts := atoms_spec (ws := wsX12_leave) B.pre
  have hown : s.vm.findClass RX12 = some m.cls := findClass_of_methodNamed B.named
  have hlocks := B.notSynchronized
  have hin12 : ∀ w ∈ wsX120, w ∈ wsX12_leave := (fun w h => (List.mem_cons_of_mem _ (List.mem_append_right _ h)))
  subst hsz
  have hD := hD0.self (sz := s.heap.size)
  have hAE := k_AE hD0 hX
  generalize hAe : va_A [(h0, .inr (12, f0))] s.heap.size = A at hD hAE ⊢
  have hA : ∀ q : Nat, s.heap.size ≤ q → A q := fun q h => by rw [← hAe]; exact Or.inr h
  have hS : va_S A s.heap s.heap [] := va_S.rf
  have hP : va_P D vwCl [(h0, .inr (12, f0))] s.heap := hP
  have hl := lv_entry ([.ref h0] : List Value) (n := 2) (Nat.le_of_ble_eq_true rfl)
  rw [lg_entry_eq]
  generalize (lg_sl ([.ref h0]) ++ List.replicate (2 - (lg_sl ([.ref h0])).length) Slot.unset).toArray = ls at hl ⊢
  have hl : lv_has ls 2 [(0, .ref h0)] := hl
  refine lv_aload_n hx hb dX12_leave_0 rfl (lv_at hl 0 rfl) ?_
  refine va_get (D := D) (ref := "IntegerHouseModel") (ci := 12) (v := .int 0) (C := RX12) (T := TX12) (N := 195) hx hb hts hin12 hown hK hP 0 rfl rfl 105 (by decide) (hts (.fieldLink RX12 821 "IntegerHouseModel" "layers" "I") (List.mem_cons_of_mem _ (List.mem_append_left _ (List.mem_of_getElem? (i := 0) rfl)))) (fun _ h9 => h9) e0 dX12_leave_1 ?_
  refine lv_if_ne (tgt := 14) hx hb dX12_leave_4 (by decide) (fun c9 => absurd (by decide) c9) (fun _ => ?_)
  refine lv_aload_n hx hb dX12_leave_7 rfl (lv_at hl 0 rfl) ?_
  refine lv_bipush (v := (-103)) hx hb dX12_leave_8 (by decide) ?_
  refine k_cVi (As := [.int (-103)]) (rest := []) (wc := [(h0, .inr (12, f0))]) (wr := []) (w1 := [(h0, .inr (12, (f0.set 14 (.int 1))))]) ⟨hx, hb, hml, hown, hts⟩ hN hX hAE hK hP hD hS hA [0] [] (ci := 12) rfl rfl rfl rfl (by decide +kernel) (by decide +kernel) (by decide +kernel) (c_X12_no_1 l E D cI cJ cB cZ h0 f0 e1) (cwV 1 hts gX12_leave_X12_no rfl rfl rfl (by decide +kernel) ⟨Nat.le_of_ble_eq_true rfl, Nat.le_of_ble_eq_true rfl⟩) rfl hl.1 (Nat.le_of_ble_eq_true rfl) dX12_leave_10 ⟨Nat.le_of_ble_eq_true rfl, Nat.le_of_ble_eq_true rfl⟩ (fun H locs hP hD hS => ?_)
  have hP : va_P D vwCl [(h0, .inr (12, (f0.set 14 (.int 1))))] H := hP
  have hD : va_D A [(h0, .inr (12, (f0.set 14 (.int 1))))] := hD
  exact W.iret (v := (-103)) hx hb hr (fun t ht hW => ⟨⟨(-103), (), rfl, rfl, kB_mk ht hW hP hK hD⟩, hS.F ht⟩) hS.2.2 dX12_leave_13
set_option maxHeartbeats 400000000 in
set_option maxRecDepth 100000 in
theorem c_X12_act_4 (l : Launch) (E : kE) (D : va_G) (cI cJ cB cZ : ClassId) (h0 : Nat) (f0 : List Value) (e0 : f0[15]? = some (.int 4)) (e1 : f0[105]? = some (.int 0)) (e2 : f0[14]? = some (.int 0)) : kI l E D (kT cI cJ cB cZ) yX12_act wsX12_act ({ frames := 2, cells := 0, slots := 0, locals := 42 }) [.ref h0] [(h0, .inr (12, f0))] ((-103)) [(h0, .inr (12, (f0.set 14 (.int 1))))] 0 0 := by
  intro sz
  refine Met.ofW (cc := cX12_act) (maxL := 1) (ret := (some .int)) (by decide) rfl ?_
  intro p e s m args below meth c s₁ B hml hv
  obtain ⟨rfl, hsz, hP, hK, hD0, hN, hX⟩ := hv
  have hx := B.exec
  have hb := B.bytes
  have hr := B.returns
  have hts := atoms_spec (ws := wsX12_act) B.pre
  have hown : s.vm.findClass RX12 = some m.cls := findClass_of_methodNamed B.named
  have hlocks := B.notSynchronized
  have hin12 : ∀ w ∈ wsX120, w ∈ wsX12_act := (fun w h => (List.mem_cons_of_mem _ (List.mem_append_right _ h)))
  subst hsz
  have hD := hD0.self (sz := s.heap.size)
  have hAE := k_AE hD0 hX
  generalize hAe : va_A [(h0, .inr (12, f0))] s.heap.size = A at hD hAE ⊢
  have hA : ∀ q : Nat, s.heap.size ≤ q → A q := fun q h => by rw [← hAe]; exact Or.inr h
  have hS : va_S A s.heap s.heap [] := va_S.rf
  have hP : va_P D vwCl [(h0, .inr (12, f0))] s.heap := hP
  have hl := lv_entry ([.ref h0] : List Value) (n := 1) (Nat.le_of_ble_eq_true rfl)
  rw [lg_entry_eq]
  generalize (lg_sl ([.ref h0]) ++ List.replicate (1 - (lg_sl ([.ref h0])).length) Slot.unset).toArray = ls at hl ⊢
  have hl : lv_has ls 1 [(0, .ref h0)] := hl
  refine lv_aload_n hx hb dX12_act_0 rfl (lv_at hl 0 rfl) ?_
  refine va_get (D := D) (ref := "IntegerHouseModel") (ci := 12) (v := .int 4) (C := RX12) (T := TX12) (N := 195) hx hb hts hin12 hown hK hP 0 rfl rfl 15 (by decide) (hts (.fieldLink RX12 466 "IntegerHouseModel" "number" "I") (List.mem_cons_of_mem _ (List.mem_append_left _ (List.mem_append_left _ (List.mem_of_getElem? (i := 0) rfl))))) (fun _ h9 => h9) e0 dX12_act_1 ?_
  refine lv_tableOut (tgt := 47) hx hb dX12_act_4 (by decide) (by decide) ?_
  refine lv_aload_n hx hb dX12_act_47 rfl (lv_at hl 0 rfl) ?_
  refine k_cVi (As := []) (rest := []) (wc := [(h0, .inr (12, f0))]) (wr := []) (w1 := [(h0, .inr (12, (f0.set 14 (.int 1))))]) ⟨hx, hb, hml, hown, hts⟩ hN hX hAE hK hP hD hS hA [0] [] (ci := 12) rfl rfl rfl rfl (by decide +kernel) (by decide +kernel) (by decide +kernel) (c_X12_leave_0 l E D cI cJ cB cZ h0 f0 e1 e2) (cwV 0 hts gX12_act_X12_leave rfl rfl rfl (by decide +kernel) ⟨Nat.le_of_ble_eq_true rfl, Nat.le_of_ble_eq_true rfl⟩) rfl hl.1 (Nat.le_of_ble_eq_true rfl) dX12_act_48 ⟨Nat.le_of_ble_eq_true rfl, Nat.le_of_ble_eq_true rfl⟩ (fun H locs hP hD hS => ?_)
  have hP : va_P D vwCl [(h0, .inr (12, (f0.set 14 (.int 1))))] H := hP
  have hD : va_D A [(h0, .inr (12, (f0.set 14 (.int 1))))] := hD
  exact W.iret (v := (-103)) hx hb hr (fun t ht hW => ⟨⟨(-103), (), rfl, rfl, kB_mk ht hW hP hK hD⟩, hS.F ht⟩) hS.2.2 dX12_act_51
set_option maxHeartbeats 400000000 in
set_option maxRecDepth 100000 in
theorem c_X12_call_4 (l : Launch) (E : kE) (D : va_G) (cI cJ cB cZ : ClassId) (h0 : Nat) (f0 : List Value) (e0 : f0[0]? = some (.int 0)) (e1 : f0[5]? = some (.int 0)) (e2 : f0[15]? = some (.int 0)) (e3 : f0[13]? = some (.int 0)) (e4 : f0[14]? = some (.int 0)) (e5 : f0[105]? = some (.int 0)) : kI l E D (kT cI cJ cB cZ) yX12_call wsX12_call ({ frames := 3, cells := 0, slots := 0, locals := 62 }) [.ref h0, .int 4] [(h0, .inr (12, f0))] ((-103)) [(h0, .inr (12, (((((f0.set 0 (.int 0)).set 15 (.int 4)).set 13 (.int 0)).set 14 (.int 0)).set 14 (.int 1))))] 0 0 := by
  intro sz
  refine Met.ofW (cc := cX12_call) (maxL := 4) (ret := (some .int)) (by decide) rfl ?_
  intro p e s m args below meth c s₁ B hml hv
  obtain ⟨rfl, hsz, hP, hK, hD0, hN, hX⟩ := hv
  have hx := B.exec
  have hb := B.bytes
  have hr := B.returns
  have hts := atoms_spec (ws := wsX12_call) B.pre
  have hown : s.vm.findClass RX12 = some m.cls := findClass_of_methodNamed B.named
  have hlocks := B.notSynchronized
  have hin12 : ∀ w ∈ wsX120, w ∈ wsX12_call := (fun w h => (List.mem_cons_of_mem _ (List.mem_append_right _ h)))
  subst hsz
  have hD := hD0.self (sz := s.heap.size)
  have hAE := k_AE hD0 hX
  generalize hAe : va_A [(h0, .inr (12, f0))] s.heap.size = A at hD hAE ⊢
  have hA : ∀ q : Nat, s.heap.size ≤ q → A q := fun q h => by rw [← hAe]; exact Or.inr h
  have hS : va_S A s.heap s.heap [] := va_S.rf
  have hP : va_P D vwCl [(h0, .inr (12, f0))] s.heap := hP
  have hl := lv_entry ([.ref h0, .int 4] : List Value) (n := 4) (Nat.le_of_ble_eq_true rfl)
  rw [lg_entry_eq]
  generalize (lg_sl ([.ref h0, .int 4]) ++ List.replicate (4 - (lg_sl ([.ref h0, .int 4])).length) Slot.unset).toArray = ls at hl ⊢
  have hl : lv_has ls 4 [(0, .ref h0), (1, .int 4)] := hl
  refine lv_aload_n hx hb dX12_call_0 rfl (lv_at hl 0 rfl) ?_
  refine lv_iconst (v := 0) hx hb dX12_call_1 (by decide) ?_
  refine va_put (D := D) (ref := "IntegerHouseModel") (ci := 12) (v := .int 0) (ty := .int) (C := RX12) (T := TX12) (N := 195) hx hb hts hin12 tyX12 tyX12_ok nmX12 hown hK hP hD hS 0 rfl rfl 0 (by decide) (hts (.fieldLink RX12 3 "IntegerHouseModel" "thrown" "I") (List.mem_cons_of_mem _ (List.mem_append_left _ (List.mem_append_left _ (List.mem_of_getElem? (i := 0) rfl))))) (fun _ h9 => h9) rfl (by decide +kernel) rfl rfl (k_len e0) dX12_call_2 (fun H locs hP hD hS => ?_)
  have hP : va_P D vwCl [(h0, .inr (12, (f0.set 0 (.int 0))))] H := hP
  have hD : va_D A [(h0, .inr (12, (f0.set 0 (.int 0))))] := hD
  refine lv_aload_n hx hb dX12_call_5 rfl (lv_at hl 0 rfl) ?_
  refine va_get (D := D) (ref := "IntegerHouseModel") (ci := 12) (v := .int 0) (C := RX12) (T := TX12) (N := 195) hx hb hts hin12 hown hK hP 0 rfl rfl 5 (by decide) (hts (.fieldLink RX12 488 "IntegerHouseModel" "down" "Z") (List.mem_cons_of_mem _ (List.mem_append_left _ (List.mem_append_left _ (List.mem_of_getElem? (i := 1) rfl))))) (fun _ h9 => h9) (k_ne (by decide) e1) dX12_call_6 ?_
  refine lv_if_eq (tgt := 15) hx hb dX12_call_9 (by decide) (fun _ => ?_) (fun c9 => absurd (by decide) c9)
  refine lv_aload_n hx hb dX12_call_15 rfl (lv_at hl 0 rfl) ?_
  refine lv_iload_n hx hb dX12_call_16 rfl (lv_at hl 1 rfl) ?_
  refine va_put (D := D) (ref := "IntegerHouseModel") (ci := 12) (v := .int 4) (ty := .int) (C := RX12) (T := TX12) (N := 195) hx hb hts hin12 tyX12 tyX12_ok nmX12 hown hK hP hD hS 0 rfl rfl 15 (by decide) (hts (.fieldLink RX12 466 "IntegerHouseModel" "number" "I") (List.mem_cons_of_mem _ (List.mem_append_left _ (List.mem_append_left _ (List.mem_of_getElem? (i := 2) rfl))))) (fun _ h9 => h9) rfl (by decide +kernel) rfl rfl (k_len (k_ne (by decide) e2)) dX12_call_17 (fun H locs hP hD hS => ?_)
  have hP : va_P D vwCl [(h0, .inr (12, ((f0.set 0 (.int 0)).set 15 (.int 4))))] H := hP
  have hD : va_D A [(h0, .inr (12, ((f0.set 0 (.int 0)).set 15 (.int 4))))] := hD
  refine lv_aload_n hx hb dX12_call_20 rfl (lv_at hl 0 rfl) ?_
  refine lv_iconst (v := 0) hx hb dX12_call_21 (by decide) ?_
  refine va_put (D := D) (ref := "IntegerHouseModel") (ci := 12) (v := .int 0) (ty := .boolean) (C := RX12) (T := TX12) (N := 195) hx hb hts hin12 tyX12 tyX12_ok nmX12 hown hK hP hD hS 0 rfl rfl 13 (by decide) (hts (.fieldLink RX12 472 "IntegerHouseModel" "replay" "Z") (List.mem_cons_of_mem _ (List.mem_append_left _ (List.mem_append_left _ (List.mem_of_getElem? (i := 3) rfl))))) (fun _ h9 => h9) rfl (by decide +kernel) rfl rfl (k_len (k_ne (by decide) (k_ne (by decide) e3))) dX12_call_22 (fun H locs hP hD hS => ?_)
  have hP : va_P D vwCl [(h0, .inr (12, (((f0.set 0 (.int 0)).set 15 (.int 4)).set 13 (.int 0))))] H := hP
  have hD : va_D A [(h0, .inr (12, (((f0.set 0 (.int 0)).set 15 (.int 4)).set 13 (.int 0))))] := hD
  refine lv_aload_n hx hb dX12_call_25 rfl (lv_at hl 0 rfl) ?_
  refine lv_iconst (v := 0) hx hb dX12_call_26 (by decide) ?_
  refine va_put (D := D) (ref := "IntegerHouseModel") (ci := 12) (v := .int 0) (ty := .boolean) (C := RX12) (T := TX12) (N := 195) hx hb hts hin12 tyX12 tyX12_ok nmX12 hown hK hP hD hS 0 rfl rfl 14 (by decide) (hts (.fieldLink RX12 462 "IntegerHouseModel" "refused" "Z") (List.mem_cons_of_mem _ (List.mem_append_left _ (List.mem_append_left _ (List.mem_of_getElem? (i := 4) rfl))))) (fun _ h9 => h9) rfl (by decide +kernel) rfl rfl (k_len (k_ne (by decide) (k_ne (by decide) (k_ne (by decide) e4)))) dX12_call_27 (fun H locs hP hD hS => ?_)
  have hP : va_P D vwCl [(h0, .inr (12, ((((f0.set 0 (.int 0)).set 15 (.int 4)).set 13 (.int 0)).set 14 (.int 0))))] H := hP
  have hD : va_D A [(h0, .inr (12, ((((f0.set 0 (.int 0)).set 15 (.int 4)).set 13 (.int 0)).set 14 (.int 0))))] := hD
  refine lv_iload_n hx hb dX12_call_30 rfl (lv_at hl 1 rfl) ?_
  refine lv_iconst (v := 1) hx hb dX12_call_31 (by decide) ?_
  refine lv_icmp_ne (tgt := 39) hx hb dX12_call_32 (by decide) (fun _ => ?_) (fun c9 => absurd c9 (by decide))
  refine lv_aload_n hx hb dX12_call_39 rfl (lv_at hl 0 rfl) ?_
  refine k_cVi (As := []) (rest := []) (wc := [(h0, .inr (12, ((((f0.set 0 (.int 0)).set 15 (.int 4)).set 13 (.int 0)).set 14 (.int 0))))]) (wr := []) (w1 := [(h0, .inr (12, (((((f0.set 0 (.int 0)).set 15 (.int 4)).set 13 (.int 0)).set 14 (.int 0)).set 14 (.int 1))))]) ⟨hx, hb, hml, hown, hts⟩ hN hX hAE hK hP hD hS hA [0] [] (ci := 12) rfl rfl rfl rfl (by decide +kernel) (by decide +kernel) (by decide +kernel) (c_X12_act_4 l E D cI cJ cB cZ h0 (((((f0.set 0 (.int 0)).set 15 (.int 4)).set 13 (.int 0)).set 14 (.int 0))) (k_ne (by decide) (k_ne (by decide) (k_set (k_ne (by decide) e2)))) (k_ne (by decide) (k_ne (by decide) (k_ne (by decide) (k_ne (by decide) e5)))) (k_set (k_ne (by decide) (k_ne (by decide) (k_ne (by decide) e4))))) (cwV 0 hts gX12_call_X12_act rfl rfl rfl (by decide +kernel) ⟨Nat.le_of_ble_eq_true rfl, Nat.le_of_ble_eq_true rfl⟩) rfl hl.1 (Nat.le_of_ble_eq_true rfl) dX12_call_40 ⟨Nat.le_of_ble_eq_true rfl, Nat.le_of_ble_eq_true rfl⟩ (fun H locs hP hD hS => ?_)
  have hP : va_P D vwCl [(h0, .inr (12, (((((f0.set 0 (.int 0)).set 15 (.int 4)).set 13 (.int 0)).set 14 (.int 0)).set 14 (.int 1))))] H := hP
  have hD : va_D A [(h0, .inr (12, (((((f0.set 0 (.int 0)).set 15 (.int 4)).set 13 (.int 0)).set 14 (.int 0)).set 14 (.int 1))))] := hD
  refine lv_istore_n (lv' := [(2, .int (-103)), (0, .ref h0), (1, .int 4)]) hx hb dX12_call_43 rfl hl (by decide) rfl (fun ls hl => ?_)
  refine lv_aload_n hx hb dX12_call_44 rfl (lv_at hl 1 rfl) ?_
  refine va_get (D := D) (ref := "IntegerHouseModel") (ci := 12) (v := .int 1) (C := RX12) (T := TX12) (N := 195) hx hb hts hin12 hown hK hP 0 rfl rfl 14 (by decide) (hts (.fieldLink RX12 462 "IntegerHouseModel" "refused" "Z") (List.mem_cons_of_mem _ (List.mem_append_left _ (List.mem_append_left _ (List.mem_of_getElem? (i := 4) rfl))))) (fun _ h9 => h9) (k_set (k_set (k_ne (by decide) (k_ne (by decide) (k_ne (by decide) e4))))) dX12_call_45 ?_
  refine lv_if_ne (tgt := 141) hx hb dX12_call_48 (by decide) (fun _ => ?_) (fun c9 => absurd c9 (by decide))
  refine lv_iload_n hx hb dX12_call_141 rfl (lv_at hl 0 rfl) ?_
  exact W.iret (v := (-103)) hx hb hr (fun t ht hW => ⟨⟨(-103), (), rfl, rfl, kB_mk ht hW hP hK hD⟩, hS.F ht⟩) hS.2.2 dX12_call_142
set_option maxHeartbeats 400000000 in
set_option maxRecDepth 100000 in
theorem c_X12_pop_0 (l : Launch) (E : kE) (D : va_G) (cI cJ cB cZ : ClassId) (h0 : Nat) (f0 : List Value) (e0 : f0[0]? = some (.int 0)) (e1 : f0[5]? = some (.int 0)) (e2 : f0[15]? = some (.int 0)) (e3 : f0[13]? = some (.int 0)) (e4 : f0[14]? = some (.int 0)) (e5 : f0[105]? = some (.int 0)) : kI l E D (kT cI cJ cB cZ) yX12_pop wsX12_pop ({ frames := 4, cells := 0, slots := 0, locals := 85 }) [.ref h0] [(h0, .inr (12, f0))] ((-103)) [(h0, .inr (12, (((((f0.set 0 (.int 0)).set 15 (.int 4)).set 13 (.int 0)).set 14 (.int 0)).set 14 (.int 1))))] 0 0 := by
  intro sz
  refine Met.ofW (cc := cX12_pop) (maxL := 1) (ret := (some .int)) (by decide) rfl ?_
  intro p e s m args below meth c s₁ B hml hv
  obtain ⟨rfl, hsz, hP, hK, hD0, hN, hX⟩ := hv
  have hx := B.exec
  have hb := B.bytes
  have hr := B.returns
  have hts := atoms_spec (ws := wsX12_pop) B.pre
  have hown : s.vm.findClass RX12 = some m.cls := findClass_of_methodNamed B.named
  have hlocks := B.notSynchronized
  subst hsz
  have hD := hD0.self (sz := s.heap.size)
  have hAE := k_AE hD0 hX
  generalize hAe : va_A [(h0, .inr (12, f0))] s.heap.size = A at hD hAE ⊢
  have hA : ∀ q : Nat, s.heap.size ≤ q → A q := fun q h => by rw [← hAe]; exact Or.inr h
  have hS : va_S A s.heap s.heap [] := va_S.rf
  have hP : va_P D vwCl [(h0, .inr (12, f0))] s.heap := hP
  have hl := lv_entry ([.ref h0] : List Value) (n := 1) (Nat.le_of_ble_eq_true rfl)
  rw [lg_entry_eq]
  generalize (lg_sl ([.ref h0]) ++ List.replicate (1 - (lg_sl ([.ref h0])).length) Slot.unset).toArray = ls at hl ⊢
  have hl : lv_has ls 1 [(0, .ref h0)] := hl
  refine lv_aload_n hx hb dX12_pop_0 rfl (lv_at hl 0 rfl) ?_
  refine lv_iconst (v := 4) hx hb dX12_pop_1 (by decide) ?_
  refine k_cVi (As := [.int 4]) (rest := []) (wc := [(h0, .inr (12, f0))]) (wr := []) (w1 := [(h0, .inr (12, (((((f0.set 0 (.int 0)).set 15 (.int 4)).set 13 (.int 0)).set 14 (.int 0)).set 14 (.int 1))))]) ⟨hx, hb, hml, hown, hts⟩ hN hX hAE hK hP hD hS hA [0] [] (ci := 12) rfl rfl rfl rfl (by decide +kernel) (by decide +kernel) (by decide +kernel) (c_X12_call_4 l E D cI cJ cB cZ h0 f0 e0 e1 e2 e3 e4 e5) (cwV 1 hts gX12_pop_X12_call rfl rfl rfl (by decide +kernel) ⟨Nat.le_of_ble_eq_true rfl, Nat.le_of_ble_eq_true rfl⟩) rfl hl.1 (Nat.le_of_ble_eq_true rfl) dX12_pop_2 ⟨Nat.le_of_ble_eq_true rfl, Nat.le_of_ble_eq_true rfl⟩ (fun H locs hP hD hS => ?_)
  have hP : va_P D vwCl [(h0, .inr (12, (((((f0.set 0 (.int 0)).set 15 (.int 4)).set 13 (.int 0)).set 14 (.int 0)).set 14 (.int 1))))] H := hP
  have hD : va_D A [(h0, .inr (12, (((((f0.set 0 (.int 0)).set 15 (.int 4)).set 13 (.int 0)).set 14 (.int 0)).set 14 (.int 1))))] := hD
  exact W.iret (v := (-103)) hx hb hr (fun t ht hW => ⟨⟨(-103), (), rfl, rfl, kB_mk ht hW hP hK hD⟩, hS.F ht⟩) hS.2.2 dX12_pop_5
set_option maxHeartbeats 400000000 in
set_option maxRecDepth 100000 in
theorem c_X3_nameAt_0 (l : Launch) (E : kE) (D : va_G) (cI cJ cB cZ : ClassId) (h0 : Nat) (f0 : List Value) (e0 : f0[5]? = some (.int 0)) : kJ l E D (kT cI cJ cB cZ) yX3_nameAt wsX3_nameAt ({ frames := 0, cells := 0, slots := 0, locals := 0 }) [.ref h0, .int 0] [(h0, .inr (3, f0))] (0) [(h0, .inr (3, f0))] 0 0 := by
  intro sz
  refine Met.ofW (cc := cX3_nameAt) (maxL := 2) (ret := (some .long)) (by decide) rfl ?_
  intro p e s m args below meth c s₁ B hml hv
  obtain ⟨rfl, hsz, hP, hK, hD0, hN, hX⟩ := hv
  have hx := B.exec
  have hb := B.bytes
  have hr := B.returns
  have hts := atoms_spec (ws := wsX3_nameAt) B.pre
  have hown : s.vm.findClass RX3 = some m.cls := findClass_of_methodNamed B.named
  have hlocks := B.notSynchronized
  have hin3 : ∀ w ∈ wsX30, w ∈ wsX3_nameAt := (fun w h => (List.mem_cons_of_mem _ (List.mem_append_right _ h)))
  subst hsz
  have hD := hD0.self (sz := s.heap.size)
  have hAE := k_AE hD0 hX
  generalize hAe : va_A [(h0, .inr (3, f0))] s.heap.size = A at hD hAE ⊢
  have hA : ∀ q : Nat, s.heap.size ≤ q → A q := fun q h => by rw [← hAe]; exact Or.inr h
  have hS : va_S A s.heap s.heap [] := va_S.rf
  have hP : va_P D vwCl [(h0, .inr (3, f0))] s.heap := hP
  have hl := lv_entry ([.ref h0, .int 0] : List Value) (n := 2) (Nat.le_of_ble_eq_true rfl)
  rw [lg_entry_eq]
  generalize (lg_sl ([.ref h0, .int 0]) ++ List.replicate (2 - (lg_sl ([.ref h0, .int 0])).length) Slot.unset).toArray = ls at hl ⊢
  have hl : lv_has ls 2 [(0, .ref h0), (1, .int 0)] := hl
  refine lv_iload_n hx hb dX3_nameAt_0 rfl (lv_at hl 1 rfl) ?_
  refine lv_if_lt (tgt := 21) hx hb dX3_nameAt_1 (by decide) (fun c9 => absurd c9 (by decide)) (fun _ => ?_)
  refine lv_iload_n hx hb dX3_nameAt_4 rfl (lv_at hl 1 rfl) ?_
  refine lv_aload_n hx hb dX3_nameAt_5 rfl (lv_at hl 0 rfl) ?_
  refine va_get (D := D) (ref := "IntegerHouse$Lexer") (ci := 3) (v := .int 0) (C := RX3) (T := TX3) (N := 9) hx hb hts hin3 hown hK hP 0 rfl rfl 5 (by decide) (hts (.fieldLink RX3 48 "IntegerHouse$Lexer" "size" "I") (List.mem_cons_of_mem _ (List.mem_append_left _ (List.mem_of_getElem? (i := 0) rfl)))) (fun _ h9 => h9) e0 dX3_nameAt_6 ?_
  refine lv_icmp_ge (tgt := 21) hx hb dX3_nameAt_9 (by decide) (fun _ => ?_) (fun c9 => absurd (by decide) c9)
  refine lv_lconst (v := 0) hx hb dX3_nameAt_21 (by decide) ?_
  exact W.lret (v := 0) hx hb hr (fun t ht hW => ⟨⟨0, (), rfl, rfl, kB_mk ht hW hP hK hD⟩, hS.F ht⟩) hS.2.2 dX3_nameAt_22
set_option maxHeartbeats 400000000 in
set_option maxRecDepth 100000 in
theorem c_X2_claimOf_0 (l : Launch) (E : kE) (D : va_G) (cI cJ cB cZ : ClassId) (h0 : Nat) (f0 : List Value) (e0 : f0[11]? = some (.int 0)) : kI l E D (kT cI cJ cB cZ) yX2_claimOf wsX2_claimOf ({ frames := 0, cells := 0, slots := 0, locals := 0 }) [.ref h0, .long 0] [(h0, .inr (2, f0))] ((-1)) [(h0, .inr (2, f0))] 0 0 := by
  intro sz
  refine Met.ofW (cc := cX2_claimOf) (maxL := 4) (ret := (some .int)) (by decide) rfl ?_
  intro p e s m args below meth c s₁ B hml hv
  obtain ⟨rfl, hsz, hP, hK, hD0, hN, hX⟩ := hv
  have hx := B.exec
  have hb := B.bytes
  have hr := B.returns
  have hts := atoms_spec (ws := wsX2_claimOf) B.pre
  have hown : s.vm.findClass RX2 = some m.cls := findClass_of_methodNamed B.named
  have hlocks := B.notSynchronized
  have hin2 : ∀ w ∈ wsX20, w ∈ wsX2_claimOf := (fun w h => (List.mem_cons_of_mem _ (List.mem_append_right _ h)))
  subst hsz
  have hD := hD0.self (sz := s.heap.size)
  have hAE := k_AE hD0 hX
  generalize hAe : va_A [(h0, .inr (2, f0))] s.heap.size = A at hD hAE ⊢
  have hA : ∀ q : Nat, s.heap.size ≤ q → A q := fun q h => by rw [← hAe]; exact Or.inr h
  have hS : va_S A s.heap s.heap [] := va_S.rf
  have hP : va_P D vwCl [(h0, .inr (2, f0))] s.heap := hP
  have hl := lv_entry ([.ref h0, .long 0] : List Value) (n := 4) (Nat.le_of_ble_eq_true rfl)
  rw [lg_entry_eq]
  generalize (lg_sl ([.ref h0, .long 0]) ++ List.replicate (4 - (lg_sl ([.ref h0, .long 0])).length) Slot.unset).toArray = ls at hl ⊢
  have hl : lv_has ls 4 [(0, .ref h0), (1, .long 0)] := hl
  refine lv_iconst (v := 0) hx hb dX2_claimOf_0 (by decide) ?_
  refine lv_istore_n (lv' := [(3, .int 0), (0, .ref h0), (1, .long 0)]) hx hb dX2_claimOf_1 rfl hl (by decide) rfl (fun ls hl => ?_)
  refine lv_iload_n hx hb dX2_claimOf_2 rfl (lv_at hl 0 rfl) ?_
  refine lv_aload_n hx hb dX2_claimOf_3 rfl (lv_at hl 1 rfl) ?_
  refine va_get (D := D) (ref := "IntegerHouse$House") (ci := 2) (v := .int 0) (C := RX2) (T := TX2) (N := 16) hx hb hts hin2 hown hK hP 0 rfl rfl 11 (by decide) (hts (.fieldLink RX2 55 "IntegerHouse$House" "claims" "I") (List.mem_cons_of_mem _ (List.mem_append_left _ (List.mem_of_getElem? (i := 0) rfl)))) (fun _ h9 => h9) e0 dX2_claimOf_4 ?_
  refine lv_icmp_ge (tgt := 35) hx hb dX2_claimOf_7 (by decide) (fun _ => ?_) (fun c9 => absurd (by decide) c9)
  refine lv_iconst (v := (-1)) hx hb dX2_claimOf_35 (by decide) ?_
  exact W.iret (v := (-1)) hx hb hr (fun t ht hW => ⟨⟨(-1), (), rfl, rfl, kB_mk ht hW hP hK hD⟩, hS.F ht⟩) hS.2.2 dX2_claimOf_36
set_option maxHeartbeats 400000000 in
set_option maxRecDepth 100000 in
theorem c_X8_fail_0 (l : Launch) (E : kE) (D : va_G) (cI cJ cB cZ : ClassId) (h0 : Nat) (f0 : List Value) (e0 : f0[3]? = some (.int 0)) (e1 : f0[7]? = some (.int 0)) (e2 : f0[8]? = some (.int 0)) (e3 : f0[4]? = some (.int 0)) : kV l E D (kT cI cJ cB cZ) yX8_fail wsX8_fail ({ frames := 0, cells := 0, slots := 0, locals := 0 }) [.ref h0, .int 2] [(h0, .inr (8, f0))] (fun _ : Unit => [(h0, .inr (8, (((f0.set 3 (.int 2)).set 4 (.int 0)).set 7 (.int 44))))]) 0 0 := by
  intro sz
  refine Met.ofW (cc := cX8_fail) (maxL := 2) (ret := none) (by decide) rfl ?_
  intro p e s m args below meth c s₁ B hml hv
  obtain ⟨rfl, hsz, hP, hK, hD0, hN, hX⟩ := hv
  have hx := B.exec
  have hb := B.bytes
  have hr := B.returns
  have hts := atoms_spec (ws := wsX8_fail) B.pre
  have hown : s.vm.findClass RX8 = some m.cls := findClass_of_methodNamed B.named
  have hlocks := B.notSynchronized
  have hin8 : ∀ w ∈ wsX80, w ∈ wsX8_fail := (fun w h => (List.mem_cons_of_mem _ (List.mem_append_right _ h)))
  subst hsz
  have hD := hD0.self (sz := s.heap.size)
  have hAE := k_AE hD0 hX
  generalize hAe : va_A [(h0, .inr (8, f0))] s.heap.size = A at hD hAE ⊢
  have hA : ∀ q : Nat, s.heap.size ≤ q → A q := fun q h => by rw [← hAe]; exact Or.inr h
  have hS : va_S A s.heap s.heap [] := va_S.rf
  have hP : va_P D vwCl [(h0, .inr (8, f0))] s.heap := hP
  have hl := lv_entry ([.ref h0, .int 2] : List Value) (n := 2) (Nat.le_of_ble_eq_true rfl)
  rw [lg_entry_eq]
  generalize (lg_sl ([.ref h0, .int 2]) ++ List.replicate (2 - (lg_sl ([.ref h0, .int 2])).length) Slot.unset).toArray = ls at hl ⊢
  have hl : lv_has ls 2 [(0, .ref h0), (1, .int 2)] := hl
  refine lv_aload_n hx hb dX8_fail_0 rfl (lv_at hl 0 rfl) ?_
  refine va_get (D := D) (ref := "IntegerHouse$Reader") (ci := 8) (v := .int 0) (C := RX8) (T := TX8) (N := 15) hx hb hts hin8 hown hK hP 0 rfl rfl 3 (by decide) (hts (.fieldLink RX8 62 "IntegerHouse$Reader" "faultKind" "I") (List.mem_cons_of_mem _ (List.mem_append_left _ (List.mem_of_getElem? (i := 0) rfl)))) (fun _ h9 => h9) e0 dX8_fail_1 ?_
  refine lv_if_ne (tgt := 32) hx hb dX8_fail_4 (by decide) (fun c9 => absurd (by decide) c9) (fun _ => ?_)
  refine lv_aload_n hx hb dX8_fail_7 rfl (lv_at hl 0 rfl) ?_
  refine lv_aload_n hx hb dX8_fail_8 rfl (lv_at hl 0 rfl) ?_
  refine va_get (D := D) (ref := "IntegerHouse$Reader") (ci := 8) (v := .int 0) (C := RX8) (T := TX8) (N := 15) hx hb hts hin8 hown hK hP 0 rfl rfl 7 (by decide) (hts (.fieldLink RX8 39 "IntegerHouse$Reader" "kind" "I") (List.mem_cons_of_mem _ (List.mem_append_left _ (List.mem_of_getElem? (i := 1) rfl)))) (fun _ h9 => h9) e1 dX8_fail_9 ?_
  refine lv_iconst (v := 3) hx hb dX8_fail_12 (by decide) ?_
  refine lv_icmp_ne (tgt := 20) hx hb dX8_fail_13 (by decide) (fun _ => ?_) (fun c9 => absurd c9 (by decide))
  refine lv_iload_n hx hb dX8_fail_20 rfl (lv_at hl 1 rfl) ?_
  refine va_put (D := D) (ref := "IntegerHouse$Reader") (ci := 8) (v := .int 2) (ty := .int) (C := RX8) (T := TX8) (N := 15) hx hb hts hin8 tyX8 tyX8_ok nmX8 hown hK hP hD hS 0 rfl rfl 3 (by decide) (hts (.fieldLink RX8 62 "IntegerHouse$Reader" "faultKind" "I") (List.mem_cons_of_mem _ (List.mem_append_left _ (List.mem_of_getElem? (i := 0) rfl)))) (fun _ h9 => h9) rfl (by decide +kernel) rfl rfl (k_len e0) dX8_fail_21 (fun H locs hP hD hS => ?_)
  have hP : va_P D vwCl [(h0, .inr (8, (f0.set 3 (.int 2))))] H := hP
  have hD : va_D A [(h0, .inr (8, (f0.set 3 (.int 2))))] := hD
  refine lv_aload_n hx hb dX8_fail_24 rfl (lv_at hl 0 rfl) ?_
  refine lv_aload_n hx hb dX8_fail_25 rfl (lv_at hl 0 rfl) ?_
  refine va_get (D := D) (ref := "IntegerHouse$Reader") (ci := 8) (v := .int 0) (C := RX8) (T := TX8) (N := 15) hx hb hts hin8 hown hK hP 0 rfl rfl 8 (by decide) (hts (.fieldLink RX8 136 "IntegerHouse$Reader" "place" "I") (List.mem_cons_of_mem _ (List.mem_append_left _ (List.mem_of_getElem? (i := 2) rfl)))) (fun _ h9 => h9) (k_ne (by decide) e2) dX8_fail_26 ?_
  refine va_put (D := D) (ref := "IntegerHouse$Reader") (ci := 8) (v := .int 0) (ty := .int) (C := RX8) (T := TX8) (N := 15) hx hb hts hin8 tyX8 tyX8_ok nmX8 hown hK hP hD hS 0 rfl rfl 4 (by decide) (hts (.fieldLink RX8 123 "IntegerHouse$Reader" "faultPlace" "I") (List.mem_cons_of_mem _ (List.mem_append_left _ (List.mem_of_getElem? (i := 3) rfl)))) (fun _ h9 => h9) rfl (by decide +kernel) rfl rfl (k_len (k_ne (by decide) e3)) dX8_fail_29 (fun H locs hP hD hS => ?_)
  have hP : va_P D vwCl [(h0, .inr (8, ((f0.set 3 (.int 2)).set 4 (.int 0))))] H := hP
  have hD : va_D A [(h0, .inr (8, ((f0.set 3 (.int 2)).set 4 (.int 0))))] := hD
  refine lv_aload_n hx hb dX8_fail_32 rfl (lv_at hl 0 rfl) ?_
  refine lv_bipush (v := 44) hx hb dX8_fail_33 (by decide) ?_
  refine va_put (D := D) (ref := "IntegerHouse$Reader") (ci := 8) (v := .int 44) (ty := .int) (C := RX8) (T := TX8) (N := 15) hx hb hts hin8 tyX8 tyX8_ok nmX8 hown hK hP hD hS 0 rfl rfl 7 (by decide) (hts (.fieldLink RX8 39 "IntegerHouse$Reader" "kind" "I") (List.mem_cons_of_mem _ (List.mem_append_left _ (List.mem_of_getElem? (i := 1) rfl)))) (fun _ h9 => h9) rfl (by decide +kernel) rfl rfl (k_len (k_ne (by decide) (k_ne (by decide) e1))) dX8_fail_35 (fun H locs hP hD hS => ?_)
  have hP : va_P D vwCl [(h0, .inr (8, (((f0.set 3 (.int 2)).set 4 (.int 0)).set 7 (.int 44))))] H := hP
  have hD : va_D A [(h0, .inr (8, (((f0.set 3 (.int 2)).set 4 (.int 0)).set 7 (.int 44))))] := hD
  exact W.vret hx hb hr (fun t ht hW => ⟨⟨(), rfl, trivial, kB_mk ht hW hP hK hD⟩, hS.F ht⟩) hS.2.2 dX8_fail_38
set_option maxHeartbeats 400000000 in
set_option maxRecDepth 100000 in
theorem c_X8_fail_1 (l : Launch) (E : kE) (D : va_G) (cI cJ cB cZ : ClassId) (h0 : Nat) (f0 : List Value) (e0 : f0[3]? = some (.int 2)) (e1 : f0[7]? = some (.int 44)) : kV l E D (kT cI cJ cB cZ) yX8_fail wsX8_fail ({ frames := 0, cells := 0, slots := 0, locals := 0 }) [.ref h0, .int 2] [(h0, .inr (8, f0))] (fun _ : Unit => [(h0, .inr (8, (f0.set 7 (.int 44))))]) 0 0 := by
  intro sz
  refine Met.ofW (cc := cX8_fail) (maxL := 2) (ret := none) (by decide) rfl ?_
  intro p e s m args below meth c s₁ B hml hv
  obtain ⟨rfl, hsz, hP, hK, hD0, hN, hX⟩ := hv
  have hx := B.exec
  have hb := B.bytes
  have hr := B.returns
  have hts := atoms_spec (ws := wsX8_fail) B.pre
  have hown : s.vm.findClass RX8 = some m.cls := findClass_of_methodNamed B.named
  have hlocks := B.notSynchronized
  have hin8 : ∀ w ∈ wsX80, w ∈ wsX8_fail := (fun w h => (List.mem_cons_of_mem _ (List.mem_append_right _ h)))
  subst hsz
  have hD := hD0.self (sz := s.heap.size)
  have hAE := k_AE hD0 hX
  generalize hAe : va_A [(h0, .inr (8, f0))] s.heap.size = A at hD hAE ⊢
  have hA : ∀ q : Nat, s.heap.size ≤ q → A q := fun q h => by rw [← hAe]; exact Or.inr h
  have hS : va_S A s.heap s.heap [] := va_S.rf
  have hP : va_P D vwCl [(h0, .inr (8, f0))] s.heap := hP
  have hl := lv_entry ([.ref h0, .int 2] : List Value) (n := 2) (Nat.le_of_ble_eq_true rfl)
  rw [lg_entry_eq]
  generalize (lg_sl ([.ref h0, .int 2]) ++ List.replicate (2 - (lg_sl ([.ref h0, .int 2])).length) Slot.unset).toArray = ls at hl ⊢
  have hl : lv_has ls 2 [(0, .ref h0), (1, .int 2)] := hl
  refine lv_aload_n hx hb dX8_fail_0 rfl (lv_at hl 0 rfl) ?_
  refine va_get (D := D) (ref := "IntegerHouse$Reader") (ci := 8) (v := .int 2) (C := RX8) (T := TX8) (N := 15) hx hb hts hin8 hown hK hP 0 rfl rfl 3 (by decide) (hts (.fieldLink RX8 62 "IntegerHouse$Reader" "faultKind" "I") (List.mem_cons_of_mem _ (List.mem_append_left _ (List.mem_of_getElem? (i := 0) rfl)))) (fun _ h9 => h9) e0 dX8_fail_1 ?_
  refine lv_if_ne (tgt := 32) hx hb dX8_fail_4 (by decide) (fun _ => ?_) (fun c9 => absurd c9 (by decide))
  refine lv_aload_n hx hb dX8_fail_32 rfl (lv_at hl 0 rfl) ?_
  refine lv_bipush (v := 44) hx hb dX8_fail_33 (by decide) ?_
  refine va_put (D := D) (ref := "IntegerHouse$Reader") (ci := 8) (v := .int 44) (ty := .int) (C := RX8) (T := TX8) (N := 15) hx hb hts hin8 tyX8 tyX8_ok nmX8 hown hK hP hD hS 0 rfl rfl 7 (by decide) (hts (.fieldLink RX8 39 "IntegerHouse$Reader" "kind" "I") (List.mem_cons_of_mem _ (List.mem_append_left _ (List.mem_of_getElem? (i := 1) rfl)))) (fun _ h9 => h9) rfl (by decide +kernel) rfl rfl (k_len e1) dX8_fail_35 (fun H locs hP hD hS => ?_)
  have hP : va_P D vwCl [(h0, .inr (8, (f0.set 7 (.int 44))))] H := hP
  have hD : va_D A [(h0, .inr (8, (f0.set 7 (.int 44))))] := hD
  exact W.vret hx hb hr (fun t ht hW => ⟨⟨(), rfl, trivial, kB_mk ht hW hP hK hD⟩, hS.F ht⟩) hS.2.2 dX8_fail_38
set_option maxHeartbeats 400000000 in
set_option maxRecDepth 100000 in
theorem c_X8_expectEnd_1 (l : Launch) (E : kE) (D : va_G) (cI cJ cB cZ : ClassId) (h0 : Nat) (f0 : List Value) (e0 : f0[7]? = some (.int 44)) (e1 : f0[3]? = some (.int 2)) : kV l E D (kT cI cJ cB cZ) yX8_expectEnd wsX8_expectEnd ({ frames := 1, cells := 0, slots := 0, locals := 21 }) [.ref h0] [(h0, .inr (8, f0))] (fun _ : Unit => [(h0, .inr (8, (f0.set 7 (.int 44))))]) 0 0 := by
  intro sz
  refine Met.ofW (cc := cX8_expectEnd) (maxL := 1) (ret := none) (by decide) rfl ?_
  intro p e s m args below meth c s₁ B hml hv
  obtain ⟨rfl, hsz, hP, hK, hD0, hN, hX⟩ := hv
  have hx := B.exec
  have hb := B.bytes
  have hr := B.returns
  have hts := atoms_spec (ws := wsX8_expectEnd) B.pre
  have hown : s.vm.findClass RX8 = some m.cls := findClass_of_methodNamed B.named
  have hlocks := B.notSynchronized
  have hin8 : ∀ w ∈ wsX80, w ∈ wsX8_expectEnd := (fun w h => (List.mem_cons_of_mem _ (List.mem_append_right _ h)))
  subst hsz
  have hD := hD0.self (sz := s.heap.size)
  have hAE := k_AE hD0 hX
  generalize hAe : va_A [(h0, .inr (8, f0))] s.heap.size = A at hD hAE ⊢
  have hA : ∀ q : Nat, s.heap.size ≤ q → A q := fun q h => by rw [← hAe]; exact Or.inr h
  have hS : va_S A s.heap s.heap [] := va_S.rf
  have hP : va_P D vwCl [(h0, .inr (8, f0))] s.heap := hP
  have hl := lv_entry ([.ref h0] : List Value) (n := 1) (Nat.le_of_ble_eq_true rfl)
  rw [lg_entry_eq]
  generalize (lg_sl ([.ref h0]) ++ List.replicate (1 - (lg_sl ([.ref h0])).length) Slot.unset).toArray = ls at hl ⊢
  have hl : lv_has ls 1 [(0, .ref h0)] := hl
  refine lv_aload_n hx hb dX8_expectEnd_0 rfl (lv_at hl 0 rfl) ?_
  refine va_get (D := D) (ref := "IntegerHouse$Reader") (ci := 8) (v := .int 44) (C := RX8) (T := TX8) (N := 15) hx hb hts hin8 hown hK hP 0 rfl rfl 7 (by decide) (hts (.fieldLink RX8 39 "IntegerHouse$Reader" "kind" "I") (List.mem_cons_of_mem _ (List.mem_append_left _ (List.mem_of_getElem? (i := 0) rfl)))) (fun _ h9 => h9) e0 dX8_expectEnd_1 ?_
  refine lv_if_eq (tgt := 12) hx hb dX8_expectEnd_4 (by decide) (fun c9 => absurd c9 (by decide)) (fun _ => ?_)
  refine lv_aload_n hx hb dX8_expectEnd_7 rfl (lv_at hl 0 rfl) ?_
  refine lv_iconst (v := 2) hx hb dX8_expectEnd_8 (by decide) ?_
  refine k_cVv (As := [.int 2]) (rest := []) (wc := [(h0, .inr (8, f0))]) (wr := []) (w1 := (fun _ : Unit => [(h0, .inr (8, (f0.set 7 (.int 44))))])) ⟨hx, hb, hml, hown, hts⟩ hN hX hAE hK hP hD hS hA [0] [] (ci := 8) rfl rfl rfl rfl (by decide +kernel) (by decide +kernel) (by decide +kernel) (c_X8_fail_1 l E D cI cJ cB cZ h0 f0 e1 e0) (cwV 1 hts gX8_expectEnd_X8_fail rfl rfl rfl (by decide +kernel) ⟨Nat.le_of_ble_eq_true rfl, Nat.le_of_ble_eq_true rfl⟩) rfl hl.1 (Nat.le_of_ble_eq_true rfl) dX8_expectEnd_9 ⟨Nat.le_of_ble_eq_true rfl, Nat.le_of_ble_eq_true rfl⟩ (fun _ H locs hP hD hS => ?_)
  have hP : va_P D vwCl [(h0, .inr (8, (f0.set 7 (.int 44))))] H := hP
  have hD : va_D A [(h0, .inr (8, (f0.set 7 (.int 44))))] := hD
  exact W.vret hx hb hr (fun t ht hW => ⟨⟨(), rfl, trivial, kB_mk ht hW hP hK hD⟩, hS.F ht⟩) hS.2.2 dX8_expectEnd_12
set_option maxHeartbeats 400000000 in
set_option maxRecDepth 100000 in
theorem c_X8_readName_0 (l : Launch) (E : kE) (D : va_G) (cI cJ cB cZ : ClassId) (h0 : Nat) (h1 : Nat) (f0 : List Value) (h2 : Nat) (f1 : List Value) (h3 : Nat) (h4 : Nat) (h5 : Nat) (g0 : Nat → Int32) (g1 : Nat → Int32) (h6 : Nat) (f2 : List Value) (e0 : f0[0]? = some (.ref h2)) (e1 : f1[6]? = some (.ref h3)) (e2 : f1[7]? = some (.int 0)) (e3 : f1[8]? = some (.int 0)) (e4 : f1[5]? = some (.int 0)) (e5 : f1[1]? = some (.ref h4)) (e6 : f1[2]? = some (.ref h5)) (e7 : f0[3]? = some (.int 0)) (e8 : f0[4]? = some (.int 0)) (e9 : f0[5]? = some (.int 0)) (e10 : f0[6]? = some (.int 0)) (e11 : f0[7]? = some (.int 0)) (e12 : f0[8]? = some (.int 0)) (e13 : f0[1]? = some (.ref h6)) (e14 : f2[11]? = some (.int 0)) : kI l E D (kT cI cJ cB cZ) yX8_readName wsX8_readName ({ frames := 3, cells := 0, slots := 0, locals := 73 }) [.ref h0, .ref h1, .int 0] [(h0, .inr (8, f0)), (h2, .inr (3, f1)), (h4, .inl (cI, 2001, .inl g0)), (h5, .inl (cI, 2001, .inl g1)), (h6, .inr (2, f2))] ((-1)) [(h0, .inr (8, (((((((((((f0.set 3 (.int 0)).set 4 (.int 0)).set 5 (.int 0)).set 6 (.int (-1))).set 6 (.int 0)).set 7 (.int 0)).set 8 (.int 0)).set 3 (.int 2)).set 4 (.int 0)).set 7 (.int 44)).set 7 (.int 44)))), (h2, .inr (3, ((((f1.set 6 (.ref h1)).set 7 (.int 0)).set 8 (.int 0)).set 5 (.int 0)))), (h4, .inl (cI, 2001, .inl (upd g0 0 0))), (h5, .inl (cI, 2001, .inl (upd g1 0 0))), (h6, .inr (2, f2))] 0 0 := by
  intro sz
  refine Met.ofW (cc := cX8_readName) (maxL := 4) (ret := (some .int)) (by decide) rfl ?_
  intro p e s m args below meth c s₁ B hml hv
  obtain ⟨rfl, hsz, hP, hK, hD0, hN, hX⟩ := hv
  have hx := B.exec
  have hb := B.bytes
  have hr := B.returns
  have hts := atoms_spec (ws := wsX8_readName) B.pre
  have hown : s.vm.findClass RX8 = some m.cls := findClass_of_methodNamed B.named
  have hlocks := B.notSynchronized
  have hin8 : ∀ w ∈ wsX80, w ∈ wsX8_readName := (fun w h => (List.mem_cons_of_mem _ (List.mem_append_left _ (List.mem_append_left _ (List.mem_append_right _ h)))))
  subst hsz
  have hD := hD0.self (sz := s.heap.size)
  have hAE := k_AE hD0 hX
  generalize hAe : va_A [(h0, .inr (8, f0)), (h2, .inr (3, f1)), (h4, .inl (cI, 2001, .inl g0)), (h5, .inl (cI, 2001, .inl g1)), (h6, .inr (2, f2))] s.heap.size = A at hD hAE ⊢
  have hA : ∀ q : Nat, s.heap.size ≤ q → A q := fun q h => by rw [← hAe]; exact Or.inr h
  have hS : va_S A s.heap s.heap [] := va_S.rf
  have hP : va_P D vwCl [(h0, .inr (8, f0)), (h2, .inr (3, f1)), (h4, .inl (cI, 2001, .inl g0)), (h5, .inl (cI, 2001, .inl g1)), (h6, .inr (2, f2))] s.heap := hP
  have hl := lv_entry ([.ref h0, .ref h1, .int 0] : List Value) (n := 4) (Nat.le_of_ble_eq_true rfl)
  rw [lg_entry_eq]
  generalize (lg_sl ([.ref h0, .ref h1, .int 0]) ++ List.replicate (4 - (lg_sl ([.ref h0, .ref h1, .int 0])).length) Slot.unset).toArray = ls at hl ⊢
  have hl : lv_has ls 4 [(0, .ref h0), (1, .ref h1), (2, .int 0)] := hl
  refine lv_aload_n hx hb dX8_readName_0 rfl (lv_at hl 0 rfl) ?_
  refine lv_aload_n hx hb dX8_readName_1 rfl (lv_at hl 1 rfl) ?_
  refine lv_iconst (v := 0) hx hb dX8_readName_2 (by decide) ?_
  refine lv_iload_n hx hb dX8_readName_3 rfl (lv_at hl 2 rfl) ?_
  refine k_cVv (As := [.ref h1, .int 0, .int 0]) (rest := []) (wc := [(h0, .inr (8, f0)), (h2, .inr (3, f1)), (h4, .inl (cI, 2001, .inl g0)), (h5, .inl (cI, 2001, .inl g1))]) (wr := [(h6, .inr (2, f2))]) (w1 := (fun _ : Unit => [(h0, .inr (8, (((((((f0.set 3 (.int 0)).set 4 (.int 0)).set 5 (.int 0)).set 6 (.int (-1))).set 6 (.int 0)).set 7 (.int 0)).set 8 (.int 0)))), (h2, .inr (3, ((((f1.set 6 (.ref h1)).set 7 (.int 0)).set 8 (.int 0)).set 5 (.int 0)))), (h4, .inl (cI, 2001, .inl (upd g0 0 0))), (h5, .inl (cI, 2001, .inl (upd g1 0 0)))])) ⟨hx, hb, hml, hown, hts⟩ hN hX hAE hK hP hD hS hA [0, 1, 2, 3] [4] (ci := 8) rfl rfl rfl rfl (by decide +kernel) (by decide +kernel) (by decide +kernel) (c_X8_begin_0 l E D cI cJ cB cZ h0 h1 f0 h2 f1 h3 h4 h5 g0 g1 e0 e1 e2 e3 e4 e5 e6 e7 e8 e9 e10 e11 e12) (cwV 3 hts gX8_readName_X8_begin rfl rfl rfl (by decide +kernel) ⟨Nat.le_of_ble_eq_true rfl, Nat.le_of_ble_eq_true rfl⟩) rfl hl.1 (Nat.le_of_ble_eq_true rfl) dX8_readName_4 ⟨Nat.le_of_ble_eq_true rfl, Nat.le_of_ble_eq_true rfl⟩ (fun _ H locs hP hD hS => ?_)
  have hP : va_P D vwCl [(h6, .inr (2, f2)), (h0, .inr (8, (((((((f0.set 3 (.int 0)).set 4 (.int 0)).set 5 (.int 0)).set 6 (.int (-1))).set 6 (.int 0)).set 7 (.int 0)).set 8 (.int 0)))), (h2, .inr (3, ((((f1.set 6 (.ref h1)).set 7 (.int 0)).set 8 (.int 0)).set 5 (.int 0)))), (h4, .inl (cI, 2001, .inl (upd g0 0 0))), (h5, .inl (cI, 2001, .inl (upd g1 0 0)))] H := hP
  have hD : va_D A [(h6, .inr (2, f2)), (h0, .inr (8, (((((((f0.set 3 (.int 0)).set 4 (.int 0)).set 5 (.int 0)).set 6 (.int (-1))).set 6 (.int 0)).set 7 (.int 0)).set 8 (.int 0)))), (h2, .inr (3, ((((f1.set 6 (.ref h1)).set 7 (.int 0)).set 8 (.int 0)).set 5 (.int 0)))), (h4, .inl (cI, 2001, .inl (upd g0 0 0))), (h5, .inl (cI, 2001, .inl (upd g1 0 0)))] := hD
  refine lv_aload_n hx hb dX8_readName_7 rfl (lv_at hl 0 rfl) ?_
  refine va_get (D := D) (ref := "IntegerHouse$Reader") (ci := 8) (v := .ref h6) (C := RX8) (T := TX8) (N := 15) hx hb hts hin8 hown hK hP 1 rfl rfl 1 (by decide) (hts (.fieldLink RX8 15 "IntegerHouse$Reader" "house" "LIntegerHouse$House;") (List.mem_cons_of_mem _ (List.mem_append_left _ (List.mem_append_left _ (List.mem_append_left _ (List.mem_append_left _ (List.mem_of_getElem? (i := 0) rfl))))))) (fun _ h9 => h9) (k_ne (by decide) (k_ne (by decide) (k_ne (by decide) (k_ne (by decide) (k_ne (by decide) (k_ne (by decide) (k_ne (by decide) e13))))))) dX8_readName_8 ?_
  refine lv_aload_n hx hb dX8_readName_11 rfl (lv_at hl 0 rfl) ?_
  refine va_get (D := D) (ref := "IntegerHouse$Reader") (ci := 8) (v := .ref h2) (C := RX8) (T := TX8) (N := 15) hx hb hts hin8 hown hK hP 1 rfl rfl 0 (by decide) (hts (.fieldLink RX8 9 "IntegerHouse$Reader" "lexer" "LIntegerHouse$Lexer;") (List.mem_cons_of_mem _ (List.mem_append_left _ (List.mem_append_left _ (List.mem_append_left _ (List.mem_append_left _ (List.mem_of_getElem? (i := 1) rfl))))))) (fun _ h9 => h9) (k_ne (by decide) (k_ne (by decide) (k_ne (by decide) (k_ne (by decide) (k_ne (by decide) (k_ne (by decide) (k_ne (by decide) e0))))))) dX8_readName_12 ?_
  refine lv_aload_n hx hb dX8_readName_15 rfl (lv_at hl 0 rfl) ?_
  refine va_get (D := D) (ref := "IntegerHouse$Reader") (ci := 8) (v := .int 0) (C := RX8) (T := TX8) (N := 15) hx hb hts hin8 hown hK hP 1 rfl rfl 6 (by decide) (hts (.fieldLink RX8 79 "IntegerHouse$Reader" "at" "I") (List.mem_cons_of_mem _ (List.mem_append_left _ (List.mem_append_left _ (List.mem_append_left _ (List.mem_append_left _ (List.mem_of_getElem? (i := 2) rfl))))))) (fun _ h9 => h9) (k_ne (by decide) (k_ne (by decide) (k_set (k_set (k_ne (by decide) (k_ne (by decide) (k_ne (by decide) e10))))))) dX8_readName_16 ?_
  refine k_cVl (As := [.int 0]) (rest := [.ref h6]) (wc := [(h2, .inr (3, ((((f1.set 6 (.ref h1)).set 7 (.int 0)).set 8 (.int 0)).set 5 (.int 0))))]) (wr := [(h6, .inr (2, f2)), (h0, .inr (8, (((((((f0.set 3 (.int 0)).set 4 (.int 0)).set 5 (.int 0)).set 6 (.int (-1))).set 6 (.int 0)).set 7 (.int 0)).set 8 (.int 0)))), (h4, .inl (cI, 2001, .inl (upd g0 0 0))), (h5, .inl (cI, 2001, .inl (upd g1 0 0)))]) (w1 := [(h2, .inr (3, ((((f1.set 6 (.ref h1)).set 7 (.int 0)).set 8 (.int 0)).set 5 (.int 0))))]) ⟨hx, hb, hml, hown, hts⟩ hN hX hAE hK hP hD hS hA [2] [0, 1, 3, 4] (ci := 3) rfl rfl rfl rfl (by decide +kernel) (by decide +kernel) (by decide +kernel) (c_X3_nameAt_0 l E D cI cJ cB cZ h2 (((((f1.set 6 (.ref h1)).set 7 (.int 0)).set 8 (.int 0)).set 5 (.int 0))) (k_set (k_ne (by decide) (k_ne (by decide) (k_ne (by decide) e4))))) (cwV 1 hts gX8_readName_X3_nameAt rfl rfl rfl (by decide +kernel) ⟨Nat.le_of_ble_eq_true rfl, Nat.le_of_ble_eq_true rfl⟩) rfl hl.1 (Nat.le_of_ble_eq_true rfl) dX8_readName_19 ⟨Nat.le_of_ble_eq_true rfl, Nat.le_of_ble_eq_true rfl⟩ (fun H locs hP hD hS => ?_)
  have hP : va_P D vwCl [(h6, .inr (2, f2)), (h0, .inr (8, (((((((f0.set 3 (.int 0)).set 4 (.int 0)).set 5 (.int 0)).set 6 (.int (-1))).set 6 (.int 0)).set 7 (.int 0)).set 8 (.int 0)))), (h4, .inl (cI, 2001, .inl (upd g0 0 0))), (h5, .inl (cI, 2001, .inl (upd g1 0 0))), (h2, .inr (3, ((((f1.set 6 (.ref h1)).set 7 (.int 0)).set 8 (.int 0)).set 5 (.int 0))))] H := hP
  have hD : va_D A [(h6, .inr (2, f2)), (h0, .inr (8, (((((((f0.set 3 (.int 0)).set 4 (.int 0)).set 5 (.int 0)).set 6 (.int (-1))).set 6 (.int 0)).set 7 (.int 0)).set 8 (.int 0)))), (h4, .inl (cI, 2001, .inl (upd g0 0 0))), (h5, .inl (cI, 2001, .inl (upd g1 0 0))), (h2, .inr (3, ((((f1.set 6 (.ref h1)).set 7 (.int 0)).set 8 (.int 0)).set 5 (.int 0))))] := hD
  refine k_cVi (As := [.long 0]) (rest := []) (wc := [(h6, .inr (2, f2))]) (wr := [(h0, .inr (8, (((((((f0.set 3 (.int 0)).set 4 (.int 0)).set 5 (.int 0)).set 6 (.int (-1))).set 6 (.int 0)).set 7 (.int 0)).set 8 (.int 0)))), (h4, .inl (cI, 2001, .inl (upd g0 0 0))), (h5, .inl (cI, 2001, .inl (upd g1 0 0))), (h2, .inr (3, ((((f1.set 6 (.ref h1)).set 7 (.int 0)).set 8 (.int 0)).set 5 (.int 0))))]) (w1 := [(h6, .inr (2, f2))]) ⟨hx, hb, hml, hown, hts⟩ hN hX hAE hK hP hD hS hA [0] [1, 2, 3, 4] (ci := 2) rfl rfl rfl rfl (by decide +kernel) (by decide +kernel) (by decide +kernel) (c_X2_claimOf_0 l E D cI cJ cB cZ h6 f2 e14) (cwV 1 hts gX8_readName_X2_claimOf rfl rfl rfl (by decide +kernel) ⟨Nat.le_of_ble_eq_true rfl, Nat.le_of_ble_eq_true rfl⟩) rfl hl.1 (Nat.le_of_ble_eq_true rfl) dX8_readName_22 ⟨Nat.le_of_ble_eq_true rfl, Nat.le_of_ble_eq_true rfl⟩ (fun H locs hP hD hS => ?_)
  have hP : va_P D vwCl [(h0, .inr (8, (((((((f0.set 3 (.int 0)).set 4 (.int 0)).set 5 (.int 0)).set 6 (.int (-1))).set 6 (.int 0)).set 7 (.int 0)).set 8 (.int 0)))), (h4, .inl (cI, 2001, .inl (upd g0 0 0))), (h5, .inl (cI, 2001, .inl (upd g1 0 0))), (h2, .inr (3, ((((f1.set 6 (.ref h1)).set 7 (.int 0)).set 8 (.int 0)).set 5 (.int 0)))), (h6, .inr (2, f2))] H := hP
  have hD : va_D A [(h0, .inr (8, (((((((f0.set 3 (.int 0)).set 4 (.int 0)).set 5 (.int 0)).set 6 (.int (-1))).set 6 (.int 0)).set 7 (.int 0)).set 8 (.int 0)))), (h4, .inl (cI, 2001, .inl (upd g0 0 0))), (h5, .inl (cI, 2001, .inl (upd g1 0 0))), (h2, .inr (3, ((((f1.set 6 (.ref h1)).set 7 (.int 0)).set 8 (.int 0)).set 5 (.int 0)))), (h6, .inr (2, f2))] := hD
  refine lv_istore_n (lv' := [(3, .int (-1)), (0, .ref h0), (1, .ref h1), (2, .int 0)]) hx hb dX8_readName_25 rfl hl (by decide) rfl (fun ls hl => ?_)
  refine lv_aload_n hx hb dX8_readName_26 rfl (lv_at hl 1 rfl) ?_
  refine va_get (D := D) (ref := "IntegerHouse$Reader") (ci := 8) (v := .int 0) (C := RX8) (T := TX8) (N := 15) hx hb hts hin8 hown hK hP 0 rfl rfl 7 (by decide) (hts (.fieldLink RX8 39 "IntegerHouse$Reader" "kind" "I") (List.mem_cons_of_mem _ (List.mem_append_left _ (List.mem_append_left _ (List.mem_append_left _ (List.mem_append_left _ (List.mem_of_getElem? (i := 3) rfl))))))) (fun _ h9 => h9) (k_ne (by decide) (k_set (k_ne (by decide) (k_ne (by decide) (k_ne (by decide) (k_ne (by decide) (k_ne (by decide) e11))))))) dX8_readName_27 ?_
  refine lv_iconst (v := 1) hx hb dX8_readName_30 (by decide) ?_
  refine lv_icmp_ne (tgt := 56) hx hb dX8_readName_31 (by decide) (fun _ => ?_) (fun c9 => absurd c9 (by decide))
  refine lv_aload_n hx hb dX8_readName_56 rfl (lv_at hl 1 rfl) ?_
  refine lv_iconst (v := 2) hx hb dX8_readName_57 (by decide) ?_
  refine k_cVv (As := [.int 2]) (rest := []) (wc := [(h0, .inr (8, (((((((f0.set 3 (.int 0)).set 4 (.int 0)).set 5 (.int 0)).set 6 (.int (-1))).set 6 (.int 0)).set 7 (.int 0)).set 8 (.int 0))))]) (wr := [(h4, .inl (cI, 2001, .inl (upd g0 0 0))), (h5, .inl (cI, 2001, .inl (upd g1 0 0))), (h2, .inr (3, ((((f1.set 6 (.ref h1)).set 7 (.int 0)).set 8 (.int 0)).set 5 (.int 0)))), (h6, .inr (2, f2))]) (w1 := (fun _ : Unit => [(h0, .inr (8, ((((((((((f0.set 3 (.int 0)).set 4 (.int 0)).set 5 (.int 0)).set 6 (.int (-1))).set 6 (.int 0)).set 7 (.int 0)).set 8 (.int 0)).set 3 (.int 2)).set 4 (.int 0)).set 7 (.int 44))))])) ⟨hx, hb, hml, hown, hts⟩ hN hX hAE hK hP hD hS hA [0] [1, 2, 3, 4] (ci := 8) rfl rfl rfl rfl (by decide +kernel) (by decide +kernel) (by decide +kernel) (c_X8_fail_0 l E D cI cJ cB cZ h0 ((((((((f0.set 3 (.int 0)).set 4 (.int 0)).set 5 (.int 0)).set 6 (.int (-1))).set 6 (.int 0)).set 7 (.int 0)).set 8 (.int 0))) (k_ne (by decide) (k_ne (by decide) (k_ne (by decide) (k_ne (by decide) (k_ne (by decide) (k_ne (by decide) (k_set e7))))))) (k_ne (by decide) (k_set (k_ne (by decide) (k_ne (by decide) (k_ne (by decide) (k_ne (by decide) (k_ne (by decide) e11))))))) (k_set (k_ne (by decide) (k_ne (by decide) (k_ne (by decide) (k_ne (by decide) (k_ne (by decide) (k_ne (by decide) e12))))))) (k_ne (by decide) (k_ne (by decide) (k_ne (by decide) (k_ne (by decide) (k_ne (by decide) (k_set (k_ne (by decide) e8)))))))) (cwV 1 hts gX8_readName_X8_fail rfl rfl rfl (by decide +kernel) ⟨Nat.le_of_ble_eq_true rfl, Nat.le_of_ble_eq_true rfl⟩) rfl hl.1 (Nat.le_of_ble_eq_true rfl) dX8_readName_58 ⟨Nat.le_of_ble_eq_true rfl, Nat.le_of_ble_eq_true rfl⟩ (fun _ H locs hP hD hS => ?_)
  have hP : va_P D vwCl [(h4, .inl (cI, 2001, .inl (upd g0 0 0))), (h5, .inl (cI, 2001, .inl (upd g1 0 0))), (h2, .inr (3, ((((f1.set 6 (.ref h1)).set 7 (.int 0)).set 8 (.int 0)).set 5 (.int 0)))), (h6, .inr (2, f2)), (h0, .inr (8, ((((((((((f0.set 3 (.int 0)).set 4 (.int 0)).set 5 (.int 0)).set 6 (.int (-1))).set 6 (.int 0)).set 7 (.int 0)).set 8 (.int 0)).set 3 (.int 2)).set 4 (.int 0)).set 7 (.int 44))))] H := hP
  have hD : va_D A [(h4, .inl (cI, 2001, .inl (upd g0 0 0))), (h5, .inl (cI, 2001, .inl (upd g1 0 0))), (h2, .inr (3, ((((f1.set 6 (.ref h1)).set 7 (.int 0)).set 8 (.int 0)).set 5 (.int 0)))), (h6, .inr (2, f2)), (h0, .inr (8, ((((((((((f0.set 3 (.int 0)).set 4 (.int 0)).set 5 (.int 0)).set 6 (.int (-1))).set 6 (.int 0)).set 7 (.int 0)).set 8 (.int 0)).set 3 (.int 2)).set 4 (.int 0)).set 7 (.int 44))))] := hD
  refine lv_goto (tgt := 81) hx hb dX8_readName_61 (by decide) ?_
  refine lv_aload_n hx hb dX8_readName_81 rfl (lv_at hl 1 rfl) ?_
  refine k_cVv (As := []) (rest := []) (wc := [(h0, .inr (8, ((((((((((f0.set 3 (.int 0)).set 4 (.int 0)).set 5 (.int 0)).set 6 (.int (-1))).set 6 (.int 0)).set 7 (.int 0)).set 8 (.int 0)).set 3 (.int 2)).set 4 (.int 0)).set 7 (.int 44))))]) (wr := [(h4, .inl (cI, 2001, .inl (upd g0 0 0))), (h5, .inl (cI, 2001, .inl (upd g1 0 0))), (h2, .inr (3, ((((f1.set 6 (.ref h1)).set 7 (.int 0)).set 8 (.int 0)).set 5 (.int 0)))), (h6, .inr (2, f2))]) (w1 := (fun _ : Unit => [(h0, .inr (8, (((((((((((f0.set 3 (.int 0)).set 4 (.int 0)).set 5 (.int 0)).set 6 (.int (-1))).set 6 (.int 0)).set 7 (.int 0)).set 8 (.int 0)).set 3 (.int 2)).set 4 (.int 0)).set 7 (.int 44)).set 7 (.int 44))))])) ⟨hx, hb, hml, hown, hts⟩ hN hX hAE hK hP hD hS hA [4] [0, 1, 2, 3] (ci := 8) rfl rfl rfl rfl (by decide +kernel) (by decide +kernel) (by decide +kernel) (c_X8_expectEnd_1 l E D cI cJ cB cZ h0 (((((((((((f0.set 3 (.int 0)).set 4 (.int 0)).set 5 (.int 0)).set 6 (.int (-1))).set 6 (.int 0)).set 7 (.int 0)).set 8 (.int 0)).set 3 (.int 2)).set 4 (.int 0)).set 7 (.int 44))) (k_set (k_ne (by decide) (k_ne (by decide) (k_ne (by decide) (k_set (k_ne (by decide) (k_ne (by decide) (k_ne (by decide) (k_ne (by decide) (k_ne (by decide) e11)))))))))) (k_ne (by decide) (k_ne (by decide) (k_set (k_ne (by decide) (k_ne (by decide) (k_ne (by decide) (k_ne (by decide) (k_ne (by decide) (k_ne (by decide) (k_set e7))))))))))) (cwV 0 hts gX8_readName_X8_expectEnd rfl rfl rfl (by decide +kernel) ⟨Nat.le_of_ble_eq_true rfl, Nat.le_of_ble_eq_true rfl⟩) rfl hl.1 (Nat.le_of_ble_eq_true rfl) dX8_readName_82 ⟨Nat.le_of_ble_eq_true rfl, Nat.le_of_ble_eq_true rfl⟩ (fun _ H locs hP hD hS => ?_)
  have hP : va_P D vwCl [(h4, .inl (cI, 2001, .inl (upd g0 0 0))), (h5, .inl (cI, 2001, .inl (upd g1 0 0))), (h2, .inr (3, ((((f1.set 6 (.ref h1)).set 7 (.int 0)).set 8 (.int 0)).set 5 (.int 0)))), (h6, .inr (2, f2)), (h0, .inr (8, (((((((((((f0.set 3 (.int 0)).set 4 (.int 0)).set 5 (.int 0)).set 6 (.int (-1))).set 6 (.int 0)).set 7 (.int 0)).set 8 (.int 0)).set 3 (.int 2)).set 4 (.int 0)).set 7 (.int 44)).set 7 (.int 44))))] H := hP
  have hD : va_D A [(h4, .inl (cI, 2001, .inl (upd g0 0 0))), (h5, .inl (cI, 2001, .inl (upd g1 0 0))), (h2, .inr (3, ((((f1.set 6 (.ref h1)).set 7 (.int 0)).set 8 (.int 0)).set 5 (.int 0)))), (h6, .inr (2, f2)), (h0, .inr (8, (((((((((((f0.set 3 (.int 0)).set 4 (.int 0)).set 5 (.int 0)).set 6 (.int (-1))).set 6 (.int 0)).set 7 (.int 0)).set 8 (.int 0)).set 3 (.int 2)).set 4 (.int 0)).set 7 (.int 44)).set 7 (.int 44))))] := hD
  refine lv_aload_n hx hb dX8_readName_85 rfl (lv_at hl 1 rfl) ?_
  refine va_get (D := D) (ref := "IntegerHouse$Reader") (ci := 8) (v := .int 2) (C := RX8) (T := TX8) (N := 15) hx hb hts hin8 hown hK hP 4 rfl rfl 3 (by decide) (hts (.fieldLink RX8 62 "IntegerHouse$Reader" "faultKind" "I") (List.mem_cons_of_mem _ (List.mem_append_left _ (List.mem_append_left _ (List.mem_append_left _ (List.mem_append_left _ (List.mem_of_getElem? (i := 4) rfl))))))) (fun _ h9 => h9) (k_ne (by decide) (k_ne (by decide) (k_ne (by decide) (k_set (k_ne (by decide) (k_ne (by decide) (k_ne (by decide) (k_ne (by decide) (k_ne (by decide) (k_ne (by decide) (k_set e7))))))))))) dX8_readName_86 ?_
  refine lv_if_ne (tgt := 96) hx hb dX8_readName_89 (by decide) (fun _ => ?_) (fun c9 => absurd c9 (by decide))
  refine lv_iconst (v := (-1)) hx hb dX8_readName_96 (by decide) ?_
  have hP := hP.sub (ws' := [(h0, .inr (8, (((((((((((f0.set 3 (.int 0)).set 4 (.int 0)).set 5 (.int 0)).set 6 (.int (-1))).set 6 (.int 0)).set 7 (.int 0)).set 8 (.int 0)).set 3 (.int 2)).set 4 (.int 0)).set 7 (.int 44)).set 7 (.int 44)))), (h2, .inr (3, ((((f1.set 6 (.ref h1)).set 7 (.int 0)).set 8 (.int 0)).set 5 (.int 0)))), (h4, .inl (cI, 2001, .inl (upd g0 0 0))), (h5, .inl (cI, 2001, .inl (upd g1 0 0))), (h6, .inr (2, f2))]) [4, 2, 0, 1, 3] rfl
  have hD := hD.sub (ws' := [(h0, .inr (8, (((((((((((f0.set 3 (.int 0)).set 4 (.int 0)).set 5 (.int 0)).set 6 (.int (-1))).set 6 (.int 0)).set 7 (.int 0)).set 8 (.int 0)).set 3 (.int 2)).set 4 (.int 0)).set 7 (.int 44)).set 7 (.int 44)))), (h2, .inr (3, ((((f1.set 6 (.ref h1)).set 7 (.int 0)).set 8 (.int 0)).set 5 (.int 0)))), (h4, .inl (cI, 2001, .inl (upd g0 0 0))), (h5, .inl (cI, 2001, .inl (upd g1 0 0))), (h6, .inr (2, f2))]) [4, 2, 0, 1, 3] (by decide +kernel) rfl
  exact W.iret (v := (-1)) hx hb hr (fun t ht hW => ⟨⟨(-1), (), rfl, rfl, kB_mk ht hW hP hK hD⟩, hS.F ht⟩) hS.2.2 dX8_readName_97
set_option maxHeartbeats 400000000 in
set_option maxRecDepth 100000 in
theorem c_X11_faulted_0 (l : Launch) (E : kE) (D : va_G) (cI cJ cB cZ : ClassId) (h0 : Nat) (f0 : List Value) (h1 : Nat) (f1 : List Value) (e0 : f0[5]? = some (.ref h1)) (e1 : f1[3]? = some (.int 2)) (e2 : f0[13]? = some (.int 0)) (e3 : f1[4]? = some (.int 0)) : kI l E D (kT cI cJ cB cZ) yX11_faulted wsX11_faulted ({ frames := 0, cells := 0, slots := 0, locals := 0 }) [.ref h0] [(h0, .inr (11, f0)), (h1, .inr (8, f1))] ((-1000)) [(h0, .inr (11, (f0.set 13 (.int 2)))), (h1, .inr (8, f1))] 0 0 := by
  intro sz
  refine Met.ofW (cc := cX11_faulted) (maxL := 1) (ret := (some .int)) (by decide) rfl ?_
  intro p e s m args below meth c s₁ B hml hv
  obtain ⟨rfl, hsz, hP, hK, hD0, hN, hX⟩ := hv
  have hx := B.exec
  have hb := B.bytes
  have hr := B.returns
  have hts := atoms_spec (ws := wsX11_faulted) B.pre
  have hown : s.vm.findClass RX11 = some m.cls := findClass_of_methodNamed B.named
  have hlocks := B.notSynchronized
  have hin11 : ∀ w ∈ wsX110, w ∈ wsX11_faulted := (fun w h => (List.mem_cons_of_mem _ (List.mem_append_left _ (List.mem_append_right _ h))))
  have hin8 : ∀ w ∈ wsX80, w ∈ wsX11_faulted := (fun w h => (List.mem_cons_of_mem _ (List.mem_append_right _ h)))
  subst hsz
  have hD := hD0.self (sz := s.heap.size)
  have hAE := k_AE hD0 hX
  generalize hAe : va_A [(h0, .inr (11, f0)), (h1, .inr (8, f1))] s.heap.size = A at hD hAE ⊢
  have hA : ∀ q : Nat, s.heap.size ≤ q → A q := fun q h => by rw [← hAe]; exact Or.inr h
  have hS : va_S A s.heap s.heap [] := va_S.rf
  have hP : va_P D vwCl [(h0, .inr (11, f0)), (h1, .inr (8, f1))] s.heap := hP
  have hl := lv_entry ([.ref h0] : List Value) (n := 1) (Nat.le_of_ble_eq_true rfl)
  rw [lg_entry_eq]
  generalize (lg_sl ([.ref h0]) ++ List.replicate (1 - (lg_sl ([.ref h0])).length) Slot.unset).toArray = ls at hl ⊢
  have hl : lv_has ls 1 [(0, .ref h0)] := hl
  refine lv_aload_n hx hb dX11_faulted_0 rfl (lv_at hl 0 rfl) ?_
  refine lv_aload_n hx hb dX11_faulted_1 rfl (lv_at hl 0 rfl) ?_
  refine va_get (D := D) (ref := "IntegerHouse") (ci := 11) (v := .ref h1) (C := RX11) (T := TX11) (N := 15) hx hb hts hin11 hown hK hP 0 rfl rfl 5 (by decide) (hts (.fieldLink RX11 48 "IntegerHouse" "reader" "LIntegerHouse$Reader;") (List.mem_cons_of_mem _ (List.mem_append_left _ (List.mem_append_left _ (List.mem_of_getElem? (i := 0) rfl))))) (fun _ h9 => h9) e0 dX11_faulted_2 ?_
  refine va_getN (host := "IntegerHouse") (D := D) (ref := "IntegerHouse$Reader") (ci := 8) (v := .int 2) (C := RX8) (T := TX8) (N := 15) hx hb hts hin8 hown hK hP 1 rfl rfl 3 (by decide) (va_Nw.use rfl (hN.1 ("IntegerHouse", 250, "IntegerHouse$Reader", "faultKind", "I", "IntegerHouse") (List.mem_of_getElem? (i := 27) rfl))) (fun _ h9 => h9) e1 dX11_faulted_5 ?_
  refine va_put (D := D) (ref := "IntegerHouse") (ci := 11) (v := .int 2) (ty := .int) (C := RX11) (T := TX11) (N := 15) hx hb hts hin11 tyX11 tyX11_ok nmX11 hown hK hP hD hS 0 rfl rfl 13 (by decide) (hts (.fieldLink RX11 253 "IntegerHouse" "latestFault" "I") (List.mem_cons_of_mem _ (List.mem_append_left _ (List.mem_append_left _ (List.mem_of_getElem? (i := 1) rfl))))) (fun _ h9 => h9) rfl (by decide +kernel) rfl rfl (k_len e2) dX11_faulted_8 (fun H locs hP hD hS => ?_)
  have hP : va_P D vwCl [(h0, .inr (11, (f0.set 13 (.int 2)))), (h1, .inr (8, f1))] H := hP
  have hD : va_D A [(h0, .inr (11, (f0.set 13 (.int 2)))), (h1, .inr (8, f1))] := hD
  refine lv_sipush (v := (-1000)) hx hb dX11_faulted_11 (by decide) ?_
  refine lv_aload_n hx hb dX11_faulted_14 rfl (lv_at hl 0 rfl) ?_
  refine va_get (D := D) (ref := "IntegerHouse") (ci := 11) (v := .ref h1) (C := RX11) (T := TX11) (N := 15) hx hb hts hin11 hown hK hP 0 rfl rfl 5 (by decide) (hts (.fieldLink RX11 48 "IntegerHouse" "reader" "LIntegerHouse$Reader;") (List.mem_cons_of_mem _ (List.mem_append_left _ (List.mem_append_left _ (List.mem_of_getElem? (i := 0) rfl))))) (fun _ h9 => h9) (k_ne (by decide) e0) dX11_faulted_15 ?_
  refine va_getN (host := "IntegerHouse") (D := D) (ref := "IntegerHouse$Reader") (ci := 8) (v := .int 0) (C := RX8) (T := TX8) (N := 15) hx hb hts hin8 hown hK hP 1 rfl rfl 4 (by decide) (va_Nw.use rfl (hN.1 ("IntegerHouse", 256, "IntegerHouse$Reader", "faultPlace", "I", "IntegerHouse") (List.mem_of_getElem? (i := 28) rfl))) (fun _ h9 => h9) e3 dX11_faulted_18 ?_
  refine lv_isub hx hb dX11_faulted_21 ?_
  refine k_topi (y := (-1000)) (by decide) ?_
  exact W.iret (v := (-1000)) hx hb hr (fun t ht hW => ⟨⟨(-1000), (), rfl, rfl, kB_mk ht hW hP hK hD⟩, hS.F ht⟩) hS.2.2 dX11_faulted_22
set_option maxHeartbeats 400000000 in
set_option maxRecDepth 100000 in
theorem c_X11_find_0 (l : Launch) (E : kE) (D : va_G) (cI cJ cB cZ : ClassId) (h0 : Nat) (f0 : List Value) (h1 : Nat) (f1 : List Value) (h2 : Nat) (h3 : Nat) (f2 : List Value) (h4 : Nat) (f3 : List Value) (h5 : Nat) (h6 : Nat) (h7 : Nat) (h8 : Nat) (f4 : List Value) (g0 : Nat → Int32) (g1 : Nat → Int32) (e0 : f0[1]? = some (.ref h1)) (e1 : f1[8]? = some (.int 0)) (e2 : f0[5]? = some (.ref h2)) (e3 : f0[0]? = some (.ref h3)) (e4 : f0[12]? = some (.int 0)) (e5 : f2[0]? = some (.ref h4)) (e6 : f3[6]? = some (.ref h5)) (e7 : f3[7]? = some (.int 0)) (e8 : f3[8]? = some (.int 0)) (e9 : f3[5]? = some (.int 0)) (e10 : f3[1]? = some (.ref h6)) (e11 : f3[2]? = some (.ref h7)) (e12 : f2[3]? = some (.int 0)) (e13 : f2[4]? = some (.int 0)) (e14 : f2[5]? = some (.int 0)) (e15 : f2[6]? = some (.int 0)) (e16 : f2[7]? = some (.int 0)) (e17 : f2[8]? = some (.int 0)) (e18 : f2[1]? = some (.ref h8)) (e19 : f4[11]? = some (.int 0)) (e20 : f0[13]? = some (.int 0)) : kI l E D (kT cI cJ cB cZ) yX11_find wsX11_find ({ frames := 4, cells := 0, slots := 0, locals := 96 }) [.ref h0] [(h0, .inr (11, f0)), (h1, .inr (1, f1)), (h2, .inr (8, f2)), (h4, .inr (3, f3)), (h8, .inr (2, f4)), (h6, .inl (cI, 2001, .inl g0)), (h7, .inl (cI, 2001, .inl g1))] ((-1000)) [(h0, .inr (11, ((f0.set 12 (.int 0)).set 13 (.int 2)))), (h1, .inr (1, f1)), (h2, .inr (8, (((((((((((f2.set 3 (.int 0)).set 4 (.int 0)).set 5 (.int 0)).set 6 (.int (-1))).set 6 (.int 0)).set 7 (.int 0)).set 8 (.int 0)).set 3 (.int 2)).set 4 (.int 0)).set 7 (.int 44)).set 7 (.int 44)))), (h4, .inr (3, ((((f3.set 6 (.ref h3)).set 7 (.int 0)).set 8 (.int 0)).set 5 (.int 0)))), (h8, .inr (2, f4)), (h6, .inl (cI, 2001, .inl (upd g0 0 0))), (h7, .inl (cI, 2001, .inl (upd g1 0 0)))] 0 0 := by
  intro sz
  refine Met.ofW (cc := cX11_find) (maxL := 2) (ret := (some .int)) (by decide) rfl ?_
  intro p e s m args below meth c s₁ B hml hv
  obtain ⟨rfl, hsz, hP, hK, hD0, hN, hX⟩ := hv
  have hx := B.exec
  have hb := B.bytes
  have hr := B.returns
  have hts := atoms_spec (ws := wsX11_find) B.pre
  have hown : s.vm.findClass RX11 = some m.cls := findClass_of_methodNamed B.named
  have hlocks := B.notSynchronized
  have hin11 : ∀ w ∈ wsX110, w ∈ wsX11_find := (fun w h => (List.mem_cons_of_mem _ (List.mem_append_left _ (List.mem_append_left _ (List.mem_append_left _ (List.mem_append_left _ (List.mem_append_right _ h)))))))
  have hin1 : ∀ w ∈ wsX10, w ∈ wsX11_find := (fun w h => (List.mem_cons_of_mem _ (List.mem_append_left _ (List.mem_append_left _ (List.mem_append_left _ (List.mem_append_right _ h))))))
  subst hsz
  have hD := hD0.self (sz := s.heap.size)
  have hAE := k_AE hD0 hX
  generalize hAe : va_A [(h0, .inr (11, f0)), (h1, .inr (1, f1)), (h2, .inr (8, f2)), (h4, .inr (3, f3)), (h8, .inr (2, f4)), (h6, .inl (cI, 2001, .inl g0)), (h7, .inl (cI, 2001, .inl g1))] s.heap.size = A at hD hAE ⊢
  have hA : ∀ q : Nat, s.heap.size ≤ q → A q := fun q h => by rw [← hAe]; exact Or.inr h
  have hS : va_S A s.heap s.heap [] := va_S.rf
  have hP : va_P D vwCl [(h0, .inr (11, f0)), (h1, .inr (1, f1)), (h2, .inr (8, f2)), (h4, .inr (3, f3)), (h8, .inr (2, f4)), (h6, .inl (cI, 2001, .inl g0)), (h7, .inl (cI, 2001, .inl g1))] s.heap := hP
  have hl := lv_entry ([.ref h0] : List Value) (n := 2) (Nat.le_of_ble_eq_true rfl)
  rw [lg_entry_eq]
  generalize (lg_sl ([.ref h0]) ++ List.replicate (2 - (lg_sl ([.ref h0])).length) Slot.unset).toArray = ls at hl ⊢
  have hl : lv_has ls 2 [(0, .ref h0)] := hl
  refine lv_aload_n hx hb dX11_find_0 rfl (lv_at hl 0 rfl) ?_
  refine va_get (D := D) (ref := "IntegerHouse") (ci := 11) (v := .ref h1) (C := RX11) (T := TX11) (N := 15) hx hb hts hin11 hown hK hP 0 rfl rfl 1 (by decide) (hts (.fieldLink RX11 16 "IntegerHouse" "disk" "LIntegerHouse$Disk;") (List.mem_cons_of_mem _ (List.mem_append_left _ (List.mem_append_left _ (List.mem_append_left _ (List.mem_append_left _ (List.mem_append_left _ (List.mem_append_left _ (List.mem_of_getElem? (i := 0) rfl))))))))) (fun _ h9 => h9) e0 dX11_find_1 ?_
  refine va_getN (host := "IntegerHouse") (D := D) (ref := "IntegerHouse$Disk") (ci := 1) (v := .int 0) (C := RX1) (T := TX1) (N := 9) hx hb hts hin1 hown hK hP 1 rfl rfl 8 (by decide) (va_Nw.use rfl (hN.1 ("IntegerHouse", 122, "IntegerHouse$Disk", "down", "Z", "IntegerHouse") (List.mem_of_getElem? (i := 3) rfl))) (fun _ h9 => h9) e1 dX11_find_4 ?_
  refine lv_if_eq (tgt := 13) hx hb dX11_find_7 (by decide) (fun _ => ?_) (fun c9 => absurd (by decide) c9)
  refine lv_aload_n hx hb dX11_find_13 rfl (lv_at hl 0 rfl) ?_
  refine va_get (D := D) (ref := "IntegerHouse") (ci := 11) (v := .ref h2) (C := RX11) (T := TX11) (N := 15) hx hb hts hin11 hown hK hP 0 rfl rfl 5 (by decide) (hts (.fieldLink RX11 48 "IntegerHouse" "reader" "LIntegerHouse$Reader;") (List.mem_cons_of_mem _ (List.mem_append_left _ (List.mem_append_left _ (List.mem_append_left _ (List.mem_append_left _ (List.mem_append_left _ (List.mem_append_left _ (List.mem_of_getElem? (i := 1) rfl))))))))) (fun _ h9 => h9) e2 dX11_find_14 ?_
  refine lv_aload_n hx hb dX11_find_17 rfl (lv_at hl 0 rfl) ?_
  refine va_get (D := D) (ref := "IntegerHouse") (ci := 11) (v := .ref h3) (C := RX11) (T := TX11) (N := 15) hx hb hts hin11 hown hK hP 0 rfl rfl 0 (by decide) (hts (.fieldLink RX11 9 "IntegerHouse" "tape" "[B") (List.mem_cons_of_mem _ (List.mem_append_left _ (List.mem_append_left _ (List.mem_append_left _ (List.mem_append_left _ (List.mem_append_left _ (List.mem_append_left _ (List.mem_of_getElem? (i := 2) rfl))))))))) (fun _ h9 => h9) e3 dX11_find_18 ?_
  refine lv_aload_n hx hb dX11_find_21 rfl (lv_at hl 0 rfl) ?_
  refine k_cVi (As := []) (rest := [.ref h3, .ref h2]) (wc := [(h0, .inr (11, f0))]) (wr := [(h1, .inr (1, f1)), (h2, .inr (8, f2)), (h4, .inr (3, f3)), (h8, .inr (2, f4)), (h6, .inl (cI, 2001, .inl g0)), (h7, .inl (cI, 2001, .inl g1))]) (w1 := [(h0, .inr (11, (f0.set 12 (.int 0))))]) ⟨hx, hb, hml, hown, hts⟩ hN hX hAE hK hP hD hS hA [0] [1, 2, 3, 4, 5, 6] (ci := 11) rfl rfl rfl rfl (by decide +kernel) (by decide +kernel) (by decide +kernel) (c_X11_useTape_0 l E D cI cJ cB cZ h0 f0 e4) (cwV 0 hts gX11_find_X11_useTape rfl rfl rfl (by decide +kernel) ⟨Nat.le_of_ble_eq_true rfl, Nat.le_of_ble_eq_true rfl⟩) rfl hl.1 (Nat.le_of_ble_eq_true rfl) dX11_find_22 ⟨Nat.le_of_ble_eq_true rfl, Nat.le_of_ble_eq_true rfl⟩ (fun H locs hP hD hS => ?_)
  have hP : va_P D vwCl [(h1, .inr (1, f1)), (h2, .inr (8, f2)), (h4, .inr (3, f3)), (h8, .inr (2, f4)), (h6, .inl (cI, 2001, .inl g0)), (h7, .inl (cI, 2001, .inl g1)), (h0, .inr (11, (f0.set 12 (.int 0))))] H := hP
  have hD : va_D A [(h1, .inr (1, f1)), (h2, .inr (8, f2)), (h4, .inr (3, f3)), (h8, .inr (2, f4)), (h6, .inl (cI, 2001, .inl g0)), (h7, .inl (cI, 2001, .inl g1)), (h0, .inr (11, (f0.set 12 (.int 0))))] := hD
  refine k_cVi (As := [.ref h3, .int 0]) (rest := []) (wc := [(h2, .inr (8, f2)), (h4, .inr (3, f3)), (h6, .inl (cI, 2001, .inl g0)), (h7, .inl (cI, 2001, .inl g1)), (h8, .inr (2, f4))]) (wr := [(h1, .inr (1, f1)), (h0, .inr (11, (f0.set 12 (.int 0))))]) (w1 := [(h2, .inr (8, (((((((((((f2.set 3 (.int 0)).set 4 (.int 0)).set 5 (.int 0)).set 6 (.int (-1))).set 6 (.int 0)).set 7 (.int 0)).set 8 (.int 0)).set 3 (.int 2)).set 4 (.int 0)).set 7 (.int 44)).set 7 (.int 44)))), (h4, .inr (3, ((((f3.set 6 (.ref h3)).set 7 (.int 0)).set 8 (.int 0)).set 5 (.int 0)))), (h6, .inl (cI, 2001, .inl (upd g0 0 0))), (h7, .inl (cI, 2001, .inl (upd g1 0 0))), (h8, .inr (2, f4))]) ⟨hx, hb, hml, hown, hts⟩ hN hX hAE hK hP hD hS hA [1, 2, 4, 5, 3] [0, 6] (ci := 8) rfl rfl rfl rfl (by decide +kernel) (by decide +kernel) (by decide +kernel) (c_X8_readName_0 l E D cI cJ cB cZ h2 h3 f2 h4 f3 h5 h6 h7 g0 g1 h8 f4 e5 e6 e7 e8 e9 e10 e11 e12 e13 e14 e15 e16 e17 e18 e19) (cwV 2 hts gX11_find_X8_readName rfl rfl rfl (by decide +kernel) ⟨Nat.le_of_ble_eq_true rfl, Nat.le_of_ble_eq_true rfl⟩) rfl hl.1 (Nat.le_of_ble_eq_true rfl) dX11_find_25 ⟨Nat.le_of_ble_eq_true rfl, Nat.le_of_ble_eq_true rfl⟩ (fun H locs hP hD hS => ?_)
  have hP : va_P D vwCl [(h1, .inr (1, f1)), (h0, .inr (11, (f0.set 12 (.int 0)))), (h2, .inr (8, (((((((((((f2.set 3 (.int 0)).set 4 (.int 0)).set 5 (.int 0)).set 6 (.int (-1))).set 6 (.int 0)).set 7 (.int 0)).set 8 (.int 0)).set 3 (.int 2)).set 4 (.int 0)).set 7 (.int 44)).set 7 (.int 44)))), (h4, .inr (3, ((((f3.set 6 (.ref h3)).set 7 (.int 0)).set 8 (.int 0)).set 5 (.int 0)))), (h6, .inl (cI, 2001, .inl (upd g0 0 0))), (h7, .inl (cI, 2001, .inl (upd g1 0 0))), (h8, .inr (2, f4))] H := hP
  have hD : va_D A [(h1, .inr (1, f1)), (h0, .inr (11, (f0.set 12 (.int 0)))), (h2, .inr (8, (((((((((((f2.set 3 (.int 0)).set 4 (.int 0)).set 5 (.int 0)).set 6 (.int (-1))).set 6 (.int 0)).set 7 (.int 0)).set 8 (.int 0)).set 3 (.int 2)).set 4 (.int 0)).set 7 (.int 44)).set 7 (.int 44)))), (h4, .inr (3, ((((f3.set 6 (.ref h3)).set 7 (.int 0)).set 8 (.int 0)).set 5 (.int 0)))), (h6, .inl (cI, 2001, .inl (upd g0 0 0))), (h7, .inl (cI, 2001, .inl (upd g1 0 0))), (h8, .inr (2, f4))] := hD
  refine lv_istore_n (lv' := [(1, .int (-1)), (0, .ref h0)]) hx hb dX11_find_28 rfl hl (by decide) rfl (fun ls hl => ?_)
  refine lv_iload_n hx hb dX11_find_29 rfl (lv_at hl 0 rfl) ?_
  refine lv_iconst (v := (-1)) hx hb dX11_find_30 (by decide) ?_
  refine lv_icmp_ne (tgt := 41) hx hb dX11_find_31 (by decide) (fun c9 => absurd (by decide) c9) (fun _ => ?_)
  refine lv_aload_n hx hb dX11_find_34 rfl (lv_at hl 1 rfl) ?_
  refine k_cVi (As := []) (rest := []) (wc := [(h0, .inr (11, (f0.set 12 (.int 0)))), (h2, .inr (8, (((((((((((f2.set 3 (.int 0)).set 4 (.int 0)).set 5 (.int 0)).set 6 (.int (-1))).set 6 (.int 0)).set 7 (.int 0)).set 8 (.int 0)).set 3 (.int 2)).set 4 (.int 0)).set 7 (.int 44)).set 7 (.int 44))))]) (wr := [(h1, .inr (1, f1)), (h4, .inr (3, ((((f3.set 6 (.ref h3)).set 7 (.int 0)).set 8 (.int 0)).set 5 (.int 0)))), (h6, .inl (cI, 2001, .inl (upd g0 0 0))), (h7, .inl (cI, 2001, .inl (upd g1 0 0))), (h8, .inr (2, f4))]) (w1 := [(h0, .inr (11, ((f0.set 12 (.int 0)).set 13 (.int 2)))), (h2, .inr (8, (((((((((((f2.set 3 (.int 0)).set 4 (.int 0)).set 5 (.int 0)).set 6 (.int (-1))).set 6 (.int 0)).set 7 (.int 0)).set 8 (.int 0)).set 3 (.int 2)).set 4 (.int 0)).set 7 (.int 44)).set 7 (.int 44))))]) ⟨hx, hb, hml, hown, hts⟩ hN hX hAE hK hP hD hS hA [1, 2] [0, 3, 4, 5, 6] (ci := 11) rfl rfl rfl rfl (by decide +kernel) (by decide +kernel) (by decide +kernel) (c_X11_faulted_0 l E D cI cJ cB cZ h0 ((f0.set 12 (.int 0))) h2 ((((((((((((f2.set 3 (.int 0)).set 4 (.int 0)).set 5 (.int 0)).set 6 (.int (-1))).set 6 (.int 0)).set 7 (.int 0)).set 8 (.int 0)).set 3 (.int 2)).set 4 (.int 0)).set 7 (.int 44)).set 7 (.int 44))) (k_ne (by decide) e2) (k_ne (by decide) (k_ne (by decide) (k_ne (by decide) (k_set (k_ne (by decide) (k_ne (by decide) (k_ne (by decide) (k_ne (by decide) (k_ne (by decide) (k_ne (by decide) (k_set e12))))))))))) (k_ne (by decide) e20) (k_ne (by decide) (k_ne (by decide) (k_set (k_ne (by decide) (k_ne (by decide) (k_ne (by decide) (k_ne (by decide) (k_ne (by decide) (k_ne (by decide) (k_set (k_ne (by decide) e13)))))))))))) (cwV 0 hts gX11_find_X11_faulted rfl rfl rfl (by decide +kernel) ⟨Nat.le_of_ble_eq_true rfl, Nat.le_of_ble_eq_true rfl⟩) rfl hl.1 (Nat.le_of_ble_eq_true rfl) dX11_find_35 ⟨Nat.le_of_ble_eq_true rfl, Nat.le_of_ble_eq_true rfl⟩ (fun H locs hP hD hS => ?_)
  have hP : va_P D vwCl [(h1, .inr (1, f1)), (h4, .inr (3, ((((f3.set 6 (.ref h3)).set 7 (.int 0)).set 8 (.int 0)).set 5 (.int 0)))), (h6, .inl (cI, 2001, .inl (upd g0 0 0))), (h7, .inl (cI, 2001, .inl (upd g1 0 0))), (h8, .inr (2, f4)), (h0, .inr (11, ((f0.set 12 (.int 0)).set 13 (.int 2)))), (h2, .inr (8, (((((((((((f2.set 3 (.int 0)).set 4 (.int 0)).set 5 (.int 0)).set 6 (.int (-1))).set 6 (.int 0)).set 7 (.int 0)).set 8 (.int 0)).set 3 (.int 2)).set 4 (.int 0)).set 7 (.int 44)).set 7 (.int 44))))] H := hP
  have hD : va_D A [(h1, .inr (1, f1)), (h4, .inr (3, ((((f3.set 6 (.ref h3)).set 7 (.int 0)).set 8 (.int 0)).set 5 (.int 0)))), (h6, .inl (cI, 2001, .inl (upd g0 0 0))), (h7, .inl (cI, 2001, .inl (upd g1 0 0))), (h8, .inr (2, f4)), (h0, .inr (11, ((f0.set 12 (.int 0)).set 13 (.int 2)))), (h2, .inr (8, (((((((((((f2.set 3 (.int 0)).set 4 (.int 0)).set 5 (.int 0)).set 6 (.int (-1))).set 6 (.int 0)).set 7 (.int 0)).set 8 (.int 0)).set 3 (.int 2)).set 4 (.int 0)).set 7 (.int 44)).set 7 (.int 44))))] := hD
  refine lv_goto (tgt := 42) hx hb dX11_find_38 (by decide) ?_
  have hP := hP.sub (ws' := [(h0, .inr (11, ((f0.set 12 (.int 0)).set 13 (.int 2)))), (h1, .inr (1, f1)), (h2, .inr (8, (((((((((((f2.set 3 (.int 0)).set 4 (.int 0)).set 5 (.int 0)).set 6 (.int (-1))).set 6 (.int 0)).set 7 (.int 0)).set 8 (.int 0)).set 3 (.int 2)).set 4 (.int 0)).set 7 (.int 44)).set 7 (.int 44)))), (h4, .inr (3, ((((f3.set 6 (.ref h3)).set 7 (.int 0)).set 8 (.int 0)).set 5 (.int 0)))), (h8, .inr (2, f4)), (h6, .inl (cI, 2001, .inl (upd g0 0 0))), (h7, .inl (cI, 2001, .inl (upd g1 0 0)))]) [5, 0, 6, 1, 4, 2, 3] rfl
  have hD := hD.sub (ws' := [(h0, .inr (11, ((f0.set 12 (.int 0)).set 13 (.int 2)))), (h1, .inr (1, f1)), (h2, .inr (8, (((((((((((f2.set 3 (.int 0)).set 4 (.int 0)).set 5 (.int 0)).set 6 (.int (-1))).set 6 (.int 0)).set 7 (.int 0)).set 8 (.int 0)).set 3 (.int 2)).set 4 (.int 0)).set 7 (.int 44)).set 7 (.int 44)))), (h4, .inr (3, ((((f3.set 6 (.ref h3)).set 7 (.int 0)).set 8 (.int 0)).set 5 (.int 0)))), (h8, .inr (2, f4)), (h6, .inl (cI, 2001, .inl (upd g0 0 0))), (h7, .inl (cI, 2001, .inl (upd g1 0 0)))]) [5, 0, 6, 1, 4, 2, 3] (by decide +kernel) rfl
  exact W.iret (v := (-1000)) hx hb hr (fun t ht hW => ⟨⟨(-1000), (), rfl, rfl, kB_mk ht hW hP hK hD⟩, hS.F ht⟩) hS.2.2 dX11_find_42
set_option maxHeartbeats 400000000 in
set_option maxRecDepth 100000 in
theorem c_X12_asks_0 (l : Launch) (E : kE) (D : va_G) (cI cJ cB cZ : ClassId) (h0 : Nat) (f0 : List Value) (e0 : f0[0]? = some (.int 0)) (e1 : f0[5]? = some (.int 0)) : kI l E D (kT cI cJ cB cZ) yX12_asks wsX12_asks ({ frames := 0, cells := 0, slots := 0, locals := 0 }) [.ref h0] [(h0, .inr (12, f0))] (1) [(h0, .inr (12, (f0.set 0 (.int 0))))] 0 0 := by
  intro sz
  refine Met.ofW (cc := cX12_asks) (maxL := 1) (ret := (some .boolean)) (by decide) rfl ?_
  intro p e s m args below meth c s₁ B hml hv
  obtain ⟨rfl, hsz, hP, hK, hD0, hN, hX⟩ := hv
  have hx := B.exec
  have hb := B.bytes
  have hr := B.returns
  have hts := atoms_spec (ws := wsX12_asks) B.pre
  have hown : s.vm.findClass RX12 = some m.cls := findClass_of_methodNamed B.named
  have hlocks := B.notSynchronized
  have hin12 : ∀ w ∈ wsX120, w ∈ wsX12_asks := (fun w h => (List.mem_cons_of_mem _ (List.mem_append_right _ h)))
  subst hsz
  have hD := hD0.self (sz := s.heap.size)
  have hAE := k_AE hD0 hX
  generalize hAe : va_A [(h0, .inr (12, f0))] s.heap.size = A at hD hAE ⊢
  have hA : ∀ q : Nat, s.heap.size ≤ q → A q := fun q h => by rw [← hAe]; exact Or.inr h
  have hS : va_S A s.heap s.heap [] := va_S.rf
  have hP : va_P D vwCl [(h0, .inr (12, f0))] s.heap := hP
  have hl := lv_entry ([.ref h0] : List Value) (n := 1) (Nat.le_of_ble_eq_true rfl)
  rw [lg_entry_eq]
  generalize (lg_sl ([.ref h0]) ++ List.replicate (1 - (lg_sl ([.ref h0])).length) Slot.unset).toArray = ls at hl ⊢
  have hl : lv_has ls 1 [(0, .ref h0)] := hl
  refine lv_aload_n hx hb dX12_asks_0 rfl (lv_at hl 0 rfl) ?_
  refine lv_iconst (v := 0) hx hb dX12_asks_1 (by decide) ?_
  refine va_put (D := D) (ref := "IntegerHouseModel") (ci := 12) (v := .int 0) (ty := .int) (C := RX12) (T := TX12) (N := 195) hx hb hts hin12 tyX12 tyX12_ok nmX12 hown hK hP hD hS 0 rfl rfl 0 (by decide) (hts (.fieldLink RX12 3 "IntegerHouseModel" "thrown" "I") (List.mem_cons_of_mem _ (List.mem_append_left _ (List.mem_of_getElem? (i := 0) rfl)))) (fun _ h9 => h9) rfl (by decide +kernel) rfl rfl (k_len e0) dX12_asks_2 (fun H locs hP hD hS => ?_)
  have hP : va_P D vwCl [(h0, .inr (12, (f0.set 0 (.int 0))))] H := hP
  have hD : va_D A [(h0, .inr (12, (f0.set 0 (.int 0))))] := hD
  refine lv_aload_n hx hb dX12_asks_5 rfl (lv_at hl 0 rfl) ?_
  refine va_get (D := D) (ref := "IntegerHouseModel") (ci := 12) (v := .int 0) (C := RX12) (T := TX12) (N := 195) hx hb hts hin12 hown hK hP 0 rfl rfl 5 (by decide) (hts (.fieldLink RX12 488 "IntegerHouseModel" "down" "Z") (List.mem_cons_of_mem _ (List.mem_append_left _ (List.mem_of_getElem? (i := 1) rfl)))) (fun _ h9 => h9) (k_ne (by decide) e1) dX12_asks_6 ?_
  refine lv_if_ne (tgt := 16) hx hb dX12_asks_9 (by decide) (fun c9 => absurd (by decide) c9) (fun _ => ?_)
  refine lv_iconst (v := 1) hx hb dX12_asks_12 (by decide) ?_
  refine lv_goto (tgt := 17) hx hb dX12_asks_13 (by decide) ?_
  exact W.zret (v := 1) hx hb hr rfl (fun t ht hW => ⟨⟨1, (), rfl, rfl, kB_mk ht hW hP hK hD⟩, hS.F ht⟩) hS.2.2 dX12_asks_17
set_option maxHeartbeats 400000000 in
set_option maxRecDepth 100000 in
theorem c_X12_begin_0 (l : Launch) (E : kE) (D : va_G) (cI cJ cB cZ : ClassId) (h0 : Nat) (f0 : List Value) (h1 : Nat) (h2 : Nat) (h3 : Nat) (h4 : Nat) (g0 : Nat → Int32) (g1 : Nat → Int32) (g2 : Nat → Int32) (g3 : Nat → Int32) (e0 : f0[2]? = some (.int 0)) (e1 : f0[12]? = some (.int 0)) (e2 : f0[32]? = some (.int 0)) (e3 : f0[36]? = some (.int 0)) (e4 : f0[33]? = some (.int 0)) (e5 : f0[37]? = some (.int 0)) (e6 : f0[27]? = some (.int 0)) (e7 : f0[31]? = some (.int 0)) (e8 : f0[28]? = some (.int 0)) (e9 : f0[23]? = some (.ref h1)) (e10 : f0[24]? = some (.ref h2)) (e11 : f0[25]? = some (.ref h3)) (e12 : f0[26]? = some (.ref h4)) : kV l E D (kT cI cJ cB cZ) yX12_begin wsX12_begin ({ frames := 2, cells := 0, slots := 0, locals := 48 }) [.ref h0] [(h0, .inr (12, f0)), (h1, .inl (cI, 2001, .inl g0)), (h2, .inl (cI, 2001, .inl g1)), (h3, .inl (cI, 2001, .inl g2)), (h4, .inl (cI, 2001, .inl g3))] (fun _ : Unit => [(h0, .inr (12, (((((((f0.set 12 (.int 0)).set 2 (.int 0)).set 36 (.int 0)).set 37 (.int 0)).set 27 (.int 0)).set 31 (.int 0)).set 28 (.int 0)))), (h1, .inl (cI, 2001, .inl (upd g0 0 0))), (h2, .inl (cI, 2001, .inl (upd g1 0 0))), (h3, .inl (cI, 2001, .inl (upd g2 0 0))), (h4, .inl (cI, 2001, .inl (upd g3 0 0)))]) 0 0 := by
  intro sz
  refine Met.ofW (cc := cX12_begin) (maxL := 1) (ret := none) (by decide) rfl ?_
  intro p e s m args below meth c s₁ B hml hv
  obtain ⟨rfl, hsz, hP, hK, hD0, hN, hX⟩ := hv
  have hx := B.exec
  have hb := B.bytes
  have hr := B.returns
  have hts := atoms_spec (ws := wsX12_begin) B.pre
  have hown : s.vm.findClass RX12 = some m.cls := findClass_of_methodNamed B.named
  have hlocks := B.notSynchronized
  have hin12 : ∀ w ∈ wsX120, w ∈ wsX12_begin := (fun w h => (List.mem_cons_of_mem _ (List.mem_append_right _ h)))
  subst hsz
  have hD := hD0.self (sz := s.heap.size)
  have hAE := k_AE hD0 hX
  generalize hAe : va_A [(h0, .inr (12, f0)), (h1, .inl (cI, 2001, .inl g0)), (h2, .inl (cI, 2001, .inl g1)), (h3, .inl (cI, 2001, .inl g2)), (h4, .inl (cI, 2001, .inl g3))] s.heap.size = A at hD hAE ⊢
  have hA : ∀ q : Nat, s.heap.size ≤ q → A q := fun q h => by rw [← hAe]; exact Or.inr h
  have hS : va_S A s.heap s.heap [] := va_S.rf
  have hP : va_P D vwCl [(h0, .inr (12, f0)), (h1, .inl (cI, 2001, .inl g0)), (h2, .inl (cI, 2001, .inl g1)), (h3, .inl (cI, 2001, .inl g2)), (h4, .inl (cI, 2001, .inl g3))] s.heap := hP
  have hl := lv_entry ([.ref h0] : List Value) (n := 1) (Nat.le_of_ble_eq_true rfl)
  rw [lg_entry_eq]
  generalize (lg_sl ([.ref h0]) ++ List.replicate (1 - (lg_sl ([.ref h0])).length) Slot.unset).toArray = ls at hl ⊢
  have hl : lv_has ls 1 [(0, .ref h0)] := hl
  refine lv_aload_n hx hb dX12_begin_0 rfl (lv_at hl 0 rfl) ?_
  refine k_cVv (As := []) (rest := []) (wc := [(h0, .inr (12, f0))]) (wr := [(h1, .inl (cI, 2001, .inl g0)), (h2, .inl (cI, 2001, .inl g1)), (h3, .inl (cI, 2001, .inl g2)), (h4, .inl (cI, 2001, .inl g3))]) (w1 := (fun _ : Unit => [(h0, .inr (12, ((f0.set 12 (.int 0)).set 2 (.int 0))))])) ⟨hx, hb, hml, hown, hts⟩ hN hX hAE hK hP hD hS hA [0] [1, 2, 3, 4] (ci := 12) rfl rfl rfl rfl (by decide +kernel) (by decide +kernel) (by decide +kernel) (c_X12_takeTape_0 l E D cI cJ cB cZ h0 f0 e0 e1) (cwV 0 hts gX12_begin_X12_takeTape rfl rfl rfl (by decide +kernel) ⟨Nat.le_of_ble_eq_true rfl, Nat.le_of_ble_eq_true rfl⟩) rfl hl.1 (Nat.le_of_ble_eq_true rfl) dX12_begin_1 ⟨Nat.le_of_ble_eq_true rfl, Nat.le_of_ble_eq_true rfl⟩ (fun _ H locs hP hD hS => ?_)
  have hP : va_P D vwCl [(h1, .inl (cI, 2001, .inl g0)), (h2, .inl (cI, 2001, .inl g1)), (h3, .inl (cI, 2001, .inl g2)), (h4, .inl (cI, 2001, .inl g3)), (h0, .inr (12, ((f0.set 12 (.int 0)).set 2 (.int 0))))] H := hP
  have hD : va_D A [(h1, .inl (cI, 2001, .inl g0)), (h2, .inl (cI, 2001, .inl g1)), (h3, .inl (cI, 2001, .inl g2)), (h4, .inl (cI, 2001, .inl g3)), (h0, .inr (12, ((f0.set 12 (.int 0)).set 2 (.int 0))))] := hD
  refine lv_aload_n hx hb dX12_begin_4 rfl (lv_at hl 0 rfl) ?_
  refine lv_aload_n hx hb dX12_begin_5 rfl (lv_at hl 0 rfl) ?_
  refine va_get (D := D) (ref := "IntegerHouseModel") (ci := 12) (v := .int 0) (C := RX12) (T := TX12) (N := 195) hx hb hts hin12 hown hK hP 4 rfl rfl 32 (by decide) (hts (.fieldLink RX12 815 "IntegerHouseModel" "variables" "I") (List.mem_cons_of_mem _ (List.mem_append_left _ (List.mem_append_left _ (List.mem_of_getElem? (i := 0) rfl))))) (fun _ h9 => h9) (k_ne (by decide) (k_ne (by decide) e2)) dX12_begin_6 ?_
  refine va_put (D := D) (ref := "IntegerHouseModel") (ci := 12) (v := .int 0) (ty := .int) (C := RX12) (T := TX12) (N := 195) hx hb hts hin12 tyX12 tyX12_ok nmX12 hown hK hP hD hS 4 rfl rfl 36 (by decide) (hts (.fieldLink RX12 620 "IntegerHouseModel" "knownVariables" "I") (List.mem_cons_of_mem _ (List.mem_append_left _ (List.mem_append_left _ (List.mem_of_getElem? (i := 1) rfl))))) (fun _ h9 => h9) rfl (by decide +kernel) rfl rfl (k_len (k_ne (by decide) (k_ne (by decide) e3))) dX12_begin_9 (fun H locs hP hD hS => ?_)
  have hP : va_P D vwCl [(h1, .inl (cI, 2001, .inl g0)), (h2, .inl (cI, 2001, .inl g1)), (h3, .inl (cI, 2001, .inl g2)), (h4, .inl (cI, 2001, .inl g3)), (h0, .inr (12, (((f0.set 12 (.int 0)).set 2 (.int 0)).set 36 (.int 0))))] H := hP
  have hD : va_D A [(h1, .inl (cI, 2001, .inl g0)), (h2, .inl (cI, 2001, .inl g1)), (h3, .inl (cI, 2001, .inl g2)), (h4, .inl (cI, 2001, .inl g3)), (h0, .inr (12, (((f0.set 12 (.int 0)).set 2 (.int 0)).set 36 (.int 0))))] := hD
  refine lv_aload_n hx hb dX12_begin_12 rfl (lv_at hl 0 rfl) ?_
  refine lv_aload_n hx hb dX12_begin_13 rfl (lv_at hl 0 rfl) ?_
  refine va_get (D := D) (ref := "IntegerHouseModel") (ci := 12) (v := .int 0) (C := RX12) (T := TX12) (N := 195) hx hb hts hin12 hown hK hP 4 rfl rfl 33 (by decide) (hts (.fieldLink RX12 818 "IntegerHouseModel" "claims" "I") (List.mem_cons_of_mem _ (List.mem_append_left _ (List.mem_append_left _ (List.mem_of_getElem? (i := 2) rfl))))) (fun _ h9 => h9) (k_ne (by decide) (k_ne (by decide) (k_ne (by decide) e4))) dX12_begin_14 ?_
  refine va_put (D := D) (ref := "IntegerHouseModel") (ci := 12) (v := .int 0) (ty := .int) (C := RX12) (T := TX12) (N := 195) hx hb hts hin12 tyX12 tyX12_ok nmX12 hown hK hP hD hS 4 rfl rfl 37 (by decide) (hts (.fieldLink RX12 627 "IntegerHouseModel" "knownClaims" "I") (List.mem_cons_of_mem _ (List.mem_append_left _ (List.mem_append_left _ (List.mem_of_getElem? (i := 3) rfl))))) (fun _ h9 => h9) rfl (by decide +kernel) rfl rfl (k_len (k_ne (by decide) (k_ne (by decide) (k_ne (by decide) e5)))) dX12_begin_17 (fun H locs hP hD hS => ?_)
  have hP : va_P D vwCl [(h1, .inl (cI, 2001, .inl g0)), (h2, .inl (cI, 2001, .inl g1)), (h3, .inl (cI, 2001, .inl g2)), (h4, .inl (cI, 2001, .inl g3)), (h0, .inr (12, ((((f0.set 12 (.int 0)).set 2 (.int 0)).set 36 (.int 0)).set 37 (.int 0))))] H := hP
  have hD : va_D A [(h1, .inl (cI, 2001, .inl g0)), (h2, .inl (cI, 2001, .inl g1)), (h3, .inl (cI, 2001, .inl g2)), (h4, .inl (cI, 2001, .inl g3)), (h0, .inr (12, ((((f0.set 12 (.int 0)).set 2 (.int 0)).set 36 (.int 0)).set 37 (.int 0))))] := hD
  refine lv_aload_n hx hb dX12_begin_20 rfl (lv_at hl 0 rfl) ?_
  refine k_cVv (As := []) (rest := []) (wc := [(h0, .inr (12, ((((f0.set 12 (.int 0)).set 2 (.int 0)).set 36 (.int 0)).set 37 (.int 0)))), (h1, .inl (cI, 2001, .inl g0)), (h2, .inl (cI, 2001, .inl g1)), (h3, .inl (cI, 2001, .inl g2)), (h4, .inl (cI, 2001, .inl g3))]) (wr := []) (w1 := (fun _ : Unit => [(h0, .inr (12, (((((((f0.set 12 (.int 0)).set 2 (.int 0)).set 36 (.int 0)).set 37 (.int 0)).set 27 (.int 0)).set 31 (.int 0)).set 28 (.int 0)))), (h1, .inl (cI, 2001, .inl (upd g0 0 0))), (h2, .inl (cI, 2001, .inl (upd g1 0 0))), (h3, .inl (cI, 2001, .inl (upd g2 0 0))), (h4, .inl (cI, 2001, .inl (upd g3 0 0)))])) ⟨hx, hb, hml, hown, hts⟩ hN hX hAE hK hP hD hS hA [4, 0, 1, 2, 3] [] (ci := 12) rfl rfl rfl rfl (by decide +kernel) (by decide +kernel) (by decide +kernel) (c_X12_scan_0 l E D cI cJ cB cZ h0 (((((f0.set 12 (.int 0)).set 2 (.int 0)).set 36 (.int 0)).set 37 (.int 0))) h1 g0 h2 g1 h3 g2 h4 g3 (k_ne (by decide) (k_ne (by decide) (k_ne (by decide) (k_ne (by decide) e6)))) (k_ne (by decide) (k_ne (by decide) (k_ne (by decide) (k_ne (by decide) e7)))) (k_ne (by decide) (k_ne (by decide) (k_ne (by decide) (k_ne (by decide) e8)))) (k_ne (by decide) (k_ne (by decide) (k_ne (by decide) (k_set e1)))) (k_ne (by decide) (k_ne (by decide) (k_ne (by decide) (k_ne (by decide) e9)))) (k_ne (by decide) (k_ne (by decide) (k_ne (by decide) (k_ne (by decide) e10)))) (k_ne (by decide) (k_ne (by decide) (k_ne (by decide) (k_ne (by decide) e11)))) (k_ne (by decide) (k_ne (by decide) (k_ne (by decide) (k_ne (by decide) e12))))) (cwV 0 hts gX12_begin_X12_scan rfl rfl rfl (by decide +kernel) ⟨Nat.le_of_ble_eq_true rfl, Nat.le_of_ble_eq_true rfl⟩) rfl hl.1 (Nat.le_of_ble_eq_true rfl) dX12_begin_21 ⟨Nat.le_of_ble_eq_true rfl, Nat.le_of_ble_eq_true rfl⟩ (fun _ H locs hP hD hS => ?_)
  have hP : va_P D vwCl [(h0, .inr (12, (((((((f0.set 12 (.int 0)).set 2 (.int 0)).set 36 (.int 0)).set 37 (.int 0)).set 27 (.int 0)).set 31 (.int 0)).set 28 (.int 0)))), (h1, .inl (cI, 2001, .inl (upd g0 0 0))), (h2, .inl (cI, 2001, .inl (upd g1 0 0))), (h3, .inl (cI, 2001, .inl (upd g2 0 0))), (h4, .inl (cI, 2001, .inl (upd g3 0 0)))] H := hP
  have hD : va_D A [(h0, .inr (12, (((((((f0.set 12 (.int 0)).set 2 (.int 0)).set 36 (.int 0)).set 37 (.int 0)).set 27 (.int 0)).set 31 (.int 0)).set 28 (.int 0)))), (h1, .inl (cI, 2001, .inl (upd g0 0 0))), (h2, .inl (cI, 2001, .inl (upd g1 0 0))), (h3, .inl (cI, 2001, .inl (upd g2 0 0))), (h4, .inl (cI, 2001, .inl (upd g3 0 0)))] := hD
  exact W.vret hx hb hr (fun t ht hW => ⟨⟨(), rfl, trivial, kB_mk ht hW hP hK hD⟩, hS.F ht⟩) hS.2.2 dX12_begin_24
set_option maxHeartbeats 400000000 in
set_option maxRecDepth 100000 in
theorem c_X12_fail_0 (l : Launch) (E : kE) (D : va_G) (cI cJ cB cZ : ClassId) (h0 : Nat) (f0 : List Value) (h1 : Nat) (g0 : Nat → Int32) (e0 : f0[31]? = some (.int 0)) (e1 : f0[29]? = some (.int 0)) (e2 : f0[23]? = some (.ref h1)) (e3 : g0 0 = 0) (e4 : f0[30]? = some (.int 0)) : kV l E D (kT cI cJ cB cZ) yX12_fail wsX12_fail ({ frames := 0, cells := 0, slots := 0, locals := 0 }) [.ref h0, .int 2, .int 0] [(h0, .inr (12, f0)), (h1, .inl (cI, 2001, .inl g0))] (fun _ : Unit => [(h0, .inr (12, (((f0.set 31 (.int 1)).set 29 (.int 2)).set 30 (.int 0)))), (h1, .inl (cI, 2001, .inl g0))]) 0 0 := by
  intro sz
  refine Met.ofW (cc := cX12_fail) (maxL := 3) (ret := none) (by decide) rfl ?_
  intro p e s m args below meth c s₁ B hml hv
  obtain ⟨rfl, hsz, hP, hK, hD0, hN, hX⟩ := hv
  have hx := B.exec
  have hb := B.bytes
  have hr := B.returns
  have hts := atoms_spec (ws := wsX12_fail) B.pre
  have hown : s.vm.findClass RX12 = some m.cls := findClass_of_methodNamed B.named
  have hlocks := B.notSynchronized
  have hin12 : ∀ w ∈ wsX120, w ∈ wsX12_fail := (fun w h => (List.mem_cons_of_mem _ (List.mem_append_right _ h)))
  subst hsz
  have hD := hD0.self (sz := s.heap.size)
  have hAE := k_AE hD0 hX
  generalize hAe : va_A [(h0, .inr (12, f0)), (h1, .inl (cI, 2001, .inl g0))] s.heap.size = A at hD hAE ⊢
  have hA : ∀ q : Nat, s.heap.size ≤ q → A q := fun q h => by rw [← hAe]; exact Or.inr h
  have hS : va_S A s.heap s.heap [] := va_S.rf
  have hP : va_P D vwCl [(h0, .inr (12, f0)), (h1, .inl (cI, 2001, .inl g0))] s.heap := hP
  have hl := lv_entry ([.ref h0, .int 2, .int 0] : List Value) (n := 3) (Nat.le_of_ble_eq_true rfl)
  rw [lg_entry_eq]
  generalize (lg_sl ([.ref h0, .int 2, .int 0]) ++ List.replicate (3 - (lg_sl ([.ref h0, .int 2, .int 0])).length) Slot.unset).toArray = ls at hl ⊢
  have hl : lv_has ls 3 [(0, .ref h0), (1, .int 2), (2, .int 0)] := hl
  refine lv_aload_n hx hb dX12_fail_0 rfl (lv_at hl 0 rfl) ?_
  refine va_get (D := D) (ref := "IntegerHouseModel") (ci := 12) (v := .int 0) (C := RX12) (T := TX12) (N := 195) hx hb hts hin12 hown hK hP 0 rfl rfl 31 (by decide) (hts (.fieldLink RX12 562 "IntegerHouseModel" "faulty" "Z") (List.mem_cons_of_mem _ (List.mem_append_left _ (List.mem_of_getElem? (i := 0) rfl)))) (fun _ h9 => h9) e0 dX12_fail_1 ?_
  refine lv_if_ne (tgt := 27) hx hb dX12_fail_4 (by decide) (fun c9 => absurd (by decide) c9) (fun _ => ?_)
  refine lv_aload_n hx hb dX12_fail_7 rfl (lv_at hl 0 rfl) ?_
  refine lv_iconst (v := 1) hx hb dX12_fail_8 (by decide) ?_
  refine va_put (D := D) (ref := "IntegerHouseModel") (ci := 12) (v := .int 1) (ty := .boolean) (C := RX12) (T := TX12) (N := 195) hx hb hts hin12 tyX12 tyX12_ok nmX12 hown hK hP hD hS 0 rfl rfl 31 (by decide) (hts (.fieldLink RX12 562 "IntegerHouseModel" "faulty" "Z") (List.mem_cons_of_mem _ (List.mem_append_left _ (List.mem_of_getElem? (i := 0) rfl)))) (fun _ h9 => h9) rfl (by decide +kernel) rfl rfl (k_len e0) dX12_fail_9 (fun H locs hP hD hS => ?_)
  have hP : va_P D vwCl [(h0, .inr (12, (f0.set 31 (.int 1)))), (h1, .inl (cI, 2001, .inl g0))] H := hP
  have hD : va_D A [(h0, .inr (12, (f0.set 31 (.int 1)))), (h1, .inl (cI, 2001, .inl g0))] := hD
  refine lv_aload_n hx hb dX12_fail_12 rfl (lv_at hl 0 rfl) ?_
  refine lv_iload_n hx hb dX12_fail_13 rfl (lv_at hl 1 rfl) ?_
  refine va_put (D := D) (ref := "IntegerHouseModel") (ci := 12) (v := .int 2) (ty := .int) (C := RX12) (T := TX12) (N := 195) hx hb hts hin12 tyX12 tyX12_ok nmX12 hown hK hP hD hS 0 rfl rfl 29 (by decide) (hts (.fieldLink RX12 565 "IntegerHouseModel" "faultKind" "I") (List.mem_cons_of_mem _ (List.mem_append_left _ (List.mem_of_getElem? (i := 1) rfl)))) (fun _ h9 => h9) rfl (by decide +kernel) rfl rfl (k_len (k_ne (by decide) e1)) dX12_fail_14 (fun H locs hP hD hS => ?_)
  have hP : va_P D vwCl [(h0, .inr (12, ((f0.set 31 (.int 1)).set 29 (.int 2)))), (h1, .inl (cI, 2001, .inl g0))] H := hP
  have hD : va_D A [(h0, .inr (12, ((f0.set 31 (.int 1)).set 29 (.int 2)))), (h1, .inl (cI, 2001, .inl g0))] := hD
  refine lv_aload_n hx hb dX12_fail_17 rfl (lv_at hl 0 rfl) ?_
  refine lv_aload_n hx hb dX12_fail_18 rfl (lv_at hl 0 rfl) ?_
  refine va_get (D := D) (ref := "IntegerHouseModel") (ci := 12) (v := .ref h1) (C := RX12) (T := TX12) (N := 195) hx hb hts hin12 hown hK hP 0 rfl rfl 23 (by decide) (hts (.fieldLink RX12 81 "IntegerHouseModel" "tokenAt" "[I") (List.mem_cons_of_mem _ (List.mem_append_left _ (List.mem_of_getElem? (i := 2) rfl)))) (fun _ h9 => h9) (k_ne (by decide) (k_ne (by decide) e2)) dX12_fail_19 ?_
  refine lv_iload_n hx hb dX12_fail_22 rfl (lv_at hl 2 rfl) ?_
  refine va_iald hx hb hK hP 1 0 rfl rfl (k_in (by decide)) dX12_fail_23 ?_
  refine k_topi (y := 0) e3 ?_
  refine va_put (D := D) (ref := "IntegerHouseModel") (ci := 12) (v := .int 0) (ty := .int) (C := RX12) (T := TX12) (N := 195) hx hb hts hin12 tyX12 tyX12_ok nmX12 hown hK hP hD hS 0 rfl rfl 30 (by decide) (hts (.fieldLink RX12 568 "IntegerHouseModel" "faultPlace" "I") (List.mem_cons_of_mem _ (List.mem_append_left _ (List.mem_of_getElem? (i := 3) rfl)))) (fun _ h9 => h9) rfl (by decide +kernel) rfl rfl (k_len (k_ne (by decide) (k_ne (by decide) e4))) dX12_fail_24 (fun H locs hP hD hS => ?_)
  have hP : va_P D vwCl [(h0, .inr (12, (((f0.set 31 (.int 1)).set 29 (.int 2)).set 30 (.int 0)))), (h1, .inl (cI, 2001, .inl g0))] H := hP
  have hD : va_D A [(h0, .inr (12, (((f0.set 31 (.int 1)).set 29 (.int 2)).set 30 (.int 0)))), (h1, .inl (cI, 2001, .inl g0))] := hD
  exact W.vret hx hb hr (fun t ht hW => ⟨⟨(), rfl, trivial, kB_mk ht hW hP hK hD⟩, hS.F ht⟩) hS.2.2 dX12_fail_27
set_option maxHeartbeats 400000000 in
set_option maxRecDepth 100000 in
theorem c_X12_cannot_0 (l : Launch) (E : kE) (D : va_G) (cI cJ cB cZ : ClassId) (h0 : Nat) (f0 : List Value) (h1 : Nat) (g0 : Nat → Int32) (h2 : Nat) (g1 : Nat → Int32) (e0 : f0[25]? = some (.ref h1)) (e1 : f0[28]? = some (.int 0)) (e2 : g0 0 = 0) (e3 : f0[31]? = some (.int 0)) (e4 : f0[29]? = some (.int 0)) (e5 : f0[23]? = some (.ref h2)) (e6 : g1 0 = 0) (e7 : f0[30]? = some (.int 0)) : kV l E D (kT cI cJ cB cZ) yX12_cannot wsX12_cannot ({ frames := 1, cells := 0, slots := 0, locals := 22 }) [.ref h0] [(h0, .inr (12, f0)), (h1, .inl (cI, 2001, .inl g0)), (h2, .inl (cI, 2001, .inl g1))] (fun _ : Unit => [(h0, .inr (12, (((f0.set 31 (.int 1)).set 29 (.int 2)).set 30 (.int 0)))), (h1, .inl (cI, 2001, .inl g0)), (h2, .inl (cI, 2001, .inl g1))]) 0 0 := by
  intro sz
  refine Met.ofW (cc := cX12_cannot) (maxL := 1) (ret := none) (by decide) rfl ?_
  intro p e s m args below meth c s₁ B hml hv
  obtain ⟨rfl, hsz, hP, hK, hD0, hN, hX⟩ := hv
  have hx := B.exec
  have hb := B.bytes
  have hr := B.returns
  have hts := atoms_spec (ws := wsX12_cannot) B.pre
  have hown : s.vm.findClass RX12 = some m.cls := findClass_of_methodNamed B.named
  have hlocks := B.notSynchronized
  have hin12 : ∀ w ∈ wsX120, w ∈ wsX12_cannot := (fun w h => (List.mem_cons_of_mem _ (List.mem_append_right _ h)))
  subst hsz
  have hD := hD0.self (sz := s.heap.size)
  have hAE := k_AE hD0 hX
  generalize hAe : va_A [(h0, .inr (12, f0)), (h1, .inl (cI, 2001, .inl g0)), (h2, .inl (cI, 2001, .inl g1))] s.heap.size = A at hD hAE ⊢
  have hA : ∀ q : Nat, s.heap.size ≤ q → A q := fun q h => by rw [← hAe]; exact Or.inr h
  have hS : va_S A s.heap s.heap [] := va_S.rf
  have hP : va_P D vwCl [(h0, .inr (12, f0)), (h1, .inl (cI, 2001, .inl g0)), (h2, .inl (cI, 2001, .inl g1))] s.heap := hP
  have hl := lv_entry ([.ref h0] : List Value) (n := 1) (Nat.le_of_ble_eq_true rfl)
  rw [lg_entry_eq]
  generalize (lg_sl ([.ref h0]) ++ List.replicate (1 - (lg_sl ([.ref h0])).length) Slot.unset).toArray = ls at hl ⊢
  have hl : lv_has ls 1 [(0, .ref h0)] := hl
  refine lv_aload_n hx hb dX12_cannot_0 rfl (lv_at hl 0 rfl) ?_
  refine lv_aload_n hx hb dX12_cannot_1 rfl (lv_at hl 0 rfl) ?_
  refine va_get (D := D) (ref := "IntegerHouseModel") (ci := 12) (v := .ref h1) (C := RX12) (T := TX12) (N := 195) hx hb hts hin12 hown hK hP 0 rfl rfl 25 (by decide) (hts (.fieldLink RX12 87 "IntegerHouseModel" "tokenKind" "[I") (List.mem_cons_of_mem _ (List.mem_append_left _ (List.mem_of_getElem? (i := 0) rfl)))) (fun _ h9 => h9) e0 dX12_cannot_2 ?_
  refine lv_aload_n hx hb dX12_cannot_5 rfl (lv_at hl 0 rfl) ?_
  refine va_get (D := D) (ref := "IntegerHouseModel") (ci := 12) (v := .int 0) (C := RX12) (T := TX12) (N := 195) hx hb hts hin12 hown hK hP 0 rfl rfl 28 (by decide) (hts (.fieldLink RX12 597 "IntegerHouseModel" "now" "I") (List.mem_cons_of_mem _ (List.mem_append_left _ (List.mem_of_getElem? (i := 1) rfl)))) (fun _ h9 => h9) e1 dX12_cannot_6 ?_
  refine va_iald hx hb hK hP 1 0 rfl rfl (k_in (by decide)) dX12_cannot_9 ?_
  refine k_topi (y := 0) e2 ?_
  refine lv_iconst (v := 1) hx hb dX12_cannot_10 (by decide) ?_
  refine lv_icmp_ne (tgt := 18) hx hb dX12_cannot_11 (by decide) (fun _ => ?_) (fun c9 => absurd c9 (by decide))
  refine lv_iconst (v := 2) hx hb dX12_cannot_18 (by decide) ?_
  refine lv_aload_n hx hb dX12_cannot_19 rfl (lv_at hl 0 rfl) ?_
  refine va_get (D := D) (ref := "IntegerHouseModel") (ci := 12) (v := .int 0) (C := RX12) (T := TX12) (N := 195) hx hb hts hin12 hown hK hP 0 rfl rfl 28 (by decide) (hts (.fieldLink RX12 597 "IntegerHouseModel" "now" "I") (List.mem_cons_of_mem _ (List.mem_append_left _ (List.mem_of_getElem? (i := 1) rfl)))) (fun _ h9 => h9) e1 dX12_cannot_20 ?_
  refine k_cVv (As := [.int 2, .int 0]) (rest := []) (wc := [(h0, .inr (12, f0)), (h2, .inl (cI, 2001, .inl g1))]) (wr := [(h1, .inl (cI, 2001, .inl g0))]) (w1 := (fun _ : Unit => [(h0, .inr (12, (((f0.set 31 (.int 1)).set 29 (.int 2)).set 30 (.int 0)))), (h2, .inl (cI, 2001, .inl g1))])) ⟨hx, hb, hml, hown, hts⟩ hN hX hAE hK hP hD hS hA [0, 2] [1] (ci := 12) rfl rfl rfl rfl (by decide +kernel) (by decide +kernel) (by decide +kernel) (c_X12_fail_0 l E D cI cJ cB cZ h0 f0 h2 g1 e3 e4 e5 e6 e7) (cwV 2 hts gX12_cannot_X12_fail rfl rfl rfl (by decide +kernel) ⟨Nat.le_of_ble_eq_true rfl, Nat.le_of_ble_eq_true rfl⟩) rfl hl.1 (Nat.le_of_ble_eq_true rfl) dX12_cannot_23 ⟨Nat.le_of_ble_eq_true rfl, Nat.le_of_ble_eq_true rfl⟩ (fun _ H locs hP hD hS => ?_)
  have hP : va_P D vwCl [(h1, .inl (cI, 2001, .inl g0)), (h0, .inr (12, (((f0.set 31 (.int 1)).set 29 (.int 2)).set 30 (.int 0)))), (h2, .inl (cI, 2001, .inl g1))] H := hP
  have hD : va_D A [(h1, .inl (cI, 2001, .inl g0)), (h0, .inr (12, (((f0.set 31 (.int 1)).set 29 (.int 2)).set 30 (.int 0)))), (h2, .inl (cI, 2001, .inl g1))] := hD
  have hP := hP.sub (ws' := [(h0, .inr (12, (((f0.set 31 (.int 1)).set 29 (.int 2)).set 30 (.int 0)))), (h1, .inl (cI, 2001, .inl g0)), (h2, .inl (cI, 2001, .inl g1))]) [1, 0, 2] rfl
  have hD := hD.sub (ws' := [(h0, .inr (12, (((f0.set 31 (.int 1)).set 29 (.int 2)).set 30 (.int 0)))), (h1, .inl (cI, 2001, .inl g0)), (h2, .inl (cI, 2001, .inl g1))]) [1, 0, 2] (by decide +kernel) rfl
  exact W.vret hx hb hr (fun t ht hW => ⟨⟨(), rfl, trivial, kB_mk ht hW hP hK hD⟩, hS.F ht⟩) hS.2.2 dX12_cannot_26
set_option maxHeartbeats 400000000 in
set_option maxRecDepth 100000 in
theorem c_X12_told_0 (l : Launch) (E : kE) (D : va_G) (cI cJ cB cZ : ClassId) (h0 : Nat) (f0 : List Value) (e0 : f0[13]? = some (.int 0)) (e1 : f0[29]? = some (.int 2)) (e2 : f0[109]? = some (.int 0)) (e3 : f0[30]? = some (.int 0)) : kI l E D (kT cI cJ cB cZ) yX12_told wsX12_told ({ frames := 0, cells := 0, slots := 0, locals := 0 }) [.ref h0] [(h0, .inr (12, f0))] ((-1000)) [(h0, .inr (12, (f0.set 109 (.int 2))))] 0 0 := by
  intro sz
  refine Met.ofW (cc := cX12_told) (maxL := 1) (ret := (some .int)) (by decide) rfl ?_
  intro p e s m args below meth c s₁ B hml hv
  obtain ⟨rfl, hsz, hP, hK, hD0, hN, hX⟩ := hv
  have hx := B.exec
  have hb := B.bytes
  have hr := B.returns
  have hts := atoms_spec (ws := wsX12_told) B.pre
  have hown : s.vm.findClass RX12 = some m.cls := findClass_of_methodNamed B.named
  have hlocks := B.notSynchronized
  have hin12 : ∀ w ∈ wsX120, w ∈ wsX12_told := (fun w h => (List.mem_cons_of_mem _ (List.mem_append_right _ h)))
  subst hsz
  have hD := hD0.self (sz := s.heap.size)
  have hAE := k_AE hD0 hX
  generalize hAe : va_A [(h0, .inr (12, f0))] s.heap.size = A at hD hAE ⊢
  have hA : ∀ q : Nat, s.heap.size ≤ q → A q := fun q h => by rw [← hAe]; exact Or.inr h
  have hS : va_S A s.heap s.heap [] := va_S.rf
  have hP : va_P D vwCl [(h0, .inr (12, f0))] s.heap := hP
  have hl := lv_entry ([.ref h0] : List Value) (n := 1) (Nat.le_of_ble_eq_true rfl)
  rw [lg_entry_eq]
  generalize (lg_sl ([.ref h0]) ++ List.replicate (1 - (lg_sl ([.ref h0])).length) Slot.unset).toArray = ls at hl ⊢
  have hl : lv_has ls 1 [(0, .ref h0)] := hl
  refine lv_aload_n hx hb dX12_told_0 rfl (lv_at hl 0 rfl) ?_
  refine lv_aload_n hx hb dX12_told_1 rfl (lv_at hl 0 rfl) ?_
  refine va_get (D := D) (ref := "IntegerHouseModel") (ci := 12) (v := .int 0) (C := RX12) (T := TX12) (N := 195) hx hb hts hin12 hown hK hP 0 rfl rfl 13 (by decide) (hts (.fieldLink RX12 472 "IntegerHouseModel" "replay" "Z") (List.mem_cons_of_mem _ (List.mem_append_left _ (List.mem_of_getElem? (i := 0) rfl)))) (fun _ h9 => h9) e0 dX12_told_2 ?_
  refine lv_if_eq (tgt := 15) hx hb dX12_told_5 (by decide) (fun _ => ?_) (fun c9 => absurd (by decide) c9)
  refine lv_aload_n hx hb dX12_told_15 rfl (lv_at hl 0 rfl) ?_
  refine va_get (D := D) (ref := "IntegerHouseModel") (ci := 12) (v := .int 2) (C := RX12) (T := TX12) (N := 195) hx hb hts hin12 hown hK hP 0 rfl rfl 29 (by decide) (hts (.fieldLink RX12 565 "IntegerHouseModel" "faultKind" "I") (List.mem_cons_of_mem _ (List.mem_append_left _ (List.mem_of_getElem? (i := 2) rfl)))) (fun _ h9 => h9) e1 dX12_told_16 ?_
  refine va_put (D := D) (ref := "IntegerHouseModel") (ci := 12) (v := .int 2) (ty := .int) (C := RX12) (T := TX12) (N := 195) hx hb hts hin12 tyX12 tyX12_ok nmX12 hown hK hP hD hS 0 rfl rfl 109 (by decide) (hts (.fieldLink RX12 836 "IntegerHouseModel" "latestFault" "I") (List.mem_cons_of_mem _ (List.mem_append_left _ (List.mem_of_getElem? (i := 1) rfl)))) (fun _ h9 => h9) rfl (by decide +kernel) rfl rfl (k_len e2) dX12_told_19 (fun H locs hP hD hS => ?_)
  have hP : va_P D vwCl [(h0, .inr (12, (f0.set 109 (.int 2))))] H := hP
  have hD : va_D A [(h0, .inr (12, (f0.set 109 (.int 2))))] := hD
  refine lv_sipush (v := (-1000)) hx hb dX12_told_22 (by decide) ?_
  refine lv_aload_n hx hb dX12_told_25 rfl (lv_at hl 0 rfl) ?_
  refine va_get (D := D) (ref := "IntegerHouseModel") (ci := 12) (v := .int 0) (C := RX12) (T := TX12) (N := 195) hx hb hts hin12 hown hK hP 0 rfl rfl 30 (by decide) (hts (.fieldLink RX12 568 "IntegerHouseModel" "faultPlace" "I") (List.mem_cons_of_mem _ (List.mem_append_left _ (List.mem_of_getElem? (i := 3) rfl)))) (fun _ h9 => h9) (k_ne (by decide) e3) dX12_told_26 ?_
  refine lv_isub hx hb dX12_told_29 ?_
  refine k_topi (y := (-1000)) (by decide) ?_
  exact W.iret (v := (-1000)) hx hb hr (fun t ht hW => ⟨⟨(-1000), (), rfl, rfl, kB_mk ht hW hP hK hD⟩, hS.F ht⟩) hS.2.2 dX12_told_30
set_option maxHeartbeats 400000000 in
set_option maxRecDepth 100000 in
theorem c_X12_find_0 (l : Launch) (E : kE) (D : va_G) (cI cJ cB cZ : ClassId) (h0 : Nat) (f0 : List Value) (h1 : Nat) (h2 : Nat) (h3 : Nat) (h4 : Nat) (g0 : Nat → Int32) (g1 : Nat → Int32) (g2 : Nat → Int32) (g3 : Nat → Int32) (e0 : f0[0]? = some (.int 0)) (e1 : f0[5]? = some (.int 0)) (e2 : f0[2]? = some (.int 0)) (e3 : f0[12]? = some (.int 0)) (e4 : f0[32]? = some (.int 0)) (e5 : f0[36]? = some (.int 0)) (e6 : f0[33]? = some (.int 0)) (e7 : f0[37]? = some (.int 0)) (e8 : f0[27]? = some (.int 0)) (e9 : f0[31]? = some (.int 0)) (e10 : f0[28]? = some (.int 0)) (e11 : f0[23]? = some (.ref h1)) (e12 : f0[24]? = some (.ref h2)) (e13 : f0[25]? = some (.ref h3)) (e14 : f0[26]? = some (.ref h4)) (e15 : f0[29]? = some (.int 0)) (e16 : f0[30]? = some (.int 0)) (e17 : f0[13]? = some (.int 0)) (e18 : f0[109]? = some (.int 0)) : kI l E D (kT cI cJ cB cZ) yX12_find wsX12_find ({ frames := 3, cells := 0, slots := 0, locals := 68 }) [.ref h0] [(h0, .inr (12, f0)), (h1, .inl (cI, 2001, .inl g0)), (h2, .inl (cI, 2001, .inl g1)), (h3, .inl (cI, 2001, .inl g2)), (h4, .inl (cI, 2001, .inl g3))] ((-1000)) [(h0, .inr (12, ((((((((((((f0.set 0 (.int 0)).set 12 (.int 0)).set 2 (.int 0)).set 36 (.int 0)).set 37 (.int 0)).set 27 (.int 0)).set 31 (.int 0)).set 28 (.int 0)).set 31 (.int 1)).set 29 (.int 2)).set 30 (.int 0)).set 109 (.int 2)))), (h1, .inl (cI, 2001, .inl (upd g0 0 0))), (h2, .inl (cI, 2001, .inl (upd g1 0 0))), (h3, .inl (cI, 2001, .inl (upd g2 0 0))), (h4, .inl (cI, 2001, .inl (upd g3 0 0)))] 0 0 := by
  intro sz
  refine Met.ofW (cc := cX12_find) (maxL := 2) (ret := (some .int)) (by decide) rfl ?_
  intro p e s m args below meth c s₁ B hml hv
  obtain ⟨rfl, hsz, hP, hK, hD0, hN, hX⟩ := hv
  have hx := B.exec
  have hb := B.bytes
  have hr := B.returns
  have hts := atoms_spec (ws := wsX12_find) B.pre
  have hown : s.vm.findClass RX12 = some m.cls := findClass_of_methodNamed B.named
  have hlocks := B.notSynchronized
  have hin12 : ∀ w ∈ wsX120, w ∈ wsX12_find := (fun w h => (List.mem_cons_of_mem _ (List.mem_append_right _ h)))
  subst hsz
  have hD := hD0.self (sz := s.heap.size)
  have hAE := k_AE hD0 hX
  generalize hAe : va_A [(h0, .inr (12, f0)), (h1, .inl (cI, 2001, .inl g0)), (h2, .inl (cI, 2001, .inl g1)), (h3, .inl (cI, 2001, .inl g2)), (h4, .inl (cI, 2001, .inl g3))] s.heap.size = A at hD hAE ⊢
  have hA : ∀ q : Nat, s.heap.size ≤ q → A q := fun q h => by rw [← hAe]; exact Or.inr h
  have hS : va_S A s.heap s.heap [] := va_S.rf
  have hP : va_P D vwCl [(h0, .inr (12, f0)), (h1, .inl (cI, 2001, .inl g0)), (h2, .inl (cI, 2001, .inl g1)), (h3, .inl (cI, 2001, .inl g2)), (h4, .inl (cI, 2001, .inl g3))] s.heap := hP
  have hl := lv_entry ([.ref h0] : List Value) (n := 2) (Nat.le_of_ble_eq_true rfl)
  rw [lg_entry_eq]
  generalize (lg_sl ([.ref h0]) ++ List.replicate (2 - (lg_sl ([.ref h0])).length) Slot.unset).toArray = ls at hl ⊢
  have hl : lv_has ls 2 [(0, .ref h0)] := hl
  refine lv_aload_n hx hb dX12_find_0 rfl (lv_at hl 0 rfl) ?_
  refine k_cVi (As := []) (rest := []) (wc := [(h0, .inr (12, f0))]) (wr := [(h1, .inl (cI, 2001, .inl g0)), (h2, .inl (cI, 2001, .inl g1)), (h3, .inl (cI, 2001, .inl g2)), (h4, .inl (cI, 2001, .inl g3))]) (w1 := [(h0, .inr (12, (f0.set 0 (.int 0))))]) ⟨hx, hb, hml, hown, hts⟩ hN hX hAE hK hP hD hS hA [0] [1, 2, 3, 4] (ci := 12) rfl rfl rfl rfl (by decide +kernel) (by decide +kernel) (by decide +kernel) (c_X12_asks_0 l E D cI cJ cB cZ h0 f0 e0 e1) (cwV 0 hts gX12_find_X12_asks rfl rfl rfl (by decide +kernel) ⟨Nat.le_of_ble_eq_true rfl, Nat.le_of_ble_eq_true rfl⟩) rfl hl.1 (Nat.le_of_ble_eq_true rfl) dX12_find_1 ⟨Nat.le_of_ble_eq_true rfl, Nat.le_of_ble_eq_true rfl⟩ (fun H locs hP hD hS => ?_)
  have hP : va_P D vwCl [(h1, .inl (cI, 2001, .inl g0)), (h2, .inl (cI, 2001, .inl g1)), (h3, .inl (cI, 2001, .inl g2)), (h4, .inl (cI, 2001, .inl g3)), (h0, .inr (12, (f0.set 0 (.int 0))))] H := hP
  have hD : va_D A [(h1, .inl (cI, 2001, .inl g0)), (h2, .inl (cI, 2001, .inl g1)), (h3, .inl (cI, 2001, .inl g2)), (h4, .inl (cI, 2001, .inl g3)), (h0, .inr (12, (f0.set 0 (.int 0))))] := hD
  refine lv_if_ne (tgt := 10) hx hb dX12_find_4 (by decide) (fun _ => ?_) (fun c9 => absurd c9 (by decide))
  refine lv_aload_n hx hb dX12_find_10 rfl (lv_at hl 0 rfl) ?_
  refine k_cVv (As := []) (rest := []) (wc := [(h0, .inr (12, (f0.set 0 (.int 0)))), (h1, .inl (cI, 2001, .inl g0)), (h2, .inl (cI, 2001, .inl g1)), (h3, .inl (cI, 2001, .inl g2)), (h4, .inl (cI, 2001, .inl g3))]) (wr := []) (w1 := (fun _ : Unit => [(h0, .inr (12, ((((((((f0.set 0 (.int 0)).set 12 (.int 0)).set 2 (.int 0)).set 36 (.int 0)).set 37 (.int 0)).set 27 (.int 0)).set 31 (.int 0)).set 28 (.int 0)))), (h1, .inl (cI, 2001, .inl (upd g0 0 0))), (h2, .inl (cI, 2001, .inl (upd g1 0 0))), (h3, .inl (cI, 2001, .inl (upd g2 0 0))), (h4, .inl (cI, 2001, .inl (upd g3 0 0)))])) ⟨hx, hb, hml, hown, hts⟩ hN hX hAE hK hP hD hS hA [4, 0, 1, 2, 3] [] (ci := 12) rfl rfl rfl rfl (by decide +kernel) (by decide +kernel) (by decide +kernel) (c_X12_begin_0 l E D cI cJ cB cZ h0 ((f0.set 0 (.int 0))) h1 h2 h3 h4 g0 g1 g2 g3 (k_ne (by decide) e2) (k_ne (by decide) e3) (k_ne (by decide) e4) (k_ne (by decide) e5) (k_ne (by decide) e6) (k_ne (by decide) e7) (k_ne (by decide) e8) (k_ne (by decide) e9) (k_ne (by decide) e10) (k_ne (by decide) e11) (k_ne (by decide) e12) (k_ne (by decide) e13) (k_ne (by decide) e14)) (cwV 0 hts gX12_find_X12_begin rfl rfl rfl (by decide +kernel) ⟨Nat.le_of_ble_eq_true rfl, Nat.le_of_ble_eq_true rfl⟩) rfl hl.1 (Nat.le_of_ble_eq_true rfl) dX12_find_11 ⟨Nat.le_of_ble_eq_true rfl, Nat.le_of_ble_eq_true rfl⟩ (fun _ H locs hP hD hS => ?_)
  have hP : va_P D vwCl [(h0, .inr (12, ((((((((f0.set 0 (.int 0)).set 12 (.int 0)).set 2 (.int 0)).set 36 (.int 0)).set 37 (.int 0)).set 27 (.int 0)).set 31 (.int 0)).set 28 (.int 0)))), (h1, .inl (cI, 2001, .inl (upd g0 0 0))), (h2, .inl (cI, 2001, .inl (upd g1 0 0))), (h3, .inl (cI, 2001, .inl (upd g2 0 0))), (h4, .inl (cI, 2001, .inl (upd g3 0 0)))] H := hP
  have hD : va_D A [(h0, .inr (12, ((((((((f0.set 0 (.int 0)).set 12 (.int 0)).set 2 (.int 0)).set 36 (.int 0)).set 37 (.int 0)).set 27 (.int 0)).set 31 (.int 0)).set 28 (.int 0)))), (h1, .inl (cI, 2001, .inl (upd g0 0 0))), (h2, .inl (cI, 2001, .inl (upd g1 0 0))), (h3, .inl (cI, 2001, .inl (upd g2 0 0))), (h4, .inl (cI, 2001, .inl (upd g3 0 0)))] := hD
  refine lv_iconst (v := (-1)) hx hb dX12_find_14 (by decide) ?_
  refine lv_istore_n (lv' := [(1, .int (-1)), (0, .ref h0)]) hx hb dX12_find_15 rfl hl (by decide) rfl (fun ls hl => ?_)
  refine lv_aload_n hx hb dX12_find_16 rfl (lv_at hl 1 rfl) ?_
  refine va_get (D := D) (ref := "IntegerHouseModel") (ci := 12) (v := .ref h3) (C := RX12) (T := TX12) (N := 195) hx hb hts hin12 hown hK hP 0 rfl rfl 25 (by decide) (hts (.fieldLink RX12 87 "IntegerHouseModel" "tokenKind" "[I") (List.mem_cons_of_mem _ (List.mem_append_left _ (List.mem_append_left _ (List.mem_of_getElem? (i := 0) rfl))))) (fun _ h9 => h9) (k_ne (by decide) (k_ne (by decide) (k_ne (by decide) (k_ne (by decide) (k_ne (by decide) (k_ne (by decide) (k_ne (by decide) (k_ne (by decide) e13)))))))) dX12_find_17 ?_
  refine lv_aload_n hx hb dX12_find_20 rfl (lv_at hl 1 rfl) ?_
  refine va_get (D := D) (ref := "IntegerHouseModel") (ci := 12) (v := .int 0) (C := RX12) (T := TX12) (N := 195) hx hb hts hin12 hown hK hP 0 rfl rfl 28 (by decide) (hts (.fieldLink RX12 597 "IntegerHouseModel" "now" "I") (List.mem_cons_of_mem _ (List.mem_append_left _ (List.mem_append_left _ (List.mem_of_getElem? (i := 1) rfl))))) (fun _ h9 => h9) (k_set (k_ne (by decide) (k_ne (by decide) (k_ne (by decide) (k_ne (by decide) (k_ne (by decide) (k_ne (by decide) (k_ne (by decide) e10)))))))) dX12_find_21 ?_
  refine va_iald hx hb hK hP 3 0 rfl rfl (k_in (by decide)) dX12_find_24 ?_
  refine k_topi (y := 0) rfl ?_
  refine lv_iconst (v := 3) hx hb dX12_find_25 (by decide) ?_
  refine lv_icmp_ne (tgt := 41) hx hb dX12_find_26 (by decide) (fun _ => ?_) (fun c9 => absurd c9 (by decide))
  refine lv_aload_n hx hb dX12_find_41 rfl (lv_at hl 1 rfl) ?_
  refine k_cVv (As := []) (rest := []) (wc := [(h0, .inr (12, ((((((((f0.set 0 (.int 0)).set 12 (.int 0)).set 2 (.int 0)).set 36 (.int 0)).set 37 (.int 0)).set 27 (.int 0)).set 31 (.int 0)).set 28 (.int 0)))), (h3, .inl (cI, 2001, .inl (upd g2 0 0))), (h1, .inl (cI, 2001, .inl (upd g0 0 0)))]) (wr := [(h2, .inl (cI, 2001, .inl (upd g1 0 0))), (h4, .inl (cI, 2001, .inl (upd g3 0 0)))]) (w1 := (fun _ : Unit => [(h0, .inr (12, (((((((((((f0.set 0 (.int 0)).set 12 (.int 0)).set 2 (.int 0)).set 36 (.int 0)).set 37 (.int 0)).set 27 (.int 0)).set 31 (.int 0)).set 28 (.int 0)).set 31 (.int 1)).set 29 (.int 2)).set 30 (.int 0)))), (h3, .inl (cI, 2001, .inl (upd g2 0 0))), (h1, .inl (cI, 2001, .inl (upd g0 0 0)))])) ⟨hx, hb, hml, hown, hts⟩ hN hX hAE hK hP hD hS hA [0, 3, 1] [2, 4] (ci := 12) rfl rfl rfl rfl (by decide +kernel) (by decide +kernel) (by decide +kernel) (c_X12_cannot_0 l E D cI cJ cB cZ h0 (((((((((f0.set 0 (.int 0)).set 12 (.int 0)).set 2 (.int 0)).set 36 (.int 0)).set 37 (.int 0)).set 27 (.int 0)).set 31 (.int 0)).set 28 (.int 0))) h3 ((upd g2 0 0)) h1 ((upd g0 0 0)) (k_ne (by decide) (k_ne (by decide) (k_ne (by decide) (k_ne (by decide) (k_ne (by decide) (k_ne (by decide) (k_ne (by decide) (k_ne (by decide) e13)))))))) (k_set (k_ne (by decide) (k_ne (by decide) (k_ne (by decide) (k_ne (by decide) (k_ne (by decide) (k_ne (by decide) (k_ne (by decide) e10)))))))) rfl (k_ne (by decide) (k_set (k_ne (by decide) (k_ne (by decide) (k_ne (by decide) (k_ne (by decide) (k_ne (by decide) (k_ne (by decide) e9)))))))) (k_ne (by decide) (k_ne (by decide) (k_ne (by decide) (k_ne (by decide) (k_ne (by decide) (k_ne (by decide) (k_ne (by decide) (k_ne (by decide) e15)))))))) (k_ne (by decide) (k_ne (by decide) (k_ne (by decide) (k_ne (by decide) (k_ne (by decide) (k_ne (by decide) (k_ne (by decide) (k_ne (by decide) e11)))))))) rfl (k_ne (by decide) (k_ne (by decide) (k_ne (by decide) (k_ne (by decide) (k_ne (by decide) (k_ne (by decide) (k_ne (by decide) (k_ne (by decide) e16))))))))) (cwV 0 hts gX12_find_X12_cannot rfl rfl rfl (by decide +kernel) ⟨Nat.le_of_ble_eq_true rfl, Nat.le_of_ble_eq_true rfl⟩) rfl hl.1 (Nat.le_of_ble_eq_true rfl) dX12_find_42 ⟨Nat.le_of_ble_eq_true rfl, Nat.le_of_ble_eq_true rfl⟩ (fun _ H locs hP hD hS => ?_)
  have hP : va_P D vwCl [(h2, .inl (cI, 2001, .inl (upd g1 0 0))), (h4, .inl (cI, 2001, .inl (upd g3 0 0))), (h0, .inr (12, (((((((((((f0.set 0 (.int 0)).set 12 (.int 0)).set 2 (.int 0)).set 36 (.int 0)).set 37 (.int 0)).set 27 (.int 0)).set 31 (.int 0)).set 28 (.int 0)).set 31 (.int 1)).set 29 (.int 2)).set 30 (.int 0)))), (h3, .inl (cI, 2001, .inl (upd g2 0 0))), (h1, .inl (cI, 2001, .inl (upd g0 0 0)))] H := hP
  have hD : va_D A [(h2, .inl (cI, 2001, .inl (upd g1 0 0))), (h4, .inl (cI, 2001, .inl (upd g3 0 0))), (h0, .inr (12, (((((((((((f0.set 0 (.int 0)).set 12 (.int 0)).set 2 (.int 0)).set 36 (.int 0)).set 37 (.int 0)).set 27 (.int 0)).set 31 (.int 0)).set 28 (.int 0)).set 31 (.int 1)).set 29 (.int 2)).set 30 (.int 0)))), (h3, .inl (cI, 2001, .inl (upd g2 0 0))), (h1, .inl (cI, 2001, .inl (upd g0 0 0)))] := hD
  refine lv_goto (tgt := 81) hx hb dX12_find_45 (by decide) ?_
  refine lv_aload_n hx hb dX12_find_81 rfl (lv_at hl 1 rfl) ?_
  refine va_get (D := D) (ref := "IntegerHouseModel") (ci := 12) (v := .int 1) (C := RX12) (T := TX12) (N := 195) hx hb hts hin12 hown hK hP 2 rfl rfl 31 (by decide) (hts (.fieldLink RX12 562 "IntegerHouseModel" "faulty" "Z") (List.mem_cons_of_mem _ (List.mem_append_left _ (List.mem_append_left _ (List.mem_of_getElem? (i := 2) rfl))))) (fun _ h9 => h9) (k_ne (by decide) (k_ne (by decide) (k_set (k_ne (by decide) (k_set (k_ne (by decide) (k_ne (by decide) (k_ne (by decide) (k_ne (by decide) (k_ne (by decide) (k_ne (by decide) e9))))))))))) dX12_find_82 ?_
  refine lv_if_ne (tgt := 104) hx hb dX12_find_85 (by decide) (fun _ => ?_) (fun c9 => absurd c9 (by decide))
  refine lv_aload_n hx hb dX12_find_104 rfl (lv_at hl 1 rfl) ?_
  refine va_get (D := D) (ref := "IntegerHouseModel") (ci := 12) (v := .int 1) (C := RX12) (T := TX12) (N := 195) hx hb hts hin12 hown hK hP 2 rfl rfl 31 (by decide) (hts (.fieldLink RX12 562 "IntegerHouseModel" "faulty" "Z") (List.mem_cons_of_mem _ (List.mem_append_left _ (List.mem_append_left _ (List.mem_of_getElem? (i := 2) rfl))))) (fun _ h9 => h9) (k_ne (by decide) (k_ne (by decide) (k_set (k_ne (by decide) (k_set (k_ne (by decide) (k_ne (by decide) (k_ne (by decide) (k_ne (by decide) (k_ne (by decide) (k_ne (by decide) e9))))))))))) dX12_find_105 ?_
  refine lv_if_eq (tgt := 118) hx hb dX12_find_108 (by decide) (fun c9 => absurd c9 (by decide)) (fun _ => ?_)
  refine lv_aload_n hx hb dX12_find_111 rfl (lv_at hl 1 rfl) ?_
  refine k_cVi (As := []) (rest := []) (wc := [(h0, .inr (12, (((((((((((f0.set 0 (.int 0)).set 12 (.int 0)).set 2 (.int 0)).set 36 (.int 0)).set 37 (.int 0)).set 27 (.int 0)).set 31 (.int 0)).set 28 (.int 0)).set 31 (.int 1)).set 29 (.int 2)).set 30 (.int 0))))]) (wr := [(h2, .inl (cI, 2001, .inl (upd g1 0 0))), (h4, .inl (cI, 2001, .inl (upd g3 0 0))), (h3, .inl (cI, 2001, .inl (upd g2 0 0))), (h1, .inl (cI, 2001, .inl (upd g0 0 0)))]) (w1 := [(h0, .inr (12, ((((((((((((f0.set 0 (.int 0)).set 12 (.int 0)).set 2 (.int 0)).set 36 (.int 0)).set 37 (.int 0)).set 27 (.int 0)).set 31 (.int 0)).set 28 (.int 0)).set 31 (.int 1)).set 29 (.int 2)).set 30 (.int 0)).set 109 (.int 2))))]) ⟨hx, hb, hml, hown, hts⟩ hN hX hAE hK hP hD hS hA [2] [0, 1, 3, 4] (ci := 12) rfl rfl rfl rfl (by decide +kernel) (by decide +kernel) (by decide +kernel) (c_X12_told_0 l E D cI cJ cB cZ h0 ((((((((((((f0.set 0 (.int 0)).set 12 (.int 0)).set 2 (.int 0)).set 36 (.int 0)).set 37 (.int 0)).set 27 (.int 0)).set 31 (.int 0)).set 28 (.int 0)).set 31 (.int 1)).set 29 (.int 2)).set 30 (.int 0))) (k_ne (by decide) (k_ne (by decide) (k_ne (by decide) (k_ne (by decide) (k_ne (by decide) (k_ne (by decide) (k_ne (by decide) (k_ne (by decide) (k_ne (by decide) (k_ne (by decide) (k_ne (by decide) e17))))))))))) (k_ne (by decide) (k_set (k_ne (by decide) (k_ne (by decide) (k_ne (by decide) (k_ne (by decide) (k_ne (by decide) (k_ne (by decide) (k_ne (by decide) (k_ne (by decide) (k_ne (by decide) e15))))))))))) (k_ne (by decide) (k_ne (by decide) (k_ne (by decide) (k_ne (by decide) (k_ne (by decide) (k_ne (by decide) (k_ne (by decide) (k_ne (by decide) (k_ne (by decide) (k_ne (by decide) (k_ne (by decide) e18))))))))))) (k_set (k_ne (by decide) (k_ne (by decide) (k_ne (by decide) (k_ne (by decide) (k_ne (by decide) (k_ne (by decide) (k_ne (by decide) (k_ne (by decide) (k_ne (by decide) (k_ne (by decide) e16)))))))))))) (cwV 0 hts gX12_find_X12_told rfl rfl rfl (by decide +kernel) ⟨Nat.le_of_ble_eq_true rfl, Nat.le_of_ble_eq_true rfl⟩) rfl hl.1 (Nat.le_of_ble_eq_true rfl) dX12_find_112 ⟨Nat.le_of_ble_eq_true rfl, Nat.le_of_ble_eq_true rfl⟩ (fun H locs hP hD hS => ?_)
  have hP : va_P D vwCl [(h2, .inl (cI, 2001, .inl (upd g1 0 0))), (h4, .inl (cI, 2001, .inl (upd g3 0 0))), (h3, .inl (cI, 2001, .inl (upd g2 0 0))), (h1, .inl (cI, 2001, .inl (upd g0 0 0))), (h0, .inr (12, ((((((((((((f0.set 0 (.int 0)).set 12 (.int 0)).set 2 (.int 0)).set 36 (.int 0)).set 37 (.int 0)).set 27 (.int 0)).set 31 (.int 0)).set 28 (.int 0)).set 31 (.int 1)).set 29 (.int 2)).set 30 (.int 0)).set 109 (.int 2))))] H := hP
  have hD : va_D A [(h2, .inl (cI, 2001, .inl (upd g1 0 0))), (h4, .inl (cI, 2001, .inl (upd g3 0 0))), (h3, .inl (cI, 2001, .inl (upd g2 0 0))), (h1, .inl (cI, 2001, .inl (upd g0 0 0))), (h0, .inr (12, ((((((((((((f0.set 0 (.int 0)).set 12 (.int 0)).set 2 (.int 0)).set 36 (.int 0)).set 37 (.int 0)).set 27 (.int 0)).set 31 (.int 0)).set 28 (.int 0)).set 31 (.int 1)).set 29 (.int 2)).set 30 (.int 0)).set 109 (.int 2))))] := hD
  refine lv_goto (tgt := 119) hx hb dX12_find_115 (by decide) ?_
  have hP := hP.sub (ws' := [(h0, .inr (12, ((((((((((((f0.set 0 (.int 0)).set 12 (.int 0)).set 2 (.int 0)).set 36 (.int 0)).set 37 (.int 0)).set 27 (.int 0)).set 31 (.int 0)).set 28 (.int 0)).set 31 (.int 1)).set 29 (.int 2)).set 30 (.int 0)).set 109 (.int 2)))), (h1, .inl (cI, 2001, .inl (upd g0 0 0))), (h2, .inl (cI, 2001, .inl (upd g1 0 0))), (h3, .inl (cI, 2001, .inl (upd g2 0 0))), (h4, .inl (cI, 2001, .inl (upd g3 0 0)))]) [4, 3, 0, 2, 1] rfl
  have hD := hD.sub (ws' := [(h0, .inr (12, ((((((((((((f0.set 0 (.int 0)).set 12 (.int 0)).set 2 (.int 0)).set 36 (.int 0)).set 37 (.int 0)).set 27 (.int 0)).set 31 (.int 0)).set 28 (.int 0)).set 31 (.int 1)).set 29 (.int 2)).set 30 (.int 0)).set 109 (.int 2)))), (h1, .inl (cI, 2001, .inl (upd g0 0 0))), (h2, .inl (cI, 2001, .inl (upd g1 0 0))), (h3, .inl (cI, 2001, .inl (upd g2 0 0))), (h4, .inl (cI, 2001, .inl (upd g3 0 0)))]) [4, 3, 0, 2, 1] (by decide +kernel) rfl
  exact W.iret (v := (-1000)) hx hb hr (fun t ht hW => ⟨⟨(-1000), (), rfl, rfl, kB_mk ht hW hP hK hD⟩, hS.F ht⟩) hS.2.2 dX12_find_119
set_option maxHeartbeats 400000000 in
set_option maxRecDepth 100000 in
theorem c_X11_about_0 (l : Launch) (E : kE) (D : va_G) (cI cJ cB cZ : ClassId) (h0 : Nat) (x0 : Int32) (x1 : Int32) (f0 : List Value) (h1 : Nat) (f1 : List Value) (h2 : Nat) (f2 : List Value) (e0 : f0[1]? = some (.ref h1)) (e1 : f1[8]? = some (.int 0)) (e2 : f0[2]? = some (.ref h2)) (e3 : ¬ ((x0 : Int32) < 0)) (e4 : f2[11]? = some (.int 0)) : kI l E D (kT cI cJ cB cZ) yX11_about wsX11_about ({ frames := 1, cells := 0, slots := 0, locals := 21 }) [.ref h0, .int x0, .int x1] [(h0, .inr (11, f0)), (h1, .inr (1, f1)), (h2, .inr (2, f2))] ((-101)) [(h0, .inr (11, f0)), (h1, .inr (1, f1)), (h2, .inr (2, f2))] 0 0 := by
  intro sz
  refine Met.ofW (cc := cX11_about) (maxL := 3) (ret := (some .int)) (by decide) rfl ?_
  intro p e s m args below meth c s₁ B hml hv
  obtain ⟨rfl, hsz, hP, hK, hD0, hN, hX⟩ := hv
  have hx := B.exec
  have hb := B.bytes
  have hr := B.returns
  have hts := atoms_spec (ws := wsX11_about) B.pre
  have hown : s.vm.findClass RX11 = some m.cls := findClass_of_methodNamed B.named
  have hlocks := B.notSynchronized
  have hin11 : ∀ w ∈ wsX110, w ∈ wsX11_about := (fun w h => (List.mem_cons_of_mem _ (List.mem_append_left _ (List.mem_append_left _ (List.mem_append_right _ h)))))
  have hin1 : ∀ w ∈ wsX10, w ∈ wsX11_about := (fun w h => (List.mem_cons_of_mem _ (List.mem_append_left _ (List.mem_append_right _ h))))
  subst hsz
  have hD := hD0.self (sz := s.heap.size)
  have hAE := k_AE hD0 hX
  generalize hAe : va_A [(h0, .inr (11, f0)), (h1, .inr (1, f1)), (h2, .inr (2, f2))] s.heap.size = A at hD hAE ⊢
  have hA : ∀ q : Nat, s.heap.size ≤ q → A q := fun q h => by rw [← hAe]; exact Or.inr h
  have hS : va_S A s.heap s.heap [] := va_S.rf
  have hP : va_P D vwCl [(h0, .inr (11, f0)), (h1, .inr (1, f1)), (h2, .inr (2, f2))] s.heap := hP
  have hl := lv_entry ([.ref h0, .int x0, .int x1] : List Value) (n := 3) (Nat.le_of_ble_eq_true rfl)
  rw [lg_entry_eq]
  generalize (lg_sl ([.ref h0, .int x0, .int x1]) ++ List.replicate (3 - (lg_sl ([.ref h0, .int x0, .int x1])).length) Slot.unset).toArray = ls at hl ⊢
  have hl : lv_has ls 3 [(0, .ref h0), (1, .int x0), (2, .int x1)] := hl
  refine lv_aload_n hx hb dX11_about_0 rfl (lv_at hl 0 rfl) ?_
  refine va_get (D := D) (ref := "IntegerHouse") (ci := 11) (v := .ref h1) (C := RX11) (T := TX11) (N := 15) hx hb hts hin11 hown hK hP 0 rfl rfl 1 (by decide) (hts (.fieldLink RX11 16 "IntegerHouse" "disk" "LIntegerHouse$Disk;") (List.mem_cons_of_mem _ (List.mem_append_left _ (List.mem_append_left _ (List.mem_append_left _ (List.mem_of_getElem? (i := 0) rfl)))))) (fun _ h9 => h9) e0 dX11_about_1 ?_
  refine va_getN (host := "IntegerHouse") (D := D) (ref := "IntegerHouse$Disk") (ci := 1) (v := .int 0) (C := RX1) (T := TX1) (N := 9) hx hb hts hin1 hown hK hP 1 rfl rfl 8 (by decide) (va_Nw.use rfl (hN.1 ("IntegerHouse", 122, "IntegerHouse$Disk", "down", "Z", "IntegerHouse") (List.mem_of_getElem? (i := 3) rfl))) (fun _ h9 => h9) e1 dX11_about_4 ?_
  refine lv_if_eq (tgt := 13) hx hb dX11_about_7 (by decide) (fun _ => ?_) (fun c9 => absurd (by decide) c9)
  refine lv_aload_n hx hb dX11_about_13 rfl (lv_at hl 0 rfl) ?_
  refine va_get (D := D) (ref := "IntegerHouse") (ci := 11) (v := .ref h2) (C := RX11) (T := TX11) (N := 15) hx hb hts hin11 hown hK hP 0 rfl rfl 2 (by decide) (hts (.fieldLink RX11 23 "IntegerHouse" "house" "LIntegerHouse$House;") (List.mem_cons_of_mem _ (List.mem_append_left _ (List.mem_append_left _ (List.mem_append_left _ (List.mem_of_getElem? (i := 1) rfl)))))) (fun _ h9 => h9) e2 dX11_about_14 ?_
  refine lv_iload_n hx hb dX11_about_17 rfl (lv_at hl 1 rfl) ?_
  refine k_cVi (As := [.int x0]) (rest := []) (wc := [(h2, .inr (2, f2))]) (wr := [(h0, .inr (11, f0)), (h1, .inr (1, f1))]) (w1 := [(h2, .inr (2, f2))]) ⟨hx, hb, hml, hown, hts⟩ hN hX hAE hK hP hD hS hA [2] [0, 1] (ci := 2) rfl rfl rfl rfl (by decide +kernel) (by decide +kernel) (by decide +kernel) (c_X2_isClaim_0 l E D cI cJ cB cZ h2 x0 f2 e3 e4) (cwV 1 hts gX11_about_X2_isClaim rfl rfl rfl (by decide +kernel) ⟨Nat.le_of_ble_eq_true rfl, Nat.le_of_ble_eq_true rfl⟩) rfl hl.1 (Nat.le_of_ble_eq_true rfl) dX11_about_18 ⟨Nat.le_of_ble_eq_true rfl, Nat.le_of_ble_eq_true rfl⟩ (fun H locs hP hD hS => ?_)
  have hP : va_P D vwCl [(h0, .inr (11, f0)), (h1, .inr (1, f1)), (h2, .inr (2, f2))] H := hP
  have hD : va_D A [(h0, .inr (11, f0)), (h1, .inr (1, f1)), (h2, .inr (2, f2))] := hD
  refine lv_if_ne (tgt := 27) hx hb dX11_about_21 (by decide) (fun c9 => absurd (by decide) c9) (fun _ => ?_)
  refine lv_bipush (v := (-101)) hx hb dX11_about_24 (by decide) ?_
  exact W.iret (v := (-101)) hx hb hr (fun t ht hW => ⟨⟨(-101), (), rfl, rfl, kB_mk ht hW hP hK hD⟩, hS.F ht⟩) hS.2.2 dX11_about_26
set_option maxHeartbeats 400000000 in
set_option maxRecDepth 100000 in
theorem c_X12_isClaim_0 (l : Launch) (E : kE) (D : va_G) (cI cJ cB cZ : ClassId) (h0 : Nat) (x0 : Int32) (f0 : List Value) (e0 : f0[33]? = some (.int 0)) (e1 : ¬ ((x0 : Int32) < 0)) : kI l E D (kT cI cJ cB cZ) yX12_isClaim wsX12_isClaim ({ frames := 1, cells := 0, slots := 0, locals := 25 }) [.ref h0, .int x0] [(h0, .inr (12, f0))] (0) [(h0, .inr (12, f0))] 0 0 := by
  intro sz
  refine Met.ofW (cc := cX12_isClaim) (maxL := 2) (ret := (some .boolean)) (by decide) rfl ?_
  intro p e s m args below meth c s₁ B hml hv
  obtain ⟨rfl, hsz, hP, hK, hD0, hN, hX⟩ := hv
  have hx := B.exec
  have hb := B.bytes
  have hr := B.returns
  have hts := atoms_spec (ws := wsX12_isClaim) B.pre
  have hown : s.vm.findClass RX12 = some m.cls := findClass_of_methodNamed B.named
  have hlocks := B.notSynchronized
  have hin12 : ∀ w ∈ wsX120, w ∈ wsX12_isClaim := (fun w h => (List.mem_cons_of_mem _ (List.mem_append_right _ h)))
  subst hsz
  have hD := hD0.self (sz := s.heap.size)
  have hAE := k_AE hD0 hX
  generalize hAe : va_A [(h0, .inr (12, f0))] s.heap.size = A at hD hAE ⊢
  have hA : ∀ q : Nat, s.heap.size ≤ q → A q := fun q h => by rw [← hAe]; exact Or.inr h
  have hS : va_S A s.heap s.heap [] := va_S.rf
  have hP : va_P D vwCl [(h0, .inr (12, f0))] s.heap := hP
  have hl := lv_entry ([.ref h0, .int x0] : List Value) (n := 2) (Nat.le_of_ble_eq_true rfl)
  rw [lg_entry_eq]
  generalize (lg_sl ([.ref h0, .int x0]) ++ List.replicate (2 - (lg_sl ([.ref h0, .int x0])).length) Slot.unset).toArray = ls at hl ⊢
  have hl : lv_has ls 2 [(0, .ref h0), (1, .int x0)] := hl
  refine lv_iload_n hx hb dX12_isClaim_0 rfl (lv_at hl 1 rfl) ?_
  refine lv_i2l (v := (Int32.toInt64 x0)) hx hb dX12_isClaim_1 rfl ?_
  refine lv_lconst (v := 0) hx hb dX12_isClaim_2 (by decide) ?_
  refine lv_aload_n hx hb dX12_isClaim_3 rfl (lv_at hl 0 rfl) ?_
  refine va_get (D := D) (ref := "IntegerHouseModel") (ci := 12) (v := .int 0) (C := RX12) (T := TX12) (N := 195) hx hb hts hin12 hown hK hP 0 rfl rfl 33 (by decide) (hts (.fieldLink RX12 818 "IntegerHouseModel" "claims" "I") (List.mem_cons_of_mem _ (List.mem_append_left _ (List.mem_of_getElem? (i := 0) rfl)))) (fun _ h9 => h9) e0 dX12_isClaim_4 ?_
  refine lv_iconst (v := 1) hx hb dX12_isClaim_7 (by decide) ?_
  refine lv_isub hx hb dX12_isClaim_8 ?_
  refine k_topi (y := (-1)) (by decide) ?_
  refine lv_i2l (v := (-1)) hx hb dX12_isClaim_9 (by decide) ?_
  refine k_cSi (As := [.long (Int32.toInt64 x0), .long 0, .long (-1)]) (rest := []) (wc := []) (wr := [(h0, .inr (12, f0))]) (w1 := []) ⟨hx, hb, hml, hown, hts⟩ hN hX hAE hK hP hD hS hA [] [0] rfl rfl (by decide +kernel) (by decide +kernel) (by decide +kernel) (c_X12_in_12 l E D cI cJ cB cZ (Int32.toInt64 x0) (fun z9 => e1 ((k_n4 (x := x0) (c := 0) (C := 0) (by decide)).mp z9)) ((k_n5 (x := x0) (c := (-1)) (d := 0) (C := (-1)) (by decide) (by decide)).mpr e1)) (va_cwS 3 hts gX12_isClaim_X12_in rfl rfl rfl (by decide +kernel) ⟨Nat.le_of_ble_eq_true rfl, Nat.le_of_ble_eq_true rfl⟩) rfl hl.1 (Nat.le_of_ble_eq_true rfl) dX12_isClaim_10 ⟨Nat.le_of_ble_eq_true rfl, Nat.le_of_ble_eq_true rfl⟩ (fun H locs hP hD hS => ?_)
  have hP : va_P D vwCl [(h0, .inr (12, f0))] H := hP
  have hD : va_D A [(h0, .inr (12, f0))] := hD
  exact W.zret (v := 0) hx hb hr rfl (fun t ht hW => ⟨⟨0, (), rfl, rfl, kB_mk ht hW hP hK hD⟩, hS.F ht⟩) hS.2.2 dX12_isClaim_13
set_option maxHeartbeats 400000000 in
set_option maxRecDepth 100000 in
theorem c_X12_about_0 (l : Launch) (E : kE) (D : va_G) (cI cJ cB cZ : ClassId) (h0 : Nat) (x0 : Int32) (x1 : Int32) (f0 : List Value) (e0 : f0[0]? = some (.int 0)) (e1 : f0[5]? = some (.int 0)) (e2 : f0[33]? = some (.int 0)) (e3 : ¬ ((x0 : Int32) < 0)) : kI l E D (kT cI cJ cB cZ) yX12_about wsX12_about ({ frames := 2, cells := 0, slots := 0, locals := 46 }) [.ref h0, .int x0, .int x1] [(h0, .inr (12, f0))] ((-101)) [(h0, .inr (12, (f0.set 0 (.int 0))))] 0 0 := by
  intro sz
  refine Met.ofW (cc := cX12_about) (maxL := 3) (ret := (some .int)) (by decide) rfl ?_
  intro p e s m args below meth c s₁ B hml hv
  obtain ⟨rfl, hsz, hP, hK, hD0, hN, hX⟩ := hv
  have hx := B.exec
  have hb := B.bytes
  have hr := B.returns
  have hts := atoms_spec (ws := wsX12_about) B.pre
  have hown : s.vm.findClass RX12 = some m.cls := findClass_of_methodNamed B.named
  have hlocks := B.notSynchronized
  subst hsz
  have hD := hD0.self (sz := s.heap.size)
  have hAE := k_AE hD0 hX
  generalize hAe : va_A [(h0, .inr (12, f0))] s.heap.size = A at hD hAE ⊢
  have hA : ∀ q : Nat, s.heap.size ≤ q → A q := fun q h => by rw [← hAe]; exact Or.inr h
  have hS : va_S A s.heap s.heap [] := va_S.rf
  have hP : va_P D vwCl [(h0, .inr (12, f0))] s.heap := hP
  have hl := lv_entry ([.ref h0, .int x0, .int x1] : List Value) (n := 3) (Nat.le_of_ble_eq_true rfl)
  rw [lg_entry_eq]
  generalize (lg_sl ([.ref h0, .int x0, .int x1]) ++ List.replicate (3 - (lg_sl ([.ref h0, .int x0, .int x1])).length) Slot.unset).toArray = ls at hl ⊢
  have hl : lv_has ls 3 [(0, .ref h0), (1, .int x0), (2, .int x1)] := hl
  refine lv_aload_n hx hb dX12_about_0 rfl (lv_at hl 0 rfl) ?_
  refine k_cVi (As := []) (rest := []) (wc := [(h0, .inr (12, f0))]) (wr := []) (w1 := [(h0, .inr (12, (f0.set 0 (.int 0))))]) ⟨hx, hb, hml, hown, hts⟩ hN hX hAE hK hP hD hS hA [0] [] (ci := 12) rfl rfl rfl rfl (by decide +kernel) (by decide +kernel) (by decide +kernel) (c_X12_asks_0 l E D cI cJ cB cZ h0 f0 e0 e1) (cwV 0 hts gX12_about_X12_asks rfl rfl rfl (by decide +kernel) ⟨Nat.le_of_ble_eq_true rfl, Nat.le_of_ble_eq_true rfl⟩) rfl hl.1 (Nat.le_of_ble_eq_true rfl) dX12_about_1 ⟨Nat.le_of_ble_eq_true rfl, Nat.le_of_ble_eq_true rfl⟩ (fun H locs hP hD hS => ?_)
  have hP : va_P D vwCl [(h0, .inr (12, (f0.set 0 (.int 0))))] H := hP
  have hD : va_D A [(h0, .inr (12, (f0.set 0 (.int 0))))] := hD
  refine lv_if_ne (tgt := 10) hx hb dX12_about_4 (by decide) (fun _ => ?_) (fun c9 => absurd c9 (by decide))
  refine lv_aload_n hx hb dX12_about_10 rfl (lv_at hl 0 rfl) ?_
  refine lv_iload_n hx hb dX12_about_11 rfl (lv_at hl 1 rfl) ?_
  refine k_cVi (As := [.int x0]) (rest := []) (wc := [(h0, .inr (12, (f0.set 0 (.int 0))))]) (wr := []) (w1 := [(h0, .inr (12, (f0.set 0 (.int 0))))]) ⟨hx, hb, hml, hown, hts⟩ hN hX hAE hK hP hD hS hA [0] [] (ci := 12) rfl rfl rfl rfl (by decide +kernel) (by decide +kernel) (by decide +kernel) (c_X12_isClaim_0 l E D cI cJ cB cZ h0 x0 ((f0.set 0 (.int 0))) (k_ne (by decide) e2) e3) (cwV 1 hts gX12_about_X12_isClaim rfl rfl rfl (by decide +kernel) ⟨Nat.le_of_ble_eq_true rfl, Nat.le_of_ble_eq_true rfl⟩) rfl hl.1 (Nat.le_of_ble_eq_true rfl) dX12_about_12 ⟨Nat.le_of_ble_eq_true rfl, Nat.le_of_ble_eq_true rfl⟩ (fun H locs hP hD hS => ?_)
  have hP : va_P D vwCl [(h0, .inr (12, (f0.set 0 (.int 0))))] H := hP
  have hD : va_D A [(h0, .inr (12, (f0.set 0 (.int 0))))] := hD
  refine lv_if_ne (tgt := 21) hx hb dX12_about_15 (by decide) (fun c9 => absurd (by decide) c9) (fun _ => ?_)
  refine lv_bipush (v := (-101)) hx hb dX12_about_18 (by decide) ?_
  exact W.iret (v := (-101)) hx hb hr (fun t ht hW => ⟨⟨(-101), (), rfl, rfl, kB_mk ht hW hP hK hD⟩, hS.F ht⟩) hS.2.2 dX12_about_20
set_option maxHeartbeats 400000000 in
set_option maxRecDepth 100000 in
theorem c_X11_about_1 (l : Launch) (E : kE) (D : va_G) (cI cJ cB cZ : ClassId) (h0 : Nat) (x0 : Int32) (x1 : Int32) (f0 : List Value) (h1 : Nat) (f1 : List Value) (h2 : Nat) (e0 : f0[1]? = some (.ref h1)) (e1 : f1[8]? = some (.int 0)) (e2 : f0[2]? = some (.ref h2)) (e3 : (x0 : Int32) < 0) : kI l E D (kT cI cJ cB cZ) yX11_about wsX11_about ({ frames := 1, cells := 0, slots := 0, locals := 21 }) [.ref h0, .int x0, .int x1] [(h0, .inr (11, f0)), (h1, .inr (1, f1))] ((-101)) [(h0, .inr (11, f0)), (h1, .inr (1, f1))] 0 0 := by
  intro sz
  refine Met.ofW (cc := cX11_about) (maxL := 3) (ret := (some .int)) (by decide) rfl ?_
  intro p e s m args below meth c s₁ B hml hv
  obtain ⟨rfl, hsz, hP, hK, hD0, hN, hX⟩ := hv
  have hx := B.exec
  have hb := B.bytes
  have hr := B.returns
  have hts := atoms_spec (ws := wsX11_about) B.pre
  have hown : s.vm.findClass RX11 = some m.cls := findClass_of_methodNamed B.named
  have hlocks := B.notSynchronized
  have hin11 : ∀ w ∈ wsX110, w ∈ wsX11_about := (fun w h => (List.mem_cons_of_mem _ (List.mem_append_left _ (List.mem_append_left _ (List.mem_append_right _ h)))))
  have hin1 : ∀ w ∈ wsX10, w ∈ wsX11_about := (fun w h => (List.mem_cons_of_mem _ (List.mem_append_left _ (List.mem_append_right _ h))))
  subst hsz
  have hD := hD0.self (sz := s.heap.size)
  have hAE := k_AE hD0 hX
  generalize hAe : va_A [(h0, .inr (11, f0)), (h1, .inr (1, f1))] s.heap.size = A at hD hAE ⊢
  have hA : ∀ q : Nat, s.heap.size ≤ q → A q := fun q h => by rw [← hAe]; exact Or.inr h
  have hS : va_S A s.heap s.heap [] := va_S.rf
  have hP : va_P D vwCl [(h0, .inr (11, f0)), (h1, .inr (1, f1))] s.heap := hP
  have hl := lv_entry ([.ref h0, .int x0, .int x1] : List Value) (n := 3) (Nat.le_of_ble_eq_true rfl)
  rw [lg_entry_eq]
  generalize (lg_sl ([.ref h0, .int x0, .int x1]) ++ List.replicate (3 - (lg_sl ([.ref h0, .int x0, .int x1])).length) Slot.unset).toArray = ls at hl ⊢
  have hl : lv_has ls 3 [(0, .ref h0), (1, .int x0), (2, .int x1)] := hl
  refine lv_aload_n hx hb dX11_about_0 rfl (lv_at hl 0 rfl) ?_
  refine va_get (D := D) (ref := "IntegerHouse") (ci := 11) (v := .ref h1) (C := RX11) (T := TX11) (N := 15) hx hb hts hin11 hown hK hP 0 rfl rfl 1 (by decide) (hts (.fieldLink RX11 16 "IntegerHouse" "disk" "LIntegerHouse$Disk;") (List.mem_cons_of_mem _ (List.mem_append_left _ (List.mem_append_left _ (List.mem_append_left _ (List.mem_of_getElem? (i := 0) rfl)))))) (fun _ h9 => h9) e0 dX11_about_1 ?_
  refine va_getN (host := "IntegerHouse") (D := D) (ref := "IntegerHouse$Disk") (ci := 1) (v := .int 0) (C := RX1) (T := TX1) (N := 9) hx hb hts hin1 hown hK hP 1 rfl rfl 8 (by decide) (va_Nw.use rfl (hN.1 ("IntegerHouse", 122, "IntegerHouse$Disk", "down", "Z", "IntegerHouse") (List.mem_of_getElem? (i := 3) rfl))) (fun _ h9 => h9) e1 dX11_about_4 ?_
  refine lv_if_eq (tgt := 13) hx hb dX11_about_7 (by decide) (fun _ => ?_) (fun c9 => absurd (by decide) c9)
  refine lv_aload_n hx hb dX11_about_13 rfl (lv_at hl 0 rfl) ?_
  refine va_get (D := D) (ref := "IntegerHouse") (ci := 11) (v := .ref h2) (C := RX11) (T := TX11) (N := 15) hx hb hts hin11 hown hK hP 0 rfl rfl 2 (by decide) (hts (.fieldLink RX11 23 "IntegerHouse" "house" "LIntegerHouse$House;") (List.mem_cons_of_mem _ (List.mem_append_left _ (List.mem_append_left _ (List.mem_append_left _ (List.mem_of_getElem? (i := 1) rfl)))))) (fun _ h9 => h9) e2 dX11_about_14 ?_
  refine lv_iload_n hx hb dX11_about_17 rfl (lv_at hl 1 rfl) ?_
  refine k_cVi (As := [.int x0]) (rest := []) (wc := []) (wr := [(h0, .inr (11, f0)), (h1, .inr (1, f1))]) (w1 := []) ⟨hx, hb, hml, hown, hts⟩ hN hX hAE hK hP hD hS hA [] [0, 1] (ci := 2) rfl rfl rfl rfl (by decide +kernel) (by decide +kernel) (by decide +kernel) (c_X2_isClaim_1 l E D cI cJ cB cZ h2 x0 e3) (cwV 1 hts gX11_about_X2_isClaim rfl rfl rfl (by decide +kernel) ⟨Nat.le_of_ble_eq_true rfl, Nat.le_of_ble_eq_true rfl⟩) rfl hl.1 (Nat.le_of_ble_eq_true rfl) dX11_about_18 ⟨Nat.le_of_ble_eq_true rfl, Nat.le_of_ble_eq_true rfl⟩ (fun H locs hP hD hS => ?_)
  have hP : va_P D vwCl [(h0, .inr (11, f0)), (h1, .inr (1, f1))] H := hP
  have hD : va_D A [(h0, .inr (11, f0)), (h1, .inr (1, f1))] := hD
  refine lv_if_ne (tgt := 27) hx hb dX11_about_21 (by decide) (fun c9 => absurd (by decide) c9) (fun _ => ?_)
  refine lv_bipush (v := (-101)) hx hb dX11_about_24 (by decide) ?_
  exact W.iret (v := (-101)) hx hb hr (fun t ht hW => ⟨⟨(-101), (), rfl, rfl, kB_mk ht hW hP hK hD⟩, hS.F ht⟩) hS.2.2 dX11_about_26
set_option maxHeartbeats 400000000 in
set_option maxRecDepth 100000 in
theorem c_X12_isClaim_1 (l : Launch) (E : kE) (D : va_G) (cI cJ cB cZ : ClassId) (h0 : Nat) (x0 : Int32) (f0 : List Value) (e0 : f0[33]? = some (.int 0)) (e1 : (x0 : Int32) < 0) : kI l E D (kT cI cJ cB cZ) yX12_isClaim wsX12_isClaim ({ frames := 1, cells := 0, slots := 0, locals := 25 }) [.ref h0, .int x0] [(h0, .inr (12, f0))] (0) [(h0, .inr (12, f0))] 0 0 := by
  intro sz
  refine Met.ofW (cc := cX12_isClaim) (maxL := 2) (ret := (some .boolean)) (by decide) rfl ?_
  intro p e s m args below meth c s₁ B hml hv
  obtain ⟨rfl, hsz, hP, hK, hD0, hN, hX⟩ := hv
  have hx := B.exec
  have hb := B.bytes
  have hr := B.returns
  have hts := atoms_spec (ws := wsX12_isClaim) B.pre
  have hown : s.vm.findClass RX12 = some m.cls := findClass_of_methodNamed B.named
  have hlocks := B.notSynchronized
  have hin12 : ∀ w ∈ wsX120, w ∈ wsX12_isClaim := (fun w h => (List.mem_cons_of_mem _ (List.mem_append_right _ h)))
  subst hsz
  have hD := hD0.self (sz := s.heap.size)
  have hAE := k_AE hD0 hX
  generalize hAe : va_A [(h0, .inr (12, f0))] s.heap.size = A at hD hAE ⊢
  have hA : ∀ q : Nat, s.heap.size ≤ q → A q := fun q h => by rw [← hAe]; exact Or.inr h
  have hS : va_S A s.heap s.heap [] := va_S.rf
  have hP : va_P D vwCl [(h0, .inr (12, f0))] s.heap := hP
  have hl := lv_entry ([.ref h0, .int x0] : List Value) (n := 2) (Nat.le_of_ble_eq_true rfl)
  rw [lg_entry_eq]
  generalize (lg_sl ([.ref h0, .int x0]) ++ List.replicate (2 - (lg_sl ([.ref h0, .int x0])).length) Slot.unset).toArray = ls at hl ⊢
  have hl : lv_has ls 2 [(0, .ref h0), (1, .int x0)] := hl
  refine lv_iload_n hx hb dX12_isClaim_0 rfl (lv_at hl 1 rfl) ?_
  refine lv_i2l (v := (Int32.toInt64 x0)) hx hb dX12_isClaim_1 rfl ?_
  refine lv_lconst (v := 0) hx hb dX12_isClaim_2 (by decide) ?_
  refine lv_aload_n hx hb dX12_isClaim_3 rfl (lv_at hl 0 rfl) ?_
  refine va_get (D := D) (ref := "IntegerHouseModel") (ci := 12) (v := .int 0) (C := RX12) (T := TX12) (N := 195) hx hb hts hin12 hown hK hP 0 rfl rfl 33 (by decide) (hts (.fieldLink RX12 818 "IntegerHouseModel" "claims" "I") (List.mem_cons_of_mem _ (List.mem_append_left _ (List.mem_of_getElem? (i := 0) rfl)))) (fun _ h9 => h9) e0 dX12_isClaim_4 ?_
  refine lv_iconst (v := 1) hx hb dX12_isClaim_7 (by decide) ?_
  refine lv_isub hx hb dX12_isClaim_8 ?_
  refine k_topi (y := (-1)) (by decide) ?_
  refine lv_i2l (v := (-1)) hx hb dX12_isClaim_9 (by decide) ?_
  refine k_cSi (As := [.long (Int32.toInt64 x0), .long 0, .long (-1)]) (rest := []) (wc := []) (wr := [(h0, .inr (12, f0))]) (w1 := []) ⟨hx, hb, hml, hown, hts⟩ hN hX hAE hK hP hD hS hA [] [0] rfl rfl (by decide +kernel) (by decide +kernel) (by decide +kernel) (c_X12_in_13 l E D cI cJ cB cZ (Int32.toInt64 x0) ((k_n4 (x := x0) (c := 0) (C := 0) (by decide)).mpr e1)) (va_cwS 3 hts gX12_isClaim_X12_in rfl rfl rfl (by decide +kernel) ⟨Nat.le_of_ble_eq_true rfl, Nat.le_of_ble_eq_true rfl⟩) rfl hl.1 (Nat.le_of_ble_eq_true rfl) dX12_isClaim_10 ⟨Nat.le_of_ble_eq_true rfl, Nat.le_of_ble_eq_true rfl⟩ (fun H locs hP hD hS => ?_)
  have hP : va_P D vwCl [(h0, .inr (12, f0))] H := hP
  have hD : va_D A [(h0, .inr (12, f0))] := hD
  exact W.zret (v := 0) hx hb hr rfl (fun t ht hW => ⟨⟨0, (), rfl, rfl, kB_mk ht hW hP hK hD⟩, hS.F ht⟩) hS.2.2 dX12_isClaim_13
set_option maxHeartbeats 400000000 in
set_option maxRecDepth 100000 in
theorem c_X12_about_1 (l : Launch) (E : kE) (D : va_G) (cI cJ cB cZ : ClassId) (h0 : Nat) (x0 : Int32) (x1 : Int32) (f0 : List Value) (e0 : f0[0]? = some (.int 0)) (e1 : f0[5]? = some (.int 0)) (e2 : f0[33]? = some (.int 0)) (e3 : (x0 : Int32) < 0) : kI l E D (kT cI cJ cB cZ) yX12_about wsX12_about ({ frames := 2, cells := 0, slots := 0, locals := 46 }) [.ref h0, .int x0, .int x1] [(h0, .inr (12, f0))] ((-101)) [(h0, .inr (12, (f0.set 0 (.int 0))))] 0 0 := by
  intro sz
  refine Met.ofW (cc := cX12_about) (maxL := 3) (ret := (some .int)) (by decide) rfl ?_
  intro p e s m args below meth c s₁ B hml hv
  obtain ⟨rfl, hsz, hP, hK, hD0, hN, hX⟩ := hv
  have hx := B.exec
  have hb := B.bytes
  have hr := B.returns
  have hts := atoms_spec (ws := wsX12_about) B.pre
  have hown : s.vm.findClass RX12 = some m.cls := findClass_of_methodNamed B.named
  have hlocks := B.notSynchronized
  subst hsz
  have hD := hD0.self (sz := s.heap.size)
  have hAE := k_AE hD0 hX
  generalize hAe : va_A [(h0, .inr (12, f0))] s.heap.size = A at hD hAE ⊢
  have hA : ∀ q : Nat, s.heap.size ≤ q → A q := fun q h => by rw [← hAe]; exact Or.inr h
  have hS : va_S A s.heap s.heap [] := va_S.rf
  have hP : va_P D vwCl [(h0, .inr (12, f0))] s.heap := hP
  have hl := lv_entry ([.ref h0, .int x0, .int x1] : List Value) (n := 3) (Nat.le_of_ble_eq_true rfl)
  rw [lg_entry_eq]
  generalize (lg_sl ([.ref h0, .int x0, .int x1]) ++ List.replicate (3 - (lg_sl ([.ref h0, .int x0, .int x1])).length) Slot.unset).toArray = ls at hl ⊢
  have hl : lv_has ls 3 [(0, .ref h0), (1, .int x0), (2, .int x1)] := hl
  refine lv_aload_n hx hb dX12_about_0 rfl (lv_at hl 0 rfl) ?_
  refine k_cVi (As := []) (rest := []) (wc := [(h0, .inr (12, f0))]) (wr := []) (w1 := [(h0, .inr (12, (f0.set 0 (.int 0))))]) ⟨hx, hb, hml, hown, hts⟩ hN hX hAE hK hP hD hS hA [0] [] (ci := 12) rfl rfl rfl rfl (by decide +kernel) (by decide +kernel) (by decide +kernel) (c_X12_asks_0 l E D cI cJ cB cZ h0 f0 e0 e1) (cwV 0 hts gX12_about_X12_asks rfl rfl rfl (by decide +kernel) ⟨Nat.le_of_ble_eq_true rfl, Nat.le_of_ble_eq_true rfl⟩) rfl hl.1 (Nat.le_of_ble_eq_true rfl) dX12_about_1 ⟨Nat.le_of_ble_eq_true rfl, Nat.le_of_ble_eq_true rfl⟩ (fun H locs hP hD hS => ?_)
  have hP : va_P D vwCl [(h0, .inr (12, (f0.set 0 (.int 0))))] H := hP
  have hD : va_D A [(h0, .inr (12, (f0.set 0 (.int 0))))] := hD
  refine lv_if_ne (tgt := 10) hx hb dX12_about_4 (by decide) (fun _ => ?_) (fun c9 => absurd c9 (by decide))
  refine lv_aload_n hx hb dX12_about_10 rfl (lv_at hl 0 rfl) ?_
  refine lv_iload_n hx hb dX12_about_11 rfl (lv_at hl 1 rfl) ?_
  refine k_cVi (As := [.int x0]) (rest := []) (wc := [(h0, .inr (12, (f0.set 0 (.int 0))))]) (wr := []) (w1 := [(h0, .inr (12, (f0.set 0 (.int 0))))]) ⟨hx, hb, hml, hown, hts⟩ hN hX hAE hK hP hD hS hA [0] [] (ci := 12) rfl rfl rfl rfl (by decide +kernel) (by decide +kernel) (by decide +kernel) (c_X12_isClaim_1 l E D cI cJ cB cZ h0 x0 ((f0.set 0 (.int 0))) (k_ne (by decide) e2) e3) (cwV 1 hts gX12_about_X12_isClaim rfl rfl rfl (by decide +kernel) ⟨Nat.le_of_ble_eq_true rfl, Nat.le_of_ble_eq_true rfl⟩) rfl hl.1 (Nat.le_of_ble_eq_true rfl) dX12_about_12 ⟨Nat.le_of_ble_eq_true rfl, Nat.le_of_ble_eq_true rfl⟩ (fun H locs hP hD hS => ?_)
  have hP : va_P D vwCl [(h0, .inr (12, (f0.set 0 (.int 0))))] H := hP
  have hD : va_D A [(h0, .inr (12, (f0.set 0 (.int 0))))] := hD
  refine lv_if_ne (tgt := 21) hx hb dX12_about_15 (by decide) (fun c9 => absurd (by decide) c9) (fun _ => ?_)
  refine lv_bipush (v := (-101)) hx hb dX12_about_18 (by decide) ?_
  exact W.iret (v := (-101)) hx hb hr (fun t ht hW => ⟨⟨(-101), (), rfl, rfl, kB_mk ht hW hP hK hD⟩, hS.F ht⟩) hS.2.2 dX12_about_20
set_option maxHeartbeats 400000000 in
set_option maxRecDepth 100000 in
theorem c_X11_atom_0 (l : Launch) (E : kE) (D : va_G) (cI cJ cB cZ : ClassId) (h0 : Nat) (x0 : Int32) (x1 : Int32) (x2 : Int32) (f0 : List Value) (h1 : Nat) (f1 : List Value) (h2 : Nat) (f2 : List Value) (e0 : f0[1]? = some (.ref h1)) (e1 : f1[8]? = some (.int 0)) (e2 : f0[2]? = some (.ref h2)) (e3 : ¬ ((x0 : Int32) < 0)) (e4 : f2[11]? = some (.int 0)) : kI l E D (kT cI cJ cB cZ) yX11_atom wsX11_atom ({ frames := 1, cells := 0, slots := 0, locals := 21 }) [.ref h0, .int x0, .int x1, .int x2] [(h0, .inr (11, f0)), (h1, .inr (1, f1)), (h2, .inr (2, f2))] ((-101)) [(h0, .inr (11, f0)), (h1, .inr (1, f1)), (h2, .inr (2, f2))] 0 0 := by
  intro sz
  refine Met.ofW (cc := cX11_atom) (maxL := 4) (ret := (some .int)) (by decide) rfl ?_
  intro p e s m args below meth c s₁ B hml hv
  obtain ⟨rfl, hsz, hP, hK, hD0, hN, hX⟩ := hv
  have hx := B.exec
  have hb := B.bytes
  have hr := B.returns
  have hts := atoms_spec (ws := wsX11_atom) B.pre
  have hown : s.vm.findClass RX11 = some m.cls := findClass_of_methodNamed B.named
  have hlocks := B.notSynchronized
  have hin11 : ∀ w ∈ wsX110, w ∈ wsX11_atom := (fun w h => (List.mem_cons_of_mem _ (List.mem_append_left _ (List.mem_append_left _ (List.mem_append_right _ h)))))
  have hin1 : ∀ w ∈ wsX10, w ∈ wsX11_atom := (fun w h => (List.mem_cons_of_mem _ (List.mem_append_left _ (List.mem_append_right _ h))))
  subst hsz
  have hD := hD0.self (sz := s.heap.size)
  have hAE := k_AE hD0 hX
  generalize hAe : va_A [(h0, .inr (11, f0)), (h1, .inr (1, f1)), (h2, .inr (2, f2))] s.heap.size = A at hD hAE ⊢
  have hA : ∀ q : Nat, s.heap.size ≤ q → A q := fun q h => by rw [← hAe]; exact Or.inr h
  have hS : va_S A s.heap s.heap [] := va_S.rf
  have hP : va_P D vwCl [(h0, .inr (11, f0)), (h1, .inr (1, f1)), (h2, .inr (2, f2))] s.heap := hP
  have hl := lv_entry ([.ref h0, .int x0, .int x1, .int x2] : List Value) (n := 4) (Nat.le_of_ble_eq_true rfl)
  rw [lg_entry_eq]
  generalize (lg_sl ([.ref h0, .int x0, .int x1, .int x2]) ++ List.replicate (4 - (lg_sl ([.ref h0, .int x0, .int x1, .int x2])).length) Slot.unset).toArray = ls at hl ⊢
  have hl : lv_has ls 4 [(0, .ref h0), (1, .int x0), (2, .int x1), (3, .int x2)] := hl
  refine lv_aload_n hx hb dX11_atom_0 rfl (lv_at hl 0 rfl) ?_
  refine va_get (D := D) (ref := "IntegerHouse") (ci := 11) (v := .ref h1) (C := RX11) (T := TX11) (N := 15) hx hb hts hin11 hown hK hP 0 rfl rfl 1 (by decide) (hts (.fieldLink RX11 16 "IntegerHouse" "disk" "LIntegerHouse$Disk;") (List.mem_cons_of_mem _ (List.mem_append_left _ (List.mem_append_left _ (List.mem_append_left _ (List.mem_of_getElem? (i := 0) rfl)))))) (fun _ h9 => h9) e0 dX11_atom_1 ?_
  refine va_getN (host := "IntegerHouse") (D := D) (ref := "IntegerHouse$Disk") (ci := 1) (v := .int 0) (C := RX1) (T := TX1) (N := 9) hx hb hts hin1 hown hK hP 1 rfl rfl 8 (by decide) (va_Nw.use rfl (hN.1 ("IntegerHouse", 122, "IntegerHouse$Disk", "down", "Z", "IntegerHouse") (List.mem_of_getElem? (i := 3) rfl))) (fun _ h9 => h9) e1 dX11_atom_4 ?_
  refine lv_if_eq (tgt := 13) hx hb dX11_atom_7 (by decide) (fun _ => ?_) (fun c9 => absurd (by decide) c9)
  refine lv_aload_n hx hb dX11_atom_13 rfl (lv_at hl 0 rfl) ?_
  refine va_get (D := D) (ref := "IntegerHouse") (ci := 11) (v := .ref h2) (C := RX11) (T := TX11) (N := 15) hx hb hts hin11 hown hK hP 0 rfl rfl 2 (by decide) (hts (.fieldLink RX11 23 "IntegerHouse" "house" "LIntegerHouse$House;") (List.mem_cons_of_mem _ (List.mem_append_left _ (List.mem_append_left _ (List.mem_append_left _ (List.mem_of_getElem? (i := 1) rfl)))))) (fun _ h9 => h9) e2 dX11_atom_14 ?_
  refine lv_iload_n hx hb dX11_atom_17 rfl (lv_at hl 1 rfl) ?_
  refine k_cVi (As := [.int x0]) (rest := []) (wc := [(h2, .inr (2, f2))]) (wr := [(h0, .inr (11, f0)), (h1, .inr (1, f1))]) (w1 := [(h2, .inr (2, f2))]) ⟨hx, hb, hml, hown, hts⟩ hN hX hAE hK hP hD hS hA [2] [0, 1] (ci := 2) rfl rfl rfl rfl (by decide +kernel) (by decide +kernel) (by decide +kernel) (c_X2_isClaim_0 l E D cI cJ cB cZ h2 x0 f2 e3 e4) (cwV 1 hts gX11_atom_X2_isClaim rfl rfl rfl (by decide +kernel) ⟨Nat.le_of_ble_eq_true rfl, Nat.le_of_ble_eq_true rfl⟩) rfl hl.1 (Nat.le_of_ble_eq_true rfl) dX11_atom_18 ⟨Nat.le_of_ble_eq_true rfl, Nat.le_of_ble_eq_true rfl⟩ (fun H locs hP hD hS => ?_)
  have hP : va_P D vwCl [(h0, .inr (11, f0)), (h1, .inr (1, f1)), (h2, .inr (2, f2))] H := hP
  have hD : va_D A [(h0, .inr (11, f0)), (h1, .inr (1, f1)), (h2, .inr (2, f2))] := hD
  refine lv_if_ne (tgt := 27) hx hb dX11_atom_21 (by decide) (fun c9 => absurd (by decide) c9) (fun _ => ?_)
  refine lv_bipush (v := (-101)) hx hb dX11_atom_24 (by decide) ?_
  exact W.iret (v := (-101)) hx hb hr (fun t ht hW => ⟨⟨(-101), (), rfl, rfl, kB_mk ht hW hP hK hD⟩, hS.F ht⟩) hS.2.2 dX11_atom_26
set_option maxHeartbeats 400000000 in
set_option maxRecDepth 100000 in
theorem c_X12_atom_0 (l : Launch) (E : kE) (D : va_G) (cI cJ cB cZ : ClassId) (h0 : Nat) (x0 : Int32) (x1 : Int32) (x2 : Int32) (f0 : List Value) (e0 : f0[0]? = some (.int 0)) (e1 : f0[5]? = some (.int 0)) (e2 : f0[33]? = some (.int 0)) (e3 : ¬ ((x0 : Int32) < 0)) : kI l E D (kT cI cJ cB cZ) yX12_atom wsX12_atom ({ frames := 2, cells := 0, slots := 0, locals := 46 }) [.ref h0, .int x0, .int x1, .int x2] [(h0, .inr (12, f0))] ((-101)) [(h0, .inr (12, (f0.set 0 (.int 0))))] 0 0 := by
  intro sz
  refine Met.ofW (cc := cX12_atom) (maxL := 5) (ret := (some .int)) (by decide) rfl ?_
  intro p e s m args below meth c s₁ B hml hv
  obtain ⟨rfl, hsz, hP, hK, hD0, hN, hX⟩ := hv
  have hx := B.exec
  have hb := B.bytes
  have hr := B.returns
  have hts := atoms_spec (ws := wsX12_atom) B.pre
  have hown : s.vm.findClass RX12 = some m.cls := findClass_of_methodNamed B.named
  have hlocks := B.notSynchronized
  subst hsz
  have hD := hD0.self (sz := s.heap.size)
  have hAE := k_AE hD0 hX
  generalize hAe : va_A [(h0, .inr (12, f0))] s.heap.size = A at hD hAE ⊢
  have hA : ∀ q : Nat, s.heap.size ≤ q → A q := fun q h => by rw [← hAe]; exact Or.inr h
  have hS : va_S A s.heap s.heap [] := va_S.rf
  have hP : va_P D vwCl [(h0, .inr (12, f0))] s.heap := hP
  have hl := lv_entry ([.ref h0, .int x0, .int x1, .int x2] : List Value) (n := 5) (Nat.le_of_ble_eq_true rfl)
  rw [lg_entry_eq]
  generalize (lg_sl ([.ref h0, .int x0, .int x1, .int x2]) ++ List.replicate (5 - (lg_sl ([.ref h0, .int x0, .int x1, .int x2])).length) Slot.unset).toArray = ls at hl ⊢
  have hl : lv_has ls 5 [(0, .ref h0), (1, .int x0), (2, .int x1), (3, .int x2)] := hl
  refine lv_aload_n hx hb dX12_atom_0 rfl (lv_at hl 0 rfl) ?_
  refine k_cVi (As := []) (rest := []) (wc := [(h0, .inr (12, f0))]) (wr := []) (w1 := [(h0, .inr (12, (f0.set 0 (.int 0))))]) ⟨hx, hb, hml, hown, hts⟩ hN hX hAE hK hP hD hS hA [0] [] (ci := 12) rfl rfl rfl rfl (by decide +kernel) (by decide +kernel) (by decide +kernel) (c_X12_asks_0 l E D cI cJ cB cZ h0 f0 e0 e1) (cwV 0 hts gX12_atom_X12_asks rfl rfl rfl (by decide +kernel) ⟨Nat.le_of_ble_eq_true rfl, Nat.le_of_ble_eq_true rfl⟩) rfl hl.1 (Nat.le_of_ble_eq_true rfl) dX12_atom_1 ⟨Nat.le_of_ble_eq_true rfl, Nat.le_of_ble_eq_true rfl⟩ (fun H locs hP hD hS => ?_)
  have hP : va_P D vwCl [(h0, .inr (12, (f0.set 0 (.int 0))))] H := hP
  have hD : va_D A [(h0, .inr (12, (f0.set 0 (.int 0))))] := hD
  refine lv_if_ne (tgt := 10) hx hb dX12_atom_4 (by decide) (fun _ => ?_) (fun c9 => absurd c9 (by decide))
  refine lv_aload_n hx hb dX12_atom_10 rfl (lv_at hl 0 rfl) ?_
  refine lv_iload_n hx hb dX12_atom_11 rfl (lv_at hl 1 rfl) ?_
  refine k_cVi (As := [.int x0]) (rest := []) (wc := [(h0, .inr (12, (f0.set 0 (.int 0))))]) (wr := []) (w1 := [(h0, .inr (12, (f0.set 0 (.int 0))))]) ⟨hx, hb, hml, hown, hts⟩ hN hX hAE hK hP hD hS hA [0] [] (ci := 12) rfl rfl rfl rfl (by decide +kernel) (by decide +kernel) (by decide +kernel) (c_X12_isClaim_0 l E D cI cJ cB cZ h0 x0 ((f0.set 0 (.int 0))) (k_ne (by decide) e2) e3) (cwV 1 hts gX12_atom_X12_isClaim rfl rfl rfl (by decide +kernel) ⟨Nat.le_of_ble_eq_true rfl, Nat.le_of_ble_eq_true rfl⟩) rfl hl.1 (Nat.le_of_ble_eq_true rfl) dX12_atom_12 ⟨Nat.le_of_ble_eq_true rfl, Nat.le_of_ble_eq_true rfl⟩ (fun H locs hP hD hS => ?_)
  have hP : va_P D vwCl [(h0, .inr (12, (f0.set 0 (.int 0))))] H := hP
  have hD : va_D A [(h0, .inr (12, (f0.set 0 (.int 0))))] := hD
  refine lv_if_ne (tgt := 21) hx hb dX12_atom_15 (by decide) (fun c9 => absurd (by decide) c9) (fun _ => ?_)
  refine lv_bipush (v := (-101)) hx hb dX12_atom_18 (by decide) ?_
  exact W.iret (v := (-101)) hx hb hr (fun t ht hW => ⟨⟨(-101), (), rfl, rfl, kB_mk ht hW hP hK hD⟩, hS.F ht⟩) hS.2.2 dX12_atom_20
set_option maxHeartbeats 400000000 in
set_option maxRecDepth 100000 in
theorem c_X11_atom_1 (l : Launch) (E : kE) (D : va_G) (cI cJ cB cZ : ClassId) (h0 : Nat) (x0 : Int32) (x1 : Int32) (x2 : Int32) (f0 : List Value) (h1 : Nat) (f1 : List Value) (h2 : Nat) (e0 : f0[1]? = some (.ref h1)) (e1 : f1[8]? = some (.int 0)) (e2 : f0[2]? = some (.ref h2)) (e3 : (x0 : Int32) < 0) : kI l E D (kT cI cJ cB cZ) yX11_atom wsX11_atom ({ frames := 1, cells := 0, slots := 0, locals := 21 }) [.ref h0, .int x0, .int x1, .int x2] [(h0, .inr (11, f0)), (h1, .inr (1, f1))] ((-101)) [(h0, .inr (11, f0)), (h1, .inr (1, f1))] 0 0 := by
  intro sz
  refine Met.ofW (cc := cX11_atom) (maxL := 4) (ret := (some .int)) (by decide) rfl ?_
  intro p e s m args below meth c s₁ B hml hv
  obtain ⟨rfl, hsz, hP, hK, hD0, hN, hX⟩ := hv
  have hx := B.exec
  have hb := B.bytes
  have hr := B.returns
  have hts := atoms_spec (ws := wsX11_atom) B.pre
  have hown : s.vm.findClass RX11 = some m.cls := findClass_of_methodNamed B.named
  have hlocks := B.notSynchronized
  have hin11 : ∀ w ∈ wsX110, w ∈ wsX11_atom := (fun w h => (List.mem_cons_of_mem _ (List.mem_append_left _ (List.mem_append_left _ (List.mem_append_right _ h)))))
  have hin1 : ∀ w ∈ wsX10, w ∈ wsX11_atom := (fun w h => (List.mem_cons_of_mem _ (List.mem_append_left _ (List.mem_append_right _ h))))
  subst hsz
  have hD := hD0.self (sz := s.heap.size)
  have hAE := k_AE hD0 hX
  generalize hAe : va_A [(h0, .inr (11, f0)), (h1, .inr (1, f1))] s.heap.size = A at hD hAE ⊢
  have hA : ∀ q : Nat, s.heap.size ≤ q → A q := fun q h => by rw [← hAe]; exact Or.inr h
  have hS : va_S A s.heap s.heap [] := va_S.rf
  have hP : va_P D vwCl [(h0, .inr (11, f0)), (h1, .inr (1, f1))] s.heap := hP
  have hl := lv_entry ([.ref h0, .int x0, .int x1, .int x2] : List Value) (n := 4) (Nat.le_of_ble_eq_true rfl)
  rw [lg_entry_eq]
  generalize (lg_sl ([.ref h0, .int x0, .int x1, .int x2]) ++ List.replicate (4 - (lg_sl ([.ref h0, .int x0, .int x1, .int x2])).length) Slot.unset).toArray = ls at hl ⊢
  have hl : lv_has ls 4 [(0, .ref h0), (1, .int x0), (2, .int x1), (3, .int x2)] := hl
  refine lv_aload_n hx hb dX11_atom_0 rfl (lv_at hl 0 rfl) ?_
  refine va_get (D := D) (ref := "IntegerHouse") (ci := 11) (v := .ref h1) (C := RX11) (T := TX11) (N := 15) hx hb hts hin11 hown hK hP 0 rfl rfl 1 (by decide) (hts (.fieldLink RX11 16 "IntegerHouse" "disk" "LIntegerHouse$Disk;") (List.mem_cons_of_mem _ (List.mem_append_left _ (List.mem_append_left _ (List.mem_append_left _ (List.mem_of_getElem? (i := 0) rfl)))))) (fun _ h9 => h9) e0 dX11_atom_1 ?_
  refine va_getN (host := "IntegerHouse") (D := D) (ref := "IntegerHouse$Disk") (ci := 1) (v := .int 0) (C := RX1) (T := TX1) (N := 9) hx hb hts hin1 hown hK hP 1 rfl rfl 8 (by decide) (va_Nw.use rfl (hN.1 ("IntegerHouse", 122, "IntegerHouse$Disk", "down", "Z", "IntegerHouse") (List.mem_of_getElem? (i := 3) rfl))) (fun _ h9 => h9) e1 dX11_atom_4 ?_
  refine lv_if_eq (tgt := 13) hx hb dX11_atom_7 (by decide) (fun _ => ?_) (fun c9 => absurd (by decide) c9)
  refine lv_aload_n hx hb dX11_atom_13 rfl (lv_at hl 0 rfl) ?_
  refine va_get (D := D) (ref := "IntegerHouse") (ci := 11) (v := .ref h2) (C := RX11) (T := TX11) (N := 15) hx hb hts hin11 hown hK hP 0 rfl rfl 2 (by decide) (hts (.fieldLink RX11 23 "IntegerHouse" "house" "LIntegerHouse$House;") (List.mem_cons_of_mem _ (List.mem_append_left _ (List.mem_append_left _ (List.mem_append_left _ (List.mem_of_getElem? (i := 1) rfl)))))) (fun _ h9 => h9) e2 dX11_atom_14 ?_
  refine lv_iload_n hx hb dX11_atom_17 rfl (lv_at hl 1 rfl) ?_
  refine k_cVi (As := [.int x0]) (rest := []) (wc := []) (wr := [(h0, .inr (11, f0)), (h1, .inr (1, f1))]) (w1 := []) ⟨hx, hb, hml, hown, hts⟩ hN hX hAE hK hP hD hS hA [] [0, 1] (ci := 2) rfl rfl rfl rfl (by decide +kernel) (by decide +kernel) (by decide +kernel) (c_X2_isClaim_1 l E D cI cJ cB cZ h2 x0 e3) (cwV 1 hts gX11_atom_X2_isClaim rfl rfl rfl (by decide +kernel) ⟨Nat.le_of_ble_eq_true rfl, Nat.le_of_ble_eq_true rfl⟩) rfl hl.1 (Nat.le_of_ble_eq_true rfl) dX11_atom_18 ⟨Nat.le_of_ble_eq_true rfl, Nat.le_of_ble_eq_true rfl⟩ (fun H locs hP hD hS => ?_)
  have hP : va_P D vwCl [(h0, .inr (11, f0)), (h1, .inr (1, f1))] H := hP
  have hD : va_D A [(h0, .inr (11, f0)), (h1, .inr (1, f1))] := hD
  refine lv_if_ne (tgt := 27) hx hb dX11_atom_21 (by decide) (fun c9 => absurd (by decide) c9) (fun _ => ?_)
  refine lv_bipush (v := (-101)) hx hb dX11_atom_24 (by decide) ?_
  exact W.iret (v := (-101)) hx hb hr (fun t ht hW => ⟨⟨(-101), (), rfl, rfl, kB_mk ht hW hP hK hD⟩, hS.F ht⟩) hS.2.2 dX11_atom_26
set_option maxHeartbeats 400000000 in
set_option maxRecDepth 100000 in
theorem c_X12_atom_1 (l : Launch) (E : kE) (D : va_G) (cI cJ cB cZ : ClassId) (h0 : Nat) (x0 : Int32) (x1 : Int32) (x2 : Int32) (f0 : List Value) (e0 : f0[0]? = some (.int 0)) (e1 : f0[5]? = some (.int 0)) (e2 : f0[33]? = some (.int 0)) (e3 : (x0 : Int32) < 0) : kI l E D (kT cI cJ cB cZ) yX12_atom wsX12_atom ({ frames := 2, cells := 0, slots := 0, locals := 46 }) [.ref h0, .int x0, .int x1, .int x2] [(h0, .inr (12, f0))] ((-101)) [(h0, .inr (12, (f0.set 0 (.int 0))))] 0 0 := by
  intro sz
  refine Met.ofW (cc := cX12_atom) (maxL := 5) (ret := (some .int)) (by decide) rfl ?_
  intro p e s m args below meth c s₁ B hml hv
  obtain ⟨rfl, hsz, hP, hK, hD0, hN, hX⟩ := hv
  have hx := B.exec
  have hb := B.bytes
  have hr := B.returns
  have hts := atoms_spec (ws := wsX12_atom) B.pre
  have hown : s.vm.findClass RX12 = some m.cls := findClass_of_methodNamed B.named
  have hlocks := B.notSynchronized
  subst hsz
  have hD := hD0.self (sz := s.heap.size)
  have hAE := k_AE hD0 hX
  generalize hAe : va_A [(h0, .inr (12, f0))] s.heap.size = A at hD hAE ⊢
  have hA : ∀ q : Nat, s.heap.size ≤ q → A q := fun q h => by rw [← hAe]; exact Or.inr h
  have hS : va_S A s.heap s.heap [] := va_S.rf
  have hP : va_P D vwCl [(h0, .inr (12, f0))] s.heap := hP
  have hl := lv_entry ([.ref h0, .int x0, .int x1, .int x2] : List Value) (n := 5) (Nat.le_of_ble_eq_true rfl)
  rw [lg_entry_eq]
  generalize (lg_sl ([.ref h0, .int x0, .int x1, .int x2]) ++ List.replicate (5 - (lg_sl ([.ref h0, .int x0, .int x1, .int x2])).length) Slot.unset).toArray = ls at hl ⊢
  have hl : lv_has ls 5 [(0, .ref h0), (1, .int x0), (2, .int x1), (3, .int x2)] := hl
  refine lv_aload_n hx hb dX12_atom_0 rfl (lv_at hl 0 rfl) ?_
  refine k_cVi (As := []) (rest := []) (wc := [(h0, .inr (12, f0))]) (wr := []) (w1 := [(h0, .inr (12, (f0.set 0 (.int 0))))]) ⟨hx, hb, hml, hown, hts⟩ hN hX hAE hK hP hD hS hA [0] [] (ci := 12) rfl rfl rfl rfl (by decide +kernel) (by decide +kernel) (by decide +kernel) (c_X12_asks_0 l E D cI cJ cB cZ h0 f0 e0 e1) (cwV 0 hts gX12_atom_X12_asks rfl rfl rfl (by decide +kernel) ⟨Nat.le_of_ble_eq_true rfl, Nat.le_of_ble_eq_true rfl⟩) rfl hl.1 (Nat.le_of_ble_eq_true rfl) dX12_atom_1 ⟨Nat.le_of_ble_eq_true rfl, Nat.le_of_ble_eq_true rfl⟩ (fun H locs hP hD hS => ?_)
  have hP : va_P D vwCl [(h0, .inr (12, (f0.set 0 (.int 0))))] H := hP
  have hD : va_D A [(h0, .inr (12, (f0.set 0 (.int 0))))] := hD
  refine lv_if_ne (tgt := 10) hx hb dX12_atom_4 (by decide) (fun _ => ?_) (fun c9 => absurd c9 (by decide))
  refine lv_aload_n hx hb dX12_atom_10 rfl (lv_at hl 0 rfl) ?_
  refine lv_iload_n hx hb dX12_atom_11 rfl (lv_at hl 1 rfl) ?_
  refine k_cVi (As := [.int x0]) (rest := []) (wc := [(h0, .inr (12, (f0.set 0 (.int 0))))]) (wr := []) (w1 := [(h0, .inr (12, (f0.set 0 (.int 0))))]) ⟨hx, hb, hml, hown, hts⟩ hN hX hAE hK hP hD hS hA [0] [] (ci := 12) rfl rfl rfl rfl (by decide +kernel) (by decide +kernel) (by decide +kernel) (c_X12_isClaim_1 l E D cI cJ cB cZ h0 x0 ((f0.set 0 (.int 0))) (k_ne (by decide) e2) e3) (cwV 1 hts gX12_atom_X12_isClaim rfl rfl rfl (by decide +kernel) ⟨Nat.le_of_ble_eq_true rfl, Nat.le_of_ble_eq_true rfl⟩) rfl hl.1 (Nat.le_of_ble_eq_true rfl) dX12_atom_12 ⟨Nat.le_of_ble_eq_true rfl, Nat.le_of_ble_eq_true rfl⟩ (fun H locs hP hD hS => ?_)
  have hP : va_P D vwCl [(h0, .inr (12, (f0.set 0 (.int 0))))] H := hP
  have hD : va_D A [(h0, .inr (12, (f0.set 0 (.int 0))))] := hD
  refine lv_if_ne (tgt := 21) hx hb dX12_atom_15 (by decide) (fun c9 => absurd (by decide) c9) (fun _ => ?_)
  refine lv_bipush (v := (-101)) hx hb dX12_atom_18 (by decide) ?_
  exact W.iret (v := (-101)) hx hb hr (fun t ht hW => ⟨⟨(-101), (), rfl, rfl, kB_mk ht hW hP hK hD⟩, hS.F ht⟩) hS.2.2 dX12_atom_20
set_option maxHeartbeats 400000000 in
set_option maxRecDepth 100000 in
theorem c_X11_print_0 (l : Launch) (E : kE) (D : va_G) (cI cJ cB cZ : ClassId) (h0 : Nat) (x0 : Int32) (f0 : List Value) (h1 : Nat) (f1 : List Value) (h2 : Nat) (f2 : List Value) (e0 : f0[1]? = some (.ref h1)) (e1 : f1[8]? = some (.int 0)) (e2 : f0[2]? = some (.ref h2)) (e3 : ¬ ((x0 : Int32) < 0)) (e4 : f2[11]? = some (.int 0)) : kI l E D (kT cI cJ cB cZ) yX11_print wsX11_print ({ frames := 1, cells := 0, slots := 0, locals := 21 }) [.ref h0, .int x0] [(h0, .inr (11, f0)), (h1, .inr (1, f1)), (h2, .inr (2, f2))] ((-101)) [(h0, .inr (11, f0)), (h1, .inr (1, f1)), (h2, .inr (2, f2))] 0 0 := by
  intro sz
  refine Met.ofW (cc := cX11_print) (maxL := 2) (ret := (some .int)) (by decide) rfl ?_
  intro p e s m args below meth c s₁ B hml hv
  obtain ⟨rfl, hsz, hP, hK, hD0, hN, hX⟩ := hv
  have hx := B.exec
  have hb := B.bytes
  have hr := B.returns
  have hts := atoms_spec (ws := wsX11_print) B.pre
  have hown : s.vm.findClass RX11 = some m.cls := findClass_of_methodNamed B.named
  have hlocks := B.notSynchronized
  have hin11 : ∀ w ∈ wsX110, w ∈ wsX11_print := (fun w h => (List.mem_cons_of_mem _ (List.mem_append_left _ (List.mem_append_left _ (List.mem_append_left _ (List.mem_append_right _ h))))))
  have hin1 : ∀ w ∈ wsX10, w ∈ wsX11_print := (fun w h => (List.mem_cons_of_mem _ (List.mem_append_left _ (List.mem_append_left _ (List.mem_append_right _ h)))))
  subst hsz
  have hD := hD0.self (sz := s.heap.size)
  have hAE := k_AE hD0 hX
  generalize hAe : va_A [(h0, .inr (11, f0)), (h1, .inr (1, f1)), (h2, .inr (2, f2))] s.heap.size = A at hD hAE ⊢
  have hA : ∀ q : Nat, s.heap.size ≤ q → A q := fun q h => by rw [← hAe]; exact Or.inr h
  have hS : va_S A s.heap s.heap [] := va_S.rf
  have hP : va_P D vwCl [(h0, .inr (11, f0)), (h1, .inr (1, f1)), (h2, .inr (2, f2))] s.heap := hP
  have hl := lv_entry ([.ref h0, .int x0] : List Value) (n := 2) (Nat.le_of_ble_eq_true rfl)
  rw [lg_entry_eq]
  generalize (lg_sl ([.ref h0, .int x0]) ++ List.replicate (2 - (lg_sl ([.ref h0, .int x0])).length) Slot.unset).toArray = ls at hl ⊢
  have hl : lv_has ls 2 [(0, .ref h0), (1, .int x0)] := hl
  refine lv_aload_n hx hb dX11_print_0 rfl (lv_at hl 0 rfl) ?_
  refine va_get (D := D) (ref := "IntegerHouse") (ci := 11) (v := .ref h1) (C := RX11) (T := TX11) (N := 15) hx hb hts hin11 hown hK hP 0 rfl rfl 1 (by decide) (hts (.fieldLink RX11 16 "IntegerHouse" "disk" "LIntegerHouse$Disk;") (List.mem_cons_of_mem _ (List.mem_append_left _ (List.mem_append_left _ (List.mem_append_left _ (List.mem_append_left _ (List.mem_append_left _ (List.mem_of_getElem? (i := 0) rfl)))))))) (fun _ h9 => h9) e0 dX11_print_1 ?_
  refine va_getN (host := "IntegerHouse") (D := D) (ref := "IntegerHouse$Disk") (ci := 1) (v := .int 0) (C := RX1) (T := TX1) (N := 9) hx hb hts hin1 hown hK hP 1 rfl rfl 8 (by decide) (va_Nw.use rfl (hN.1 ("IntegerHouse", 122, "IntegerHouse$Disk", "down", "Z", "IntegerHouse") (List.mem_of_getElem? (i := 3) rfl))) (fun _ h9 => h9) e1 dX11_print_4 ?_
  refine lv_if_eq (tgt := 13) hx hb dX11_print_7 (by decide) (fun _ => ?_) (fun c9 => absurd (by decide) c9)
  refine lv_aload_n hx hb dX11_print_13 rfl (lv_at hl 0 rfl) ?_
  refine va_get (D := D) (ref := "IntegerHouse") (ci := 11) (v := .ref h2) (C := RX11) (T := TX11) (N := 15) hx hb hts hin11 hown hK hP 0 rfl rfl 2 (by decide) (hts (.fieldLink RX11 23 "IntegerHouse" "house" "LIntegerHouse$House;") (List.mem_cons_of_mem _ (List.mem_append_left _ (List.mem_append_left _ (List.mem_append_left _ (List.mem_append_left _ (List.mem_append_left _ (List.mem_of_getElem? (i := 1) rfl)))))))) (fun _ h9 => h9) e2 dX11_print_14 ?_
  refine lv_iload_n hx hb dX11_print_17 rfl (lv_at hl 1 rfl) ?_
  refine k_cVi (As := [.int x0]) (rest := []) (wc := [(h2, .inr (2, f2))]) (wr := [(h0, .inr (11, f0)), (h1, .inr (1, f1))]) (w1 := [(h2, .inr (2, f2))]) ⟨hx, hb, hml, hown, hts⟩ hN hX hAE hK hP hD hS hA [2] [0, 1] (ci := 2) rfl rfl rfl rfl (by decide +kernel) (by decide +kernel) (by decide +kernel) (c_X2_isClaim_0 l E D cI cJ cB cZ h2 x0 f2 e3 e4) (cwV 1 hts gX11_print_X2_isClaim rfl rfl rfl (by decide +kernel) ⟨Nat.le_of_ble_eq_true rfl, Nat.le_of_ble_eq_true rfl⟩) rfl hl.1 (Nat.le_of_ble_eq_true rfl) dX11_print_18 ⟨Nat.le_of_ble_eq_true rfl, Nat.le_of_ble_eq_true rfl⟩ (fun H locs hP hD hS => ?_)
  have hP : va_P D vwCl [(h0, .inr (11, f0)), (h1, .inr (1, f1)), (h2, .inr (2, f2))] H := hP
  have hD : va_D A [(h0, .inr (11, f0)), (h1, .inr (1, f1)), (h2, .inr (2, f2))] := hD
  refine lv_if_ne (tgt := 27) hx hb dX11_print_21 (by decide) (fun c9 => absurd (by decide) c9) (fun _ => ?_)
  refine lv_bipush (v := (-101)) hx hb dX11_print_24 (by decide) ?_
  exact W.iret (v := (-101)) hx hb hr (fun t ht hW => ⟨⟨(-101), (), rfl, rfl, kB_mk ht hW hP hK hD⟩, hS.F ht⟩) hS.2.2 dX11_print_26
set_option maxHeartbeats 400000000 in
set_option maxRecDepth 100000 in
theorem c_X12_print_0 (l : Launch) (E : kE) (D : va_G) (cI cJ cB cZ : ClassId) (h0 : Nat) (x0 : Int32) (f0 : List Value) (e0 : f0[0]? = some (.int 0)) (e1 : f0[5]? = some (.int 0)) (e2 : f0[33]? = some (.int 0)) (e3 : ¬ ((x0 : Int32) < 0)) : kI l E D (kT cI cJ cB cZ) yX12_print wsX12_print ({ frames := 2, cells := 0, slots := 0, locals := 46 }) [.ref h0, .int x0] [(h0, .inr (12, f0))] ((-101)) [(h0, .inr (12, (f0.set 0 (.int 0))))] 0 0 := by
  intro sz
  refine Met.ofW (cc := cX12_print) (maxL := 3) (ret := (some .int)) (by decide) rfl ?_
  intro p e s m args below meth c s₁ B hml hv
  obtain ⟨rfl, hsz, hP, hK, hD0, hN, hX⟩ := hv
  have hx := B.exec
  have hb := B.bytes
  have hr := B.returns
  have hts := atoms_spec (ws := wsX12_print) B.pre
  have hown : s.vm.findClass RX12 = some m.cls := findClass_of_methodNamed B.named
  have hlocks := B.notSynchronized
  subst hsz
  have hD := hD0.self (sz := s.heap.size)
  have hAE := k_AE hD0 hX
  generalize hAe : va_A [(h0, .inr (12, f0))] s.heap.size = A at hD hAE ⊢
  have hA : ∀ q : Nat, s.heap.size ≤ q → A q := fun q h => by rw [← hAe]; exact Or.inr h
  have hS : va_S A s.heap s.heap [] := va_S.rf
  have hP : va_P D vwCl [(h0, .inr (12, f0))] s.heap := hP
  have hl := lv_entry ([.ref h0, .int x0] : List Value) (n := 3) (Nat.le_of_ble_eq_true rfl)
  rw [lg_entry_eq]
  generalize (lg_sl ([.ref h0, .int x0]) ++ List.replicate (3 - (lg_sl ([.ref h0, .int x0])).length) Slot.unset).toArray = ls at hl ⊢
  have hl : lv_has ls 3 [(0, .ref h0), (1, .int x0)] := hl
  refine lv_aload_n hx hb dX12_print_0 rfl (lv_at hl 0 rfl) ?_
  refine k_cVi (As := []) (rest := []) (wc := [(h0, .inr (12, f0))]) (wr := []) (w1 := [(h0, .inr (12, (f0.set 0 (.int 0))))]) ⟨hx, hb, hml, hown, hts⟩ hN hX hAE hK hP hD hS hA [0] [] (ci := 12) rfl rfl rfl rfl (by decide +kernel) (by decide +kernel) (by decide +kernel) (c_X12_asks_0 l E D cI cJ cB cZ h0 f0 e0 e1) (cwV 0 hts gX12_print_X12_asks rfl rfl rfl (by decide +kernel) ⟨Nat.le_of_ble_eq_true rfl, Nat.le_of_ble_eq_true rfl⟩) rfl hl.1 (Nat.le_of_ble_eq_true rfl) dX12_print_1 ⟨Nat.le_of_ble_eq_true rfl, Nat.le_of_ble_eq_true rfl⟩ (fun H locs hP hD hS => ?_)
  have hP : va_P D vwCl [(h0, .inr (12, (f0.set 0 (.int 0))))] H := hP
  have hD : va_D A [(h0, .inr (12, (f0.set 0 (.int 0))))] := hD
  refine lv_if_ne (tgt := 10) hx hb dX12_print_4 (by decide) (fun _ => ?_) (fun c9 => absurd c9 (by decide))
  refine lv_aload_n hx hb dX12_print_10 rfl (lv_at hl 0 rfl) ?_
  refine lv_iload_n hx hb dX12_print_11 rfl (lv_at hl 1 rfl) ?_
  refine k_cVi (As := [.int x0]) (rest := []) (wc := [(h0, .inr (12, (f0.set 0 (.int 0))))]) (wr := []) (w1 := [(h0, .inr (12, (f0.set 0 (.int 0))))]) ⟨hx, hb, hml, hown, hts⟩ hN hX hAE hK hP hD hS hA [0] [] (ci := 12) rfl rfl rfl rfl (by decide +kernel) (by decide +kernel) (by decide +kernel) (c_X12_isClaim_0 l E D cI cJ cB cZ h0 x0 ((f0.set 0 (.int 0))) (k_ne (by decide) e2) e3) (cwV 1 hts gX12_print_X12_isClaim rfl rfl rfl (by decide +kernel) ⟨Nat.le_of_ble_eq_true rfl, Nat.le_of_ble_eq_true rfl⟩) rfl hl.1 (Nat.le_of_ble_eq_true rfl) dX12_print_12 ⟨Nat.le_of_ble_eq_true rfl, Nat.le_of_ble_eq_true rfl⟩ (fun H locs hP hD hS => ?_)
  have hP : va_P D vwCl [(h0, .inr (12, (f0.set 0 (.int 0))))] H := hP
  have hD : va_D A [(h0, .inr (12, (f0.set 0 (.int 0))))] := hD
  refine lv_if_ne (tgt := 21) hx hb dX12_print_15 (by decide) (fun c9 => absurd (by decide) c9) (fun _ => ?_)
  refine lv_bipush (v := (-101)) hx hb dX12_print_18 (by decide) ?_
  exact W.iret (v := (-101)) hx hb hr (fun t ht hW => ⟨⟨(-101), (), rfl, rfl, kB_mk ht hW hP hK hD⟩, hS.F ht⟩) hS.2.2 dX12_print_20
set_option maxHeartbeats 400000000 in
set_option maxRecDepth 100000 in
theorem c_X11_print_1 (l : Launch) (E : kE) (D : va_G) (cI cJ cB cZ : ClassId) (h0 : Nat) (x0 : Int32) (f0 : List Value) (h1 : Nat) (f1 : List Value) (h2 : Nat) (e0 : f0[1]? = some (.ref h1)) (e1 : f1[8]? = some (.int 0)) (e2 : f0[2]? = some (.ref h2)) (e3 : (x0 : Int32) < 0) : kI l E D (kT cI cJ cB cZ) yX11_print wsX11_print ({ frames := 1, cells := 0, slots := 0, locals := 21 }) [.ref h0, .int x0] [(h0, .inr (11, f0)), (h1, .inr (1, f1))] ((-101)) [(h0, .inr (11, f0)), (h1, .inr (1, f1))] 0 0 := by
  intro sz
  refine Met.ofW (cc := cX11_print) (maxL := 2) (ret := (some .int)) (by decide) rfl ?_
  intro p e s m args below meth c s₁ B hml hv
  obtain ⟨rfl, hsz, hP, hK, hD0, hN, hX⟩ := hv
  have hx := B.exec
  have hb := B.bytes
  have hr := B.returns
  have hts := atoms_spec (ws := wsX11_print) B.pre
  have hown : s.vm.findClass RX11 = some m.cls := findClass_of_methodNamed B.named
  have hlocks := B.notSynchronized
  have hin11 : ∀ w ∈ wsX110, w ∈ wsX11_print := (fun w h => (List.mem_cons_of_mem _ (List.mem_append_left _ (List.mem_append_left _ (List.mem_append_left _ (List.mem_append_right _ h))))))
  have hin1 : ∀ w ∈ wsX10, w ∈ wsX11_print := (fun w h => (List.mem_cons_of_mem _ (List.mem_append_left _ (List.mem_append_left _ (List.mem_append_right _ h)))))
  subst hsz
  have hD := hD0.self (sz := s.heap.size)
  have hAE := k_AE hD0 hX
  generalize hAe : va_A [(h0, .inr (11, f0)), (h1, .inr (1, f1))] s.heap.size = A at hD hAE ⊢
  have hA : ∀ q : Nat, s.heap.size ≤ q → A q := fun q h => by rw [← hAe]; exact Or.inr h
  have hS : va_S A s.heap s.heap [] := va_S.rf
  have hP : va_P D vwCl [(h0, .inr (11, f0)), (h1, .inr (1, f1))] s.heap := hP
  have hl := lv_entry ([.ref h0, .int x0] : List Value) (n := 2) (Nat.le_of_ble_eq_true rfl)
  rw [lg_entry_eq]
  generalize (lg_sl ([.ref h0, .int x0]) ++ List.replicate (2 - (lg_sl ([.ref h0, .int x0])).length) Slot.unset).toArray = ls at hl ⊢
  have hl : lv_has ls 2 [(0, .ref h0), (1, .int x0)] := hl
  refine lv_aload_n hx hb dX11_print_0 rfl (lv_at hl 0 rfl) ?_
  refine va_get (D := D) (ref := "IntegerHouse") (ci := 11) (v := .ref h1) (C := RX11) (T := TX11) (N := 15) hx hb hts hin11 hown hK hP 0 rfl rfl 1 (by decide) (hts (.fieldLink RX11 16 "IntegerHouse" "disk" "LIntegerHouse$Disk;") (List.mem_cons_of_mem _ (List.mem_append_left _ (List.mem_append_left _ (List.mem_append_left _ (List.mem_append_left _ (List.mem_append_left _ (List.mem_of_getElem? (i := 0) rfl)))))))) (fun _ h9 => h9) e0 dX11_print_1 ?_
  refine va_getN (host := "IntegerHouse") (D := D) (ref := "IntegerHouse$Disk") (ci := 1) (v := .int 0) (C := RX1) (T := TX1) (N := 9) hx hb hts hin1 hown hK hP 1 rfl rfl 8 (by decide) (va_Nw.use rfl (hN.1 ("IntegerHouse", 122, "IntegerHouse$Disk", "down", "Z", "IntegerHouse") (List.mem_of_getElem? (i := 3) rfl))) (fun _ h9 => h9) e1 dX11_print_4 ?_
  refine lv_if_eq (tgt := 13) hx hb dX11_print_7 (by decide) (fun _ => ?_) (fun c9 => absurd (by decide) c9)
  refine lv_aload_n hx hb dX11_print_13 rfl (lv_at hl 0 rfl) ?_
  refine va_get (D := D) (ref := "IntegerHouse") (ci := 11) (v := .ref h2) (C := RX11) (T := TX11) (N := 15) hx hb hts hin11 hown hK hP 0 rfl rfl 2 (by decide) (hts (.fieldLink RX11 23 "IntegerHouse" "house" "LIntegerHouse$House;") (List.mem_cons_of_mem _ (List.mem_append_left _ (List.mem_append_left _ (List.mem_append_left _ (List.mem_append_left _ (List.mem_append_left _ (List.mem_of_getElem? (i := 1) rfl)))))))) (fun _ h9 => h9) e2 dX11_print_14 ?_
  refine lv_iload_n hx hb dX11_print_17 rfl (lv_at hl 1 rfl) ?_
  refine k_cVi (As := [.int x0]) (rest := []) (wc := []) (wr := [(h0, .inr (11, f0)), (h1, .inr (1, f1))]) (w1 := []) ⟨hx, hb, hml, hown, hts⟩ hN hX hAE hK hP hD hS hA [] [0, 1] (ci := 2) rfl rfl rfl rfl (by decide +kernel) (by decide +kernel) (by decide +kernel) (c_X2_isClaim_1 l E D cI cJ cB cZ h2 x0 e3) (cwV 1 hts gX11_print_X2_isClaim rfl rfl rfl (by decide +kernel) ⟨Nat.le_of_ble_eq_true rfl, Nat.le_of_ble_eq_true rfl⟩) rfl hl.1 (Nat.le_of_ble_eq_true rfl) dX11_print_18 ⟨Nat.le_of_ble_eq_true rfl, Nat.le_of_ble_eq_true rfl⟩ (fun H locs hP hD hS => ?_)
  have hP : va_P D vwCl [(h0, .inr (11, f0)), (h1, .inr (1, f1))] H := hP
  have hD : va_D A [(h0, .inr (11, f0)), (h1, .inr (1, f1))] := hD
  refine lv_if_ne (tgt := 27) hx hb dX11_print_21 (by decide) (fun c9 => absurd (by decide) c9) (fun _ => ?_)
  refine lv_bipush (v := (-101)) hx hb dX11_print_24 (by decide) ?_
  exact W.iret (v := (-101)) hx hb hr (fun t ht hW => ⟨⟨(-101), (), rfl, rfl, kB_mk ht hW hP hK hD⟩, hS.F ht⟩) hS.2.2 dX11_print_26
